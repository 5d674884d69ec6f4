theorem aI_tI_q {h : Hp} {k0 a0 j0 : Nat} {v : Int32} {k a q : Nat} (hq : ¬ q = j0) : aI (tI h k0 a0 j0 v) k a q = aI h k a q := by
  show u3 h.2.2.1 k0 a0 j0 v k a q = _
  unfold u3
  exact if_neg (fun w => hq w.2.2)
section VIR2
variable {x y b0 s0 np na nm nr ne : Nat} {g : Nat → Nat → Nat} {m : Nat → Nat} {h h1 : Hp}
/-- a group that is dropped, in both halves -/
theorem stepD (hJ : JA x y b0 s0 np na nm nr ne g m h) {p : Nat} (hpp : p < np) {L : List Nat} (hL : ∀ b, b ∈ L → b < na) (v : Int32) (k : Nat) : JA x y b0 s0 np na nm nr ne g m (rfT m y p False v L k na (clT g x (g 1 p) False v L na h)) := by
  have hG := hJ.2.2.2.1
  have hbd := hJ.2.2.1.2
  unfold rfT clT
  rw [iF_n (fun z => z), iF_n (fun z => z)]
  obtain ⟨p1, p2, p3, p4, p5, p6, p7⟩ := dr_fR (g := g) (pl := g 1 p) (L := L) (h := h) L.length
  have p8 := dr_kd g (g 1 p) L h L.length
  have p9 := dr_fI g (g 1 p) L h L.length
  have p10 := dr_hn g (g 1 p) L h L.length
  generalize drH g (g 1 p) L L.length h = P at *
  obtain ⟨l1, l2, l3, l4, l5, l6, l7, l8, l9⟩ := lkR_o 140 (m 140) (nI p) L P L.length
  have l10 := lkR_a 140 (m 140) (nI p) L P
  generalize lkR 140 (m 140) (nI p) L L.length P = F at *
  refine dropM_JA hJ hpp (L := L) ?q1 ?qi (l7.trans p3) (l1.trans p8) (l2.trans p6) (l5.trans p10) (l6.trans p4) (l3.trans p9) ?q8 (l8.trans p5) ?r8
  case q1 =>
    intro f hf
    rw [l4]
    exact p1 f hf
  case qi =>
    intro b hb
    rw [l4, p7]
    by_cases w : b ∈ L
    · rw [iF_y w]
      obtain ⟨t, t1, t2⟩ := mem_gD.mp w
      rw [iF_y ⟨t, t1, by rw [t2]⟩]
    · rw [iF_n w, iF_n]
      rintro ⟨t, t1, t2⟩
      refine w (mem_gD.mpr ⟨t, t1, ?_⟩)
      exact hG.as_in (by omega) _ _ (hL _ (gD_mem t1)) hb t2
  case q8 =>
    intro k2 hk
    rw [l9 k2 hk]
    exact congrFun p2 k2
  case r8 =>
    rw [l10, p2]
theorem lkH_cg {g g1 : Nat → Nat → Nat} {A N : Nat} {L : List Nat} (e : ∀ t, t < L.length → g1 3 (L.getD t 0) = g 3 (L.getD t 0)) (h : Hp) : ∀ i, i ≤ L.length → lkH g1 A N L i h = lkH g A N L i h := by
  intro i
  induction i with
  | zero => intro _; rfl
  | succ i ih =>
    intro hi
    show sR (tR (lkH g1 A N L i h) 420 A i (some (g1 3 (L.getD i 0)))) 15 (g1 3 (L.getD i 0)) (some N) = _
    rw [ih (by omega), e i (by omega)]
    rfl
theorem drH_cg {g g1 : Nat → Nat → Nat} {pl : Nat} {L : List Nat} (e : ∀ t, t < L.length → g1 3 (L.getD t 0) = g 3 (L.getD t 0)) (h : Hp) : ∀ i, i ≤ L.length → drH g1 pl L i h = drH g pl L i h := by
  intro i
  induction i with
  | zero => intro _; rfl
  | succ i ih =>
    intro hi
    show sR (drH g1 pl L i h) 16 (g1 3 (L.getD i 0)) (some pl) = _
    rw [ih (by omega), e i (by omega)]
    rfl
theorem clT_cg {g g1 : Nat → Nat → Nat} {L : List Nat} (l0 : 0 < L.length) (e : ∀ t, t < L.length → g1 3 (L.getD t 0) = g 3 (L.getD t 0)) (e0 : g1 0 = g 0) (x pl : Nat) (kp : Prop) (v : Int32) (n : Nat) (h : Hp) : clT g1 x pl kp v L n h = clT g x pl kp v L n h := by
  unfold clT mgH
  rw [drH_cg e h L.length (Nat.le_refl _), lkH_cg e _ L.length (Nat.le_refl _), e 0 l0, e0]
  rw [show acI (fun i => fI h 7 (g1 3 (L.getD i 0))) L.length = acI (fun i => fI h 7 (g 3 (L.getD i 0))) L.length from acI_congr (fun i hi => by rw [e i hi])]
theorem rf_old {p : Nat} {kp : Prop} {v : Int32} {L : List Nat} {k n : Nat} {k2 a q : Nat} (h1 : ¬ k2 = 139) (h2 : ¬ k2 = 140) (hq : ¬ q = n) : aI (rfT m y p kp v L k n h) k2 a q = aI h k2 a q := by
  unfold rfT
  by_cases c : kp
  · rw [iF_y c, (lkR_o 139 (m 139) (nI n) L _ L.length).2.2.2.2.2.2.2.2 k2 h1]
    unfold psR
    show aI (tI (tI (tI (tI (tI (tI (tI (tI (tI (tI (tI (tI h 132 (m 132) n (nI p)) 133 (m 133) n (nI (k / 8))) 134 (m 134) n (nI (k % 8))) 135 (m 135) n v) 136 (m 136) n (fI h 1408 y)) 137 (m 137) n 2) 138 (m 138) n (-1)) 139 (m 139) n (-1)) 140 (m 140) n (-1)) 141 (m 141) n (-1)) 142 (m 142) n (-1)) 201 (m 201) n 0) k2 a q = _
    rw [aI_tI_q hq, aI_tI_q hq, aI_tI_q hq, aI_tI_q hq, aI_tI_q hq, aI_tI_q hq, aI_tI_q hq, aI_tI_q hq, aI_tI_q hq, aI_tI_q hq, aI_tI_q hq, aI_tI_q hq]
  · rw [iF_n c, (lkR_o 140 (m 140) (nI p) L h L.length).2.2.2.2.2.2.2.2 k2 h2]
theorem rf_out {p : Nat} {kp : Prop} {v : Int32} {L : List Nat} {k n : Nat} {k2 : Nat} (hk : k2 < 132 ∨ 142 < k2 ∧ k2 ≠ 201) : aI (rfT m y p kp v L k n h) k2 = aI h k2 := by
  unfold rfT
  by_cases c : kp
  · rw [iF_y c, (lkR_o 139 (m 139) (nI n) L _ L.length).2.2.2.2.2.2.2.2 k2 (by omega), psR_o _ _ _ _ _ _ _ _ _ hk]
  · rw [iF_n c, (lkR_o 140 (m 140) (nI p) L h L.length).2.2.2.2.2.2.2.2 k2 (by omega)]
theorem rf_new {p : Nat} {kp : Prop} (c : kp) {v : Int32} {L : List Nat} {k n : Nat} : aI (rfT m y p kp v L k n h) 132 (m 132) n = nI p ∧ aI (rfT m y p kp v L k n h) 133 (m 133) n = nI (k / 8) ∧ aI (rfT m y p kp v L k n h) 134 (m 134) n = nI (k % 8) := by
  unfold rfT
  rw [iF_y c]
  have o := (lkR_o 139 (m 139) (nI n) L (psR m y n p (nI (k / 8)) (nI (k % 8)) v (fI h 1408 y) h) L.length).2.2.2.2.2.2.2.2
  rw [o 132 (by decide), o 133 (by decide), o 134 (by decide)]
  unfold psR
  simp (config := {decide := true}) only [fR_sI, aI_sI, aL_sI, aR_sI, kd_sI, ln_sI, hn_sI, hm_sI, fI_sI_n, fI_sR, aI_sR, aL_sR, aR_sR, kd_sR, ln_sR, hn_sR, hm_sR, fR_sR_n, fI_tI, fR_tI, aL_tI, aR_tI, kd_tI, ln_tI, hn_tI, hm_tI, aI_tI_n, fI_tL, fR_tL, aI_tL, aR_tL, kd_tL, ln_tL, hn_tL, hm_tL, aL_tL_n, fI_tR, fR_tR, aI_tR, aL_tR, kd_tR, ln_tR, hn_tR, hm_tR, aR_tR_n, hn_nw, hm_nw, fI_sI_e, fR_sR_e, aI_tI_e, aL_tL_e, aR_tR_e, true_and, and_self, if_true]
theorem rf_139 {p : Nat} {kp : Prop} {v : Int32} {L : List Nat} {k n q : Nat} (hL : ¬ q ∈ L) (hq : ¬ q = n) : aI (rfT m y p kp v L k n h) 139 (m 139) q = aI h 139 (m 139) q := by
  unfold rfT
  by_cases c : kp
  · rw [iF_y c, lkR_a]
    show iF (q ∈ L) _ _ = _
    rw [iF_n hL]
    unfold psR
    show aI (tI (tI (tI (tI (tI (tI (tI (tI (tI (tI (tI (tI h 132 (m 132) n (nI p)) 133 (m 133) n (nI (k / 8))) 134 (m 134) n (nI (k % 8))) 135 (m 135) n v) 136 (m 136) n (fI h 1408 y)) 137 (m 137) n 2) 138 (m 138) n (-1)) 139 (m 139) n (-1)) 140 (m 140) n (-1)) 141 (m 141) n (-1)) 142 (m 142) n (-1)) 201 (m 201) n 0) 139 (m 139) q = _
    rw [aI_tI_q hq, aI_tI_q hq, aI_tI_q hq, aI_tI_q hq, aI_tI_q hq, aI_tI_q hq, aI_tI_q hq, aI_tI_q hq, aI_tI_q hq, aI_tI_q hq, aI_tI_q hq, aI_tI_q hq]
  · rw [iF_n c, (lkR_o 140 (m 140) (nI p) L h L.length).2.2.2.2.2.2.2.2 139 (by decide)]
theorem eqU_cl {g : Nat → Nat → Nat} {x pl : Nat} {h : Hp} (hz : ∀ a, hn h ≤ a → kd h a = 0) (kp : Prop) (v : Int32) (L : List Nat) (n : Nat) : eqU h (clT g x pl kp v L n h) := by
  unfold clT
  by_cases c : kp
  · rw [iF_y c]
    exact eqU_mg hz _ _ _ _ _ _ _ _
  · rw [iF_n c]
    exact eqU_dr (eqU.rf h) _
/-- the groups of a place are as they were, when a turn is done -/
theorem gaL_st {V G F : Hp} {p n : Nat} {kp : Prop} {v : Int32} {L : List Nat} {k : Nat} (hVG : ∀ k, isRk k = true → aI G k (m k) = aI V k (m k)) (hF : F = rfT m y p kp v L k n G) (hnp : np ≤ 24) (hp : p < np) (hu : ¬ aI V 121 (m 121) p = nI p) (k' : Nat) : ∀ q, q ≤ np → gaL F m (n + cN (fun _ => kp) 1) p k' q = gaL V m n p k' q := by
  have e2 := hVG 132 rfl
  have e3 := hVG 133 rfl
  have e4 := hVG 134 rfl
  have e5 := hVG 141 rfl
  have e6 := hVG 202 rfl
  have e1 : aI F 121 (m 121) = aI V 121 (m 121) := by
    rw [hF, rf_out (Or.inl (by decide))]
    exact hVG 121 rfl
  have eP : ∀ q b, b < n → (gaP F m k' q b ↔ gaP V m k' q b) := by
    intro q b hb
    have nb : ¬ b = n := by omega
    unfold gaP stN
    rw [hF, rf_old (by decide) (by decide) nb, rf_old (by decide) (by decide) nb, rf_old (by decide) (by decide) nb, rf_old (by decide) (by decide) nb, rf_old (by decide) (by decide) nb, e2, e3, e4, e5, e6]
  intro q
  induction q with
  | zero => intro _; rfl
  | succ q ih =>
    intro hq
    show gaL F m (n + cN (fun _ => kp) 1) p k' q ++ (iF (aI F 121 (m 121) q = nI p) (fL (gaP F m k' q) (n + cN (fun _ => kp) 1)) []) = gaL V m n p k' q ++ (iF (aI V 121 (m 121) q = nI p) (fL (gaP V m k' q) n) [])
    rw [ih (by omega), e1]
    congr 1
    by_cases w : aI V 121 (m 121) q = nI p
    · rw [iF_y w, iF_y w]
      by_cases c : kp
      · rw [cN_y (P := fun _ => kp) c]
        have no : ¬ gaP F m k' q n := by
          intro z
          have z1 := z.1
          rw [hF, (rf_new c).1] at z1
          have := (nI_eq (by omega) (by omega)).mp z1
          rw [← this] at w
          exact hu w
        show fL (gaP F m k' q) (n + 1) = _
        rw [fL_n no]
        exact fL_cg (fun b hb => eP q b hb)
      · rw [cN_n (P := fun _ => kp) c]
        exact fL_cg (fun b hb => eP q b hb)
    · rw [iF_n w, iF_n w]
end VIR2
