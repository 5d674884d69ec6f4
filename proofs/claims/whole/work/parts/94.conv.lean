section CONV
variable {x y b0 s0 np na nm nr ne : Nat} {g : Nat → Nat → Nat} {m m2 : Nat → Nat} {h h1 : Hp}
theorem gaL_mz (hm : ∀ k, ¬ k = 0 → m2 k = m k) (h : Hp) : gaL h m2 = gaL h m := by
  funext na u k q
  have eP : gaP h m2 k = gaP h m k := by
    funext q b
    unfold gaP stN
    rw [hm 132 (by decide), hm 133 (by decide), hm 134 (by decide), hm 141 (by decide), hm 202 (by decide)]
  induction q with
  | zero => rfl
  | succ q ih =>
    show gaL h m2 na u k q ++ (iF (aI h 121 (m2 121) q = nI u) (fL (gaP h m2 k q) na) []) = gaL h m na u k q ++ (iF (aI h 121 (m 121) q = nI u) (fL (gaP h m k q) na) [])
    rw [ih, hm 121 (by decide), eP]
theorem cdL_mz (hm : ∀ k, ¬ k = 0 → m2 k = m k) (h : Hp) : cdL h m2 = cdL h m := by
  funext na u np
  unfold cdL gnP
  rw [gaL_mz hm]
theorem cdM_mz (hm : ∀ k, ¬ k = 0 → m2 k = m k) (h : Hp) : cdM h m2 = cdM h m := by
  funext na u np j
  unfold cdM
  rw [gaL_mz hm, cdL_mz hm]
theorem mgF_mz (hm : ∀ k, ¬ k = 0 → m2 k = m k) (h : Hp) : mgF h m2 = mgF h m := by
  funext L i
  unfold mgF mcN
  rw [hm 135 (by decide)]
theorem vaF_mz (hm : ∀ k, ¬ k = 0 → m2 k = m k) (h : Hp) : vaF h m2 = vaF h m := by
  funext y np na L p k i
  unfold vaF
  rw [mgF_mz hm, hm 121 (by decide), hm 120 (by decide), hm 124 (by decide), hm 132 (by decide), hm 139 (by decide), hm 127 (by decide)]
theorem KEq_mz {p : Nat} {ro : Option Nat} {KP : List Nat → Nat → Prop} (hm : ∀ k, ¬ k = 0 → m2 k = m k) (hK : KEq h m y np na p ro KP) : KEq h m2 y np na p ro KP := by
  unfold KEq RKq tTT at hK ⊢
  rw [vaF_mz hm, hm 151 (by decide), hm 153 (by decide), hm 154 (by decide), hm 155 (by decide), hm 156 (by decide), hm 157 (by decide), hm 158 (by decide)]
  exact hK
theorem KEq_cc {p : Nat} {ro : Option Nat} {KP : List Nat → Nat → Prop} (hK : KEq h m y np na p ro KP) (e : AR m h1 h) (e0 : fI h1 1408 y = fI h 1408 y) : KEq h1 m y np na p ro KP := by
  unfold KEq RKq tTT at hK ⊢
  simp only [vaF_c e e0]
  rw [e 151 rfl, e 153 rfl, e 154 rfl, e 155 rfl, e 156 rfl, e 157 rfl, e 158 rfl]
  exact hK
theorem cdL_c (e : AR m h1 h) (na u np : Nat) : cdL h1 m na u np = cdL h m na u np := by
  unfold cdL
  have : gnP h1 m na u np = gnP h m na u np := by
    funext k
    unfold gnP
    rw [gaL_c e]
  rw [this]
theorem cdM_c (e : AR m h1 h) (na u np j : Nat) : cdM h1 m na u np j = cdM h m na u np j := by
  unfold cdM
  rw [cdL_c e, gaL_c e]
theorem eqU.mm (e : eqU h h1) (hl : hn h ≤ hn h1) : eqM h h1 := ⟨hl, fun f a q1 q2 => (e a q2).2.2.1 f (by omega), fun f a q1 q2 => (e a q2).2.2.2.1 f (by omega) (by omega), fun k a _ _ q => (e a q).2.2.2.2.1 k, fun k a _ _ q => (e a q).2.2.2.2.2.2 k, fun a q => (e a q).1, fun a q => (e a q).2.1⟩
theorem cl_hn {g : Nat → Nat → Nat} {pl n0 : Nat} {kp : Nat → Prop} {v : Nat → Int32} {M : Nat → List Nat} {h : Hp} : ∀ j, hn h ≤ hn (clH g x pl kp v M n0 h j) := by
  intro j
  induction j with
  | zero => exact Nat.le_refl _
  | succ j ih =>
    show hn h ≤ hn (clT g x pl (kp j) (v j) (M j) (n0 + cN kp j) (clH g x pl kp v M n0 h j))
    unfold clT
    by_cases c : kp j
    · rw [iF_y c, mg_hn]
      omega
    · rw [iF_n c, dr_hn]
      exact ih
end CONV
