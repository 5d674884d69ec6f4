abbrev isRk := isRq
theorem JM.rk {y : Nat} {m : Nat → Nat} {h : Hp} (hM : JM y m h) {k : Nat} (hk : isRk k = true) : kd h (m k) ≠ 0 := by
  have hA := hM
  unfold JM at hA
  have c : k = 120 ∨ k = 121 ∨ k = 122 ∨ k = 123 ∨ k = 124 ∨ k = 125 ∨ k = 126 ∨ k = 127 ∨ k = 128 ∨ k = 129 ∨ k = 130 ∨ k = 131 ∨ k = 132 ∨ k = 133 ∨ k = 134 ∨ k = 135 ∨ k = 136 ∨ k = 137 ∨ k = 138 ∨ k = 139 ∨ k = 140 ∨ k = 141 ∨ k = 142 ∨ k = 143 ∨ k = 144 ∨ k = 145 ∨ k = 146 ∨ k = 147 ∨ k = 148 ∨ k = 149 ∨ k = 150 ∨ k = 151 ∨ k = 152 ∨ k = 153 ∨ k = 154 ∨ k = 155 ∨ k = 156 ∨ k = 157 ∨ k = 158 ∨ k = 159 ∨ k = 160 ∨ k = 161 ∨ k = 168 ∨ k = 200 ∨ k = 201 ∨ k = 202 ∨ k = 203 ∨ k = 204 := by
    unfold isRk isRq at hk
    simp at hk
    omega
  rcases c with rfl | rfl | rfl | rfl | rfl | rfl | rfl | rfl | rfl | rfl | rfl | rfl | rfl | rfl | rfl | rfl | rfl | rfl | rfl | rfl | rfl | rfl | rfl | rfl | rfl | rfl | rfl | rfl | rfl | rfl | rfl | rfl | rfl | rfl | rfl | rfl | rfl | rfl | rfl | rfl | rfl | rfl | rfl | rfl | rfl | rfl | rfl | rfl <;> simp only [hA] <;> decide
section VIRT
variable {x y b0 s0 np na nm nr ne : Nat} {g : Nat → Nat → Nat} {m : Nat → Nat} {h h1 : Hp}
theorem gaL_c (e : ∀ k, isRk k = true → aI h1 k (m k) = aI h k (m k)) (na u k : Nat) : ∀ q, gaL h1 m na u k q = gaL h m na u k q := by
  have e1 := e 121 rfl
  have e2 := e 132 rfl
  have e3 := e 133 rfl
  have e4 := e 134 rfl
  have e5 := e 141 rfl
  have e6 := e 202 rfl
  have eP : gaP h1 m k = gaP h m k := by
    funext q b
    unfold gaP stN
    rw [e2, e3, e4, e5, e6]
  intro q
  induction q with
  | zero => rfl
  | succ q ih =>
    show gaL h1 m na u k q ++ (iF (aI h1 121 (m 121) q = nI u) (fL (gaP h1 m k q) na) []) = gaL h m na u k q ++ (iF (aI h 121 (m 121) q = nI u) (fL (gaP h m k q) na) [])
    rw [ih, e1, eP]
theorem psR_o (m : Nat → Nat) (y n p : Nat) (c d v now : Int32) (h : Hp) {k : Nat} (hk : k < 132 ∨ 142 < k ∧ k ≠ 201) : aI (psR m y n p c d v now h) k = aI h k := by
  unfold psR
  show aI (tI (tI (tI (tI (tI (tI (tI (tI (tI (tI (tI (tI h 132 (m 132) n (nI p)) 133 (m 133) n c) 134 (m 134) n d) 135 (m 135) n v) 136 (m 136) n now) 137 (m 137) n 2) 138 (m 138) n (-1)) 139 (m 139) n (-1)) 140 (m 140) n (-1)) 141 (m 141) n (-1)) 142 (m 142) n (-1)) 201 (m 201) n 0) k = _
  rw [aI_tI_n _ _ _ _ _ _ (by omega), aI_tI_n _ _ _ _ _ _ (by omega), aI_tI_n _ _ _ _ _ _ (by omega), aI_tI_n _ _ _ _ _ _ (by omega), aI_tI_n _ _ _ _ _ _ (by omega), aI_tI_n _ _ _ _ _ _ (by omega), aI_tI_n _ _ _ _ _ _ (by omega), aI_tI_n _ _ _ _ _ _ (by omega), aI_tI_n _ _ _ _ _ _ (by omega), aI_tI_n _ _ _ _ _ _ (by omega), aI_tI_n _ _ _ _ _ _ (by omega), aI_tI_n _ _ _ _ _ _ (by omega)]
theorem eqO_mk {h : Hp} (hz : ∀ a, hn h ≤ a → kd h a = 0) (na pl : Nat) (c d v now hs : Int32) (n : Nat) : eqO h (mkH h na pl c d v now hs n) := by
  have z := hz _ (Nat.le_refl _)
  refine eqO.nw ((((((((((((eqO.rf h).nw z 1 19).sI z _ _).sI z _ _).sI z _ _).sI z _ _).sR z _ _).sI z _ _).sI z _ _).sI z _ _).sI z _ _).sI z _ _) ?_ 420 n
  show kd (nw h 1 19) (hn h + 1) = 0
  rw [kd_nw_o _ _ _ _ (by omega)]
  exact hz _ (by omega)
theorem mk_f (h : Hp) (na pl : Nat) (c d v now hs : Int32) (n : Nat) : (kd (mkH h na pl c d v now hs n) (hn h) = 1 ∧ kd (mkH h na pl c d v now hs n) (hn h + 1) = 420 ∧ ln (mkH h na pl c d v now hs n) (hn h + 1) = n ∧ hn (mkH h na pl c d v now hs n) = hn h + 2 ∧ hm (mkH h na pl c d v now hs n) = hm h + 19 + n) ∧ (fI (mkH h na pl c d v now hs n) 0 (hn h) = nI na ∧ fR (mkH h na pl c d v now hs n) 1 (hn h) = some pl ∧ fI (mkH h na pl c d v now hs n) 2 (hn h) = c ∧ fI (mkH h na pl c d v now hs n) 3 (hn h) = d ∧ fI (mkH h na pl c d v now hs n) 4 (hn h) = v ∧ fI (mkH h na pl c d v now hs n) 5 (hn h) = now ∧ fI (mkH h na pl c d v now hs n) 6 (hn h) = 2 ∧ fI (mkH h na pl c d v now hs n) 7 (hn h) = hs) ∧ (fR (mkH h na pl c d v now hs n) 8 (hn h) = none ∧ fR (mkH h na pl c d v now hs n) 10 (hn h) = none ∧ fI (mkH h na pl c d v now hs n) 11 (hn h) = 0 ∧ fI (mkH h na pl c d v now hs n) 12 (hn h) = 0 ∧ fI (mkH h na pl c d v now hs n) 13 (hn h) = 0 ∧ fI (mkH h na pl c d v now hs n) 14 (hn h) = -1 ∧ fR (mkH h na pl c d v now hs n) 15 (hn h) = none ∧ fR (mkH h na pl c d v now hs n) 16 (hn h) = none ∧ fI (mkH h na pl c d v now hs n) 17 (hn h) = 0 ∧ fI (mkH h na pl c d v now hs n) 18 (hn h) = -1) := by
  unfold mkH
  have e1 : hn (sI (sI (sI (sI (sI (sR (sI (sI (sI (sI (nw h 1 19) 14 (hn h) (-1)) 18 (hn h) (-1)) 0 (hn h) (nI na)) 6 (hn h) 2) 1 (hn h) (some pl)) 2 (hn h) c) 3 (hn h) d) 4 (hn h) v) 5 (hn h) now) 7 (hn h) hs) = hn h + 1 := rfl
  have e2 : hm (sI (sI (sI (sI (sI (sR (sI (sI (sI (sI (nw h 1 19) 14 (hn h) (-1)) 18 (hn h) (-1)) 0 (hn h) (nI na)) 6 (hn h) 2) 1 (hn h) (some pl)) 2 (hn h) c) 3 (hn h) d) 4 (hn h) v) 5 (hn h) now) 7 (hn h) hs) = hm h + 19 := rfl
  have ne : ¬ hn h = hn h + 1 := by omega
  refine ⟨⟨?_, ?_, ?_, ?_, ?_⟩, ⟨?_, ?_, ?_, ?_, ?_, ?_, ?_, ?_⟩, ?_, ?_, ?_, ?_, ?_, ?_, ?_, ?_, ?_, ?_⟩ <;> simp (config := {decide := true}) only [fR_sI, aI_sI, aL_sI, aR_sI, kd_sI, ln_sI, hn_sI, hm_sI, fI_sI_n, fI_sR, aI_sR, aL_sR, aR_sR, kd_sR, ln_sR, hn_sR, hm_sR, fR_sR_n, fI_tI, fR_tI, aL_tI, aR_tI, kd_tI, ln_tI, hn_tI, hm_tI, aI_tI_n, fI_tL, fR_tL, aI_tL, aR_tL, kd_tL, ln_tL, hn_tL, hm_tL, aL_tL_n, fI_tR, fR_tR, aI_tR, aL_tR, kd_tR, ln_tR, hn_tR, hm_tR, aR_tR_n, hn_nw, hm_nw, fI_sI_e, fR_sR_e, aI_tI_e, aL_tL_e, aR_tR_e, kd_nw, ln_nw, fI_nw, fR_nw, hn_nw, hm_nw, ne, if_true, if_false]
/-- a group that is kept, in both halves -/
theorem stepK (hJ : JA x y b0 s0 np na nm nr ne g m h) (hna : na < 160) {p : Nat} (hpp : p < np) (hlv : ¬ aI h 120 (m 120) p = 0) (hm0 : p = m 0) {k : Nat} (hk : k < 128) {L : List Nat} (hL : gaL h m na p k np = L) (hL0 : ¬ L = []) (hL1 : ∀ b, b ∈ L → aI h 139 (m 139) b = -1) (hone : ∀ i, i < na → aI h 132 (m 132) i = nI p → aI h 133 (m 133) i = nI (k / 8) → aI h 134 (m 134) i = nI (k % 8) → ¬ aI h 141 (m 141) i = -1) {v : Int32} (hv : 0 ≤ v.toInt ∧ v.toInt ≤ 99) : JA x y b0 s0 np (na + 1) nm nr ne (upG (upG g 3 na (hn h)) 10 na (hn h + 1)) m (rfT m y p True v L k na (clT g x (g 1 p) True v L na h)) := by
  have hA := hJ.1
  unfold JM at hA
  have hB := hJ.2.1
  unfold JS at hB
  have hC := hJ.2.2.1.1
  have hG := hJ.2.2.2.1
  have hD := hJ.2.2.2.2.1
  have hW := hJ.2.2.2.2.2.1
  have hE := hJ.2.2.2.2.2.2.1
  have hbd := hJ.2.2.1.2
  have hR := hJ.2.2.2.2.2.2.2
  have hz0 := hR.1
  have hz : kd h (hn h) = 0 := hz0 _ (Nat.le_refl _)
  have l0 : 0 < L.length := List.length_pos_iff.mpr hL0
  have ll : L.length ≤ 24 := by
    have := gaL_len hW p k np
    rw [hL] at this
    omega
  have mem : ∀ b, b ∈ L → b < na ∧ codN h m b = k ∧ stN h m b := fun b hb => ga_m hW hk (by rw [hL]; exact hb)
  obtain ⟨m1, m2, m3⟩ := mem _ (gD_mem (L := L) l0)
  have w8 : wmN h m (L.getD 0 0) < 8 := vp_lt2 (hW.w_who _ m1)
  have ec : fI h 2 (g 3 (L.getD 0 0)) = nI (k / 8) := by
    rw [hD.d_wha _ m1, vp_nN (hW.w_wha _ m1)]
    have : whN h m (L.getD 0 0) = k / 8 := by
      unfold codN at m2
      omega
    exact congrArg nI this
  have ed : fI h 3 (g 3 (L.getD 0 0)) = nI (k % 8) := by
    rw [hD.d_who _ m1, vp_nN (hW.w_who _ m1)]
    have : wmN h m (L.getD 0 0) = k % 8 := by
      unfold codN at m2
      omega
    exact congrArg nI this
  have enow : fI h 1297 x = fI h 1408 y := hC.2.2.2.2.2.2.2.2.2.2.1
  unfold rfT clT
  rw [iF_y trivial, iF_y trivial, ec, ed, enow]
  have nl : ∀ a, kd h a ≠ 0 → ¬ a = hn h := fun a q e => q (by rw [e]; exact hz)
  have nl2 : ∀ a, kd h a ≠ 0 → ¬ a = hn h + 1 := fun a q e => q (by rw [e]; exact hz0 _ (by omega))
  have k3 : ∀ b, b < na → kd h (g 3 b) ≠ 0 := fun b hb => by rw [hG.as_kd b hb]; decide
  generalize hhs : acI (fun i => fI h 7 (g 3 (L.getD i 0))) L.length = hs
  -- what is made beside
  have eU := eqU_mk hz0 na (g 1 p) (nI (k / 8)) (nI (k % 8)) v (fI h 1408 y) hs L.length
  have hnow : ∀ X : Hp, eqU h X → fI X 1408 y = fI h 1408 y := fun X e => (e y (by simp only [hA]; decide)).2.2.1 1408 (by decide)
  have eG := eqU_mg (g := g) (x := x) hz0 na (g 1 p) (nI (k / 8)) (nI (k % 8)) v (fI h 1408 y) hs L
  rw [hnow _ eG]
  have kzM := mk_kz hz0 na (g 1 p) (nI (k / 8)) (nI (k % 8)) v (fI h 1408 y) hs L.length
  have eO := eqO_mk hz0 na (g 1 p) (nI (k / 8)) (nI (k % 8)) v (fI h 1408 y) hs L.length
  obtain ⟨⟨a1, a2, a3, a4, a5⟩, ⟨b0', b1, b2, b3, b4, b5, b6, b7⟩, c8, c10, c11, c12, c13, c14, c15, c16, c17, c18⟩ := mk_f h na (g 1 p) (nI (k / 8)) (nI (k % 8)) v (fI h 1408 y) hs L.length
  unfold mgH
  generalize mkH h na (g 1 p) (nI (k / 8)) (nI (k % 8)) v (fI h 1408 y) hs L.length = M at *
  have eE : eqO h (sR M 9 (hn h) (some (hn h + 1))) := eO.sR hz 9 _
  have kzE : ∀ a, hn (sR M 9 (hn h) (some (hn h + 1))) ≤ a → kd (sR M 9 (hn h) (some (hn h + 1))) a = 0 := by
    intro a ha
    refine kzM a ?_
    have : hn M ≤ a := ha
    omega
  have hJE := hJ.ext eE 2 (19 + L.length) kzE (by
    show hn M ≤ _
    omega) (by
    show hm M ≤ _
    omega)
  have aE : ∀ k2 a, kd h a ≠ 0 → aI (sR M 9 (hn h) (some (hn h + 1))) k2 a = aI h k2 a := eE.2.2.1
  have gE : gaL (sR M 9 (hn h) (some (hn h + 1))) m na p k np = L := by
    rw [gaL_c (h := h) (h1 := sR M 9 (hn h) (some (hn h + 1))) (fun k2 q1 => aE k2 (m k2) (hJ.1.rk q1))]
    exact hL
  have z120 := aE 120 (m 120) (hJ.1.rk rfl)
  have z132 := aE 132 (m 132) (hJ.1.rk rfl)
  have z133 := aE 133 (m 133) (hJ.1.rk rfl)
  have z134 := aE 134 (m 134) (hJ.1.rk rfl)
  have z139 := aE 139 (m 139) (hJ.1.rk rfl)
  have z141 := aE 141 (m 141) (hJ.1.rk rfl)
  have n1408 : fI M 1408 y = fI h 1408 y := hnow M eU
  generalize hP : lkH g (hn h + 1) (hn h) L L.length M = P
  obtain ⟨p1, p2, p3, p4, p5, p6, p7, p8⟩ := lk_fR (g := g) (A := hn h + 1) (N := hn h) (L := L) (h := M) L.length
  have p9 := lk_kd g (hn h + 1) (hn h) L M L.length
  have p10 := lk_ln g (hn h + 1) (hn h) L M L.length
  have p11 := lk_fI g (hn h + 1) (hn h) L M L.length
  have p12 := lk_hn g (hn h + 1) (hn h) L M L.length
  rw [hP] at p1 p2 p3 p4 p5 p6 p7 p8 p9 p10 p11 p12
  clear hP
  generalize hG0 : sI (tR (sR P 9 (hn h) (some (hn h + 1))) 440 (g 0 2) na (some (hn h))) 1293 x (nI (na + 1)) = G
  have g1 : ∀ f, f ≠ 15 → fR G f = fR (sR M 9 (hn h) (some (hn h + 1))) f := by
    intro f hf
    rw [← hG0]
    funext a
    show u2 P.2.1 9 (hn h) (some (hn h + 1)) f a = u2 M.2.1 9 (hn h) (some (hn h + 1)) f a
    unfold u2
    split
    · rfl
    · exact congrFun (p1 f hf) a
  have g2 : ∀ a, fR G 15 a = fR P 15 a := by
    intro a
    rw [← hG0]
    simp (config := {decide := true}) only [fR_sI, aI_sI, aL_sI, aR_sI, kd_sI, ln_sI, hn_sI, hm_sI, fI_sI_n, fI_sR, aI_sR, aL_sR, aR_sR, kd_sR, ln_sR, hn_sR, hm_sR, fR_sR_n, fI_tI, fR_tI, aL_tI, aR_tI, kd_tI, ln_tI, hn_tI, hm_tI, aI_tI_n, fI_tL, fR_tL, aI_tL, aR_tL, kd_tL, ln_tL, hn_tL, hm_tL, aL_tL_n, fI_tR, fR_tR, aI_tR, aL_tR, kd_tR, ln_tR, hn_tR, hm_tR, aR_tR_n, hn_nw, hm_nw]
  have g3 : aI G = aI M ∧ aL G = aL M ∧ kd G = kd M ∧ ln G = ln M ∧ hn G = hn M ∧ hm G = hm M := by
    rw [← hG0]
    exact ⟨p2, p3, p9, p10, p12, p4⟩
  have g4 : ∀ f, f ≠ 1293 → fI G f = fI M f := by
    intro f hf
    rw [← hG0, fI_sI_n _ _ _ _ _ hf]
    exact congrFun p11 f
  have g5 : fI G 1293 x = nI (na + 1) := by
    rw [← hG0]
    exact fI_s _ _ _ _
  have g6 : ∀ k2, k2 ≠ 440 → k2 ≠ 420 → aR G k2 = aR M k2 := by
    intro k2 q1 q2
    rw [← hG0]
    show aR (tR (sR P 9 (hn h) (some (hn h + 1))) 440 (g 0 2) na (some (hn h))) k2 = _
    rw [aR_tR_n _ _ _ _ _ _ q1]
    exact p5 k2 q2
  have g7 : aR G 420 = aR P 420 := by
    rw [← hG0]
    show aR (tR (sR P 9 (hn h) (some (hn h + 1))) 440 (g 0 2) na (some (hn h))) 420 = _
    rw [aR_tR_n _ _ _ _ _ _ (by decide)]
    rfl
  have g8 : aR G 440 (g 0 2) = fun q => if q = na then some (hn h) else aR M 440 (g 0 2) q := by
    rw [← hG0]
    funext q
    show aR (tR (sR P 9 (hn h) (some (hn h + 1))) 440 (g 0 2) na (some (hn h))) 440 (g 0 2) q = _
    rw [aR_tR_e]
    show (if _ then _ else aR P 440 (g 0 2) q) = _
    rw [p5 440 (by decide)]
    by_cases w : q = na
    · rw [if_pos ⟨rfl, w⟩, if_pos w]
    · rw [if_neg (fun z => w z.2), if_neg w]
  clear hG0
  generalize hR0 : psR m y na p (nI (k / 8)) (nI (k % 8)) v (fI h 1408 y) G = R
  have sR1 : fR R = fR G ∧ aL R = aL G ∧ kd R = kd G ∧ ln R = ln G ∧ hn R = hn G ∧ hm R = hm G ∧ aR R = aR G := by
    rw [← hR0]
    exact ⟨rfl, rfl, rfl, rfl, rfl, rfl, rfl⟩
  have sR2 : ∀ f, f ≠ 1410 → fI R f = fI G f := by
    intro f hf
    rw [← hR0]
    unfold psR
    rw [fI_sI_n _ _ _ _ _ hf]
    rfl
  have sR3 : fI R 1410 y = nI (na + 1) := by
    rw [← hR0]
    exact fI_s _ _ _ _
  have sR4 : ∀ k2, (k2 < 132 ∨ 142 < k2 ∧ k2 ≠ 201) → aI R k2 = aI G k2 := by
    intro k2 q1
    rw [← hR0]
    exact psR_o _ _ _ _ _ _ _ _ _ q1
  have sR5 : ∀ q, aI R 132 (m 132) q = (if q = na then nI p else aI G 132 (m 132) q) ∧ aI R 133 (m 133) q = (if q = na then nI (k / 8) else aI G 133 (m 133) q) ∧ aI R 134 (m 134) q = (if q = na then nI (k % 8) else aI G 134 (m 134) q) ∧ aI R 135 (m 135) q = (if q = na then v else aI G 135 (m 135) q) ∧ aI R 136 (m 136) q = (if q = na then fI h 1408 y else aI G 136 (m 136) q) ∧ aI R 137 (m 137) q = (if q = na then 2 else aI G 137 (m 137) q) ∧ aI R 138 (m 138) q = (if q = na then -1 else aI G 138 (m 138) q) ∧ aI R 139 (m 139) q = (if q = na then -1 else aI G 139 (m 139) q) ∧ aI R 140 (m 140) q = (if q = na then -1 else aI G 140 (m 140) q) ∧ aI R 141 (m 141) q = (if q = na then -1 else aI G 141 (m 141) q) ∧ aI R 142 (m 142) q = (if q = na then -1 else aI G 142 (m 142) q) ∧ aI R 201 (m 201) q = (if q = na then 0 else aI G 201 (m 201) q) := by
    intro q
    rw [← hR0]
    unfold psR
    simp (config := {decide := true}) only [fR_sI, aI_sI, aL_sI, aR_sI, kd_sI, ln_sI, hn_sI, hm_sI, fI_sI_n, fI_sR, aI_sR, aL_sR, aR_sR, kd_sR, ln_sR, hn_sR, hm_sR, fR_sR_n, fI_tI, fR_tI, aL_tI, aR_tI, kd_tI, ln_tI, hn_tI, hm_tI, aI_tI_n, fI_tL, fR_tL, aI_tL, aR_tL, kd_tL, ln_tL, hn_tL, hm_tL, aL_tL_n, fI_tR, fR_tR, aI_tR, aL_tR, kd_tR, ln_tR, hn_tR, hm_tR, aR_tR_n, hn_nw, hm_nw, fI_sI_e, fR_sR_e, aI_tI_e, aL_tL_e, aR_tR_e, true_and, and_self]
  clear hR0
  obtain ⟨l1, l2, l3, l4, l5, l6, l7, l8, l9⟩ := lkR_o 139 (m 139) (nI na) L R L.length
  have l10 := lkR_a 139 (m 139) (nI na) L R
  generalize lkR 139 (m 139) (nI na) L L.length R = F at *
  have aEM : ∀ k2, aI (sR M 9 (hn h) (some (hn h + 1))) k2 = aI M k2 := fun _ => rfl
  have key := growM_JA (E := sR M 9 (hn h) (some (hn h + 1))) (F := F) (N := hn h) (A := hn h + 1) (b0 := b0) (s0 := s0) (b1 := b0 + 2) (s1 := s0 + (19 + L.length)) (p := p) (k := k) (c := nI (k / 8)) (d := nI (k % 8)) (v := v) hJE hna hpp (by rw [z120]; exact hlv) (Or.inr hm0) (cd8 hk).2.2.2.1 (cd8 hk).2.2.2.2 hv (by rw [z132, z133, z134, z141]; exact hone)
  rw [gE] at key
  refine key hL0 (by rw [z139]; exact hL1) a1 a2 a3 ?k4 b0' ?f1 b2 b3 b4 ?f5 b6 ?f7 ?f8 ?f9 ?f10 c11 c12 c13 c14 ?f15 ?f16 c17 c18 ?q1 ?qi ?q2 ?q3 ?q4 ?q5 ?q6 ?q7 ?q8 ?q9 ?qa ?qb ?hA ?p1 ?p2 ?p5 ?r0 ?r1 ?r2 ?r3 ?r4 ?r5 ?r6 ?r7 ?r8 ?r9 ?r10 ?r12 kzE ?rr1 ?rr2
  case k4 =>
    intro i hi
    rw [l8, sR1.2.2.2.2.2.2, g7]
    exact p7 i hi
  case f1 =>
    rw [fR_sR_n _ _ _ _ _ (by decide)]
    exact b1
  case f5 => exact b5.trans n1408.symm
  case f7 =>
    refine b7.trans ?_
    rw [← hhs]
    apply acI_congr
    intro i hi
    exact (eO.1 7 _ (k3 _ (mem _ (gD_mem hi)).1)).symm
  case f8 =>
    rw [fR_sR_n _ _ _ _ _ (by decide)]
    exact c8
  case f9 => rw [fR_sR_e, if_pos rfl]
  case f10 =>
    rw [fR_sR_n _ _ _ _ _ (by decide)]
    exact c10
  case f15 =>
    rw [l4, sR1.1, g2, p8, iF_n]
    · exact c15
    · rintro ⟨t, t1, t2⟩
      exact nl _ (k3 _ (mem _ (gD_mem t1)).1) t2
  case f16 =>
    rw [fR_sR_n _ _ _ _ _ (by decide)]
    exact c16
  case q1 =>
    intro f hf
    rw [l4, sR1.1]
    exact g1 f hf
  case qi =>
    intro b hb
    rw [l4, sR1.1, g2, p8, fR_sR_n _ _ _ _ _ (by decide)]
    by_cases w : b ∈ L
    · rw [iF_y w]
      obtain ⟨t, t1, t2⟩ := mem_gD.mp w
      rw [iF_y ⟨t, t1, by rw [t2]⟩]
    · rw [iF_n w, iF_n]
      rintro ⟨t, t1, t2⟩
      refine w (mem_gD.mpr ⟨t, t1, ?_⟩)
      exact hG.as_in (by omega) _ _ (mem _ (gD_mem t1)).1 hb t2
  case q2 => exact l7.trans (sR1.2.1.trans g3.2.1)
  case q3 => exact l1.trans (sR1.2.2.1.trans g3.2.2.1)
  case q4 => exact l2.trans (sR1.2.2.2.1.trans g3.2.2.2.1)
  case q5 => exact l5.trans (sR1.2.2.2.2.1.trans g3.2.2.2.2.1)
  case q6 => exact l6.trans (sR1.2.2.2.2.2.1.trans g3.2.2.2.2.2)
  case q7 =>
    intro f h1 h2
    rw [l3, sR2 f h2]
    exact g4 f h1
  case q8 =>
    intro k2 h1
    rw [l9 k2 (by omega), sR4 k2 (Or.inl h1)]
    exact congrFun g3.1 k2
  case q9 =>
    intro k2 h1 h2
    rw [l9 k2 (by omega), sR4 k2 (Or.inr ⟨h1, h2⟩)]
    exact congrFun g3.1 k2
  case qa =>
    intro k2 h1 h2
    rw [l8, sR1.2.2.2.2.2.2]
    exact g6 k2 h1 h2
  case qb =>
    intro a ha
    rw [l8, sR1.2.2.2.2.2.2, g7]
    exact p6 a ha
  case hA =>
    intro a ha w e
    rw [z120, z132] at w
    have := (hE.e_pa a ha w).2.1
    rw [e, hz0 _ (by omega)] at this
    exact absurd this (by decide)
  case p1 =>
    rw [l3, sR2 _ (by decide)]
    exact g5
  case p2 =>
    rw [l3]
    exact sR3
  case p5 =>
    rw [l8, sR1.2.2.2.2.2.2]
    exact g8
  case r7 =>
    rw [l10]
    funext q
    show iF (q ∈ L) (nI na) (aI R 139 (m 139) q) = if q = na then -1 else iF (q ∈ L) (nI na) (aI M 139 (m 139) q)
    rw [(sR5 q).2.2.2.2.2.2.2.1, g3.1]
    by_cases w : q = na
    · rw [if_pos w, if_pos w, iF_n]
      intro z
      have := (mem q z).1
      omega
    · rw [if_neg w, if_neg w]
  case r0 =>
    funext q
    rw [l9 132 (by decide), (sR5 q).1, g3.1]
    rfl
  case r1 =>
    funext q
    rw [l9 133 (by decide), (sR5 q).2.1, g3.1]
    rfl
  case r2 =>
    funext q
    rw [l9 134 (by decide), (sR5 q).2.2.1, g3.1]
    rfl
  case r3 =>
    funext q
    rw [l9 135 (by decide), (sR5 q).2.2.2.1, g3.1]
    rfl
  case r4 =>
    funext q
    rw [l9 136 (by decide), (sR5 q).2.2.2.2.1, g3.1]
    show (if q = na then fI h 1408 y else _) = if q = na then fI M 1408 y else _
    rw [n1408]
    rfl
  case r5 =>
    funext q
    rw [l9 137 (by decide), (sR5 q).2.2.2.2.2.1, g3.1]
    rfl
  case r6 =>
    funext q
    rw [l9 138 (by decide), (sR5 q).2.2.2.2.2.2.1, g3.1]
    rfl
  case r8 =>
    funext q
    rw [l9 140 (by decide), (sR5 q).2.2.2.2.2.2.2.2.1, g3.1]
    rfl
  case r9 =>
    funext q
    rw [l9 141 (by decide), (sR5 q).2.2.2.2.2.2.2.2.2.1, g3.1]
    rfl
  case r10 =>
    funext q
    rw [l9 142 (by decide), (sR5 q).2.2.2.2.2.2.2.2.2.2.1, g3.1]
    rfl
  case r12 =>
    funext q
    rw [l9 201 (by decide), (sR5 q).2.2.2.2.2.2.2.2.2.2.2, g3.1]
    rfl
  case rr1 =>
    show hn M ≤ _
    have := hR.2.1
    omega
  case rr2 =>
    show hm M ≤ _
    have := hR.2.2
    omega
end VIRT
