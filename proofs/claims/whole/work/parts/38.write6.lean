/-- what the two have written when an ask is put in -/
def wrH (E : Hp) (g : Nat → Nat → Nat) (m : Nat → Nat) (x y na N p z : Nat) (c d v T : Int32) : Hp := tI (sI (tI (tI (tI (tI (tI (tI (tI (tI (tI (tI (tI (tI (sI (tR E 440 (g 0 2) na (some N)) 1293 x (nI (na + 1))) 132 (m 132) na (nI p)) 133 (m 133) na c) 134 (m 134) na d) 135 (m 135) na v) 136 (m 136) na (fI E 1408 y)) 137 (m 137) na 0) 138 (m 138) na (-1)) 139 (m 139) na (-1)) 140 (m 140) na (-1)) 141 (m 141) na (-1)) 142 (m 142) na (-1)) 201 (m 201) na T) 1410 y (nI (na + 1))) 143 (m 143) na (nI z)
section WRI6
variable {x y b0 s0 np na nm nr ne : Nat} {g : Nat → Nat → Nat} {m : Nat → Nat} {h : Hp}
theorem wr_aI (E : Hp) (N p z : Nat) (c d v T : Int32) (W : Nat → Int64) (r : Option Nat) (k : Nat) (hk : k < 132 ∨ 143 < k ∧ k ≠ 201) : aI (rfH (cfL (wrH E g m x y na N p z c d v T) 312 (m 312) (20 * na) z W) m na r) k = aI E k := by
  unfold rfH wrH
  rw [aI_tI_n _ _ _ _ _ _ (show k ≠ 138 by omega), aI_tI_n _ _ _ _ _ _ (show k ≠ 137 by omega), aI_cfL, aI_tI_n _ _ _ _ _ _ (show k ≠ 143 by omega), aI_sI, aI_tI_n _ _ _ _ _ _ (show k ≠ 201 by omega), aI_tI_n _ _ _ _ _ _ (show k ≠ 142 by omega), aI_tI_n _ _ _ _ _ _ (show k ≠ 141 by omega), aI_tI_n _ _ _ _ _ _ (show k ≠ 140 by omega), aI_tI_n _ _ _ _ _ _ (show k ≠ 139 by omega), aI_tI_n _ _ _ _ _ _ (show k ≠ 138 by omega), aI_tI_n _ _ _ _ _ _ (show k ≠ 137 by omega), aI_tI_n _ _ _ _ _ _ (show k ≠ 136 by omega), aI_tI_n _ _ _ _ _ _ (show k ≠ 135 by omega), aI_tI_n _ _ _ _ _ _ (show k ≠ 134 by omega), aI_tI_n _ _ _ _ _ _ (show k ≠ 133 by omega), aI_tI_n _ _ _ _ _ _ (show k ≠ 132 by omega), aI_sI, aI_tR]
theorem wr_fI (E : Hp) (N p z : Nat) (c d v T : Int32) (W : Nat → Int64) (r : Option Nat) (f : Nat) (h1 : f ≠ 1293) (h2 : f ≠ 1410) : fI (rfH (cfL (wrH E g m x y na N p z c d v T) 312 (m 312) (20 * na) z W) m na r) f = fI E f := by
  show fI (sI _ 1410 y _) f = _
  rw [fI_sI_n _ _ _ _ _ h2]
  show fI (sI _ 1293 x _) f = _
  rw [fI_sI_n _ _ _ _ _ h1]
  rfl
theorem wr_aL (E : Hp) (N p z : Nat) (c d v T : Int32) (W : Nat → Int64) (r : Option Nat) : (∀ k, k ≠ 312 → aL (rfH (cfL (wrH E g m x y na N p z c d v T) 312 (m 312) (20 * na) z W) m na r) k = aL E k) ∧ aL (rfH (cfL (wrH E g m x y na N p z c d v T) 312 (m 312) (20 * na) z W) m na r) 312 (m 312) = fun q => if 20 * na ≤ q ∧ q < 20 * na + z then W (q - 20 * na) else aL E 312 (m 312) q := by
  constructor
  · intro k hk
    show aL (cfL (wrH E g m x y na N p z c d v T) 312 (m 312) (20 * na) z W) k = _
    rw [aL_cfL_n _ _ _ _ _ _ _ hk]
    rfl
  · funext q
    show aL (cfL (wrH E g m x y na N p z c d v T) 312 (m 312) (20 * na) z W) 312 (m 312) q = _
    rw [aL_cfL_e]
    by_cases e : 20 * na ≤ q ∧ q < 20 * na + z
    · rw [if_pos ⟨rfl, e⟩, if_pos e]
    · rw [if_neg (fun w => e w.2), if_neg e]
      rfl
theorem wr_col (E : Hp) (N p z : Nat) (c d v T : Int32) (W : Nat → Int64) (r : Option Nat) : let F := rfH (cfL (wrH E g m x y na N p z c d v T) 312 (m 312) (20 * na) z W) m na r
    (aI F 132 (m 132) = fun q => if q = na then nI p else aI E 132 (m 132) q) ∧ (aI F 133 (m 133) = fun q => if q = na then c else aI E 133 (m 133) q) ∧ (aI F 134 (m 134) = fun q => if q = na then d else aI E 134 (m 134) q) ∧ (aI F 135 (m 135) = fun q => if q = na then v else aI E 135 (m 135) q) ∧ (aI F 136 (m 136) = fun q => if q = na then fI E 1408 y else aI E 136 (m 136) q) ∧ (aI F 137 (m 137) = fun q => if q = na then kO r else aI E 137 (m 137) q) ∧ (aI F 138 (m 138) = fun q => if q = na then onI r else aI E 138 (m 138) q) ∧ (aI F 139 (m 139) = fun q => if q = na then -1 else aI E 139 (m 139) q) ∧ (aI F 140 (m 140) = fun q => if q = na then -1 else aI E 140 (m 140) q) ∧ (aI F 141 (m 141) = fun q => if q = na then -1 else aI E 141 (m 141) q) ∧ (aI F 142 (m 142) = fun q => if q = na then -1 else aI E 142 (m 142) q) ∧ (aI F 143 (m 143) = fun q => if q = na then nI z else aI E 143 (m 143) q) ∧ (aI F 201 (m 201) = fun q => if q = na then T else aI E 201 (m 201) q) := by
  intro F
  have tw : ∀ (v1 v2 : Int32) (f : Nat → Int32), (fun q => if q = na then v1 else (fun q => if q = na then v2 else f q) q) = fun q => if q = na then v1 else f q := by
    intro v1 v2 f
    funext q
    by_cases e : q = na
    · simp only [if_pos e]
    · simp only [if_neg e]
  have u : F = rfH (cfL (wrH E g m x y na N p z c d v T) 312 (m 312) (20 * na) z W) m na r := rfl
  refine ⟨?_, ?_, ?_, ?_, ?_, ?_, ?_, ?_, ?_, ?_, ?_, ?_, ?_⟩
  all_goals
    rw [u]
    simp (config := {decide := true}) only [rfH, wrH, fR_sI, aI_sI, aL_sI, aR_sI, kd_sI, ln_sI, hn_sI, hm_sI, fI_sI_n, fI_sR, aI_sR, aL_sR, aR_sR, kd_sR, ln_sR, hn_sR, hm_sR, fR_sR_n, fI_tI, fR_tI, aL_tI, aR_tI, kd_tI, ln_tI, hn_tI, hm_tI, aI_tI_n, fI_tL, fR_tL, aI_tL, aR_tL, kd_tL, ln_tL, hn_tL, hm_tL, aL_tL_n, fI_tR, fR_tR, aI_tR, aL_tR, kd_tR, ln_tR, hn_tR, hm_tR, aR_tR_n, hn_nw, hm_nw, aL_cfL_n, fI_cfL, fR_cfL, aI_cfL, aR_cfL, kd_cfL, ln_cfL, hn_cfL, hm_cfL, tI_f, tw]
theorem writeEnd {E : Hp} {N A p z t b1 s1 : Nat} {c d v T : Int32} (hJE : JA x y b1 s1 np na nm nr ne g m E) (hna : na < 160) (hpp : p < np) (ht : t < 8) (hlv : aI E 120 (m 120) p = 0) (hc : vp_in c 16) (hd : vp_in d 8) (hv : 0 ≤ v.toInt ∧ v.toInt ≤ 99) (hz : z ≤ 20) (ez : aI E 130 (m 130) t = nI z) (hT : T = 0 ∨ T = 1) (hone : ¬ ∃ i, i < na ∧ oneP E m p c d i)
    (k1 : kd E N = 1) (k2 : kd E A = 399) (k3 : ln E A = z) (k4 : ∀ j, j < z → aL E 399 A j = aL E 310 (m 310) (60 * t + j)) (f0 : fI E 0 N = nI na) (f1 : fR E 1 N = some (g 1 p)) (f2 : fI E 2 N = c) (f3 : fI E 3 N = d) (f4 : fI E 4 N = v) (f5 : fI E 5 N = fI E 1408 y) (f7 : fI E 7 N = aI E 124 (m 124) p) (f8 : fR E 8 N = some A) (f9 : fR E 9 N = none) (f12 : fI E 12 N = T) (f13 : fI E 13 N = 0) (f14 : fI E 14 N = -1) (f15 : fR E 15 N = none) (f16 : fR E 16 N = none) (f17 : fI E 17 N = 0) (f18 : fI E 18 N = -1)
    (r : Option Nat) (hr : r = bst (mayB E m y p z c (likW E m z (fun j => aL E 310 (m 310) (60 * t + j)))) (likW E m z (fun j => aL E 310 (m 310) (60 * t + j))) nm) (f6 : fI E 6 N = kO r) (f10 : fR E 10 N = r.map (g 4)) (f11 : fI E 11 N = nI (lO (likW E m z (fun j => aL E 310 (m 310) (60 * t + j))) r))
    (kz : ∀ a, hn E ≤ a → kd E a = 0) (rr1 : hn E ≤ b0 + 4 * (np + (na + 1) + nm + nr + ne)) (rr2 : hm E ≤ s0 + 400 * (np + (na + 1) + nm + nr + ne)) (Q : Int32 → Hp → Prop) (hQ : ∀ h2, JJ x y b0 s0 m h2 → Q (nI na) h2) : l_X11_write_226 (some y) (nI p) c (nI t) (nI na) 0 (wrH E g m x y na N p z c d v T) Q := by
  have hWE := hJE.2.2.2.2.2.1
  have hbd := hJE.2.2.1.2
  generalize hW : (fun j => aL E 310 (m 310) (60 * t + j)) = W at *
  have k4' : ∀ j, j < z → aL E 399 A j = W j := fun j hj => by rw [k4 j hj, ← hW]
  refine wordsLoop (m := m) (n := z) (by exact hJE.1) ht hz hna (by unfold wrH; simp (config := {decide := true}) only [fR_sI, aI_sI, aL_sI, aR_sI, kd_sI, ln_sI, hn_sI, hm_sI, fI_sI_n, fI_sR, aI_sR, aL_sR, aR_sR, kd_sR, ln_sR, hn_sR, hm_sR, fR_sR_n, fI_tI, fR_tI, aL_tI, aR_tI, kd_tI, ln_tI, hn_tI, hm_tI, aI_tI_n, fI_tL, fR_tL, aI_tL, aR_tL, kd_tL, ln_tL, hn_tL, hm_tL, aL_tL_n, fI_tR, fR_tR, aI_tR, aL_tR, kd_tR, ln_tR, hn_tR, hm_tR, aR_tR_n, hn_nw, hm_nw]; exact ez) _ ?_
  have eW : (fun u => aL (wrH E g m x y na N p z c d v T) 310 (m 310) (60 * t + u)) = W := hW
  rw [eW]
  generalize hL : likW E m z W = L at *
  have L20 : ∀ k, L k ≤ z := fun k => by rw [← hL]; exact cD_le _ _ _ _
  have one2 : ∀ i, i < na → aI E 132 (m 132) i = nI p → aI E 133 (m 133) i = c → aI E 134 (m 134) i = d → ¬ aI E 141 (m 141) i = -1 := fun i hi a b e w => hone ⟨i, hi, a, b, e, w⟩
  have gen : ∀ q : Option Nat, (∀ b, q = some b → b < nm) → (kO q = 0 ∧ onI q = -1 ∨ kO q = 1 ∧ vp_in (onI q) nm) := by
    intro q hq
    cases q with
    | none => exact Or.inl ⟨rfl, rfl⟩
    | some b => exact Or.inr ⟨rfl, vp_in_nI (hq b rfl) (by omega)⟩
  have jw : ∀ q : Option Nat, (∀ b, q = some b → b < nm) → JW y np (na + 1) nm nr ne m (rfH (cfL (wrH E g m x y na N p z c d v T) 312 (m 312) (20 * na) z W) m na q) := by
    intro q hq
    obtain ⟨r0, r1, r2, r3, r4, r5, r6, r7, r8, r9, r10, r11, r12⟩ := wr_col (g := g) (m := m) (x := x) (y := y) (na := na) E N p z c d v T W q
    exact growW_JW (W := W) hWE hbd.2.1 hna hpp hlv hc hd hv hz (gen q hq) hT one2 (wr_aL E N p z c d v T W q).1 (wr_fI E N p z c d v T W q 1408 (by decide) (by decide)) (fun k hk => wr_aI E N p z c d v T W q k (Or.inl hk)) (fun k hk hk2 => wr_aI E N p z c d v T W q k (Or.inr ⟨hk, hk2⟩)) r0 r1 r2 r3 r4 r5 r6 r7 r8 r9 r10 r11 r12
  have hCE := hJE.2.2.1.1
  have rj : ∀ q : Option Nat, (∀ b, q = some b → b < nm) → RJ y np (na + 1) nm nr ne m (rfH (cfL (wrH E g m x y na N p z c d v T) 312 (m 312) (20 * na) z W) m na q) := by
    intro q hq
    refine ⟨by exact hJE.1, ?_, by omega, jw q hq⟩
    have w := fun f a b => wr_fI (g := g) (m := m) (x := x) (y := y) (na := na) E N p z c d v T W q f a b
    rw [w 1409 (by decide) (by decide), w 1411 (by decide) (by decide), w 1412 (by decide) (by decide), w 1413 (by decide) (by decide)]
    refine ⟨hCE.2.2.2.2.2.1, ?_, hCE.2.2.2.2.2.2.2.1, hCE.2.2.2.2.2.2.2.2.1, hCE.2.2.2.2.2.2.2.2.2.1⟩
    show fI (sI _ 1410 y (nI (na + 1))) 1410 y = _
    rw [fI_sI_e, if_pos rfl]
  have co := wr_col (g := g) (m := m) (x := x) (y := y) (na := na) E N p z c d v T W none
  have aLn := wr_aL (g := g) (m := m) (x := x) (y := y) (na := na) E N p z c d v T W none
  have aIn := wr_aI (g := g) (m := m) (x := x) (y := y) (na := na) E N p z c d v T W none
  have fIn := wr_fI (g := g) (m := m) (x := x) (y := y) (na := na) E N p z c d v T W none
  have wn : aI (rfH (cfL (wrH E g m x y na N p z c d v T) 312 (m 312) (20 * na) z W) m na none) 143 (m 143) na = nI z := by
    rw [co.2.2.2.2.2.2.2.2.2.2.2.1]
    exact if_pos rfl
  have eL : ∀ k, k < nm → lkV (rfH (cfL (wrH E g m x y na N p z c d v T) 312 (m 312) (20 * na) z W) m na none) m na k = L k := by
    intro k hk
    rw [← hL]
    unfold lkV lcK likW
    rw [← cD_lcS, wn, nI_clamp (by omega), aLn.2, aLn.1 313 (by decide), aIn 147 (by omega)]
    refine cD_congr (fun i hi => ?_) (fun _ _ => rfl)
    show (if 20 * na ≤ 20 * na + i ∧ 20 * na + i < 20 * na + z then W (20 * na + i - 20 * na) else _) = W i
    rw [if_pos (by omega), show 20 * na + i - 20 * na = i by omega]
  have eP : mayB (rfH (cfL (wrH E g m x y na N p z c d v T) 312 (m 312) (20 * na) z W) m na none) m y p z c L = mayB E m y p z c L := by
    funext i
    have l1 : lvN (rfH (cfL (wrH E g m x y na N p z c d v T) 312 (m 312) (20 * na) z W) m na none) m = lvN E m := by funext j; unfold lvN; rw [aIn 120 (by omega)]
    have l2 : unN (rfH (cfL (wrH E g m x y na N p z c d v T) 312 (m 312) (20 * na) z W) m na none) m = unN E m := by funext j; unfold unN; rw [aIn 121 (by omega)]
    unfold mayB wy
    rw [l1, l2, aIn 122 (by omega), aIn 144 (by omega), aIn 145 (by omega), aIn 146 (by omega), fIn 1408 (by decide) (by decide)]
  have eP2 : mayB (cfL (wrH E g m x y na N p z c d v T) 312 (m 312) (20 * na) z W) m y p z c L = mayB E m y p z c L := eP
  refine borrowR_e (np := np) (nm := nm) (nr := nr) (ne := ne) (L := L) hna hpp hz rj (fun k hk => eL k hk) L20 ?_ ?_ ?_ _ ?_
  · show aI (rfH (cfL (wrH E g m x y na N p z c d v T) 312 (m 312) (20 * na) z W) m na none) 143 (m 143) na = nI z
    exact wn
  · unfold wrH
    simp (config := {decide := true}) only [fR_sI, aI_sI, aL_sI, aR_sI, kd_sI, ln_sI, hn_sI, hm_sI, fI_sI_n, fI_sR, aI_sR, aL_sR, aR_sR, kd_sR, ln_sR, hn_sR, hm_sR, fR_sR_n, fI_tI, fR_tI, aL_tI, aR_tI, kd_tI, ln_tI, hn_tI, hm_tI, aI_tI_n, fI_tL, fR_tL, aI_tL, aR_tL, kd_tL, ln_tL, hn_tL, hm_tL, aL_tL_n, fI_tR, fR_tR, aI_tR, aL_tR, kd_tR, ln_tR, hn_tR, hm_tR, aR_tR_n, hn_nw, hm_nw, aL_cfL_n, fI_cfL, fR_cfL, aI_cfL, aR_cfL, kd_cfL, ln_cfL, hn_cfL, hm_cfL, fI_sI_e, fR_sR_e, aI_tI_e, aL_tL_e, aR_tR_e, if_true, and_self]
  · unfold wrH
    simp (config := {decide := true}) only [fR_sI, aI_sI, aL_sI, aR_sI, kd_sI, ln_sI, hn_sI, hm_sI, fI_sI_n, fI_sR, aI_sR, aL_sR, aR_sR, kd_sR, ln_sR, hn_sR, hm_sR, fR_sR_n, fI_tI, fR_tI, aL_tI, aR_tI, kd_tI, ln_tI, hn_tI, hm_tI, aI_tI_n, fI_tL, fR_tL, aI_tL, aR_tL, kd_tL, ln_tL, hn_tL, hm_tL, aL_tL_n, fI_tR, fR_tR, aI_tR, aL_tR, kd_tR, ln_tR, hn_tR, hm_tR, aR_tR_n, hn_nw, hm_nw, aL_cfL_n, fI_cfL, fR_cfL, aI_cfL, aR_cfL, kd_cfL, ln_cfL, hn_cfL, hm_cfL, fI_sI_e, fR_sR_e, aI_tI_e, aL_tL_e, aR_tR_e, if_true, and_self]
  rw [eP2, ← hr]
  intro h2 e2
  refine hQ _ (JA.jj ((?_ : JA x y b0 s0 np (na + 1) nm nr ne (upG (upG g 3 na N) 9 na A) m _).same e2))
  have hrn : ∀ b, r = some b → b < nm := fun b e => bst_lt (hr.symm.trans e)
  obtain ⟨r0, r1, r2, r3, r4, r5, r6, r7, r8, r9, r10, r11, r12⟩ := wr_col (g := g) (m := m) (x := x) (y := y) (na := na) E N p z c d v T W r
  refine growW_JA (W := W) (K := kO r) (M := onI r) hJE hna hpp hlv hc hd hv hz (gen r hrn) hT one2 k1 k2 k3 k4' f0 f1 f2 f3 f4 f5 f6 f7 f8 f9 ?_ ?_ f12 f13 f14 f15 f16 f17 f18 rfl (wr_aL E N p z c d v T W r).1 rfl rfl rfl rfl (fun f a b => wr_fI E N p z c d v T W r f a b) (fun k hk => wr_aI E N p z c d v T W r k (Or.inl hk)) (fun k hk hk2 => wr_aI E N p z c d v T W r k (Or.inr ⟨hk, hk2⟩)) ?_ ?_ ?_ (wr_aL E N p z c d v T W r).2 ?_ r0 r1 r2 r3 r4 r5 r6 r7 r8 r9 r10 r11 r12 kz rr1 rr2
  · rw [f10]
    cases r with
    | none => rfl
    | some b =>
      have := hrn b rfl
      show some (g 4 b) = dec (g 4) (nI b)
      rw [dec_s _ (nI_m1 (by omega)), nI_clamp (by omega)]
  · rw [f11]
    cases r with
    | none => exact (iF_y rfl _ _).symm
    | some b =>
      have := hrn b rfl
      show nI (L b) = iF (nI b = -1) 0 _
      rw [iF_n (nI_m1 (by omega)), ← hL]
      show _ = nI (cD W (fun j => aL E 313 (m 313) (60 * (nI b).toNatClampNeg + j)) z (aI E 147 (m 147) (nI b).toNatClampNeg).toNatClampNeg)
      rw [nI_clamp (by omega)]
      rfl
  · intro k hk
    show aR (tR E 440 (g 0 2) na (some N)) k = _
    rw [aR_tR_n _ _ _ _ _ _ hk]
  · show fI (sI (tR E 440 (g 0 2) na (some N)) 1293 x (nI (na + 1))) 1293 x = _
    rw [fI_sI_e, if_pos rfl]
  · show fI (sI _ 1410 y (nI (na + 1))) 1410 y = _
    rw [fI_sI_e, if_pos rfl]
  · funext q
    show aR (tR E 440 (g 0 2) na (some N)) 440 (g 0 2) q = _
    simp (config := {decide := true}) only [fI_sI_e, fR_sR_e, aI_tI_e, aL_tL_e, aR_tR_e, true_and]
end WRI6
