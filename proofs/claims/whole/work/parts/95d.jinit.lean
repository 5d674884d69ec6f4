section JINI
variable {B : Nat} {h : Hp}
def mT : List (Nat × Nat) := [(120, 42), (121, 43), (122, 44), (123, 45), (124, 46), (125, 47), (126, 48), (127, 49), (200, 50), (128, 51), (129, 52), (130, 53), (131, 54), (310, 55), (311, 56), (132, 57), (133, 58), (134, 59), (135, 60), (136, 61), (137, 62), (138, 63), (139, 64), (140, 65), (141, 66), (142, 67), (143, 68), (201, 69), (202, 70), (203, 71), (312, 72), (144, 73), (145, 74), (146, 75), (147, 76), (313, 77), (148, 78), (149, 79), (150, 80), (151, 81), (152, 82), (153, 83), (154, 84), (155, 85), (156, 86), (157, 87), (158, 88), (159, 89), (160, 90), (204, 91), (161, 92), (162, 93), (163, 94), (164, 95), (165, 96), (166, 97), (167, 98), (168, 99), (169, 100), (170, 101), (171, 102)]
def mO (k : Nat) : Nat := ((mT.find? (fun q => q.1 == k)).map (fun q => q.2)).getD 0
def mS (B k : Nat) : Nat := if k = 0 then 1000 else B + mO k
def gO (f i : Nat) : Nat := if f = 0 then ([1, 2, 3, 4, 5, 6, 7, 8, 9, 12, 16, 20, 10, 11, 13, 14, 15, 17, 18, 19, 21, 22] : List Nat).getD i 0 else if f = 1 then 39 else if f = 7 then 40 else if f = 2 then 23 + 2 * i else if f = 8 then 24 + 2 * i else 0
def gN (B f i : Nat) : Nat := B + gO f i
/-- the heap behind both constructors -/
def fin4 (B : Nat) (h : Hp) : Hp := (tI (tI (tI (tI h 120 (B + 42) 0 3) 121 (B + 43) 0 (-1)) 125 (B + 47) 0 (-1)) 126 (B + 48) 0 (-1))
theorem f4_o (S : SH B h ic224) {k : Nat} (h1 : k ≠ 120) (h2 : k ≠ 121) (h3 : k ≠ 125) (h4 : k ≠ 126) (a j : Nat) : aI (fin4 B h) k (B + a) j = 0 := by
  unfold fin4
  rw [aI_tI_n _ _ _ _ _ _ h4, aI_tI_n _ _ _ _ _ _ h3, aI_tI_n _ _ _ _ _ _ h2, aI_tI_n _ _ _ _ _ _ h1]
  exact S.2.2.2.2.2.2.2.1 k a j
theorem f4_120 (B : Nat) (h : Hp) : aI (fin4 B h) 120 (mS B 120) 0 = 3 := by
  unfold fin4
  rw [aI_tI_n _ _ _ _ _ _ (by decide), aI_tI_n _ _ _ _ _ _ (by decide), aI_tI_n _ _ _ _ _ _ (by decide), aI_tI_e]
  exact if_pos ⟨rfl, rfl⟩
theorem f4_121 (B : Nat) (h : Hp) : aI (fin4 B h) 121 (mS B 121) 0 = -1 := by
  unfold fin4
  rw [aI_tI_n _ _ _ _ _ _ (by decide), aI_tI_n _ _ _ _ _ _ (by decide), aI_tI_e]
  exact if_pos ⟨rfl, rfl⟩
theorem f4_125 (B : Nat) (h : Hp) : aI (fin4 B h) 125 (mS B 125) 0 = -1 := by
  unfold fin4
  rw [aI_tI_n _ _ _ _ _ _ (by decide), aI_tI_e]
  exact if_pos ⟨rfl, rfl⟩
theorem f4_126 (B : Nat) (h : Hp) : aI (fin4 B h) 126 (mS B 126) 0 = -1 := by
  unfold fin4
  rw [aI_tI_e]
  exact if_pos ⟨rfl, rfl⟩
set_option maxRecDepth 20000 in
theorem j_M (S : SH B h ic224) : JM (B + 41) (mS B) (fin4 B h) := by
  have r : ∀ {f a v : Nat}, fR ic224 f a = some v → fR (fin4 B h) f (B + a) = some (B + v) := fun e => shR S e
  have k : ∀ {a v : Nat}, kd ic224 a = v → kd (fin4 B h) (B + a) = v := fun e => shK S e
  have l : ∀ {a v : Nat}, ln ic224 a = v → ln (fin4 B h) (B + a) = v := fun e => shL S e
  exact ⟨k (a := 41) (by decide +kernel), r (a := 41) (v := 42) (by decide +kernel), k (a := 42) (by decide +kernel), l (a := 42) (by decide +kernel), r (a := 41) (v := 43) (by decide +kernel), k (a := 43) (by decide +kernel), l (a := 43) (by decide +kernel), r (a := 41) (v := 44) (by decide +kernel), k (a := 44) (by decide +kernel), l (a := 44) (by decide +kernel), r (a := 41) (v := 45) (by decide +kernel), k (a := 45) (by decide +kernel), l (a := 45) (by decide +kernel), r (a := 41) (v := 46) (by decide +kernel), k (a := 46) (by decide +kernel), l (a := 46) (by decide +kernel), r (a := 41) (v := 47) (by decide +kernel), k (a := 47) (by decide +kernel), l (a := 47) (by decide +kernel), r (a := 41) (v := 48) (by decide +kernel), k (a := 48) (by decide +kernel), l (a := 48) (by decide +kernel), r (a := 41) (v := 49) (by decide +kernel), k (a := 49) (by decide +kernel), l (a := 49) (by decide +kernel), r (a := 41) (v := 50) (by decide +kernel), k (a := 50) (by decide +kernel), l (a := 50) (by decide +kernel), r (a := 41) (v := 51) (by decide +kernel), k (a := 51) (by decide +kernel), l (a := 51) (by decide +kernel), r (a := 41) (v := 52) (by decide +kernel), k (a := 52) (by decide +kernel), l (a := 52) (by decide +kernel), r (a := 41) (v := 53) (by decide +kernel), k (a := 53) (by decide +kernel), l (a := 53) (by decide +kernel), r (a := 41) (v := 54) (by decide +kernel), k (a := 54) (by decide +kernel), l (a := 54) (by decide +kernel), r (a := 41) (v := 55) (by decide +kernel), k (a := 55) (by decide +kernel), l (a := 55) (by decide +kernel), r (a := 41) (v := 56) (by decide +kernel), k (a := 56) (by decide +kernel), l (a := 56) (by decide +kernel), r (a := 41) (v := 57) (by decide +kernel), k (a := 57) (by decide +kernel), l (a := 57) (by decide +kernel), r (a := 41) (v := 58) (by decide +kernel), k (a := 58) (by decide +kernel), l (a := 58) (by decide +kernel), r (a := 41) (v := 59) (by decide +kernel), k (a := 59) (by decide +kernel), l (a := 59) (by decide +kernel), r (a := 41) (v := 60) (by decide +kernel), k (a := 60) (by decide +kernel), l (a := 60) (by decide +kernel), r (a := 41) (v := 61) (by decide +kernel), k (a := 61) (by decide +kernel), l (a := 61) (by decide +kernel), r (a := 41) (v := 62) (by decide +kernel), k (a := 62) (by decide +kernel), l (a := 62) (by decide +kernel), r (a := 41) (v := 63) (by decide +kernel), k (a := 63) (by decide +kernel), l (a := 63) (by decide +kernel), r (a := 41) (v := 64) (by decide +kernel), k (a := 64) (by decide +kernel), l (a := 64) (by decide +kernel), r (a := 41) (v := 65) (by decide +kernel), k (a := 65) (by decide +kernel), l (a := 65) (by decide +kernel), r (a := 41) (v := 66) (by decide +kernel), k (a := 66) (by decide +kernel), l (a := 66) (by decide +kernel), r (a := 41) (v := 67) (by decide +kernel), k (a := 67) (by decide +kernel), l (a := 67) (by decide +kernel), r (a := 41) (v := 68) (by decide +kernel), k (a := 68) (by decide +kernel), l (a := 68) (by decide +kernel), r (a := 41) (v := 69) (by decide +kernel), k (a := 69) (by decide +kernel), l (a := 69) (by decide +kernel), r (a := 41) (v := 70) (by decide +kernel), k (a := 70) (by decide +kernel), l (a := 70) (by decide +kernel), r (a := 41) (v := 71) (by decide +kernel), k (a := 71) (by decide +kernel), l (a := 71) (by decide +kernel), r (a := 41) (v := 72) (by decide +kernel), k (a := 72) (by decide +kernel), l (a := 72) (by decide +kernel), r (a := 41) (v := 73) (by decide +kernel), k (a := 73) (by decide +kernel), l (a := 73) (by decide +kernel), r (a := 41) (v := 74) (by decide +kernel), k (a := 74) (by decide +kernel), l (a := 74) (by decide +kernel), r (a := 41) (v := 75) (by decide +kernel), k (a := 75) (by decide +kernel), l (a := 75) (by decide +kernel), r (a := 41) (v := 76) (by decide +kernel), k (a := 76) (by decide +kernel), l (a := 76) (by decide +kernel), r (a := 41) (v := 77) (by decide +kernel), k (a := 77) (by decide +kernel), l (a := 77) (by decide +kernel), r (a := 41) (v := 78) (by decide +kernel), k (a := 78) (by decide +kernel), l (a := 78) (by decide +kernel), r (a := 41) (v := 79) (by decide +kernel), k (a := 79) (by decide +kernel), l (a := 79) (by decide +kernel), r (a := 41) (v := 80) (by decide +kernel), k (a := 80) (by decide +kernel), l (a := 80) (by decide +kernel), r (a := 41) (v := 81) (by decide +kernel), k (a := 81) (by decide +kernel), l (a := 81) (by decide +kernel), r (a := 41) (v := 82) (by decide +kernel), k (a := 82) (by decide +kernel), l (a := 82) (by decide +kernel), r (a := 41) (v := 83) (by decide +kernel), k (a := 83) (by decide +kernel), l (a := 83) (by decide +kernel), r (a := 41) (v := 84) (by decide +kernel), k (a := 84) (by decide +kernel), l (a := 84) (by decide +kernel), r (a := 41) (v := 85) (by decide +kernel), k (a := 85) (by decide +kernel), l (a := 85) (by decide +kernel), r (a := 41) (v := 86) (by decide +kernel), k (a := 86) (by decide +kernel), l (a := 86) (by decide +kernel), r (a := 41) (v := 87) (by decide +kernel), k (a := 87) (by decide +kernel), l (a := 87) (by decide +kernel), r (a := 41) (v := 88) (by decide +kernel), k (a := 88) (by decide +kernel), l (a := 88) (by decide +kernel), r (a := 41) (v := 89) (by decide +kernel), k (a := 89) (by decide +kernel), l (a := 89) (by decide +kernel), r (a := 41) (v := 90) (by decide +kernel), k (a := 90) (by decide +kernel), l (a := 90) (by decide +kernel), r (a := 41) (v := 91) (by decide +kernel), k (a := 91) (by decide +kernel), l (a := 91) (by decide +kernel), r (a := 41) (v := 92) (by decide +kernel), k (a := 92) (by decide +kernel), l (a := 92) (by decide +kernel), r (a := 41) (v := 93) (by decide +kernel), k (a := 93) (by decide +kernel), l (a := 93) (by decide +kernel), r (a := 41) (v := 94) (by decide +kernel), k (a := 94) (by decide +kernel), l (a := 94) (by decide +kernel), r (a := 41) (v := 95) (by decide +kernel), k (a := 95) (by decide +kernel), l (a := 95) (by decide +kernel), r (a := 41) (v := 96) (by decide +kernel), k (a := 96) (by decide +kernel), l (a := 96) (by decide +kernel), r (a := 41) (v := 97) (by decide +kernel), k (a := 97) (by decide +kernel), l (a := 97) (by decide +kernel), r (a := 41) (v := 98) (by decide +kernel), k (a := 98) (by decide +kernel), l (a := 98) (by decide +kernel), r (a := 41) (v := 99) (by decide +kernel), k (a := 99) (by decide +kernel), l (a := 99) (by decide +kernel), r (a := 41) (v := 100) (by decide +kernel), k (a := 100) (by decide +kernel), l (a := 100) (by decide +kernel), r (a := 41) (v := 101) (by decide +kernel), k (a := 101) (by decide +kernel), l (a := 101) (by decide +kernel), r (a := 41) (v := 102) (by decide +kernel), k (a := 102) (by decide +kernel), l (a := 102) (by decide +kernel)⟩
set_option maxRecDepth 20000 in
theorem j_S (S : SH B h ic224) : JS (B + 0) (gN B) (fin4 B h) := by
  have r : ∀ {f a v : Nat}, fR ic224 f a = some v → fR (fin4 B h) f (B + a) = some (B + v) := fun e => shR S e
  have k : ∀ {a v : Nat}, kd ic224 a = v → kd (fin4 B h) (B + a) = v := fun e => shK S e
  have l : ∀ {a v : Nat}, ln ic224 a = v → ln (fin4 B h) (B + a) = v := fun e => shL S e
  exact ⟨k (a := 0) (by decide +kernel), r (a := 0) (v := 1) (by decide +kernel), k (a := 1) (by decide +kernel), l (a := 1) (by decide +kernel), r (a := 0) (v := 2) (by decide +kernel), k (a := 2) (by decide +kernel), l (a := 2) (by decide +kernel), r (a := 0) (v := 3) (by decide +kernel), k (a := 3) (by decide +kernel), l (a := 3) (by decide +kernel), r (a := 0) (v := 4) (by decide +kernel), k (a := 4) (by decide +kernel), l (a := 4) (by decide +kernel), r (a := 0) (v := 5) (by decide +kernel), k (a := 5) (by decide +kernel), l (a := 5) (by decide +kernel), r (a := 0) (v := 6) (by decide +kernel), k (a := 6) (by decide +kernel), l (a := 6) (by decide +kernel), r (a := 0) (v := 7) (by decide +kernel), k (a := 7) (by decide +kernel), l (a := 7) (by decide +kernel), r (a := 0) (v := 8) (by decide +kernel), k (a := 8) (by decide +kernel), l (a := 8) (by decide +kernel), r (a := 0) (v := 9) (by decide +kernel), k (a := 9) (by decide +kernel), r (a := 0) (v := 12) (by decide +kernel), k (a := 12) (by decide +kernel), r (a := 0) (v := 16) (by decide +kernel), k (a := 16) (by decide +kernel), r (a := 0) (v := 20) (by decide +kernel), k (a := 20) (by decide +kernel), r (a := 9) (v := 10) (by decide +kernel), k (a := 10) (by decide +kernel), l (a := 10) (by decide +kernel), r (a := 9) (v := 11) (by decide +kernel), k (a := 11) (by decide +kernel), l (a := 11) (by decide +kernel), r (a := 12) (v := 13) (by decide +kernel), k (a := 13) (by decide +kernel), l (a := 13) (by decide +kernel), r (a := 12) (v := 14) (by decide +kernel), k (a := 14) (by decide +kernel), l (a := 14) (by decide +kernel), r (a := 12) (v := 15) (by decide +kernel), k (a := 15) (by decide +kernel), l (a := 15) (by decide +kernel), r (a := 16) (v := 17) (by decide +kernel), k (a := 17) (by decide +kernel), l (a := 17) (by decide +kernel), r (a := 16) (v := 18) (by decide +kernel), k (a := 18) (by decide +kernel), l (a := 18) (by decide +kernel), r (a := 16) (v := 19) (by decide +kernel), k (a := 19) (by decide +kernel), l (a := 19) (by decide +kernel), r (a := 20) (v := 21) (by decide +kernel), k (a := 21) (by decide +kernel), l (a := 21) (by decide +kernel), r (a := 20) (v := 22) (by decide +kernel), k (a := 22) (by decide +kernel), l (a := 22) (by decide +kernel)⟩
theorem j_C (S : SH B h ic224) : JC (B + 0) (B + 41) 1 0 0 0 0 (fin4 B h) := by
  have i : ∀ {f a : Nat} {v : Int32}, fI ic224 f a = v → fI (fin4 B h) f (B + a) = v := fun e => shI S e
  exact ⟨⟨i (f := 1292) (a := 0) (v := nI 1) (by decide +kernel), i (f := 1293) (a := 0) (v := nI 0) (by decide +kernel), i (f := 1294) (a := 0) (v := nI 0) (by decide +kernel), i (f := 1295) (a := 0) (v := nI 0) (by decide +kernel), i (f := 1296) (a := 0) (v := nI 0) (by decide +kernel), i (f := 1409) (a := 41) (v := nI 1) (by decide +kernel), i (f := 1410) (a := 41) (v := nI 0) (by decide +kernel), i (f := 1411) (a := 41) (v := nI 0) (by decide +kernel), i (f := 1412) (a := 41) (v := nI 0) (by decide +kernel), i (f := 1413) (a := 41) (v := nI 0) (by decide +kernel), (i (f := 1297) (a := 0) (v := 0) (by decide +kernel)).trans (i (f := 1408) (a := 41) (v := 0) (by decide +kernel)).symm, (i (f := 1298) (a := 0) (v := -1) (by decide +kernel)).trans (i (f := 1414) (a := 41) (v := -1) (by decide +kernel)).symm⟩, by decide, by decide, by decide, by decide, by decide, by decide⟩
theorem j_G (S : SH B h ic224) : JG 1 0 0 0 0 (gN B) (mS B) (fin4 B h) :=
  ⟨(fun i hi => by
    obtain rfl : i = 0 := (by omega)
    exact shA S (a := 1) (v := 39) (by decide +kernel)),
  (fun i hi => by
    obtain rfl : i = 0 := (by omega)
    exact shK S (a := 39) (by decide +kernel)),
  (fun i hi => by
    obtain rfl : i = 0 := (by omega)
    exact shI S (a := 39) (by decide +kernel)),
  (fun i hi => by
    obtain rfl : i = 0 := (by omega)
    exact shR S (a := 39) (v := 40) (by decide +kernel)),
  (fun i hi => by
    obtain rfl : i = 0 := (by omega)
    exact shK S (a := 40) (by decide +kernel)),
  (fun i hi => by
    obtain rfl : i = 0 := (by omega)
    exact shL S (a := 40) (by decide +kernel)),
  (fun i j hi hj _ => by omega),
  (fun i hi => shA S (a := 2) (v := 23 + 2 * i) ((show ∀ i, i < 8 → aR ic224 409 2 i = some (23 + 2 * i) by decide +kernel) i hi)),
  (fun i hi => shK S (a := 23 + 2 * i) ((show ∀ i, i < 8 → kd ic224 (23 + 2 * i) = 10 by decide +kernel) i hi)),
  (fun i hi => shR S (a := 23 + 2 * i) (v := 24 + 2 * i) ((show ∀ i, i < 8 → fR ic224 1152 (23 + 2 * i) = some (24 + 2 * i) by decide +kernel) i hi)),
  (fun i hi => shK S (a := 24 + 2 * i) ((show ∀ i, i < 8 → kd ic224 (24 + 2 * i) = 300 by decide +kernel) i hi)),
  (fun i hi => shL S (a := 24 + 2 * i) ((show ∀ i, i < 8 → ln ic224 (24 + 2 * i) = 60 by decide +kernel) i hi)),
  (fun i j hi hj e => by
    have e2 : B + (23 + 2 * i) = B + (23 + 2 * j) := e
    omega),
  (fun i j hi hj e => by
    have e2 : B + (24 + 2 * i) = B + (24 + 2 * j) := e
    omega),
  (fun i hi => absurd hi (Nat.not_lt_zero i)),
  (fun i hi => absurd hi (Nat.not_lt_zero i)),
  (fun i hi => absurd hi (Nat.not_lt_zero i)),
  (fun i hi => absurd hi (Nat.not_lt_zero i)),
  (fun i hi => absurd hi (Nat.not_lt_zero i)),
  (fun i hi => absurd hi (Nat.not_lt_zero i)),
  (fun i hi => absurd hi (Nat.not_lt_zero i)),
  (fun i hi => absurd hi (Nat.not_lt_zero i)),
  (fun i hi => absurd hi (Nat.not_lt_zero i)),
  (fun i hi => absurd hi (Nat.not_lt_zero i)),
  (fun i hi => absurd hi (Nat.not_lt_zero i)),
  (fun i hi => absurd hi (Nat.not_lt_zero i)),
  (fun i hi => absurd hi (Nat.not_lt_zero i)),
  (fun i hi => absurd hi (Nat.not_lt_zero i)),
  (fun i hi => absurd hi (Nat.not_lt_zero i)),
  (fun i hi => absurd hi (Nat.not_lt_zero i)),
  (fun i hi => absurd hi (Nat.not_lt_zero i))⟩
theorem f4_z (S : SH B h ic224) {k : Nat} (h0 : k ≠ 0) (h1 : k ≠ 120) (h2 : k ≠ 121) (h3 : k ≠ 125) (h4 : k ≠ 126) (j : Nat) : aI (fin4 B h) k (mS B k) j = 0 := by
  have e : mS B k = B + mO k := if_neg h0
  rw [e]
  exact f4_o S h1 h2 h3 h4 _ _
theorem j_D (S : SH B h ic224) : JD 1 0 0 0 0 (gN B) (mS B) (fin4 B h) :=
  ⟨(fun i hi => by
    obtain rfl : i = 0 := (by omega)
    rw [f4_120]
    exact shI S (a := 39) (by decide +kernel)),
  (fun i hi => by
    obtain rfl : i = 0 := (by omega)
    rw [f4_121]
    unfold dec
    rw [if_pos rfl]
    exact shN S (a := 39) (by decide +kernel)),
  (fun i hi => by
    obtain rfl : i = 0 := (by omega)
    rw [f4_z S (k := 122) (by decide) (by decide) (by decide) (by decide) (by decide) _]
    exact shI S (a := 39) (by decide +kernel)),
  (fun i hi => by
    obtain rfl : i = 0 := (by omega)
    rw [f4_120, if_neg (by decide)]
    exact shI S (a := 39) (by decide +kernel)),
  (fun i hi => by
    obtain rfl : i = 0 := (by omega)
    rw [f4_z S (k := 200) (by decide) (by decide) (by decide) (by decide) (by decide) _]
    exact shI S (a := 39) (by decide +kernel)),
  (fun i hi => by
    obtain rfl : i = 0 := (by omega)
    rw [f4_125]
    exact shI S (a := 39) (by decide +kernel)),
  (fun i hi => by
    obtain rfl : i = 0 := (by omega)
    rw [f4_126]
    unfold dec
    rw [if_pos rfl]
    exact shN S (a := 39) (by decide +kernel)),
  (fun i w hi hw => by
    rw [f4_z S (k := 127) (by decide) (by decide) (by decide) (by decide) (by decide) _]
    exact f4_o S (k := 104) (by decide) (by decide) (by decide) (by decide) _ _),
  (fun i hi => by
    rw [f4_z S (k := 128) (by decide) (by decide) (by decide) (by decide) (by decide) _, if_neg (by decide)]
    exact shI S (a := 23 + 2 * i) ((show ∀ i, i < 8 → fI ic224 1153 (23 + 2 * i) = -1 by decide +kernel) i hi)),
  (fun i hi => by
    rw [f4_z S (k := 128) (by decide) (by decide) (by decide) (by decide) (by decide) _, if_neg (by decide)]
    exact shI S (a := 23 + 2 * i) ((show ∀ i, i < 8 → fI ic224 1154 (23 + 2 * i) = 0 by decide +kernel) i hi)),
  (fun i hi => by
    rw [f4_z S (k := 128) (by decide) (by decide) (by decide) (by decide) (by decide) _, if_neg (by decide)]
    exact shN S (a := 23 + 2 * i) ((show ∀ i, i < 8 → fR ic224 1155 (23 + 2 * i) = none by decide +kernel) i hi)),
  (fun i j hi hj w => by
    rw [f4_z S (k := 128) (by decide) (by decide) (by decide) (by decide) (by decide) _] at w
    exact absurd w (by decide)),
  (fun i hi => absurd hi (Nat.not_lt_zero i)),
  (fun i hi => absurd hi (Nat.not_lt_zero i)),
  (fun i hi => absurd hi (Nat.not_lt_zero i)),
  (fun i hi => absurd hi (Nat.not_lt_zero i)),
  (fun i hi => absurd hi (Nat.not_lt_zero i)),
  (fun i hi => absurd hi (Nat.not_lt_zero i)),
  (fun i hi => absurd hi (Nat.not_lt_zero i)),
  (fun i hi => absurd hi (Nat.not_lt_zero i)),
  (fun i hi => absurd hi (Nat.not_lt_zero i)),
  (fun i hi => absurd hi (Nat.not_lt_zero i)),
  (fun i hi => absurd hi (Nat.not_lt_zero i)),
  (fun i hi => absurd hi (Nat.not_lt_zero i)),
  (fun i hi => absurd hi (Nat.not_lt_zero i)),
  (fun i hi => absurd hi (Nat.not_lt_zero i)),
  (fun i hi => absurd hi (Nat.not_lt_zero i)),
  (fun i hi => absurd hi (Nat.not_lt_zero i)),
  (fun i hi => absurd hi (Nat.not_lt_zero i)),
  (fun i hi => absurd hi (Nat.not_lt_zero i)),
  (fun i hi => absurd hi (Nat.not_lt_zero i)),
  (fun i j hi => absurd hi (Nat.not_lt_zero i)),
  (fun i hi => absurd hi (Nat.not_lt_zero i)),
  (fun i hi => absurd hi (Nat.not_lt_zero i)),
  (fun i hi => absurd hi (Nat.not_lt_zero i)),
  (fun i hi => absurd hi (Nat.not_lt_zero i)),
  (fun i hi => absurd hi (Nat.not_lt_zero i)),
  (fun a b ha hb => by
    rw [f4_z S (k := 204) (by decide) (by decide) (by decide) (by decide) (by decide) _, show aI (fin4 B h) 105 (gN B 0 17) a = 0 from f4_o S (k := 105) (by decide) (by decide) (by decide) (by decide) _ _, tb_0]
    exact ⟨fun w => w.elim, fun w => absurd w (by decide)⟩),
  (fun j hj => by
    rw [f4_z S (k := 161) (by decide) (by decide) (by decide) (by decide) (by decide) _]
    exact f4_o S (k := 110) (by decide) (by decide) (by decide) (by decide) _ _)⟩
theorem j_W (S : SH B h ic224) : JW (B + 41) 1 0 0 0 0 (mS B) (fin4 B h) :=
  ⟨(f4_120 B h),
  (f4_121 B h),
  (fun i h1 h2 => absurd h2 (by omega)),
  (fun i hi => by
    obtain rfl : i = 0 := (by omega)
    rw [f4_120]
    exact ⟨by decide, by decide⟩),
  (fun i h1 h2 => absurd h2 (by omega)),
  (fun i hi => by
    rw [f4_z S (k := 122) (by decide) (by decide) (by decide) (by decide) (by decide) _]
    exact ⟨by decide, by decide⟩),
  (fun i hi => by
    rw [f4_z S (k := 124) (by decide) (by decide) (by decide) (by decide) (by decide) _]
    exact ⟨by decide, by decide⟩),
  (fun i hi => by
    obtain rfl : i = 0 := (by omega)
    rw [f4_125]
    exact ⟨by decide, by decide⟩),
  (fun i hi => by
    obtain rfl : i = 0 := (by omega)
    exact fun _ => f4_125 B h),
  (fun i hi => by
    obtain rfl : i = 0 := (by omega)
    exact Or.inl (f4_126 B h)),
  (f4_126 B h),
  (fun i hi => Or.inl (f4_z S (k := 200) (by decide) (by decide) (by decide) (by decide) (by decide) _)),
  (fun i hi _ => f4_z S (k := 200) (by decide) (by decide) (by decide) (by decide) (by decide) _),
  (fun i hi => by
    rw [f4_z S (k := 127) (by decide) (by decide) (by decide) (by decide) (by decide) _]
    exact ⟨by decide, by decide⟩),
  (fun i hi => Or.inl (f4_z S (k := 128) (by decide) (by decide) (by decide) (by decide) (by decide) _)),
  (fun i hi w => by
    rw [f4_z S (k := 128) (by decide) (by decide) (by decide) (by decide) (by decide) _] at w
    exact absurd w (by decide)),
  (fun i hi => by
    rw [f4_z S (k := 130) (by decide) (by decide) (by decide) (by decide) (by decide) _]
    exact ⟨by decide, by decide⟩),
  (fun i hi w => by
    rw [f4_z S (k := 128) (by decide) (by decide) (by decide) (by decide) (by decide) _] at w
    exact absurd w (by decide)),
  (fun i hi => absurd hi (Nat.not_lt_zero i)),
  (fun i hi => absurd hi (Nat.not_lt_zero i)),
  (fun i hi => absurd hi (Nat.not_lt_zero i)),
  (fun i hi => absurd hi (Nat.not_lt_zero i)),
  (fun i hi => absurd hi (Nat.not_lt_zero i)),
  (fun i hi => absurd hi (Nat.not_lt_zero i)),
  (fun i hi => absurd hi (Nat.not_lt_zero i)),
  (fun i hi => absurd hi (Nat.not_lt_zero i)),
  (fun i hi => absurd hi (Nat.not_lt_zero i)),
  (fun i hi => absurd hi (Nat.not_lt_zero i)),
  (fun i hi => absurd hi (Nat.not_lt_zero i)),
  (fun i hi => absurd hi (Nat.not_lt_zero i)),
  (fun i hi => absurd hi (Nat.not_lt_zero i)),
  (fun i hi => absurd hi (Nat.not_lt_zero i)),
  (fun i hi => absurd hi (Nat.not_lt_zero i)),
  (fun i hi => absurd hi (Nat.not_lt_zero i)),
  (fun i hi => absurd hi (Nat.not_lt_zero i)),
  (fun i hi => absurd hi (Nat.not_lt_zero i)),
  (fun i hi => absurd hi (Nat.not_lt_zero i)),
  (fun i j hi => absurd hi (Nat.not_lt_zero i)),
  (fun i hi => absurd hi (Nat.not_lt_zero i)),
  (fun i hi => absurd hi (Nat.not_lt_zero i)),
  (fun i hi => absurd hi (Nat.not_lt_zero i)),
  (fun i hi => absurd hi (Nat.not_lt_zero i)),
  (fun i hi => absurd hi (Nat.not_lt_zero i)),
  (fun i hi => absurd hi (Nat.not_lt_zero i)),
  (fun i hi => absurd hi (Nat.not_lt_zero i)),
  (fun i hi => absurd hi (Nat.not_lt_zero i)),
  (fun i hi => absurd hi (Nat.not_lt_zero i)),
  (fun i hi => Or.inl (f4_z S (k := 204) (by decide) (by decide) (by decide) (by decide) (by decide) _)),
  (fun a b _ _ => (f4_z S (k := 204) (by decide) (by decide) (by decide) (by decide) (by decide) _).trans (f4_z S (k := 204) (by decide) (by decide) (by decide) (by decide) (by decide) _).symm),
  (by
    rw [show fI (fin4 B h) 1408 (B + 41) = 0 from shI S (a := 41) (by decide +kernel)]
    exact ⟨by decide, by decide⟩),
  (fun i hi => absurd hi (Nat.not_lt_zero i)),
  (fun i hi => by
    obtain rfl : i = 0 := (by omega)
    rw [f4_120]
    exact fun w => absurd w (by decide)),
  (fun i hi => absurd hi (Nat.not_lt_zero i)),
  (fun i _ _ => f4_z S (k := 202) (by decide) (by decide) (by decide) (by decide) (by decide) _),
  (fun i _ _ => f4_z S (k := 203) (by decide) (by decide) (by decide) (by decide) (by decide) _),
  (fun i _ _ => f4_z S (k := 143) (by decide) (by decide) (by decide) (by decide) (by decide) _),
  (fun i _ _ => f4_z S (k := 200) (by decide) (by decide) (by decide) (by decide) (by decide) _),
  (fun i _ _ => f4_z S (k := 127) (by decide) (by decide) (by decide) (by decide) (by decide) _)⟩
theorem j_E (S : SH B h ic224) : JE (B + 41) 1 0 0 0 0 (gN B) (mS B) (fin4 B h) :=
  ⟨(fun i hi => by
    obtain rfl : i = 0 := (by omega)
    have e : hsP (aI (fin4 B h) 120 (mS B 120)) (aI (fin4 B h) 121 (mS B 121)) (aI (fin4 B h) 124 (mS B 124)) 1 0 = 0 := by
      show 0 + iF (aI (fin4 B h) 120 (mS B 120) 0 = 0 ∧ bel _ 4 0 0) _ 0 = 0
      have np : ¬ (aI (fin4 B h) 120 (mS B 120) 0 = 0 ∧ bel (aI (fin4 B h) 121 (mS B 121)) 4 0 0) := fun w => by
        have w1 := w.1
        rw [f4_120] at w1
        exact absurd w1 (by decide)
      rw [iF_n np]
      decide
    rw [e]
    exact shI S (a := 39) (by decide +kernel)),
  (fun i hi => by
    obtain rfl : i = 0 := (by omega)
    have e : acI (fun q => iF (aI (fin4 B h) 121 (mS B 121) q = nI 0) 1 0) 1 = 0 := by
      show 0 + iF (aI (fin4 B h) 121 (mS B 121) 0 = nI 0) 1 0 = 0
      have np : ¬ ((-1 : Int32) = nI 0) := by decide
      rw [f4_121, iF_n np]
      decide
    rw [e]
    exact shI S (a := 39) (by decide +kernel)),
  (fun i hi => absurd hi (Nat.not_lt_zero i)),
  (fun i hi => absurd hi (Nat.not_lt_zero i)),
  (fun i hi => absurd hi (Nat.not_lt_zero i)),
  (fun i hi => absurd hi (Nat.not_lt_zero i)),
  (fun i hi => absurd hi (Nat.not_lt_zero i)),
  (Or.inl ⟨shI S (a := 41) (by decide +kernel), shI S (a := 20) (by decide +kernel)⟩),
  (fun i n w hn hi => by
    rw [show fI (fin4 B h) 130 (gN B 0 11) = nI 0 from shI S (a := 20) (by decide +kernel)] at w
    have := (nI_eq (by omega) (by omega)).mp w
    omega)⟩
theorem j_A (S : SH B h ic224) : JA (B + 0) (B + 41) (hn h) (hm h) 1 0 0 0 0 (gN B) (mS B) (fin4 B h) :=
  ⟨j_M S, j_S S, j_C S, j_G S, j_D S, j_W S, j_E S, S.2.2.2.2.2.2.2.2.2, Nat.le_add_right _ _, Nat.le_add_right _ _⟩
theorem ini_n : hn ic224 = 103 := by decide +kernel
theorem ini_m : hm ic224 ≤ 100000 := by decide +kernel
end JINI
