/-- sums of naturals -/
def suN (f : Nat → Nat) : Nat → Nat
  | 0 => 0
  | n + 1 => suN f n + f n
theorem suN_add (f : Nat → Nat) (n k : Nat) : suN f (n + k) = suN f n + suN (fun p => f (n + p)) k := by
  induction k with
  | zero => rfl
  | succ k ih =>
    show suN f (n + k) + f (n + k) = suN f n + (suN (fun p => f (n + p)) k + f (n + k))
    rw [ih, Nat.add_assoc]
theorem suN_congr {f f2 : Nat → Nat} {n : Nat} (h : ∀ i, i < n → f i = f2 i) : suN f n = suN f2 n := by
  induction n with
  | zero => rfl
  | succ n ih => rw [suN, suN, ih (fun i hi => h i (by omega)), h n (by omega)]
theorem acI_nI (f : Nat → Nat) (n : Nat) : acI (fun p => nI (f p)) n = nI (suN f n) := by
  induction n with
  | zero => rfl
  | succ n ih => rw [acI, suN, ih, nI_add]
def q1 (m x : Nat) : Nat := x - ((x / 2) &&& m)
def q2 (m x : Nat) : Nat := (x &&& m) + ((x / 4) &&& m)
def q3 (m x : Nat) : Nat := (x + x / 16) &&& m
theorem dg {a m y M : Nat} (ha : a < 256) (hm : m < 256) : (a + 256 * y) &&& (m + 256 * M) = (a &&& m) + 256 * (y &&& M) := by
  apply Nat.eq_of_testBit_eq
  intro j
  have e : (256 : Nat) = 2 ^ 8 := rfl
  have h3 : a &&& m < 2 ^ 8 := Nat.lt_of_le_of_lt Nat.and_le_left ha
  rw [Nat.testBit_and, Nat.add_comm a, Nat.add_comm m, Nat.add_comm (a &&& m), e, Nat.testBit_two_pow_mul_add _ (show a < 2 ^ 8 from ha), Nat.testBit_two_pow_mul_add _ (show m < 2 ^ 8 from hm), Nat.testBit_two_pow_mul_add _ h3]
  by_cases c : j < 8
  · rw [if_pos c, if_pos c, if_pos c, Nat.testBit_and]
  · rw [if_neg c, if_neg c, if_neg c, Nat.testBit_and]
theorem dA1 : ∀ a, a < 256 → ∀ t, t < 2 → (a / 2 + 128 * t) &&& 85 = (a / 2) &&& 85 := by decide +kernel
theorem dA2 : ∀ a, a < 256 → ∀ t, t < 4 → (a / 4 + 64 * t) &&& 51 = (a / 4) &&& 51 := by decide +kernel
theorem dA3 : ∀ a, a < 69 → ∀ t, t < 7 → (a + a / 16 + 16 * t) &&& 15 = q3 15 a := by decide +kernel
theorem dB : ∀ a, a < 256 → q2 51 (q1 85 a) < 69 ∧ q2 51 (q1 85 a) % 16 < 7 := by decide +kernel
theorem dP : ∀ a, a < 256 → q3 15 (q2 51 (q1 85 a)) = suN (fun p => a / 2 ^ p % 2) 8 := by decide +kernel
theorem q1_d {a y M : Nat} (ha : a < 256) : q1 (85 + 256 * M) (a + 256 * y) = q1 85 a + 256 * q1 M y := by
  unfold q1
  have e1 : (a + 256 * y) / 2 = (a / 2 + 128 * (y % 2)) + 256 * (y / 2) := by omega
  rw [e1, dg (by omega) (by decide), dA1 a ha _ (by omega)]
  have u : (a / 2) &&& 85 ≤ a := Nat.le_trans Nat.and_le_left (by omega)
  have v : (y / 2) &&& M ≤ y := Nat.le_trans Nat.and_le_left (by omega)
  omega
theorem q1_le (m x : Nat) : q1 m x ≤ x := Nat.sub_le _ _
theorem q2_d {a y M : Nat} (ha : a < 256) : q2 (51 + 256 * M) (a + 256 * y) = q2 51 a + 256 * q2 M y := by
  unfold q2
  have e1 : (a + 256 * y) / 4 = (a / 4 + 64 * (y % 4)) + 256 * (y / 4) := by omega
  rw [e1, dg ha (by decide), dg (by omega) (by decide), dA2 a ha _ (by omega)]
  omega
theorem q3_d {a y M : Nat} (ha : a < 69) (hy : y % 16 < 7) : q3 (15 + 256 * M) (a + 256 * y) = q3 15 a + 256 * q3 M y := by
  show (a + 256 * y + (a + 256 * y) / 16) &&& (15 + 256 * M) = _
  have e1 : a + 256 * y + (a + 256 * y) / 16 = (a + a / 16 + 16 * (y % 16)) + 256 * (y + y / 16) := by omega
  rw [e1, dg (by omega) (by decide), dA3 a ha _ hy]
  rfl
def pq (m5 m3 mF x : Nat) : Nat := q3 mF (q2 m3 (q1 m5 x))
theorem pq_d {a y M5 M3 MF : Nat} (ha : a < 256) (hy : q2 M3 (q1 M5 y) % 16 < 7) : pq (85 + 256 * M5) (51 + 256 * M3) (15 + 256 * MF) (a + 256 * y) = pq 85 51 15 a + 256 * pq M5 M3 MF y := by
  unfold pq
  rw [q1_d ha, q2_d (Nat.lt_of_le_of_lt (q1_le _ _) ha), q3_d (dB a ha).1 hy]
theorem fX {a y : Nat} (ha : a < 256) (k : Nat) : suN (fun p => (a + 256 * y) / 2 ^ p % 2) (8 + k) = suN (fun p => a / 2 ^ p % 2) 8 + suN (fun p => y / 2 ^ p % 2) k := by
  rw [suN_add]
  congr 1
  · apply suN_congr
    intro i hi
    have : i = 0 ∨ i = 1 ∨ i = 2 ∨ i = 3 ∨ i = 4 ∨ i = 5 ∨ i = 6 ∨ i = 7 := by omega
    rcases this with e | e | e | e | e | e | e | e <;> subst e <;> simp only [Nat.reducePow] <;> omega
  · apply suN_congr
    intro i hi
    rw [Nat.pow_add, ← Nat.div_div_eq_div_mul, show (a + 256 * y) / 2 ^ 8 = y by omega]
theorem fin64 {A B C D : Nat} (la : A ≤ 8) (lb : B ≤ 8) (lc : C ≤ 8) (ld : D ≤ 8) : (A + 256 * (B + 256 * (C + 256 * D)) + (A + 256 * (B + 256 * (C + 256 * D))) / 256 + (A + 256 * (B + 256 * (C + 256 * D)) + (A + 256 * (B + 256 * (C + 256 * D))) / 256) / 65536) % 64 = A + (B + (C + D)) ∧ A + 256 * (B + 256 * (C + 256 * D)) < 2 ^ 28 := by
  have d1 : (A + 256 * (B + 256 * (C + 256 * D))) / 256 = B + 256 * (C + 256 * D) := by omega
  have d2 : (A + 256 * (B + 256 * (C + 256 * D)) + (B + 256 * (C + 256 * D))) / 65536 = C + D + 256 * D := by omega
  rw [d1, d2]
  constructor <;> omega
theorem pqX {X : Nat} (hX : X < 2 ^ 32) : (q3 252645135 (q2 858993459 (q1 1431655765 X)) + q3 252645135 (q2 858993459 (q1 1431655765 X)) / 256 + (q3 252645135 (q2 858993459 (q1 1431655765 X)) + q3 252645135 (q2 858993459 (q1 1431655765 X)) / 256) / 65536) % 64 = suN (fun p => X / 2 ^ p % 2) 32 ∧ q3 252645135 (q2 858993459 (q1 1431655765 X)) < 2 ^ 28 := by
  obtain ⟨a, b, c, d, ha, hb, hc, hd, e⟩ : ∃ a b c d, a < 256 ∧ b < 256 ∧ c < 256 ∧ d < 256 ∧ X = a + 256 * (b + 256 * (c + 256 * d)) := ⟨X % 256, X / 256 % 256, X / 65536 % 256, X / 16777216, by omega, by omega, by omega, by omega, by omega⟩
  have i1 : q2 51 (q1 85 d) % 16 < 7 := (dB d hd).2
  have i2 : q2 (51 + 256 * 51) (q1 (85 + 256 * 85) (c + 256 * d)) % 16 < 7 := by
    rw [q1_d hc, q2_d (Nat.lt_of_le_of_lt (q1_le _ _) hc)]
    have := (dB c hc).2
    omega
  have i3 : q2 (51 + 256 * (51 + 256 * 51)) (q1 (85 + 256 * (85 + 256 * 85)) (b + 256 * (c + 256 * d))) % 16 < 7 := by
    rw [q1_d hb, q2_d (Nat.lt_of_le_of_lt (q1_le _ _) hb)]
    have := (dB b hb).2
    omega
  have E : q3 252645135 (q2 858993459 (q1 1431655765 X)) = pq 85 51 15 a + 256 * (pq 85 51 15 b + 256 * (pq 85 51 15 c + 256 * pq 85 51 15 d)) := by
    have h1 := pq_d (M5 := 85 + 256 * (85 + 256 * 85)) (M3 := 51 + 256 * (51 + 256 * 51)) (MF := 15 + 256 * (15 + 256 * 15)) ha i3
    have h2 := pq_d (M5 := 85 + 256 * 85) (M3 := 51 + 256 * 51) (MF := 15 + 256 * 15) hb i2
    have h3 := pq_d (M5 := 85) (M3 := 51) (MF := 15) hc i1
    rw [h3] at h2
    rw [h2] at h1
    rw [e]
    exact h1
  have S : suN (fun p => X / 2 ^ p % 2) 32 = suN (fun p => a / 2 ^ p % 2) 8 + (suN (fun p => b / 2 ^ p % 2) 8 + (suN (fun p => c / 2 ^ p % 2) 8 + suN (fun p => d / 2 ^ p % 2) 8)) := by
    rw [e, show (32 : Nat) = 8 + (8 + (8 + 8)) from rfl, fX ha, fX hb, fX hc]
  have pa : pq 85 51 15 a = suN (fun p => a / 2 ^ p % 2) 8 := dP a ha
  have pb : pq 85 51 15 b = suN (fun p => b / 2 ^ p % 2) 8 := dP b hb
  have pc : pq 85 51 15 c = suN (fun p => c / 2 ^ p % 2) 8 := dP c hc
  have pd : pq 85 51 15 d = suN (fun p => d / 2 ^ p % 2) 8 := dP d hd
  have le : ∀ z, suN (fun p => z / 2 ^ p % 2) 8 ≤ 8 := by
    intro z
    simp only [suN]
    omega
  have la := le a
  have lb := le b
  have lc := le c
  have ld := le d
  rw [E, S, pa, pb, pc, pd]
  exact fin64 la lb lc ld
theorem tnI {x : Int32} : x = nI x.toBitVec.toNat := by
  apply Int32.toBitVec_inj.mp
  apply BitVec.eq_of_toNat_eq
  rw [pk_tn x.toBitVec.isLt]
theorem tn_inj {x : Int32} {n : Nat} (h : x.toBitVec.toNat = n) : x = nI n := by rw [← h]; exact tnI
theorem q1_lt {m x : Nat} (h : x < 2 ^ 32) : q1 m x < 2 ^ 32 := Nat.lt_of_le_of_lt (q1_le _ _) h
theorem tb_d (v : Int32) (p : Nat) : bI (tb v p) = nI (v.toBitVec.toNat / 2 ^ p % 2) := by
  have e : tb v p = (v.toBitVec.toNat / 2 ^ p % 2 = 1) := by
    unfold tb
    rw [Nat.testBit_eq_decide_div_mod_eq]
    exact propext decide_eq_true_iff
  by_cases c : v.toBitVec.toNat / 2 ^ p % 2 = 1
  · rw [bI_y (by rw [e]; exact c), c]
    rfl
  · rw [bI_n (by rw [e]; exact c), show v.toBitVec.toNat / 2 ^ p % 2 = 0 by omega]
    rfl
theorem bitCount_e (v : Int32) (h : Hp) (Q : Int32 → Hp → Prop) : w_J6_bitCount_0f7a4 v h Q = Q (acI (fun p => bI (tb v p)) 32) h := by
  have hX := v.toBitVec.isLt
  have hz := pqX hX
  have R : acI (fun p => bI (tb v p)) 32 = nI (suN (fun p => v.toBitVec.toNat / 2 ^ p % 2) 32) := by
    rw [← acI_nI]
    exact acI_congr (fun i _ => tb_d v i)
  unfold w_J6_bitCount_0f7a4 n_J6_bitCount_0f7a4_0
  simp only [lt_e]
  rw [R, ← hz.1]
  have s1 : (v - ((((v : Int32).toUInt32 >>> ((1 : Int32).toUInt32 &&& 31)).toInt32) &&& 1431655765)).toBitVec.toNat = q1 1431655765 v.toBitVec.toNat := by
    rw [Int32.toBitVec_sub, Int32.toBitVec_and, BitVec.toNat_sub, BitVec.toNat_and]
    have a1 := pk_ushr v 1 1 (by decide)
    rw [show ((1 : Int32).toUInt32 &&& 31) = ((1 : Int32).toUInt32 &&& Int32.toUInt32 31) from rfl, a1]
    have c : (1431655765 : Int32).toBitVec.toNat = 1431655765 := by decide
    rw [c]
    unfold q1
    have u : (v.toBitVec.toNat / 2 ^ 1) &&& 1431655765 ≤ v.toBitVec.toNat := Nat.le_trans Nat.and_le_left (by omega)
    rw [show v.toBitVec.toNat / 2 ^ 1 = v.toBitVec.toNat / 2 from rfl] at u ⊢
    omega
  generalize (v - ((((v : Int32).toUInt32 >>> ((1 : Int32).toUInt32 &&& 31)).toInt32) &&& 1431655765)) = x1 at s1 ⊢
  have s2 : ((x1 &&& 858993459) + ((((x1 : Int32).toUInt32 >>> ((2 : Int32).toUInt32 &&& 31)).toInt32) &&& 858993459)).toBitVec.toNat = q2 858993459 (q1 1431655765 v.toBitVec.toNat) := by
    rw [Int32.toBitVec_add, Int32.toBitVec_and, Int32.toBitVec_and, BitVec.toNat_add, BitVec.toNat_and, BitVec.toNat_and]
    have a1 := pk_ushr x1 2 2 (by decide)
    rw [show ((2 : Int32).toUInt32 &&& 31) = ((2 : Int32).toUInt32 &&& Int32.toUInt32 31) from rfl, a1, s1]
    have c : (858993459 : Int32).toBitVec.toNat = 858993459 := by decide
    rw [c]
    unfold q2
    rw [show q1 1431655765 v.toBitVec.toNat / 2 ^ 2 = q1 1431655765 v.toBitVec.toNat / 4 from rfl]
    have u1 : q1 1431655765 v.toBitVec.toNat &&& 858993459 ≤ 858993459 := Nat.and_le_right
    have u2 : (q1 1431655765 v.toBitVec.toNat / 4) &&& 858993459 ≤ 858993459 := Nat.and_le_right
    exact Nat.mod_eq_of_lt (by omega)
  generalize ((x1 &&& 858993459) + ((((x1 : Int32).toUInt32 >>> ((2 : Int32).toUInt32 &&& 31)).toInt32) &&& 858993459)) = x2 at s2 ⊢
  have b2 : q2 858993459 (q1 1431655765 v.toBitVec.toNat) ≤ 858993459 * 2 := by
    unfold q2
    have u1 : q1 1431655765 v.toBitVec.toNat &&& 858993459 ≤ 858993459 := Nat.and_le_right
    have u2 : (q1 1431655765 v.toBitVec.toNat / 4) &&& 858993459 ≤ 858993459 := Nat.and_le_right
    omega
  have s3 : ((x2 + (((x2 : Int32).toUInt32 >>> ((4 : Int32).toUInt32 &&& 31)).toInt32)) &&& 252645135).toBitVec.toNat = q3 252645135 (q2 858993459 (q1 1431655765 v.toBitVec.toNat)) := by
    rw [Int32.toBitVec_and, Int32.toBitVec_add, BitVec.toNat_and, BitVec.toNat_add]
    have a1 := pk_ushr x2 4 4 (by decide)
    rw [show ((4 : Int32).toUInt32 &&& 31) = ((4 : Int32).toUInt32 &&& Int32.toUInt32 31) from rfl, a1, s2]
    have c : (252645135 : Int32).toBitVec.toNat = 252645135 := by decide
    rw [c]
    unfold q3
    rw [show q2 858993459 (q1 1431655765 v.toBitVec.toNat) / 2 ^ 4 = q2 858993459 (q1 1431655765 v.toBitVec.toNat) / 16 from rfl, Nat.mod_eq_of_lt (show q2 858993459 (q1 1431655765 v.toBitVec.toNat) + q2 858993459 (q1 1431655765 v.toBitVec.toNat) / 16 < 2 ^ 32 by omega)]
  generalize ((x2 + (((x2 : Int32).toUInt32 >>> ((4 : Int32).toUInt32 &&& 31)).toInt32)) &&& 252645135) = x3 at s3 ⊢
  have b3 := hz.2
  generalize q3 252645135 (q2 858993459 (q1 1431655765 v.toBitVec.toNat)) = Z at s3 b3 ⊢
  have s4 : (x3 + (((x3 : Int32).toUInt32 >>> ((8 : Int32).toUInt32 &&& 31)).toInt32)).toBitVec.toNat = Z + Z / 256 := by
    rw [Int32.toBitVec_add, BitVec.toNat_add]
    have a1 := pk_ushr x3 8 8 (by decide)
    rw [show ((8 : Int32).toUInt32 &&& 31) = ((8 : Int32).toUInt32 &&& Int32.toUInt32 31) from rfl, a1, s3]
    exact Nat.mod_eq_of_lt (by omega)
  generalize (x3 + (((x3 : Int32).toUInt32 >>> ((8 : Int32).toUInt32 &&& 31)).toInt32)) = x4 at s4 ⊢
  have s5 : (x4 + (((x4 : Int32).toUInt32 >>> ((16 : Int32).toUInt32 &&& 31)).toInt32)).toBitVec.toNat = Z + Z / 256 + (Z + Z / 256) / 65536 := by
    rw [Int32.toBitVec_add, BitVec.toNat_add]
    have a1 := pk_ushr x4 16 16 (by decide)
    rw [show ((16 : Int32).toUInt32 &&& 31) = ((16 : Int32).toUInt32 &&& Int32.toUInt32 31) from rfl, a1, s4]
    exact Nat.mod_eq_of_lt (by omega)
  rw [pk_and _ 6 (by decide), s5]
theorem tb_0 (p : Nat) : tb 0 p = False := by
  unfold tb
  rw [show (0 : Int32).toBitVec.toNat = 0 from rfl, Nat.zero_testBit]
  simp
theorem sh1 {j : Nat} (hj : j < 32) : (1 <<< (nI j &&& 31) : Int32).toBitVec.toNat = 2 ^ j := by
  have e : nI j &&& 31 = nI j := by
    rw [pk_andN (by omega) 5 (by decide)]
    congr 1
    exact Nat.mod_eq_of_lt hj
  rw [e, pk_shl 1 (nI j) j (tb_31 j hj), show (1 : Int32).toBitVec.toNat = 1 from rfl, Nat.one_mul]
  exact Nat.mod_eq_of_lt (Nat.pow_lt_pow_right (by decide) hj)
theorem sh0 {j : Nat} (hj : j < 32) : (0 <<< (nI j &&& 31) : Int32) = 0 := by
  have e : nI j &&& 31 = nI j := by
    rw [pk_andN (by omega) 5 (by decide)]
    congr 1
    exact Nat.mod_eq_of_lt hj
  have := pk_shl 0 (nI j) j (tb_31 j hj)
  rw [show (0 : Int32).toBitVec.toNat = 0 from rfl, Nat.zero_mul] at this
  rw [e]
  exact tn_inj this
theorem tb_1 {j p : Nat} (hj : j < 32) : tb (1 <<< (nI j &&& 31)) p = (p = j) := by
  unfold tb
  rw [sh1 hj, Nat.testBit_two_pow]
  apply propext
  rw [decide_eq_true_iff]
  exact eq_comm
theorem tb_or (a b : Int32) (p : Nat) : tb (a ||| b) p = (tb a p ∨ tb b p) := by
  unfold tb
  rw [Int32.toBitVec_or, BitVec.toNat_or, Nat.testBit_or, Bool.or_eq_true]
theorem tb_and (a b : Int32) (p : Nat) : tb (a &&& b) p = (tb a p ∧ tb b p) := by
  unfold tb
  rw [Int32.toBitVec_and, BitVec.toNat_and, Nat.testBit_and, Bool.and_eq_true]
theorem tb_xor (a b : Int32) (p : Nat) : tb (a ^^^ b) p = ¬ (tb a p ↔ tb b p) := by
  unfold tb
  rw [Int32.toBitVec_xor, BitVec.toNat_xor, Nat.testBit_xor]
  apply propext
  cases a.toBitVec.toNat.testBit p <;> cases b.toBitVec.toNat.testBit p <;> simp
