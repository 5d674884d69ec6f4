theorem fL_cg {P P2 : Nat → Prop} : ∀ {n : Nat}, (∀ b, b < n → (P2 b ↔ P b)) → fL P2 n = fL P n := by
  intro n
  induction n with
  | zero => intro _; rfl
  | succ n ih =>
    intro h
    have i := ih (fun b hb => h b (by omega))
    by_cases c : P n
    · rw [fL_y c, fL_y ((h n (by omega)).mpr c), i]
    · rw [fL_n c, fL_n (fun w => c ((h n (by omega)).mp w)), i]
section GATF
variable {x y b0 s0 np na nm nr ne : Nat} {g : Nat → Nat → Nat} {m : Nat → Nat} {h : Hp}
theorem gs_key (hW : JW y np na nm nr ne m h) (hb : np ≤ 24) (u k q : Nat) (hq : q < 24) (hk : k < 128) {b : Nat} (h1 : b < na) : gsP h m u (24 * k + q) b ↔ (aI h 121 (m 121) q = nI u ∧ gaP h m k q b) := by
  obtain ⟨w, v, p, w1, v1, p1, e1, e2, e3, e4⟩ := ky_e hW hb h1
  have ea : atN h m b = p := by unfold atN; rw [e3, nI_clamp (by omega)]
  have ec : 8 * aI h 133 (m 133) b + aI h 134 (m 134) b = nI (8 * w + v) := by
    rw [e1, e2, show (8 : Int32) = nI 8 from rfl, pk_mul, nI_add]
  unfold gsP gaP
  rw [ea, e3, ec, e4, nI_eq (by omega) (by omega), nI_eq (by omega) (by omega)]
  constructor
  · rintro ⟨a1, a2, a3⟩
    have : p = q := by omega
    exact ⟨by rw [← this]; exact a1, this, by omega, a2⟩
  · rintro ⟨a1, a2, a3, a4⟩
    exact ⟨by rw [a2]; exact a1, a4, by omega⟩
theorem gs_code (hW : JW y np na nm nr ne m h) (hb : np ≤ 24) (u k : Nat) (hk : k < 128) : bkL (fun key => fL (gsP h m u key) na) (24 * (k + 1)) = bkL (fun key => fL (gsP h m u key) na) (24 * k) ++ gaL h m na u k np := by
  have low : ∀ q, q ≤ np → bkL (fun key => fL (gsP h m u key) na) (24 * k + q) = bkL (fun key => fL (gsP h m u key) na) (24 * k) ++ gaL h m na u k q := by
    intro q
    induction q with
    | zero =>
      intro _
      show _ = _ ++ []
      rw [List.append_nil]
      rfl
    | succ q ih =>
      intro hq
      show bkL (fun key => fL (gsP h m u key) na) (24 * k + q) ++ fL (gsP h m u (24 * k + q)) na = _ ++ (gaL h m na u k q ++ _)
      rw [ih (by omega), List.append_assoc]
      congr 2
      by_cases c : aI h 121 (m 121) q = nI u
      · rw [iF_y c]
        exact fL_cg (fun b hb2 => (gs_key hW hb u k q (by omega) hk hb2).trans ⟨fun z => z.2, fun z => ⟨c, z⟩⟩)
      · rw [iF_n c]
        exact fL_0 (fun b hb2 w => c ((gs_key hW hb u k q (by omega) hk hb2).mp w).1)
  have high : ∀ d, np + d ≤ 24 → bkL (fun key => fL (gsP h m u key) na) (24 * k + (np + d)) = bkL (fun key => fL (gsP h m u key) na) (24 * k) ++ gaL h m na u k np := by
    intro d
    induction d with
    | zero => intro _; exact low np (Nat.le_refl _)
    | succ d ih =>
      intro hd
      show bkL (fun key => fL (gsP h m u key) na) (24 * k + (np + d)) ++ fL (gsP h m u (24 * k + (np + d))) na = _
      rw [ih (by omega), fL_0 (fun b hb2 w => ?_), List.append_nil]
      have w2 := ((gs_key hW hb u k (np + d) (by omega) hk hb2).mp w).2.1
      obtain ⟨p, p1, p2⟩ := vp_ex (hW.w_at b hb2)
      rw [p2] at w2
      have := (nI_eq (by omega) (by omega)).mp w2
      omega
  have := high (24 - np) (by omega)
  rw [show 24 * k + (np + (24 - np)) = 24 * (k + 1) by omega] at this
  exact this
end GATF
