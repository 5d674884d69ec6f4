theorem arI {A : Array Value} {s : State} {t : FieldType} (h : (Cond.arrayClass t).before A s = true) (hne : ∀ n, t ≠ .object n) : ∃ cA, ArrOfT s cA t ∧ va_RA s cA t := by
  obtain ⟨cA, k, comp, h1, h2, h3⟩ := Cond.arrayClass_spec h
  refine ⟨cA, fun n z => ⟨fun k h => (by cases h), k, h2, comp, h3⟩, ?_⟩
  cases t with
  | object n => exact absurd rfl (hne n)
  | _ => exact h1
theorem arR {A : Array Value} {s : State} {C : String} (h : (Cond.arrayOver (.object C)).before A s = true) : ∃ cA, ArrOfT s cA (.object C) ∧ va_RA s cA (.object C) ∧ va_AO C s := by
  obtain ⟨comp, cA, kA, h1, h2, h3, h4, h5⟩ := Cond.arrayOver_spec h
  exact ⟨cA, fun n z => ⟨fun k h => (by cases h), kA, h3, comp, h4⟩, ⟨kA, comp, h3, h4, h1, h5⟩, va_AO.of h⟩
theorem inst_ok : ∀ c, c < 12 → Cond.instantiable (RR c) (NN c) ∈ lw_T := by
  intro c hc
  rcases (show c = 0 ∨ c = 1 ∨ c = 2 ∨ c = 3 ∨ c = 4 ∨ c = 5 ∨ c = 6 ∨ c = 7 ∨ c = 8 ∨ c = 9 ∨ c = 10 ∨ c = 11 by omega) with rfl | rfl | rfl | rfl | rfl | rfl | rfl | rfl | rfl | rfl | rfl | rfl
  · exact nc_X10_21.2.2.1
  · exact nc_X10_73.2.2.1
  · exact nc_X10_59.2.2.1
  · exact nc_X10_27.2.2.1
  · exact nc_X10_39.2.2.1
  · exact nc_X10_9.2.2.1
  · exact nc_X10_66.2.2.1
  · exact nc_X10_33.2.2.1
  · exact nc_X10_52.2.2.1
  · exact nc_X10_15.2.2.1
  · exact nc_L_7.2.2.1
  · exact nc_L_10.2.2.1
section START
variable {s : State} {b L : Nat} {xs : Nat → Int32}
theorem startX (hts : ∀ w ∈ lw_tbl, w.before #[Value.ref b] s = true) (hgv : (Jvm.Cond.and given_1 narrow_1).before #[Value.ref b] s = true) (hX : va_X b L xs s s.heap) (hbl : b < s.heap.size) : ∃ G : Gh, gB G = s.heap.size ∧ gX G = b ∧ gL G = L ∧ gXs G = xs ∧ StX G s s.heap := by
  have hA : ∀ a : Nat, a < s.heap.size → ¬ (fun q : Nat => s.heap.size ≤ q) a := fun a h => Nat.not_le.mpr h
  have hlt : ∀ w ∈ lw_T, w.before #[Value.ref b] s = true := fun w hw => hts w (List.mem_filter.mp hw).1
  have hs := flat_of_before _ hgv
  have kn0 : ∀ c, c < 12 → ∃ q : ClassId × (Nat → Nat), u_Kn s (RR c) (TT c) (NN c) q.1 q.2 := by
    intro c hc
    obtain ⟨cC, iS, h⟩ := u_known hlt (cls_ok c hc).1 (hlt _ (inst_ok c hc))
    exact ⟨(cC, iS), h⟩
  obtain ⟨q0, -⟩ := kn0 0 (by decide)
  have kn : ∀ c : Nat, ∃ q : ClassId × (Nat → Nat), c < 12 → u_Kn s (RR c) (TT c) (NN c) q.1 q.2 := by
    intro c
    by_cases hc : c < 12
    · obtain ⟨q, h⟩ := kn0 c hc
      exact ⟨q, fun _ => h⟩
    · exact ⟨q0, fun h => absurd h hc⟩
  obtain ⟨q, hq⟩ := Classical.axiomOfChoice kn
  obtain ⟨aI0, hI⟩ := arI (t := .int) (hlt _ wd_aI) (fun n h => by cases h)
  obtain ⟨aZ0, hZ⟩ := arI (t := .boolean) (hlt _ wd_aZ) (fun n h => by cases h)
  obtain ⟨aL0, hL⟩ := arI (t := .long) (hlt _ wd_aL) (fun n h => by cases h)
  obtain ⟨r0, h0⟩ := arR (C := RR 0) (hts _ (lw_at 146 (by decide +kernel)))
  obtain ⟨r3, h3⟩ := arR (C := RR 3) (hts _ (lw_at 148 (by decide +kernel)))
  obtain ⟨r4, h4⟩ := arR (C := RR 4) (hts _ (lw_at 152 (by decide +kernel)))
  obtain ⟨r5, h5⟩ := arR (C := RR 5) (hts _ (lw_at 142 (by decide +kernel)))
  obtain ⟨r7, h7⟩ := arR (C := RR 7) (hts _ (lw_at 150 (by decide +kernel)))
  obtain ⟨r9, h9⟩ := arR (C := RR 9) (hts _ (lw_at 144 (by decide +kernel)))
  have j0 : (Term.elem (.static JOINS_C "JOINS" "[I") (.int (Int32.ofNat 0))).eval #[Value.ref b] s none [] s = some (.int (jnV 0)) := va_eqt (hs _ (by decide +kernel))
  have j1 : (Term.elem (.static JOINS_C "JOINS" "[I") (.int (Int32.ofNat 1))).eval #[Value.ref b] s none [] s = some (.int (jnV 1)) := va_eqt (hs _ (by decide +kernel))
  have j2 : (Term.elem (.static JOINS_C "JOINS" "[I") (.int (Int32.ofNat 2))).eval #[Value.ref b] s none [] s = some (.int (jnV 2)) := va_eqt (hs _ (by decide +kernel))
  have jl : (Term.length (.static JOINS_C "JOINS" "[I")).eval #[Value.ref b] s none [] s = some (.int (Int32.ofNat 3)) := va_eqt (hs _ (by decide +kernel))
  obtain ⟨tj, htj, hTj⟩ := va_Tof (tm := .static JOINS_C "JOINS" "[I") (ty := .int) (N := 3) (f := fun j => .int (jnV j)) (A := fun q : Nat => s.heap.size ≤ q) (by decide) (hs _ (by decide +kernel)) jl (fun j hj => by
    rcases (show j = 0 ∨ j = 1 ∨ j = 2 by omega) with rfl | rfl | rfl
    · exact j0
    · exact j1
    · exact j2) hA
  have zJ := va_Zof (C := JOINS_C) (n := "JOINS") (d := "[I") (A := fun q : Nat => s.heap.size ≤ q) (hts _ (lw_at 1115 (by decide +kernel))) (hts _ (lw_at 118 (by decide +kernel))) htj hA
  obtain ⟨adK, adV, hST, hKT⟩ := vk_Sof (args := #[Value.ref b]) (s := s) (N := 1) (tm := fun _ => .string RX8 15) (len := [8]) (byt := [fldL]) (A := fun q : Nat => s.heap.size ≤ q) (fun i hi => by
      obtain rfl : i = 0 := (by omega)
      decide) (fun i _ => hs _ (by decide +kernel)) (fun i _ => hs _ (by decide +kernel)) (fun i _ => hs _ (by decide +kernel)) (fun i hi => by
      obtain rfl : i = 0 := (by omega)
      exact hs _ (by decide +kernel)) (fun i hi j hj => by
      obtain rfl : i = 0 := (by omega)
      have hj8 : j < 8 := hj
      rcases (show j = 0 ∨ j = 1 ∨ j = 2 ∨ j = 3 ∨ j = 4 ∨ j = 5 ∨ j = 6 ∨ j = 7 by omega) with rfl | rfl | rfl | rfl | rfl | rfl | rfl | rfl <;> exact hs _ (by decide +kernel)) (fun i j hi hj hij => absurd (show i = j by omega) hij) hA
  have zC := va_Zof (C := "java/lang/String") (n := "COMPACT_STRINGS") (d := "Z") (v := .int 1) (A := fun q : Nat => s.heap.size ≤ q) (hts _ (lw_at 169 (by decide +kernel))) (hts _ (lw_at 115 (by decide +kernel))) (va_eqi (hs _ (by decide +kernel))) hA
  have zS : ∃ x : Option Nat, va_Z "jdk/internal/util/Preconditions" "SIOOBE_FORMATTER" "Ljava/util/function/BiFunction;" (va_rf x) (fun q : Nat => s.heap.size ≤ q) s s.heap := by
    rcases va_Zqof (C := "jdk/internal/util/Preconditions") (n := "SIOOBE_FORMATTER") (d := "Ljava/util/function/BiFunction;") (A := fun q : Nat => s.heap.size ≤ q) (hts _ (lw_at 795 (by decide +kernel))) (hts _ (lw_at 128 (by decide +kernel))) (hs _ (by decide +kernel)) hA with z | ⟨t, z⟩
    · exact ⟨none, z⟩
    · exact ⟨some t, z⟩
  obtain ⟨gp, zS⟩ := zS
  have zK : va_Nw (.castable "[J" "java/lang/Cloneable") s := va_Nw.of rfl (hts _ (lw_at 521 (by decide +kernel)))
  have zR : vk_R "ComplaintBooks$RuleReader" 15 "nbhtmwdy" (adK 0) s := vk_R.of (A := #[Value.ref b]) (hts _ (lw_at 159 (by decide +kernel))) (hKT 0 (by decide))
  refine ⟨(fun c => (q c).1, fun c => (q c).2, fun t => if t = 0 then aI0 else if t = 1 then aZ0 else if t = 2 then aL0 else if t = 10 then r0 else if t = 13 then r3 else if t = 14 then r4 else if t = 15 then r5 else if t = 17 then r7 else r9, s.heap.size, tj, adK 0, adV 0, gp, b, L, xs), rfl, rfl, rfl, rfl, ⟨fun c hc => hq c hc, hI, hZ, hL, fun c hc => ?_⟩, fun w hw => va_Nw.of (by
    have hi : lw_isN w = true := (List.mem_filter.mp hw).2
    cases w <;> first | rfl | (cases hi)) (hts w (List.mem_filter.mp hw).1), ⟨zJ, hTj⟩, zR, ⟨fun i hi => by
      obtain rfl : i = 0 := (by omega)
      exact hST.1 0 hi, fun i j hi hj _ => by omega⟩, zC, zS, zK, hX, hbl⟩
  rcases hc with rfl | rfl | rfl | rfl | rfl | rfl
  · exact h0
  · exact h3
  · exact h4
  · exact h5
  · exact h7
  · exact h9
end START
