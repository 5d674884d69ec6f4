section LOOPW
variable {p : Program} {l : Launch} {e : Env} {s : State} {m : MethodId} {args : Array Value} {below : List Frame} {meth : Method} {c : Code} {Qw : State → Prop} {G : Gh} {x y b0 s0 : Nat} {mm : Nat → Nat}
theorem sub6 {L : Nat} (h : L ≤ 3072) : (Int32.ofNat L - 6).toInt = (L : Int) - 6 := by
  have e1 : (Int32.ofNat L).toInt = (L : Int) := nI_toInt (n := L) (by omega)
  have e6 : (6 : Int32).toInt = 6 := by decide
  rw [Int32.toInt_sub, e1, e6]
  exact Int.bmod_eq_of_le (by omega) (by omega)
/-- the loop's test -/
theorem L_test {H : Heap} {locs : List Loc} {ls : Array Slot} {cells slots i : Nat} (C : LX G p s m args meth c) (hS : va_S (gFree G) s.heap H locs) (hl : lv_has ls 4 (LV G x y i)) (hi : i ≤ 4000) (kt : ¬ i + 6 ≤ gL G → W p l e room_1 s m args below meth c H locs cells slots Qw (F0 m 1882 ls [])) (kf : i + 6 ≤ gL G → W p l e room_1 s m args below meth c H locs cells slots Qw (F0 m 27 ls [])) : W p l e room_1 s m args below meth c H locs cells slots Qw (F0 m 18 ls []) := by
  have hx := C.1.1
  have hb := C.1.2.1
  have hL := C.2.2
  obtain ⟨hB1, hB2⟩ := C.1.2.2.2.2.2.2.2.1.2.2.2.2.2.2.2.2
  have ei : (nI i).toInt = (i : Int) := nI_toInt (by omega)
  have el := sub6 hL
  refine lv_iload_n hx hb dL_law_18 rfl (lv_at hl 3 rfl) ?_
  refine lv_aload_n hx hb dL_law_19 rfl (lv_at hl 0 rfl) ?_
  refine va_slen hx hb hB1 C.2.1 (Nat.not_le.mpr hB2) hS dL_law_20 ?_
  refine lv_bipush (v := 6) hx hb dL_law_21 (by decide) ?_
  refine lv_isub hx hb dL_law_23 ?_
  refine lv_icmp_gt (tgt := 1882) hx hb dL_law_24 (by decide) (fun z => kt ?_) (fun z => kf ?_)
  · rw [Int32.lt_iff_toInt_lt, el, ei] at z
    omega
  · rw [Int32.lt_iff_toInt_lt, el, ei] at z
    omega
/-- one turn's end -/
theorem L_next {H : Heap} {locs : List Loc} {ls : Array Slot} {cells slots i : Nat} (C : LX G p s m args meth c) (hl : lv_has ls 4 (LV G x y i)) (kk : ∀ ls2, lv_has ls2 4 (LV G x y (i + 6)) → W p l e room_1 s m args below meth c H locs cells slots Qw (F0 m 18 ls2 [])) : W p l e room_1 s m args below meth c H locs cells slots Qw (F0 m 1876 ls []) := by
  have hx := C.1.1
  have hb := C.1.2.1
  have e6 : nI i + Int32.ofInt 6 = nI (i + 6) := nI_add i 6
  refine lv_iinc (k := 3) (v := nI (i + 6)) (lv' := [(3, .int (nI (i + 6))), (0, .ref (gX G)), (1, .ref x), (2, .ref y)]) hx hb dL_law_1876 hl rfl e6 (by decide) rfl (fun ls2 hl2 => ?_)
  refine lv_goto (tgt := 18) hx hb dL_law_1879 (by decide) ?_
  exact kk ls2 (lv_sub hl2 [1, 2, 3, 0] rfl)
set_option maxRecDepth 20000 in
theorem L_body {h : Hp} {H : Heap} {locs : List Loc} {ls : Array Slot} {cells slots i : Nat} (C : LX G p s m args meth c) (hJJ : JJ x y b0 s0 mm h) (hm0 : 24 ≤ mm 0) (hR : Rel G h H) (hS : va_S (gFree G) s.heap H locs) (hl : lv_has ls 4 (LV G x y i)) (hk : i + 6 ≤ gL G) (hc : hn h = cells + gB G) (hms : hm h = slots) (hB : ∀ h2, JJ x y b0 s0 mm h2 → hn h2 ≤ gB G + 600000 ∧ hm h2 ≤ 7302250)
    (kn : ∀ (h2 : Hp) (H2 : Heap) (locs2 : List Loc) (cells2 slots2 : Nat), JJ x y b0 s0 mm h2 → Rel G h2 H2 → va_S (gFree G) s.heap H2 locs2 → hn h2 = cells2 + gB G → hm h2 = slots2 → W p l e room_1 s m args below meth c H2 locs2 cells2 slots2 Qw (F0 m 1876 ls [])) : W p l e room_1 s m args below meth c H locs cells slots Qw (F0 m 27 ls []) := by
  have hx := C.1.1
  have hb := C.1.2.1
  have hL := C.2.2
  obtain ⟨np, na, nm, nr, ne, g, hJ⟩ := id hJJ
  refine lv_aload_n hx hb dL_law_27 rfl (lv_at hl 0 rfl) ?_
  refine lv_iload_n hx hb dL_law_28 rfl (lv_at hl 3 rfl) ?_
  refine L_sld C hS (nI_clamp (by omega)) (nI_pos (by omega)) (by omega) dL_law_29 ?_
  refine lv_bipush (v := 63) hx hb dL_law_30 (by decide) ?_
  refine lv_iand hx hb dL_law_32 ?_
  generalize gXs G i &&& 63 = z
  by_cases c0 : z = 0
  · refine lv_tableIn (off := 203) (tgt := 236) hx hb dL_law_33 (by rw [c0]; decide) (by rw [c0]; decide) (by rw [c0]; rfl) (by decide) ?_
    exact case_place C hJ hm0 hR hS hl hk hc hms hB kn
  by_cases c1 : z = 1
  · refine lv_tableIn (off := 236) (tgt := 269) hx hb dL_law_33 (by rw [c1]; decide) (by rw [c1]; decide) (by rw [c1]; rfl) (by decide) ?_
    exact case_parish C hJ hm0 hR hS hl hk hc hms hB kn
  by_cases c2 : z = 2
  · refine lv_tableIn (off := 289) (tgt := 322) hx hb dL_law_33 (by rw [c2]; decide) (by rw [c2]; decide) (by rw [c2]; rfl) (by decide) ?_
    exact case_path C hJ hm0 hR hS hl hk hc hms hB kn
  by_cases c3 : z = 3
  · refine lv_tableIn (off := 322) (tgt := 355) hx hb dL_law_33 (by rw [c3]; decide) (by rw [c3]; decide) (by rw [c3]; rfl) (by decide) ?_
    exact case_days C hJ hm0 hR hS hl hk hc hms hB kn
  by_cases c4 : z = 4
  · refine lv_tableIn (off := 345) (tgt := 378) hx hb dL_law_33 (by rw [c4]; decide) (by rw [c4]; decide) (by rw [c4]; rfl) (by decide) ?_
    exact case_about C hJ hm0 hR hS hl hk hc hms hB kn
  by_cases c5 : z = 5
  · refine lv_tableIn (off := 378) (tgt := 411) hx hb dL_law_33 (by rw [c5]; decide) (by rw [c5]; decide) (by rw [c5]; rfl) (by decide) ?_
    exact case_row C hJ hm0 hR hS hl hk hc hms hB kn
  by_cases c6 : z = 6
  · refine lv_tableIn (off := 421) (tgt := 454) hx hb dL_law_33 (by rw [c6]; decide) (by rw [c6]; decide) (by rw [c6]; rfl) (by decide) ?_
    exact case_set C hJ hm0 hR hS hl hk hc hms hB kn
  by_cases c7 : z = 7
  · refine lv_tableIn (off := 494) (tgt := 527) hx hb dL_law_33 (by rw [c7]; decide) (by rw [c7]; decide) (by rw [c7]; rfl) (by decide) ?_
    exact case_copy C hJ hm0 hR hS hl hk hc hms hB kn
  by_cases c8 : z = 8
  · refine lv_tableIn (off := 557) (tgt := 590) hx hb dL_law_33 (by rw [c8]; decide) (by rw [c8]; decide) (by rw [c8]; rfl) (by decide) ?_
    exact case_element C hJ hm0 hR hS hl hk hc hms hB kn
  by_cases c9 : z = 9
  · refine lv_tableIn (off := 591) (tgt := 624) hx hb dL_law_33 (by rw [c9]; decide) (by rw [c9]; decide) (by rw [c9]; rfl) (by decide) ?_
    exact case_show C hJ hm0 hR hS hl hk hc hms hB kn
  by_cases c10 : z = 10
  · refine lv_tableIn (off := 624) (tgt := 657) hx hb dL_law_33 (by rw [c10]; decide) (by rw [c10]; decide) (by rw [c10]; rfl) (by decide) ?_
    exact case_holds C hJ hm0 hR hS hl hk hc hms hB kn
  by_cases c11 : z = 11
  · refine lv_tableIn (off := 647) (tgt := 680) hx hb dL_law_33 (by rw [c11]; decide) (by rw [c11]; decide) (by rw [c11]; rfl) (by decide) ?_
    exact case_says C hJ hm0 hR hS hl hk hc hms hB kn
  by_cases c12 : z = 12
  · refine lv_tableIn (off := 680) (tgt := 713) hx hb dL_law_33 (by rw [c12]; decide) (by rw [c12]; decide) (by rw [c12]; rfl) (by decide) ?_
    exact case_model C hJ hm0 hR hS hl hk hc hms hB kn
  by_cases c13 : z = 13
  · refine lv_tableIn (off := 723) (tgt := 756) hx hb dL_law_33 (by rw [c13]; decide) (by rw [c13]; decide) (by rw [c13]; rfl) (by decide) ?_
    exact case_reaches C hJ hm0 hR hS hl hk hc hms hB kn
  by_cases c14 : z = 14
  · refine lv_tableIn (off := 756) (tgt := 789) hx hb dL_law_33 (by rw [c14]; decide) (by rw [c14]; decide) (by rw [c14]; rfl) (by decide) ?_
    exact case_write C hJ hm0 hR hS hl hk hc hms hB kn
  by_cases c15 : z = 15
  · refine lv_tableIn (off := 819) (tgt := 852) hx hb dL_law_33 (by rw [c15]; decide) (by rw [c15]; decide) (by rw [c15]; rfl) (by decide) ?_
    exact case_withdraw C hJ hm0 hR hS hl hk hc hms hB kn
  by_cases c16 : z = 16
  · refine lv_tableIn (off := 842) (tgt := 875) hx hb dL_law_33 (by rw [c16]; decide) (by rw [c16]; decide) (by rw [c16]; rfl) (by decide) ?_
    exact case_tear C hJ hm0 hR hS hl hk hc hms hB kn
  by_cases c17 : z = 17
  · refine lv_tableIn (off := 875) (tgt := 908) hx hb dL_law_33 (by rw [c17]; decide) (by rw [c17]; decide) (by rw [c17]; rfl) (by decide) ?_
    exact case_ask C hJ hm0 hR hS hl hk hc hms hB kn
  by_cases c18 : z = 18
  · refine lv_tableIn (off := 908) (tgt := 941) hx hb dL_law_33 (by rw [c18]; decide) (by rw [c18]; decide) (by rw [c18]; rfl) (by decide) ?_
    exact case_likeness C hJ hm0 hR hS hl hk hc hms hB kn
  by_cases c19 : z = 19
  · refine lv_tableIn (off := 941) (tgt := 974) hx hb dL_law_33 (by rw [c19]; decide) (by rw [c19]; decide) (by rw [c19]; rfl) (by decide) ?_
    exact case_chance C hJ hm0 hR hS hl hk hc hms hB kn
  by_cases c20 : z = 20
  · refine lv_tableIn (off := 990) (tgt := 1023) hx hb dL_law_33 (by rw [c20]; decide) (by rw [c20]; decide) (by rw [c20]; rfl) (by decide) ?_
    exact case_less C hJ hm0 hR hS hl hk hc hms hB kn
  by_cases c21 : z = 21
  · refine lv_tableIn (off := 1013) (tgt := 1046) hx hb dL_law_33 (by rw [c21]; decide) (by rw [c21]; decide) (by rw [c21]; rfl) (by decide) ?_
    exact case_part C hJ hm0 hR hS hl hk hc hms hB kn
  by_cases c22 : z = 22
  · refine lv_tableIn (off := 1046) (tgt := 1079) hx hb dL_law_33 (by rw [c22]; decide) (by rw [c22]; decide) (by rw [c22]; rfl) (by decide) ?_
    exact case_end C hJ hm0 hR hS hl hk hc hms hB kn
  by_cases c23 : z = 23
  · refine lv_tableIn (off := 1069) (tgt := 1102) hx hb dL_law_33 (by rw [c23]; decide) (by rw [c23]; decide) (by rw [c23]; rfl) (by decide) ?_
    exact case_lost C hJ hm0 hR hS hl hk hc hms hB kn
  by_cases c24 : z = 24
  · refine lv_tableIn (off := 1092) (tgt := 1125) hx hb dL_law_33 (by rw [c24]; decide) (by rw [c24]; decide) (by rw [c24]; rfl) (by decide) ?_
    exact case_book C hJ hm0 hR hS hl hk hc hms hB kn
  by_cases c25 : z = 25
  · refine lv_tableIn (off := 1125) (tgt := 1158) hx hb dL_law_33 (by rw [c25]; decide) (by rw [c25]; decide) (by rw [c25]; rfl) (by decide) ?_
    exact case_rule C hJ hm0 hR hS hl hk hc hms hB kn
  by_cases c26 : z = 26
  · refine lv_tableIn (off := 1168) (tgt := 1201) hx hb dL_law_33 (by rw [c26]; decide) (by rw [c26]; decide) (by rw [c26]; rfl) (by decide) ?_
    exact case_fault C hJ hm0 hR hS hl hk hc hms hB kn
  by_cases c27 : z = 27
  · refine lv_tableIn (off := 1181) (tgt := 1214) hx hb dL_law_33 (by rw [c27]; decide) (by rw [c27]; decide) (by rw [c27]; rfl) (by decide) ?_
    exact case_strike C hJ hm0 hR hS hl hk hc hms hB kn
  by_cases c28 : z = 28
  · refine lv_tableIn (off := 1204) (tgt := 1237) hx hb dL_law_33 (by rw [c28]; decide) (by rw [c28]; decide) (by rw [c28]; rfl) (by decide) ?_
    exact case_force C hJ hm0 hR hS hl hk hc hms hB kn
  by_cases c29 : z = 29
  · refine lv_tableIn (off := 1237) (tgt := 1270) hx hb dL_law_33 (by rw [c29]; decide) (by rw [c29]; decide) (by rw [c29]; rfl) (by decide) ?_
    exact case_vote C hJ hm0 hR hS hl hk hc hms hB kn
  by_cases c30 : z = 30
  · refine lv_tableIn (off := 1280) (tgt := 1313) hx hb dL_law_33 (by rw [c30]; decide) (by rw [c30]; decide) (by rw [c30]; rfl) (by decide) ?_
    exact case_make C hJ hm0 hR hS hl hk hc hms hB kn
  by_cases c31 : z = 31
  · refine lv_tableIn (off := 1303) (tgt := 1336) hx hb dL_law_33 (by rw [c31]; decide) (by rw [c31]; decide) (by rw [c31]; rfl) (by decide) ?_
    exact case_count C hJ hm0 hR hS hl hk hc hms hB kn
  by_cases c32 : z = 32
  · refine lv_tableIn (off := 1372) (tgt := 1405) hx hb dL_law_33 (by rw [c32]; decide) (by rw [c32]; decide) (by rw [c32]; rfl) (by decide) ?_
    exact case_asked C hJ hm0 hR hS hl hk hc hms hB kn
  by_cases c33 : z = 33
  · refine lv_tableIn (off := 1435) (tgt := 1468) hx hb dL_law_33 (by rw [c33]; decide) (by rw [c33]; decide) (by rw [c33]; rfl) (by decide) ?_
    exact case_person C hJ hm0 hR hS hl hk hc hms hB kn
  by_cases c34 : z = 34
  · refine lv_tableIn (off := 1468) (tgt := 1501) hx hb dL_law_33 (by rw [c34]; decide) (by rw [c34]; decide) (by rw [c34]; rfl) (by decide) ?_
    exact case_choose C hJ hm0 hR hS hl hk hc hms hB kn
  by_cases c35 : z = 35
  · refine lv_tableIn (off := 1501) (tgt := 1534) hx hb dL_law_33 (by rw [c35]; decide) (by rw [c35]; decide) (by rw [c35]; rfl) (by decide) ?_
    exact case_unchoose C hJ hm0 hR hS hl hk hc hms hB kn
  by_cases c36 : z = 36
  · refine lv_tableIn (off := 1524) (tgt := 1557) hx hb dL_law_33 (by rw [c36]; decide) (by rw [c36]; decide) (by rw [c36]; rfl) (by decide) ?_
    exact case_bind C hJ hm0 hR hS hl hk hc hms hB kn
  by_cases c37 : z = 37
  · refine lv_tableIn (off := 1547) (tgt := 1580) hx hb dL_law_33 (by rw [c37]; decide) (by rw [c37]; decide) (by rw [c37]; rfl) (by decide) ?_
    exact case_unbind C hJ hm0 hR hS hl hk hc hms hB kn
  by_cases c38 : z = 38
  · refine lv_tableIn (off := 1570) (tgt := 1603) hx hb dL_law_33 (by rw [c38]; decide) (by rw [c38]; decide) (by rw [c38]; rfl) (by decide) ?_
    exact case_give C hJ hm0 hR hS hl hk hc hms hB kn
  by_cases c39 : z = 39
  · refine lv_tableIn (off := 1593) (tgt := 1626) hx hb dL_law_33 (by rw [c39]; decide) (by rw [c39]; decide) (by rw [c39]; rfl) (by decide) ?_
    exact case_clash C hJ hm0 hR hS hl hk hc hms hB kn
  by_cases c40 : z = 40
  · refine lv_tableIn (off := 1652) (tgt := 1685) hx hb dL_law_33 (by rw [c40]; decide) (by rw [c40]; decide) (by rw [c40]; rfl) (by decide) ?_
    exact case_leave C hJ hm0 hR hS hl hk hc hms hB kn
  by_cases c41 : z = 41
  · refine lv_tableIn (off := 1675) (tgt := 1708) hx hb dL_law_33 (by rw [c41]; decide) (by rw [c41]; decide) (by rw [c41]; rfl) (by decide) ?_
    exact case_judge C hJ hm0 hR hS hl hk hc hms hB kn
  by_cases c42 : z = 42
  · refine lv_tableIn (off := 1708) (tgt := 1741) hx hb dL_law_33 (by rw [c42]; decide) (by rw [c42]; decide) (by rw [c42]; rfl) (by decide) ?_
    exact case_best C hJ hm0 hR hS hl hk hc hms hB kn
  by_cases c43 : z = 43
  · refine lv_tableIn (off := 1741) (tgt := 1774) hx hb dL_law_33 (by rw [c43]; decide) (by rw [c43]; decide) (by rw [c43]; rfl) (by decide) ?_
    exact case_bestOf C hJ hm0 hR hS hl hk hc hms hB kn
  by_cases c44 : z = 44
  · refine lv_tableIn (off := 1764) (tgt := 1797) hx hb dL_law_33 (by rw [c44]; decide) (by rw [c44]; decide) (by rw [c44]; rfl) (by decide) ?_
    exact case_said C hJ hm0 hR hS hl hk hc hms hB kn
  by_cases c45 : z = 45
  · refine lv_tableIn (off := 1787) (tgt := 1820) hx hb dL_law_33 (by rw [c45]; decide) (by rw [c45]; decide) (by rw [c45]; rfl) (by decide) ?_
    exact case_other C hJ hm0 hR hS hl hk hc hms hB kn
  by_cases c46 : z = 46
  · refine lv_tableIn (off := 1820) (tgt := 1853) hx hb dL_law_33 (by rw [c46]; decide) (by rw [c46]; decide) (by rw [c46]; rfl) (by decide) ?_
    exact case_status C hJ hm0 hR hS hl hk hc hms hB kn
  have hout : z.toInt < 0 ∨ 46 < z.toInt := by
    refine sw_out (fun v h1 h2 => ?_)
    rcases (show v = 0 ∨ v = 1 ∨ v = 2 ∨ v = 3 ∨ v = 4 ∨ v = 5 ∨ v = 6 ∨ v = 7 ∨ v = 8 ∨ v = 9 ∨ v = 10 ∨ v = 11 ∨ v = 12 ∨ v = 13 ∨ v = 14 ∨ v = 15 ∨ v = 16 ∨ v = 17 ∨ v = 18 ∨ v = 19 ∨ v = 20 ∨ v = 21 ∨ v = 22 ∨ v = 23 ∨ v = 24 ∨ v = 25 ∨ v = 26 ∨ v = 27 ∨ v = 28 ∨ v = 29 ∨ v = 30 ∨ v = 31 ∨ v = 32 ∨ v = 33 ∨ v = 34 ∨ v = 35 ∨ v = 36 ∨ v = 37 ∨ v = 38 ∨ v = 39 ∨ v = 40 ∨ v = 41 ∨ v = 42 ∨ v = 43 ∨ v = 44 ∨ v = 45 ∨ v = 46 by omega) with rfl | rfl | rfl | rfl | rfl | rfl | rfl | rfl | rfl | rfl | rfl | rfl | rfl | rfl | rfl | rfl | rfl | rfl | rfl | rfl | rfl | rfl | rfl | rfl | rfl | rfl | rfl | rfl | rfl | rfl | rfl | rfl | rfl | rfl | rfl | rfl | rfl | rfl | rfl | rfl | rfl | rfl | rfl | rfl | rfl | rfl | rfl
    · exact c0
    · exact c1
    · exact c2
    · exact c3
    · exact c4
    · exact c5
    · exact c6
    · exact c7
    · exact c8
    · exact c9
    · exact c10
    · exact c11
    · exact c12
    · exact c13
    · exact c14
    · exact c15
    · exact c16
    · exact c17
    · exact c18
    · exact c19
    · exact c20
    · exact c21
    · exact c22
    · exact c23
    · exact c24
    · exact c25
    · exact c26
    · exact c27
    · exact c28
    · exact c29
    · exact c30
    · exact c31
    · exact c32
    · exact c33
    · exact c34
    · exact c35
    · exact c36
    · exact c37
    · exact c38
    · exact c39
    · exact c40
    · exact c41
    · exact c42
    · exact c43
    · exact c44
    · exact c45
    · exact c46
  refine lv_tableOut (tgt := 1876) hx hb dL_law_33 hout (by decide) ?_
  exact kn h H locs cells slots hJJ hR hS hc hms
theorem law_loop (C : LX G p s m args meth c) (hm0 : 24 ≤ mm 0) (hB : ∀ h2, JJ x y b0 s0 mm h2 → hn h2 ≤ gB G + 600000 ∧ hm h2 ≤ 7302250) (hend : ∀ (H2 : Heap) (locs2 : List Loc) (ls2 : Array Slot) (cells2 slots2 : Nat), va_S (gFree G) s.heap H2 locs2 → cells2 ≤ 600000 → slots2 ≤ 7302250 → W p l e room_1 s m args below meth c H2 locs2 cells2 slots2 Qw (F0 m 1882 ls2 [])) : ∀ (n i : Nat) (h : Hp) (H : Heap) (locs : List Loc) (ls : Array Slot) (cells slots : Nat), gL G ≤ i + 6 * n → i ≤ 4000 → JJ x y b0 s0 mm h → Rel G h H → va_S (gFree G) s.heap H locs → lv_has ls 4 (LV G x y i) → hn h = cells + gB G → hm h = slots → W p l e room_1 s m args below meth c H locs cells slots Qw (F0 m 18 ls []) := by
  have hL := C.2.2
  intro n
  induction n with
  | zero =>
    intro i h H locs ls cells slots hn0 hi hJ hR hS hl hc hms
    obtain ⟨b1, b2⟩ := hB h hJ
    exact L_test C hS hl hi (fun _ => hend H locs ls cells slots hS (by omega) (by omega)) (fun z => absurd z (by omega))
  | succ n ih =>
    intro i h H locs ls cells slots hn0 hi hJ hR hS hl hc hms
    obtain ⟨b1, b2⟩ := hB h hJ
    refine L_test C hS hl hi (fun _ => hend H locs ls cells slots hS (by omega) (by omega)) (fun z => ?_)
    refine L_body C hJ hm0 hR hS hl z hc hms hB (fun h2 H2 locs2 cells2 slots2 hJ2 hR2 hS2 hc2 hms2 => ?_)
    refine L_next C hl (fun ls2 hl2 => ?_)
    exact ih (i + 6) h2 H2 locs2 ls2 cells2 slots2 (by omega) (by omega) hJ2 hR2 hS2 hl2 hc2 hms2
theorem L_new {k idx pc cells slots : Nat} {h : Hp} {H : Heap} {locs : List Loc} {ls : Array Slot} {st : List Value} (C : LX G p s m args meth c) (hR : Rel G h H) (hS : va_S (gFree G) s.heap H locs) (hN : NC RL idx k) (hd : decode cL_law pc = .ok (.new idx, 3)) (g1 : cells + 1 ≤ 600000) (g2 : slots + NN k ≤ 7302250)
    (kk : ∀ H1, Rel G (nw h (k + 1) (NN k)) H1 → va_S (gFree G) s.heap H1 locs → W p l e room_1 s m args below meth c H1 locs (cells + 1) (slots + NN k) Qw (F0 m (pc + 3) ls (.ref (hn h) :: st))) : W p l e room_1 s m args below meth c H locs cells slots Qw (F0 m pc ls st) := by
  obtain ⟨hc, l1, l2, l3⟩ := hN
  obtain ⟨hx, hb, -, -, -, hown, hts, hX, -⟩ := C.1
  obtain ⟨ws, ty, nm, own⟩ := cls_ok k hc
  have hKn := hX.1.1 k hc
  refine W.newcK hx hb hown (hts _ l1) (hts _ l2) (hts _ l3) rfl hd g1 g2 hKn.2.1 hR.1 fun H1 kC hkC e1 z1 o1 => ?_
  refine kk H1 (Rel.mk hR (Nat.succ_ne_zero _) z1 o1 ?_) (S_mk hS hR.1 z1 o1)
  unfold cellAt
  rw [nw_kd, if_pos (by omega)]
  exact ⟨(u_born (tyT k) hts ws hKn hkC e1 ty).to (fun j hj => def_fv hc hj h _ _), by omega⟩
theorem L_ini {idx m2 d2 b pc cells slots : Nat} {y2 : MethodName} {c2 : ByteArray} {h h1 : Hp} {H : Heap} {locs : List Loc} {ls : Array Slot} {rest : List Value} (C : LX G p s m args meth c) (hR : Rel G h H) (hS : va_S (gFree G) s.heap H locs) (hl : ls.size = 4) (hmi : MI RL idx y2 c2 m2 0) (hd2 : d2 + 1 ≤ 512) (hm2 : m2 ≤ 45) (hw : (rest.map fun v => v.category).sum ≤ 8) (hd : decode cL_law pc = .ok (.invokespecial idx, 3))
    (hr : Run l G d2 y2 c2 m2 none [va_rf (some b)] h none h1) (g1 : cells + (hn h1 - hn h) ≤ room_1.cells) (g2 : slots + (hm h1 - hm h) ≤ room_1.slots)
    (k : ∀ (H1 : Heap) (locs1 : List Loc), Rel G h1 H1 → va_S (gFree G) s.heap H1 locs1 → W p l e room_1 s m args below meth c H1 locs1 (cells + (hn h1 - hn h)) (slots + (hm h1 - hm h)) Qw (F0 m (pc + 3) ls rest)) :
    W p l e room_1 s m args below meth c H locs cells slots Qw (F0 m pc ls (.ref b :: rest)) := by
  obtain ⟨z1, z2, hM⟩ := hr
  obtain ⟨⟨hname, hinst⟩, hcode, hini, hdesc, hlink⟩ := hmi
  have hp := preU (As := [va_rf (some b)]) C.1 hR hS
  obtain ⟨hx, hb, hml, -, -, hown, hts, hX, -, hdR, hlR⟩ := C.1
  have hG := goodT hcode
  have hRoom : (rmD d2 (hn h1 - hn h) (hm h1 - hm h)).frames + 1 ≤ room_1.frames ∧ 8 + (m2 + 11) + (rmD d2 (hn h1 - hn h) (hm h1 - hm h)).locals ≤ room_1.locals := by
    constructor
    · show d2 + 1 ≤ 2048; omega
    · show 8 + (m2 + 11) + 64 * d2 ≤ 84000; omega
  have hrun : va_Run p l e room_1 s m args below meth c H locs cells slots (hn h1 - hn h) (hm h1 - hm h) (F0 m pc ls (.ref b :: rest)) rest (QC G none h1 (Value.ref b :: []).toArray) (gFree G) := by
    rcases hlink with hL | ⟨host, hL⟩
    · exact va_runI (As := []) ⟨hx, hb, hml, hown, hts⟩ hM ⟨callB_of 0 hts hG rfl rfl rfl (hts _ hini) (hts _ hL) hdesc hRoom, hname, hts _ hinst⟩ hp rfl rfl hl rfl (lv_room hw) hd ⟨g1, g2⟩
    · exact va_runIN (As := []) (host := host) ⟨hx, hb, hml, hown, hts⟩ hM ⟨va_cnB 0 hts hG rfl rfl rfl (hX.2.1 _ hL) (hts _ hini) hdesc hRoom, hname, hts _ hinst⟩ hp rfl rfl hl rfl (lv_room hw) hd ⟨g1, g2⟩
  intro T hT X
  obtain ⟨v, st0, t, T', L, h0, X', hL, e1', e2', ⟨hv, hR1, hF⟩, st'⟩ := hrun T hT X
  cases hv
  have hS' : va_S (gFree G) s.heap T'.heap (locs ++ L) := by
    refine ⟨Nat.le_trans hS.1 (by rw [e1', ← h0]; exact hF.1), fun q g1 g2 => ?_, fun q hq => ?_⟩
    · rw [e1', hF.2 q (by rw [h0]; exact Nat.lt_of_lt_of_le g1 hS.1) g2, h0]
      exact hS.2.1 q g1 g2
    · rcases List.mem_append.mp hq with g | g
      · exact hS.2.2 q g
      · exact hL q g
  obtain ⟨t2, a1, c1⟩ := k T'.heap (locs ++ L) (by rw [e1']; exact hR1) hS' T' rfl X'
  exact ⟨t2, st' t2 a1, c1⟩
end LOOPW
