/-- the cells of A are there in B, of the same class -/
def KP (A B : Heap) : Prop := ∀ (a : Nat) (c : Cell), A[a]? = some c → ∃ c' : Cell, B[a]? = some c' ∧ c'.cls = c.cls ∧ c'.vm = c.vm
theorem met_keep {l : Launch} {y : MethodName} {ws : List Cond} {rm : Room} {Pc : Array Value → State → Prop} {Qc : Array Value → State → Outcome → State → Prop} {mc ms : Nat} {free : Addr → Prop} (hM : Met l y ws rm Pc Qc mc ms free) : Met l y ws rm Pc (fun a st o t => Qc a st o t ∧ KP st.heap t.heap) mc ms free := by
  intro p e ha hc hk s m args below hf happ hP ht
  obtain ⟨k, o, h1, h2, h3, hQ, L, hfr, hL⟩ := hM p e ha hc hk s m args below hf happ hP ht
  refine ⟨k, o, h1, h2, h3, ⟨hQ, fun a c hac => ?_⟩, L, hfr, hL⟩
  obtain ⟨c', g1, g2, -⟩ := hfr.2.2.2.2.2.2.2 a c hac
  exact ⟨c', g1, by rw [g2], by rw [g2]⟩
theorem RunQ.mono {l : Launch} {G : Gh} {d : Nat} {y : MethodName} {cc : ByteArray} {mL : Nat} {rt : Option FieldType} {av : List Value} {h : Hp} {Q Q' : Option Value → Hp → Prop} (k : RunQ l G d y cc mL rt av h Q) (hq : ∀ r h1, Q r h1 → Q' r h1) : RunQ l G d y cc mL rt av h Q' := by
  obtain ⟨r, h1, a, b⟩ := k
  exact ⟨r, h1, hq _ _ a, b⟩
theorem lg_self (x : Int64) : lg_cmp x x = 0 := by
  unfold lg_cmp
  simp
def bz (v : Int32) : Int32 := if v = 0 then 0 else 1
section LAWW
variable {p : Program} {l : Launch} {e : Env} {s : State} {m : MethodId} {args : Array Value} {below : List Frame} {meth : Method} {c : Code} {Qw : State → Prop} {G : Gh} {h : Hp} {H : Heap} {locs : List Loc} {ls : Array Slot} {cells slots pc i x y : Nat} {st : List Value}
def LX (G : Gh) (p : Program) (s : State) (m : MethodId) (args : Array Value) (meth : Method) (c : Code) : Prop := Ctx G 512 ⟨RL, meth.name, ""⟩ cL_law 4 ret p room_1 s m args meth c ∧ gX G < s.heap.size ∧ gL G ≤ 3072
abbrev LV (G : Gh) (x y i : Nat) : List (Nat × Value) := [(0, .ref (gX G)), (1, .ref x), (2, .ref y), (3, .int (nI i))]
theorem L_sld (C : LX G p s m args meth c) (hS : va_S (gFree G) s.heap H locs) {j : Int32} {k : Nat} (hj : j.toNatClampNeg = k) (h0 : ¬ j < 0) (hk : k < gL G) (hd : decode cL_law pc = .ok (.iaload, 1))
    (kk : W p l e room_1 s m args below meth c H locs cells slots Qw (F0 m (pc + 1) ls (.int (gXs G k) :: st))) : W p l e room_1 s m args below meth c H locs cells slots Qw (F0 m pc ls (.int j :: .ref (gX G) :: st)) := by
  obtain ⟨hB1, hB2⟩ := C.1.2.2.2.2.2.2.2.1.2.2.2.2.2.2.2.2
  refine va_sld C.1.1 C.1.2.1 hB1 C.2.1 (Nat.not_le.mpr hB2) hS (fun q => ?_) hd (by rw [hj]; exact kk)
  rcases q with q | q
  · exact h0 q
  · omega
theorem L_rd (C : LX G p s m args meth c) (hS : va_S (gFree G) s.heap H locs) (hl : lv_has ls 4 (LV G x y i)) (k : Nat) (hk5 : k ≤ 5) (hk : i + 6 ≤ gL G)
    (d0 : decode cL_law pc = .ok (.aload_n 0, 1)) (d1 : decode cL_law (pc + 1) = .ok (.iload_n 3, 1)) (d2 : decode cL_law (pc + 2) = .ok (.iconst (k : Int), 1)) (d3 : decode cL_law (pc + 3) = .ok (.iadd, 1)) (d4 : decode cL_law (pc + 4) = .ok (.iaload, 1))
    (kk : W p l e room_1 s m args below meth c H locs cells slots Qw (F0 m (pc + 5) ls (.int (gXs G (i + k)) :: st))) : W p l e room_1 s m args below meth c H locs cells slots Qw (F0 m pc ls st) := by
  have hx := C.1.1
  have hb := C.1.2.1
  have hL := C.2.2
  refine lv_aload_n hx hb d0 rfl (lv_at hl 0 rfl) ?_
  refine lv_iload_n hx hb d1 rfl (lv_at hl 3 rfl) ?_
  refine lv_iconst (v := nI k) hx hb d2 rfl ?_
  refine lv_iadd hx hb d3 ?_
  have e : nI i + nI k = nI (i + k) := nI_add _ _
  rw [e]
  exact L_sld C hS (nI_clamp (by omega)) (nI_pos (by omega)) (by omega) d4 kk
theorem L_rdb (C : LX G p s m args meth c) (hS : va_S (gFree G) s.heap H locs) (hl : lv_has ls 4 (LV G x y i)) (k : Nat) (hk5 : k ≤ 5) (hk : i + 6 ≤ gL G)
    (d0 : decode cL_law pc = .ok (.aload_n 0, 1)) (d1 : decode cL_law (pc + 1) = .ok (.iload_n 3, 1)) (d2 : decode cL_law (pc + 2) = .ok (.iconst (k : Int), 1)) (d3 : decode cL_law (pc + 3) = .ok (.iadd, 1)) (d4 : decode cL_law (pc + 4) = .ok (.iaload, 1)) (d5 : decode cL_law (pc + 5) = .ok (.ifCond .eq 7, 3)) (d6 : decode cL_law (pc + 8) = .ok (.iconst 1, 1)) (d7 : decode cL_law (pc + 9) = .ok (.goto 4, 3)) (d8 : decode cL_law (pc + 12) = .ok (.iconst 0, 1))
    (kk : W p l e room_1 s m args below meth c H locs cells slots Qw (F0 m (pc + 13) ls (.int (bz (gXs G (i + k))) :: st))) : W p l e room_1 s m args below meth c H locs cells slots Qw (F0 m pc ls st) := by
  have hx := C.1.1
  have hb := C.1.2.1
  refine L_rd C hS hl k hk5 hk d0 d1 d2 d3 d4 ?_
  refine lv_if_eq (tgt := pc + 12) hx hb d5 (by omega) (fun z => ?_) (fun z => ?_)
  · refine lv_iconst (v := 0) hx hb d8 (by decide) ?_
    have e : bz (gXs G (i + k)) = 0 := if_pos z
    rw [e] at kk
    exact kk
  · refine lv_iconst (v := 1) hx hb d6 (by decide) ?_
    refine lv_goto (tgt := pc + 13) hx hb d7 (by omega) ?_
    have e : bz (gXs G (i + k)) = 1 := if_neg z
    rw [e] at kk
    exact kk
def lgW (a b : Int32) : Int64 := (a.toInt64 <<< ((32 : Int32).toInt64 &&& 63)) ||| (b.toInt64 &&& 4294967295)
theorem L_rdl (C : LX G p s m args meth c) (hS : va_S (gFree G) s.heap H locs) (hl : lv_has ls 4 (LV G x y i)) (hk : i + 6 ≤ gL G)
    (d0 : decode cL_law pc = .ok (.aload_n 0, 1)) (d1 : decode cL_law (pc + 1) = .ok (.iload_n 3, 1)) (d2 : decode cL_law (pc + 2) = .ok (.iconst 3, 1)) (d3 : decode cL_law (pc + 3) = .ok (.iadd, 1)) (d4 : decode cL_law (pc + 4) = .ok (.iaload, 1)) (d5 : decode cL_law (pc + 5) = .ok (.i2l, 1)) (d6 : decode cL_law (pc + 6) = .ok (.bipush 32, 2)) (d7 : decode cL_law (pc + 8) = .ok (.lshl, 1))
    (f0 : decode cL_law (pc + 9) = .ok (.aload_n 0, 1)) (f1 : decode cL_law (pc + 10) = .ok (.iload_n 3, 1)) (f2 : decode cL_law (pc + 11) = .ok (.iconst 4, 1)) (f3 : decode cL_law (pc + 12) = .ok (.iadd, 1)) (f4 : decode cL_law (pc + 13) = .ok (.iaload, 1)) (f5 : decode cL_law (pc + 14) = .ok (.i2l, 1)) (f6 : decode cL_law (pc + 15) = .ok (.ldc2_w 41, 3)) (f7 : decode cL_law (pc + 18) = .ok (.land, 1)) (f8 : decode cL_law (pc + 19) = .ok (.lor, 1))
    (kk : W p l e room_1 s m args below meth c H locs cells slots Qw (F0 m (pc + 20) ls (.long (lgW (gXs G (i + 3)) (gXs G (i + 4))) :: st))) : W p l e room_1 s m args below meth c H locs cells slots Qw (F0 m pc ls st) := by
  have hx := C.1.1
  have hb := C.1.2.1
  refine L_rd C hS hl 3 (by decide) hk d0 d1 d2 d3 d4 ?_
  refine lv_i2l hx hb d5 rfl ?_
  refine lv_bipush (v := 32) hx hb d6 (by decide) ?_
  refine lv_lshl hx hb d7 rfl ?_
  refine L_rd C hS hl 4 (by decide) hk f0 f1 f2 f3 f4 ?_
  refine lv_i2l hx hb f5 rfl ?_
  refine lv_ldc2 hx hb C.1.2.2.2.2.2.1 (C.1.2.2.2.2.2.2.1 _ cl_L_41) f6 ?_
  refine lv_land hx hb f7 ?_
  refine lv_lor hx hb f8 ?_
  exact kk
/-- a call of one method -/
theorem L_call {idx m2 n d2 b : Nat} {y2 : MethodName} {c2 : ByteArray} {r2 : Option FieldType} {rv : Option Value} {h1 : Hp} {As rest : List Value} (C : LX G p s m args meth c) (hR : Rel G h H) (hS : va_S (gFree G) s.heap H locs) (hl : ls.size = 4)
    (hmv : MV RL idx y2 c2 m2 r2 n) (hrecv : ∃ cell : Cell, H[b]? = some cell ∧ cell.vm.isStatics = false ∧ s.vm.findClass y2.cls = some cell.cls) (hd2 : d2 + 1 ≤ 512) (hm2 : m2 ≤ 45) (hn2 : As.length = n) (hw : (rest.map fun v => v.category).sum ≤ 8) (hd : decode cL_law pc = .ok (.invokevirtual idx, 3))
    (hr : Run l G d2 y2 c2 m2 r2 (va_rf (some b) :: As) h rv h1) (g1 : cells + (hn h1 - hn h) ≤ room_1.cells) (g2 : slots + (hm h1 - hm h) ≤ room_1.slots)
    (k : ∀ (H1 : Heap) (locs1 : List Loc), Rel G h1 H1 → va_S (gFree G) s.heap H1 locs1 → KP H H1 → W p l e room_1 s m args below meth c H1 locs1 (cells + (hn h1 - hn h)) (slots + (hm h1 - hm h)) Qw (F0 m (pc + 3) ls (rv.toList ++ rest))) :
    W p l e room_1 s m args below meth c H locs cells slots Qw (F0 m pc ls (As.reverse ++ .ref b :: rest)) := by
  obtain ⟨z1, z2, hM0⟩ := hr
  have hM := met_keep hM0
  obtain ⟨⟨hinst, hsel⟩, hcode, hini, hdesc, hlink⟩ := hmv
  have hp := preU (As := va_rf (some b) :: As) C.1 hR hS
  obtain ⟨hx, hb, hml, -, -, hown, hts, hX, -, hdR, hlR⟩ := C.1
  have hG := goodT hcode
  have hpv : PreV s H y2.cls b (va_Pc (va_rf (some b) :: As) (fun U => Rel G h U.heap ∧ StX G U U.heap)) As := ⟨hp.1, hrecv, hp.2⟩
  have hRoom : (rmD d2 (hn h1 - hn h) (hm h1 - hm h)).frames + 1 ≤ room_1.frames ∧ 8 + (m2 + 11) + (rmD d2 (hn h1 - hn h) (hm h1 - hm h)).locals ≤ room_1.locals := by
    constructor
    · show d2 + 1 ≤ 2048; omega
    · show 8 + (m2 + 11) + 64 * d2 ≤ 84000; omega
  have hrun : va_Run p l e room_1 s m args below meth c H locs cells slots (hn h1 - hn h) (hm h1 - hm h) (F0 m pc ls (As.reverse ++ .ref b :: rest)) rest (fun st o t => QC G rv h1 (Value.ref b :: As).toArray st o t ∧ KP st.heap t.heap) (gFree G) := by
    rcases hlink with hL | ⟨host, hL⟩
    · exact va_runV (As := As) ⟨hx, hb, hml, hown, hts⟩ hM ⟨callB_of n hts hG rfl rfl rfl (hts _ hini) (hts _ hL) hdesc hRoom, hts _ hinst, hts _ hsel⟩ hpv rfl hn2 hl rfl (lv_room hw) hd ⟨g1, g2⟩
    · exact va_runVN (As := As) (host := host) ⟨hx, hb, hml, hown, hts⟩ hM ⟨va_cnB n hts hG rfl rfl rfl (hX.2.1 _ hL) (hts _ hini) hdesc hRoom, hts _ hinst, hts _ hsel⟩ hpv rfl hn2 hl rfl (lv_room hw) hd ⟨g1, g2⟩
  intro T hT X
  obtain ⟨v, st0, t, T', L, h0, X', hL, e1', e2', ⟨⟨hv, hR1, hF⟩, hKP⟩, st'⟩ := hrun T hT X
  cases hv
  have hS' : va_S (gFree G) s.heap T'.heap (locs ++ L) := by
    refine ⟨Nat.le_trans hS.1 (by rw [e1', ← h0]; exact hF.1), fun q g1 g2 => ?_, fun q hq => ?_⟩
    · rw [e1', hF.2 q (by rw [h0]; exact Nat.lt_of_lt_of_le g1 hS.1) g2, h0]
      exact hS.2.1 q g1 g2
    · rcases List.mem_append.mp hq with g | g
      · exact hS.2.2 q g
      · exact hL q g
  obtain ⟨t2, a1, c1⟩ := k T'.heap (locs ++ L) (by rw [e1']; exact hR1) hS' (by rw [e1', ← h0]; exact hKP) T' rfl X'
  exact ⟨t2, st' t2 a1, c1⟩
theorem L_recv {k b : Nat} (C : LX G p s m args meth c) (hR : Rel G h H) (hk : k < 12) (kb : kd h b = k + 1) : ∃ cell : Cell, H[b]? = some cell ∧ cell.vm.isStatics = false ∧ s.vm.findClass (RR k) = some cell.cls := by
  obtain ⟨cellB, q1, q2, q3, -⟩ := (hR.2.2 b (by omega)).2.2.obj kb hk
  exact ⟨cellB, q1, by rw [q3]; rfl, by rw [q2]; exact (C.1.2.2.2.2.2.2.2.1.1.1 k hk).2.1⟩
/-- the class's method, then the reference's, and their answers are the same -/
theorem L_two {i1 i2 m1 m2 n d1 d2 pc2 tgt : Nat} {off : Int} {ya yb : MethodName} {ca cb : ByteArray} {As : List Value} {J : Hp → Prop} (C : LX G p s m args meth c) (hR : Rel G h H) (hS : va_S (gFree G) s.heap H locs) (hl : ls.size = 4) (kx : kd h x = 11) (ky : kd h y = 12) (hc : hn h = cells + gB G) (hms : hm h = slots)
    (hm1 : MV RL i1 ya ca m1 (some .int) n) (e1 : ya.cls = RR 10) (hm2 : MV RL i2 yb cb m2 (some .int) n) (e2 : yb.cls = RR 11) (hd1 : d1 + 1 ≤ 512) (hl1 : m1 ≤ 45) (hd2 : d2 + 1 ≤ 512) (hl2 : m2 ≤ 45) (hn2 : As.length = n)
    (hr : RunQ l G d1 ya ca m1 (some .int) (va_rf (some x) :: As) h (qI fun r h1 => RunQ l G d2 yb cb m2 (some .int) (va_rf (some y) :: As) h1 (qI fun r2 h2 => r = r2 ∧ J h2))) (hJ : ∀ h2, J h2 → hn h2 ≤ gB G + 600000 ∧ hm h2 ≤ 7302250)
    (seg : ∀ (H1 : Heap) (locs1 : List Loc) (cells1 slots1 : Nat) (v : Value), va_S (gFree G) s.heap H1 locs1 → W p l e room_1 s m args below meth c H1 locs1 cells1 slots1 Qw (F0 m pc2 ls (As.reverse ++ [.ref y, v])) → W p l e room_1 s m args below meth c H1 locs1 cells1 slots1 Qw (F0 m (pc + 3) ls [v]))
    (dd1 : decode cL_law pc = .ok (.invokevirtual i1, 3)) (dd2 : decode cL_law pc2 = .ok (.invokevirtual i2, 3)) (dd3 : decode cL_law (pc2 + 3) = .ok (.if_icmp .eq off, 3)) (ht : ((pc2 + 3 : Nat) : Int) + off = (tgt : Int))
    (k : ∀ (h2 : Hp) (H2 : Heap) (locs2 : List Loc) (cells2 slots2 : Nat), J h2 → Rel G h2 H2 → va_S (gFree G) s.heap H2 locs2 → hn h2 = cells2 + gB G → hm h2 = slots2 → W p l e room_1 s m args below meth c H2 locs2 cells2 slots2 Qw (F0 m tgt ls [])) :
    W p l e room_1 s m args below meth c H locs cells slots Qw (F0 m pc ls (As.reverse ++ [.ref x])) := by
  have hx := C.1.1
  have hb := C.1.2.1
  obtain ⟨r1, h1, ⟨v1, rfl, hr2⟩, hr1⟩ := hr
  obtain ⟨r2, h2, ⟨v2, rfl, rfl, hJ2⟩, hr2⟩ := hr2
  obtain ⟨b1, b2⟩ := hJ h2 hJ2
  have a1 := hr1.1
  have a2 := hr1.2.1
  have a3 := hr2.1
  have a4 := hr2.2.1
  obtain ⟨cellY, y1, y2, y3⟩ := L_recv C hR (by decide) ky
  refine L_call C hR hS hl hm1 (by rw [e1]; exact L_recv C hR (by decide) kx) hd1 hl1 hn2 (by decide) dd1 hr1 (by show _ ≤ 600000; omega) (by show _ ≤ 7302250; omega) ?_
  intro H1 locs1 hR1 hS1 hK1
  refine seg H1 locs1 _ _ (.int v1) hS1 ?_
  obtain ⟨c', z1, z2, z3⟩ := hK1 y cellY y1
  refine L_call (rest := [.int v1]) C hR1 hS1 hl hm2 ⟨c', z1, by rw [z3]; exact y2, by rw [e2, z2]; exact y3⟩ hd2 hl2 hn2 (by simp [cat_i, cat_l]) dd2 hr2 (by show _ ≤ 600000; omega) (by show _ ≤ 7302250; omega) ?_
  intro H2 locs2 hR2 hS2 hK2
  refine lv_icmp_eq (tgt := tgt) hx hb dd3 ht (fun _ => ?_) (fun z => absurd rfl z)
  exact k h2 H2 locs2 _ _ hJ2 hR2 hS2 (by omega) (by omega)
/-- the same, for an answer of 64 bits -/
theorem L_twoL {i1 i2 m1 m2 n d1 d2 pc2 tgt : Nat} {off : Int} {ya yb : MethodName} {ca cb : ByteArray} {As : List Value} {J : Hp → Prop} (C : LX G p s m args meth c) (hR : Rel G h H) (hS : va_S (gFree G) s.heap H locs) (hl : ls.size = 4) (kx : kd h x = 11) (ky : kd h y = 12) (hc : hn h = cells + gB G) (hms : hm h = slots)
    (hm1 : MV RL i1 ya ca m1 (some .long) n) (e1 : ya.cls = RR 10) (hm2 : MV RL i2 yb cb m2 (some .long) n) (e2 : yb.cls = RR 11) (hd1 : d1 + 1 ≤ 512) (hl1 : m1 ≤ 45) (hd2 : d2 + 1 ≤ 512) (hl2 : m2 ≤ 45) (hn2 : As.length = n)
    (hr : RunQ l G d1 ya ca m1 (some .long) (va_rf (some x) :: As) h (qL fun r h1 => RunQ l G d2 yb cb m2 (some .long) (va_rf (some y) :: As) h1 (qL fun r2 h2 => r = r2 ∧ J h2))) (hJ : ∀ h2, J h2 → hn h2 ≤ gB G + 600000 ∧ hm h2 ≤ 7302250)
    (seg : ∀ (H1 : Heap) (locs1 : List Loc) (cells1 slots1 : Nat) (v : Value), va_S (gFree G) s.heap H1 locs1 → W p l e room_1 s m args below meth c H1 locs1 cells1 slots1 Qw (F0 m pc2 ls (As.reverse ++ [.ref y, v])) → W p l e room_1 s m args below meth c H1 locs1 cells1 slots1 Qw (F0 m (pc + 3) ls [v]))
    (dd1 : decode cL_law pc = .ok (.invokevirtual i1, 3)) (dd2 : decode cL_law pc2 = .ok (.invokevirtual i2, 3)) (dd3 : decode cL_law (pc2 + 3) = .ok (.lcmp, 1)) (dd4 : decode cL_law (pc2 + 4) = .ok (.ifCond .eq off, 3)) (ht : ((pc2 + 4 : Nat) : Int) + off = (tgt : Int))
    (k : ∀ (h2 : Hp) (H2 : Heap) (locs2 : List Loc) (cells2 slots2 : Nat), J h2 → Rel G h2 H2 → va_S (gFree G) s.heap H2 locs2 → hn h2 = cells2 + gB G → hm h2 = slots2 → W p l e room_1 s m args below meth c H2 locs2 cells2 slots2 Qw (F0 m tgt ls [])) :
    W p l e room_1 s m args below meth c H locs cells slots Qw (F0 m pc ls (As.reverse ++ [.ref x])) := by
  have hx := C.1.1
  have hb := C.1.2.1
  obtain ⟨r1, h1, ⟨v1, rfl, hr2⟩, hr1⟩ := hr
  obtain ⟨r2, h2, ⟨v2, rfl, rfl, hJ2⟩, hr2⟩ := hr2
  obtain ⟨b1, b2⟩ := hJ h2 hJ2
  have a1 := hr1.1
  have a2 := hr1.2.1
  have a3 := hr2.1
  have a4 := hr2.2.1
  obtain ⟨cellY, y1, y2, y3⟩ := L_recv C hR (by decide) ky
  refine L_call C hR hS hl hm1 (by rw [e1]; exact L_recv C hR (by decide) kx) hd1 hl1 hn2 (by decide) dd1 hr1 (by show _ ≤ 600000; omega) (by show _ ≤ 7302250; omega) ?_
  intro H1 locs1 hR1 hS1 hK1
  refine seg H1 locs1 _ _ (.long v1) hS1 ?_
  obtain ⟨c', z1, z2, z3⟩ := hK1 y cellY y1
  refine L_call (rest := [.long v1]) C hR1 hS1 hl hm2 ⟨c', z1, by rw [z3]; exact y2, by rw [e2, z2]; exact y3⟩ hd2 hl2 hn2 (by simp [cat_i, cat_l]) dd2 hr2 (by show _ ≤ 600000; omega) (by show _ ≤ 7302250; omega) ?_
  intro H2 locs2 hR2 hS2 hK2
  refine W.lcmp hx hb dd3 ?_
  refine lv_if_eq (tgt := tgt) hx hb dd4 ht (fun _ => ?_) (fun z => absurd (lg_self _) z)
  exact k h2 H2 locs2 _ _ hJ2 hR2 hS2 (by omega) (by omega)
end LAWW
