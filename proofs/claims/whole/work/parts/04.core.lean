-- ===== the small heap: what a run of ours can see, by fields and by kinds of arrays =====
abbrev Hp : Type := (Nat → Nat → Int32) × (Nat → Nat → Option Nat) × (Nat → Nat → Nat → Int32) × (Nat → Nat → Nat → Int64) × (Nat → Nat → Nat → Option Nat) × (Nat → Nat) × (Nat → Nat) × Nat × Nat
def fI (h : Hp) (f a : Nat) : Int32 := h.1 f a
def fR (h : Hp) (f a : Nat) : Option Nat := h.2.1 f a
def aI (h : Hp) (k a j : Nat) : Int32 := h.2.2.1 k a j
def aL (h : Hp) (k a j : Nat) : Int64 := h.2.2.2.1 k a j
def aR (h : Hp) (k a j : Nat) : Option Nat := h.2.2.2.2.1 k a j
def kd (h : Hp) (a : Nat) : Nat := h.2.2.2.2.2.1 a
def ln (h : Hp) (a : Nat) : Nat := h.2.2.2.2.2.2.1 a
def hn (h : Hp) : Nat := h.2.2.2.2.2.2.2.1
def hm (h : Hp) : Nat := h.2.2.2.2.2.2.2.2
def u1 {α : Type} (f : Nat → α) (i : Nat) (v : α) : Nat → α := fun x => if x = i then v else f x
def u2 {α : Type} (f : Nat → Nat → α) (i j : Nat) (v : α) : Nat → Nat → α := fun x y => if x = i ∧ y = j then v else f x y
def u3 {α : Type} (f : Nat → Nat → Nat → α) (i j k : Nat) (v : α) : Nat → Nat → Nat → α := fun x y z => if x = i ∧ y = j ∧ z = k then v else f x y z
def sI (h : Hp) (f a : Nat) (v : Int32) : Hp := (u2 h.1 f a v, h.2)
def sR (h : Hp) (f a : Nat) (v : Option Nat) : Hp := (h.1, u2 h.2.1 f a v, h.2.2)
def tI (h : Hp) (k a j : Nat) (v : Int32) : Hp := (h.1, h.2.1, u3 h.2.2.1 k a j v, h.2.2.2)
def tL (h : Hp) (k a j : Nat) (v : Int64) : Hp := (h.1, h.2.1, h.2.2.1, u3 h.2.2.2.1 k a j v, h.2.2.2.2)
def tR (h : Hp) (k a j : Nat) (v : Option Nat) : Hp := (h.1, h.2.1, h.2.2.1, h.2.2.2.1, u3 h.2.2.2.2.1 k a j v, h.2.2.2.2.2)
/-- a new object or array of kind k with n slots, at hn h -/
def nw (h : Hp) (k n : Nat) : Hp := (fun f a => if a = hn h then 0 else h.1 f a, fun f a => if a = hn h then none else h.2.1 f a, fun c a j => if a = hn h then 0 else h.2.2.1 c a j, fun c a j => if a = hn h then 0 else h.2.2.2.1 c a j, fun c a j => if a = hn h then none else h.2.2.2.2.1 c a j, u1 h.2.2.2.2.2.1 (hn h) k, u1 h.2.2.2.2.2.2.1 (hn h) n, hn h + 1, hm h + n)
-- ===== the ghosts: class numbers, slots, array classes, where our own heap begins, the two constants =====
abbrev Gh : Type := (Nat → ClassId) × (Nat → Nat → Nat) × (Nat → ClassId) × Nat × Nat × Nat × Nat × Option Nat × Nat × Nat × (Nat → Int32)
def gC (G : Gh) (c : Nat) : ClassId := G.1 c
def gS (G : Gh) (c k : Nat) : Nat := G.2.1 c k
def gA (G : Gh) (t : Nat) : ClassId := G.2.2.1 t
def gB (G : Gh) : Nat := G.2.2.2.1
def gJ (G : Gh) : Nat := G.2.2.2.2.1
def gF (G : Gh) : Nat := G.2.2.2.2.2.1
def gV (G : Gh) : Nat := G.2.2.2.2.2.2.1
def gP (G : Gh) : Option Nat := G.2.2.2.2.2.2.2.1
/-- the script: where, how long, what -/
def gX (G : Gh) : Nat := G.2.2.2.2.2.2.2.2.1
def gL (G : Gh) : Nat := G.2.2.2.2.2.2.2.2.2.1
def gXs (G : Gh) : Nat → Int32 := G.2.2.2.2.2.2.2.2.2.2
def gFree (G : Gh) : Nat → Prop := fun q => gB G ≤ q
def isRf (c k : Nat) : Bool := match tyT c k with
  | .int => false
  | .boolean => false
  | _ => true
def fv (h : Hp) (c a k : Nat) : Value := if isRf c k = true then va_rf (fR h (128 * c + k) a) else .int (fI h (128 * c + k) a)
/-- the class of what an array of references of this kind holds -/
def rcK (k : Nat) : Nat := (k - 400) % 20
def cellAt (G : Gh) (h : Hp) (a : Nat) (H : Heap) : Prop :=
  if kd h a < 20 then t_OB a (gC G (kd h a - 1)) (NN (kd h a - 1)) (gS G (kd h a - 1)) H (fv h (kd h a - 1) a) ∧ kd h a < 13
  else if kd h a < 200 then H[a]? = some (arrV (gA G 0) (ln h a) (fun j => .int (aI h (kd h a) a j)))
  else if kd h a < 300 then H[a]? = some (arrV (gA G 1) (ln h a) (fun j => .int (aI h (kd h a) a j)))
  else if kd h a < 400 then H[a]? = some (arrV (gA G 2) (ln h a) (fun j => .long (aL h (kd h a) a j)))
  else H[a]? = some (arrV (gA G (10 + rcK (kd h a))) (ln h a) (fun j => va_rf (aR h (kd h a) a j)))
/-- kinds that may be written -/
def wK (k : Nat) : Prop := k < 20 ∨ 100 ≤ k
def Rel (G : Gh) (h : Hp) (H : Heap) : Prop := H.size = hn h ∧ gB G ≤ hn h ∧ ∀ a, kd h a ≠ 0 → a < hn h ∧ (wK (kd h a) → gB G ≤ a) ∧ cellAt G h a H
/-- what the machine's tables say, besides the words -/
def rcOK (c : Nat) : Prop := c = 0 ∨ c = 3 ∨ c = 4 ∨ c = 5 ∨ c = 7 ∨ c = 9
def StT (G : Gh) (U : State) : Prop := (∀ c, c < 12 → u_Kn U (RR c) (TT c) (NN c) (gC G c) (gS G c)) ∧ (ArrOfT U (gA G 0) .int ∧ va_RA U (gA G 0) .int) ∧ (ArrOfT U (gA G 1) .boolean ∧ va_RA U (gA G 1) .boolean) ∧ (ArrOfT U (gA G 2) .long ∧ va_RA U (gA G 2) .long) ∧ ∀ c, rcOK c → ArrOfT U (gA G (10 + c)) (.object (RR c)) ∧ va_RA U (gA G (10 + c)) (.object (RR c)) ∧ va_AO (RR c) U
def StN (U : State) : Prop := ∀ w ∈ lw_N, va_Nw w U
def JOINS_C : String := "ComplaintBooks$BestBook"
/-- what the one constant array holds -/
def jnV (j : Nat) : Int32 := if j = 0 then 120 else if j = 1 then 108 else 99
def StZ (G : Gh) (U : State) (H : Heap) : Prop := va_Z JOINS_C "JOINS" "[I" (.ref (gJ G)) (gFree G) U H ∧ va_T .int (gJ G) 3 (fun j => .int (jnV j)) (gFree G) U H
theorem StZ.go {G : Gh} {u U : State} {H H1 : Heap} (hvm : u.vm.Alike U.vm) (hq : ∀ a : Nat, a < H.size → ¬ gFree G a → H1[a]? = H[a]?) (h : StZ G u H) : StZ G U H1 :=
  ⟨(va_Z.moved hvm h.1).kept hq, (va_T.moved hvm h.2).kept hq⟩
/-- the letters of FIELDS: n b h t m w d y -/
def fldL : List Int32 := [110, 98, 104, 116, 109, 119, 100, 121]
def StB (G : Gh) (U : State) (H : Heap) : Prop := va_X (gX G) (gL G) (gXs G) U H ∧ gX G < gB G
theorem StB.go {G : Gh} {s U : State} {H H1 : Heap} (hvm : s.vm.Alike U.vm) (hq : ∀ a : Nat, a < H.size → ¬ gFree G a → H1[a]? = H[a]?) (h : StB G s H) : StB G U H1 := by
  obtain ⟨⟨scr, h1, h2, h3⟩, h4⟩ := h
  exact ⟨⟨scr, by rw [hq _ (Array.getElem?_eq_some_iff.mp h1).1 (Nat.not_le.mpr h4)]; exact h1, State.isArrayOf_alike hvm h2, h3⟩, h4⟩
def StS (G : Gh) (U : State) (H : Heap) : Prop := vk_S 1 [8] [fldL] (fun _ => gF G) (fun _ => gV G) (gFree G) U H ∧ va_Z "java/lang/String" "COMPACT_STRINGS" "Z" (.int 1) (gFree G) U H ∧ va_Z "jdk/internal/util/Preconditions" "SIOOBE_FORMATTER" "Ljava/util/function/BiFunction;" (va_rf (gP G)) (gFree G) U H ∧ va_Nw (.castable "[J" "java/lang/Cloneable") U ∧ StB G U H
theorem StS.go {G : Gh} {s U : State} {H H1 : Heap} (hW : s.WarmedH U.vm) (hq : ∀ a : Nat, a < H.size → ¬ gFree G a → H1[a]? = H[a]?) (h : StS G s H) : StS G U H1 := by
  obtain ⟨h1, h2, h3, h4, h5⟩ := h
  exact ⟨(vk_S.moved hW.alike h1).kept hq, (va_Z.moved hW.alike h2).kept hq, (va_Z.moved hW.alike h3).kept hq, va_Nw.warmC hW h4, h5.go hW.alike hq⟩
theorem StS.same {G : Gh} {u U : State} {H : Heap} (hv : U.vm = u.vm) (h : StS G u H) : StS G U H := by
  have ha : u.vm.Alike U.vm := by rw [hv]; exact Vm.Alike.refl _
  obtain ⟨h1, h2, h3, h4, h5⟩ := h
  exact ⟨vk_S.moved ha h1, va_Z.moved ha h2, va_Z.moved ha h3, va_Nw.same rfl hv.symm h4, h5.go ha (fun _ _ _ => rfl)⟩
def StF (G : Gh) (U : State) (H : Heap) : Prop := vk_R "ComplaintBooks$RuleReader" 15 "nbhtmwdy" (gF G) U ∧ StS G U H
def StX (G : Gh) (U : State) (H : Heap) : Prop := StT G U ∧ StN U ∧ StZ G U H ∧ StF G U H
theorem StT.moved {G : Gh} {u U : State} (hvm : u.vm.Alike U.vm) (h : StT G u) : StT G U :=
  ⟨fun c hc => u_Kn_moved hvm (h.1 c hc), ⟨arrOfT_moved hvm h.2.1.1, h.2.1.2.moved hvm⟩, ⟨arrOfT_moved hvm h.2.2.1.1, h.2.2.1.2.moved hvm⟩, ⟨arrOfT_moved hvm h.2.2.2.1.1, h.2.2.2.1.2.moved hvm⟩, fun c hc => ⟨arrOfT_moved hvm (h.2.2.2.2 c hc).1, (h.2.2.2.2 c hc).2.1.moved hvm, (h.2.2.2.2 c hc).2.2.moved hvm⟩⟩
theorem StN.warm {s U : State} (hW : s.WarmedH U.vm) (h : StN s) : StN U := by
  intro w hw
  have hz := h w hw
  have hi : lw_isN w = true := (List.mem_filter.mp hw).2
  cases w <;> first | (exact va_Nw.warmF hW hz) | (exact va_Nw.warmM hW hz) | (cases hi)
theorem StX.go {G : Gh} {s U : State} {H H1 : Heap} (hW : s.WarmedH U.vm) (hq : ∀ a : Nat, a < H.size → ¬ gFree G a → H1[a]? = H[a]?) (h : StX G s H) : StX G U H1 :=
  ⟨h.1.moved hW.alike, h.2.1.warm hW, h.2.2.1.go hW.alike hq, vk_R.warm hW h.2.2.2.1, h.2.2.2.2.go hW hq⟩
theorem StX.same {G : Gh} {u U : State} {H : Heap} (hv : U.vm = u.vm) (h : StX G u H) : StX G U H :=
  ⟨h.1.moved (by rw [hv]; exact Vm.Alike.refl _), fun w hw => va_Nw.same (by
    have hi : lw_isN w = true := (List.mem_filter.mp hw).2
    cases w <;> first | rfl | (cases hi)) hv.symm (h.2.1 w hw), h.2.2.1.go (by rw [hv]; exact Vm.Alike.refl _) (fun _ _ _ => rfl), vk_R.same hv h.2.2.2.1, h.2.2.2.2.same hv⟩
-- ===== the judgement =====
def QC (G : Gh) (r : Option Value) (h1 : Hp) : Array Value → State → Outcome → State → Prop := fun _ st o t => o = .returned r ∧ Rel G h1 t.heap ∧ va_F (gFree G) st t
def Ctx (G : Gh) (d : Nat) (y : MethodName) (cc : ByteArray) (mL : Nat) (rt : Option FieldType) (p : Program) (R : Room) (s : State) (m : MethodId) (args : Array Value) (meth : Method) (c : Code) : Prop :=
  p.tables.exec = Jvm.exec ∧ c.code = cc ∧ c.maxLocals = mL ∧ meth.sig.returnType = rt ∧ meth.locks = false ∧ s.vm.findClass y.cls = some m.cls ∧ (∀ w ∈ lw_T, w.before args s = true) ∧ StX G s s.heap ∧ meth.name = y.name ∧ d ≤ R.frames ∧ 64 * d ≤ R.locals
def VW (l : Launch) (G : Gh) (d : Nat) (y : MethodName) (cc : ByteArray) (mL : Nat) (rt : Option FieldType) (pc : Nat) (lv : List (Nat × Value)) (st : List Value) (h : Hp) (r : Option Value) (h1 : Hp) : Prop :=
  hn h ≤ hn h1 ∧ hm h ≤ hm h1 ∧ ∀ (p : Program) (e : Env) (R : Room) (s : State) (m : MethodId) (args : Array Value) (below : List Frame) (meth : Method) (c : Code) (H : Heap) (locs : List Loc) (ls : Array Slot) (cells slots mc ms : Nat),
    Ctx G d y cc mL rt p R s m args meth c → Rel G h H → va_S (gFree G) s.heap H locs → lv_has ls mL lv → cells + hn h1 ≤ mc + hn h → slots + hm h1 ≤ ms + hm h → mc ≤ R.cells → ms ≤ R.slots →
    W p l e R s m args below meth c H locs cells slots (MQ below (QC G r h1) args s mc ms (gFree G)) (F0 m pc ls st)
def V (l : Launch) (G : Gh) (d : Nat) (y : MethodName) (cc : ByteArray) (mL : Nat) (rt : Option FieldType) (pc : Nat) (lv : List (Nat × Value)) (st : List Value) (h : Hp) (Q : Option Value → Hp → Prop) : Prop :=
  ∃ r h1, Q r h1 ∧ VW l G d y cc mL rt pc lv st h r h1
def rmD (d c n : Nat) : Room := { frames := d, cells := c, slots := n, locals := 64 * d }
/-- a method's run, whole: from the heap h with these arguments to the heap h1 with this answer -/
def Run (l : Launch) (G : Gh) (d : Nat) (y : MethodName) (cc : ByteArray) (mL : Nat) (rt : Option FieldType) (av : List Value) (h : Hp) (r : Option Value) (h1 : Hp) : Prop :=
  hn h ≤ hn h1 ∧ hm h ≤ hm h1 ∧ Met l y (Cond.code y cc mL rt :: lw_T) (rmD d (hn h1 - hn h) (hm h1 - hm h)) (va_Pc av (fun U => Rel G h U.heap ∧ StX G U U.heap)) (QC G r h1) (hn h1 - hn h) (hm h1 - hm h) (gFree G)
def RunQ (l : Launch) (G : Gh) (d : Nat) (y : MethodName) (cc : ByteArray) (mL : Nat) (rt : Option FieldType) (av : List Value) (h : Hp) (Q : Option Value → Hp → Prop) : Prop :=
  ∃ r h1, Q r h1 ∧ Run l G d y cc mL rt av h r h1
def qI (Q : Int32 → Hp → Prop) : Option Value → Hp → Prop := fun v h => ∃ x, v = some (.int x) ∧ Q x h
def qL (Q : Int64 → Hp → Prop) : Option Value → Hp → Prop := fun v h => ∃ x, v = some (.long x) ∧ Q x h
def qR (Q : Option Nat → Hp → Prop) : Option Value → Hp → Prop := fun v h => ∃ x, v = some (va_rf x) ∧ Q x h
def qV (Q : Hp → Prop) : Option Value → Hp → Prop := fun v h => v = none ∧ Q h
section VS
variable {l : Launch} {G : Gh} {d : Nat} {y : MethodName} {cc : ByteArray} {mL : Nat} {rt : Option FieldType} {pc : Nat} {lv : List (Nat × Value)} {st rest : List Value} {h : Hp} {Q : Option Value → Hp → Prop}
theorem V.mono {Q' : Option Value → Hp → Prop} (k : V l G d y cc mL rt pc lv st h Q) (hq : ∀ r h1, Q r h1 → Q' r h1) : V l G d y cc mL rt pc lv st h Q' := by
  obtain ⟨r, h1, a, b⟩ := k
  exact ⟨r, h1, hq _ _ a, b⟩
/-- a step that changes no heap and makes nothing -/
theorem V.pure {pc2 : Nat} {lv2 : List (Nat × Value)} {st2 : List Value}
    (f : ∀ (p : Program) (e : Env) (R : Room) (s : State) (m : MethodId) (args : Array Value) (below : List Frame) (meth : Method) (c : Code) (H : Heap) (locs : List Loc) (ls : Array Slot) (cells slots : Nat) (Qw : State → Prop), Ctx G d y cc mL rt p R s m args meth c → Rel G h H → va_S (gFree G) s.heap H locs → lv_has ls mL lv →
      (∀ ls2, lv_has ls2 mL lv2 → W p l e R s m args below meth c H locs cells slots Qw (F0 m pc2 ls2 st2)) → W p l e R s m args below meth c H locs cells slots Qw (F0 m pc ls st))
    (k : V l G d y cc mL rt pc2 lv2 st2 h Q) : V l G d y cc mL rt pc lv st h Q := by
  obtain ⟨r, h1, a, b1, b2, b⟩ := k
  exact ⟨r, h1, a, b1, b2, fun p e R s m args below meth c H locs ls cells slots mc ms C hR hS hl e1 e2 e3 e4 => f _ _ _ _ _ _ _ _ _ _ _ _ _ _ _ C hR hS hl (fun ls2 hl2 => b p e R s m args below meth c H locs ls2 cells slots mc ms C hR hS hl2 e1 e2 e3 e4)⟩
/-- a step that changes the heap, makes nothing -/
theorem V.wr {pc2 : Nat} {st2 : List Value} {h2 : Hp} (z1 : hn h2 = hn h) (z2 : hm h2 = hm h)
    (f : ∀ (p : Program) (e : Env) (R : Room) (s : State) (m : MethodId) (args : Array Value) (below : List Frame) (meth : Method) (c : Code) (H : Heap) (locs : List Loc) (ls : Array Slot) (cells slots : Nat) (Qw : State → Prop), Ctx G d y cc mL rt p R s m args meth c → Rel G h H → va_S (gFree G) s.heap H locs → lv_has ls mL lv →
      (∀ H2 locs2, Rel G h2 H2 → va_S (gFree G) s.heap H2 locs2 → W p l e R s m args below meth c H2 locs2 cells slots Qw (F0 m pc2 ls st2)) → W p l e R s m args below meth c H locs cells slots Qw (F0 m pc ls st))
    (k : V l G d y cc mL rt pc2 lv st2 h2 Q) : V l G d y cc mL rt pc lv st h Q := by
  obtain ⟨r, h1, a, b1, b2, b⟩ := k
  rw [z1] at b1; rw [z2] at b2
  exact ⟨r, h1, a, b1, b2, fun p e R s m args below meth c H locs ls cells slots mc ms C hR hS hl e1 e2 e3 e4 => f _ _ _ _ _ _ _ _ _ _ _ _ _ _ _ C hR hS hl (fun H2 locs2 hR2 hS2 => b p e R s m args below meth c H2 locs2 ls cells slots mc ms C hR2 hS2 hl (by rw [z1]; exact e1) (by rw [z2]; exact e2) e3 e4)⟩
/-- a step that makes one object or array of n slots -/
theorem V.mk {pc2 : Nat} {st2 : List Value} {h2 : Hp} {n : Nat} (z1 : hn h2 = hn h + 1) (z2 : hm h2 = hm h + n)
    (f : ∀ (p : Program) (e : Env) (R : Room) (s : State) (m : MethodId) (args : Array Value) (below : List Frame) (meth : Method) (c : Code) (H : Heap) (locs : List Loc) (ls : Array Slot) (cells slots : Nat) (Qw : State → Prop), Ctx G d y cc mL rt p R s m args meth c → Rel G h H → va_S (gFree G) s.heap H locs → lv_has ls mL lv → cells + 1 ≤ R.cells → slots + n ≤ R.slots →
      (∀ H2, Rel G h2 H2 → va_S (gFree G) s.heap H2 locs → W p l e R s m args below meth c H2 locs (cells + 1) (slots + n) Qw (F0 m pc2 ls st2)) → W p l e R s m args below meth c H locs cells slots Qw (F0 m pc ls st))
    (k : V l G d y cc mL rt pc2 lv st2 h2 Q) : V l G d y cc mL rt pc lv st h Q := by
  obtain ⟨r, h1, a, b1, b2, b⟩ := k
  rw [z1] at b1; rw [z2] at b2
  exact ⟨r, h1, a, by omega, by omega, fun p e R s m args below meth c H locs ls cells slots mc ms C hR hS hl e1 e2 e3 e4 => f _ _ _ _ _ _ _ _ _ _ _ _ _ _ _ C hR hS hl (by omega) (by omega) (fun H2 hR2 hS2 => b p e R s m args below meth c H2 locs ls (cells + 1) (slots + n) mc ms C hR2 hS2 hl (by rw [z1]; omega) (by rw [z2]; omega) e3 e4)⟩
/-- two ways, by a condition (a conjunction, so that nothing looks into the condition) -/
def br (c A B : Prop) : Prop := (c → A) ∧ (¬ c → B)
/-- a branch: the machine comes to one of two, by a condition -/
theorem V.br {pc1 pc2 : Nat} {st2 : List Value} {c0 : Prop}
    (f : ∀ (p : Program) (e : Env) (R : Room) (s : State) (m : MethodId) (args : Array Value) (below : List Frame) (meth : Method) (c : Code) (H : Heap) (locs : List Loc) (ls : Array Slot) (cells slots : Nat) (Qw : State → Prop), Ctx G d y cc mL rt p R s m args meth c →
      (c0 → W p l e R s m args below meth c H locs cells slots Qw (F0 m pc1 ls st2)) → (¬ c0 → W p l e R s m args below meth c H locs cells slots Qw (F0 m pc2 ls st2)) → W p l e R s m args below meth c H locs cells slots Qw (F0 m pc ls st))
    {A B : Prop} (k : br c0 A B) (k1 : A → V l G d y cc mL rt pc1 lv st2 h Q) (k2 : B → V l G d y cc mL rt pc2 lv st2 h Q) : V l G d y cc mL rt pc lv st h Q := by
  by_cases hc : c0
  · obtain ⟨r, h1, a, b1, b2, b⟩ := k1 (k.1 hc)
    exact ⟨r, h1, a, b1, b2, fun p e R s m args below meth c H locs ls cells slots mc ms C hR hS hl e1 e2 e3 e4 => f _ _ _ _ _ _ _ _ _ _ _ _ _ _ _ C (fun _ => b p e R s m args below meth c H locs ls cells slots mc ms C hR hS hl e1 e2 e3 e4) (fun q => absurd hc q)⟩
  · obtain ⟨r, h1, a, b1, b2, b⟩ := k2 (k.2 hc)
    exact ⟨r, h1, a, b1, b2, fun p e R s m args below meth c H locs ls cells slots mc ms C hR hS hl e1 e2 e3 e4 => f _ _ _ _ _ _ _ _ _ _ _ _ _ _ _ C (fun q => absurd q hc) (fun _ => b p e R s m args below meth c H locs ls cells slots mc ms C hR hS hl e1 e2 e3 e4)⟩
/-- fewer listed locals -/
theorem V.sub {lv2 : List (Nat × Value)} (ks : List Nat) (hl : lv_pick lv ks = lv2) (k : V l G d y cc mL rt pc lv2 st h Q) : V l G d y cc mL rt pc lv st h Q :=
  V.pure (fun _ _ _ _ _ _ _ _ _ _ _ _ _ _ _ _ _ _ h1 kk => kk _ (lv_sub h1 ks hl)) k
theorem rf_cat (r : Option Nat) : (va_rf r).category = 1 := by cases r <;> rfl
end VS
section VI
variable {l : Launch} {G : Gh} {d : Nat} {y : MethodName} {cc : ByteArray} {mL : Nat} {rt : Option FieldType} {pc : Nat} {lv : List (Nat × Value)} {st : List Value} {h : Hp} {Q : Option Value → Hp → Prop}
theorem V_iconst {n : Int} {v : Int32} (hv : Int32.ofInt n = v) (hd : decode cc pc = .ok (.iconst n, 1)) (k : V l G d y cc mL rt (pc + 1) lv (.int v :: st) h Q) : V l G d y cc mL rt (pc) lv (st) h Q :=
  V.pure (fun _ _ _ _ _ _ _ _ _ _ _ _ _ _ _ C hR hS hl kk => lv_iconst C.1 C.2.1 hd hv (kk _ hl)) k
theorem V_bipush {n : Int} {v : Int32} (hv : (Int8.ofInt n).toInt32 = v) (hd : decode cc pc = .ok (.bipush n, 2)) (k : V l G d y cc mL rt (pc + 2) lv (.int v :: st) h Q) : V l G d y cc mL rt (pc) lv (st) h Q :=
  V.pure (fun _ _ _ _ _ _ _ _ _ _ _ _ _ _ _ C hR hS hl kk => lv_bipush C.1 C.2.1 hd hv (kk _ hl)) k
theorem V_sipush {n : Int} {v : Int32} (hv : (Int16.ofInt n).toInt32 = v) (hd : decode cc pc = .ok (.sipush n, 3)) (k : V l G d y cc mL rt (pc + 3) lv (.int v :: st) h Q) : V l G d y cc mL rt (pc) lv (st) h Q :=
  V.pure (fun _ _ _ _ _ _ _ _ _ _ _ _ _ _ _ C hR hS hl kk => lv_sipush C.1 C.2.1 hd hv (kk _ hl)) k
theorem V_lconst {n : Fin 2} {v : Int64} (hv : Int64.ofNat (n : Nat) = v) (hd : decode cc pc = .ok (.lconst n, 1)) (k : V l G d y cc mL rt (pc + 1) lv (.long v :: st) h Q) : V l G d y cc mL rt (pc) lv (st) h Q :=
  V.pure (fun _ _ _ _ _ _ _ _ _ _ _ _ _ _ _ C hR hS hl kk => lv_lconst C.1 C.2.1 hd hv (kk _ hl)) k
theorem V_null  (hd : decode cc pc = .ok (.aconst_null, 1)) (k : V l G d y cc mL rt (pc + 1) lv (va_rf none :: st) h Q) : V l G d y cc mL rt (pc) lv (st) h Q :=
  V.pure (fun _ _ _ _ _ _ _ _ _ _ _ _ _ _ _ C hR hS hl kk => lv_null C.1 C.2.1 hd (kk _ hl)) k
theorem V_iload_n {k0 : Fin 4} {i : Nat} {x : Int32} (j : Nat) (hi : (k0 : Nat) = i) (hj : lv[j]? = some (i, .int x)) (hd : decode cc pc = .ok (.iload_n k0, 1)) (k : V l G d y cc mL rt (pc + 1) lv (.int x :: st) h Q) : V l G d y cc mL rt (pc) lv (st) h Q :=
  V.pure (fun _ _ _ _ _ _ _ _ _ _ _ _ _ _ _ C hR hS hl kk => lv_iload_n C.1 C.2.1 hd hi (lv_at hl j hj) (kk _ hl)) k
theorem V_iload {i : Nat} {x : Int32} (j : Nat) (hj : lv[j]? = some (i, .int x)) (hd : decode cc pc = .ok (.iload i, 2)) (k : V l G d y cc mL rt (pc + 2) lv (.int x :: st) h Q) : V l G d y cc mL rt (pc) lv (st) h Q :=
  V.pure (fun _ _ _ _ _ _ _ _ _ _ _ _ _ _ _ C hR hS hl kk => lv_iload C.1 C.2.1 hd (lv_at hl j hj) (kk _ hl)) k
theorem V_lload_n {k0 : Fin 4} {i : Nat} {x : Int64} (j : Nat) (hi : (k0 : Nat) = i) (hj : lv[j]? = some (i, .long x)) (hd : decode cc pc = .ok (.lload_n k0, 1)) (k : V l G d y cc mL rt (pc + 1) lv (.long x :: st) h Q) : V l G d y cc mL rt (pc) lv (st) h Q :=
  V.pure (fun _ _ _ _ _ _ _ _ _ _ _ _ _ _ _ C hR hS hl kk => lv_lload_n C.1 C.2.1 hd hi (lv_at hl j hj) (kk _ hl)) k
theorem V_lload {i : Nat} {x : Int64} (j : Nat) (hj : lv[j]? = some (i, .long x)) (hd : decode cc pc = .ok (.lload i, 2)) (k : V l G d y cc mL rt (pc + 2) lv (.long x :: st) h Q) : V l G d y cc mL rt (pc) lv (st) h Q :=
  V.pure (fun _ _ _ _ _ _ _ _ _ _ _ _ _ _ _ C hR hS hl kk => lv_lload C.1 C.2.1 hd (lv_at hl j hj) (kk _ hl)) k
theorem V_aload_n {k0 : Fin 4} {i : Nat} {x : Option Nat} (j : Nat) (hi : (k0 : Nat) = i) (hj : lv[j]? = some (i, va_rf x)) (hd : decode cc pc = .ok (.aload_n k0, 1)) (k : V l G d y cc mL rt (pc + 1) lv (va_rf x :: st) h Q) : V l G d y cc mL rt (pc) lv (st) h Q :=
  V.pure (fun _ _ _ _ _ _ _ _ _ _ _ _ _ _ _ C hR hS hl kk => by
    cases x with
    | none => exact lv_aload_nN C.1 C.2.1 hd hi (lv_at hl j hj) (kk _ hl)
    | some x => exact lv_aload_n C.1 C.2.1 hd hi (lv_at hl j hj) (kk _ hl)) k
theorem V_aload {i : Nat} {x : Option Nat} (j : Nat) (hj : lv[j]? = some (i, va_rf x)) (hd : decode cc pc = .ok (.aload i, 2)) (k : V l G d y cc mL rt (pc + 2) lv (va_rf x :: st) h Q) : V l G d y cc mL rt (pc) lv (st) h Q :=
  V.pure (fun _ _ _ _ _ _ _ _ _ _ _ _ _ _ _ C hR hS hl kk => by
    cases x with
    | none => exact lv_aloadN C.1 C.2.1 hd (lv_at hl j hj) (kk _ hl)
    | some x => exact lv_aload C.1 C.2.1 hd (lv_at hl j hj) (kk _ hl)) k
theorem V_istore_n {k0 : Fin 4} {i : Nat} {x : Int32} (lv2 : List (Nat × Value)) (hi : (k0 : Nat) = i) (hb : i < mL) (hf : (i, Value.int x) :: lv.filter (fun q => !(q.1 == i) && !(q.1 + 1 == i && q.2.category == 2)) = lv2) (hd : decode cc pc = .ok (.istore_n k0, 1)) (k : V l G d y cc mL rt (pc + 1) lv2 (st) h Q) : V l G d y cc mL rt (pc) lv (.int x :: st) h Q :=
  V.pure (fun _ _ _ _ _ _ _ _ _ _ _ _ _ _ _ C hR hS hl kk => lv_istore_n C.1 C.2.1 hd hi hl hb hf (fun ls2 hl2 => kk ls2 hl2)) k
theorem V_istore {i : Nat} {x : Int32} (lv2 : List (Nat × Value)) (hb : i < mL) (hf : (i, Value.int x) :: lv.filter (fun q => !(q.1 == i) && !(q.1 + 1 == i && q.2.category == 2)) = lv2) (hd : decode cc pc = .ok (.istore i, 2)) (k : V l G d y cc mL rt (pc + 2) lv2 (st) h Q) : V l G d y cc mL rt (pc) lv (.int x :: st) h Q :=
  V.pure (fun _ _ _ _ _ _ _ _ _ _ _ _ _ _ _ C hR hS hl kk => lv_istore C.1 C.2.1 hd hl hb hf (fun ls2 hl2 => kk ls2 hl2)) k
theorem V_lstore_n {k0 : Fin 4} {i : Nat} {x : Int64} (lv2 : List (Nat × Value)) (hi : (k0 : Nat) = i) (hb : i + 1 < mL) (hf : (i, Value.long x) :: lv.filter (fun q => !(q.1 == i) && (!(q.1 == i + 1) && !(q.1 + 1 == i && q.2.category == 2))) = lv2) (hd : decode cc pc = .ok (.lstore_n k0, 1)) (k : V l G d y cc mL rt (pc + 1) lv2 (st) h Q) : V l G d y cc mL rt (pc) lv (.long x :: st) h Q :=
  V.pure (fun _ _ _ _ _ _ _ _ _ _ _ _ _ _ _ C hR hS hl kk => lv_lstore_n C.1 C.2.1 hd hi hl hb hf (fun ls2 hl2 => kk ls2 hl2)) k
theorem V_lstore {i : Nat} {x : Int64} (lv2 : List (Nat × Value)) (hb : i + 1 < mL) (hf : (i, Value.long x) :: lv.filter (fun q => !(q.1 == i) && (!(q.1 == i + 1) && !(q.1 + 1 == i && q.2.category == 2))) = lv2) (hd : decode cc pc = .ok (.lstore i, 2)) (k : V l G d y cc mL rt (pc + 2) lv2 (st) h Q) : V l G d y cc mL rt (pc) lv (.long x :: st) h Q :=
  V.pure (fun _ _ _ _ _ _ _ _ _ _ _ _ _ _ _ C hR hS hl kk => lv_lstore C.1 C.2.1 hd hl hb hf (fun ls2 hl2 => kk ls2 hl2)) k
theorem V_astore_n {k0 : Fin 4} {i : Nat} {x : Option Nat} (lv2 : List (Nat × Value)) (hi : (k0 : Nat) = i) (hb : i < mL) (hf : (i, va_rf x) :: lv.filter (fun q => !(q.1 == i) && !(q.1 + 1 == i && q.2.category == 2)) = lv2) (hd : decode cc pc = .ok (.astore_n k0, 1)) (k : V l G d y cc mL rt (pc + 1) lv2 (st) h Q) : V l G d y cc mL rt (pc) lv (va_rf x :: st) h Q :=
  V.pure (fun _ _ _ _ _ _ _ _ _ _ _ _ _ _ _ C hR hS hl kk => by
    cases x with
    | none => exact lv_astore_nN C.1 C.2.1 hd hi hl hb hf (fun ls2 hl2 => kk ls2 hl2)
    | some x => exact lv_astore_n C.1 C.2.1 hd hi hl hb hf (fun ls2 hl2 => kk ls2 hl2)) k
theorem V_astore {i : Nat} {x : Option Nat} (lv2 : List (Nat × Value)) (hb : i < mL) (hf : (i, va_rf x) :: lv.filter (fun q => !(q.1 == i) && !(q.1 + 1 == i && q.2.category == 2)) = lv2) (hd : decode cc pc = .ok (.astore i, 2)) (k : V l G d y cc mL rt (pc + 2) lv2 (st) h Q) : V l G d y cc mL rt (pc) lv (va_rf x :: st) h Q :=
  V.pure (fun _ _ _ _ _ _ _ _ _ _ _ _ _ _ _ C hR hS hl kk => by
    cases x with
    | none => exact lv_astoreN C.1 C.2.1 hd hl hb hf (fun ls2 hl2 => kk ls2 hl2)
    | some x => exact lv_astore C.1 C.2.1 hd hl hb hf (fun ls2 hl2 => kk ls2 hl2)) k
theorem V_iinc {i : Nat} {n : Int} {x v : Int32} (j : Nat) (lv2 : List (Nat × Value)) (hj : lv[j]? = some (i, .int x)) (hv : x + Int32.ofInt n = v) (hb : i < mL) (hf : (i, Value.int v) :: lv.filter (fun q => !(q.1 == i) && !(q.1 + 1 == i && q.2.category == 2)) = lv2) (hd : decode cc pc = .ok (.iinc i n, 3)) (k : V l G d y cc mL rt (pc + 3) lv2 (st) h Q) : V l G d y cc mL rt (pc) lv (st) h Q :=
  V.pure (fun _ _ _ _ _ _ _ _ _ _ _ _ _ _ _ C hR hS hl kk => lv_iinc C.1 C.2.1 hd hl hj hv hb hf (fun ls2 hl2 => kk ls2 hl2)) k
theorem V_iadd {x y0 : Int32} (hd : decode cc pc = .ok (.iadd, 1)) (k : V l G d y cc mL rt (pc + 1) lv (.int (x + y0) :: st) h Q) : V l G d y cc mL rt (pc) lv (.int y0 :: .int x :: st) h Q :=
  V.pure (fun _ _ _ _ _ _ _ _ _ _ _ _ _ _ _ C hR hS hl kk => lv_iadd C.1 C.2.1 hd (kk _ hl)) k
theorem V_isub {x y0 : Int32} (hd : decode cc pc = .ok (.isub, 1)) (k : V l G d y cc mL rt (pc + 1) lv (.int (x - y0) :: st) h Q) : V l G d y cc mL rt (pc) lv (.int y0 :: .int x :: st) h Q :=
  V.pure (fun _ _ _ _ _ _ _ _ _ _ _ _ _ _ _ C hR hS hl kk => lv_isub C.1 C.2.1 hd (kk _ hl)) k
theorem V_imul {x y0 : Int32} (hd : decode cc pc = .ok (.imul, 1)) (k : V l G d y cc mL rt (pc + 1) lv (.int (x * y0) :: st) h Q) : V l G d y cc mL rt (pc) lv (.int y0 :: .int x :: st) h Q :=
  V.pure (fun _ _ _ _ _ _ _ _ _ _ _ _ _ _ _ C hR hS hl kk => lv_imul C.1 C.2.1 hd (kk _ hl)) k
theorem V_iand {x y0 : Int32} (hd : decode cc pc = .ok (.iand, 1)) (k : V l G d y cc mL rt (pc + 1) lv (.int (x &&& y0) :: st) h Q) : V l G d y cc mL rt (pc) lv (.int y0 :: .int x :: st) h Q :=
  V.pure (fun _ _ _ _ _ _ _ _ _ _ _ _ _ _ _ C hR hS hl kk => lv_iand C.1 C.2.1 hd (kk _ hl)) k
theorem V_ior {x y0 : Int32} (hd : decode cc pc = .ok (.ior, 1)) (k : V l G d y cc mL rt (pc + 1) lv (.int (x ||| y0) :: st) h Q) : V l G d y cc mL rt (pc) lv (.int y0 :: .int x :: st) h Q :=
  V.pure (fun _ _ _ _ _ _ _ _ _ _ _ _ _ _ _ C hR hS hl kk => lv_ior C.1 C.2.1 hd (kk _ hl)) k
theorem V_ixor {x y0 : Int32} (hd : decode cc pc = .ok (.ixor, 1)) (k : V l G d y cc mL rt (pc + 1) lv (.int (x ^^^ y0) :: st) h Q) : V l G d y cc mL rt (pc) lv (.int y0 :: .int x :: st) h Q :=
  V.pure (fun _ _ _ _ _ _ _ _ _ _ _ _ _ _ _ C hR hS hl kk => lv_ixor C.1 C.2.1 hd (kk _ hl)) k
theorem V_ishl {x y0 : Int32} (hd : decode cc pc = .ok (.ishl, 1)) (k : V l G d y cc mL rt (pc + 1) lv (.int (x <<< (y0 &&& 31)) :: st) h Q) : V l G d y cc mL rt (pc) lv (.int y0 :: .int x :: st) h Q :=
  V.pure (fun _ _ _ _ _ _ _ _ _ _ _ _ _ _ _ C hR hS hl kk => lv_ishl C.1 C.2.1 hd (kk _ hl)) k
theorem V_ishr {x y0 : Int32} (hd : decode cc pc = .ok (.ishr, 1)) (k : V l G d y cc mL rt (pc + 1) lv (.int (x >>> (y0 &&& 31)) :: st) h Q) : V l G d y cc mL rt (pc) lv (.int y0 :: .int x :: st) h Q :=
  V.pure (fun _ _ _ _ _ _ _ _ _ _ _ _ _ _ _ C hR hS hl kk => lv_ishr C.1 C.2.1 hd (kk _ hl)) k
theorem V_idiv {x y0 : Int32} (hne : ¬ y0 = 0) (hd : decode cc pc = .ok (.idiv, 1)) (k : V l G d y cc mL rt (pc + 1) lv (.int (x / y0) :: st) h Q) : V l G d y cc mL rt (pc) lv (.int y0 :: .int x :: st) h Q :=
  V.pure (fun _ _ _ _ _ _ _ _ _ _ _ _ _ _ _ C hR hS hl kk => lv_idiv C.1 C.2.1 hd hne (kk _ hl)) k
theorem V_irem {x y0 : Int32} (hne : ¬ y0 = 0) (hd : decode cc pc = .ok (.irem, 1)) (k : V l G d y cc mL rt (pc + 1) lv (.int (x - x / y0 * y0) :: st) h Q) : V l G d y cc mL rt (pc) lv (.int y0 :: .int x :: st) h Q :=
  V.pure (fun _ _ _ _ _ _ _ _ _ _ _ _ _ _ _ C hR hS hl kk => lv_irem C.1 C.2.1 hd hne (kk _ hl)) k
theorem V_ineg {x : Int32} (hd : decode cc pc = .ok (.ineg, 1)) (k : V l G d y cc mL rt (pc + 1) lv (.int (-x) :: st) h Q) : V l G d y cc mL rt (pc) lv (.int x :: st) h Q :=
  V.pure (fun _ _ _ _ _ _ _ _ _ _ _ _ _ _ _ C hR hS hl kk => lv_ineg C.1 C.2.1 hd (kk _ hl)) k
theorem V_ladd {x y0 : Int64} (hd : decode cc pc = .ok (.ladd, 1)) (k : V l G d y cc mL rt (pc + 1) lv (.long (x + y0) :: st) h Q) : V l G d y cc mL rt (pc) lv (.long y0 :: .long x :: st) h Q :=
  V.pure (fun _ _ _ _ _ _ _ _ _ _ _ _ _ _ _ C hR hS hl kk => lv_ladd C.1 C.2.1 hd (kk _ hl)) k
theorem V_lsub {x y0 : Int64} (hd : decode cc pc = .ok (.lsub, 1)) (k : V l G d y cc mL rt (pc + 1) lv (.long (x - y0) :: st) h Q) : V l G d y cc mL rt (pc) lv (.long y0 :: .long x :: st) h Q :=
  V.pure (fun _ _ _ _ _ _ _ _ _ _ _ _ _ _ _ C hR hS hl kk => lv_lsub C.1 C.2.1 hd (kk _ hl)) k
theorem V_lmul {x y0 : Int64} (hd : decode cc pc = .ok (.lmul, 1)) (k : V l G d y cc mL rt (pc + 1) lv (.long (x * y0) :: st) h Q) : V l G d y cc mL rt (pc) lv (.long y0 :: .long x :: st) h Q :=
  V.pure (fun _ _ _ _ _ _ _ _ _ _ _ _ _ _ _ C hR hS hl kk => lv_lmul C.1 C.2.1 hd (kk _ hl)) k
theorem V_land {x y0 : Int64} (hd : decode cc pc = .ok (.land, 1)) (k : V l G d y cc mL rt (pc + 1) lv (.long (x &&& y0) :: st) h Q) : V l G d y cc mL rt (pc) lv (.long y0 :: .long x :: st) h Q :=
  V.pure (fun _ _ _ _ _ _ _ _ _ _ _ _ _ _ _ C hR hS hl kk => lv_land C.1 C.2.1 hd (kk _ hl)) k
theorem V_lor {x y0 : Int64} (hd : decode cc pc = .ok (.lor, 1)) (k : V l G d y cc mL rt (pc + 1) lv (.long (x ||| y0) :: st) h Q) : V l G d y cc mL rt (pc) lv (.long y0 :: .long x :: st) h Q :=
  V.pure (fun _ _ _ _ _ _ _ _ _ _ _ _ _ _ _ C hR hS hl kk => lv_lor C.1 C.2.1 hd (kk _ hl)) k
theorem V_lshl {x : Int64} {y0 : Int32} (hd : decode cc pc = .ok (.lshl, 1)) (k : V l G d y cc mL rt (pc + 1) lv (.long (x <<< (y0.toInt64 &&& 63)) :: st) h Q) : V l G d y cc mL rt (pc) lv (.int y0 :: .long x :: st) h Q :=
  V.pure (fun _ _ _ _ _ _ _ _ _ _ _ _ _ _ _ C hR hS hl kk => lv_lshl C.1 C.2.1 hd rfl (kk _ hl)) k
theorem V_i2l {x : Int32} (hd : decode cc pc = .ok (.i2l, 1)) (k : V l G d y cc mL rt (pc + 1) lv (.long x.toInt64 :: st) h Q) : V l G d y cc mL rt (pc) lv (.int x :: st) h Q :=
  V.pure (fun _ _ _ _ _ _ _ _ _ _ _ _ _ _ _ C hR hS hl kk => lv_i2l C.1 C.2.1 hd rfl (kk _ hl)) k
theorem V_l2i {x : Int64} (hd : decode cc pc = .ok (.l2i, 1)) (k : V l G d y cc mL rt (pc + 1) lv (.int x.toInt32 :: st) h Q) : V l G d y cc mL rt (pc) lv (.long x :: st) h Q :=
  V.pure (fun _ _ _ _ _ _ _ _ _ _ _ _ _ _ _ C hR hS hl kk => lv_l2i C.1 C.2.1 hd rfl (kk _ hl)) k
theorem V_i2b {x : Int32} (hd : decode cc pc = .ok (.i2b, 1)) (k : V l G d y cc mL rt (pc + 1) lv (.int x.toInt8.toInt32 :: st) h Q) : V l G d y cc mL rt (pc) lv (.int x :: st) h Q :=
  V.pure (fun _ _ _ _ _ _ _ _ _ _ _ _ _ _ _ C hR hS hl kk => lv_i2b C.1 C.2.1 hd rfl (kk _ hl)) k
theorem V_i2s {x : Int32} (hd : decode cc pc = .ok (.i2s, 1)) (k : V l G d y cc mL rt (pc + 1) lv (.int x.toInt16.toInt32 :: st) h Q) : V l G d y cc mL rt (pc) lv (.int x :: st) h Q :=
  V.pure (fun _ _ _ _ _ _ _ _ _ _ _ _ _ _ _ C hR hS hl kk => lv_i2s C.1 C.2.1 hd rfl (kk _ hl)) k
theorem V_dup {v : Value} (hv : v.category = 1) (hd : decode cc pc = .ok (.dup, 1)) (k : V l G d y cc mL rt (pc + 1) lv (v :: v :: st) h Q) : V l G d y cc mL rt (pc) lv (v :: st) h Q :=
  V.pure (fun _ _ _ _ _ _ _ _ _ _ _ _ _ _ _ C hR hS hl kk => lv_dup C.1 C.2.1 hd hv (kk _ hl)) k
theorem V_dup_x1 {v w : Value} (hv : v.category = 1) (hw : w.category = 1) (hd : decode cc pc = .ok (.dup_x1, 1)) (k : V l G d y cc mL rt (pc + 1) lv (v :: w :: v :: st) h Q) : V l G d y cc mL rt (pc) lv (v :: w :: st) h Q :=
  V.pure (fun _ _ _ _ _ _ _ _ _ _ _ _ _ _ _ C hR hS hl kk => lv_dup_x1 C.1 C.2.1 hd hv hw (kk _ hl)) k
theorem V_dup2 {v w : Value} (hv : v.category = 1) (hw : w.category = 1) (hd : decode cc pc = .ok (.dup2, 1)) (k : V l G d y cc mL rt (pc + 1) lv (v :: w :: v :: w :: st) h Q) : V l G d y cc mL rt (pc) lv (v :: w :: st) h Q :=
  V.pure (fun _ _ _ _ _ _ _ _ _ _ _ _ _ _ _ C hR hS hl kk => lv_dup2_11 C.1 C.2.1 hd hv hw (kk _ hl)) k
theorem V_pop {v : Value} (hv : v.category = 1) (hd : decode cc pc = .ok (.pop, 1)) (k : V l G d y cc mL rt (pc + 1) lv (st) h Q) : V l G d y cc mL rt (pc) lv (v :: st) h Q :=
  V.pure (fun _ _ _ _ _ _ _ _ _ _ _ _ _ _ _ C hR hS hl kk => lv_pop C.1 C.2.1 hd hv (kk _ hl)) k
theorem V_goto {off : Int} {tgt : Nat} (hd : decode cc pc = .ok (.goto off, 3)) (ht : (pc : Int) + off = (tgt : Int)) (k : V l G d y cc mL rt (tgt) lv (st) h Q) : V l G d y cc mL rt (pc) lv (st) h Q :=
  V.pure (fun _ _ _ _ _ _ _ _ _ _ _ _ _ _ _ C hR hS hl kk => lv_goto C.1 C.2.1 hd ht (kk _ hl)) k
theorem V_if_eq {x : Int32} {off : Int} {tgt : Nat} {P1 P2 : Prop} (hd : decode cc pc = .ok (.ifCond .eq off, 3)) (ht : (pc : Int) + off = (tgt : Int)) (k : br (x = 0) P1 P2) (k1 : P1 → V l G d y cc mL rt (tgt) lv (st) h Q) (k2 : P2 → V l G d y cc mL rt (pc + 3) lv (st) h Q) : V l G d y cc mL rt (pc) lv (.int x :: st) h Q :=
  V.br (fun _ _ _ _ _ _ _ _ _ _ _ _ _ _ _ C kt kf => lv_if_eq C.1 C.2.1 hd ht kt kf) k k1 k2
theorem V_icmp_eq {x y0 : Int32} {off : Int} {tgt : Nat} {P1 P2 : Prop} (hd : decode cc pc = .ok (.if_icmp .eq off, 3)) (ht : (pc : Int) + off = (tgt : Int)) (k : br (x = y0) P1 P2) (k1 : P1 → V l G d y cc mL rt (tgt) lv (st) h Q) (k2 : P2 → V l G d y cc mL rt (pc + 3) lv (st) h Q) : V l G d y cc mL rt (pc) lv (.int y0 :: .int x :: st) h Q :=
  V.br (fun _ _ _ _ _ _ _ _ _ _ _ _ _ _ _ C kt kf => lv_icmp_eq C.1 C.2.1 hd ht kt kf) k k1 k2
theorem V_if_lt {x : Int32} {off : Int} {tgt : Nat} {P1 P2 : Prop} (hd : decode cc pc = .ok (.ifCond .lt off, 3)) (ht : (pc : Int) + off = (tgt : Int)) (k : br (x < 0) P1 P2) (k1 : P1 → V l G d y cc mL rt (tgt) lv (st) h Q) (k2 : P2 → V l G d y cc mL rt (pc + 3) lv (st) h Q) : V l G d y cc mL rt (pc) lv (.int x :: st) h Q :=
  V.br (fun _ _ _ _ _ _ _ _ _ _ _ _ _ _ _ C kt kf => lv_if_lt C.1 C.2.1 hd ht kt kf) k k1 k2
theorem V_icmp_lt {x y0 : Int32} {off : Int} {tgt : Nat} {P1 P2 : Prop} (hd : decode cc pc = .ok (.if_icmp .lt off, 3)) (ht : (pc : Int) + off = (tgt : Int)) (k : br (x < y0) P1 P2) (k1 : P1 → V l G d y cc mL rt (tgt) lv (st) h Q) (k2 : P2 → V l G d y cc mL rt (pc + 3) lv (st) h Q) : V l G d y cc mL rt (pc) lv (.int y0 :: .int x :: st) h Q :=
  V.br (fun _ _ _ _ _ _ _ _ _ _ _ _ _ _ _ C kt kf => lv_icmp_lt C.1 C.2.1 hd ht kt kf) k k1 k2
theorem V_if_ge {x : Int32} {off : Int} {tgt : Nat} {P1 P2 : Prop} (hd : decode cc pc = .ok (.ifCond .ge off, 3)) (ht : (pc : Int) + off = (tgt : Int)) (k : br (0 ≤ x) P1 P2) (k1 : P1 → V l G d y cc mL rt (tgt) lv (st) h Q) (k2 : P2 → V l G d y cc mL rt (pc + 3) lv (st) h Q) : V l G d y cc mL rt (pc) lv (.int x :: st) h Q :=
  V.br (fun _ _ _ _ _ _ _ _ _ _ _ _ _ _ _ C kt kf => lv_if_ge C.1 C.2.1 hd ht kt kf) k k1 k2
theorem V_icmp_ge {x y0 : Int32} {off : Int} {tgt : Nat} {P1 P2 : Prop} (hd : decode cc pc = .ok (.if_icmp .ge off, 3)) (ht : (pc : Int) + off = (tgt : Int)) (k : br (y0 ≤ x) P1 P2) (k1 : P1 → V l G d y cc mL rt (tgt) lv (st) h Q) (k2 : P2 → V l G d y cc mL rt (pc + 3) lv (st) h Q) : V l G d y cc mL rt (pc) lv (.int y0 :: .int x :: st) h Q :=
  V.br (fun _ _ _ _ _ _ _ _ _ _ _ _ _ _ _ C kt kf => lv_icmp_ge C.1 C.2.1 hd ht kt kf) k k1 k2
theorem V_if_gt {x : Int32} {off : Int} {tgt : Nat} {P1 P2 : Prop} (hd : decode cc pc = .ok (.ifCond .gt off, 3)) (ht : (pc : Int) + off = (tgt : Int)) (k : br (0 < x) P1 P2) (k1 : P1 → V l G d y cc mL rt (tgt) lv (st) h Q) (k2 : P2 → V l G d y cc mL rt (pc + 3) lv (st) h Q) : V l G d y cc mL rt (pc) lv (.int x :: st) h Q :=
  V.br (fun _ _ _ _ _ _ _ _ _ _ _ _ _ _ _ C kt kf => lv_if_gt C.1 C.2.1 hd ht kt kf) k k1 k2
theorem V_icmp_gt {x y0 : Int32} {off : Int} {tgt : Nat} {P1 P2 : Prop} (hd : decode cc pc = .ok (.if_icmp .gt off, 3)) (ht : (pc : Int) + off = (tgt : Int)) (k : br (y0 < x) P1 P2) (k1 : P1 → V l G d y cc mL rt (tgt) lv (st) h Q) (k2 : P2 → V l G d y cc mL rt (pc + 3) lv (st) h Q) : V l G d y cc mL rt (pc) lv (.int y0 :: .int x :: st) h Q :=
  V.br (fun _ _ _ _ _ _ _ _ _ _ _ _ _ _ _ C kt kf => lv_icmp_gt C.1 C.2.1 hd ht kt kf) k k1 k2
theorem V_if_le {x : Int32} {off : Int} {tgt : Nat} {P1 P2 : Prop} (hd : decode cc pc = .ok (.ifCond .le off, 3)) (ht : (pc : Int) + off = (tgt : Int)) (k : br (x ≤ 0) P1 P2) (k1 : P1 → V l G d y cc mL rt (tgt) lv (st) h Q) (k2 : P2 → V l G d y cc mL rt (pc + 3) lv (st) h Q) : V l G d y cc mL rt (pc) lv (.int x :: st) h Q :=
  V.br (fun _ _ _ _ _ _ _ _ _ _ _ _ _ _ _ C kt kf => lv_if_le C.1 C.2.1 hd ht kt kf) k k1 k2
theorem V_icmp_le {x y0 : Int32} {off : Int} {tgt : Nat} {P1 P2 : Prop} (hd : decode cc pc = .ok (.if_icmp .le off, 3)) (ht : (pc : Int) + off = (tgt : Int)) (k : br (x ≤ y0) P1 P2) (k1 : P1 → V l G d y cc mL rt (tgt) lv (st) h Q) (k2 : P2 → V l G d y cc mL rt (pc + 3) lv (st) h Q) : V l G d y cc mL rt (pc) lv (.int y0 :: .int x :: st) h Q :=
  V.br (fun _ _ _ _ _ _ _ _ _ _ _ _ _ _ _ C kt kf => lv_icmp_le C.1 C.2.1 hd ht kt kf) k k1 k2
theorem V_if_ne {x : Int32} {off : Int} {tgt : Nat} {P1 P2 : Prop} (hd : decode cc pc = .ok (.ifCond .ne off, 3)) (ht : (pc : Int) + off = (tgt : Int)) (k : br (x = 0) P1 P2) (k1 : P1 → V l G d y cc mL rt (pc + 3) lv (st) h Q) (k2 : P2 → V l G d y cc mL rt (tgt) lv (st) h Q) : V l G d y cc mL rt (pc) lv (.int x :: st) h Q :=
  V.br (fun _ _ _ _ _ _ _ _ _ _ _ _ _ _ _ C kt kf => lv_if_ne C.1 C.2.1 hd ht kf kt) k k1 k2
theorem V_icmp_ne {x y0 : Int32} {off : Int} {tgt : Nat} {P1 P2 : Prop} (hd : decode cc pc = .ok (.if_icmp .ne off, 3)) (ht : (pc : Int) + off = (tgt : Int)) (k : br (x = y0) P1 P2) (k1 : P1 → V l G d y cc mL rt (pc + 3) lv (st) h Q) (k2 : P2 → V l G d y cc mL rt (tgt) lv (st) h Q) : V l G d y cc mL rt (pc) lv (.int y0 :: .int x :: st) h Q :=
  V.br (fun _ _ _ _ _ _ _ _ _ _ _ _ _ _ _ C kt kf => lv_icmp_ne C.1 C.2.1 hd ht kf kt) k k1 k2
theorem V_acmp_eq {x y0 : Option Nat} {off : Int} {tgt : Nat} {P1 P2 : Prop} (hd : decode cc pc = .ok (.if_acmp .eq off, 3)) (ht : (pc : Int) + off = (tgt : Int)) (k : br (x = y0) P1 P2) (k1 : P1 → V l G d y cc mL rt (tgt) lv (st) h Q) (k2 : P2 → V l G d y cc mL rt (pc + 3) lv (st) h Q) : V l G d y cc mL rt (pc) lv (va_rf y0 :: va_rf x :: st) h Q :=
  V.br (fun _ _ _ _ _ _ _ _ _ _ _ _ _ _ _ C kt kf => lv_acmp_eq C.1 C.2.1 hd ht kt kf) k k1 k2
theorem V_acmp_ne {x y0 : Option Nat} {off : Int} {tgt : Nat} {P1 P2 : Prop} (hd : decode cc pc = .ok (.if_acmp .ne off, 3)) (ht : (pc : Int) + off = (tgt : Int)) (k : br (x = y0) P1 P2) (k1 : P1 → V l G d y cc mL rt (pc + 3) lv (st) h Q) (k2 : P2 → V l G d y cc mL rt (tgt) lv (st) h Q) : V l G d y cc mL rt (pc) lv (va_rf y0 :: va_rf x :: st) h Q :=
  V.br (fun _ _ _ _ _ _ _ _ _ _ _ _ _ _ _ C kt kf => lv_acmp_ne C.1 C.2.1 hd ht kf kt) k k1 k2
theorem V_ifnull {x : Option Nat} {off : Int} {tgt : Nat} {P1 P2 : Prop} (hd : decode cc pc = .ok (.ifnull off, 3)) (ht : (pc : Int) + off = (tgt : Int)) (k : br (x = none) P1 P2) (k1 : P1 → V l G d y cc mL rt (tgt) lv (st) h Q) (k2 : P2 → V l G d y cc mL rt (pc + 3) lv (st) h Q) : V l G d y cc mL rt (pc) lv (va_rf x :: st) h Q :=
  V.br (fun _ _ _ _ _ _ _ _ _ _ _ _ _ _ _ C kt kf => by
    cases x with
    | none => exact lv_ifnullN C.1 C.2.1 hd ht (kt rfl)
    | some x => exact lv_ifnull C.1 C.2.1 hd (kf (by simp))) k k1 k2
theorem V_ifnonnull {x : Option Nat} {off : Int} {tgt : Nat} {P1 P2 : Prop} (hd : decode cc pc = .ok (.ifnonnull off, 3)) (ht : (pc : Int) + off = (tgt : Int)) (k : br (x = none) P1 P2) (k1 : P1 → V l G d y cc mL rt (pc + 3) lv (st) h Q) (k2 : P2 → V l G d y cc mL rt (tgt) lv (st) h Q) : V l G d y cc mL rt (pc) lv (va_rf x :: st) h Q :=
  V.br (fun _ _ _ _ _ _ _ _ _ _ _ _ _ _ _ C kt kf => by
    cases x with
    | none => exact lv_ifnonnullN C.1 C.2.1 hd (kt rfl)
    | some x => exact lv_ifnonnull C.1 C.2.1 hd ht (kf (by simp))) k k1 k2
end VI
section VH
variable {G : Gh} {h h2 : Hp} {H H2 : Heap} {a c k : Nat}
theorem cellAt.obj (hc : cellAt G h a H) (ha : kd h a = c + 1) (h12 : c < 12) : t_OB a (gC G c) (NN c) (gS G c) H (fv h c a) := by
  unfold cellAt at hc
  rw [ha, if_pos (by omega)] at hc
  exact hc.1
theorem cellAt.int (hc : cellAt G h a H) (h1 : 20 ≤ kd h a) (h3 : kd h a < 200) : H[a]? = some (arrV (gA G 0) (ln h a) (fun j => .int (aI h (kd h a) a j))) := by
  unfold cellAt at hc
  rwa [if_neg (by omega), if_pos h3] at hc
theorem cellAt.bool (hc : cellAt G h a H) (h1 : 200 ≤ kd h a) (h3 : kd h a < 300) : H[a]? = some (arrV (gA G 1) (ln h a) (fun j => .int (aI h (kd h a) a j))) := by
  unfold cellAt at hc
  rwa [if_neg (by omega), if_neg (by omega), if_pos h3] at hc
theorem cellAt.long (hc : cellAt G h a H) (h1 : 300 ≤ kd h a) (h3 : kd h a < 400) : H[a]? = some (arrV (gA G 2) (ln h a) (fun j => .long (aL h (kd h a) a j))) := by
  unfold cellAt at hc
  rwa [if_neg (by omega), if_neg (by omega), if_neg (by omega), if_pos h3] at hc
theorem cellAt.refs (hc : cellAt G h a H) (h1 : 400 ≤ kd h a) : H[a]? = some (arrV (gA G (10 + rcK (kd h a))) (ln h a) (fun j => va_rf (aR h (kd h a) a j))) := by
  unfold cellAt at hc
  rwa [if_neg (by omega), if_neg (by omega), if_neg (by omega), if_neg (by omega)] at hc
theorem cellAt.kept (hc : cellAt G h a H) (ek : kd h2 a = kd h a) (el : ln h2 a = ln h a) (o1 : ∀ f, fI h2 f a = fI h f a) (o2 : ∀ f, fR h2 f a = fR h f a) (o3 : ∀ k j, aI h2 k a j = aI h k a j) (o4 : ∀ k j, aL h2 k a j = aL h k a j) (o5 : ∀ k j, aR h2 k a j = aR h k a j) (eH : H2[a]? = H[a]?) : cellAt G h2 a H2 := by
  unfold cellAt at hc ⊢
  rw [ek, el, eH]
  simp only [o3, o4, o5]
  by_cases hlt : kd h a < 20
  · rw [if_pos hlt] at hc ⊢
    refine ⟨(hc.1.kept eH).to fun j _ => ?_, hc.2⟩
    unfold fv
    rw [o1, o2]
  · rw [if_neg hlt] at hc ⊢
    exact hc
theorem cellAt.mkI (h1 : 20 ≤ kd h a) (h3 : kd h a < 200) (hc : H[a]? = some (arrV (gA G 0) (ln h a) (fun j => .int (aI h (kd h a) a j)))) : cellAt G h a H := by
  unfold cellAt
  rwa [if_neg (by omega), if_pos h3]
theorem cellAt.mkZ (h1 : 200 ≤ kd h a) (h3 : kd h a < 300) (hc : H[a]? = some (arrV (gA G 1) (ln h a) (fun j => .int (aI h (kd h a) a j)))) : cellAt G h a H := by
  unfold cellAt
  rwa [if_neg (by omega), if_neg (by omega), if_pos h3]
theorem cellAt.mkL (h1 : 300 ≤ kd h a) (h3 : kd h a < 400) (hc : H[a]? = some (arrV (gA G 2) (ln h a) (fun j => .long (aL h (kd h a) a j)))) : cellAt G h a H := by
  unfold cellAt
  rwa [if_neg (by omega), if_neg (by omega), if_neg (by omega), if_pos h3]
theorem cellAt.mkR (h1 : 400 ≤ kd h a) (hc : H[a]? = some (arrV (gA G (10 + rcK (kd h a))) (ln h a) (fun j => va_rf (aR h (kd h a) a j)))) : cellAt G h a H := by
  unfold cellAt
  rwa [if_neg (by omega), if_neg (by omega), if_neg (by omega), if_neg (by omega)]
theorem Rel.wr (hR : Rel G h H) (z : hn h2 = hn h) (ek : ∀ q, kd h2 q = kd h q) (el : ∀ q, ln h2 q = ln h q) (o1 : ∀ f q, q ≠ a → fI h2 f q = fI h f q) (o2 : ∀ f q, q ≠ a → fR h2 f q = fR h f q) (o3 : ∀ k q j, q ≠ a → aI h2 k q j = aI h k q j) (o4 : ∀ k q j, q ≠ a → aL h2 k q j = aL h k q j) (o5 : ∀ k q j, q ≠ a → aR h2 k q j = aR h k q j)
    (ez : H2.size = H.size) (eo : ∀ q : Nat, q ≠ a → H2[q]? = H[q]?) (hs : cellAt G h2 a H2) : Rel G h2 H2 := by
  obtain ⟨r1, r2, r3⟩ := hR
  refine ⟨by rw [ez, z]; exact r1, by rw [z]; exact r2, fun q hq => ?_⟩
  rw [ek] at hq
  obtain ⟨s1, s2, s3⟩ := r3 q hq
  refine ⟨by rw [z]; exact s1, by rw [ek]; exact s2, ?_⟩
  by_cases e : q = a
  · rw [e]; exact hs
  · exact s3.kept (ek q) (el q) (fun f => o1 f q e) (fun f => o2 f q e) (fun k j => o3 k q j e) (fun k j => o4 k q j e) (fun k j => o5 k q j e) (eo q e)
theorem u2_ne {α : Type} {f : Nat → Nat → α} {i j x y : Nat} {v : α} (h : y ≠ j) : u2 f i j v x y = f x y := by
  unfold u2
  rw [if_neg (fun q => h q.2)]
theorem u3_ne {α : Type} {f : Nat → Nat → Nat → α} {i j k x y z : Nat} {v : α} (h : y ≠ j) : u3 f i j k v x y z = f x y z := by
  unfold u3
  rw [if_neg (fun q => h q.2.1)]
/-- a cell that is new -/
theorem Rel.mk {n : Nat} (hR : Rel G h H) (hk : k ≠ 0) (ez : H2.size = hn h + 1) (eo : ∀ q : Nat, q < hn h → H2[q]? = H[q]?) (hs : cellAt G (nw h k n) (hn h) H2) : Rel G (nw h k n) H2 := by
  obtain ⟨r1, r2, r3⟩ := hR
  refine ⟨ez, Nat.le_succ_of_le r2, fun q hq => ?_⟩
  by_cases e : q = hn h
  · subst e
    exact ⟨Nat.lt_succ_self _, fun _ => r2, hs⟩
  · have ek : kd (nw h k n) q = kd h q := by show u1 _ _ _ _ = _; unfold u1; rw [if_neg e]; rfl
    rw [ek] at hq
    obtain ⟨s1, s2, s3⟩ := r3 q hq
    refine ⟨Nat.lt_succ_of_lt s1, by rw [ek]; exact s2, ?_⟩
    refine s3.kept ek (by show u1 _ _ _ _ = _; unfold u1; rw [if_neg e]; rfl) (fun f => ?_) (fun f => ?_) (fun k j => ?_) (fun k j => ?_) (fun k j => ?_) (eo q s1) <;> exact if_neg e
theorem k1_K {U : State} {C : String} {T : u_T} {N : Nat} {cC : ClassId} {iS : Nat → Nat} (hk : u_Kn U C T N cC iS) : va_K ((fun _ => cC), (fun _ => iS)) [(C, T, N)] [] U := by
  refine ⟨fun j q hq => ?_, fun j q hq => by simp at hq⟩
  match j, hq with
  | 0, hq => cases hq; exact hk
  | j + 1, hq => simp at hq
theorem isRf_int {c k : Nat} (h : tyT c k = .int) : isRf c k = false := by unfold isRf; rw [h]
theorem isRf_bool {c k : Nat} (h : tyT c k = .boolean) : isRf c k = false := by unfold isRf; rw [h]
theorem b01 {x : Int32} (h : x = 0 ∨ x = 1) : narrow .boolean (.int x) = .int x ∧ fits .boolean (.int x) = true := by
  rcases h with rfl | rfl <;> exact ⟨rfl, rfl⟩
/-- what may stand in field k of class c -/
def fitF (c k : Nat) (x : Int32) : Prop := tyT c k = .int ∨ (tyT c k = .boolean ∧ (x = 0 ∨ x = 1))
theorem fitF.nar {c k : Nat} {x : Int32} (h : fitF c k x) : isRf c k = false ∧ narrow (tyT c k) (.int x) = .int x ∧ fits (tyT c k) (.int x) = true := by
  rcases h with e | ⟨e, z⟩
  · exact ⟨isRf_int e, by rw [e]; rfl, by rw [e]; rfl⟩
  · exact ⟨isRf_bool e, by rw [e]; exact (b01 z).1, by rw [e]; exact (b01 z).2⟩
def fitR (c k : Nat) : Prop := (∃ C, tyT c k = .object C) ∨ ∃ t, tyT c k = .array t
theorem fitR.nar {c k : Nat} (h : fitR c k) (r : Option Nat) : isRf c k = true ∧ narrow (tyT c k) (va_rf r) = va_rf r ∧ fits (tyT c k) (va_rf r) = true := by
  rcases h with ⟨C, e⟩ | ⟨t, e⟩ <;> (unfold isRf; rw [e]; cases r <;> exact ⟨rfl, rfl, rfl⟩)
end VH
section VJ
variable {l : Launch} {G : Gh} {d : Nat} {y : MethodName} {cc : ByteArray} {mL : Nat} {rt : Option FieldType} {pc : Nat} {lv : List (Nat × Value)} {st : List Value} {h : Hp} {Q : Option Value → Hp → Prop}
theorem V_get {idx c k a : Nat} (hf : FA y.cls idx c k) (ha : kd h a = c + 1) (hd : decode cc pc = .ok (.getfield idx, 3)) (k0 : V l G d y cc mL rt (pc + 3) lv (fv h c a k :: st) h Q) : V l G d y cc mL rt pc lv (va_rf (some a) :: st) h Q :=
  V.pure (fun p e R s m args below meth co H locs ls cells slots Qw C hR hS hl kk => by
    obtain ⟨⟨hc, hk⟩, hlink⟩ := hf
    obtain ⟨hx, hb, -, -, -, hown, hts, hX, -⟩ := C
    obtain ⟨cell, q1, q2, q3, q4⟩ := (hR.2.2 a (by omega)).2.2.obj ha hc
    obtain ⟨ws, ty, nm, own⟩ := cls_ok c hc
    obtain ⟨hsl, hfc, kC, hkC, hkind⟩ := hX.1.1 c hc
    obtain ⟨cf, kf, fi, f, hi, hs⟩ := hsl k hk
    have hi' : s.fieldFound? (RR c) (TT c k).2.1 (TT c k).2.2.1 = some (cf, kf, fi, f) := by rw [← own k hk]; exact hi
    have hst := (u_facts hfc hkC (u_lays hts ws hk) hi).1
    rcases hlink with hL | ⟨host, hL⟩
    · exact W.getf hx hb hown (hts _ hL) hi' hst q1 (by rw [q3]; exact fun h => by cases h) (by rw [hs]; exact q4 k hk) rfl rfl hd (kk _ hl)
    · exact va_Wgetf hx hb hown (va_Nw.use rfl (hX.2.1 _ hL)) hi' hst q1 (by rw [q3]; exact fun h => by cases h) (by rw [hs]; exact q4 k hk) rfl rfl hd (kk _ hl)) k0
theorem V_put {idx c k a : Nat} {v : Value} {h2 : Hp} (hf : FA y.cls idx c k) (hfin : (TT c k).2.2.2 = false ∨ ((TT c k).2.2.2 = true ∧ y.name = "<init>" ∧ y.cls = RR c ∧ Cond.fieldLink y.cls idx (RR c) (TT c k).2.1 (TT c k).2.2.1 ∈ lw_T)) (ha : kd h a = c + 1) (hnar : narrow (tyT c k) v = v) (hfit : fits (tyT c k) v = true)
    (z1 : hn h2 = hn h) (z2 : hm h2 = hm h) (ek : ∀ q, kd h2 q = kd h q) (el : ∀ q, ln h2 q = ln h q) (o1 : ∀ f q, q ≠ a → fI h2 f q = fI h f q) (o2 : ∀ f q, q ≠ a → fR h2 f q = fR h f q) (o3 : ∀ k q j, q ≠ a → aI h2 k q j = aI h k q j) (o4 : ∀ k q j, q ≠ a → aL h2 k q j = aL h k q j) (o5 : ∀ k q j, q ≠ a → aR h2 k q j = aR h k q j)
    (hv : ∀ j, j < NN c → fv h2 c a j = updV (fv h c a) k v j) (hd : decode cc pc = .ok (.putfield idx, 3)) (k0 : V l G d y cc mL rt (pc + 3) lv st h2 Q) : V l G d y cc mL rt pc lv (v :: va_rf (some a) :: st) h Q :=
  V.wr z1 z2 (fun p e R s m args below meth co H locs ls cells slots Qw C hR hS hl kk => by
    obtain ⟨⟨hc, hk⟩, hlink⟩ := hf
    obtain ⟨hx, hb, -, -, -, hown, hts, hX, hnm, -⟩ := C
    obtain ⟨hlt, hbase, hcell⟩ := hR.2.2 a (by omega)
    obtain ⟨cell, q1, q2, q3, q4⟩ := hcell.obj ha hc
    obtain ⟨ws, ty, nm, own⟩ := cls_ok c hc
    have hKn := hX.1.1 c hc
    have hap := va_apart (own := y.cls) (D := ((fun _ => gC G c), (fun _ => gS G c))) (cl := [(RR c, TT c, NN c)]) (tys := []) hts ws (tyT c) ty nm (k1_K hKn) (ci := 0) rfl
    obtain ⟨hsl, hfc, kC, hkC, hkind⟩ := hKn
    obtain ⟨cf, kf, fi, f, hi, hs⟩ := hsl k hk
    have hi' : s.fieldFound? (RR c) (TT c k).2.1 (TT c k).2.2.1 = some (cf, kf, fi, f) := by rw [← own k hk]; exact hi
    have hst := (u_facts hfc hkC (u_lays hts ws hk) hi).1
    have hlay := hts _ (ws _ (u_in_lay hk))
    unfold u_lay at hlay
    have hgo : ∀ H' : Heap, H'[a]? = some (cell.setSlot f.slot v) → H'.size = H.size → (∀ q : Nat, q ≠ a → H'[q]? = H[q]?) → W p l e R s m args below meth co H' (locs ++ [⟨a, f.slot⟩]) cells slots Qw (F0 m (pc + 3) ls st) := by
      intro H' e1 e2 e3
      rw [hs] at e1 ⊢
      refine kk H' _ (Rel.wr (a := a) hR z1 ek el o1 o2 o3 o4 o5 e2 e3 ?_) (hS.put e2 e3 (hbase (Or.inl (by omega))))
      unfold cellAt
      rw [ek, ha, if_pos (by omega)]
      refine ⟨?_, by omega⟩
      exact t_OB.to (V := updV (fv h c a) k v) ⟨_, e1, q2, q3, t_set q4 hap hk v⟩ (fun j hj => (hv j hj).symm)
    rcases hfin with hfin | ⟨hfin, hini, hown2, hL⟩
    · rw [if_neg (by rw [hfin]; decide)] at hlay
      have h6 := u_store hfc hkC hkind hlay hi (ty k hk) hnar hfit
      rcases hlink with hL | ⟨host, hL⟩
      · exact W.putK hx hb (f := f) ⟨hown, hts _ hL, ⟨_, _, _, hi'⟩, hst⟩ (by rw [q2]; exact h6) q1 q3 (by rw [hs]; exact k2_hasslot (q4 k hk)) rfl rfl hd hgo
      · exact va_WputK hx hb (f := f) hown (va_Nw.use rfl (hX.2.1 _ hL)) hi' hst (by rw [q2]; exact h6) q1 q3 (by rw [hs]; exact k2_hasslot (q4 k hk)) rfl rfl hd hgo
    · rw [if_pos hfin] at hlay
      have hcf : m.cls = cf := by
        obtain ⟨_, _, c', _, _, _, -, -, hf', -, -, -, hown3, -⟩ := Cond.laysFinal_spec hlay
        have e1 : c' = cf := by have := hi.symm.trans hf'; simp at this; exact this.1.symm
        rw [own k hk, ← hown2] at hown3
        rw [← e1]; exact Option.some.inj (hown.symm.trans hown3)
      have h6 := u_fits hfc hkC hkind (Or.inr hlay) hi (ty k hk) hnar hfit
      exact W.putFinK hx hb hown (hts _ hL) hi' hst hcf (by rw [hnm]; exact hini) (by rw [q2]; exact h6) q1 q3 (by rw [hs]; exact k2_hasslot (q4 k hk)) rfl rfl hd hgo) k0

theorem V_getI {idx c k a : Nat} (hf : FA y.cls idx c k) (hr : isRf c k = false) (ha : kd h a = c + 1) (hd : decode cc pc = .ok (.getfield idx, 3)) (k0 : V l G d y cc mL rt (pc + 3) lv (.int (fI h (128 * c + k) a) :: st) h Q) : V l G d y cc mL rt pc lv (va_rf (some a) :: st) h Q :=
  V_get hf ha hd (by rw [show fv h c a k = .int (fI h (128 * c + k) a) by unfold fv; rw [hr]; rfl]; exact k0)
theorem V_getR {idx c k a : Nat} (hf : FA y.cls idx c k) (hr : isRf c k = true) (ha : kd h a = c + 1) (hd : decode cc pc = .ok (.getfield idx, 3)) (k0 : V l G d y cc mL rt (pc + 3) lv (va_rf (fR h (128 * c + k) a) :: st) h Q) : V l G d y cc mL rt pc lv (va_rf (some a) :: st) h Q :=
  V_get hf ha hd (by rw [show fv h c a k = va_rf (fR h (128 * c + k) a) by unfold fv; rw [hr]; rfl]; exact k0)
def PutOK (y : MethodName) (idx c k : Nat) : Prop := (TT c k).2.2.2 = false ∨ ((TT c k).2.2.2 = true ∧ y.name = "<init>" ∧ y.cls = RR c ∧ Cond.fieldLink y.cls idx (RR c) (TT c k).2.1 (TT c k).2.2.1 ∈ lw_T)
theorem fid_eq {c j k : Nat} : 128 * c + j = 128 * c + k ↔ j = k := by omega
theorem V_putI {idx c k a : Nat} {x : Int32} (hf : FA y.cls idx c k) (hfin : PutOK y idx c k) (hfit : fitF c k x) (ha : kd h a = c + 1) (hd : decode cc pc = .ok (.putfield idx, 3)) (k0 : V l G d y cc mL rt (pc + 3) lv st (sI h (128 * c + k) a x) Q) : V l G d y cc mL rt pc lv (.int x :: va_rf (some a) :: st) h Q := by
  obtain ⟨n1, n2, n3⟩ := hfit.nar
  refine V_put hf hfin ha n2 n3 (h2 := sI h (128 * c + k) a x) rfl rfl (fun _ => rfl) (fun _ => rfl) (fun f q hq => u2_ne hq) (fun _ _ _ => rfl) (fun _ _ _ _ => rfl) (fun _ _ _ _ => rfl) (fun _ _ _ _ => rfl) (fun j hj => ?_) hd k0
  by_cases e : j = k
  · subst e
    simp [fv, n1, updV, fI, sI, u2]
  · simp [fv, updV, fI, fR, sI, u2, e, fid_eq]
theorem V_putR {idx c k a : Nat} {x : Option Nat} (hf : FA y.cls idx c k) (hfin : PutOK y idx c k) (hfit : fitR c k) (ha : kd h a = c + 1) (hd : decode cc pc = .ok (.putfield idx, 3)) (k0 : V l G d y cc mL rt (pc + 3) lv st (sR h (128 * c + k) a x) Q) : V l G d y cc mL rt pc lv (va_rf x :: va_rf (some a) :: st) h Q := by
  obtain ⟨n1, n2, n3⟩ := hfit.nar x
  refine V_put hf hfin ha n2 n3 (h2 := sR h (128 * c + k) a x) rfl rfl (fun _ => rfl) (fun _ => rfl) (fun _ _ _ => rfl) (fun f q hq => u2_ne hq) (fun _ _ _ _ => rfl) (fun _ _ _ _ => rfl) (fun _ _ _ _ => rfl) (fun j hj => ?_) hd k0
  by_cases e : j = k
  · subst e
    simp [fv, n1, updV, fR, sR, u2]
  · simp [fv, updV, fI, fR, sR, u2, e, fid_eq]
-- ===== arrays =====
theorem arr_in {cA : ClassId} {n : Nat} {f : Nat → Value} {i : Int32} (hin : vp_in i n) : ¬ (i < 0 ∨ (arrV cA n f).slots.size ≤ i.toNatClampNeg) := by rw [arrV_size]; exact hin
theorem vp_lt {i : Int32} {n : Nat} (hin : vp_in i n) : i.toNatClampNeg < n := Nat.not_le.mp fun q => hin (Or.inr q)
theorem V_iaload {a : Nat} {i : Int32} (hk : 20 ≤ kd h a ∧ kd h a < 200) (hin : vp_in i (ln h a)) (hd : decode cc pc = .ok (.iaload, 1)) (k0 : V l G d y cc mL rt (pc + 1) lv (.int (aI h (kd h a) a i.toNatClampNeg) :: st) h Q) : V l G d y cc mL rt pc lv (.int i :: va_rf (some a) :: st) h Q :=
  V.pure (fun p e R s m args below meth co H locs ls cells slots Qw C hR hS hl kk => by
    have hc := (hR.2.2 a (by omega)).2.2.int hk.1 hk.2
    exact W.iald C.1 C.2.1 hc (C.2.2.2.2.2.2.2.1.1.2.1.1 _ _) (fun q => by cases q) (arr_in hin) (arrV_read _ _ (vp_lt hin)) rfl rfl hd (kk _ hl)) k0
theorem V_baload {a : Nat} {i : Int32} (hk : 200 ≤ kd h a ∧ kd h a < 300) (hin : vp_in i (ln h a)) (hd : decode cc pc = .ok (.baload, 1)) (k0 : V l G d y cc mL rt (pc + 1) lv (.int (aI h (kd h a) a i.toNatClampNeg) :: st) h Q) : V l G d y cc mL rt pc lv (.int i :: va_rf (some a) :: st) h Q :=
  V.pure (fun p e R s m args below meth co H locs ls cells slots Qw C hR hS hl kk => by
    have hc := (hR.2.2 a (by omega)).2.2.bool hk.1 hk.2
    exact W.zald C.1 C.2.1 hc (C.2.2.2.2.2.2.2.1.1.2.2.1.1 _ _) (fun q => by cases q) (arr_in hin) (arrV_read _ _ (vp_lt hin)) rfl rfl hd (kk _ hl)) k0
theorem V_laload {a : Nat} {i : Int32} (hk : 300 ≤ kd h a ∧ kd h a < 400) (hin : vp_in i (ln h a)) (hd : decode cc pc = .ok (.laload, 1)) (k0 : V l G d y cc mL rt (pc + 1) lv (.long (aL h (kd h a) a i.toNatClampNeg) :: st) h Q) : V l G d y cc mL rt pc lv (.int i :: va_rf (some a) :: st) h Q :=
  V.pure (fun p e R s m args below meth co H locs ls cells slots Qw C hR hS hl kk => by
    have hc := (hR.2.2 a (by omega)).2.2.long hk.1 hk.2
    exact W.lald C.1 C.2.1 hc (C.2.2.2.2.2.2.2.1.1.2.2.2.1.1 _ _) (fun q => by cases q) (arr_in hin) (arrV_read _ _ (vp_lt hin)) rfl rfl hd (kk _ hl)) k0
theorem V_aaload {a : Nat} {i : Int32} (hk : 400 ≤ kd h a ∧ rcOK (rcK (kd h a))) (hin : vp_in i (ln h a)) (hd : decode cc pc = .ok (.aaload, 1)) (k0 : V l G d y cc mL rt (pc + 1) lv (va_rf (aR h (kd h a) a i.toNatClampNeg) :: st) h Q) : V l G d y cc mL rt pc lv (.int i :: va_rf (some a) :: st) h Q :=
  V.pure (fun p e R s m args below meth co H locs ls cells slots Qw C hR hS hl kk => by
    have hc := (hR.2.2 a (by omega)).2.2.refs hk.1
    exact W.aald (ty := .object (RR (rcK (kd h a)))) C.1 C.2.1 hc ((C.2.2.2.2.2.2.2.1.1.2.2.2.2 _ hk.2).1 _ _) rfl (fun q => by cases q) (arr_in hin) (arrV_read _ _ (vp_lt hin)) rfl rfl hd (kk _ hl)) k0
theorem V_alen {a : Nat} (hk : 20 ≤ kd h a) (hk4 : 400 ≤ kd h a → rcOK (rcK (kd h a))) (hd : decode cc pc = .ok (.arraylength, 1)) (k0 : V l G d y cc mL rt (pc + 1) lv (.int (nI (ln h a)) :: st) h Q) : V l G d y cc mL rt pc lv (va_rf (some a) :: st) h Q :=
  V.pure (fun p e R s m args below meth co H locs ls cells slots Qw C hR hS hl kk => by
    have hc0 := (hR.2.2 a (by omega)).2.2
    have hT := C.2.2.2.2.2.2.2.1.1
    rcases Nat.lt_or_ge (kd h a) 200 with g1 | g1
    · exact W.alen C.1 C.2.1 (hc0.int hk g1) (hT.2.1.1 _ _) (by rw [arrV_size]; rfl) rfl rfl hd (kk _ hl)
    · rcases Nat.lt_or_ge (kd h a) 300 with g2 | g2
      · exact W.alen C.1 C.2.1 (hc0.bool g1 g2) (hT.2.2.1.1 _ _) (by rw [arrV_size]; rfl) rfl rfl hd (kk _ hl)
      · rcases Nat.lt_or_ge (kd h a) 400 with g3 | g3
        · exact W.alen C.1 C.2.1 (hc0.long g2 g3) (hT.2.2.2.1.1 _ _) (by rw [arrV_size]; rfl) rfl rfl hd (kk _ hl)
        · exact W.alen C.1 C.2.1 (hc0.refs g3) ((hT.2.2.2.2 _ (hk4 g3)).1 _ _) (by rw [arrV_size]; rfl) rfl rfl hd (kk _ hl)) k0
theorem V_iastore {a : Nat} {i x : Int32} (hk : 100 ≤ kd h a ∧ kd h a < 200) (hin : vp_in i (ln h a)) (hd : decode cc pc = .ok (.iastore, 1)) (k0 : V l G d y cc mL rt (pc + 1) lv st (tI h (kd h a) a i.toNatClampNeg x) Q) : V l G d y cc mL rt pc lv (.int x :: .int i :: va_rf (some a) :: st) h Q :=
  V.wr (h2 := tI h (kd h a) a i.toNatClampNeg x) rfl rfl (fun p e R s m args below meth co H locs ls cells slots Qw C hR hS hl kk => by
    obtain ⟨hlt, hbase, hc0⟩ := hR.2.2 a (by omega)
    refine W.iast C.1 C.2.1 (hc0.int (by omega) hk.2) (C.2.2.2.2.2.2.2.1.1.2.1.1 _ _) (fun q => by cases q) (arr_in hin) rfl rfl hd fun H1 e1 e2 e3 => ?_
    refine kk H1 _ (Rel.wr (a := a) hR rfl (fun _ => rfl) (fun _ => rfl) (fun _ _ _ => rfl) (fun _ _ _ => rfl) (fun k q j hq => u3_ne hq) (fun _ _ _ _ => rfl) (fun _ _ _ _ => rfl) e2 e3 ?_) (hS.put e2 e3 (hbase (Or.inr hk.1)))
    refine cellAt.mkI (h := tI h (kd h a) a i.toNatClampNeg x) (show 20 ≤ kd h a by omega) hk.2 ?_
    rw [e1, arrV_store]
    congr 2
    funext j
    show updV _ _ _ j = Value.int (u3 h.2.2.1 (kd h a) a i.toNatClampNeg x (kd h a) a j)
    by_cases hj : j = i.toNatClampNeg
    · subst hj; simp [updV, u3]
    · simp [updV, u3, hj, aI]) k0
theorem V_bastore {a : Nat} {i x : Int32} (hk : 200 ≤ kd h a ∧ kd h a < 300) (hx : x = 0 ∨ x = 1) (hin : vp_in i (ln h a)) (hd : decode cc pc = .ok (.bastore, 1)) (k0 : V l G d y cc mL rt (pc + 1) lv st (tI h (kd h a) a i.toNatClampNeg x) Q) : V l G d y cc mL rt pc lv (.int x :: .int i :: va_rf (some a) :: st) h Q :=
  V.wr (h2 := tI h (kd h a) a i.toNatClampNeg x) rfl rfl (fun p e R s m args below meth co H locs ls cells slots Qw C hR hS hl kk => by
    obtain ⟨hlt, hbase, hc0⟩ := hR.2.2 a (by omega)
    refine W.zast C.1 C.2.1 (hc0.bool (by omega) hk.2) (C.2.2.2.2.2.2.2.1.1.2.2.1.1 _ _) (fun q => by cases q) (arr_in hin) rfl rfl hd fun H1 e1 e2 e3 => ?_
    refine kk H1 _ (Rel.wr (a := a) hR rfl (fun _ => rfl) (fun _ => rfl) (fun _ _ _ => rfl) (fun _ _ _ => rfl) (fun k q j hq => u3_ne hq) (fun _ _ _ _ => rfl) (fun _ _ _ _ => rfl) e2 e3 ?_) (hS.put e2 e3 (hbase (Or.inr (by omega))))
    refine cellAt.mkZ (h := tI h (kd h a) a i.toNatClampNeg x) hk.1 hk.2 ?_
    rw [e1, (b01 hx).1, arrV_store]
    congr 2
    funext j
    show updV _ _ _ j = Value.int (u3 h.2.2.1 (kd h a) a i.toNatClampNeg x (kd h a) a j)
    by_cases hj : j = i.toNatClampNeg
    · subst hj; simp [updV, u3]
    · simp [updV, u3, hj, aI]) k0
theorem V_lastore {a : Nat} {i : Int32} {x : Int64} (hk : 300 ≤ kd h a ∧ kd h a < 400) (hin : vp_in i (ln h a)) (hd : decode cc pc = .ok (.lastore, 1)) (k0 : V l G d y cc mL rt (pc + 1) lv st (tL h (kd h a) a i.toNatClampNeg x) Q) : V l G d y cc mL rt pc lv (.long x :: .int i :: va_rf (some a) :: st) h Q :=
  V.wr (h2 := tL h (kd h a) a i.toNatClampNeg x) rfl rfl (fun p e R s m args below meth co H locs ls cells slots Qw C hR hS hl kk => by
    obtain ⟨hlt, hbase, hc0⟩ := hR.2.2 a (by omega)
    refine W.last C.1 C.2.1 (hc0.long (by omega) hk.2) (C.2.2.2.2.2.2.2.1.1.2.2.2.1.1 _ _) (fun q => by cases q) (arr_in hin) rfl rfl hd fun H1 e1 e2 e3 => ?_
    refine kk H1 _ (Rel.wr (a := a) hR rfl (fun _ => rfl) (fun _ => rfl) (fun _ _ _ => rfl) (fun _ _ _ => rfl) (fun _ _ _ _ => rfl) (fun k q j hq => u3_ne hq) (fun _ _ _ _ => rfl) e2 e3 ?_) (hS.put e2 e3 (hbase (Or.inr (by omega))))
    refine cellAt.mkL (h := tL h (kd h a) a i.toNatClampNeg x) hk.1 hk.2 ?_
    rw [e1, arrV_store]
    congr 2
    funext j
    show updV _ _ _ j = Value.long (u3 h.2.2.2.1 (kd h a) a i.toNatClampNeg x (kd h a) a j)
    by_cases hj : j = i.toNatClampNeg
    · subst hj; simp [updV, u3]
    · simp [updV, u3, hj, aL]) k0
theorem V_aastore {a : Nat} {i : Int32} {x : Option Nat} (hk : 400 ≤ kd h a ∧ rcOK (rcK (kd h a))) (hx : ∀ b, x = some b → kd h b = rcK (kd h a) + 1) (hin : vp_in i (ln h a)) (hd : decode cc pc = .ok (.aastore, 1)) (k0 : V l G d y cc mL rt (pc + 1) lv st (tR h (kd h a) a i.toNatClampNeg x) Q) : V l G d y cc mL rt pc lv (va_rf x :: .int i :: va_rf (some a) :: st) h Q :=
  V.wr (h2 := tR h (kd h a) a i.toNatClampNeg x) rfl rfl (fun p e R s m args below meth co H locs ls cells slots Qw C hR hS hl kk => by
    obtain ⟨hlt, hbase, hc0⟩ := hR.2.2 a (by omega)
    have hT := C.2.2.2.2.2.2.2.1.1
    have hgo : ∀ H1 : Heap, H1[a]? = some ((arrV (gA G (10 + rcK (kd h a))) (ln h a) (fun j => va_rf (aR h (kd h a) a j))).setSlot i.toNatClampNeg (va_rf x)) → H1.size = H.size → (∀ q : Nat, q ≠ a → H1[q]? = H[q]?) → W p l e R s m args below meth co H1 (locs ++ [⟨a, i.toNatClampNeg⟩]) cells slots Qw (F0 m (pc + 1) ls st) := by
      intro H1 e1 e2 e3
      refine kk H1 _ (Rel.wr (a := a) hR rfl (fun _ => rfl) (fun _ => rfl) (fun _ _ _ => rfl) (fun _ _ _ => rfl) (fun _ _ _ _ => rfl) (fun _ _ _ _ => rfl) (fun k q j hq => u3_ne hq) e2 e3 ?_) (hS.put e2 e3 (hbase (Or.inr (by omega))))
      refine cellAt.mkR (h := tR h (kd h a) a i.toNatClampNeg x) hk.1 ?_
      rw [e1, arrV_store]
      congr 2
      funext j
      show updV _ _ _ j = va_rf (u3 h.2.2.2.2.1 (kd h a) a i.toNatClampNeg x (kd h a) a j)
      by_cases hj : j = i.toNatClampNeg
      · subst hj; simp [updV, u3]
      · simp [updV, u3, hj, aR]
    cases x with
    | none => exact va_WaastN (C := RR (rcK (kd h a))) C.1 C.2.1 (hc0.refs hk.1) ((hT.2.2.2.2 _ hk.2).1 _ _) (fun q => by cases q) (arr_in hin) rfl rfl hd hgo
    | some b =>
      have hb := hx b rfl
      have h12 : rcK (kd h a) < 12 := by rcases hk.2 with e | e | e | e | e | e <;> omega
      obtain ⟨cellV, g1, g2, g3, -⟩ := (hR.2.2 b (by omega)).2.2.obj hb h12
      have hcls := (hT.1 _ h12).2
      obtain ⟨kA, comp, k1, k2, k3, -⟩ := (hT.2.2.2.2 _ hk.2).2.1
      have hcomp : comp = gC G (rcK (kd h a)) := Option.some.inj (k3.symm.trans hcls.1)
      subst hcomp
      obtain ⟨kC, hkC, -⟩ := hcls.2
      exact W.aast C.1 C.2.1 (hc0.refs hk.1) (fun q h => by cases h) (fun h => by cases h) k1 k2 rfl hkC ⟨fun q => hin (Or.inl q), by rw [arrV_size]; exact vp_lt hin⟩ g1 (fun q h => by rw [g3] at h; cases h) (by rw [g2]; exact hkC) (by rw [g2]; exact va_assign hcls) rfl rfl hd hgo) k0
end VJ
section VK
theorem okT : ∀ c, c < 12 → ∀ j, j < NN c → (match tyT c j with | .int => true | .boolean => true | .object _ => true | .array _ => true | _ => false) = true := by decide +kernel
theorem def_fv {c j : Nat} (hc : c < 12) (hj : j < NN c) (h : Hp) (k n : Nat) : defaultValue (tyT c j) = fv (nw h k n) c (hn h) j := by
  have e := okT c hc j hj
  have e1 : fI (nw h k n) (128 * c + j) (hn h) = 0 := if_pos rfl
  have e2 : fR (nw h k n) (128 * c + j) (hn h) = none := if_pos rfl
  unfold fv isRf
  rw [e1, e2]
  cases ht : tyT c j <;> rw [ht] at e <;> first | rfl | (cases e)
theorem nw_kd (h : Hp) (k n : Nat) : kd (nw h k n) (hn h) = k := if_pos rfl
theorem nw_ln (h : Hp) (k n : Nat) : ln (nw h k n) (hn h) = n := if_pos rfl
variable {l : Launch} {G : Gh} {d : Nat} {y : MethodName} {cc : ByteArray} {mL : Nat} {rt : Option FieldType} {pc : Nat} {lv : List (Nat × Value)} {st : List Value} {h : Hp} {Q : Option Value → Hp → Prop}
theorem S_mk {A : Nat → Prop} {H0 H H1 : Heap} {locs : List Loc} {n : Nat} (hS : va_S A H0 H locs) (hz : H.size = n) (z1 : H1.size = n + 1) (o1 : ∀ q : Nat, q < n → H1[q]? = H[q]?) : va_S A H0 H1 locs :=
  ⟨Nat.le_trans hS.1 (by omega), fun x h1 h2 => (o1 x (by have := hS.1; omega)).trans (hS.2.1 x h1 h2), hS.2.2⟩
theorem V_new {idx c : Nat} (hN : NC y.cls idx c) (hd : decode cc pc = .ok (.new idx, 3)) (k0 : V l G d y cc mL rt (pc + 3) lv (va_rf (some (hn h)) :: st) (nw h (c + 1) (NN c)) Q) : V l G d y cc mL rt pc lv st h Q :=
  V.mk (h2 := nw h (c + 1) (NN c)) (n := NN c) rfl rfl (fun p e R s m args below meth co H locs ls cells slots Qw C hR hS hl g1 g2 kk => by
    obtain ⟨hc, l1, l2, l3⟩ := hN
    obtain ⟨hx, hb, -, -, -, hown, hts, hX, -⟩ := C
    obtain ⟨ws, ty, nm, own⟩ := cls_ok c hc
    have hKn := hX.1.1 c hc
    refine W.newcK hx hb hown (hts _ l1) (hts _ l2) (hts _ l3) rfl hd g1 g2 hKn.2.1 hR.1 fun H1 kC hkC e1 z1 o1 => ?_
    refine kk H1 (Rel.mk hR (Nat.succ_ne_zero _) z1 o1 ?_) (S_mk hS hR.1 z1 o1)
    unfold cellAt
    rw [nw_kd, if_pos (by omega)]
    exact ⟨(u_born (tyT c) hts ws hKn hkC e1 ty).to (fun j hj => def_fv hc hj h _ _), by omega⟩) k0
theorem V_newI {n : Int32} {N k : Nat} (hw : Cond.arrayClass .int ∈ lw_T) (hk : 100 ≤ k ∧ k < 200) (hn0 : ¬ n < 0) (hN : n.toNatClampNeg = N) (hby : N * 4 ≤ 536870912) (hd : decode cc pc = .ok (.newarray .int, 2)) (k0 : V l G d y cc mL rt (pc + 2) lv (va_rf (some (hn h)) :: st) (nw h k N) Q) : V l G d y cc mL rt pc lv (.int n :: st) h Q :=
  V.mk (h2 := nw h k N) (n := N) rfl rfl (fun p e R s m args below meth co H locs ls cells slots Qw C hR hS hl g1 g2 kk => by
    obtain ⟨hx, hb, -, -, -, hown, hts, hX, -⟩ := C
    refine va_newaK (atype := .int) hx hb (hts _ hw) rfl hd rfl hn0 hN hby g1 g2 hR.1 fun H1 cA e1 z1 o1 hAr hNm => ?_
    have hcA : cA = gA G 0 := Option.some.inj (hNm.symm.trans hX.1.2.1.2)
    subst hcA
    refine kk H1 (Rel.mk hR (by omega) z1 o1 ?_) (S_mk hS hR.1 z1 o1)
    unfold cellAt
    rw [nw_kd, nw_ln, if_neg (by omega), if_pos hk.2, e1]
    congr 2
    funext j
    have e2 : aI (nw h k N) k (hn h) j = 0 := if_pos rfl
    rw [e2]; rfl) k0
theorem V_newZ {n : Int32} {N k : Nat} (hw : Cond.arrayClass .boolean ∈ lw_T) (hk : 200 ≤ k ∧ k < 300) (hn0 : ¬ n < 0) (hN : n.toNatClampNeg = N) (hby : N * 1 ≤ 536870912) (hd : decode cc pc = .ok (.newarray .boolean, 2)) (k0 : V l G d y cc mL rt (pc + 2) lv (va_rf (some (hn h)) :: st) (nw h k N) Q) : V l G d y cc mL rt pc lv (.int n :: st) h Q :=
  V.mk (h2 := nw h k N) (n := N) rfl rfl (fun p e R s m args below meth co H locs ls cells slots Qw C hR hS hl g1 g2 kk => by
    obtain ⟨hx, hb, -, -, -, hown, hts, hX, -⟩ := C
    refine va_newaK (atype := .boolean) hx hb (hts _ hw) rfl hd rfl hn0 hN hby g1 g2 hR.1 fun H1 cA e1 z1 o1 hAr hNm => ?_
    have hcA : cA = gA G 1 := Option.some.inj (hNm.symm.trans hX.1.2.2.1.2)
    subst hcA
    refine kk H1 (Rel.mk hR (by omega) z1 o1 ?_) (S_mk hS hR.1 z1 o1)
    unfold cellAt
    rw [nw_kd, nw_ln, if_neg (by omega), if_neg (by omega), if_pos hk.2, e1]
    congr 2
    funext j
    have e2 : aI (nw h k N) k (hn h) j = 0 := if_pos rfl
    rw [e2]; rfl) k0
theorem V_newL {n : Int32} {N k : Nat} (hw : Cond.arrayClass .long ∈ lw_T) (hk : 300 ≤ k ∧ k < 400) (hn0 : ¬ n < 0) (hN : n.toNatClampNeg = N) (hby : N * 8 ≤ 536870912) (hd : decode cc pc = .ok (.newarray .long, 2)) (k0 : V l G d y cc mL rt (pc + 2) lv (va_rf (some (hn h)) :: st) (nw h k N) Q) : V l G d y cc mL rt pc lv (.int n :: st) h Q :=
  V.mk (h2 := nw h k N) (n := N) rfl rfl (fun p e R s m args below meth co H locs ls cells slots Qw C hR hS hl g1 g2 kk => by
    obtain ⟨hx, hb, -, -, -, hown, hts, hX, -⟩ := C
    refine va_newaK (atype := .long) hx hb (hts _ hw) rfl hd rfl hn0 hN hby g1 g2 hR.1 fun H1 cA e1 z1 o1 hAr hNm => ?_
    have hcA : cA = gA G 2 := Option.some.inj (hNm.symm.trans hX.1.2.2.2.1.2)
    subst hcA
    refine kk H1 (Rel.mk hR (by omega) z1 o1 ?_) (S_mk hS hR.1 z1 o1)
    unfold cellAt
    rw [nw_kd, nw_ln, if_neg (by omega), if_neg (by omega), if_neg (by omega), if_pos hk.2, e1]
    congr 2
    funext j
    have e2 : aL (nw h k N) k (hn h) j = 0 := if_pos rfl
    rw [e2]; rfl) k0
theorem V_newR {idx c : Nat} {n : Int32} {N k : Nat} (hw : Cond.classLink y.cls idx (RR c) ∈ lw_T) (hk : 400 ≤ k ∧ rcK k = c) (hrc : rcOK c) (hn0 : ¬ n < 0) (hN : n.toNatClampNeg = N) (hby : N * 4 ≤ 536870912) (hd : decode cc pc = .ok (.anewarray idx, 3)) (k0 : V l G d y cc mL rt (pc + 3) lv (va_rf (some (hn h)) :: st) (nw h k N) Q) : V l G d y cc mL rt pc lv (.int n :: st) h Q :=
  V.mk (h2 := nw h k N) (n := N) rfl rfl (fun p e R s m args below meth co H locs ls cells slots Qw C hR hS hl g1 g2 kk => by
    obtain ⟨hx, hb, -, -, -, hown, hts, hX, -⟩ := C
    obtain ⟨hAr, hRA, hAO⟩ := hX.1.2.2.2.2 c hrc
    subst hN
    refine W.anew hx hb hown (hts _ hw) (va_AO.use hAO) rfl hd rfl hn0 hby g1 g2 fun cA kA comp f1 f2 f3 f4 => ?_
    obtain ⟨_, _, _, _, _, f5⟩ := hRA
    have hcA : cA = gA G (10 + c) := Option.some.inj (f1.symm.trans f5)
    subst hcA
    rw [hR.1]
    generalize hH1 : H.push ({ cls := gA G (10 + c), slots := Array.replicate n.toNatClampNeg .null, vm := .none } : Cell) = H1
    have z1 : H1.size = hn h + 1 := by rw [← hH1, Array.size_push, hR.1]
    have e1 : H1[hn h]? = some (arrV (gA G (10 + c)) n.toNatClampNeg (fun _ => .null)) := by rw [← hH1, ← hR.1, Array.getElem?_push_size, ← arrV_new]
    have o1 : ∀ q : Nat, q < hn h → H1[q]? = H[q]? := fun q hq => by rw [← hH1, Array.getElem?_push, if_neg (by rw [hR.1]; omega)]
    refine kk H1 (Rel.mk hR (by omega) z1 o1 ?_) (S_mk hS hR.1 z1 o1)
    unfold cellAt
    rw [nw_kd, nw_ln, if_neg (by omega), if_neg (by omega), if_neg (by omega), if_neg (by omega), e1, hk.2]
    congr 2
    funext j
    have e2 : aR (nw h k n.toNatClampNeg) k (hn h) j = none := if_pos rfl
    rw [e2]; rfl) k0
theorem V_getJ {idx : Nat} (hw : Cond.fieldLink y.cls idx JOINS_C "JOINS" "[I" ∈ lw_T) (hd : decode cc pc = .ok (.getstatic idx, 3)) (k0 : V l G d y cc mL rt (pc + 3) lv (va_rf (some (gJ G)) :: st) h Q) : V l G d y cc mL rt pc lv st h Q :=
  V.pure (fun p e R s m args below meth co H locs ls cells slots Qw C hR hS hl kk => va_gets C.1 C.2.1 C.2.2.2.2.2.2.2.1.2.2.1.1 hS C.2.2.2.2.2.1 (C.2.2.2.2.2.2.1 _ hw) (fun x h => h) hd (kk _ hl)) k0
theorem V_ldcF (hy : y.cls = "ComplaintBooks$RuleReader") (hd : decode cc pc = .ok (.ldc 15, 2)) (k0 : V l G d y cc mL rt (pc + 2) lv (va_rf (some (gF G)) :: st) h Q) : V l G d y cc mL rt pc lv st h Q :=
  V.pure (fun p e R s m args below meth co H locs ls cells slots Qw C hR hS hl kk => va_ldcS C.1 C.2.1 C.2.2.2.2.2.1 (by rw [hy]; exact C.2.2.2.2.2.2.2.1.2.2.2.1) hd (kk _ hl)) k0
theorem V_ldc2 {idx : Nat} {v : Int64} (hw : Cond.constantLong y.cls idx v ∈ lw_T) (hd : decode cc pc = .ok (.ldc2_w idx, 3)) (k0 : V l G d y cc mL rt (pc + 3) lv (.long v :: st) h Q) : V l G d y cc mL rt pc lv st h Q :=
  V.pure (fun p e R s m args below meth co H locs ls cells slots Qw C hR hS hl kk => lv_ldc2 C.1 C.2.1 C.2.2.2.2.2.1 (C.2.2.2.2.2.2.1 _ hw) hd (kk _ hl)) k0
theorem V_lcmp {x y0 : Int64} (hd : decode cc pc = .ok (.lcmp, 1)) (k0 : V l G d y cc mL rt (pc + 1) lv (.int (lg_cmp x y0) :: st) h Q) : V l G d y cc mL rt pc lv (.long y0 :: .long x :: st) h Q :=
  V.pure (fun p e R s m args below meth co H locs ls cells slots Qw C hR hS hl kk => W.lcmp C.1 C.2.1 hd (kk _ hl)) k0
theorem V_ldcw {idx : Nat} {v : Int32} (hw : Cond.constant y.cls idx v ∈ lw_T) (hd : decode cc pc = .ok (.ldc_w idx, 3)) (k0 : V l G d y cc mL rt (pc + 3) lv (.int v :: st) h Q) : V l G d y cc mL rt pc lv st h Q :=
  V.pure (fun p e R s m args below meth co H locs ls cells slots Qw C hR hS hl kk => lv_ldcw C.1 C.2.1 C.2.2.2.2.2.1 (C.2.2.2.2.2.2.1 _ hw) hd (kk _ hl)) k0
theorem V_iushr {x y0 : Int32} (hd : decode cc pc = .ok (.iushr, 1)) (k0 : V l G d y cc mL rt (pc + 1) lv (.int (x.toUInt32 >>> (y0.toUInt32 &&& 31)).toInt32 :: st) h Q) : V l G d y cc mL rt pc lv (.int y0 :: .int x :: st) h Q :=
  V.pure (fun p e R s m args below meth co H locs ls cells slots Qw C hR hS hl kk => lv_iushr C.1 C.2.1 hd rfl (kk _ hl)) k0
theorem V_jnLen (hd : decode cc pc = .ok (.arraylength, 1)) (k0 : V l G d y cc mL rt (pc + 1) lv (.int 3 :: st) h Q) : V l G d y cc mL rt pc lv (va_rf (some (gJ G)) :: st) h Q :=
  V.pure (fun p e R s m args below meth co H locs ls cells slots Qw C hR hS hl kk => va_tlen C.1 C.2.1 C.2.2.2.2.2.2.2.1.2.2.1.2 hS rfl hd (kk _ hl)) k0
theorem V_jnLd {i : Int32} (hin : vp_in i 3) (hd : decode cc pc = .ok (.iaload, 1)) (k0 : V l G d y cc mL rt (pc + 1) lv (.int (jnV i.toNatClampNeg) :: st) h Q) : V l G d y cc mL rt pc lv (.int i :: va_rf (some (gJ G)) :: st) h Q :=
  V.pure (fun p e R s m args below meth co H locs ls cells slots Qw C hR hS hl kk => va_ti C.1 C.2.1 C.2.2.2.2.2.2.2.1.2.2.1.2 hS hin rfl hd (kk _ hl)) k0
-- switches
theorem V_tsw {dflt lo hi : Int} {offs : Array Int} {len : Nat} {x : Int32} (tgt : Nat) (hd : decode cc pc = .ok (.tableswitch dflt lo hi offs, len)) (ht : (x.toInt < lo ∨ hi < x.toInt) ∧ (pc : Int) + dflt = (tgt : Int) ∨ (¬ x.toInt < lo ∧ ¬ hi < x.toInt ∧ ∃ off, offs[(x.toInt - lo).toNat]? = some off ∧ (pc : Int) + off = (tgt : Int)))
    (k0 : V l G d y cc mL rt tgt lv st h Q) : V l G d y cc mL rt pc lv (.int x :: st) h Q :=
  V.pure (fun p e R s m args below meth co H locs ls cells slots Qw C hR hS hl kk => by
    rcases ht with ⟨h1, h2⟩ | ⟨h1, h2, off, h3, h4⟩
    · exact lv_tableOut C.1 C.2.1 hd h1 h2 (kk _ hl)
    · exact lv_tableIn C.1 C.2.1 hd h1 h2 h3 h4 (kk _ hl)) k0
theorem sw_out {x : Int32} {lo hi : Int} (hne : ∀ v : Int, lo ≤ v → v ≤ hi → x ≠ Int32.ofInt v) : x.toInt < lo ∨ hi < x.toInt := by
  rcases Int.lt_or_le x.toInt lo with a | a
  · exact Or.inl a
  · rcases Int.lt_or_le hi x.toInt with b | b
    · exact Or.inr b
    · exact absurd (Int32.ofInt_toInt x).symm (hne _ a b)
theorem V_lsw {dflt : Int} {ps : Array (Int × Int)} {len : Nat} {x : Int32} {off : Int} (tgt : Nat) (hd : decode cc pc = .ok (.lookupswitch dflt ps, len)) (hp : (ps.toList.zip (ps.toList.drop 1)).all (fun (a, next) => a.1 < next.1) = true) (ho : Op.lookupswitch.offset ps.toList dflt x.toInt = off) (ht : (pc : Int) + off = (tgt : Int))
    (k0 : V l G d y cc mL rt tgt lv st h Q) : V l G d y cc mL rt pc lv (.int x :: st) h Q :=
  V.pure (fun p e R s m args below meth co H locs ls cells slots Qw C hR hS hl kk => lv_lookup C.1 C.2.1 hd hp ho ht (kk _ hl)) k0
-- returns
theorem V_iret {x : Int32} (hrt : rt = some .int) (hd : decode cc pc = .ok (.ireturn, 1)) (hq : Q (some (.int x)) h) : V l G d y cc mL rt pc lv [.int x] h Q :=
  ⟨_, h, hq, Nat.le_refl _, Nat.le_refl _, fun p e R s m args below meth co H locs ls cells slots mc ms C hR hS hl e1 e2 e3 e4 => W.widen (by omega) (by omega) (W.iret C.1 C.2.1 (by rw [C.2.2.2.1]; exact hrt) (fun t ht _ => ⟨rfl, by rw [ht]; exact hR, hS.F ht⟩) hS.2.2 hd C.2.2.2.2.1)⟩
theorem V_zret {x : Int32} (hrt : rt = some .boolean) (hx : x = 0 ∨ x = 1) (hd : decode cc pc = .ok (.ireturn, 1)) (hq : Q (some (.int x)) h) : V l G d y cc mL rt pc lv [.int x] h Q :=
  ⟨_, h, hq, Nat.le_refl _, Nat.le_refl _, fun p e R s m args below meth co H locs ls cells slots mc ms C hR hS hl e1 e2 e3 e4 => W.widen (by omega) (by omega) (W.zret (ty := .boolean) C.1 C.2.1 (by rw [C.2.2.2.1]; exact hrt) (b01 hx).1 (fun t ht _ => ⟨rfl, by rw [ht]; exact hR, hS.F ht⟩) hS.2.2 hd C.2.2.2.2.1)⟩
theorem V_lret {x : Int64} (hrt : rt = some .long) (hd : decode cc pc = .ok (.lreturn, 1)) (hq : Q (some (.long x)) h) : V l G d y cc mL rt pc lv [.long x] h Q :=
  ⟨_, h, hq, Nat.le_refl _, Nat.le_refl _, fun p e R s m args below meth co H locs ls cells slots mc ms C hR hS hl e1 e2 e3 e4 => W.widen (by omega) (by omega) (W.lret C.1 C.2.1 (by rw [C.2.2.2.1]; exact hrt) (fun t ht _ => ⟨rfl, by rw [ht]; exact hR, hS.F ht⟩) hS.2.2 hd C.2.2.2.2.1)⟩
theorem V_aret {x : Option Nat} {t0 : FieldType} (hrt : rt = some t0) (ht0 : (∃ n, t0 = .object n) ∨ ∃ t, t0 = .array t) (hd : decode cc pc = .ok (.areturn, 1)) (hq : Q (some (va_rf x)) h) : V l G d y cc mL rt pc lv [va_rf x] h Q :=
  ⟨_, h, hq, Nat.le_refl _, Nat.le_refl _, fun p e R s m args below meth co H locs ls cells slots mc ms C hR hS hl e1 e2 e3 e4 => W.widen (by omega) (by omega) (W.aret C.1 C.2.1 (by rw [C.2.2.2.1]; exact hrt) ht0 (by cases x with | none => exact Or.inl rfl | some a => exact Or.inr ⟨a, rfl⟩) (fun t ht _ => ⟨rfl, by rw [ht]; exact hR, hS.F ht⟩) hS.2.2 hd C.2.2.2.2.1)⟩
theorem V_vret (hrt : rt = none) (hd : decode cc pc = .ok (.return_, 1)) (hq : Q none h) : V l G d y cc mL rt pc lv [] h Q :=
  ⟨_, h, hq, Nat.le_refl _, Nat.le_refl _, fun p e R s m args below meth co H locs ls cells slots mc ms C hR hS hl e1 e2 e3 e4 => W.widen (by omega) (by omega) (W.vret C.1 C.2.1 (by rw [C.2.2.2.1]; exact hrt) (fun t ht _ => ⟨rfl, by rw [ht]; exact hR, hS.F ht⟩) hS.2.2 hd C.2.2.2.2.1)⟩
-- calls
theorem goodT {y2 : MethodName} {c2 : ByteArray} {m2 : Nat} {r2 : Option FieldType} (h : Cond.code y2 c2 m2 r2 ∈ lw_T) : GoodIn lw_T (Cond.code y2 c2 m2 r2 :: lw_T) := by
  have hall : ∀ w ∈ lw_T, w ∈ lw_T ∧ ((w.onTables && w.keeps) = true ∨ ∃ ty, w = .arrayClass ty) := fun w hw => ⟨hw, good_of_word (List.mem_filter.mp hw).2⟩
  intro w hw
  rcases List.mem_cons.mp hw with e | e
  · rw [e]; exact hall _ h
  · exact hall _ e
theorem preU {As : List Value} {p : Program} {R : Room} {s : State} {m : MethodId} {args : Array Value} {meth : Method} {co : Code} {H : Heap} {locs : List Loc} (C : Ctx G d y cc mL rt p R s m args meth co) (hR : Rel G h H) (hS : va_S (gFree G) s.heap H locs) : PreS s H (va_Pc As (fun U => Rel G h U.heap ∧ StX G U U.heap)) As :=
  ⟨fun a U g mk q => ⟨q.1, q.2.1, StX.same (u := U) (U := U.calling g mk a) rfl q.2.2⟩, fun U hU hW => ⟨rfl, by rw [hU]; exact hR, by rw [hU]; exact StX.go hW (fun a h1 h2 => hS.2.1 a h1 h2) C.2.2.2.2.2.2.2.1⟩⟩
theorem V.after {y2 : MethodName} {r1 : Option Value} {h1 : Hp} {rest : List Value} {As : Array Value} (z1 : hn h ≤ hn h1) (z2 : hm h ≤ hm h1)
    (hrun : ∀ (p : Program) (e : Env) (R : Room) (s : State) (m : MethodId) (args : Array Value) (below : List Frame) (meth : Method) (co : Code) (H : Heap) (locs : List Loc) (ls : Array Slot) (cells slots : Nat), Ctx G d y cc mL rt p R s m args meth co → Rel G h H → va_S (gFree G) s.heap H locs → lv_has ls mL lv → cells + (hn h1 - hn h) ≤ R.cells → slots + (hm h1 - hm h) ≤ R.slots →
      va_Run p l e R s m args below meth co H locs cells slots (hn h1 - hn h) (hm h1 - hm h) (F0 m pc ls st) rest (QC G r1 h1 As) (gFree G))
    (k0 : V l G d y cc mL rt (pc + 3) lv (r1.toList ++ rest) h1 Q) : V l G d y cc mL rt pc lv st h Q := by
  obtain ⟨r, hE, a, b1, b2, b⟩ := k0
  refine ⟨r, hE, a, Nat.le_trans z1 b1, Nat.le_trans z2 b2, fun p e R s m args below meth co H locs ls cells slots mc ms C hR hS hl e1 e2 e3 e4 => ?_⟩
  intro T hT X
  obtain ⟨v, st0, t, T', L, h0, X', hL, e1', e2', ⟨hv, hR1, hF⟩, st'⟩ := hrun p e R s m args below meth co H locs ls cells slots C hR hS hl (by omega) (by omega) T hT X
  cases hv
  have hS' : va_S (gFree G) s.heap T'.heap (locs ++ L) := by
    refine ⟨Nat.le_trans hS.1 (by rw [e1', ← h0]; exact hF.1), fun q g1 g2 => ?_, fun q hq => ?_⟩
    · rw [e1', hF.2 q (by rw [h0]; exact Nat.lt_of_lt_of_le g1 hS.1) g2, h0]
      exact hS.2.1 q g1 g2
    · rcases List.mem_append.mp hq with g | g
      · exact hS.2.2 q g
      · exact hL q g
  obtain ⟨t2, a1, c1⟩ := b p e R s m args below meth co T'.heap (locs ++ L) ls (cells + (hn h1 - hn h)) (slots + (hm h1 - hm h)) mc ms C (by rw [e1']; exact hR1) hS' hl (by omega) (by omega) e3 e4 T' rfl X'
  exact ⟨t2, st' t2 a1, c1⟩
theorem V_callS {idx m2 n d2 : Nat} {y2 : MethodName} {c2 : ByteArray} {r2 : Option FieldType} {As rest : List Value} {Qc : Option Value → Hp → Prop} (hm : MS y.cls idx y2 c2 m2 r2 n) (hd2 : d2 + 1 ≤ d) (hm2 : m2 ≤ 45) (hn2 : As.length = n) (hw : (rest.map fun v => v.category).sum ≤ 8) (hst : st = As.reverse ++ rest) (hd : decode cc pc = .ok (.invokestatic idx, 3))
    (hr : RunQ l G d2 y2 c2 m2 r2 As h Qc) (k0 : ∀ r h1, Qc r h1 → V l G d y cc mL rt (pc + 3) lv (r.toList ++ rest) h1 Q) : V l G d y cc mL rt pc lv st h Q := by
  obtain ⟨r1, h1, hq, z1, z2, hM⟩ := hr
  refine V.after (y2 := y2) (As := As.toArray) z1 z2 (fun p e R s m args below meth co H locs ls cells slots C hR hS hl g1 g2 => ?_) (k0 r1 h1 hq)
  obtain ⟨hstat, hcode, hini, hdesc, hlink⟩ := hm
  have hp := preU (As := As) C hR hS
  obtain ⟨hx, hb, hml, -, -, hown, hts, hX, -, hdR, hlR⟩ := C
  have hG := goodT hcode
  have hRoom : (rmD d2 (hn h1 - hn h) (hm h1 - hm h)).frames + 1 ≤ R.frames ∧ 8 + (m2 + 11) + (rmD d2 (hn h1 - hn h) (hm h1 - hm h)).locals ≤ R.locals := by
    constructor
    · show d2 + 1 ≤ _; omega
    · show 8 + (m2 + 11) + 64 * d2 ≤ _; omega
  rcases hlink with hL | ⟨host, hL⟩
  · exact va_runS (As := As) ⟨hx, hb, hml, hown, hts⟩ hM ⟨callB_of n hts hG rfl rfl rfl (hts _ hini) (hts _ hL) hdesc hRoom, hts _ hstat⟩ hp rfl hn2 hl.1 hst (lv_room hw) hd ⟨g1, g2⟩
  · exact va_runSN (As := As) (host := host) ⟨hx, hb, hml, hown, hts⟩ hM ⟨va_cnB n hts hG rfl rfl rfl (hX.2.1 _ hL) (hts _ hini) hdesc hRoom, hts _ hstat, trivial⟩ hp rfl hn2 hl.1 hst (lv_room hw) hd ⟨g1, g2⟩
theorem V_callV {idx m2 n d2 c b : Nat} {y2 : MethodName} {c2 : ByteArray} {r2 : Option FieldType} {As rest : List Value} {Qc : Option Value → Hp → Prop} (hm : MV y.cls idx y2 c2 m2 r2 n) (hc : c < 12) (hcls : RR c = y2.cls) (hb0 : kd h b = c + 1) (hd2 : d2 + 1 ≤ d) (hm2 : m2 ≤ 45) (hn2 : As.length = n) (hw : (rest.map fun v => v.category).sum ≤ 8) (hst : st = As.reverse ++ va_rf (some b) :: rest) (hd : decode cc pc = .ok (.invokevirtual idx, 3))
    (hr : RunQ l G d2 y2 c2 m2 r2 (va_rf (some b) :: As) h Qc) (k0 : ∀ r h1, Qc r h1 → V l G d y cc mL rt (pc + 3) lv (r.toList ++ rest) h1 Q) : V l G d y cc mL rt pc lv st h Q := by
  obtain ⟨r1, h1, hq, z1, z2, hM⟩ := hr
  refine V.after (y2 := y2) (As := (va_rf (some b) :: As).toArray) z1 z2 (fun p e R s m args below meth co H locs ls cells slots C hR hS hl g1 g2 => ?_) (k0 r1 h1 hq)
  obtain ⟨⟨hinst, hsel⟩, hcode, hini, hdesc, hlink⟩ := hm
  have hp := preU (As := va_rf (some b) :: As) C hR hS
  obtain ⟨hx, hb, hml, -, -, hown, hts, hX, -, hdR, hlR⟩ := C
  have hG := goodT hcode
  obtain ⟨cellB, q1, q2, q3, -⟩ := (hR.2.2 b (by omega)).2.2.obj hb0 hc
  have hpv : PreV s H y2.cls b (va_Pc (va_rf (some b) :: As) (fun U => Rel G h U.heap ∧ StX G U U.heap)) As := ⟨hp.1, ⟨cellB, q1, by rw [q3]; rfl, by rw [q2, ← hcls]; exact (hX.1.1 c hc).2.1⟩, hp.2⟩
  have hRoom : (rmD d2 (hn h1 - hn h) (hm h1 - hm h)).frames + 1 ≤ R.frames ∧ 8 + (m2 + 11) + (rmD d2 (hn h1 - hn h) (hm h1 - hm h)).locals ≤ R.locals := by
    constructor
    · show d2 + 1 ≤ _; omega
    · show 8 + (m2 + 11) + 64 * d2 ≤ _; omega
  rcases hlink with hL | ⟨host, hL⟩
  · exact va_runV (As := As) ⟨hx, hb, hml, hown, hts⟩ hM ⟨callB_of n hts hG rfl rfl rfl (hts _ hini) (hts _ hL) hdesc hRoom, hts _ hinst, hts _ hsel⟩ hpv rfl hn2 hl.1 hst (lv_room hw) hd ⟨g1, g2⟩
  · exact va_runVN (As := As) (host := host) ⟨hx, hb, hml, hown, hts⟩ hM ⟨va_cnB n hts hG rfl rfl rfl (hX.2.1 _ hL) (hts _ hini) hdesc hRoom, hts _ hinst, hts _ hsel⟩ hpv rfl hn2 hl.1 hst (lv_room hw) hd ⟨g1, g2⟩
theorem V_callI {idx m2 n d2 b : Nat} {y2 : MethodName} {c2 : ByteArray} {As rest : List Value} {Qc : Option Value → Hp → Prop} (hm : MI y.cls idx y2 c2 m2 n) (hd2 : d2 + 1 ≤ d) (hm2 : m2 ≤ 45) (hn2 : As.length = n) (hw : (rest.map fun v => v.category).sum ≤ 8) (hst : st = As.reverse ++ va_rf (some b) :: rest) (hd : decode cc pc = .ok (.invokespecial idx, 3))
    (hr : RunQ l G d2 y2 c2 m2 none (va_rf (some b) :: As) h Qc) (k0 : ∀ r h1, Qc r h1 → V l G d y cc mL rt (pc + 3) lv (r.toList ++ rest) h1 Q) : V l G d y cc mL rt pc lv st h Q := by
  obtain ⟨r1, h1, hq, z1, z2, hM⟩ := hr
  refine V.after (y2 := y2) (As := (va_rf (some b) :: As).toArray) z1 z2 (fun p e R s m args below meth co H locs ls cells slots C hR hS hl g1 g2 => ?_) (k0 r1 h1 hq)
  obtain ⟨⟨hname, hinst⟩, hcode, hini, hdesc, hlink⟩ := hm
  have hp := preU (As := va_rf (some b) :: As) C hR hS
  obtain ⟨hx, hb, hml, -, -, hown, hts, hX, -, hdR, hlR⟩ := C
  have hG := goodT hcode
  have hRoom : (rmD d2 (hn h1 - hn h) (hm h1 - hm h)).frames + 1 ≤ R.frames ∧ 8 + (m2 + 11) + (rmD d2 (hn h1 - hn h) (hm h1 - hm h)).locals ≤ R.locals := by
    constructor
    · show d2 + 1 ≤ _; omega
    · show 8 + (m2 + 11) + 64 * d2 ≤ _; omega
  rcases hlink with hL | ⟨host, hL⟩
  · exact va_runI (As := As) ⟨hx, hb, hml, hown, hts⟩ hM ⟨callB_of n hts hG rfl rfl rfl (hts _ hini) (hts _ hL) hdesc hRoom, hname, hts _ hinst⟩ hp rfl hn2 hl.1 hst (lv_room hw) hd ⟨g1, g2⟩
  · exact va_runIN (As := As) (host := host) ⟨hx, hb, hml, hown, hts⟩ hM ⟨va_cnB n hts hG rfl rfl rfl (hX.2.1 _ hL) (hts _ hini) hdesc hRoom, hname, hts _ hinst⟩ hp rfl hn2 hl.1 hst (lv_room hw) hd ⟨g1, g2⟩
theorem V_objInit {idx a : Nat} (ho : OI y.cls idx) (hd1 : 1 ≤ d) (hw : (st.map fun v => v.category).sum ≤ 8) (hd : decode cc pc = .ok (.invokespecial idx, 3)) (k0 : V l G d y cc mL rt (pc + 3) lv st h Q) : V l G d y cc mL rt pc lv (va_rf (some a) :: st) h Q :=
  V.pure (fun p e R s m args below meth co H locs ls cells slots Qw C hR hS hl kk => by
    obtain ⟨hx, hb, hml, -, -, hown, hts, hX, -, hdR, hlR⟩ := C
    refine W.objInit hx hb hown (hts _ ho.1) (hts _ ho.2.1) (hts _ ho.2.2) rfl (hl.1.trans hml.symm) rfl hd (by omega) ?_ (kk _ hl)
    have := lv_room (m := m) (pc := pc) (ls := ls) (rest := va_rf (some a) :: st) hw
    omega) k0
/-- a whole method out of its body -/
theorem V_run {av : List Value} (hy : plainName y.cls = true) (hsz : (lg_sl av).length ≤ mL) (k0 : V l G d y cc mL rt 0 (lv_args 0 av) [] h Q) : RunQ l G d y cc mL rt av h Q := by
  obtain ⟨r, h1, a, b1, b2, b⟩ := k0
  refine ⟨r, h1, a, b1, b2, Met.ofW (cc := cc) (maxL := mL) (ret := rt) hy rfl ?_⟩
  intro p e s m args below meth c s1 B hml hv
  obtain ⟨rfl, hRel, hSt⟩ := hv
  have hts := atoms_spec (ws := Cond.code y cc mL rt :: lw_T) B.pre
  have hl := lv_entry av hsz
  rw [lg_entry_eq]
  exact b p e _ s m _ below meth c s.heap [] _ 0 0 _ _ ⟨B.exec, B.bytes, hml, B.returns, B.notSynchronized, findClass_of_methodNamed B.named, fun w hw => hts w (List.mem_cons_of_mem _ hw), hSt, (name_of_methodNamed B.named B.method).1, Nat.le_refl _, Nat.le_refl _⟩ hRel va_S.rf hl (by omega) (by omega) (Nat.le_refl _) (Nat.le_refl _)
end VK
