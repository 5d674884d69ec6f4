-- ===== a method's body as a Prop: its pieces =====
def gI (h : Hp) (v : Option Nat) (c f : Nat) (K : Int32 → Prop) : Prop := ∃ a, v = some a ∧ kd h a = c ∧ K (fI h f a)
def gR (h : Hp) (v : Option Nat) (c f : Nat) (K : Option Nat → Prop) : Prop := ∃ a, v = some a ∧ kd h a = c ∧ K (fR h f a)
def pI (h : Hp) (v : Option Nat) (c f : Nat) (x : Int32) (K : Hp → Prop) : Prop := ∃ a, v = some a ∧ kd h a = c ∧ K (sI h f a x)
def pZ (h : Hp) (v : Option Nat) (c f : Nat) (x : Int32) (K : Hp → Prop) : Prop := (x = 0 ∨ x = 1) ∧ ∃ a, v = some a ∧ kd h a = c ∧ K (sI h f a x)
def pR (h : Hp) (v : Option Nat) (c f : Nat) (x : Option Nat) (K : Hp → Prop) : Prop := ∃ a, v = some a ∧ kd h a = c ∧ K (sR h f a x)
def ldI (h : Hp) (v : Option Nat) (i : Int32) (K : Int32 → Prop) : Prop := ∃ a, v = some a ∧ (20 ≤ kd h a ∧ kd h a < 200) ∧ vp_in i (ln h a) ∧ K (aI h (kd h a) a i.toNatClampNeg)
def ldZ (h : Hp) (v : Option Nat) (i : Int32) (K : Int32 → Prop) : Prop := ∃ a, v = some a ∧ (200 ≤ kd h a ∧ kd h a < 300) ∧ vp_in i (ln h a) ∧ K (aI h (kd h a) a i.toNatClampNeg)
def ldL (h : Hp) (v : Option Nat) (i : Int32) (K : Int64 → Prop) : Prop := ∃ a, v = some a ∧ (300 ≤ kd h a ∧ kd h a < 400) ∧ vp_in i (ln h a) ∧ K (aL h (kd h a) a i.toNatClampNeg)
def ldR (h : Hp) (v : Option Nat) (i : Int32) (K : Option Nat → Prop) : Prop := ∃ a, v = some a ∧ (400 ≤ kd h a ∧ rcOK (rcK (kd h a))) ∧ vp_in i (ln h a) ∧ K (aR h (kd h a) a i.toNatClampNeg)
def stI (h : Hp) (v : Option Nat) (i x : Int32) (K : Hp → Prop) : Prop := ∃ a, v = some a ∧ (100 ≤ kd h a ∧ kd h a < 200) ∧ vp_in i (ln h a) ∧ K (tI h (kd h a) a i.toNatClampNeg x)
def stZ (h : Hp) (v : Option Nat) (i x : Int32) (K : Hp → Prop) : Prop := (x = 0 ∨ x = 1) ∧ ∃ a, v = some a ∧ (200 ≤ kd h a ∧ kd h a < 300) ∧ vp_in i (ln h a) ∧ K (tI h (kd h a) a i.toNatClampNeg x)
def stL (h : Hp) (v : Option Nat) (i : Int32) (x : Int64) (K : Hp → Prop) : Prop := ∃ a, v = some a ∧ (300 ≤ kd h a ∧ kd h a < 400) ∧ vp_in i (ln h a) ∧ K (tL h (kd h a) a i.toNatClampNeg x)
def stR (h : Hp) (v : Option Nat) (i : Int32) (x : Option Nat) (K : Hp → Prop) : Prop := ∃ a, v = some a ∧ (400 ≤ kd h a ∧ rcOK (rcK (kd h a))) ∧ (∀ b, x = some b → kd h b = rcK (kd h a) + 1) ∧ vp_in i (ln h a) ∧ K (tR h (kd h a) a i.toNatClampNeg x)
def alN (h : Hp) (v : Option Nat) (K : Int32 → Prop) : Prop := ∃ a, v = some a ∧ (20 ≤ kd h a ∧ (400 ≤ kd h a → rcOK (rcK (kd h a)))) ∧ K (nI (ln h a))
def nwA (h : Hp) (n : Int32) (k : Nat) (K : Option Nat → Hp → Prop) : Prop := ¬ n < 0 ∧ n.toNatClampNeg ≤ 1000000 ∧ K (some (hn h)) (nw h k n.toNatClampNeg)
def nwO (h : Hp) (k n : Nat) (K : Option Nat → Hp → Prop) : Prop := ∃ v, v = some (hn h) ∧ K v (nw h k n)
theorem nwO_iff {h : Hp} {k n : Nat} {K : Option Nat → Hp → Prop} : nwO h k n K ↔ K (some (hn h)) (nw h k n) := ⟨fun ⟨_, e, k⟩ => e ▸ k, fun k => ⟨_, rfl, k⟩⟩
def dvI (x y : Int32) (K : Int32 → Prop) : Prop := ¬ y = 0 ∧ K (x / y)
def rmI (x y : Int32) (K : Int32 → Prop) : Prop := ¬ y = 0 ∧ K (x - x / y * y)
def oV (h : Hp) (v : Option Nat) (c : Nat) (P : Prop) : Prop := (∃ b, v = some b ∧ kd h b = c) ∧ P
def oN (v : Option Nat) (P : Prop) : Prop := (∃ b : Nat, v = some b) ∧ P
def lt {α : Type} (x : α) (K : α → Prop) : Prop := ∃ z, z = x ∧ K z
theorem lt_iff {α : Type} {x : α} {K : α → Prop} : lt x K ↔ K x := ⟨fun ⟨_, e, k⟩ => e ▸ k, fun k => ⟨x, rfl, k⟩⟩
def rZ (x : Int32) (h : Hp) (Q : Int32 → Hp → Prop) : Prop := (x = 0 ∨ x = 1) ∧ Q x h
def Lon {σ : Type} (F : (σ → Hp → Prop) → σ → Hp → Prop) : Nat → σ → Hp → Prop
  | 0 => fun _ _ => False
  | n + 1 => fun s h => F (Lon F n) s h
/-- a loop: some number of turns brings it to its end -/
def Lo {σ : Type} (F : (σ → Hp → Prop) → σ → Hp → Prop) (s : σ) (h : Hp) : Prop := ∃ n, Lon F n s h
theorem Lo.ind {σ : Type} {F : (σ → Hp → Prop) → σ → Hp → Prop} {P : σ → Hp → Prop} (hs : ∀ K : σ → Hp → Prop, (∀ s h, K s h → P s h) → ∀ s h, F K s h → P s h) {s : σ} {h : Hp} (hw : Lo F s h) : P s h := by
  obtain ⟨n, hn⟩ := hw
  have key : ∀ n s h, Lon F n s h → P s h := by
    intro n
    induction n with
    | zero => intro s h q; exact q.elim
    | succ n ih => intro s h q; exact hs (Lon F n) ih s h q
  exact key n s h hn
/-- to show that a loop ends well: what holds at n turns to go at most -/
theorem Lo.intro {σ : Type} {F : (σ → Hp → Prop) → σ → Hp → Prop} (I : Nat → σ → Hp → Prop) (hs : ∀ n s h, I n s h → ∀ K : σ → Hp → Prop, (∀ m s2 h2, n = m + 1 → I m s2 h2 → K s2 h2) → F K s h) (n : Nat) (s : σ) (h : Hp) (h0 : I n s h) : Lo F s h := by
  have key : ∀ n s h, I n s h → Lon F (n + 1) s h := by
    intro n
    induction n with
    | zero => intro s h q; exact hs 0 s h q _ (fun m s2 h2 e => by omega)
    | succ n ih => intro s h q; exact hs (n + 1) s h q _ (fun m s2 h2 e q2 => by
      have e2 : m = n := (by omega)
      subst e2
      exact ih s2 h2 q2)
  exact ⟨n + 1, key n s h h0⟩
/-- a loop that counts from k to N -/
theorem Lo.count {σ : Type} {F : (σ → Hp → Prop) → σ → Hp → Prop} (N : Nat) (I : Nat → σ → Hp → Prop) (hs : ∀ k s h, k ≤ N → I k s h → ∀ K : σ → Hp → Prop, (∀ s2 h2, k < N → I (k + 1) s2 h2 → K s2 h2) → F K s h) (k : Nat) (hk : k ≤ N) (s : σ) (h : Hp) (h0 : I k s h) : Lo F s h := by
  refine Lo.intro (fun n s h => ∃ k, k ≤ N ∧ n = N - k ∧ I k s h) ?_ (N - k) s h ⟨k, hk, rfl, h0⟩
  rintro n s h ⟨k, hk, rfl, hI⟩ K hK
  exact hs k s h hk hI K (fun s2 h2 hlt h2I => hK (N - (k + 1)) s2 h2 (by omega) ⟨k + 1, by omega, rfl, h2I⟩)
section VX
variable {l : Launch} {G : Gh} {d : Nat} {y : MethodName} {cc : ByteArray} {mL : Nat} {rt : Option FieldType} {pc : Nat} {lv : List (Nat × Value)} {st : List Value} {h : Hp} {Q : Option Value → Hp → Prop}
theorem V_ltI {x : Int32} {K : Int32 → Prop} (hw : lt x K) (k : ∀ z, K z → V l G d y cc mL rt pc lv (.int z :: st) h Q) : V l G d y cc mL rt pc lv (.int x :: st) h Q := k _ (lt_iff.mp hw)
theorem V_ltL {x : Int64} {K : Int64 → Prop} (hw : lt x K) (k : ∀ z, K z → V l G d y cc mL rt pc lv (.long z :: st) h Q) : V l G d y cc mL rt pc lv (.long x :: st) h Q := k _ (lt_iff.mp hw)
theorem X_getI {v : Option Nat} {idx c k : Nat} {K : Int32 → Prop} (hf : FA y.cls idx c k) (hr : isRf c k = false) (hd : decode cc pc = .ok (.getfield idx, 3)) (hw : gI h v (c + 1) (128 * c + k) K) (k0 : ∀ x, K x → V l G d y cc mL rt (pc + 3) lv (.int x :: st) h Q) : V l G d y cc mL rt pc lv (va_rf v :: st) h Q := by
  obtain ⟨a, rfl, ha, hk⟩ := hw
  exact V_getI hf hr ha hd (k0 _ hk)
theorem X_getR {v : Option Nat} {idx c k : Nat} {K : Option Nat → Prop} (hf : FA y.cls idx c k) (hr : isRf c k = true) (hd : decode cc pc = .ok (.getfield idx, 3)) (hw : gR h v (c + 1) (128 * c + k) K) (k0 : ∀ x, K x → V l G d y cc mL rt (pc + 3) lv (va_rf x :: st) h Q) : V l G d y cc mL rt pc lv (va_rf v :: st) h Q := by
  obtain ⟨a, rfl, ha, hk⟩ := hw
  exact V_getR hf hr ha hd (k0 _ hk)
theorem X_putI {v : Option Nat} {idx c k : Nat} {x : Int32} {K : Hp → Prop} (hf : FA y.cls idx c k) (hfin : PutOK y idx c k) (ht : tyT c k = .int) (hd : decode cc pc = .ok (.putfield idx, 3)) (hw : pI h v (c + 1) (128 * c + k) x K) (k0 : ∀ h1, K h1 → V l G d y cc mL rt (pc + 3) lv st h1 Q) : V l G d y cc mL rt pc lv (.int x :: va_rf v :: st) h Q := by
  obtain ⟨a, rfl, ha, hk⟩ := hw
  exact V_putI hf hfin (Or.inl ht) ha hd (k0 _ hk)
theorem X_putZ {v : Option Nat} {idx c k : Nat} {x : Int32} {K : Hp → Prop} (hf : FA y.cls idx c k) (hfin : PutOK y idx c k) (ht : tyT c k = .boolean) (hd : decode cc pc = .ok (.putfield idx, 3)) (hw : pZ h v (c + 1) (128 * c + k) x K) (k0 : ∀ h1, K h1 → V l G d y cc mL rt (pc + 3) lv st h1 Q) : V l G d y cc mL rt pc lv (.int x :: va_rf v :: st) h Q := by
  obtain ⟨hx, a, rfl, ha, hk⟩ := hw
  exact V_putI hf hfin (Or.inr ⟨ht, hx⟩) ha hd (k0 _ hk)
theorem X_putR {v : Option Nat} {idx c k : Nat} {x : Option Nat} {K : Hp → Prop} (hf : FA y.cls idx c k) (hfin : PutOK y idx c k) (ht : fitR c k) (hd : decode cc pc = .ok (.putfield idx, 3)) (hw : pR h v (c + 1) (128 * c + k) x K) (k0 : ∀ h1, K h1 → V l G d y cc mL rt (pc + 3) lv st h1 Q) : V l G d y cc mL rt pc lv (va_rf x :: va_rf v :: st) h Q := by
  obtain ⟨a, rfl, ha, hk⟩ := hw
  exact V_putR hf hfin ht ha hd (k0 _ hk)
theorem X_ldI {v : Option Nat} {i : Int32} {K : Int32 → Prop} (hd : decode cc pc = .ok (.iaload, 1)) (hw : ldI h v i K) (k0 : ∀ x, K x → V l G d y cc mL rt (pc + 1) lv (.int x :: st) h Q) : V l G d y cc mL rt pc lv (.int i :: va_rf v :: st) h Q := by
  obtain ⟨a, rfl, ha, hi, hk⟩ := hw
  exact V_iaload ha hi hd (k0 _ hk)
theorem X_ldZ {v : Option Nat} {i : Int32} {K : Int32 → Prop} (hd : decode cc pc = .ok (.baload, 1)) (hw : ldZ h v i K) (k0 : ∀ x, K x → V l G d y cc mL rt (pc + 1) lv (.int x :: st) h Q) : V l G d y cc mL rt pc lv (.int i :: va_rf v :: st) h Q := by
  obtain ⟨a, rfl, ha, hi, hk⟩ := hw
  exact V_baload ha hi hd (k0 _ hk)
theorem X_ldL {v : Option Nat} {i : Int32} {K : Int64 → Prop} (hd : decode cc pc = .ok (.laload, 1)) (hw : ldL h v i K) (k0 : ∀ x, K x → V l G d y cc mL rt (pc + 1) lv (.long x :: st) h Q) : V l G d y cc mL rt pc lv (.int i :: va_rf v :: st) h Q := by
  obtain ⟨a, rfl, ha, hi, hk⟩ := hw
  exact V_laload ha hi hd (k0 _ hk)
theorem X_ldR {v : Option Nat} {i : Int32} {K : Option Nat → Prop} (hd : decode cc pc = .ok (.aaload, 1)) (hw : ldR h v i K) (k0 : ∀ x, K x → V l G d y cc mL rt (pc + 1) lv (va_rf x :: st) h Q) : V l G d y cc mL rt pc lv (.int i :: va_rf v :: st) h Q := by
  obtain ⟨a, rfl, ha, hi, hk⟩ := hw
  exact V_aaload ha hi hd (k0 _ hk)
theorem X_stI {v : Option Nat} {i x : Int32} {K : Hp → Prop} (hd : decode cc pc = .ok (.iastore, 1)) (hw : stI h v i x K) (k0 : ∀ h1, K h1 → V l G d y cc mL rt (pc + 1) lv st h1 Q) : V l G d y cc mL rt pc lv (.int x :: .int i :: va_rf v :: st) h Q := by
  obtain ⟨a, rfl, ha, hi, hk⟩ := hw
  exact V_iastore ha hi hd (k0 _ hk)
theorem X_stZ {v : Option Nat} {i x : Int32} {K : Hp → Prop} (hd : decode cc pc = .ok (.bastore, 1)) (hw : stZ h v i x K) (k0 : ∀ h1, K h1 → V l G d y cc mL rt (pc + 1) lv st h1 Q) : V l G d y cc mL rt pc lv (.int x :: .int i :: va_rf v :: st) h Q := by
  obtain ⟨hx, a, rfl, ha, hi, hk⟩ := hw
  exact V_bastore ha hx hi hd (k0 _ hk)
theorem X_stL {v : Option Nat} {i : Int32} {x : Int64} {K : Hp → Prop} (hd : decode cc pc = .ok (.lastore, 1)) (hw : stL h v i x K) (k0 : ∀ h1, K h1 → V l G d y cc mL rt (pc + 1) lv st h1 Q) : V l G d y cc mL rt pc lv (.long x :: .int i :: va_rf v :: st) h Q := by
  obtain ⟨a, rfl, ha, hi, hk⟩ := hw
  exact V_lastore ha hi hd (k0 _ hk)
theorem X_stR {v : Option Nat} {i : Int32} {x : Option Nat} {K : Hp → Prop} (hd : decode cc pc = .ok (.aastore, 1)) (hw : stR h v i x K) (k0 : ∀ h1, K h1 → V l G d y cc mL rt (pc + 1) lv st h1 Q) : V l G d y cc mL rt pc lv (va_rf x :: .int i :: va_rf v :: st) h Q := by
  obtain ⟨a, rfl, ha, hx, hi, hk⟩ := hw
  exact V_aastore ha hx hi hd (k0 _ hk)
theorem X_alen {v : Option Nat} {K : Int32 → Prop} (hd : decode cc pc = .ok (.arraylength, 1)) (hw : alN h v K) (k0 : ∀ x, K x → V l G d y cc mL rt (pc + 1) lv (.int x :: st) h Q) : V l G d y cc mL rt pc lv (va_rf v :: st) h Q := by
  obtain ⟨a, rfl, ha, hk⟩ := hw
  exact V_alen ha.1 ha.2 hd (k0 _ hk)
theorem X_newO {idx c : Nat} {K : Option Nat → Hp → Prop} (hN : NC y.cls idx c) (hd : decode cc pc = .ok (.new idx, 3)) (hw : nwO h (c + 1) (NN c) K) (k0 : ∀ v h1, K v h1 → V l G d y cc mL rt (pc + 3) lv (va_rf v :: st) h1 Q) : V l G d y cc mL rt pc lv st h Q := V_new hN hd (k0 _ _ (nwO_iff.mp hw))
theorem X_newI {n : Int32} {k : Nat} {K : Option Nat → Hp → Prop} (hk : 100 ≤ k ∧ k < 200) (hd : decode cc pc = .ok (.newarray .int, 2)) (hw : nwA h n k K) (k0 : ∀ v h1, K v h1 → V l G d y cc mL rt (pc + 2) lv (va_rf v :: st) h1 Q) : V l G d y cc mL rt pc lv (.int n :: st) h Q := V_newI wd_aI hk hw.1 rfl (by have := hw.2.1; omega) hd (k0 _ _ hw.2.2)
theorem X_newZ {n : Int32} {k : Nat} {K : Option Nat → Hp → Prop} (hk : 200 ≤ k ∧ k < 300) (hd : decode cc pc = .ok (.newarray .boolean, 2)) (hw : nwA h n k K) (k0 : ∀ v h1, K v h1 → V l G d y cc mL rt (pc + 2) lv (va_rf v :: st) h1 Q) : V l G d y cc mL rt pc lv (.int n :: st) h Q := V_newZ wd_aZ hk hw.1 rfl (by have := hw.2.1; omega) hd (k0 _ _ hw.2.2)
theorem X_newL {n : Int32} {k : Nat} {K : Option Nat → Hp → Prop} (hk : 300 ≤ k ∧ k < 400) (hd : decode cc pc = .ok (.newarray .long, 2)) (hw : nwA h n k K) (k0 : ∀ v h1, K v h1 → V l G d y cc mL rt (pc + 2) lv (va_rf v :: st) h1 Q) : V l G d y cc mL rt pc lv (.int n :: st) h Q := V_newL wd_aL hk hw.1 rfl (by have := hw.2.1; omega) hd (k0 _ _ hw.2.2)
theorem X_newR {n : Int32} {idx c k : Nat} {K : Option Nat → Hp → Prop} (hcl : Cond.classLink y.cls idx (RR c) ∈ lw_T) (hk : 400 ≤ k ∧ rcK k = c) (hrc : rcOK c) (hd : decode cc pc = .ok (.anewarray idx, 3)) (hw : nwA h n k K) (k0 : ∀ v h1, K v h1 → V l G d y cc mL rt (pc + 3) lv (va_rf v :: st) h1 Q) : V l G d y cc mL rt pc lv (.int n :: st) h Q := V_newR hcl hk hrc hw.1 rfl (by have := hw.2.1; omega) hd (k0 _ _ hw.2.2)
theorem X_idiv {x y0 : Int32} {K : Int32 → Prop} (hd : decode cc pc = .ok (.idiv, 1)) (hw : dvI x y0 K) (k0 : ∀ z, K z → V l G d y cc mL rt (pc + 1) lv (.int z :: st) h Q) : V l G d y cc mL rt pc lv (.int y0 :: .int x :: st) h Q := V_idiv hw.1 hd (k0 _ hw.2)
theorem X_irem {x y0 : Int32} {K : Int32 → Prop} (hd : decode cc pc = .ok (.irem, 1)) (hw : rmI x y0 K) (k0 : ∀ z, K z → V l G d y cc mL rt (pc + 1) lv (.int z :: st) h Q) : V l G d y cc mL rt pc lv (.int y0 :: .int x :: st) h Q := V_irem hw.1 hd (k0 _ hw.2)
-- calls, by what they answer
theorem X_cS {idx m2 n d2 : Nat} {y2 : MethodName} {c2 : ByteArray} {r2 : Option FieldType} (As rest : List Value) {Qc : Option Value → Hp → Prop} (hm : MS y.cls idx y2 c2 m2 r2 n) (hd2 : d2 + 1 ≤ d) (hm2 : m2 ≤ 45) (hn2 : As.length = n) (hw : (rest.map fun v => v.category).sum ≤ 8) (hst : st = As.reverse ++ rest) (hd : decode cc pc = .ok (.invokestatic idx, 3))
    (hr : RunQ l G d2 y2 c2 m2 r2 As h Qc) (k0 : ∀ r h1, Qc r h1 → V l G d y cc mL rt (pc + 3) lv (r.toList ++ rest) h1 Q) : V l G d y cc mL rt pc lv st h Q := V_callS hm hd2 hm2 hn2 hw hst hd hr k0
theorem X_cV {idx m2 n d2 : Nat} (c : Nat) {v : Option Nat} {P : Prop} {y2 : MethodName} {c2 : ByteArray} {r2 : Option FieldType} (As rest : List Value) {Qc : Option Value → Hp → Prop} (hm : MV y.cls idx y2 c2 m2 r2 n) (hc : c < 12) (hcls : RR c = y2.cls) (hd2 : d2 + 1 ≤ d) (hm2 : m2 ≤ 45) (hn2 : As.length = n) (hw : (rest.map fun v => v.category).sum ≤ 8) (hst : st = As.reverse ++ va_rf v :: rest) (hd : decode cc pc = .ok (.invokevirtual idx, 3))
    (hP : oV h v (c + 1) P) (hr : P → RunQ l G d2 y2 c2 m2 r2 (va_rf v :: As) h Qc) (k0 : ∀ r h1, Qc r h1 → V l G d y cc mL rt (pc + 3) lv (r.toList ++ rest) h1 Q) : V l G d y cc mL rt pc lv st h Q := by
  obtain ⟨⟨b, rfl, hb⟩, hP⟩ := hP
  exact V_callV hm hc hcls hb hd2 hm2 hn2 hw hst hd (hr hP) k0
theorem X_cI {idx m2 n d2 : Nat} {v : Option Nat} {P : Prop} {y2 : MethodName} {c2 : ByteArray} (As rest : List Value) {Qc : Option Value → Hp → Prop} (hm : MI y.cls idx y2 c2 m2 n) (hd2 : d2 + 1 ≤ d) (hm2 : m2 ≤ 45) (hn2 : As.length = n) (hw : (rest.map fun v => v.category).sum ≤ 8) (hst : st = As.reverse ++ va_rf v :: rest) (hd : decode cc pc = .ok (.invokespecial idx, 3))
    (hP : oN v P) (hr : P → RunQ l G d2 y2 c2 m2 none (va_rf v :: As) h Qc) (k0 : ∀ r h1, Qc r h1 → V l G d y cc mL rt (pc + 3) lv (r.toList ++ rest) h1 Q) : V l G d y cc mL rt pc lv st h Q := by
  obtain ⟨⟨b, rfl⟩, hP⟩ := hP
  exact V_callI hm hd2 hm2 hn2 hw hst hd (hr hP) k0
theorem k_I {K : Int32 → Hp → Prop} {rest : List Value} (k : ∀ x h1, K x h1 → V l G d y cc mL rt pc lv (.int x :: rest) h1 Q) : ∀ r h1, qI K r h1 → V l G d y cc mL rt pc lv (r.toList ++ rest) h1 Q := by
  rintro r h1 ⟨x, rfl, hx⟩
  exact k x h1 hx
theorem k_L {K : Int64 → Hp → Prop} {rest : List Value} (k : ∀ x h1, K x h1 → V l G d y cc mL rt pc lv (.long x :: rest) h1 Q) : ∀ r h1, qL K r h1 → V l G d y cc mL rt pc lv (r.toList ++ rest) h1 Q := by
  rintro r h1 ⟨x, rfl, hx⟩
  exact k x h1 hx
theorem k_R {K : Option Nat → Hp → Prop} {rest : List Value} (k : ∀ x h1, K x h1 → V l G d y cc mL rt pc lv (va_rf x :: rest) h1 Q) : ∀ r h1, qR K r h1 → V l G d y cc mL rt pc lv (r.toList ++ rest) h1 Q := by
  rintro r h1 ⟨x, rfl, hx⟩
  exact k x h1 hx
theorem k_V {K : Hp → Prop} {rest : List Value} (k : ∀ h1, K h1 → V l G d y cc mL rt pc lv rest h1 Q) : ∀ r h1, qV K r h1 → V l G d y cc mL rt pc lv (r.toList ++ rest) h1 Q := by
  rintro r h1 ⟨rfl, hx⟩
  exact k h1 hx
end VX
theorem cat_i (x : Int32) : (Value.int x).category = 1 := rfl
theorem cat_l (x : Int64) : (Value.long x).category = 2 := rfl
theorem la_n (i : Nat) : lv_args i [] = [] := rfl
theorem la_i (i : Nat) (x : Int32) (t : List Value) : lv_args i (.int x :: t) = (i, .int x) :: lv_args (i + 1) t := rfl
theorem la_l (i : Nat) (x : Int64) (t : List Value) : lv_args i (.long x :: t) = (i, .long x) :: lv_args (i + 2) t := rfl
theorem la_r (i : Nat) (x : Option Nat) (t : List Value) : lv_args i (va_rf x :: t) = (i, va_rf x) :: lv_args (i + 1) t := by cases x <;> rfl
section VY
variable {l : Launch} {G : Gh} {d : Nat} {y : MethodName} {cc : ByteArray} {mL : Nat} {rt : Option FieldType} {pc : Nat} {lv : List (Nat × Value)} {st : List Value} {h : Hp} {Q : Option Value → Hp → Prop}
theorem V_iincL {i : Nat} {n : Int32} {n0 : Int} {x : Int32} {K : Int32 → Prop} (j : Nat) (lv2 : Int32 → List (Nat × Value)) (hj : lv[j]? = some (i, .int x)) (hn : Int32.ofInt n0 = n) (hb : i < mL) (hf : ∀ z, (i, Value.int z) :: lv.filter (fun q => !(q.1 == i) && !(q.1 + 1 == i && q.2.category == 2)) = lv2 z) (hd : decode cc pc = .ok (.iinc i n0, 3)) (hw : lt (x + n) K) (k : ∀ z, K z → V l G d y cc mL rt (pc + 3) (lv2 z) st h Q) : V l G d y cc mL rt pc lv st h Q :=
  V_iinc j (lv2 (x + n)) hj (by rw [hn]) hb (hf _) hd (k _ (lt_iff.mp hw))
theorem X_obj {idx : Nat} {v : Option Nat} {P : Prop} (ho : OI y.cls idx) (hd1 : 1 ≤ d) (hw0 : (st.map fun v => v.category).sum ≤ 8) (hd : decode cc pc = .ok (.invokespecial idx, 3)) (hw : oN v P) (k0 : P → V l G d y cc mL rt (pc + 3) lv st h Q) : V l G d y cc mL rt pc lv (va_rf v :: st) h Q := by
  obtain ⟨⟨b, rfl⟩, hP⟩ := hw
  exact V_objInit ho hd1 hw0 hd (k0 hP)
theorem V_tswD {dflt lo hi : Int} {offs : Array Int} {len : Nat} {x : Int32} (tgt : Nat) (hd : decode cc pc = .ok (.tableswitch dflt lo hi offs, len)) (ht : (pc : Int) + dflt = (tgt : Int)) (ho : ∀ v : Int, lo ≤ v → v ≤ hi → ¬ x = Int32.ofInt v ∨ ∃ off, offs[(v - lo).toNat]? = some off ∧ (pc : Int) + off = (tgt : Int))
    (k0 : V l G d y cc mL rt tgt lv st h Q) : V l G d y cc mL rt pc lv (.int x :: st) h Q := by
  by_cases h1 : x.toInt < lo
  · exact V_tsw tgt hd (Or.inl ⟨Or.inl h1, ht⟩) k0
  · by_cases h2 : hi < x.toInt
    · exact V_tsw tgt hd (Or.inl ⟨Or.inr h2, ht⟩) k0
    · rcases ho x.toInt (by omega) (by omega) with q | ⟨off, q1, q2⟩
      · exact absurd (Int32.ofInt_toInt x).symm q
      · exact V_tsw tgt hd (Or.inr ⟨h1, h2, off, q1, q2⟩) k0
theorem sl_len (av : List Value) (n : Nat) (h : (av.map fun v => v.category).sum ≤ n) : (lg_sl av).length ≤ n := by
  refine Nat.le_trans ?_ h
  clear h
  induction av with
  | nil => exact Nat.le_refl _
  | cons v t ih =>
    have e : lg_sl (v :: t) = (lg_sl [v]) ++ lg_sl t := by simp [lg_sl]
    rw [e, List.length_append, List.map_cons, List.sum_cons]
    have : (lg_sl [v]).length ≤ v.category := by cases v <;> simp [lg_sl, Value.category]
    omega
def jnLd (i : Int32) (K : Int32 → Prop) : Prop := vp_in i 3 ∧ K (jnV i.toNatClampNeg)
theorem X_jnLen {K : Int32 → Prop} (hd : decode cc pc = .ok (.arraylength, 1)) (hw : lt 3 K) (k0 : ∀ x, K x → V l G d y cc mL rt (pc + 1) lv (.int x :: st) h Q) : V l G d y cc mL rt pc lv (va_rf (some (gJ G)) :: st) h Q := V_jnLen hd (k0 _ (lt_iff.mp hw))
theorem X_jnLd {i : Int32} {K : Int32 → Prop} (hd : decode cc pc = .ok (.iaload, 1)) (hw : jnLd i K) (k0 : ∀ x, K x → V l G d y cc mL rt (pc + 1) lv (.int x :: st) h Q) : V l G d y cc mL rt pc lv (.int i :: va_rf (some (gJ G)) :: st) h Q := V_jnLd hw.1 hd (k0 _ hw.2)
end VY
-- ===== what the library does for us =====
def cpH (h : Hp) (a i b j n : Nat) : Hp := (h.1, h.2.1, h.2.2.1, fun c q x => if c = kd h b ∧ q = b ∧ j ≤ x ∧ x < j + n then aL h (kd h a) a (i + (x - j)) else h.2.2.2.1 c q x, h.2.2.2.2)
/-- System.arraycopy of longs -/
def cpL (h : Hp) (v : Option Nat) (i : Int32) (w : Option Nat) (j n : Int32) (K : Hp → Prop) : Prop := ∃ a b, v = some a ∧ w = some b ∧ (300 ≤ kd h a ∧ kd h a < 400) ∧ (300 ≤ kd h b ∧ kd h b < 400) ∧ ¬ i < 0 ∧ ¬ j < 0 ∧ ¬ n < 0 ∧ i.toNatClampNeg + n.toNatClampNeg ≤ ln h a ∧ j.toNatClampNeg + n.toNatClampNeg ≤ ln h b ∧ K (cpH h a i.toNatClampNeg b j.toNatClampNeg n.toNatClampNeg)
/-- the letters of FIELDS: n b h t m w d y -/
def fldC (i : Nat) : Int32 := ([110, 98, 104, 116, 109, 119, 100, 121] : List Int32).getD i 0
def strChar (i : Int32) (K : Int32 → Prop) : Prop := vp_in i 8 ∧ K (fldC i.toNatClampNeg)
/-- the heap with a new row of n longs, those of a -/
def cpN (h : Hp) (a n : Nat) : Hp := let g := nw h 399 n; (g.1, g.2.1, g.2.2.1, fun c q x => if c = 399 ∧ q = hn h ∧ x < n then aL h (kd h a) a x else g.2.2.2.1 c q x, g.2.2.2.2)
def w_J7_copyOf_c38d5 (v : Option Nat) (n : Int32) (h : Hp) (Q : Option Nat → Hp → Prop) : Prop := ∃ a, v = some a ∧ (300 ≤ kd h a ∧ kd h a < 400) ∧ ¬ n < 0 ∧ n.toNatClampNeg ≤ ln h a ∧ ln h a ≤ 1000000 ∧ Q (some (hn h)) (cpN h a n.toNatClampNeg)
section VM
variable {l : Launch} {G : Gh} {d : Nat} {y : MethodName} {cc : ByteArray} {mL : Nat} {rt : Option FieldType} {pc : Nat} {lv : List (Nat × Value)} {st : List Value} {h : Hp} {Q : Option Value → Hp → Prop}
/-- a step that wants the room as it stands -/
theorem V.pureR {pc2 : Nat} {st2 : List Value}
    (f : ∀ (p : Program) (e : Env) (R : Room) (s : State) (m : MethodId) (args : Array Value) (below : List Frame) (meth : Method) (c : Code) (H : Heap) (locs : List Loc) (ls : Array Slot) (cells slots : Nat) (Qw : State → Prop), Ctx G d y cc mL rt p R s m args meth c → Rel G h H → va_S (gFree G) s.heap H locs → lv_has ls mL lv → cells ≤ R.cells → slots ≤ R.slots →
      W p l e R s m args below meth c H locs cells slots Qw (F0 m pc2 ls st2) → W p l e R s m args below meth c H locs cells slots Qw (F0 m pc ls st))
    (k : V l G d y cc mL rt pc2 lv st2 h Q) : V l G d y cc mL rt pc lv st h Q := by
  obtain ⟨r, h1, a, b1, b2, b⟩ := k
  exact ⟨r, h1, a, b1, b2, fun p e R s m args below meth c H locs ls cells slots mc ms C hR hS hl e1 e2 e3 e4 => f _ _ _ _ _ _ _ _ _ _ _ _ _ _ _ C hR hS hl (by omega) (by omega) (b p e R s m args below meth c H locs ls cells slots mc ms C hR hS hl e1 e2 e3 e4)⟩
theorem X_mmin {idx : Nat} {x y0 : Int32} {K : Int32 → Prop} (hm : Cond.methodLink y.cls idx Lib.Math.min.name ∈ lw_T) (hd1 : 1 + 1 ≤ d) (hw0 : (st.map fun v => v.category).sum ≤ 8) (hd : decode cc pc = .ok (.invokestatic idx, 3)) (hw : lt (if y0 < x then y0 else x) K) (k0 : ∀ z, K z → V l G d y cc mL rt (pc + 3) lv (.int z :: st) h Q) : V l G d y cc mL rt pc lv (.int y0 :: .int x :: st) h Q :=
  V.pureR (fun p e R s m args below meth co H locs ls cells slots Qw C hR hS hl g1 g2 kk => va_mmin C.1 C.2.1 (C.2.2.1.trans hl.1.symm) C.2.2.2.2.2.1 (C.2.2.2.2.2.2.1 _ hm) (C.2.2.2.2.2.2.1 _ wm_mins) (C.2.2.2.2.2.2.1 _ wm_i) (C.2.2.2.2.2.2.1 _ wm_minc) (by have := C.2.2.2.2.2.2.2.2.2.1; omega) (by have := C.2.2.2.2.2.2.2.2.2.2; omega) g1 g2 hd kk) (k0 _ (lt_iff.mp hw))
theorem X_mmax {idx : Nat} {x y0 : Int32} {K : Int32 → Prop} (hm : Cond.methodLink y.cls idx Lib.Math.max.name ∈ lw_T) (hd1 : 1 + 1 ≤ d) (hw0 : (st.map fun v => v.category).sum ≤ 8) (hd : decode cc pc = .ok (.invokestatic idx, 3)) (hw : lt (if x < y0 then y0 else x) K) (k0 : ∀ z, K z → V l G d y cc mL rt (pc + 3) lv (.int z :: st) h Q) : V l G d y cc mL rt pc lv (.int y0 :: .int x :: st) h Q :=
  V.pureR (fun p e R s m args below meth co H locs ls cells slots Qw C hR hS hl g1 g2 kk => va_mmax C.1 C.2.1 (C.2.2.1.trans hl.1.symm) C.2.2.2.2.2.1 (C.2.2.2.2.2.2.1 _ hm) (C.2.2.2.2.2.2.1 _ wm_maxs) (C.2.2.2.2.2.2.1 _ wm_i) (C.2.2.2.2.2.2.1 _ wm_maxc) (by have := C.2.2.2.2.2.2.2.2.2.1; omega) (by have := C.2.2.2.2.2.2.2.2.2.2; omega) g1 g2 hd kk) (k0 _ (lt_iff.mp hw))
theorem X_mabs {idx : Nat} {x : Int32} {K : Int32 → Prop} (hm : Cond.methodLink y.cls idx Lib.Math.abs.name ∈ lw_T) (hd1 : 1 + 1 ≤ d) (hw0 : (st.map fun v => v.category).sum ≤ 8) (hd : decode cc pc = .ok (.invokestatic idx, 3)) (hw : lt (if 0 ≤ x then x else 0 - x) K) (k0 : ∀ z, K z → V l G d y cc mL rt (pc + 3) lv (.int z :: st) h Q) : V l G d y cc mL rt pc lv (.int x :: st) h Q :=
  V.pureR (fun p e R s m args below meth co H locs ls cells slots Qw C hR hS hl g1 g2 kk => va_mabs C.1 C.2.1 (C.2.2.1.trans hl.1.symm) C.2.2.2.2.2.1 (C.2.2.2.2.2.2.1 _ hm) (C.2.2.2.2.2.2.1 _ wm_abss) (C.2.2.2.2.2.2.1 _ wm_i) (C.2.2.2.2.2.2.1 _ wm_absc) (by have := C.2.2.2.2.2.2.2.2.2.1; omega) (by have := C.2.2.2.2.2.2.2.2.2.2; omega) g1 g2 hd kk) (k0 _ (lt_iff.mp hw))
end VM
section VZ
variable {l : Launch} {G : Gh} {d : Nat} {y : MethodName} {cc : ByteArray} {mL : Nat} {rt : Option FieldType} {pc : Nat} {lv : List (Nat × Value)} {st : List Value} {h : Hp} {Q : Option Value → Hp → Prop}
theorem X_cpL {idx : Nat} {v w : Option Nat} {i j n : Int32} {K : Hp → Prop} (hm : Cond.methodLink y.cls idx arraycopyName ∈ lw_T) (hn0 : Cond.native arraycopyName ∈ lw_T) (hd : decode cc pc = .ok (.invokestatic idx, 3)) (hw : cpL h v i w j n K) (k0 : ∀ h1, K h1 → V l G d y cc mL rt (pc + 3) lv st h1 Q) : V l G d y cc mL rt pc lv (.int n :: .int j :: va_rf w :: .int i :: va_rf v :: st) h Q := by
  sorry
theorem X_strLen {idx m2 n : Nat} {y2 : MethodName} {c2 : ByteArray} {r2 : Option FieldType} {K : Int32 → Prop} (hm : MV y.cls idx y2 c2 m2 r2 n) (hd1 : 8 + 1 ≤ d) (hw0 : (st.map fun v => v.category).sum ≤ 8) (hd : decode cc pc = .ok (.invokevirtual idx, 3)) (hw : lt 8 K) (k0 : ∀ x, K x → V l G d y cc mL rt (pc + 3) lv (.int x :: st) h Q) : V l G d y cc mL rt pc lv (va_rf (some (gF G)) :: st) h Q := by
  sorry
theorem X_strChar {idx m2 n : Nat} {y2 : MethodName} {c2 : ByteArray} {r2 : Option FieldType} {i : Int32} {K : Int32 → Prop} (hm : MV y.cls idx y2 c2 m2 r2 n) (hd1 : 8 + 1 ≤ d) (hw0 : (st.map fun v => v.category).sum ≤ 8) (hd : decode cc pc = .ok (.invokevirtual idx, 3)) (hw : strChar i K) (k0 : ∀ x, K x → V l G d y cc mL rt (pc + 3) lv (.int x :: st) h Q) : V l G d y cc mL rt pc lv (.int i :: va_rf (some (gF G)) :: st) h Q := by
  sorry
theorem r_J7_copyOf_c38d5 (v : Option Nat) (n : Int32) {h : Hp} {Q : Option Nat → Hp → Prop} (hw : w_J7_copyOf_c38d5 v n h Q) : RunQ l G 8 yJ7_copyOf_c38d5 cJ7_copyOf_c38d5 3 (some (.array .long)) [va_rf v, .int n] h (qR Q) := by
  sorry
end VZ
