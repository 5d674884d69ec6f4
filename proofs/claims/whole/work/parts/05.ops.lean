-- ===== a method's body as a Prop: its pieces =====
def gI (h : Hp) (v : Option Nat) (c f : Nat) (K : Int32 → Prop) : Prop := ∃ a, v = some a ∧ kd h a = c ∧ K (fI h f a)
def gR (h : Hp) (v : Option Nat) (c f : Nat) (K : Option Nat → Prop) : Prop := ∃ a, v = some a ∧ kd h a = c ∧ K (fR h f a)
def pI (h : Hp) (v : Option Nat) (c f : Nat) (x : Int32) (K : Hp → Prop) : Prop := ∃ a, v = some a ∧ kd h a = c ∧ K (sI h f a x)
def pZ (h : Hp) (v : Option Nat) (c f : Nat) (x : Int32) (K : Hp → Prop) : Prop := (x = 0 ∨ x = 1) ∧ ∃ a, v = some a ∧ kd h a = c ∧ K (sI h f a x)
def pR (h : Hp) (v : Option Nat) (c f : Nat) (x : Option Nat) (K : Hp → Prop) : Prop := ∃ a, v = some a ∧ kd h a = c ∧ K (sR h f a x)
def ldI (h : Hp) (v : Option Nat) (i : Int32) (K : Int32 → Prop) : Prop := ∃ a, v = some a ∧ (20 ≤ kd h a ∧ kd h a < 200) ∧ vp_in i (ln h a) ∧ K (aI h (kd h a) a i.toNatClampNeg)
def ldZ (h : Hp) (v : Option Nat) (i : Int32) (K : Int32 → Prop) : Prop := ∃ a, v = some a ∧ (200 ≤ kd h a ∧ kd h a < 300) ∧ vp_in i (ln h a) ∧ K (aI h (kd h a) a i.toNatClampNeg)
def ldL (h : Hp) (v : Option Nat) (i : Int32) (K : Int64 → Prop) : Prop := ∃ a, v = some a ∧ (300 ≤ kd h a ∧ kd h a < 400) ∧ vp_in i (ln h a) ∧ K (aL h (kd h a) a i.toNatClampNeg)
def ldR (h : Hp) (v : Option Nat) (i : Int32) (K : Option Nat → Prop) : Prop := ∃ a, v = some a ∧ (400 ≤ kd h a ∧ rcOK (rcK (kd h a))) ∧ vp_in i (ln h a) ∧ K (aR h (kd h a) a i.toNatClampNeg)
def stI (h : Hp) (v : Option Nat) (i x : Int32) (K : Hp → Prop) : Prop := ∃ a, v = some a ∧ (100 ≤ kd h a ∧ kd h a < 200) ∧ vp_in i (ln h a) ∧ K (tI h (kd h a) a i.toNatClampNeg x)
def stZ (h : Hp) (v : Option Nat) (i x : Int32) (K : Hp → Prop) : Prop := (x = 0 ∨ x = 1) ∧ ∃ a, v = some a ∧ (200 ≤ kd h a ∧ kd h a < 300) ∧ vp_in i (ln h a) ∧ K (tI h (kd h a) a i.toNatClampNeg x)
def stL (h : Hp) (v : Option Nat) (i : Int32) (x : Int64) (K : Hp → Prop) : Prop := ∃ a, v = some a ∧ (300 ≤ kd h a ∧ kd h a < 400) ∧ vp_in i (ln h a) ∧ K (tL h (kd h a) a i.toNatClampNeg x)
def stR (h : Hp) (v : Option Nat) (i : Int32) (x : Option Nat) (K : Hp → Prop) : Prop := ∃ a, v = some a ∧ (400 ≤ kd h a ∧ rcOK (rcK (kd h a))) ∧ (∀ b, x = some b → kd h b = rcK (kd h a) + 1) ∧ vp_in i (ln h a) ∧ K (tR h (kd h a) a i.toNatClampNeg x)
def alN (h : Hp) (v : Option Nat) (K : Int32 → Prop) : Prop := ∃ a, v = some a ∧ (20 ≤ kd h a ∧ (400 ≤ kd h a → rcOK (rcK (kd h a)))) ∧ K (nI (ln h a))
def nwA (h : Hp) (n : Int32) (k : Nat) (K : Option Nat → Hp → Prop) : Prop := ¬ n < 0 ∧ n.toNatClampNeg ≤ 1000000 ∧ K (some (hn h)) (nw h k n.toNatClampNeg)
def nwO (h : Hp) (k n : Nat) (K : Option Nat → Hp → Prop) : Prop := ∃ v, v = some (hn h) ∧ K v (nw h k n)
theorem nwO_iff {h : Hp} {k n : Nat} {K : Option Nat → Hp → Prop} : nwO h k n K ↔ K (some (hn h)) (nw h k n) := ⟨fun ⟨_, e, k⟩ => e ▸ k, fun k => ⟨_, rfl, k⟩⟩
def dvI (x y : Int32) (K : Int32 → Prop) : Prop := ¬ y = 0 ∧ K (x / y)
def rmI (x y : Int32) (K : Int32 → Prop) : Prop := ¬ y = 0 ∧ K (x - x / y * y)
def oV (h : Hp) (v : Option Nat) (c : Nat) (P : Prop) : Prop := (∃ b, v = some b ∧ kd h b = c) ∧ P
def oN (v : Option Nat) (P : Prop) : Prop := (∃ b : Nat, v = some b) ∧ P
def lt {α : Type} (x : α) (K : α → Prop) : Prop := ∃ z, z = x ∧ K z
theorem lt_iff {α : Type} {x : α} {K : α → Prop} : lt x K ↔ K x := ⟨fun ⟨_, e, k⟩ => e ▸ k, fun k => ⟨x, rfl, k⟩⟩
def rZ (x : Int32) (h : Hp) (Q : Int32 → Hp → Prop) : Prop := (x = 0 ∨ x = 1) ∧ Q x h
def Lon {σ : Type} (F : (σ → Hp → Prop) → σ → Hp → Prop) : Nat → σ → Hp → Prop
  | 0 => fun _ _ => False
  | n + 1 => fun s h => F (Lon F n) s h
/-- a loop: some number of turns brings it to its end -/
def Lo {σ : Type} (F : (σ → Hp → Prop) → σ → Hp → Prop) (s : σ) (h : Hp) : Prop := ∃ n, Lon F n s h
theorem Lo.ind {σ : Type} {F : (σ → Hp → Prop) → σ → Hp → Prop} {P : σ → Hp → Prop} (hs : ∀ K : σ → Hp → Prop, (∀ s h, K s h → P s h) → ∀ s h, F K s h → P s h) {s : σ} {h : Hp} (hw : Lo F s h) : P s h := by
  obtain ⟨n, hn⟩ := hw
  have key : ∀ n s h, Lon F n s h → P s h := by
    intro n
    induction n with
    | zero => intro s h q; exact q.elim
    | succ n ih => intro s h q; exact hs (Lon F n) ih s h q
  exact key n s h hn
/-- to show that a loop ends well: what holds at n turns to go at most -/
theorem Lo.intro {σ : Type} {F : (σ → Hp → Prop) → σ → Hp → Prop} (I : Nat → σ → Hp → Prop) (hs : ∀ n s h, I n s h → ∀ K : σ → Hp → Prop, (∀ m s2 h2, n = m + 1 → I m s2 h2 → K s2 h2) → F K s h) (n : Nat) (s : σ) (h : Hp) (h0 : I n s h) : Lo F s h := by
  have key : ∀ n s h, I n s h → Lon F (n + 1) s h := by
    intro n
    induction n with
    | zero => intro s h q; exact hs 0 s h q _ (fun m s2 h2 e => by omega)
    | succ n ih => intro s h q; exact hs (n + 1) s h q _ (fun m s2 h2 e q2 => by
      have e2 : m = n := (by omega)
      subst e2
      exact ih s2 h2 q2)
  exact ⟨n + 1, key n s h h0⟩
/-- a loop that counts from k to N -/
theorem Lo.count {σ : Type} {F : (σ → Hp → Prop) → σ → Hp → Prop} (N : Nat) (I : Nat → σ → Hp → Prop) (hs : ∀ k s h, k ≤ N → I k s h → ∀ K : σ → Hp → Prop, (∀ s2 h2, k < N → I (k + 1) s2 h2 → K s2 h2) → F K s h) (k : Nat) (hk : k ≤ N) (s : σ) (h : Hp) (h0 : I k s h) : Lo F s h := by
  refine Lo.intro (fun n s h => ∃ k, k ≤ N ∧ n = N - k ∧ I k s h) ?_ (N - k) s h ⟨k, hk, rfl, h0⟩
  rintro n s h ⟨k, hk, rfl, hI⟩ K hK
  exact hs k s h hk hI K (fun s2 h2 hlt h2I => hK (N - (k + 1)) s2 h2 (by omega) ⟨k + 1, by omega, rfl, h2I⟩)
section VX
variable {l : Launch} {G : Gh} {d : Nat} {y : MethodName} {cc : ByteArray} {mL : Nat} {rt : Option FieldType} {pc : Nat} {lv : List (Nat × Value)} {st : List Value} {h : Hp} {Q : Option Value → Hp → Prop}
theorem V_ltI {x : Int32} {K : Int32 → Prop} (hw : lt x K) (k : ∀ z, K z → V l G d y cc mL rt pc lv (.int z :: st) h Q) : V l G d y cc mL rt pc lv (.int x :: st) h Q := k _ (lt_iff.mp hw)
theorem V_ltL {x : Int64} {K : Int64 → Prop} (hw : lt x K) (k : ∀ z, K z → V l G d y cc mL rt pc lv (.long z :: st) h Q) : V l G d y cc mL rt pc lv (.long x :: st) h Q := k _ (lt_iff.mp hw)
theorem X_getI {v : Option Nat} {idx c k : Nat} {K : Int32 → Prop} (hf : FA y.cls idx c k) (hr : isRf c k = false) (hd : decode cc pc = .ok (.getfield idx, 3)) (hw : gI h v (c + 1) (128 * c + k) K) (k0 : ∀ x, K x → V l G d y cc mL rt (pc + 3) lv (.int x :: st) h Q) : V l G d y cc mL rt pc lv (va_rf v :: st) h Q := by
  obtain ⟨a, rfl, ha, hk⟩ := hw
  exact V_getI hf hr ha hd (k0 _ hk)
theorem X_getR {v : Option Nat} {idx c k : Nat} {K : Option Nat → Prop} (hf : FA y.cls idx c k) (hr : isRf c k = true) (hd : decode cc pc = .ok (.getfield idx, 3)) (hw : gR h v (c + 1) (128 * c + k) K) (k0 : ∀ x, K x → V l G d y cc mL rt (pc + 3) lv (va_rf x :: st) h Q) : V l G d y cc mL rt pc lv (va_rf v :: st) h Q := by
  obtain ⟨a, rfl, ha, hk⟩ := hw
  exact V_getR hf hr ha hd (k0 _ hk)
theorem X_putI {v : Option Nat} {idx c k : Nat} {x : Int32} {K : Hp → Prop} (hf : FA y.cls idx c k) (hfin : PutOK y idx c k) (ht : tyT c k = .int) (hd : decode cc pc = .ok (.putfield idx, 3)) (hw : pI h v (c + 1) (128 * c + k) x K) (k0 : ∀ h1, K h1 → V l G d y cc mL rt (pc + 3) lv st h1 Q) : V l G d y cc mL rt pc lv (.int x :: va_rf v :: st) h Q := by
  obtain ⟨a, rfl, ha, hk⟩ := hw
  exact V_putI hf hfin (Or.inl ht) ha hd (k0 _ hk)
theorem X_putZ {v : Option Nat} {idx c k : Nat} {x : Int32} {K : Hp → Prop} (hf : FA y.cls idx c k) (hfin : PutOK y idx c k) (ht : tyT c k = .boolean) (hd : decode cc pc = .ok (.putfield idx, 3)) (hw : pZ h v (c + 1) (128 * c + k) x K) (k0 : ∀ h1, K h1 → V l G d y cc mL rt (pc + 3) lv st h1 Q) : V l G d y cc mL rt pc lv (.int x :: va_rf v :: st) h Q := by
  obtain ⟨hx, a, rfl, ha, hk⟩ := hw
  exact V_putI hf hfin (Or.inr ⟨ht, hx⟩) ha hd (k0 _ hk)
theorem X_putR {v : Option Nat} {idx c k : Nat} {x : Option Nat} {K : Hp → Prop} (hf : FA y.cls idx c k) (hfin : PutOK y idx c k) (ht : fitR c k) (hd : decode cc pc = .ok (.putfield idx, 3)) (hw : pR h v (c + 1) (128 * c + k) x K) (k0 : ∀ h1, K h1 → V l G d y cc mL rt (pc + 3) lv st h1 Q) : V l G d y cc mL rt pc lv (va_rf x :: va_rf v :: st) h Q := by
  obtain ⟨a, rfl, ha, hk⟩ := hw
  exact V_putR hf hfin ht ha hd (k0 _ hk)
theorem X_ldI {v : Option Nat} {i : Int32} {K : Int32 → Prop} (hd : decode cc pc = .ok (.iaload, 1)) (hw : ldI h v i K) (k0 : ∀ x, K x → V l G d y cc mL rt (pc + 1) lv (.int x :: st) h Q) : V l G d y cc mL rt pc lv (.int i :: va_rf v :: st) h Q := by
  obtain ⟨a, rfl, ha, hi, hk⟩ := hw
  exact V_iaload ha hi hd (k0 _ hk)
theorem X_ldZ {v : Option Nat} {i : Int32} {K : Int32 → Prop} (hd : decode cc pc = .ok (.baload, 1)) (hw : ldZ h v i K) (k0 : ∀ x, K x → V l G d y cc mL rt (pc + 1) lv (.int x :: st) h Q) : V l G d y cc mL rt pc lv (.int i :: va_rf v :: st) h Q := by
  obtain ⟨a, rfl, ha, hi, hk⟩ := hw
  exact V_baload ha hi hd (k0 _ hk)
theorem X_ldL {v : Option Nat} {i : Int32} {K : Int64 → Prop} (hd : decode cc pc = .ok (.laload, 1)) (hw : ldL h v i K) (k0 : ∀ x, K x → V l G d y cc mL rt (pc + 1) lv (.long x :: st) h Q) : V l G d y cc mL rt pc lv (.int i :: va_rf v :: st) h Q := by
  obtain ⟨a, rfl, ha, hi, hk⟩ := hw
  exact V_laload ha hi hd (k0 _ hk)
theorem X_ldR {v : Option Nat} {i : Int32} {K : Option Nat → Prop} (hd : decode cc pc = .ok (.aaload, 1)) (hw : ldR h v i K) (k0 : ∀ x, K x → V l G d y cc mL rt (pc + 1) lv (va_rf x :: st) h Q) : V l G d y cc mL rt pc lv (.int i :: va_rf v :: st) h Q := by
  obtain ⟨a, rfl, ha, hi, hk⟩ := hw
  exact V_aaload ha hi hd (k0 _ hk)
theorem X_stI {v : Option Nat} {i x : Int32} {K : Hp → Prop} (hd : decode cc pc = .ok (.iastore, 1)) (hw : stI h v i x K) (k0 : ∀ h1, K h1 → V l G d y cc mL rt (pc + 1) lv st h1 Q) : V l G d y cc mL rt pc lv (.int x :: .int i :: va_rf v :: st) h Q := by
  obtain ⟨a, rfl, ha, hi, hk⟩ := hw
  exact V_iastore ha hi hd (k0 _ hk)
theorem X_stZ {v : Option Nat} {i x : Int32} {K : Hp → Prop} (hd : decode cc pc = .ok (.bastore, 1)) (hw : stZ h v i x K) (k0 : ∀ h1, K h1 → V l G d y cc mL rt (pc + 1) lv st h1 Q) : V l G d y cc mL rt pc lv (.int x :: .int i :: va_rf v :: st) h Q := by
  obtain ⟨hx, a, rfl, ha, hi, hk⟩ := hw
  exact V_bastore ha hx hi hd (k0 _ hk)
theorem X_stL {v : Option Nat} {i : Int32} {x : Int64} {K : Hp → Prop} (hd : decode cc pc = .ok (.lastore, 1)) (hw : stL h v i x K) (k0 : ∀ h1, K h1 → V l G d y cc mL rt (pc + 1) lv st h1 Q) : V l G d y cc mL rt pc lv (.long x :: .int i :: va_rf v :: st) h Q := by
  obtain ⟨a, rfl, ha, hi, hk⟩ := hw
  exact V_lastore ha hi hd (k0 _ hk)
theorem X_stR {v : Option Nat} {i : Int32} {x : Option Nat} {K : Hp → Prop} (hd : decode cc pc = .ok (.aastore, 1)) (hw : stR h v i x K) (k0 : ∀ h1, K h1 → V l G d y cc mL rt (pc + 1) lv st h1 Q) : V l G d y cc mL rt pc lv (va_rf x :: .int i :: va_rf v :: st) h Q := by
  obtain ⟨a, rfl, ha, hx, hi, hk⟩ := hw
  exact V_aastore ha hx hi hd (k0 _ hk)
theorem X_alen {v : Option Nat} {K : Int32 → Prop} (hd : decode cc pc = .ok (.arraylength, 1)) (hw : alN h v K) (k0 : ∀ x, K x → V l G d y cc mL rt (pc + 1) lv (.int x :: st) h Q) : V l G d y cc mL rt pc lv (va_rf v :: st) h Q := by
  obtain ⟨a, rfl, ha, hk⟩ := hw
  exact V_alen ha.1 ha.2 hd (k0 _ hk)
theorem X_newO {idx c : Nat} {K : Option Nat → Hp → Prop} (hN : NC y.cls idx c) (hd : decode cc pc = .ok (.new idx, 3)) (hw : nwO h (c + 1) (NN c) K) (k0 : ∀ v h1, K v h1 → V l G d y cc mL rt (pc + 3) lv (va_rf v :: st) h1 Q) : V l G d y cc mL rt pc lv st h Q := V_new hN hd (k0 _ _ (nwO_iff.mp hw))
theorem X_newI {n : Int32} {k : Nat} {K : Option Nat → Hp → Prop} (hk : 100 ≤ k ∧ k < 200) (hd : decode cc pc = .ok (.newarray .int, 2)) (hw : nwA h n k K) (k0 : ∀ v h1, K v h1 → V l G d y cc mL rt (pc + 2) lv (va_rf v :: st) h1 Q) : V l G d y cc mL rt pc lv (.int n :: st) h Q := V_newI wd_aI hk hw.1 rfl (by have := hw.2.1; omega) hd (k0 _ _ hw.2.2)
theorem X_newZ {n : Int32} {k : Nat} {K : Option Nat → Hp → Prop} (hk : 200 ≤ k ∧ k < 300) (hd : decode cc pc = .ok (.newarray .boolean, 2)) (hw : nwA h n k K) (k0 : ∀ v h1, K v h1 → V l G d y cc mL rt (pc + 2) lv (va_rf v :: st) h1 Q) : V l G d y cc mL rt pc lv (.int n :: st) h Q := V_newZ wd_aZ hk hw.1 rfl (by have := hw.2.1; omega) hd (k0 _ _ hw.2.2)
theorem X_newL {n : Int32} {k : Nat} {K : Option Nat → Hp → Prop} (hk : 300 ≤ k ∧ k < 400) (hd : decode cc pc = .ok (.newarray .long, 2)) (hw : nwA h n k K) (k0 : ∀ v h1, K v h1 → V l G d y cc mL rt (pc + 2) lv (va_rf v :: st) h1 Q) : V l G d y cc mL rt pc lv (.int n :: st) h Q := V_newL wd_aL hk hw.1 rfl (by have := hw.2.1; omega) hd (k0 _ _ hw.2.2)
theorem X_newR {n : Int32} {idx c k : Nat} {K : Option Nat → Hp → Prop} (hcl : Cond.classLink y.cls idx (RR c) ∈ lw_T) (hk : 400 ≤ k ∧ rcK k = c) (hrc : rcOK c) (hd : decode cc pc = .ok (.anewarray idx, 3)) (hw : nwA h n k K) (k0 : ∀ v h1, K v h1 → V l G d y cc mL rt (pc + 3) lv (va_rf v :: st) h1 Q) : V l G d y cc mL rt pc lv (.int n :: st) h Q := V_newR hcl hk hrc hw.1 rfl (by have := hw.2.1; omega) hd (k0 _ _ hw.2.2)
theorem X_idiv {x y0 : Int32} {K : Int32 → Prop} (hd : decode cc pc = .ok (.idiv, 1)) (hw : dvI x y0 K) (k0 : ∀ z, K z → V l G d y cc mL rt (pc + 1) lv (.int z :: st) h Q) : V l G d y cc mL rt pc lv (.int y0 :: .int x :: st) h Q := V_idiv hw.1 hd (k0 _ hw.2)
theorem X_irem {x y0 : Int32} {K : Int32 → Prop} (hd : decode cc pc = .ok (.irem, 1)) (hw : rmI x y0 K) (k0 : ∀ z, K z → V l G d y cc mL rt (pc + 1) lv (.int z :: st) h Q) : V l G d y cc mL rt pc lv (.int y0 :: .int x :: st) h Q := V_irem hw.1 hd (k0 _ hw.2)
-- calls, by what they answer
theorem X_cS {idx m2 n d2 : Nat} {y2 : MethodName} {c2 : ByteArray} {r2 : Option FieldType} (As rest : List Value) {Qc : Option Value → Hp → Prop} (hm : MS y.cls idx y2 c2 m2 r2 n) (hd2 : d2 + 1 ≤ d) (hm2 : m2 ≤ 45) (hn2 : As.length = n) (hw : (rest.map fun v => v.category).sum ≤ 8) (hst : st = As.reverse ++ rest) (hd : decode cc pc = .ok (.invokestatic idx, 3))
    (hr : RunQ l G d2 y2 c2 m2 r2 As h Qc) (k0 : ∀ r h1, Qc r h1 → V l G d y cc mL rt (pc + 3) lv (r.toList ++ rest) h1 Q) : V l G d y cc mL rt pc lv st h Q := V_callS hm hd2 hm2 hn2 hw hst hd hr k0
theorem X_cV {idx m2 n d2 : Nat} (c : Nat) {v : Option Nat} {P : Prop} {y2 : MethodName} {c2 : ByteArray} {r2 : Option FieldType} (As rest : List Value) {Qc : Option Value → Hp → Prop} (hm : MV y.cls idx y2 c2 m2 r2 n) (hc : c < 12) (hcls : RR c = y2.cls) (hd2 : d2 + 1 ≤ d) (hm2 : m2 ≤ 45) (hn2 : As.length = n) (hw : (rest.map fun v => v.category).sum ≤ 8) (hst : st = As.reverse ++ va_rf v :: rest) (hd : decode cc pc = .ok (.invokevirtual idx, 3))
    (hP : oV h v (c + 1) P) (hr : P → RunQ l G d2 y2 c2 m2 r2 (va_rf v :: As) h Qc) (k0 : ∀ r h1, Qc r h1 → V l G d y cc mL rt (pc + 3) lv (r.toList ++ rest) h1 Q) : V l G d y cc mL rt pc lv st h Q := by
  obtain ⟨⟨b, rfl, hb⟩, hP⟩ := hP
  exact V_callV hm hc hcls hb hd2 hm2 hn2 hw hst hd (hr hP) k0
theorem X_cI {idx m2 n d2 : Nat} {v : Option Nat} {P : Prop} {y2 : MethodName} {c2 : ByteArray} (As rest : List Value) {Qc : Option Value → Hp → Prop} (hm : MI y.cls idx y2 c2 m2 n) (hd2 : d2 + 1 ≤ d) (hm2 : m2 ≤ 45) (hn2 : As.length = n) (hw : (rest.map fun v => v.category).sum ≤ 8) (hst : st = As.reverse ++ va_rf v :: rest) (hd : decode cc pc = .ok (.invokespecial idx, 3))
    (hP : oN v P) (hr : P → RunQ l G d2 y2 c2 m2 none (va_rf v :: As) h Qc) (k0 : ∀ r h1, Qc r h1 → V l G d y cc mL rt (pc + 3) lv (r.toList ++ rest) h1 Q) : V l G d y cc mL rt pc lv st h Q := by
  obtain ⟨⟨b, rfl⟩, hP⟩ := hP
  exact V_callI hm hd2 hm2 hn2 hw hst hd (hr hP) k0
theorem k_I {K : Int32 → Hp → Prop} {rest : List Value} (k : ∀ x h1, K x h1 → V l G d y cc mL rt pc lv (.int x :: rest) h1 Q) : ∀ r h1, qI K r h1 → V l G d y cc mL rt pc lv (r.toList ++ rest) h1 Q := by
  rintro r h1 ⟨x, rfl, hx⟩
  exact k x h1 hx
theorem k_L {K : Int64 → Hp → Prop} {rest : List Value} (k : ∀ x h1, K x h1 → V l G d y cc mL rt pc lv (.long x :: rest) h1 Q) : ∀ r h1, qL K r h1 → V l G d y cc mL rt pc lv (r.toList ++ rest) h1 Q := by
  rintro r h1 ⟨x, rfl, hx⟩
  exact k x h1 hx
theorem k_R {K : Option Nat → Hp → Prop} {rest : List Value} (k : ∀ x h1, K x h1 → V l G d y cc mL rt pc lv (va_rf x :: rest) h1 Q) : ∀ r h1, qR K r h1 → V l G d y cc mL rt pc lv (r.toList ++ rest) h1 Q := by
  rintro r h1 ⟨x, rfl, hx⟩
  exact k x h1 hx
theorem k_V {K : Hp → Prop} {rest : List Value} (k : ∀ h1, K h1 → V l G d y cc mL rt pc lv rest h1 Q) : ∀ r h1, qV K r h1 → V l G d y cc mL rt pc lv (r.toList ++ rest) h1 Q := by
  rintro r h1 ⟨rfl, hx⟩
  exact k h1 hx
end VX
theorem cat_i (x : Int32) : (Value.int x).category = 1 := rfl
theorem cat_l (x : Int64) : (Value.long x).category = 2 := rfl
theorem la_n (i : Nat) : lv_args i [] = [] := rfl
theorem la_i (i : Nat) (x : Int32) (t : List Value) : lv_args i (.int x :: t) = (i, .int x) :: lv_args (i + 1) t := rfl
theorem la_l (i : Nat) (x : Int64) (t : List Value) : lv_args i (.long x :: t) = (i, .long x) :: lv_args (i + 2) t := rfl
theorem la_r (i : Nat) (x : Option Nat) (t : List Value) : lv_args i (va_rf x :: t) = (i, va_rf x) :: lv_args (i + 1) t := by cases x <;> rfl
section VY
variable {l : Launch} {G : Gh} {d : Nat} {y : MethodName} {cc : ByteArray} {mL : Nat} {rt : Option FieldType} {pc : Nat} {lv : List (Nat × Value)} {st : List Value} {h : Hp} {Q : Option Value → Hp → Prop}
theorem V_iincL {i : Nat} {n : Int32} {n0 : Int} {x : Int32} {K : Int32 → Prop} (j : Nat) (lv2 : Int32 → List (Nat × Value)) (hj : lv[j]? = some (i, .int x)) (hn : Int32.ofInt n0 = n) (hb : i < mL) (hf : ∀ z, (i, Value.int z) :: lv.filter (fun q => !(q.1 == i) && !(q.1 + 1 == i && q.2.category == 2)) = lv2 z) (hd : decode cc pc = .ok (.iinc i n0, 3)) (hw : lt (x + n) K) (k : ∀ z, K z → V l G d y cc mL rt (pc + 3) (lv2 z) st h Q) : V l G d y cc mL rt pc lv st h Q :=
  V_iinc j (lv2 (x + n)) hj (by rw [hn]) hb (hf _) hd (k _ (lt_iff.mp hw))
theorem X_obj {idx : Nat} {v : Option Nat} {P : Prop} (ho : OI y.cls idx) (hd1 : 1 ≤ d) (hw0 : (st.map fun v => v.category).sum ≤ 8) (hd : decode cc pc = .ok (.invokespecial idx, 3)) (hw : oN v P) (k0 : P → V l G d y cc mL rt (pc + 3) lv st h Q) : V l G d y cc mL rt pc lv (va_rf v :: st) h Q := by
  obtain ⟨⟨b, rfl⟩, hP⟩ := hw
  exact V_objInit ho hd1 hw0 hd (k0 hP)
theorem V_tswD {dflt lo hi : Int} {offs : Array Int} {len : Nat} {x : Int32} (tgt : Nat) (hd : decode cc pc = .ok (.tableswitch dflt lo hi offs, len)) (ht : (pc : Int) + dflt = (tgt : Int)) (ho : ∀ v : Int, lo ≤ v → v ≤ hi → ¬ x = Int32.ofInt v ∨ ∃ off, offs[(v - lo).toNat]? = some off ∧ (pc : Int) + off = (tgt : Int))
    (k0 : V l G d y cc mL rt tgt lv st h Q) : V l G d y cc mL rt pc lv (.int x :: st) h Q := by
  by_cases h1 : x.toInt < lo
  · exact V_tsw tgt hd (Or.inl ⟨Or.inl h1, ht⟩) k0
  · by_cases h2 : hi < x.toInt
    · exact V_tsw tgt hd (Or.inl ⟨Or.inr h2, ht⟩) k0
    · rcases ho x.toInt (by omega) (by omega) with q | ⟨off, q1, q2⟩
      · exact absurd (Int32.ofInt_toInt x).symm q
      · exact V_tsw tgt hd (Or.inr ⟨h1, h2, off, q1, q2⟩) k0
theorem sl_len (av : List Value) (n : Nat) (h : (av.map fun v => v.category).sum ≤ n) : (lg_sl av).length ≤ n := by
  refine Nat.le_trans ?_ h
  clear h
  induction av with
  | nil => exact Nat.le_refl _
  | cons v t ih =>
    have e : lg_sl (v :: t) = (lg_sl [v]) ++ lg_sl t := by simp [lg_sl]
    rw [e, List.length_append, List.map_cons, List.sum_cons]
    have : (lg_sl [v]).length ≤ v.category := by cases v <;> simp [lg_sl, Value.category]
    omega
def jnLd (i : Int32) (K : Int32 → Prop) : Prop := vp_in i 3 ∧ K (jnV i.toNatClampNeg)
theorem X_jnLen {K : Int32 → Prop} (hd : decode cc pc = .ok (.arraylength, 1)) (hw : lt 3 K) (k0 : ∀ x, K x → V l G d y cc mL rt (pc + 1) lv (.int x :: st) h Q) : V l G d y cc mL rt pc lv (va_rf (some (gJ G)) :: st) h Q := V_jnLen hd (k0 _ (lt_iff.mp hw))
theorem X_jnLd {i : Int32} {K : Int32 → Prop} (hd : decode cc pc = .ok (.iaload, 1)) (hw : jnLd i K) (k0 : ∀ x, K x → V l G d y cc mL rt (pc + 1) lv (.int x :: st) h Q) : V l G d y cc mL rt pc lv (.int i :: va_rf (some (gJ G)) :: st) h Q := V_jnLd hw.1 hd (k0 _ hw.2)
end VY
-- ===== what the library does for us =====
def cpH (h : Hp) (a i b j n : Nat) : Hp := (h.1, h.2.1, h.2.2.1, fun c q x => if c = kd h b ∧ q = b ∧ j ≤ x ∧ x < j + n then aL h (kd h a) a (i + (x - j)) else h.2.2.2.1 c q x, h.2.2.2.2)
/-- System.arraycopy of longs -/
def cpL (h : Hp) (v : Option Nat) (i : Int32) (w : Option Nat) (j n : Int32) (K : Hp → Prop) : Prop := ∃ a b, v = some a ∧ w = some b ∧ (300 ≤ kd h a ∧ kd h a < 400) ∧ (300 ≤ kd h b ∧ kd h b < 400) ∧ ¬ i < 0 ∧ ¬ j < 0 ∧ ¬ n < 0 ∧ i.toNatClampNeg + n.toNatClampNeg ≤ ln h a ∧ j.toNatClampNeg + n.toNatClampNeg ≤ ln h b ∧ K (cpH h a i.toNatClampNeg b j.toNatClampNeg n.toNatClampNeg)
/-- the letters of FIELDS: n b h t m w d y -/
def fldC (i : Nat) : Int32 := ([110, 98, 104, 116, 109, 119, 100, 121] : List Int32).getD i 0
def strChar (i : Int32) (K : Int32 → Prop) : Prop := vp_in i 8 ∧ K (fldC i.toNatClampNeg)
/-- the heap with a new row of n longs, those of a -/
def cpN (h : Hp) (a n : Nat) : Hp := let g := nw h 399 n; (g.1, g.2.1, g.2.2.1, fun c q x => if c = 399 ∧ q = hn h ∧ x < n then aL h (kd h a) a x else g.2.2.2.1 c q x, g.2.2.2.2)
def w_J7_copyOf_c38d5 (v : Option Nat) (n : Int32) (h : Hp) (Q : Option Nat → Hp → Prop) : Prop := ∃ a, v = some a ∧ (300 ≤ kd h a ∧ kd h a < 400) ∧ ¬ n < 0 ∧ n.toNatClampNeg ≤ ln h a ∧ ln h a ≤ 1000000 ∧ Q (some (hn h)) (cpN h a n.toNatClampNeg)
section VM
variable {l : Launch} {G : Gh} {d : Nat} {y : MethodName} {cc : ByteArray} {mL : Nat} {rt : Option FieldType} {pc : Nat} {lv : List (Nat × Value)} {st : List Value} {h : Hp} {Q : Option Value → Hp → Prop}
/-- a step that wants the room as it stands -/
theorem V.pureR {pc2 : Nat} {st2 : List Value}
    (f : ∀ (p : Program) (e : Env) (R : Room) (s : State) (m : MethodId) (args : Array Value) (below : List Frame) (meth : Method) (c : Code) (H : Heap) (locs : List Loc) (ls : Array Slot) (cells slots : Nat) (Qw : State → Prop), Ctx G d y cc mL rt p R s m args meth c → Rel G h H → va_S (gFree G) s.heap H locs → lv_has ls mL lv → cells ≤ R.cells → slots ≤ R.slots →
      W p l e R s m args below meth c H locs cells slots Qw (F0 m pc2 ls st2) → W p l e R s m args below meth c H locs cells slots Qw (F0 m pc ls st))
    (k : V l G d y cc mL rt pc2 lv st2 h Q) : V l G d y cc mL rt pc lv st h Q := by
  obtain ⟨r, h1, a, b1, b2, b⟩ := k
  exact ⟨r, h1, a, b1, b2, fun p e R s m args below meth c H locs ls cells slots mc ms C hR hS hl e1 e2 e3 e4 => f _ _ _ _ _ _ _ _ _ _ _ _ _ _ _ C hR hS hl (by omega) (by omega) (b p e R s m args below meth c H locs ls cells slots mc ms C hR hS hl e1 e2 e3 e4)⟩
theorem X_mmin {idx : Nat} {x y0 : Int32} {K : Int32 → Prop} (hm : Cond.methodLink y.cls idx Lib.Math.min.name ∈ lw_T) (hd1 : 1 + 1 ≤ d) (hw0 : (st.map fun v => v.category).sum ≤ 8) (hd : decode cc pc = .ok (.invokestatic idx, 3)) (hw : lt (if y0 < x then y0 else x) K) (k0 : ∀ z, K z → V l G d y cc mL rt (pc + 3) lv (.int z :: st) h Q) : V l G d y cc mL rt pc lv (.int y0 :: .int x :: st) h Q :=
  V.pureR (fun p e R s m args below meth co H locs ls cells slots Qw C hR hS hl g1 g2 kk => va_mmin C.1 C.2.1 (C.2.2.1.trans hl.1.symm) C.2.2.2.2.2.1 (C.2.2.2.2.2.2.1 _ hm) (C.2.2.2.2.2.2.1 _ wm_mins) (C.2.2.2.2.2.2.1 _ wm_i) (C.2.2.2.2.2.2.1 _ wm_minc) (by have := C.2.2.2.2.2.2.2.2.2.1; omega) (by have := C.2.2.2.2.2.2.2.2.2.2; omega) g1 g2 hd kk) (k0 _ (lt_iff.mp hw))
theorem X_mmax {idx : Nat} {x y0 : Int32} {K : Int32 → Prop} (hm : Cond.methodLink y.cls idx Lib.Math.max.name ∈ lw_T) (hd1 : 1 + 1 ≤ d) (hw0 : (st.map fun v => v.category).sum ≤ 8) (hd : decode cc pc = .ok (.invokestatic idx, 3)) (hw : lt (if x < y0 then y0 else x) K) (k0 : ∀ z, K z → V l G d y cc mL rt (pc + 3) lv (.int z :: st) h Q) : V l G d y cc mL rt pc lv (.int y0 :: .int x :: st) h Q :=
  V.pureR (fun p e R s m args below meth co H locs ls cells slots Qw C hR hS hl g1 g2 kk => va_mmax C.1 C.2.1 (C.2.2.1.trans hl.1.symm) C.2.2.2.2.2.1 (C.2.2.2.2.2.2.1 _ hm) (C.2.2.2.2.2.2.1 _ wm_maxs) (C.2.2.2.2.2.2.1 _ wm_i) (C.2.2.2.2.2.2.1 _ wm_maxc) (by have := C.2.2.2.2.2.2.2.2.2.1; omega) (by have := C.2.2.2.2.2.2.2.2.2.2; omega) g1 g2 hd kk) (k0 _ (lt_iff.mp hw))
theorem X_mabs {idx : Nat} {x : Int32} {K : Int32 → Prop} (hm : Cond.methodLink y.cls idx Lib.Math.abs.name ∈ lw_T) (hd1 : 1 + 1 ≤ d) (hw0 : (st.map fun v => v.category).sum ≤ 8) (hd : decode cc pc = .ok (.invokestatic idx, 3)) (hw : lt (if 0 ≤ x then x else 0 - x) K) (k0 : ∀ z, K z → V l G d y cc mL rt (pc + 3) lv (.int z :: st) h Q) : V l G d y cc mL rt pc lv (.int x :: st) h Q :=
  V.pureR (fun p e R s m args below meth co H locs ls cells slots Qw C hR hS hl g1 g2 kk => va_mabs C.1 C.2.1 (C.2.2.1.trans hl.1.symm) C.2.2.2.2.2.1 (C.2.2.2.2.2.2.1 _ hm) (C.2.2.2.2.2.2.1 _ wm_abss) (C.2.2.2.2.2.2.1 _ wm_i) (C.2.2.2.2.2.2.1 _ wm_absc) (by have := C.2.2.2.2.2.2.2.2.2.1; omega) (by have := C.2.2.2.2.2.2.2.2.2.2; omega) g1 g2 hd kk) (k0 _ (lt_iff.mp hw))
end VM
-- ===== words of the library's own methods =====
theorem wd_acs : Cond.static arraycopyName ∈ lw_T := lw_in (lw_at 469 (by decide +kernel)) (by decide +kernel)
theorem wd_aci : Cond.initialized "java/lang/System" ∈ lw_T := lw_in (lw_at 123 (by decide +kernel)) (by decide +kernel)
theorem wd_CS : Cond.fieldLink RJ0 38 "java/lang/String" "COMPACT_STRINGS" "Z" ∈ lw_T := lw_in (lw_at 168 (by decide +kernel)) (by decide +kernel)
theorem wd_SF : Cond.fieldLink RJ0 1053 "jdk/internal/util/Preconditions" "SIOOBE_FORMATTER" "Ljava/util/function/BiFunction;" ∈ lw_T := lw_in (lw_at 794 (by decide +kernel)) (by decide +kernel)
theorem wd_SV : Cond.fieldLink RJ0 9 "java/lang/String" "value" "[B" ∈ lw_T := lw_in (lw_at 1746 (by decide +kernel)) (by decide +kernel)
theorem wd_SC : Cond.fieldLink RJ0 15 "java/lang/String" "coder" "B" ∈ lw_T := lw_in (lw_at 1747 (by decide +kernel)) (by decide +kernel)
theorem wd_cll : Cond.methodLink RJ7 319 ⟨"[J", "clone", "()Ljava/lang/Object;"⟩ ∈ lw_T := lw_in (lw_at 516 (by decide +kernel)) (by decide +kernel)
theorem wd_cls : Cond.sameMethod "[J" "java/lang/Object" "clone" "()Ljava/lang/Object;" ∈ lw_T := lw_in (lw_at 517 (by decide +kernel)) (by decide +kernel)
theorem wd_cln : Cond.native ⟨"java/lang/Object", "clone", "()Ljava/lang/Object;"⟩ ∈ lw_T := lw_in (lw_at 518 (by decide +kernel)) (by decide +kernel)
theorem wd_cli : Cond.instanceMethod ⟨"java/lang/Object", "clone", "()Ljava/lang/Object;"⟩ ∈ lw_T := lw_in (lw_at 519 (by decide +kernel)) (by decide +kernel)
theorem wd_clx : Cond.selects "[J" ⟨"[J", "clone", "()Ljava/lang/Object;"⟩ ⟨"java/lang/Object", "clone", "()Ljava/lang/Object;"⟩ ∈ lw_T := lw_in (lw_at 520 (by decide +kernel)) (by decide +kernel)
theorem wd_clc : Cond.classLink RJ7 320 "[J" ∈ lw_T := lw_in (lw_at 522 (by decide +kernel)) (by decide +kernel)
theorem nn_i {z : Int32} (hz : ¬ z < 0) : z.toInt = (z.toNatClampNeg : Int) := by
  have hz0 : (0 : Int) ≤ z.toInt := by
    have := Int32.not_lt.mp hz
    simpa using Int32.le_iff_toInt_le.mp this
  show z.toInt = ((z.toInt.toNat : Nat) : Int)
  omega
theorem nn_u {z : Int32} (hz : ¬ z < 0) (hb : z.toNatClampNeg < 2 ^ 31) : nI z.toNatClampNeg = z := by
  apply Int32.toInt_inj.mp
  rw [nI_toInt hb, nn_i hz]
theorem nfw : nativeFrameWords "java/lang/System" "arraycopy" 5 ≤ 40 := by decide +kernel
theorem arrV_ext {c : ClassId} {N : Nat} {f g : Nat → Value} (h : ∀ j, j < N → f j = g j) : arrV c N f = arrV c N g := by
  have e : (fun (j : Fin N) => f j.val) = fun (j : Fin N) => g j.val := funext fun j => h j.1 j.2
  unfold arrV
  rw [e]
theorem nmJ {G : Gh} {U : State} {H : Heap} (hX : StX G U H) : U.vm.findClass "[J" = some (gA G 2) := by
  have h : U.vm.findClass ("[" ++ FieldType.long.toString) = some (gA G 2) := hX.1.2.2.2.1.2
  have e : "[" ++ FieldType.long.toString = "[J" := by decide +kernel
  rw [← e]; exact h
theorem br_no {c : Prop} (hc : ¬ c) : br c False True := ⟨fun h => hc h, fun _ => trivial⟩
theorem br_yes {c : Prop} (hc : c) : br c True False := ⟨fun _ => trivial, fun h => h hc⟩
section VZ
variable {l : Launch} {G : Gh} {d : Nat} {y : MethodName} {cc : ByteArray} {mL : Nat} {rt : Option FieldType} {pc : Nat} {lv : List (Nat × Value)} {st : List Value} {h : Hp} {Q : Option Value → Hp → Prop}
theorem cpH_o4 {a i b j n k q x : Nat} (hq : q ≠ b) : aL (cpH h a i b j n) k q x = aL h k q x := if_neg (fun z => hq z.2.1)
theorem X_cpL {idx : Nat} {v w : Option Nat} {i j n : Int32} {K : Hp → Prop} (hm : Cond.methodLink y.cls idx arraycopyName ∈ lw_T) (hn0 : Cond.native arraycopyName ∈ lw_T) (hd1 : 1 ≤ d) (hw0 : (st.map fun v => v.category).sum ≤ 8) (hd : decode cc pc = .ok (.invokestatic idx, 3)) (hw : cpL h v i w j n K) (k0 : ∀ h1, K h1 → V l G d y cc mL rt (pc + 3) lv st h1 Q) : V l G d y cc mL rt pc lv (.int n :: .int j :: va_rf w :: .int i :: va_rf v :: st) h Q := by
  obtain ⟨a, b, rfl, rfl, ka, kb, i0, j0, n0, hla, hlb, hk⟩ := hw
  refine V.wr (h2 := cpH h a i.toNatClampNeg b j.toNatClampNeg n.toNatClampNeg) rfl rfl (fun p e R s m args below meth co H locs ls cells slots Qw C hR hS hl kk => ?_) (k0 _ hk)
  obtain ⟨hx, hb, hml, -, -, hown, hts, hX, hnm, hdR, hlR⟩ := C
  obtain ⟨hltb, hbase, hcellb⟩ := hR.2.2 b (by omega)
  have hcb := hcellb.long kb.1 kb.2
  have hca := (hR.2.2 a (by omega)).2.2.long ka.1 ka.2
  have hnf := nfw
  intro T hT X
  obtain ⟨-, kA0, hk0, cm0, hkk0⟩ := hX.1.2.2.2.1.1 (ln h a) (fun x => .long (aL h (kd h a) a x))
  obtain ⟨-, kA1, hk1, cm1, hkk1⟩ := hX.1.2.2.2.1.1 (ln h b) (fun x => .long (aL h (kd h b) b x))
  obtain ⟨vm', X', step⟩ := X.arraycopy hx hown (hts _ hm) (hts _ hn0) (hts _ wd_acs) (hts _ wd_aci) (src := a) (dst := b) (cs := arrV (gA G 2) (ln h a) (fun x => .long (aL h (kd h a) a x))) (cd := arrV (gA G 2) (ln h b) (fun x => .long (aL h (kd h b) b x))) (srcPos := i) (destPos := j) (n := n) (by rw [hT]; exact hca) (by rw [hT]; exact hcb)
    (fun _ h => by cases h) (fun _ h => by cases h) (fun h => by cases h) (fun h => by cases h) hk0 hk1 hkk0 hkk1 (by simp [refKind]) i0 j0 n0
    (by rw [nn_i i0, nn_i n0, arrV_size]; omega)
    (by rw [nn_i j0, nn_i n0, arrV_size]; omega)
    (fun vm₁ _ q hq => by
      have e : (arrV (gA G 2) (ln h a) (fun x => .long (aL h (kd h a) a x))).slots.getD (i.toNatClampNeg + q) .null = .long (aL h (kd h a) a (i.toNatClampNeg + q)) := by
        rw [Array.getD_eq_getD_getElem?, arrV_read _ _ (by omega)]
        rfl
      refine ⟨?_, ?_⟩
      · rw [e]
        rfl
      · rw [e]
        exact trivial)
    (g := F0 m pc ls (.int n :: .int j :: .ref b :: .int i :: .ref a :: st)) rfl (by rw [hml.trans hl.1.symm]) (rest := st) rfl (by rw [hb]; exact hd) (by omega) (by show 2 * 0 + _ + _ ≤ _; omega)
  have e1 : copied (arrV (gA G 2) (ln h a) (fun x => .long (aL h (kd h a) a x))) (arrV (gA G 2) (ln h b) (fun x => .long (aL h (kd h b) b x))) i j n = arrV (gA G 2) (ln h b) (fun x => .long (va_cpy (aL h (kd h a) a) (aL h (kd h b) b) i.toNatClampNeg j.toNatClampNeg n.toNatClampNeg x)) := va_copied (fun z => .long z) (gA G 2) (gA G 2) (aL h (kd h a) a) (aL h (kd h b) b) hla
  rw [e1] at X' step
  have hlb' : b < H.size := (Array.getElem?_eq_some_iff.mp hcb).1
  generalize hW : arrV (gA G 2) (ln h b) (fun x => .long (va_cpy (aL h (kd h a) a) (aL h (kd h b) b) i.toNatClampNeg j.toNatClampNeg n.toNatClampNeg x)) = cW at X' step
  have hheap : ((T.setVm vm').setCell b cW).heap = H.setIfInBounds b cW := by rw [← hT]; rfl
  have oq : ∀ q : Nat, q ≠ b → (H.setIfInBounds b cW)[q]? = H[q]? := fun q hq => by simp [Array.getElem?_setIfInBounds, Ne.symm hq]
  have ob : (H.setIfInBounds b cW)[b]? = some cW := by simp [Array.getElem?_setIfInBounds, hlb']
  have hgB : gB G ≤ b := hbase (Or.inr (by omega))
  obtain ⟨t, a1, b1⟩ := kk _ _ (Rel.wr (a := b) hR rfl (fun _ => rfl) (fun _ => rfl) (fun _ _ _ => rfl) (fun _ _ _ => rfl) (fun _ _ _ _ => rfl) (fun k q x hq => cpH_o4 hq) (fun _ _ _ _ => rfl) (by simp) oq (cellAt.mkL (h := cpH h a i.toNatClampNeg b j.toNatClampNeg n.toNatClampNeg) kb.1 kb.2 (by
      rw [ob, ← hW]
      congr 2
      funext x
      show Value.long (va_cpy _ _ _ _ _ x) = Value.long (if kd h b = kd h b ∧ b = b ∧ j.toNatClampNeg ≤ x ∧ x < j.toNatClampNeg + n.toNatClampNeg then aL h (kd h a) a (i.toNatClampNeg + (x - j.toNatClampNeg)) else aL h (kd h b) b x)
      by_cases hx2 : j.toNatClampNeg ≤ x ∧ x < j.toNatClampNeg + n.toNatClampNeg
      · rw [if_pos ⟨rfl, rfl, hx2⟩]; unfold va_cpy; rw [if_pos hx2]
      · rw [if_neg (fun z => hx2 z.2.2)]; unfold va_cpy; rw [if_neg hx2]))) ⟨by simp; exact hS.1, fun q g1 g2 => by
      rw [oq q (fun e => g2 (by rw [e]; exact hgB))]
      exact hS.2.1 q g1 g2, fun q hq => by
      rcases List.mem_append.mp hq with h3 | h3
      · exact hS.2.2 q h3
      · obtain ⟨z, -, hz⟩ := List.mem_map.mp h3
        rw [← hz]
        exact hgB⟩ _ hheap X'
  exact ⟨t, step t a1, b1⟩
-- ----- the text of FIELDS -----
theorem V_gCS {idx : Nat} (hw : Cond.fieldLink y.cls idx "java/lang/String" "COMPACT_STRINGS" "Z" ∈ lw_T) (hd : decode cc pc = .ok (.getstatic idx, 3)) (k0 : V l G d y cc mL rt (pc + 3) lv (.int 1 :: st) h Q) : V l G d y cc mL rt pc lv st h Q :=
  V.pure (fun p e R s m args below meth co H locs ls cells slots Qw C hR hS hl kk => va_gets C.1 C.2.1 C.2.2.2.2.2.2.2.1.2.2.2.2.2.1 hS C.2.2.2.2.2.1 (C.2.2.2.2.2.2.1 _ hw) (fun x h => h) hd (kk _ hl)) k0
theorem V_gSF {idx : Nat} (hw : Cond.fieldLink y.cls idx "jdk/internal/util/Preconditions" "SIOOBE_FORMATTER" "Ljava/util/function/BiFunction;" ∈ lw_T) (hd : decode cc pc = .ok (.getstatic idx, 3)) (k0 : V l G d y cc mL rt (pc + 3) lv (va_rf (gP G) :: st) h Q) : V l G d y cc mL rt pc lv st h Q :=
  V.pure (fun p e R s m args below meth co H locs ls cells slots Qw C hR hS hl kk => va_gets C.1 C.2.1 C.2.2.2.2.2.2.2.1.2.2.2.2.2.2.1 hS C.2.2.2.2.2.1 (C.2.2.2.2.2.2.1 _ hw) (fun x h => h) hd (kk _ hl)) k0
theorem sS {p : Program} {R : Room} {s : State} {m : MethodId} {args : Array Value} {meth : Method} {co : Code} (C : Ctx G d y cc mL rt p R s m args meth co) : vk_S 1 [8] [fldL] (fun _ => gF G) (fun _ => gV G) (gFree G) s s.heap := C.2.2.2.2.2.2.2.1.2.2.2.2.1
theorem V_strV {idx : Nat} (hw : Cond.fieldLink y.cls idx "java/lang/String" "value" "[B" ∈ lw_T) (hd : decode cc pc = .ok (.getfield idx, 3)) (k0 : V l G d y cc mL rt (pc + 3) lv (va_rf (some (gV G)) :: st) h Q) : V l G d y cc mL rt pc lv (va_rf (some (gF G)) :: st) h Q :=
  V.pure (fun p e R s m args below meth co H locs ls cells slots Qw C hR hS hl kk => vk_getf (o := "java/lang/String") (n := "value") (d := "[B") (q := gF G) (v := .ref (gV G)) C.1 C.2.1 (((sS C).1 0 (by decide)).2.2.1) hS C.2.2.2.2.2.1 (C.2.2.2.2.2.2.1 _ hw) (fun x h => h) hd (kk _ hl)) k0
theorem V_strC {idx : Nat} (hw : Cond.fieldLink y.cls idx "java/lang/String" "coder" "B" ∈ lw_T) (hd : decode cc pc = .ok (.getfield idx, 3)) (k0 : V l G d y cc mL rt (pc + 3) lv (.int 0 :: st) h Q) : V l G d y cc mL rt pc lv (va_rf (some (gF G)) :: st) h Q :=
  V.pure (fun p e R s m args below meth co H locs ls cells slots Qw C hR hS hl kk => vk_getf (o := "java/lang/String") (n := "coder") (d := "B") (q := gF G) (v := .int 0) C.1 C.2.1 (((sS C).1 0 (by decide)).2.1) hS C.2.2.2.2.2.1 (C.2.2.2.2.2.2.1 _ hw) (fun x h => h) hd (kk _ hl)) k0
theorem strT {p : Program} {R : Room} {s : State} {m : MethodId} {args : Array Value} {meth : Method} {co : Code} (C : Ctx G d y cc mL rt p R s m args meth co) : va_T .byte (gV G) 8 (fun j => .int (fldC j)) (gFree G) s s.heap := ((sS C).1 0 (by decide)).2.2.2
theorem V_strL (hd : decode cc pc = .ok (.arraylength, 1)) (k0 : V l G d y cc mL rt (pc + 1) lv (.int 8 :: st) h Q) : V l G d y cc mL rt pc lv (va_rf (some (gV G)) :: st) h Q :=
  V.pure (fun p e R s m args below meth co H locs ls cells slots Qw C hR hS hl kk => va_tlen C.1 C.2.1 (strT C) hS rfl hd (kk _ hl)) k0
theorem V_strB {i : Int32} (hin : vp_in i 8) (hd : decode cc pc = .ok (.baload, 1)) (k0 : V l G d y cc mL rt (pc + 1) lv (.int (fldC i.toNatClampNeg) :: st) h Q) : V l G d y cc mL rt pc lv (.int i :: va_rf (some (gV G)) :: st) h Q :=
  V.pure (fun p e R s m args below meth co H locs ls cells slots Qw C hR hS hl kk => va_tb C.1 C.2.1 (strT C) hS hin rfl hd (kk _ hl)) k0
theorem V_i2c {x : Int32} {v : Int32} (hv : (x.toUInt32 % 65536).toInt32 = v) (hd : decode cc pc = .ok (.i2c, 1)) (k0 : V l G d y cc mL rt (pc + 1) lv (.int v :: st) h Q) : V l G d y cc mL rt pc lv (.int x :: st) h Q :=
  V.pure (fun p e R s m args below meth co H locs ls cells slots Qw C hR hS hl kk => lv_i2c C.1 C.2.1 hd hv (kk _ hl)) k0
theorem V_nret {x : Int32} {t0 : FieldType} (hrt : rt = some t0) (hx : narrow t0 (.int x) = .int x) (hd : decode cc pc = .ok (.ireturn, 1)) (hq : Q (some (.int x)) h) : V l G d y cc mL rt pc lv [.int x] h Q :=
  ⟨_, h, hq, Nat.le_refl _, Nat.le_refl _, fun p e R s m args below meth co H locs ls cells slots mc ms C hR hS hl e1 e2 e3 e4 => W.widen (by omega) (by omega) (W.zret (ty := t0) C.1 C.2.1 (by rw [C.2.2.2.1]; exact hrt) hx (fun t ht _ => ⟨rfl, by rw [ht]; exact hR, hS.F ht⟩) hS.2.2 hd C.2.2.2.2.1)⟩
/-- a call on the text -/
theorem V_callF {idx m2 n d2 : Nat} {y2 : MethodName} {c2 : ByteArray} {r2 : Option FieldType} (As rest : List Value) {Qc : Option Value → Hp → Prop} (hm : MV y.cls idx y2 c2 m2 r2 n) (hcls : y2.cls = "java/lang/String") (hd2 : d2 + 1 ≤ d) (hm2 : m2 ≤ 45) (hn2 : As.length = n) (hw : (rest.map fun v => v.category).sum ≤ 8) (hst : st = As.reverse ++ va_rf (some (gF G)) :: rest) (hd : decode cc pc = .ok (.invokevirtual idx, 3))
    (hr : RunQ l G d2 y2 c2 m2 r2 (va_rf (some (gF G)) :: As) h Qc) (k0 : ∀ r h1, Qc r h1 → V l G d y cc mL rt (pc + 3) lv (r.toList ++ rest) h1 Q) : V l G d y cc mL rt pc lv st h Q := by
  obtain ⟨r1, h1, hq, z1, z2, hM⟩ := hr
  refine V.after (y2 := y2) (As := (va_rf (some (gF G)) :: As).toArray) z1 z2 (fun p e R s m args below meth co H locs ls cells slots C hR hS hl g1 g2 => ?_) (k0 r1 h1 hq)
  obtain ⟨⟨hinst, hsel⟩, hcode, hini, hdesc, hlink⟩ := hm
  have hp := preU (As := va_rf (some (gF G)) :: As) C hR hS
  obtain ⟨cellB, q1, q2, q3⟩ := vk_recv (i := 0) (sS C) (by decide) hS
  obtain ⟨hx, hb, hml, -, -, hown, hts, hX, -, hdR, hlR⟩ := C
  have hG := goodT hcode
  have hpv : PreV s H y2.cls (gF G) (va_Pc (va_rf (some (gF G)) :: As) (fun U => Rel G h U.heap ∧ StX G U U.heap)) As := ⟨hp.1, ⟨cellB, q1, q2, by rw [hcls]; exact q3⟩, hp.2⟩
  have hRoom : (rmD d2 (hn h1 - hn h) (hm h1 - hm h)).frames + 1 ≤ R.frames ∧ 8 + (m2 + 11) + (rmD d2 (hn h1 - hn h) (hm h1 - hm h)).locals ≤ R.locals := by
    constructor
    · show d2 + 1 ≤ _; omega
    · show 8 + (m2 + 11) + 64 * d2 ≤ _; omega
  rcases hlink with hL | ⟨host, hL⟩
  · exact va_runV (As := As) ⟨hx, hb, hml, hown, hts⟩ hM ⟨callB_of n hts hG rfl rfl rfl (hts _ hini) (hts _ hL) hdesc hRoom, hts _ hinst, hts _ hsel⟩ hpv rfl hn2 hl.1 hst (lv_room hw) hd ⟨g1, g2⟩
  · exact va_runVN (As := As) (host := host) ⟨hx, hb, hml, hown, hts⟩ hM ⟨va_cnB n hts hG rfl rfl rfl (hX.2.1 _ hL) (hts _ hini) hdesc hRoom, hts _ hinst, hts _ hsel⟩ hpv rfl hn2 hl.1 hst (lv_room hw) hd ⟨g1, g2⟩
end VZ
section VZ2
variable {l : Launch} {G : Gh} {h : Hp}
theorem r_coder : RunQ l G 1 yJ0_coder_7d493 cJ0_coder_7d493 1 (some .byte) [va_rf (some (gF G))] h (qI fun r h1 => r = 0 ∧ h1 = h) :=
  V_run rfl (sl_len _ _ (by simp [cat_i, cat_l, rf_cat])) (V.sub [0] (by simp only [la_r, la_i, la_l, la_n]; rfl) (by
    refine V_gCS wd_CS dJ0_coder_7d493_0 ?_
    refine V_if_eq (tgt := 13) dJ0_coder_7d493_3 (by decide) (br_no (by decide)) (fun q => q.elim) (fun _ => ?_)
    refine V_aload_n 0 rfl rfl dJ0_coder_7d493_6 ?_
    refine V_strC wd_SC dJ0_coder_7d493_7 ?_
    refine V_goto (tgt := 14) dJ0_coder_7d493_10 (by decide) ?_
    exact V_nret rfl (by decide) dJ0_coder_7d493_14 ⟨_, rfl, rfl, rfl⟩))
theorem r_lat : RunQ l G 1 yJ0_isLatin1_aae02 cJ0_isLatin1_aae02 1 (some .boolean) [va_rf (some (gF G))] h (qI fun r h1 => r = 1 ∧ h1 = h) :=
  V_run rfl (sl_len _ _ (by simp [cat_i, cat_l, rf_cat])) (V.sub [0] (by simp only [la_r, la_i, la_l, la_n]; rfl) (by
    refine V_gCS wd_CS dJ0_isLatin1_aae02_0 ?_
    refine V_if_eq (tgt := 17) dJ0_isLatin1_aae02_3 (by decide) (br_no (by decide)) (fun q => q.elim) (fun _ => ?_)
    refine V_aload_n 0 rfl rfl dJ0_isLatin1_aae02_6 ?_
    refine V_strC wd_SC dJ0_isLatin1_aae02_7 ?_
    refine V_if_ne (tgt := 17) dJ0_isLatin1_aae02_10 (by decide) (br_yes rfl) (fun _ => ?_) (fun q => q.elim)
    refine V_iconst (v := 1) (by decide) dJ0_isLatin1_aae02_13 ?_
    refine V_goto (tgt := 18) dJ0_isLatin1_aae02_14 (by decide) ?_
    exact V_zret rfl (Or.inr rfl) dJ0_isLatin1_aae02_18 ⟨_, rfl, rfl, rfl⟩))
theorem r_len : RunQ l G 2 yJ0_length_8abf5 cJ0_length_8abf5 1 (some .int) [va_rf (some (gF G))] h (qI fun r h1 => r = 8 ∧ h1 = h) :=
  V_run rfl (sl_len _ _ (by simp [cat_i, cat_l, rf_cat])) (V.sub [0] (by simp only [la_r, la_i, la_l, la_n]; rfl) (by
    refine V_aload_n 0 rfl rfl dJ0_length_8abf5_0 ?_
    refine V_strV wd_SV dJ0_length_8abf5_1 ?_
    refine V_strL dJ0_length_8abf5_4 ?_
    refine V_aload_n 0 rfl rfl dJ0_length_8abf5_5 ?_
    refine V_callF [] [.int 8] ma_J0_335 rfl (by decide) (by decide) rfl (by simp [cat_i, cat_l, rf_cat]) rfl dJ0_length_8abf5_6 r_coder (k_I (fun x h1 hx => ?_))
    obtain ⟨rfl, rfl⟩ := hx
    refine V_ishr dJ0_length_8abf5_9 ?_
    exact V_iret rfl dJ0_length_8abf5_10 ⟨_, rfl, by decide, rfl⟩))
theorem r_pre {x : Option Nat} {i n : Int32} (hi : ¬ i < 0) (hin : i < n) : RunQ l G 1 yJ3_checkIndex_8e157 cJ3_checkIndex_8e157 3 (some .int) [.int i, .int n, va_rf x] h (qI fun r h1 => r = i ∧ h1 = h) :=
  V_run rfl (sl_len _ _ (by simp [cat_i, cat_l, rf_cat])) (V.sub [0, 1, 2] (by simp only [la_r, la_i, la_l, la_n]; rfl) (by
    refine V_iload_n 0 rfl rfl dJ3_checkIndex_8e157_0 ?_
    refine V_if_lt (tgt := 9) dJ3_checkIndex_8e157_1 (by decide) (br_no hi) (fun q => q.elim) (fun _ => ?_)
    refine V_iload_n 0 rfl rfl dJ3_checkIndex_8e157_4 ?_
    refine V_iload_n 1 rfl rfl dJ3_checkIndex_8e157_5 ?_
    refine V_icmp_lt (tgt := 16) dJ3_checkIndex_8e157_6 (by decide) (br_yes hin) (fun _ => ?_) (fun q => q.elim)
    refine V_iload_n 0 rfl rfl dJ3_checkIndex_8e157_16 ?_
    exact V_iret rfl dJ3_checkIndex_8e157_17 ⟨_, rfl, rfl, rfl⟩))
theorem r_chk {i n : Int32} (hi : ¬ i < 0) (hin : i < n) : RunQ l G 2 yJ0_checkIndex_df160 cJ0_checkIndex_df160 2 none [.int i, .int n] h (qV fun h1 => h1 = h) :=
  V_run rfl (sl_len _ _ (by simp [cat_i, cat_l, rf_cat])) (V.sub [0, 1] (by simp only [la_r, la_i, la_l, la_n]; rfl) (by
    refine V_iload_n 0 rfl rfl dJ0_checkIndex_df160_0 ?_
    refine V_iload_n 1 rfl rfl dJ0_checkIndex_df160_1 ?_
    refine V_gSF wd_SF dJ0_checkIndex_df160_2 ?_
    refine X_cS [.int i, .int n, va_rf (gP G)] [] ma_J0_1059 (by decide) (by decide) rfl (by simp [cat_i, cat_l, rf_cat]) rfl dJ0_checkIndex_df160_5 (r_pre hi hin) (k_I (fun x h1 hx => ?_))
    obtain ⟨rfl, rfl⟩ := hx
    refine V_pop rfl dJ0_checkIndex_df160_8 ?_
    exact V_vret rfl dJ0_checkIndex_df160_9 ⟨rfl, rfl⟩))
theorem fld_c : ∀ j, j < 8 → ((fldC j &&& 255).toUInt32 % 65536).toInt32 = fldC j := by decide
theorem fld_n : ∀ j, j < 8 → narrow .char (.int (fldC j)) = .int (fldC j) := by
  intro j hj
  rcases (show j = 0 ∨ j = 1 ∨ j = 2 ∨ j = 3 ∨ j = 4 ∨ j = 5 ∨ j = 6 ∨ j = 7 by omega) with rfl | rfl | rfl | rfl | rfl | rfl | rfl | rfl <;> first | rfl | decide | decide +kernel
theorem in_lt8 {i : Int32} (hin : vp_in i 8) : ¬ i < 0 ∧ i < 8 ∧ i.toNatClampNeg < 8 := by
  have h0 : ¬ i < 0 := fun q => hin (Or.inl q)
  have h1 := vp_lt hin
  refine ⟨h0, ?_, h1⟩
  have e := nn_i h0
  rw [Int32.lt_iff_toInt_lt, e]
  have e8 : (8 : Int32).toInt = 8 := by decide
  omega
theorem r_la {i : Int32} (hin : vp_in i 8) : RunQ l G 3 yJ1_charAt_3b067 cJ1_charAt_3b067 2 (some .char) [va_rf (some (gV G)), .int i] h (qI fun r h1 => r = fldC i.toNatClampNeg ∧ h1 = h) := by
  obtain ⟨i0, i8, n8⟩ := in_lt8 hin
  refine V_run rfl (sl_len _ _ (by simp [cat_i, cat_l, rf_cat])) (V.sub [0, 1] (by simp only [la_r, la_i, la_l, la_n]; rfl) ?_)
  refine V_iload_n 1 rfl rfl dJ1_charAt_3b067_0 ?_
  refine V_aload_n 0 rfl rfl dJ1_charAt_3b067_1 ?_
  refine V_strL dJ1_charAt_3b067_2 ?_
  refine X_cS [.int i, .int 8] [] ma_J1_9 (by decide) (by decide) rfl (by simp [cat_i, cat_l, rf_cat]) rfl dJ1_charAt_3b067_3 (r_chk i0 i8) (k_V (fun h1 hx => ?_))
  subst hx
  refine V_aload_n 0 rfl rfl dJ1_charAt_3b067_6 ?_
  refine V_iload_n 1 rfl rfl dJ1_charAt_3b067_7 ?_
  refine V_strB hin dJ1_charAt_3b067_8 ?_
  refine V_sipush (v := 255) (by decide) dJ1_charAt_3b067_9 ?_
  refine V_iand dJ1_charAt_3b067_12 ?_
  refine V_i2c (fld_c _ n8) dJ1_charAt_3b067_13 ?_
  exact V_nret rfl (fld_n _ n8) dJ1_charAt_3b067_14 ⟨_, rfl, rfl, rfl⟩
theorem r_chr {i : Int32} (hin : vp_in i 8) : RunQ l G 4 yJ0_charAt_5068e cJ0_charAt_5068e 2 (some .char) [va_rf (some (gF G)), .int i] h (qI fun r h1 => r = fldC i.toNatClampNeg ∧ h1 = h) := by
  obtain ⟨i0, i8, n8⟩ := in_lt8 hin
  refine V_run rfl (sl_len _ _ (by simp [cat_i, cat_l, rf_cat])) (V.sub [0, 1] (by simp only [la_r, la_i, la_l, la_n]; rfl) ?_)
  refine V_aload_n 0 rfl rfl dJ0_charAt_5068e_0 ?_
  refine V_callF [] [] ma_J0_492 rfl (by decide) (by decide) rfl (by simp [cat_i, cat_l, rf_cat]) rfl dJ0_charAt_5068e_1 r_lat (k_I (fun x h1 hx => ?_))
  obtain ⟨rfl, rfl⟩ := hx
  refine V_if_eq (tgt := 16) dJ0_charAt_5068e_4 (by decide) (br_no (by decide)) (fun q => q.elim) (fun _ => ?_)
  refine V_aload_n 0 rfl rfl dJ0_charAt_5068e_7 ?_
  refine V_strV wd_SV dJ0_charAt_5068e_8 ?_
  refine V_iload_n 1 rfl rfl dJ0_charAt_5068e_11 ?_
  refine X_cS [va_rf (some (gV G)), .int i] [] ma_J0_495 (by decide) (by decide) rfl (by simp [cat_i, cat_l, rf_cat]) rfl dJ0_charAt_5068e_12 (r_la hin) (k_I (fun x h2 hx => ?_))
  obtain ⟨rfl, rfl⟩ := hx
  exact V_nret rfl (fld_n _ n8) dJ0_charAt_5068e_15 ⟨_, rfl, rfl, rfl⟩
end VZ2
section VZ3
variable {l : Launch} {G : Gh} {d : Nat} {y : MethodName} {cc : ByteArray} {mL : Nat} {rt : Option FieldType} {pc : Nat} {lv : List (Nat × Value)} {st : List Value} {h : Hp} {Q : Option Value → Hp → Prop}
theorem X_strLen {idx : Nat} {K : Int32 → Prop} (hm : MV y.cls idx yJ0_length_8abf5 cJ0_length_8abf5 1 (some .int) 0) (hd1 : 8 + 1 ≤ d) (hw0 : (st.map fun v => v.category).sum ≤ 8) (hd : decode cc pc = .ok (.invokevirtual idx, 3)) (hw : lt 8 K) (k0 : ∀ x, K x → V l G d y cc mL rt (pc + 3) lv (.int x :: st) h Q) : V l G d y cc mL rt pc lv (va_rf (some (gF G)) :: st) h Q := by
  refine V_callF [] st hm rfl (show 2 + 1 ≤ d by omega) (by decide) rfl hw0 rfl hd r_len (k_I (fun x h1 hx => ?_))
  obtain ⟨rfl, rfl⟩ := hx
  exact k0 _ (lt_iff.mp hw)
theorem X_strChar {idx : Nat} {i : Int32} {K : Int32 → Prop} (hm : MV y.cls idx yJ0_charAt_5068e cJ0_charAt_5068e 2 (some .char) 1) (hd1 : 8 + 1 ≤ d) (hw0 : (st.map fun v => v.category).sum ≤ 8) (hd : decode cc pc = .ok (.invokevirtual idx, 3)) (hw : strChar i K) (k0 : ∀ x, K x → V l G d y cc mL rt (pc + 3) lv (.int x :: st) h Q) : V l G d y cc mL rt pc lv (.int i :: va_rf (some (gF G)) :: st) h Q := by
  refine V_callF [.int i] st hm rfl (show 4 + 1 ≤ d by omega) (by decide) rfl hw0 rfl hd (r_chr hw.1) (k_I (fun x h1 hx => ?_))
  obtain ⟨rfl, rfl⟩ := hx
  exact k0 _ hw.2
-- ----- a copy of a row of longs -----
theorem cp_kd {a n : Nat} : kd (cpN h a n) (hn h) = 399 := if_pos rfl
theorem cp_ln {a n : Nat} : ln (cpN h a n) (hn h) = n := if_pos rfl
theorem cp_aL {a n x : Nat} (hx : x < n) : aL (cpN h a n) 399 (hn h) x = aL h (kd h a) a x := if_pos ⟨rfl, rfl, hx⟩
theorem V_clone {idx a : Nat} (hk : 300 ≤ kd h a ∧ kd h a < 400) (hd1 : 1 ≤ d) (hw0 : (st.map fun v => v.category).sum ≤ 8) (hm : Cond.methodLink y.cls idx ⟨"[J", "clone", "()Ljava/lang/Object;"⟩ ∈ lw_T) (hd : decode cc pc = .ok (.invokevirtual idx, 3)) (k0 : V l G d y cc mL rt (pc + 3) lv (va_rf (some (hn h)) :: st) (cpN h a (ln h a)) Q) : V l G d y cc mL rt pc lv (va_rf (some a) :: st) h Q :=
  V.mk (h2 := cpN h a (ln h a)) (n := ln h a) rfl rfl (fun p e R s m args below meth co H locs ls cells slots Qw C hR hS hl g1 g2 kk => by
    obtain ⟨hx, hb, hml, -, -, hown, hts, hX, hnm, hdR, hlR⟩ := C
    have hca := (hR.2.2 a (by omega)).2.2.long hk.1 hk.2
    obtain ⟨c0, t0', f1, f2, f3⟩ := Cond.castable_spec (va_Nw.use (A := args) rfl hX.2.2.2.2.2.2.2.1)
    have hJn := nmJ hX
    cases hJn.symm.trans f1
    intro T hT X
    generalize hcell : arrV (gA G 2) (ln h a) (fun x => Value.long (aL h (kd h a) a x)) = cell at hca
    have hcls : cell.cls = gA G 2 := by rw [← hcell]; rfl
    have hvm0 : cell.vm = .none := by rw [← hcell]; rfl
    have hsz : cell.slots.size = ln h a := by rw [← hcell, arrV_size]
    have hcellE : ({ cls := cell.cls, slots := cell.slots } : Cell) = cell := by rw [← hcell]; rfl
    obtain ⟨-, kA, hkA, comp, hkind⟩ := State.isArrayOf_alike X.warmed.alike (hX.1.2.2.2.1.1 0 (fun _ => .null))
    obtain ⟨-, kS, hkS, compS, hkindS⟩ := hX.1.2.2.2.1.1 0 (fun _ => .null)
    obtain ⟨vm', X', st'⟩ := X.cloneArray hx hown (hts _ hm) (hts _ wd_cls) (hts _ wd_cln) (hts _ wd_cli) (hts _ wd_clx) (a := a) (cell := cell) (by rw [hT]; exact hca) (fun k h => by rw [hvm0] at h; cases h) (by rw [hvm0]; exact fun h => by cases h) (by rw [hcls]; exact hJn) f2 (by rw [hcls]; exact f3)
      (fun i v hv => by
        rw [hcls]
        have hk' : T.vm.classes[gA G 2]? = some kA := hkA
        have hi : i < ln h a := by rw [← hsz]; exact (Array.getElem?_eq_some_iff.mp hv).1
        rw [← hcell, arrV_read _ _ hi] at hv
        have hfit : fits .long v = true := by cases hv; rfl
        simpa [State.fitsSlot, State.slotType?, hk', hkind] using hfit)
      (g := F0 m pc ls (.ref a :: st)) rfl (by rw [hml.trans hl.1.symm]) rfl (by rw [hb]; exact hd) (by omega) (by show 2 * 0 + _ + 14 ≤ _; omega) g1 (by rw [hsz]; exact g2) (hloader := by rw [hcls]; exact Vm.clonesLoader_of_array hkS hkindS)
    rw [hcellE, hsz] at X'
    have hHn : H.size = hn h := hR.1
    generalize hH1 : H.push cell = H1
    have z1 : H1.size = hn h + 1 := by rw [← hH1, Array.size_push, hHn]
    have e1 : H1[hn h]? = some cell := by rw [← hH1, ← hHn, Array.getElem?_push_size]
    have o1 : ∀ q : Nat, q < hn h → H1[q]? = H[q]? := fun q hq => by rw [← hH1, Array.getElem?_push, if_neg (by rw [hHn]; omega)]
    have hRel : Rel G (cpN h a (ln h a)) H1 := by
      obtain ⟨r1, r2, r3⟩ := hR
      refine ⟨z1, Nat.le_succ_of_le r2, fun q hq => ?_⟩
      by_cases e : q = hn h
      · subst e
        refine ⟨Nat.lt_succ_self _, fun _ => r2, cellAt.mkL (by rw [cp_kd]; decide) (by rw [cp_kd]; decide) ?_⟩
        rw [e1, cp_kd, cp_ln, ← hcell]
        exact congrArg some (arrV_ext fun j hj => congrArg Value.long (cp_aL hj).symm)
      · have ek : kd (cpN h a (ln h a)) q = kd h q := by show u1 _ _ _ _ = _; unfold u1; rw [if_neg e]; rfl
        rw [ek] at hq
        obtain ⟨s1, s2, s3⟩ := r3 q hq
        refine ⟨Nat.lt_succ_of_lt s1, by rw [ek]; exact s2, ?_⟩
        refine s3.kept ek (by show u1 _ _ _ _ = _; unfold u1; rw [if_neg e]; rfl) (fun f => if_neg e) (fun f => if_neg e) (fun k j => if_neg e) (fun k j => ?_) (fun k j => if_neg e) (o1 q s1)
        exact (if_neg (fun z => e z.2.1)).trans (if_neg e)
    obtain ⟨t, b1, b2⟩ := kk H1 hRel (S_mk hS hHn z1 o1) ((T.setVm vm').pushCell cell) (by rw [← hH1, ← hT]; rfl) X'
    refine ⟨t, st' t ?_, b2⟩
    rw [hcellE, hT, hHn]
    exact b1) k0
theorem V_castL {idx a : Nat} (hk : 300 ≤ kd h a ∧ kd h a < 400) (hm : Cond.classLink y.cls idx "[J" ∈ lw_T) (hd : decode cc pc = .ok (.checkcast idx, 3)) (k0 : V l G d y cc mL rt (pc + 3) lv (va_rf (some a) :: st) h Q) : V l G d y cc mL rt pc lv (va_rf (some a) :: st) h Q :=
  V.pure (fun p e R s m args below meth co H locs ls cells slots Qw C hR hS hl kk => by
    obtain ⟨hx, hb, hml, -, -, hown, hts, hX, hnm, hdR, hlR⟩ := C
    have hca := (hR.2.2 a (by omega)).2.2.long hk.1 hk.2
    intro T hT X
    obtain ⟨vm', X', st'⟩ := X.checkcastYes hx hown (hts _ hm) (by rw [hT]; exact hca) rfl (nmJ hX) (va_asg _ _) (g := F0 m pc ls (.ref a :: st)) rfl rfl (by rw [hb]; exact hd)
    obtain ⟨t, a1, b1⟩ := kk _ hl (T.setVm vm') hT X'
    exact ⟨t, st' t a1, b1⟩) k0
/-- what is not there may be anything -/
theorem V.rel {a : Nat} (hk : kd h a ≠ 0) {r : Option Value} {h1 : Hp} (hq : Q r h1) (z1 : hn h ≤ hn h1) (z2 : hm h ≤ hm h1) (k : a < hn h → V l G d y cc mL rt pc lv st h Q) : V l G d y cc mL rt pc lv st h Q := by
  by_cases ha : a < hn h
  · exact k ha
  · exact ⟨r, h1, hq, z1, z2, fun p e R s m args below meth c H locs ls cells slots mc ms C hR _ _ _ _ _ _ => absurd (hR.2.2 a hk).1 ha⟩
theorem cp_eq {a N : Nat} (ha : a ≠ hn h) : cpH (nw h 399 N) a 0 (hn h) 0 N = cpN h a N := by
  have e : ∀ c q x, aL (cpH (nw h 399 N) a 0 (hn h) 0 N) c q x = aL (cpN h a N) c q x := by
    intro c q x
    show (if c = kd (nw h 399 N) (hn h) ∧ q = hn h ∧ 0 ≤ x ∧ x < 0 + N then aL (nw h 399 N) (kd (nw h 399 N) a) a (0 + (x - 0)) else aL (nw h 399 N) c q x) = if c = 399 ∧ q = hn h ∧ x < N then aL h (kd h a) a x else aL (nw h 399 N) c q x
    have ek : kd (nw h 399 N) a = kd h a := if_neg ha
    have el : ∀ k j, aL (nw h 399 N) k a j = aL h k a j := fun k j => if_neg ha
    rw [nw_kd, ek, el, Nat.zero_add, Nat.zero_add, Nat.sub_zero]
    by_cases hc : c = 399 ∧ q = hn h ∧ x < N
    · rw [if_pos hc, if_pos ⟨hc.1, hc.2.1, Nat.zero_le _, hc.2.2⟩]
    · rw [if_neg hc, if_neg (fun z => hc ⟨z.1, z.2.1, z.2.2.2⟩)]
  have e2 : (cpH (nw h 399 N) a 0 (hn h) 0 N).2.2.2.1 = (cpN h a N).2.2.2.1 := funext fun c => funext fun q => funext fun x => e c q x
  show ((nw h 399 N).1, (nw h 399 N).2.1, (nw h 399 N).2.2.1, (cpH (nw h 399 N) a 0 (hn h) 0 N).2.2.2.1, (nw h 399 N).2.2.2.2) = ((nw h 399 N).1, (nw h 399 N).2.1, (nw h 399 N).2.2.1, (cpN h a N).2.2.2.1, (nw h 399 N).2.2.2.2)
  rw [e2]
theorem r_J7_copyOf_c38d5 (v : Option Nat) (n : Int32) {h : Hp} {Q : Option Nat → Hp → Prop} (hw : w_J7_copyOf_c38d5 v n h Q) : RunQ l G 8 yJ7_copyOf_c38d5 cJ7_copyOf_c38d5 3 (some (.array .long)) [va_rf v, .int n] h (qR Q) := by
  obtain ⟨a, rfl, ka, n0, hna, hla, hq⟩ := hw
  have hnu := nn_u n0 (by omega)
  have hkz : kd h a ≠ 0 := by omega
  refine V_run rfl (sl_len _ _ (by simp [cat_i, cat_l, rf_cat])) (V.sub [0, 1] (by simp only [la_r, la_i, la_l, la_n]; rfl) ?_)
  refine V.rel hkz (r := some (va_rf (some (hn h)))) (h1 := cpN h a n.toNatClampNeg) ⟨_, rfl, hq⟩ (Nat.le_succ _) (Nat.le_add_right _ _) (fun halt => ?_)
  have hane : a ≠ hn h := by omega
  refine V_iload_n 1 rfl rfl dJ7_copyOf_c38d5_0 ?_
  refine V_aload_n 0 rfl rfl dJ7_copyOf_c38d5_1 ?_
  refine V_alen (by omega) (fun z => absurd z (by omega)) dJ7_copyOf_c38d5_2 ?_
  by_cases e : n = nI (ln h a)
  · refine V_icmp_ne (tgt := 14) dJ7_copyOf_c38d5_3 (by decide) (br_yes e) (fun _ => ?_) (fun q => q.elim)
    have eN : n.toNatClampNeg = ln h a := by rw [e, nI_clamp (by omega)]
    rw [eN] at hq
    refine V_aload_n 0 rfl rfl dJ7_copyOf_c38d5_6 ?_
    refine V_clone ka (by decide) (by simp) wd_cll dJ7_copyOf_c38d5_7 ?_
    refine V_castL (by rw [cp_kd]; decide) wd_clc dJ7_copyOf_c38d5_10 ?_
    exact V_aret rfl (Or.inr ⟨_, rfl⟩) dJ7_copyOf_c38d5_13 ⟨_, rfl, hq⟩
  · refine V_icmp_ne (tgt := 14) dJ7_copyOf_c38d5_3 (by decide) (br_no e) (fun q => q.elim) (fun _ => ?_)
    have hne : n.toNatClampNeg ≠ ln h a := fun z => e (by rw [← hnu, z])
    have hmin : (if n < nI (ln h a) then n else nI (ln h a)) = n := by
      apply if_pos
      rw [Int32.lt_iff_toInt_lt, nn_i n0, nI_toInt (by omega)]
      omega
    have kn : kd (nw h 399 n.toNatClampNeg) a = kd h a := if_neg hane
    have lnn : ln (nw h 399 n.toNatClampNeg) a = ln h a := if_neg hane
    refine V_iload_n 1 rfl rfl dJ7_copyOf_c38d5_14 ?_
    refine V_newL (k := 399) wd_aL (by decide) n0 rfl (by omega) dJ7_copyOf_c38d5_15 ?_
    refine V_astore_n (i := 2) [(2, va_rf (some (hn h))), (0, va_rf (some a)), (1, .int n)] rfl (by decide) rfl dJ7_copyOf_c38d5_17 ?_
    refine V_aload_n 1 rfl rfl dJ7_copyOf_c38d5_18 ?_
    refine V_iconst (v := 0) (by decide) dJ7_copyOf_c38d5_19 ?_
    refine V_aload_n 0 rfl rfl dJ7_copyOf_c38d5_20 ?_
    refine V_iconst (v := 0) (by decide) dJ7_copyOf_c38d5_21 ?_
    refine V_aload_n 1 rfl rfl dJ7_copyOf_c38d5_22 ?_
    refine V_alen (by rw [kn]; omega) (by rw [kn]; exact fun z => absurd z (by omega)) dJ7_copyOf_c38d5_23 ?_
    rw [lnn]
    refine V_iload_n 2 rfl rfl dJ7_copyOf_c38d5_24 ?_
    refine X_mmin (K := fun z => z = n) wl_J7_304 (by decide) (by simp [cat_i, cat_l, rf_cat]) dJ7_copyOf_c38d5_25 (lt_iff.mpr hmin) (fun z hz => ?_)
    subst hz
    refine X_cpL (K := fun h1 => h1 = cpN h a z.toNatClampNeg) wd_ac_J7_150 wd_acn (by decide) (by simp) dJ7_copyOf_c38d5_28 ⟨a, hn h, rfl, rfl, by rw [kn]; exact ka, by rw [nw_kd]; decide, by decide, by decide, n0, by rw [lnn]; show 0 + _ ≤ _; omega, by rw [nw_ln]; show 0 + _ ≤ _; omega, cp_eq hane⟩ (fun h1 hz => ?_)
    subst hz
    refine V_aload_n 0 rfl rfl dJ7_copyOf_c38d5_31 ?_
    exact V_aret rfl (Or.inr ⟨_, rfl⟩) dJ7_copyOf_c38d5_32 ⟨_, rfl, hq⟩
end VZ3
