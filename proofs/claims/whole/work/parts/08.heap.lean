theorem fR_sI (h : Hp) (f0 a0 : Nat) (v : Int32) : fR (sI h f0 a0 v) = fR h := rfl
theorem aI_sI (h : Hp) (f0 a0 : Nat) (v : Int32) : aI (sI h f0 a0 v) = aI h := rfl
theorem aL_sI (h : Hp) (f0 a0 : Nat) (v : Int32) : aL (sI h f0 a0 v) = aL h := rfl
theorem aR_sI (h : Hp) (f0 a0 : Nat) (v : Int32) : aR (sI h f0 a0 v) = aR h := rfl
theorem kd_sI (h : Hp) (f0 a0 : Nat) (v : Int32) : kd (sI h f0 a0 v) = kd h := rfl
theorem ln_sI (h : Hp) (f0 a0 : Nat) (v : Int32) : ln (sI h f0 a0 v) = ln h := rfl
theorem hn_sI (h : Hp) (f0 a0 : Nat) (v : Int32) : hn (sI h f0 a0 v) = hn h := rfl
theorem hm_sI (h : Hp) (f0 a0 : Nat) (v : Int32) : hm (sI h f0 a0 v) = hm h := rfl
theorem fI_sI_n (h : Hp) (f0 a0 : Nat) (v : Int32) (f : Nat) (hf : f ≠ f0) : fI (sI h f0 a0 v) f = fI h f := funext (fun _ => if_neg (fun q => hf q.1))
theorem fI_sI_e (h : Hp) (f0 a0 : Nat) (v : Int32) (a : Nat) : fI (sI h f0 a0 v) f0 a = if a = a0 then v else fI h f0 a := by
  unfold fI sI u2
  simp
theorem fI_sR (h : Hp) (f0 a0 : Nat) (v : Option Nat) : fI (sR h f0 a0 v) = fI h := rfl
theorem aI_sR (h : Hp) (f0 a0 : Nat) (v : Option Nat) : aI (sR h f0 a0 v) = aI h := rfl
theorem aL_sR (h : Hp) (f0 a0 : Nat) (v : Option Nat) : aL (sR h f0 a0 v) = aL h := rfl
theorem aR_sR (h : Hp) (f0 a0 : Nat) (v : Option Nat) : aR (sR h f0 a0 v) = aR h := rfl
theorem kd_sR (h : Hp) (f0 a0 : Nat) (v : Option Nat) : kd (sR h f0 a0 v) = kd h := rfl
theorem ln_sR (h : Hp) (f0 a0 : Nat) (v : Option Nat) : ln (sR h f0 a0 v) = ln h := rfl
theorem hn_sR (h : Hp) (f0 a0 : Nat) (v : Option Nat) : hn (sR h f0 a0 v) = hn h := rfl
theorem hm_sR (h : Hp) (f0 a0 : Nat) (v : Option Nat) : hm (sR h f0 a0 v) = hm h := rfl
theorem fR_sR_n (h : Hp) (f0 a0 : Nat) (v : Option Nat) (f : Nat) (hf : f ≠ f0) : fR (sR h f0 a0 v) f = fR h f := funext (fun _ => if_neg (fun q => hf q.1))
theorem fR_sR_e (h : Hp) (f0 a0 : Nat) (v : Option Nat) (a : Nat) : fR (sR h f0 a0 v) f0 a = if a = a0 then v else fR h f0 a := by
  unfold fR sR u2
  simp
theorem fI_tI (h : Hp) (k0 a0 j0 : Nat) (v : Int32) : fI (tI h k0 a0 j0 v) = fI h := rfl
theorem fR_tI (h : Hp) (k0 a0 j0 : Nat) (v : Int32) : fR (tI h k0 a0 j0 v) = fR h := rfl
theorem aL_tI (h : Hp) (k0 a0 j0 : Nat) (v : Int32) : aL (tI h k0 a0 j0 v) = aL h := rfl
theorem aR_tI (h : Hp) (k0 a0 j0 : Nat) (v : Int32) : aR (tI h k0 a0 j0 v) = aR h := rfl
theorem kd_tI (h : Hp) (k0 a0 j0 : Nat) (v : Int32) : kd (tI h k0 a0 j0 v) = kd h := rfl
theorem ln_tI (h : Hp) (k0 a0 j0 : Nat) (v : Int32) : ln (tI h k0 a0 j0 v) = ln h := rfl
theorem hn_tI (h : Hp) (k0 a0 j0 : Nat) (v : Int32) : hn (tI h k0 a0 j0 v) = hn h := rfl
theorem hm_tI (h : Hp) (k0 a0 j0 : Nat) (v : Int32) : hm (tI h k0 a0 j0 v) = hm h := rfl
theorem aI_tI_n (h : Hp) (k0 a0 j0 : Nat) (v : Int32) (k : Nat) (hk : k ≠ k0) : aI (tI h k0 a0 j0 v) k = aI h k := funext (fun _ => funext (fun _ => if_neg (fun q => hk q.1)))
theorem aI_tI_a (h : Hp) (k0 a0 j0 : Nat) (v : Int32) (a : Nat) (ha : a ≠ a0) : aI (tI h k0 a0 j0 v) k0 a = aI h k0 a := funext (fun _ => if_neg (fun q => ha q.2.1))
theorem aI_tI_e (h : Hp) (k0 a0 j0 : Nat) (v : Int32) (a j : Nat) : aI (tI h k0 a0 j0 v) k0 a j = if a = a0 ∧ j = j0 then v else aI h k0 a j := by
  unfold aI tI u3
  simp
theorem fI_tL (h : Hp) (k0 a0 j0 : Nat) (v : Int64) : fI (tL h k0 a0 j0 v) = fI h := rfl
theorem fR_tL (h : Hp) (k0 a0 j0 : Nat) (v : Int64) : fR (tL h k0 a0 j0 v) = fR h := rfl
theorem aI_tL (h : Hp) (k0 a0 j0 : Nat) (v : Int64) : aI (tL h k0 a0 j0 v) = aI h := rfl
theorem aR_tL (h : Hp) (k0 a0 j0 : Nat) (v : Int64) : aR (tL h k0 a0 j0 v) = aR h := rfl
theorem kd_tL (h : Hp) (k0 a0 j0 : Nat) (v : Int64) : kd (tL h k0 a0 j0 v) = kd h := rfl
theorem ln_tL (h : Hp) (k0 a0 j0 : Nat) (v : Int64) : ln (tL h k0 a0 j0 v) = ln h := rfl
theorem hn_tL (h : Hp) (k0 a0 j0 : Nat) (v : Int64) : hn (tL h k0 a0 j0 v) = hn h := rfl
theorem hm_tL (h : Hp) (k0 a0 j0 : Nat) (v : Int64) : hm (tL h k0 a0 j0 v) = hm h := rfl
theorem aL_tL_n (h : Hp) (k0 a0 j0 : Nat) (v : Int64) (k : Nat) (hk : k ≠ k0) : aL (tL h k0 a0 j0 v) k = aL h k := funext (fun _ => funext (fun _ => if_neg (fun q => hk q.1)))
theorem aL_tL_a (h : Hp) (k0 a0 j0 : Nat) (v : Int64) (a : Nat) (ha : a ≠ a0) : aL (tL h k0 a0 j0 v) k0 a = aL h k0 a := funext (fun _ => if_neg (fun q => ha q.2.1))
theorem aL_tL_e (h : Hp) (k0 a0 j0 : Nat) (v : Int64) (a j : Nat) : aL (tL h k0 a0 j0 v) k0 a j = if a = a0 ∧ j = j0 then v else aL h k0 a j := by
  unfold aL tL u3
  simp
theorem fI_tR (h : Hp) (k0 a0 j0 : Nat) (v : Option Nat) : fI (tR h k0 a0 j0 v) = fI h := rfl
theorem fR_tR (h : Hp) (k0 a0 j0 : Nat) (v : Option Nat) : fR (tR h k0 a0 j0 v) = fR h := rfl
theorem aI_tR (h : Hp) (k0 a0 j0 : Nat) (v : Option Nat) : aI (tR h k0 a0 j0 v) = aI h := rfl
theorem aL_tR (h : Hp) (k0 a0 j0 : Nat) (v : Option Nat) : aL (tR h k0 a0 j0 v) = aL h := rfl
theorem kd_tR (h : Hp) (k0 a0 j0 : Nat) (v : Option Nat) : kd (tR h k0 a0 j0 v) = kd h := rfl
theorem ln_tR (h : Hp) (k0 a0 j0 : Nat) (v : Option Nat) : ln (tR h k0 a0 j0 v) = ln h := rfl
theorem hn_tR (h : Hp) (k0 a0 j0 : Nat) (v : Option Nat) : hn (tR h k0 a0 j0 v) = hn h := rfl
theorem hm_tR (h : Hp) (k0 a0 j0 : Nat) (v : Option Nat) : hm (tR h k0 a0 j0 v) = hm h := rfl
theorem aR_tR_n (h : Hp) (k0 a0 j0 : Nat) (v : Option Nat) (k : Nat) (hk : k ≠ k0) : aR (tR h k0 a0 j0 v) k = aR h k := funext (fun _ => funext (fun _ => if_neg (fun q => hk q.1)))
theorem aR_tR_a (h : Hp) (k0 a0 j0 : Nat) (v : Option Nat) (a : Nat) (ha : a ≠ a0) : aR (tR h k0 a0 j0 v) k0 a = aR h k0 a := funext (fun _ => if_neg (fun q => ha q.2.1))
theorem aR_tR_e (h : Hp) (k0 a0 j0 : Nat) (v : Option Nat) (a j : Nat) : aR (tR h k0 a0 j0 v) k0 a j = if a = a0 ∧ j = j0 then v else aR h k0 a j := by
  unfold aR tR u3
  simp
theorem fI_nw (h : Hp) (k n f a : Nat) : fI (nw h k n) f a = if a = hn h then 0 else fI h f a := rfl
theorem fI_nw_o (h : Hp) (k n f a : Nat) (ha : a ≠ hn h) : fI (nw h k n) f a = fI h f a := if_neg ha
theorem fR_nw (h : Hp) (k n f a : Nat) : fR (nw h k n) f a = if a = hn h then none else fR h f a := rfl
theorem fR_nw_o (h : Hp) (k n f a : Nat) (ha : a ≠ hn h) : fR (nw h k n) f a = fR h f a := if_neg ha
theorem aI_nw (h : Hp) (k n c a j : Nat) : aI (nw h k n) c a j = if a = hn h then 0 else aI h c a j := rfl
theorem aI_nw_o (h : Hp) (k n c a j : Nat) (ha : a ≠ hn h) : aI (nw h k n) c a j = aI h c a j := if_neg ha
theorem aL_nw (h : Hp) (k n c a j : Nat) : aL (nw h k n) c a j = if a = hn h then 0 else aL h c a j := rfl
theorem aL_nw_o (h : Hp) (k n c a j : Nat) (ha : a ≠ hn h) : aL (nw h k n) c a j = aL h c a j := if_neg ha
theorem aR_nw (h : Hp) (k n c a j : Nat) : aR (nw h k n) c a j = if a = hn h then none else aR h c a j := rfl
theorem aR_nw_o (h : Hp) (k n c a j : Nat) (ha : a ≠ hn h) : aR (nw h k n) c a j = aR h c a j := if_neg ha
theorem kd_nw (h : Hp) (k n a : Nat) : kd (nw h k n) a = if a = hn h then k else kd h a := rfl
theorem kd_nw_o (h : Hp) (k n a : Nat) (ha : a ≠ hn h) : kd (nw h k n) a = kd h a := if_neg ha
theorem ln_nw (h : Hp) (k n a : Nat) : ln (nw h k n) a = if a = hn h then n else ln h a := rfl
theorem ln_nw_o (h : Hp) (k n a : Nat) (ha : a ≠ hn h) : ln (nw h k n) a = ln h a := if_neg ha
theorem hn_nw (h : Hp) (k n : Nat) : hn (nw h k n) = hn h + 1 := rfl
theorem hm_nw (h : Hp) (k n : Nat) : hm (nw h k n) = hm h + n := rfl
theorem gI_e {h : Hp} {a c f : Nat} {K : Int32 → Prop} (hk : kd h a = c) : (gI h (some a) c f K) = (K (fI h f a)) := propext ⟨fun ⟨b, e, _, k⟩ => by cases e; exact k, fun k => ⟨a, rfl, hk, k⟩⟩
theorem gR_e {h : Hp} {a c f : Nat} {K : Option Nat → Prop} (hk : kd h a = c) : (gR h (some a) c f K) = (K (fR h f a)) := propext ⟨fun ⟨b, e, _, k⟩ => by cases e; exact k, fun k => ⟨a, rfl, hk, k⟩⟩
theorem pI_e {h : Hp} {a c f : Nat} {x : Int32} {K : Hp → Prop} (hk : kd h a = c) : (pI h (some a) c f x K) = (K (sI h f a x)) := propext ⟨fun ⟨b, e, _, k⟩ => by cases e; exact k, fun k => ⟨a, rfl, hk, k⟩⟩
theorem pZ_e {h : Hp} {a c f : Nat} {x : Int32} {K : Hp → Prop} (hk : kd h a = c) (hx : x = 0 ∨ x = 1) : (pZ h (some a) c f x K) = (K (sI h f a x)) := propext ⟨fun ⟨_, b, e, _, k⟩ => by cases e; exact k, fun k => ⟨hx, a, rfl, hk, k⟩⟩
theorem pR_e {h : Hp} {a c f : Nat} {x : Option Nat} {K : Hp → Prop} (hk : kd h a = c) : (pR h (some a) c f x K) = (K (sR h f a x)) := propext ⟨fun ⟨b, e, _, k⟩ => by cases e; exact k, fun k => ⟨a, rfl, hk, k⟩⟩
theorem ldI_e {h : Hp} {a : Nat} {i : Int32} {K : Int32 → Prop} (h1 : 20 ≤ kd h a) (h2 : kd h a < 200) (hi : vp_in i (ln h a)) : (ldI h (some a) i K) = (K (aI h (kd h a) a i.toNatClampNeg)) := propext ⟨fun ⟨b, e, _, _, k⟩ => by cases e; exact k, fun k => ⟨a, rfl, ⟨h1, h2⟩, hi, k⟩⟩
theorem ldZ_e {h : Hp} {a : Nat} {i : Int32} {K : Int32 → Prop} (h1 : 200 ≤ kd h a) (h2 : kd h a < 300) (hi : vp_in i (ln h a)) : (ldZ h (some a) i K) = (K (aI h (kd h a) a i.toNatClampNeg)) := propext ⟨fun ⟨b, e, _, _, k⟩ => by cases e; exact k, fun k => ⟨a, rfl, ⟨h1, h2⟩, hi, k⟩⟩
theorem ldL_e {h : Hp} {a : Nat} {i : Int32} {K : Int64 → Prop} (h1 : 300 ≤ kd h a) (h2 : kd h a < 400) (hi : vp_in i (ln h a)) : (ldL h (some a) i K) = (K (aL h (kd h a) a i.toNatClampNeg)) := propext ⟨fun ⟨b, e, _, _, k⟩ => by cases e; exact k, fun k => ⟨a, rfl, ⟨h1, h2⟩, hi, k⟩⟩
theorem ldR_e {h : Hp} {a : Nat} {i : Int32} {K : Option Nat → Prop} (h1 : 400 ≤ kd h a) (h2 : rcOK (rcK (kd h a))) (hi : vp_in i (ln h a)) : (ldR h (some a) i K) = (K (aR h (kd h a) a i.toNatClampNeg)) := propext ⟨fun ⟨b, e, _, _, k⟩ => by cases e; exact k, fun k => ⟨a, rfl, ⟨h1, h2⟩, hi, k⟩⟩
theorem stI_e {h : Hp} {a : Nat} {i x : Int32} {K : Hp → Prop} (h1 : 100 ≤ kd h a) (h2 : kd h a < 200) (hi : vp_in i (ln h a)) : (stI h (some a) i x K) = (K (tI h (kd h a) a i.toNatClampNeg x)) := propext ⟨fun ⟨b, e, _, _, k⟩ => by cases e; exact k, fun k => ⟨a, rfl, ⟨h1, h2⟩, hi, k⟩⟩
theorem stZ_e {h : Hp} {a : Nat} {i x : Int32} {K : Hp → Prop} (h1 : 200 ≤ kd h a) (h2 : kd h a < 300) (hx : x = 0 ∨ x = 1) (hi : vp_in i (ln h a)) : (stZ h (some a) i x K) = (K (tI h (kd h a) a i.toNatClampNeg x)) := propext ⟨fun ⟨_, b, e, _, _, k⟩ => by cases e; exact k, fun k => ⟨hx, a, rfl, ⟨h1, h2⟩, hi, k⟩⟩
theorem stL_e {h : Hp} {a : Nat} {i : Int32} {x : Int64} {K : Hp → Prop} (h1 : 300 ≤ kd h a) (h2 : kd h a < 400) (hi : vp_in i (ln h a)) : (stL h (some a) i x K) = (K (tL h (kd h a) a i.toNatClampNeg x)) := propext ⟨fun ⟨b, e, _, _, k⟩ => by cases e; exact k, fun k => ⟨a, rfl, ⟨h1, h2⟩, hi, k⟩⟩
theorem stR_e {h : Hp} {a : Nat} {i : Int32} {x : Option Nat} {K : Hp → Prop} (h1 : 400 ≤ kd h a) (h2 : rcOK (rcK (kd h a))) (hx : ∀ b, x = some b → kd h b = rcK (kd h a) + 1) (hi : vp_in i (ln h a)) : (stR h (some a) i x K) = (K (tR h (kd h a) a i.toNatClampNeg x)) := propext ⟨fun ⟨b, e, _, _, _, k⟩ => by cases e; exact k, fun k => ⟨a, rfl, ⟨h1, h2⟩, hx, hi, k⟩⟩
theorem alN_e {h : Hp} {a : Nat} {K : Int32 → Prop} (h1 : 20 ≤ kd h a) (h2 : 400 ≤ kd h a → rcOK (rcK (kd h a))) : (alN h (some a) K) = (K (nI (ln h a))) := propext ⟨fun ⟨b, e, _, k⟩ => by cases e; exact k, fun k => ⟨a, rfl, ⟨h1, h2⟩, k⟩⟩
theorem nwA_e {h : Hp} {n : Int32} {k : Nat} {K : Option Nat → Hp → Prop} (h1 : ¬ n < 0) (h2 : n.toNatClampNeg ≤ 1000000) : (nwA h n k K) = (K (some (hn h)) (nw h k n.toNatClampNeg)) := propext ⟨fun q => q.2.2, fun k => ⟨h1, h2, k⟩⟩
theorem nwO_e {h : Hp} {k n : Nat} {K : Option Nat → Hp → Prop}  : (nwO h k n K) = (K (some (hn h)) (nw h k n)) := propext ⟨nwO_iff.mp, nwO_iff.mpr⟩
theorem dvI_e {x y : Int32} {K : Int32 → Prop} (hy : ¬ y = 0) : (dvI x y K) = (K (x / y)) := propext ⟨fun q => q.2, fun k => ⟨hy, k⟩⟩
theorem rmI_e {x y : Int32} {K : Int32 → Prop} (hy : ¬ y = 0) : (rmI x y K) = (K (x - x / y * y)) := propext ⟨fun q => q.2, fun k => ⟨hy, k⟩⟩
theorem oV_e {h : Hp} {b c : Nat} {P : Prop} (hk : kd h b = c) : (oV h (some b) c P) = (P) := propext ⟨fun q => q.2, fun k => ⟨⟨b, rfl, hk⟩, k⟩⟩
theorem oN_e {b : Nat} {P : Prop}  : (oN (some b) P) = (P) := propext ⟨fun q => q.2, fun k => ⟨⟨b, rfl⟩, k⟩⟩
theorem lt_e {α : Type} {x : α} {K : α → Prop}  : (lt x K) = (K x) := propext ⟨lt_iff.mp, lt_iff.mpr⟩
theorem rZ_e {x : Int32} {h : Hp} {Q : Int32 → Hp → Prop} (hx : x = 0 ∨ x = 1) : (rZ x h Q) = (Q x h) := propext ⟨fun q => q.2, fun k => ⟨hx, k⟩⟩
theorem br_y {c A B : Prop} (hc : c) : br c A B = A := propext ⟨fun q => q.1 hc, fun k => ⟨fun _ => k, fun q => absurd hc q⟩⟩
theorem br_n {c A B : Prop} (hc : ¬ c) : br c A B = B := propext ⟨fun q => q.2 hc, fun k => ⟨fun q => absurd q hc, fun _ => k⟩⟩
theorem br_T {A B : Prop} : br True A B = A := br_y trivial
theorem br_F {A B : Prop} : br False A B = B := br_n (fun q => q)
theorem br_same {c A : Prop} : br c A A = A := propext ⟨fun q => (Classical.em c).elim q.1 q.2, fun k => ⟨fun _ => k, fun _ => k⟩⟩
noncomputable def iF {α : Type} (p : Prop) (a b : α) : α := @ite α p (Classical.propDecidable p) a b
theorem iF_y {α : Type} {p : Prop} (h : p) (a b : α) : iF p a b = a := by unfold iF; exact if_pos h
theorem iF_n {α : Type} {p : Prop} (h : ¬ p) (a b : α) : iF p a b = b := by unfold iF; exact if_neg h
theorem iF_T {α : Type} (a b : α) : iF True a b = a := iF_y trivial a b
theorem iF_F {α : Type} (a b : α) : iF False a b = b := iF_n (fun q => q) a b
noncomputable def bI (p : Prop) : Int32 := iF p 1 0
theorem bI_T : bI True = 1 := iF_T 1 0
theorem bI_F : bI False = 0 := iF_F 1 0
theorem bI_y {p : Prop} (h : p) : bI p = 1 := iF_y h 1 0
theorem bI_n {p : Prop} (h : ¬ p) : bI p = 0 := iF_n h 1 0
theorem bI_0 (p : Prop) : (bI p = 0) = ¬ p := by
  by_cases h : p
  · rw [bI_y h]; simp [h]
  · rw [bI_n h]; simp [h]
theorem bI_1 (p : Prop) : (bI p = 1) = p := by
  by_cases h : p
  · rw [bI_y h]; simp [h]
  · rw [bI_n h]; simp [h]
theorem bI_01 (p : Prop) : bI p = 0 ∨ bI p = 1 := by
  by_cases h : p
  · exact Or.inr (bI_y h)
  · exact Or.inl (bI_n h)
theorem rZ_bI {p : Prop} {h : Hp} {Q : Int32 → Hp → Prop} : rZ (bI p) h Q = Q (bI p) h := rZ_e (bI_01 p)
theorem br_not {c A B : Prop} : br (¬ c) A B = br c B A := by
  by_cases h : c
  · rw [br_y h, br_n (fun q => q h)]
  · rw [br_n h, br_y h]
theorem le_nlt (a b : Int32) : (a ≤ b) = ¬ (b < a) := propext Int32.not_lt.symm
/-- sums as the programs make them -/
def acI (f : Nat → Int32) : Nat → Int32
  | 0 => 0
  | n + 1 => acI f n + f n
theorem acI_congr {f f2 : Nat → Int32} {n : Nat} (h : ∀ i, i < n → f i = f2 i) : acI f n = acI f2 n := by
  induction n with
  | zero => rfl
  | succ n ih => rw [acI, acI, ih (fun i hi => h i (by omega)), h n (by omega)]
theorem n1 (n : Nat) : nI n + 1 = nI (n + 1) := (nI_succ n).symm
theorem vp_dec (i : Int32) (n : Nat) : vp_in i n ↔ ¬ i < 0 ∧ i.toNatClampNeg < n := by
  unfold vp_in
  constructor
  · intro q
    exact ⟨fun z => q (Or.inl z), Nat.not_le.mp (fun z => q (Or.inr z))⟩
  · rintro ⟨a, b⟩ (z | z)
    · exact a z
    · omega
theorem vp_nN {i : Int32} {n : Nat} (h : vp_in i n) : i = nI i.toNatClampNeg := by
  have h1 := (vp_dec i n).mp h
  obtain ⟨j, hj, e⟩ := nI_of h1.1
  rw [e, nI_clamp hj]
/-- an index between 0 and a counter, as the programs ask -/
theorem in_iff {i : Int32} {n : Nat} (hn : n < 2 ^ 31) : vp_in i n ↔ (¬ i < 0 ∧ i < nI n) := by
  rw [vp_dec]
  constructor
  · rintro ⟨a, b⟩
    refine ⟨a, ?_⟩
    obtain ⟨j, hj, e⟩ := nI_of a
    rw [e] at b ⊢
    rw [nI_clamp hj] at b
    exact nI_lt b hn
  · rintro ⟨a, b⟩
    refine ⟨a, ?_⟩
    obtain ⟨j, hj, e⟩ := nI_of a
    rw [e] at b ⊢
    rw [nI_clamp hj]
    exact (nI_ltI hj hn).mp b
theorem in_iff1 {i : Int32} {n : Nat} (hn : n < 2 ^ 31) : vp_in i n ↔ (¬ i < 0 ∧ ¬ nI n - 1 < i) := by
  rw [in_iff hn]
  constructor
  · rintro ⟨a, b⟩
    refine ⟨a, fun c => ?_⟩
    obtain ⟨j, hj, e⟩ := nI_of a
    rw [e] at b c
    have b2 := (nI_ltI hj hn).mp b
    obtain ⟨n0, rfl⟩ : ∃ n0, n = n0 + 1 := ⟨n - 1, by omega⟩
    rw [nI_pred] at c
    have := (nI_ltI (by omega) hj).mp c
    omega
  · rintro ⟨a, b⟩
    refine ⟨a, ?_⟩
    obtain ⟨j, hj, e⟩ := nI_of a
    rw [e] at b ⊢
    rcases Nat.eq_zero_or_pos n with z | z
    · subst z
      exfalso
      apply b
      rw [show nI 0 - 1 = -1 by decide, Int32.lt_iff_toInt_lt, nI_toInt hj]
      have : (-1 : Int32).toInt = -1 := by decide
      omega
    · obtain ⟨n0, rfl⟩ : ∃ n0, n = n0 + 1 := ⟨n - 1, by omega⟩
      rw [nI_pred] at b
      have b2 : ¬ n0 < j := fun q => b (nI_lt q hj)
      exact nI_lt (by omega) hn
