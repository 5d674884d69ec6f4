theorem fR_sI (h : Hp) (f0 a0 : Nat) (v : Int32) (f a : Nat) : fR (sI h f0 a0 v) f a = fR h f a := rfl
theorem aI_sI (h : Hp) (f0 a0 : Nat) (v : Int32) (k a j : Nat) : aI (sI h f0 a0 v) k a j = aI h k a j := rfl
theorem aL_sI (h : Hp) (f0 a0 : Nat) (v : Int32) (k a j : Nat) : aL (sI h f0 a0 v) k a j = aL h k a j := rfl
theorem aR_sI (h : Hp) (f0 a0 : Nat) (v : Int32) (k a j : Nat) : aR (sI h f0 a0 v) k a j = aR h k a j := rfl
theorem kd_sI (h : Hp) (f0 a0 : Nat) (v : Int32) (a : Nat) : kd (sI h f0 a0 v) a = kd h a := rfl
theorem ln_sI (h : Hp) (f0 a0 : Nat) (v : Int32) (a : Nat) : ln (sI h f0 a0 v) a = ln h a := rfl
theorem hn_sI (h : Hp) (f0 a0 : Nat) (v : Int32) : hn (sI h f0 a0 v) = hn h := rfl
theorem hm_sI (h : Hp) (f0 a0 : Nat) (v : Int32) : hm (sI h f0 a0 v) = hm h := rfl
theorem fI_sI_n (h : Hp) (f0 a0 : Nat) (v : Int32) (f a : Nat) (hf : f ≠ f0) : fI (sI h f0 a0 v) f a = fI h f a := if_neg (fun q => hf q.1)
theorem fI_sI_e (h : Hp) (f0 a0 : Nat) (v : Int32) (a : Nat) : fI (sI h f0 a0 v) f0 a = if a = a0 then v else fI h f0 a := by
  unfold fI sI u2
  simp
theorem fI_sR (h : Hp) (f0 a0 : Nat) (v : Option Nat) (f a : Nat) : fI (sR h f0 a0 v) f a = fI h f a := rfl
theorem aI_sR (h : Hp) (f0 a0 : Nat) (v : Option Nat) (k a j : Nat) : aI (sR h f0 a0 v) k a j = aI h k a j := rfl
theorem aL_sR (h : Hp) (f0 a0 : Nat) (v : Option Nat) (k a j : Nat) : aL (sR h f0 a0 v) k a j = aL h k a j := rfl
theorem aR_sR (h : Hp) (f0 a0 : Nat) (v : Option Nat) (k a j : Nat) : aR (sR h f0 a0 v) k a j = aR h k a j := rfl
theorem kd_sR (h : Hp) (f0 a0 : Nat) (v : Option Nat) (a : Nat) : kd (sR h f0 a0 v) a = kd h a := rfl
theorem ln_sR (h : Hp) (f0 a0 : Nat) (v : Option Nat) (a : Nat) : ln (sR h f0 a0 v) a = ln h a := rfl
theorem hn_sR (h : Hp) (f0 a0 : Nat) (v : Option Nat) : hn (sR h f0 a0 v) = hn h := rfl
theorem hm_sR (h : Hp) (f0 a0 : Nat) (v : Option Nat) : hm (sR h f0 a0 v) = hm h := rfl
theorem fR_sR_n (h : Hp) (f0 a0 : Nat) (v : Option Nat) (f a : Nat) (hf : f ≠ f0) : fR (sR h f0 a0 v) f a = fR h f a := if_neg (fun q => hf q.1)
theorem fR_sR_e (h : Hp) (f0 a0 : Nat) (v : Option Nat) (a : Nat) : fR (sR h f0 a0 v) f0 a = if a = a0 then v else fR h f0 a := by
  unfold fR sR u2
  simp
theorem fI_tI (h : Hp) (k0 a0 j0 : Nat) (v : Int32) (f a : Nat) : fI (tI h k0 a0 j0 v) f a = fI h f a := rfl
theorem fR_tI (h : Hp) (k0 a0 j0 : Nat) (v : Int32) (f a : Nat) : fR (tI h k0 a0 j0 v) f a = fR h f a := rfl
theorem aL_tI (h : Hp) (k0 a0 j0 : Nat) (v : Int32) (k a j : Nat) : aL (tI h k0 a0 j0 v) k a j = aL h k a j := rfl
theorem aR_tI (h : Hp) (k0 a0 j0 : Nat) (v : Int32) (k a j : Nat) : aR (tI h k0 a0 j0 v) k a j = aR h k a j := rfl
theorem kd_tI (h : Hp) (k0 a0 j0 : Nat) (v : Int32) (a : Nat) : kd (tI h k0 a0 j0 v) a = kd h a := rfl
theorem ln_tI (h : Hp) (k0 a0 j0 : Nat) (v : Int32) (a : Nat) : ln (tI h k0 a0 j0 v) a = ln h a := rfl
theorem hn_tI (h : Hp) (k0 a0 j0 : Nat) (v : Int32) : hn (tI h k0 a0 j0 v) = hn h := rfl
theorem hm_tI (h : Hp) (k0 a0 j0 : Nat) (v : Int32) : hm (tI h k0 a0 j0 v) = hm h := rfl
theorem aI_tI_n (h : Hp) (k0 a0 j0 : Nat) (v : Int32) (k a j : Nat) (hk : k ≠ k0) : aI (tI h k0 a0 j0 v) k a j = aI h k a j := if_neg (fun q => hk q.1)
theorem aI_tI_e (h : Hp) (k0 a0 j0 : Nat) (v : Int32) (a j : Nat) : aI (tI h k0 a0 j0 v) k0 a j = if a = a0 ∧ j = j0 then v else aI h k0 a j := by
  unfold aI tI u3
  simp
theorem fI_tL (h : Hp) (k0 a0 j0 : Nat) (v : Int64) (f a : Nat) : fI (tL h k0 a0 j0 v) f a = fI h f a := rfl
theorem fR_tL (h : Hp) (k0 a0 j0 : Nat) (v : Int64) (f a : Nat) : fR (tL h k0 a0 j0 v) f a = fR h f a := rfl
theorem aI_tL (h : Hp) (k0 a0 j0 : Nat) (v : Int64) (k a j : Nat) : aI (tL h k0 a0 j0 v) k a j = aI h k a j := rfl
theorem aR_tL (h : Hp) (k0 a0 j0 : Nat) (v : Int64) (k a j : Nat) : aR (tL h k0 a0 j0 v) k a j = aR h k a j := rfl
theorem kd_tL (h : Hp) (k0 a0 j0 : Nat) (v : Int64) (a : Nat) : kd (tL h k0 a0 j0 v) a = kd h a := rfl
theorem ln_tL (h : Hp) (k0 a0 j0 : Nat) (v : Int64) (a : Nat) : ln (tL h k0 a0 j0 v) a = ln h a := rfl
theorem hn_tL (h : Hp) (k0 a0 j0 : Nat) (v : Int64) : hn (tL h k0 a0 j0 v) = hn h := rfl
theorem hm_tL (h : Hp) (k0 a0 j0 : Nat) (v : Int64) : hm (tL h k0 a0 j0 v) = hm h := rfl
theorem aL_tL_n (h : Hp) (k0 a0 j0 : Nat) (v : Int64) (k a j : Nat) (hk : k ≠ k0) : aL (tL h k0 a0 j0 v) k a j = aL h k a j := if_neg (fun q => hk q.1)
theorem aL_tL_e (h : Hp) (k0 a0 j0 : Nat) (v : Int64) (a j : Nat) : aL (tL h k0 a0 j0 v) k0 a j = if a = a0 ∧ j = j0 then v else aL h k0 a j := by
  unfold aL tL u3
  simp
theorem fI_tR (h : Hp) (k0 a0 j0 : Nat) (v : Option Nat) (f a : Nat) : fI (tR h k0 a0 j0 v) f a = fI h f a := rfl
theorem fR_tR (h : Hp) (k0 a0 j0 : Nat) (v : Option Nat) (f a : Nat) : fR (tR h k0 a0 j0 v) f a = fR h f a := rfl
theorem aI_tR (h : Hp) (k0 a0 j0 : Nat) (v : Option Nat) (k a j : Nat) : aI (tR h k0 a0 j0 v) k a j = aI h k a j := rfl
theorem aL_tR (h : Hp) (k0 a0 j0 : Nat) (v : Option Nat) (k a j : Nat) : aL (tR h k0 a0 j0 v) k a j = aL h k a j := rfl
theorem kd_tR (h : Hp) (k0 a0 j0 : Nat) (v : Option Nat) (a : Nat) : kd (tR h k0 a0 j0 v) a = kd h a := rfl
theorem ln_tR (h : Hp) (k0 a0 j0 : Nat) (v : Option Nat) (a : Nat) : ln (tR h k0 a0 j0 v) a = ln h a := rfl
theorem hn_tR (h : Hp) (k0 a0 j0 : Nat) (v : Option Nat) : hn (tR h k0 a0 j0 v) = hn h := rfl
theorem hm_tR (h : Hp) (k0 a0 j0 : Nat) (v : Option Nat) : hm (tR h k0 a0 j0 v) = hm h := rfl
theorem aR_tR_n (h : Hp) (k0 a0 j0 : Nat) (v : Option Nat) (k a j : Nat) (hk : k ≠ k0) : aR (tR h k0 a0 j0 v) k a j = aR h k a j := if_neg (fun q => hk q.1)
theorem aR_tR_e (h : Hp) (k0 a0 j0 : Nat) (v : Option Nat) (a j : Nat) : aR (tR h k0 a0 j0 v) k0 a j = if a = a0 ∧ j = j0 then v else aR h k0 a j := by
  unfold aR tR u3
  simp
theorem fI_nw (h : Hp) (k n f a : Nat) : fI (nw h k n) f a = if a = hn h then 0 else fI h f a := rfl
theorem fI_nw_o (h : Hp) (k n f a : Nat) (ha : a ≠ hn h) : fI (nw h k n) f a = fI h f a := if_neg ha
theorem fR_nw (h : Hp) (k n f a : Nat) : fR (nw h k n) f a = if a = hn h then none else fR h f a := rfl
theorem fR_nw_o (h : Hp) (k n f a : Nat) (ha : a ≠ hn h) : fR (nw h k n) f a = fR h f a := if_neg ha
theorem aI_nw (h : Hp) (k n c a j : Nat) : aI (nw h k n) c a j = if a = hn h then 0 else aI h c a j := rfl
theorem aI_nw_o (h : Hp) (k n c a j : Nat) (ha : a ≠ hn h) : aI (nw h k n) c a j = aI h c a j := if_neg ha
theorem aL_nw (h : Hp) (k n c a j : Nat) : aL (nw h k n) c a j = if a = hn h then 0 else aL h c a j := rfl
theorem aL_nw_o (h : Hp) (k n c a j : Nat) (ha : a ≠ hn h) : aL (nw h k n) c a j = aL h c a j := if_neg ha
theorem aR_nw (h : Hp) (k n c a j : Nat) : aR (nw h k n) c a j = if a = hn h then none else aR h c a j := rfl
theorem aR_nw_o (h : Hp) (k n c a j : Nat) (ha : a ≠ hn h) : aR (nw h k n) c a j = aR h c a j := if_neg ha
theorem kd_nw (h : Hp) (k n a : Nat) : kd (nw h k n) a = if a = hn h then k else kd h a := rfl
theorem kd_nw_o (h : Hp) (k n a : Nat) (ha : a ≠ hn h) : kd (nw h k n) a = kd h a := if_neg ha
theorem ln_nw (h : Hp) (k n a : Nat) : ln (nw h k n) a = if a = hn h then n else ln h a := rfl
theorem ln_nw_o (h : Hp) (k n a : Nat) (ha : a ≠ hn h) : ln (nw h k n) a = ln h a := if_neg ha
theorem hn_nw (h : Hp) (k n : Nat) : hn (nw h k n) = hn h + 1 := rfl
theorem hm_nw (h : Hp) (k n : Nat) : hm (nw h k n) = hm h + n := rfl
theorem gI_e {h : Hp} {a c f : Nat} {K : Int32 → Prop} (hk : kd h a = c) : (gI h (some a) c f K) = (K (fI h f a)) := propext ⟨fun ⟨b, e, _, k⟩ => by cases e; exact k, fun k => ⟨a, rfl, hk, k⟩⟩
theorem gR_e {h : Hp} {a c f : Nat} {K : Option Nat → Prop} (hk : kd h a = c) : (gR h (some a) c f K) = (K (fR h f a)) := propext ⟨fun ⟨b, e, _, k⟩ => by cases e; exact k, fun k => ⟨a, rfl, hk, k⟩⟩
theorem pI_e {h : Hp} {a c f : Nat} {x : Int32} {K : Hp → Prop} (hk : kd h a = c) : (pI h (some a) c f x K) = (K (sI h f a x)) := propext ⟨fun ⟨b, e, _, k⟩ => by cases e; exact k, fun k => ⟨a, rfl, hk, k⟩⟩
theorem pZ_e {h : Hp} {a c f : Nat} {x : Int32} {K : Hp → Prop} (hk : kd h a = c) (hx : x = 0 ∨ x = 1) : (pZ h (some a) c f x K) = (K (sI h f a x)) := propext ⟨fun ⟨_, b, e, _, k⟩ => by cases e; exact k, fun k => ⟨hx, a, rfl, hk, k⟩⟩
theorem pR_e {h : Hp} {a c f : Nat} {x : Option Nat} {K : Hp → Prop} (hk : kd h a = c) : (pR h (some a) c f x K) = (K (sR h f a x)) := propext ⟨fun ⟨b, e, _, k⟩ => by cases e; exact k, fun k => ⟨a, rfl, hk, k⟩⟩
theorem ldI_e {h : Hp} {a : Nat} {i : Int32} {K : Int32 → Prop} (h1 : 20 ≤ kd h a) (h2 : kd h a < 200) (hi : vp_in i (ln h a)) : (ldI h (some a) i K) = (K (aI h (kd h a) a i.toNatClampNeg)) := propext ⟨fun ⟨b, e, _, _, k⟩ => by cases e; exact k, fun k => ⟨a, rfl, ⟨h1, h2⟩, hi, k⟩⟩
theorem ldZ_e {h : Hp} {a : Nat} {i : Int32} {K : Int32 → Prop} (h1 : 200 ≤ kd h a) (h2 : kd h a < 300) (hi : vp_in i (ln h a)) : (ldZ h (some a) i K) = (K (aI h (kd h a) a i.toNatClampNeg)) := propext ⟨fun ⟨b, e, _, _, k⟩ => by cases e; exact k, fun k => ⟨a, rfl, ⟨h1, h2⟩, hi, k⟩⟩
theorem ldL_e {h : Hp} {a : Nat} {i : Int32} {K : Int64 → Prop} (h1 : 300 ≤ kd h a) (h2 : kd h a < 400) (hi : vp_in i (ln h a)) : (ldL h (some a) i K) = (K (aL h (kd h a) a i.toNatClampNeg)) := propext ⟨fun ⟨b, e, _, _, k⟩ => by cases e; exact k, fun k => ⟨a, rfl, ⟨h1, h2⟩, hi, k⟩⟩
theorem ldR_e {h : Hp} {a : Nat} {i : Int32} {K : Option Nat → Prop} (h1 : 400 ≤ kd h a) (h2 : rcOK (rcK (kd h a))) (hi : vp_in i (ln h a)) : (ldR h (some a) i K) = (K (aR h (kd h a) a i.toNatClampNeg)) := propext ⟨fun ⟨b, e, _, _, k⟩ => by cases e; exact k, fun k => ⟨a, rfl, ⟨h1, h2⟩, hi, k⟩⟩
theorem stI_e {h : Hp} {a : Nat} {i x : Int32} {K : Hp → Prop} (h1 : 100 ≤ kd h a) (h2 : kd h a < 200) (hi : vp_in i (ln h a)) : (stI h (some a) i x K) = (K (tI h (kd h a) a i.toNatClampNeg x)) := propext ⟨fun ⟨b, e, _, _, k⟩ => by cases e; exact k, fun k => ⟨a, rfl, ⟨h1, h2⟩, hi, k⟩⟩
theorem stZ_e {h : Hp} {a : Nat} {i x : Int32} {K : Hp → Prop} (h1 : 200 ≤ kd h a) (h2 : kd h a < 300) (hx : x = 0 ∨ x = 1) (hi : vp_in i (ln h a)) : (stZ h (some a) i x K) = (K (tI h (kd h a) a i.toNatClampNeg x)) := propext ⟨fun ⟨_, b, e, _, _, k⟩ => by cases e; exact k, fun k => ⟨hx, a, rfl, ⟨h1, h2⟩, hi, k⟩⟩
theorem stL_e {h : Hp} {a : Nat} {i : Int32} {x : Int64} {K : Hp → Prop} (h1 : 300 ≤ kd h a) (h2 : kd h a < 400) (hi : vp_in i (ln h a)) : (stL h (some a) i x K) = (K (tL h (kd h a) a i.toNatClampNeg x)) := propext ⟨fun ⟨b, e, _, _, k⟩ => by cases e; exact k, fun k => ⟨a, rfl, ⟨h1, h2⟩, hi, k⟩⟩
theorem stR_e {h : Hp} {a : Nat} {i : Int32} {x : Option Nat} {K : Hp → Prop} (h1 : 400 ≤ kd h a) (h2 : rcOK (rcK (kd h a))) (hx : ∀ b, x = some b → kd h b = rcK (kd h a) + 1) (hi : vp_in i (ln h a)) : (stR h (some a) i x K) = (K (tR h (kd h a) a i.toNatClampNeg x)) := propext ⟨fun ⟨b, e, _, _, _, k⟩ => by cases e; exact k, fun k => ⟨a, rfl, ⟨h1, h2⟩, hx, hi, k⟩⟩
theorem alN_e {h : Hp} {a : Nat} {K : Int32 → Prop} (h1 : 20 ≤ kd h a) (h2 : 400 ≤ kd h a → rcOK (rcK (kd h a))) : (alN h (some a) K) = (K (nI (ln h a))) := propext ⟨fun ⟨b, e, _, k⟩ => by cases e; exact k, fun k => ⟨a, rfl, ⟨h1, h2⟩, k⟩⟩
theorem nwA_e {h : Hp} {n : Int32} {k : Nat} {K : Option Nat → Hp → Prop} (h1 : ¬ n < 0) (h2 : n.toNatClampNeg ≤ 1000000) : (nwA h n k K) = (K (some (hn h)) (nw h k n.toNatClampNeg)) := propext ⟨fun q => q.2.2, fun k => ⟨h1, h2, k⟩⟩
theorem nwO_e {h : Hp} {k n : Nat} {K : Option Nat → Hp → Prop}  : (nwO h k n K) = (K (some (hn h)) (nw h k n)) := propext ⟨nwO_iff.mp, nwO_iff.mpr⟩
theorem dvI_e {x y : Int32} {K : Int32 → Prop} (hy : ¬ y = 0) : (dvI x y K) = (K (x / y)) := propext ⟨fun q => q.2, fun k => ⟨hy, k⟩⟩
theorem rmI_e {x y : Int32} {K : Int32 → Prop} (hy : ¬ y = 0) : (rmI x y K) = (K (x - x / y * y)) := propext ⟨fun q => q.2, fun k => ⟨hy, k⟩⟩
theorem oV_e {h : Hp} {b c : Nat} {P : Prop} (hk : kd h b = c) : (oV h (some b) c P) = (P) := propext ⟨fun q => q.2, fun k => ⟨⟨b, rfl, hk⟩, k⟩⟩
theorem oN_e {b : Nat} {P : Prop}  : (oN (some b) P) = (P) := propext ⟨fun q => q.2, fun k => ⟨⟨b, rfl⟩, k⟩⟩
theorem lt_e {α : Type} {x : α} {K : α → Prop}  : (lt x K) = (K x) := propext ⟨lt_iff.mp, lt_iff.mpr⟩
theorem rZ_e {x : Int32} {h : Hp} {Q : Int32 → Hp → Prop} (hx : x = 0 ∨ x = 1) : (rZ x h Q) = (Q x h) := propext ⟨fun q => q.2, fun k => ⟨hx, k⟩⟩
theorem br_y {c A B : Prop} (hc : c) : br c A B = A := propext ⟨fun q => q.1 hc, fun k => ⟨fun _ => k, fun q => absurd hc q⟩⟩
theorem br_n {c A B : Prop} (hc : ¬ c) : br c A B = B := propext ⟨fun q => q.2 hc, fun k => ⟨fun q => absurd q hc, fun _ => k⟩⟩
theorem br_T {A B : Prop} : br True A B = A := br_y trivial
theorem br_F {A B : Prop} : br False A B = B := br_n (fun q => q)
theorem br_same {c A : Prop} : br c A A = A := propext ⟨fun q => (Classical.em c).elim q.1 q.2, fun k => ⟨fun _ => k, fun _ => k⟩⟩
