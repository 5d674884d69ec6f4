-- ===== the rules' grammar: what a row of letters says, by its next letter =====
abbrev RS : Type := Nat × Int32
abbrev RT : Type := Int32 × Int32 × Int32 × Int32 × Int32
abbrev GR : Type := RS × List Int32 × List RT × ((RT → Prop) → Prop)
/-- which field a letter names -/
def fIx (c : Int32) : Nat := if c = 110 then 0 else if c = 98 then 1 else if c = 104 then 2 else if c = 116 then 3 else if c = 109 then 4 else if c = 119 then 5 else if c = 100 then 6 else if c = 121 then 7 else 8
/-- the next letter, at a place and with a fault or none -/
def grN (L : Nat → Int32) (n : Nat) (s : RS) : Int32 := if s.2 = -1 ∧ s.1 < n then L s.1 else -1
def grF (s : RS) : RS := if s.2 = -1 then (s.1, nI s.1) else s
noncomputable def grP (b : Prop) (s : RS) : RS := iF b (s.1 + 1, s.2) (grF s)
noncomputable def grW (N : RS → Int32) (c : Int32) (s : RS) : RS := grP (N s = c) s
def isDg (c : Int32) : Prop := ¬ c < 48 ∧ ¬ 57 < c
noncomputable def grDig (N : RS → Int32) : Nat → Nat → RS → Nat × RS
  | 0, v, s => (v, s)
  | r + 1, v, s => iF (isDg (N s) ∧ (r = 3 ∨ ¬ v = 0)) (grDig N r (10 * v + ((N s).toNatClampNeg - 48)) (s.1 + 1, s.2)) (v, s)
noncomputable def grFld (N : RS → Int32) (a : Int32) (s : RS) : (Int32 × Int32) × RS := iF (fIx (N s) < 8) ((a, N s), (s.1 + 1, s.2)) ((0, -1), grF s)
noncomputable def grNum (N : RS → Int32) (q : Nat × RS) : (Int32 × Int32) × RS := iF (N q.2 = 42) (grFld N (nI q.1) (q.2.1 + 1, q.2.2)) ((nI q.1, -1), q.2)
noncomputable def grSide (N : RS → Int32) (s : RS) : (Int32 × Int32) × RS := iF (isDg (N s)) (grNum N (grDig N 4 0 s)) (grFld N 1 s)
def grSg (c : Int32) : Prop := c = 60 ∨ c = 62 ∨ c = 61
noncomputable def grTst2 (N : RS → Int32) (l : (Int32 × Int32) × RS) (r : (Int32 × Int32) × RS) : RS × RT := (r.2, (l.1.1, l.1.2, N l.2, r.1.1, r.1.2))
noncomputable def grTst (N : RS → Int32) (s : RS) : RS × RT := grTst2 N (grSide N s) (grSide N (grP (grSg (N (grSide N s).2)) (grSide N s).2))
def grCmb (oc : Int32) (cmb : Prop → Prop → Prop) (r q : GR) : GR := (q.1, r.2.1 ++ q.2.1 ++ [oc], r.2.2.1 ++ q.2.2.1, fun E => cmb (r.2.2.2 E) (q.2.2.2 E))
noncomputable def grLoop (N : RS → Int32) (c oc : Int32) (cmb : Prop → Prop → Prop) (W : Nat → RS → GR) : Nat → GR → GR
  | 0, r => r
  | k + 1, r => iF (N r.1 = c) (grLoop N c oc cmb W k (grCmb oc cmb r (W r.2.2.1.length (r.1.1 + 1, r.1.2)))) r
def grNot (q : GR) : GR := (q.1, q.2.1 ++ [-1], q.2.2.1, fun E => ¬ q.2.2.2 E)
noncomputable def grPar (N : RS → Int32) (q : GR) : GR := (grW N 41 q.1, q.2)
def grNil (s : RS) : GR := (s, [], [], fun _ => False)
def grLeaf (t : Nat) (q : RS × RT) : GR := (q.1, [nI t], [q.2], fun E => E q.2)
/-- what is read: any (0), all (1) or one (2), so deep, with so many tests before -/
noncomputable def grG (N : RS → Int32) : Nat → Nat → Nat → Nat → RS → GR
  | 0, _, _, _, s => grNil s
  | f + 1, k, d, t, s => if k = 0 then grLoop N 124 (-3) Or (fun t2 s2 => grG N f 1 d (t + t2) s2) 60 (grG N f 1 d t s) else if k = 1 then grLoop N 38 (-2) And (fun t2 s2 => grG N f 2 d (t + t2) s2) 60 (grG N f 2 d t s) else iF (N s = 33 ∨ N s = 40) (iF (d < 20) (iF (N s = 33) (grNot (grG N f 2 (d + 1) t (s.1 + 1, s.2))) (grPar N (grG N f 0 (d + 1) t (s.1 + 1, s.2)))) (grNil (grF s))) (grLeaf t (grTst N s))
/-- what it keeps by, where it names its join, and how the reading ends -/
noncomputable def grA (N : RS → Int32) : GR := grG N 70 0 0 0 (grW N 58 (grW N 107 (0, -1)))
noncomputable def grZ (N : RS → Int32) : RS := grW N 58 (grW N 106 (grW N 59 (grA N).1))
def grJo (c : Int32) : Prop := c = 120 ∨ c = 108 ∨ c = 99
noncomputable def grE2 (n : Nat) (s : RS) : RS := iF (s.1 < n) (grF s) s
noncomputable def grE (N : RS → Int32) (n : Nat) : RS := grE2 n (grP (grJo (N (grZ N))) (grZ N))
/-- the reference's steps of a rule say what its letters say -/
def ruleOK (let_ : Nat → Int32) (n : Nat) (code : Nat → Int32) (cn : Int32) (lb lf sg rb rf : Nat → Int32) (mode : Int32) : Prop := n ≤ 60 ∧ (grE (grN let_ n) n).2 = -1 ∧ 2 * (grA (grN let_ n)).2.2.1.length + (grA (grN let_ n)).2.1.length ≤ n ∧ cn = nI (grA (grN let_ n)).2.1.length ∧ (∀ j, j < (grA (grN let_ n)).2.1.length → code j = (grA (grN let_ n)).2.1.getD j 0) ∧ (∀ j, j < (grA (grN let_ n)).2.2.1.length → (lb j, lf j, sg j, rb j, rf j) = (grA (grN let_ n)).2.2.1.getD j (0, 0, 0, 0, 0)) ∧ ∃ d, d < 3 ∧ mode = nI (d + 1) ∧ grN let_ n (grZ (grN let_ n)) = jnV d
