/-- the reference: its arrays, by kind -/
def JM (y : Nat) (m : Nat → Nat) (h : Hp) : Prop :=
  kd h y = 12 ∧
  fR h 1415 y = some (m 120) ∧
  kd h (m 120) = 120 ∧
  ln h (m 120) = 24 ∧
  fR h 1416 y = some (m 121) ∧
  kd h (m 121) = 121 ∧
  ln h (m 121) = 24 ∧
  fR h 1417 y = some (m 122) ∧
  kd h (m 122) = 122 ∧
  ln h (m 122) = 24 ∧
  fR h 1418 y = some (m 123) ∧
  kd h (m 123) = 123 ∧
  ln h (m 123) = 24 ∧
  fR h 1419 y = some (m 124) ∧
  kd h (m 124) = 124 ∧
  ln h (m 124) = 24 ∧
  fR h 1420 y = some (m 125) ∧
  kd h (m 125) = 125 ∧
  ln h (m 125) = 24 ∧
  fR h 1421 y = some (m 126) ∧
  kd h (m 126) = 126 ∧
  ln h (m 126) = 24 ∧
  fR h 1422 y = some (m 127) ∧
  kd h (m 127) = 127 ∧
  ln h (m 127) = 384 ∧
  fR h 1423 y = some (m 200) ∧
  kd h (m 200) = 200 ∧
  ln h (m 200) = 24 ∧
  fR h 1424 y = some (m 128) ∧
  kd h (m 128) = 128 ∧
  ln h (m 128) = 8 ∧
  fR h 1425 y = some (m 129) ∧
  kd h (m 129) = 129 ∧
  ln h (m 129) = 8 ∧
  fR h 1426 y = some (m 130) ∧
  kd h (m 130) = 130 ∧
  ln h (m 130) = 8 ∧
  fR h 1427 y = some (m 131) ∧
  kd h (m 131) = 131 ∧
  ln h (m 131) = 8 ∧
  fR h 1428 y = some (m 310) ∧
  kd h (m 310) = 310 ∧
  ln h (m 310) = 480 ∧
  fR h 1429 y = some (m 311) ∧
  kd h (m 311) = 311 ∧
  ln h (m 311) = 60 ∧
  fR h 1430 y = some (m 132) ∧
  kd h (m 132) = 132 ∧
  ln h (m 132) = 160 ∧
  fR h 1431 y = some (m 133) ∧
  kd h (m 133) = 133 ∧
  ln h (m 133) = 160 ∧
  fR h 1432 y = some (m 134) ∧
  kd h (m 134) = 134 ∧
  ln h (m 134) = 160 ∧
  fR h 1433 y = some (m 135) ∧
  kd h (m 135) = 135 ∧
  ln h (m 135) = 160 ∧
  fR h 1434 y = some (m 136) ∧
  kd h (m 136) = 136 ∧
  ln h (m 136) = 160 ∧
  fR h 1435 y = some (m 137) ∧
  kd h (m 137) = 137 ∧
  ln h (m 137) = 160 ∧
  fR h 1436 y = some (m 138) ∧
  kd h (m 138) = 138 ∧
  ln h (m 138) = 160 ∧
  fR h 1437 y = some (m 139) ∧
  kd h (m 139) = 139 ∧
  ln h (m 139) = 160 ∧
  fR h 1438 y = some (m 140) ∧
  kd h (m 140) = 140 ∧
  ln h (m 140) = 160 ∧
  fR h 1439 y = some (m 141) ∧
  kd h (m 141) = 141 ∧
  ln h (m 141) = 160 ∧
  fR h 1440 y = some (m 142) ∧
  kd h (m 142) = 142 ∧
  ln h (m 142) = 160 ∧
  fR h 1441 y = some (m 143) ∧
  kd h (m 143) = 143 ∧
  ln h (m 143) = 160 ∧
  fR h 1442 y = some (m 201) ∧
  kd h (m 201) = 201 ∧
  ln h (m 201) = 160 ∧
  fR h 1443 y = some (m 202) ∧
  kd h (m 202) = 202 ∧
  ln h (m 202) = 160 ∧
  fR h 1444 y = some (m 203) ∧
  kd h (m 203) = 203 ∧
  ln h (m 203) = 160 ∧
  fR h 1445 y = some (m 312) ∧
  kd h (m 312) = 312 ∧
  ln h (m 312) = 3200 ∧
  fR h 1446 y = some (m 144) ∧
  kd h (m 144) = 144 ∧
  ln h (m 144) = 8 ∧
  fR h 1447 y = some (m 145) ∧
  kd h (m 145) = 145 ∧
  ln h (m 145) = 8 ∧
  fR h 1448 y = some (m 146) ∧
  kd h (m 146) = 146 ∧
  ln h (m 146) = 8 ∧
  fR h 1449 y = some (m 147) ∧
  kd h (m 147) = 147 ∧
  ln h (m 147) = 8 ∧
  fR h 1450 y = some (m 313) ∧
  kd h (m 313) = 313 ∧
  ln h (m 313) = 480 ∧
  fR h 1451 y = some (m 148) ∧
  kd h (m 148) = 148 ∧
  ln h (m 148) = 13 ∧
  fR h 1452 y = some (m 149) ∧
  kd h (m 149) = 149 ∧
  ln h (m 149) = 13 ∧
  fR h 1453 y = some (m 150) ∧
  kd h (m 150) = 150 ∧
  ln h (m 150) = 13 ∧
  fR h 1454 y = some (m 151) ∧
  kd h (m 151) = 151 ∧
  ln h (m 151) = 13 ∧
  fR h 1455 y = some (m 152) ∧
  kd h (m 152) = 152 ∧
  ln h (m 152) = 13 ∧
  fR h 1456 y = some (m 153) ∧
  kd h (m 153) = 153 ∧
  ln h (m 153) = 1300 ∧
  fR h 1457 y = some (m 154) ∧
  kd h (m 154) = 154 ∧
  ln h (m 154) = 520 ∧
  fR h 1458 y = some (m 155) ∧
  kd h (m 155) = 155 ∧
  ln h (m 155) = 520 ∧
  fR h 1459 y = some (m 156) ∧
  kd h (m 156) = 156 ∧
  ln h (m 156) = 520 ∧
  fR h 1460 y = some (m 157) ∧
  kd h (m 157) = 157 ∧
  ln h (m 157) = 520 ∧
  fR h 1461 y = some (m 158) ∧
  kd h (m 158) = 158 ∧
  ln h (m 158) = 520 ∧
  fR h 1462 y = some (m 159) ∧
  kd h (m 159) = 159 ∧
  ln h (m 159) = 20 ∧
  fR h 1463 y = some (m 160) ∧
  kd h (m 160) = 160 ∧
  ln h (m 160) = 20 ∧
  fR h 1464 y = some (m 204) ∧
  kd h (m 204) = 204 ∧
  ln h (m 204) = 256 ∧
  fR h 1465 y = some (m 161) ∧
  kd h (m 161) = 161 ∧
  ln h (m 161) = 8 ∧
  fR h 1466 y = some (m 162) ∧
  kd h (m 162) = 162 ∧
  ln h (m 162) = 441 ∧
  fR h 1467 y = some (m 163) ∧
  kd h (m 163) = 163 ∧
  ln h (m 163) = 120 ∧
  fR h 1477 y = some (m 164) ∧
  kd h (m 164) = 164 ∧
  ln h (m 164) = 160 ∧
  fR h 1478 y = some (m 165) ∧
  kd h (m 165) = 165 ∧
  ln h (m 165) = 24 ∧
  fR h 1480 y = some (m 166) ∧
  kd h (m 166) = 166 ∧
  ln h (m 166) = 60 ∧
  fR h 1481 y = some (m 167) ∧
  kd h (m 167) = 167 ∧
  ln h (m 167) = 160 ∧
  fR h 1483 y = some (m 168) ∧
  kd h (m 168) = 168 ∧
  ln h (m 168) = 10 ∧
  fR h 1484 y = some (m 169) ∧
  kd h (m 169) = 169 ∧
  ln h (m 169) = 10 ∧
  fR h 1485 y = some (m 170) ∧
  kd h (m 170) = 170 ∧
  ln h (m 170) = 10 ∧
  fR h 1486 y = some (m 171) ∧
  kd h (m 171) = 171 ∧
  ln h (m 171) = 10
/-- the class: its one object and what it holds of each kind -/
def JS (x : Nat) (g : Nat → Nat → Nat) (h : Hp) : Prop :=
  kd h x = 11 ∧
  fR h 1280 x = some (g 0 0) ∧
  kd h (g 0 0) = 405 ∧
  ln h (g 0 0) = 24 ∧
  fR h 1281 x = some (g 0 1) ∧
  kd h (g 0 1) = 409 ∧
  ln h (g 0 1) = 8 ∧
  fR h 1282 x = some (g 0 2) ∧
  kd h (g 0 2) = 440 ∧
  ln h (g 0 2) = 160 ∧
  fR h 1283 x = some (g 0 3) ∧
  kd h (g 0 3) = 403 ∧
  ln h (g 0 3) = 8 ∧
  fR h 1284 x = some (g 0 4) ∧
  kd h (g 0 4) = 407 ∧
  ln h (g 0 4) = 12 ∧
  fR h 1285 x = some (g 0 5) ∧
  kd h (g 0 5) = 404 ∧
  ln h (g 0 5) = 20 ∧
  fR h 1286 x = some (g 0 6) ∧
  kd h (g 0 6) = 110 ∧
  ln h (g 0 6) = 7 ∧
  fR h 1287 x = some (g 0 7) ∧
  kd h (g 0 7) = 111 ∧
  ln h (g 0 7) = 21 ∧
  fR h 1288 x = some (g 0 8) ∧
  kd h (g 0 8) = 9 ∧
  fR h 1289 x = some (g 0 9) ∧
  kd h (g 0 9) = 3 ∧
  fR h 1290 x = some (g 0 10) ∧
  kd h (g 0 10) = 7 ∧
  fR h 1291 x = some (g 0 11) ∧
  kd h (g 0 11) = 2 ∧
  fR h 1024 (g 0 8) = some (g 0 12) ∧
  kd h (g 0 12) = 108 ∧
  ln h (g 0 12) = 60 ∧
  fR h 1025 (g 0 8) = some (g 0 13) ∧
  kd h (g 0 13) = 109 ∧
  ln h (g 0 13) = 8 ∧
  fR h 256 (g 0 9) = some (g 0 14) ∧
  kd h (g 0 14) = 400 ∧
  ln h (g 0 14) = 160 ∧
  fR h 257 (g 0 9) = some (g 0 15) ∧
  kd h (g 0 15) = 102 ∧
  ln h (g 0 15) = 161 ∧
  fR h 258 (g 0 9) = some (g 0 16) ∧
  kd h (g 0 16) = 103 ∧
  ln h (g 0 16) = 160 ∧
  fR h 768 (g 0 10) = some (g 0 17) ∧
  kd h (g 0 17) = 105 ∧
  ln h (g 0 17) = 16 ∧
  fR h 769 (g 0 10) = some (g 0 18) ∧
  kd h (g 0 18) = 106 ∧
  ln h (g 0 18) = 12 ∧
  fR h 770 (g 0 10) = some (g 0 19) ∧
  kd h (g 0 19) = 107 ∧
  ln h (g 0 19) = 12 ∧
  fR h 128 (g 0 11) = some (g 0 20) ∧
  kd h (g 0 20) = 100 ∧
  ln h (g 0 20) = 10 ∧
  fR h 129 (g 0 11) = some (g 0 21) ∧
  kd h (g 0 21) = 101 ∧
  ln h (g 0 21) = 10
/-- the counters, by their numbers -/
def JC (x y np na nm nr ne : Nat) (h : Hp) : Prop :=
  (fI h 1292 x = nI np ∧ fI h 1293 x = nI na ∧ fI h 1294 x = nI nm ∧ fI h 1295 x = nI nr ∧ fI h 1296 x = nI ne ∧
  fI h 1409 y = nI np ∧ fI h 1410 y = nI na ∧ fI h 1411 y = nI nm ∧ fI h 1412 y = nI nr ∧ fI h 1413 y = nI ne ∧
  fI h 1297 x = fI h 1408 y ∧ fI h 1298 x = fI h 1414 y) ∧ 1 ≤ np ∧ np ≤ 24 ∧ na ≤ 160 ∧ nm ≤ 8 ∧ nr ≤ 12 ∧ ne ≤ 20
def dec (f : Nat → Nat) (v : Int32) : Option Nat := if v = -1 then none else some (f v.toNatClampNeg)
/-- bit b of x -/
def tb (x : Int32) (b : Nat) : Prop := x.toBitVec.toNat.testBit b = true
/-- p's chain of steps u comes to q, in f steps at most -/
def bel (u : Nat → Int32) : Nat → Nat → Nat → Prop
  | 0, p, q => p = q
  | f + 1, p, q => p = q ∨ (¬ u p = -1 ∧ bel u f (u p).toNatClampNeg q)
/-- hearths of all parishes below a place, or its own -/
noncomputable def hsP (lev und hea : Nat → Int32) (np p : Nat) : Int32 := acI (fun q => iF (lev q = 0 ∧ bel und 4 q p) (hea q) 0) np
/-- hearths behind an ask -/
noncomputable def hbA (lev hea at_ into : Nat → Int32) (na a : Nat) : Int32 := acI (fun b => iF (lev (at_ b).toNatClampNeg = 0 ∧ bel into 4 b a) (hea (at_ b).toNatClampNeg) 0) na
/-- what went into an ask, by places -/
def partsL (at_ into : Nat → Int32) (np na a : Nat) : List Nat := (List.range np).flatMap (fun p => (List.range na).filter (fun b => decide (at_ b = nI p ∧ into b = nI a)))
/-- the likeness of two rows, from their ends on: a and b are how many are left of each -/
noncomputable def lcRow (e : Nat → Prop) (prev : Nat → Nat) : Nat → Nat
  | 0 => 0
  | b + 1 => max (max (prev (b + 1)) (lcRow e prev b)) (iF (e b) (prev b + 1) 0)
noncomputable def lcS (f g : Nat → Int64) (n k : Nat) : Nat → Nat → Nat
  | 0 => fun _ => 0
  | a + 1 => lcRow (fun b => f (n - (a + 1)) = g (k - (b + 1))) (lcS f g n k a)
noncomputable def lcK (f : Nat → Int64) (f0 n : Nat) (g : Nat → Int64) (g0 k : Nat) : Nat := lcS (fun j => f (f0 + j)) (fun j => g (g0 + j)) n k n k
def JG (np na nm nr ne : Nat) (g : Nat → Nat → Nat) (m : Nat → Nat) (h : Hp) : Prop :=
  (∀ i, i < np → aR h 405 (g 0 0) i = some (g 1 i)) ∧
  (∀ i, i < np → kd h (g 1 i) = 6) ∧
  (∀ i, i < np → fI h 640 (g 1 i) = nI i) ∧
  (∀ i, i < np → fR h 645 (g 1 i) = some (g 7 i)) ∧
  (∀ i, i < np → kd h (g 7 i) = 104) ∧
  (∀ i, i < np → ln h (g 7 i) = 16) ∧
  (∀ i j, i < np → j < np → g 7 i = g 7 j → i = j) ∧
  (∀ i, i < 8 → aR h 409 (g 0 1) i = some (g 2 i)) ∧
  (∀ i, i < 8 → kd h (g 2 i) = 10) ∧
  (∀ i, i < 8 → fR h 1152 (g 2 i) = some (g 8 i)) ∧
  (∀ i, i < 8 → kd h (g 8 i) = 300) ∧
  (∀ i, i < 8 → ln h (g 8 i) = 60) ∧
  (∀ i j, i < 8 → j < 8 → g 2 i = g 2 j → i = j) ∧
  (∀ i j, i < 8 → j < 8 → g 8 i = g 8 j → i = j) ∧
  (∀ i, i < na → aR h 440 (g 0 2) i = some (g 3 i)) ∧
  (∀ i, i < na → kd h (g 3 i) = 1) ∧
  (∀ i, i < na → fI h 0 (g 3 i) = nI i) ∧
  (∀ i, i < nm → aR h 403 (g 0 3) i = some (g 4 i)) ∧
  (∀ i, i < nm → kd h (g 4 i) = 4) ∧
  (∀ i, i < nm → fI h 384 (g 4 i) = nI i) ∧
  (∀ i, i < nm → fR h 388 (g 4 i) = some (g 11 i)) ∧
  (∀ i, i < nm → kd h (g 11 i) = 399) ∧
  (∀ i, i < nm → ln h (g 11 i) = (aI h 147 (m 147) i).toNatClampNeg) ∧
  (∀ i, i < nr → aR h 407 (g 0 4) i = some (g 5 i)) ∧
  (∀ i, i < nr → kd h (g 5 i) = 8) ∧
  (∀ i, i < nr → fI h 896 (g 5 i) = nI i) ∧
  (∀ i, i < nr → fR h 899 (g 5 i) = some (g 12 i)) ∧
  (∀ i, i < nr → kd h (g 12 i) = 399) ∧
  (∀ i, i < ne → aR h 404 (g 0 5) i = some (g 6 i)) ∧
  (∀ i, i < ne → kd h (g 6 i) = 5) ∧
  (∀ i, i < ne → fI h 512 (g 6 i) = nI i)
theorem JG.pl_at {np na nm nr ne : Nat} {g : Nat → Nat → Nat} {m : Nat → Nat} {h : Hp} (q : JG np na nm nr ne g m h) : ∀ i, i < np → aR h 405 (g 0 0) i = some (g 1 i) := q.1
theorem JG.pl_kd {np na nm nr ne : Nat} {g : Nat → Nat → Nat} {m : Nat → Nat} {h : Hp} (q : JG np na nm nr ne g m h) : ∀ i, i < np → kd h (g 1 i) = 6 := q.2.1
theorem JG.pl_no {np na nm nr ne : Nat} {g : Nat → Nat → Nat} {m : Nat → Nat} {h : Hp} (q : JG np na nm nr ne g m h) : ∀ i, i < np → fI h 640 (g 1 i) = nI i := q.2.2.1
theorem JG.py_at {np na nm nr ne : Nat} {g : Nat → Nat → Nat} {m : Nat → Nat} {h : Hp} (q : JG np na nm nr ne g m h) : ∀ i, i < np → fR h 645 (g 1 i) = some (g 7 i) := q.2.2.2.1
theorem JG.py_kd {np na nm nr ne : Nat} {g : Nat → Nat → Nat} {m : Nat → Nat} {h : Hp} (q : JG np na nm nr ne g m h) : ∀ i, i < np → kd h (g 7 i) = 104 := q.2.2.2.2.1
theorem JG.py_ln {np na nm nr ne : Nat} {g : Nat → Nat → Nat} {m : Nat → Nat} {h : Hp} (q : JG np na nm nr ne g m h) : ∀ i, i < np → ln h (g 7 i) = 16 := q.2.2.2.2.2.1
theorem JG.py_in {np na nm nr ne : Nat} {g : Nat → Nat → Nat} {m : Nat → Nat} {h : Hp} (q : JG np na nm nr ne g m h) : ∀ i j, i < np → j < np → g 7 i = g 7 j → i = j := q.2.2.2.2.2.2.1
theorem JG.sh_at {np na nm nr ne : Nat} {g : Nat → Nat → Nat} {m : Nat → Nat} {h : Hp} (q : JG np na nm nr ne g m h) : ∀ i, i < 8 → aR h 409 (g 0 1) i = some (g 2 i) := q.2.2.2.2.2.2.2.1
theorem JG.sh_kd {np na nm nr ne : Nat} {g : Nat → Nat → Nat} {m : Nat → Nat} {h : Hp} (q : JG np na nm nr ne g m h) : ∀ i, i < 8 → kd h (g 2 i) = 10 := q.2.2.2.2.2.2.2.2.1
theorem JG.se_at {np na nm nr ne : Nat} {g : Nat → Nat → Nat} {m : Nat → Nat} {h : Hp} (q : JG np na nm nr ne g m h) : ∀ i, i < 8 → fR h 1152 (g 2 i) = some (g 8 i) := q.2.2.2.2.2.2.2.2.2.1
theorem JG.se_kd {np na nm nr ne : Nat} {g : Nat → Nat → Nat} {m : Nat → Nat} {h : Hp} (q : JG np na nm nr ne g m h) : ∀ i, i < 8 → kd h (g 8 i) = 300 := q.2.2.2.2.2.2.2.2.2.2.1
theorem JG.se_ln {np na nm nr ne : Nat} {g : Nat → Nat → Nat} {m : Nat → Nat} {h : Hp} (q : JG np na nm nr ne g m h) : ∀ i, i < 8 → ln h (g 8 i) = 60 := q.2.2.2.2.2.2.2.2.2.2.2.1
theorem JG.sh_in {np na nm nr ne : Nat} {g : Nat → Nat → Nat} {m : Nat → Nat} {h : Hp} (q : JG np na nm nr ne g m h) : ∀ i j, i < 8 → j < 8 → g 2 i = g 2 j → i = j := q.2.2.2.2.2.2.2.2.2.2.2.2.1
theorem JG.se_in {np na nm nr ne : Nat} {g : Nat → Nat → Nat} {m : Nat → Nat} {h : Hp} (q : JG np na nm nr ne g m h) : ∀ i j, i < 8 → j < 8 → g 8 i = g 8 j → i = j := q.2.2.2.2.2.2.2.2.2.2.2.2.2.1
theorem JG.as_at {np na nm nr ne : Nat} {g : Nat → Nat → Nat} {m : Nat → Nat} {h : Hp} (q : JG np na nm nr ne g m h) : ∀ i, i < na → aR h 440 (g 0 2) i = some (g 3 i) := q.2.2.2.2.2.2.2.2.2.2.2.2.2.2.1
theorem JG.as_kd {np na nm nr ne : Nat} {g : Nat → Nat → Nat} {m : Nat → Nat} {h : Hp} (q : JG np na nm nr ne g m h) : ∀ i, i < na → kd h (g 3 i) = 1 := q.2.2.2.2.2.2.2.2.2.2.2.2.2.2.2.1
theorem JG.as_no {np na nm nr ne : Nat} {g : Nat → Nat → Nat} {m : Nat → Nat} {h : Hp} (q : JG np na nm nr ne g m h) : ∀ i, i < na → fI h 0 (g 3 i) = nI i := q.2.2.2.2.2.2.2.2.2.2.2.2.2.2.2.2.1
theorem JG.mo_at {np na nm nr ne : Nat} {g : Nat → Nat → Nat} {m : Nat → Nat} {h : Hp} (q : JG np na nm nr ne g m h) : ∀ i, i < nm → aR h 403 (g 0 3) i = some (g 4 i) := q.2.2.2.2.2.2.2.2.2.2.2.2.2.2.2.2.2.1
theorem JG.mo_kd {np na nm nr ne : Nat} {g : Nat → Nat → Nat} {m : Nat → Nat} {h : Hp} (q : JG np na nm nr ne g m h) : ∀ i, i < nm → kd h (g 4 i) = 4 := q.2.2.2.2.2.2.2.2.2.2.2.2.2.2.2.2.2.2.1
theorem JG.mo_no {np na nm nr ne : Nat} {g : Nat → Nat → Nat} {m : Nat → Nat} {h : Hp} (q : JG np na nm nr ne g m h) : ∀ i, i < nm → fI h 384 (g 4 i) = nI i := q.2.2.2.2.2.2.2.2.2.2.2.2.2.2.2.2.2.2.2.1
theorem JG.mw_at {np na nm nr ne : Nat} {g : Nat → Nat → Nat} {m : Nat → Nat} {h : Hp} (q : JG np na nm nr ne g m h) : ∀ i, i < nm → fR h 388 (g 4 i) = some (g 11 i) := q.2.2.2.2.2.2.2.2.2.2.2.2.2.2.2.2.2.2.2.2.1
theorem JG.mw_kd {np na nm nr ne : Nat} {g : Nat → Nat → Nat} {m : Nat → Nat} {h : Hp} (q : JG np na nm nr ne g m h) : ∀ i, i < nm → kd h (g 11 i) = 399 := q.2.2.2.2.2.2.2.2.2.2.2.2.2.2.2.2.2.2.2.2.2.1
theorem JG.mw_ln {np na nm nr ne : Nat} {g : Nat → Nat → Nat} {m : Nat → Nat} {h : Hp} (q : JG np na nm nr ne g m h) : ∀ i, i < nm → ln h (g 11 i) = (aI h 147 (m 147) i).toNatClampNeg := q.2.2.2.2.2.2.2.2.2.2.2.2.2.2.2.2.2.2.2.2.2.2.1
theorem JG.ru_at {np na nm nr ne : Nat} {g : Nat → Nat → Nat} {m : Nat → Nat} {h : Hp} (q : JG np na nm nr ne g m h) : ∀ i, i < nr → aR h 407 (g 0 4) i = some (g 5 i) := q.2.2.2.2.2.2.2.2.2.2.2.2.2.2.2.2.2.2.2.2.2.2.2.1
theorem JG.ru_kd {np na nm nr ne : Nat} {g : Nat → Nat → Nat} {m : Nat → Nat} {h : Hp} (q : JG np na nm nr ne g m h) : ∀ i, i < nr → kd h (g 5 i) = 8 := q.2.2.2.2.2.2.2.2.2.2.2.2.2.2.2.2.2.2.2.2.2.2.2.2.1
theorem JG.ru_no {np na nm nr ne : Nat} {g : Nat → Nat → Nat} {m : Nat → Nat} {h : Hp} (q : JG np na nm nr ne g m h) : ∀ i, i < nr → fI h 896 (g 5 i) = nI i := q.2.2.2.2.2.2.2.2.2.2.2.2.2.2.2.2.2.2.2.2.2.2.2.2.2.1
theorem JG.rl_at {np na nm nr ne : Nat} {g : Nat → Nat → Nat} {m : Nat → Nat} {h : Hp} (q : JG np na nm nr ne g m h) : ∀ i, i < nr → fR h 899 (g 5 i) = some (g 12 i) := q.2.2.2.2.2.2.2.2.2.2.2.2.2.2.2.2.2.2.2.2.2.2.2.2.2.2.1
theorem JG.rl_kd {np na nm nr ne : Nat} {g : Nat → Nat → Nat} {m : Nat → Nat} {h : Hp} (q : JG np na nm nr ne g m h) : ∀ i, i < nr → kd h (g 12 i) = 399 := q.2.2.2.2.2.2.2.2.2.2.2.2.2.2.2.2.2.2.2.2.2.2.2.2.2.2.2.1
theorem JG.pe_at {np na nm nr ne : Nat} {g : Nat → Nat → Nat} {m : Nat → Nat} {h : Hp} (q : JG np na nm nr ne g m h) : ∀ i, i < ne → aR h 404 (g 0 5) i = some (g 6 i) := q.2.2.2.2.2.2.2.2.2.2.2.2.2.2.2.2.2.2.2.2.2.2.2.2.2.2.2.2.1
theorem JG.pe_kd {np na nm nr ne : Nat} {g : Nat → Nat → Nat} {m : Nat → Nat} {h : Hp} (q : JG np na nm nr ne g m h) : ∀ i, i < ne → kd h (g 6 i) = 5 := q.2.2.2.2.2.2.2.2.2.2.2.2.2.2.2.2.2.2.2.2.2.2.2.2.2.2.2.2.2.1
theorem JG.pe_no {np na nm nr ne : Nat} {g : Nat → Nat → Nat} {m : Nat → Nat} {h : Hp} (q : JG np na nm nr ne g m h) : ∀ i, i < ne → fI h 512 (g 6 i) = nI i := q.2.2.2.2.2.2.2.2.2.2.2.2.2.2.2.2.2.2.2.2.2.2.2.2.2.2.2.2.2.2
def JD (np na nm nr ne : Nat) (g : Nat → Nat → Nat) (m : Nat → Nat) (h : Hp) : Prop :=
  (∀ i, i < np → fI h 641 (g 1 i) = aI h 120 (m 120) i) ∧
  (∀ i, i < np → fR h 642 (g 1 i) = dec (g 1) (aI h 121 (m 121) i)) ∧
  (∀ i, i < np → fI h 643 (g 1 i) = aI h 122 (m 122) i) ∧
  (∀ i, i < np → fI h 644 (g 1 i) = if aI h 120 (m 120) i = 0 then aI h 123 (m 123) i else -1) ∧
  (∀ i, i < np → fI h 648 (g 1 i) = aI h 200 (m 200) i) ∧
  (∀ i, i < np → fI h 649 (g 1 i) = aI h 125 (m 125) i) ∧
  (∀ i, i < np → fR h 650 (g 1 i) = dec (g 6) (aI h 126 (m 126) i)) ∧
  (∀ i w, i < np → w < 16 → aI h 104 (g 7 i) w = aI h 127 (m 127) (16 * i + w)) ∧
  (∀ i, i < 8 → fI h 1153 (g 2 i) = if aI h 128 (m 128) i = 1 then aI h 129 (m 129) i else -1) ∧
  (∀ i, i < 8 → fI h 1154 (g 2 i) = if aI h 128 (m 128) i = 1 then aI h 130 (m 130) i else 0) ∧
  (∀ i, i < 8 → fR h 1155 (g 2 i) = if aI h 128 (m 128) i = 2 then some (g 3 ((aI h 131 (m 131) i).toNatClampNeg)) else none) ∧
  (∀ i j, i < 8 → j < 60 → aI h 128 (m 128) i = 1 → aL h 300 (g 8 i) j = aL h 310 (m 310) (60 * i + j)) ∧
  (∀ i, i < na → fR h 1 (g 3 i) = some (g 1 ((aI h 132 (m 132) i).toNatClampNeg))) ∧
  (∀ i, i < na → fI h 2 (g 3 i) = aI h 133 (m 133) i) ∧
  (∀ i, i < na → fI h 3 (g 3 i) = aI h 134 (m 134) i) ∧
  (∀ i, i < na → fI h 4 (g 3 i) = aI h 135 (m 135) i) ∧
  (∀ i, i < na → fI h 5 (g 3 i) = aI h 136 (m 136) i) ∧
  (∀ i, i < na → fI h 6 (g 3 i) = aI h 137 (m 137) i) ∧
  (∀ i, i < na → fI h 12 (g 3 i) = aI h 201 (m 201) i) ∧
  (∀ i, i < na → fI h 13 (g 3 i) = aI h 202 (m 202) i) ∧
  (∀ i, i < na → fI h 14 (g 3 i) = aI h 141 (m 141) i) ∧
  (∀ i, i < na → fI h 17 (g 3 i) = aI h 203 (m 203) i) ∧
  (∀ i, i < na → fI h 18 (g 3 i) = aI h 142 (m 142) i) ∧
  (∀ i, i < na → fR h 10 (g 3 i) = dec (g 4) (aI h 138 (m 138) i)) ∧
  (∀ i, i < na → fR h 15 (g 3 i) = dec (g 3) (aI h 139 (m 139) i)) ∧
  (∀ i, i < na → fR h 16 (g 3 i) = dec (g 1) (aI h 140 (m 140) i)) ∧
  (∀ i, i < na → aI h 120 (m 120) ((aI h 132 (m 132) i).toNatClampNeg) = 0 → fR h 8 (g 3 i) = some (g 9 i) ∧ kd h (g 9 i) = 399 ∧ ln h (g 9 i) = (aI h 143 (m 143) i).toNatClampNeg ∧ ∀ j, j < (aI h 143 (m 143) i).toNatClampNeg → aL h 399 (g 9 i) j = aL h 312 (m 312) (20 * i + j)) ∧
  (∀ i, i < na → ¬ aI h 120 (m 120) ((aI h 132 (m 132) i).toNatClampNeg) = 0 → fR h 8 (g 3 i) = none) ∧
  (∀ i, i < nm → fI h 385 (g 4 i) = aI h 144 (m 144) i) ∧
  (∀ i, i < nm → fI h 387 (g 4 i) = aI h 146 (m 146) i) ∧
  (∀ i, i < nm → fR h 386 (g 4 i) = some (g 1 ((aI h 145 (m 145) i).toNatClampNeg))) ∧
  (∀ i j, i < nm → j < (aI h 147 (m 147) i).toNatClampNeg → aL h 399 (g 11 i) j = aL h 313 (m 313) (60 * i + j)) ∧
  (∀ i, i < nr → fI h 897 (g 5 i) = aI h 148 (m 148) i) ∧
  (∀ i, i < nr → fI h 898 (g 5 i) = aI h 149 (m 149) i) ∧
  (∀ i, i < nr → fI h 900 (g 5 i) = aI h 150 (m 150) i) ∧
  (∀ i, i < ne → fR h 513 (g 6 i) = some (g 1 ((aI h 159 (m 159) i).toNatClampNeg))) ∧
  (∀ i, i < ne → fI h 514 (g 6 i) = aI h 160 (m 160) i) ∧
  (∀ a b, a < 16 → b < 16 → (tb (aI h 105 (g 0 17) a) b ↔ aI h 204 (m 204) (16 * a + b) = 1)) ∧
  (∀ j, j < 7 → aI h 110 (g 0 6) j = aI h 161 (m 161) (j + 1))
theorem JD.d_lev {np na nm nr ne : Nat} {g : Nat → Nat → Nat} {m : Nat → Nat} {h : Hp} (q : JD np na nm nr ne g m h) : ∀ i, i < np → fI h 641 (g 1 i) = aI h 120 (m 120) i := q.1
theorem JD.d_und {np na nm nr ne : Nat} {g : Nat → Nat → Nat} {m : Nat → Nat} {h : Hp} (q : JD np na nm nr ne g m h) : ∀ i, i < np → fR h 642 (g 1 i) = dec (g 1) (aI h 121 (m 121) i) := q.2.1
theorem JD.d_way {np na nm nr ne : Nat} {g : Nat → Nat → Nat} {m : Nat → Nat} {h : Hp} (q : JD np na nm nr ne g m h) : ∀ i, i < np → fI h 643 (g 1 i) = aI h 122 (m 122) i := q.2.2.1
theorem JD.d_ord {np na nm nr ne : Nat} {g : Nat → Nat → Nat} {m : Nat → Nat} {h : Hp} (q : JD np na nm nr ne g m h) : ∀ i, i < np → fI h 644 (g 1 i) = if aI h 120 (m 120) i = 0 then aI h 123 (m 123) i else -1 := q.2.2.2.1
theorem JD.d_mad {np na nm nr ne : Nat} {g : Nat → Nat → Nat} {m : Nat → Nat} {h : Hp} (q : JD np na nm nr ne g m h) : ∀ i, i < np → fI h 648 (g 1 i) = aI h 200 (m 200) i := q.2.2.2.2.1
theorem JD.d_tor {np na nm nr ne : Nat} {g : Nat → Nat → Nat} {m : Nat → Nat} {h : Hp} (q : JD np na nm nr ne g m h) : ∀ i, i < np → fI h 649 (g 1 i) = aI h 125 (m 125) i := q.2.2.2.2.2.1
theorem JD.d_cho {np na nm nr ne : Nat} {g : Nat → Nat → Nat} {m : Nat → Nat} {h : Hp} (q : JD np na nm nr ne g m h) : ∀ i, i < np → fR h 650 (g 1 i) = dec (g 6) (aI h 126 (m 126) i) := q.2.2.2.2.2.2.1
theorem JD.d_yes {np na nm nr ne : Nat} {g : Nat → Nat → Nat} {m : Nat → Nat} {h : Hp} (q : JD np na nm nr ne g m h) : ∀ i w, i < np → w < 16 → aI h 104 (g 7 i) w = aI h 127 (m 127) (16 * i + w) := q.2.2.2.2.2.2.2.1
theorem JD.d_srt {np na nm nr ne : Nat} {g : Nat → Nat → Nat} {m : Nat → Nat} {h : Hp} (q : JD np na nm nr ne g m h) : ∀ i, i < 8 → fI h 1153 (g 2 i) = if aI h 128 (m 128) i = 1 then aI h 129 (m 129) i else -1 := q.2.2.2.2.2.2.2.2.1
theorem JD.d_siz {np na nm nr ne : Nat} {g : Nat → Nat → Nat} {m : Nat → Nat} {h : Hp} (q : JD np na nm nr ne g m h) : ∀ i, i < 8 → fI h 1154 (g 2 i) = if aI h 128 (m 128) i = 1 then aI h 130 (m 130) i else 0 := q.2.2.2.2.2.2.2.2.2.1
theorem JD.d_sha {np na nm nr ne : Nat} {g : Nat → Nat → Nat} {m : Nat → Nat} {h : Hp} (q : JD np na nm nr ne g m h) : ∀ i, i < 8 → fR h 1155 (g 2 i) = if aI h 128 (m 128) i = 2 then some (g 3 ((aI h 131 (m 131) i).toNatClampNeg)) else none := q.2.2.2.2.2.2.2.2.2.2.1
theorem JD.d_cel {np na nm nr ne : Nat} {g : Nat → Nat → Nat} {m : Nat → Nat} {h : Hp} (q : JD np na nm nr ne g m h) : ∀ i j, i < 8 → j < 60 → aI h 128 (m 128) i = 1 → aL h 300 (g 8 i) j = aL h 310 (m 310) (60 * i + j) := q.2.2.2.2.2.2.2.2.2.2.2.1
theorem JD.d_at {np na nm nr ne : Nat} {g : Nat → Nat → Nat} {m : Nat → Nat} {h : Hp} (q : JD np na nm nr ne g m h) : ∀ i, i < na → fR h 1 (g 3 i) = some (g 1 ((aI h 132 (m 132) i).toNatClampNeg)) := q.2.2.2.2.2.2.2.2.2.2.2.2.1
theorem JD.d_wha {np na nm nr ne : Nat} {g : Nat → Nat → Nat} {m : Nat → Nat} {h : Hp} (q : JD np na nm nr ne g m h) : ∀ i, i < na → fI h 2 (g 3 i) = aI h 133 (m 133) i := q.2.2.2.2.2.2.2.2.2.2.2.2.2.1
theorem JD.d_who {np na nm nr ne : Nat} {g : Nat → Nat → Nat} {m : Nat → Nat} {h : Hp} (q : JD np na nm nr ne g m h) : ∀ i, i < na → fI h 3 (g 3 i) = aI h 134 (m 134) i := q.2.2.2.2.2.2.2.2.2.2.2.2.2.2.1
theorem JD.d_muc {np na nm nr ne : Nat} {g : Nat → Nat → Nat} {m : Nat → Nat} {h : Hp} (q : JD np na nm nr ne g m h) : ∀ i, i < na → fI h 4 (g 3 i) = aI h 135 (m 135) i := q.2.2.2.2.2.2.2.2.2.2.2.2.2.2.2.1
theorem JD.d_wri {np na nm nr ne : Nat} {g : Nat → Nat → Nat} {m : Nat → Nat} {h : Hp} (q : JD np na nm nr ne g m h) : ∀ i, i < na → fI h 5 (g 3 i) = aI h 136 (m 136) i := q.2.2.2.2.2.2.2.2.2.2.2.2.2.2.2.2.1
theorem JD.d_kin {np na nm nr ne : Nat} {g : Nat → Nat → Nat} {m : Nat → Nat} {h : Hp} (q : JD np na nm nr ne g m h) : ∀ i, i < na → fI h 6 (g 3 i) = aI h 137 (m 137) i := q.2.2.2.2.2.2.2.2.2.2.2.2.2.2.2.2.2.1
theorem JD.d_lat {np na nm nr ne : Nat} {g : Nat → Nat → Nat} {m : Nat → Nat} {h : Hp} (q : JD np na nm nr ne g m h) : ∀ i, i < na → fI h 12 (g 3 i) = aI h 201 (m 201) i := q.2.2.2.2.2.2.2.2.2.2.2.2.2.2.2.2.2.2.1
theorem JD.d_gap {np na nm nr ne : Nat} {g : Nat → Nat → Nat} {m : Nat → Nat} {h : Hp} (q : JD np na nm nr ne g m h) : ∀ i, i < na → fI h 13 (g 3 i) = aI h 202 (m 202) i := q.2.2.2.2.2.2.2.2.2.2.2.2.2.2.2.2.2.2.2.1
theorem JD.d_gon {np na nm nr ne : Nat} {g : Nat → Nat → Nat} {m : Nat → Nat} {h : Hp} (q : JD np na nm nr ne g m h) : ∀ i, i < na → fI h 14 (g 3 i) = aI h 141 (m 141) i := q.2.2.2.2.2.2.2.2.2.2.2.2.2.2.2.2.2.2.2.2.1
theorem JD.d_yie {np na nm nr ne : Nat} {g : Nat → Nat → Nat} {m : Nat → Nat} {h : Hp} (q : JD np na nm nr ne g m h) : ∀ i, i < na → fI h 17 (g 3 i) = aI h 203 (m 203) i := q.2.2.2.2.2.2.2.2.2.2.2.2.2.2.2.2.2.2.2.2.2.1
theorem JD.d_wor {np na nm nr ne : Nat} {g : Nat → Nat → Nat} {m : Nat → Nat} {h : Hp} (q : JD np na nm nr ne g m h) : ∀ i, i < na → fI h 18 (g 3 i) = aI h 142 (m 142) i := q.2.2.2.2.2.2.2.2.2.2.2.2.2.2.2.2.2.2.2.2.2.2.1
theorem JD.d_mod {np na nm nr ne : Nat} {g : Nat → Nat → Nat} {m : Nat → Nat} {h : Hp} (q : JD np na nm nr ne g m h) : ∀ i, i < na → fR h 10 (g 3 i) = dec (g 4) (aI h 138 (m 138) i) := q.2.2.2.2.2.2.2.2.2.2.2.2.2.2.2.2.2.2.2.2.2.2.2.1
theorem JD.d_int {np na nm nr ne : Nat} {g : Nat → Nat → Nat} {m : Nat → Nat} {h : Hp} (q : JD np na nm nr ne g m h) : ∀ i, i < na → fR h 15 (g 3 i) = dec (g 3) (aI h 139 (m 139) i) := q.2.2.2.2.2.2.2.2.2.2.2.2.2.2.2.2.2.2.2.2.2.2.2.2.1
theorem JD.d_dro {np na nm nr ne : Nat} {g : Nat → Nat → Nat} {m : Nat → Nat} {h : Hp} (q : JD np na nm nr ne g m h) : ∀ i, i < na → fR h 16 (g 3 i) = dec (g 1) (aI h 140 (m 140) i) := q.2.2.2.2.2.2.2.2.2.2.2.2.2.2.2.2.2.2.2.2.2.2.2.2.2.1
theorem JD.d_wds {np na nm nr ne : Nat} {g : Nat → Nat → Nat} {m : Nat → Nat} {h : Hp} (q : JD np na nm nr ne g m h) : ∀ i, i < na → aI h 120 (m 120) ((aI h 132 (m 132) i).toNatClampNeg) = 0 → fR h 8 (g 3 i) = some (g 9 i) ∧ kd h (g 9 i) = 399 ∧ ln h (g 9 i) = (aI h 143 (m 143) i).toNatClampNeg ∧ ∀ j, j < (aI h 143 (m 143) i).toNatClampNeg → aL h 399 (g 9 i) j = aL h 312 (m 312) (20 * i + j) := q.2.2.2.2.2.2.2.2.2.2.2.2.2.2.2.2.2.2.2.2.2.2.2.2.2.2.1
theorem JD.d_wdn {np na nm nr ne : Nat} {g : Nat → Nat → Nat} {m : Nat → Nat} {h : Hp} (q : JD np na nm nr ne g m h) : ∀ i, i < na → ¬ aI h 120 (m 120) ((aI h 132 (m 132) i).toNatClampNeg) = 0 → fR h 8 (g 3 i) = none := q.2.2.2.2.2.2.2.2.2.2.2.2.2.2.2.2.2.2.2.2.2.2.2.2.2.2.2.1
theorem JD.d_mwh {np na nm nr ne : Nat} {g : Nat → Nat → Nat} {m : Nat → Nat} {h : Hp} (q : JD np na nm nr ne g m h) : ∀ i, i < nm → fI h 385 (g 4 i) = aI h 144 (m 144) i := q.2.2.2.2.2.2.2.2.2.2.2.2.2.2.2.2.2.2.2.2.2.2.2.2.2.2.2.2.1
theorem JD.d_mda {np na nm nr ne : Nat} {g : Nat → Nat → Nat} {m : Nat → Nat} {h : Hp} (q : JD np na nm nr ne g m h) : ∀ i, i < nm → fI h 387 (g 4 i) = aI h 146 (m 146) i := q.2.2.2.2.2.2.2.2.2.2.2.2.2.2.2.2.2.2.2.2.2.2.2.2.2.2.2.2.2.1
theorem JD.d_mpl {np na nm nr ne : Nat} {g : Nat → Nat → Nat} {m : Nat → Nat} {h : Hp} (q : JD np na nm nr ne g m h) : ∀ i, i < nm → fR h 386 (g 4 i) = some (g 1 ((aI h 145 (m 145) i).toNatClampNeg)) := q.2.2.2.2.2.2.2.2.2.2.2.2.2.2.2.2.2.2.2.2.2.2.2.2.2.2.2.2.2.2.1
theorem JD.d_mwd {np na nm nr ne : Nat} {g : Nat → Nat → Nat} {m : Nat → Nat} {h : Hp} (q : JD np na nm nr ne g m h) : ∀ i j, i < nm → j < (aI h 147 (m 147) i).toNatClampNeg → aL h 399 (g 11 i) j = aL h 313 (m 313) (60 * i + j) := q.2.2.2.2.2.2.2.2.2.2.2.2.2.2.2.2.2.2.2.2.2.2.2.2.2.2.2.2.2.2.2.1
theorem JD.d_rle {np na nm nr ne : Nat} {g : Nat → Nat → Nat} {m : Nat → Nat} {h : Hp} (q : JD np na nm nr ne g m h) : ∀ i, i < nr → fI h 897 (g 5 i) = aI h 148 (m 148) i := q.2.2.2.2.2.2.2.2.2.2.2.2.2.2.2.2.2.2.2.2.2.2.2.2.2.2.2.2.2.2.2.2.1
theorem JD.d_rda {np na nm nr ne : Nat} {g : Nat → Nat → Nat} {m : Nat → Nat} {h : Hp} (q : JD np na nm nr ne g m h) : ∀ i, i < nr → fI h 898 (g 5 i) = aI h 149 (m 149) i := q.2.2.2.2.2.2.2.2.2.2.2.2.2.2.2.2.2.2.2.2.2.2.2.2.2.2.2.2.2.2.2.2.2.1
theorem JD.d_rst {np na nm nr ne : Nat} {g : Nat → Nat → Nat} {m : Nat → Nat} {h : Hp} (q : JD np na nm nr ne g m h) : ∀ i, i < nr → fI h 900 (g 5 i) = aI h 150 (m 150) i := q.2.2.2.2.2.2.2.2.2.2.2.2.2.2.2.2.2.2.2.2.2.2.2.2.2.2.2.2.2.2.2.2.2.2.1
theorem JD.d_ppl {np na nm nr ne : Nat} {g : Nat → Nat → Nat} {m : Nat → Nat} {h : Hp} (q : JD np na nm nr ne g m h) : ∀ i, i < ne → fR h 513 (g 6 i) = some (g 1 ((aI h 159 (m 159) i).toNatClampNeg)) := q.2.2.2.2.2.2.2.2.2.2.2.2.2.2.2.2.2.2.2.2.2.2.2.2.2.2.2.2.2.2.2.2.2.2.2.1
theorem JD.d_pbo {np na nm nr ne : Nat} {g : Nat → Nat → Nat} {m : Nat → Nat} {h : Hp} (q : JD np na nm nr ne g m h) : ∀ i, i < ne → fI h 514 (g 6 i) = aI h 160 (m 160) i := q.2.2.2.2.2.2.2.2.2.2.2.2.2.2.2.2.2.2.2.2.2.2.2.2.2.2.2.2.2.2.2.2.2.2.2.2.1
theorem JD.d_cla {np na nm nr ne : Nat} {g : Nat → Nat → Nat} {m : Nat → Nat} {h : Hp} (q : JD np na nm nr ne g m h) : ∀ a b, a < 16 → b < 16 → (tb (aI h 105 (g 0 17) a) b ↔ aI h 204 (m 204) (16 * a + b) = 1) := q.2.2.2.2.2.2.2.2.2.2.2.2.2.2.2.2.2.2.2.2.2.2.2.2.2.2.2.2.2.2.2.2.2.2.2.2.2.1
theorem JD.d_ref {np na nm nr ne : Nat} {g : Nat → Nat → Nat} {m : Nat → Nat} {h : Hp} (q : JD np na nm nr ne g m h) : ∀ j, j < 7 → aI h 110 (g 0 6) j = aI h 161 (m 161) (j + 1) := q.2.2.2.2.2.2.2.2.2.2.2.2.2.2.2.2.2.2.2.2.2.2.2.2.2.2.2.2.2.2.2.2.2.2.2.2.2.2
def JW (y np na nm nr ne : Nat) (m : Nat → Nat) (h : Hp) : Prop :=
  (aI h 120 (m 120) 0 = 3) ∧
  (aI h 121 (m 121) 0 = -1) ∧
  (∀ i, 0 < i → i < np → ∃ j, j < i ∧ aI h 121 (m 121) i = nI j ∧ aI h 120 (m 120) j = aI h 120 (m 120) i + 1) ∧
  (∀ i, i < np → 0 ≤ (aI h 120 (m 120) i).toInt ∧ (aI h 120 (m 120) i).toInt ≤ 3) ∧
  (∀ i, 0 < i → i < np → (aI h 120 (m 120) i).toInt ≤ 2) ∧
  (∀ i, i < np → 0 ≤ (aI h 122 (m 122) i).toInt ∧ (aI h 122 (m 122) i).toInt ≤ 99) ∧
  (∀ i, i < np → 0 ≤ (aI h 124 (m 124) i).toInt ∧ (aI h 124 (m 124) i).toInt ≤ 999) ∧
  (∀ i, i < np → -1 ≤ (aI h 125 (m 125) i).toInt ∧ (aI h 125 (m 125) i).toInt ≤ 160) ∧
  (∀ i, i < np → ¬ aI h 120 (m 120) i = 0 → aI h 125 (m 125) i = -1) ∧
  (∀ i, i < np → aI h 126 (m 126) i = -1 ∨ vp_in (aI h 126 (m 126) i) ne) ∧
  (aI h 126 (m 126) 0 = -1) ∧
  (∀ i, i < np → aI h 200 (m 200) i = 0 ∨ aI h 200 (m 200) i = 1) ∧
  (∀ i, i < np → aI h 120 (m 120) i = 0 → aI h 200 (m 200) i = 0) ∧
  (∀ i, i < 384 → 0 ≤ (aI h 127 (m 127) i).toInt ∧ (aI h 127 (m 127) i).toInt ≤ 99) ∧
  (∀ i, i < 8 → aI h 128 (m 128) i = 0 ∨ aI h 128 (m 128) i = 1 ∨ aI h 128 (m 128) i = 2) ∧
  (∀ i, i < 8 → aI h 128 (m 128) i = 1 → 0 ≤ (aI h 129 (m 129) i).toInt ∧ (aI h 129 (m 129) i).toInt ≤ 3) ∧
  (∀ i, i < 8 → 0 ≤ (aI h 130 (m 130) i).toInt ∧ (aI h 130 (m 130) i).toInt ≤ 60) ∧
  (∀ i, i < 8 → aI h 128 (m 128) i = 2 → vp_in (aI h 131 (m 131) i) na) ∧
  (∀ i, i < na → vp_in (aI h 132 (m 132) i) np) ∧
  (∀ i, i < na → vp_in (aI h 133 (m 133) i) 16) ∧
  (∀ i, i < na → vp_in (aI h 134 (m 134) i) 8) ∧
  (∀ i, i < na → 0 ≤ (aI h 135 (m 135) i).toInt ∧ (aI h 135 (m 135) i).toInt ≤ 99) ∧
  (∀ i, i < na → 0 ≤ (aI h 136 (m 136) i).toInt ∧ (aI h 136 (m 136) i).toInt ≤ 4000) ∧
  (∀ i, i < na → 0 ≤ (aI h 137 (m 137) i).toInt ∧ (aI h 137 (m 137) i).toInt ≤ 3) ∧
  (∀ i, i < na → ((aI h 137 (m 137) i).toInt < 2 ↔ aI h 120 (m 120) ((aI h 132 (m 132) i).toNatClampNeg) = 0)) ∧
  (∀ i, i < na → aI h 138 (m 138) i = -1 ∨ vp_in (aI h 138 (m 138) i) nm) ∧
  (∀ i, i < na → (aI h 137 (m 137) i = 1 ↔ ¬ aI h 138 (m 138) i = -1)) ∧
  (∀ i, i < na → aI h 139 (m 139) i = -1 ∨ ∃ b, i < b ∧ b < na ∧ aI h 139 (m 139) i = nI b ∧ aI h 132 (m 132) b = aI h 121 (m 121) ((aI h 132 (m 132) i).toNatClampNeg)) ∧
  (∀ i, i < na → aI h 140 (m 140) i = -1 ∨ vp_in (aI h 140 (m 140) i) np) ∧
  (∀ i, i < na → -1 ≤ (aI h 141 (m 141) i).toInt ∧ (aI h 141 (m 141) i).toInt ≤ 4000) ∧
  (∀ i, i < na → aI h 201 (m 201) i = 0 ∨ aI h 201 (m 201) i = 1) ∧
  (∀ i, i < na → aI h 202 (m 202) i = 0 ∨ aI h 202 (m 202) i = 1) ∧
  (∀ i, i < na → aI h 203 (m 203) i = 0 ∨ aI h 203 (m 203) i = 1) ∧
  (∀ i, i < na → -1 ≤ (aI h 142 (m 142) i).toInt ∧ (aI h 142 (m 142) i).toInt ≤ 1000000) ∧
  (∀ i, i < na → 0 ≤ (aI h 143 (m 143) i).toInt ∧ (aI h 143 (m 143) i).toInt ≤ 20) ∧
  (∀ i, i < na → ¬ aI h 120 (m 120) ((aI h 132 (m 132) i).toNatClampNeg) = 0 → aI h 141 (m 141) i = -1 ∧ aI h 202 (m 202) i = 0) ∧
  (∀ i, i < na → aI h 125 (m 125) ((aI h 132 (m 132) i).toNatClampNeg) = -1 → aI h 202 (m 202) i = 0) ∧
  (∀ i j, i < na → j < na → aI h 132 (m 132) i = aI h 132 (m 132) j → aI h 133 (m 133) i = aI h 133 (m 133) j → aI h 134 (m 134) i = aI h 134 (m 134) j → aI h 141 (m 141) i = -1 → aI h 141 (m 141) j = -1 → i = j) ∧
  (∀ i, i < nm → vp_in (aI h 144 (m 144) i) 16) ∧
  (∀ i, i < nm → vp_in (aI h 145 (m 145) i) np) ∧
  (∀ i, i < nm → 0 ≤ (aI h 146 (m 146) i).toInt ∧ (aI h 146 (m 146) i).toInt ≤ 4000) ∧
  (∀ i, i < nm → 0 ≤ (aI h 147 (m 147) i).toInt ∧ (aI h 147 (m 147) i).toInt ≤ 20) ∧
  (∀ i, i < nr → 1 ≤ (aI h 148 (m 148) i).toInt ∧ (aI h 148 (m 148) i).toInt ≤ 3) ∧
  (∀ i, i < nr → 0 ≤ (aI h 149 (m 149) i).toInt ∧ (aI h 149 (m 149) i).toInt ≤ 4000) ∧
  (∀ i, i < nr → -1 ≤ (aI h 150 (m 150) i).toInt ∧ (aI h 150 (m 150) i).toInt ≤ 4000) ∧
  (∀ i, i < ne → vp_in (aI h 159 (m 159) i) np) ∧
  (∀ i, i < ne → 0 ≤ (aI h 160 (m 160) i).toInt ∧ (aI h 160 (m 160) i).toInt ≤ 9999) ∧
  (∀ i, i < 256 → aI h 204 (m 204) i = 0 ∨ aI h 204 (m 204) i = 1) ∧
  (∀ a b, a < 16 → b < 16 → aI h 204 (m 204) (16 * a + b) = aI h 204 (m 204) (16 * b + a)) ∧
  (0 ≤ (fI h 1408 y).toInt ∧ (fI h 1408 y).toInt ≤ 4000) ∧
  (∀ i, i < na → ¬ aI h 120 (m 120) ((aI h 132 (m 132) i).toNatClampNeg) = 0 → aI h 200 (m 200) ((aI h 132 (m 132) i).toNatClampNeg) = 1 ∨ (aI h 132 (m 132) i).toNatClampNeg = m 0) ∧
  (∀ i, i < np → aI h 120 (m 120) i = 0 → 1 ≤ (aI h 124 (m 124) i).toInt) ∧
  (∀ i, i < na → ∃ b, b < na ∧ aI h 120 (m 120) ((aI h 132 (m 132) b).toNatClampNeg) = 0 ∧ bel (aI h 139 (m 139)) 3 b i) ∧
  (∀ i, na ≤ i → i < 160 → aI h 202 (m 202) i = 0) ∧
  (∀ i, na ≤ i → i < 160 → aI h 203 (m 203) i = 0) ∧
  (∀ i, na ≤ i → i < 160 → aI h 143 (m 143) i = 0) ∧
  (∀ i, np ≤ i → i < 24 → aI h 200 (m 200) i = 0) ∧
  (∀ i, 16 * np ≤ i → i < 384 → aI h 127 (m 127) i = 0)
theorem JW.w_l0 {y np na nm nr ne : Nat} {m : Nat → Nat} {h : Hp} (q : JW y np na nm nr ne m h) : aI h 120 (m 120) 0 = 3 := q.1
theorem JW.w_u0 {y np na nm nr ne : Nat} {m : Nat → Nat} {h : Hp} (q : JW y np na nm nr ne m h) : aI h 121 (m 121) 0 = -1 := q.2.1
theorem JW.w_und {y np na nm nr ne : Nat} {m : Nat → Nat} {h : Hp} (q : JW y np na nm nr ne m h) : ∀ i, 0 < i → i < np → ∃ j, j < i ∧ aI h 121 (m 121) i = nI j ∧ aI h 120 (m 120) j = aI h 120 (m 120) i + 1 := q.2.2.1
theorem JW.w_lev {y np na nm nr ne : Nat} {m : Nat → Nat} {h : Hp} (q : JW y np na nm nr ne m h) : ∀ i, i < np → 0 ≤ (aI h 120 (m 120) i).toInt ∧ (aI h 120 (m 120) i).toInt ≤ 3 := q.2.2.2.1
theorem JW.w_lv3 {y np na nm nr ne : Nat} {m : Nat → Nat} {h : Hp} (q : JW y np na nm nr ne m h) : ∀ i, 0 < i → i < np → (aI h 120 (m 120) i).toInt ≤ 2 := q.2.2.2.2.1
theorem JW.w_way {y np na nm nr ne : Nat} {m : Nat → Nat} {h : Hp} (q : JW y np na nm nr ne m h) : ∀ i, i < np → 0 ≤ (aI h 122 (m 122) i).toInt ∧ (aI h 122 (m 122) i).toInt ≤ 99 := q.2.2.2.2.2.1
theorem JW.w_hea {y np na nm nr ne : Nat} {m : Nat → Nat} {h : Hp} (q : JW y np na nm nr ne m h) : ∀ i, i < np → 0 ≤ (aI h 124 (m 124) i).toInt ∧ (aI h 124 (m 124) i).toInt ≤ 999 := q.2.2.2.2.2.2.1
theorem JW.w_tor {y np na nm nr ne : Nat} {m : Nat → Nat} {h : Hp} (q : JW y np na nm nr ne m h) : ∀ i, i < np → -1 ≤ (aI h 125 (m 125) i).toInt ∧ (aI h 125 (m 125) i).toInt ≤ 160 := q.2.2.2.2.2.2.2.1
theorem JW.w_tlv {y np na nm nr ne : Nat} {m : Nat → Nat} {h : Hp} (q : JW y np na nm nr ne m h) : ∀ i, i < np → ¬ aI h 120 (m 120) i = 0 → aI h 125 (m 125) i = -1 := q.2.2.2.2.2.2.2.2.1
theorem JW.w_cho {y np na nm nr ne : Nat} {m : Nat → Nat} {h : Hp} (q : JW y np na nm nr ne m h) : ∀ i, i < np → aI h 126 (m 126) i = -1 ∨ vp_in (aI h 126 (m 126) i) ne := q.2.2.2.2.2.2.2.2.2.1
theorem JW.w_c0 {y np na nm nr ne : Nat} {m : Nat → Nat} {h : Hp} (q : JW y np na nm nr ne m h) : aI h 126 (m 126) 0 = -1 := q.2.2.2.2.2.2.2.2.2.2.1
theorem JW.w_mad {y np na nm nr ne : Nat} {m : Nat → Nat} {h : Hp} (q : JW y np na nm nr ne m h) : ∀ i, i < np → aI h 200 (m 200) i = 0 ∨ aI h 200 (m 200) i = 1 := q.2.2.2.2.2.2.2.2.2.2.2.1
theorem JW.w_mlv {y np na nm nr ne : Nat} {m : Nat → Nat} {h : Hp} (q : JW y np na nm nr ne m h) : ∀ i, i < np → aI h 120 (m 120) i = 0 → aI h 200 (m 200) i = 0 := q.2.2.2.2.2.2.2.2.2.2.2.2.1
theorem JW.w_yes {y np na nm nr ne : Nat} {m : Nat → Nat} {h : Hp} (q : JW y np na nm nr ne m h) : ∀ i, i < 384 → 0 ≤ (aI h 127 (m 127) i).toInt ∧ (aI h 127 (m 127) i).toInt ≤ 99 := q.2.2.2.2.2.2.2.2.2.2.2.2.2.1
theorem JW.w_hel {y np na nm nr ne : Nat} {m : Nat → Nat} {h : Hp} (q : JW y np na nm nr ne m h) : ∀ i, i < 8 → aI h 128 (m 128) i = 0 ∨ aI h 128 (m 128) i = 1 ∨ aI h 128 (m 128) i = 2 := q.2.2.2.2.2.2.2.2.2.2.2.2.2.2.1
theorem JW.w_srt {y np na nm nr ne : Nat} {m : Nat → Nat} {h : Hp} (q : JW y np na nm nr ne m h) : ∀ i, i < 8 → aI h 128 (m 128) i = 1 → 0 ≤ (aI h 129 (m 129) i).toInt ∧ (aI h 129 (m 129) i).toInt ≤ 3 := q.2.2.2.2.2.2.2.2.2.2.2.2.2.2.2.1
theorem JW.w_siz {y np na nm nr ne : Nat} {m : Nat → Nat} {h : Hp} (q : JW y np na nm nr ne m h) : ∀ i, i < 8 → 0 ≤ (aI h 130 (m 130) i).toInt ∧ (aI h 130 (m 130) i).toInt ≤ 60 := q.2.2.2.2.2.2.2.2.2.2.2.2.2.2.2.2.1
theorem JW.w_sho {y np na nm nr ne : Nat} {m : Nat → Nat} {h : Hp} (q : JW y np na nm nr ne m h) : ∀ i, i < 8 → aI h 128 (m 128) i = 2 → vp_in (aI h 131 (m 131) i) na := q.2.2.2.2.2.2.2.2.2.2.2.2.2.2.2.2.2.1
theorem JW.w_at {y np na nm nr ne : Nat} {m : Nat → Nat} {h : Hp} (q : JW y np na nm nr ne m h) : ∀ i, i < na → vp_in (aI h 132 (m 132) i) np := q.2.2.2.2.2.2.2.2.2.2.2.2.2.2.2.2.2.2.1
theorem JW.w_wha {y np na nm nr ne : Nat} {m : Nat → Nat} {h : Hp} (q : JW y np na nm nr ne m h) : ∀ i, i < na → vp_in (aI h 133 (m 133) i) 16 := q.2.2.2.2.2.2.2.2.2.2.2.2.2.2.2.2.2.2.2.1
theorem JW.w_who {y np na nm nr ne : Nat} {m : Nat → Nat} {h : Hp} (q : JW y np na nm nr ne m h) : ∀ i, i < na → vp_in (aI h 134 (m 134) i) 8 := q.2.2.2.2.2.2.2.2.2.2.2.2.2.2.2.2.2.2.2.2.1
theorem JW.w_muc {y np na nm nr ne : Nat} {m : Nat → Nat} {h : Hp} (q : JW y np na nm nr ne m h) : ∀ i, i < na → 0 ≤ (aI h 135 (m 135) i).toInt ∧ (aI h 135 (m 135) i).toInt ≤ 99 := q.2.2.2.2.2.2.2.2.2.2.2.2.2.2.2.2.2.2.2.2.2.1
theorem JW.w_wri {y np na nm nr ne : Nat} {m : Nat → Nat} {h : Hp} (q : JW y np na nm nr ne m h) : ∀ i, i < na → 0 ≤ (aI h 136 (m 136) i).toInt ∧ (aI h 136 (m 136) i).toInt ≤ 4000 := q.2.2.2.2.2.2.2.2.2.2.2.2.2.2.2.2.2.2.2.2.2.2.1
theorem JW.w_kin {y np na nm nr ne : Nat} {m : Nat → Nat} {h : Hp} (q : JW y np na nm nr ne m h) : ∀ i, i < na → 0 ≤ (aI h 137 (m 137) i).toInt ∧ (aI h 137 (m 137) i).toInt ≤ 3 := q.2.2.2.2.2.2.2.2.2.2.2.2.2.2.2.2.2.2.2.2.2.2.2.1
theorem JW.w_klv {y np na nm nr ne : Nat} {m : Nat → Nat} {h : Hp} (q : JW y np na nm nr ne m h) : ∀ i, i < na → ((aI h 137 (m 137) i).toInt < 2 ↔ aI h 120 (m 120) ((aI h 132 (m 132) i).toNatClampNeg) = 0) := q.2.2.2.2.2.2.2.2.2.2.2.2.2.2.2.2.2.2.2.2.2.2.2.2.1
theorem JW.w_mod {y np na nm nr ne : Nat} {m : Nat → Nat} {h : Hp} (q : JW y np na nm nr ne m h) : ∀ i, i < na → aI h 138 (m 138) i = -1 ∨ vp_in (aI h 138 (m 138) i) nm := q.2.2.2.2.2.2.2.2.2.2.2.2.2.2.2.2.2.2.2.2.2.2.2.2.2.1
theorem JW.w_kmo {y np na nm nr ne : Nat} {m : Nat → Nat} {h : Hp} (q : JW y np na nm nr ne m h) : ∀ i, i < na → (aI h 137 (m 137) i = 1 ↔ ¬ aI h 138 (m 138) i = -1) := q.2.2.2.2.2.2.2.2.2.2.2.2.2.2.2.2.2.2.2.2.2.2.2.2.2.2.1
theorem JW.w_int {y np na nm nr ne : Nat} {m : Nat → Nat} {h : Hp} (q : JW y np na nm nr ne m h) : ∀ i, i < na → aI h 139 (m 139) i = -1 ∨ ∃ b, i < b ∧ b < na ∧ aI h 139 (m 139) i = nI b ∧ aI h 132 (m 132) b = aI h 121 (m 121) ((aI h 132 (m 132) i).toNatClampNeg) := q.2.2.2.2.2.2.2.2.2.2.2.2.2.2.2.2.2.2.2.2.2.2.2.2.2.2.2.1
theorem JW.w_dro {y np na nm nr ne : Nat} {m : Nat → Nat} {h : Hp} (q : JW y np na nm nr ne m h) : ∀ i, i < na → aI h 140 (m 140) i = -1 ∨ vp_in (aI h 140 (m 140) i) np := q.2.2.2.2.2.2.2.2.2.2.2.2.2.2.2.2.2.2.2.2.2.2.2.2.2.2.2.2.1
theorem JW.w_gon {y np na nm nr ne : Nat} {m : Nat → Nat} {h : Hp} (q : JW y np na nm nr ne m h) : ∀ i, i < na → -1 ≤ (aI h 141 (m 141) i).toInt ∧ (aI h 141 (m 141) i).toInt ≤ 4000 := q.2.2.2.2.2.2.2.2.2.2.2.2.2.2.2.2.2.2.2.2.2.2.2.2.2.2.2.2.2.1
theorem JW.w_lat {y np na nm nr ne : Nat} {m : Nat → Nat} {h : Hp} (q : JW y np na nm nr ne m h) : ∀ i, i < na → aI h 201 (m 201) i = 0 ∨ aI h 201 (m 201) i = 1 := q.2.2.2.2.2.2.2.2.2.2.2.2.2.2.2.2.2.2.2.2.2.2.2.2.2.2.2.2.2.2.1
theorem JW.w_gap {y np na nm nr ne : Nat} {m : Nat → Nat} {h : Hp} (q : JW y np na nm nr ne m h) : ∀ i, i < na → aI h 202 (m 202) i = 0 ∨ aI h 202 (m 202) i = 1 := q.2.2.2.2.2.2.2.2.2.2.2.2.2.2.2.2.2.2.2.2.2.2.2.2.2.2.2.2.2.2.2.1
theorem JW.w_yie {y np na nm nr ne : Nat} {m : Nat → Nat} {h : Hp} (q : JW y np na nm nr ne m h) : ∀ i, i < na → aI h 203 (m 203) i = 0 ∨ aI h 203 (m 203) i = 1 := q.2.2.2.2.2.2.2.2.2.2.2.2.2.2.2.2.2.2.2.2.2.2.2.2.2.2.2.2.2.2.2.2.1
theorem JW.w_wor {y np na nm nr ne : Nat} {m : Nat → Nat} {h : Hp} (q : JW y np na nm nr ne m h) : ∀ i, i < na → -1 ≤ (aI h 142 (m 142) i).toInt ∧ (aI h 142 (m 142) i).toInt ≤ 1000000 := q.2.2.2.2.2.2.2.2.2.2.2.2.2.2.2.2.2.2.2.2.2.2.2.2.2.2.2.2.2.2.2.2.2.1
theorem JW.w_wdn {y np na nm nr ne : Nat} {m : Nat → Nat} {h : Hp} (q : JW y np na nm nr ne m h) : ∀ i, i < na → 0 ≤ (aI h 143 (m 143) i).toInt ∧ (aI h 143 (m 143) i).toInt ≤ 20 := q.2.2.2.2.2.2.2.2.2.2.2.2.2.2.2.2.2.2.2.2.2.2.2.2.2.2.2.2.2.2.2.2.2.2.1
theorem JW.w_nsg {y np na nm nr ne : Nat} {m : Nat → Nat} {h : Hp} (q : JW y np na nm nr ne m h) : ∀ i, i < na → ¬ aI h 120 (m 120) ((aI h 132 (m 132) i).toNatClampNeg) = 0 → aI h 141 (m 141) i = -1 ∧ aI h 202 (m 202) i = 0 := q.2.2.2.2.2.2.2.2.2.2.2.2.2.2.2.2.2.2.2.2.2.2.2.2.2.2.2.2.2.2.2.2.2.2.2.1
theorem JW.w_gto {y np na nm nr ne : Nat} {m : Nat → Nat} {h : Hp} (q : JW y np na nm nr ne m h) : ∀ i, i < na → aI h 125 (m 125) ((aI h 132 (m 132) i).toNatClampNeg) = -1 → aI h 202 (m 202) i = 0 := q.2.2.2.2.2.2.2.2.2.2.2.2.2.2.2.2.2.2.2.2.2.2.2.2.2.2.2.2.2.2.2.2.2.2.2.2.1
theorem JW.w_one {y np na nm nr ne : Nat} {m : Nat → Nat} {h : Hp} (q : JW y np na nm nr ne m h) : ∀ i j, i < na → j < na → aI h 132 (m 132) i = aI h 132 (m 132) j → aI h 133 (m 133) i = aI h 133 (m 133) j → aI h 134 (m 134) i = aI h 134 (m 134) j → aI h 141 (m 141) i = -1 → aI h 141 (m 141) j = -1 → i = j := q.2.2.2.2.2.2.2.2.2.2.2.2.2.2.2.2.2.2.2.2.2.2.2.2.2.2.2.2.2.2.2.2.2.2.2.2.2.1
theorem JW.w_mwh {y np na nm nr ne : Nat} {m : Nat → Nat} {h : Hp} (q : JW y np na nm nr ne m h) : ∀ i, i < nm → vp_in (aI h 144 (m 144) i) 16 := q.2.2.2.2.2.2.2.2.2.2.2.2.2.2.2.2.2.2.2.2.2.2.2.2.2.2.2.2.2.2.2.2.2.2.2.2.2.2.1
theorem JW.w_mpl {y np na nm nr ne : Nat} {m : Nat → Nat} {h : Hp} (q : JW y np na nm nr ne m h) : ∀ i, i < nm → vp_in (aI h 145 (m 145) i) np := q.2.2.2.2.2.2.2.2.2.2.2.2.2.2.2.2.2.2.2.2.2.2.2.2.2.2.2.2.2.2.2.2.2.2.2.2.2.2.2.1
theorem JW.w_mda {y np na nm nr ne : Nat} {m : Nat → Nat} {h : Hp} (q : JW y np na nm nr ne m h) : ∀ i, i < nm → 0 ≤ (aI h 146 (m 146) i).toInt ∧ (aI h 146 (m 146) i).toInt ≤ 4000 := q.2.2.2.2.2.2.2.2.2.2.2.2.2.2.2.2.2.2.2.2.2.2.2.2.2.2.2.2.2.2.2.2.2.2.2.2.2.2.2.2.1
theorem JW.w_mn {y np na nm nr ne : Nat} {m : Nat → Nat} {h : Hp} (q : JW y np na nm nr ne m h) : ∀ i, i < nm → 0 ≤ (aI h 147 (m 147) i).toInt ∧ (aI h 147 (m 147) i).toInt ≤ 20 := q.2.2.2.2.2.2.2.2.2.2.2.2.2.2.2.2.2.2.2.2.2.2.2.2.2.2.2.2.2.2.2.2.2.2.2.2.2.2.2.2.2.1
theorem JW.w_rle {y np na nm nr ne : Nat} {m : Nat → Nat} {h : Hp} (q : JW y np na nm nr ne m h) : ∀ i, i < nr → 1 ≤ (aI h 148 (m 148) i).toInt ∧ (aI h 148 (m 148) i).toInt ≤ 3 := q.2.2.2.2.2.2.2.2.2.2.2.2.2.2.2.2.2.2.2.2.2.2.2.2.2.2.2.2.2.2.2.2.2.2.2.2.2.2.2.2.2.2.1
theorem JW.w_rda {y np na nm nr ne : Nat} {m : Nat → Nat} {h : Hp} (q : JW y np na nm nr ne m h) : ∀ i, i < nr → 0 ≤ (aI h 149 (m 149) i).toInt ∧ (aI h 149 (m 149) i).toInt ≤ 4000 := q.2.2.2.2.2.2.2.2.2.2.2.2.2.2.2.2.2.2.2.2.2.2.2.2.2.2.2.2.2.2.2.2.2.2.2.2.2.2.2.2.2.2.2.1
theorem JW.w_rst {y np na nm nr ne : Nat} {m : Nat → Nat} {h : Hp} (q : JW y np na nm nr ne m h) : ∀ i, i < nr → -1 ≤ (aI h 150 (m 150) i).toInt ∧ (aI h 150 (m 150) i).toInt ≤ 4000 := q.2.2.2.2.2.2.2.2.2.2.2.2.2.2.2.2.2.2.2.2.2.2.2.2.2.2.2.2.2.2.2.2.2.2.2.2.2.2.2.2.2.2.2.2.1
theorem JW.w_ppl {y np na nm nr ne : Nat} {m : Nat → Nat} {h : Hp} (q : JW y np na nm nr ne m h) : ∀ i, i < ne → vp_in (aI h 159 (m 159) i) np := q.2.2.2.2.2.2.2.2.2.2.2.2.2.2.2.2.2.2.2.2.2.2.2.2.2.2.2.2.2.2.2.2.2.2.2.2.2.2.2.2.2.2.2.2.2.1
theorem JW.w_pbo {y np na nm nr ne : Nat} {m : Nat → Nat} {h : Hp} (q : JW y np na nm nr ne m h) : ∀ i, i < ne → 0 ≤ (aI h 160 (m 160) i).toInt ∧ (aI h 160 (m 160) i).toInt ≤ 9999 := q.2.2.2.2.2.2.2.2.2.2.2.2.2.2.2.2.2.2.2.2.2.2.2.2.2.2.2.2.2.2.2.2.2.2.2.2.2.2.2.2.2.2.2.2.2.2.1
theorem JW.w_cla {y np na nm nr ne : Nat} {m : Nat → Nat} {h : Hp} (q : JW y np na nm nr ne m h) : ∀ i, i < 256 → aI h 204 (m 204) i = 0 ∨ aI h 204 (m 204) i = 1 := q.2.2.2.2.2.2.2.2.2.2.2.2.2.2.2.2.2.2.2.2.2.2.2.2.2.2.2.2.2.2.2.2.2.2.2.2.2.2.2.2.2.2.2.2.2.2.2.1
theorem JW.w_csy {y np na nm nr ne : Nat} {m : Nat → Nat} {h : Hp} (q : JW y np na nm nr ne m h) : ∀ a b, a < 16 → b < 16 → aI h 204 (m 204) (16 * a + b) = aI h 204 (m 204) (16 * b + a) := q.2.2.2.2.2.2.2.2.2.2.2.2.2.2.2.2.2.2.2.2.2.2.2.2.2.2.2.2.2.2.2.2.2.2.2.2.2.2.2.2.2.2.2.2.2.2.2.2.1
theorem JW.w_now {y np na nm nr ne : Nat} {m : Nat → Nat} {h : Hp} (q : JW y np na nm nr ne m h) : 0 ≤ (fI h 1408 y).toInt ∧ (fI h 1408 y).toInt ≤ 4000 := q.2.2.2.2.2.2.2.2.2.2.2.2.2.2.2.2.2.2.2.2.2.2.2.2.2.2.2.2.2.2.2.2.2.2.2.2.2.2.2.2.2.2.2.2.2.2.2.2.2.1
theorem JW.w_amd {y np na nm nr ne : Nat} {m : Nat → Nat} {h : Hp} (q : JW y np na nm nr ne m h) : ∀ i, i < na → ¬ aI h 120 (m 120) ((aI h 132 (m 132) i).toNatClampNeg) = 0 → aI h 200 (m 200) ((aI h 132 (m 132) i).toNatClampNeg) = 1 ∨ (aI h 132 (m 132) i).toNatClampNeg = m 0 := q.2.2.2.2.2.2.2.2.2.2.2.2.2.2.2.2.2.2.2.2.2.2.2.2.2.2.2.2.2.2.2.2.2.2.2.2.2.2.2.2.2.2.2.2.2.2.2.2.2.2.1
theorem JW.w_hl0 {y np na nm nr ne : Nat} {m : Nat → Nat} {h : Hp} (q : JW y np na nm nr ne m h) : ∀ i, i < np → aI h 120 (m 120) i = 0 → 1 ≤ (aI h 124 (m 124) i).toInt := q.2.2.2.2.2.2.2.2.2.2.2.2.2.2.2.2.2.2.2.2.2.2.2.2.2.2.2.2.2.2.2.2.2.2.2.2.2.2.2.2.2.2.2.2.2.2.2.2.2.2.2.1
theorem JW.w_src {y np na nm nr ne : Nat} {m : Nat → Nat} {h : Hp} (q : JW y np na nm nr ne m h) : ∀ i, i < na → ∃ b, b < na ∧ aI h 120 (m 120) ((aI h 132 (m 132) b).toNatClampNeg) = 0 ∧ bel (aI h 139 (m 139)) 3 b i := q.2.2.2.2.2.2.2.2.2.2.2.2.2.2.2.2.2.2.2.2.2.2.2.2.2.2.2.2.2.2.2.2.2.2.2.2.2.2.2.2.2.2.2.2.2.2.2.2.2.2.2.2.1
theorem JW.w_zgp {y np na nm nr ne : Nat} {m : Nat → Nat} {h : Hp} (q : JW y np na nm nr ne m h) : ∀ i, na ≤ i → i < 160 → aI h 202 (m 202) i = 0 := q.2.2.2.2.2.2.2.2.2.2.2.2.2.2.2.2.2.2.2.2.2.2.2.2.2.2.2.2.2.2.2.2.2.2.2.2.2.2.2.2.2.2.2.2.2.2.2.2.2.2.2.2.2.1
theorem JW.w_zyi {y np na nm nr ne : Nat} {m : Nat → Nat} {h : Hp} (q : JW y np na nm nr ne m h) : ∀ i, na ≤ i → i < 160 → aI h 203 (m 203) i = 0 := q.2.2.2.2.2.2.2.2.2.2.2.2.2.2.2.2.2.2.2.2.2.2.2.2.2.2.2.2.2.2.2.2.2.2.2.2.2.2.2.2.2.2.2.2.2.2.2.2.2.2.2.2.2.2.1
theorem JW.w_zwn {y np na nm nr ne : Nat} {m : Nat → Nat} {h : Hp} (q : JW y np na nm nr ne m h) : ∀ i, na ≤ i → i < 160 → aI h 143 (m 143) i = 0 := q.2.2.2.2.2.2.2.2.2.2.2.2.2.2.2.2.2.2.2.2.2.2.2.2.2.2.2.2.2.2.2.2.2.2.2.2.2.2.2.2.2.2.2.2.2.2.2.2.2.2.2.2.2.2.2.1
theorem JW.w_zma {y np na nm nr ne : Nat} {m : Nat → Nat} {h : Hp} (q : JW y np na nm nr ne m h) : ∀ i, np ≤ i → i < 24 → aI h 200 (m 200) i = 0 := q.2.2.2.2.2.2.2.2.2.2.2.2.2.2.2.2.2.2.2.2.2.2.2.2.2.2.2.2.2.2.2.2.2.2.2.2.2.2.2.2.2.2.2.2.2.2.2.2.2.2.2.2.2.2.2.2.1
theorem JW.w_zys {y np na nm nr ne : Nat} {m : Nat → Nat} {h : Hp} (q : JW y np na nm nr ne m h) : ∀ i, 16 * np ≤ i → i < 384 → aI h 127 (m 127) i = 0 := q.2.2.2.2.2.2.2.2.2.2.2.2.2.2.2.2.2.2.2.2.2.2.2.2.2.2.2.2.2.2.2.2.2.2.2.2.2.2.2.2.2.2.2.2.2.2.2.2.2.2.2.2.2.2.2.2.2
def JE (y np na nm nr ne : Nat) (g : Nat → Nat → Nat) (m : Nat → Nat) (h : Hp) : Prop :=
  (∀ p, p < np → fI h 646 (g 1 p) = hsP (aI h 120 (m 120)) (aI h 121 (m 121)) (aI h 124 (m 124)) np p) ∧
  (∀ p, p < np → fI h 647 (g 1 p) = acI (fun q => iF ((aI h 121 (m 121)) q = nI p) 1 0) np) ∧
  (∀ a, a < na → fI h 7 (g 3 a) = hbA (aI h 120 (m 120)) (aI h 124 (m 124)) (aI h 132 (m 132)) (aI h 139 (m 139)) na a) ∧
  (∀ a, a < na → ¬ aI h 120 (m 120) ((aI h 132 (m 132) a).toNatClampNeg) = 0 → fR h 9 (g 3 a) = some (g 10 a) ∧ kd h (g 10 a) = 420 ∧ ln h (g 10 a) = (partsL (aI h 132 (m 132)) (aI h 139 (m 139)) np na a).length ∧ ∀ i, i < (partsL (aI h 132 (m 132)) (aI h 139 (m 139)) np na a).length → aR h 420 (g 10 a) i = some (g 3 ((partsL (aI h 132 (m 132)) (aI h 139 (m 139)) np na a).getD i 0))) ∧
  (∀ a, a < na → aI h 120 (m 120) ((aI h 132 (m 132) a).toNatClampNeg) = 0 → fR h 9 (g 3 a) = none) ∧
  (∀ a, a < na → fI h 11 (g 3 a) = iF ((aI h 138 (m 138)) a = -1) 0 (nI (lcK (aL h 312 (m 312)) (20 * a) ((aI h 143 (m 143)) a).toNatClampNeg (aL h 313 (m 313)) (60 * ((aI h 138 (m 138)) a).toNatClampNeg) ((aI h 147 (m 147)) ((aI h 138 (m 138)) a).toNatClampNeg).toNatClampNeg))) ∧
  (∀ r, r < nr → ruleOK (fun j => (aL h 399 (g 12 r) j).toInt32) (ln h (g 12 r)) (fun j => (aI h 153 (m 153)) (100 * r + j)) ((aI h 151 (m 151)) r) (fun j => (aI h 154 (m 154)) (40 * r + j)) (fun j => (aI h 155 (m 155)) (40 * r + j)) (fun j => (aI h 156 (m 156)) (40 * r + j)) (fun j => (aI h 157 (m 157)) (40 * r + j)) (fun j => (aI h 158 (m 158)) (40 * r + j)) ((aI h 152 (m 152)) r)) ∧
  ((fI h 1482 y = -1 ∧ fI h 130 (g 0 11) = 0) ∨ ∃ n, n ≤ 10 ∧ fI h 1482 y = nI n ∧ fI h 130 (g 0 11) = nI n) ∧
  (∀ i n, fI h 130 (g 0 11) = nI n → n ≤ 10 → i < n → (aI h 168 (m 168)) i = iF (tb (fI h 131 (g 0 11)) i) (aI h 101 (g 0 21) i) 0)
theorem JE.e_hs {y np na nm nr ne : Nat} {g : Nat → Nat → Nat} {m : Nat → Nat} {h : Hp} (q : JE y np na nm nr ne g m h) : ∀ p, p < np → fI h 646 (g 1 p) = hsP (aI h 120 (m 120)) (aI h 121 (m 121)) (aI h 124 (m 124)) np p := q.1
theorem JE.e_be {y np na nm nr ne : Nat} {g : Nat → Nat → Nat} {m : Nat → Nat} {h : Hp} (q : JE y np na nm nr ne g m h) : ∀ p, p < np → fI h 647 (g 1 p) = acI (fun q => iF ((aI h 121 (m 121)) q = nI p) 1 0) np := q.2.1
theorem JE.e_hb {y np na nm nr ne : Nat} {g : Nat → Nat → Nat} {m : Nat → Nat} {h : Hp} (q : JE y np na nm nr ne g m h) : ∀ a, a < na → fI h 7 (g 3 a) = hbA (aI h 120 (m 120)) (aI h 124 (m 124)) (aI h 132 (m 132)) (aI h 139 (m 139)) na a := q.2.2.1
theorem JE.e_pa {y np na nm nr ne : Nat} {g : Nat → Nat → Nat} {m : Nat → Nat} {h : Hp} (q : JE y np na nm nr ne g m h) : ∀ a, a < na → ¬ aI h 120 (m 120) ((aI h 132 (m 132) a).toNatClampNeg) = 0 → fR h 9 (g 3 a) = some (g 10 a) ∧ kd h (g 10 a) = 420 ∧ ln h (g 10 a) = (partsL (aI h 132 (m 132)) (aI h 139 (m 139)) np na a).length ∧ ∀ i, i < (partsL (aI h 132 (m 132)) (aI h 139 (m 139)) np na a).length → aR h 420 (g 10 a) i = some (g 3 ((partsL (aI h 132 (m 132)) (aI h 139 (m 139)) np na a).getD i 0)) := q.2.2.2.1
theorem JE.e_pn {y np na nm nr ne : Nat} {g : Nat → Nat → Nat} {m : Nat → Nat} {h : Hp} (q : JE y np na nm nr ne g m h) : ∀ a, a < na → aI h 120 (m 120) ((aI h 132 (m 132) a).toNatClampNeg) = 0 → fR h 9 (g 3 a) = none := q.2.2.2.2.1
theorem JE.e_lk {y np na nm nr ne : Nat} {g : Nat → Nat → Nat} {m : Nat → Nat} {h : Hp} (q : JE y np na nm nr ne g m h) : ∀ a, a < na → fI h 11 (g 3 a) = iF ((aI h 138 (m 138)) a = -1) 0 (nI (lcK (aL h 312 (m 312)) (20 * a) ((aI h 143 (m 143)) a).toNatClampNeg (aL h 313 (m 313)) (60 * ((aI h 138 (m 138)) a).toNatClampNeg) ((aI h 147 (m 147)) ((aI h 138 (m 138)) a).toNatClampNeg).toNatClampNeg)) := q.2.2.2.2.2.1
theorem JE.e_ru {y np na nm nr ne : Nat} {g : Nat → Nat → Nat} {m : Nat → Nat} {h : Hp} (q : JE y np na nm nr ne g m h) : ∀ r, r < nr → ruleOK (fun j => (aL h 399 (g 12 r) j).toInt32) (ln h (g 12 r)) (fun j => (aI h 153 (m 153)) (100 * r + j)) ((aI h 151 (m 151)) r) (fun j => (aI h 154 (m 154)) (40 * r + j)) (fun j => (aI h 155 (m 155)) (40 * r + j)) (fun j => (aI h 156 (m 156)) (40 * r + j)) (fun j => (aI h 157 (m 157)) (40 * r + j)) (fun j => (aI h 158 (m 158)) (40 * r + j)) ((aI h 152 (m 152)) r) := q.2.2.2.2.2.2.1
theorem JE.e_bs {y np na nm nr ne : Nat} {g : Nat → Nat → Nat} {m : Nat → Nat} {h : Hp} (q : JE y np na nm nr ne g m h) : (fI h 1482 y = -1 ∧ fI h 130 (g 0 11) = 0) ∨ ∃ n, n ≤ 10 ∧ fI h 1482 y = nI n ∧ fI h 130 (g 0 11) = nI n := q.2.2.2.2.2.2.2.1
theorem JE.e_bb {y np na nm nr ne : Nat} {g : Nat → Nat → Nat} {m : Nat → Nat} {h : Hp} (q : JE y np na nm nr ne g m h) : ∀ i n, fI h 130 (g 0 11) = nI n → n ≤ 10 → i < n → (aI h 168 (m 168)) i = iF (tb (fI h 131 (g 0 11)) i) (aI h 101 (g 0 21) i) 0 := q.2.2.2.2.2.2.2.2
/-- room: what is beyond is nothing yet, what is there was made by the counters -/
def JR (b0 s0 np na nm nr ne : Nat) (h : Hp) : Prop := (∀ a, hn h ≤ a → kd h a = 0) ∧ hn h ≤ b0 + 4 * (np + na + nm + nr + ne) ∧ hm h ≤ s0 + 400 * (np + na + nm + nr + ne)
/-- the joint invariant -/
def JA (x y b0 s0 np na nm nr ne : Nat) (g : Nat → Nat → Nat) (m : Nat → Nat) (h : Hp) : Prop :=
  JM y m h ∧ JS x g h ∧ JC x y np na nm nr ne h ∧ JG np na nm nr ne g m h ∧ JD np na nm nr ne g m h ∧ JW y np na nm nr ne m h ∧ JE y np na nm nr ne g m h ∧ JR b0 s0 np na nm nr ne h
def JJ (x y b0 s0 : Nat) (m : Nat → Nat) (h : Hp) : Prop := ∃ np na nm nr ne g, JA x y b0 s0 np na nm nr ne g m h
