def ic0 : Hp := nw (hp0 0) 11 19
def ic1 : Hp := nw ic0 405 24
def ic2 : Hp := sR ic1 1280 0 (some 1)
def ic3 : Hp := nw ic2 409 8
def ic4 : Hp := sR ic3 1281 0 (some 2)
def ic5 : Hp := nw ic4 440 160
def ic6 : Hp := sR ic5 1282 0 (some 3)
def ic7 : Hp := nw ic6 403 8
def ic8 : Hp := sR ic7 1283 0 (some 4)
def ic9 : Hp := nw ic8 407 12
def ic10 : Hp := sR ic9 1284 0 (some 5)
def ic11 : Hp := nw ic10 404 20
def ic12 : Hp := sR ic11 1285 0 (some 6)
def ic13 : Hp := nw ic12 110 7
def ic14 : Hp := sR ic13 1286 0 (some 7)
def ic15 : Hp := nw ic14 111 21
def ic16 : Hp := sR ic15 1287 0 (some 8)
def ic17 : Hp := nw ic16 9 7
def ic18 : Hp := nw ic17 108 60
def ic19 : Hp := sR ic18 1024 9 (some 10)
def ic20 : Hp := nw ic19 109 8
def ic21 : Hp := sR ic20 1025 9 (some 11)
def ic22 : Hp := sI ic21 1028 9 (-1)
def ic23 : Hp := sR ic22 1288 0 (some 9)
def ic24 : Hp := nw ic23 3 5
def ic25 : Hp := nw ic24 400 160
def ic26 : Hp := sR ic25 256 12 (some 13)
def ic27 : Hp := nw ic26 102 161
def ic28 : Hp := sR ic27 257 12 (some 14)
def ic29 : Hp := nw ic28 103 160
def ic30 : Hp := sR ic29 258 12 (some 15)
def ic31 : Hp := sR ic30 1289 0 (some 12)
def ic32 : Hp := nw ic31 7 4
def ic33 : Hp := nw ic32 105 16
def ic34 : Hp := sR ic33 768 16 (some 17)
def ic35 : Hp := nw ic34 106 12
def ic36 : Hp := sR ic35 769 16 (some 18)
def ic37 : Hp := nw ic36 107 12
def ic38 : Hp := sR ic37 770 16 (some 19)
def ic39 : Hp := sR ic38 1290 0 (some 16)
def ic40 : Hp := nw ic39 2 4
def ic41 : Hp := nw ic40 100 10
def ic42 : Hp := sR ic41 128 20 (some 21)
def ic43 : Hp := nw ic42 101 10
def ic44 : Hp := sR ic43 129 20 (some 22)
def ic45 : Hp := sR ic44 1291 0 (some 20)
def ic46 : Hp := sI ic45 1298 0 (-1)
def ic47 : Hp := nw ic46 10 4
def ic48 : Hp := nw ic47 300 60
def ic49 : Hp := sR ic48 1152 23 (some 24)
def ic50 : Hp := sI ic49 1153 23 (-1)
def ic51 : Hp := tR ic50 409 2 0 (some 23)
def ic52 : Hp := nw ic51 10 4
def ic53 : Hp := nw ic52 300 60
def ic54 : Hp := sR ic53 1152 25 (some 26)
def ic55 : Hp := sI ic54 1153 25 (-1)
def ic56 : Hp := tR ic55 409 2 1 (some 25)
def ic57 : Hp := nw ic56 10 4
def ic58 : Hp := nw ic57 300 60
def ic59 : Hp := sR ic58 1152 27 (some 28)
def ic60 : Hp := sI ic59 1153 27 (-1)
def ic61 : Hp := tR ic60 409 2 2 (some 27)
def ic62 : Hp := nw ic61 10 4
def ic63 : Hp := nw ic62 300 60
def ic64 : Hp := sR ic63 1152 29 (some 30)
def ic65 : Hp := sI ic64 1153 29 (-1)
def ic66 : Hp := tR ic65 409 2 3 (some 29)
def ic67 : Hp := nw ic66 10 4
def ic68 : Hp := nw ic67 300 60
def ic69 : Hp := sR ic68 1152 31 (some 32)
def ic70 : Hp := sI ic69 1153 31 (-1)
def ic71 : Hp := tR ic70 409 2 4 (some 31)
def ic72 : Hp := nw ic71 10 4
def ic73 : Hp := nw ic72 300 60
def ic74 : Hp := sR ic73 1152 33 (some 34)
def ic75 : Hp := sI ic74 1153 33 (-1)
def ic76 : Hp := tR ic75 409 2 5 (some 33)
def ic77 : Hp := nw ic76 10 4
def ic78 : Hp := nw ic77 300 60
def ic79 : Hp := sR ic78 1152 35 (some 36)
def ic80 : Hp := sI ic79 1153 35 (-1)
def ic81 : Hp := tR ic80 409 2 6 (some 35)
def ic82 : Hp := nw ic81 10 4
def ic83 : Hp := nw ic82 300 60
def ic84 : Hp := sR ic83 1152 37 (some 38)
def ic85 : Hp := sI ic84 1153 37 (-1)
def ic86 : Hp := tR ic85 409 2 7 (some 37)
def ic87 : Hp := nw ic86 6 11
def ic88 : Hp := nw ic87 104 16
def ic89 : Hp := sR ic88 645 39 (some 40)
def ic90 : Hp := sI ic89 649 39 (-1)
def ic91 : Hp := sI ic90 640 39 0
def ic92 : Hp := sI ic91 641 39 3
def ic93 : Hp := sR ic92 642 39 none
def ic94 : Hp := sI ic93 643 39 0
def ic95 : Hp := sI ic94 644 39 (-1)
def ic96 : Hp := sI ic95 646 39 0
def ic97 : Hp := tR ic96 405 1 0 (some 39)
def ic98 : Hp := sI ic97 1292 0 1
def ic99 : Hp := nw ic98 12 79
def ic100 : Hp := sI ic99 1409 41 1
def ic101 : Hp := sI ic100 1414 41 (-1)
def ic102 : Hp := nw ic101 120 24
def ic103 : Hp := sR ic102 1415 41 (some 42)
def ic104 : Hp := nw ic103 121 24
def ic105 : Hp := sR ic104 1416 41 (some 43)
def ic106 : Hp := nw ic105 122 24
def ic107 : Hp := sR ic106 1417 41 (some 44)
def ic108 : Hp := nw ic107 123 24
def ic109 : Hp := sR ic108 1418 41 (some 45)
def ic110 : Hp := nw ic109 124 24
def ic111 : Hp := sR ic110 1419 41 (some 46)
def ic112 : Hp := nw ic111 125 24
def ic113 : Hp := sR ic112 1420 41 (some 47)
def ic114 : Hp := nw ic113 126 24
def ic115 : Hp := sR ic114 1421 41 (some 48)
def ic116 : Hp := nw ic115 127 384
def ic117 : Hp := sR ic116 1422 41 (some 49)
def ic118 : Hp := nw ic117 200 24
def ic119 : Hp := sR ic118 1423 41 (some 50)
def ic120 : Hp := nw ic119 128 8
def ic121 : Hp := sR ic120 1424 41 (some 51)
def ic122 : Hp := nw ic121 129 8
def ic123 : Hp := sR ic122 1425 41 (some 52)
def ic124 : Hp := nw ic123 130 8
def ic125 : Hp := sR ic124 1426 41 (some 53)
def ic126 : Hp := nw ic125 131 8
def ic127 : Hp := sR ic126 1427 41 (some 54)
def ic128 : Hp := nw ic127 310 480
def ic129 : Hp := sR ic128 1428 41 (some 55)
def ic130 : Hp := nw ic129 311 60
def ic131 : Hp := sR ic130 1429 41 (some 56)
def ic132 : Hp := nw ic131 132 160
def ic133 : Hp := sR ic132 1430 41 (some 57)
def ic134 : Hp := nw ic133 133 160
def ic135 : Hp := sR ic134 1431 41 (some 58)
def ic136 : Hp := nw ic135 134 160
def ic137 : Hp := sR ic136 1432 41 (some 59)
def ic138 : Hp := nw ic137 135 160
def ic139 : Hp := sR ic138 1433 41 (some 60)
def ic140 : Hp := nw ic139 136 160
def ic141 : Hp := sR ic140 1434 41 (some 61)
def ic142 : Hp := nw ic141 137 160
def ic143 : Hp := sR ic142 1435 41 (some 62)
def ic144 : Hp := nw ic143 138 160
def ic145 : Hp := sR ic144 1436 41 (some 63)
def ic146 : Hp := nw ic145 139 160
def ic147 : Hp := sR ic146 1437 41 (some 64)
def ic148 : Hp := nw ic147 140 160
def ic149 : Hp := sR ic148 1438 41 (some 65)
def ic150 : Hp := nw ic149 141 160
def ic151 : Hp := sR ic150 1439 41 (some 66)
def ic152 : Hp := nw ic151 142 160
def ic153 : Hp := sR ic152 1440 41 (some 67)
def ic154 : Hp := nw ic153 143 160
def ic155 : Hp := sR ic154 1441 41 (some 68)
def ic156 : Hp := nw ic155 201 160
def ic157 : Hp := sR ic156 1442 41 (some 69)
def ic158 : Hp := nw ic157 202 160
def ic159 : Hp := sR ic158 1443 41 (some 70)
def ic160 : Hp := nw ic159 203 160
def ic161 : Hp := sR ic160 1444 41 (some 71)
def ic162 : Hp := nw ic161 312 3200
def ic163 : Hp := sR ic162 1445 41 (some 72)
def ic164 : Hp := nw ic163 144 8
def ic165 : Hp := sR ic164 1446 41 (some 73)
def ic166 : Hp := nw ic165 145 8
def ic167 : Hp := sR ic166 1447 41 (some 74)
def ic168 : Hp := nw ic167 146 8
def ic169 : Hp := sR ic168 1448 41 (some 75)
def ic170 : Hp := nw ic169 147 8
def ic171 : Hp := sR ic170 1449 41 (some 76)
def ic172 : Hp := nw ic171 313 480
def ic173 : Hp := sR ic172 1450 41 (some 77)
def ic174 : Hp := nw ic173 148 13
def ic175 : Hp := sR ic174 1451 41 (some 78)
def ic176 : Hp := nw ic175 149 13
def ic177 : Hp := sR ic176 1452 41 (some 79)
def ic178 : Hp := nw ic177 150 13
def ic179 : Hp := sR ic178 1453 41 (some 80)
def ic180 : Hp := nw ic179 151 13
def ic181 : Hp := sR ic180 1454 41 (some 81)
def ic182 : Hp := nw ic181 152 13
def ic183 : Hp := sR ic182 1455 41 (some 82)
def ic184 : Hp := nw ic183 153 1300
def ic185 : Hp := sR ic184 1456 41 (some 83)
def ic186 : Hp := nw ic185 154 520
def ic187 : Hp := sR ic186 1457 41 (some 84)
def ic188 : Hp := nw ic187 155 520
def ic189 : Hp := sR ic188 1458 41 (some 85)
def ic190 : Hp := nw ic189 156 520
def ic191 : Hp := sR ic190 1459 41 (some 86)
def ic192 : Hp := nw ic191 157 520
def ic193 : Hp := sR ic192 1460 41 (some 87)
def ic194 : Hp := nw ic193 158 520
def ic195 : Hp := sR ic194 1461 41 (some 88)
def ic196 : Hp := nw ic195 159 20
def ic197 : Hp := sR ic196 1462 41 (some 89)
def ic198 : Hp := nw ic197 160 20
def ic199 : Hp := sR ic198 1463 41 (some 90)
def ic200 : Hp := nw ic199 204 256
def ic201 : Hp := sR ic200 1464 41 (some 91)
def ic202 : Hp := nw ic201 161 8
def ic203 : Hp := sR ic202 1465 41 (some 92)
def ic204 : Hp := nw ic203 162 441
def ic205 : Hp := sR ic204 1466 41 (some 93)
def ic206 : Hp := nw ic205 163 120
def ic207 : Hp := sR ic206 1467 41 (some 94)
def ic208 : Hp := nw ic207 164 160
def ic209 : Hp := sR ic208 1477 41 (some 95)
def ic210 : Hp := nw ic209 165 24
def ic211 : Hp := sR ic210 1478 41 (some 96)
def ic212 : Hp := nw ic211 166 60
def ic213 : Hp := sR ic212 1480 41 (some 97)
def ic214 : Hp := nw ic213 167 160
def ic215 : Hp := sR ic214 1481 41 (some 98)
def ic216 : Hp := sI ic215 1482 41 (-1)
def ic217 : Hp := nw ic216 168 10
def ic218 : Hp := sR ic217 1483 41 (some 99)
def ic219 : Hp := nw ic218 169 10
def ic220 : Hp := sR ic219 1484 41 (some 100)
def ic221 : Hp := nw ic220 170 10
def ic222 : Hp := sR ic221 1485 41 (some 101)
def ic223 : Hp := nw ic222 171 10
def ic224 : Hp := sR ic223 1486 41 (some 102)
section INI
variable {B : Nat}
def icS (k : Nat) : Hp := match k with | 0 => ic46 | 1 => ic51 | 2 => ic56 | 3 => ic61 | 4 => ic66 | 5 => ic71 | 6 => ic76 | 7 => ic81 | _ => ic86
set_option maxRecDepth 20000 in
theorem i_X10 {h : Hp} (S : SH B h ic0) : w_X10_init (some (B + 0)) h (fun h2 => SH B h2 ic98) := by
  unfold w_X10_init n_X10_init_0
  refine ⟨⟨_, rfl⟩, ?_⟩
  refine I_nwA S 1 24 (by decide) (by decide) (by decide) (by decide +kernel) (fun h S => ?_)
  replace S : SH B h ic1 := S
  refine I_pR (a := 0) (v := 1) S (by decide +kernel) (fun h S => ?_)
  replace S : SH B h ic2 := S
  refine I_nwA S 2 8 (by decide) (by decide) (by decide) (by decide +kernel) (fun h S => ?_)
  replace S : SH B h ic3 := S
  refine I_pR (a := 0) (v := 2) S (by decide +kernel) (fun h S => ?_)
  replace S : SH B h ic4 := S
  refine I_nwA S 3 160 (by decide) (by decide) (by decide) (by decide +kernel) (fun h S => ?_)
  replace S : SH B h ic5 := S
  refine I_pR (a := 0) (v := 3) S (by decide +kernel) (fun h S => ?_)
  replace S : SH B h ic6 := S
  refine I_nwA S 4 8 (by decide) (by decide) (by decide) (by decide +kernel) (fun h S => ?_)
  replace S : SH B h ic7 := S
  refine I_pR (a := 0) (v := 4) S (by decide +kernel) (fun h S => ?_)
  replace S : SH B h ic8 := S
  refine I_nwA S 5 12 (by decide) (by decide) (by decide) (by decide +kernel) (fun h S => ?_)
  replace S : SH B h ic9 := S
  refine I_pR (a := 0) (v := 5) S (by decide +kernel) (fun h S => ?_)
  replace S : SH B h ic10 := S
  refine I_nwA S 6 20 (by decide) (by decide) (by decide) (by decide +kernel) (fun h S => ?_)
  replace S : SH B h ic11 := S
  refine I_pR (a := 0) (v := 6) S (by decide +kernel) (fun h S => ?_)
  replace S : SH B h ic12 := S
  refine I_nwA S 7 7 (by decide) (by decide) (by decide) (by decide +kernel) (fun h S => ?_)
  replace S : SH B h ic13 := S
  refine I_pR (a := 0) (v := 7) S (by decide +kernel) (fun h S => ?_)
  replace S : SH B h ic14 := S
  refine I_nwA S 8 21 (by decide) (by decide) (by decide) (by decide +kernel) (fun h S => ?_)
  replace S : SH B h ic15 := S
  refine I_pR (a := 0) (v := 8) S (by decide +kernel) (fun h S => ?_)
  replace S : SH B h ic16 := S
  refine I_nwO S 9 (by decide +kernel) (fun h S => ?_)
  replace S : SH B h ic17 := S
  refine ⟨⟨_, rfl⟩, ?_⟩
  unfold w_X8_init n_X8_init_0
  refine ⟨⟨_, rfl⟩, ?_⟩
  refine I_nwA S 10 60 (by decide) (by decide) (by decide) (by decide +kernel) (fun h S => ?_)
  replace S : SH B h ic18 := S
  refine I_pR (a := 9) (v := 10) S (by decide +kernel) (fun h S => ?_)
  replace S : SH B h ic19 := S
  refine lt_iff.mpr ?_
  refine I_nwA S 11 8 (by decide) (by decide) (by decide) (by decide +kernel) (fun h S => ?_)
  replace S : SH B h ic20 := S
  refine I_pR (a := 9) (v := 11) S (by decide +kernel) (fun h S => ?_)
  replace S : SH B h ic21 := S
  refine I_pI (a := 9) S (by decide +kernel) (fun h S => ?_)
  replace S : SH B h ic22 := S
  refine I_pR (a := 0) (v := 9) S (by decide +kernel) (fun h S => ?_)
  replace S : SH B h ic23 := S
  refine I_nwO S 12 (by decide +kernel) (fun h S => ?_)
  replace S : SH B h ic24 := S
  refine ⟨⟨_, rfl⟩, ?_⟩
  unfold w_X2_init n_X2_init_0
  refine ⟨⟨_, rfl⟩, ?_⟩
  refine I_nwA S 13 160 (by decide) (by decide) (by decide) (by decide +kernel) (fun h S => ?_)
  replace S : SH B h ic25 := S
  refine I_pR (a := 12) (v := 13) S (by decide +kernel) (fun h S => ?_)
  replace S : SH B h ic26 := S
  refine I_nwA S 14 161 (by decide) (by decide) (by decide) (by decide +kernel) (fun h S => ?_)
  replace S : SH B h ic27 := S
  refine I_pR (a := 12) (v := 14) S (by decide +kernel) (fun h S => ?_)
  replace S : SH B h ic28 := S
  refine I_nwA S 15 160 (by decide) (by decide) (by decide) (by decide +kernel) (fun h S => ?_)
  replace S : SH B h ic29 := S
  refine I_pR (a := 12) (v := 15) S (by decide +kernel) (fun h S => ?_)
  replace S : SH B h ic30 := S
  refine I_pR (a := 0) (v := 12) S (by decide +kernel) (fun h S => ?_)
  replace S : SH B h ic31 := S
  refine I_nwO S 16 (by decide +kernel) (fun h S => ?_)
  replace S : SH B h ic32 := S
  refine ⟨⟨_, rfl⟩, ?_⟩
  unfold w_X6_init n_X6_init_0
  refine ⟨⟨_, rfl⟩, ?_⟩
  refine I_nwA S 17 16 (by decide) (by decide) (by decide) (by decide +kernel) (fun h S => ?_)
  replace S : SH B h ic33 := S
  refine I_pR (a := 16) (v := 17) S (by decide +kernel) (fun h S => ?_)
  replace S : SH B h ic34 := S
  refine I_nwA S 18 12 (by decide) (by decide) (by decide) (by decide +kernel) (fun h S => ?_)
  replace S : SH B h ic35 := S
  refine I_pR (a := 16) (v := 18) S (by decide +kernel) (fun h S => ?_)
  replace S : SH B h ic36 := S
  refine I_nwA S 19 12 (by decide) (by decide) (by decide) (by decide +kernel) (fun h S => ?_)
  replace S : SH B h ic37 := S
  refine I_pR (a := 16) (v := 19) S (by decide +kernel) (fun h S => ?_)
  replace S : SH B h ic38 := S
  refine I_pR (a := 0) (v := 16) S (by decide +kernel) (fun h S => ?_)
  replace S : SH B h ic39 := S
  refine I_nwO S 20 (by decide +kernel) (fun h S => ?_)
  replace S : SH B h ic40 := S
  refine ⟨⟨_, rfl⟩, ?_⟩
  unfold w_X1_init n_X1_init_0
  refine ⟨⟨_, rfl⟩, ?_⟩
  refine I_nwA S 21 10 (by decide) (by decide) (by decide) (by decide +kernel) (fun h S => ?_)
  replace S : SH B h ic41 := S
  refine I_pR (a := 20) (v := 21) S (by decide +kernel) (fun h S => ?_)
  replace S : SH B h ic42 := S
  refine I_nwA S 22 10 (by decide) (by decide) (by decide) (by decide +kernel) (fun h S => ?_)
  replace S : SH B h ic43 := S
  refine I_pR (a := 20) (v := 22) S (by decide +kernel) (fun h S => ?_)
  replace S : SH B h ic44 := S
  refine I_pR (a := 0) (v := 20) S (by decide +kernel) (fun h S => ?_)
  replace S : SH B h ic45 := S
  refine I_pI (a := 0) S (by decide +kernel) (fun h S => ?_)
  replace S : SH B h ic46 := S
  unfold l_X10_init_126
  refine Lo.count 8 (fun k s h => s = nI k ∧ SH B h (icS k)) ?_ 0 (by decide) _ _ ⟨rfl, S⟩
  clear S
  rintro k s h hk ⟨rfl, S⟩ K hK
  unfold b_X10_init_126
  rcases (show k = 0 ∨ k = 1 ∨ k = 2 ∨ k = 3 ∨ k = 4 ∨ k = 5 ∨ k = 6 ∨ k = 7 ∨ k = 8 by omega) with rfl | rfl | rfl | rfl | rfl | rfl | rfl | rfl | rfl
  · replace S : SH B h ic46 := S
    refine ⟨fun z => absurd z (by decide), fun _ => ?_⟩
    refine I_gR (a := 0) S 2 (by decide +kernel) (by decide +kernel) ?_
    refine I_nwO S 23 (by decide +kernel) (fun h S => ?_)
    replace S : SH B h ic47 := S
    refine ⟨⟨_, rfl⟩, ?_⟩
    unfold w_X9_init n_X9_init_0
    refine ⟨⟨_, rfl⟩, ?_⟩
    refine I_nwA S 24 60 (by decide) (by decide) (by decide) (by decide +kernel) (fun h S => ?_)
    replace S : SH B h ic48 := S
    refine I_pR (a := 23) (v := 24) S (by decide +kernel) (fun h S => ?_)
    replace S : SH B h ic49 := S
    refine I_pI (a := 23) S (by decide +kernel) (fun h S => ?_)
    replace S : SH B h ic50 := S
    refine I_stR (a := 2) (v := 23) S 409 0 8 9 (by decide +kernel) (by decide) (by decide) (by unfold rcOK; decide) (by decide +kernel) (by decide) (by decide) (by decide +kernel) (by decide) (fun h S => ?_)
    replace S : SH B h ic51 := S
    refine lt_iff.mpr ?_
    exact hK (nI 0 + 1) h (by decide) ⟨by decide, S⟩
  · replace S : SH B h ic51 := S
    refine ⟨fun z => absurd z (by decide), fun _ => ?_⟩
    refine I_gR (a := 0) S 2 (by decide +kernel) (by decide +kernel) ?_
    refine I_nwO S 25 (by decide +kernel) (fun h S => ?_)
    replace S : SH B h ic52 := S
    refine ⟨⟨_, rfl⟩, ?_⟩
    unfold w_X9_init n_X9_init_0
    refine ⟨⟨_, rfl⟩, ?_⟩
    refine I_nwA S 26 60 (by decide) (by decide) (by decide) (by decide +kernel) (fun h S => ?_)
    replace S : SH B h ic53 := S
    refine I_pR (a := 25) (v := 26) S (by decide +kernel) (fun h S => ?_)
    replace S : SH B h ic54 := S
    refine I_pI (a := 25) S (by decide +kernel) (fun h S => ?_)
    replace S : SH B h ic55 := S
    refine I_stR (a := 2) (v := 25) S 409 1 8 9 (by decide +kernel) (by decide) (by decide) (by unfold rcOK; decide) (by decide +kernel) (by decide) (by decide) (by decide +kernel) (by decide) (fun h S => ?_)
    replace S : SH B h ic56 := S
    refine lt_iff.mpr ?_
    exact hK (nI 1 + 1) h (by decide) ⟨by decide, S⟩
  · replace S : SH B h ic56 := S
    refine ⟨fun z => absurd z (by decide), fun _ => ?_⟩
    refine I_gR (a := 0) S 2 (by decide +kernel) (by decide +kernel) ?_
    refine I_nwO S 27 (by decide +kernel) (fun h S => ?_)
    replace S : SH B h ic57 := S
    refine ⟨⟨_, rfl⟩, ?_⟩
    unfold w_X9_init n_X9_init_0
    refine ⟨⟨_, rfl⟩, ?_⟩
    refine I_nwA S 28 60 (by decide) (by decide) (by decide) (by decide +kernel) (fun h S => ?_)
    replace S : SH B h ic58 := S
    refine I_pR (a := 27) (v := 28) S (by decide +kernel) (fun h S => ?_)
    replace S : SH B h ic59 := S
    refine I_pI (a := 27) S (by decide +kernel) (fun h S => ?_)
    replace S : SH B h ic60 := S
    refine I_stR (a := 2) (v := 27) S 409 2 8 9 (by decide +kernel) (by decide) (by decide) (by unfold rcOK; decide) (by decide +kernel) (by decide) (by decide) (by decide +kernel) (by decide) (fun h S => ?_)
    replace S : SH B h ic61 := S
    refine lt_iff.mpr ?_
    exact hK (nI 2 + 1) h (by decide) ⟨by decide, S⟩
  · replace S : SH B h ic61 := S
    refine ⟨fun z => absurd z (by decide), fun _ => ?_⟩
    refine I_gR (a := 0) S 2 (by decide +kernel) (by decide +kernel) ?_
    refine I_nwO S 29 (by decide +kernel) (fun h S => ?_)
    replace S : SH B h ic62 := S
    refine ⟨⟨_, rfl⟩, ?_⟩
    unfold w_X9_init n_X9_init_0
    refine ⟨⟨_, rfl⟩, ?_⟩
    refine I_nwA S 30 60 (by decide) (by decide) (by decide) (by decide +kernel) (fun h S => ?_)
    replace S : SH B h ic63 := S
    refine I_pR (a := 29) (v := 30) S (by decide +kernel) (fun h S => ?_)
    replace S : SH B h ic64 := S
    refine I_pI (a := 29) S (by decide +kernel) (fun h S => ?_)
    replace S : SH B h ic65 := S
    refine I_stR (a := 2) (v := 29) S 409 3 8 9 (by decide +kernel) (by decide) (by decide) (by unfold rcOK; decide) (by decide +kernel) (by decide) (by decide) (by decide +kernel) (by decide) (fun h S => ?_)
    replace S : SH B h ic66 := S
    refine lt_iff.mpr ?_
    exact hK (nI 3 + 1) h (by decide) ⟨by decide, S⟩
  · replace S : SH B h ic66 := S
    refine ⟨fun z => absurd z (by decide), fun _ => ?_⟩
    refine I_gR (a := 0) S 2 (by decide +kernel) (by decide +kernel) ?_
    refine I_nwO S 31 (by decide +kernel) (fun h S => ?_)
    replace S : SH B h ic67 := S
    refine ⟨⟨_, rfl⟩, ?_⟩
    unfold w_X9_init n_X9_init_0
    refine ⟨⟨_, rfl⟩, ?_⟩
    refine I_nwA S 32 60 (by decide) (by decide) (by decide) (by decide +kernel) (fun h S => ?_)
    replace S : SH B h ic68 := S
    refine I_pR (a := 31) (v := 32) S (by decide +kernel) (fun h S => ?_)
    replace S : SH B h ic69 := S
    refine I_pI (a := 31) S (by decide +kernel) (fun h S => ?_)
    replace S : SH B h ic70 := S
    refine I_stR (a := 2) (v := 31) S 409 4 8 9 (by decide +kernel) (by decide) (by decide) (by unfold rcOK; decide) (by decide +kernel) (by decide) (by decide) (by decide +kernel) (by decide) (fun h S => ?_)
    replace S : SH B h ic71 := S
    refine lt_iff.mpr ?_
    exact hK (nI 4 + 1) h (by decide) ⟨by decide, S⟩
  · replace S : SH B h ic71 := S
    refine ⟨fun z => absurd z (by decide), fun _ => ?_⟩
    refine I_gR (a := 0) S 2 (by decide +kernel) (by decide +kernel) ?_
    refine I_nwO S 33 (by decide +kernel) (fun h S => ?_)
    replace S : SH B h ic72 := S
    refine ⟨⟨_, rfl⟩, ?_⟩
    unfold w_X9_init n_X9_init_0
    refine ⟨⟨_, rfl⟩, ?_⟩
    refine I_nwA S 34 60 (by decide) (by decide) (by decide) (by decide +kernel) (fun h S => ?_)
    replace S : SH B h ic73 := S
    refine I_pR (a := 33) (v := 34) S (by decide +kernel) (fun h S => ?_)
    replace S : SH B h ic74 := S
    refine I_pI (a := 33) S (by decide +kernel) (fun h S => ?_)
    replace S : SH B h ic75 := S
    refine I_stR (a := 2) (v := 33) S 409 5 8 9 (by decide +kernel) (by decide) (by decide) (by unfold rcOK; decide) (by decide +kernel) (by decide) (by decide) (by decide +kernel) (by decide) (fun h S => ?_)
    replace S : SH B h ic76 := S
    refine lt_iff.mpr ?_
    exact hK (nI 5 + 1) h (by decide) ⟨by decide, S⟩
  · replace S : SH B h ic76 := S
    refine ⟨fun z => absurd z (by decide), fun _ => ?_⟩
    refine I_gR (a := 0) S 2 (by decide +kernel) (by decide +kernel) ?_
    refine I_nwO S 35 (by decide +kernel) (fun h S => ?_)
    replace S : SH B h ic77 := S
    refine ⟨⟨_, rfl⟩, ?_⟩
    unfold w_X9_init n_X9_init_0
    refine ⟨⟨_, rfl⟩, ?_⟩
    refine I_nwA S 36 60 (by decide) (by decide) (by decide) (by decide +kernel) (fun h S => ?_)
    replace S : SH B h ic78 := S
    refine I_pR (a := 35) (v := 36) S (by decide +kernel) (fun h S => ?_)
    replace S : SH B h ic79 := S
    refine I_pI (a := 35) S (by decide +kernel) (fun h S => ?_)
    replace S : SH B h ic80 := S
    refine I_stR (a := 2) (v := 35) S 409 6 8 9 (by decide +kernel) (by decide) (by decide) (by unfold rcOK; decide) (by decide +kernel) (by decide) (by decide) (by decide +kernel) (by decide) (fun h S => ?_)
    replace S : SH B h ic81 := S
    refine lt_iff.mpr ?_
    exact hK (nI 6 + 1) h (by decide) ⟨by decide, S⟩
  · replace S : SH B h ic81 := S
    refine ⟨fun z => absurd z (by decide), fun _ => ?_⟩
    refine I_gR (a := 0) S 2 (by decide +kernel) (by decide +kernel) ?_
    refine I_nwO S 37 (by decide +kernel) (fun h S => ?_)
    replace S : SH B h ic82 := S
    refine ⟨⟨_, rfl⟩, ?_⟩
    unfold w_X9_init n_X9_init_0
    refine ⟨⟨_, rfl⟩, ?_⟩
    refine I_nwA S 38 60 (by decide) (by decide) (by decide) (by decide +kernel) (fun h S => ?_)
    replace S : SH B h ic83 := S
    refine I_pR (a := 37) (v := 38) S (by decide +kernel) (fun h S => ?_)
    replace S : SH B h ic84 := S
    refine I_pI (a := 37) S (by decide +kernel) (fun h S => ?_)
    replace S : SH B h ic85 := S
    refine I_stR (a := 2) (v := 37) S 409 7 8 9 (by decide +kernel) (by decide) (by decide) (by unfold rcOK; decide) (by decide +kernel) (by decide) (by decide) (by decide +kernel) (by decide) (fun h S => ?_)
    replace S : SH B h ic86 := S
    refine lt_iff.mpr ?_
    exact hK (nI 7 + 1) h (by decide) ⟨by decide, S⟩
  · replace S : SH B h ic86 := S
    refine ⟨fun _ => ?_, fun z => absurd (by decide) z⟩
    refine I_gR (a := 0) S 1 (by decide +kernel) (by decide +kernel) ?_
    refine I_nwO S 39 (by decide +kernel) (fun h S => ?_)
    replace S : SH B h ic87 := S
    refine ⟨⟨_, rfl⟩, ?_⟩
    unfold w_X5_init n_X5_init_0
    refine ⟨⟨_, rfl⟩, ?_⟩
    refine I_nwA S 40 16 (by decide) (by decide) (by decide) (by decide +kernel) (fun h S => ?_)
    replace S : SH B h ic88 := S
    refine I_pR (a := 39) (v := 40) S (by decide +kernel) (fun h S => ?_)
    replace S : SH B h ic89 := S
    refine I_pI (a := 39) S (by decide +kernel) (fun h S => ?_)
    replace S : SH B h ic90 := S
    refine I_pI (a := 39) S (by decide +kernel) (fun h S => ?_)
    replace S : SH B h ic91 := S
    refine ⟨fun _ => ?_, fun z => absurd rfl z⟩
    unfold n_X5_init_37
    refine I_pI (a := 39) S (by decide +kernel) (fun h S => ?_)
    replace S : SH B h ic92 := S
    refine I_pN (a := 39) S (by decide +kernel) (fun h S => ?_)
    replace S : SH B h ic93 := S
    refine I_pI (a := 39) S (by decide +kernel) (fun h S => ?_)
    replace S : SH B h ic94 := S
    refine I_pI (a := 39) S (by decide +kernel) (fun h S => ?_)
    replace S : SH B h ic95 := S
    refine I_pI (a := 39) S (by decide +kernel) (fun h S => ?_)
    replace S : SH B h ic96 := S
    refine I_stR (a := 1) (v := 39) S 405 0 24 5 (by decide +kernel) (by decide) (by decide) (by unfold rcOK; decide) (by decide +kernel) (by decide) (by decide) (by decide +kernel) (by decide) (fun h S => ?_)
    replace S : SH B h ic97 := S
    refine I_pI (a := 0) S (by decide +kernel) (fun h S => ?_)
    replace S : SH B h ic98 := S
    exact S
set_option maxRecDepth 20000 in
theorem i_X11 {h : Hp} (S : SH B h ic99) (Q : Hp → Prop) (hQ : ∀ h2, SH B h2 ic224 → Q (tI (tI (tI (tI h2 120 (B + 42) 0 3) 121 (B + 43) 0 (-1)) 125 (B + 47) 0 (-1)) 126 (B + 48) 0 (-1))) : w_X11_init (some (B + 41)) h Q := by
  unfold w_X11_init n_X11_init_0
  refine ⟨⟨_, rfl⟩, ?_⟩
  refine I_pI (a := 41) S (by decide +kernel) (fun h S => ?_)
  replace S : SH B h ic100 := S
  refine I_pI (a := 41) S (by decide +kernel) (fun h S => ?_)
  replace S : SH B h ic101 := S
  refine I_nwA S 42 24 (by decide) (by decide) (by decide) (by decide +kernel) (fun h S => ?_)
  replace S : SH B h ic102 := S
  refine I_pR (a := 41) (v := 42) S (by decide +kernel) (fun h S => ?_)
  replace S : SH B h ic103 := S
  refine I_nwA S 43 24 (by decide) (by decide) (by decide) (by decide +kernel) (fun h S => ?_)
  replace S : SH B h ic104 := S
  refine I_pR (a := 41) (v := 43) S (by decide +kernel) (fun h S => ?_)
  replace S : SH B h ic105 := S
  refine I_nwA S 44 24 (by decide) (by decide) (by decide) (by decide +kernel) (fun h S => ?_)
  replace S : SH B h ic106 := S
  refine I_pR (a := 41) (v := 44) S (by decide +kernel) (fun h S => ?_)
  replace S : SH B h ic107 := S
  refine I_nwA S 45 24 (by decide) (by decide) (by decide) (by decide +kernel) (fun h S => ?_)
  replace S : SH B h ic108 := S
  refine I_pR (a := 41) (v := 45) S (by decide +kernel) (fun h S => ?_)
  replace S : SH B h ic109 := S
  refine I_nwA S 46 24 (by decide) (by decide) (by decide) (by decide +kernel) (fun h S => ?_)
  replace S : SH B h ic110 := S
  refine I_pR (a := 41) (v := 46) S (by decide +kernel) (fun h S => ?_)
  replace S : SH B h ic111 := S
  refine I_nwA S 47 24 (by decide) (by decide) (by decide) (by decide +kernel) (fun h S => ?_)
  replace S : SH B h ic112 := S
  refine I_pR (a := 41) (v := 47) S (by decide +kernel) (fun h S => ?_)
  replace S : SH B h ic113 := S
  refine I_nwA S 48 24 (by decide) (by decide) (by decide) (by decide +kernel) (fun h S => ?_)
  replace S : SH B h ic114 := S
  refine I_pR (a := 41) (v := 48) S (by decide +kernel) (fun h S => ?_)
  replace S : SH B h ic115 := S
  refine I_nwA S 49 384 (by decide) (by decide) (by decide) (by decide +kernel) (fun h S => ?_)
  replace S : SH B h ic116 := S
  refine I_pR (a := 41) (v := 49) S (by decide +kernel) (fun h S => ?_)
  replace S : SH B h ic117 := S
  refine I_nwA S 50 24 (by decide) (by decide) (by decide) (by decide +kernel) (fun h S => ?_)
  replace S : SH B h ic118 := S
  refine I_pR (a := 41) (v := 50) S (by decide +kernel) (fun h S => ?_)
  replace S : SH B h ic119 := S
  refine I_nwA S 51 8 (by decide) (by decide) (by decide) (by decide +kernel) (fun h S => ?_)
  replace S : SH B h ic120 := S
  refine I_pR (a := 41) (v := 51) S (by decide +kernel) (fun h S => ?_)
  replace S : SH B h ic121 := S
  refine I_nwA S 52 8 (by decide) (by decide) (by decide) (by decide +kernel) (fun h S => ?_)
  replace S : SH B h ic122 := S
  refine I_pR (a := 41) (v := 52) S (by decide +kernel) (fun h S => ?_)
  replace S : SH B h ic123 := S
  refine I_nwA S 53 8 (by decide) (by decide) (by decide) (by decide +kernel) (fun h S => ?_)
  replace S : SH B h ic124 := S
  refine I_pR (a := 41) (v := 53) S (by decide +kernel) (fun h S => ?_)
  replace S : SH B h ic125 := S
  refine I_nwA S 54 8 (by decide) (by decide) (by decide) (by decide +kernel) (fun h S => ?_)
  replace S : SH B h ic126 := S
  refine I_pR (a := 41) (v := 54) S (by decide +kernel) (fun h S => ?_)
  replace S : SH B h ic127 := S
  refine I_nwA S 55 480 (by decide) (by decide) (by decide) (by decide +kernel) (fun h S => ?_)
  replace S : SH B h ic128 := S
  refine I_pR (a := 41) (v := 55) S (by decide +kernel) (fun h S => ?_)
  replace S : SH B h ic129 := S
  refine I_nwA S 56 60 (by decide) (by decide) (by decide) (by decide +kernel) (fun h S => ?_)
  replace S : SH B h ic130 := S
  refine I_pR (a := 41) (v := 56) S (by decide +kernel) (fun h S => ?_)
  replace S : SH B h ic131 := S
  refine I_nwA S 57 160 (by decide) (by decide) (by decide) (by decide +kernel) (fun h S => ?_)
  replace S : SH B h ic132 := S
  refine I_pR (a := 41) (v := 57) S (by decide +kernel) (fun h S => ?_)
  replace S : SH B h ic133 := S
  refine I_nwA S 58 160 (by decide) (by decide) (by decide) (by decide +kernel) (fun h S => ?_)
  replace S : SH B h ic134 := S
  refine I_pR (a := 41) (v := 58) S (by decide +kernel) (fun h S => ?_)
  replace S : SH B h ic135 := S
  refine I_nwA S 59 160 (by decide) (by decide) (by decide) (by decide +kernel) (fun h S => ?_)
  replace S : SH B h ic136 := S
  refine I_pR (a := 41) (v := 59) S (by decide +kernel) (fun h S => ?_)
  replace S : SH B h ic137 := S
  refine I_nwA S 60 160 (by decide) (by decide) (by decide) (by decide +kernel) (fun h S => ?_)
  replace S : SH B h ic138 := S
  refine I_pR (a := 41) (v := 60) S (by decide +kernel) (fun h S => ?_)
  replace S : SH B h ic139 := S
  refine I_nwA S 61 160 (by decide) (by decide) (by decide) (by decide +kernel) (fun h S => ?_)
  replace S : SH B h ic140 := S
  refine I_pR (a := 41) (v := 61) S (by decide +kernel) (fun h S => ?_)
  replace S : SH B h ic141 := S
  refine I_nwA S 62 160 (by decide) (by decide) (by decide) (by decide +kernel) (fun h S => ?_)
  replace S : SH B h ic142 := S
  refine I_pR (a := 41) (v := 62) S (by decide +kernel) (fun h S => ?_)
  replace S : SH B h ic143 := S
  refine I_nwA S 63 160 (by decide) (by decide) (by decide) (by decide +kernel) (fun h S => ?_)
  replace S : SH B h ic144 := S
  refine I_pR (a := 41) (v := 63) S (by decide +kernel) (fun h S => ?_)
  replace S : SH B h ic145 := S
  refine I_nwA S 64 160 (by decide) (by decide) (by decide) (by decide +kernel) (fun h S => ?_)
  replace S : SH B h ic146 := S
  refine I_pR (a := 41) (v := 64) S (by decide +kernel) (fun h S => ?_)
  replace S : SH B h ic147 := S
  refine I_nwA S 65 160 (by decide) (by decide) (by decide) (by decide +kernel) (fun h S => ?_)
  replace S : SH B h ic148 := S
  refine I_pR (a := 41) (v := 65) S (by decide +kernel) (fun h S => ?_)
  replace S : SH B h ic149 := S
  refine I_nwA S 66 160 (by decide) (by decide) (by decide) (by decide +kernel) (fun h S => ?_)
  replace S : SH B h ic150 := S
  refine I_pR (a := 41) (v := 66) S (by decide +kernel) (fun h S => ?_)
  replace S : SH B h ic151 := S
  refine I_nwA S 67 160 (by decide) (by decide) (by decide) (by decide +kernel) (fun h S => ?_)
  replace S : SH B h ic152 := S
  refine I_pR (a := 41) (v := 67) S (by decide +kernel) (fun h S => ?_)
  replace S : SH B h ic153 := S
  refine I_nwA S 68 160 (by decide) (by decide) (by decide) (by decide +kernel) (fun h S => ?_)
  replace S : SH B h ic154 := S
  refine I_pR (a := 41) (v := 68) S (by decide +kernel) (fun h S => ?_)
  replace S : SH B h ic155 := S
  refine I_nwA S 69 160 (by decide) (by decide) (by decide) (by decide +kernel) (fun h S => ?_)
  replace S : SH B h ic156 := S
  refine I_pR (a := 41) (v := 69) S (by decide +kernel) (fun h S => ?_)
  replace S : SH B h ic157 := S
  refine I_nwA S 70 160 (by decide) (by decide) (by decide) (by decide +kernel) (fun h S => ?_)
  replace S : SH B h ic158 := S
  refine I_pR (a := 41) (v := 70) S (by decide +kernel) (fun h S => ?_)
  replace S : SH B h ic159 := S
  refine I_nwA S 71 160 (by decide) (by decide) (by decide) (by decide +kernel) (fun h S => ?_)
  replace S : SH B h ic160 := S
  refine I_pR (a := 41) (v := 71) S (by decide +kernel) (fun h S => ?_)
  replace S : SH B h ic161 := S
  refine I_nwA S 72 3200 (by decide) (by decide) (by decide) (by decide +kernel) (fun h S => ?_)
  replace S : SH B h ic162 := S
  refine I_pR (a := 41) (v := 72) S (by decide +kernel) (fun h S => ?_)
  replace S : SH B h ic163 := S
  refine I_nwA S 73 8 (by decide) (by decide) (by decide) (by decide +kernel) (fun h S => ?_)
  replace S : SH B h ic164 := S
  refine I_pR (a := 41) (v := 73) S (by decide +kernel) (fun h S => ?_)
  replace S : SH B h ic165 := S
  refine I_nwA S 74 8 (by decide) (by decide) (by decide) (by decide +kernel) (fun h S => ?_)
  replace S : SH B h ic166 := S
  refine I_pR (a := 41) (v := 74) S (by decide +kernel) (fun h S => ?_)
  replace S : SH B h ic167 := S
  refine I_nwA S 75 8 (by decide) (by decide) (by decide) (by decide +kernel) (fun h S => ?_)
  replace S : SH B h ic168 := S
  refine I_pR (a := 41) (v := 75) S (by decide +kernel) (fun h S => ?_)
  replace S : SH B h ic169 := S
  refine I_nwA S 76 8 (by decide) (by decide) (by decide) (by decide +kernel) (fun h S => ?_)
  replace S : SH B h ic170 := S
  refine I_pR (a := 41) (v := 76) S (by decide +kernel) (fun h S => ?_)
  replace S : SH B h ic171 := S
  refine I_nwA S 77 480 (by decide) (by decide) (by decide) (by decide +kernel) (fun h S => ?_)
  replace S : SH B h ic172 := S
  refine I_pR (a := 41) (v := 77) S (by decide +kernel) (fun h S => ?_)
  replace S : SH B h ic173 := S
  refine I_nwA S 78 13 (by decide) (by decide) (by decide) (by decide +kernel) (fun h S => ?_)
  replace S : SH B h ic174 := S
  refine I_pR (a := 41) (v := 78) S (by decide +kernel) (fun h S => ?_)
  replace S : SH B h ic175 := S
  refine I_nwA S 79 13 (by decide) (by decide) (by decide) (by decide +kernel) (fun h S => ?_)
  replace S : SH B h ic176 := S
  refine I_pR (a := 41) (v := 79) S (by decide +kernel) (fun h S => ?_)
  replace S : SH B h ic177 := S
  refine I_nwA S 80 13 (by decide) (by decide) (by decide) (by decide +kernel) (fun h S => ?_)
  replace S : SH B h ic178 := S
  refine I_pR (a := 41) (v := 80) S (by decide +kernel) (fun h S => ?_)
  replace S : SH B h ic179 := S
  refine I_nwA S 81 13 (by decide) (by decide) (by decide) (by decide +kernel) (fun h S => ?_)
  replace S : SH B h ic180 := S
  refine I_pR (a := 41) (v := 81) S (by decide +kernel) (fun h S => ?_)
  replace S : SH B h ic181 := S
  refine I_nwA S 82 13 (by decide) (by decide) (by decide) (by decide +kernel) (fun h S => ?_)
  replace S : SH B h ic182 := S
  refine I_pR (a := 41) (v := 82) S (by decide +kernel) (fun h S => ?_)
  replace S : SH B h ic183 := S
  refine I_nwA S 83 1300 (by decide) (by decide) (by decide) (by decide +kernel) (fun h S => ?_)
  replace S : SH B h ic184 := S
  refine I_pR (a := 41) (v := 83) S (by decide +kernel) (fun h S => ?_)
  replace S : SH B h ic185 := S
  refine I_nwA S 84 520 (by decide) (by decide) (by decide) (by decide +kernel) (fun h S => ?_)
  replace S : SH B h ic186 := S
  refine I_pR (a := 41) (v := 84) S (by decide +kernel) (fun h S => ?_)
  replace S : SH B h ic187 := S
  refine I_nwA S 85 520 (by decide) (by decide) (by decide) (by decide +kernel) (fun h S => ?_)
  replace S : SH B h ic188 := S
  refine I_pR (a := 41) (v := 85) S (by decide +kernel) (fun h S => ?_)
  replace S : SH B h ic189 := S
  refine I_nwA S 86 520 (by decide) (by decide) (by decide) (by decide +kernel) (fun h S => ?_)
  replace S : SH B h ic190 := S
  refine I_pR (a := 41) (v := 86) S (by decide +kernel) (fun h S => ?_)
  replace S : SH B h ic191 := S
  refine I_nwA S 87 520 (by decide) (by decide) (by decide) (by decide +kernel) (fun h S => ?_)
  replace S : SH B h ic192 := S
  refine I_pR (a := 41) (v := 87) S (by decide +kernel) (fun h S => ?_)
  replace S : SH B h ic193 := S
  refine I_nwA S 88 520 (by decide) (by decide) (by decide) (by decide +kernel) (fun h S => ?_)
  replace S : SH B h ic194 := S
  refine I_pR (a := 41) (v := 88) S (by decide +kernel) (fun h S => ?_)
  replace S : SH B h ic195 := S
  refine I_nwA S 89 20 (by decide) (by decide) (by decide) (by decide +kernel) (fun h S => ?_)
  replace S : SH B h ic196 := S
  refine I_pR (a := 41) (v := 89) S (by decide +kernel) (fun h S => ?_)
  replace S : SH B h ic197 := S
  refine I_nwA S 90 20 (by decide) (by decide) (by decide) (by decide +kernel) (fun h S => ?_)
  replace S : SH B h ic198 := S
  refine I_pR (a := 41) (v := 90) S (by decide +kernel) (fun h S => ?_)
  replace S : SH B h ic199 := S
  refine I_nwA S 91 256 (by decide) (by decide) (by decide) (by decide +kernel) (fun h S => ?_)
  replace S : SH B h ic200 := S
  refine I_pR (a := 41) (v := 91) S (by decide +kernel) (fun h S => ?_)
  replace S : SH B h ic201 := S
  refine I_nwA S 92 8 (by decide) (by decide) (by decide) (by decide +kernel) (fun h S => ?_)
  replace S : SH B h ic202 := S
  refine I_pR (a := 41) (v := 92) S (by decide +kernel) (fun h S => ?_)
  replace S : SH B h ic203 := S
  refine I_nwA S 93 441 (by decide) (by decide) (by decide) (by decide +kernel) (fun h S => ?_)
  replace S : SH B h ic204 := S
  refine I_pR (a := 41) (v := 93) S (by decide +kernel) (fun h S => ?_)
  replace S : SH B h ic205 := S
  refine I_nwA S 94 120 (by decide) (by decide) (by decide) (by decide +kernel) (fun h S => ?_)
  replace S : SH B h ic206 := S
  refine I_pR (a := 41) (v := 94) S (by decide +kernel) (fun h S => ?_)
  replace S : SH B h ic207 := S
  refine I_nwA S 95 160 (by decide) (by decide) (by decide) (by decide +kernel) (fun h S => ?_)
  replace S : SH B h ic208 := S
  refine I_pR (a := 41) (v := 95) S (by decide +kernel) (fun h S => ?_)
  replace S : SH B h ic209 := S
  refine I_nwA S 96 24 (by decide) (by decide) (by decide) (by decide +kernel) (fun h S => ?_)
  replace S : SH B h ic210 := S
  refine I_pR (a := 41) (v := 96) S (by decide +kernel) (fun h S => ?_)
  replace S : SH B h ic211 := S
  refine I_nwA S 97 60 (by decide) (by decide) (by decide) (by decide +kernel) (fun h S => ?_)
  replace S : SH B h ic212 := S
  refine I_pR (a := 41) (v := 97) S (by decide +kernel) (fun h S => ?_)
  replace S : SH B h ic213 := S
  refine I_nwA S 98 160 (by decide) (by decide) (by decide) (by decide +kernel) (fun h S => ?_)
  replace S : SH B h ic214 := S
  refine I_pR (a := 41) (v := 98) S (by decide +kernel) (fun h S => ?_)
  replace S : SH B h ic215 := S
  refine I_pI (a := 41) S (by decide +kernel) (fun h S => ?_)
  replace S : SH B h ic216 := S
  refine I_nwA S 99 10 (by decide) (by decide) (by decide) (by decide +kernel) (fun h S => ?_)
  replace S : SH B h ic217 := S
  refine I_pR (a := 41) (v := 99) S (by decide +kernel) (fun h S => ?_)
  replace S : SH B h ic218 := S
  refine I_nwA S 100 10 (by decide) (by decide) (by decide) (by decide +kernel) (fun h S => ?_)
  replace S : SH B h ic219 := S
  refine I_pR (a := 41) (v := 100) S (by decide +kernel) (fun h S => ?_)
  replace S : SH B h ic220 := S
  refine I_nwA S 101 10 (by decide) (by decide) (by decide) (by decide +kernel) (fun h S => ?_)
  replace S : SH B h ic221 := S
  refine I_pR (a := 41) (v := 101) S (by decide +kernel) (fun h S => ?_)
  replace S : SH B h ic222 := S
  refine I_nwA S 102 10 (by decide) (by decide) (by decide) (by decide +kernel) (fun h S => ?_)
  replace S : SH B h ic223 := S
  refine I_pR (a := 41) (v := 102) S (by decide +kernel) (fun h S => ?_)
  replace S : SH B h ic224 := S
  refine I_gRx (a := 41) S (by rfl) (by rfl) 42 (by decide +kernel) (by decide +kernel) ?_
  refine I_stI (a := 42) S (by rfl) (by rfl) 120 24 0 (by decide +kernel) (by decide) (by decide +kernel) (vp_in_nI (n := 0) (by decide) (by decide)) (by decide) ?_
  refine I_gRx (a := 41) S (by rfl) (by rfl) 43 (by decide +kernel) (by decide +kernel) ?_
  refine I_stI (a := 43) S (by rfl) (by rfl) 121 24 0 (by decide +kernel) (by decide) (by decide +kernel) (vp_in_nI (n := 0) (by decide) (by decide)) (by decide) ?_
  refine I_gRx (a := 41) S (by rfl) (by rfl) 47 (by decide +kernel) (by decide +kernel) ?_
  refine I_stI (a := 47) S (by rfl) (by rfl) 125 24 0 (by decide +kernel) (by decide) (by decide +kernel) (vp_in_nI (n := 0) (by decide) (by decide)) (by decide) ?_
  refine I_gRx (a := 41) S (by rfl) (by rfl) 48 (by decide +kernel) (by decide +kernel) ?_
  refine I_stI (a := 48) S (by rfl) (by rfl) 126 24 0 (by decide +kernel) (by decide) (by decide +kernel) (vp_in_nI (n := 0) (by decide) (by decide)) (by decide) ?_
  exact hQ _ S
end INI
