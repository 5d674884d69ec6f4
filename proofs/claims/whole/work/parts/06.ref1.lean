set_option maxRecDepth 20000 in
theorem sb_X11_likenessOf_19 {l : Launch} {G : Gh} {l0 : Option Nat} {l1 : Int32} {l2 : Int32} {l3 : Int32} {l4 : Int32} {h : Hp} {Q : Int32 → Hp → Prop} {K7 : Int32 → Hp → Prop} {K19 : Int32 → Hp → Prop} (hK7 : ∀ (l3 : Int32) (h : Hp), K7 l3 h → V l G 1 yX11_likenessOf cX11_likenessOf 6 (some .int) 7 [(0, va_rf l0), (1, .int l1), (2, .int l2), (3, .int l3)] [] h (qI Q)) (hK19 : ∀ (l4 : Int32) (h : Hp), K19 l4 h → V l G 1 yX11_likenessOf cX11_likenessOf 6 (some .int) 19 [(0, va_rf l0), (1, .int l1), (2, .int l2), (3, .int l3), (4, .int l4)] [] h (qI Q)) (hw : b_X11_likenessOf_19 l0 l1 l2 l3 l4 h Q K7 K19) : V l G 1 yX11_likenessOf cX11_likenessOf 6 (some .int) 19 [(0, va_rf l0), (1, .int l1), (2, .int l2), (3, .int l3), (4, .int l4)] [] h (qI Q) := by
  unfold b_X11_likenessOf_19 at hw
  refine V_iload 4 rfl dX11_likenessOf_19 ?_
  refine V_if_lt (tgt := 202) dX11_likenessOf_21 (by decide) hw (fun hw => ?_) (fun hw => ?_)
  · refine V_iincL (n := (-1)) 3 (fun z => [(3, .int z), (0, va_rf l0), (1, .int l1), (2, .int l2), (4, .int l4)]) rfl (by rfl) (by decide) (fun _ => rfl) dX11_likenessOf_202 hw (fun x7 hw => ?_)
    refine V_goto (tgt := 7) dX11_likenessOf_205 (by decide) ?_
    exact V.sub [1, 2, 3, 0] rfl (hK7 _ _ hw)
  · refine V_iconst (v := 0) (by decide) dX11_likenessOf_24 ?_
    refine V_istore (i := 5) [(5, .int 0), (0, va_rf l0), (1, .int l1), (2, .int l2), (3, .int l3), (4, .int l4)] (by decide) rfl dX11_likenessOf_25 ?_
    refine V_iload_n 4 rfl rfl dX11_likenessOf_27 ?_
    refine V_aload_n 1 rfl rfl dX11_likenessOf_28 ?_
    refine X_getR (c := 11) (k := 33) fa_X11_97 rfl dX11_likenessOf_29 hw (fun v8 hw => ?_)
    refine V_iload_n 2 rfl rfl dX11_likenessOf_32 ?_
    refine X_ldI dX11_likenessOf_33 hw (fun v9 hw => ?_)
    refine V_icmp_ge (tgt := 182) dX11_likenessOf_34 (by decide) hw (fun hw => ?_) (fun hw => ?_)
    · exact V.sub [1, 2, 3, 4, 5, 0] rfl (s_X11_likenessOf_182 hK7 hK19 hw)
    · refine V_iload 5 rfl dX11_likenessOf_37 ?_
      refine V_aload_n 1 rfl rfl dX11_likenessOf_39 ?_
      refine X_getR (c := 11) (k := 41) fa_X11_121 rfl dX11_likenessOf_40 hw (fun v12 hw => ?_)
      refine V_iload_n 3 rfl rfl dX11_likenessOf_43 ?_
      refine X_ldI dX11_likenessOf_44 hw (fun v13 hw => ?_)
      refine V_icmp_ge (tgt := 182) dX11_likenessOf_45 (by decide) hw (fun hw => ?_) (fun hw => ?_)
      · exact V.sub [1, 2, 3, 4, 5, 0] rfl (s_X11_likenessOf_182 hK7 hK19 hw)
      · refine V_aload_n 1 rfl rfl dX11_likenessOf_48 ?_
        refine X_getR (c := 11) (k := 58) fa_X11_172 rfl dX11_likenessOf_49 hw (fun v14 hw => ?_)
        refine V_bipush (v := 21) (by decide) dX11_likenessOf_52 ?_
        refine V_iload_n 4 rfl rfl dX11_likenessOf_54 ?_
        refine V_iconst (v := 1) (by decide) dX11_likenessOf_55 ?_
        refine V_iadd dX11_likenessOf_56 ?_
        refine V_imul dX11_likenessOf_57 ?_
        refine V_iload 5 rfl dX11_likenessOf_58 ?_
        refine V_iadd dX11_likenessOf_60 ?_
        refine X_ldI dX11_likenessOf_61 hw (fun v15 hw => ?_)
        refine V_aload_n 1 rfl rfl dX11_likenessOf_62 ?_
        refine X_getR (c := 11) (k := 58) fa_X11_172 rfl dX11_likenessOf_63 hw (fun v16 hw => ?_)
        refine V_bipush (v := 21) (by decide) dX11_likenessOf_66 ?_
        refine V_iload_n 4 rfl rfl dX11_likenessOf_68 ?_
        refine V_imul dX11_likenessOf_69 ?_
        refine V_iload 5 rfl dX11_likenessOf_70 ?_
        refine V_iadd dX11_likenessOf_72 ?_
        refine V_iconst (v := 1) (by decide) dX11_likenessOf_73 ?_
        refine V_iadd dX11_likenessOf_74 ?_
        refine X_ldI dX11_likenessOf_75 hw (fun v17 hw => ?_)
        refine V_icmp_le (tgt := 96) dX11_likenessOf_76 (by decide) hw (fun hw => ?_) (fun hw => ?_)
        · refine V_aload_n 1 rfl rfl dX11_likenessOf_96 ?_
          refine X_getR (c := 11) (k := 58) fa_X11_172 rfl dX11_likenessOf_97 hw (fun v18 hw => ?_)
          refine V_bipush (v := 21) (by decide) dX11_likenessOf_100 ?_
          refine V_iload_n 4 rfl rfl dX11_likenessOf_102 ?_
          refine V_imul dX11_likenessOf_103 ?_
          refine V_iload 5 rfl dX11_likenessOf_104 ?_
          refine V_iadd dX11_likenessOf_106 ?_
          refine V_iconst (v := 1) (by decide) dX11_likenessOf_107 ?_
          refine V_iadd dX11_likenessOf_108 ?_
          refine X_ldI dX11_likenessOf_109 hw (fun v19 hw => ?_)
          exact V.sub [1, 2, 3, 4, 5] rfl (s_X11_likenessOf_110 hK7 hK19 hw)
        · refine V_aload_n 1 rfl rfl dX11_likenessOf_79 ?_
          refine X_getR (c := 11) (k := 58) fa_X11_172 rfl dX11_likenessOf_80 hw (fun v29 hw => ?_)
          refine V_bipush (v := 21) (by decide) dX11_likenessOf_83 ?_
          refine V_iload_n 4 rfl rfl dX11_likenessOf_85 ?_
          refine V_iconst (v := 1) (by decide) dX11_likenessOf_86 ?_
          refine V_iadd dX11_likenessOf_87 ?_
          refine V_imul dX11_likenessOf_88 ?_
          refine V_iload 5 rfl dX11_likenessOf_89 ?_
          refine V_iadd dX11_likenessOf_91 ?_
          refine X_ldI dX11_likenessOf_92 hw (fun v30 hw => ?_)
          refine V_goto (tgt := 110) dX11_likenessOf_93 (by decide) ?_
          exact V.sub [1, 2, 3, 4, 5] rfl (s_X11_likenessOf_110 hK7 hK19 hw)
theorem s_X11_likenessOf_19 {l : Launch} {G : Gh} {l0 : Option Nat} {l1 : Int32} {l2 : Int32} {l3 : Int32} {l4 : Int32} {h : Hp} {Q : Int32 → Hp → Prop} {K7 : Int32 → Hp → Prop} (hK7 : ∀ (l3 : Int32) (h : Hp), K7 l3 h → V l G 1 yX11_likenessOf cX11_likenessOf 6 (some .int) 7 [(0, va_rf l0), (1, .int l1), (2, .int l2), (3, .int l3)] [] h (qI Q)) (hw : l_X11_likenessOf_19 l0 l1 l2 l3 l4 h Q K7) : V l G 1 yX11_likenessOf cX11_likenessOf 6 (some .int) 19 [(0, va_rf l0), (1, .int l1), (2, .int l2), (3, .int l3), (4, .int l4)] [] h (qI Q) :=
  Lo.ind (P := fun (s : Int32) h => V l G 1 yX11_likenessOf cX11_likenessOf 6 (some .int) 19 [(0, va_rf l0), (1, .int l1), (2, .int l2), (3, .int l3), (4, .int s)] [] h (qI Q)) (fun K ih s h hw => sb_X11_likenessOf_19 hK7 (fun l4 h hk => ih (l4) h hk) hw) hw
theorem sb_X11_likenessOf_7 {l : Launch} {G : Gh} {l0 : Option Nat} {l1 : Int32} {l2 : Int32} {l3 : Int32} {h : Hp} {Q : Int32 → Hp → Prop} {K7 : Int32 → Hp → Prop} (hK7 : ∀ (l3 : Int32) (h : Hp), K7 l3 h → V l G 1 yX11_likenessOf cX11_likenessOf 6 (some .int) 7 [(0, va_rf l0), (1, .int l1), (2, .int l2), (3, .int l3)] [] h (qI Q)) (hw : b_X11_likenessOf_7 l0 l1 l2 l3 h Q K7) : V l G 1 yX11_likenessOf cX11_likenessOf 6 (some .int) 7 [(0, va_rf l0), (1, .int l1), (2, .int l2), (3, .int l3)] [] h (qI Q) := by
  unfold b_X11_likenessOf_7 at hw
  refine V_iload_n 3 rfl rfl dX11_likenessOf_7 ?_
  refine V_if_lt (tgt := 208) dX11_likenessOf_8 (by decide) hw (fun hw => ?_) (fun hw => ?_)
  · refine V_aload_n 0 rfl rfl dX11_likenessOf_208 ?_
    refine X_getR (c := 11) (k := 58) fa_X11_172 rfl dX11_likenessOf_209 hw (fun v3 hw => ?_)
    refine V_iconst (v := 0) (by decide) dX11_likenessOf_212 ?_
    refine X_ldI dX11_likenessOf_213 hw (fun v4 hw => ?_)
    exact V_iret rfl dX11_likenessOf_214 ⟨_, rfl, hw⟩
  · refine V_aload_n 0 rfl rfl dX11_likenessOf_11 ?_
    refine X_getR (c := 11) (k := 41) fa_X11_121 rfl dX11_likenessOf_12 hw (fun v5 hw => ?_)
    refine V_iload_n 2 rfl rfl dX11_likenessOf_15 ?_
    refine X_ldI dX11_likenessOf_16 hw (fun v6 hw => ?_)
    refine V_istore (i := 4) [(4, .int v6), (0, va_rf l0), (1, .int l1), (2, .int l2), (3, .int l3)] (by decide) rfl dX11_likenessOf_17 ?_
    exact V.sub [1, 2, 3, 4, 0] rfl (s_X11_likenessOf_19 hK7 hw)
theorem s_X11_likenessOf_7 {l : Launch} {G : Gh} {l0 : Option Nat} {l1 : Int32} {l2 : Int32} {l3 : Int32} {h : Hp} {Q : Int32 → Hp → Prop}  (hw : l_X11_likenessOf_7 l0 l1 l2 l3 h Q) : V l G 1 yX11_likenessOf cX11_likenessOf 6 (some .int) 7 [(0, va_rf l0), (1, .int l1), (2, .int l2), (3, .int l3)] [] h (qI Q) :=
  Lo.ind (P := fun (s : Int32) h => V l G 1 yX11_likenessOf cX11_likenessOf 6 (some .int) 7 [(0, va_rf l0), (1, .int l1), (2, .int l2), (3, .int s)] [] h (qI Q)) (fun K ih s h hw => sb_X11_likenessOf_7 (fun l3 h hk => ih (l3) h hk) hw) hw
theorem s_X11_likenessOf_0 {l : Launch} {G : Gh} {l0 : Option Nat} {l1 : Int32} {l2 : Int32} {h : Hp} {Q : Int32 → Hp → Prop}  (hw : n_X11_likenessOf_0 l0 l1 l2 h Q) : V l G 1 yX11_likenessOf cX11_likenessOf 6 (some .int) 0 [(0, va_rf l0), (1, .int l1), (2, .int l2)] [] h (qI Q) := by
  unfold n_X11_likenessOf_0 at hw
  refine V_aload_n 0 rfl rfl dX11_likenessOf_0 ?_
  refine X_getR (c := 11) (k := 33) fa_X11_97 rfl dX11_likenessOf_1 hw (fun v1 hw => ?_)
  refine V_iload_n 1 rfl rfl dX11_likenessOf_4 ?_
  refine X_ldI dX11_likenessOf_5 hw (fun v2 hw => ?_)
  refine V_istore_n (i := 3) [(3, .int v2), (0, va_rf l0), (1, .int l1), (2, .int l2)] rfl (by decide) rfl dX11_likenessOf_6 ?_
  exact V.sub [1, 2, 3, 0] rfl (s_X11_likenessOf_7 hw)
theorem r_X11_likenessOf {l : Launch} {G : Gh} (l0 : Option Nat) (l1 : Int32) (l2 : Int32) {h : Hp} {Q : Int32 → Hp → Prop} (hw : w_X11_likenessOf l0 l1 l2 h Q) : RunQ l G 1 yX11_likenessOf cX11_likenessOf 6 (some .int) [va_rf l0, .int l1, .int l2] h (qI Q) :=
  V_run rfl (sl_len _ _ (by simp [cat_i, cat_l, rf_cat])) (V.sub [0, 1, 2] (by simp only [la_r, la_i, la_l, la_n]; rfl) (s_X11_likenessOf_0 hw))
def n_X11_reached_0 (l0 : Option Nat) (l1 : Int32) (l2 : Int32) (h : Hp) (Q : Int32 → Hp → Prop) : Prop :=
  gR h l0 12 1448 fun v1 =>
  ldI h v1 l1 fun v2 =>
  gR h l0 12 1447 fun v3 =>
  ldI h v3 l1 fun v4 =>
  oV h l0 12 <| w_X11_pathOf l0 v4 l2 h <| fun v5 h =>
  Q (v2 + v5) h
def w_X11_reached (l0 : Option Nat) (l1 : Int32) (l2 : Int32) (h : Hp) (Q : Int32 → Hp → Prop) : Prop := n_X11_reached_0 l0 l1 l2 h Q
theorem s_X11_reached_0 {l : Launch} {G : Gh} {l0 : Option Nat} {l1 : Int32} {l2 : Int32} {h : Hp} {Q : Int32 → Hp → Prop}  (hw : n_X11_reached_0 l0 l1 l2 h Q) : V l G 2 yX11_reached cX11_reached 3 (some .int) 0 [(0, va_rf l0), (1, .int l1), (2, .int l2)] [] h (qI Q) := by
  unfold n_X11_reached_0 at hw
  refine V_aload_n 0 rfl rfl dX11_reached_0 ?_
  refine X_getR (c := 11) (k := 40) fa_X11_118 rfl dX11_reached_1 hw (fun v1 hw => ?_)
  refine V_iload_n 1 rfl rfl dX11_reached_4 ?_
  refine X_ldI dX11_reached_5 hw (fun v2 hw => ?_)
  refine V_aload_n 0 rfl rfl dX11_reached_6 ?_
  refine V_aload_n 0 rfl rfl dX11_reached_7 ?_
  refine X_getR (c := 11) (k := 39) fa_X11_115 rfl dX11_reached_8 hw (fun v3 hw => ?_)
  refine V_iload_n 1 rfl rfl dX11_reached_11 ?_
  refine X_ldI dX11_reached_12 hw (fun v4 hw => ?_)
  refine V_iload_n 2 rfl rfl dX11_reached_13 ?_
  refine X_cV 11 [.int v4, .int l2] [.int v2] ma_X11_220 (by decide) rfl (by decide) (by decide) rfl (by simp [cat_i, cat_l, rf_cat]) rfl dX11_reached_14 hw (r_X11_pathOf _ _ _) (k_I (fun v5 h hw => ?_))
  refine V_iadd dX11_reached_17 ?_
  exact V_iret rfl dX11_reached_18 ⟨_, rfl, hw⟩
theorem r_X11_reached {l : Launch} {G : Gh} (l0 : Option Nat) (l1 : Int32) (l2 : Int32) {h : Hp} {Q : Int32 → Hp → Prop} (hw : w_X11_reached l0 l1 l2 h Q) : RunQ l G 2 yX11_reached cX11_reached 3 (some .int) [va_rf l0, .int l1, .int l2] h (qI Q) :=
  V_run rfl (sl_len _ _ (by simp [cat_i, cat_l, rf_cat])) (V.sub [0, 1, 2] (by simp only [la_r, la_i, la_l, la_n]; rfl) (s_X11_reached_0 hw))
def n_X11_chance_18 (h : Hp) (Q : Int32 → Hp → Prop) : Prop :=
  Q (-1) h
def n_X11_chance_150 (s0 : Int32) (h : Hp) (Q : Int32 → Hp → Prop) : Prop :=
  Q s0 h
def n_X11_chance_133 (l0 : Option Nat) (l1 : Int32) (l2 : Int32) (l3 : Int32) (l4 : Int32) (l5 : Int32) (l6 : Int32) (l7 : Int32) (h : Hp) (Q : Int32 → Hp → Prop) (K44 : Int32 → Int32 → Int32 → Hp → Prop) : Prop :=
  lt (l7 + 1) fun x8 =>
  K44 l5 l6 x8 h
def b_X11_chance_44 (l0 : Option Nat) (l1 : Int32) (l2 : Int32) (l3 : Int32) (l4 : Int32) (l5 : Int32) (l6 : Int32) (l7 : Int32) (h : Hp) (Q : Int32 → Hp → Prop) (K44 : Int32 → Int32 → Int32 → Hp → Prop) : Prop :=
  gI h l0 12 1410 fun v7 =>
  br (v7 ≤ l7) (
    br (l2 = 0) (
      n_X11_chance_150 l5 h Q) (
      n_X11_chance_150 l6 h Q)) (
    br (l7 = l1) (
      n_X11_chance_133 l0 l1 l2 l3 l4 l5 l6 l7 h Q K44) (
      gR h l0 12 1415 fun v9 =>
      gR h l0 12 1430 fun v10 =>
      ldI h v10 l7 fun v11 =>
      ldI h v9 v11 fun v12 =>
      br (v12 = 0) (
        gR h l0 12 1431 fun v13 =>
        ldI h v13 l7 fun v14 =>
        gR h l0 12 1431 fun v15 =>
        ldI h v15 l1 fun v16 =>
        br (v14 = v16) (
          gR h l0 12 1430 fun v17 =>
          ldI h v17 l7 fun v18 =>
          oV h l0 12 <| w_X11_reached l0 l3 v18 h <| fun v19 h =>
          gR h l0 12 1434 fun v20 =>
          ldI h v20 l7 fun v21 =>
          br (v21 < v19) (
            lt (l6 + 1) fun x22 =>
            oV h l0 12 <| w_X11_likenessOf l0 l7 l3 h <| fun v23 h =>
            br (v23 < l4) (
              n_X11_chance_133 l0 l1 l2 l3 l4 l5 x22 l7 h Q K44) (
              lt (l5 + 1) fun x24 =>
              n_X11_chance_133 l0 l1 l2 l3 l4 x24 x22 l7 h Q K44)) (
            n_X11_chance_133 l0 l1 l2 l3 l4 l5 l6 l7 h Q K44)) (
          n_X11_chance_133 l0 l1 l2 l3 l4 l5 l6 l7 h Q K44)) (
        n_X11_chance_133 l0 l1 l2 l3 l4 l5 l6 l7 h Q K44)))
def l_X11_chance_44 (l0 : Option Nat) (l1 : Int32) (l2 : Int32) (l3 : Int32) (l4 : Int32) (l5 : Int32) (l6 : Int32) (l7 : Int32) (h : Hp) (Q : Int32 → Hp → Prop) : Prop :=
  Lo (fun (K : Int32 × Int32 × Int32 → Hp → Prop) s h => b_X11_chance_44 l0 l1 l2 l3 l4 s.1 s.2.1 s.2.2 h Q (fun l5 l6 l7 h => K (l5, l6, l7) h)) (l5, l6, l7) h
def n_X11_chance_0 (l0 : Option Nat) (l1 : Int32) (l2 : Int32) (h : Hp) (Q : Int32 → Hp → Prop) : Prop :=
  oV h l0 12 <| w_X11_isAsk l0 l1 h <| fun v1 h =>
  br (v1 = 0) (
    n_X11_chance_18 h Q) (
    gR h l0 12 1435 fun v2 =>
    ldI h v2 l1 fun v3 =>
    br (v3 = 1) (
      gR h l0 12 1436 fun v4 =>
      ldI h v4 l1 fun v5 =>
      oV h l0 12 <| w_X11_likenessOf l0 l1 v5 h <| fun v6 h =>
      l_X11_chance_44 l0 l1 l2 v5 v6 0 0 0 h Q) (
      n_X11_chance_18 h Q))
def w_X11_chance (l0 : Option Nat) (l1 : Int32) (l2 : Int32) (h : Hp) (Q : Int32 → Hp → Prop) : Prop := n_X11_chance_0 l0 l1 l2 h Q
theorem s_X11_chance_18 {l : Launch} {G : Gh}  {h : Hp} {Q : Int32 → Hp → Prop}  (hw : n_X11_chance_18 h Q) : V l G 3 yX11_chance cX11_chance 8 (some .int) 18 [] [] h (qI Q) := by
  unfold n_X11_chance_18 at hw
  refine V_iconst (v := (-1)) (by decide) dX11_chance_18 ?_
  exact V_iret rfl dX11_chance_19 ⟨_, rfl, hw⟩
theorem s_X11_chance_150 {l : Launch} {G : Gh} {s0 : Int32} {h : Hp} {Q : Int32 → Hp → Prop}  (hw : n_X11_chance_150 s0 h Q) : V l G 3 yX11_chance cX11_chance 8 (some .int) 150 [] [.int s0] h (qI Q) := by
  unfold n_X11_chance_150 at hw
  exact V_iret rfl dX11_chance_150 ⟨_, rfl, hw⟩
theorem s_X11_chance_133 {l : Launch} {G : Gh} {l0 : Option Nat} {l1 : Int32} {l2 : Int32} {l3 : Int32} {l4 : Int32} {l5 : Int32} {l6 : Int32} {l7 : Int32} {h : Hp} {Q : Int32 → Hp → Prop} {K44 : Int32 → Int32 → Int32 → Hp → Prop} (hK44 : ∀ (l5 : Int32) (l6 : Int32) (l7 : Int32) (h : Hp), K44 l5 l6 l7 h → V l G 3 yX11_chance cX11_chance 8 (some .int) 44 [(0, va_rf l0), (1, .int l1), (2, .int l2), (3, .int l3), (4, .int l4), (5, .int l5), (6, .int l6), (7, .int l7)] [] h (qI Q)) (hw : n_X11_chance_133 l0 l1 l2 l3 l4 l5 l6 l7 h Q K44) : V l G 3 yX11_chance cX11_chance 8 (some .int) 133 [(0, va_rf l0), (1, .int l1), (2, .int l2), (3, .int l3), (4, .int l4), (5, .int l5), (6, .int l6), (7, .int l7)] [] h (qI Q) := by
  unfold n_X11_chance_133 at hw
  refine V_iincL (n := 1) 7 (fun z => [(7, .int z), (0, va_rf l0), (1, .int l1), (2, .int l2), (3, .int l3), (4, .int l4), (5, .int l5), (6, .int l6)]) rfl (by rfl) (by decide) (fun _ => rfl) dX11_chance_133 hw (fun x8 hw => ?_)
  refine V_goto (tgt := 44) dX11_chance_136 (by decide) ?_
  exact V.sub [1, 2, 3, 4, 5, 6, 7, 0] rfl (hK44 _ _ _ _ hw)
set_option maxRecDepth 20000 in
theorem sb_X11_chance_44 {l : Launch} {G : Gh} {l0 : Option Nat} {l1 : Int32} {l2 : Int32} {l3 : Int32} {l4 : Int32} {l5 : Int32} {l6 : Int32} {l7 : Int32} {h : Hp} {Q : Int32 → Hp → Prop} {K44 : Int32 → Int32 → Int32 → Hp → Prop} (hK44 : ∀ (l5 : Int32) (l6 : Int32) (l7 : Int32) (h : Hp), K44 l5 l6 l7 h → V l G 3 yX11_chance cX11_chance 8 (some .int) 44 [(0, va_rf l0), (1, .int l1), (2, .int l2), (3, .int l3), (4, .int l4), (5, .int l5), (6, .int l6), (7, .int l7)] [] h (qI Q)) (hw : b_X11_chance_44 l0 l1 l2 l3 l4 l5 l6 l7 h Q K44) : V l G 3 yX11_chance cX11_chance 8 (some .int) 44 [(0, va_rf l0), (1, .int l1), (2, .int l2), (3, .int l3), (4, .int l4), (5, .int l5), (6, .int l6), (7, .int l7)] [] h (qI Q) := by
  unfold b_X11_chance_44 at hw
  refine V_iload 7 rfl dX11_chance_44 ?_
  refine V_aload_n 0 rfl rfl dX11_chance_46 ?_
  refine X_getI (c := 11) (k := 2) fa_X11_205 rfl dX11_chance_47 hw (fun v7 hw => ?_)
  refine V_icmp_ge (tgt := 139) dX11_chance_50 (by decide) hw (fun hw => ?_) (fun hw => ?_)
  · refine V_iload_n 2 rfl rfl dX11_chance_139 ?_
    refine V_if_eq (tgt := 148) dX11_chance_140 (by decide) hw (fun hw => ?_) (fun hw => ?_)
    · refine V_iload 5 rfl dX11_chance_148 ?_
      exact V.sub [] rfl (s_X11_chance_150 hw)
    · refine V_iload 6 rfl dX11_chance_143 ?_
      refine V_goto (tgt := 150) dX11_chance_145 (by decide) ?_
      exact V.sub [] rfl (s_X11_chance_150 hw)
  · refine V_iload 7 rfl dX11_chance_53 ?_
    refine V_iload_n 1 rfl rfl dX11_chance_55 ?_
    refine V_icmp_eq (tgt := 133) dX11_chance_56 (by decide) hw (fun hw => ?_) (fun hw => ?_)
    · exact V.sub [0, 1, 2, 3, 4, 5, 6, 7] rfl (s_X11_chance_133 hK44 hw)
    · refine V_aload_n 0 rfl rfl dX11_chance_59 ?_
      refine X_getR (c := 11) (k := 7) fa_X11_16 rfl dX11_chance_60 hw (fun v9 hw => ?_)
      refine V_aload_n 0 rfl rfl dX11_chance_63 ?_
      refine X_getR (c := 11) (k := 22) fa_X11_64 rfl dX11_chance_64 hw (fun v10 hw => ?_)
      refine V_iload 7 rfl dX11_chance_67 ?_
      refine X_ldI dX11_chance_69 hw (fun v11 hw => ?_)
      refine X_ldI dX11_chance_70 hw (fun v12 hw => ?_)
      refine V_if_ne (tgt := 133) dX11_chance_71 (by decide) hw (fun hw => ?_) (fun hw => ?_)
      · refine V_aload_n 0 rfl rfl dX11_chance_74 ?_
        refine X_getR (c := 11) (k := 23) fa_X11_67 rfl dX11_chance_75 hw (fun v13 hw => ?_)
        refine V_iload 7 rfl dX11_chance_78 ?_
        refine X_ldI dX11_chance_80 hw (fun v14 hw => ?_)
        refine V_aload_n 0 rfl rfl dX11_chance_81 ?_
        refine X_getR (c := 11) (k := 23) fa_X11_67 rfl dX11_chance_82 hw (fun v15 hw => ?_)
        refine V_iload_n 1 rfl rfl dX11_chance_85 ?_
        refine X_ldI dX11_chance_86 hw (fun v16 hw => ?_)
        refine V_icmp_ne (tgt := 133) dX11_chance_87 (by decide) hw (fun hw => ?_) (fun hw => ?_)
        · refine V_aload_n 0 rfl rfl dX11_chance_90 ?_
          refine V_iload_n 3 rfl rfl dX11_chance_91 ?_
          refine V_aload_n 0 rfl rfl dX11_chance_92 ?_
          refine X_getR (c := 11) (k := 22) fa_X11_64 rfl dX11_chance_93 hw (fun v17 hw => ?_)
          refine V_iload 7 rfl dX11_chance_96 ?_
          refine X_ldI dX11_chance_98 hw (fun v18 hw => ?_)
          refine X_cV 11 [.int l3, .int v18] [] ma_X11_255 (by decide) rfl (by decide) (by decide) rfl (by simp [cat_i, cat_l, rf_cat]) rfl dX11_chance_99 hw (r_X11_reached _ _ _) (k_I (fun v19 h hw => ?_))
          refine V_aload_n 0 rfl rfl dX11_chance_102 ?_
          refine X_getR (c := 11) (k := 26) fa_X11_76 rfl dX11_chance_103 hw (fun v20 hw => ?_)
          refine V_iload 7 rfl dX11_chance_106 ?_
          refine X_ldI dX11_chance_108 hw (fun v21 hw => ?_)
          refine V_icmp_gt (tgt := 115) dX11_chance_109 (by decide) hw (fun hw => ?_) (fun hw => ?_)
          · refine V_iincL (n := 1) 6 (fun z => [(6, .int z), (0, va_rf l0), (1, .int l1), (2, .int l2), (3, .int l3), (4, .int l4), (5, .int l5), (7, .int l7)]) rfl (by rfl) (by decide) (fun _ => rfl) dX11_chance_115 hw (fun x22 hw => ?_)
            refine V_aload_n 1 rfl rfl dX11_chance_118 ?_
            refine V_iload 7 rfl dX11_chance_119 ?_
            refine V_iload_n 4 rfl rfl dX11_chance_121 ?_
            refine X_cV 11 [.int l7, .int l3] [] ma_X11_243 (by decide) rfl (by decide) (by decide) rfl (by simp [cat_i, cat_l, rf_cat]) rfl dX11_chance_122 hw (r_X11_likenessOf _ _ _) (k_I (fun v23 h hw => ?_))
            refine V_iload 5 rfl dX11_chance_125 ?_
            refine V_icmp_lt (tgt := 133) dX11_chance_127 (by decide) hw (fun hw => ?_) (fun hw => ?_)
            · exact V.sub [1, 2, 3, 4, 5, 6, 0, 7] rfl (s_X11_chance_133 hK44 hw)
            · refine V_iincL (n := 1) 6 (fun z => [(5, .int z), (6, .int x22), (0, va_rf l0), (1, .int l1), (2, .int l2), (3, .int l3), (4, .int l4), (7, .int l7)]) rfl (by rfl) (by decide) (fun _ => rfl) dX11_chance_130 hw (fun x24 hw => ?_)
              exact V.sub [2, 3, 4, 5, 6, 0, 1, 7] rfl (s_X11_chance_133 hK44 hw)
          · refine V_goto (tgt := 133) dX11_chance_112 (by decide) ?_
            exact V.sub [0, 1, 2, 3, 4, 5, 6, 7] rfl (s_X11_chance_133 hK44 hw)
        · exact V.sub [0, 1, 2, 3, 4, 5, 6, 7] rfl (s_X11_chance_133 hK44 hw)
      · exact V.sub [0, 1, 2, 3, 4, 5, 6, 7] rfl (s_X11_chance_133 hK44 hw)
theorem s_X11_chance_44 {l : Launch} {G : Gh} {l0 : Option Nat} {l1 : Int32} {l2 : Int32} {l3 : Int32} {l4 : Int32} {l5 : Int32} {l6 : Int32} {l7 : Int32} {h : Hp} {Q : Int32 → Hp → Prop}  (hw : l_X11_chance_44 l0 l1 l2 l3 l4 l5 l6 l7 h Q) : V l G 3 yX11_chance cX11_chance 8 (some .int) 44 [(0, va_rf l0), (1, .int l1), (2, .int l2), (3, .int l3), (4, .int l4), (5, .int l5), (6, .int l6), (7, .int l7)] [] h (qI Q) :=
  Lo.ind (P := fun (s : Int32 × Int32 × Int32) h => V l G 3 yX11_chance cX11_chance 8 (some .int) 44 [(0, va_rf l0), (1, .int l1), (2, .int l2), (3, .int l3), (4, .int l4), (5, .int s.1), (6, .int s.2.1), (7, .int s.2.2)] [] h (qI Q)) (fun K ih s h hw => sb_X11_chance_44 (fun l5 l6 l7 h hk => ih (l5, l6, l7) h hk) hw) hw
theorem s_X11_chance_0 {l : Launch} {G : Gh} {l0 : Option Nat} {l1 : Int32} {l2 : Int32} {h : Hp} {Q : Int32 → Hp → Prop}  (hw : n_X11_chance_0 l0 l1 l2 h Q) : V l G 3 yX11_chance cX11_chance 8 (some .int) 0 [(0, va_rf l0), (1, .int l1), (2, .int l2)] [] h (qI Q) := by
  unfold n_X11_chance_0 at hw
  refine V_aload_n 0 rfl rfl dX11_chance_0 ?_
  refine V_iload_n 1 rfl rfl dX11_chance_1 ?_
  refine X_cV 11 [.int l1] [] ma_X11_240 (by decide) rfl (by decide) (by decide) rfl (by simp [cat_i, cat_l, rf_cat]) rfl dX11_chance_2 hw (r_X11_isAsk _ _) (k_I (fun v1 h hw => ?_))
  refine V_if_eq (tgt := 18) dX11_chance_5 (by decide) hw (fun hw => ?_) (fun hw => ?_)
  · exact V.sub [] rfl (s_X11_chance_18 hw)
  · refine V_aload_n 0 rfl rfl dX11_chance_8 ?_
    refine X_getR (c := 11) (k := 27) fa_X11_79 rfl dX11_chance_9 hw (fun v2 hw => ?_)
    refine V_iload_n 1 rfl rfl dX11_chance_12 ?_
    refine X_ldI dX11_chance_13 hw (fun v3 hw => ?_)
    refine V_iconst (v := 1) (by decide) dX11_chance_14 ?_
    refine V_icmp_eq (tgt := 20) dX11_chance_15 (by decide) hw (fun hw => ?_) (fun hw => ?_)
    · refine V_aload_n 0 rfl rfl dX11_chance_20 ?_
      refine X_getR (c := 11) (k := 28) fa_X11_82 rfl dX11_chance_21 hw (fun v4 hw => ?_)
      refine V_iload_n 1 rfl rfl dX11_chance_24 ?_
      refine X_ldI dX11_chance_25 hw (fun v5 hw => ?_)
      refine V_istore_n (i := 3) [(3, .int v5), (0, va_rf l0), (1, .int l1), (2, .int l2)] rfl (by decide) rfl dX11_chance_26 ?_
      refine V_aload_n 1 rfl rfl dX11_chance_27 ?_
      refine V_iload_n 2 rfl rfl dX11_chance_28 ?_
      refine V_iload_n 0 rfl rfl dX11_chance_29 ?_
      refine X_cV 11 [.int l1, .int v5] [] ma_X11_243 (by decide) rfl (by decide) (by decide) rfl (by simp [cat_i, cat_l, rf_cat]) rfl dX11_chance_30 hw (r_X11_likenessOf _ _ _) (k_I (fun v6 h hw => ?_))
      refine V_istore (i := 4) [(4, .int v6), (3, .int v5), (0, va_rf l0), (1, .int l1), (2, .int l2)] (by decide) rfl dX11_chance_33 ?_
      refine V_iconst (v := 0) (by decide) dX11_chance_35 ?_
      refine V_istore (i := 5) [(5, .int 0), (4, .int v6), (3, .int v5), (0, va_rf l0), (1, .int l1), (2, .int l2)] (by decide) rfl dX11_chance_36 ?_
      refine V_iconst (v := 0) (by decide) dX11_chance_38 ?_
      refine V_istore (i := 6) [(6, .int 0), (5, .int 0), (4, .int v6), (3, .int v5), (0, va_rf l0), (1, .int l1), (2, .int l2)] (by decide) rfl dX11_chance_39 ?_
      refine V_iconst (v := 0) (by decide) dX11_chance_41 ?_
      refine V_istore (i := 7) [(7, .int 0), (6, .int 0), (5, .int 0), (4, .int v6), (3, .int v5), (0, va_rf l0), (1, .int l1), (2, .int l2)] (by decide) rfl dX11_chance_42 ?_
      exact V.sub [5, 6, 7, 4, 3, 2, 1, 0] rfl (s_X11_chance_44 hw)
    · exact V.sub [] rfl (s_X11_chance_18 hw)
theorem r_X11_chance {l : Launch} {G : Gh} (l0 : Option Nat) (l1 : Int32) (l2 : Int32) {h : Hp} {Q : Int32 → Hp → Prop} (hw : w_X11_chance l0 l1 l2 h Q) : RunQ l G 3 yX11_chance cX11_chance 8 (some .int) [va_rf l0, .int l1, .int l2] h (qI Q) :=
  V_run rfl (sl_len _ _ (by simp [cat_i, cat_l, rf_cat])) (V.sub [0, 1, 2] (by simp only [la_r, la_i, la_l, la_n]; rfl) (s_X11_chance_0 hw))
def n_X11_isShelf_15 (s0 : Int32) (h : Hp) (Q : Int32 → Hp → Prop) : Prop :=
  rZ s0 h Q
def n_X11_isShelf_14 (h : Hp) (Q : Int32 → Hp → Prop) : Prop :=
  n_X11_isShelf_15 0 h Q
def n_X11_isShelf_0 (l0 : Int32) (h : Hp) (Q : Int32 → Hp → Prop) : Prop :=
  br (l0 < 0) (
    n_X11_isShelf_14 h Q) (
    br (8 ≤ l0) (
      n_X11_isShelf_14 h Q) (
      n_X11_isShelf_15 1 h Q))
def w_X11_isShelf (l0 : Int32) (h : Hp) (Q : Int32 → Hp → Prop) : Prop := n_X11_isShelf_0 l0 h Q
theorem s_X11_isShelf_15 {l : Launch} {G : Gh} {s0 : Int32} {h : Hp} {Q : Int32 → Hp → Prop}  (hw : n_X11_isShelf_15 s0 h Q) : V l G 1 yX11_isShelf cX11_isShelf 1 (some .boolean) 15 [] [.int s0] h (qI Q) := by
  unfold n_X11_isShelf_15 at hw
  exact V_zret rfl hw.1 dX11_isShelf_15 ⟨_, rfl, hw.2⟩
theorem s_X11_isShelf_14 {l : Launch} {G : Gh}  {h : Hp} {Q : Int32 → Hp → Prop}  (hw : n_X11_isShelf_14 h Q) : V l G 1 yX11_isShelf cX11_isShelf 1 (some .boolean) 14 [] [] h (qI Q) := by
  unfold n_X11_isShelf_14 at hw
  refine V_iconst (v := 0) (by decide) dX11_isShelf_14 ?_
  exact V.sub [] rfl (s_X11_isShelf_15 hw)
theorem s_X11_isShelf_0 {l : Launch} {G : Gh} {l0 : Int32} {h : Hp} {Q : Int32 → Hp → Prop}  (hw : n_X11_isShelf_0 l0 h Q) : V l G 1 yX11_isShelf cX11_isShelf 1 (some .boolean) 0 [(0, .int l0)] [] h (qI Q) := by
  unfold n_X11_isShelf_0 at hw
  refine V_iload_n 0 rfl rfl dX11_isShelf_0 ?_
  refine V_if_lt (tgt := 14) dX11_isShelf_1 (by decide) hw (fun hw => ?_) (fun hw => ?_)
  · exact V.sub [] rfl (s_X11_isShelf_14 hw)
  · refine V_iload_n 0 rfl rfl dX11_isShelf_4 ?_
    refine V_bipush (v := 8) (by decide) dX11_isShelf_5 ?_
    refine V_icmp_ge (tgt := 14) dX11_isShelf_7 (by decide) hw (fun hw => ?_) (fun hw => ?_)
    · exact V.sub [] rfl (s_X11_isShelf_14 hw)
    · refine V_iconst (v := 1) (by decide) dX11_isShelf_10 ?_
      refine V_goto (tgt := 15) dX11_isShelf_11 (by decide) ?_
      exact V.sub [] rfl (s_X11_isShelf_15 hw)
theorem r_X11_isShelf {l : Launch} {G : Gh} (l0 : Int32) {h : Hp} {Q : Int32 → Hp → Prop} (hw : w_X11_isShelf l0 h Q) : RunQ l G 1 yX11_isShelf cX11_isShelf 1 (some .boolean) [.int l0] h (qI Q) :=
  V_run rfl (sl_len _ _ (by simp [cat_i, cat_l, rf_cat])) (V.sub [0] (by simp only [la_r, la_i, la_l, la_n]; rfl) (s_X11_isShelf_0 hw))
def n_X11_wants_41 (s0 : Int32) (h : Hp) (Q : Int32 → Hp → Prop) : Prop :=
  Q s0 h
def n_X11_wants_0 (l0 : Option Nat) (l1 : Int32) (h : Hp) (Q : Int32 → Hp → Prop) : Prop :=
  w_X11_isShelf l1 h <| fun v1 h =>
  br (v1 = 0) (
    n_X11_wants_41 (-1) h Q) (
    gR h l0 12 1424 fun v2 =>
    ldI h v2 l1 fun v3 =>
    br (v3 = 2) (
      n_X11_wants_41 (-2) h Q) (
      gR h l0 12 1424 fun v4 =>
      ldI h v4 l1 fun v5 =>
      br (v5 = 0) (
        n_X11_wants_41 (-3) h Q) (
        n_X11_wants_41 0 h Q)))
def w_X11_wants (l0 : Option Nat) (l1 : Int32) (h : Hp) (Q : Int32 → Hp → Prop) : Prop := n_X11_wants_0 l0 l1 h Q
theorem s_X11_wants_41 {l : Launch} {G : Gh} {s0 : Int32} {h : Hp} {Q : Int32 → Hp → Prop}  (hw : n_X11_wants_41 s0 h Q) : V l G 2 yX11_wants cX11_wants 2 (some .int) 41 [] [.int s0] h (qI Q) := by
  unfold n_X11_wants_41 at hw
  exact V_iret rfl dX11_wants_41 ⟨_, rfl, hw⟩
theorem s_X11_wants_0 {l : Launch} {G : Gh} {l0 : Option Nat} {l1 : Int32} {h : Hp} {Q : Int32 → Hp → Prop}  (hw : n_X11_wants_0 l0 l1 h Q) : V l G 2 yX11_wants cX11_wants 2 (some .int) 0 [(0, va_rf l0), (1, .int l1)] [] h (qI Q) := by
  unfold n_X11_wants_0 at hw
  refine V_iload_n 1 rfl rfl dX11_wants_0 ?_
  refine X_cS [.int l1] [] ma_X11_237 (by decide) (by decide) rfl (by simp [cat_i, cat_l, rf_cat]) rfl dX11_wants_1 (r_X11_isShelf _ hw) (k_I (fun v1 h hw => ?_))
  refine V_if_ne (tgt := 11) dX11_wants_4 (by decide) hw (fun hw => ?_) (fun hw => ?_)
  · refine V_iconst (v := (-1)) (by decide) dX11_wants_7 ?_
    refine V_goto (tgt := 41) dX11_wants_8 (by decide) ?_
    exact V.sub [] rfl (s_X11_wants_41 hw)
  · refine V_aload_n 0 rfl rfl dX11_wants_11 ?_
    refine X_getR (c := 11) (k := 16) fa_X11_45 rfl dX11_wants_12 hw (fun v2 hw => ?_)
    refine V_iload_n 1 rfl rfl dX11_wants_15 ?_
    refine X_ldI dX11_wants_16 hw (fun v3 hw => ?_)
    refine V_iconst (v := 2) (by decide) dX11_wants_17 ?_
    refine V_icmp_ne (tgt := 26) dX11_wants_18 (by decide) hw (fun hw => ?_) (fun hw => ?_)
    · refine V_bipush (v := (-2)) (by decide) dX11_wants_21 ?_
      refine V_goto (tgt := 41) dX11_wants_23 (by decide) ?_
      exact V.sub [] rfl (s_X11_wants_41 hw)
    · refine V_aload_n 0 rfl rfl dX11_wants_26 ?_
      refine X_getR (c := 11) (k := 16) fa_X11_45 rfl dX11_wants_27 hw (fun v4 hw => ?_)
      refine V_iload_n 1 rfl rfl dX11_wants_30 ?_
      refine X_ldI dX11_wants_31 hw (fun v5 hw => ?_)
      refine V_if_ne (tgt := 40) dX11_wants_32 (by decide) hw (fun hw => ?_) (fun hw => ?_)
      · refine V_bipush (v := (-3)) (by decide) dX11_wants_35 ?_
        refine V_goto (tgt := 41) dX11_wants_37 (by decide) ?_
        exact V.sub [] rfl (s_X11_wants_41 hw)
      · refine V_iconst (v := 0) (by decide) dX11_wants_40 ?_
        exact V.sub [] rfl (s_X11_wants_41 hw)
theorem r_X11_wants {l : Launch} {G : Gh} (l0 : Option Nat) (l1 : Int32) {h : Hp} {Q : Int32 → Hp → Prop} (hw : w_X11_wants l0 l1 h Q) : RunQ l G 2 yX11_wants cX11_wants 2 (some .int) [va_rf l0, .int l1] h (qI Q) :=
  V_run rfl (sl_len _ _ (by simp [cat_i, cat_l, rf_cat])) (V.sub [0, 1] (by simp only [la_r, la_i, la_l, la_n]; rfl) (s_X11_wants_0 hw))
def n_X11_isCandidate_12 (h : Hp) (Q : Int32 → Hp → Prop) : Prop :=
  rZ 0 h Q
def n_X11_isCandidate_38 (s0 : Int32) (h : Hp) (Q : Int32 → Hp → Prop) : Prop :=
  rZ s0 h Q
def n_X11_isCandidate_71 (l0 : Option Nat) (l1 : Int32) (l2 : Int32) (l3 : Int32) (h : Hp) (Q : Int32 → Hp → Prop) (K41 : Int32 → Hp → Prop) : Prop :=
  lt (l3 + 1) fun x11 =>
  K41 x11 h
def b_X11_isCandidate_41 (l0 : Option Nat) (l1 : Int32) (l2 : Int32) (l3 : Int32) (h : Hp) (Q : Int32 → Hp → Prop) (K41 : Int32 → Hp → Prop) : Prop :=
  gI h l0 12 1409 fun v6 =>
  br (v6 ≤ l3) (
    rZ 0 h Q) (
    gR h l0 12 1416 fun v7 =>
    ldI h v7 l3 fun v8 =>
    br (v8 = l2) (
      gR h l0 12 1421 fun v9 =>
      ldI h v9 l3 fun v10 =>
      br (v10 = l1) (
        rZ 1 h Q) (
        n_X11_isCandidate_71 l0 l1 l2 l3 h Q K41)) (
      n_X11_isCandidate_71 l0 l1 l2 l3 h Q K41))
def l_X11_isCandidate_41 (l0 : Option Nat) (l1 : Int32) (l2 : Int32) (l3 : Int32) (h : Hp) (Q : Int32 → Hp → Prop) : Prop :=
  Lo (fun (K : Int32 → Hp → Prop) s h => b_X11_isCandidate_41 l0 l1 l2 s h Q (fun l3 h => K (l3) h)) (l3) h
def n_X11_isCandidate_0 (l0 : Option Nat) (l1 : Int32) (l2 : Int32) (h : Hp) (Q : Int32 → Hp → Prop) : Prop :=
  br (l1 < 0) (
    n_X11_isCandidate_12 h Q) (
    gI h l0 12 1413 fun v1 =>
    br (l1 < v1) (
      gR h l0 12 1415 fun v2 =>
      ldI h v2 l2 fun v3 =>
      br (v3 = 0) (
        gR h l0 12 1462 fun v4 =>
        ldI h v4 l1 fun v5 =>
        br (v5 = l2) (
          n_X11_isCandidate_38 1 h Q) (
          n_X11_isCandidate_38 0 h Q)) (
        l_X11_isCandidate_41 l0 l1 l2 0 h Q)) (
      n_X11_isCandidate_12 h Q))
def w_X11_isCandidate (l0 : Option Nat) (l1 : Int32) (l2 : Int32) (h : Hp) (Q : Int32 → Hp → Prop) : Prop := n_X11_isCandidate_0 l0 l1 l2 h Q
theorem s_X11_isCandidate_12 {l : Launch} {G : Gh}  {h : Hp} {Q : Int32 → Hp → Prop}  (hw : n_X11_isCandidate_12 h Q) : V l G 1 yX11_isCandidate cX11_isCandidate 4 (some .boolean) 12 [] [] h (qI Q) := by
  unfold n_X11_isCandidate_12 at hw
  refine V_iconst (v := 0) (by decide) dX11_isCandidate_12 ?_
  exact V_zret rfl hw.1 dX11_isCandidate_13 ⟨_, rfl, hw.2⟩
theorem s_X11_isCandidate_38 {l : Launch} {G : Gh} {s0 : Int32} {h : Hp} {Q : Int32 → Hp → Prop}  (hw : n_X11_isCandidate_38 s0 h Q) : V l G 1 yX11_isCandidate cX11_isCandidate 4 (some .boolean) 38 [] [.int s0] h (qI Q) := by
  unfold n_X11_isCandidate_38 at hw
  exact V_zret rfl hw.1 dX11_isCandidate_38 ⟨_, rfl, hw.2⟩
theorem s_X11_isCandidate_71 {l : Launch} {G : Gh} {l0 : Option Nat} {l1 : Int32} {l2 : Int32} {l3 : Int32} {h : Hp} {Q : Int32 → Hp → Prop} {K41 : Int32 → Hp → Prop} (hK41 : ∀ (l3 : Int32) (h : Hp), K41 l3 h → V l G 1 yX11_isCandidate cX11_isCandidate 4 (some .boolean) 41 [(0, va_rf l0), (1, .int l1), (2, .int l2), (3, .int l3)] [] h (qI Q)) (hw : n_X11_isCandidate_71 l0 l1 l2 l3 h Q K41) : V l G 1 yX11_isCandidate cX11_isCandidate 4 (some .boolean) 71 [(0, va_rf l0), (1, .int l1), (2, .int l2), (3, .int l3)] [] h (qI Q) := by
  unfold n_X11_isCandidate_71 at hw
  refine V_iincL (n := 1) 3 (fun z => [(3, .int z), (0, va_rf l0), (1, .int l1), (2, .int l2)]) rfl (by rfl) (by decide) (fun _ => rfl) dX11_isCandidate_71 hw (fun x11 hw => ?_)
  refine V_goto (tgt := 41) dX11_isCandidate_74 (by decide) ?_
  exact V.sub [1, 2, 3, 0] rfl (hK41 _ _ hw)
theorem sb_X11_isCandidate_41 {l : Launch} {G : Gh} {l0 : Option Nat} {l1 : Int32} {l2 : Int32} {l3 : Int32} {h : Hp} {Q : Int32 → Hp → Prop} {K41 : Int32 → Hp → Prop} (hK41 : ∀ (l3 : Int32) (h : Hp), K41 l3 h → V l G 1 yX11_isCandidate cX11_isCandidate 4 (some .boolean) 41 [(0, va_rf l0), (1, .int l1), (2, .int l2), (3, .int l3)] [] h (qI Q)) (hw : b_X11_isCandidate_41 l0 l1 l2 l3 h Q K41) : V l G 1 yX11_isCandidate cX11_isCandidate 4 (some .boolean) 41 [(0, va_rf l0), (1, .int l1), (2, .int l2), (3, .int l3)] [] h (qI Q) := by
  unfold b_X11_isCandidate_41 at hw
  refine V_iload_n 3 rfl rfl dX11_isCandidate_41 ?_
  refine V_aload_n 0 rfl rfl dX11_isCandidate_42 ?_
  refine X_getI (c := 11) (k := 1) fa_X11_7 rfl dX11_isCandidate_43 hw (fun v6 hw => ?_)
  refine V_icmp_ge (tgt := 77) dX11_isCandidate_46 (by decide) hw (fun hw => ?_) (fun hw => ?_)
  · refine V_iconst (v := 0) (by decide) dX11_isCandidate_77 ?_
    exact V_zret rfl hw.1 dX11_isCandidate_78 ⟨_, rfl, hw.2⟩
  · refine V_aload_n 0 rfl rfl dX11_isCandidate_49 ?_
    refine X_getR (c := 11) (k := 8) fa_X11_20 rfl dX11_isCandidate_50 hw (fun v7 hw => ?_)
    refine V_iload_n 3 rfl rfl dX11_isCandidate_53 ?_
    refine X_ldI dX11_isCandidate_54 hw (fun v8 hw => ?_)
    refine V_iload_n 2 rfl rfl dX11_isCandidate_55 ?_
    refine V_icmp_ne (tgt := 71) dX11_isCandidate_56 (by decide) hw (fun hw => ?_) (fun hw => ?_)
    · refine V_aload_n 0 rfl rfl dX11_isCandidate_59 ?_
      refine X_getR (c := 11) (k := 13) fa_X11_35 rfl dX11_isCandidate_60 hw (fun v9 hw => ?_)
      refine V_iload_n 3 rfl rfl dX11_isCandidate_63 ?_
      refine X_ldI dX11_isCandidate_64 hw (fun v10 hw => ?_)
      refine V_iload_n 1 rfl rfl dX11_isCandidate_65 ?_
      refine V_icmp_ne (tgt := 71) dX11_isCandidate_66 (by decide) hw (fun hw => ?_) (fun hw => ?_)
      · refine V_iconst (v := 1) (by decide) dX11_isCandidate_69 ?_
        exact V_zret rfl hw.1 dX11_isCandidate_70 ⟨_, rfl, hw.2⟩
      · exact V.sub [0, 1, 2, 3] rfl (s_X11_isCandidate_71 hK41 hw)
    · exact V.sub [0, 1, 2, 3] rfl (s_X11_isCandidate_71 hK41 hw)
theorem s_X11_isCandidate_41 {l : Launch} {G : Gh} {l0 : Option Nat} {l1 : Int32} {l2 : Int32} {l3 : Int32} {h : Hp} {Q : Int32 → Hp → Prop}  (hw : l_X11_isCandidate_41 l0 l1 l2 l3 h Q) : V l G 1 yX11_isCandidate cX11_isCandidate 4 (some .boolean) 41 [(0, va_rf l0), (1, .int l1), (2, .int l2), (3, .int l3)] [] h (qI Q) :=
  Lo.ind (P := fun (s : Int32) h => V l G 1 yX11_isCandidate cX11_isCandidate 4 (some .boolean) 41 [(0, va_rf l0), (1, .int l1), (2, .int l2), (3, .int s)] [] h (qI Q)) (fun K ih s h hw => sb_X11_isCandidate_41 (fun l3 h hk => ih (l3) h hk) hw) hw
theorem s_X11_isCandidate_0 {l : Launch} {G : Gh} {l0 : Option Nat} {l1 : Int32} {l2 : Int32} {h : Hp} {Q : Int32 → Hp → Prop}  (hw : n_X11_isCandidate_0 l0 l1 l2 h Q) : V l G 1 yX11_isCandidate cX11_isCandidate 4 (some .boolean) 0 [(0, va_rf l0), (1, .int l1), (2, .int l2)] [] h (qI Q) := by
  unfold n_X11_isCandidate_0 at hw
  refine V_iload_n 1 rfl rfl dX11_isCandidate_0 ?_
  refine V_if_lt (tgt := 12) dX11_isCandidate_1 (by decide) hw (fun hw => ?_) (fun hw => ?_)
  · exact V.sub [] rfl (s_X11_isCandidate_12 hw)
  · refine V_iload_n 1 rfl rfl dX11_isCandidate_4 ?_
    refine V_aload_n 0 rfl rfl dX11_isCandidate_5 ?_
    refine X_getI (c := 11) (k := 5) fa_X11_364 rfl dX11_isCandidate_6 hw (fun v1 hw => ?_)
    refine V_icmp_lt (tgt := 14) dX11_isCandidate_9 (by decide) hw (fun hw => ?_) (fun hw => ?_)
    · refine V_aload_n 0 rfl rfl dX11_isCandidate_14 ?_
      refine X_getR (c := 11) (k := 7) fa_X11_16 rfl dX11_isCandidate_15 hw (fun v2 hw => ?_)
      refine V_iload_n 2 rfl rfl dX11_isCandidate_18 ?_
      refine X_ldI dX11_isCandidate_19 hw (fun v3 hw => ?_)
      refine V_if_ne (tgt := 39) dX11_isCandidate_20 (by decide) hw (fun hw => ?_) (fun hw => ?_)
      · refine V_aload_n 0 rfl rfl dX11_isCandidate_23 ?_
        refine X_getR (c := 11) (k := 54) fa_X11_160 rfl dX11_isCandidate_24 hw (fun v4 hw => ?_)
        refine V_iload_n 1 rfl rfl dX11_isCandidate_27 ?_
        refine X_ldI dX11_isCandidate_28 hw (fun v5 hw => ?_)
        refine V_iload_n 2 rfl rfl dX11_isCandidate_29 ?_
        refine V_icmp_ne (tgt := 37) dX11_isCandidate_30 (by decide) hw (fun hw => ?_) (fun hw => ?_)
        · refine V_iconst (v := 1) (by decide) dX11_isCandidate_33 ?_
          refine V_goto (tgt := 38) dX11_isCandidate_34 (by decide) ?_
          exact V.sub [] rfl (s_X11_isCandidate_38 hw)
        · refine V_iconst (v := 0) (by decide) dX11_isCandidate_37 ?_
          exact V.sub [] rfl (s_X11_isCandidate_38 hw)
      · refine V_iconst (v := 0) (by decide) dX11_isCandidate_39 ?_
        refine V_istore_n (i := 3) [(3, .int 0), (0, va_rf l0), (1, .int l1), (2, .int l2)] rfl (by decide) rfl dX11_isCandidate_40 ?_
        exact V.sub [1, 2, 3, 0] rfl (s_X11_isCandidate_41 hw)
    · exact V.sub [] rfl (s_X11_isCandidate_12 hw)
theorem r_X11_isCandidate {l : Launch} {G : Gh} (l0 : Option Nat) (l1 : Int32) (l2 : Int32) {h : Hp} {Q : Int32 → Hp → Prop} (hw : w_X11_isCandidate l0 l1 l2 h Q) : RunQ l G 1 yX11_isCandidate cX11_isCandidate 4 (some .boolean) [va_rf l0, .int l1, .int l2] h (qI Q) :=
  V_run rfl (sl_len _ _ (by simp [cat_i, cat_l, rf_cat])) (V.sub [0, 1, 2] (by simp only [la_r, la_i, la_l, la_n]; rfl) (s_X11_isCandidate_0 hw))
def n_X11_choose_15 (l0 : Option Nat) (h : Hp) (Q : Int32 → Hp → Prop) : Prop :=
  oV h l0 12 <| w_X11_no l0 (-1) h <| fun v2 h =>
  Q v2 h
def n_X11_choose_108 (l0 : Option Nat) (h : Hp) (Q : Int32 → Hp → Prop) : Prop :=
  oV h l0 12 <| w_X11_no l0 (-6) h <| fun v10 h =>
  Q v10 h
def n_X11_choose_225 (l0 : Option Nat) (l1 : Int32) (l2 : Int32) (l4 : Int32) (l5 : Int32) (l6 : Int32) (l7 : Int32) (h : Hp) (Q : Int32 → Hp → Prop) (K124 : Int32 → Int32 → Int32 → Hp → Prop) : Prop :=
  lt (l7 + 1) fun x14 =>
  K124 l5 l6 x14 h
def n_X11_choose_217 (l0 : Option Nat) (l1 : Int32) (l2 : Int32) (l4 : Int32) (l7 : Int32) (l8 : Int32) (h : Hp) (Q : Int32 → Hp → Prop) (K124 : Int32 → Int32 → Int32 → Hp → Prop) : Prop :=
  n_X11_choose_225 l0 l1 l2 l4 l7 l8 l7 h Q K124
def n_X11_choose_180 (l0 : Option Nat) (l1 : Int32) (l2 : Int32) (l4 : Int32) (l5 : Int32) (l6 : Int32) (l7 : Int32) (l8 : Int32) (l9 : Int32) (h : Hp) (Q : Int32 → Hp → Prop) (K124 : Int32 → Int32 → Int32 → Hp → Prop) (K152 : Int32 → Int32 → Hp → Prop) : Prop :=
  lt (l9 + 1) fun x22 =>
  K152 l8 x22 h
def b_X11_choose_152 (l0 : Option Nat) (l1 : Int32) (l2 : Int32) (l4 : Int32) (l5 : Int32) (l6 : Int32) (l7 : Int32) (l8 : Int32) (l9 : Int32) (h : Hp) (Q : Int32 → Hp → Prop) (K124 : Int32 → Int32 → Int32 → Hp → Prop) (K152 : Int32 → Int32 → Hp → Prop) : Prop :=
  br (l4 ≤ l9) (
    br (l6 < l8) (
      n_X11_choose_217 l0 l1 l2 l4 l7 l8 h Q K124) (
      br (l8 = l6) (
        gR h l0 12 1463 fun v15 =>
        ldI h v15 l7 fun v16 =>
        gR h l0 12 1463 fun v17 =>
        ldI h v17 l5 fun v18 =>
        br (v18 ≤ v16) (
          n_X11_choose_225 l0 l1 l2 l4 l5 l6 l7 h Q K124) (
          n_X11_choose_217 l0 l1 l2 l4 l7 l8 h Q K124)) (
        n_X11_choose_225 l0 l1 l2 l4 l5 l6 l7 h Q K124))) (
    gR h l0 12 1428 fun v19 =>
    ldL h v19 ((60 * l2) + l9) fun v20 =>
    br ((v20 : Int64).toInt32 = l7) (
      lt (l8 + 1) fun x21 =>
      n_X11_choose_180 l0 l1 l2 l4 l5 l6 l7 x21 l9 h Q K124 K152) (
      n_X11_choose_180 l0 l1 l2 l4 l5 l6 l7 l8 l9 h Q K124 K152))
def l_X11_choose_152 (l0 : Option Nat) (l1 : Int32) (l2 : Int32) (l4 : Int32) (l5 : Int32) (l6 : Int32) (l7 : Int32) (l8 : Int32) (l9 : Int32) (h : Hp) (Q : Int32 → Hp → Prop) (K124 : Int32 → Int32 → Int32 → Hp → Prop) : Prop :=
  Lo (fun (K : Int32 × Int32 → Hp → Prop) s h => b_X11_choose_152 l0 l1 l2 l4 l5 l6 l7 s.1 s.2 h Q K124 (fun l8 l9 h => K (l8, l9) h)) (l8, l9) h
def b_X11_choose_124 (l0 : Option Nat) (l1 : Int32) (l2 : Int32) (l4 : Int32) (l5 : Int32) (l6 : Int32) (l7 : Int32) (h : Hp) (Q : Int32 → Hp → Prop) (K124 : Int32 → Int32 → Int32 → Hp → Prop) : Prop :=
  gI h l0 12 1413 fun v11 =>
  br (v11 ≤ l7) (
    gR h l0 12 1421 fun v12 =>
    stI h v12 l1 l5 fun h =>
    Q l5 h) (
    oV h l0 12 <| w_X11_isCandidate l0 l7 l1 h <| fun v13 h =>
    br (v13 = 0) (
      n_X11_choose_225 l0 l1 l2 l4 l5 l6 l7 h Q K124) (
      l_X11_choose_152 l0 l1 l2 l4 l5 l6 l7 0 0 h Q K124))
def l_X11_choose_124 (l0 : Option Nat) (l1 : Int32) (l2 : Int32) (l4 : Int32) (l5 : Int32) (l6 : Int32) (l7 : Int32) (h : Hp) (Q : Int32 → Hp → Prop) : Prop :=
  Lo (fun (K : Int32 × Int32 × Int32 → Hp → Prop) s h => b_X11_choose_124 l0 l1 l2 l4 s.1 s.2.1 s.2.2 h Q (fun l5 l6 l7 h => K (l5, l6, l7) h)) (l5, l6, l7) h
def n_X11_choose_65 (l0 : Option Nat) (l1 : Int32) (l2 : Int32) (l4 : Int32) (l5 : Int32) (h : Hp) (Q : Int32 → Hp → Prop) (K43 : Int32 → Int32 → Hp → Prop) : Prop :=
  lt (l5 + 1) fun x25 =>
  K43 l4 x25 h
def b_X11_choose_43 (l0 : Option Nat) (l1 : Int32) (l2 : Int32) (l4 : Int32) (l5 : Int32) (h : Hp) (Q : Int32 → Hp → Prop) (K43 : Int32 → Int32 → Hp → Prop) : Prop :=
  gI h l0 12 1413 fun v5 =>
  br (v5 ≤ l5) (
    gR h l0 12 1426 fun v6 =>
    ldI h v6 l2 fun v7 =>
    br (l4 ≤ v7) (
      gR h l0 12 1421 fun v8 =>
      ldI h v8 l1 fun v9 =>
      br (v9 = (-1)) (
        br (l4 = 0) (
          n_X11_choose_108 l0 h Q) (
          br (l1 = 0) (
            n_X11_choose_108 l0 h Q) (
            l_X11_choose_124 l0 l1 l2 l4 (-1) (-1) 0 h Q))) (
        n_X11_choose_108 l0 h Q)) (
      oV h l0 12 <| w_X11_no l0 (-5) h <| fun v23 h =>
      Q v23 h)) (
    oV h l0 12 <| w_X11_isCandidate l0 l5 l1 h <| fun v24 h =>
    br (v24 = 0) (
      n_X11_choose_65 l0 l1 l2 l4 l5 h Q K43) (
      lt (l4 + 1) fun x26 =>
      n_X11_choose_65 l0 l1 l2 x26 l5 h Q K43))
def l_X11_choose_43 (l0 : Option Nat) (l1 : Int32) (l2 : Int32) (l4 : Int32) (l5 : Int32) (h : Hp) (Q : Int32 → Hp → Prop) : Prop :=
  Lo (fun (K : Int32 × Int32 → Hp → Prop) s h => b_X11_choose_43 l0 l1 l2 s.1 s.2 h Q (fun l4 l5 h => K (l4, l5) h)) (l4, l5) h
def n_X11_choose_0 (l0 : Option Nat) (l1 : Int32) (l2 : Int32) (h : Hp) (Q : Int32 → Hp → Prop) : Prop :=
  oV h l0 12 <| w_X11_isPlace l0 l1 h <| fun v1 h =>
  br (v1 = 0) (
    n_X11_choose_15 l0 h Q) (
    w_X11_isShelf l2 h <| fun v3 h =>
    br (v3 = 0) (
      n_X11_choose_15 l0 h Q) (
      oV h l0 12 <| w_X11_wants l0 l2 h <| fun v4 h =>
      br (v4 = 0) (
        l_X11_choose_43 l0 l1 l2 0 0 h Q) (
        oV h l0 12 <| w_X11_no l0 v4 h <| fun v27 h =>
        Q v27 h)))
def w_X11_choose (l0 : Option Nat) (l1 : Int32) (l2 : Int32) (h : Hp) (Q : Int32 → Hp → Prop) : Prop := n_X11_choose_0 l0 l1 l2 h Q
theorem s_X11_choose_15 {l : Launch} {G : Gh} {l0 : Option Nat} {h : Hp} {Q : Int32 → Hp → Prop}  (hw : n_X11_choose_15 l0 h Q) : V l G 3 yX11_choose cX11_choose 10 (some .int) 15 [(0, va_rf l0)] [] h (qI Q) := by
  unfold n_X11_choose_15 at hw
  refine V_aload_n 0 rfl rfl dX11_choose_15 ?_
  refine V_iconst (v := (-1)) (by decide) dX11_choose_16 ?_
  refine X_cV 11 [.int (-1)] [] ma_X11_212 (by decide) rfl (by decide) (by decide) rfl (by simp [cat_i, cat_l, rf_cat]) rfl dX11_choose_17 hw (r_X11_no _ _) (k_I (fun v2 h hw => ?_))
  exact V_iret rfl dX11_choose_20 ⟨_, rfl, hw⟩
theorem s_X11_choose_108 {l : Launch} {G : Gh} {l0 : Option Nat} {h : Hp} {Q : Int32 → Hp → Prop}  (hw : n_X11_choose_108 l0 h Q) : V l G 3 yX11_choose cX11_choose 10 (some .int) 108 [(0, va_rf l0)] [] h (qI Q) := by
  unfold n_X11_choose_108 at hw
  refine V_aload_n 0 rfl rfl dX11_choose_108 ?_
  refine V_bipush (v := (-6)) (by decide) dX11_choose_109 ?_
  refine X_cV 11 [.int (-6)] [] ma_X11_212 (by decide) rfl (by decide) (by decide) rfl (by simp [cat_i, cat_l, rf_cat]) rfl dX11_choose_111 hw (r_X11_no _ _) (k_I (fun v10 h hw => ?_))
  exact V_iret rfl dX11_choose_114 ⟨_, rfl, hw⟩
theorem s_X11_choose_225 {l : Launch} {G : Gh} {l0 : Option Nat} {l1 : Int32} {l2 : Int32} {l4 : Int32} {l5 : Int32} {l6 : Int32} {l7 : Int32} {h : Hp} {Q : Int32 → Hp → Prop} {K124 : Int32 → Int32 → Int32 → Hp → Prop} (hK124 : ∀ (l5 : Int32) (l6 : Int32) (l7 : Int32) (h : Hp), K124 l5 l6 l7 h → V l G 3 yX11_choose cX11_choose 10 (some .int) 124 [(0, va_rf l0), (1, .int l1), (2, .int l2), (4, .int l4), (5, .int l5), (6, .int l6), (7, .int l7)] [] h (qI Q)) (hw : n_X11_choose_225 l0 l1 l2 l4 l5 l6 l7 h Q K124) : V l G 3 yX11_choose cX11_choose 10 (some .int) 225 [(0, va_rf l0), (1, .int l1), (2, .int l2), (4, .int l4), (5, .int l5), (6, .int l6), (7, .int l7)] [] h (qI Q) := by
  unfold n_X11_choose_225 at hw
  refine V_iincL (n := 1) 6 (fun z => [(7, .int z), (0, va_rf l0), (1, .int l1), (2, .int l2), (4, .int l4), (5, .int l5), (6, .int l6)]) rfl (by rfl) (by decide) (fun _ => rfl) dX11_choose_225 hw (fun x14 hw => ?_)
  refine V_goto (tgt := 124) dX11_choose_228 (by decide) ?_
  exact V.sub [1, 2, 3, 4, 5, 6, 0] rfl (hK124 _ _ _ _ hw)
theorem s_X11_choose_217 {l : Launch} {G : Gh} {l0 : Option Nat} {l1 : Int32} {l2 : Int32} {l4 : Int32} {l7 : Int32} {l8 : Int32} {h : Hp} {Q : Int32 → Hp → Prop} {K124 : Int32 → Int32 → Int32 → Hp → Prop} (hK124 : ∀ (l5 : Int32) (l6 : Int32) (l7 : Int32) (h : Hp), K124 l5 l6 l7 h → V l G 3 yX11_choose cX11_choose 10 (some .int) 124 [(0, va_rf l0), (1, .int l1), (2, .int l2), (4, .int l4), (5, .int l5), (6, .int l6), (7, .int l7)] [] h (qI Q)) (hw : n_X11_choose_217 l0 l1 l2 l4 l7 l8 h Q K124) : V l G 3 yX11_choose cX11_choose 10 (some .int) 217 [(0, va_rf l0), (1, .int l1), (2, .int l2), (4, .int l4), (7, .int l7), (8, .int l8)] [] h (qI Q) := by
  unfold n_X11_choose_217 at hw
  refine V_iload 4 rfl dX11_choose_217 ?_
  refine V_istore (i := 5) [(5, .int l7), (0, va_rf l0), (1, .int l1), (2, .int l2), (4, .int l4), (7, .int l7), (8, .int l8)] (by decide) rfl dX11_choose_219 ?_
  refine V_iload 6 rfl dX11_choose_221 ?_
  refine V_istore (i := 6) [(6, .int l8), (5, .int l7), (0, va_rf l0), (1, .int l1), (2, .int l2), (4, .int l4), (7, .int l7), (8, .int l8)] (by decide) rfl dX11_choose_223 ?_
  exact V.sub [2, 3, 4, 5, 1, 0, 6] rfl (s_X11_choose_225 hK124 hw)
theorem s_X11_choose_180 {l : Launch} {G : Gh} {l0 : Option Nat} {l1 : Int32} {l2 : Int32} {l4 : Int32} {l5 : Int32} {l6 : Int32} {l7 : Int32} {l8 : Int32} {l9 : Int32} {h : Hp} {Q : Int32 → Hp → Prop} {K124 : Int32 → Int32 → Int32 → Hp → Prop} {K152 : Int32 → Int32 → Hp → Prop} (hK124 : ∀ (l5 : Int32) (l6 : Int32) (l7 : Int32) (h : Hp), K124 l5 l6 l7 h → V l G 3 yX11_choose cX11_choose 10 (some .int) 124 [(0, va_rf l0), (1, .int l1), (2, .int l2), (4, .int l4), (5, .int l5), (6, .int l6), (7, .int l7)] [] h (qI Q)) (hK152 : ∀ (l8 : Int32) (l9 : Int32) (h : Hp), K152 l8 l9 h → V l G 3 yX11_choose cX11_choose 10 (some .int) 152 [(0, va_rf l0), (1, .int l1), (2, .int l2), (4, .int l4), (5, .int l5), (6, .int l6), (7, .int l7), (8, .int l8), (9, .int l9)] [] h (qI Q)) (hw : n_X11_choose_180 l0 l1 l2 l4 l5 l6 l7 l8 l9 h Q K124 K152) : V l G 3 yX11_choose cX11_choose 10 (some .int) 180 [(0, va_rf l0), (1, .int l1), (2, .int l2), (4, .int l4), (5, .int l5), (6, .int l6), (7, .int l7), (8, .int l8), (9, .int l9)] [] h (qI Q) := by
  unfold n_X11_choose_180 at hw
  refine V_iincL (n := 1) 8 (fun z => [(9, .int z), (0, va_rf l0), (1, .int l1), (2, .int l2), (4, .int l4), (5, .int l5), (6, .int l6), (7, .int l7), (8, .int l8)]) rfl (by rfl) (by decide) (fun _ => rfl) dX11_choose_180 hw (fun x22 hw => ?_)
  refine V_goto (tgt := 152) dX11_choose_183 (by decide) ?_
  exact V.sub [1, 2, 3, 4, 5, 6, 7, 8, 0] rfl (hK152 _ _ _ hw)
theorem sb_X11_choose_152 {l : Launch} {G : Gh} {l0 : Option Nat} {l1 : Int32} {l2 : Int32} {l4 : Int32} {l5 : Int32} {l6 : Int32} {l7 : Int32} {l8 : Int32} {l9 : Int32} {h : Hp} {Q : Int32 → Hp → Prop} {K124 : Int32 → Int32 → Int32 → Hp → Prop} {K152 : Int32 → Int32 → Hp → Prop} (hK124 : ∀ (l5 : Int32) (l6 : Int32) (l7 : Int32) (h : Hp), K124 l5 l6 l7 h → V l G 3 yX11_choose cX11_choose 10 (some .int) 124 [(0, va_rf l0), (1, .int l1), (2, .int l2), (4, .int l4), (5, .int l5), (6, .int l6), (7, .int l7)] [] h (qI Q)) (hK152 : ∀ (l8 : Int32) (l9 : Int32) (h : Hp), K152 l8 l9 h → V l G 3 yX11_choose cX11_choose 10 (some .int) 152 [(0, va_rf l0), (1, .int l1), (2, .int l2), (4, .int l4), (5, .int l5), (6, .int l6), (7, .int l7), (8, .int l8), (9, .int l9)] [] h (qI Q)) (hw : b_X11_choose_152 l0 l1 l2 l4 l5 l6 l7 l8 l9 h Q K124 K152) : V l G 3 yX11_choose cX11_choose 10 (some .int) 152 [(0, va_rf l0), (1, .int l1), (2, .int l2), (4, .int l4), (5, .int l5), (6, .int l6), (7, .int l7), (8, .int l8), (9, .int l9)] [] h (qI Q) := by
  unfold b_X11_choose_152 at hw
  refine V_iload 8 rfl dX11_choose_152 ?_
  refine V_iload 3 rfl dX11_choose_154 ?_
  refine V_icmp_ge (tgt := 186) dX11_choose_156 (by decide) hw (fun hw => ?_) (fun hw => ?_)
  · refine V_iload 7 rfl dX11_choose_186 ?_
    refine V_iload 5 rfl dX11_choose_188 ?_
    refine V_icmp_gt (tgt := 217) dX11_choose_190 (by decide) hw (fun hw => ?_) (fun hw => ?_)
    · exact V.sub [0, 1, 2, 3, 6, 7] rfl (s_X11_choose_217 hK124 hw)
    · refine V_iload 7 rfl dX11_choose_193 ?_
      refine V_iload 5 rfl dX11_choose_195 ?_
      refine V_icmp_ne (tgt := 225) dX11_choose_197 (by decide) hw (fun hw => ?_) (fun hw => ?_)
      · refine V_aload_n 0 rfl rfl dX11_choose_200 ?_
        refine X_getR (c := 11) (k := 55) fa_X11_163 rfl dX11_choose_201 hw (fun v15 hw => ?_)
        refine V_iload 6 rfl dX11_choose_204 ?_
        refine X_ldI dX11_choose_206 hw (fun v16 hw => ?_)
        refine V_aload_n 0 rfl rfl dX11_choose_207 ?_
        refine X_getR (c := 11) (k := 55) fa_X11_163 rfl dX11_choose_208 hw (fun v17 hw => ?_)
        refine V_iload 4 rfl dX11_choose_211 ?_
        refine X_ldI dX11_choose_213 hw (fun v18 hw => ?_)
        refine V_icmp_ge (tgt := 225) dX11_choose_214 (by decide) hw (fun hw => ?_) (fun hw => ?_)
        · exact V.sub [0, 1, 2, 3, 4, 5, 6] rfl (s_X11_choose_225 hK124 hw)
        · exact V.sub [0, 1, 2, 3, 6, 7] rfl (s_X11_choose_217 hK124 hw)
      · exact V.sub [0, 1, 2, 3, 4, 5, 6] rfl (s_X11_choose_225 hK124 hw)
  · refine V_aload_n 0 rfl rfl dX11_choose_159 ?_
    refine X_getR (c := 11) (k := 20) fa_X11_57 rfl dX11_choose_160 hw (fun v19 hw => ?_)
    refine V_bipush (v := 60) (by decide) dX11_choose_163 ?_
    refine V_iload_n 2 rfl rfl dX11_choose_165 ?_
    refine V_imul dX11_choose_166 ?_
    refine V_iload 8 rfl dX11_choose_167 ?_
    refine V_iadd dX11_choose_169 ?_
    refine X_ldL dX11_choose_170 hw (fun v20 hw => ?_)
    refine V_l2i dX11_choose_171 ?_
    refine V_iload 6 rfl dX11_choose_172 ?_
    refine V_icmp_ne (tgt := 180) dX11_choose_174 (by decide) hw (fun hw => ?_) (fun hw => ?_)
    · refine V_iincL (n := 1) 7 (fun z => [(8, .int z), (0, va_rf l0), (1, .int l1), (2, .int l2), (4, .int l4), (5, .int l5), (6, .int l6), (7, .int l7), (9, .int l9)]) rfl (by rfl) (by decide) (fun _ => rfl) dX11_choose_177 hw (fun x21 hw => ?_)
      exact V.sub [1, 2, 3, 4, 5, 6, 7, 0, 8] rfl (s_X11_choose_180 hK124 hK152 hw)
    · exact V.sub [0, 1, 2, 3, 4, 5, 6, 7, 8] rfl (s_X11_choose_180 hK124 hK152 hw)
theorem s_X11_choose_152 {l : Launch} {G : Gh} {l0 : Option Nat} {l1 : Int32} {l2 : Int32} {l4 : Int32} {l5 : Int32} {l6 : Int32} {l7 : Int32} {l8 : Int32} {l9 : Int32} {h : Hp} {Q : Int32 → Hp → Prop} {K124 : Int32 → Int32 → Int32 → Hp → Prop} (hK124 : ∀ (l5 : Int32) (l6 : Int32) (l7 : Int32) (h : Hp), K124 l5 l6 l7 h → V l G 3 yX11_choose cX11_choose 10 (some .int) 124 [(0, va_rf l0), (1, .int l1), (2, .int l2), (4, .int l4), (5, .int l5), (6, .int l6), (7, .int l7)] [] h (qI Q)) (hw : l_X11_choose_152 l0 l1 l2 l4 l5 l6 l7 l8 l9 h Q K124) : V l G 3 yX11_choose cX11_choose 10 (some .int) 152 [(0, va_rf l0), (1, .int l1), (2, .int l2), (4, .int l4), (5, .int l5), (6, .int l6), (7, .int l7), (8, .int l8), (9, .int l9)] [] h (qI Q) :=
  Lo.ind (P := fun (s : Int32 × Int32) h => V l G 3 yX11_choose cX11_choose 10 (some .int) 152 [(0, va_rf l0), (1, .int l1), (2, .int l2), (4, .int l4), (5, .int l5), (6, .int l6), (7, .int l7), (8, .int s.1), (9, .int s.2)] [] h (qI Q)) (fun K ih s h hw => sb_X11_choose_152 hK124 (fun l8 l9 h hk => ih (l8, l9) h hk) hw) hw
theorem sb_X11_choose_124 {l : Launch} {G : Gh} {l0 : Option Nat} {l1 : Int32} {l2 : Int32} {l4 : Int32} {l5 : Int32} {l6 : Int32} {l7 : Int32} {h : Hp} {Q : Int32 → Hp → Prop} {K124 : Int32 → Int32 → Int32 → Hp → Prop} (hK124 : ∀ (l5 : Int32) (l6 : Int32) (l7 : Int32) (h : Hp), K124 l5 l6 l7 h → V l G 3 yX11_choose cX11_choose 10 (some .int) 124 [(0, va_rf l0), (1, .int l1), (2, .int l2), (4, .int l4), (5, .int l5), (6, .int l6), (7, .int l7)] [] h (qI Q)) (hw : b_X11_choose_124 l0 l1 l2 l4 l5 l6 l7 h Q K124) : V l G 3 yX11_choose cX11_choose 10 (some .int) 124 [(0, va_rf l0), (1, .int l1), (2, .int l2), (4, .int l4), (5, .int l5), (6, .int l6), (7, .int l7)] [] h (qI Q) := by
  unfold b_X11_choose_124 at hw
  refine V_iload 6 rfl dX11_choose_124 ?_
  refine V_aload_n 0 rfl rfl dX11_choose_126 ?_
  refine X_getI (c := 11) (k := 5) fa_X11_364 rfl dX11_choose_127 hw (fun v11 hw => ?_)
  refine V_icmp_ge (tgt := 231) dX11_choose_130 (by decide) hw (fun hw => ?_) (fun hw => ?_)
  · refine V_aload_n 0 rfl rfl dX11_choose_231 ?_
    refine X_getR (c := 11) (k := 13) fa_X11_35 rfl dX11_choose_232 hw (fun v12 hw => ?_)
    refine V_iload_n 1 rfl rfl dX11_choose_235 ?_
    refine V_iload 4 rfl dX11_choose_236 ?_
    refine X_stI dX11_choose_238 hw (fun h hw => ?_)
    refine V_iload 4 rfl dX11_choose_239 ?_
    exact V_iret rfl dX11_choose_241 ⟨_, rfl, hw⟩
  · refine V_aload_n 0 rfl rfl dX11_choose_133 ?_
    refine V_iload 6 rfl dX11_choose_134 ?_
    refine V_iload_n 1 rfl rfl dX11_choose_136 ?_
    refine X_cV 11 [.int l7, .int l1] [] ma_X11_367 (by decide) rfl (by decide) (by decide) rfl (by simp [cat_i, cat_l, rf_cat]) rfl dX11_choose_137 hw (r_X11_isCandidate _ _ _) (k_I (fun v13 h hw => ?_))
    refine V_if_ne (tgt := 146) dX11_choose_140 (by decide) hw (fun hw => ?_) (fun hw => ?_)
    · refine V_goto (tgt := 225) dX11_choose_143 (by decide) ?_
      exact V.sub [0, 1, 2, 3, 4, 5, 6] rfl (s_X11_choose_225 hK124 hw)
    · refine V_iconst (v := 0) (by decide) dX11_choose_146 ?_
      refine V_istore (i := 8) [(8, .int 0), (0, va_rf l0), (1, .int l1), (2, .int l2), (4, .int l4), (5, .int l5), (6, .int l6), (7, .int l7)] (by decide) rfl dX11_choose_147 ?_
      refine V_iconst (v := 0) (by decide) dX11_choose_149 ?_
      refine V_istore (i := 9) [(9, .int 0), (8, .int 0), (0, va_rf l0), (1, .int l1), (2, .int l2), (4, .int l4), (5, .int l5), (6, .int l6), (7, .int l7)] (by decide) rfl dX11_choose_150 ?_
      exact V.sub [2, 3, 4, 5, 6, 7, 8, 1, 0] rfl (s_X11_choose_152 hK124 hw)
theorem s_X11_choose_124 {l : Launch} {G : Gh} {l0 : Option Nat} {l1 : Int32} {l2 : Int32} {l4 : Int32} {l5 : Int32} {l6 : Int32} {l7 : Int32} {h : Hp} {Q : Int32 → Hp → Prop}  (hw : l_X11_choose_124 l0 l1 l2 l4 l5 l6 l7 h Q) : V l G 3 yX11_choose cX11_choose 10 (some .int) 124 [(0, va_rf l0), (1, .int l1), (2, .int l2), (4, .int l4), (5, .int l5), (6, .int l6), (7, .int l7)] [] h (qI Q) :=
  Lo.ind (P := fun (s : Int32 × Int32 × Int32) h => V l G 3 yX11_choose cX11_choose 10 (some .int) 124 [(0, va_rf l0), (1, .int l1), (2, .int l2), (4, .int l4), (5, .int s.1), (6, .int s.2.1), (7, .int s.2.2)] [] h (qI Q)) (fun K ih s h hw => sb_X11_choose_124 (fun l5 l6 l7 h hk => ih (l5, l6, l7) h hk) hw) hw
theorem s_X11_choose_65 {l : Launch} {G : Gh} {l0 : Option Nat} {l1 : Int32} {l2 : Int32} {l4 : Int32} {l5 : Int32} {h : Hp} {Q : Int32 → Hp → Prop} {K43 : Int32 → Int32 → Hp → Prop} (hK43 : ∀ (l4 : Int32) (l5 : Int32) (h : Hp), K43 l4 l5 h → V l G 3 yX11_choose cX11_choose 10 (some .int) 43 [(0, va_rf l0), (1, .int l1), (2, .int l2), (4, .int l4), (5, .int l5)] [] h (qI Q)) (hw : n_X11_choose_65 l0 l1 l2 l4 l5 h Q K43) : V l G 3 yX11_choose cX11_choose 10 (some .int) 65 [(0, va_rf l0), (1, .int l1), (2, .int l2), (4, .int l4), (5, .int l5)] [] h (qI Q) := by
  unfold n_X11_choose_65 at hw
  refine V_iincL (n := 1) 4 (fun z => [(5, .int z), (0, va_rf l0), (1, .int l1), (2, .int l2), (4, .int l4)]) rfl (by rfl) (by decide) (fun _ => rfl) dX11_choose_65 hw (fun x25 hw => ?_)
  refine V_goto (tgt := 43) dX11_choose_68 (by decide) ?_
  exact V.sub [1, 2, 3, 4, 0] rfl (hK43 _ _ _ hw)
set_option maxRecDepth 20000 in
theorem sb_X11_choose_43 {l : Launch} {G : Gh} {l0 : Option Nat} {l1 : Int32} {l2 : Int32} {l4 : Int32} {l5 : Int32} {h : Hp} {Q : Int32 → Hp → Prop} {K43 : Int32 → Int32 → Hp → Prop} (hK43 : ∀ (l4 : Int32) (l5 : Int32) (h : Hp), K43 l4 l5 h → V l G 3 yX11_choose cX11_choose 10 (some .int) 43 [(0, va_rf l0), (1, .int l1), (2, .int l2), (4, .int l4), (5, .int l5)] [] h (qI Q)) (hw : b_X11_choose_43 l0 l1 l2 l4 l5 h Q K43) : V l G 3 yX11_choose cX11_choose 10 (some .int) 43 [(0, va_rf l0), (1, .int l1), (2, .int l2), (4, .int l4), (5, .int l5)] [] h (qI Q) := by
  unfold b_X11_choose_43 at hw
  refine V_iload 4 rfl dX11_choose_43 ?_
  refine V_aload_n 0 rfl rfl dX11_choose_45 ?_
  refine X_getI (c := 11) (k := 5) fa_X11_364 rfl dX11_choose_46 hw (fun v5 hw => ?_)
  refine V_icmp_ge (tgt := 71) dX11_choose_49 (by decide) hw (fun hw => ?_) (fun hw => ?_)
  · refine V_aload_n 0 rfl rfl dX11_choose_71 ?_
    refine X_getR (c := 11) (k := 18) fa_X11_51 rfl dX11_choose_72 hw (fun v6 hw => ?_)
    refine V_iload_n 2 rfl rfl dX11_choose_75 ?_
    refine X_ldI dX11_choose_76 hw (fun v7 hw => ?_)
    refine V_iload 3 rfl dX11_choose_77 ?_
    refine V_icmp_ge (tgt := 89) dX11_choose_79 (by decide) hw (fun hw => ?_) (fun hw => ?_)
    · refine V_aload_n 0 rfl rfl dX11_choose_89 ?_
      refine X_getR (c := 11) (k := 13) fa_X11_35 rfl dX11_choose_90 hw (fun v8 hw => ?_)
      refine V_iload_n 1 rfl rfl dX11_choose_93 ?_
      refine X_ldI dX11_choose_94 hw (fun v9 hw => ?_)
      refine V_iconst (v := (-1)) (by decide) dX11_choose_95 ?_
      refine V_icmp_ne (tgt := 108) dX11_choose_96 (by decide) hw (fun hw => ?_) (fun hw => ?_)
      · refine V_iload 3 rfl dX11_choose_99 ?_
        refine V_if_eq (tgt := 108) dX11_choose_101 (by decide) hw (fun hw => ?_) (fun hw => ?_)
        · exact V.sub [0] rfl (s_X11_choose_108 hw)
        · refine V_iload_n 1 rfl rfl dX11_choose_104 ?_
          refine V_if_ne (tgt := 115) dX11_choose_105 (by decide) hw (fun hw => ?_) (fun hw => ?_)
          · exact V.sub [0] rfl (s_X11_choose_108 hw)
          · refine V_iconst (v := (-1)) (by decide) dX11_choose_115 ?_
            refine V_istore (i := 5) [(5, .int (-1)), (0, va_rf l0), (1, .int l1), (2, .int l2), (4, .int l4)] (by decide) rfl dX11_choose_116 ?_
            refine V_iconst (v := (-1)) (by decide) dX11_choose_118 ?_
            refine V_istore (i := 6) [(6, .int (-1)), (5, .int (-1)), (0, va_rf l0), (1, .int l1), (2, .int l2), (4, .int l4)] (by decide) rfl dX11_choose_119 ?_
            refine V_iconst (v := 0) (by decide) dX11_choose_121 ?_
            refine V_istore (i := 7) [(7, .int 0), (6, .int (-1)), (5, .int (-1)), (0, va_rf l0), (1, .int l1), (2, .int l2), (4, .int l4)] (by decide) rfl dX11_choose_122 ?_
            exact V.sub [3, 4, 5, 6, 2, 1, 0] rfl (s_X11_choose_124 hw)
      · exact V.sub [0] rfl (s_X11_choose_108 hw)
    · refine V_aload_n 0 rfl rfl dX11_choose_82 ?_
      refine V_bipush (v := (-5)) (by decide) dX11_choose_83 ?_
      refine X_cV 11 [.int (-5)] [] ma_X11_212 (by decide) rfl (by decide) (by decide) rfl (by simp [cat_i, cat_l, rf_cat]) rfl dX11_choose_85 hw (r_X11_no _ _) (k_I (fun v23 h hw => ?_))
      exact V_iret rfl dX11_choose_88 ⟨_, rfl, hw⟩
  · refine V_aload_n 0 rfl rfl dX11_choose_52 ?_
    refine V_iload 4 rfl dX11_choose_53 ?_
    refine V_iload_n 1 rfl rfl dX11_choose_55 ?_
    refine X_cV 11 [.int l5, .int l1] [] ma_X11_367 (by decide) rfl (by decide) (by decide) rfl (by simp [cat_i, cat_l, rf_cat]) rfl dX11_choose_56 hw (r_X11_isCandidate _ _ _) (k_I (fun v24 h hw => ?_))
    refine V_if_eq (tgt := 65) dX11_choose_59 (by decide) hw (fun hw => ?_) (fun hw => ?_)
    · exact V.sub [0, 1, 2, 3, 4] rfl (s_X11_choose_65 hK43 hw)
    · refine V_iincL (n := 1) 3 (fun z => [(4, .int z), (0, va_rf l0), (1, .int l1), (2, .int l2), (5, .int l5)]) rfl (by rfl) (by decide) (fun _ => rfl) dX11_choose_62 hw (fun x26 hw => ?_)
      exact V.sub [1, 2, 3, 0, 4] rfl (s_X11_choose_65 hK43 hw)
theorem s_X11_choose_43 {l : Launch} {G : Gh} {l0 : Option Nat} {l1 : Int32} {l2 : Int32} {l4 : Int32} {l5 : Int32} {h : Hp} {Q : Int32 → Hp → Prop}  (hw : l_X11_choose_43 l0 l1 l2 l4 l5 h Q) : V l G 3 yX11_choose cX11_choose 10 (some .int) 43 [(0, va_rf l0), (1, .int l1), (2, .int l2), (4, .int l4), (5, .int l5)] [] h (qI Q) :=
  Lo.ind (P := fun (s : Int32 × Int32) h => V l G 3 yX11_choose cX11_choose 10 (some .int) 43 [(0, va_rf l0), (1, .int l1), (2, .int l2), (4, .int s.1), (5, .int s.2)] [] h (qI Q)) (fun K ih s h hw => sb_X11_choose_43 (fun l4 l5 h hk => ih (l4, l5) h hk) hw) hw
theorem s_X11_choose_0 {l : Launch} {G : Gh} {l0 : Option Nat} {l1 : Int32} {l2 : Int32} {h : Hp} {Q : Int32 → Hp → Prop}  (hw : n_X11_choose_0 l0 l1 l2 h Q) : V l G 3 yX11_choose cX11_choose 10 (some .int) 0 [(0, va_rf l0), (1, .int l1), (2, .int l2)] [] h (qI Q) := by
  unfold n_X11_choose_0 at hw
  refine V_aload_n 0 rfl rfl dX11_choose_0 ?_
  refine V_iload_n 1 rfl rfl dX11_choose_1 ?_
  refine X_cV 11 [.int l1] [] ma_X11_208 (by decide) rfl (by decide) (by decide) rfl (by simp [cat_i, cat_l, rf_cat]) rfl dX11_choose_2 hw (r_X11_isPlace _ _) (k_I (fun v1 h hw => ?_))
  refine V_if_eq (tgt := 15) dX11_choose_5 (by decide) hw (fun hw => ?_) (fun hw => ?_)
  · exact V.sub [0] rfl (s_X11_choose_15 hw)
  · refine V_iload_n 2 rfl rfl dX11_choose_8 ?_
    refine X_cS [.int l2] [] ma_X11_237 (by decide) (by decide) rfl (by simp [cat_i, cat_l, rf_cat]) rfl dX11_choose_9 (r_X11_isShelf _ hw) (k_I (fun v3 h hw => ?_))
    refine V_if_ne (tgt := 21) dX11_choose_12 (by decide) hw (fun hw => ?_) (fun hw => ?_)
    · exact V.sub [0] rfl (s_X11_choose_15 hw)
    · refine V_aload_n 0 rfl rfl dX11_choose_21 ?_
      refine V_iload_n 2 rfl rfl dX11_choose_22 ?_
      refine X_cV 11 [.int l2] [] ma_X11_249 (by decide) rfl (by decide) (by decide) rfl (by simp [cat_i, cat_l, rf_cat]) rfl dX11_choose_23 hw (r_X11_wants _ _) (k_I (fun v4 h hw => ?_))
      refine V_istore_n (i := 3) [(3, .int v4), (0, va_rf l0), (1, .int l1), (2, .int l2)] rfl (by decide) rfl dX11_choose_26 ?_
      refine V_iload_n 0 rfl rfl dX11_choose_27 ?_
      refine V_if_eq (tgt := 37) dX11_choose_28 (by decide) hw (fun hw => ?_) (fun hw => ?_)
      · refine V_iconst (v := 0) (by decide) dX11_choose_37 ?_
        refine V_istore (i := 4) [(4, .int 0), (3, .int v4), (0, va_rf l0), (1, .int l1), (2, .int l2)] (by decide) rfl dX11_choose_38 ?_
        refine V_iconst (v := 0) (by decide) dX11_choose_40 ?_
        refine V_istore (i := 5) [(5, .int 0), (4, .int 0), (3, .int v4), (0, va_rf l0), (1, .int l1), (2, .int l2)] (by decide) rfl dX11_choose_41 ?_
        exact V.sub [3, 4, 5, 1, 0] rfl (s_X11_choose_43 hw)
      · refine V_aload_n 1 rfl rfl dX11_choose_31 ?_
        refine V_iload_n 0 rfl rfl dX11_choose_32 ?_
        refine X_cV 11 [.int v4] [] ma_X11_212 (by decide) rfl (by decide) (by decide) rfl (by simp [cat_i, cat_l, rf_cat]) rfl dX11_choose_33 hw (r_X11_no _ _) (k_I (fun v27 h hw => ?_))
        exact V_iret rfl dX11_choose_36 ⟨_, rfl, hw⟩
theorem r_X11_choose {l : Launch} {G : Gh} (l0 : Option Nat) (l1 : Int32) (l2 : Int32) {h : Hp} {Q : Int32 → Hp → Prop} (hw : w_X11_choose l0 l1 l2 h Q) : RunQ l G 3 yX11_choose cX11_choose 10 (some .int) [va_rf l0, .int l1, .int l2] h (qI Q) :=
  V_run rfl (sl_len _ _ (by simp [cat_i, cat_l, rf_cat])) (V.sub [0, 1, 2] (by simp only [la_r, la_i, la_l, la_n]; rfl) (s_X11_choose_0 hw))
def n_X11_clash_20 (l0 : Option Nat) (h : Hp) (Q : Int32 → Hp → Prop) : Prop :=
  oV h l0 12 <| w_X11_no l0 (-6) h <| fun v1 h =>
  Q v1 h
def n_X11_clash_0 (l0 : Option Nat) (l1 : Int32) (l2 : Int32) (l3 : Int32) (h : Hp) (Q : Int32 → Hp → Prop) : Prop :=
  br (l1 < 0) (
    n_X11_clash_20 l0 h Q) (
    br (15 < l1) (
      n_X11_clash_20 l0 h Q) (
      br (l2 < 0) (
        n_X11_clash_20 l0 h Q) (
        br (l2 ≤ 15) (
          gR h l0 12 1464 fun v2 =>
          ldZ h v2 ((16 * l1) + l2) fun v3 =>
          br (v3 = l3) (
            Q 0 h) (
            gR h l0 12 1464 fun v4 =>
            stZ h v4 ((16 * l1) + l2) l3 fun h =>
            gR h l0 12 1464 fun v5 =>
            stZ h v5 ((16 * l2) + l1) l3 fun h =>
            Q 1 h)) (
          n_X11_clash_20 l0 h Q))))
def w_X11_clash (l0 : Option Nat) (l1 : Int32) (l2 : Int32) (l3 : Int32) (h : Hp) (Q : Int32 → Hp → Prop) : Prop := n_X11_clash_0 l0 l1 l2 l3 h Q
theorem s_X11_clash_20 {l : Launch} {G : Gh} {l0 : Option Nat} {h : Hp} {Q : Int32 → Hp → Prop}  (hw : n_X11_clash_20 l0 h Q) : V l G 2 yX11_clash cX11_clash 4 (some .int) 20 [(0, va_rf l0)] [] h (qI Q) := by
  unfold n_X11_clash_20 at hw
  refine V_aload_n 0 rfl rfl dX11_clash_20 ?_
  refine V_bipush (v := (-6)) (by decide) dX11_clash_21 ?_
  refine X_cV 11 [.int (-6)] [] ma_X11_212 (by decide) rfl (by decide) (by decide) rfl (by simp [cat_i, cat_l, rf_cat]) rfl dX11_clash_23 hw (r_X11_no _ _) (k_I (fun v1 h hw => ?_))
  exact V_iret rfl dX11_clash_26 ⟨_, rfl, hw⟩
set_option maxRecDepth 20000 in
theorem s_X11_clash_0 {l : Launch} {G : Gh} {l0 : Option Nat} {l1 : Int32} {l2 : Int32} {l3 : Int32} {h : Hp} {Q : Int32 → Hp → Prop}  (hw : n_X11_clash_0 l0 l1 l2 l3 h Q) : V l G 2 yX11_clash cX11_clash 4 (some .int) 0 [(0, va_rf l0), (1, .int l1), (2, .int l2), (3, .int l3)] [] h (qI Q) := by
  unfold n_X11_clash_0 at hw
  refine V_iload_n 1 rfl rfl dX11_clash_0 ?_
  refine V_if_lt (tgt := 20) dX11_clash_1 (by decide) hw (fun hw => ?_) (fun hw => ?_)
  · exact V.sub [0] rfl (s_X11_clash_20 hw)
  · refine V_iload_n 1 rfl rfl dX11_clash_4 ?_
    refine V_bipush (v := 15) (by decide) dX11_clash_5 ?_
    refine V_icmp_gt (tgt := 20) dX11_clash_7 (by decide) hw (fun hw => ?_) (fun hw => ?_)
    · exact V.sub [0] rfl (s_X11_clash_20 hw)
    · refine V_iload_n 2 rfl rfl dX11_clash_10 ?_
      refine V_if_lt (tgt := 20) dX11_clash_11 (by decide) hw (fun hw => ?_) (fun hw => ?_)
      · exact V.sub [0] rfl (s_X11_clash_20 hw)
      · refine V_iload_n 2 rfl rfl dX11_clash_14 ?_
        refine V_bipush (v := 15) (by decide) dX11_clash_15 ?_
        refine V_icmp_le (tgt := 27) dX11_clash_17 (by decide) hw (fun hw => ?_) (fun hw => ?_)
        · refine V_aload_n 0 rfl rfl dX11_clash_27 ?_
          refine X_getR (c := 11) (k := 56) fa_X11_166 rfl dX11_clash_28 hw (fun v2 hw => ?_)
          refine V_bipush (v := 16) (by decide) dX11_clash_31 ?_
          refine V_iload_n 1 rfl rfl dX11_clash_33 ?_
          refine V_imul dX11_clash_34 ?_
          refine V_iload_n 2 rfl rfl dX11_clash_35 ?_
          refine V_iadd dX11_clash_36 ?_
          refine X_ldZ dX11_clash_37 hw (fun v3 hw => ?_)
          refine V_iload_n 3 rfl rfl dX11_clash_38 ?_
          refine V_icmp_ne (tgt := 44) dX11_clash_39 (by decide) hw (fun hw => ?_) (fun hw => ?_)
          · refine V_iconst (v := 0) (by decide) dX11_clash_42 ?_
            exact V_iret rfl dX11_clash_43 ⟨_, rfl, hw⟩
          · refine V_aload_n 0 rfl rfl dX11_clash_44 ?_
            refine X_getR (c := 11) (k := 56) fa_X11_166 rfl dX11_clash_45 hw (fun v4 hw => ?_)
            refine V_bipush (v := 16) (by decide) dX11_clash_48 ?_
            refine V_iload_n 1 rfl rfl dX11_clash_50 ?_
            refine V_imul dX11_clash_51 ?_
            refine V_iload_n 2 rfl rfl dX11_clash_52 ?_
            refine V_iadd dX11_clash_53 ?_
            refine V_iload_n 3 rfl rfl dX11_clash_54 ?_
            refine X_stZ dX11_clash_55 hw (fun h hw => ?_)
            refine V_aload_n 0 rfl rfl dX11_clash_56 ?_
            refine X_getR (c := 11) (k := 56) fa_X11_166 rfl dX11_clash_57 hw (fun v5 hw => ?_)
            refine V_bipush (v := 16) (by decide) dX11_clash_60 ?_
            refine V_iload_n 2 rfl rfl dX11_clash_62 ?_
            refine V_imul dX11_clash_63 ?_
            refine V_iload_n 1 rfl rfl dX11_clash_64 ?_
            refine V_iadd dX11_clash_65 ?_
            refine V_iload_n 3 rfl rfl dX11_clash_66 ?_
            refine X_stZ dX11_clash_67 hw (fun h hw => ?_)
            refine V_iconst (v := 1) (by decide) dX11_clash_68 ?_
            exact V_iret rfl dX11_clash_69 ⟨_, rfl, hw⟩
        · exact V.sub [0] rfl (s_X11_clash_20 hw)
theorem r_X11_clash {l : Launch} {G : Gh} (l0 : Option Nat) (l1 : Int32) (l2 : Int32) (l3 : Int32) {h : Hp} {Q : Int32 → Hp → Prop} (hw : w_X11_clash l0 l1 l2 l3 h Q) : RunQ l G 2 yX11_clash cX11_clash 4 (some .int) [va_rf l0, .int l1, .int l2, .int l3] h (qI Q) :=
  V_run rfl (sl_len _ _ (by simp [cat_i, cat_l, rf_cat])) (V.sub [0, 1, 2, 3] (by simp only [la_r, la_i, la_l, la_n]; rfl) (s_X11_clash_0 hw))
def n_X11_emits_0 (l0 : Option Nat) (l1 : Int32) (l2 : Int32) (h : Hp) (Q : Hp → Prop) : Prop :=
  gR h l0 12 1456 fun v1 =>
  gI h l0 12 1471 fun v2 =>
  pI h l0 12 1471 (v2 + 1) fun h =>
  stI h v1 ((100 * l1) + v2) l2 fun h =>
  Q h
def w_X11_emits (l0 : Option Nat) (l1 : Int32) (l2 : Int32) (h : Hp) (Q : Hp → Prop) : Prop := n_X11_emits_0 l0 l1 l2 h Q
theorem s_X11_emits_0 {l : Launch} {G : Gh} {l0 : Option Nat} {l1 : Int32} {l2 : Int32} {h : Hp} {Q : Hp → Prop}  (hw : n_X11_emits_0 l0 l1 l2 h Q) : V l G 1 yX11_emits cX11_emits 3 none 0 [(0, va_rf l0), (1, .int l1), (2, .int l2)] [] h (qV Q) := by
  unfold n_X11_emits_0 at hw
  refine V_aload_n 0 rfl rfl dX11_emits_0 ?_
  refine X_getR (c := 11) (k := 48) fa_X11_142 rfl dX11_emits_1 hw (fun v1 hw => ?_)
  refine V_bipush (v := 100) (by decide) dX11_emits_4 ?_
  refine V_iload_n 1 rfl rfl dX11_emits_6 ?_
  refine V_imul dX11_emits_7 ?_
  refine V_aload_n 0 rfl rfl dX11_emits_8 ?_
  refine V_dup (rf_cat _) dX11_emits_9 ?_
  refine X_getI (c := 11) (k := 63) fa_X11_305 rfl dX11_emits_10 hw (fun v2 hw => ?_)
  refine V_dup_x1 rfl (rf_cat _) dX11_emits_13 ?_
  refine V_iconst (v := 1) (by decide) dX11_emits_14 ?_
  refine V_iadd dX11_emits_15 ?_
  refine X_putI (c := 11) (k := 63) fa_X11_305 (Or.inl rfl) rfl dX11_emits_16 hw (fun h hw => ?_)
  refine V_iadd dX11_emits_19 ?_
  refine V_iload_n 2 rfl rfl dX11_emits_20 ?_
  refine X_stI dX11_emits_21 hw (fun h hw => ?_)
  exact V_vret rfl dX11_emits_22 ⟨rfl, hw⟩
theorem r_X11_emits {l : Launch} {G : Gh} (l0 : Option Nat) (l1 : Int32) (l2 : Int32) {h : Hp} {Q : Hp → Prop} (hw : w_X11_emits l0 l1 l2 h Q) : RunQ l G 1 yX11_emits cX11_emits 3 none [va_rf l0, .int l1, .int l2] h (qV Q) :=
  V_run rfl (sl_len _ _ (by simp [cat_i, cat_l, rf_cat])) (V.sub [0, 1, 2] (by simp only [la_r, la_i, la_l, la_n]; rfl) (s_X11_emits_0 hw))
def n_X11_closes_52 (h : Hp) (Q : Hp → Prop) : Prop :=
  Q h
def b_X11_closes_0 (l0 : Option Nat) (l1 : Int32) (h : Hp) (Q : Hp → Prop) (K0 : Hp → Prop) : Prop :=
  gI h l0 12 1473 fun v1 =>
  br (v1 ≤ 0) (
    n_X11_closes_52 h Q) (
    gR h l0 12 1467 fun v2 =>
    gI h l0 12 1473 fun v3 =>
    ldI h v2 (v3 - 1) fun v4 =>
    br (v4 = 33) (
      gI h l0 12 1473 fun v5 =>
      pI h l0 12 1473 (v5 - 1) fun h =>
      gI h l0 12 1474 fun v6 =>
      pI h l0 12 1474 (v6 - 1) fun h =>
      oV h l0 12 <| w_X11_emits l0 l1 (-1) h <| fun h =>
      K0 h) (
      n_X11_closes_52 h Q))
def l_X11_closes_0 (l0 : Option Nat) (l1 : Int32) (h : Hp) (Q : Hp → Prop) : Prop :=
  Lo (fun (K : Unit → Hp → Prop) s h => b_X11_closes_0 l0 l1 h Q (fun h => K () h)) () h
def w_X11_closes (l0 : Option Nat) (l1 : Int32) (h : Hp) (Q : Hp → Prop) : Prop := l_X11_closes_0 l0 l1 h Q
theorem s_X11_closes_52 {l : Launch} {G : Gh}  {h : Hp} {Q : Hp → Prop}  (hw : n_X11_closes_52 h Q) : V l G 2 yX11_closes cX11_closes 2 none 52 [] [] h (qV Q) := by
  unfold n_X11_closes_52 at hw
  exact V_vret rfl dX11_closes_52 ⟨rfl, hw⟩
theorem sb_X11_closes_0 {l : Launch} {G : Gh} {l0 : Option Nat} {l1 : Int32} {h : Hp} {Q : Hp → Prop} {K0 : Hp → Prop} (hK0 : ∀ (h : Hp), K0 h → V l G 2 yX11_closes cX11_closes 2 none 0 [(0, va_rf l0), (1, .int l1)] [] h (qV Q)) (hw : b_X11_closes_0 l0 l1 h Q K0) : V l G 2 yX11_closes cX11_closes 2 none 0 [(0, va_rf l0), (1, .int l1)] [] h (qV Q) := by
  unfold b_X11_closes_0 at hw
  refine V_aload_n 0 rfl rfl dX11_closes_0 ?_
  refine X_getI (c := 11) (k := 65) fa_X11_308 rfl dX11_closes_1 hw (fun v1 hw => ?_)
  refine V_if_le (tgt := 52) dX11_closes_4 (by decide) hw (fun hw => ?_) (fun hw => ?_)
  · exact V.sub [] rfl (s_X11_closes_52 hw)
  · refine V_aload_n 0 rfl rfl dX11_closes_7 ?_
    refine X_getR (c := 11) (k := 59) fa_X11_175 rfl dX11_closes_8 hw (fun v2 hw => ?_)
    refine V_aload_n 0 rfl rfl dX11_closes_11 ?_
    refine X_getI (c := 11) (k := 65) fa_X11_308 rfl dX11_closes_12 hw (fun v3 hw => ?_)
    refine V_iconst (v := 1) (by decide) dX11_closes_15 ?_
    refine V_isub dX11_closes_16 ?_
    refine X_ldI dX11_closes_17 hw (fun v4 hw => ?_)
    refine V_bipush (v := 33) (by decide) dX11_closes_18 ?_
    refine V_icmp_ne (tgt := 52) dX11_closes_20 (by decide) hw (fun hw => ?_) (fun hw => ?_)
    · refine V_aload_n 0 rfl rfl dX11_closes_23 ?_
      refine V_dup (rf_cat _) dX11_closes_24 ?_
      refine X_getI (c := 11) (k := 65) fa_X11_308 rfl dX11_closes_25 hw (fun v5 hw => ?_)
      refine V_iconst (v := 1) (by decide) dX11_closes_28 ?_
      refine V_isub dX11_closes_29 ?_
      refine X_putI (c := 11) (k := 65) fa_X11_308 (Or.inl rfl) rfl dX11_closes_30 hw (fun h hw => ?_)
      refine V_aload_n 0 rfl rfl dX11_closes_33 ?_
      refine V_dup (rf_cat _) dX11_closes_34 ?_
      refine X_getI (c := 11) (k := 66) fa_X11_311 rfl dX11_closes_35 hw (fun v6 hw => ?_)
      refine V_iconst (v := 1) (by decide) dX11_closes_38 ?_
      refine V_isub dX11_closes_39 ?_
      refine X_putI (c := 11) (k := 66) fa_X11_311 (Or.inl rfl) rfl dX11_closes_40 hw (fun h hw => ?_)
      refine V_aload_n 0 rfl rfl dX11_closes_43 ?_
      refine V_iload_n 1 rfl rfl dX11_closes_44 ?_
      refine V_iconst (v := (-1)) (by decide) dX11_closes_45 ?_
      refine X_cV 11 [.int l1, .int (-1)] [] ma_X11_314 (by decide) rfl (by decide) (by decide) rfl (by simp [cat_i, cat_l, rf_cat]) rfl dX11_closes_46 hw (r_X11_emits _ _ _) (k_V (fun h hw => ?_))
      refine V_goto (tgt := 0) dX11_closes_49 (by decide) ?_
      exact V.sub [0, 1] rfl (hK0 _ hw)
    · exact V.sub [] rfl (s_X11_closes_52 hw)
theorem s_X11_closes_0 {l : Launch} {G : Gh} {l0 : Option Nat} {l1 : Int32} {h : Hp} {Q : Hp → Prop}  (hw : l_X11_closes_0 l0 l1 h Q) : V l G 2 yX11_closes cX11_closes 2 none 0 [(0, va_rf l0), (1, .int l1)] [] h (qV Q) :=
  Lo.ind (P := fun (s : Unit) h => V l G 2 yX11_closes cX11_closes 2 none 0 [(0, va_rf l0), (1, .int l1)] [] h (qV Q)) (fun K ih s h hw => sb_X11_closes_0 (fun h hk => ih () h hk) hw) hw
theorem r_X11_closes {l : Launch} {G : Gh} (l0 : Option Nat) (l1 : Int32) {h : Hp} {Q : Hp → Prop} (hw : w_X11_closes l0 l1 h Q) : RunQ l G 2 yX11_closes cX11_closes 2 none [va_rf l0, .int l1] h (qV Q) :=
  V_run rfl (sl_len _ _ (by simp [cat_i, cat_l, rf_cat])) (V.sub [0, 1] (by simp only [la_r, la_i, la_l, la_n]; rfl) (s_X11_closes_0 hw))
def n_X11_comes_46 (l0 : Option Nat) (l2 : Int32) (l3 : Int32) (h : Hp) (Q : Int32 → Hp → Prop) (K7 : Int32 → Hp → Prop) : Prop :=
  lt (l3 + 1) fun x8 =>
  K7 x8 h
def b_X11_comes_7 (l0 : Option Nat) (l2 : Int32) (l3 : Int32) (h : Hp) (Q : Int32 → Hp → Prop) (K7 : Int32 → Hp → Prop) : Prop :=
  gI h l0 12 1410 fun v1 =>
  br (v1 ≤ l3) (
    rZ 0 h Q) (
    gR h l0 12 1430 fun v2 =>
    ldI h v2 l3 fun v3 =>
    br (v3 = 0) (
      gR h l0 12 1431 fun v4 =>
      ldI h v4 l3 fun v5 =>
      gR h l0 12 1432 fun v6 =>
      ldI h v6 l3 fun v7 =>
      br ((8 * v5) + v7 = l2) (
        rZ 1 h Q) (
        n_X11_comes_46 l0 l2 l3 h Q K7)) (
      n_X11_comes_46 l0 l2 l3 h Q K7))
def l_X11_comes_7 (l0 : Option Nat) (l2 : Int32) (l3 : Int32) (h : Hp) (Q : Int32 → Hp → Prop) : Prop :=
  Lo (fun (K : Int32 → Hp → Prop) s h => b_X11_comes_7 l0 l2 s h Q (fun l3 h => K (l3) h)) (l3) h
def n_X11_comes_124 (s0 : Int32) (h : Hp) (Q : Int32 → Hp → Prop) : Prop :=
  rZ s0 h Q
def n_X11_comes_102 (l0 : Option Nat) (l2 : Int32) (l3 : Int32) (l4 : Int32) (h : Hp) (Q : Int32 → Hp → Prop) (K63 : Int32 → Int32 → Hp → Prop) : Prop :=
  lt (l4 + 1) fun x14 =>
  K63 l3 x14 h
def b_X11_comes_63 (l0 : Option Nat) (l2 : Int32) (l3 : Int32) (l4 : Int32) (h : Hp) (Q : Int32 → Hp → Prop) (K63 : Int32 → Int32 → Hp → Prop) : Prop :=
  gI h l0 12 1409 fun v9 =>
  br (v9 ≤ l4) (
    oV h l0 12 <| w_X11_hearthsOf l0 0 h <| fun v10 h =>
    br ((2 * l3) ≤ v10) (
      n_X11_comes_124 0 h Q) (
      n_X11_comes_124 1 h Q)) (
    gR h l0 12 1415 fun v11 =>
    ldI h v11 l4 fun v12 =>
    br (v12 = 0) (
      oV h l0 12 <| w_X11_asksNow l0 l4 l2 h <| fun v13 h =>
      br (v13 = 0) (
        n_X11_comes_102 l0 l2 l3 l4 h Q K63) (
        gR h l0 12 1419 fun v15 =>
        ldI h v15 l4 fun v16 =>
        lt (l3 + v16) fun x17 =>
        n_X11_comes_102 l0 l2 x17 l4 h Q K63)) (
      n_X11_comes_102 l0 l2 l3 l4 h Q K63))
def l_X11_comes_63 (l0 : Option Nat) (l2 : Int32) (l3 : Int32) (l4 : Int32) (h : Hp) (Q : Int32 → Hp → Prop) : Prop :=
  Lo (fun (K : Int32 × Int32 → Hp → Prop) s h => b_X11_comes_63 l0 l2 s.1 s.2 h Q (fun l3 l4 h => K (l3, l4) h)) (l3, l4) h
def n_X11_comes_229 (s0 : Int32) (h : Hp) (Q : Int32 → Hp → Prop) : Prop :=
  rZ s0 h Q
def n_X11_comes_213 (l0 : Option Nat) (l2 : Int32) (l3 : Int32) (l4 : Int32) (h : Hp) (Q : Int32 → Hp → Prop) (K130 : Int32 → Int32 → Hp → Prop) : Prop :=
  lt (l4 + 1) fun x19 =>
  K130 l3 x19 h
def n_X11_comes_195 (l0 : Option Nat) (l2 : Int32) (l3 : Int32) (l4 : Int32) (l5 : Int32) (l6 : Int32) (l7 : Int32) (h : Hp) (Q : Int32 → Hp → Prop) (K130 : Int32 → Int32 → Hp → Prop) (K145 : Int32 → Int32 → Int32 → Hp → Prop) : Prop :=
  lt (l7 + 1) fun x27 =>
  K145 l5 l6 x27 h
def b_X11_comes_145 (l0 : Option Nat) (l2 : Int32) (l3 : Int32) (l4 : Int32) (l5 : Int32) (l6 : Int32) (l7 : Int32) (h : Hp) (Q : Int32 → Hp → Prop) (K130 : Int32 → Int32 → Hp → Prop) (K145 : Int32 → Int32 → Int32 → Hp → Prop) : Prop :=
  gI h l0 12 1409 fun v18 =>
  br (v18 ≤ l7) (
    br ((2 * l5) ≤ l6) (
      n_X11_comes_213 l0 l2 l3 l4 h Q K130) (
      lt (l3 + 1) fun x20 =>
      n_X11_comes_213 l0 l2 x20 l4 h Q K130)) (
    gR h l0 12 1415 fun v21 =>
    ldI h v21 l7 fun v22 =>
    br (v22 = 0) (
      gR h l0 12 1418 fun v23 =>
      ldI h v23 l7 fun v24 =>
      br (v24 = l4) (
        lt (l6 + 1) fun x25 =>
        oV h l0 12 <| w_X11_asksNow l0 l7 l2 h <| fun v26 h =>
        br (v26 = 0) (
          n_X11_comes_195 l0 l2 l3 l4 l5 x25 l7 h Q K130 K145) (
          lt (l5 + 1) fun x28 =>
          n_X11_comes_195 l0 l2 l3 l4 x28 x25 l7 h Q K130 K145)) (
        n_X11_comes_195 l0 l2 l3 l4 l5 l6 l7 h Q K130 K145)) (
      n_X11_comes_195 l0 l2 l3 l4 l5 l6 l7 h Q K130 K145))
def l_X11_comes_145 (l0 : Option Nat) (l2 : Int32) (l3 : Int32) (l4 : Int32) (l5 : Int32) (l6 : Int32) (l7 : Int32) (h : Hp) (Q : Int32 → Hp → Prop) (K130 : Int32 → Int32 → Hp → Prop) : Prop :=
  Lo (fun (K : Int32 × Int32 × Int32 → Hp → Prop) s h => b_X11_comes_145 l0 l2 l3 l4 s.1 s.2.1 s.2.2 h Q K130 (fun l5 l6 l7 h => K (l5, l6, l7) h)) (l5, l6, l7) h
def b_X11_comes_130 (l0 : Option Nat) (l2 : Int32) (l3 : Int32) (l4 : Int32) (h : Hp) (Q : Int32 → Hp → Prop) (K130 : Int32 → Int32 → Hp → Prop) : Prop :=
  br (3 ≤ l4) (
    br (l3 ≤ 1) (
      n_X11_comes_229 0 h Q) (
      n_X11_comes_229 1 h Q)) (
    l_X11_comes_145 l0 l2 l3 l4 0 0 0 h Q K130)
def l_X11_comes_130 (l0 : Option Nat) (l2 : Int32) (l3 : Int32) (l4 : Int32) (h : Hp) (Q : Int32 → Hp → Prop) : Prop :=
  Lo (fun (K : Int32 × Int32 → Hp → Prop) s h => b_X11_comes_130 l0 l2 s.1 s.2 h Q (fun l3 l4 h => K (l3, l4) h)) (l3, l4) h
def n_X11_comes_0 (l0 : Option Nat) (l1 : Int32) (l2 : Int32) (h : Hp) (Q : Int32 → Hp → Prop) : Prop :=
  br (l1 = 2) (
    l_X11_comes_7 l0 l2 0 h Q) (
    br (l1 = 0) (
      l_X11_comes_63 l0 l2 0 0 h Q) (
      l_X11_comes_130 l0 l2 0 0 h Q))
def w_X11_comes (l0 : Option Nat) (l1 : Int32) (l2 : Int32) (h : Hp) (Q : Int32 → Hp → Prop) : Prop := n_X11_comes_0 l0 l1 l2 h Q
theorem s_X11_comes_46 {l : Launch} {G : Gh} {l0 : Option Nat} {l2 : Int32} {l3 : Int32} {h : Hp} {Q : Int32 → Hp → Prop} {K7 : Int32 → Hp → Prop} (hK7 : ∀ (l3 : Int32) (h : Hp), K7 l3 h → V l G 3 yX11_comes cX11_comes 8 (some .boolean) 7 [(0, va_rf l0), (2, .int l2), (3, .int l3)] [] h (qI Q)) (hw : n_X11_comes_46 l0 l2 l3 h Q K7) : V l G 3 yX11_comes cX11_comes 8 (some .boolean) 46 [(0, va_rf l0), (2, .int l2), (3, .int l3)] [] h (qI Q) := by
  unfold n_X11_comes_46 at hw
  refine V_iincL (n := 1) 2 (fun z => [(3, .int z), (0, va_rf l0), (2, .int l2)]) rfl (by rfl) (by decide) (fun _ => rfl) dX11_comes_46 hw (fun x8 hw => ?_)
  refine V_goto (tgt := 7) dX11_comes_49 (by decide) ?_
  exact V.sub [1, 2, 0] rfl (hK7 _ _ hw)
theorem sb_X11_comes_7 {l : Launch} {G : Gh} {l0 : Option Nat} {l2 : Int32} {l3 : Int32} {h : Hp} {Q : Int32 → Hp → Prop} {K7 : Int32 → Hp → Prop} (hK7 : ∀ (l3 : Int32) (h : Hp), K7 l3 h → V l G 3 yX11_comes cX11_comes 8 (some .boolean) 7 [(0, va_rf l0), (2, .int l2), (3, .int l3)] [] h (qI Q)) (hw : b_X11_comes_7 l0 l2 l3 h Q K7) : V l G 3 yX11_comes cX11_comes 8 (some .boolean) 7 [(0, va_rf l0), (2, .int l2), (3, .int l3)] [] h (qI Q) := by
  unfold b_X11_comes_7 at hw
  refine V_iload_n 2 rfl rfl dX11_comes_7 ?_
  refine V_aload_n 0 rfl rfl dX11_comes_8 ?_
  refine X_getI (c := 11) (k := 2) fa_X11_205 rfl dX11_comes_9 hw (fun v1 hw => ?_)
  refine V_icmp_ge (tgt := 52) dX11_comes_12 (by decide) hw (fun hw => ?_) (fun hw => ?_)
  · refine V_iconst (v := 0) (by decide) dX11_comes_52 ?_
    exact V_zret rfl hw.1 dX11_comes_53 ⟨_, rfl, hw.2⟩
  · refine V_aload_n 0 rfl rfl dX11_comes_15 ?_
    refine X_getR (c := 11) (k := 22) fa_X11_64 rfl dX11_comes_16 hw (fun v2 hw => ?_)
    refine V_iload_n 2 rfl rfl dX11_comes_19 ?_
    refine X_ldI dX11_comes_20 hw (fun v3 hw => ?_)
    refine V_if_ne (tgt := 46) dX11_comes_21 (by decide) hw (fun hw => ?_) (fun hw => ?_)
    · refine V_bipush (v := 8) (by decide) dX11_comes_24 ?_
      refine V_aload_n 0 rfl rfl dX11_comes_26 ?_
      refine X_getR (c := 11) (k := 23) fa_X11_67 rfl dX11_comes_27 hw (fun v4 hw => ?_)
      refine V_iload_n 2 rfl rfl dX11_comes_30 ?_
      refine X_ldI dX11_comes_31 hw (fun v5 hw => ?_)
      refine V_imul dX11_comes_32 ?_
      refine V_aload_n 0 rfl rfl dX11_comes_33 ?_
      refine X_getR (c := 11) (k := 24) fa_X11_70 rfl dX11_comes_34 hw (fun v6 hw => ?_)
      refine V_iload_n 2 rfl rfl dX11_comes_37 ?_
      refine X_ldI dX11_comes_38 hw (fun v7 hw => ?_)
      refine V_iadd dX11_comes_39 ?_
      refine V_iload_n 1 rfl rfl dX11_comes_40 ?_
      refine V_icmp_ne (tgt := 46) dX11_comes_41 (by decide) hw (fun hw => ?_) (fun hw => ?_)
      · refine V_iconst (v := 1) (by decide) dX11_comes_44 ?_
        exact V_zret rfl hw.1 dX11_comes_45 ⟨_, rfl, hw.2⟩
      · exact V.sub [0, 1, 2] rfl (s_X11_comes_46 hK7 hw)
    · exact V.sub [0, 1, 2] rfl (s_X11_comes_46 hK7 hw)
theorem s_X11_comes_7 {l : Launch} {G : Gh} {l0 : Option Nat} {l2 : Int32} {l3 : Int32} {h : Hp} {Q : Int32 → Hp → Prop}  (hw : l_X11_comes_7 l0 l2 l3 h Q) : V l G 3 yX11_comes cX11_comes 8 (some .boolean) 7 [(0, va_rf l0), (2, .int l2), (3, .int l3)] [] h (qI Q) :=
  Lo.ind (P := fun (s : Int32) h => V l G 3 yX11_comes cX11_comes 8 (some .boolean) 7 [(0, va_rf l0), (2, .int l2), (3, .int s)] [] h (qI Q)) (fun K ih s h hw => sb_X11_comes_7 (fun l3 h hk => ih (l3) h hk) hw) hw
theorem s_X11_comes_124 {l : Launch} {G : Gh} {s0 : Int32} {h : Hp} {Q : Int32 → Hp → Prop}  (hw : n_X11_comes_124 s0 h Q) : V l G 3 yX11_comes cX11_comes 8 (some .boolean) 124 [] [.int s0] h (qI Q) := by
  unfold n_X11_comes_124 at hw
  exact V_zret rfl hw.1 dX11_comes_124 ⟨_, rfl, hw.2⟩
theorem s_X11_comes_102 {l : Launch} {G : Gh} {l0 : Option Nat} {l2 : Int32} {l3 : Int32} {l4 : Int32} {h : Hp} {Q : Int32 → Hp → Prop} {K63 : Int32 → Int32 → Hp → Prop} (hK63 : ∀ (l3 : Int32) (l4 : Int32) (h : Hp), K63 l3 l4 h → V l G 3 yX11_comes cX11_comes 8 (some .boolean) 63 [(0, va_rf l0), (2, .int l2), (3, .int l3), (4, .int l4)] [] h (qI Q)) (hw : n_X11_comes_102 l0 l2 l3 l4 h Q K63) : V l G 3 yX11_comes cX11_comes 8 (some .boolean) 102 [(0, va_rf l0), (2, .int l2), (3, .int l3), (4, .int l4)] [] h (qI Q) := by
  unfold n_X11_comes_102 at hw
  refine V_iincL (n := 1) 3 (fun z => [(4, .int z), (0, va_rf l0), (2, .int l2), (3, .int l3)]) rfl (by rfl) (by decide) (fun _ => rfl) dX11_comes_102 hw (fun x14 hw => ?_)
  refine V_goto (tgt := 63) dX11_comes_105 (by decide) ?_
  exact V.sub [1, 2, 3, 0] rfl (hK63 _ _ _ hw)
theorem sb_X11_comes_63 {l : Launch} {G : Gh} {l0 : Option Nat} {l2 : Int32} {l3 : Int32} {l4 : Int32} {h : Hp} {Q : Int32 → Hp → Prop} {K63 : Int32 → Int32 → Hp → Prop} (hK63 : ∀ (l3 : Int32) (l4 : Int32) (h : Hp), K63 l3 l4 h → V l G 3 yX11_comes cX11_comes 8 (some .boolean) 63 [(0, va_rf l0), (2, .int l2), (3, .int l3), (4, .int l4)] [] h (qI Q)) (hw : b_X11_comes_63 l0 l2 l3 l4 h Q K63) : V l G 3 yX11_comes cX11_comes 8 (some .boolean) 63 [(0, va_rf l0), (2, .int l2), (3, .int l3), (4, .int l4)] [] h (qI Q) := by
  unfold b_X11_comes_63 at hw
  refine V_iload 3 rfl dX11_comes_63 ?_
  refine V_aload_n 0 rfl rfl dX11_comes_65 ?_
  refine X_getI (c := 11) (k := 1) fa_X11_7 rfl dX11_comes_66 hw (fun v9 hw => ?_)
  refine V_icmp_ge (tgt := 108) dX11_comes_69 (by decide) hw (fun hw => ?_) (fun hw => ?_)
  · refine V_iconst (v := 2) (by decide) dX11_comes_108 ?_
    refine V_iload_n 2 rfl rfl dX11_comes_109 ?_
    refine V_imul dX11_comes_110 ?_
    refine V_aload_n 0 rfl rfl dX11_comes_111 ?_
    refine V_iconst (v := 0) (by decide) dX11_comes_112 ?_
    refine X_cV 11 [.int 0] [.int (2 * l3)] ma_X11_231 (by decide) rfl (by decide) (by decide) rfl (by simp [cat_i, cat_l, rf_cat]) rfl dX11_comes_113 hw (r_X11_hearthsOf _ _) (k_I (fun v10 h hw => ?_))
    refine V_icmp_le (tgt := 123) dX11_comes_116 (by decide) hw (fun hw => ?_) (fun hw => ?_)
    · refine V_iconst (v := 0) (by decide) dX11_comes_123 ?_
      exact V.sub [] rfl (s_X11_comes_124 hw)
    · refine V_iconst (v := 1) (by decide) dX11_comes_119 ?_
      refine V_goto (tgt := 124) dX11_comes_120 (by decide) ?_
      exact V.sub [] rfl (s_X11_comes_124 hw)
  · refine V_aload_n 0 rfl rfl dX11_comes_72 ?_
    refine X_getR (c := 11) (k := 7) fa_X11_16 rfl dX11_comes_73 hw (fun v11 hw => ?_)
    refine V_iload 3 rfl dX11_comes_76 ?_
    refine X_ldI dX11_comes_78 hw (fun v12 hw => ?_)
    refine V_if_ne (tgt := 102) dX11_comes_79 (by decide) hw (fun hw => ?_) (fun hw => ?_)
    · refine V_aload_n 0 rfl rfl dX11_comes_82 ?_
      refine V_iload 3 rfl dX11_comes_83 ?_
      refine V_iload_n 1 rfl rfl dX11_comes_85 ?_
      refine X_cV 11 [.int l4, .int l2] [] ma_X11_361 (by decide) rfl (by decide) (by decide) rfl (by simp [cat_i, cat_l, rf_cat]) rfl dX11_comes_86 hw (r_X11_asksNow _ _ _) (k_I (fun v13 h hw => ?_))
      refine V_if_eq (tgt := 102) dX11_comes_89 (by decide) hw (fun hw => ?_) (fun hw => ?_)
      · exact V.sub [0, 1, 2, 3] rfl (s_X11_comes_102 hK63 hw)
      · refine V_iload_n 2 rfl rfl dX11_comes_92 ?_
        refine V_aload_n 0 rfl rfl dX11_comes_93 ?_
        refine X_getR (c := 11) (k := 11) fa_X11_29 rfl dX11_comes_94 hw (fun v15 hw => ?_)
        refine V_iload 3 rfl dX11_comes_97 ?_
        refine X_ldI dX11_comes_99 hw (fun v16 hw => ?_)
        refine V_iadd dX11_comes_100 ?_
        refine V_ltI hw (fun x17 hw => ?_)
        refine V_istore_n (i := 3) [(3, .int x17), (0, va_rf l0), (2, .int l2), (4, .int l4)] rfl (by decide) rfl dX11_comes_101 ?_
        exact V.sub [1, 2, 0, 3] rfl (s_X11_comes_102 hK63 hw)
    · exact V.sub [0, 1, 2, 3] rfl (s_X11_comes_102 hK63 hw)
theorem s_X11_comes_63 {l : Launch} {G : Gh} {l0 : Option Nat} {l2 : Int32} {l3 : Int32} {l4 : Int32} {h : Hp} {Q : Int32 → Hp → Prop}  (hw : l_X11_comes_63 l0 l2 l3 l4 h Q) : V l G 3 yX11_comes cX11_comes 8 (some .boolean) 63 [(0, va_rf l0), (2, .int l2), (3, .int l3), (4, .int l4)] [] h (qI Q) :=
  Lo.ind (P := fun (s : Int32 × Int32) h => V l G 3 yX11_comes cX11_comes 8 (some .boolean) 63 [(0, va_rf l0), (2, .int l2), (3, .int s.1), (4, .int s.2)] [] h (qI Q)) (fun K ih s h hw => sb_X11_comes_63 (fun l3 l4 h hk => ih (l3, l4) h hk) hw) hw
theorem s_X11_comes_229 {l : Launch} {G : Gh} {s0 : Int32} {h : Hp} {Q : Int32 → Hp → Prop}  (hw : n_X11_comes_229 s0 h Q) : V l G 3 yX11_comes cX11_comes 8 (some .boolean) 229 [] [.int s0] h (qI Q) := by
  unfold n_X11_comes_229 at hw
  exact V_zret rfl hw.1 dX11_comes_229 ⟨_, rfl, hw.2⟩
theorem s_X11_comes_213 {l : Launch} {G : Gh} {l0 : Option Nat} {l2 : Int32} {l3 : Int32} {l4 : Int32} {h : Hp} {Q : Int32 → Hp → Prop} {K130 : Int32 → Int32 → Hp → Prop} (hK130 : ∀ (l3 : Int32) (l4 : Int32) (h : Hp), K130 l3 l4 h → V l G 3 yX11_comes cX11_comes 8 (some .boolean) 130 [(0, va_rf l0), (2, .int l2), (3, .int l3), (4, .int l4)] [] h (qI Q)) (hw : n_X11_comes_213 l0 l2 l3 l4 h Q K130) : V l G 3 yX11_comes cX11_comes 8 (some .boolean) 213 [(0, va_rf l0), (2, .int l2), (3, .int l3), (4, .int l4)] [] h (qI Q) := by
  unfold n_X11_comes_213 at hw
  refine V_iincL (n := 1) 3 (fun z => [(4, .int z), (0, va_rf l0), (2, .int l2), (3, .int l3)]) rfl (by rfl) (by decide) (fun _ => rfl) dX11_comes_213 hw (fun x19 hw => ?_)
  refine V_goto (tgt := 130) dX11_comes_216 (by decide) ?_
  exact V.sub [1, 2, 3, 0] rfl (hK130 _ _ _ hw)
theorem s_X11_comes_195 {l : Launch} {G : Gh} {l0 : Option Nat} {l2 : Int32} {l3 : Int32} {l4 : Int32} {l5 : Int32} {l6 : Int32} {l7 : Int32} {h : Hp} {Q : Int32 → Hp → Prop} {K130 : Int32 → Int32 → Hp → Prop} {K145 : Int32 → Int32 → Int32 → Hp → Prop} (hK130 : ∀ (l3 : Int32) (l4 : Int32) (h : Hp), K130 l3 l4 h → V l G 3 yX11_comes cX11_comes 8 (some .boolean) 130 [(0, va_rf l0), (2, .int l2), (3, .int l3), (4, .int l4)] [] h (qI Q)) (hK145 : ∀ (l5 : Int32) (l6 : Int32) (l7 : Int32) (h : Hp), K145 l5 l6 l7 h → V l G 3 yX11_comes cX11_comes 8 (some .boolean) 145 [(0, va_rf l0), (2, .int l2), (3, .int l3), (4, .int l4), (5, .int l5), (6, .int l6), (7, .int l7)] [] h (qI Q)) (hw : n_X11_comes_195 l0 l2 l3 l4 l5 l6 l7 h Q K130 K145) : V l G 3 yX11_comes cX11_comes 8 (some .boolean) 195 [(0, va_rf l0), (2, .int l2), (3, .int l3), (4, .int l4), (5, .int l5), (6, .int l6), (7, .int l7)] [] h (qI Q) := by
  unfold n_X11_comes_195 at hw
  refine V_iincL (n := 1) 6 (fun z => [(7, .int z), (0, va_rf l0), (2, .int l2), (3, .int l3), (4, .int l4), (5, .int l5), (6, .int l6)]) rfl (by rfl) (by decide) (fun _ => rfl) dX11_comes_195 hw (fun x27 hw => ?_)
  refine V_goto (tgt := 145) dX11_comes_198 (by decide) ?_
  exact V.sub [1, 2, 3, 4, 5, 6, 0] rfl (hK145 _ _ _ _ hw)
theorem sb_X11_comes_145 {l : Launch} {G : Gh} {l0 : Option Nat} {l2 : Int32} {l3 : Int32} {l4 : Int32} {l5 : Int32} {l6 : Int32} {l7 : Int32} {h : Hp} {Q : Int32 → Hp → Prop} {K130 : Int32 → Int32 → Hp → Prop} {K145 : Int32 → Int32 → Int32 → Hp → Prop} (hK130 : ∀ (l3 : Int32) (l4 : Int32) (h : Hp), K130 l3 l4 h → V l G 3 yX11_comes cX11_comes 8 (some .boolean) 130 [(0, va_rf l0), (2, .int l2), (3, .int l3), (4, .int l4)] [] h (qI Q)) (hK145 : ∀ (l5 : Int32) (l6 : Int32) (l7 : Int32) (h : Hp), K145 l5 l6 l7 h → V l G 3 yX11_comes cX11_comes 8 (some .boolean) 145 [(0, va_rf l0), (2, .int l2), (3, .int l3), (4, .int l4), (5, .int l5), (6, .int l6), (7, .int l7)] [] h (qI Q)) (hw : b_X11_comes_145 l0 l2 l3 l4 l5 l6 l7 h Q K130 K145) : V l G 3 yX11_comes cX11_comes 8 (some .boolean) 145 [(0, va_rf l0), (2, .int l2), (3, .int l3), (4, .int l4), (5, .int l5), (6, .int l6), (7, .int l7)] [] h (qI Q) := by
  unfold b_X11_comes_145 at hw
  refine V_iload 6 rfl dX11_comes_145 ?_
  refine V_aload_n 0 rfl rfl dX11_comes_147 ?_
  refine X_getI (c := 11) (k := 1) fa_X11_7 rfl dX11_comes_148 hw (fun v18 hw => ?_)
  refine V_icmp_ge (tgt := 201) dX11_comes_151 (by decide) hw (fun hw => ?_) (fun hw => ?_)
  · refine V_iconst (v := 2) (by decide) dX11_comes_201 ?_
    refine V_iload 4 rfl dX11_comes_202 ?_
    refine V_imul dX11_comes_204 ?_
    refine V_iload 5 rfl dX11_comes_205 ?_
    refine V_icmp_le (tgt := 213) dX11_comes_207 (by decide) hw (fun hw => ?_) (fun hw => ?_)
    · exact V.sub [0, 1, 2, 3] rfl (s_X11_comes_213 hK130 hw)
    · refine V_iincL (n := 1) 2 (fun z => [(3, .int z), (0, va_rf l0), (2, .int l2), (4, .int l4), (5, .int l5), (6, .int l6), (7, .int l7)]) rfl (by rfl) (by decide) (fun _ => rfl) dX11_comes_210 hw (fun x20 hw => ?_)
      exact V.sub [1, 2, 0, 3] rfl (s_X11_comes_213 hK130 hw)
  · refine V_aload_n 0 rfl rfl dX11_comes_154 ?_
    refine X_getR (c := 11) (k := 7) fa_X11_16 rfl dX11_comes_155 hw (fun v21 hw => ?_)
    refine V_iload 6 rfl dX11_comes_158 ?_
    refine X_ldI dX11_comes_160 hw (fun v22 hw => ?_)
    refine V_if_ne (tgt := 195) dX11_comes_161 (by decide) hw (fun hw => ?_) (fun hw => ?_)
    · refine V_aload_n 0 rfl rfl dX11_comes_164 ?_
      refine X_getR (c := 11) (k := 10) fa_X11_26 rfl dX11_comes_165 hw (fun v23 hw => ?_)
      refine V_iload 6 rfl dX11_comes_168 ?_
      refine X_ldI dX11_comes_170 hw (fun v24 hw => ?_)
      refine V_iload 3 rfl dX11_comes_171 ?_
      refine V_icmp_eq (tgt := 179) dX11_comes_173 (by decide) hw (fun hw => ?_) (fun hw => ?_)
      · refine V_iincL (n := 1) 5 (fun z => [(6, .int z), (0, va_rf l0), (2, .int l2), (3, .int l3), (4, .int l4), (5, .int l5), (7, .int l7)]) rfl (by rfl) (by decide) (fun _ => rfl) dX11_comes_179 hw (fun x25 hw => ?_)
        refine V_aload_n 1 rfl rfl dX11_comes_182 ?_
        refine V_iload 6 rfl dX11_comes_183 ?_
        refine V_iload_n 2 rfl rfl dX11_comes_185 ?_
        refine X_cV 11 [.int l7, .int l2] [] ma_X11_361 (by decide) rfl (by decide) (by decide) rfl (by simp [cat_i, cat_l, rf_cat]) rfl dX11_comes_186 hw (r_X11_asksNow _ _ _) (k_I (fun v26 h hw => ?_))
        refine V_if_eq (tgt := 195) dX11_comes_189 (by decide) hw (fun hw => ?_) (fun hw => ?_)
        · exact V.sub [1, 2, 3, 4, 5, 0, 6] rfl (s_X11_comes_195 hK130 hK145 hw)
        · refine V_iincL (n := 1) 5 (fun z => [(5, .int z), (6, .int x25), (0, va_rf l0), (2, .int l2), (3, .int l3), (4, .int l4), (7, .int l7)]) rfl (by rfl) (by decide) (fun _ => rfl) dX11_comes_192 hw (fun x28 hw => ?_)
          exact V.sub [2, 3, 4, 5, 0, 1, 6] rfl (s_X11_comes_195 hK130 hK145 hw)
      · refine V_goto (tgt := 195) dX11_comes_176 (by decide) ?_
        exact V.sub [0, 1, 2, 3, 4, 5, 6] rfl (s_X11_comes_195 hK130 hK145 hw)
    · exact V.sub [0, 1, 2, 3, 4, 5, 6] rfl (s_X11_comes_195 hK130 hK145 hw)
theorem s_X11_comes_145 {l : Launch} {G : Gh} {l0 : Option Nat} {l2 : Int32} {l3 : Int32} {l4 : Int32} {l5 : Int32} {l6 : Int32} {l7 : Int32} {h : Hp} {Q : Int32 → Hp → Prop} {K130 : Int32 → Int32 → Hp → Prop} (hK130 : ∀ (l3 : Int32) (l4 : Int32) (h : Hp), K130 l3 l4 h → V l G 3 yX11_comes cX11_comes 8 (some .boolean) 130 [(0, va_rf l0), (2, .int l2), (3, .int l3), (4, .int l4)] [] h (qI Q)) (hw : l_X11_comes_145 l0 l2 l3 l4 l5 l6 l7 h Q K130) : V l G 3 yX11_comes cX11_comes 8 (some .boolean) 145 [(0, va_rf l0), (2, .int l2), (3, .int l3), (4, .int l4), (5, .int l5), (6, .int l6), (7, .int l7)] [] h (qI Q) :=
  Lo.ind (P := fun (s : Int32 × Int32 × Int32) h => V l G 3 yX11_comes cX11_comes 8 (some .boolean) 145 [(0, va_rf l0), (2, .int l2), (3, .int l3), (4, .int l4), (5, .int s.1), (6, .int s.2.1), (7, .int s.2.2)] [] h (qI Q)) (fun K ih s h hw => sb_X11_comes_145 hK130 (fun l5 l6 l7 h hk => ih (l5, l6, l7) h hk) hw) hw
theorem sb_X11_comes_130 {l : Launch} {G : Gh} {l0 : Option Nat} {l2 : Int32} {l3 : Int32} {l4 : Int32} {h : Hp} {Q : Int32 → Hp → Prop} {K130 : Int32 → Int32 → Hp → Prop} (hK130 : ∀ (l3 : Int32) (l4 : Int32) (h : Hp), K130 l3 l4 h → V l G 3 yX11_comes cX11_comes 8 (some .boolean) 130 [(0, va_rf l0), (2, .int l2), (3, .int l3), (4, .int l4)] [] h (qI Q)) (hw : b_X11_comes_130 l0 l2 l3 l4 h Q K130) : V l G 3 yX11_comes cX11_comes 8 (some .boolean) 130 [(0, va_rf l0), (2, .int l2), (3, .int l3), (4, .int l4)] [] h (qI Q) := by
  unfold b_X11_comes_130 at hw
  refine V_iload 3 rfl dX11_comes_130 ?_
  refine V_iconst (v := 3) (by decide) dX11_comes_132 ?_
  refine V_icmp_ge (tgt := 219) dX11_comes_133 (by decide) hw (fun hw => ?_) (fun hw => ?_)
  · refine V_iload_n 2 rfl rfl dX11_comes_219 ?_
    refine V_iconst (v := 1) (by decide) dX11_comes_220 ?_
    refine V_icmp_le (tgt := 228) dX11_comes_221 (by decide) hw (fun hw => ?_) (fun hw => ?_)
    · refine V_iconst (v := 0) (by decide) dX11_comes_228 ?_
      exact V.sub [] rfl (s_X11_comes_229 hw)
    · refine V_iconst (v := 1) (by decide) dX11_comes_224 ?_
      refine V_goto (tgt := 229) dX11_comes_225 (by decide) ?_
      exact V.sub [] rfl (s_X11_comes_229 hw)
  · refine V_iconst (v := 0) (by decide) dX11_comes_136 ?_
    refine V_istore (i := 5) [(5, .int 0), (0, va_rf l0), (2, .int l2), (3, .int l3), (4, .int l4)] (by decide) rfl dX11_comes_137 ?_
    refine V_iconst (v := 0) (by decide) dX11_comes_139 ?_
    refine V_istore (i := 6) [(6, .int 0), (5, .int 0), (0, va_rf l0), (2, .int l2), (3, .int l3), (4, .int l4)] (by decide) rfl dX11_comes_140 ?_
    refine V_iconst (v := 0) (by decide) dX11_comes_142 ?_
    refine V_istore (i := 7) [(7, .int 0), (6, .int 0), (5, .int 0), (0, va_rf l0), (2, .int l2), (3, .int l3), (4, .int l4)] (by decide) rfl dX11_comes_143 ?_
    exact V.sub [3, 4, 5, 6, 2, 1, 0] rfl (s_X11_comes_145 hK130 hw)
theorem s_X11_comes_130 {l : Launch} {G : Gh} {l0 : Option Nat} {l2 : Int32} {l3 : Int32} {l4 : Int32} {h : Hp} {Q : Int32 → Hp → Prop}  (hw : l_X11_comes_130 l0 l2 l3 l4 h Q) : V l G 3 yX11_comes cX11_comes 8 (some .boolean) 130 [(0, va_rf l0), (2, .int l2), (3, .int l3), (4, .int l4)] [] h (qI Q) :=
  Lo.ind (P := fun (s : Int32 × Int32) h => V l G 3 yX11_comes cX11_comes 8 (some .boolean) 130 [(0, va_rf l0), (2, .int l2), (3, .int s.1), (4, .int s.2)] [] h (qI Q)) (fun K ih s h hw => sb_X11_comes_130 (fun l3 l4 h hk => ih (l3, l4) h hk) hw) hw
theorem s_X11_comes_0 {l : Launch} {G : Gh} {l0 : Option Nat} {l1 : Int32} {l2 : Int32} {h : Hp} {Q : Int32 → Hp → Prop}  (hw : n_X11_comes_0 l0 l1 l2 h Q) : V l G 3 yX11_comes cX11_comes 8 (some .boolean) 0 [(0, va_rf l0), (1, .int l1), (2, .int l2)] [] h (qI Q) := by
  unfold n_X11_comes_0 at hw
  refine V_iload_n 1 rfl rfl dX11_comes_0 ?_
  refine V_iconst (v := 2) (by decide) dX11_comes_1 ?_
  refine V_icmp_ne (tgt := 54) dX11_comes_2 (by decide) hw (fun hw => ?_) (fun hw => ?_)
  · refine V_iconst (v := 0) (by decide) dX11_comes_5 ?_
    refine V_istore_n (i := 3) [(3, .int 0), (0, va_rf l0), (1, .int l1), (2, .int l2)] rfl (by decide) rfl dX11_comes_6 ?_
    exact V.sub [1, 3, 0] rfl (s_X11_comes_7 hw)
  · refine V_iload_n 1 rfl rfl dX11_comes_54 ?_
    refine V_if_ne (tgt := 125) dX11_comes_55 (by decide) hw (fun hw => ?_) (fun hw => ?_)
    · refine V_iconst (v := 0) (by decide) dX11_comes_58 ?_
      refine V_istore_n (i := 3) [(3, .int 0), (0, va_rf l0), (1, .int l1), (2, .int l2)] rfl (by decide) rfl dX11_comes_59 ?_
      refine V_iconst (v := 0) (by decide) dX11_comes_60 ?_
      refine V_istore (i := 4) [(4, .int 0), (3, .int 0), (0, va_rf l0), (1, .int l1), (2, .int l2)] (by decide) rfl dX11_comes_61 ?_
      exact V.sub [2, 4, 1, 0] rfl (s_X11_comes_63 hw)
    · refine V_iconst (v := 0) (by decide) dX11_comes_125 ?_
      refine V_istore_n (i := 3) [(3, .int 0), (0, va_rf l0), (1, .int l1), (2, .int l2)] rfl (by decide) rfl dX11_comes_126 ?_
      refine V_iconst (v := 0) (by decide) dX11_comes_127 ?_
      refine V_istore (i := 4) [(4, .int 0), (3, .int 0), (0, va_rf l0), (1, .int l1), (2, .int l2)] (by decide) rfl dX11_comes_128 ?_
      exact V.sub [2, 4, 1, 0] rfl (s_X11_comes_130 hw)
theorem r_X11_comes {l : Launch} {G : Gh} (l0 : Option Nat) (l1 : Int32) (l2 : Int32) {h : Hp} {Q : Int32 → Hp → Prop} (hw : w_X11_comes l0 l1 l2 h Q) : RunQ l G 3 yX11_comes cX11_comes 8 (some .boolean) [va_rf l0, .int l1, .int l2] h (qI Q) :=
  V_run rfl (sl_len _ _ (by simp [cat_i, cat_l, rf_cat])) (V.sub [0, 1, 2] (by simp only [la_r, la_i, la_l, la_n]; rfl) (s_X11_comes_0 hw))
def n_X11_letter_30 (s0 : Int32) (h : Hp) (Q : Int32 → Hp → Prop) : Prop :=
  Q s0 h
def n_X11_letter_0 (l0 : Option Nat) (h : Hp) (Q : Int32 → Hp → Prop) : Prop :=
  gI h l0 12 1468 fun v1 =>
  gI h l0 12 1469 fun v2 =>
  br (v2 ≤ v1) (
    n_X11_letter_30 (-1) h Q) (
    gR h l0 12 1428 fun v3 =>
    gI h l0 12 1470 fun v4 =>
    gI h l0 12 1468 fun v5 =>
    ldL h v3 (v4 + v5) fun v6 =>
    n_X11_letter_30 ((v6 : Int64).toInt32) h Q)
def w_X11_letter (l0 : Option Nat) (h : Hp) (Q : Int32 → Hp → Prop) : Prop := n_X11_letter_0 l0 h Q
theorem s_X11_letter_30 {l : Launch} {G : Gh} {s0 : Int32} {h : Hp} {Q : Int32 → Hp → Prop}  (hw : n_X11_letter_30 s0 h Q) : V l G 1 yX11_letter cX11_letter 1 (some .int) 30 [] [.int s0] h (qI Q) := by
  unfold n_X11_letter_30 at hw
  exact V_iret rfl dX11_letter_30 ⟨_, rfl, hw⟩
theorem s_X11_letter_0 {l : Launch} {G : Gh} {l0 : Option Nat} {h : Hp} {Q : Int32 → Hp → Prop}  (hw : n_X11_letter_0 l0 h Q) : V l G 1 yX11_letter cX11_letter 1 (some .int) 0 [(0, va_rf l0)] [] h (qI Q) := by
  unfold n_X11_letter_0 at hw
  refine V_aload_n 0 rfl rfl dX11_letter_0 ?_
  refine X_getI (c := 11) (k := 60) fa_X11_270 rfl dX11_letter_1 hw (fun v1 hw => ?_)
  refine V_aload_n 0 rfl rfl dX11_letter_4 ?_
  refine X_getI (c := 11) (k := 61) fa_X11_273 rfl dX11_letter_5 hw (fun v2 hw => ?_)
  refine V_icmp_ge (tgt := 29) dX11_letter_8 (by decide) hw (fun hw => ?_) (fun hw => ?_)
  · refine V_iconst (v := (-1)) (by decide) dX11_letter_29 ?_
    exact V.sub [] rfl (s_X11_letter_30 hw)
  · refine V_aload_n 0 rfl rfl dX11_letter_11 ?_
    refine X_getR (c := 11) (k := 20) fa_X11_57 rfl dX11_letter_12 hw (fun v3 hw => ?_)
    refine V_aload_n 0 rfl rfl dX11_letter_15 ?_
    refine X_getI (c := 11) (k := 62) fa_X11_276 rfl dX11_letter_16 hw (fun v4 hw => ?_)
    refine V_aload_n 0 rfl rfl dX11_letter_19 ?_
    refine X_getI (c := 11) (k := 60) fa_X11_270 rfl dX11_letter_20 hw (fun v5 hw => ?_)
    refine V_iadd dX11_letter_23 ?_
    refine X_ldL dX11_letter_24 hw (fun v6 hw => ?_)
    refine V_l2i dX11_letter_25 ?_
    refine V_goto (tgt := 30) dX11_letter_26 (by decide) ?_
    exact V.sub [] rfl (s_X11_letter_30 hw)
theorem r_X11_letter {l : Launch} {G : Gh} (l0 : Option Nat) {h : Hp} {Q : Int32 → Hp → Prop} (hw : w_X11_letter l0 h Q) : RunQ l G 1 yX11_letter cX11_letter 1 (some .int) [va_rf l0] h (qI Q) :=
  V_run rfl (sl_len _ _ (by simp [cat_i, cat_l, rf_cat])) (V.sub [0] (by simp only [la_r, la_i, la_l, la_n]; rfl) (s_X11_letter_0 hw))
def n_X11_is_24 (s0 : Int32) (h : Hp) (Q : Int32 → Hp → Prop) : Prop :=
  rZ s0 h Q
def n_X11_is_23 (h : Hp) (Q : Int32 → Hp → Prop) : Prop :=
  n_X11_is_24 0 h Q
def n_X11_is_0 (l0 : Option Nat) (l1 : Int32) (h : Hp) (Q : Int32 → Hp → Prop) : Prop :=
  gI h l0 12 1468 fun v1 =>
  gI h l0 12 1469 fun v2 =>
  br (v2 ≤ v1) (
    n_X11_is_23 h Q) (
    oV h l0 12 <| w_X11_letter l0 h <| fun v3 h =>
    br (v3 = l1) (
      n_X11_is_24 1 h Q) (
      n_X11_is_23 h Q))
def w_X11_is (l0 : Option Nat) (l1 : Int32) (h : Hp) (Q : Int32 → Hp → Prop) : Prop := n_X11_is_0 l0 l1 h Q
theorem s_X11_is_24 {l : Launch} {G : Gh} {s0 : Int32} {h : Hp} {Q : Int32 → Hp → Prop}  (hw : n_X11_is_24 s0 h Q) : V l G 2 yX11_is cX11_is 2 (some .boolean) 24 [] [.int s0] h (qI Q) := by
  unfold n_X11_is_24 at hw
  exact V_zret rfl hw.1 dX11_is_24 ⟨_, rfl, hw.2⟩
theorem s_X11_is_23 {l : Launch} {G : Gh}  {h : Hp} {Q : Int32 → Hp → Prop}  (hw : n_X11_is_23 h Q) : V l G 2 yX11_is cX11_is 2 (some .boolean) 23 [] [] h (qI Q) := by
  unfold n_X11_is_23 at hw
  refine V_iconst (v := 0) (by decide) dX11_is_23 ?_
  exact V.sub [] rfl (s_X11_is_24 hw)
theorem s_X11_is_0 {l : Launch} {G : Gh} {l0 : Option Nat} {l1 : Int32} {h : Hp} {Q : Int32 → Hp → Prop}  (hw : n_X11_is_0 l0 l1 h Q) : V l G 2 yX11_is cX11_is 2 (some .boolean) 0 [(0, va_rf l0), (1, .int l1)] [] h (qI Q) := by
  unfold n_X11_is_0 at hw
  refine V_aload_n 0 rfl rfl dX11_is_0 ?_
  refine X_getI (c := 11) (k := 60) fa_X11_270 rfl dX11_is_1 hw (fun v1 hw => ?_)
  refine V_aload_n 0 rfl rfl dX11_is_4 ?_
  refine X_getI (c := 11) (k := 61) fa_X11_273 rfl dX11_is_5 hw (fun v2 hw => ?_)
  refine V_icmp_ge (tgt := 23) dX11_is_8 (by decide) hw (fun hw => ?_) (fun hw => ?_)
  · exact V.sub [] rfl (s_X11_is_23 hw)
  · refine V_aload_n 0 rfl rfl dX11_is_11 ?_
    refine X_cV 11 [] [] ma_X11_279 (by decide) rfl (by decide) (by decide) rfl (by simp [cat_i, cat_l, rf_cat]) rfl dX11_is_12 hw (r_X11_letter _) (k_I (fun v3 h hw => ?_))
    refine V_iload_n 1 rfl rfl dX11_is_15 ?_
    refine V_icmp_ne (tgt := 23) dX11_is_16 (by decide) hw (fun hw => ?_) (fun hw => ?_)
    · refine V_iconst (v := 1) (by decide) dX11_is_19 ?_
      refine V_goto (tgt := 24) dX11_is_20 (by decide) ?_
      exact V.sub [] rfl (s_X11_is_24 hw)
    · exact V.sub [] rfl (s_X11_is_23 hw)
theorem r_X11_is {l : Launch} {G : Gh} (l0 : Option Nat) (l1 : Int32) {h : Hp} {Q : Int32 → Hp → Prop} (hw : w_X11_is l0 l1 h Q) : RunQ l G 2 yX11_is cX11_is 2 (some .boolean) [va_rf l0, .int l1] h (qI Q) :=
  V_run rfl (sl_len _ _ (by simp [cat_i, cat_l, rf_cat])) (V.sub [0, 1] (by simp only [la_r, la_i, la_l, la_n]; rfl) (s_X11_is_0 hw))
def n_X11_isField_77 (s0 : Int32) (h : Hp) (Q : Int32 → Hp → Prop) : Prop :=
  rZ s0 h Q
def n_X11_isField_72 (h : Hp) (Q : Int32 → Hp → Prop) : Prop :=
  n_X11_isField_77 1 h Q
def n_X11_isField_0 (l0 : Option Nat) (h : Hp) (Q : Int32 → Hp → Prop) : Prop :=
  oV h l0 12 <| w_X11_is l0 110 h <| fun v1 h =>
  br (v1 = 0) (
    oV h l0 12 <| w_X11_is l0 98 h <| fun v2 h =>
    br (v2 = 0) (
      oV h l0 12 <| w_X11_is l0 104 h <| fun v3 h =>
      br (v3 = 0) (
        oV h l0 12 <| w_X11_is l0 116 h <| fun v4 h =>
        br (v4 = 0) (
          oV h l0 12 <| w_X11_is l0 109 h <| fun v5 h =>
          br (v5 = 0) (
            oV h l0 12 <| w_X11_is l0 119 h <| fun v6 h =>
            br (v6 = 0) (
              oV h l0 12 <| w_X11_is l0 100 h <| fun v7 h =>
              br (v7 = 0) (
                oV h l0 12 <| w_X11_is l0 121 h <| fun v8 h =>
                br (v8 = 0) (
                  n_X11_isField_77 0 h Q) (
                  n_X11_isField_72 h Q)) (
                n_X11_isField_72 h Q)) (
              n_X11_isField_72 h Q)) (
            n_X11_isField_72 h Q)) (
          n_X11_isField_72 h Q)) (
        n_X11_isField_72 h Q)) (
      n_X11_isField_72 h Q)) (
    n_X11_isField_72 h Q)
def w_X11_isField (l0 : Option Nat) (h : Hp) (Q : Int32 → Hp → Prop) : Prop := n_X11_isField_0 l0 h Q
theorem s_X11_isField_77 {l : Launch} {G : Gh} {s0 : Int32} {h : Hp} {Q : Int32 → Hp → Prop}  (hw : n_X11_isField_77 s0 h Q) : V l G 3 yX11_isField cX11_isField 1 (some .boolean) 77 [] [.int s0] h (qI Q) := by
  unfold n_X11_isField_77 at hw
  exact V_zret rfl hw.1 dX11_isField_77 ⟨_, rfl, hw.2⟩
theorem s_X11_isField_72 {l : Launch} {G : Gh}  {h : Hp} {Q : Int32 → Hp → Prop}  (hw : n_X11_isField_72 h Q) : V l G 3 yX11_isField cX11_isField 1 (some .boolean) 72 [] [] h (qI Q) := by
  unfold n_X11_isField_72 at hw
  refine V_iconst (v := 1) (by decide) dX11_isField_72 ?_
  refine V_goto (tgt := 77) dX11_isField_73 (by decide) ?_
  exact V.sub [] rfl (s_X11_isField_77 hw)
set_option maxRecDepth 20000 in
theorem s_X11_isField_0 {l : Launch} {G : Gh} {l0 : Option Nat} {h : Hp} {Q : Int32 → Hp → Prop}  (hw : n_X11_isField_0 l0 h Q) : V l G 3 yX11_isField cX11_isField 1 (some .boolean) 0 [(0, va_rf l0)] [] h (qI Q) := by
  unfold n_X11_isField_0 at hw
  refine V_aload_n 0 rfl rfl dX11_isField_0 ?_
  refine V_bipush (v := 110) (by decide) dX11_isField_1 ?_
  refine X_cV 11 [.int 110] [] ma_X11_283 (by decide) rfl (by decide) (by decide) rfl (by simp [cat_i, cat_l, rf_cat]) rfl dX11_isField_3 hw (r_X11_is _ _) (k_I (fun v1 h hw => ?_))
  refine V_if_ne (tgt := 72) dX11_isField_6 (by decide) hw (fun hw => ?_) (fun hw => ?_)
  · refine V_aload_n 0 rfl rfl dX11_isField_9 ?_
    refine V_bipush (v := 98) (by decide) dX11_isField_10 ?_
    refine X_cV 11 [.int 98] [] ma_X11_283 (by decide) rfl (by decide) (by decide) rfl (by simp [cat_i, cat_l, rf_cat]) rfl dX11_isField_12 hw (r_X11_is _ _) (k_I (fun v2 h hw => ?_))
    refine V_if_ne (tgt := 72) dX11_isField_15 (by decide) hw (fun hw => ?_) (fun hw => ?_)
    · refine V_aload_n 0 rfl rfl dX11_isField_18 ?_
      refine V_bipush (v := 104) (by decide) dX11_isField_19 ?_
      refine X_cV 11 [.int 104] [] ma_X11_283 (by decide) rfl (by decide) (by decide) rfl (by simp [cat_i, cat_l, rf_cat]) rfl dX11_isField_21 hw (r_X11_is _ _) (k_I (fun v3 h hw => ?_))
      refine V_if_ne (tgt := 72) dX11_isField_24 (by decide) hw (fun hw => ?_) (fun hw => ?_)
      · refine V_aload_n 0 rfl rfl dX11_isField_27 ?_
        refine V_bipush (v := 116) (by decide) dX11_isField_28 ?_
        refine X_cV 11 [.int 116] [] ma_X11_283 (by decide) rfl (by decide) (by decide) rfl (by simp [cat_i, cat_l, rf_cat]) rfl dX11_isField_30 hw (r_X11_is _ _) (k_I (fun v4 h hw => ?_))
        refine V_if_ne (tgt := 72) dX11_isField_33 (by decide) hw (fun hw => ?_) (fun hw => ?_)
        · refine V_aload_n 0 rfl rfl dX11_isField_36 ?_
          refine V_bipush (v := 109) (by decide) dX11_isField_37 ?_
          refine X_cV 11 [.int 109] [] ma_X11_283 (by decide) rfl (by decide) (by decide) rfl (by simp [cat_i, cat_l, rf_cat]) rfl dX11_isField_39 hw (r_X11_is _ _) (k_I (fun v5 h hw => ?_))
          refine V_if_ne (tgt := 72) dX11_isField_42 (by decide) hw (fun hw => ?_) (fun hw => ?_)
          · refine V_aload_n 0 rfl rfl dX11_isField_45 ?_
            refine V_bipush (v := 119) (by decide) dX11_isField_46 ?_
            refine X_cV 11 [.int 119] [] ma_X11_283 (by decide) rfl (by decide) (by decide) rfl (by simp [cat_i, cat_l, rf_cat]) rfl dX11_isField_48 hw (r_X11_is _ _) (k_I (fun v6 h hw => ?_))
            refine V_if_ne (tgt := 72) dX11_isField_51 (by decide) hw (fun hw => ?_) (fun hw => ?_)
            · refine V_aload_n 0 rfl rfl dX11_isField_54 ?_
              refine V_bipush (v := 100) (by decide) dX11_isField_55 ?_
              refine X_cV 11 [.int 100] [] ma_X11_283 (by decide) rfl (by decide) (by decide) rfl (by simp [cat_i, cat_l, rf_cat]) rfl dX11_isField_57 hw (r_X11_is _ _) (k_I (fun v7 h hw => ?_))
              refine V_if_ne (tgt := 72) dX11_isField_60 (by decide) hw (fun hw => ?_) (fun hw => ?_)
              · refine V_aload_n 0 rfl rfl dX11_isField_63 ?_
                refine V_bipush (v := 121) (by decide) dX11_isField_64 ?_
                refine X_cV 11 [.int 121] [] ma_X11_283 (by decide) rfl (by decide) (by decide) rfl (by simp [cat_i, cat_l, rf_cat]) rfl dX11_isField_66 hw (r_X11_is _ _) (k_I (fun v8 h hw => ?_))
                refine V_if_eq (tgt := 76) dX11_isField_69 (by decide) hw (fun hw => ?_) (fun hw => ?_)
                · refine V_iconst (v := 0) (by decide) dX11_isField_76 ?_
                  exact V.sub [] rfl (s_X11_isField_77 hw)
                · exact V.sub [] rfl (s_X11_isField_72 hw)
              · exact V.sub [] rfl (s_X11_isField_72 hw)
            · exact V.sub [] rfl (s_X11_isField_72 hw)
          · exact V.sub [] rfl (s_X11_isField_72 hw)
        · exact V.sub [] rfl (s_X11_isField_72 hw)
      · exact V.sub [] rfl (s_X11_isField_72 hw)
    · exact V.sub [] rfl (s_X11_isField_72 hw)
  · exact V.sub [] rfl (s_X11_isField_72 hw)
theorem r_X11_isField {l : Launch} {G : Gh} (l0 : Option Nat) {h : Hp} {Q : Int32 → Hp → Prop} (hw : w_X11_isField l0 h Q) : RunQ l G 3 yX11_isField cX11_isField 1 (some .boolean) [va_rf l0] h (qI Q) :=
  V_run rfl (sl_len _ _ (by simp [cat_i, cat_l, rf_cat])) (V.sub [0] (by simp only [la_r, la_i, la_l, la_n]; rfl) (s_X11_isField_0 hw))
def n_X11_isDigit_34 (s0 : Int32) (h : Hp) (Q : Int32 → Hp → Prop) : Prop :=
  rZ s0 h Q
def n_X11_isDigit_33 (h : Hp) (Q : Int32 → Hp → Prop) : Prop :=
  n_X11_isDigit_34 0 h Q
def n_X11_isDigit_0 (l0 : Option Nat) (h : Hp) (Q : Int32 → Hp → Prop) : Prop :=
  gI h l0 12 1468 fun v1 =>
  gI h l0 12 1469 fun v2 =>
  br (v2 ≤ v1) (
    n_X11_isDigit_33 h Q) (
    oV h l0 12 <| w_X11_letter l0 h <| fun v3 h =>
    br (v3 < 48) (
      n_X11_isDigit_33 h Q) (
      oV h l0 12 <| w_X11_letter l0 h <| fun v4 h =>
      br (57 < v4) (
        n_X11_isDigit_33 h Q) (
        n_X11_isDigit_34 1 h Q)))
def w_X11_isDigit (l0 : Option Nat) (h : Hp) (Q : Int32 → Hp → Prop) : Prop := n_X11_isDigit_0 l0 h Q
theorem s_X11_isDigit_34 {l : Launch} {G : Gh} {s0 : Int32} {h : Hp} {Q : Int32 → Hp → Prop}  (hw : n_X11_isDigit_34 s0 h Q) : V l G 2 yX11_isDigit cX11_isDigit 1 (some .boolean) 34 [] [.int s0] h (qI Q) := by
  unfold n_X11_isDigit_34 at hw
  exact V_zret rfl hw.1 dX11_isDigit_34 ⟨_, rfl, hw.2⟩
theorem s_X11_isDigit_33 {l : Launch} {G : Gh}  {h : Hp} {Q : Int32 → Hp → Prop}  (hw : n_X11_isDigit_33 h Q) : V l G 2 yX11_isDigit cX11_isDigit 1 (some .boolean) 33 [] [] h (qI Q) := by
  unfold n_X11_isDigit_33 at hw
  refine V_iconst (v := 0) (by decide) dX11_isDigit_33 ?_
  exact V.sub [] rfl (s_X11_isDigit_34 hw)
theorem s_X11_isDigit_0 {l : Launch} {G : Gh} {l0 : Option Nat} {h : Hp} {Q : Int32 → Hp → Prop}  (hw : n_X11_isDigit_0 l0 h Q) : V l G 2 yX11_isDigit cX11_isDigit 1 (some .boolean) 0 [(0, va_rf l0)] [] h (qI Q) := by
  unfold n_X11_isDigit_0 at hw
  refine V_aload_n 0 rfl rfl dX11_isDigit_0 ?_
  refine X_getI (c := 11) (k := 60) fa_X11_270 rfl dX11_isDigit_1 hw (fun v1 hw => ?_)
  refine V_aload_n 0 rfl rfl dX11_isDigit_4 ?_
  refine X_getI (c := 11) (k := 61) fa_X11_273 rfl dX11_isDigit_5 hw (fun v2 hw => ?_)
  refine V_icmp_ge (tgt := 33) dX11_isDigit_8 (by decide) hw (fun hw => ?_) (fun hw => ?_)
  · exact V.sub [] rfl (s_X11_isDigit_33 hw)
  · refine V_aload_n 0 rfl rfl dX11_isDigit_11 ?_
    refine X_cV 11 [] [] ma_X11_279 (by decide) rfl (by decide) (by decide) rfl (by simp [cat_i, cat_l, rf_cat]) rfl dX11_isDigit_12 hw (r_X11_letter _) (k_I (fun v3 h hw => ?_))
    refine V_bipush (v := 48) (by decide) dX11_isDigit_15 ?_
    refine V_icmp_lt (tgt := 33) dX11_isDigit_17 (by decide) hw (fun hw => ?_) (fun hw => ?_)
    · exact V.sub [] rfl (s_X11_isDigit_33 hw)
    · refine V_aload_n 0 rfl rfl dX11_isDigit_20 ?_
      refine X_cV 11 [] [] ma_X11_279 (by decide) rfl (by decide) (by decide) rfl (by simp [cat_i, cat_l, rf_cat]) rfl dX11_isDigit_21 hw (r_X11_letter _) (k_I (fun v4 h hw => ?_))
      refine V_bipush (v := 57) (by decide) dX11_isDigit_24 ?_
      refine V_icmp_gt (tgt := 33) dX11_isDigit_26 (by decide) hw (fun hw => ?_) (fun hw => ?_)
      · exact V.sub [] rfl (s_X11_isDigit_33 hw)
      · refine V_iconst (v := 1) (by decide) dX11_isDigit_29 ?_
        refine V_goto (tgt := 34) dX11_isDigit_30 (by decide) ?_
        exact V.sub [] rfl (s_X11_isDigit_34 hw)
theorem r_X11_isDigit {l : Launch} {G : Gh} (l0 : Option Nat) {h : Hp} {Q : Int32 → Hp → Prop} (hw : w_X11_isDigit l0 h Q) : RunQ l G 2 yX11_isDigit cX11_isDigit 1 (some .boolean) [va_rf l0] h (qI Q) :=
  V_run rfl (sl_len _ _ (by simp [cat_i, cat_l, rf_cat])) (V.sub [0] (by simp only [la_r, la_i, la_l, la_n]; rfl) (s_X11_isDigit_0 hw))
def n_X11_isSide_99 (l0 : Option Nat) (l1 : Int32) (h : Hp) (Q : Int32 → Hp → Prop) : Prop :=
  pI h l0 12 1475 l1 fun h =>
  oV h l0 12 <| w_X11_is l0 42 h <| fun v4 h =>
  br (v4 = 0) (
    rZ 1 h Q) (
    gI h l0 12 1468 fun v5 =>
    pI h l0 12 1468 (v5 + 1) fun h =>
    oV h l0 12 <| w_X11_isField l0 h <| fun v6 h =>
    br (v6 = 0) (
      rZ 0 h Q) (
      oV h l0 12 <| w_X11_letter l0 h <| fun v7 h =>
      pI h l0 12 1476 v7 fun h =>
      gI h l0 12 1468 fun v8 =>
      pI h l0 12 1468 (v8 + 1) fun h =>
      rZ 1 h Q))
def n_X11_isSide_70 (l0 : Option Nat) (l1 : Int32) (l2 : Int32) (h : Hp) (Q : Int32 → Hp → Prop) (K50 : Int32 → Int32 → Hp → Prop) : Prop :=
  oV h l0 12 <| w_X11_letter l0 h <| fun v9 h =>
  lt (((10 * l1) + v9) - 48) fun x10 =>
  lt (l2 + 1) fun x11 =>
  gI h l0 12 1468 fun v12 =>
  pI h l0 12 1468 (v12 + 1) fun h =>
  K50 x10 x11 h
def b_X11_isSide_50 (l0 : Option Nat) (l1 : Int32) (l2 : Int32) (h : Hp) (Q : Int32 → Hp → Prop) (K50 : Int32 → Int32 → Hp → Prop) : Prop :=
  oV h l0 12 <| w_X11_isDigit l0 h <| fun v3 h =>
  br (v3 = 0) (
    n_X11_isSide_99 l0 l1 h Q) (
    br (4 ≤ l2) (
      n_X11_isSide_99 l0 l1 h Q) (
      br (l2 ≤ 0) (
        n_X11_isSide_70 l0 l1 l2 h Q K50) (
        br (l1 = 0) (
          n_X11_isSide_99 l0 l1 h Q) (
          n_X11_isSide_70 l0 l1 l2 h Q K50))))
def l_X11_isSide_50 (l0 : Option Nat) (l1 : Int32) (l2 : Int32) (h : Hp) (Q : Int32 → Hp → Prop) : Prop :=
  Lo (fun (K : Int32 × Int32 → Hp → Prop) s h => b_X11_isSide_50 l0 s.1 s.2 h Q (fun l1 l2 h => K (l1, l2) h)) (l1, l2) h
def n_X11_isSide_0 (l0 : Option Nat) (h : Hp) (Q : Int32 → Hp → Prop) : Prop :=
  pI h l0 12 1475 1 fun h =>
  pI h l0 12 1476 (-1) fun h =>
  oV h l0 12 <| w_X11_isField l0 h <| fun v1 h =>
  br (v1 = 0) (
    oV h l0 12 <| w_X11_isDigit l0 h <| fun v2 h =>
    br (v2 = 0) (
      rZ 0 h Q) (
      l_X11_isSide_50 l0 0 0 h Q)) (
    oV h l0 12 <| w_X11_letter l0 h <| fun v13 h =>
    pI h l0 12 1476 v13 fun h =>
    gI h l0 12 1468 fun v14 =>
    pI h l0 12 1468 (v14 + 1) fun h =>
    rZ 1 h Q)
def w_X11_isSide (l0 : Option Nat) (h : Hp) (Q : Int32 → Hp → Prop) : Prop := n_X11_isSide_0 l0 h Q
theorem s_X11_isSide_99 {l : Launch} {G : Gh} {l0 : Option Nat} {l1 : Int32} {h : Hp} {Q : Int32 → Hp → Prop}  (hw : n_X11_isSide_99 l0 l1 h Q) : V l G 4 yX11_isSide cX11_isSide 3 (some .boolean) 99 [(0, va_rf l0), (1, .int l1)] [] h (qI Q) := by
  unfold n_X11_isSide_99 at hw
  refine V_aload_n 0 rfl rfl dX11_isSide_99 ?_
  refine V_iload_n 1 rfl rfl dX11_isSide_100 ?_
  refine X_putI (c := 11) (k := 67) fa_X11_286 (Or.inl rfl) rfl dX11_isSide_101 hw (fun h hw => ?_)
  refine V_aload_n 0 rfl rfl dX11_isSide_104 ?_
  refine V_bipush (v := 42) (by decide) dX11_isSide_105 ?_
  refine X_cV 11 [.int 42] [] ma_X11_283 (by decide) rfl (by decide) (by decide) rfl (by simp [cat_i, cat_l, rf_cat]) rfl dX11_isSide_107 hw (r_X11_is _ _) (k_I (fun v4 h hw => ?_))
  refine V_if_ne (tgt := 115) dX11_isSide_110 (by decide) hw (fun hw => ?_) (fun hw => ?_)
  · refine V_iconst (v := 1) (by decide) dX11_isSide_113 ?_
    exact V_zret rfl hw.1 dX11_isSide_114 ⟨_, rfl, hw.2⟩
  · refine V_aload_n 0 rfl rfl dX11_isSide_115 ?_
    refine V_dup (rf_cat _) dX11_isSide_116 ?_
    refine X_getI (c := 11) (k := 60) fa_X11_270 rfl dX11_isSide_117 hw (fun v5 hw => ?_)
    refine V_iconst (v := 1) (by decide) dX11_isSide_120 ?_
    refine V_iadd dX11_isSide_121 ?_
    refine X_putI (c := 11) (k := 60) fa_X11_270 (Or.inl rfl) rfl dX11_isSide_122 hw (fun h hw => ?_)
    refine V_aload_n 0 rfl rfl dX11_isSide_125 ?_
    refine X_cV 11 [] [] ma_X11_292 (by decide) rfl (by decide) (by decide) rfl (by simp [cat_i, cat_l, rf_cat]) rfl dX11_isSide_126 hw (r_X11_isField _) (k_I (fun v6 h hw => ?_))
    refine V_if_ne (tgt := 134) dX11_isSide_129 (by decide) hw (fun hw => ?_) (fun hw => ?_)
    · refine V_iconst (v := 0) (by decide) dX11_isSide_132 ?_
      exact V_zret rfl hw.1 dX11_isSide_133 ⟨_, rfl, hw.2⟩
    · refine V_aload_n 0 rfl rfl dX11_isSide_134 ?_
      refine V_aload_n 0 rfl rfl dX11_isSide_135 ?_
      refine X_cV 11 [] [va_rf l0] ma_X11_279 (by decide) rfl (by decide) (by decide) rfl (by simp [cat_i, cat_l, rf_cat]) rfl dX11_isSide_136 hw (r_X11_letter _) (k_I (fun v7 h hw => ?_))
      refine X_putI (c := 11) (k := 68) fa_X11_289 (Or.inl rfl) rfl dX11_isSide_139 hw (fun h hw => ?_)
      refine V_aload_n 0 rfl rfl dX11_isSide_142 ?_
      refine V_dup (rf_cat _) dX11_isSide_143 ?_
      refine X_getI (c := 11) (k := 60) fa_X11_270 rfl dX11_isSide_144 hw (fun v8 hw => ?_)
      refine V_iconst (v := 1) (by decide) dX11_isSide_147 ?_
      refine V_iadd dX11_isSide_148 ?_
      refine X_putI (c := 11) (k := 60) fa_X11_270 (Or.inl rfl) rfl dX11_isSide_149 hw (fun h hw => ?_)
      refine V_iconst (v := 1) (by decide) dX11_isSide_152 ?_
      exact V_zret rfl hw.1 dX11_isSide_153 ⟨_, rfl, hw.2⟩
theorem s_X11_isSide_70 {l : Launch} {G : Gh} {l0 : Option Nat} {l1 : Int32} {l2 : Int32} {h : Hp} {Q : Int32 → Hp → Prop} {K50 : Int32 → Int32 → Hp → Prop} (hK50 : ∀ (l1 : Int32) (l2 : Int32) (h : Hp), K50 l1 l2 h → V l G 4 yX11_isSide cX11_isSide 3 (some .boolean) 50 [(0, va_rf l0), (1, .int l1), (2, .int l2)] [] h (qI Q)) (hw : n_X11_isSide_70 l0 l1 l2 h Q K50) : V l G 4 yX11_isSide cX11_isSide 3 (some .boolean) 70 [(0, va_rf l0), (1, .int l1), (2, .int l2)] [] h (qI Q) := by
  unfold n_X11_isSide_70 at hw
  refine V_bipush (v := 10) (by decide) dX11_isSide_70 ?_
  refine V_iload_n 1 rfl rfl dX11_isSide_72 ?_
  refine V_imul dX11_isSide_73 ?_
  refine V_aload_n 0 rfl rfl dX11_isSide_74 ?_
  refine X_cV 11 [] [.int (10 * l1)] ma_X11_279 (by decide) rfl (by decide) (by decide) rfl (by simp [cat_i, cat_l, rf_cat]) rfl dX11_isSide_75 hw (r_X11_letter _) (k_I (fun v9 h hw => ?_))
  refine V_iadd dX11_isSide_78 ?_
  refine V_bipush (v := 48) (by decide) dX11_isSide_79 ?_
  refine V_isub dX11_isSide_81 ?_
  refine V_ltI hw (fun x10 hw => ?_)
  refine V_istore_n (i := 1) [(1, .int x10), (0, va_rf l0), (2, .int l2)] rfl (by decide) (by simp [List.filter_cons, rf_cat, cat_i, cat_l]) dX11_isSide_82 ?_
  refine V_iincL (n := 1) 2 (fun z => [(2, .int z), (1, .int x10), (0, va_rf l0)]) rfl (by rfl) (by decide) (fun _ => rfl) dX11_isSide_83 hw (fun x11 hw => ?_)
  refine V_aload_n 2 rfl rfl dX11_isSide_86 ?_
  refine V_dup (rf_cat _) dX11_isSide_87 ?_
  refine X_getI (c := 11) (k := 60) fa_X11_270 rfl dX11_isSide_88 hw (fun v12 hw => ?_)
  refine V_iconst (v := 1) (by decide) dX11_isSide_91 ?_
  refine V_iadd dX11_isSide_92 ?_
  refine X_putI (c := 11) (k := 60) fa_X11_270 (Or.inl rfl) rfl dX11_isSide_93 hw (fun h hw => ?_)
  refine V_goto (tgt := 50) dX11_isSide_96 (by decide) ?_
  exact V.sub [2, 1, 0] rfl (hK50 _ _ _ hw)
theorem sb_X11_isSide_50 {l : Launch} {G : Gh} {l0 : Option Nat} {l1 : Int32} {l2 : Int32} {h : Hp} {Q : Int32 → Hp → Prop} {K50 : Int32 → Int32 → Hp → Prop} (hK50 : ∀ (l1 : Int32) (l2 : Int32) (h : Hp), K50 l1 l2 h → V l G 4 yX11_isSide cX11_isSide 3 (some .boolean) 50 [(0, va_rf l0), (1, .int l1), (2, .int l2)] [] h (qI Q)) (hw : b_X11_isSide_50 l0 l1 l2 h Q K50) : V l G 4 yX11_isSide cX11_isSide 3 (some .boolean) 50 [(0, va_rf l0), (1, .int l1), (2, .int l2)] [] h (qI Q) := by
  unfold b_X11_isSide_50 at hw
  refine V_aload_n 0 rfl rfl dX11_isSide_50 ?_
  refine X_cV 11 [] [] ma_X11_296 (by decide) rfl (by decide) (by decide) rfl (by simp [cat_i, cat_l, rf_cat]) rfl dX11_isSide_51 hw (r_X11_isDigit _) (k_I (fun v3 h hw => ?_))
  refine V_if_eq (tgt := 99) dX11_isSide_54 (by decide) hw (fun hw => ?_) (fun hw => ?_)
  · exact V.sub [0, 1] rfl (s_X11_isSide_99 hw)
  · refine V_iload_n 2 rfl rfl dX11_isSide_57 ?_
    refine V_iconst (v := 4) (by decide) dX11_isSide_58 ?_
    refine V_icmp_ge (tgt := 99) dX11_isSide_59 (by decide) hw (fun hw => ?_) (fun hw => ?_)
    · exact V.sub [0, 1] rfl (s_X11_isSide_99 hw)
    · refine V_iload_n 2 rfl rfl dX11_isSide_62 ?_
      refine V_if_le (tgt := 70) dX11_isSide_63 (by decide) hw (fun hw => ?_) (fun hw => ?_)
      · exact V.sub [0, 1, 2] rfl (s_X11_isSide_70 hK50 hw)
      · refine V_iload_n 1 rfl rfl dX11_isSide_66 ?_
        refine V_if_eq (tgt := 99) dX11_isSide_67 (by decide) hw (fun hw => ?_) (fun hw => ?_)
        · exact V.sub [0, 1] rfl (s_X11_isSide_99 hw)
        · exact V.sub [0, 1, 2] rfl (s_X11_isSide_70 hK50 hw)
theorem s_X11_isSide_50 {l : Launch} {G : Gh} {l0 : Option Nat} {l1 : Int32} {l2 : Int32} {h : Hp} {Q : Int32 → Hp → Prop}  (hw : l_X11_isSide_50 l0 l1 l2 h Q) : V l G 4 yX11_isSide cX11_isSide 3 (some .boolean) 50 [(0, va_rf l0), (1, .int l1), (2, .int l2)] [] h (qI Q) :=
  Lo.ind (P := fun (s : Int32 × Int32) h => V l G 4 yX11_isSide cX11_isSide 3 (some .boolean) 50 [(0, va_rf l0), (1, .int s.1), (2, .int s.2)] [] h (qI Q)) (fun K ih s h hw => sb_X11_isSide_50 (fun l1 l2 h hk => ih (l1, l2) h hk) hw) hw
theorem s_X11_isSide_0 {l : Launch} {G : Gh} {l0 : Option Nat} {h : Hp} {Q : Int32 → Hp → Prop}  (hw : n_X11_isSide_0 l0 h Q) : V l G 4 yX11_isSide cX11_isSide 3 (some .boolean) 0 [(0, va_rf l0)] [] h (qI Q) := by
  unfold n_X11_isSide_0 at hw
  refine V_aload_n 0 rfl rfl dX11_isSide_0 ?_
  refine V_iconst (v := 1) (by decide) dX11_isSide_1 ?_
  refine X_putI (c := 11) (k := 67) fa_X11_286 (Or.inl rfl) rfl dX11_isSide_2 hw (fun h hw => ?_)
  refine V_aload_n 0 rfl rfl dX11_isSide_5 ?_
  refine V_iconst (v := (-1)) (by decide) dX11_isSide_6 ?_
  refine X_putI (c := 11) (k := 68) fa_X11_289 (Or.inl rfl) rfl dX11_isSide_7 hw (fun h hw => ?_)
  refine V_aload_n 0 rfl rfl dX11_isSide_10 ?_
  refine X_cV 11 [] [] ma_X11_292 (by decide) rfl (by decide) (by decide) rfl (by simp [cat_i, cat_l, rf_cat]) rfl dX11_isSide_11 hw (r_X11_isField _) (k_I (fun v1 h hw => ?_))
  refine V_if_eq (tgt := 37) dX11_isSide_14 (by decide) hw (fun hw => ?_) (fun hw => ?_)
  · refine V_aload_n 0 rfl rfl dX11_isSide_37 ?_
    refine X_cV 11 [] [] ma_X11_296 (by decide) rfl (by decide) (by decide) rfl (by simp [cat_i, cat_l, rf_cat]) rfl dX11_isSide_38 hw (r_X11_isDigit _) (k_I (fun v2 h hw => ?_))
    refine V_if_ne (tgt := 46) dX11_isSide_41 (by decide) hw (fun hw => ?_) (fun hw => ?_)
    · refine V_iconst (v := 0) (by decide) dX11_isSide_44 ?_
      exact V_zret rfl hw.1 dX11_isSide_45 ⟨_, rfl, hw.2⟩
    · refine V_iconst (v := 0) (by decide) dX11_isSide_46 ?_
      refine V_istore_n (i := 1) [(1, .int 0), (0, va_rf l0)] rfl (by decide) (by simp [List.filter_cons, rf_cat, cat_i, cat_l]) dX11_isSide_47 ?_
      refine V_iconst (v := 0) (by decide) dX11_isSide_48 ?_
      refine V_istore_n (i := 2) [(2, .int 0), (1, .int 0), (0, va_rf l0)] rfl (by decide) rfl dX11_isSide_49 ?_
      exact V.sub [2, 1, 0] rfl (s_X11_isSide_50 hw)
  · refine V_aload_n 0 rfl rfl dX11_isSide_17 ?_
    refine V_aload_n 0 rfl rfl dX11_isSide_18 ?_
    refine X_cV 11 [] [va_rf l0] ma_X11_279 (by decide) rfl (by decide) (by decide) rfl (by simp [cat_i, cat_l, rf_cat]) rfl dX11_isSide_19 hw (r_X11_letter _) (k_I (fun v13 h hw => ?_))
    refine X_putI (c := 11) (k := 68) fa_X11_289 (Or.inl rfl) rfl dX11_isSide_22 hw (fun h hw => ?_)
    refine V_aload_n 0 rfl rfl dX11_isSide_25 ?_
    refine V_dup (rf_cat _) dX11_isSide_26 ?_
    refine X_getI (c := 11) (k := 60) fa_X11_270 rfl dX11_isSide_27 hw (fun v14 hw => ?_)
    refine V_iconst (v := 1) (by decide) dX11_isSide_30 ?_
    refine V_iadd dX11_isSide_31 ?_
    refine X_putI (c := 11) (k := 60) fa_X11_270 (Or.inl rfl) rfl dX11_isSide_32 hw (fun h hw => ?_)
    refine V_iconst (v := 1) (by decide) dX11_isSide_35 ?_
    exact V_zret rfl hw.1 dX11_isSide_36 ⟨_, rfl, hw.2⟩
theorem r_X11_isSide {l : Launch} {G : Gh} (l0 : Option Nat) {h : Hp} {Q : Int32 → Hp → Prop} (hw : w_X11_isSide l0 h Q) : RunQ l G 4 yX11_isSide cX11_isSide 3 (some .boolean) [va_rf l0] h (qI Q) :=
  V_run rfl (sl_len _ _ (by simp [cat_i, cat_l, rf_cat])) (V.sub [0] (by simp only [la_r, la_i, la_l, la_n]; rfl) (s_X11_isSide_0 hw))
def n_X11_reads_68 (l0 : Option Nat) (l2 : Int32) (h : Hp) (Q : Int32 → Hp → Prop) : Prop :=
  gR h l0 12 1459 fun v11 =>
  oV h l0 12 <| w_X11_letter l0 h <| fun v12 h =>
  stI h v11 l2 v12 fun h =>
  gI h l0 12 1468 fun v13 =>
  pI h l0 12 1468 (v13 + 1) fun h =>
  oV h l0 12 <| w_X11_isSide l0 h <| fun v14 h =>
  br (v14 = 0) (
    rZ 0 h Q) (
    gR h l0 12 1460 fun v15 =>
    gI h l0 12 1475 fun v16 =>
    stI h v15 l2 v16 fun h =>
    gR h l0 12 1461 fun v17 =>
    gI h l0 12 1476 fun v18 =>
    stI h v17 l2 v18 fun h =>
    gI h l0 12 1472 fun v19 =>
    pI h l0 12 1472 (v19 + 1) fun h =>
    rZ 1 h Q)
def n_X11_reads_0 (l0 : Option Nat) (l1 : Int32) (h : Hp) (Q : Int32 → Hp → Prop) : Prop :=
  gI h l0 12 1472 fun v1 =>
  lt ((40 * l1) + v1) fun x2 =>
  oV h l0 12 <| w_X11_isSide l0 h <| fun v3 h =>
  br (v3 = 0) (
    rZ 0 h Q) (
    gR h l0 12 1457 fun v4 =>
    gI h l0 12 1475 fun v5 =>
    stI h v4 x2 v5 fun h =>
    gR h l0 12 1458 fun v6 =>
    gI h l0 12 1476 fun v7 =>
    stI h v6 x2 v7 fun h =>
    oV h l0 12 <| w_X11_is l0 60 h <| fun v8 h =>
    br (v8 = 0) (
      oV h l0 12 <| w_X11_is l0 62 h <| fun v9 h =>
      br (v9 = 0) (
        oV h l0 12 <| w_X11_is l0 61 h <| fun v10 h =>
        br (v10 = 0) (
          rZ 0 h Q) (
          n_X11_reads_68 l0 x2 h Q)) (
        n_X11_reads_68 l0 x2 h Q)) (
      n_X11_reads_68 l0 x2 h Q))
def w_X11_reads (l0 : Option Nat) (l1 : Int32) (h : Hp) (Q : Int32 → Hp → Prop) : Prop := n_X11_reads_0 l0 l1 h Q
theorem s_X11_reads_68 {l : Launch} {G : Gh} {l0 : Option Nat} {l2 : Int32} {h : Hp} {Q : Int32 → Hp → Prop}  (hw : n_X11_reads_68 l0 l2 h Q) : V l G 5 yX11_reads cX11_reads 3 (some .boolean) 68 [(0, va_rf l0), (2, .int l2)] [] h (qI Q) := by
  unfold n_X11_reads_68 at hw
  refine V_aload_n 0 rfl rfl dX11_reads_68 ?_
  refine X_getR (c := 11) (k := 51) fa_X11_151 rfl dX11_reads_69 hw (fun v11 hw => ?_)
  refine V_iload_n 1 rfl rfl dX11_reads_72 ?_
  refine V_aload_n 0 rfl rfl dX11_reads_73 ?_
  refine X_cV 11 [] [.int l2, va_rf v11] ma_X11_279 (by decide) rfl (by decide) (by decide) rfl (by simp [cat_i, cat_l, rf_cat]) rfl dX11_reads_74 hw (r_X11_letter _) (k_I (fun v12 h hw => ?_))
  refine X_stI dX11_reads_77 hw (fun h hw => ?_)
  refine V_aload_n 0 rfl rfl dX11_reads_78 ?_
  refine V_dup (rf_cat _) dX11_reads_79 ?_
  refine X_getI (c := 11) (k := 60) fa_X11_270 rfl dX11_reads_80 hw (fun v13 hw => ?_)
  refine V_iconst (v := 1) (by decide) dX11_reads_83 ?_
  refine V_iadd dX11_reads_84 ?_
  refine X_putI (c := 11) (k := 60) fa_X11_270 (Or.inl rfl) rfl dX11_reads_85 hw (fun h hw => ?_)
  refine V_aload_n 0 rfl rfl dX11_reads_88 ?_
  refine X_cV 11 [] [] ma_X11_302 (by decide) rfl (by decide) (by decide) rfl (by simp [cat_i, cat_l, rf_cat]) rfl dX11_reads_89 hw (r_X11_isSide _) (k_I (fun v14 h hw => ?_))
  refine V_if_ne (tgt := 97) dX11_reads_92 (by decide) hw (fun hw => ?_) (fun hw => ?_)
  · refine V_iconst (v := 0) (by decide) dX11_reads_95 ?_
    exact V_zret rfl hw.1 dX11_reads_96 ⟨_, rfl, hw.2⟩
  · refine V_aload_n 0 rfl rfl dX11_reads_97 ?_
    refine X_getR (c := 11) (k := 52) fa_X11_154 rfl dX11_reads_98 hw (fun v15 hw => ?_)
    refine V_iload_n 1 rfl rfl dX11_reads_101 ?_
    refine V_aload_n 0 rfl rfl dX11_reads_102 ?_
    refine X_getI (c := 11) (k := 67) fa_X11_286 rfl dX11_reads_103 hw (fun v16 hw => ?_)
    refine X_stI dX11_reads_106 hw (fun h hw => ?_)
    refine V_aload_n 0 rfl rfl dX11_reads_107 ?_
    refine X_getR (c := 11) (k := 53) fa_X11_157 rfl dX11_reads_108 hw (fun v17 hw => ?_)
    refine V_iload_n 1 rfl rfl dX11_reads_111 ?_
    refine V_aload_n 0 rfl rfl dX11_reads_112 ?_
    refine X_getI (c := 11) (k := 68) fa_X11_289 rfl dX11_reads_113 hw (fun v18 hw => ?_)
    refine X_stI dX11_reads_116 hw (fun h hw => ?_)
    refine V_aload_n 0 rfl rfl dX11_reads_117 ?_
    refine V_dup (rf_cat _) dX11_reads_118 ?_
    refine X_getI (c := 11) (k := 64) fa_X11_299 rfl dX11_reads_119 hw (fun v19 hw => ?_)
    refine V_iconst (v := 1) (by decide) dX11_reads_122 ?_
    refine V_iadd dX11_reads_123 ?_
    refine X_putI (c := 11) (k := 64) fa_X11_299 (Or.inl rfl) rfl dX11_reads_124 hw (fun h hw => ?_)
    refine V_iconst (v := 1) (by decide) dX11_reads_127 ?_
    exact V_zret rfl hw.1 dX11_reads_128 ⟨_, rfl, hw.2⟩
set_option maxRecDepth 20000 in
theorem s_X11_reads_0 {l : Launch} {G : Gh} {l0 : Option Nat} {l1 : Int32} {h : Hp} {Q : Int32 → Hp → Prop}  (hw : n_X11_reads_0 l0 l1 h Q) : V l G 5 yX11_reads cX11_reads 3 (some .boolean) 0 [(0, va_rf l0), (1, .int l1)] [] h (qI Q) := by
  unfold n_X11_reads_0 at hw
  refine V_bipush (v := 40) (by decide) dX11_reads_0 ?_
  refine V_iload_n 1 rfl rfl dX11_reads_2 ?_
  refine V_imul dX11_reads_3 ?_
  refine V_aload_n 0 rfl rfl dX11_reads_4 ?_
  refine X_getI (c := 11) (k := 64) fa_X11_299 rfl dX11_reads_5 hw (fun v1 hw => ?_)
  refine V_iadd dX11_reads_8 ?_
  refine V_ltI hw (fun x2 hw => ?_)
  refine V_istore_n (i := 2) [(2, .int x2), (0, va_rf l0), (1, .int l1)] rfl (by decide) rfl dX11_reads_9 ?_
  refine V_aload_n 1 rfl rfl dX11_reads_10 ?_
  refine X_cV 11 [] [] ma_X11_302 (by decide) rfl (by decide) (by decide) rfl (by simp [cat_i, cat_l, rf_cat]) rfl dX11_reads_11 hw (r_X11_isSide _) (k_I (fun v3 h hw => ?_))
  refine V_if_ne (tgt := 19) dX11_reads_14 (by decide) hw (fun hw => ?_) (fun hw => ?_)
  · refine V_iconst (v := 0) (by decide) dX11_reads_17 ?_
    exact V_zret rfl hw.1 dX11_reads_18 ⟨_, rfl, hw.2⟩
  · refine V_aload_n 1 rfl rfl dX11_reads_19 ?_
    refine X_getR (c := 11) (k := 49) fa_X11_145 rfl dX11_reads_20 hw (fun v4 hw => ?_)
    refine V_iload_n 0 rfl rfl dX11_reads_23 ?_
    refine V_aload_n 1 rfl rfl dX11_reads_24 ?_
    refine X_getI (c := 11) (k := 67) fa_X11_286 rfl dX11_reads_25 hw (fun v5 hw => ?_)
    refine X_stI dX11_reads_28 hw (fun h hw => ?_)
    refine V_aload_n 1 rfl rfl dX11_reads_29 ?_
    refine X_getR (c := 11) (k := 50) fa_X11_148 rfl dX11_reads_30 hw (fun v6 hw => ?_)
    refine V_iload_n 0 rfl rfl dX11_reads_33 ?_
    refine V_aload_n 1 rfl rfl dX11_reads_34 ?_
    refine X_getI (c := 11) (k := 68) fa_X11_289 rfl dX11_reads_35 hw (fun v7 hw => ?_)
    refine X_stI dX11_reads_38 hw (fun h hw => ?_)
    refine V_aload_n 1 rfl rfl dX11_reads_39 ?_
    refine V_bipush (v := 60) (by decide) dX11_reads_40 ?_
    refine X_cV 11 [.int 60] [] ma_X11_283 (by decide) rfl (by decide) (by decide) rfl (by simp [cat_i, cat_l, rf_cat]) rfl dX11_reads_42 hw (r_X11_is _ _) (k_I (fun v8 h hw => ?_))
    refine V_if_ne (tgt := 68) dX11_reads_45 (by decide) hw (fun hw => ?_) (fun hw => ?_)
    · refine V_aload_n 1 rfl rfl dX11_reads_48 ?_
      refine V_bipush (v := 62) (by decide) dX11_reads_49 ?_
      refine X_cV 11 [.int 62] [] ma_X11_283 (by decide) rfl (by decide) (by decide) rfl (by simp [cat_i, cat_l, rf_cat]) rfl dX11_reads_51 hw (r_X11_is _ _) (k_I (fun v9 h hw => ?_))
      refine V_if_ne (tgt := 68) dX11_reads_54 (by decide) hw (fun hw => ?_) (fun hw => ?_)
      · refine V_aload_n 1 rfl rfl dX11_reads_57 ?_
        refine V_bipush (v := 61) (by decide) dX11_reads_58 ?_
        refine X_cV 11 [.int 61] [] ma_X11_283 (by decide) rfl (by decide) (by decide) rfl (by simp [cat_i, cat_l, rf_cat]) rfl dX11_reads_60 hw (r_X11_is _ _) (k_I (fun v10 h hw => ?_))
        refine V_if_ne (tgt := 68) dX11_reads_63 (by decide) hw (fun hw => ?_) (fun hw => ?_)
        · refine V_iconst (v := 0) (by decide) dX11_reads_66 ?_
          exact V_zret rfl hw.1 dX11_reads_67 ⟨_, rfl, hw.2⟩
        · exact V.sub [1, 0] rfl (s_X11_reads_68 hw)
      · exact V.sub [1, 0] rfl (s_X11_reads_68 hw)
    · exact V.sub [1, 0] rfl (s_X11_reads_68 hw)
theorem r_X11_reads {l : Launch} {G : Gh} (l0 : Option Nat) (l1 : Int32) {h : Hp} {Q : Int32 → Hp → Prop} (hw : w_X11_reads l0 l1 h Q) : RunQ l G 5 yX11_reads cX11_reads 3 (some .boolean) [va_rf l0, .int l1] h (qI Q) :=
  V_run rfl (sl_len _ _ (by simp [cat_i, cat_l, rf_cat])) (V.sub [0, 1] (by simp only [la_r, la_i, la_l, la_n]; rfl) (s_X11_reads_0 hw))
def n_X11_pops_82 (h : Hp) (Q : Hp → Prop) : Prop :=
  Q h
def n_X11_pops_76 (l0 : Option Nat) (l1 : Int32) (l2 : Int32) (s0 : Int32) (s1 : Int32) (s2 : Option Nat) (h : Hp) (Q : Hp → Prop) (K0 : Hp → Prop) : Prop :=
  oV h s2 12 <| w_X11_emits s2 s1 s0 h <| fun h =>
  K0 h
def n_X11_pops_43 (l0 : Option Nat) (l1 : Int32) (l2 : Int32) (h : Hp) (Q : Hp → Prop) (K0 : Hp → Prop) : Prop :=
  gI h l0 12 1473 fun v5 =>
  pI h l0 12 1473 (v5 - 1) fun h =>
  gR h l0 12 1467 fun v6 =>
  gI h l0 12 1473 fun v7 =>
  ldI h v6 v7 fun v8 =>
  br (v8 = 38) (
    n_X11_pops_76 l0 l1 l2 (-2) l1 l0 h Q K0) (
    n_X11_pops_76 l0 l1 l2 (-3) l1 l0 h Q K0)
def b_X11_pops_0 (l0 : Option Nat) (l1 : Int32) (l2 : Int32) (h : Hp) (Q : Hp → Prop) (K0 : Hp → Prop) : Prop :=
  gI h l0 12 1473 fun v1 =>
  br (v1 ≤ 0) (
    n_X11_pops_82 h Q) (
    gR h l0 12 1467 fun v2 =>
    gI h l0 12 1473 fun v3 =>
    ldI h v2 (v3 - 1) fun v4 =>
    br (v4 = 38) (
      n_X11_pops_43 l0 l1 l2 h Q K0) (
      gR h l0 12 1467 fun v10 =>
      gI h l0 12 1473 fun v11 =>
      ldI h v10 (v11 - 1) fun v12 =>
      br (v12 = 124) (
        br (l2 = 0) (
          n_X11_pops_43 l0 l1 l2 h Q K0) (
          n_X11_pops_82 h Q)) (
        n_X11_pops_82 h Q)))
def l_X11_pops_0 (l0 : Option Nat) (l1 : Int32) (l2 : Int32) (h : Hp) (Q : Hp → Prop) : Prop :=
  Lo (fun (K : Unit → Hp → Prop) s h => b_X11_pops_0 l0 l1 l2 h Q (fun h => K () h)) () h
def w_X11_pops (l0 : Option Nat) (l1 : Int32) (l2 : Int32) (h : Hp) (Q : Hp → Prop) : Prop := l_X11_pops_0 l0 l1 l2 h Q
theorem s_X11_pops_82 {l : Launch} {G : Gh}  {h : Hp} {Q : Hp → Prop}  (hw : n_X11_pops_82 h Q) : V l G 2 yX11_pops cX11_pops 3 none 82 [] [] h (qV Q) := by
  unfold n_X11_pops_82 at hw
  exact V_vret rfl dX11_pops_82 ⟨rfl, hw⟩
theorem s_X11_pops_76 {l : Launch} {G : Gh} {l0 : Option Nat} {l1 : Int32} {l2 : Int32} {s0 : Int32} {s1 : Int32} {s2 : Option Nat} {h : Hp} {Q : Hp → Prop} {K0 : Hp → Prop} (hK0 : ∀ (h : Hp), K0 h → V l G 2 yX11_pops cX11_pops 3 none 0 [(0, va_rf l0), (1, .int l1), (2, .int l2)] [] h (qV Q)) (hw : n_X11_pops_76 l0 l1 l2 s0 s1 s2 h Q K0) : V l G 2 yX11_pops cX11_pops 3 none 76 [(0, va_rf l0), (1, .int l1), (2, .int l2)] [.int s0, .int s1, va_rf s2] h (qV Q) := by
  unfold n_X11_pops_76 at hw
  refine X_cV 11 [.int s1, .int s0] [] ma_X11_314 (by decide) rfl (by decide) (by decide) rfl (by simp [cat_i, cat_l, rf_cat]) rfl dX11_pops_76 hw (r_X11_emits _ _ _) (k_V (fun h hw => ?_))
  refine V_goto (tgt := 0) dX11_pops_79 (by decide) ?_
  exact V.sub [0, 1, 2] rfl (hK0 _ hw)
theorem s_X11_pops_43 {l : Launch} {G : Gh} {l0 : Option Nat} {l1 : Int32} {l2 : Int32} {h : Hp} {Q : Hp → Prop} {K0 : Hp → Prop} (hK0 : ∀ (h : Hp), K0 h → V l G 2 yX11_pops cX11_pops 3 none 0 [(0, va_rf l0), (1, .int l1), (2, .int l2)] [] h (qV Q)) (hw : n_X11_pops_43 l0 l1 l2 h Q K0) : V l G 2 yX11_pops cX11_pops 3 none 43 [(0, va_rf l0), (1, .int l1), (2, .int l2)] [] h (qV Q) := by
  unfold n_X11_pops_43 at hw
  refine V_aload_n 0 rfl rfl dX11_pops_43 ?_
  refine V_dup (rf_cat _) dX11_pops_44 ?_
  refine X_getI (c := 11) (k := 65) fa_X11_308 rfl dX11_pops_45 hw (fun v5 hw => ?_)
  refine V_iconst (v := 1) (by decide) dX11_pops_48 ?_
  refine V_isub dX11_pops_49 ?_
  refine X_putI (c := 11) (k := 65) fa_X11_308 (Or.inl rfl) rfl dX11_pops_50 hw (fun h hw => ?_)
  refine V_aload_n 0 rfl rfl dX11_pops_53 ?_
  refine V_iload_n 1 rfl rfl dX11_pops_54 ?_
  refine V_aload_n 0 rfl rfl dX11_pops_55 ?_
  refine X_getR (c := 11) (k := 59) fa_X11_175 rfl dX11_pops_56 hw (fun v6 hw => ?_)
  refine V_aload_n 0 rfl rfl dX11_pops_59 ?_
  refine X_getI (c := 11) (k := 65) fa_X11_308 rfl dX11_pops_60 hw (fun v7 hw => ?_)
  refine X_ldI dX11_pops_63 hw (fun v8 hw => ?_)
  refine V_bipush (v := 38) (by decide) dX11_pops_64 ?_
  refine V_icmp_ne (tgt := 74) dX11_pops_66 (by decide) hw (fun hw => ?_) (fun hw => ?_)
  · refine V_bipush (v := (-2)) (by decide) dX11_pops_69 ?_
    refine V_goto (tgt := 76) dX11_pops_71 (by decide) ?_
    exact V.sub [0, 1, 2] rfl (s_X11_pops_76 hK0 hw)
  · refine V_bipush (v := (-3)) (by decide) dX11_pops_74 ?_
    exact V.sub [0, 1, 2] rfl (s_X11_pops_76 hK0 hw)
theorem sb_X11_pops_0 {l : Launch} {G : Gh} {l0 : Option Nat} {l1 : Int32} {l2 : Int32} {h : Hp} {Q : Hp → Prop} {K0 : Hp → Prop} (hK0 : ∀ (h : Hp), K0 h → V l G 2 yX11_pops cX11_pops 3 none 0 [(0, va_rf l0), (1, .int l1), (2, .int l2)] [] h (qV Q)) (hw : b_X11_pops_0 l0 l1 l2 h Q K0) : V l G 2 yX11_pops cX11_pops 3 none 0 [(0, va_rf l0), (1, .int l1), (2, .int l2)] [] h (qV Q) := by
  unfold b_X11_pops_0 at hw
  refine V_aload_n 0 rfl rfl dX11_pops_0 ?_
  refine X_getI (c := 11) (k := 65) fa_X11_308 rfl dX11_pops_1 hw (fun v1 hw => ?_)
  refine V_if_le (tgt := 82) dX11_pops_4 (by decide) hw (fun hw => ?_) (fun hw => ?_)
  · exact V.sub [] rfl (s_X11_pops_82 hw)
  · refine V_aload_n 0 rfl rfl dX11_pops_7 ?_
    refine X_getR (c := 11) (k := 59) fa_X11_175 rfl dX11_pops_8 hw (fun v2 hw => ?_)
    refine V_aload_n 0 rfl rfl dX11_pops_11 ?_
    refine X_getI (c := 11) (k := 65) fa_X11_308 rfl dX11_pops_12 hw (fun v3 hw => ?_)
    refine V_iconst (v := 1) (by decide) dX11_pops_15 ?_
    refine V_isub dX11_pops_16 ?_
    refine X_ldI dX11_pops_17 hw (fun v4 hw => ?_)
    refine V_bipush (v := 38) (by decide) dX11_pops_18 ?_
    refine V_icmp_eq (tgt := 43) dX11_pops_20 (by decide) hw (fun hw => ?_) (fun hw => ?_)
    · exact V.sub [0, 1, 2] rfl (s_X11_pops_43 hK0 hw)
    · refine V_aload_n 0 rfl rfl dX11_pops_23 ?_
      refine X_getR (c := 11) (k := 59) fa_X11_175 rfl dX11_pops_24 hw (fun v10 hw => ?_)
      refine V_aload_n 0 rfl rfl dX11_pops_27 ?_
      refine X_getI (c := 11) (k := 65) fa_X11_308 rfl dX11_pops_28 hw (fun v11 hw => ?_)
      refine V_iconst (v := 1) (by decide) dX11_pops_31 ?_
      refine V_isub dX11_pops_32 ?_
      refine X_ldI dX11_pops_33 hw (fun v12 hw => ?_)
      refine V_bipush (v := 124) (by decide) dX11_pops_34 ?_
      refine V_icmp_ne (tgt := 82) dX11_pops_36 (by decide) hw (fun hw => ?_) (fun hw => ?_)
      · refine V_iload_n 2 rfl rfl dX11_pops_39 ?_
        refine V_if_ne (tgt := 82) dX11_pops_40 (by decide) hw (fun hw => ?_) (fun hw => ?_)
        · exact V.sub [0, 1, 2] rfl (s_X11_pops_43 hK0 hw)
        · exact V.sub [] rfl (s_X11_pops_82 hw)
      · exact V.sub [] rfl (s_X11_pops_82 hw)
theorem s_X11_pops_0 {l : Launch} {G : Gh} {l0 : Option Nat} {l1 : Int32} {l2 : Int32} {h : Hp} {Q : Hp → Prop}  (hw : l_X11_pops_0 l0 l1 l2 h Q) : V l G 2 yX11_pops cX11_pops 3 none 0 [(0, va_rf l0), (1, .int l1), (2, .int l2)] [] h (qV Q) :=
  Lo.ind (P := fun (s : Unit) h => V l G 2 yX11_pops cX11_pops 3 none 0 [(0, va_rf l0), (1, .int l1), (2, .int l2)] [] h (qV Q)) (fun K ih s h hw => sb_X11_pops_0 (fun h hk => ih () h hk) hw) hw
theorem r_X11_pops {l : Launch} {G : Gh} (l0 : Option Nat) (l1 : Int32) (l2 : Int32) {h : Hp} {Q : Hp → Prop} (hw : w_X11_pops l0 l1 l2 h Q) : RunQ l G 2 yX11_pops cX11_pops 3 none [va_rf l0, .int l1, .int l2] h (qV Q) :=
  V_run rfl (sl_len _ _ (by simp [cat_i, cat_l, rf_cat])) (V.sub [0, 1, 2] (by simp only [la_r, la_i, la_l, la_n]; rfl) (s_X11_pops_0 hw))
def n_X11_compiles_384 (l0 : Option Nat) (l2 : Int32) (l3 : Int32) (l4 : Int32) (h : Hp) (Q : Int32 → Hp → Prop) (K96 : Int32 → Int32 → Hp → Prop) : Prop :=
  K96 l3 l4 h
def n_X11_compiles_270 (l0 : Option Nat) (l2 : Int32) (l3 : Int32) (l5 : Int32) (s0 : Int32) (s1 : Int32) (s2 : Option Nat) (h : Hp) (Q : Int32 → Hp → Prop) (K96 : Int32 → Int32 → Hp → Prop) : Prop :=
  oV h s2 12 <| w_X11_pops s2 s1 s0 h <| fun h =>
  gR h l0 12 1467 fun v14 =>
  gI h l0 12 1473 fun v15 =>
  pI h l0 12 1473 (v15 + 1) fun h =>
  stI h v14 v15 l5 fun h =>
  gI h l0 12 1468 fun v16 =>
  pI h l0 12 1468 (v16 + 1) fun h =>
  n_X11_compiles_384 l0 l2 l3 1 h Q K96
def n_X11_compiles_256 (l0 : Option Nat) (l2 : Int32) (l3 : Int32) (l5 : Int32) (h : Hp) (Q : Int32 → Hp → Prop) (K96 : Int32 → Int32 → Hp → Prop) : Prop :=
  br (l5 = 38) (
    n_X11_compiles_270 l0 l2 l3 l5 1 l2 l0 h Q K96) (
    n_X11_compiles_270 l0 l2 l3 l5 0 l2 l0 h Q K96)
def n_X11_compiles_555 (s0 : Int32) (h : Hp) (Q : Int32 → Hp → Prop) : Prop :=
  Q s0 h
def n_X11_compiles_515 (l0 : Option Nat) (l2 : Int32) (s0 : Int32) (s1 : Int32) (s2 : Option Nat) (h : Hp) (Q : Int32 → Hp → Prop) : Prop :=
  stI h s2 s1 s0 fun h =>
  gI h l0 12 1468 fun v32 =>
  pI h l0 12 1468 (v32 + 1) fun h =>
  gR h l0 12 1454 fun v33 =>
  gI h l0 12 1471 fun v34 =>
  stI h v33 l2 v34 fun h =>
  gI h l0 12 1468 fun v35 =>
  gI h l0 12 1469 fun v36 =>
  br (v36 ≤ v35) (
    n_X11_compiles_555 (-1) h Q) (
    gI h l0 12 1468 fun v37 =>
    n_X11_compiles_555 v37 h Q)
def n_X11_compiles_483 (l0 : Option Nat) (l2 : Int32) (h : Hp) (Q : Int32 → Hp → Prop) : Prop :=
  gR h l0 12 1455 fun v29 =>
  oV h l0 12 <| w_X11_is l0 120 h <| fun v30 h =>
  br (v30 = 0) (
    oV h l0 12 <| w_X11_is l0 108 h <| fun v31 h =>
    br (v31 = 0) (
      n_X11_compiles_515 l0 l2 3 l2 v29 h Q) (
      n_X11_compiles_515 l0 l2 2 l2 v29 h Q)) (
    n_X11_compiles_515 l0 l2 1 l2 v29 h Q)
def n_X11_compiles_379 (l0 : Option Nat) (h : Hp) (Q : Int32 → Hp → Prop) : Prop :=
  gI h l0 12 1468 fun v38 =>
  Q v38 h
def n_X11_compiles_365 (l0 : Option Nat) (l2 : Int32) (l3 : Int32) (l5 : Int32) (h : Hp) (Q : Int32 → Hp → Prop) : Prop :=
  br (l5 = 59) (
    br (l3 = 0) (
      oV h l0 12 <| w_X11_pops l0 l2 0 h <| fun h =>
      gI h l0 12 1468 fun v18 =>
      pI h l0 12 1468 (v18 + 1) fun h =>
      oV h l0 12 <| w_X11_is l0 106 h <| fun v19 h =>
      br (v19 = 0) (
        gI h l0 12 1468 fun v20 =>
        Q v20 h) (
        gI h l0 12 1468 fun v21 =>
        pI h l0 12 1468 (v21 + 1) fun h =>
        oV h l0 12 <| w_X11_is l0 58 h <| fun v22 h =>
        br (v22 = 0) (
          gI h l0 12 1468 fun v23 =>
          Q v23 h) (
          gI h l0 12 1468 fun v24 =>
          pI h l0 12 1468 (v24 + 1) fun h =>
          oV h l0 12 <| w_X11_is l0 120 h <| fun v25 h =>
          br (v25 = 0) (
            oV h l0 12 <| w_X11_is l0 108 h <| fun v26 h =>
            br (v26 = 0) (
              oV h l0 12 <| w_X11_is l0 99 h <| fun v27 h =>
              br (v27 = 0) (
                gI h l0 12 1468 fun v28 =>
                Q v28 h) (
                n_X11_compiles_483 l0 l2 h Q)) (
              n_X11_compiles_483 l0 l2 h Q)) (
            n_X11_compiles_483 l0 l2 h Q)))) (
      n_X11_compiles_379 l0 h Q)) (
    n_X11_compiles_379 l0 h Q)
def n_X11_compiles_202 (l0 : Option Nat) (l2 : Int32) (l3 : Int32) (l4 : Int32) (l5 : Int32) (h : Hp) (Q : Int32 → Hp → Prop) (K96 : Int32 → Int32 → Hp → Prop) : Prop :=
  br (l4 = 0) (
    br (l5 = 38) (
      n_X11_compiles_256 l0 l2 l3 l5 h Q K96) (
      br (l5 = 124) (
        n_X11_compiles_256 l0 l2 l3 l5 h Q K96) (
        br (l5 = 41) (
          br (l3 ≤ 0) (
            n_X11_compiles_365 l0 l2 l3 l5 h Q) (
            oV h l0 12 <| w_X11_pops l0 l2 0 h <| fun h =>
            gI h l0 12 1473 fun v40 =>
            pI h l0 12 1473 (v40 - 1) fun h =>
            gI h l0 12 1474 fun v41 =>
            pI h l0 12 1474 (v41 - 1) fun h =>
            lt (l3 + (-1)) fun x42 =>
            oV h l0 12 <| w_X11_closes l0 l2 h <| fun h =>
            gI h l0 12 1468 fun v44 =>
            pI h l0 12 1468 (v44 + 1) fun h =>
            n_X11_compiles_384 l0 l2 x42 l4 h Q K96)) (
          n_X11_compiles_365 l0 l2 l3 l5 h Q)))) (
    oV h l0 12 <| w_X11_reads l0 l2 h <| fun v45 h =>
    br (v45 = 0) (
      gI h l0 12 1468 fun v46 =>
      Q v46 h) (
      gI h l0 12 1472 fun v47 =>
      oV h l0 12 <| w_X11_emits l0 l2 (v47 - 1) h <| fun h =>
      oV h l0 12 <| w_X11_closes l0 l2 h <| fun h =>
      n_X11_compiles_384 l0 l2 l3 0 h Q K96))
def n_X11_compiles_189 (l0 : Option Nat) (l2 : Int32) (l3 : Int32) (l4 : Int32) (h : Hp) (Q : Int32 → Hp → Prop) (K96 : Int32 → Int32 → Hp → Prop) : Prop :=
  gI h l0 12 1468 fun v56 =>
  pI h l0 12 1468 (v56 + 1) fun h =>
  n_X11_compiles_384 l0 l2 l3 l4 h Q K96
def n_X11_compiles_137 (l0 : Option Nat) (l2 : Int32) (l3 : Int32) (l4 : Int32) (l5 : Int32) (h : Hp) (Q : Int32 → Hp → Prop) (K96 : Int32 → Int32 → Hp → Prop) : Prop :=
  gI h l0 12 1474 fun v50 =>
  br (v50 = 20) (
    gI h l0 12 1468 fun v51 =>
    Q v51 h) (
    gI h l0 12 1474 fun v52 =>
    pI h l0 12 1474 (v52 + 1) fun h =>
    gR h l0 12 1467 fun v53 =>
    gI h l0 12 1473 fun v54 =>
    pI h l0 12 1473 (v54 + 1) fun h =>
    stI h v53 v54 l5 fun h =>
    br (l5 = 40) (
      lt (l3 + 1) fun x55 =>
      n_X11_compiles_189 l0 l2 x55 l4 h Q K96) (
      n_X11_compiles_189 l0 l2 l3 l4 h Q K96))
def b_X11_compiles_96 (l0 : Option Nat) (l2 : Int32) (l3 : Int32) (l4 : Int32) (h : Hp) (Q : Int32 → Hp → Prop) (K96 : Int32 → Int32 → Hp → Prop) : Prop :=
  gI h l0 12 1468 fun v9 =>
  gI h l0 12 1469 fun v10 =>
  br (v9 = v10) (
    gI h l0 12 1469 fun v11 =>
    Q v11 h) (
    oV h l0 12 <| w_X11_letter l0 h <| fun v12 h =>
    br (l4 = 0) (
      n_X11_compiles_202 l0 l2 l3 l4 v12 h Q K96) (
      br (v12 = 33) (
        n_X11_compiles_137 l0 l2 l3 l4 v12 h Q K96) (
        br (v12 = 40) (
          n_X11_compiles_137 l0 l2 l3 l4 v12 h Q K96) (
          n_X11_compiles_202 l0 l2 l3 l4 v12 h Q K96))))
def l_X11_compiles_96 (l0 : Option Nat) (l2 : Int32) (l3 : Int32) (l4 : Int32) (h : Hp) (Q : Int32 → Hp → Prop) : Prop :=
  Lo (fun (K : Int32 × Int32 → Hp → Prop) s h => b_X11_compiles_96 l0 l2 s.1 s.2 h Q (fun l3 l4 h => K (l3, l4) h)) (l3, l4) h
def n_X11_compiles_0 (l0 : Option Nat) (l1 : Int32) (l2 : Int32) (h : Hp) (Q : Int32 → Hp → Prop) : Prop :=
  pI h l0 12 1470 (60 * l1) fun h =>
  gR h l0 12 1426 fun v1 =>
  ldI h v1 l1 fun v2 =>
  pI h l0 12 1469 v2 fun h =>
  pI h l0 12 1468 0 fun h =>
  pI h l0 12 1471 0 fun h =>
  pI h l0 12 1472 0 fun h =>
  pI h l0 12 1473 0 fun h =>
  pI h l0 12 1474 0 fun h =>
  oV h l0 12 <| w_X11_is l0 107 h <| fun v3 h =>
  br (v3 = 0) (
    gI h l0 12 1468 fun v4 =>
    Q v4 h) (
    gI h l0 12 1468 fun v5 =>
    pI h l0 12 1468 (v5 + 1) fun h =>
    oV h l0 12 <| w_X11_is l0 58 h <| fun v6 h =>
    br (v6 = 0) (
      gI h l0 12 1468 fun v7 =>
      Q v7 h) (
      gI h l0 12 1468 fun v8 =>
      pI h l0 12 1468 (v8 + 1) fun h =>
      l_X11_compiles_96 l0 l2 0 1 h Q))
def w_X11_compiles (l0 : Option Nat) (l1 : Int32) (l2 : Int32) (h : Hp) (Q : Int32 → Hp → Prop) : Prop := n_X11_compiles_0 l0 l1 l2 h Q
theorem s_X11_compiles_384 {l : Launch} {G : Gh} {l0 : Option Nat} {l2 : Int32} {l3 : Int32} {l4 : Int32} {h : Hp} {Q : Int32 → Hp → Prop} {K96 : Int32 → Int32 → Hp → Prop} (hK96 : ∀ (l3 : Int32) (l4 : Int32) (h : Hp), K96 l3 l4 h → V l G 6 yX11_compiles cX11_compiles 6 (some .int) 96 [(0, va_rf l0), (2, .int l2), (3, .int l3), (4, .int l4)] [] h (qI Q)) (hw : n_X11_compiles_384 l0 l2 l3 l4 h Q K96) : V l G 6 yX11_compiles cX11_compiles 6 (some .int) 384 [(0, va_rf l0), (2, .int l2), (3, .int l3), (4, .int l4)] [] h (qI Q) := by
  unfold n_X11_compiles_384 at hw
  refine V_goto (tgt := 96) dX11_compiles_384 (by decide) ?_
  exact V.sub [0, 1, 2, 3] rfl (hK96 _ _ _ hw)
theorem s_X11_compiles_270 {l : Launch} {G : Gh} {l0 : Option Nat} {l2 : Int32} {l3 : Int32} {l5 : Int32} {s0 : Int32} {s1 : Int32} {s2 : Option Nat} {h : Hp} {Q : Int32 → Hp → Prop} {K96 : Int32 → Int32 → Hp → Prop} (hK96 : ∀ (l3 : Int32) (l4 : Int32) (h : Hp), K96 l3 l4 h → V l G 6 yX11_compiles cX11_compiles 6 (some .int) 96 [(0, va_rf l0), (2, .int l2), (3, .int l3), (4, .int l4)] [] h (qI Q)) (hw : n_X11_compiles_270 l0 l2 l3 l5 s0 s1 s2 h Q K96) : V l G 6 yX11_compiles cX11_compiles 6 (some .int) 270 [(0, va_rf l0), (2, .int l2), (3, .int l3), (5, .int l5)] [.int s0, .int s1, va_rf s2] h (qI Q) := by
  unfold n_X11_compiles_270 at hw
  refine X_cV 11 [.int s1, .int s0] [] ma_X11_325 (by decide) rfl (by decide) (by decide) rfl (by simp [cat_i, cat_l, rf_cat]) rfl dX11_compiles_270 hw (r_X11_pops _ _ _) (k_V (fun h hw => ?_))
  refine V_aload_n 0 rfl rfl dX11_compiles_273 ?_
  refine X_getR (c := 11) (k := 59) fa_X11_175 rfl dX11_compiles_274 hw (fun v14 hw => ?_)
  refine V_aload_n 0 rfl rfl dX11_compiles_277 ?_
  refine V_dup (rf_cat _) dX11_compiles_278 ?_
  refine X_getI (c := 11) (k := 65) fa_X11_308 rfl dX11_compiles_279 hw (fun v15 hw => ?_)
  refine V_dup_x1 rfl (rf_cat _) dX11_compiles_282 ?_
  refine V_iconst (v := 1) (by decide) dX11_compiles_283 ?_
  refine V_iadd dX11_compiles_284 ?_
  refine X_putI (c := 11) (k := 65) fa_X11_308 (Or.inl rfl) rfl dX11_compiles_285 hw (fun h hw => ?_)
  refine V_iload 3 rfl dX11_compiles_288 ?_
  refine X_stI dX11_compiles_290 hw (fun h hw => ?_)
  refine V_iconst (v := 1) (by decide) dX11_compiles_291 ?_
  refine V_istore (i := 4) [(4, .int 1), (0, va_rf l0), (2, .int l2), (3, .int l3), (5, .int l5)] (by decide) rfl dX11_compiles_292 ?_
  refine V_aload_n 1 rfl rfl dX11_compiles_294 ?_
  refine V_dup (rf_cat _) dX11_compiles_295 ?_
  refine X_getI (c := 11) (k := 60) fa_X11_270 rfl dX11_compiles_296 hw (fun v16 hw => ?_)
  refine V_iconst (v := 1) (by decide) dX11_compiles_299 ?_
  refine V_iadd dX11_compiles_300 ?_
  refine X_putI (c := 11) (k := 60) fa_X11_270 (Or.inl rfl) rfl dX11_compiles_301 hw (fun h hw => ?_)
  refine V_goto (tgt := 384) dX11_compiles_304 (by decide) ?_
  exact V.sub [1, 2, 3, 0] rfl (s_X11_compiles_384 hK96 hw)
theorem s_X11_compiles_256 {l : Launch} {G : Gh} {l0 : Option Nat} {l2 : Int32} {l3 : Int32} {l5 : Int32} {h : Hp} {Q : Int32 → Hp → Prop} {K96 : Int32 → Int32 → Hp → Prop} (hK96 : ∀ (l3 : Int32) (l4 : Int32) (h : Hp), K96 l3 l4 h → V l G 6 yX11_compiles cX11_compiles 6 (some .int) 96 [(0, va_rf l0), (2, .int l2), (3, .int l3), (4, .int l4)] [] h (qI Q)) (hw : n_X11_compiles_256 l0 l2 l3 l5 h Q K96) : V l G 6 yX11_compiles cX11_compiles 6 (some .int) 256 [(0, va_rf l0), (2, .int l2), (3, .int l3), (5, .int l5)] [] h (qI Q) := by
  unfold n_X11_compiles_256 at hw
  refine V_aload_n 0 rfl rfl dX11_compiles_256 ?_
  refine V_iload_n 1 rfl rfl dX11_compiles_257 ?_
  refine V_iload 3 rfl dX11_compiles_258 ?_
  refine V_bipush (v := 38) (by decide) dX11_compiles_260 ?_
  refine V_icmp_ne (tgt := 269) dX11_compiles_262 (by decide) hw (fun hw => ?_) (fun hw => ?_)
  · refine V_iconst (v := 1) (by decide) dX11_compiles_265 ?_
    refine V_goto (tgt := 270) dX11_compiles_266 (by decide) ?_
    exact V.sub [0, 1, 2, 3] rfl (s_X11_compiles_270 hK96 hw)
  · refine V_iconst (v := 0) (by decide) dX11_compiles_269 ?_
    exact V.sub [0, 1, 2, 3] rfl (s_X11_compiles_270 hK96 hw)
theorem s_X11_compiles_555 {l : Launch} {G : Gh} {s0 : Int32} {h : Hp} {Q : Int32 → Hp → Prop}  (hw : n_X11_compiles_555 s0 h Q) : V l G 6 yX11_compiles cX11_compiles 6 (some .int) 555 [] [.int s0] h (qI Q) := by
  unfold n_X11_compiles_555 at hw
  exact V_iret rfl dX11_compiles_555 ⟨_, rfl, hw⟩
theorem s_X11_compiles_515 {l : Launch} {G : Gh} {l0 : Option Nat} {l2 : Int32} {s0 : Int32} {s1 : Int32} {s2 : Option Nat} {h : Hp} {Q : Int32 → Hp → Prop}  (hw : n_X11_compiles_515 l0 l2 s0 s1 s2 h Q) : V l G 6 yX11_compiles cX11_compiles 6 (some .int) 515 [(0, va_rf l0), (2, .int l2)] [.int s0, .int s1, va_rf s2] h (qI Q) := by
  unfold n_X11_compiles_515 at hw
  refine X_stI dX11_compiles_515 hw (fun h hw => ?_)
  refine V_aload_n 0 rfl rfl dX11_compiles_516 ?_
  refine V_dup (rf_cat _) dX11_compiles_517 ?_
  refine X_getI (c := 11) (k := 60) fa_X11_270 rfl dX11_compiles_518 hw (fun v32 hw => ?_)
  refine V_iconst (v := 1) (by decide) dX11_compiles_521 ?_
  refine V_iadd dX11_compiles_522 ?_
  refine X_putI (c := 11) (k := 60) fa_X11_270 (Or.inl rfl) rfl dX11_compiles_523 hw (fun h hw => ?_)
  refine V_aload_n 0 rfl rfl dX11_compiles_526 ?_
  refine X_getR (c := 11) (k := 46) fa_X11_136 rfl dX11_compiles_527 hw (fun v33 hw => ?_)
  refine V_iload_n 1 rfl rfl dX11_compiles_530 ?_
  refine V_aload_n 0 rfl rfl dX11_compiles_531 ?_
  refine X_getI (c := 11) (k := 63) fa_X11_305 rfl dX11_compiles_532 hw (fun v34 hw => ?_)
  refine X_stI dX11_compiles_535 hw (fun h hw => ?_)
  refine V_aload_n 0 rfl rfl dX11_compiles_536 ?_
  refine X_getI (c := 11) (k := 60) fa_X11_270 rfl dX11_compiles_537 hw (fun v35 hw => ?_)
  refine V_aload_n 0 rfl rfl dX11_compiles_540 ?_
  refine X_getI (c := 11) (k := 61) fa_X11_273 rfl dX11_compiles_541 hw (fun v36 hw => ?_)
  refine V_icmp_ge (tgt := 554) dX11_compiles_544 (by decide) hw (fun hw => ?_) (fun hw => ?_)
  · refine V_iconst (v := (-1)) (by decide) dX11_compiles_554 ?_
    exact V.sub [] rfl (s_X11_compiles_555 hw)
  · refine V_aload_n 0 rfl rfl dX11_compiles_547 ?_
    refine X_getI (c := 11) (k := 60) fa_X11_270 rfl dX11_compiles_548 hw (fun v37 hw => ?_)
    refine V_goto (tgt := 555) dX11_compiles_551 (by decide) ?_
    exact V.sub [] rfl (s_X11_compiles_555 hw)
theorem s_X11_compiles_483 {l : Launch} {G : Gh} {l0 : Option Nat} {l2 : Int32} {h : Hp} {Q : Int32 → Hp → Prop}  (hw : n_X11_compiles_483 l0 l2 h Q) : V l G 6 yX11_compiles cX11_compiles 6 (some .int) 483 [(0, va_rf l0), (2, .int l2)] [] h (qI Q) := by
  unfold n_X11_compiles_483 at hw
  refine V_aload_n 0 rfl rfl dX11_compiles_483 ?_
  refine X_getR (c := 11) (k := 47) fa_X11_139 rfl dX11_compiles_484 hw (fun v29 hw => ?_)
  refine V_iload_n 1 rfl rfl dX11_compiles_487 ?_
  refine V_aload_n 0 rfl rfl dX11_compiles_488 ?_
  refine V_bipush (v := 120) (by decide) dX11_compiles_489 ?_
  refine X_cV 11 [.int 120] [.int l2, va_rf v29] ma_X11_283 (by decide) rfl (by decide) (by decide) rfl (by simp [cat_i, cat_l, rf_cat]) rfl dX11_compiles_491 hw (r_X11_is _ _) (k_I (fun v30 h hw => ?_))
  refine V_if_eq (tgt := 501) dX11_compiles_494 (by decide) hw (fun hw => ?_) (fun hw => ?_)
  · refine V_aload_n 0 rfl rfl dX11_compiles_501 ?_
    refine V_bipush (v := 108) (by decide) dX11_compiles_502 ?_
    refine X_cV 11 [.int 108] [.int l2, va_rf v29] ma_X11_283 (by decide) rfl (by decide) (by decide) rfl (by simp [cat_i, cat_l, rf_cat]) rfl dX11_compiles_504 hw (r_X11_is _ _) (k_I (fun v31 h hw => ?_))
    refine V_if_eq (tgt := 514) dX11_compiles_507 (by decide) hw (fun hw => ?_) (fun hw => ?_)
    · refine V_iconst (v := 3) (by decide) dX11_compiles_514 ?_
      exact V.sub [0, 1] rfl (s_X11_compiles_515 hw)
    · refine V_iconst (v := 2) (by decide) dX11_compiles_510 ?_
      refine V_goto (tgt := 515) dX11_compiles_511 (by decide) ?_
      exact V.sub [0, 1] rfl (s_X11_compiles_515 hw)
  · refine V_iconst (v := 1) (by decide) dX11_compiles_497 ?_
    refine V_goto (tgt := 515) dX11_compiles_498 (by decide) ?_
    exact V.sub [0, 1] rfl (s_X11_compiles_515 hw)
theorem s_X11_compiles_379 {l : Launch} {G : Gh} {l0 : Option Nat} {h : Hp} {Q : Int32 → Hp → Prop}  (hw : n_X11_compiles_379 l0 h Q) : V l G 6 yX11_compiles cX11_compiles 6 (some .int) 379 [(0, va_rf l0)] [] h (qI Q) := by
  unfold n_X11_compiles_379 at hw
  refine V_aload_n 0 rfl rfl dX11_compiles_379 ?_
  refine X_getI (c := 11) (k := 60) fa_X11_270 rfl dX11_compiles_380 hw (fun v38 hw => ?_)
  exact V_iret rfl dX11_compiles_383 ⟨_, rfl, hw⟩
set_option maxRecDepth 20000 in
theorem s_X11_compiles_365 {l : Launch} {G : Gh} {l0 : Option Nat} {l2 : Int32} {l3 : Int32} {l5 : Int32} {h : Hp} {Q : Int32 → Hp → Prop}  (hw : n_X11_compiles_365 l0 l2 l3 l5 h Q) : V l G 6 yX11_compiles cX11_compiles 6 (some .int) 365 [(0, va_rf l0), (2, .int l2), (3, .int l3), (5, .int l5)] [] h (qI Q) := by
  unfold n_X11_compiles_365 at hw
  refine V_iload 3 rfl dX11_compiles_365 ?_
  refine V_bipush (v := 59) (by decide) dX11_compiles_367 ?_
  refine V_icmp_ne (tgt := 379) dX11_compiles_369 (by decide) hw (fun hw => ?_) (fun hw => ?_)
  · refine V_iload_n 2 rfl rfl dX11_compiles_372 ?_
    refine V_if_ne (tgt := 379) dX11_compiles_373 (by decide) hw (fun hw => ?_) (fun hw => ?_)
    · refine V_goto (tgt := 387) dX11_compiles_376 (by decide) ?_
      refine V_aload_n 0 rfl rfl dX11_compiles_387 ?_
      refine V_iload_n 1 rfl rfl dX11_compiles_388 ?_
      refine V_iconst (v := 0) (by decide) dX11_compiles_389 ?_
      refine X_cV 11 [.int l2, .int 0] [] ma_X11_325 (by decide) rfl (by decide) (by decide) rfl (by simp [cat_i, cat_l, rf_cat]) rfl dX11_compiles_390 hw (r_X11_pops _ _ _) (k_V (fun h hw => ?_))
      refine V_aload_n 0 rfl rfl dX11_compiles_393 ?_
      refine V_dup (rf_cat _) dX11_compiles_394 ?_
      refine X_getI (c := 11) (k := 60) fa_X11_270 rfl dX11_compiles_395 hw (fun v18 hw => ?_)
      refine V_iconst (v := 1) (by decide) dX11_compiles_398 ?_
      refine V_iadd dX11_compiles_399 ?_
      refine X_putI (c := 11) (k := 60) fa_X11_270 (Or.inl rfl) rfl dX11_compiles_400 hw (fun h hw => ?_)
      refine V_aload_n 0 rfl rfl dX11_compiles_403 ?_
      refine V_bipush (v := 106) (by decide) dX11_compiles_404 ?_
      refine X_cV 11 [.int 106] [] ma_X11_283 (by decide) rfl (by decide) (by decide) rfl (by simp [cat_i, cat_l, rf_cat]) rfl dX11_compiles_406 hw (r_X11_is _ _) (k_I (fun v19 h hw => ?_))
      refine V_if_ne (tgt := 417) dX11_compiles_409 (by decide) hw (fun hw => ?_) (fun hw => ?_)
      · refine V_aload_n 0 rfl rfl dX11_compiles_412 ?_
        refine X_getI (c := 11) (k := 60) fa_X11_270 rfl dX11_compiles_413 hw (fun v20 hw => ?_)
        exact V_iret rfl dX11_compiles_416 ⟨_, rfl, hw⟩
      · refine V_aload_n 0 rfl rfl dX11_compiles_417 ?_
        refine V_dup (rf_cat _) dX11_compiles_418 ?_
        refine X_getI (c := 11) (k := 60) fa_X11_270 rfl dX11_compiles_419 hw (fun v21 hw => ?_)
        refine V_iconst (v := 1) (by decide) dX11_compiles_422 ?_
        refine V_iadd dX11_compiles_423 ?_
        refine X_putI (c := 11) (k := 60) fa_X11_270 (Or.inl rfl) rfl dX11_compiles_424 hw (fun h hw => ?_)
        refine V_aload_n 0 rfl rfl dX11_compiles_427 ?_
        refine V_bipush (v := 58) (by decide) dX11_compiles_428 ?_
        refine X_cV 11 [.int 58] [] ma_X11_283 (by decide) rfl (by decide) (by decide) rfl (by simp [cat_i, cat_l, rf_cat]) rfl dX11_compiles_430 hw (r_X11_is _ _) (k_I (fun v22 h hw => ?_))
        refine V_if_ne (tgt := 441) dX11_compiles_433 (by decide) hw (fun hw => ?_) (fun hw => ?_)
        · refine V_aload_n 0 rfl rfl dX11_compiles_436 ?_
          refine X_getI (c := 11) (k := 60) fa_X11_270 rfl dX11_compiles_437 hw (fun v23 hw => ?_)
          exact V_iret rfl dX11_compiles_440 ⟨_, rfl, hw⟩
        · refine V_aload_n 0 rfl rfl dX11_compiles_441 ?_
          refine V_dup (rf_cat _) dX11_compiles_442 ?_
          refine X_getI (c := 11) (k := 60) fa_X11_270 rfl dX11_compiles_443 hw (fun v24 hw => ?_)
          refine V_iconst (v := 1) (by decide) dX11_compiles_446 ?_
          refine V_iadd dX11_compiles_447 ?_
          refine X_putI (c := 11) (k := 60) fa_X11_270 (Or.inl rfl) rfl dX11_compiles_448 hw (fun h hw => ?_)
          refine V_aload_n 0 rfl rfl dX11_compiles_451 ?_
          refine V_bipush (v := 120) (by decide) dX11_compiles_452 ?_
          refine X_cV 11 [.int 120] [] ma_X11_283 (by decide) rfl (by decide) (by decide) rfl (by simp [cat_i, cat_l, rf_cat]) rfl dX11_compiles_454 hw (r_X11_is _ _) (k_I (fun v25 h hw => ?_))
          refine V_if_ne (tgt := 483) dX11_compiles_457 (by decide) hw (fun hw => ?_) (fun hw => ?_)
          · refine V_aload_n 0 rfl rfl dX11_compiles_460 ?_
            refine V_bipush (v := 108) (by decide) dX11_compiles_461 ?_
            refine X_cV 11 [.int 108] [] ma_X11_283 (by decide) rfl (by decide) (by decide) rfl (by simp [cat_i, cat_l, rf_cat]) rfl dX11_compiles_463 hw (r_X11_is _ _) (k_I (fun v26 h hw => ?_))
            refine V_if_ne (tgt := 483) dX11_compiles_466 (by decide) hw (fun hw => ?_) (fun hw => ?_)
            · refine V_aload_n 0 rfl rfl dX11_compiles_469 ?_
              refine V_bipush (v := 99) (by decide) dX11_compiles_470 ?_
              refine X_cV 11 [.int 99] [] ma_X11_283 (by decide) rfl (by decide) (by decide) rfl (by simp [cat_i, cat_l, rf_cat]) rfl dX11_compiles_472 hw (r_X11_is _ _) (k_I (fun v27 h hw => ?_))
              refine V_if_ne (tgt := 483) dX11_compiles_475 (by decide) hw (fun hw => ?_) (fun hw => ?_)
              · refine V_aload_n 0 rfl rfl dX11_compiles_478 ?_
                refine X_getI (c := 11) (k := 60) fa_X11_270 rfl dX11_compiles_479 hw (fun v28 hw => ?_)
                exact V_iret rfl dX11_compiles_482 ⟨_, rfl, hw⟩
              · exact V.sub [0, 1] rfl (s_X11_compiles_483 hw)
            · exact V.sub [0, 1] rfl (s_X11_compiles_483 hw)
          · exact V.sub [0, 1] rfl (s_X11_compiles_483 hw)
    · exact V.sub [0] rfl (s_X11_compiles_379 hw)
  · exact V.sub [0] rfl (s_X11_compiles_379 hw)
set_option maxRecDepth 20000 in
theorem s_X11_compiles_202 {l : Launch} {G : Gh} {l0 : Option Nat} {l2 : Int32} {l3 : Int32} {l4 : Int32} {l5 : Int32} {h : Hp} {Q : Int32 → Hp → Prop} {K96 : Int32 → Int32 → Hp → Prop} (hK96 : ∀ (l3 : Int32) (l4 : Int32) (h : Hp), K96 l3 l4 h → V l G 6 yX11_compiles cX11_compiles 6 (some .int) 96 [(0, va_rf l0), (2, .int l2), (3, .int l3), (4, .int l4)] [] h (qI Q)) (hw : n_X11_compiles_202 l0 l2 l3 l4 l5 h Q K96) : V l G 6 yX11_compiles cX11_compiles 6 (some .int) 202 [(0, va_rf l0), (2, .int l2), (3, .int l3), (4, .int l4), (5, .int l5)] [] h (qI Q) := by
  unfold n_X11_compiles_202 at hw
  refine V_iload 3 rfl dX11_compiles_202 ?_
  refine V_if_eq (tgt := 242) dX11_compiles_204 (by decide) hw (fun hw => ?_) (fun hw => ?_)
  · refine V_iload 4 rfl dX11_compiles_242 ?_
    refine V_bipush (v := 38) (by decide) dX11_compiles_244 ?_
    refine V_icmp_eq (tgt := 256) dX11_compiles_246 (by decide) hw (fun hw => ?_) (fun hw => ?_)
    · exact V.sub [0, 1, 2, 4] rfl (s_X11_compiles_256 hK96 hw)
    · refine V_iload 4 rfl dX11_compiles_249 ?_
      refine V_bipush (v := 124) (by decide) dX11_compiles_251 ?_
      refine V_icmp_ne (tgt := 307) dX11_compiles_253 (by decide) hw (fun hw => ?_) (fun hw => ?_)
      · exact V.sub [0, 1, 2, 4] rfl (s_X11_compiles_256 hK96 hw)
      · refine V_iload 4 rfl dX11_compiles_307 ?_
        refine V_bipush (v := 41) (by decide) dX11_compiles_309 ?_
        refine V_icmp_ne (tgt := 365) dX11_compiles_311 (by decide) hw (fun hw => ?_) (fun hw => ?_)
        · refine V_iload_n 2 rfl rfl dX11_compiles_314 ?_
          refine V_if_le (tgt := 365) dX11_compiles_315 (by decide) hw (fun hw => ?_) (fun hw => ?_)
          · exact V.sub [0, 1, 2, 4] rfl (s_X11_compiles_365 hw)
          · refine V_aload_n 0 rfl rfl dX11_compiles_318 ?_
            refine V_iload_n 1 rfl rfl dX11_compiles_319 ?_
            refine V_iconst (v := 0) (by decide) dX11_compiles_320 ?_
            refine X_cV 11 [.int l2, .int 0] [] ma_X11_325 (by decide) rfl (by decide) (by decide) rfl (by simp [cat_i, cat_l, rf_cat]) rfl dX11_compiles_321 hw (r_X11_pops _ _ _) (k_V (fun h hw => ?_))
            refine V_aload_n 0 rfl rfl dX11_compiles_324 ?_
            refine V_dup (rf_cat _) dX11_compiles_325 ?_
            refine X_getI (c := 11) (k := 65) fa_X11_308 rfl dX11_compiles_326 hw (fun v40 hw => ?_)
            refine V_iconst (v := 1) (by decide) dX11_compiles_329 ?_
            refine V_isub dX11_compiles_330 ?_
            refine X_putI (c := 11) (k := 65) fa_X11_308 (Or.inl rfl) rfl dX11_compiles_331 hw (fun h hw => ?_)
            refine V_aload_n 0 rfl rfl dX11_compiles_334 ?_
            refine V_dup (rf_cat _) dX11_compiles_335 ?_
            refine X_getI (c := 11) (k := 66) fa_X11_311 rfl dX11_compiles_336 hw (fun v41 hw => ?_)
            refine V_iconst (v := 1) (by decide) dX11_compiles_339 ?_
            refine V_isub dX11_compiles_340 ?_
            refine X_putI (c := 11) (k := 66) fa_X11_311 (Or.inl rfl) rfl dX11_compiles_341 hw (fun h hw => ?_)
            refine V_iincL (n := (-1)) 2 (fun z => [(3, .int z), (0, va_rf l0), (2, .int l2), (4, .int l4), (5, .int l5)]) rfl (by rfl) (by decide) (fun _ => rfl) dX11_compiles_344 hw (fun x42 hw => ?_)
            refine V_aload_n 1 rfl rfl dX11_compiles_347 ?_
            refine V_iload_n 2 rfl rfl dX11_compiles_348 ?_
            refine X_cV 11 [.int l2] [] ma_X11_321 (by decide) rfl (by decide) (by decide) rfl (by simp [cat_i, cat_l, rf_cat]) rfl dX11_compiles_349 hw (r_X11_closes _ _) (k_V (fun h hw => ?_))
            refine V_aload_n 1 rfl rfl dX11_compiles_352 ?_
            refine V_dup (rf_cat _) dX11_compiles_353 ?_
            refine X_getI (c := 11) (k := 60) fa_X11_270 rfl dX11_compiles_354 hw (fun v44 hw => ?_)
            refine V_iconst (v := 1) (by decide) dX11_compiles_357 ?_
            refine V_iadd dX11_compiles_358 ?_
            refine X_putI (c := 11) (k := 60) fa_X11_270 (Or.inl rfl) rfl dX11_compiles_359 hw (fun h hw => ?_)
            refine V_goto (tgt := 384) dX11_compiles_362 (by decide) ?_
            exact V.sub [1, 2, 0, 3] rfl (s_X11_compiles_384 hK96 hw)
        · exact V.sub [0, 1, 2, 4] rfl (s_X11_compiles_365 hw)
  · refine V_aload_n 0 rfl rfl dX11_compiles_207 ?_
    refine V_iload_n 1 rfl rfl dX11_compiles_208 ?_
    refine X_cV 11 [.int l2] [] ma_X11_318 (by decide) rfl (by decide) (by decide) rfl (by simp [cat_i, cat_l, rf_cat]) rfl dX11_compiles_209 hw (r_X11_reads _ _) (k_I (fun v45 h hw => ?_))
    refine V_if_ne (tgt := 220) dX11_compiles_212 (by decide) hw (fun hw => ?_) (fun hw => ?_)
    · refine V_aload_n 0 rfl rfl dX11_compiles_215 ?_
      refine X_getI (c := 11) (k := 60) fa_X11_270 rfl dX11_compiles_216 hw (fun v46 hw => ?_)
      exact V_iret rfl dX11_compiles_219 ⟨_, rfl, hw⟩
    · refine V_aload_n 0 rfl rfl dX11_compiles_220 ?_
      refine V_iload_n 1 rfl rfl dX11_compiles_221 ?_
      refine V_aload_n 0 rfl rfl dX11_compiles_222 ?_
      refine X_getI (c := 11) (k := 64) fa_X11_299 rfl dX11_compiles_223 hw (fun v47 hw => ?_)
      refine V_iconst (v := 1) (by decide) dX11_compiles_226 ?_
      refine V_isub dX11_compiles_227 ?_
      refine X_cV 11 [.int l2, .int (v47 - 1)] [] ma_X11_314 (by decide) rfl (by decide) (by decide) rfl (by simp [cat_i, cat_l, rf_cat]) rfl dX11_compiles_228 hw (r_X11_emits _ _ _) (k_V (fun h hw => ?_))
      refine V_aload_n 0 rfl rfl dX11_compiles_231 ?_
      refine V_iload_n 1 rfl rfl dX11_compiles_232 ?_
      refine X_cV 11 [.int l2] [] ma_X11_321 (by decide) rfl (by decide) (by decide) rfl (by simp [cat_i, cat_l, rf_cat]) rfl dX11_compiles_233 hw (r_X11_closes _ _) (k_V (fun h hw => ?_))
      refine V_iconst (v := 0) (by decide) dX11_compiles_236 ?_
      refine V_istore (i := 4) [(4, .int 0), (0, va_rf l0), (2, .int l2), (3, .int l3), (5, .int l5)] (by decide) rfl dX11_compiles_237 ?_
      refine V_goto (tgt := 384) dX11_compiles_239 (by decide) ?_
      exact V.sub [1, 2, 3, 0] rfl (s_X11_compiles_384 hK96 hw)
theorem s_X11_compiles_189 {l : Launch} {G : Gh} {l0 : Option Nat} {l2 : Int32} {l3 : Int32} {l4 : Int32} {h : Hp} {Q : Int32 → Hp → Prop} {K96 : Int32 → Int32 → Hp → Prop} (hK96 : ∀ (l3 : Int32) (l4 : Int32) (h : Hp), K96 l3 l4 h → V l G 6 yX11_compiles cX11_compiles 6 (some .int) 96 [(0, va_rf l0), (2, .int l2), (3, .int l3), (4, .int l4)] [] h (qI Q)) (hw : n_X11_compiles_189 l0 l2 l3 l4 h Q K96) : V l G 6 yX11_compiles cX11_compiles 6 (some .int) 189 [(0, va_rf l0), (2, .int l2), (3, .int l3), (4, .int l4)] [] h (qI Q) := by
  unfold n_X11_compiles_189 at hw
  refine V_aload_n 0 rfl rfl dX11_compiles_189 ?_
  refine V_dup (rf_cat _) dX11_compiles_190 ?_
  refine X_getI (c := 11) (k := 60) fa_X11_270 rfl dX11_compiles_191 hw (fun v56 hw => ?_)
  refine V_iconst (v := 1) (by decide) dX11_compiles_194 ?_
  refine V_iadd dX11_compiles_195 ?_
  refine X_putI (c := 11) (k := 60) fa_X11_270 (Or.inl rfl) rfl dX11_compiles_196 hw (fun h hw => ?_)
  refine V_goto (tgt := 384) dX11_compiles_199 (by decide) ?_
  exact V.sub [0, 1, 2, 3] rfl (s_X11_compiles_384 hK96 hw)
theorem s_X11_compiles_137 {l : Launch} {G : Gh} {l0 : Option Nat} {l2 : Int32} {l3 : Int32} {l4 : Int32} {l5 : Int32} {h : Hp} {Q : Int32 → Hp → Prop} {K96 : Int32 → Int32 → Hp → Prop} (hK96 : ∀ (l3 : Int32) (l4 : Int32) (h : Hp), K96 l3 l4 h → V l G 6 yX11_compiles cX11_compiles 6 (some .int) 96 [(0, va_rf l0), (2, .int l2), (3, .int l3), (4, .int l4)] [] h (qI Q)) (hw : n_X11_compiles_137 l0 l2 l3 l4 l5 h Q K96) : V l G 6 yX11_compiles cX11_compiles 6 (some .int) 137 [(0, va_rf l0), (2, .int l2), (3, .int l3), (4, .int l4), (5, .int l5)] [] h (qI Q) := by
  unfold n_X11_compiles_137 at hw
  refine V_aload_n 0 rfl rfl dX11_compiles_137 ?_
  refine X_getI (c := 11) (k := 66) fa_X11_311 rfl dX11_compiles_138 hw (fun v50 hw => ?_)
  refine V_bipush (v := 20) (by decide) dX11_compiles_141 ?_
  refine V_icmp_ne (tgt := 151) dX11_compiles_143 (by decide) hw (fun hw => ?_) (fun hw => ?_)
  · refine V_aload_n 0 rfl rfl dX11_compiles_146 ?_
    refine X_getI (c := 11) (k := 60) fa_X11_270 rfl dX11_compiles_147 hw (fun v51 hw => ?_)
    exact V_iret rfl dX11_compiles_150 ⟨_, rfl, hw⟩
  · refine V_aload_n 0 rfl rfl dX11_compiles_151 ?_
    refine V_dup (rf_cat _) dX11_compiles_152 ?_
    refine X_getI (c := 11) (k := 66) fa_X11_311 rfl dX11_compiles_153 hw (fun v52 hw => ?_)
    refine V_iconst (v := 1) (by decide) dX11_compiles_156 ?_
    refine V_iadd dX11_compiles_157 ?_
    refine X_putI (c := 11) (k := 66) fa_X11_311 (Or.inl rfl) rfl dX11_compiles_158 hw (fun h hw => ?_)
    refine V_aload_n 0 rfl rfl dX11_compiles_161 ?_
    refine X_getR (c := 11) (k := 59) fa_X11_175 rfl dX11_compiles_162 hw (fun v53 hw => ?_)
    refine V_aload_n 0 rfl rfl dX11_compiles_165 ?_
    refine V_dup (rf_cat _) dX11_compiles_166 ?_
    refine X_getI (c := 11) (k := 65) fa_X11_308 rfl dX11_compiles_167 hw (fun v54 hw => ?_)
    refine V_dup_x1 rfl (rf_cat _) dX11_compiles_170 ?_
    refine V_iconst (v := 1) (by decide) dX11_compiles_171 ?_
    refine V_iadd dX11_compiles_172 ?_
    refine X_putI (c := 11) (k := 65) fa_X11_308 (Or.inl rfl) rfl dX11_compiles_173 hw (fun h hw => ?_)
    refine V_iload 4 rfl dX11_compiles_176 ?_
    refine X_stI dX11_compiles_178 hw (fun h hw => ?_)
    refine V_iload 4 rfl dX11_compiles_179 ?_
    refine V_bipush (v := 40) (by decide) dX11_compiles_181 ?_
    refine V_icmp_ne (tgt := 189) dX11_compiles_183 (by decide) hw (fun hw => ?_) (fun hw => ?_)
    · refine V_iincL (n := 1) 2 (fun z => [(3, .int z), (0, va_rf l0), (2, .int l2), (4, .int l4), (5, .int l5)]) rfl (by rfl) (by decide) (fun _ => rfl) dX11_compiles_186 hw (fun x55 hw => ?_)
      exact V.sub [1, 2, 0, 3] rfl (s_X11_compiles_189 hK96 hw)
    · exact V.sub [0, 1, 2, 3] rfl (s_X11_compiles_189 hK96 hw)
theorem sb_X11_compiles_96 {l : Launch} {G : Gh} {l0 : Option Nat} {l2 : Int32} {l3 : Int32} {l4 : Int32} {h : Hp} {Q : Int32 → Hp → Prop} {K96 : Int32 → Int32 → Hp → Prop} (hK96 : ∀ (l3 : Int32) (l4 : Int32) (h : Hp), K96 l3 l4 h → V l G 6 yX11_compiles cX11_compiles 6 (some .int) 96 [(0, va_rf l0), (2, .int l2), (3, .int l3), (4, .int l4)] [] h (qI Q)) (hw : b_X11_compiles_96 l0 l2 l3 l4 h Q K96) : V l G 6 yX11_compiles cX11_compiles 6 (some .int) 96 [(0, va_rf l0), (2, .int l2), (3, .int l3), (4, .int l4)] [] h (qI Q) := by
  unfold b_X11_compiles_96 at hw
  refine V_aload_n 0 rfl rfl dX11_compiles_96 ?_
  refine X_getI (c := 11) (k := 60) fa_X11_270 rfl dX11_compiles_97 hw (fun v9 hw => ?_)
  refine V_aload_n 0 rfl rfl dX11_compiles_100 ?_
  refine X_getI (c := 11) (k := 61) fa_X11_273 rfl dX11_compiles_101 hw (fun v10 hw => ?_)
  refine V_icmp_ne (tgt := 112) dX11_compiles_104 (by decide) hw (fun hw => ?_) (fun hw => ?_)
  · refine V_aload_n 0 rfl rfl dX11_compiles_107 ?_
    refine X_getI (c := 11) (k := 61) fa_X11_273 rfl dX11_compiles_108 hw (fun v11 hw => ?_)
    exact V_iret rfl dX11_compiles_111 ⟨_, rfl, hw⟩
  · refine V_aload_n 0 rfl rfl dX11_compiles_112 ?_
    refine X_cV 11 [] [] ma_X11_279 (by decide) rfl (by decide) (by decide) rfl (by simp [cat_i, cat_l, rf_cat]) rfl dX11_compiles_113 hw (r_X11_letter _) (k_I (fun v12 h hw => ?_))
    refine V_istore (i := 5) [(5, .int v12), (0, va_rf l0), (2, .int l2), (3, .int l3), (4, .int l4)] (by decide) rfl dX11_compiles_116 ?_
    refine V_iload 4 rfl dX11_compiles_118 ?_
    refine V_if_eq (tgt := 202) dX11_compiles_120 (by decide) hw (fun hw => ?_) (fun hw => ?_)
    · exact V.sub [1, 2, 3, 4, 0] rfl (s_X11_compiles_202 hK96 hw)
    · refine V_iload 0 rfl dX11_compiles_123 ?_
      refine V_bipush (v := 33) (by decide) dX11_compiles_125 ?_
      refine V_icmp_eq (tgt := 137) dX11_compiles_127 (by decide) hw (fun hw => ?_) (fun hw => ?_)
      · exact V.sub [1, 2, 3, 4, 0] rfl (s_X11_compiles_137 hK96 hw)
      · refine V_iload 0 rfl dX11_compiles_130 ?_
        refine V_bipush (v := 40) (by decide) dX11_compiles_132 ?_
        refine V_icmp_ne (tgt := 202) dX11_compiles_134 (by decide) hw (fun hw => ?_) (fun hw => ?_)
        · exact V.sub [1, 2, 3, 4, 0] rfl (s_X11_compiles_137 hK96 hw)
        · exact V.sub [1, 2, 3, 4, 0] rfl (s_X11_compiles_202 hK96 hw)
theorem s_X11_compiles_96 {l : Launch} {G : Gh} {l0 : Option Nat} {l2 : Int32} {l3 : Int32} {l4 : Int32} {h : Hp} {Q : Int32 → Hp → Prop}  (hw : l_X11_compiles_96 l0 l2 l3 l4 h Q) : V l G 6 yX11_compiles cX11_compiles 6 (some .int) 96 [(0, va_rf l0), (2, .int l2), (3, .int l3), (4, .int l4)] [] h (qI Q) :=
  Lo.ind (P := fun (s : Int32 × Int32) h => V l G 6 yX11_compiles cX11_compiles 6 (some .int) 96 [(0, va_rf l0), (2, .int l2), (3, .int s.1), (4, .int s.2)] [] h (qI Q)) (fun K ih s h hw => sb_X11_compiles_96 (fun l3 l4 h hk => ih (l3, l4) h hk) hw) hw
set_option maxRecDepth 20000 in
theorem s_X11_compiles_0 {l : Launch} {G : Gh} {l0 : Option Nat} {l1 : Int32} {l2 : Int32} {h : Hp} {Q : Int32 → Hp → Prop}  (hw : n_X11_compiles_0 l0 l1 l2 h Q) : V l G 6 yX11_compiles cX11_compiles 6 (some .int) 0 [(0, va_rf l0), (1, .int l1), (2, .int l2)] [] h (qI Q) := by
  unfold n_X11_compiles_0 at hw
  refine V_aload_n 0 rfl rfl dX11_compiles_0 ?_
  refine V_bipush (v := 60) (by decide) dX11_compiles_1 ?_
  refine V_iload_n 1 rfl rfl dX11_compiles_3 ?_
  refine V_imul dX11_compiles_4 ?_
  refine X_putI (c := 11) (k := 62) fa_X11_276 (Or.inl rfl) rfl dX11_compiles_5 hw (fun h hw => ?_)
  refine V_aload_n 0 rfl rfl dX11_compiles_8 ?_
  refine V_aload_n 0 rfl rfl dX11_compiles_9 ?_
  refine X_getR (c := 11) (k := 18) fa_X11_51 rfl dX11_compiles_10 hw (fun v1 hw => ?_)
  refine V_iload_n 1 rfl rfl dX11_compiles_13 ?_
  refine X_ldI dX11_compiles_14 hw (fun v2 hw => ?_)
  refine X_putI (c := 11) (k := 61) fa_X11_273 (Or.inl rfl) rfl dX11_compiles_15 hw (fun h hw => ?_)
  refine V_aload_n 0 rfl rfl dX11_compiles_18 ?_
  refine V_iconst (v := 0) (by decide) dX11_compiles_19 ?_
  refine X_putI (c := 11) (k := 60) fa_X11_270 (Or.inl rfl) rfl dX11_compiles_20 hw (fun h hw => ?_)
  refine V_aload_n 0 rfl rfl dX11_compiles_23 ?_
  refine V_iconst (v := 0) (by decide) dX11_compiles_24 ?_
  refine X_putI (c := 11) (k := 63) fa_X11_305 (Or.inl rfl) rfl dX11_compiles_25 hw (fun h hw => ?_)
  refine V_aload_n 0 rfl rfl dX11_compiles_28 ?_
  refine V_iconst (v := 0) (by decide) dX11_compiles_29 ?_
  refine X_putI (c := 11) (k := 64) fa_X11_299 (Or.inl rfl) rfl dX11_compiles_30 hw (fun h hw => ?_)
  refine V_aload_n 0 rfl rfl dX11_compiles_33 ?_
  refine V_iconst (v := 0) (by decide) dX11_compiles_34 ?_
  refine X_putI (c := 11) (k := 65) fa_X11_308 (Or.inl rfl) rfl dX11_compiles_35 hw (fun h hw => ?_)
  refine V_aload_n 0 rfl rfl dX11_compiles_38 ?_
  refine V_iconst (v := 0) (by decide) dX11_compiles_39 ?_
  refine X_putI (c := 11) (k := 66) fa_X11_311 (Or.inl rfl) rfl dX11_compiles_40 hw (fun h hw => ?_)
  refine V_aload_n 0 rfl rfl dX11_compiles_43 ?_
  refine V_bipush (v := 107) (by decide) dX11_compiles_44 ?_
  refine X_cV 11 [.int 107] [] ma_X11_283 (by decide) rfl (by decide) (by decide) rfl (by simp [cat_i, cat_l, rf_cat]) rfl dX11_compiles_46 hw (r_X11_is _ _) (k_I (fun v3 h hw => ?_))
  refine V_if_ne (tgt := 57) dX11_compiles_49 (by decide) hw (fun hw => ?_) (fun hw => ?_)
  · refine V_aload_n 0 rfl rfl dX11_compiles_52 ?_
    refine X_getI (c := 11) (k := 60) fa_X11_270 rfl dX11_compiles_53 hw (fun v4 hw => ?_)
    exact V_iret rfl dX11_compiles_56 ⟨_, rfl, hw⟩
  · refine V_aload_n 0 rfl rfl dX11_compiles_57 ?_
    refine V_dup (rf_cat _) dX11_compiles_58 ?_
    refine X_getI (c := 11) (k := 60) fa_X11_270 rfl dX11_compiles_59 hw (fun v5 hw => ?_)
    refine V_iconst (v := 1) (by decide) dX11_compiles_62 ?_
    refine V_iadd dX11_compiles_63 ?_
    refine X_putI (c := 11) (k := 60) fa_X11_270 (Or.inl rfl) rfl dX11_compiles_64 hw (fun h hw => ?_)
    refine V_aload_n 0 rfl rfl dX11_compiles_67 ?_
    refine V_bipush (v := 58) (by decide) dX11_compiles_68 ?_
    refine X_cV 11 [.int 58] [] ma_X11_283 (by decide) rfl (by decide) (by decide) rfl (by simp [cat_i, cat_l, rf_cat]) rfl dX11_compiles_70 hw (r_X11_is _ _) (k_I (fun v6 h hw => ?_))
    refine V_if_ne (tgt := 81) dX11_compiles_73 (by decide) hw (fun hw => ?_) (fun hw => ?_)
    · refine V_aload_n 0 rfl rfl dX11_compiles_76 ?_
      refine X_getI (c := 11) (k := 60) fa_X11_270 rfl dX11_compiles_77 hw (fun v7 hw => ?_)
      exact V_iret rfl dX11_compiles_80 ⟨_, rfl, hw⟩
    · refine V_aload_n 0 rfl rfl dX11_compiles_81 ?_
      refine V_dup (rf_cat _) dX11_compiles_82 ?_
      refine X_getI (c := 11) (k := 60) fa_X11_270 rfl dX11_compiles_83 hw (fun v8 hw => ?_)
      refine V_iconst (v := 1) (by decide) dX11_compiles_86 ?_
      refine V_iadd dX11_compiles_87 ?_
      refine X_putI (c := 11) (k := 60) fa_X11_270 (Or.inl rfl) rfl dX11_compiles_88 hw (fun h hw => ?_)
      refine V_iconst (v := 0) (by decide) dX11_compiles_91 ?_
      refine V_istore_n (i := 3) [(3, .int 0), (0, va_rf l0), (1, .int l1), (2, .int l2)] rfl (by decide) rfl dX11_compiles_92 ?_
      refine V_iconst (v := 1) (by decide) dX11_compiles_93 ?_
      refine V_istore (i := 4) [(4, .int 1), (3, .int 0), (0, va_rf l0), (1, .int l1), (2, .int l2)] (by decide) rfl dX11_compiles_94 ?_
      exact V.sub [2, 4, 1, 0] rfl (s_X11_compiles_96 hw)
theorem r_X11_compiles {l : Launch} {G : Gh} (l0 : Option Nat) (l1 : Int32) (l2 : Int32) {h : Hp} {Q : Int32 → Hp → Prop} (hw : w_X11_compiles l0 l1 l2 h Q) : RunQ l G 6 yX11_compiles cX11_compiles 6 (some .int) [va_rf l0, .int l1, .int l2] h (qI Q) :=
  V_run rfl (sl_len _ _ (by simp [cat_i, cat_l, rf_cat])) (V.sub [0, 1, 2] (by simp only [la_r, la_i, la_l, la_n]; rfl) (s_X11_compiles_0 hw))
def n_X11_copy_14 (l0 : Option Nat) (h : Hp) (Q : Int32 → Hp → Prop) : Prop :=
  oV h l0 12 <| w_X11_no l0 (-1) h <| fun v2 h =>
  Q v2 h
def n_X11_copy_75 (l0 : Option Nat) (h : Hp) (Q : Int32 → Hp → Prop) : Prop :=
  oV h l0 12 <| w_X11_no l0 (-2) h <| fun v6 h =>
  Q v6 h
def n_X11_copy_100 (l0 : Option Nat) (h : Hp) (Q : Int32 → Hp → Prop) : Prop :=
  oV h l0 12 <| w_X11_no l0 (-3) h <| fun v19 h =>
  Q v19 h
def n_X11_copy_155 (l0 : Option Nat) (h : Hp) (Q : Int32 → Hp → Prop) : Prop :=
  oV h l0 12 <| w_X11_no l0 (-5) h <| fun v22 h =>
  Q v22 h
def b_X11_copy_202 (l0 : Option Nat) (l2 : Int32) (l4 : Int32) (l5 : Int32) (l6 : Int32) (h : Hp) (Q : Int32 → Hp → Prop) (K202 : Int32 → Hp → Prop) : Prop :=
  br (l5 ≤ l6) (
    Q 1 h) (
    gR h l0 12 1428 fun v27 =>
    gR h l0 12 1429 fun v28 =>
    ldL h v28 l6 fun v29 =>
    stL h v27 (((60 * l2) + l4) + l6) v29 fun h =>
    lt (l6 + 1) fun x30 =>
    K202 x30 h)
def l_X11_copy_202 (l0 : Option Nat) (l2 : Int32) (l4 : Int32) (l5 : Int32) (l6 : Int32) (h : Hp) (Q : Int32 → Hp → Prop) : Prop :=
  Lo (fun (K : Int32 → Hp → Prop) s h => b_X11_copy_202 l0 l2 l4 l5 s h Q (fun l6 h => K (l6) h)) (l6) h
def b_X11_copy_165 (l0 : Option Nat) (l1 : Int32) (l2 : Int32) (l3 : Int32) (l4 : Int32) (l5 : Int32) (l6 : Int32) (h : Hp) (Q : Int32 → Hp → Prop) (K165 : Int32 → Hp → Prop) : Prop :=
  br (l5 ≤ l6) (
    l_X11_copy_202 l0 l2 l4 l5 0 h Q) (
    gR h l0 12 1429 fun v31 =>
    gR h l0 12 1428 fun v32 =>
    ldL h v32 (((60 * l1) + l3) + l6) fun v33 =>
    stL h v31 l6 v33 fun h =>
    lt (l6 + 1) fun x34 =>
    K165 x34 h)
def l_X11_copy_165 (l0 : Option Nat) (l1 : Int32) (l2 : Int32) (l3 : Int32) (l4 : Int32) (l5 : Int32) (l6 : Int32) (h : Hp) (Q : Int32 → Hp → Prop) : Prop :=
  Lo (fun (K : Int32 → Hp → Prop) s h => b_X11_copy_165 l0 l1 l2 l3 l4 l5 s h Q (fun l6 h => K (l6) h)) (l6) h
def n_X11_copy_82 (l0 : Option Nat) (l1 : Int32) (l2 : Int32) (l3 : Int32) (l4 : Int32) (l5 : Int32) (h : Hp) (Q : Int32 → Hp → Prop) : Prop :=
  gR h l0 12 1424 fun v17 =>
  ldI h v17 l1 fun v18 =>
  br (v18 = 0) (
    n_X11_copy_100 l0 h Q) (
    gR h l0 12 1424 fun v20 =>
    ldI h v20 l2 fun v21 =>
    br (v21 = 0) (
      n_X11_copy_100 l0 h Q) (
      br (0 ≤ l5) (
        br (l3 < 0) (
          n_X11_copy_155 l0 h Q) (
          br (l4 < 0) (
            n_X11_copy_155 l0 h Q) (
            gR h l0 12 1426 fun v23 =>
            ldI h v23 l1 fun v24 =>
            br ((v24 - l5) < l3) (
              n_X11_copy_155 l0 h Q) (
              gR h l0 12 1426 fun v25 =>
              ldI h v25 l2 fun v26 =>
              br (l4 ≤ (v26 - l5)) (
                l_X11_copy_165 l0 l1 l2 l3 l4 l5 0 h Q) (
                n_X11_copy_155 l0 h Q))))) (
        oV h l0 12 <| w_X11_no l0 (-4) h <| fun v35 h =>
        Q v35 h)))
def n_X11_copy_0 (l0 : Option Nat) (l1 : Int32) (l2 : Int32) (l3 : Int32) (l4 : Int32) (l5 : Int32) (h : Hp) (Q : Int32 → Hp → Prop) : Prop :=
  w_X11_isShelf l1 h <| fun v1 h =>
  br (v1 = 0) (
    n_X11_copy_14 l0 h Q) (
    w_X11_isShelf l2 h <| fun v3 h =>
    br (v3 = 0) (
      n_X11_copy_14 l0 h Q) (
      gR h l0 12 1424 fun v4 =>
      ldI h v4 l1 fun v5 =>
      br (v5 = 2) (
        n_X11_copy_75 l0 h Q) (
        gR h l0 12 1424 fun v7 =>
        ldI h v7 l2 fun v8 =>
        br (v8 = 2) (
          n_X11_copy_75 l0 h Q) (
          gR h l0 12 1424 fun v9 =>
          ldI h v9 l1 fun v10 =>
          br (v10 = 1) (
            gR h l0 12 1424 fun v11 =>
            ldI h v11 l2 fun v12 =>
            br (v12 = 1) (
              gR h l0 12 1425 fun v13 =>
              ldI h v13 l1 fun v14 =>
              gR h l0 12 1425 fun v15 =>
              ldI h v15 l2 fun v16 =>
              br (v14 = v16) (
                n_X11_copy_82 l0 l1 l2 l3 l4 l5 h Q) (
                n_X11_copy_75 l0 h Q)) (
              n_X11_copy_82 l0 l1 l2 l3 l4 l5 h Q)) (
            n_X11_copy_82 l0 l1 l2 l3 l4 l5 h Q)))))
def w_X11_copy (l0 : Option Nat) (l1 : Int32) (l2 : Int32) (l3 : Int32) (l4 : Int32) (l5 : Int32) (h : Hp) (Q : Int32 → Hp → Prop) : Prop := n_X11_copy_0 l0 l1 l2 l3 l4 l5 h Q
theorem s_X11_copy_14 {l : Launch} {G : Gh} {l0 : Option Nat} {h : Hp} {Q : Int32 → Hp → Prop}  (hw : n_X11_copy_14 l0 h Q) : V l G 2 yX11_copy cX11_copy 7 (some .int) 14 [(0, va_rf l0)] [] h (qI Q) := by
  unfold n_X11_copy_14 at hw
  refine V_aload_n 0 rfl rfl dX11_copy_14 ?_
  refine V_iconst (v := (-1)) (by decide) dX11_copy_15 ?_
  refine X_cV 11 [.int (-1)] [] ma_X11_212 (by decide) rfl (by decide) (by decide) rfl (by simp [cat_i, cat_l, rf_cat]) rfl dX11_copy_16 hw (r_X11_no _ _) (k_I (fun v2 h hw => ?_))
  exact V_iret rfl dX11_copy_19 ⟨_, rfl, hw⟩
theorem s_X11_copy_75 {l : Launch} {G : Gh} {l0 : Option Nat} {h : Hp} {Q : Int32 → Hp → Prop}  (hw : n_X11_copy_75 l0 h Q) : V l G 2 yX11_copy cX11_copy 7 (some .int) 75 [(0, va_rf l0)] [] h (qI Q) := by
  unfold n_X11_copy_75 at hw
  refine V_aload_n 0 rfl rfl dX11_copy_75 ?_
  refine V_bipush (v := (-2)) (by decide) dX11_copy_76 ?_
  refine X_cV 11 [.int (-2)] [] ma_X11_212 (by decide) rfl (by decide) (by decide) rfl (by simp [cat_i, cat_l, rf_cat]) rfl dX11_copy_78 hw (r_X11_no _ _) (k_I (fun v6 h hw => ?_))
  exact V_iret rfl dX11_copy_81 ⟨_, rfl, hw⟩
theorem s_X11_copy_100 {l : Launch} {G : Gh} {l0 : Option Nat} {h : Hp} {Q : Int32 → Hp → Prop}  (hw : n_X11_copy_100 l0 h Q) : V l G 2 yX11_copy cX11_copy 7 (some .int) 100 [(0, va_rf l0)] [] h (qI Q) := by
  unfold n_X11_copy_100 at hw
  refine V_aload_n 0 rfl rfl dX11_copy_100 ?_
  refine V_bipush (v := (-3)) (by decide) dX11_copy_101 ?_
  refine X_cV 11 [.int (-3)] [] ma_X11_212 (by decide) rfl (by decide) (by decide) rfl (by simp [cat_i, cat_l, rf_cat]) rfl dX11_copy_103 hw (r_X11_no _ _) (k_I (fun v19 h hw => ?_))
  exact V_iret rfl dX11_copy_106 ⟨_, rfl, hw⟩
theorem s_X11_copy_155 {l : Launch} {G : Gh} {l0 : Option Nat} {h : Hp} {Q : Int32 → Hp → Prop}  (hw : n_X11_copy_155 l0 h Q) : V l G 2 yX11_copy cX11_copy 7 (some .int) 155 [(0, va_rf l0)] [] h (qI Q) := by
  unfold n_X11_copy_155 at hw
  refine V_aload_n 0 rfl rfl dX11_copy_155 ?_
  refine V_bipush (v := (-5)) (by decide) dX11_copy_156 ?_
  refine X_cV 11 [.int (-5)] [] ma_X11_212 (by decide) rfl (by decide) (by decide) rfl (by simp [cat_i, cat_l, rf_cat]) rfl dX11_copy_158 hw (r_X11_no _ _) (k_I (fun v22 h hw => ?_))
  exact V_iret rfl dX11_copy_161 ⟨_, rfl, hw⟩
theorem sb_X11_copy_202 {l : Launch} {G : Gh} {l0 : Option Nat} {l2 : Int32} {l4 : Int32} {l5 : Int32} {l6 : Int32} {h : Hp} {Q : Int32 → Hp → Prop} {K202 : Int32 → Hp → Prop} (hK202 : ∀ (l6 : Int32) (h : Hp), K202 l6 h → V l G 2 yX11_copy cX11_copy 7 (some .int) 202 [(0, va_rf l0), (2, .int l2), (4, .int l4), (5, .int l5), (6, .int l6)] [] h (qI Q)) (hw : b_X11_copy_202 l0 l2 l4 l5 l6 h Q K202) : V l G 2 yX11_copy cX11_copy 7 (some .int) 202 [(0, va_rf l0), (2, .int l2), (4, .int l4), (5, .int l5), (6, .int l6)] [] h (qI Q) := by
  unfold b_X11_copy_202 at hw
  refine V_iload 4 rfl dX11_copy_202 ?_
  refine V_iload 3 rfl dX11_copy_204 ?_
  refine V_icmp_ge (tgt := 237) dX11_copy_206 (by decide) hw (fun hw => ?_) (fun hw => ?_)
  · refine V_iconst (v := 1) (by decide) dX11_copy_237 ?_
    exact V_iret rfl dX11_copy_238 ⟨_, rfl, hw⟩
  · refine V_aload_n 0 rfl rfl dX11_copy_209 ?_
    refine X_getR (c := 11) (k := 20) fa_X11_57 rfl dX11_copy_210 hw (fun v27 hw => ?_)
    refine V_bipush (v := 60) (by decide) dX11_copy_213 ?_
    refine V_iload_n 1 rfl rfl dX11_copy_215 ?_
    refine V_imul dX11_copy_216 ?_
    refine V_iload 2 rfl dX11_copy_217 ?_
    refine V_iadd dX11_copy_219 ?_
    refine V_iload 4 rfl dX11_copy_220 ?_
    refine V_iadd dX11_copy_222 ?_
    refine V_aload_n 0 rfl rfl dX11_copy_223 ?_
    refine X_getR (c := 11) (k := 21) fa_X11_61 rfl dX11_copy_224 hw (fun v28 hw => ?_)
    refine V_iload 4 rfl dX11_copy_227 ?_
    refine X_ldL dX11_copy_229 hw (fun v29 hw => ?_)
    refine X_stL dX11_copy_230 hw (fun h hw => ?_)
    refine V_iincL (n := 1) 4 (fun z => [(6, .int z), (0, va_rf l0), (2, .int l2), (4, .int l4), (5, .int l5)]) rfl (by rfl) (by decide) (fun _ => rfl) dX11_copy_231 hw (fun x30 hw => ?_)
    refine V_goto (tgt := 202) dX11_copy_234 (by decide) ?_
    exact V.sub [1, 2, 3, 4, 0] rfl (hK202 _ _ hw)
theorem s_X11_copy_202 {l : Launch} {G : Gh} {l0 : Option Nat} {l2 : Int32} {l4 : Int32} {l5 : Int32} {l6 : Int32} {h : Hp} {Q : Int32 → Hp → Prop}  (hw : l_X11_copy_202 l0 l2 l4 l5 l6 h Q) : V l G 2 yX11_copy cX11_copy 7 (some .int) 202 [(0, va_rf l0), (2, .int l2), (4, .int l4), (5, .int l5), (6, .int l6)] [] h (qI Q) :=
  Lo.ind (P := fun (s : Int32) h => V l G 2 yX11_copy cX11_copy 7 (some .int) 202 [(0, va_rf l0), (2, .int l2), (4, .int l4), (5, .int l5), (6, .int s)] [] h (qI Q)) (fun K ih s h hw => sb_X11_copy_202 (fun l6 h hk => ih (l6) h hk) hw) hw
theorem sb_X11_copy_165 {l : Launch} {G : Gh} {l0 : Option Nat} {l1 : Int32} {l2 : Int32} {l3 : Int32} {l4 : Int32} {l5 : Int32} {l6 : Int32} {h : Hp} {Q : Int32 → Hp → Prop} {K165 : Int32 → Hp → Prop} (hK165 : ∀ (l6 : Int32) (h : Hp), K165 l6 h → V l G 2 yX11_copy cX11_copy 7 (some .int) 165 [(0, va_rf l0), (1, .int l1), (2, .int l2), (3, .int l3), (4, .int l4), (5, .int l5), (6, .int l6)] [] h (qI Q)) (hw : b_X11_copy_165 l0 l1 l2 l3 l4 l5 l6 h Q K165) : V l G 2 yX11_copy cX11_copy 7 (some .int) 165 [(0, va_rf l0), (1, .int l1), (2, .int l2), (3, .int l3), (4, .int l4), (5, .int l5), (6, .int l6)] [] h (qI Q) := by
  unfold b_X11_copy_165 at hw
  refine V_iload 6 rfl dX11_copy_165 ?_
  refine V_iload 5 rfl dX11_copy_167 ?_
  refine V_icmp_ge (tgt := 199) dX11_copy_169 (by decide) hw (fun hw => ?_) (fun hw => ?_)
  · refine V_iconst (v := 0) (by decide) dX11_copy_199 ?_
    refine V_istore (i := 6) [(6, .int 0), (0, va_rf l0), (1, .int l1), (2, .int l2), (3, .int l3), (4, .int l4), (5, .int l5)] (by decide) rfl dX11_copy_200 ?_
    exact V.sub [1, 3, 5, 6, 0] rfl (s_X11_copy_202 hw)
  · refine V_aload_n 0 rfl rfl dX11_copy_172 ?_
    refine X_getR (c := 11) (k := 21) fa_X11_61 rfl dX11_copy_173 hw (fun v31 hw => ?_)
    refine V_iload 6 rfl dX11_copy_176 ?_
    refine V_aload_n 0 rfl rfl dX11_copy_178 ?_
    refine X_getR (c := 11) (k := 20) fa_X11_57 rfl dX11_copy_179 hw (fun v32 hw => ?_)
    refine V_bipush (v := 60) (by decide) dX11_copy_182 ?_
    refine V_iload_n 1 rfl rfl dX11_copy_184 ?_
    refine V_imul dX11_copy_185 ?_
    refine V_iload_n 3 rfl rfl dX11_copy_186 ?_
    refine V_iadd dX11_copy_187 ?_
    refine V_iload 6 rfl dX11_copy_188 ?_
    refine V_iadd dX11_copy_190 ?_
    refine X_ldL dX11_copy_191 hw (fun v33 hw => ?_)
    refine X_stL dX11_copy_192 hw (fun h hw => ?_)
    refine V_iincL (n := 1) 6 (fun z => [(6, .int z), (0, va_rf l0), (1, .int l1), (2, .int l2), (3, .int l3), (4, .int l4), (5, .int l5)]) rfl (by rfl) (by decide) (fun _ => rfl) dX11_copy_193 hw (fun x34 hw => ?_)
    refine V_goto (tgt := 165) dX11_copy_196 (by decide) ?_
    exact V.sub [1, 2, 3, 4, 5, 6, 0] rfl (hK165 _ _ hw)
theorem s_X11_copy_165 {l : Launch} {G : Gh} {l0 : Option Nat} {l1 : Int32} {l2 : Int32} {l3 : Int32} {l4 : Int32} {l5 : Int32} {l6 : Int32} {h : Hp} {Q : Int32 → Hp → Prop}  (hw : l_X11_copy_165 l0 l1 l2 l3 l4 l5 l6 h Q) : V l G 2 yX11_copy cX11_copy 7 (some .int) 165 [(0, va_rf l0), (1, .int l1), (2, .int l2), (3, .int l3), (4, .int l4), (5, .int l5), (6, .int l6)] [] h (qI Q) :=
  Lo.ind (P := fun (s : Int32) h => V l G 2 yX11_copy cX11_copy 7 (some .int) 165 [(0, va_rf l0), (1, .int l1), (2, .int l2), (3, .int l3), (4, .int l4), (5, .int l5), (6, .int s)] [] h (qI Q)) (fun K ih s h hw => sb_X11_copy_165 (fun l6 h hk => ih (l6) h hk) hw) hw
set_option maxRecDepth 20000 in
theorem s_X11_copy_82 {l : Launch} {G : Gh} {l0 : Option Nat} {l1 : Int32} {l2 : Int32} {l3 : Int32} {l4 : Int32} {l5 : Int32} {h : Hp} {Q : Int32 → Hp → Prop}  (hw : n_X11_copy_82 l0 l1 l2 l3 l4 l5 h Q) : V l G 2 yX11_copy cX11_copy 7 (some .int) 82 [(0, va_rf l0), (1, .int l1), (2, .int l2), (3, .int l3), (4, .int l4), (5, .int l5)] [] h (qI Q) := by
  unfold n_X11_copy_82 at hw
  refine V_aload_n 0 rfl rfl dX11_copy_82 ?_
  refine X_getR (c := 11) (k := 16) fa_X11_45 rfl dX11_copy_83 hw (fun v17 hw => ?_)
  refine V_iload_n 1 rfl rfl dX11_copy_86 ?_
  refine X_ldI dX11_copy_87 hw (fun v18 hw => ?_)
  refine V_if_eq (tgt := 100) dX11_copy_88 (by decide) hw (fun hw => ?_) (fun hw => ?_)
  · exact V.sub [0] rfl (s_X11_copy_100 hw)
  · refine V_aload_n 0 rfl rfl dX11_copy_91 ?_
    refine X_getR (c := 11) (k := 16) fa_X11_45 rfl dX11_copy_92 hw (fun v20 hw => ?_)
    refine V_iload_n 2 rfl rfl dX11_copy_95 ?_
    refine X_ldI dX11_copy_96 hw (fun v21 hw => ?_)
    refine V_if_ne (tgt := 107) dX11_copy_97 (by decide) hw (fun hw => ?_) (fun hw => ?_)
    · exact V.sub [0] rfl (s_X11_copy_100 hw)
    · refine V_iload 5 rfl dX11_copy_107 ?_
      refine V_if_ge (tgt := 119) dX11_copy_109 (by decide) hw (fun hw => ?_) (fun hw => ?_)
      · refine V_iload_n 3 rfl rfl dX11_copy_119 ?_
        refine V_if_lt (tgt := 155) dX11_copy_120 (by decide) hw (fun hw => ?_) (fun hw => ?_)
        · exact V.sub [0] rfl (s_X11_copy_155 hw)
        · refine V_iload 4 rfl dX11_copy_123 ?_
          refine V_if_lt (tgt := 155) dX11_copy_125 (by decide) hw (fun hw => ?_) (fun hw => ?_)
          · exact V.sub [0] rfl (s_X11_copy_155 hw)
          · refine V_iload_n 3 rfl rfl dX11_copy_128 ?_
            refine V_aload_n 0 rfl rfl dX11_copy_129 ?_
            refine X_getR (c := 11) (k := 18) fa_X11_51 rfl dX11_copy_130 hw (fun v23 hw => ?_)
            refine V_iload_n 1 rfl rfl dX11_copy_133 ?_
            refine X_ldI dX11_copy_134 hw (fun v24 hw => ?_)
            refine V_iload 5 rfl dX11_copy_135 ?_
            refine V_isub dX11_copy_137 ?_
            refine V_icmp_gt (tgt := 155) dX11_copy_138 (by decide) hw (fun hw => ?_) (fun hw => ?_)
            · exact V.sub [0] rfl (s_X11_copy_155 hw)
            · refine V_iload 4 rfl dX11_copy_141 ?_
              refine V_aload_n 0 rfl rfl dX11_copy_143 ?_
              refine X_getR (c := 11) (k := 18) fa_X11_51 rfl dX11_copy_144 hw (fun v25 hw => ?_)
              refine V_iload_n 2 rfl rfl dX11_copy_147 ?_
              refine X_ldI dX11_copy_148 hw (fun v26 hw => ?_)
              refine V_iload 5 rfl dX11_copy_149 ?_
              refine V_isub dX11_copy_151 ?_
              refine V_icmp_le (tgt := 162) dX11_copy_152 (by decide) hw (fun hw => ?_) (fun hw => ?_)
              · refine V_iconst (v := 0) (by decide) dX11_copy_162 ?_
                refine V_istore (i := 6) [(6, .int 0), (0, va_rf l0), (1, .int l1), (2, .int l2), (3, .int l3), (4, .int l4), (5, .int l5)] (by decide) rfl dX11_copy_163 ?_
                exact V.sub [1, 2, 3, 4, 5, 6, 0] rfl (s_X11_copy_165 hw)
              · exact V.sub [0] rfl (s_X11_copy_155 hw)
      · refine V_aload_n 0 rfl rfl dX11_copy_112 ?_
        refine V_bipush (v := (-4)) (by decide) dX11_copy_113 ?_
        refine X_cV 11 [.int (-4)] [] ma_X11_212 (by decide) rfl (by decide) (by decide) rfl (by simp [cat_i, cat_l, rf_cat]) rfl dX11_copy_115 hw (r_X11_no _ _) (k_I (fun v35 h hw => ?_))
        exact V_iret rfl dX11_copy_118 ⟨_, rfl, hw⟩
set_option maxRecDepth 20000 in
theorem s_X11_copy_0 {l : Launch} {G : Gh} {l0 : Option Nat} {l1 : Int32} {l2 : Int32} {l3 : Int32} {l4 : Int32} {l5 : Int32} {h : Hp} {Q : Int32 → Hp → Prop}  (hw : n_X11_copy_0 l0 l1 l2 l3 l4 l5 h Q) : V l G 2 yX11_copy cX11_copy 7 (some .int) 0 [(0, va_rf l0), (1, .int l1), (2, .int l2), (3, .int l3), (4, .int l4), (5, .int l5)] [] h (qI Q) := by
  unfold n_X11_copy_0 at hw
  refine V_iload_n 1 rfl rfl dX11_copy_0 ?_
  refine X_cS [.int l1] [] ma_X11_237 (by decide) (by decide) rfl (by simp [cat_i, cat_l, rf_cat]) rfl dX11_copy_1 (r_X11_isShelf _ hw) (k_I (fun v1 h hw => ?_))
  refine V_if_eq (tgt := 14) dX11_copy_4 (by decide) hw (fun hw => ?_) (fun hw => ?_)
  · exact V.sub [0] rfl (s_X11_copy_14 hw)
  · refine V_iload_n 2 rfl rfl dX11_copy_7 ?_
    refine X_cS [.int l2] [] ma_X11_237 (by decide) (by decide) rfl (by simp [cat_i, cat_l, rf_cat]) rfl dX11_copy_8 (r_X11_isShelf _ hw) (k_I (fun v3 h hw => ?_))
    refine V_if_ne (tgt := 20) dX11_copy_11 (by decide) hw (fun hw => ?_) (fun hw => ?_)
    · exact V.sub [0] rfl (s_X11_copy_14 hw)
    · refine V_aload_n 0 rfl rfl dX11_copy_20 ?_
      refine X_getR (c := 11) (k := 16) fa_X11_45 rfl dX11_copy_21 hw (fun v4 hw => ?_)
      refine V_iload_n 1 rfl rfl dX11_copy_24 ?_
      refine X_ldI dX11_copy_25 hw (fun v5 hw => ?_)
      refine V_iconst (v := 2) (by decide) dX11_copy_26 ?_
      refine V_icmp_eq (tgt := 75) dX11_copy_27 (by decide) hw (fun hw => ?_) (fun hw => ?_)
      · exact V.sub [0] rfl (s_X11_copy_75 hw)
      · refine V_aload_n 0 rfl rfl dX11_copy_30 ?_
        refine X_getR (c := 11) (k := 16) fa_X11_45 rfl dX11_copy_31 hw (fun v7 hw => ?_)
        refine V_iload_n 2 rfl rfl dX11_copy_34 ?_
        refine X_ldI dX11_copy_35 hw (fun v8 hw => ?_)
        refine V_iconst (v := 2) (by decide) dX11_copy_36 ?_
        refine V_icmp_eq (tgt := 75) dX11_copy_37 (by decide) hw (fun hw => ?_) (fun hw => ?_)
        · exact V.sub [0] rfl (s_X11_copy_75 hw)
        · refine V_aload_n 0 rfl rfl dX11_copy_40 ?_
          refine X_getR (c := 11) (k := 16) fa_X11_45 rfl dX11_copy_41 hw (fun v9 hw => ?_)
          refine V_iload_n 1 rfl rfl dX11_copy_44 ?_
          refine X_ldI dX11_copy_45 hw (fun v10 hw => ?_)
          refine V_iconst (v := 1) (by decide) dX11_copy_46 ?_
          refine V_icmp_ne (tgt := 82) dX11_copy_47 (by decide) hw (fun hw => ?_) (fun hw => ?_)
          · refine V_aload_n 0 rfl rfl dX11_copy_50 ?_
            refine X_getR (c := 11) (k := 16) fa_X11_45 rfl dX11_copy_51 hw (fun v11 hw => ?_)
            refine V_iload_n 2 rfl rfl dX11_copy_54 ?_
            refine X_ldI dX11_copy_55 hw (fun v12 hw => ?_)
            refine V_iconst (v := 1) (by decide) dX11_copy_56 ?_
            refine V_icmp_ne (tgt := 82) dX11_copy_57 (by decide) hw (fun hw => ?_) (fun hw => ?_)
            · refine V_aload_n 0 rfl rfl dX11_copy_60 ?_
              refine X_getR (c := 11) (k := 17) fa_X11_48 rfl dX11_copy_61 hw (fun v13 hw => ?_)
              refine V_iload_n 1 rfl rfl dX11_copy_64 ?_
              refine X_ldI dX11_copy_65 hw (fun v14 hw => ?_)
              refine V_aload_n 0 rfl rfl dX11_copy_66 ?_
              refine X_getR (c := 11) (k := 17) fa_X11_48 rfl dX11_copy_67 hw (fun v15 hw => ?_)
              refine V_iload_n 2 rfl rfl dX11_copy_70 ?_
              refine X_ldI dX11_copy_71 hw (fun v16 hw => ?_)
              refine V_icmp_eq (tgt := 82) dX11_copy_72 (by decide) hw (fun hw => ?_) (fun hw => ?_)
              · exact V.sub [0, 1, 2, 3, 4, 5] rfl (s_X11_copy_82 hw)
              · exact V.sub [0] rfl (s_X11_copy_75 hw)
            · exact V.sub [0, 1, 2, 3, 4, 5] rfl (s_X11_copy_82 hw)
          · exact V.sub [0, 1, 2, 3, 4, 5] rfl (s_X11_copy_82 hw)
theorem r_X11_copy {l : Launch} {G : Gh} (l0 : Option Nat) (l1 : Int32) (l2 : Int32) (l3 : Int32) (l4 : Int32) (l5 : Int32) {h : Hp} {Q : Int32 → Hp → Prop} (hw : w_X11_copy l0 l1 l2 l3 l4 l5 h Q) : RunQ l G 2 yX11_copy cX11_copy 7 (some .int) [va_rf l0, .int l1, .int l2, .int l3, .int l4, .int l5] h (qI Q) :=
  V_run rfl (sl_len _ _ (by simp [cat_i, cat_l, rf_cat])) (V.sub [0, 1, 2, 3, 4, 5] (by simp only [la_r, la_i, la_l, la_n]; rfl) (s_X11_copy_0 hw))
def n_X11_count_17 (h : Hp) (Q : Int32 → Hp → Prop) : Prop :=
  Q (-1) h
def n_X11_count_94 (l0 : Option Nat) (l1 : Int32) (l2 : Int32) (l3 : Int32) (l4 : Int32) (l5 : Int32) (l6 : Int32) (h : Hp) (Q : Int32 → Hp → Prop) (K25 : Int32 → Int32 → Hp → Prop) : Prop :=
  lt (l6 + 1) fun x6 =>
  K25 l5 x6 h
def n_X11_count_91 (l0 : Option Nat) (l1 : Int32) (l2 : Int32) (l3 : Int32) (l4 : Int32) (l5 : Int32) (l6 : Int32) (h : Hp) (Q : Int32 → Hp → Prop) (K25 : Int32 → Int32 → Hp → Prop) : Prop :=
  lt (l5 + 1) fun x9 =>
  n_X11_count_94 l0 l1 l2 l3 l4 x9 l6 h Q K25
def n_X11_count_60 (l0 : Option Nat) (l1 : Int32) (l2 : Int32) (l3 : Int32) (l4 : Int32) (l5 : Int32) (l6 : Int32) (h : Hp) (Q : Int32 → Hp → Prop) (K25 : Int32 → Int32 → Hp → Prop) : Prop :=
  oV h l0 12 <| w_X11_asksNow l0 l6 ((8 * l1) + l2) h <| fun v5 h =>
  br (v5 = 0) (
    br (l4 = 0) (
      n_X11_count_94 l0 l1 l2 l3 l4 l5 l6 h Q K25) (
      gR h l0 12 1420 fun v7 =>
      ldI h v7 l6 fun v8 =>
      br (v8 = (-1)) (
        n_X11_count_94 l0 l1 l2 l3 l4 l5 l6 h Q K25) (
        n_X11_count_91 l0 l1 l2 l3 l4 l5 l6 h Q K25))) (
    n_X11_count_91 l0 l1 l2 l3 l4 l5 l6 h Q K25)
def b_X11_count_25 (l0 : Option Nat) (l1 : Int32) (l2 : Int32) (l3 : Int32) (l4 : Int32) (l5 : Int32) (l6 : Int32) (h : Hp) (Q : Int32 → Hp → Prop) (K25 : Int32 → Int32 → Hp → Prop) : Prop :=
  gI h l0 12 1409 fun v2 =>
  br (v2 ≤ l6) (
    Q l5 h) (
    gR h l0 12 1415 fun v3 =>
    ldI h v3 l6 fun v4 =>
    br (v4 = 0) (
      br (l3 = 3) (
        n_X11_count_60 l0 l1 l2 l3 l4 l5 l6 h Q K25) (
        gR h l0 12 1418 fun v10 =>
        ldI h v10 l6 fun v11 =>
        br (v11 = l3) (
          n_X11_count_60 l0 l1 l2 l3 l4 l5 l6 h Q K25) (
          n_X11_count_94 l0 l1 l2 l3 l4 l5 l6 h Q K25))) (
      n_X11_count_94 l0 l1 l2 l3 l4 l5 l6 h Q K25))
def l_X11_count_25 (l0 : Option Nat) (l1 : Int32) (l2 : Int32) (l3 : Int32) (l4 : Int32) (l5 : Int32) (l6 : Int32) (h : Hp) (Q : Int32 → Hp → Prop) : Prop :=
  Lo (fun (K : Int32 × Int32 → Hp → Prop) s h => b_X11_count_25 l0 l1 l2 l3 l4 s.1 s.2 h Q (fun l5 l6 h => K (l5, l6) h)) (l5, l6) h
def n_X11_count_0 (l0 : Option Nat) (l1 : Int32) (l2 : Int32) (l3 : Int32) (l4 : Int32) (h : Hp) (Q : Int32 → Hp → Prop) : Prop :=
  w_X11_isAsked l1 l2 h <| fun v1 h =>
  br (v1 = 0) (
    n_X11_count_17 h Q) (
    br (l3 < 0) (
      n_X11_count_17 h Q) (
      br (l3 ≤ 3) (
        l_X11_count_25 l0 l1 l2 l3 l4 0 0 h Q) (
        n_X11_count_17 h Q)))
def w_X11_count (l0 : Option Nat) (l1 : Int32) (l2 : Int32) (l3 : Int32) (l4 : Int32) (h : Hp) (Q : Int32 → Hp → Prop) : Prop := n_X11_count_0 l0 l1 l2 l3 l4 h Q
theorem s_X11_count_17 {l : Launch} {G : Gh}  {h : Hp} {Q : Int32 → Hp → Prop}  (hw : n_X11_count_17 h Q) : V l G 3 yX11_count cX11_count 7 (some .int) 17 [] [] h (qI Q) := by
  unfold n_X11_count_17 at hw
  refine V_iconst (v := (-1)) (by decide) dX11_count_17 ?_
  exact V_iret rfl dX11_count_18 ⟨_, rfl, hw⟩
theorem s_X11_count_94 {l : Launch} {G : Gh} {l0 : Option Nat} {l1 : Int32} {l2 : Int32} {l3 : Int32} {l4 : Int32} {l5 : Int32} {l6 : Int32} {h : Hp} {Q : Int32 → Hp → Prop} {K25 : Int32 → Int32 → Hp → Prop} (hK25 : ∀ (l5 : Int32) (l6 : Int32) (h : Hp), K25 l5 l6 h → V l G 3 yX11_count cX11_count 7 (some .int) 25 [(0, va_rf l0), (1, .int l1), (2, .int l2), (3, .int l3), (4, .int l4), (5, .int l5), (6, .int l6)] [] h (qI Q)) (hw : n_X11_count_94 l0 l1 l2 l3 l4 l5 l6 h Q K25) : V l G 3 yX11_count cX11_count 7 (some .int) 94 [(0, va_rf l0), (1, .int l1), (2, .int l2), (3, .int l3), (4, .int l4), (5, .int l5), (6, .int l6)] [] h (qI Q) := by
  unfold n_X11_count_94 at hw
  refine V_iincL (n := 1) 6 (fun z => [(6, .int z), (0, va_rf l0), (1, .int l1), (2, .int l2), (3, .int l3), (4, .int l4), (5, .int l5)]) rfl (by rfl) (by decide) (fun _ => rfl) dX11_count_94 hw (fun x6 hw => ?_)
  refine V_goto (tgt := 25) dX11_count_97 (by decide) ?_
  exact V.sub [1, 2, 3, 4, 5, 6, 0] rfl (hK25 _ _ _ hw)
theorem s_X11_count_91 {l : Launch} {G : Gh} {l0 : Option Nat} {l1 : Int32} {l2 : Int32} {l3 : Int32} {l4 : Int32} {l5 : Int32} {l6 : Int32} {h : Hp} {Q : Int32 → Hp → Prop} {K25 : Int32 → Int32 → Hp → Prop} (hK25 : ∀ (l5 : Int32) (l6 : Int32) (h : Hp), K25 l5 l6 h → V l G 3 yX11_count cX11_count 7 (some .int) 25 [(0, va_rf l0), (1, .int l1), (2, .int l2), (3, .int l3), (4, .int l4), (5, .int l5), (6, .int l6)] [] h (qI Q)) (hw : n_X11_count_91 l0 l1 l2 l3 l4 l5 l6 h Q K25) : V l G 3 yX11_count cX11_count 7 (some .int) 91 [(0, va_rf l0), (1, .int l1), (2, .int l2), (3, .int l3), (4, .int l4), (5, .int l5), (6, .int l6)] [] h (qI Q) := by
  unfold n_X11_count_91 at hw
  refine V_iincL (n := 1) 5 (fun z => [(5, .int z), (0, va_rf l0), (1, .int l1), (2, .int l2), (3, .int l3), (4, .int l4), (6, .int l6)]) rfl (by rfl) (by decide) (fun _ => rfl) dX11_count_91 hw (fun x9 hw => ?_)
  exact V.sub [1, 2, 3, 4, 5, 0, 6] rfl (s_X11_count_94 hK25 hw)
theorem s_X11_count_60 {l : Launch} {G : Gh} {l0 : Option Nat} {l1 : Int32} {l2 : Int32} {l3 : Int32} {l4 : Int32} {l5 : Int32} {l6 : Int32} {h : Hp} {Q : Int32 → Hp → Prop} {K25 : Int32 → Int32 → Hp → Prop} (hK25 : ∀ (l5 : Int32) (l6 : Int32) (h : Hp), K25 l5 l6 h → V l G 3 yX11_count cX11_count 7 (some .int) 25 [(0, va_rf l0), (1, .int l1), (2, .int l2), (3, .int l3), (4, .int l4), (5, .int l5), (6, .int l6)] [] h (qI Q)) (hw : n_X11_count_60 l0 l1 l2 l3 l4 l5 l6 h Q K25) : V l G 3 yX11_count cX11_count 7 (some .int) 60 [(0, va_rf l0), (1, .int l1), (2, .int l2), (3, .int l3), (4, .int l4), (5, .int l5), (6, .int l6)] [] h (qI Q) := by
  unfold n_X11_count_60 at hw
  refine V_aload_n 0 rfl rfl dX11_count_60 ?_
  refine V_iload 6 rfl dX11_count_61 ?_
  refine V_bipush (v := 8) (by decide) dX11_count_63 ?_
  refine V_iload_n 1 rfl rfl dX11_count_65 ?_
  refine V_imul dX11_count_66 ?_
  refine V_iload_n 2 rfl rfl dX11_count_67 ?_
  refine V_iadd dX11_count_68 ?_
  refine X_cV 11 [.int l6, .int ((8 * l1) + l2)] [] ma_X11_361 (by decide) rfl (by decide) (by decide) rfl (by simp [cat_i, cat_l, rf_cat]) rfl dX11_count_69 hw (r_X11_asksNow _ _ _) (k_I (fun v5 h hw => ?_))
  refine V_if_ne (tgt := 91) dX11_count_72 (by decide) hw (fun hw => ?_) (fun hw => ?_)
  · refine V_iload 4 rfl dX11_count_75 ?_
    refine V_if_eq (tgt := 94) dX11_count_77 (by decide) hw (fun hw => ?_) (fun hw => ?_)
    · exact V.sub [0, 1, 2, 3, 4, 5, 6] rfl (s_X11_count_94 hK25 hw)
    · refine V_aload_n 0 rfl rfl dX11_count_80 ?_
      refine X_getR (c := 11) (k := 12) fa_X11_32 rfl dX11_count_81 hw (fun v7 hw => ?_)
      refine V_iload 6 rfl dX11_count_84 ?_
      refine X_ldI dX11_count_86 hw (fun v8 hw => ?_)
      refine V_iconst (v := (-1)) (by decide) dX11_count_87 ?_
      refine V_icmp_eq (tgt := 94) dX11_count_88 (by decide) hw (fun hw => ?_) (fun hw => ?_)
      · exact V.sub [0, 1, 2, 3, 4, 5, 6] rfl (s_X11_count_94 hK25 hw)
      · exact V.sub [0, 1, 2, 3, 4, 5, 6] rfl (s_X11_count_91 hK25 hw)
  · exact V.sub [0, 1, 2, 3, 4, 5, 6] rfl (s_X11_count_91 hK25 hw)
