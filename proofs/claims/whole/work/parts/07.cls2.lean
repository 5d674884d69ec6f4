theorem s_X8_readField_7 {l : Launch} {G : Gh} {l0 : Option Nat} {l1 : Int32} {l2 : Int32} {h : Hp} {Q : Int32 → Hp → Prop}  (hw : l_X8_readField_7 l0 l1 l2 h Q) : V l G 9 yX8_readField cX8_readField 3 (some .int) 7 [(0, va_rf l0), (1, .int l1), (2, .int l2)] [] h (qI Q) :=
  Lo.ind (P := fun (s : Int32) h => V l G 9 yX8_readField cX8_readField 3 (some .int) 7 [(0, va_rf l0), (1, .int l1), (2, .int s)] [] h (qI Q)) (fun K ih s h hw => sb_X8_readField_7 (fun l2 h hk => ih (l2) h hk) hw) hw
theorem s_X8_readField_0 {l : Launch} {G : Gh} {l0 : Option Nat} {h : Hp} {Q : Int32 → Hp → Prop}  (hw : n_X8_readField_0 l0 h Q) : V l G 9 yX8_readField cX8_readField 3 (some .int) 0 [(0, va_rf l0)] [] h (qI Q) := by
  unfold n_X8_readField_0 at hw
  refine V_aload_n 0 rfl rfl dX8_readField_0 ?_
  refine X_cV 8 [] [] ma_X8_54 (by decide) rfl (by decide) (by decide) rfl (by simp [cat_i, cat_l, rf_cat]) rfl dX8_readField_1 hw (r_X8_next _) (k_I (fun v1 h hw => ?_))
  refine V_istore_n (i := 1) [(1, .int v1), (0, va_rf l0)] rfl (by decide) (by simp [List.filter_cons, rf_cat, cat_i, cat_l]) dX8_readField_4 ?_
  refine V_iconst (v := 0) (by decide) dX8_readField_5 ?_
  refine V_istore_n (i := 2) [(2, .int 0), (1, .int v1), (0, va_rf l0)] rfl (by decide) rfl dX8_readField_6 ?_
  exact V.sub [2, 1, 0] rfl (s_X8_readField_7 hw)
theorem r_X8_readField {l : Launch} {G : Gh} (l0 : Option Nat) {h : Hp} {Q : Int32 → Hp → Prop} (hw : w_X8_readField l0 h Q) : RunQ l G 9 yX8_readField cX8_readField 3 (some .int) [va_rf l0] h (qI Q) :=
  V_run rfl (sl_len _ _ (by simp [cat_i, cat_l, rf_cat])) (V.sub [0] (by simp only [la_r, la_i, la_l, la_n]; rfl) (s_X8_readField_0 hw))
def n_X8_readSide_77 (l0 : Option Nat) (l1 : Int64) (h : Hp) (Q : Int64 → Hp → Prop) : Prop :=
  oV h l0 9 <| w_X8_next l0 h <| fun v4 h =>
  br (v4 = 42) (
    gI h l0 9 1027 fun v5 =>
    pI h l0 9 1027 (v5 + 1) fun h =>
    oV h l0 9 <| w_X8_readField l0 h <| fun v6 h =>
    Q (l1 * ((v6 : Int32).toInt64)) h) (
    Q l1 h)
def n_X8_readSide_45 (l0 : Option Nat) (l1 : Int64) (l3 : Int32) (h : Hp) (Q : Int64 → Hp → Prop) (K20 : Int64 → Int32 → Hp → Prop) : Prop :=
  oV h l0 9 <| w_X8_next l0 h <| fun v9 h =>
  lt (((10 * l1) + ((v9 : Int32).toInt64)) - 48) fun x10 =>
  gI h l0 9 1027 fun v11 =>
  pI h l0 9 1027 (v11 + 1) fun h =>
  lt (l3 + 1) fun x12 =>
  K20 x10 x12 h
def b_X8_readSide_20 (l0 : Option Nat) (l1 : Int64) (l3 : Int32) (h : Hp) (Q : Int64 → Hp → Prop) (K20 : Int64 → Int32 → Hp → Prop) : Prop :=
  br (4 ≤ l3) (
    n_X8_readSide_77 l0 l1 h Q) (
    oV h l0 9 <| w_X8_next l0 h <| fun v7 h =>
    w_X8_isDigit v7 h <| fun v8 h =>
    br (v8 = 0) (
      n_X8_readSide_77 l0 l1 h Q) (
      br (l3 = 0) (
        n_X8_readSide_45 l0 l1 l3 h Q K20) (
        br ((lg_cmp l1 0) = 0) (
          n_X8_readSide_77 l0 l1 h Q) (
          n_X8_readSide_45 l0 l1 l3 h Q K20))))
def l_X8_readSide_20 (l0 : Option Nat) (l1 : Int64) (l3 : Int32) (h : Hp) (Q : Int64 → Hp → Prop) : Prop :=
  Lo (fun (K : Int64 × Int32 → Hp → Prop) s h => b_X8_readSide_20 l0 s.1 s.2 h Q (fun l1 l3 h => K (l1, l3) h)) (l1, l3) h
def n_X8_readSide_0 (l0 : Option Nat) (h : Hp) (Q : Int64 → Hp → Prop) : Prop :=
  oV h l0 9 <| w_X8_next l0 h <| fun v1 h =>
  w_X8_isDigit v1 h <| fun v2 h =>
  br (v2 = 0) (
    oV h l0 9 <| w_X8_readField l0 h <| fun v3 h =>
    Q ((v3 : Int32).toInt64) h) (
    l_X8_readSide_20 l0 0 0 h Q)
def w_X8_readSide (l0 : Option Nat) (h : Hp) (Q : Int64 → Hp → Prop) : Prop := n_X8_readSide_0 l0 h Q
theorem s_X8_readSide_77 {l : Launch} {G : Gh} {l0 : Option Nat} {l1 : Int64} {h : Hp} {Q : Int64 → Hp → Prop}  (hw : n_X8_readSide_77 l0 l1 h Q) : V l G 10 yX8_readSide cX8_readSide 4 (some .long) 77 [(0, va_rf l0), (1, .long l1)] [] h (qL Q) := by
  unfold n_X8_readSide_77 at hw
  refine V_aload_n 0 rfl rfl dX8_readSide_77 ?_
  refine X_cV 8 [] [] ma_X8_54 (by decide) rfl (by decide) (by decide) rfl (by simp [cat_i, cat_l, rf_cat]) rfl dX8_readSide_78 hw (r_X8_next _) (k_I (fun v4 h hw => ?_))
  refine V_bipush (v := 42) (by decide) dX8_readSide_81 ?_
  refine V_icmp_eq (tgt := 88) dX8_readSide_83 (by decide) hw (fun hw => ?_) (fun hw => ?_)
  · refine V_aload_n 0 rfl rfl dX8_readSide_88 ?_
    refine V_dup (rf_cat _) dX8_readSide_89 ?_
    refine X_getI (c := 8) (k := 3) fa_X8_39 rfl dX8_readSide_90 hw (fun v5 hw => ?_)
    refine V_iconst (v := 1) (by decide) dX8_readSide_93 ?_
    refine V_iadd dX8_readSide_94 ?_
    refine X_putI (c := 8) (k := 3) fa_X8_39 (Or.inl rfl) rfl dX8_readSide_95 hw (fun h hw => ?_)
    refine V_lload_n 1 rfl rfl dX8_readSide_98 ?_
    refine V_aload_n 0 rfl rfl dX8_readSide_99 ?_
    refine X_cV 8 [] [.long l1] ma_X8_84 (by decide) rfl (by decide) (by decide) rfl (by simp [cat_i, cat_l, rf_cat]) rfl dX8_readSide_100 hw (r_X8_readField _) (k_I (fun v6 h hw => ?_))
    refine V_i2l dX8_readSide_103 ?_
    refine V_lmul dX8_readSide_104 ?_
    exact V_lret rfl dX8_readSide_105 ⟨_, rfl, hw⟩
  · refine V_lload_n 1 rfl rfl dX8_readSide_86 ?_
    exact V_lret rfl dX8_readSide_87 ⟨_, rfl, hw⟩
theorem s_X8_readSide_45 {l : Launch} {G : Gh} {l0 : Option Nat} {l1 : Int64} {l3 : Int32} {h : Hp} {Q : Int64 → Hp → Prop} {K20 : Int64 → Int32 → Hp → Prop} (hK20 : ∀ (l1 : Int64) (l3 : Int32) (h : Hp), K20 l1 l3 h → V l G 10 yX8_readSide cX8_readSide 4 (some .long) 20 [(0, va_rf l0), (1, .long l1), (3, .int l3)] [] h (qL Q)) (hw : n_X8_readSide_45 l0 l1 l3 h Q K20) : V l G 10 yX8_readSide cX8_readSide 4 (some .long) 45 [(0, va_rf l0), (1, .long l1), (3, .int l3)] [] h (qL Q) := by
  unfold n_X8_readSide_45 at hw
  refine V_ldc2 (v := 10) cl_X8_87 dX8_readSide_45 ?_
  refine V_lload_n 1 rfl rfl dX8_readSide_48 ?_
  refine V_lmul dX8_readSide_49 ?_
  refine V_aload_n 0 rfl rfl dX8_readSide_50 ?_
  refine X_cV 8 [] [.long (10 * l1)] ma_X8_54 (by decide) rfl (by decide) (by decide) rfl (by simp [cat_i, cat_l, rf_cat]) rfl dX8_readSide_51 hw (r_X8_next _) (k_I (fun v9 h hw => ?_))
  refine V_i2l dX8_readSide_54 ?_
  refine V_ladd dX8_readSide_55 ?_
  refine V_ldc2 (v := 48) cl_X8_89 dX8_readSide_56 ?_
  refine V_lsub dX8_readSide_59 ?_
  refine V_ltL hw (fun x10 hw => ?_)
  refine V_lstore_n (i := 1) [(1, .long x10), (0, va_rf l0), (3, .int l3)] rfl (by decide) (by simp [List.filter_cons, rf_cat, cat_i, cat_l]) dX8_readSide_60 ?_
  refine V_aload_n 1 rfl rfl dX8_readSide_61 ?_
  refine V_dup (rf_cat _) dX8_readSide_62 ?_
  refine X_getI (c := 8) (k := 3) fa_X8_39 rfl dX8_readSide_63 hw (fun v11 hw => ?_)
  refine V_iconst (v := 1) (by decide) dX8_readSide_66 ?_
  refine V_iadd dX8_readSide_67 ?_
  refine X_putI (c := 8) (k := 3) fa_X8_39 (Or.inl rfl) rfl dX8_readSide_68 hw (fun h hw => ?_)
  refine V_iincL (n := 1) 2 (fun z => [(3, .int z), (1, .long x10), (0, va_rf l0)]) rfl (by rfl) (by decide) (fun _ => rfl) dX8_readSide_71 hw (fun x12 hw => ?_)
  refine V_goto (tgt := 20) dX8_readSide_74 (by decide) ?_
  exact V.sub [2, 1, 0] rfl (hK20 _ _ _ hw)
theorem sb_X8_readSide_20 {l : Launch} {G : Gh} {l0 : Option Nat} {l1 : Int64} {l3 : Int32} {h : Hp} {Q : Int64 → Hp → Prop} {K20 : Int64 → Int32 → Hp → Prop} (hK20 : ∀ (l1 : Int64) (l3 : Int32) (h : Hp), K20 l1 l3 h → V l G 10 yX8_readSide cX8_readSide 4 (some .long) 20 [(0, va_rf l0), (1, .long l1), (3, .int l3)] [] h (qL Q)) (hw : b_X8_readSide_20 l0 l1 l3 h Q K20) : V l G 10 yX8_readSide cX8_readSide 4 (some .long) 20 [(0, va_rf l0), (1, .long l1), (3, .int l3)] [] h (qL Q) := by
  unfold b_X8_readSide_20 at hw
  refine V_iload_n 2 rfl rfl dX8_readSide_20 ?_
  refine V_iconst (v := 4) (by decide) dX8_readSide_21 ?_
  refine V_icmp_ge (tgt := 77) dX8_readSide_22 (by decide) hw (fun hw => ?_) (fun hw => ?_)
  · exact V.sub [0, 1] rfl (s_X8_readSide_77 hw)
  · refine V_aload_n 0 rfl rfl dX8_readSide_25 ?_
    refine X_cV 8 [] [] ma_X8_54 (by decide) rfl (by decide) (by decide) rfl (by simp [cat_i, cat_l, rf_cat]) rfl dX8_readSide_26 hw (r_X8_next _) (k_I (fun v7 h hw => ?_))
    refine X_cS [.int v7] [] ma_X8_81 (by decide) (by decide) rfl (by simp [cat_i, cat_l, rf_cat]) rfl dX8_readSide_29 (r_X8_isDigit _ hw) (k_I (fun v8 h hw => ?_))
    refine V_if_eq (tgt := 77) dX8_readSide_32 (by decide) hw (fun hw => ?_) (fun hw => ?_)
    · exact V.sub [0, 1] rfl (s_X8_readSide_77 hw)
    · refine V_iload_n 2 rfl rfl dX8_readSide_35 ?_
      refine V_if_eq (tgt := 45) dX8_readSide_36 (by decide) hw (fun hw => ?_) (fun hw => ?_)
      · exact V.sub [0, 1, 2] rfl (s_X8_readSide_45 hK20 hw)
      · refine V_lload_n 1 rfl rfl dX8_readSide_39 ?_
        refine V_lconst (v := 0) (by decide) dX8_readSide_40 ?_
        refine V_lcmp dX8_readSide_41 ?_
        refine V_if_eq (tgt := 77) dX8_readSide_42 (by decide) hw (fun hw => ?_) (fun hw => ?_)
        · exact V.sub [0, 1] rfl (s_X8_readSide_77 hw)
        · exact V.sub [0, 1, 2] rfl (s_X8_readSide_45 hK20 hw)
theorem s_X8_readSide_20 {l : Launch} {G : Gh} {l0 : Option Nat} {l1 : Int64} {l3 : Int32} {h : Hp} {Q : Int64 → Hp → Prop}  (hw : l_X8_readSide_20 l0 l1 l3 h Q) : V l G 10 yX8_readSide cX8_readSide 4 (some .long) 20 [(0, va_rf l0), (1, .long l1), (3, .int l3)] [] h (qL Q) :=
  Lo.ind (P := fun (s : Int64 × Int32) h => V l G 10 yX8_readSide cX8_readSide 4 (some .long) 20 [(0, va_rf l0), (1, .long s.1), (3, .int s.2)] [] h (qL Q)) (fun K ih s h hw => sb_X8_readSide_20 (fun l1 l3 h hk => ih (l1, l3) h hk) hw) hw
theorem s_X8_readSide_0 {l : Launch} {G : Gh} {l0 : Option Nat} {h : Hp} {Q : Int64 → Hp → Prop}  (hw : n_X8_readSide_0 l0 h Q) : V l G 10 yX8_readSide cX8_readSide 4 (some .long) 0 [(0, va_rf l0)] [] h (qL Q) := by
  unfold n_X8_readSide_0 at hw
  refine V_aload_n 0 rfl rfl dX8_readSide_0 ?_
  refine X_cV 8 [] [] ma_X8_54 (by decide) rfl (by decide) (by decide) rfl (by simp [cat_i, cat_l, rf_cat]) rfl dX8_readSide_1 hw (r_X8_next _) (k_I (fun v1 h hw => ?_))
  refine X_cS [.int v1] [] ma_X8_81 (by decide) (by decide) rfl (by simp [cat_i, cat_l, rf_cat]) rfl dX8_readSide_4 (r_X8_isDigit _ hw) (k_I (fun v2 h hw => ?_))
  refine V_if_ne (tgt := 16) dX8_readSide_7 (by decide) hw (fun hw => ?_) (fun hw => ?_)
  · refine V_aload_n 0 rfl rfl dX8_readSide_10 ?_
    refine X_cV 8 [] [] ma_X8_84 (by decide) rfl (by decide) (by decide) rfl (by simp [cat_i, cat_l, rf_cat]) rfl dX8_readSide_11 hw (r_X8_readField _) (k_I (fun v3 h hw => ?_))
    refine V_i2l dX8_readSide_14 ?_
    exact V_lret rfl dX8_readSide_15 ⟨_, rfl, hw⟩
  · refine V_lconst (v := 0) (by decide) dX8_readSide_16 ?_
    refine V_lstore_n (i := 1) [(1, .long 0), (0, va_rf l0)] rfl (by decide) (by simp [List.filter_cons, rf_cat, cat_i, cat_l]) dX8_readSide_17 ?_
    refine V_iconst (v := 0) (by decide) dX8_readSide_18 ?_
    refine V_istore_n (i := 3) [(3, .int 0), (1, .long 0), (0, va_rf l0)] rfl (by decide) rfl dX8_readSide_19 ?_
    exact V.sub [2, 1, 0] rfl (s_X8_readSide_20 hw)
theorem r_X8_readSide {l : Launch} {G : Gh} (l0 : Option Nat) {h : Hp} {Q : Int64 → Hp → Prop} (hw : w_X8_readSide l0 h Q) : RunQ l G 10 yX8_readSide cX8_readSide 4 (some .long) [va_rf l0] h (qL Q) :=
  V_run rfl (sl_len _ _ (by simp [cat_i, cat_l, rf_cat])) (V.sub [0] (by simp only [la_r, la_i, la_l, la_n]; rfl) (s_X8_readSide_0 hw))
def n_X8_readTest_61 (s0 : Int32) (h : Hp) (Q : Int32 → Hp → Prop) : Prop :=
  rZ s0 h Q
def n_X8_readTest_95 (s0 : Int32) (h : Hp) (Q : Int32 → Hp → Prop) : Prop :=
  rZ s0 h Q
def n_X8_readTest_34 (l0 : Option Nat) (l1 : Int64) (l3 : Int32) (s0 : Int32) (s1 : Option Nat) (h : Hp) (Q : Int32 → Hp → Prop) : Prop :=
  oV h s1 9 <| w_X8_pass s1 s0 h <| fun h =>
  oV h l0 9 <| w_X8_readSide l0 h <| fun v4 h =>
  br (l3 = 60) (
    br (0 ≤ (lg_cmp l1 v4)) (
      n_X8_readTest_61 0 h Q) (
      n_X8_readTest_61 1 h Q)) (
    br (l3 = 62) (
      br ((lg_cmp l1 v4) ≤ 0) (
        n_X8_readTest_95 0 h Q) (
        n_X8_readTest_95 1 h Q)) (
      br ((lg_cmp l1 v4) = 0) (
        n_X8_readTest_95 1 h Q) (
        n_X8_readTest_95 0 h Q)))
def n_X8_readTest_29 (l0 : Option Nat) (l1 : Int64) (l3 : Int32) (s0 : Option Nat) (h : Hp) (Q : Int32 → Hp → Prop) : Prop :=
  n_X8_readTest_34 l0 l1 l3 1 s0 h Q
def n_X8_readTest_0 (l0 : Option Nat) (h : Hp) (Q : Int32 → Hp → Prop) : Prop :=
  oV h l0 9 <| w_X8_readSide l0 h <| fun v1 h =>
  oV h l0 9 <| w_X8_next l0 h <| fun v2 h =>
  br (v2 = 60) (
    n_X8_readTest_29 l0 v1 v2 l0 h Q) (
    br (v2 = 62) (
      n_X8_readTest_29 l0 v1 v2 l0 h Q) (
      br (v2 = 61) (
        n_X8_readTest_29 l0 v1 v2 l0 h Q) (
        n_X8_readTest_34 l0 v1 v2 0 l0 h Q)))
def w_X8_readTest (l0 : Option Nat) (h : Hp) (Q : Int32 → Hp → Prop) : Prop := n_X8_readTest_0 l0 h Q
theorem s_X8_readTest_61 {l : Launch} {G : Gh} {s0 : Int32} {h : Hp} {Q : Int32 → Hp → Prop}  (hw : n_X8_readTest_61 s0 h Q) : V l G 11 yX8_readTest cX8_readTest 6 (some .boolean) 61 [] [.int s0] h (qI Q) := by
  unfold n_X8_readTest_61 at hw
  exact V_zret rfl hw.1 dX8_readTest_61 ⟨_, rfl, hw.2⟩
theorem s_X8_readTest_95 {l : Launch} {G : Gh} {s0 : Int32} {h : Hp} {Q : Int32 → Hp → Prop}  (hw : n_X8_readTest_95 s0 h Q) : V l G 11 yX8_readTest cX8_readTest 6 (some .boolean) 95 [] [.int s0] h (qI Q) := by
  unfold n_X8_readTest_95 at hw
  exact V_zret rfl hw.1 dX8_readTest_95 ⟨_, rfl, hw.2⟩
theorem s_X8_readTest_34 {l : Launch} {G : Gh} {l0 : Option Nat} {l1 : Int64} {l3 : Int32} {s0 : Int32} {s1 : Option Nat} {h : Hp} {Q : Int32 → Hp → Prop}  (hw : n_X8_readTest_34 l0 l1 l3 s0 s1 h Q) : V l G 11 yX8_readTest cX8_readTest 6 (some .boolean) 34 [(0, va_rf l0), (1, .long l1), (3, .int l3)] [.int s0, va_rf s1] h (qI Q) := by
  unfold n_X8_readTest_34 at hw
  refine X_cV 8 [.int s0] [] ma_X8_60 (by decide) rfl (by decide) (by decide) rfl (by simp [cat_i, cat_l, rf_cat]) rfl dX8_readTest_34 hw (r_X8_pass _ _) (k_V (fun h hw => ?_))
  refine V_aload_n 0 rfl rfl dX8_readTest_37 ?_
  refine X_cV 8 [] [] ma_X8_77 (by decide) rfl (by decide) (by decide) rfl (by simp [cat_i, cat_l, rf_cat]) rfl dX8_readTest_38 hw (r_X8_readSide _) (k_L (fun v4 h hw => ?_))
  refine V_lstore (i := 4) [(4, .long v4), (0, va_rf l0), (1, .long l1), (3, .int l3)] (by decide) rfl dX8_readTest_41 ?_
  refine V_iload_n 3 rfl rfl dX8_readTest_43 ?_
  refine V_bipush (v := 60) (by decide) dX8_readTest_44 ?_
  refine V_icmp_ne (tgt := 62) dX8_readTest_46 (by decide) hw (fun hw => ?_) (fun hw => ?_)
  · refine V_lload_n 2 rfl rfl dX8_readTest_49 ?_
    refine V_lload 0 rfl dX8_readTest_50 ?_
    refine V_lcmp dX8_readTest_52 ?_
    refine V_if_ge (tgt := 60) dX8_readTest_53 (by decide) hw (fun hw => ?_) (fun hw => ?_)
    · refine V_iconst (v := 0) (by decide) dX8_readTest_60 ?_
      exact V.sub [] rfl (s_X8_readTest_61 hw)
    · refine V_iconst (v := 1) (by decide) dX8_readTest_56 ?_
      refine V_goto (tgt := 61) dX8_readTest_57 (by decide) ?_
      exact V.sub [] rfl (s_X8_readTest_61 hw)
  · refine V_iload_n 3 rfl rfl dX8_readTest_62 ?_
    refine V_bipush (v := 62) (by decide) dX8_readTest_63 ?_
    refine V_icmp_ne (tgt := 83) dX8_readTest_65 (by decide) hw (fun hw => ?_) (fun hw => ?_)
    · refine V_lload_n 2 rfl rfl dX8_readTest_68 ?_
      refine V_lload 0 rfl dX8_readTest_69 ?_
      refine V_lcmp dX8_readTest_71 ?_
      refine V_if_le (tgt := 79) dX8_readTest_72 (by decide) hw (fun hw => ?_) (fun hw => ?_)
      · refine V_iconst (v := 0) (by decide) dX8_readTest_79 ?_
        refine V_goto (tgt := 95) dX8_readTest_80 (by decide) ?_
        exact V.sub [] rfl (s_X8_readTest_95 hw)
      · refine V_iconst (v := 1) (by decide) dX8_readTest_75 ?_
        refine V_goto (tgt := 95) dX8_readTest_76 (by decide) ?_
        exact V.sub [] rfl (s_X8_readTest_95 hw)
    · refine V_lload_n 2 rfl rfl dX8_readTest_83 ?_
      refine V_lload 0 rfl dX8_readTest_84 ?_
      refine V_lcmp dX8_readTest_86 ?_
      refine V_if_ne (tgt := 94) dX8_readTest_87 (by decide) hw (fun hw => ?_) (fun hw => ?_)
      · refine V_iconst (v := 1) (by decide) dX8_readTest_90 ?_
        refine V_goto (tgt := 95) dX8_readTest_91 (by decide) ?_
        exact V.sub [] rfl (s_X8_readTest_95 hw)
      · refine V_iconst (v := 0) (by decide) dX8_readTest_94 ?_
        exact V.sub [] rfl (s_X8_readTest_95 hw)
theorem s_X8_readTest_29 {l : Launch} {G : Gh} {l0 : Option Nat} {l1 : Int64} {l3 : Int32} {s0 : Option Nat} {h : Hp} {Q : Int32 → Hp → Prop}  (hw : n_X8_readTest_29 l0 l1 l3 s0 h Q) : V l G 11 yX8_readTest cX8_readTest 6 (some .boolean) 29 [(0, va_rf l0), (1, .long l1), (3, .int l3)] [va_rf s0] h (qI Q) := by
  unfold n_X8_readTest_29 at hw
  refine V_iconst (v := 1) (by decide) dX8_readTest_29 ?_
  refine V_goto (tgt := 34) dX8_readTest_30 (by decide) ?_
  exact V.sub [0, 1, 2] rfl (s_X8_readTest_34 hw)
theorem s_X8_readTest_0 {l : Launch} {G : Gh} {l0 : Option Nat} {h : Hp} {Q : Int32 → Hp → Prop}  (hw : n_X8_readTest_0 l0 h Q) : V l G 11 yX8_readTest cX8_readTest 6 (some .boolean) 0 [(0, va_rf l0)] [] h (qI Q) := by
  unfold n_X8_readTest_0 at hw
  refine V_aload_n 0 rfl rfl dX8_readTest_0 ?_
  refine X_cV 8 [] [] ma_X8_77 (by decide) rfl (by decide) (by decide) rfl (by simp [cat_i, cat_l, rf_cat]) rfl dX8_readTest_1 hw (r_X8_readSide _) (k_L (fun v1 h hw => ?_))
  refine V_lstore_n (i := 1) [(1, .long v1), (0, va_rf l0)] rfl (by decide) (by simp [List.filter_cons, rf_cat, cat_i, cat_l]) dX8_readTest_4 ?_
  refine V_aload_n 1 rfl rfl dX8_readTest_5 ?_
  refine X_cV 8 [] [] ma_X8_54 (by decide) rfl (by decide) (by decide) rfl (by simp [cat_i, cat_l, rf_cat]) rfl dX8_readTest_6 hw (r_X8_next _) (k_I (fun v2 h hw => ?_))
  refine V_istore_n (i := 3) [(3, .int v2), (1, .long v1), (0, va_rf l0)] rfl (by decide) rfl dX8_readTest_9 ?_
  refine V_aload_n 2 rfl rfl dX8_readTest_10 ?_
  refine V_iload_n 0 rfl rfl dX8_readTest_11 ?_
  refine V_bipush (v := 60) (by decide) dX8_readTest_12 ?_
  refine V_icmp_eq (tgt := 29) dX8_readTest_14 (by decide) hw (fun hw => ?_) (fun hw => ?_)
  · exact V.sub [2, 1, 0] rfl (s_X8_readTest_29 hw)
  · refine V_iload_n 0 rfl rfl dX8_readTest_17 ?_
    refine V_bipush (v := 62) (by decide) dX8_readTest_18 ?_
    refine V_icmp_eq (tgt := 29) dX8_readTest_20 (by decide) hw (fun hw => ?_) (fun hw => ?_)
    · exact V.sub [2, 1, 0] rfl (s_X8_readTest_29 hw)
    · refine V_iload_n 0 rfl rfl dX8_readTest_23 ?_
      refine V_bipush (v := 61) (by decide) dX8_readTest_24 ?_
      refine V_icmp_ne (tgt := 33) dX8_readTest_26 (by decide) hw (fun hw => ?_) (fun hw => ?_)
      · exact V.sub [2, 1, 0] rfl (s_X8_readTest_29 hw)
      · refine V_iconst (v := 0) (by decide) dX8_readTest_33 ?_
        exact V.sub [2, 1, 0] rfl (s_X8_readTest_34 hw)
theorem r_X8_readTest {l : Launch} {G : Gh} (l0 : Option Nat) {h : Hp} {Q : Int32 → Hp → Prop} (hw : w_X8_readTest l0 h Q) : RunQ l G 11 yX8_readTest cX8_readTest 6 (some .boolean) [va_rf l0] h (qI Q) :=
  V_run rfl (sl_len _ _ (by simp [cat_i, cat_l, rf_cat])) (V.sub [0] (by simp only [la_r, la_i, la_l, la_n]; rfl) (s_X8_readTest_0 hw))
def WS (l : Launch) (G : Gh) (D : Nat) (W : Nat → Option Nat → Int32 → Hp → (Int32 → Hp → Prop) → Prop) : Prop :=
  (∀ v x h Q, W 0 v x h Q → RunQ l G D yX8_readAny cX8_readAny 5 (some .boolean) [va_rf v, .int x] h (qI Q)) ∧
  (∀ v x h Q, W 1 v x h Q → RunQ l G D yX8_readAll cX8_readAll 5 (some .boolean) [va_rf v, .int x] h (qI Q)) ∧
  (∀ v x h Q, W 2 v x h Q → RunQ l G D yX8_readOne cX8_readOne 4 (some .boolean) [va_rf v, .int x] h (qI Q))
def n_X8_readAny_61 (W : Nat → Option Nat → Int32 → Hp → (Int32 → Hp → Prop) → Prop) (l2 : Int32) (h : Hp) (Q : Int32 → Hp → Prop) : Prop :=
  rZ l2 h Q
def n_X8_readAny_54 (W : Nat → Option Nat → Int32 → Hp → (Int32 → Hp → Prop) → Prop) (l0 : Option Nat) (l1 : Int32) (l3 : Int32) (s0 : Int32) (h : Hp) (Q : Int32 → Hp → Prop) (K8 : Int32 → Int32 → Hp → Prop) : Prop :=
  lt (l3 + 1) fun x5 =>
  K8 s0 x5 h
def n_X8_readAny_49 (W : Nat → Option Nat → Int32 → Hp → (Int32 → Hp → Prop) → Prop) (l0 : Option Nat) (l1 : Int32) (l3 : Int32) (h : Hp) (Q : Int32 → Hp → Prop) (K8 : Int32 → Int32 → Hp → Prop) : Prop :=
  n_X8_readAny_54 W l0 l1 l3 1 h Q K8
def b_X8_readAny_8 (W : Nat → Option Nat → Int32 → Hp → (Int32 → Hp → Prop) → Prop) (l0 : Option Nat) (l1 : Int32) (l2 : Int32) (l3 : Int32) (h : Hp) (Q : Int32 → Hp → Prop) (K8 : Int32 → Int32 → Hp → Prop) : Prop :=
  br (60 ≤ l3) (
    n_X8_readAny_61 W l2 h Q) (
    oV h l0 9 <| w_X8_next l0 h <| fun v2 h =>
    br (v2 = 124) (
      gI h l0 9 1027 fun v3 =>
      pI h l0 9 1027 (v3 + 1) fun h =>
      oV h l0 9 <| W 1 l0 l1 h <| fun v4 h =>
      br (l2 = 0) (
        br (v4 = 0) (
          n_X8_readAny_54 W l0 l1 l3 0 h Q K8) (
          n_X8_readAny_49 W l0 l1 l3 h Q K8)) (
        n_X8_readAny_49 W l0 l1 l3 h Q K8)) (
      n_X8_readAny_61 W l2 h Q))
def l_X8_readAny_8 (W : Nat → Option Nat → Int32 → Hp → (Int32 → Hp → Prop) → Prop) (l0 : Option Nat) (l1 : Int32) (l2 : Int32) (l3 : Int32) (h : Hp) (Q : Int32 → Hp → Prop) : Prop :=
  Lo (fun (K : Int32 × Int32 → Hp → Prop) s h => b_X8_readAny_8 W l0 l1 s.1 s.2 h Q (fun l2 l3 h => K (l2, l3) h)) (l2, l3) h
def n_X8_readAny_0 (W : Nat → Option Nat → Int32 → Hp → (Int32 → Hp → Prop) → Prop) (l0 : Option Nat) (l1 : Int32) (h : Hp) (Q : Int32 → Hp → Prop) : Prop :=
  oV h l0 9 <| W 1 l0 l1 h <| fun v1 h =>
  l_X8_readAny_8 W l0 l1 v1 0 h Q
def u_X8_readAny (W : Nat → Option Nat → Int32 → Hp → (Int32 → Hp → Prop) → Prop) (l0 : Option Nat) (l1 : Int32) (h : Hp) (Q : Int32 → Hp → Prop) : Prop := n_X8_readAny_0 W l0 l1 h Q
theorem s_X8_readAny_61 {l : Launch} {G : Gh} {D : Nat} (hD : 20 ≤ D) {W : Nat → Option Nat → Int32 → Hp → (Int32 → Hp → Prop) → Prop} (hW : WS l G D W) {l2 : Int32} {h : Hp} {Q : Int32 → Hp → Prop}  (hw : n_X8_readAny_61 W l2 h Q) : V l G (D + 1) yX8_readAny cX8_readAny 5 (some .boolean) 61 [(2, .int l2)] [] h (qI Q) := by
  unfold n_X8_readAny_61 at hw
  refine V_iload_n 0 rfl rfl dX8_readAny_61 ?_
  exact V_zret rfl hw.1 dX8_readAny_62 ⟨_, rfl, hw.2⟩
theorem s_X8_readAny_54 {l : Launch} {G : Gh} {D : Nat} (hD : 20 ≤ D) {W : Nat → Option Nat → Int32 → Hp → (Int32 → Hp → Prop) → Prop} (hW : WS l G D W) {l0 : Option Nat} {l1 : Int32} {l3 : Int32} {s0 : Int32} {h : Hp} {Q : Int32 → Hp → Prop} {K8 : Int32 → Int32 → Hp → Prop} (hK8 : ∀ (l2 : Int32) (l3 : Int32) (h : Hp), K8 l2 l3 h → V l G (D + 1) yX8_readAny cX8_readAny 5 (some .boolean) 8 [(0, va_rf l0), (1, .int l1), (2, .int l2), (3, .int l3)] [] h (qI Q)) (hw : n_X8_readAny_54 W l0 l1 l3 s0 h Q K8) : V l G (D + 1) yX8_readAny cX8_readAny 5 (some .boolean) 54 [(0, va_rf l0), (1, .int l1), (3, .int l3)] [.int s0] h (qI Q) := by
  unfold n_X8_readAny_54 at hw
  refine V_istore_n (i := 2) [(2, .int s0), (0, va_rf l0), (1, .int l1), (3, .int l3)] rfl (by decide) rfl dX8_readAny_54 ?_
  refine V_iincL (n := 1) 3 (fun z => [(3, .int z), (2, .int s0), (0, va_rf l0), (1, .int l1)]) rfl (by rfl) (by decide) (fun _ => rfl) dX8_readAny_55 hw (fun x5 hw => ?_)
  refine V_goto (tgt := 8) dX8_readAny_58 (by decide) ?_
  exact V.sub [2, 3, 1, 0] rfl (hK8 _ _ _ hw)
theorem s_X8_readAny_49 {l : Launch} {G : Gh} {D : Nat} (hD : 20 ≤ D) {W : Nat → Option Nat → Int32 → Hp → (Int32 → Hp → Prop) → Prop} (hW : WS l G D W) {l0 : Option Nat} {l1 : Int32} {l3 : Int32} {h : Hp} {Q : Int32 → Hp → Prop} {K8 : Int32 → Int32 → Hp → Prop} (hK8 : ∀ (l2 : Int32) (l3 : Int32) (h : Hp), K8 l2 l3 h → V l G (D + 1) yX8_readAny cX8_readAny 5 (some .boolean) 8 [(0, va_rf l0), (1, .int l1), (2, .int l2), (3, .int l3)] [] h (qI Q)) (hw : n_X8_readAny_49 W l0 l1 l3 h Q K8) : V l G (D + 1) yX8_readAny cX8_readAny 5 (some .boolean) 49 [(0, va_rf l0), (1, .int l1), (3, .int l3)] [] h (qI Q) := by
  unfold n_X8_readAny_49 at hw
  refine V_iconst (v := 1) (by decide) dX8_readAny_49 ?_
  refine V_goto (tgt := 54) dX8_readAny_50 (by decide) ?_
  exact V.sub [0, 1, 2] rfl (s_X8_readAny_54 hD hW hK8 hw)
theorem sb_X8_readAny_8 {l : Launch} {G : Gh} {D : Nat} (hD : 20 ≤ D) {W : Nat → Option Nat → Int32 → Hp → (Int32 → Hp → Prop) → Prop} (hW : WS l G D W) {l0 : Option Nat} {l1 : Int32} {l2 : Int32} {l3 : Int32} {h : Hp} {Q : Int32 → Hp → Prop} {K8 : Int32 → Int32 → Hp → Prop} (hK8 : ∀ (l2 : Int32) (l3 : Int32) (h : Hp), K8 l2 l3 h → V l G (D + 1) yX8_readAny cX8_readAny 5 (some .boolean) 8 [(0, va_rf l0), (1, .int l1), (2, .int l2), (3, .int l3)] [] h (qI Q)) (hw : b_X8_readAny_8 W l0 l1 l2 l3 h Q K8) : V l G (D + 1) yX8_readAny cX8_readAny 5 (some .boolean) 8 [(0, va_rf l0), (1, .int l1), (2, .int l2), (3, .int l3)] [] h (qI Q) := by
  unfold b_X8_readAny_8 at hw
  refine V_iload_n 3 rfl rfl dX8_readAny_8 ?_
  refine V_bipush (v := 60) (by decide) dX8_readAny_9 ?_
  refine V_icmp_ge (tgt := 61) dX8_readAny_11 (by decide) hw (fun hw => ?_) (fun hw => ?_)
  · exact V.sub [2] rfl (s_X8_readAny_61 hD hW hw)
  · refine V_aload_n 0 rfl rfl dX8_readAny_14 ?_
    refine X_cV 8 [] [] ma_X8_54 (by decide) rfl (by omega) (by decide) rfl (by simp [cat_i, cat_l, rf_cat]) rfl dX8_readAny_15 hw (r_X8_next _) (k_I (fun v2 h hw => ?_))
    refine V_bipush (v := 124) (by decide) dX8_readAny_18 ?_
    refine V_icmp_ne (tgt := 61) dX8_readAny_20 (by decide) hw (fun hw => ?_) (fun hw => ?_)
    · refine V_aload_n 0 rfl rfl dX8_readAny_23 ?_
      refine V_dup (rf_cat _) dX8_readAny_24 ?_
      refine X_getI (c := 8) (k := 3) fa_X8_39 rfl dX8_readAny_25 hw (fun v3 hw => ?_)
      refine V_iconst (v := 1) (by decide) dX8_readAny_28 ?_
      refine V_iadd dX8_readAny_29 ?_
      refine X_putI (c := 8) (k := 3) fa_X8_39 (Or.inl rfl) rfl dX8_readAny_30 hw (fun h hw => ?_)
      refine V_aload_n 0 rfl rfl dX8_readAny_33 ?_
      refine V_iload_n 1 rfl rfl dX8_readAny_34 ?_
      refine X_cV 8 [.int l1] [] ma_X8_67 (by decide) rfl (by omega) (by decide) rfl (by simp [cat_i, cat_l, rf_cat]) rfl dX8_readAny_35 hw (hW.2.1 _ _ _ _) (k_I (fun v4 h hw => ?_))
      refine V_istore (i := 4) [(4, .int v4), (0, va_rf l0), (1, .int l1), (2, .int l2), (3, .int l3)] (by decide) rfl dX8_readAny_38 ?_
      refine V_iload_n 3 rfl rfl dX8_readAny_40 ?_
      refine V_if_ne (tgt := 49) dX8_readAny_41 (by decide) hw (fun hw => ?_) (fun hw => ?_)
      · refine V_iload 0 rfl dX8_readAny_44 ?_
        refine V_if_eq (tgt := 53) dX8_readAny_46 (by decide) hw (fun hw => ?_) (fun hw => ?_)
        · refine V_iconst (v := 0) (by decide) dX8_readAny_53 ?_
          exact V.sub [1, 2, 4] rfl (s_X8_readAny_54 hD hW hK8 hw)
        · exact V.sub [1, 2, 4] rfl (s_X8_readAny_49 hD hW hK8 hw)
      · exact V.sub [1, 2, 4] rfl (s_X8_readAny_49 hD hW hK8 hw)
    · exact V.sub [2] rfl (s_X8_readAny_61 hD hW hw)
theorem s_X8_readAny_8 {l : Launch} {G : Gh} {D : Nat} (hD : 20 ≤ D) {W : Nat → Option Nat → Int32 → Hp → (Int32 → Hp → Prop) → Prop} (hW : WS l G D W) {l0 : Option Nat} {l1 : Int32} {l2 : Int32} {l3 : Int32} {h : Hp} {Q : Int32 → Hp → Prop}  (hw : l_X8_readAny_8 W l0 l1 l2 l3 h Q) : V l G (D + 1) yX8_readAny cX8_readAny 5 (some .boolean) 8 [(0, va_rf l0), (1, .int l1), (2, .int l2), (3, .int l3)] [] h (qI Q) :=
  Lo.ind (P := fun (s : Int32 × Int32) h => V l G (D + 1) yX8_readAny cX8_readAny 5 (some .boolean) 8 [(0, va_rf l0), (1, .int l1), (2, .int s.1), (3, .int s.2)] [] h (qI Q)) (fun K ih s h hw => sb_X8_readAny_8 hD hW (fun l2 l3 h hk => ih (l2, l3) h hk) hw) hw
theorem s_X8_readAny_0 {l : Launch} {G : Gh} {D : Nat} (hD : 20 ≤ D) {W : Nat → Option Nat → Int32 → Hp → (Int32 → Hp → Prop) → Prop} (hW : WS l G D W) {l0 : Option Nat} {l1 : Int32} {h : Hp} {Q : Int32 → Hp → Prop}  (hw : n_X8_readAny_0 W l0 l1 h Q) : V l G (D + 1) yX8_readAny cX8_readAny 5 (some .boolean) 0 [(0, va_rf l0), (1, .int l1)] [] h (qI Q) := by
  unfold n_X8_readAny_0 at hw
  refine V_aload_n 0 rfl rfl dX8_readAny_0 ?_
  refine V_iload_n 1 rfl rfl dX8_readAny_1 ?_
  refine X_cV 8 [.int l1] [] ma_X8_67 (by decide) rfl (by omega) (by decide) rfl (by simp [cat_i, cat_l, rf_cat]) rfl dX8_readAny_2 hw (hW.2.1 _ _ _ _) (k_I (fun v1 h hw => ?_))
  refine V_istore_n (i := 2) [(2, .int v1), (0, va_rf l0), (1, .int l1)] rfl (by decide) rfl dX8_readAny_5 ?_
  refine V_iconst (v := 0) (by decide) dX8_readAny_6 ?_
  refine V_istore_n (i := 3) [(3, .int 0), (2, .int v1), (0, va_rf l0), (1, .int l1)] rfl (by decide) rfl dX8_readAny_7 ?_
  exact V.sub [2, 3, 1, 0] rfl (s_X8_readAny_8 hD hW hw)
theorem ru_X8_readAny {l : Launch} {G : Gh} {D : Nat} (hD : 20 ≤ D) {W : Nat → Option Nat → Int32 → Hp → (Int32 → Hp → Prop) → Prop} (hW : WS l G D W) (l0 : Option Nat) (l1 : Int32) {h : Hp} {Q : Int32 → Hp → Prop} (hw : u_X8_readAny W l0 l1 h Q) : RunQ l G (D + 1) yX8_readAny cX8_readAny 5 (some .boolean) [va_rf l0, .int l1] h (qI Q) :=
  V_run rfl (sl_len _ _ (by simp [cat_i, cat_l, rf_cat])) (V.sub [0, 1] (by simp only [la_r, la_i, la_l, la_n]; rfl) (s_X8_readAny_0 hD hW hw))
def n_X8_readAll_61 (W : Nat → Option Nat → Int32 → Hp → (Int32 → Hp → Prop) → Prop) (l2 : Int32) (h : Hp) (Q : Int32 → Hp → Prop) : Prop :=
  rZ l2 h Q
def n_X8_readAll_54 (W : Nat → Option Nat → Int32 → Hp → (Int32 → Hp → Prop) → Prop) (l0 : Option Nat) (l1 : Int32) (l3 : Int32) (s0 : Int32) (h : Hp) (Q : Int32 → Hp → Prop) (K8 : Int32 → Int32 → Hp → Prop) : Prop :=
  lt (l3 + 1) fun x5 =>
  K8 s0 x5 h
def n_X8_readAll_53 (W : Nat → Option Nat → Int32 → Hp → (Int32 → Hp → Prop) → Prop) (l0 : Option Nat) (l1 : Int32) (l3 : Int32) (h : Hp) (Q : Int32 → Hp → Prop) (K8 : Int32 → Int32 → Hp → Prop) : Prop :=
  n_X8_readAll_54 W l0 l1 l3 0 h Q K8
def b_X8_readAll_8 (W : Nat → Option Nat → Int32 → Hp → (Int32 → Hp → Prop) → Prop) (l0 : Option Nat) (l1 : Int32) (l2 : Int32) (l3 : Int32) (h : Hp) (Q : Int32 → Hp → Prop) (K8 : Int32 → Int32 → Hp → Prop) : Prop :=
  br (60 ≤ l3) (
    n_X8_readAll_61 W l2 h Q) (
    oV h l0 9 <| w_X8_next l0 h <| fun v2 h =>
    br (v2 = 38) (
      gI h l0 9 1027 fun v3 =>
      pI h l0 9 1027 (v3 + 1) fun h =>
      oV h l0 9 <| W 2 l0 l1 h <| fun v4 h =>
      br (l2 = 0) (
        n_X8_readAll_53 W l0 l1 l3 h Q K8) (
        br (v4 = 0) (
          n_X8_readAll_53 W l0 l1 l3 h Q K8) (
          n_X8_readAll_54 W l0 l1 l3 1 h Q K8))) (
      n_X8_readAll_61 W l2 h Q))
def l_X8_readAll_8 (W : Nat → Option Nat → Int32 → Hp → (Int32 → Hp → Prop) → Prop) (l0 : Option Nat) (l1 : Int32) (l2 : Int32) (l3 : Int32) (h : Hp) (Q : Int32 → Hp → Prop) : Prop :=
  Lo (fun (K : Int32 × Int32 → Hp → Prop) s h => b_X8_readAll_8 W l0 l1 s.1 s.2 h Q (fun l2 l3 h => K (l2, l3) h)) (l2, l3) h
def n_X8_readAll_0 (W : Nat → Option Nat → Int32 → Hp → (Int32 → Hp → Prop) → Prop) (l0 : Option Nat) (l1 : Int32) (h : Hp) (Q : Int32 → Hp → Prop) : Prop :=
  oV h l0 9 <| W 2 l0 l1 h <| fun v1 h =>
  l_X8_readAll_8 W l0 l1 v1 0 h Q
def u_X8_readAll (W : Nat → Option Nat → Int32 → Hp → (Int32 → Hp → Prop) → Prop) (l0 : Option Nat) (l1 : Int32) (h : Hp) (Q : Int32 → Hp → Prop) : Prop := n_X8_readAll_0 W l0 l1 h Q
theorem s_X8_readAll_61 {l : Launch} {G : Gh} {D : Nat} (hD : 20 ≤ D) {W : Nat → Option Nat → Int32 → Hp → (Int32 → Hp → Prop) → Prop} (hW : WS l G D W) {l2 : Int32} {h : Hp} {Q : Int32 → Hp → Prop}  (hw : n_X8_readAll_61 W l2 h Q) : V l G (D + 1) yX8_readAll cX8_readAll 5 (some .boolean) 61 [(2, .int l2)] [] h (qI Q) := by
  unfold n_X8_readAll_61 at hw
  refine V_iload_n 0 rfl rfl dX8_readAll_61 ?_
  exact V_zret rfl hw.1 dX8_readAll_62 ⟨_, rfl, hw.2⟩
theorem s_X8_readAll_54 {l : Launch} {G : Gh} {D : Nat} (hD : 20 ≤ D) {W : Nat → Option Nat → Int32 → Hp → (Int32 → Hp → Prop) → Prop} (hW : WS l G D W) {l0 : Option Nat} {l1 : Int32} {l3 : Int32} {s0 : Int32} {h : Hp} {Q : Int32 → Hp → Prop} {K8 : Int32 → Int32 → Hp → Prop} (hK8 : ∀ (l2 : Int32) (l3 : Int32) (h : Hp), K8 l2 l3 h → V l G (D + 1) yX8_readAll cX8_readAll 5 (some .boolean) 8 [(0, va_rf l0), (1, .int l1), (2, .int l2), (3, .int l3)] [] h (qI Q)) (hw : n_X8_readAll_54 W l0 l1 l3 s0 h Q K8) : V l G (D + 1) yX8_readAll cX8_readAll 5 (some .boolean) 54 [(0, va_rf l0), (1, .int l1), (3, .int l3)] [.int s0] h (qI Q) := by
  unfold n_X8_readAll_54 at hw
  refine V_istore_n (i := 2) [(2, .int s0), (0, va_rf l0), (1, .int l1), (3, .int l3)] rfl (by decide) rfl dX8_readAll_54 ?_
  refine V_iincL (n := 1) 3 (fun z => [(3, .int z), (2, .int s0), (0, va_rf l0), (1, .int l1)]) rfl (by rfl) (by decide) (fun _ => rfl) dX8_readAll_55 hw (fun x5 hw => ?_)
  refine V_goto (tgt := 8) dX8_readAll_58 (by decide) ?_
  exact V.sub [2, 3, 1, 0] rfl (hK8 _ _ _ hw)
theorem s_X8_readAll_53 {l : Launch} {G : Gh} {D : Nat} (hD : 20 ≤ D) {W : Nat → Option Nat → Int32 → Hp → (Int32 → Hp → Prop) → Prop} (hW : WS l G D W) {l0 : Option Nat} {l1 : Int32} {l3 : Int32} {h : Hp} {Q : Int32 → Hp → Prop} {K8 : Int32 → Int32 → Hp → Prop} (hK8 : ∀ (l2 : Int32) (l3 : Int32) (h : Hp), K8 l2 l3 h → V l G (D + 1) yX8_readAll cX8_readAll 5 (some .boolean) 8 [(0, va_rf l0), (1, .int l1), (2, .int l2), (3, .int l3)] [] h (qI Q)) (hw : n_X8_readAll_53 W l0 l1 l3 h Q K8) : V l G (D + 1) yX8_readAll cX8_readAll 5 (some .boolean) 53 [(0, va_rf l0), (1, .int l1), (3, .int l3)] [] h (qI Q) := by
  unfold n_X8_readAll_53 at hw
  refine V_iconst (v := 0) (by decide) dX8_readAll_53 ?_
  exact V.sub [0, 1, 2] rfl (s_X8_readAll_54 hD hW hK8 hw)
theorem sb_X8_readAll_8 {l : Launch} {G : Gh} {D : Nat} (hD : 20 ≤ D) {W : Nat → Option Nat → Int32 → Hp → (Int32 → Hp → Prop) → Prop} (hW : WS l G D W) {l0 : Option Nat} {l1 : Int32} {l2 : Int32} {l3 : Int32} {h : Hp} {Q : Int32 → Hp → Prop} {K8 : Int32 → Int32 → Hp → Prop} (hK8 : ∀ (l2 : Int32) (l3 : Int32) (h : Hp), K8 l2 l3 h → V l G (D + 1) yX8_readAll cX8_readAll 5 (some .boolean) 8 [(0, va_rf l0), (1, .int l1), (2, .int l2), (3, .int l3)] [] h (qI Q)) (hw : b_X8_readAll_8 W l0 l1 l2 l3 h Q K8) : V l G (D + 1) yX8_readAll cX8_readAll 5 (some .boolean) 8 [(0, va_rf l0), (1, .int l1), (2, .int l2), (3, .int l3)] [] h (qI Q) := by
  unfold b_X8_readAll_8 at hw
  refine V_iload_n 3 rfl rfl dX8_readAll_8 ?_
  refine V_bipush (v := 60) (by decide) dX8_readAll_9 ?_
  refine V_icmp_ge (tgt := 61) dX8_readAll_11 (by decide) hw (fun hw => ?_) (fun hw => ?_)
  · exact V.sub [2] rfl (s_X8_readAll_61 hD hW hw)
  · refine V_aload_n 0 rfl rfl dX8_readAll_14 ?_
    refine X_cV 8 [] [] ma_X8_54 (by decide) rfl (by omega) (by decide) rfl (by simp [cat_i, cat_l, rf_cat]) rfl dX8_readAll_15 hw (r_X8_next _) (k_I (fun v2 h hw => ?_))
    refine V_bipush (v := 38) (by decide) dX8_readAll_18 ?_
    refine V_icmp_ne (tgt := 61) dX8_readAll_20 (by decide) hw (fun hw => ?_) (fun hw => ?_)
    · refine V_aload_n 0 rfl rfl dX8_readAll_23 ?_
      refine V_dup (rf_cat _) dX8_readAll_24 ?_
      refine X_getI (c := 8) (k := 3) fa_X8_39 rfl dX8_readAll_25 hw (fun v3 hw => ?_)
      refine V_iconst (v := 1) (by decide) dX8_readAll_28 ?_
      refine V_iadd dX8_readAll_29 ?_
      refine X_putI (c := 8) (k := 3) fa_X8_39 (Or.inl rfl) rfl dX8_readAll_30 hw (fun h hw => ?_)
      refine V_aload_n 0 rfl rfl dX8_readAll_33 ?_
      refine V_iload_n 1 rfl rfl dX8_readAll_34 ?_
      refine X_cV 8 [.int l1] [] ma_X8_70 (by decide) rfl (by omega) (by decide) rfl (by simp [cat_i, cat_l, rf_cat]) rfl dX8_readAll_35 hw (hW.2.2 _ _ _ _) (k_I (fun v4 h hw => ?_))
      refine V_istore (i := 4) [(4, .int v4), (0, va_rf l0), (1, .int l1), (2, .int l2), (3, .int l3)] (by decide) rfl dX8_readAll_38 ?_
      refine V_iload_n 3 rfl rfl dX8_readAll_40 ?_
      refine V_if_eq (tgt := 53) dX8_readAll_41 (by decide) hw (fun hw => ?_) (fun hw => ?_)
      · exact V.sub [1, 2, 4] rfl (s_X8_readAll_53 hD hW hK8 hw)
      · refine V_iload 0 rfl dX8_readAll_44 ?_
        refine V_if_eq (tgt := 53) dX8_readAll_46 (by decide) hw (fun hw => ?_) (fun hw => ?_)
        · exact V.sub [1, 2, 4] rfl (s_X8_readAll_53 hD hW hK8 hw)
        · refine V_iconst (v := 1) (by decide) dX8_readAll_49 ?_
          refine V_goto (tgt := 54) dX8_readAll_50 (by decide) ?_
          exact V.sub [1, 2, 4] rfl (s_X8_readAll_54 hD hW hK8 hw)
    · exact V.sub [2] rfl (s_X8_readAll_61 hD hW hw)
theorem s_X8_readAll_8 {l : Launch} {G : Gh} {D : Nat} (hD : 20 ≤ D) {W : Nat → Option Nat → Int32 → Hp → (Int32 → Hp → Prop) → Prop} (hW : WS l G D W) {l0 : Option Nat} {l1 : Int32} {l2 : Int32} {l3 : Int32} {h : Hp} {Q : Int32 → Hp → Prop}  (hw : l_X8_readAll_8 W l0 l1 l2 l3 h Q) : V l G (D + 1) yX8_readAll cX8_readAll 5 (some .boolean) 8 [(0, va_rf l0), (1, .int l1), (2, .int l2), (3, .int l3)] [] h (qI Q) :=
  Lo.ind (P := fun (s : Int32 × Int32) h => V l G (D + 1) yX8_readAll cX8_readAll 5 (some .boolean) 8 [(0, va_rf l0), (1, .int l1), (2, .int s.1), (3, .int s.2)] [] h (qI Q)) (fun K ih s h hw => sb_X8_readAll_8 hD hW (fun l2 l3 h hk => ih (l2, l3) h hk) hw) hw
theorem s_X8_readAll_0 {l : Launch} {G : Gh} {D : Nat} (hD : 20 ≤ D) {W : Nat → Option Nat → Int32 → Hp → (Int32 → Hp → Prop) → Prop} (hW : WS l G D W) {l0 : Option Nat} {l1 : Int32} {h : Hp} {Q : Int32 → Hp → Prop}  (hw : n_X8_readAll_0 W l0 l1 h Q) : V l G (D + 1) yX8_readAll cX8_readAll 5 (some .boolean) 0 [(0, va_rf l0), (1, .int l1)] [] h (qI Q) := by
  unfold n_X8_readAll_0 at hw
  refine V_aload_n 0 rfl rfl dX8_readAll_0 ?_
  refine V_iload_n 1 rfl rfl dX8_readAll_1 ?_
  refine X_cV 8 [.int l1] [] ma_X8_70 (by decide) rfl (by omega) (by decide) rfl (by simp [cat_i, cat_l, rf_cat]) rfl dX8_readAll_2 hw (hW.2.2 _ _ _ _) (k_I (fun v1 h hw => ?_))
  refine V_istore_n (i := 2) [(2, .int v1), (0, va_rf l0), (1, .int l1)] rfl (by decide) rfl dX8_readAll_5 ?_
  refine V_iconst (v := 0) (by decide) dX8_readAll_6 ?_
  refine V_istore_n (i := 3) [(3, .int 0), (2, .int v1), (0, va_rf l0), (1, .int l1)] rfl (by decide) rfl dX8_readAll_7 ?_
  exact V.sub [2, 3, 1, 0] rfl (s_X8_readAll_8 hD hW hw)
theorem ru_X8_readAll {l : Launch} {G : Gh} {D : Nat} (hD : 20 ≤ D) {W : Nat → Option Nat → Int32 → Hp → (Int32 → Hp → Prop) → Prop} (hW : WS l G D W) (l0 : Option Nat) (l1 : Int32) {h : Hp} {Q : Int32 → Hp → Prop} (hw : u_X8_readAll W l0 l1 h Q) : RunQ l G (D + 1) yX8_readAll cX8_readAll 5 (some .boolean) [va_rf l0, .int l1] h (qI Q) :=
  V_run rfl (sl_len _ _ (by simp [cat_i, cat_l, rf_cat])) (V.sub [0, 1] (by simp only [la_r, la_i, la_l, la_n]; rfl) (s_X8_readAll_0 hD hW hw))
def n_X8_readOne_65 (W : Nat → Option Nat → Int32 → Hp → (Int32 → Hp → Prop) → Prop) (s0 : Int32) (h : Hp) (Q : Int32 → Hp → Prop) : Prop :=
  rZ s0 h Q
def n_X8_readOne_22 (W : Nat → Option Nat → Int32 → Hp → (Int32 → Hp → Prop) → Prop) (l0 : Option Nat) (l1 : Int32) (l2 : Int32) (h : Hp) (Q : Int32 → Hp → Prop) : Prop :=
  br (l1 < 20) (
    gI h l0 9 1027 fun v2 =>
    pI h l0 9 1027 (v2 + 1) fun h =>
    br (l2 = 33) (
      oV h l0 9 <| W 2 l0 (l1 + 1) h <| fun v3 h =>
      br (v3 = 0) (
        n_X8_readOne_65 W 1 h Q) (
        n_X8_readOne_65 W 0 h Q)) (
      oV h l0 9 <| W 0 l0 (l1 + 1) h <| fun v4 h =>
      oV h l0 9 <| w_X8_want l0 41 h <| fun h =>
      rZ v4 h Q)) (
    oV h l0 9 <| w_X8_fail l0 h <| fun h =>
    rZ 0 h Q)
def n_X8_readOne_0 (W : Nat → Option Nat → Int32 → Hp → (Int32 → Hp → Prop) → Prop) (l0 : Option Nat) (l1 : Int32) (h : Hp) (Q : Int32 → Hp → Prop) : Prop :=
  oV h l0 9 <| w_X8_next l0 h <| fun v1 h =>
  br (v1 = 33) (
    n_X8_readOne_22 W l0 l1 v1 h Q) (
    br (v1 = 40) (
      n_X8_readOne_22 W l0 l1 v1 h Q) (
      oV h l0 9 <| w_X8_readTest l0 h <| fun v7 h =>
      rZ v7 h Q))
def u_X8_readOne (W : Nat → Option Nat → Int32 → Hp → (Int32 → Hp → Prop) → Prop) (l0 : Option Nat) (l1 : Int32) (h : Hp) (Q : Int32 → Hp → Prop) : Prop := n_X8_readOne_0 W l0 l1 h Q
theorem s_X8_readOne_65 {l : Launch} {G : Gh} {D : Nat} (hD : 20 ≤ D) {W : Nat → Option Nat → Int32 → Hp → (Int32 → Hp → Prop) → Prop} (hW : WS l G D W) {s0 : Int32} {h : Hp} {Q : Int32 → Hp → Prop}  (hw : n_X8_readOne_65 W s0 h Q) : V l G (D + 1) yX8_readOne cX8_readOne 4 (some .boolean) 65 [] [.int s0] h (qI Q) := by
  unfold n_X8_readOne_65 at hw
  exact V_zret rfl hw.1 dX8_readOne_65 ⟨_, rfl, hw.2⟩
theorem s_X8_readOne_22 {l : Launch} {G : Gh} {D : Nat} (hD : 20 ≤ D) {W : Nat → Option Nat → Int32 → Hp → (Int32 → Hp → Prop) → Prop} (hW : WS l G D W) {l0 : Option Nat} {l1 : Int32} {l2 : Int32} {h : Hp} {Q : Int32 → Hp → Prop}  (hw : n_X8_readOne_22 W l0 l1 l2 h Q) : V l G (D + 1) yX8_readOne cX8_readOne 4 (some .boolean) 22 [(0, va_rf l0), (1, .int l1), (2, .int l2)] [] h (qI Q) := by
  unfold n_X8_readOne_22 at hw
  refine V_iload_n 1 rfl rfl dX8_readOne_22 ?_
  refine V_bipush (v := 20) (by decide) dX8_readOne_23 ?_
  refine V_icmp_lt (tgt := 34) dX8_readOne_25 (by decide) hw (fun hw => ?_) (fun hw => ?_)
  · refine V_aload_n 0 rfl rfl dX8_readOne_34 ?_
    refine V_dup (rf_cat _) dX8_readOne_35 ?_
    refine X_getI (c := 8) (k := 3) fa_X8_39 rfl dX8_readOne_36 hw (fun v2 hw => ?_)
    refine V_iconst (v := 1) (by decide) dX8_readOne_39 ?_
    refine V_iadd dX8_readOne_40 ?_
    refine X_putI (c := 8) (k := 3) fa_X8_39 (Or.inl rfl) rfl dX8_readOne_41 hw (fun h hw => ?_)
    refine V_iload_n 2 rfl rfl dX8_readOne_44 ?_
    refine V_bipush (v := 33) (by decide) dX8_readOne_45 ?_
    refine V_icmp_ne (tgt := 66) dX8_readOne_47 (by decide) hw (fun hw => ?_) (fun hw => ?_)
    · refine V_aload_n 0 rfl rfl dX8_readOne_50 ?_
      refine V_iload_n 1 rfl rfl dX8_readOne_51 ?_
      refine V_iconst (v := 1) (by decide) dX8_readOne_52 ?_
      refine V_iadd dX8_readOne_53 ?_
      refine X_cV 8 [.int (l1 + 1)] [] ma_X8_70 (by decide) rfl (by omega) (by decide) rfl (by simp [cat_i, cat_l, rf_cat]) rfl dX8_readOne_54 hw (hW.2.2 _ _ _ _) (k_I (fun v3 h hw => ?_))
      refine V_if_ne (tgt := 64) dX8_readOne_57 (by decide) hw (fun hw => ?_) (fun hw => ?_)
      · refine V_iconst (v := 1) (by decide) dX8_readOne_60 ?_
        refine V_goto (tgt := 65) dX8_readOne_61 (by decide) ?_
        exact V.sub [] rfl (s_X8_readOne_65 hD hW hw)
      · refine V_iconst (v := 0) (by decide) dX8_readOne_64 ?_
        exact V.sub [] rfl (s_X8_readOne_65 hD hW hw)
    · refine V_aload_n 0 rfl rfl dX8_readOne_66 ?_
      refine V_iload_n 1 rfl rfl dX8_readOne_67 ?_
      refine V_iconst (v := 1) (by decide) dX8_readOne_68 ?_
      refine V_iadd dX8_readOne_69 ?_
      refine X_cV 8 [.int (l1 + 1)] [] ma_X8_46 (by decide) rfl (by omega) (by decide) rfl (by simp [cat_i, cat_l, rf_cat]) rfl dX8_readOne_70 hw (hW.1 _ _ _ _) (k_I (fun v4 h hw => ?_))
      refine V_istore_n (i := 3) [(3, .int v4), (0, va_rf l0), (1, .int l1), (2, .int l2)] rfl (by decide) rfl dX8_readOne_73 ?_
      refine V_aload_n 1 rfl rfl dX8_readOne_74 ?_
      refine V_bipush (v := 41) (by decide) dX8_readOne_75 ?_
      refine X_cV 8 [.int 41] [] ma_X8_42 (by decide) rfl (by omega) (by decide) rfl (by simp [cat_i, cat_l, rf_cat]) rfl dX8_readOne_77 hw (r_X8_want _ _) (k_V (fun h hw => ?_))
      refine V_iload_n 0 rfl rfl dX8_readOne_80 ?_
      exact V_zret rfl hw.1 dX8_readOne_81 ⟨_, rfl, hw.2⟩
  · refine V_aload_n 0 rfl rfl dX8_readOne_28 ?_
    refine X_cV 8 [] [] ma_X8_64 (by decide) rfl (by omega) (by decide) rfl (by simp [cat_i, cat_l, rf_cat]) rfl dX8_readOne_29 hw (r_X8_fail _) (k_V (fun h hw => ?_))
    refine V_iconst (v := 0) (by decide) dX8_readOne_32 ?_
    exact V_zret rfl hw.1 dX8_readOne_33 ⟨_, rfl, hw.2⟩
theorem s_X8_readOne_0 {l : Launch} {G : Gh} {D : Nat} (hD : 20 ≤ D) {W : Nat → Option Nat → Int32 → Hp → (Int32 → Hp → Prop) → Prop} (hW : WS l G D W) {l0 : Option Nat} {l1 : Int32} {h : Hp} {Q : Int32 → Hp → Prop}  (hw : n_X8_readOne_0 W l0 l1 h Q) : V l G (D + 1) yX8_readOne cX8_readOne 4 (some .boolean) 0 [(0, va_rf l0), (1, .int l1)] [] h (qI Q) := by
  unfold n_X8_readOne_0 at hw
  refine V_aload_n 0 rfl rfl dX8_readOne_0 ?_
  refine X_cV 8 [] [] ma_X8_54 (by decide) rfl (by omega) (by decide) rfl (by simp [cat_i, cat_l, rf_cat]) rfl dX8_readOne_1 hw (r_X8_next _) (k_I (fun v1 h hw => ?_))
  refine V_istore_n (i := 2) [(2, .int v1), (0, va_rf l0), (1, .int l1)] rfl (by decide) rfl dX8_readOne_4 ?_
  refine V_iload_n 0 rfl rfl dX8_readOne_5 ?_
  refine V_bipush (v := 33) (by decide) dX8_readOne_6 ?_
  refine V_icmp_eq (tgt := 22) dX8_readOne_8 (by decide) hw (fun hw => ?_) (fun hw => ?_)
  · exact V.sub [1, 2, 0] rfl (s_X8_readOne_22 hD hW hw)
  · refine V_iload_n 0 rfl rfl dX8_readOne_11 ?_
    refine V_bipush (v := 40) (by decide) dX8_readOne_12 ?_
    refine V_icmp_eq (tgt := 22) dX8_readOne_14 (by decide) hw (fun hw => ?_) (fun hw => ?_)
    · exact V.sub [1, 2, 0] rfl (s_X8_readOne_22 hD hW hw)
    · refine V_aload_n 1 rfl rfl dX8_readOne_17 ?_
      refine X_cV 8 [] [] ma_X8_73 (by decide) rfl (by omega) (by decide) rfl (by simp [cat_i, cat_l, rf_cat]) rfl dX8_readOne_18 hw (r_X8_readTest _) (k_I (fun v7 h hw => ?_))
      exact V_zret rfl hw.1 dX8_readOne_21 ⟨_, rfl, hw.2⟩
theorem ru_X8_readOne {l : Launch} {G : Gh} {D : Nat} (hD : 20 ≤ D) {W : Nat → Option Nat → Int32 → Hp → (Int32 → Hp → Prop) → Prop} (hW : WS l G D W) (l0 : Option Nat) (l1 : Int32) {h : Hp} {Q : Int32 → Hp → Prop} (hw : u_X8_readOne W l0 l1 h Q) : RunQ l G (D + 1) yX8_readOne cX8_readOne 4 (some .boolean) [va_rf l0, .int l1] h (qI Q) :=
  V_run rfl (sl_len _ _ (by simp [cat_i, cat_l, rf_cat])) (V.sub [0, 1] (by simp only [la_r, la_i, la_l, la_n]; rfl) (s_X8_readOne_0 hD hW hw))
def wRec : Nat → Nat → Option Nat → Int32 → Hp → (Int32 → Hp → Prop) → Prop
  | 0 => fun _ _ _ _ _ => False
  | f + 1 => fun i v x h Q => if i = 0 then u_X8_readAny (wRec f) v x h Q else if i = 1 then u_X8_readAll (wRec f) v x h Q else if i = 2 then u_X8_readOne (wRec f) v x h Q else False
theorem wRec_ok {l : Launch} {G : Gh} : ∀ f D, 20 + f ≤ D → WS l G D (wRec f) := by
  intro f
  induction f with
  | zero => intro D hD; exact ⟨fun _ _ _ _ q => q.elim, fun _ _ _ _ q => q.elim, fun _ _ _ _ q => q.elim⟩
  | succ f ih =>
    intro D hD
    obtain ⟨D0, rfl⟩ : ∃ D0, D = D0 + 1 := ⟨D - 1, by omega⟩
    have hW := ih D0 (by omega)
    exact ⟨fun v x h Q q => ru_X8_readAny (by omega) hW v x q, fun v x h Q q => ru_X8_readAll (by omega) hW v x q, fun v x h Q q => ru_X8_readOne (by omega) hW v x q⟩
def w_X8_readAny (v : Option Nat) (x : Int32) (h : Hp) (Q : Int32 → Hp → Prop) : Prop := ∃ f, f ≤ 79 ∧ wRec f 0 v x h Q
theorem r_X8_readAny {l : Launch} {G : Gh} (v : Option Nat) (x : Int32) {h : Hp} {Q : Int32 → Hp → Prop} (hw : w_X8_readAny v x h Q) : RunQ l G 100 yX8_readAny cX8_readAny 5 (some .boolean) [va_rf v, .int x] h (qI Q) := by
  obtain ⟨f, hf, q⟩ := hw
  exact (wRec_ok f 100 (by omega)).1 v x h Q q
def n_X8_readRule_108 (h : Hp) (Q : Hp → Prop) : Prop :=
  Q h
def n_X8_readRule_90 (l0 : Option Nat) (s0 : Int32) (s1 : Option Nat) (h : Hp) (Q : Hp → Prop) : Prop :=
  oV h s1 9 <| w_X8_pass s1 s0 h <| fun h =>
  gI h l0 9 1027 fun v10 =>
  gI h l0 9 1026 fun v11 =>
  br (v11 ≤ v10) (
    n_X8_readRule_108 h Q) (
    oV h l0 9 <| w_X8_fail l0 h <| fun h =>
    n_X8_readRule_108 h Q)
def n_X8_readRule_85 (l0 : Option Nat) (s0 : Option Nat) (h : Hp) (Q : Hp → Prop) : Prop :=
  n_X8_readRule_90 l0 1 s0 h Q
def n_X8_readRule_0 (l0 : Option Nat) (h : Hp) (Q : Hp → Prop) : Prop :=
  pI h l0 9 1027 0 fun h =>
  pI h l0 9 1028 (-1) fun h =>
  oV h l0 9 <| w_X8_want l0 107 h <| fun h =>
  oV h l0 9 <| w_X8_want l0 58 h <| fun h =>
  oV h l0 9 <| w_X8_readAny l0 0 h <| fun v3 h =>
  pZ h l0 9 1029 v3 fun h =>
  oV h l0 9 <| w_X8_want l0 59 h <| fun h =>
  oV h l0 9 <| w_X8_want l0 106 h <| fun h =>
  oV h l0 9 <| w_X8_want l0 58 h <| fun h =>
  oV h l0 9 <| w_X8_next l0 h <| fun v7 h =>
  pI h l0 9 1030 v7 fun h =>
  gI h l0 9 1030 fun v8 =>
  br (v8 = 120) (
    n_X8_readRule_85 l0 l0 h Q) (
    gI h l0 9 1030 fun v13 =>
    br (v13 = 108) (
      n_X8_readRule_85 l0 l0 h Q) (
      gI h l0 9 1030 fun v14 =>
      br (v14 = 99) (
        n_X8_readRule_85 l0 l0 h Q) (
        n_X8_readRule_90 l0 0 l0 h Q)))
def w_X8_readRule (l0 : Option Nat) (h : Hp) (Q : Hp → Prop) : Prop := n_X8_readRule_0 l0 h Q
theorem s_X8_readRule_108 {l : Launch} {G : Gh}  {h : Hp} {Q : Hp → Prop}  (hw : n_X8_readRule_108 h Q) : V l G 101 yX8_readRule cX8_readRule 1 none 108 [] [] h (qV Q) := by
  unfold n_X8_readRule_108 at hw
  exact V_vret rfl dX8_readRule_108 ⟨rfl, hw⟩
theorem s_X8_readRule_90 {l : Launch} {G : Gh} {l0 : Option Nat} {s0 : Int32} {s1 : Option Nat} {h : Hp} {Q : Hp → Prop}  (hw : n_X8_readRule_90 l0 s0 s1 h Q) : V l G 101 yX8_readRule cX8_readRule 1 none 90 [(0, va_rf l0)] [.int s0, va_rf s1] h (qV Q) := by
  unfold n_X8_readRule_90 at hw
  refine X_cV 8 [.int s0] [] ma_X8_60 (by decide) rfl (by decide) (by decide) rfl (by simp [cat_i, cat_l, rf_cat]) rfl dX8_readRule_90 hw (r_X8_pass _ _) (k_V (fun h hw => ?_))
  refine V_aload_n 0 rfl rfl dX8_readRule_93 ?_
  refine X_getI (c := 8) (k := 3) fa_X8_39 rfl dX8_readRule_94 hw (fun v10 hw => ?_)
  refine V_aload_n 0 rfl rfl dX8_readRule_97 ?_
  refine X_getI (c := 8) (k := 2) fa_X8_36 rfl dX8_readRule_98 hw (fun v11 hw => ?_)
  refine V_icmp_ge (tgt := 108) dX8_readRule_101 (by decide) hw (fun hw => ?_) (fun hw => ?_)
  · exact V.sub [] rfl (s_X8_readRule_108 hw)
  · refine V_aload_n 0 rfl rfl dX8_readRule_104 ?_
    refine X_cV 8 [] [] ma_X8_64 (by decide) rfl (by decide) (by decide) rfl (by simp [cat_i, cat_l, rf_cat]) rfl dX8_readRule_105 hw (r_X8_fail _) (k_V (fun h hw => ?_))
    exact V.sub [] rfl (s_X8_readRule_108 hw)
theorem s_X8_readRule_85 {l : Launch} {G : Gh} {l0 : Option Nat} {s0 : Option Nat} {h : Hp} {Q : Hp → Prop}  (hw : n_X8_readRule_85 l0 s0 h Q) : V l G 101 yX8_readRule cX8_readRule 1 none 85 [(0, va_rf l0)] [va_rf s0] h (qV Q) := by
  unfold n_X8_readRule_85 at hw
  refine V_iconst (v := 1) (by decide) dX8_readRule_85 ?_
  refine V_goto (tgt := 90) dX8_readRule_86 (by decide) ?_
  exact V.sub [0] rfl (s_X8_readRule_90 hw)
set_option maxRecDepth 20000 in
theorem s_X8_readRule_0 {l : Launch} {G : Gh} {l0 : Option Nat} {h : Hp} {Q : Hp → Prop}  (hw : n_X8_readRule_0 l0 h Q) : V l G 101 yX8_readRule cX8_readRule 1 none 0 [(0, va_rf l0)] [] h (qV Q) := by
  unfold n_X8_readRule_0 at hw
  refine V_aload_n 0 rfl rfl dX8_readRule_0 ?_
  refine V_iconst (v := 0) (by decide) dX8_readRule_1 ?_
  refine X_putI (c := 8) (k := 3) fa_X8_39 (Or.inl rfl) rfl dX8_readRule_2 hw (fun h hw => ?_)
  refine V_aload_n 0 rfl rfl dX8_readRule_5 ?_
  refine V_iconst (v := (-1)) (by decide) dX8_readRule_6 ?_
  refine X_putI (c := 8) (k := 4) fa_X8_26 (Or.inl rfl) rfl dX8_readRule_7 hw (fun h hw => ?_)
  refine V_aload_n 0 rfl rfl dX8_readRule_10 ?_
  refine V_bipush (v := 107) (by decide) dX8_readRule_11 ?_
  refine X_cV 8 [.int 107] [] ma_X8_42 (by decide) rfl (by decide) (by decide) rfl (by simp [cat_i, cat_l, rf_cat]) rfl dX8_readRule_13 hw (r_X8_want _ _) (k_V (fun h hw => ?_))
  refine V_aload_n 0 rfl rfl dX8_readRule_16 ?_
  refine V_bipush (v := 58) (by decide) dX8_readRule_17 ?_
  refine X_cV 8 [.int 58] [] ma_X8_42 (by decide) rfl (by decide) (by decide) rfl (by simp [cat_i, cat_l, rf_cat]) rfl dX8_readRule_19 hw (r_X8_want _ _) (k_V (fun h hw => ?_))
  refine V_aload_n 0 rfl rfl dX8_readRule_22 ?_
  refine V_aload_n 0 rfl rfl dX8_readRule_23 ?_
  refine V_iconst (v := 0) (by decide) dX8_readRule_24 ?_
  refine X_cV 8 [.int 0] [va_rf l0] ma_X8_46 (by decide) rfl (by decide) (by decide) rfl (by simp [cat_i, cat_l, rf_cat]) rfl dX8_readRule_25 hw (r_X8_readAny _ _) (k_I (fun v3 h hw => ?_))
  refine X_putZ (c := 8) (k := 5) fa_X8_50 (Or.inl rfl) rfl dX8_readRule_28 hw (fun h hw => ?_)
  refine V_aload_n 0 rfl rfl dX8_readRule_31 ?_
  refine V_bipush (v := 59) (by decide) dX8_readRule_32 ?_
  refine X_cV 8 [.int 59] [] ma_X8_42 (by decide) rfl (by decide) (by decide) rfl (by simp [cat_i, cat_l, rf_cat]) rfl dX8_readRule_34 hw (r_X8_want _ _) (k_V (fun h hw => ?_))
  refine V_aload_n 0 rfl rfl dX8_readRule_37 ?_
  refine V_bipush (v := 106) (by decide) dX8_readRule_38 ?_
  refine X_cV 8 [.int 106] [] ma_X8_42 (by decide) rfl (by decide) (by decide) rfl (by simp [cat_i, cat_l, rf_cat]) rfl dX8_readRule_40 hw (r_X8_want _ _) (k_V (fun h hw => ?_))
  refine V_aload_n 0 rfl rfl dX8_readRule_43 ?_
  refine V_bipush (v := 58) (by decide) dX8_readRule_44 ?_
  refine X_cV 8 [.int 58] [] ma_X8_42 (by decide) rfl (by decide) (by decide) rfl (by simp [cat_i, cat_l, rf_cat]) rfl dX8_readRule_46 hw (r_X8_want _ _) (k_V (fun h hw => ?_))
  refine V_aload_n 0 rfl rfl dX8_readRule_49 ?_
  refine V_aload_n 0 rfl rfl dX8_readRule_50 ?_
  refine X_cV 8 [] [va_rf l0] ma_X8_54 (by decide) rfl (by decide) (by decide) rfl (by simp [cat_i, cat_l, rf_cat]) rfl dX8_readRule_51 hw (r_X8_next _) (k_I (fun v7 h hw => ?_))
  refine X_putI (c := 8) (k := 6) fa_X8_57 (Or.inl rfl) rfl dX8_readRule_54 hw (fun h hw => ?_)
  refine V_aload_n 0 rfl rfl dX8_readRule_57 ?_
  refine V_aload_n 0 rfl rfl dX8_readRule_58 ?_
  refine X_getI (c := 8) (k := 6) fa_X8_57 rfl dX8_readRule_59 hw (fun v8 hw => ?_)
  refine V_bipush (v := 120) (by decide) dX8_readRule_62 ?_
  refine V_icmp_eq (tgt := 85) dX8_readRule_64 (by decide) hw (fun hw => ?_) (fun hw => ?_)
  · exact V.sub [0] rfl (s_X8_readRule_85 hw)
  · refine V_aload_n 0 rfl rfl dX8_readRule_67 ?_
    refine X_getI (c := 8) (k := 6) fa_X8_57 rfl dX8_readRule_68 hw (fun v13 hw => ?_)
    refine V_bipush (v := 108) (by decide) dX8_readRule_71 ?_
    refine V_icmp_eq (tgt := 85) dX8_readRule_73 (by decide) hw (fun hw => ?_) (fun hw => ?_)
    · exact V.sub [0] rfl (s_X8_readRule_85 hw)
    · refine V_aload_n 0 rfl rfl dX8_readRule_76 ?_
      refine X_getI (c := 8) (k := 6) fa_X8_57 rfl dX8_readRule_77 hw (fun v14 hw => ?_)
      refine V_bipush (v := 99) (by decide) dX8_readRule_80 ?_
      refine V_icmp_ne (tgt := 89) dX8_readRule_82 (by decide) hw (fun hw => ?_) (fun hw => ?_)
      · exact V.sub [0] rfl (s_X8_readRule_85 hw)
      · refine V_iconst (v := 0) (by decide) dX8_readRule_89 ?_
        exact V.sub [0] rfl (s_X8_readRule_90 hw)
theorem r_X8_readRule {l : Launch} {G : Gh} (l0 : Option Nat) {h : Hp} {Q : Hp → Prop} (hw : w_X8_readRule l0 h Q) : RunQ l G 101 yX8_readRule cX8_readRule 1 none [va_rf l0] h (qV Q) :=
  V_run rfl (sl_len _ _ (by simp [cat_i, cat_l, rf_cat])) (V.sub [0] (by simp only [la_r, la_i, la_l, la_n]; rfl) (s_X8_readRule_0 hw))
def n_X10_sift_127 (l0 : Option Nat) (l1 : Option Nat) (l2 : Option Nat) (l4 : Int32) (s0 : Int32) (s1 : Int32) (h : Hp) (Q : Int32 → Hp → Prop) (K18 : Int32 → Int32 → Hp → Prop) : Prop :=
  w_X10_bit s0 h <| fun v11 h =>
  lt (s1 + v11) fun x12 =>
  lt (l4 + 1) fun x13 =>
  K18 x12 x13 h
def n_X10_sift_107 (l0 : Option Nat) (l1 : Option Nat) (l2 : Option Nat) (l3 : Int32) (l4 : Int32) (h : Hp) (Q : Int32 → Hp → Prop) (K18 : Int32 → Int32 → Hp → Prop) : Prop :=
  gR h l0 11 1289 fun v8 =>
  gR h v8 3 258 fun v9 =>
  ldI h v9 l4 fun v10 =>
  br (v10 = (-1)) (
    n_X10_sift_127 l0 l1 l2 l4 0 l3 h Q K18) (
    n_X10_sift_127 l0 l1 l2 l4 1 l3 h Q K18)
def n_X10_sift_106 (l0 : Option Nat) (l1 : Option Nat) (l2 : Option Nat) (l3 : Int32) (l4 : Int32) (s0 : Int32) (s1 : Int32) (s2 : Option Nat) (h : Hp) (Q : Int32 → Hp → Prop) (K18 : Int32 → Int32 → Hp → Prop) : Prop :=
  stI h s2 s1 s0 fun h =>
  n_X10_sift_107 l0 l1 l2 l3 l4 h Q K18
def b_X10_sift_18 (l0 : Option Nat) (l1 : Option Nat) (l2 : Option Nat) (l3 : Int32) (l4 : Int32) (h : Hp) (Q : Int32 → Hp → Prop) (K18 : Int32 → Int32 → Hp → Prop) : Prop :=
  gR h l0 11 1289 fun v4 =>
  gI h v4 3 260 fun v5 =>
  br (v5 ≤ l4) (
    Q l3 h) (
    gR h l0 11 1289 fun v6 =>
    gR h v6 3 258 fun v7 =>
    stI h v7 l4 120 fun h =>
    br (l2 = none) (
      n_X10_sift_107 l0 l1 l2 l3 l4 h Q K18) (
      oV h l0 11 <| w_X10_tellFields l0 l1 l4 h <| fun h =>
      gR h l0 11 1288 fun v15 =>
      gR h l2 8 899 fun v16 =>
      gR h l2 8 899 fun v17 =>
      alN h v17 fun v18 =>
      oV h v15 9 <| w_X8_takeLetters v15 v16 v18 h <| fun h =>
      gR h l0 11 1288 fun v20 =>
      oV h v20 9 <| w_X8_readRule v20 h <| fun h =>
      gR h l0 11 1289 fun v22 =>
      gR h v22 3 258 fun v23 =>
      gR h l0 11 1288 fun v24 =>
      gI h v24 9 1029 fun v25 =>
      br (v25 = 0) (
        n_X10_sift_106 l0 l1 l2 l3 l4 (-1) l4 v23 h Q K18) (
        gR h l0 11 1288 fun v26 =>
        gI h v26 9 1030 fun v27 =>
        n_X10_sift_106 l0 l1 l2 l3 l4 v27 l4 v23 h Q K18)))
def l_X10_sift_18 (l0 : Option Nat) (l1 : Option Nat) (l2 : Option Nat) (l3 : Int32) (l4 : Int32) (h : Hp) (Q : Int32 → Hp → Prop) : Prop :=
  Lo (fun (K : Int32 × Int32 → Hp → Prop) s h => b_X10_sift_18 l0 l1 l2 s.1 s.2 h Q (fun l3 l4 h => K (l3, l4) h)) (l3, l4) h
def n_X10_sift_0 (l0 : Option Nat) (l1 : Option Nat) (h : Hp) (Q : Int32 → Hp → Prop) : Prop :=
  gI h l1 6 641 fun v1 =>
  gI h l0 11 1297 fun v2 =>
  oV h l0 11 <| w_X10_ruleInForce l0 v1 v2 h <| fun v3 h =>
  l_X10_sift_18 l0 l1 v3 0 0 h Q
def w_X10_sift (l0 : Option Nat) (l1 : Option Nat) (h : Hp) (Q : Int32 → Hp → Prop) : Prop := n_X10_sift_0 l0 l1 h Q
theorem s_X10_sift_127 {l : Launch} {G : Gh} {l0 : Option Nat} {l1 : Option Nat} {l2 : Option Nat} {l4 : Int32} {s0 : Int32} {s1 : Int32} {h : Hp} {Q : Int32 → Hp → Prop} {K18 : Int32 → Int32 → Hp → Prop} (hK18 : ∀ (l3 : Int32) (l4 : Int32) (h : Hp), K18 l3 l4 h → V l G 102 yX10_sift cX10_sift 5 (some .int) 18 [(0, va_rf l0), (1, va_rf l1), (2, va_rf l2), (3, .int l3), (4, .int l4)] [] h (qI Q)) (hw : n_X10_sift_127 l0 l1 l2 l4 s0 s1 h Q K18) : V l G 102 yX10_sift cX10_sift 5 (some .int) 127 [(0, va_rf l0), (1, va_rf l1), (2, va_rf l2), (4, .int l4)] [.int s0, .int s1] h (qI Q) := by
  unfold n_X10_sift_127 at hw
  refine X_cS [.int s0] [.int s1] ma_X10_138 (by decide) (by decide) rfl (by simp [cat_i, cat_l, rf_cat]) rfl dX10_sift_127 (r_X10_bit _ hw) (k_I (fun v11 h hw => ?_))
  refine V_iadd dX10_sift_130 ?_
  refine V_ltI hw (fun x12 hw => ?_)
  refine V_istore_n (i := 3) [(3, .int x12), (0, va_rf l0), (1, va_rf l1), (2, va_rf l2), (4, .int l4)] rfl (by decide) (by simp [List.filter_cons, rf_cat, cat_i, cat_l]) dX10_sift_131 ?_
  refine V_iincL (n := 1) 4 (fun z => [(4, .int z), (3, .int x12), (0, va_rf l0), (1, va_rf l1), (2, va_rf l2)]) rfl (by rfl) (by decide) (fun _ => rfl) dX10_sift_132 hw (fun x13 hw => ?_)
  refine V_goto (tgt := 18) dX10_sift_135 (by decide) ?_
  exact V.sub [2, 3, 4, 1, 0] rfl (hK18 _ _ _ hw)
theorem s_X10_sift_107 {l : Launch} {G : Gh} {l0 : Option Nat} {l1 : Option Nat} {l2 : Option Nat} {l3 : Int32} {l4 : Int32} {h : Hp} {Q : Int32 → Hp → Prop} {K18 : Int32 → Int32 → Hp → Prop} (hK18 : ∀ (l3 : Int32) (l4 : Int32) (h : Hp), K18 l3 l4 h → V l G 102 yX10_sift cX10_sift 5 (some .int) 18 [(0, va_rf l0), (1, va_rf l1), (2, va_rf l2), (3, .int l3), (4, .int l4)] [] h (qI Q)) (hw : n_X10_sift_107 l0 l1 l2 l3 l4 h Q K18) : V l G 102 yX10_sift cX10_sift 5 (some .int) 107 [(0, va_rf l0), (1, va_rf l1), (2, va_rf l2), (3, .int l3), (4, .int l4)] [] h (qI Q) := by
  unfold n_X10_sift_107 at hw
  refine V_iload_n 3 rfl rfl dX10_sift_107 ?_
  refine V_aload_n 0 rfl rfl dX10_sift_108 ?_
  refine X_getR (c := 10) (k := 9) fa_X10_62 rfl dX10_sift_109 hw (fun v8 hw => ?_)
  refine X_getR (c := 2) (k := 2) fa_X10_371 rfl dX10_sift_112 hw (fun v9 hw => ?_)
  refine V_iload 4 rfl dX10_sift_115 ?_
  refine X_ldI dX10_sift_117 hw (fun v10 hw => ?_)
  refine V_iconst (v := (-1)) (by decide) dX10_sift_118 ?_
  refine V_icmp_eq (tgt := 126) dX10_sift_119 (by decide) hw (fun hw => ?_) (fun hw => ?_)
  · refine V_iconst (v := 0) (by decide) dX10_sift_126 ?_
    exact V.sub [0, 1, 2, 4] rfl (s_X10_sift_127 hK18 hw)
  · refine V_iconst (v := 1) (by decide) dX10_sift_122 ?_
    refine V_goto (tgt := 127) dX10_sift_123 (by decide) ?_
    exact V.sub [0, 1, 2, 4] rfl (s_X10_sift_127 hK18 hw)
theorem s_X10_sift_106 {l : Launch} {G : Gh} {l0 : Option Nat} {l1 : Option Nat} {l2 : Option Nat} {l3 : Int32} {l4 : Int32} {s0 : Int32} {s1 : Int32} {s2 : Option Nat} {h : Hp} {Q : Int32 → Hp → Prop} {K18 : Int32 → Int32 → Hp → Prop} (hK18 : ∀ (l3 : Int32) (l4 : Int32) (h : Hp), K18 l3 l4 h → V l G 102 yX10_sift cX10_sift 5 (some .int) 18 [(0, va_rf l0), (1, va_rf l1), (2, va_rf l2), (3, .int l3), (4, .int l4)] [] h (qI Q)) (hw : n_X10_sift_106 l0 l1 l2 l3 l4 s0 s1 s2 h Q K18) : V l G 102 yX10_sift cX10_sift 5 (some .int) 106 [(0, va_rf l0), (1, va_rf l1), (2, va_rf l2), (3, .int l3), (4, .int l4)] [.int s0, .int s1, va_rf s2] h (qI Q) := by
  unfold n_X10_sift_106 at hw
  refine X_stI dX10_sift_106 hw (fun h hw => ?_)
  exact V.sub [0, 1, 2, 3, 4] rfl (s_X10_sift_107 hK18 hw)
set_option maxRecDepth 20000 in
theorem sb_X10_sift_18 {l : Launch} {G : Gh} {l0 : Option Nat} {l1 : Option Nat} {l2 : Option Nat} {l3 : Int32} {l4 : Int32} {h : Hp} {Q : Int32 → Hp → Prop} {K18 : Int32 → Int32 → Hp → Prop} (hK18 : ∀ (l3 : Int32) (l4 : Int32) (h : Hp), K18 l3 l4 h → V l G 102 yX10_sift cX10_sift 5 (some .int) 18 [(0, va_rf l0), (1, va_rf l1), (2, va_rf l2), (3, .int l3), (4, .int l4)] [] h (qI Q)) (hw : b_X10_sift_18 l0 l1 l2 l3 l4 h Q K18) : V l G 102 yX10_sift cX10_sift 5 (some .int) 18 [(0, va_rf l0), (1, va_rf l1), (2, va_rf l2), (3, .int l3), (4, .int l4)] [] h (qI Q) := by
  unfold b_X10_sift_18 at hw
  refine V_iload 4 rfl dX10_sift_18 ?_
  refine V_aload_n 0 rfl rfl dX10_sift_20 ?_
  refine X_getR (c := 10) (k := 9) fa_X10_62 rfl dX10_sift_21 hw (fun v4 hw => ?_)
  refine X_getI (c := 2) (k := 4) fa_X10_370 rfl dX10_sift_24 hw (fun v5 hw => ?_)
  refine V_icmp_ge (tgt := 138) dX10_sift_27 (by decide) hw (fun hw => ?_) (fun hw => ?_)
  · refine V_iload_n 3 rfl rfl dX10_sift_138 ?_
    exact V_iret rfl dX10_sift_139 ⟨_, rfl, hw⟩
  · refine V_aload_n 0 rfl rfl dX10_sift_30 ?_
    refine X_getR (c := 10) (k := 9) fa_X10_62 rfl dX10_sift_31 hw (fun v6 hw => ?_)
    refine X_getR (c := 2) (k := 2) fa_X10_371 rfl dX10_sift_34 hw (fun v7 hw => ?_)
    refine V_iload 4 rfl dX10_sift_37 ?_
    refine V_bipush (v := 120) (by decide) dX10_sift_39 ?_
    refine X_stI dX10_sift_41 hw (fun h hw => ?_)
    refine V_aload_n 2 rfl rfl dX10_sift_42 ?_
    refine V_ifnull (tgt := 107) dX10_sift_43 (by decide) hw (fun hw => ?_) (fun hw => ?_)
    · exact V.sub [0, 1, 2, 3, 4] rfl (s_X10_sift_107 hK18 hw)
    · refine V_aload_n 0 rfl rfl dX10_sift_46 ?_
      refine V_aload_n 1 rfl rfl dX10_sift_47 ?_
      refine V_iload 4 rfl dX10_sift_48 ?_
      refine X_cV 10 [va_rf l1, .int l4] [] ma_X10_395 (by decide) rfl (by decide) (by decide) rfl (by simp [cat_i, cat_l, rf_cat]) rfl dX10_sift_50 hw (r_X10_tellFields _ _ _) (k_V (fun h hw => ?_))
      refine V_aload_n 0 rfl rfl dX10_sift_53 ?_
      refine X_getR (c := 10) (k := 8) fa_X10_55 rfl dX10_sift_54 hw (fun v15 hw => ?_)
      refine V_aload_n 2 rfl rfl dX10_sift_57 ?_
      refine X_getR (c := 7) (k := 3) fa_X10_399 rfl dX10_sift_58 hw (fun v16 hw => ?_)
      refine V_aload_n 2 rfl rfl dX10_sift_61 ?_
      refine X_getR (c := 7) (k := 3) fa_X10_399 rfl dX10_sift_62 hw (fun v17 hw => ?_)
      refine X_alen dX10_sift_65 hw (fun v18 hw => ?_)
      refine X_cV 8 [va_rf v16, .int v18] [] ma_X10_336 (by decide) rfl (by decide) (by decide) rfl (by simp [cat_i, cat_l, rf_cat]) rfl dX10_sift_66 hw (r_X8_takeLetters _ _ _) (k_V (fun h hw => ?_))
      refine V_aload_n 0 rfl rfl dX10_sift_69 ?_
      refine X_getR (c := 10) (k := 8) fa_X10_55 rfl dX10_sift_70 hw (fun v20 hw => ?_)
      refine X_cV 8 [] [] ma_X10_340 (by decide) rfl (by decide) (by decide) rfl (by simp [cat_i, cat_l, rf_cat]) rfl dX10_sift_73 hw (r_X8_readRule _) (k_V (fun h hw => ?_))
      refine V_aload_n 0 rfl rfl dX10_sift_76 ?_
      refine X_getR (c := 10) (k := 9) fa_X10_62 rfl dX10_sift_77 hw (fun v22 hw => ?_)
      refine X_getR (c := 2) (k := 2) fa_X10_371 rfl dX10_sift_80 hw (fun v23 hw => ?_)
      refine V_iload 4 rfl dX10_sift_83 ?_
      refine V_aload_n 0 rfl rfl dX10_sift_85 ?_
      refine X_getR (c := 10) (k := 8) fa_X10_55 rfl dX10_sift_86 hw (fun v24 hw => ?_)
      refine X_getI (c := 8) (k := 5) fa_X10_402 rfl dX10_sift_89 hw (fun v25 hw => ?_)
      refine V_if_eq (tgt := 105) dX10_sift_92 (by decide) hw (fun hw => ?_) (fun hw => ?_)
      · refine V_iconst (v := (-1)) (by decide) dX10_sift_105 ?_
        exact V.sub [0, 1, 2, 3, 4] rfl (s_X10_sift_106 hK18 hw)
      · refine V_aload_n 0 rfl rfl dX10_sift_95 ?_
        refine X_getR (c := 10) (k := 8) fa_X10_55 rfl dX10_sift_96 hw (fun v26 hw => ?_)
        refine X_getI (c := 8) (k := 6) fa_X10_405 rfl dX10_sift_99 hw (fun v27 hw => ?_)
        refine V_goto (tgt := 106) dX10_sift_102 (by decide) ?_
        exact V.sub [0, 1, 2, 3, 4] rfl (s_X10_sift_106 hK18 hw)
theorem s_X10_sift_18 {l : Launch} {G : Gh} {l0 : Option Nat} {l1 : Option Nat} {l2 : Option Nat} {l3 : Int32} {l4 : Int32} {h : Hp} {Q : Int32 → Hp → Prop}  (hw : l_X10_sift_18 l0 l1 l2 l3 l4 h Q) : V l G 102 yX10_sift cX10_sift 5 (some .int) 18 [(0, va_rf l0), (1, va_rf l1), (2, va_rf l2), (3, .int l3), (4, .int l4)] [] h (qI Q) :=
  Lo.ind (P := fun (s : Int32 × Int32) h => V l G 102 yX10_sift cX10_sift 5 (some .int) 18 [(0, va_rf l0), (1, va_rf l1), (2, va_rf l2), (3, .int s.1), (4, .int s.2)] [] h (qI Q)) (fun K ih s h hw => sb_X10_sift_18 (fun l3 l4 h hk => ih (l3, l4) h hk) hw) hw
theorem s_X10_sift_0 {l : Launch} {G : Gh} {l0 : Option Nat} {l1 : Option Nat} {h : Hp} {Q : Int32 → Hp → Prop}  (hw : n_X10_sift_0 l0 l1 h Q) : V l G 102 yX10_sift cX10_sift 5 (some .int) 0 [(0, va_rf l0), (1, va_rf l1)] [] h (qI Q) := by
  unfold n_X10_sift_0 at hw
  refine V_aload_n 0 rfl rfl dX10_sift_0 ?_
  refine V_aload_n 1 rfl rfl dX10_sift_1 ?_
  refine X_getI (c := 5) (k := 1) fa_X10_103 rfl dX10_sift_2 hw (fun v1 hw => ?_)
  refine V_aload_n 0 rfl rfl dX10_sift_5 ?_
  refine X_getI (c := 10) (k := 17) fa_X10_114 rfl dX10_sift_6 hw (fun v2 hw => ?_)
  refine X_cV 10 [.int v1, .int v2] [] ma_X10_355 (by decide) rfl (by decide) (by decide) rfl (by simp [cat_i, cat_l, rf_cat]) rfl dX10_sift_9 hw (r_X10_ruleInForce _ _ _) (k_R (fun v3 h hw => ?_))
  refine V_astore_n (i := 2) [(2, va_rf v3), (0, va_rf l0), (1, va_rf l1)] rfl (by decide) (by simp [List.filter_cons, rf_cat, cat_i, cat_l]) dX10_sift_12 ?_
  refine V_iconst (v := 0) (by decide) dX10_sift_13 ?_
  refine V_istore_n (i := 3) [(3, .int 0), (2, va_rf v3), (0, va_rf l0), (1, va_rf l1)] rfl (by decide) (by simp [List.filter_cons, rf_cat, cat_i, cat_l]) dX10_sift_14 ?_
  refine V_iconst (v := 0) (by decide) dX10_sift_15 ?_
  refine V_istore (i := 4) [(4, .int 0), (3, .int 0), (2, va_rf v3), (0, va_rf l0), (1, va_rf l1)] (by decide) rfl dX10_sift_16 ?_
  exact V.sub [3, 4, 2, 1, 0] rfl (s_X10_sift_18 hw)
theorem r_X10_sift {l : Launch} {G : Gh} (l0 : Option Nat) (l1 : Option Nat) {h : Hp} {Q : Int32 → Hp → Prop} (hw : w_X10_sift l0 l1 h Q) : RunQ l G 102 yX10_sift cX10_sift 5 (some .int) [va_rf l0, va_rf l1] h (qI Q) :=
  V_run rfl (sl_len _ _ (by simp [cat_i, cat_l, rf_cat])) (V.sub [0, 1] (by simp only [la_r, la_i, la_l, la_n]; rfl) (s_X10_sift_0 hw))
def b_X2_dropAt_7 (l0 : Option Nat) (l1 : Int32) (l2 : Option Nat) (l3 : Int32) (h : Hp) (Q : Hp → Prop) (K7 : Int32 → Hp → Prop) : Prop :=
  gR h l0 3 257 fun v3 =>
  ldI h v3 (l1 + 1) fun v4 =>
  br (v4 ≤ l3) (
    Q h) (
    gR h l0 3 256 fun v5 =>
    ldR h v5 l3 fun v6 =>
    pR h v6 1 16 l2 fun h =>
    lt (l3 + 1) fun x7 =>
    K7 x7 h)
def l_X2_dropAt_7 (l0 : Option Nat) (l1 : Int32) (l2 : Option Nat) (l3 : Int32) (h : Hp) (Q : Hp → Prop) : Prop :=
  Lo (fun (K : Int32 → Hp → Prop) s h => b_X2_dropAt_7 l0 l1 l2 s h Q (fun l3 h => K (l3) h)) (l3) h
def n_X2_dropAt_0 (l0 : Option Nat) (l1 : Int32) (l2 : Option Nat) (h : Hp) (Q : Hp → Prop) : Prop :=
  gR h l0 3 257 fun v1 =>
  ldI h v1 l1 fun v2 =>
  l_X2_dropAt_7 l0 l1 l2 v2 h Q
def w_X2_dropAt (l0 : Option Nat) (l1 : Int32) (l2 : Option Nat) (h : Hp) (Q : Hp → Prop) : Prop := n_X2_dropAt_0 l0 l1 l2 h Q
theorem sb_X2_dropAt_7 {l : Launch} {G : Gh} {l0 : Option Nat} {l1 : Int32} {l2 : Option Nat} {l3 : Int32} {h : Hp} {Q : Hp → Prop} {K7 : Int32 → Hp → Prop} (hK7 : ∀ (l3 : Int32) (h : Hp), K7 l3 h → V l G 1 yX2_dropAt cX2_dropAt 4 none 7 [(0, va_rf l0), (1, .int l1), (2, va_rf l2), (3, .int l3)] [] h (qV Q)) (hw : b_X2_dropAt_7 l0 l1 l2 l3 h Q K7) : V l G 1 yX2_dropAt cX2_dropAt 4 none 7 [(0, va_rf l0), (1, .int l1), (2, va_rf l2), (3, .int l3)] [] h (qV Q) := by
  unfold b_X2_dropAt_7 at hw
  refine V_iload_n 3 rfl rfl dX2_dropAt_7 ?_
  refine V_aload_n 0 rfl rfl dX2_dropAt_8 ?_
  refine X_getR (c := 2) (k := 1) fa_X2_17 rfl dX2_dropAt_9 hw (fun v3 hw => ?_)
  refine V_iload_n 1 rfl rfl dX2_dropAt_12 ?_
  refine V_iconst (v := 1) (by decide) dX2_dropAt_13 ?_
  refine V_iadd dX2_dropAt_14 ?_
  refine X_ldI dX2_dropAt_15 hw (fun v4 hw => ?_)
  refine V_icmp_ge (tgt := 35) dX2_dropAt_16 (by decide) hw (fun hw => ?_) (fun hw => ?_)
  · exact V_vret rfl dX2_dropAt_35 ⟨rfl, hw⟩
  · refine V_aload_n 0 rfl rfl dX2_dropAt_19 ?_
    refine X_getR (c := 2) (k := 0) fa_X2_11 rfl dX2_dropAt_20 hw (fun v5 hw => ?_)
    refine V_iload_n 3 rfl rfl dX2_dropAt_23 ?_
    refine X_ldR dX2_dropAt_24 hw (fun v6 hw => ?_)
    refine V_aload_n 2 rfl rfl dX2_dropAt_25 ?_
    refine X_putR (c := 0) (k := 16) fa_X2_69 (Or.inl rfl) (Or.inl ⟨_, rfl⟩) dX2_dropAt_26 hw (fun h hw => ?_)
    refine V_iincL (n := 1) 3 (fun z => [(3, .int z), (0, va_rf l0), (1, .int l1), (2, va_rf l2)]) rfl (by rfl) (by decide) (fun _ => (by simp [List.filter_cons, rf_cat, cat_i, cat_l])) dX2_dropAt_29 hw (fun x7 hw => ?_)
    refine V_goto (tgt := 7) dX2_dropAt_32 (by decide) ?_
    exact V.sub [1, 2, 3, 0] rfl (hK7 _ _ hw)
theorem s_X2_dropAt_7 {l : Launch} {G : Gh} {l0 : Option Nat} {l1 : Int32} {l2 : Option Nat} {l3 : Int32} {h : Hp} {Q : Hp → Prop}  (hw : l_X2_dropAt_7 l0 l1 l2 l3 h Q) : V l G 1 yX2_dropAt cX2_dropAt 4 none 7 [(0, va_rf l0), (1, .int l1), (2, va_rf l2), (3, .int l3)] [] h (qV Q) :=
  Lo.ind (P := fun (s : Int32) h => V l G 1 yX2_dropAt cX2_dropAt 4 none 7 [(0, va_rf l0), (1, .int l1), (2, va_rf l2), (3, .int s)] [] h (qV Q)) (fun K ih s h hw => sb_X2_dropAt_7 (fun l3 h hk => ih (l3) h hk) hw) hw
theorem s_X2_dropAt_0 {l : Launch} {G : Gh} {l0 : Option Nat} {l1 : Int32} {l2 : Option Nat} {h : Hp} {Q : Hp → Prop}  (hw : n_X2_dropAt_0 l0 l1 l2 h Q) : V l G 1 yX2_dropAt cX2_dropAt 4 none 0 [(0, va_rf l0), (1, .int l1), (2, va_rf l2)] [] h (qV Q) := by
  unfold n_X2_dropAt_0 at hw
  refine V_aload_n 0 rfl rfl dX2_dropAt_0 ?_
  refine X_getR (c := 2) (k := 1) fa_X2_17 rfl dX2_dropAt_1 hw (fun v1 hw => ?_)
  refine V_iload_n 1 rfl rfl dX2_dropAt_4 ?_
  refine X_ldI dX2_dropAt_5 hw (fun v2 hw => ?_)
  refine V_istore_n (i := 3) [(3, .int v2), (0, va_rf l0), (1, .int l1), (2, va_rf l2)] rfl (by decide) (by simp [List.filter_cons, rf_cat, cat_i, cat_l]) dX2_dropAt_6 ?_
  exact V.sub [1, 2, 3, 0] rfl (s_X2_dropAt_7 hw)
theorem r_X2_dropAt {l : Launch} {G : Gh} (l0 : Option Nat) (l1 : Int32) (l2 : Option Nat) {h : Hp} {Q : Hp → Prop} (hw : w_X2_dropAt l0 l1 l2 h Q) : RunQ l G 1 yX2_dropAt cX2_dropAt 4 none [va_rf l0, .int l1, va_rf l2] h (qV Q) :=
  V_run rfl (sl_len _ _ (by simp [cat_i, cat_l, rf_cat])) (V.sub [0, 1, 2] (by simp only [la_r, la_i, la_l, la_n]; rfl) (s_X2_dropAt_0 hw))
def b_X2_partsInto_16 (l0 : Option Nat) (l1 : Int32) (l2 : Option Nat) (l3 : Option Nat) (l4 : Int32) (h : Hp) (Q : Option Nat → Hp → Prop) (K16 : Int32 → Hp → Prop) : Prop :=
  alN h l3 fun v4 =>
  br (v4 ≤ l4) (
    Q l3 h) (
    gR h l0 3 256 fun v5 =>
    gR h l0 3 257 fun v6 =>
    ldI h v6 l1 fun v7 =>
    ldR h v5 (v7 + l4) fun v8 =>
    stR h l3 l4 v8 fun h =>
    ldR h l3 l4 fun v9 =>
    pR h v9 1 15 l2 fun h =>
    lt (l4 + 1) fun x10 =>
    K16 x10 h)
def l_X2_partsInto_16 (l0 : Option Nat) (l1 : Int32) (l2 : Option Nat) (l3 : Option Nat) (l4 : Int32) (h : Hp) (Q : Option Nat → Hp → Prop) : Prop :=
  Lo (fun (K : Int32 → Hp → Prop) s h => b_X2_partsInto_16 l0 l1 l2 l3 s h Q (fun l4 h => K (l4) h)) (l4) h
def n_X2_partsInto_0 (l0 : Option Nat) (l1 : Int32) (l2 : Option Nat) (h : Hp) (Q : Option Nat → Hp → Prop) : Prop :=
  oV h l0 3 <| w_X2_sizeOf l0 l1 h <| fun v1 h =>
  lt (if v1 < 0 then 0 else v1) fun v2 =>
  nwA h v2 420 fun v3 h =>
  l_X2_partsInto_16 l0 l1 l2 v3 0 h Q
def w_X2_partsInto (l0 : Option Nat) (l1 : Int32) (l2 : Option Nat) (h : Hp) (Q : Option Nat → Hp → Prop) : Prop := n_X2_partsInto_0 l0 l1 l2 h Q
theorem sb_X2_partsInto_16 {l : Launch} {G : Gh} {l0 : Option Nat} {l1 : Int32} {l2 : Option Nat} {l3 : Option Nat} {l4 : Int32} {h : Hp} {Q : Option Nat → Hp → Prop} {K16 : Int32 → Hp → Prop} (hK16 : ∀ (l4 : Int32) (h : Hp), K16 l4 h → V l G 2 yX2_partsInto cX2_partsInto 5 (some (.array (.object "ComplaintBooks$Ask"))) 16 [(0, va_rf l0), (1, .int l1), (2, va_rf l2), (3, va_rf l3), (4, .int l4)] [] h (qR Q)) (hw : b_X2_partsInto_16 l0 l1 l2 l3 l4 h Q K16) : V l G 2 yX2_partsInto cX2_partsInto 5 (some (.array (.object "ComplaintBooks$Ask"))) 16 [(0, va_rf l0), (1, .int l1), (2, va_rf l2), (3, va_rf l3), (4, .int l4)] [] h (qR Q) := by
  unfold b_X2_partsInto_16 at hw
  refine V_iload 4 rfl dX2_partsInto_16 ?_
  refine V_aload_n 3 rfl rfl dX2_partsInto_18 ?_
  refine X_alen dX2_partsInto_19 hw (fun v4 hw => ?_)
  refine V_icmp_ge (tgt := 55) dX2_partsInto_20 (by decide) hw (fun hw => ?_) (fun hw => ?_)
  · refine V_aload_n 3 rfl rfl dX2_partsInto_55 ?_
    exact V_aret rfl (Or.inr ⟨_, rfl⟩) dX2_partsInto_56 ⟨_, rfl, hw⟩
  · refine V_aload_n 3 rfl rfl dX2_partsInto_23 ?_
    refine V_iload 4 rfl dX2_partsInto_24 ?_
    refine V_aload_n 0 rfl rfl dX2_partsInto_26 ?_
    refine X_getR (c := 2) (k := 0) fa_X2_11 rfl dX2_partsInto_27 hw (fun v5 hw => ?_)
    refine V_aload_n 0 rfl rfl dX2_partsInto_30 ?_
    refine X_getR (c := 2) (k := 1) fa_X2_17 rfl dX2_partsInto_31 hw (fun v6 hw => ?_)
    refine V_iload_n 1 rfl rfl dX2_partsInto_34 ?_
    refine X_ldI dX2_partsInto_35 hw (fun v7 hw => ?_)
    refine V_iload 4 rfl dX2_partsInto_36 ?_
    refine V_iadd dX2_partsInto_38 ?_
    refine X_ldR dX2_partsInto_39 hw (fun v8 hw => ?_)
    refine X_stR dX2_partsInto_40 hw (fun h hw => ?_)
    refine V_aload_n 3 rfl rfl dX2_partsInto_41 ?_
    refine V_iload 4 rfl dX2_partsInto_42 ?_
    refine X_ldR dX2_partsInto_44 hw (fun v9 hw => ?_)
    refine V_aload_n 2 rfl rfl dX2_partsInto_45 ?_
    refine X_putR (c := 0) (k := 15) fa_X2_78 (Or.inl rfl) (Or.inl ⟨_, rfl⟩) dX2_partsInto_46 hw (fun h hw => ?_)
    refine V_iincL (n := 1) 4 (fun z => [(4, .int z), (0, va_rf l0), (1, .int l1), (2, va_rf l2), (3, va_rf l3)]) rfl (by rfl) (by decide) (fun _ => (by simp [List.filter_cons, rf_cat, cat_i, cat_l])) dX2_partsInto_49 hw (fun x10 hw => ?_)
    refine V_goto (tgt := 16) dX2_partsInto_52 (by decide) ?_
    exact V.sub [1, 2, 3, 4, 0] rfl (hK16 _ _ hw)
theorem s_X2_partsInto_16 {l : Launch} {G : Gh} {l0 : Option Nat} {l1 : Int32} {l2 : Option Nat} {l3 : Option Nat} {l4 : Int32} {h : Hp} {Q : Option Nat → Hp → Prop}  (hw : l_X2_partsInto_16 l0 l1 l2 l3 l4 h Q) : V l G 2 yX2_partsInto cX2_partsInto 5 (some (.array (.object "ComplaintBooks$Ask"))) 16 [(0, va_rf l0), (1, .int l1), (2, va_rf l2), (3, va_rf l3), (4, .int l4)] [] h (qR Q) :=
  Lo.ind (P := fun (s : Int32) h => V l G 2 yX2_partsInto cX2_partsInto 5 (some (.array (.object "ComplaintBooks$Ask"))) 16 [(0, va_rf l0), (1, .int l1), (2, va_rf l2), (3, va_rf l3), (4, .int s)] [] h (qR Q)) (fun K ih s h hw => sb_X2_partsInto_16 (fun l4 h hk => ih (l4) h hk) hw) hw
theorem s_X2_partsInto_0 {l : Launch} {G : Gh} {l0 : Option Nat} {l1 : Int32} {l2 : Option Nat} {h : Hp} {Q : Option Nat → Hp → Prop}  (hw : n_X2_partsInto_0 l0 l1 l2 h Q) : V l G 2 yX2_partsInto cX2_partsInto 5 (some (.array (.object "ComplaintBooks$Ask"))) 0 [(0, va_rf l0), (1, .int l1), (2, va_rf l2)] [] h (qR Q) := by
  unfold n_X2_partsInto_0 at hw
  refine V_aload_n 0 rfl rfl dX2_partsInto_0 ?_
  refine V_iload_n 1 rfl rfl dX2_partsInto_1 ?_
  refine X_cV 2 [.int l1] [] ma_X2_48 (by decide) rfl (by decide) (by decide) rfl (by simp [cat_i, cat_l, rf_cat]) rfl dX2_partsInto_2 hw (r_X2_sizeOf _ _) (k_I (fun v1 h hw => ?_))
  refine V_iconst (v := 0) (by decide) dX2_partsInto_5 ?_
  refine X_mmax wl_X2_73 (by decide) (by simp [cat_i, cat_l, rf_cat]) dX2_partsInto_6 hw (fun v2 hw => ?_)
  refine X_newR (c := 0) (k := 420) nc_X2_9.2.1 (by decide) (by unfold rcOK; decide) dX2_partsInto_9 hw (fun v3 h hw => ?_)
  refine V_astore_n (i := 3) [(3, va_rf v3), (0, va_rf l0), (1, .int l1), (2, va_rf l2)] rfl (by decide) (by simp [List.filter_cons, rf_cat, cat_i, cat_l]) dX2_partsInto_12 ?_
  refine V_iconst (v := 0) (by decide) dX2_partsInto_13 ?_
  refine V_istore (i := 4) [(4, .int 0), (3, va_rf v3), (0, va_rf l0), (1, .int l1), (2, va_rf l2)] (by decide) (by simp [List.filter_cons, rf_cat, cat_i, cat_l]) dX2_partsInto_14 ?_
  exact V.sub [2, 3, 4, 1, 0] rfl (s_X2_partsInto_16 hw)
theorem r_X2_partsInto {l : Launch} {G : Gh} (l0 : Option Nat) (l1 : Int32) (l2 : Option Nat) {h : Hp} {Q : Option Nat → Hp → Prop} (hw : w_X2_partsInto l0 l1 l2 h Q) : RunQ l G 2 yX2_partsInto cX2_partsInto 5 (some (.array (.object "ComplaintBooks$Ask"))) [va_rf l0, .int l1, va_rf l2] h (qR Q) :=
  V_run rfl (sl_len _ _ (by simp [cat_i, cat_l, rf_cat])) (V.sub [0, 1, 2] (by simp only [la_r, la_i, la_l, la_n]; rfl) (s_X2_partsInto_0 hw))
def n_X10_merge_0 (l0 : Option Nat) (l1 : Int32) (l2 : Option Nat) (h : Hp) (Q : Hp → Prop) : Prop :=
  gR h l0 11 1289 fun v1 =>
  oV h v1 3 <| w_X2_firstOf v1 l1 h <| fun v2 h =>
  gR h l0 11 1289 fun v3 =>
  gR h l0 11 1289 fun v4 =>
  gR h v4 3 258 fun v5 =>
  ldI h v5 l1 fun v6 =>
  oV h v3 3 <| w_X2_joined v3 l1 v6 h <| fun v7 h =>
  nwO h 1 19 fun v8 h =>
  gI h l0 11 1293 fun v9 =>
  gI h v2 1 2 fun v10 =>
  gI h v2 1 3 fun v11 =>
  gI h l0 11 1297 fun v12 =>
  oN v8 <| w_X0_init v8 v9 2 l2 v10 v11 v7 v12 h <| fun h =>
  gR h l0 11 1289 fun v14 =>
  oV h v14 3 <| w_X2_hearthsOf v14 l1 h <| fun v15 h =>
  pI h v8 1 7 v15 fun h =>
  gR h l0 11 1289 fun v16 =>
  oV h v16 3 <| w_X2_partsInto v16 l1 v8 h <| fun v17 h =>
  pR h v8 1 9 v17 fun h =>
  oV h l0 11 <| w_X10_enter l0 v8 h <| fun v18 h =>
  Q h
def w_X10_merge (l0 : Option Nat) (l1 : Int32) (l2 : Option Nat) (h : Hp) (Q : Hp → Prop) : Prop := n_X10_merge_0 l0 l1 l2 h Q
set_option maxRecDepth 20000 in
theorem s_X10_merge_0 {l : Launch} {G : Gh} {l0 : Option Nat} {l1 : Int32} {l2 : Option Nat} {h : Hp} {Q : Hp → Prop}  (hw : n_X10_merge_0 l0 l1 l2 h Q) : V l G 4 yX10_merge cX10_merge 6 none 0 [(0, va_rf l0), (1, .int l1), (2, va_rf l2)] [] h (qV Q) := by
  unfold n_X10_merge_0 at hw
  refine V_aload_n 0 rfl rfl dX10_merge_0 ?_
  refine X_getR (c := 10) (k := 9) fa_X10_62 rfl dX10_merge_1 hw (fun v1 hw => ?_)
  refine V_iload_n 1 rfl rfl dX10_merge_4 ?_
  refine X_cV 2 [.int l1] [] ma_X10_408 (by decide) rfl (by decide) (by decide) rfl (by simp [cat_i, cat_l, rf_cat]) rfl dX10_merge_5 hw (r_X2_firstOf _ _) (k_R (fun v2 h hw => ?_))
  refine V_astore_n (i := 3) [(3, va_rf v2), (0, va_rf l0), (1, .int l1), (2, va_rf l2)] rfl (by decide) (by simp [List.filter_cons, rf_cat, cat_i, cat_l]) dX10_merge_8 ?_
  refine V_aload_n 1 rfl rfl dX10_merge_9 ?_
  refine X_getR (c := 10) (k := 9) fa_X10_62 rfl dX10_merge_10 hw (fun v3 hw => ?_)
  refine V_iload_n 2 rfl rfl dX10_merge_13 ?_
  refine V_aload_n 1 rfl rfl dX10_merge_14 ?_
  refine X_getR (c := 10) (k := 9) fa_X10_62 rfl dX10_merge_15 hw (fun v4 hw => ?_)
  refine X_getR (c := 2) (k := 2) fa_X10_371 rfl dX10_merge_18 hw (fun v5 hw => ?_)
  refine V_iload_n 2 rfl rfl dX10_merge_21 ?_
  refine X_ldI dX10_merge_22 hw (fun v6 hw => ?_)
  refine X_cV 2 [.int l1, .int v6] [] ma_X10_420 (by decide) rfl (by decide) (by decide) rfl (by simp [cat_i, cat_l, rf_cat]) rfl dX10_merge_23 hw (r_X2_joined _ _ _) (k_I (fun v7 h hw => ?_))
  refine V_istore (i := 4) [(4, .int v7), (3, va_rf v2), (0, va_rf l0), (1, .int l1), (2, va_rf l2)] (by decide) (by simp [List.filter_cons, rf_cat, cat_i, cat_l]) dX10_merge_26 ?_
  refine X_newO (c := 0) nc_X10_21 dX10_merge_28 hw (fun v8 h hw => ?_)
  refine V_dup (rf_cat _) dX10_merge_31 ?_
  refine V_aload_n 2 rfl rfl dX10_merge_32 ?_
  refine X_getI (c := 10) (k := 13) fa_X10_249 rfl dX10_merge_33 hw (fun v9 hw => ?_)
  refine V_iconst (v := 2) (by decide) dX10_merge_36 ?_
  refine V_aload_n 4 rfl rfl dX10_merge_37 ?_
  refine V_aload_n 1 rfl rfl dX10_merge_38 ?_
  refine X_getI (c := 0) (k := 2) fa_X10_252 rfl dX10_merge_39 hw (fun v10 hw => ?_)
  refine V_aload_n 1 rfl rfl dX10_merge_42 ?_
  refine X_getI (c := 0) (k := 3) fa_X10_312 rfl dX10_merge_43 hw (fun v11 hw => ?_)
  refine V_iload 0 rfl dX10_merge_46 ?_
  refine V_aload_n 2 rfl rfl dX10_merge_48 ?_
  refine X_getI (c := 10) (k := 17) fa_X10_114 rfl dX10_merge_49 hw (fun v12 hw => ?_)
  refine X_cI [.int v9, .int 2, va_rf l2, .int v10, .int v11, .int v7, .int v12] [va_rf v8] ma_X10_286 (by decide) (by decide) rfl (by simp [cat_i, cat_l, rf_cat]) rfl dX10_merge_52 hw (r_X0_init _ _ _ _ _ _ _ _) (k_V (fun h hw => ?_))
  refine V_astore (i := 5) [(5, va_rf v8), (4, .int v7), (3, va_rf v2), (0, va_rf l0), (1, .int l1), (2, va_rf l2)] (by decide) rfl dX10_merge_55 ?_
  refine V_aload 0 rfl dX10_merge_57 ?_
  refine V_aload_n 3 rfl rfl dX10_merge_59 ?_
  refine X_getR (c := 10) (k := 9) fa_X10_62 rfl dX10_merge_60 hw (fun v14 hw => ?_)
  refine V_iload_n 4 rfl rfl dX10_merge_63 ?_
  refine X_cV 2 [.int l1] [va_rf v8] ma_X10_417 (by decide) rfl (by decide) (by decide) rfl (by simp [cat_i, cat_l, rf_cat]) rfl dX10_merge_64 hw (r_X2_hearthsOf _ _) (k_I (fun v15 h hw => ?_))
  refine X_putI (c := 0) (k := 7) fa_X10_289 (Or.inl rfl) rfl dX10_merge_67 hw (fun h hw => ?_)
  refine V_aload 0 rfl dX10_merge_70 ?_
  refine V_aload_n 3 rfl rfl dX10_merge_72 ?_
  refine X_getR (c := 10) (k := 9) fa_X10_62 rfl dX10_merge_73 hw (fun v16 hw => ?_)
  refine V_iload_n 4 rfl rfl dX10_merge_76 ?_
  refine V_aload 0 rfl dX10_merge_77 ?_
  refine X_cV 2 [.int l1, va_rf v8] [va_rf v8] ma_X10_423 (by decide) rfl (by decide) (by decide) rfl (by simp [cat_i, cat_l, rf_cat]) rfl dX10_merge_79 hw (r_X2_partsInto _ _ _) (k_R (fun v17 h hw => ?_))
  refine X_putR (c := 0) (k := 9) fa_X10_325 (Or.inl rfl) (Or.inr ⟨_, rfl⟩) dX10_merge_82 hw (fun h hw => ?_)
  refine V_aload_n 3 rfl rfl dX10_merge_85 ?_
  refine V_aload 0 rfl dX10_merge_86 ?_
  refine X_cV 10 [va_rf v8] [] ma_X10_296 (by decide) rfl (by decide) (by decide) rfl (by simp [cat_i, cat_l, rf_cat]) rfl dX10_merge_88 hw (r_X10_enter _ _) (k_I (fun v18 h hw => ?_))
  refine V_pop rfl dX10_merge_91 ?_
  exact V_vret rfl dX10_merge_92 ⟨rfl, hw⟩
theorem r_X10_merge {l : Launch} {G : Gh} (l0 : Option Nat) (l1 : Int32) (l2 : Option Nat) {h : Hp} {Q : Hp → Prop} (hw : w_X10_merge l0 l1 l2 h Q) : RunQ l G 4 yX10_merge cX10_merge 6 none [va_rf l0, .int l1, va_rf l2] h (qV Q) :=
  V_run rfl (sl_len _ _ (by simp [cat_i, cat_l, rf_cat])) (V.sub [0, 1, 2] (by simp only [la_r, la_i, la_l, la_n]; rfl) (s_X10_merge_0 hw))
def n_X10_make_30 (l0 : Option Nat) (h : Hp) (Q : Int32 → Hp → Prop) : Prop :=
  oV h l0 11 <| w_X10_refuse l0 (-6) h <| fun v4 h =>
  Q v4 h
def n_X10_make_116 (l0 : Option Nat) (l2 : Option Nat) (l3 : Int32) (l4 : Int32) (h : Hp) (Q : Int32 → Hp → Prop) (K70 : Int32 → Hp → Prop) : Prop :=
  lt (l4 + 1) fun x16 =>
  K70 x16 h
def b_X10_make_70 (l0 : Option Nat) (l2 : Option Nat) (l3 : Int32) (l4 : Int32) (h : Hp) (Q : Int32 → Hp → Prop) (K70 : Int32 → Hp → Prop) : Prop :=
  gR h l0 11 1289 fun v9 =>
  gI h v9 3 260 fun v10 =>
  br (v10 ≤ l4) (
    pZ h l2 6 648 1 fun h =>
    Q l3 h) (
    gR h l0 11 1289 fun v11 =>
    gR h v11 3 258 fun v12 =>
    ldI h v12 l4 fun v13 =>
    br (v13 = (-1)) (
      gR h l0 11 1289 fun v14 =>
      oV h v14 3 <| w_X2_dropAt v14 l4 l2 h <| fun h =>
      n_X10_make_116 l0 l2 l3 l4 h Q K70) (
      oV h l0 11 <| w_X10_merge l0 l4 l2 h <| fun h =>
      n_X10_make_116 l0 l2 l3 l4 h Q K70))
def l_X10_make_70 (l0 : Option Nat) (l2 : Option Nat) (l3 : Int32) (l4 : Int32) (h : Hp) (Q : Int32 → Hp → Prop) : Prop :=
  Lo (fun (K : Int32 → Hp → Prop) s h => b_X10_make_70 l0 l2 l3 s h Q (fun l4 h => K (l4) h)) (l4) h
def n_X10_make_0 (l0 : Option Nat) (l1 : Int32) (h : Hp) (Q : Int32 → Hp → Prop) : Prop :=
  oV h l0 11 <| w_X10_placeAt l0 l1 h <| fun v1 h =>
  br (v1 = none) (
    oV h l0 11 <| w_X10_refuse l0 (-1) h <| fun v2 h =>
    Q v2 h) (
    gI h v1 6 641 fun v3 =>
    br (v3 = 0) (
      n_X10_make_30 l0 h Q) (
      gI h v1 6 648 fun v5 =>
      br (v5 = 0) (
        oV h l0 11 <| w_X10_gather l0 v1 h <| fun h =>
        oV h l0 11 <| w_X10_sift l0 v1 h <| fun v7 h =>
        gI h l0 11 1293 fun v8 =>
        br ((v8 + v7) ≤ 160) (
          l_X10_make_70 l0 v1 v7 0 h Q) (
          oV h l0 11 <| w_X10_refuse l0 (-7) h <| fun v18 h =>
          Q v18 h)) (
        n_X10_make_30 l0 h Q)))
def w_X10_make (l0 : Option Nat) (l1 : Int32) (h : Hp) (Q : Int32 → Hp → Prop) : Prop := n_X10_make_0 l0 l1 h Q
theorem s_X10_make_30 {l : Launch} {G : Gh} {l0 : Option Nat} {h : Hp} {Q : Int32 → Hp → Prop}  (hw : n_X10_make_30 l0 h Q) : V l G 103 yX10_make cX10_make 5 (some .int) 30 [(0, va_rf l0)] [] h (qI Q) := by
  unfold n_X10_make_30 at hw
  refine V_aload_n 0 rfl rfl dX10_make_30 ?_
  refine V_bipush (v := (-6)) (by decide) dX10_make_31 ?_
  refine X_cV 10 [.int (-6)] [] ma_X10_95 (by decide) rfl (by decide) (by decide) rfl (by simp [cat_i, cat_l, rf_cat]) rfl dX10_make_33 hw (r_X10_refuse _ _) (k_I (fun v4 h hw => ?_))
  exact V_iret rfl dX10_make_36 ⟨_, rfl, hw⟩
theorem s_X10_make_116 {l : Launch} {G : Gh} {l0 : Option Nat} {l2 : Option Nat} {l3 : Int32} {l4 : Int32} {h : Hp} {Q : Int32 → Hp → Prop} {K70 : Int32 → Hp → Prop} (hK70 : ∀ (l4 : Int32) (h : Hp), K70 l4 h → V l G 103 yX10_make cX10_make 5 (some .int) 70 [(0, va_rf l0), (2, va_rf l2), (3, .int l3), (4, .int l4)] [] h (qI Q)) (hw : n_X10_make_116 l0 l2 l3 l4 h Q K70) : V l G 103 yX10_make cX10_make 5 (some .int) 116 [(0, va_rf l0), (2, va_rf l2), (3, .int l3), (4, .int l4)] [] h (qI Q) := by
  unfold n_X10_make_116 at hw
  refine V_iincL (n := 1) 3 (fun z => [(4, .int z), (0, va_rf l0), (2, va_rf l2), (3, .int l3)]) rfl (by rfl) (by decide) (fun _ => rfl) dX10_make_116 hw (fun x16 hw => ?_)
  refine V_goto (tgt := 70) dX10_make_119 (by decide) ?_
  exact V.sub [1, 2, 3, 0] rfl (hK70 _ _ hw)
theorem sb_X10_make_70 {l : Launch} {G : Gh} {l0 : Option Nat} {l2 : Option Nat} {l3 : Int32} {l4 : Int32} {h : Hp} {Q : Int32 → Hp → Prop} {K70 : Int32 → Hp → Prop} (hK70 : ∀ (l4 : Int32) (h : Hp), K70 l4 h → V l G 103 yX10_make cX10_make 5 (some .int) 70 [(0, va_rf l0), (2, va_rf l2), (3, .int l3), (4, .int l4)] [] h (qI Q)) (hw : b_X10_make_70 l0 l2 l3 l4 h Q K70) : V l G 103 yX10_make cX10_make 5 (some .int) 70 [(0, va_rf l0), (2, va_rf l2), (3, .int l3), (4, .int l4)] [] h (qI Q) := by
  unfold b_X10_make_70 at hw
  refine V_iload 3 rfl dX10_make_70 ?_
  refine V_aload_n 0 rfl rfl dX10_make_72 ?_
  refine X_getR (c := 10) (k := 9) fa_X10_62 rfl dX10_make_73 hw (fun v9 hw => ?_)
  refine X_getI (c := 2) (k := 4) fa_X10_370 rfl dX10_make_76 hw (fun v10 hw => ?_)
  refine V_icmp_ge (tgt := 122) dX10_make_79 (by decide) hw (fun hw => ?_) (fun hw => ?_)
  · refine V_aload_n 1 rfl rfl dX10_make_122 ?_
    refine V_iconst (v := 1) (by decide) dX10_make_123 ?_
    refine X_putZ (c := 5) (k := 8) fa_X10_134 (Or.inl rfl) rfl dX10_make_124 hw (fun h hw => ?_)
    refine V_iload_n 2 rfl rfl dX10_make_127 ?_
    exact V_iret rfl dX10_make_128 ⟨_, rfl, hw⟩
  · refine V_aload_n 0 rfl rfl dX10_make_82 ?_
    refine X_getR (c := 10) (k := 9) fa_X10_62 rfl dX10_make_83 hw (fun v11 hw => ?_)
    refine X_getR (c := 2) (k := 2) fa_X10_371 rfl dX10_make_86 hw (fun v12 hw => ?_)
    refine V_iload 3 rfl dX10_make_89 ?_
    refine X_ldI dX10_make_91 hw (fun v13 hw => ?_)
    refine V_iconst (v := (-1)) (by decide) dX10_make_92 ?_
    refine V_icmp_ne (tgt := 109) dX10_make_93 (by decide) hw (fun hw => ?_) (fun hw => ?_)
    · refine V_aload_n 0 rfl rfl dX10_make_96 ?_
      refine X_getR (c := 10) (k := 9) fa_X10_62 rfl dX10_make_97 hw (fun v14 hw => ?_)
      refine V_iload 3 rfl dX10_make_100 ?_
      refine V_aload_n 1 rfl rfl dX10_make_102 ?_
      refine X_cV 2 [.int l4, va_rf l2] [] ma_X10_374 (by decide) rfl (by decide) (by decide) rfl (by simp [cat_i, cat_l, rf_cat]) rfl dX10_make_103 hw (r_X2_dropAt _ _ _) (k_V (fun h hw => ?_))
      refine V_goto (tgt := 116) dX10_make_106 (by decide) ?_
      exact V.sub [0, 1, 2, 3] rfl (s_X10_make_116 hK70 hw)
    · refine V_aload_n 0 rfl rfl dX10_make_109 ?_
      refine V_iload 3 rfl dX10_make_110 ?_
      refine V_aload_n 1 rfl rfl dX10_make_112 ?_
      refine X_cV 10 [.int l4, va_rf l2] [] ma_X10_378 (by decide) rfl (by decide) (by decide) rfl (by simp [cat_i, cat_l, rf_cat]) rfl dX10_make_113 hw (r_X10_merge _ _ _) (k_V (fun h hw => ?_))
      exact V.sub [0, 1, 2, 3] rfl (s_X10_make_116 hK70 hw)
theorem s_X10_make_70 {l : Launch} {G : Gh} {l0 : Option Nat} {l2 : Option Nat} {l3 : Int32} {l4 : Int32} {h : Hp} {Q : Int32 → Hp → Prop}  (hw : l_X10_make_70 l0 l2 l3 l4 h Q) : V l G 103 yX10_make cX10_make 5 (some .int) 70 [(0, va_rf l0), (2, va_rf l2), (3, .int l3), (4, .int l4)] [] h (qI Q) :=
  Lo.ind (P := fun (s : Int32) h => V l G 103 yX10_make cX10_make 5 (some .int) 70 [(0, va_rf l0), (2, va_rf l2), (3, .int l3), (4, .int s)] [] h (qI Q)) (fun K ih s h hw => sb_X10_make_70 (fun l4 h hk => ih (l4) h hk) hw) hw
theorem s_X10_make_0 {l : Launch} {G : Gh} {l0 : Option Nat} {l1 : Int32} {h : Hp} {Q : Int32 → Hp → Prop}  (hw : n_X10_make_0 l0 l1 h Q) : V l G 103 yX10_make cX10_make 5 (some .int) 0 [(0, va_rf l0), (1, .int l1)] [] h (qI Q) := by
  unfold n_X10_make_0 at hw
  refine V_aload_n 0 rfl rfl dX10_make_0 ?_
  refine V_iload_n 1 rfl rfl dX10_make_1 ?_
  refine X_cV 10 [.int l1] [] ma_X10_91 (by decide) rfl (by decide) (by decide) rfl (by simp [cat_i, cat_l, rf_cat]) rfl dX10_make_2 hw (r_X10_placeAt _ _) (k_R (fun v1 h hw => ?_))
  refine V_astore_n (i := 2) [(2, va_rf v1), (0, va_rf l0), (1, .int l1)] rfl (by decide) rfl dX10_make_5 ?_
  refine V_aload_n 0 rfl rfl dX10_make_6 ?_
  refine V_ifnonnull (tgt := 16) dX10_make_7 (by decide) hw (fun hw => ?_) (fun hw => ?_)
  · refine V_aload_n 1 rfl rfl dX10_make_10 ?_
    refine V_iconst (v := (-1)) (by decide) dX10_make_11 ?_
    refine X_cV 10 [.int (-1)] [] ma_X10_95 (by decide) rfl (by decide) (by decide) rfl (by simp [cat_i, cat_l, rf_cat]) rfl dX10_make_12 hw (r_X10_refuse _ _) (k_I (fun v2 h hw => ?_))
    exact V_iret rfl dX10_make_15 ⟨_, rfl, hw⟩
  · refine V_aload_n 0 rfl rfl dX10_make_16 ?_
    refine X_getI (c := 5) (k := 1) fa_X10_103 rfl dX10_make_17 hw (fun v3 hw => ?_)
    refine V_if_eq (tgt := 30) dX10_make_20 (by decide) hw (fun hw => ?_) (fun hw => ?_)
    · exact V.sub [1] rfl (s_X10_make_30 hw)
    · refine V_aload_n 0 rfl rfl dX10_make_23 ?_
      refine X_getI (c := 5) (k := 8) fa_X10_134 rfl dX10_make_24 hw (fun v5 hw => ?_)
      refine V_if_eq (tgt := 37) dX10_make_27 (by decide) hw (fun hw => ?_) (fun hw => ?_)
      · refine V_aload_n 1 rfl rfl dX10_make_37 ?_
        refine V_aload_n 0 rfl rfl dX10_make_38 ?_
        refine X_cV 10 [va_rf v1] [] ma_X10_363 (by decide) rfl (by decide) (by decide) rfl (by simp [cat_i, cat_l, rf_cat]) rfl dX10_make_39 hw (r_X10_gather _ _) (k_V (fun h hw => ?_))
        refine V_aload_n 1 rfl rfl dX10_make_42 ?_
        refine V_aload_n 0 rfl rfl dX10_make_43 ?_
        refine X_cV 10 [va_rf v1] [] ma_X10_367 (by decide) rfl (by decide) (by decide) rfl (by simp [cat_i, cat_l, rf_cat]) rfl dX10_make_44 hw (r_X10_sift _ _) (k_I (fun v7 h hw => ?_))
        refine V_istore_n (i := 3) [(3, .int v7), (2, va_rf v1), (0, va_rf l0), (1, .int l1)] rfl (by decide) (by simp [List.filter_cons, rf_cat, cat_i, cat_l]) dX10_make_47 ?_
        refine V_aload_n 2 rfl rfl dX10_make_48 ?_
        refine X_getI (c := 10) (k := 13) fa_X10_249 rfl dX10_make_49 hw (fun v8 hw => ?_)
        refine V_iload_n 0 rfl rfl dX10_make_52 ?_
        refine V_iadd dX10_make_53 ?_
        refine V_sipush (v := 160) (by decide) dX10_make_54 ?_
        refine V_icmp_le (tgt := 67) dX10_make_57 (by decide) hw (fun hw => ?_) (fun hw => ?_)
        · refine V_iconst (v := 0) (by decide) dX10_make_67 ?_
          refine V_istore (i := 4) [(4, .int 0), (3, .int v7), (2, va_rf v1), (0, va_rf l0), (1, .int l1)] (by decide) rfl dX10_make_68 ?_
          exact V.sub [3, 2, 1, 0] rfl (s_X10_make_70 hw)
        · refine V_aload_n 2 rfl rfl dX10_make_60 ?_
          refine V_bipush (v := (-7)) (by decide) dX10_make_61 ?_
          refine X_cV 10 [.int (-7)] [] ma_X10_95 (by decide) rfl (by decide) (by decide) rfl (by simp [cat_i, cat_l, rf_cat]) rfl dX10_make_63 hw (r_X10_refuse _ _) (k_I (fun v18 h hw => ?_))
          exact V_iret rfl dX10_make_66 ⟨_, rfl, hw⟩
      · exact V.sub [1] rfl (s_X10_make_30 hw)
theorem r_X10_make {l : Launch} {G : Gh} (l0 : Option Nat) (l1 : Int32) {h : Hp} {Q : Int32 → Hp → Prop} (hw : w_X10_make l0 l1 h Q) : RunQ l G 103 yX10_make cX10_make 5 (some .int) [va_rf l0, .int l1] h (qI Q) :=
  V_run rfl (sl_len _ _ (by simp [cat_i, cat_l, rf_cat])) (V.sub [0, 1] (by simp only [la_r, la_i, la_l, la_n]; rfl) (s_X10_make_0 hw))
def n_X10_mayWrite_73 (l0 : Option Nat) (l1 : Option Nat) (l2 : Int32) (l3 : Int32) (l4 : Int32) (h : Hp) (Q : Int32 → Hp → Prop) (K20 : Int32 → Hp → Prop) : Prop :=
  lt (l4 + 1) fun x10 =>
  K20 x10 h
def b_X10_mayWrite_20 (l0 : Option Nat) (l1 : Option Nat) (l2 : Int32) (l3 : Int32) (l4 : Int32) (h : Hp) (Q : Int32 → Hp → Prop) (K20 : Int32 → Hp → Prop) : Prop :=
  gI h l0 11 1293 fun v3 =>
  br (v3 ≤ l4) (
    rZ 1 h Q) (
    gR h l0 11 1282 fun v4 =>
    ldR h v4 l4 fun v5 =>
    gR h v5 1 1 fun v6 =>
    br (v6 = l1) (
      gR h l0 11 1282 fun v7 =>
      ldR h v7 l4 fun v8 =>
      oV h v8 1 <| w_X0_stands v8 h <| fun v9 h =>
      br (v9 = 0) (
        n_X10_mayWrite_73 l0 l1 l2 l3 l4 h Q K20) (
        gR h l0 11 1282 fun v11 =>
        ldR h v11 l4 fun v12 =>
        oV h v12 1 <| w_X0_isFor v12 l2 l3 h <| fun v13 h =>
        br (v13 = 0) (
          n_X10_mayWrite_73 l0 l1 l2 l3 l4 h Q K20) (
          rZ 0 h Q))) (
      n_X10_mayWrite_73 l0 l1 l2 l3 l4 h Q K20))
def l_X10_mayWrite_20 (l0 : Option Nat) (l1 : Option Nat) (l2 : Int32) (l3 : Int32) (l4 : Int32) (h : Hp) (Q : Int32 → Hp → Prop) : Prop :=
  Lo (fun (K : Int32 → Hp → Prop) s h => b_X10_mayWrite_20 l0 l1 l2 l3 s h Q (fun l4 h => K (l4) h)) (l4) h
def n_X10_mayWrite_15 (h : Hp) (Q : Int32 → Hp → Prop) : Prop :=
  rZ 0 h Q
def n_X10_mayWrite_0 (l0 : Option Nat) (l1 : Option Nat) (l2 : Int32) (l3 : Int32) (h : Hp) (Q : Int32 → Hp → Prop) : Prop :=
  gI h l1 6 641 fun v1 =>
  br (v1 = 0) (
    gI h l1 6 649 fun v2 =>
    br (v2 = (-1)) (
      l_X10_mayWrite_20 l0 l1 l2 l3 0 h Q) (
      n_X10_mayWrite_15 h Q)) (
    n_X10_mayWrite_15 h Q)
def w_X10_mayWrite (l0 : Option Nat) (l1 : Option Nat) (l2 : Int32) (l3 : Int32) (h : Hp) (Q : Int32 → Hp → Prop) : Prop := n_X10_mayWrite_0 l0 l1 l2 l3 h Q
theorem s_X10_mayWrite_73 {l : Launch} {G : Gh} {l0 : Option Nat} {l1 : Option Nat} {l2 : Int32} {l3 : Int32} {l4 : Int32} {h : Hp} {Q : Int32 → Hp → Prop} {K20 : Int32 → Hp → Prop} (hK20 : ∀ (l4 : Int32) (h : Hp), K20 l4 h → V l G 2 yX10_mayWrite cX10_mayWrite 5 (some .boolean) 20 [(0, va_rf l0), (1, va_rf l1), (2, .int l2), (3, .int l3), (4, .int l4)] [] h (qI Q)) (hw : n_X10_mayWrite_73 l0 l1 l2 l3 l4 h Q K20) : V l G 2 yX10_mayWrite cX10_mayWrite 5 (some .boolean) 73 [(0, va_rf l0), (1, va_rf l1), (2, .int l2), (3, .int l3), (4, .int l4)] [] h (qI Q) := by
  unfold n_X10_mayWrite_73 at hw
  refine V_iincL (n := 1) 4 (fun z => [(4, .int z), (0, va_rf l0), (1, va_rf l1), (2, .int l2), (3, .int l3)]) rfl (by rfl) (by decide) (fun _ => rfl) dX10_mayWrite_73 hw (fun x10 hw => ?_)
  refine V_goto (tgt := 20) dX10_mayWrite_76 (by decide) ?_
  exact V.sub [1, 2, 3, 4, 0] rfl (hK20 _ _ hw)
theorem sb_X10_mayWrite_20 {l : Launch} {G : Gh} {l0 : Option Nat} {l1 : Option Nat} {l2 : Int32} {l3 : Int32} {l4 : Int32} {h : Hp} {Q : Int32 → Hp → Prop} {K20 : Int32 → Hp → Prop} (hK20 : ∀ (l4 : Int32) (h : Hp), K20 l4 h → V l G 2 yX10_mayWrite cX10_mayWrite 5 (some .boolean) 20 [(0, va_rf l0), (1, va_rf l1), (2, .int l2), (3, .int l3), (4, .int l4)] [] h (qI Q)) (hw : b_X10_mayWrite_20 l0 l1 l2 l3 l4 h Q K20) : V l G 2 yX10_mayWrite cX10_mayWrite 5 (some .boolean) 20 [(0, va_rf l0), (1, va_rf l1), (2, .int l2), (3, .int l3), (4, .int l4)] [] h (qI Q) := by
  unfold b_X10_mayWrite_20 at hw
  refine V_iload 4 rfl dX10_mayWrite_20 ?_
  refine V_aload_n 0 rfl rfl dX10_mayWrite_22 ?_
  refine X_getI (c := 10) (k := 13) fa_X10_249 rfl dX10_mayWrite_23 hw (fun v3 hw => ?_)
  refine V_icmp_ge (tgt := 79) dX10_mayWrite_26 (by decide) hw (fun hw => ?_) (fun hw => ?_)
  · refine V_iconst (v := 1) (by decide) dX10_mayWrite_79 ?_
    exact V_zret rfl hw.1 dX10_mayWrite_80 ⟨_, rfl, hw.2⟩
  · refine V_aload_n 0 rfl rfl dX10_mayWrite_29 ?_
    refine X_getR (c := 10) (k := 2) fa_X10_23 rfl dX10_mayWrite_30 hw (fun v4 hw => ?_)
    refine V_iload 4 rfl dX10_mayWrite_33 ?_
    refine X_ldR dX10_mayWrite_35 hw (fun v5 hw => ?_)
    refine X_getR (c := 0) (k := 1) fa_X10_255 rfl dX10_mayWrite_36 hw (fun v6 hw => ?_)
    refine V_aload_n 1 rfl rfl dX10_mayWrite_39 ?_
    refine V_acmp_ne (tgt := 73) dX10_mayWrite_40 (by decide) hw (fun hw => ?_) (fun hw => ?_)
    · refine V_aload_n 0 rfl rfl dX10_mayWrite_43 ?_
      refine X_getR (c := 10) (k := 2) fa_X10_23 rfl dX10_mayWrite_44 hw (fun v7 hw => ?_)
      refine V_iload 4 rfl dX10_mayWrite_47 ?_
      refine X_ldR dX10_mayWrite_49 hw (fun v8 hw => ?_)
      refine X_cV 0 [] [] ma_X10_300 (by decide) rfl (by decide) (by decide) rfl (by simp [cat_i, cat_l, rf_cat]) rfl dX10_mayWrite_50 hw (r_X0_stands _) (k_I (fun v9 h hw => ?_))
      refine V_if_eq (tgt := 73) dX10_mayWrite_53 (by decide) hw (fun hw => ?_) (fun hw => ?_)
      · exact V.sub [0, 1, 2, 3, 4] rfl (s_X10_mayWrite_73 hK20 hw)
      · refine V_aload_n 0 rfl rfl dX10_mayWrite_56 ?_
        refine X_getR (c := 10) (k := 2) fa_X10_23 rfl dX10_mayWrite_57 hw (fun v11 hw => ?_)
        refine V_iload 4 rfl dX10_mayWrite_60 ?_
        refine X_ldR dX10_mayWrite_62 hw (fun v12 hw => ?_)
        refine V_iload_n 2 rfl rfl dX10_mayWrite_63 ?_
        refine V_iload_n 3 rfl rfl dX10_mayWrite_64 ?_
        refine X_cV 0 [.int l2, .int l3] [] ma_X10_332 (by decide) rfl (by decide) (by decide) rfl (by simp [cat_i, cat_l, rf_cat]) rfl dX10_mayWrite_65 hw (r_X0_isFor _ _ _) (k_I (fun v13 h hw => ?_))
        refine V_if_eq (tgt := 73) dX10_mayWrite_68 (by decide) hw (fun hw => ?_) (fun hw => ?_)
        · exact V.sub [0, 1, 2, 3, 4] rfl (s_X10_mayWrite_73 hK20 hw)
        · refine V_iconst (v := 0) (by decide) dX10_mayWrite_71 ?_
          exact V_zret rfl hw.1 dX10_mayWrite_72 ⟨_, rfl, hw.2⟩
    · exact V.sub [0, 1, 2, 3, 4] rfl (s_X10_mayWrite_73 hK20 hw)
theorem s_X10_mayWrite_20 {l : Launch} {G : Gh} {l0 : Option Nat} {l1 : Option Nat} {l2 : Int32} {l3 : Int32} {l4 : Int32} {h : Hp} {Q : Int32 → Hp → Prop}  (hw : l_X10_mayWrite_20 l0 l1 l2 l3 l4 h Q) : V l G 2 yX10_mayWrite cX10_mayWrite 5 (some .boolean) 20 [(0, va_rf l0), (1, va_rf l1), (2, .int l2), (3, .int l3), (4, .int l4)] [] h (qI Q) :=
  Lo.ind (P := fun (s : Int32) h => V l G 2 yX10_mayWrite cX10_mayWrite 5 (some .boolean) 20 [(0, va_rf l0), (1, va_rf l1), (2, .int l2), (3, .int l3), (4, .int s)] [] h (qI Q)) (fun K ih s h hw => sb_X10_mayWrite_20 (fun l4 h hk => ih (l4) h hk) hw) hw
theorem s_X10_mayWrite_15 {l : Launch} {G : Gh}  {h : Hp} {Q : Int32 → Hp → Prop}  (hw : n_X10_mayWrite_15 h Q) : V l G 2 yX10_mayWrite cX10_mayWrite 5 (some .boolean) 15 [] [] h (qI Q) := by
  unfold n_X10_mayWrite_15 at hw
  refine V_iconst (v := 0) (by decide) dX10_mayWrite_15 ?_
  exact V_zret rfl hw.1 dX10_mayWrite_16 ⟨_, rfl, hw.2⟩
theorem s_X10_mayWrite_0 {l : Launch} {G : Gh} {l0 : Option Nat} {l1 : Option Nat} {l2 : Int32} {l3 : Int32} {h : Hp} {Q : Int32 → Hp → Prop}  (hw : n_X10_mayWrite_0 l0 l1 l2 l3 h Q) : V l G 2 yX10_mayWrite cX10_mayWrite 5 (some .boolean) 0 [(0, va_rf l0), (1, va_rf l1), (2, .int l2), (3, .int l3)] [] h (qI Q) := by
  unfold n_X10_mayWrite_0 at hw
  refine V_aload_n 1 rfl rfl dX10_mayWrite_0 ?_
  refine X_getI (c := 5) (k := 1) fa_X10_103 rfl dX10_mayWrite_1 hw (fun v1 hw => ?_)
  refine V_if_ne (tgt := 15) dX10_mayWrite_4 (by decide) hw (fun hw => ?_) (fun hw => ?_)
  · refine V_aload_n 1 rfl rfl dX10_mayWrite_7 ?_
    refine X_getI (c := 5) (k := 9) fa_X10_147 rfl dX10_mayWrite_8 hw (fun v2 hw => ?_)
    refine V_iconst (v := (-1)) (by decide) dX10_mayWrite_11 ?_
    refine V_icmp_eq (tgt := 17) dX10_mayWrite_12 (by decide) hw (fun hw => ?_) (fun hw => ?_)
    · refine V_iconst (v := 0) (by decide) dX10_mayWrite_17 ?_
      refine V_istore (i := 4) [(4, .int 0), (0, va_rf l0), (1, va_rf l1), (2, .int l2), (3, .int l3)] (by decide) rfl dX10_mayWrite_18 ?_
      exact V.sub [1, 2, 3, 4, 0] rfl (s_X10_mayWrite_20 hw)
    · exact V.sub [] rfl (s_X10_mayWrite_15 hw)
  · exact V.sub [] rfl (s_X10_mayWrite_15 hw)
theorem r_X10_mayWrite {l : Launch} {G : Gh} (l0 : Option Nat) (l1 : Option Nat) (l2 : Int32) (l3 : Int32) {h : Hp} {Q : Int32 → Hp → Prop} (hw : w_X10_mayWrite l0 l1 l2 l3 h Q) : RunQ l G 2 yX10_mayWrite cX10_mayWrite 5 (some .boolean) [va_rf l0, va_rf l1, .int l2, .int l3] h (qI Q) :=
  V_run rfl (sl_len _ _ (by simp [cat_i, cat_l, rf_cat])) (V.sub [0, 1, 2, 3] (by simp only [la_r, la_i, la_l, la_n]; rfl) (s_X10_mayWrite_0 hw))
def n_X9_rowCopy_0 (l0 : Option Nat) (h : Hp) (Q : Option Nat → Hp → Prop) : Prop :=
  gR h l0 10 1152 fun v1 =>
  gI h l0 10 1154 fun v2 =>
  w_J7_copyOf_c38d5 v1 v2 h <| fun v3 h =>
  Q v3 h
def w_X9_rowCopy (l0 : Option Nat) (h : Hp) (Q : Option Nat → Hp → Prop) : Prop := n_X9_rowCopy_0 l0 h Q
theorem s_X9_rowCopy_0 {l : Launch} {G : Gh} {l0 : Option Nat} {h : Hp} {Q : Option Nat → Hp → Prop}  (hw : n_X9_rowCopy_0 l0 h Q) : V l G 9 yX9_rowCopy cX9_rowCopy 1 (some (.array .long)) 0 [(0, va_rf l0)] [] h (qR Q) := by
  unfold n_X9_rowCopy_0 at hw
  refine V_aload_n 0 rfl rfl dX9_rowCopy_0 ?_
  refine X_getR (c := 9) (k := 0) fa_X9_9 rfl dX9_rowCopy_1 hw (fun v1 hw => ?_)
  refine V_aload_n 0 rfl rfl dX9_rowCopy_4 ?_
  refine X_getI (c := 9) (k := 2) fa_X9_23 rfl dX9_rowCopy_5 hw (fun v2 hw => ?_)
  refine X_cS [va_rf v1, .int v2] [] ma_X9_32 (by decide) (by decide) rfl (by simp [cat_i, cat_l, rf_cat]) rfl dX9_rowCopy_8 (r_J7_copyOf_c38d5 _ _ hw) (k_R (fun v3 h hw => ?_))
  exact V_aret rfl (Or.inr ⟨_, rfl⟩) dX9_rowCopy_11 ⟨_, rfl, hw⟩
theorem r_X9_rowCopy {l : Launch} {G : Gh} (l0 : Option Nat) {h : Hp} {Q : Option Nat → Hp → Prop} (hw : w_X9_rowCopy l0 h Q) : RunQ l G 9 yX9_rowCopy cX9_rowCopy 1 (some (.array .long)) [va_rf l0] h (qR Q) :=
  V_run rfl (sl_len _ _ (by simp [cat_i, cat_l, rf_cat])) (V.sub [0] (by simp only [la_r, la_i, la_l, la_n]; rfl) (s_X9_rowCopy_0 hw))
def n_X3_init_0 (l0 : Option Nat) (l1 : Int32) (l2 : Int32) (l3 : Option Nat) (l4 : Int32) (l5 : Option Nat) (h : Hp) (Q : Hp → Prop) : Prop :=
  oN l0 <|
  pI h l0 4 384 l1 fun h =>
  pI h l0 4 385 l2 fun h =>
  pR h l0 4 386 l3 fun h =>
  pI h l0 4 387 l4 fun h =>
  pR h l0 4 388 l5 fun h =>
  Q h
def w_X3_init (l0 : Option Nat) (l1 : Int32) (l2 : Int32) (l3 : Option Nat) (l4 : Int32) (l5 : Option Nat) (h : Hp) (Q : Hp → Prop) : Prop := n_X3_init_0 l0 l1 l2 l3 l4 l5 h Q
theorem s_X3_init_0 {l : Launch} {G : Gh} {l0 : Option Nat} {l1 : Int32} {l2 : Int32} {l3 : Option Nat} {l4 : Int32} {l5 : Option Nat} {h : Hp} {Q : Hp → Prop}  (hw : n_X3_init_0 l0 l1 l2 l3 l4 l5 h Q) : V l G 2 yX3_init cX3_init 6 none 0 [(0, va_rf l0), (1, .int l1), (2, .int l2), (3, va_rf l3), (4, .int l4), (5, va_rf l5)] [] h (qV Q) := by
  unfold n_X3_init_0 at hw
  refine V_aload_n 0 rfl rfl dX3_init_0 ?_
  refine X_obj oi_X3_1 (by decide) (by simp [cat_i, cat_l, rf_cat]) dX3_init_1 hw (fun hw => ?_)
  refine V_aload_n 0 rfl rfl dX3_init_4 ?_
  refine V_iload_n 1 rfl rfl dX3_init_5 ?_
  refine X_putI (c := 3) (k := 0) fa_X3_7 (Or.inr ⟨rfl, rfl, rfl, po_X3_7⟩) rfl dX3_init_6 hw (fun h hw => ?_)
  refine V_aload_n 0 rfl rfl dX3_init_9 ?_
  refine V_iload_n 2 rfl rfl dX3_init_10 ?_
  refine X_putI (c := 3) (k := 1) fa_X3_13 (Or.inr ⟨rfl, rfl, rfl, po_X3_13⟩) rfl dX3_init_11 hw (fun h hw => ?_)
  refine V_aload_n 0 rfl rfl dX3_init_14 ?_
  refine V_aload_n 3 rfl rfl dX3_init_15 ?_
  refine X_putR (c := 3) (k := 2) fa_X3_16 (Or.inr ⟨rfl, rfl, rfl, po_X3_16⟩) (Or.inl ⟨_, rfl⟩) dX3_init_16 hw (fun h hw => ?_)
  refine V_aload_n 0 rfl rfl dX3_init_19 ?_
  refine V_iload 4 rfl dX3_init_20 ?_
  refine X_putI (c := 3) (k := 3) fa_X3_20 (Or.inr ⟨rfl, rfl, rfl, po_X3_20⟩) rfl dX3_init_22 hw (fun h hw => ?_)
  refine V_aload_n 0 rfl rfl dX3_init_25 ?_
  refine V_aload 5 rfl dX3_init_26 ?_
  refine X_putR (c := 3) (k := 4) fa_X3_23 (Or.inr ⟨rfl, rfl, rfl, po_X3_23⟩) (Or.inr ⟨_, rfl⟩) dX3_init_28 hw (fun h hw => ?_)
  exact V_vret rfl dX3_init_31 ⟨rfl, hw⟩
theorem r_X3_init {l : Launch} {G : Gh} (l0 : Option Nat) (l1 : Int32) (l2 : Int32) (l3 : Option Nat) (l4 : Int32) (l5 : Option Nat) {h : Hp} {Q : Hp → Prop} (hw : w_X3_init l0 l1 l2 l3 l4 l5 h Q) : RunQ l G 2 yX3_init cX3_init 6 none [va_rf l0, .int l1, .int l2, va_rf l3, .int l4, va_rf l5] h (qV Q) :=
  V_run rfl (sl_len _ _ (by simp [cat_i, cat_l, rf_cat])) (V.sub [0, 1, 2, 3, 4, 5] (by simp only [la_r, la_i, la_l, la_n]; rfl) (s_X3_init_0 hw))
def n_X10_model_24 (l0 : Option Nat) (h : Hp) (Q : Int32 → Hp → Prop) : Prop :=
  oV h l0 11 <| w_X10_refuse l0 (-1) h <| fun v3 h =>
  Q v3 h
def n_X10_model_69 (l0 : Option Nat) (h : Hp) (Q : Int32 → Hp → Prop) : Prop :=
  oV h l0 11 <| w_X10_refuse l0 (-6) h <| fun v6 h =>
  Q v6 h
def n_X10_model_0 (l0 : Option Nat) (l1 : Int32) (l2 : Int32) (l3 : Int32) (h : Hp) (Q : Int32 → Hp → Prop) : Prop :=
  oV h l0 11 <| w_X10_shelfAt l0 l2 h <| fun v1 h =>
  oV h l0 11 <| w_X10_placeAt l0 l3 h <| fun v2 h =>
  br (v1 = none) (
    n_X10_model_24 l0 h Q) (
    br (v2 = none) (
      n_X10_model_24 l0 h Q) (
      w_X10_rowTrouble v1 h <| fun v4 h =>
      br (v4 = 0) (
        w_X10_isIn l1 0 15 h <| fun v5 h =>
        br (v5 = 0) (
          n_X10_model_69 l0 h Q) (
          gI h v1 10 1154 fun v7 =>
          br (v7 ≤ 20) (
            gI h l0 11 1294 fun v8 =>
            br (v8 < 8) (
              gI h l0 11 1294 fun v9 =>
              gR h l0 11 1283 fun v10 =>
              nwO h 4 5 fun v11 h =>
              gI h l0 11 1297 fun v12 =>
              oV h v1 10 <| w_X9_rowCopy v1 h <| fun v13 h =>
              oN v11 <| w_X3_init v11 v9 l1 v2 v12 v13 h <| fun h =>
              stR h v10 v9 v11 fun h =>
              gI h l0 11 1294 fun v15 =>
              pI h l0 11 1294 (v15 + 1) fun h =>
              Q v9 h) (
              oV h l0 11 <| w_X10_refuse l0 (-7) h <| fun v16 h =>
              Q v16 h)) (
            n_X10_model_69 l0 h Q))) (
        oV h l0 11 <| w_X10_refuse l0 v4 h <| fun v17 h =>
        Q v17 h)))
def w_X10_model (l0 : Option Nat) (l1 : Int32) (l2 : Int32) (l3 : Int32) (h : Hp) (Q : Int32 → Hp → Prop) : Prop := n_X10_model_0 l0 l1 l2 l3 h Q
theorem s_X10_model_24 {l : Launch} {G : Gh} {l0 : Option Nat} {h : Hp} {Q : Int32 → Hp → Prop}  (hw : n_X10_model_24 l0 h Q) : V l G 10 yX10_model cX10_model 8 (some .int) 24 [(0, va_rf l0)] [] h (qI Q) := by
  unfold n_X10_model_24 at hw
  refine V_aload_n 0 rfl rfl dX10_model_24 ?_
  refine V_iconst (v := (-1)) (by decide) dX10_model_25 ?_
  refine X_cV 10 [.int (-1)] [] ma_X10_95 (by decide) rfl (by decide) (by decide) rfl (by simp [cat_i, cat_l, rf_cat]) rfl dX10_model_26 hw (r_X10_refuse _ _) (k_I (fun v3 h hw => ?_))
  exact V_iret rfl dX10_model_29 ⟨_, rfl, hw⟩
theorem s_X10_model_69 {l : Launch} {G : Gh} {l0 : Option Nat} {h : Hp} {Q : Int32 → Hp → Prop}  (hw : n_X10_model_69 l0 h Q) : V l G 10 yX10_model cX10_model 8 (some .int) 69 [(0, va_rf l0)] [] h (qI Q) := by
  unfold n_X10_model_69 at hw
  refine V_aload_n 0 rfl rfl dX10_model_69 ?_
  refine V_bipush (v := (-6)) (by decide) dX10_model_70 ?_
  refine X_cV 10 [.int (-6)] [] ma_X10_95 (by decide) rfl (by decide) (by decide) rfl (by simp [cat_i, cat_l, rf_cat]) rfl dX10_model_72 hw (r_X10_refuse _ _) (k_I (fun v6 h hw => ?_))
  exact V_iret rfl dX10_model_75 ⟨_, rfl, hw⟩
set_option maxRecDepth 20000 in
theorem s_X10_model_0 {l : Launch} {G : Gh} {l0 : Option Nat} {l1 : Int32} {l2 : Int32} {l3 : Int32} {h : Hp} {Q : Int32 → Hp → Prop}  (hw : n_X10_model_0 l0 l1 l2 l3 h Q) : V l G 10 yX10_model cX10_model 8 (some .int) 0 [(0, va_rf l0), (1, .int l1), (2, .int l2), (3, .int l3)] [] h (qI Q) := by
  unfold n_X10_model_0 at hw
  refine V_aload_n 0 rfl rfl dX10_model_0 ?_
  refine V_iload_n 2 rfl rfl dX10_model_1 ?_
  refine X_cV 10 [.int l2] [] ma_X10_156 (by decide) rfl (by decide) (by decide) rfl (by simp [cat_i, cat_l, rf_cat]) rfl dX10_model_2 hw (r_X10_shelfAt _ _) (k_R (fun v1 h hw => ?_))
  refine V_astore (i := 4) [(4, va_rf v1), (0, va_rf l0), (1, .int l1), (2, .int l2), (3, .int l3)] (by decide) rfl dX10_model_5 ?_
  refine V_aload_n 1 rfl rfl dX10_model_7 ?_
  refine V_iload_n 4 rfl rfl dX10_model_8 ?_
  refine X_cV 10 [.int l3] [] ma_X10_91 (by decide) rfl (by decide) (by decide) rfl (by simp [cat_i, cat_l, rf_cat]) rfl dX10_model_9 hw (r_X10_placeAt _ _) (k_R (fun v2 h hw => ?_))
  refine V_astore (i := 5) [(5, va_rf v2), (4, va_rf v1), (0, va_rf l0), (1, .int l1), (2, .int l2), (3, .int l3)] (by decide) (by simp [List.filter_cons, rf_cat, cat_i, cat_l]) dX10_model_12 ?_
  refine V_aload 1 rfl dX10_model_14 ?_
  refine V_ifnull (tgt := 24) dX10_model_16 (by decide) hw (fun hw => ?_) (fun hw => ?_)
  · exact V.sub [2] rfl (s_X10_model_24 hw)
  · refine V_aload 0 rfl dX10_model_19 ?_
    refine V_ifnonnull (tgt := 30) dX10_model_21 (by decide) hw (fun hw => ?_) (fun hw => ?_)
    · exact V.sub [2] rfl (s_X10_model_24 hw)
    · refine V_aload 1 rfl dX10_model_30 ?_
      refine X_cS [va_rf v1] [] ma_X10_164 (by decide) (by decide) rfl (by simp [cat_i, cat_l, rf_cat]) rfl dX10_model_32 (r_X10_rowTrouble _ hw) (k_I (fun v4 h hw => ?_))
      refine V_istore (i := 6) [(6, .int v4), (5, va_rf v2), (4, va_rf v1), (0, va_rf l0), (1, .int l1), (2, .int l2), (3, .int l3)] (by decide) (by simp [List.filter_cons, rf_cat, cat_i, cat_l]) dX10_model_35 ?_
      refine V_iload 0 rfl dX10_model_37 ?_
      refine V_if_eq (tgt := 49) dX10_model_39 (by decide) hw (fun hw => ?_) (fun hw => ?_)
      · refine V_iload_n 4 rfl rfl dX10_model_49 ?_
        refine V_iconst (v := 0) (by decide) dX10_model_50 ?_
        refine V_bipush (v := 15) (by decide) dX10_model_51 ?_
        refine X_cS [.int l1, .int 0, .int 15] [] ma_X10_99 (by decide) (by decide) rfl (by simp [cat_i, cat_l, rf_cat]) rfl dX10_model_53 (r_X10_isIn _ _ _ hw) (k_I (fun v5 h hw => ?_))
        refine V_if_eq (tgt := 69) dX10_model_56 (by decide) hw (fun hw => ?_) (fun hw => ?_)
        · exact V.sub [3] rfl (s_X10_model_69 hw)
        · refine V_aload 2 rfl dX10_model_59 ?_
          refine X_getI (c := 9) (k := 2) fa_X10_168 rfl dX10_model_61 hw (fun v7 hw => ?_)
          refine V_bipush (v := 20) (by decide) dX10_model_64 ?_
          refine V_icmp_le (tgt := 76) dX10_model_66 (by decide) hw (fun hw => ?_) (fun hw => ?_)
          · refine V_aload_n 3 rfl rfl dX10_model_76 ?_
            refine X_getI (c := 10) (k := 14) fa_X10_219 rfl dX10_model_77 hw (fun v8 hw => ?_)
            refine V_bipush (v := 8) (by decide) dX10_model_80 ?_
            refine V_icmp_lt (tgt := 92) dX10_model_82 (by decide) hw (fun hw => ?_) (fun hw => ?_)
            · refine V_aload_n 3 rfl rfl dX10_model_92 ?_
              refine X_getI (c := 10) (k := 14) fa_X10_219 rfl dX10_model_93 hw (fun v9 hw => ?_)
              refine V_istore (i := 7) [(7, .int v9), (6, .int v4), (5, va_rf v2), (4, va_rf v1), (0, va_rf l0), (1, .int l1), (2, .int l2), (3, .int l3)] (by decide) rfl dX10_model_96 ?_
              refine V_aload_n 4 rfl rfl dX10_model_98 ?_
              refine X_getR (c := 10) (k := 3) fa_X10_29 rfl dX10_model_99 hw (fun v10 hw => ?_)
              refine V_iload 0 rfl dX10_model_102 ?_
              refine X_newO (c := 3) nc_X10_27 dX10_model_104 hw (fun v11 h hw => ?_)
              refine V_dup (rf_cat _) dX10_model_107 ?_
              refine V_iload 0 rfl dX10_model_108 ?_
              refine V_iload_n 5 rfl rfl dX10_model_110 ?_
              refine V_aload 2 rfl dX10_model_111 ?_
              refine V_aload_n 4 rfl rfl dX10_model_113 ?_
              refine X_getI (c := 10) (k := 17) fa_X10_114 rfl dX10_model_114 hw (fun v12 hw => ?_)
              refine V_aload 3 rfl dX10_model_117 ?_
              refine X_cV 9 [] [.int v12, va_rf v2, .int l1, .int v9, va_rf v11, va_rf v11, .int v9, va_rf v10] ma_X10_222 (by decide) rfl (by decide) (by decide) rfl (by simp [cat_i, cat_l, rf_cat]) rfl dX10_model_119 hw (r_X9_rowCopy _) (k_R (fun v13 h hw => ?_))
              refine X_cI [.int v9, .int l1, va_rf v2, .int v12, va_rf v13] [va_rf v11, .int v9, va_rf v10] ma_X10_226 (by decide) (by decide) rfl (by simp [cat_i, cat_l, rf_cat]) rfl dX10_model_122 hw (r_X3_init _ _ _ _ _ _) (k_V (fun h hw => ?_))
              refine X_stR dX10_model_125 hw (fun h hw => ?_)
              refine V_aload_n 4 rfl rfl dX10_model_126 ?_
              refine V_dup (rf_cat _) dX10_model_127 ?_
              refine X_getI (c := 10) (k := 14) fa_X10_219 rfl dX10_model_128 hw (fun v15 hw => ?_)
              refine V_iconst (v := 1) (by decide) dX10_model_131 ?_
              refine V_iadd dX10_model_132 ?_
              refine X_putI (c := 10) (k := 14) fa_X10_219 (Or.inl rfl) rfl dX10_model_133 hw (fun h hw => ?_)
              refine V_iload 0 rfl dX10_model_136 ?_
              exact V_iret rfl dX10_model_138 ⟨_, rfl, hw⟩
            · refine V_aload_n 3 rfl rfl dX10_model_85 ?_
              refine V_bipush (v := (-7)) (by decide) dX10_model_86 ?_
              refine X_cV 10 [.int (-7)] [] ma_X10_95 (by decide) rfl (by decide) (by decide) rfl (by simp [cat_i, cat_l, rf_cat]) rfl dX10_model_88 hw (r_X10_refuse _ _) (k_I (fun v16 h hw => ?_))
              exact V_iret rfl dX10_model_91 ⟨_, rfl, hw⟩
          · exact V.sub [3] rfl (s_X10_model_69 hw)
      · refine V_aload_n 3 rfl rfl dX10_model_42 ?_
        refine V_iload 0 rfl dX10_model_43 ?_
        refine X_cV 10 [.int v4] [] ma_X10_95 (by decide) rfl (by decide) (by decide) rfl (by simp [cat_i, cat_l, rf_cat]) rfl dX10_model_45 hw (r_X10_refuse _ _) (k_I (fun v17 h hw => ?_))
        exact V_iret rfl dX10_model_48 ⟨_, rfl, hw⟩
theorem r_X10_model {l : Launch} {G : Gh} (l0 : Option Nat) (l1 : Int32) (l2 : Int32) (l3 : Int32) {h : Hp} {Q : Int32 → Hp → Prop} (hw : w_X10_model l0 l1 l2 l3 h Q) : RunQ l G 10 yX10_model cX10_model 8 (some .int) [va_rf l0, .int l1, .int l2, .int l3] h (qI Q) :=
  V_run rfl (sl_len _ _ (by simp [cat_i, cat_l, rf_cat])) (V.sub [0, 1, 2, 3] (by simp only [la_r, la_i, la_l, la_n]; rfl) (s_X10_model_0 hw))
def n_X10_narrowed_0 (l0 : Int32) (l1 : Int64) (h : Hp) (Q : Int64 → Hp → Prop) : Prop :=
  br (l0 = 0) (
    Q ((((l1 : Int64).toInt32 : Int32).toInt8.toInt32 : Int32).toInt64) h) <|
  br (l0 = 1) (
    Q ((((l1 : Int64).toInt32 : Int32).toInt16.toInt32 : Int32).toInt64) h) <|
  br (l0 = 2) (
    Q (((l1 : Int64).toInt32 : Int32).toInt64) h) <|
  Q l1 h
def w_X10_narrowed (l0 : Int32) (l1 : Int64) (h : Hp) (Q : Int64 → Hp → Prop) : Prop := n_X10_narrowed_0 l0 l1 h Q
theorem s_X10_narrowed_0 {l : Launch} {G : Gh} {l0 : Int32} {l1 : Int64} {h : Hp} {Q : Int64 → Hp → Prop}  (hw : n_X10_narrowed_0 l0 l1 h Q) : V l G 1 yX10_narrowed cX10_narrowed 3 (some .long) 0 [(0, .int l0), (1, .long l1)] [] h (qL Q) := by
  unfold n_X10_narrowed_0 at hw
  refine V_iload_n 0 rfl rfl dX10_narrowed_0 ?_
  by_cases c0 : l0 = 0
  · replace hw := hw.1 c0
    refine V_tsw 28 dX10_narrowed_1 (by rw [c0]; exact Or.inr ⟨by decide, by decide, _, rfl, by decide⟩) ?_
    refine V_lload_n 1 rfl rfl dX10_narrowed_28 ?_
    refine V_l2i dX10_narrowed_29 ?_
    refine V_i2b dX10_narrowed_30 ?_
    refine V_i2l dX10_narrowed_31 ?_
    exact V_lret rfl dX10_narrowed_32 ⟨_, rfl, hw⟩
  replace hw := hw.2 c0
  by_cases c1 : l0 = 1
  · replace hw := hw.1 c1
    refine V_tsw 33 dX10_narrowed_1 (by rw [c1]; exact Or.inr ⟨by decide, by decide, _, rfl, by decide⟩) ?_
    refine V_lload_n 1 rfl rfl dX10_narrowed_33 ?_
    refine V_l2i dX10_narrowed_34 ?_
    refine V_i2s dX10_narrowed_35 ?_
    refine V_i2l dX10_narrowed_36 ?_
    exact V_lret rfl dX10_narrowed_37 ⟨_, rfl, hw⟩
  replace hw := hw.2 c1
  by_cases c2 : l0 = 2
  · replace hw := hw.1 c2
    refine V_tsw 38 dX10_narrowed_1 (by rw [c2]; exact Or.inr ⟨by decide, by decide, _, rfl, by decide⟩) ?_
    refine V_lload_n 1 rfl rfl dX10_narrowed_38 ?_
    refine V_l2i dX10_narrowed_39 ?_
    refine V_i2l dX10_narrowed_40 ?_
    exact V_lret rfl dX10_narrowed_41 ⟨_, rfl, hw⟩
  replace hw := hw.2 c2
  have hout : l0.toInt < 0 ∨ 2 < l0.toInt := by
    refine sw_out (fun v h1 h2 => ?_)
    rcases (show v = 0 ∨ v = 1 ∨ v = 2 by omega) with rfl | rfl | rfl
    · exact c0
    · exact c1
    · exact c2
  refine V_tsw 42 dX10_narrowed_1 (Or.inl ⟨hout, by decide⟩) ?_
  refine V_lload_n 1 rfl rfl dX10_narrowed_42 ?_
  exact V_lret rfl dX10_narrowed_43 ⟨_, rfl, hw⟩
theorem r_X10_narrowed {l : Launch} {G : Gh} (l0 : Int32) (l1 : Int64) {h : Hp} {Q : Int64 → Hp → Prop} (hw : w_X10_narrowed l0 l1 h Q) : RunQ l G 1 yX10_narrowed cX10_narrowed 3 (some .long) [.int l0, .long l1] h (qL Q) :=
  V_run rfl (sl_len _ _ (by simp [cat_i, cat_l, rf_cat])) (V.sub [0, 1] (by simp only [la_r, la_i, la_l, la_n]; rfl) (s_X10_narrowed_0 hw))
def n_X10_other_53 (l0 : Option Nat) (l1 : Int32) (l3 : Int32) (l4 : Int32) (h : Hp) (Q : Int32 → Hp → Prop) (K17 : Int32 → Int32 → Hp → Prop) : Prop :=
  lt (l4 + 1) fun x5 =>
  K17 l3 x5 h
def b_X10_other_17 (l0 : Option Nat) (l1 : Int32) (l3 : Int32) (l4 : Int32) (h : Hp) (Q : Int32 → Hp → Prop) (K17 : Int32 → Int32 → Hp → Prop) : Prop :=
  br (128 ≤ l4) (
    Q (-1) h) (
    dvI l4 8 fun v2 =>
    rmI l4 8 fun v3 =>
    oV h l0 11 <| w_X10_comesToTheTop l0 l1 v2 v3 h <| fun v4 h =>
    br (v4 = 0) (
      n_X10_other_53 l0 l1 l3 l4 h Q K17) (
      br (l3 = 0) (
        Q l4 h) (
        lt (l3 + (-1)) fun x6 =>
        n_X10_other_53 l0 l1 x6 l4 h Q K17)))
def l_X10_other_17 (l0 : Option Nat) (l1 : Int32) (l3 : Int32) (l4 : Int32) (h : Hp) (Q : Int32 → Hp → Prop) : Prop :=
  Lo (fun (K : Int32 × Int32 → Hp → Prop) s h => b_X10_other_17 l0 l1 s.1 s.2 h Q (fun l3 l4 h => K (l3, l4) h)) (l3, l4) h
def n_X10_other_0 (l0 : Option Nat) (l1 : Int32) (l2 : Int32) (h : Hp) (Q : Int32 → Hp → Prop) : Prop :=
  w_X10_isIn l2 0 15 h <| fun v1 h =>
  br (v1 = 0) (
    Q (-1) h) (
    l_X10_other_17 l0 l1 l2 0 h Q)
def w_X10_other (l0 : Option Nat) (l1 : Int32) (l2 : Int32) (h : Hp) (Q : Int32 → Hp → Prop) : Prop := n_X10_other_0 l0 l1 l2 h Q
theorem s_X10_other_53 {l : Launch} {G : Gh} {l0 : Option Nat} {l1 : Int32} {l3 : Int32} {l4 : Int32} {h : Hp} {Q : Int32 → Hp → Prop} {K17 : Int32 → Int32 → Hp → Prop} (hK17 : ∀ (l3 : Int32) (l4 : Int32) (h : Hp), K17 l3 l4 h → V l G 4 yX10_other cX10_other 5 (some .int) 17 [(0, va_rf l0), (1, .int l1), (3, .int l3), (4, .int l4)] [] h (qI Q)) (hw : n_X10_other_53 l0 l1 l3 l4 h Q K17) : V l G 4 yX10_other cX10_other 5 (some .int) 53 [(0, va_rf l0), (1, .int l1), (3, .int l3), (4, .int l4)] [] h (qI Q) := by
  unfold n_X10_other_53 at hw
  refine V_iincL (n := 1) 3 (fun z => [(4, .int z), (0, va_rf l0), (1, .int l1), (3, .int l3)]) rfl (by rfl) (by decide) (fun _ => rfl) dX10_other_53 hw (fun x5 hw => ?_)
  refine V_goto (tgt := 17) dX10_other_56 (by decide) ?_
  exact V.sub [1, 2, 3, 0] rfl (hK17 _ _ _ hw)
theorem sb_X10_other_17 {l : Launch} {G : Gh} {l0 : Option Nat} {l1 : Int32} {l3 : Int32} {l4 : Int32} {h : Hp} {Q : Int32 → Hp → Prop} {K17 : Int32 → Int32 → Hp → Prop} (hK17 : ∀ (l3 : Int32) (l4 : Int32) (h : Hp), K17 l3 l4 h → V l G 4 yX10_other cX10_other 5 (some .int) 17 [(0, va_rf l0), (1, .int l1), (3, .int l3), (4, .int l4)] [] h (qI Q)) (hw : b_X10_other_17 l0 l1 l3 l4 h Q K17) : V l G 4 yX10_other cX10_other 5 (some .int) 17 [(0, va_rf l0), (1, .int l1), (3, .int l3), (4, .int l4)] [] h (qI Q) := by
  unfold b_X10_other_17 at hw
  refine V_iload 3 rfl dX10_other_17 ?_
  refine V_sipush (v := 128) (by decide) dX10_other_19 ?_
  refine V_icmp_ge (tgt := 59) dX10_other_22 (by decide) hw (fun hw => ?_) (fun hw => ?_)
  · refine V_iconst (v := (-1)) (by decide) dX10_other_59 ?_
    exact V_iret rfl dX10_other_60 ⟨_, rfl, hw⟩
  · refine V_aload_n 0 rfl rfl dX10_other_25 ?_
    refine V_iload_n 1 rfl rfl dX10_other_26 ?_
    refine V_iload 3 rfl dX10_other_27 ?_
    refine V_bipush (v := 8) (by decide) dX10_other_29 ?_
    refine X_idiv dX10_other_31 hw (fun v2 hw => ?_)
    refine V_iload 3 rfl dX10_other_32 ?_
    refine V_bipush (v := 8) (by decide) dX10_other_34 ?_
    refine X_irem dX10_other_36 hw (fun v3 hw => ?_)
    refine X_cV 10 [.int l1, .int v2, .int v3] [] ma_X10_438 (by decide) rfl (by decide) (by decide) rfl (by simp [cat_i, cat_l, rf_cat]) rfl dX10_other_37 hw (r_X10_comesToTheTop _ _ _ _) (k_I (fun v4 h hw => ?_))
    refine V_if_eq (tgt := 53) dX10_other_40 (by decide) hw (fun hw => ?_) (fun hw => ?_)
    · exact V.sub [0, 1, 2, 3] rfl (s_X10_other_53 hK17 hw)
    · refine V_iload_n 2 rfl rfl dX10_other_43 ?_
      refine V_if_ne (tgt := 50) dX10_other_44 (by decide) hw (fun hw => ?_) (fun hw => ?_)
      · refine V_iload 3 rfl dX10_other_47 ?_
        exact V_iret rfl dX10_other_49 ⟨_, rfl, hw⟩
      · refine V_iincL (n := (-1)) 2 (fun z => [(3, .int z), (0, va_rf l0), (1, .int l1), (4, .int l4)]) rfl (by rfl) (by decide) (fun _ => rfl) dX10_other_50 hw (fun x6 hw => ?_)
        exact V.sub [1, 2, 0, 3] rfl (s_X10_other_53 hK17 hw)
theorem s_X10_other_17 {l : Launch} {G : Gh} {l0 : Option Nat} {l1 : Int32} {l3 : Int32} {l4 : Int32} {h : Hp} {Q : Int32 → Hp → Prop}  (hw : l_X10_other_17 l0 l1 l3 l4 h Q) : V l G 4 yX10_other cX10_other 5 (some .int) 17 [(0, va_rf l0), (1, .int l1), (3, .int l3), (4, .int l4)] [] h (qI Q) :=
  Lo.ind (P := fun (s : Int32 × Int32) h => V l G 4 yX10_other cX10_other 5 (some .int) 17 [(0, va_rf l0), (1, .int l1), (3, .int s.1), (4, .int s.2)] [] h (qI Q)) (fun K ih s h hw => sb_X10_other_17 (fun l3 l4 h hk => ih (l3, l4) h hk) hw) hw
theorem s_X10_other_0 {l : Launch} {G : Gh} {l0 : Option Nat} {l1 : Int32} {l2 : Int32} {h : Hp} {Q : Int32 → Hp → Prop}  (hw : n_X10_other_0 l0 l1 l2 h Q) : V l G 4 yX10_other cX10_other 5 (some .int) 0 [(0, va_rf l0), (1, .int l1), (2, .int l2)] [] h (qI Q) := by
  unfold n_X10_other_0 at hw
  refine V_iload_n 2 rfl rfl dX10_other_0 ?_
  refine V_iconst (v := 0) (by decide) dX10_other_1 ?_
  refine V_bipush (v := 15) (by decide) dX10_other_2 ?_
  refine X_cS [.int l2, .int 0, .int 15] [] ma_X10_99 (by decide) (by decide) rfl (by simp [cat_i, cat_l, rf_cat]) rfl dX10_other_4 (r_X10_isIn _ _ _ hw) (k_I (fun v1 h hw => ?_))
  refine V_if_ne (tgt := 12) dX10_other_7 (by decide) hw (fun hw => ?_) (fun hw => ?_)
  · refine V_iconst (v := (-1)) (by decide) dX10_other_10 ?_
    exact V_iret rfl dX10_other_11 ⟨_, rfl, hw⟩
  · refine V_iload_n 2 rfl rfl dX10_other_12 ?_
    refine V_istore_n (i := 3) [(3, .int l2), (0, va_rf l0), (1, .int l1), (2, .int l2)] rfl (by decide) rfl dX10_other_13 ?_
    refine V_iconst (v := 0) (by decide) dX10_other_14 ?_
    refine V_istore (i := 4) [(4, .int 0), (3, .int l2), (0, va_rf l0), (1, .int l1), (2, .int l2)] (by decide) rfl dX10_other_15 ?_
    exact V.sub [2, 3, 1, 0] rfl (s_X10_other_17 hw)
theorem r_X10_other {l : Launch} {G : Gh} (l0 : Option Nat) (l1 : Int32) (l2 : Int32) {h : Hp} {Q : Int32 → Hp → Prop} (hw : w_X10_other l0 l1 l2 h Q) : RunQ l G 4 yX10_other cX10_other 5 (some .int) [va_rf l0, .int l1, .int l2] h (qI Q) :=
  V_run rfl (sl_len _ _ (by simp [cat_i, cat_l, rf_cat])) (V.sub [0, 1, 2] (by simp only [la_r, la_i, la_l, la_n]; rfl) (s_X10_other_0 hw))
def b_X10_settle_50 (l4 : Int32) (l5 : Int32) (l6 : Option Nat) (h : Hp) (Q : Int32 → Hp → Prop) (K50 : Option Nat → Hp → Prop) : Prop :=
  br (l6 = none) (
    Q l5 h) (
    gI h l6 6 646 fun v7 =>
    pI h l6 6 646 (v7 + l4) fun h =>
    gR h l6 6 642 fun v8 =>
    K50 v8 h)
def l_X10_settle_50 (l4 : Int32) (l5 : Int32) (l6 : Option Nat) (h : Hp) (Q : Int32 → Hp → Prop) : Prop :=
  Lo (fun (K : Option Nat → Hp → Prop) s h => b_X10_settle_50 l4 l5 s h Q (fun l6 h => K (l6) h)) (l6) h
def n_X10_settle_0 (l0 : Option Nat) (l1 : Option Nat) (l2 : Int32) (l3 : Int32) (l4 : Int32) (h : Hp) (Q : Int32 → Hp → Prop) : Prop :=
  gI h l0 11 1292 fun v1 =>
  gR h l0 11 1280 fun v2 =>
  nwO h 6 11 fun v3 h =>
  oN v3 <| w_X5_init v3 v1 l1 l2 l3 l4 h <| fun h =>
  stR h v2 v1 v3 fun h =>
  gI h l0 11 1292 fun v5 =>
  pI h l0 11 1292 (v5 + 1) fun h =>
  gI h l1 6 647 fun v6 =>
  pI h l1 6 647 (v6 + 1) fun h =>
  l_X10_settle_50 l4 v1 l1 h Q
def w_X10_settle (l0 : Option Nat) (l1 : Option Nat) (l2 : Int32) (l3 : Int32) (l4 : Int32) (h : Hp) (Q : Int32 → Hp → Prop) : Prop := n_X10_settle_0 l0 l1 l2 l3 l4 h Q
theorem sb_X10_settle_50 {l : Launch} {G : Gh} {l4 : Int32} {l5 : Int32} {l6 : Option Nat} {h : Hp} {Q : Int32 → Hp → Prop} {K50 : Option Nat → Hp → Prop} (hK50 : ∀ (l6 : Option Nat) (h : Hp), K50 l6 h → V l G 3 yX10_settle cX10_settle 7 (some .int) 50 [(4, .int l4), (5, .int l5), (6, va_rf l6)] [] h (qI Q)) (hw : b_X10_settle_50 l4 l5 l6 h Q K50) : V l G 3 yX10_settle cX10_settle 7 (some .int) 50 [(4, .int l4), (5, .int l5), (6, va_rf l6)] [] h (qI Q) := by
  unfold b_X10_settle_50 at hw
  refine V_aload 2 rfl dX10_settle_50 ?_
  refine V_ifnull (tgt := 77) dX10_settle_52 (by decide) hw (fun hw => ?_) (fun hw => ?_)
  · refine V_iload 1 rfl dX10_settle_77 ?_
    exact V_iret rfl dX10_settle_79 ⟨_, rfl, hw⟩
  · refine V_aload 2 rfl dX10_settle_55 ?_
    refine V_dup (rf_cat _) dX10_settle_57 ?_
    refine X_getI (c := 5) (k := 6) fa_X10_127 rfl dX10_settle_58 hw (fun v7 hw => ?_)
    refine V_iload 0 rfl dX10_settle_61 ?_
    refine V_iadd dX10_settle_63 ?_
    refine X_putI (c := 5) (k := 6) fa_X10_127 (Or.inl rfl) rfl dX10_settle_64 hw (fun h hw => ?_)
    refine V_aload 2 rfl dX10_settle_67 ?_
    refine X_getR (c := 5) (k := 2) fa_X10_117 rfl dX10_settle_69 hw (fun v8 hw => ?_)
    refine V_astore (i := 6) [(6, va_rf v8), (4, .int l4), (5, .int l5)] (by decide) rfl dX10_settle_72 ?_
    refine V_goto (tgt := 50) dX10_settle_74 (by decide) ?_
    exact V.sub [1, 2, 0] rfl (hK50 _ _ hw)
theorem s_X10_settle_50 {l : Launch} {G : Gh} {l4 : Int32} {l5 : Int32} {l6 : Option Nat} {h : Hp} {Q : Int32 → Hp → Prop}  (hw : l_X10_settle_50 l4 l5 l6 h Q) : V l G 3 yX10_settle cX10_settle 7 (some .int) 50 [(4, .int l4), (5, .int l5), (6, va_rf l6)] [] h (qI Q) :=
  Lo.ind (P := fun (s : Option Nat) h => V l G 3 yX10_settle cX10_settle 7 (some .int) 50 [(4, .int l4), (5, .int l5), (6, va_rf s)] [] h (qI Q)) (fun K ih s h hw => sb_X10_settle_50 (fun l6 h hk => ih (l6) h hk) hw) hw
theorem s_X10_settle_0 {l : Launch} {G : Gh} {l0 : Option Nat} {l1 : Option Nat} {l2 : Int32} {l3 : Int32} {l4 : Int32} {h : Hp} {Q : Int32 → Hp → Prop}  (hw : n_X10_settle_0 l0 l1 l2 l3 l4 h Q) : V l G 3 yX10_settle cX10_settle 7 (some .int) 0 [(0, va_rf l0), (1, va_rf l1), (2, .int l2), (3, .int l3), (4, .int l4)] [] h (qI Q) := by
  unfold n_X10_settle_0 at hw
  refine V_aload_n 0 rfl rfl dX10_settle_0 ?_
  refine X_getI (c := 10) (k := 12) fa_X10_88 rfl dX10_settle_1 hw (fun v1 hw => ?_)
  refine V_istore (i := 5) [(5, .int v1), (0, va_rf l0), (1, va_rf l1), (2, .int l2), (3, .int l3), (4, .int l4)] (by decide) rfl dX10_settle_4 ?_
  refine V_aload_n 1 rfl rfl dX10_settle_6 ?_
  refine X_getR (c := 10) (k := 0) fa_X10_11 rfl dX10_settle_7 hw (fun v2 hw => ?_)
  refine V_iload 0 rfl dX10_settle_10 ?_
  refine X_newO (c := 5) nc_X10_9 dX10_settle_12 hw (fun v3 h hw => ?_)
  refine V_dup (rf_cat _) dX10_settle_15 ?_
  refine V_iload 0 rfl dX10_settle_16 ?_
  refine V_aload_n 2 rfl rfl dX10_settle_18 ?_
  refine V_iload_n 3 rfl rfl dX10_settle_19 ?_
  refine V_iload_n 4 rfl rfl dX10_settle_20 ?_
  refine V_iload 5 rfl dX10_settle_21 ?_
  refine X_cI [.int v1, va_rf l1, .int l2, .int l3, .int l4] [va_rf v3, .int v1, va_rf v2] ma_X10_85 (by decide) (by decide) rfl (by simp [cat_i, cat_l, rf_cat]) rfl dX10_settle_23 hw (r_X5_init _ _ _ _ _ _) (k_V (fun h hw => ?_))
  refine X_stR dX10_settle_26 hw (fun h hw => ?_)
  refine V_aload_n 1 rfl rfl dX10_settle_27 ?_
  refine V_dup (rf_cat _) dX10_settle_28 ?_
  refine X_getI (c := 10) (k := 12) fa_X10_88 rfl dX10_settle_29 hw (fun v5 hw => ?_)
  refine V_iconst (v := 1) (by decide) dX10_settle_32 ?_
  refine V_iadd dX10_settle_33 ?_
  refine X_putI (c := 10) (k := 12) fa_X10_88 (Or.inl rfl) rfl dX10_settle_34 hw (fun h hw => ?_)
  refine V_aload_n 2 rfl rfl dX10_settle_37 ?_
  refine V_dup (rf_cat _) dX10_settle_38 ?_
  refine X_getI (c := 5) (k := 7) fa_X10_150 rfl dX10_settle_39 hw (fun v6 hw => ?_)
  refine V_iconst (v := 1) (by decide) dX10_settle_42 ?_
  refine V_iadd dX10_settle_43 ?_
  refine X_putI (c := 5) (k := 7) fa_X10_150 (Or.inl rfl) rfl dX10_settle_44 hw (fun h hw => ?_)
  refine V_aload_n 2 rfl rfl dX10_settle_47 ?_
  refine V_astore (i := 6) [(6, va_rf l1), (5, .int v1), (0, va_rf l0), (1, va_rf l1), (2, .int l2), (3, .int l3), (4, .int l4)] (by decide) rfl dX10_settle_48 ?_
  exact V.sub [6, 1, 0] rfl (s_X10_settle_50 hw)
theorem r_X10_settle {l : Launch} {G : Gh} (l0 : Option Nat) (l1 : Option Nat) (l2 : Int32) (l3 : Int32) (l4 : Int32) {h : Hp} {Q : Int32 → Hp → Prop} (hw : w_X10_settle l0 l1 l2 l3 l4 h Q) : RunQ l G 3 yX10_settle cX10_settle 7 (some .int) [va_rf l0, va_rf l1, .int l2, .int l3, .int l4] h (qI Q) :=
  V_run rfl (sl_len _ _ (by simp [cat_i, cat_l, rf_cat])) (V.sub [0, 1, 2, 3, 4] (by simp only [la_r, la_i, la_l, la_n]; rfl) (s_X10_settle_0 hw))
def n_X10_parish_70 (l0 : Option Nat) (h : Hp) (Q : Int32 → Hp → Prop) : Prop :=
  oV h l0 11 <| w_X10_refuse l0 (-6) h <| fun v4 h =>
  Q v4 h
def n_X10_parish_54 (l0 : Option Nat) (l2 : Int32) (l3 : Int32) (l4 : Int32) (l5 : Option Nat) (s0 : Int32) (h : Hp) (Q : Int32 → Hp → Prop) : Prop :=
  br (s0 = 0) (
    n_X10_parish_70 l0 h Q) (
    gI h l5 6 641 fun v5 =>
    br (v5 = 1) (
      gI h l0 11 1292 fun v6 =>
      br (v6 < 24) (
        oV h l0 11 <| w_X10_settle l0 l5 l2 l3 l4 h <| fun v7 h =>
        Q v7 h) (
        oV h l0 11 <| w_X10_refuse l0 (-7) h <| fun v8 h =>
        Q v8 h)) (
      n_X10_parish_70 l0 h Q))
def n_X10_parish_53 (l0 : Option Nat) (l2 : Int32) (l3 : Int32) (l4 : Int32) (l5 : Option Nat) (h : Hp) (Q : Int32 → Hp → Prop) : Prop :=
  n_X10_parish_54 l0 l2 l3 l4 l5 0 h Q
def n_X10_parish_0 (l0 : Option Nat) (l1 : Int32) (l2 : Int32) (l3 : Int32) (l4 : Int32) (h : Hp) (Q : Int32 → Hp → Prop) : Prop :=
  oV h l0 11 <| w_X10_placeAt l0 l1 h <| fun v1 h =>
  br (v1 = none) (
    oV h l0 11 <| w_X10_refuse l0 (-1) h <| fun v2 h =>
    Q v2 h) (
    w_X10_isIn l2 0 99 h <| fun v3 h =>
    br (v3 = 0) (
      n_X10_parish_53 l0 l2 l3 l4 v1 h Q) (
      w_X10_isIn l3 0 2 h <| fun v9 h =>
      br (v9 = 0) (
        n_X10_parish_53 l0 l2 l3 l4 v1 h Q) (
        w_X10_isIn l4 1 999 h <| fun v10 h =>
        br (v10 = 0) (
          n_X10_parish_53 l0 l2 l3 l4 v1 h Q) (
          n_X10_parish_54 l0 l2 l3 l4 v1 1 h Q))))
def w_X10_parish (l0 : Option Nat) (l1 : Int32) (l2 : Int32) (l3 : Int32) (l4 : Int32) (h : Hp) (Q : Int32 → Hp → Prop) : Prop := n_X10_parish_0 l0 l1 l2 l3 l4 h Q
theorem s_X10_parish_70 {l : Launch} {G : Gh} {l0 : Option Nat} {h : Hp} {Q : Int32 → Hp → Prop}  (hw : n_X10_parish_70 l0 h Q) : V l G 4 yX10_parish cX10_parish 7 (some .int) 70 [(0, va_rf l0)] [] h (qI Q) := by
  unfold n_X10_parish_70 at hw
  refine V_aload_n 0 rfl rfl dX10_parish_70 ?_
  refine V_bipush (v := (-6)) (by decide) dX10_parish_71 ?_
  refine X_cV 10 [.int (-6)] [] ma_X10_95 (by decide) rfl (by decide) (by decide) rfl (by simp [cat_i, cat_l, rf_cat]) rfl dX10_parish_73 hw (r_X10_refuse _ _) (k_I (fun v4 h hw => ?_))
  exact V_iret rfl dX10_parish_76 ⟨_, rfl, hw⟩
theorem s_X10_parish_54 {l : Launch} {G : Gh} {l0 : Option Nat} {l2 : Int32} {l3 : Int32} {l4 : Int32} {l5 : Option Nat} {s0 : Int32} {h : Hp} {Q : Int32 → Hp → Prop}  (hw : n_X10_parish_54 l0 l2 l3 l4 l5 s0 h Q) : V l G 4 yX10_parish cX10_parish 7 (some .int) 54 [(0, va_rf l0), (2, .int l2), (3, .int l3), (4, .int l4), (5, va_rf l5)] [.int s0] h (qI Q) := by
  unfold n_X10_parish_54 at hw
  refine V_istore (i := 6) [(6, .int s0), (0, va_rf l0), (2, .int l2), (3, .int l3), (4, .int l4), (5, va_rf l5)] (by decide) (by simp [List.filter_cons, rf_cat, cat_i, cat_l]) dX10_parish_54 ?_
  refine V_iload 0 rfl dX10_parish_56 ?_
  refine V_if_eq (tgt := 70) dX10_parish_58 (by decide) hw (fun hw => ?_) (fun hw => ?_)
  · exact V.sub [1] rfl (s_X10_parish_70 hw)
  · refine V_aload 5 rfl dX10_parish_61 ?_
    refine X_getI (c := 5) (k := 1) fa_X10_103 rfl dX10_parish_63 hw (fun v5 hw => ?_)
    refine V_iconst (v := 1) (by decide) dX10_parish_66 ?_
    refine V_icmp_eq (tgt := 77) dX10_parish_67 (by decide) hw (fun hw => ?_) (fun hw => ?_)
    · refine V_aload_n 1 rfl rfl dX10_parish_77 ?_
      refine X_getI (c := 10) (k := 12) fa_X10_88 rfl dX10_parish_78 hw (fun v6 hw => ?_)
      refine V_bipush (v := 24) (by decide) dX10_parish_81 ?_
      refine V_icmp_lt (tgt := 93) dX10_parish_83 (by decide) hw (fun hw => ?_) (fun hw => ?_)
      · refine V_aload_n 1 rfl rfl dX10_parish_93 ?_
        refine V_aload 5 rfl dX10_parish_94 ?_
        refine V_iload_n 2 rfl rfl dX10_parish_96 ?_
        refine V_iload_n 3 rfl rfl dX10_parish_97 ?_
        refine V_iload 4 rfl dX10_parish_98 ?_
        refine X_cV 10 [va_rf l5, .int l2, .int l3, .int l4] [] ma_X10_106 (by decide) rfl (by decide) (by decide) rfl (by simp [cat_i, cat_l, rf_cat]) rfl dX10_parish_100 hw (r_X10_settle _ _ _ _ _) (k_I (fun v7 h hw => ?_))
        exact V_iret rfl dX10_parish_103 ⟨_, rfl, hw⟩
      · refine V_aload_n 1 rfl rfl dX10_parish_86 ?_
        refine V_bipush (v := (-7)) (by decide) dX10_parish_87 ?_
        refine X_cV 10 [.int (-7)] [] ma_X10_95 (by decide) rfl (by decide) (by decide) rfl (by simp [cat_i, cat_l, rf_cat]) rfl dX10_parish_89 hw (r_X10_refuse _ _) (k_I (fun v8 h hw => ?_))
        exact V_iret rfl dX10_parish_92 ⟨_, rfl, hw⟩
    · exact V.sub [1] rfl (s_X10_parish_70 hw)
theorem s_X10_parish_53 {l : Launch} {G : Gh} {l0 : Option Nat} {l2 : Int32} {l3 : Int32} {l4 : Int32} {l5 : Option Nat} {h : Hp} {Q : Int32 → Hp → Prop}  (hw : n_X10_parish_53 l0 l2 l3 l4 l5 h Q) : V l G 4 yX10_parish cX10_parish 7 (some .int) 53 [(0, va_rf l0), (2, .int l2), (3, .int l3), (4, .int l4), (5, va_rf l5)] [] h (qI Q) := by
  unfold n_X10_parish_53 at hw
  refine V_iconst (v := 0) (by decide) dX10_parish_53 ?_
  exact V.sub [0, 1, 2, 3, 4] rfl (s_X10_parish_54 hw)
theorem s_X10_parish_0 {l : Launch} {G : Gh} {l0 : Option Nat} {l1 : Int32} {l2 : Int32} {l3 : Int32} {l4 : Int32} {h : Hp} {Q : Int32 → Hp → Prop}  (hw : n_X10_parish_0 l0 l1 l2 l3 l4 h Q) : V l G 4 yX10_parish cX10_parish 7 (some .int) 0 [(0, va_rf l0), (1, .int l1), (2, .int l2), (3, .int l3), (4, .int l4)] [] h (qI Q) := by
  unfold n_X10_parish_0 at hw
  refine V_aload_n 0 rfl rfl dX10_parish_0 ?_
  refine V_iload_n 1 rfl rfl dX10_parish_1 ?_
  refine X_cV 10 [.int l1] [] ma_X10_91 (by decide) rfl (by decide) (by decide) rfl (by simp [cat_i, cat_l, rf_cat]) rfl dX10_parish_2 hw (r_X10_placeAt _ _) (k_R (fun v1 h hw => ?_))
  refine V_astore (i := 5) [(5, va_rf v1), (0, va_rf l0), (1, .int l1), (2, .int l2), (3, .int l3), (4, .int l4)] (by decide) rfl dX10_parish_5 ?_
  refine V_aload 0 rfl dX10_parish_7 ?_
  refine V_ifnonnull (tgt := 18) dX10_parish_9 (by decide) hw (fun hw => ?_) (fun hw => ?_)
  · refine V_aload_n 1 rfl rfl dX10_parish_12 ?_
    refine V_iconst (v := (-1)) (by decide) dX10_parish_13 ?_
    refine X_cV 10 [.int (-1)] [] ma_X10_95 (by decide) rfl (by decide) (by decide) rfl (by simp [cat_i, cat_l, rf_cat]) rfl dX10_parish_14 hw (r_X10_refuse _ _) (k_I (fun v2 h hw => ?_))
    exact V_iret rfl dX10_parish_17 ⟨_, rfl, hw⟩
  · refine V_iload_n 3 rfl rfl dX10_parish_18 ?_
    refine V_iconst (v := 0) (by decide) dX10_parish_19 ?_
    refine V_bipush (v := 99) (by decide) dX10_parish_20 ?_
    refine X_cS [.int l2, .int 0, .int 99] [] ma_X10_99 (by decide) (by decide) rfl (by simp [cat_i, cat_l, rf_cat]) rfl dX10_parish_22 (r_X10_isIn _ _ _ hw) (k_I (fun v3 h hw => ?_))
    refine V_if_eq (tgt := 53) dX10_parish_25 (by decide) hw (fun hw => ?_) (fun hw => ?_)
    · exact V.sub [1, 3, 4, 5, 0] rfl (s_X10_parish_53 hw)
    · refine V_iload_n 4 rfl rfl dX10_parish_28 ?_
      refine V_iconst (v := 0) (by decide) dX10_parish_29 ?_
      refine V_iconst (v := 2) (by decide) dX10_parish_30 ?_
      refine X_cS [.int l3, .int 0, .int 2] [] ma_X10_99 (by decide) (by decide) rfl (by simp [cat_i, cat_l, rf_cat]) rfl dX10_parish_31 (r_X10_isIn _ _ _ hw) (k_I (fun v9 h hw => ?_))
      refine V_if_eq (tgt := 53) dX10_parish_34 (by decide) hw (fun hw => ?_) (fun hw => ?_)
      · exact V.sub [1, 3, 4, 5, 0] rfl (s_X10_parish_53 hw)
      · refine V_iload 5 rfl dX10_parish_37 ?_
        refine V_iconst (v := 1) (by decide) dX10_parish_39 ?_
        refine V_sipush (v := 999) (by decide) dX10_parish_40 ?_
        refine X_cS [.int l4, .int 1, .int 999] [] ma_X10_99 (by decide) (by decide) rfl (by simp [cat_i, cat_l, rf_cat]) rfl dX10_parish_43 (r_X10_isIn _ _ _ hw) (k_I (fun v10 h hw => ?_))
        refine V_if_eq (tgt := 53) dX10_parish_46 (by decide) hw (fun hw => ?_) (fun hw => ?_)
        · exact V.sub [1, 3, 4, 5, 0] rfl (s_X10_parish_53 hw)
        · refine V_iconst (v := 1) (by decide) dX10_parish_49 ?_
          refine V_goto (tgt := 54) dX10_parish_50 (by decide) ?_
          exact V.sub [1, 3, 4, 5, 0] rfl (s_X10_parish_54 hw)
theorem r_X10_parish {l : Launch} {G : Gh} (l0 : Option Nat) (l1 : Int32) (l2 : Int32) (l3 : Int32) (l4 : Int32) {h : Hp} {Q : Int32 → Hp → Prop} (hw : w_X10_parish l0 l1 l2 l3 l4 h Q) : RunQ l G 4 yX10_parish cX10_parish 7 (some .int) [va_rf l0, .int l1, .int l2, .int l3, .int l4] h (qI Q) :=
  V_run rfl (sl_len _ _ (by simp [cat_i, cat_l, rf_cat])) (V.sub [0, 1, 2, 3, 4] (by simp only [la_r, la_i, la_l, la_n]; rfl) (s_X10_parish_0 hw))
def n_X10_part_32 (h : Hp) (Q : Int32 → Hp → Prop) : Prop :=
  Q (-1) h
def n_X10_part_0 (l0 : Option Nat) (l1 : Int32) (l2 : Int32) (h : Hp) (Q : Int32 → Hp → Prop) : Prop :=
  oV h l0 11 <| w_X10_askAt l0 l1 h <| fun v1 h =>
  br (v1 = none) (
    n_X10_part_32 h Q) (
    gR h v1 1 9 fun v2 =>
    br (v2 = none) (
      n_X10_part_32 h Q) (
      gR h v1 1 9 fun v3 =>
      alN h v3 fun v4 =>
      w_X10_isIn l2 0 (v4 - 1) h <| fun v5 h =>
      br (v5 = 0) (
        n_X10_part_32 h Q) (
        gR h v1 1 9 fun v6 =>
        ldR h v6 l2 fun v7 =>
        gI h v7 1 0 fun v8 =>
        Q v8 h)))
def w_X10_part (l0 : Option Nat) (l1 : Int32) (l2 : Int32) (h : Hp) (Q : Int32 → Hp → Prop) : Prop := n_X10_part_0 l0 l1 l2 h Q
theorem s_X10_part_32 {l : Launch} {G : Gh}  {h : Hp} {Q : Int32 → Hp → Prop}  (hw : n_X10_part_32 h Q) : V l G 3 yX10_part cX10_part 4 (some .int) 32 [] [] h (qI Q) := by
  unfold n_X10_part_32 at hw
  refine V_iconst (v := (-1)) (by decide) dX10_part_32 ?_
  exact V_iret rfl dX10_part_33 ⟨_, rfl, hw⟩
theorem s_X10_part_0 {l : Launch} {G : Gh} {l0 : Option Nat} {l1 : Int32} {l2 : Int32} {h : Hp} {Q : Int32 → Hp → Prop}  (hw : n_X10_part_0 l0 l1 l2 h Q) : V l G 3 yX10_part cX10_part 4 (some .int) 0 [(0, va_rf l0), (1, .int l1), (2, .int l2)] [] h (qI Q) := by
  unfold n_X10_part_0 at hw
  refine V_aload_n 0 rfl rfl dX10_part_0 ?_
  refine V_iload_n 1 rfl rfl dX10_part_1 ?_
  refine X_cV 10 [.int l1] [] ma_X10_196 (by decide) rfl (by decide) (by decide) rfl (by simp [cat_i, cat_l, rf_cat]) rfl dX10_part_2 hw (r_X10_askAt _ _) (k_R (fun v1 h hw => ?_))
  refine V_astore_n (i := 3) [(3, va_rf v1), (0, va_rf l0), (1, .int l1), (2, .int l2)] rfl (by decide) rfl dX10_part_5 ?_
  refine V_aload_n 0 rfl rfl dX10_part_6 ?_
  refine V_ifnull (tgt := 32) dX10_part_7 (by decide) hw (fun hw => ?_) (fun hw => ?_)
  · exact V.sub [] rfl (s_X10_part_32 hw)
  · refine V_aload_n 0 rfl rfl dX10_part_10 ?_
    refine X_getR (c := 0) (k := 9) fa_X10_325 rfl dX10_part_11 hw (fun v2 hw => ?_)
    refine V_ifnull (tgt := 32) dX10_part_14 (by decide) hw (fun hw => ?_) (fun hw => ?_)
    · exact V.sub [] rfl (s_X10_part_32 hw)
    · refine V_iload_n 3 rfl rfl dX10_part_17 ?_
      refine V_iconst (v := 0) (by decide) dX10_part_18 ?_
      refine V_aload_n 0 rfl rfl dX10_part_19 ?_
      refine X_getR (c := 0) (k := 9) fa_X10_325 rfl dX10_part_20 hw (fun v3 hw => ?_)
      refine X_alen dX10_part_23 hw (fun v4 hw => ?_)
      refine V_iconst (v := 1) (by decide) dX10_part_24 ?_
      refine V_isub dX10_part_25 ?_
      refine X_cS [.int l2, .int 0, .int (v4 - 1)] [] ma_X10_99 (by decide) (by decide) rfl (by simp [cat_i, cat_l, rf_cat]) rfl dX10_part_26 (r_X10_isIn _ _ _ hw) (k_I (fun v5 h hw => ?_))
      refine V_if_ne (tgt := 34) dX10_part_29 (by decide) hw (fun hw => ?_) (fun hw => ?_)
      · exact V.sub [] rfl (s_X10_part_32 hw)
      · refine V_aload_n 0 rfl rfl dX10_part_34 ?_
        refine X_getR (c := 0) (k := 9) fa_X10_325 rfl dX10_part_35 hw (fun v6 hw => ?_)
        refine V_iload_n 3 rfl rfl dX10_part_38 ?_
        refine X_ldR dX10_part_39 hw (fun v7 hw => ?_)
        refine X_getI (c := 0) (k := 0) fa_X10_204 rfl dX10_part_40 hw (fun v8 hw => ?_)
        exact V_iret rfl dX10_part_43 ⟨_, rfl, hw⟩
theorem r_X10_part {l : Launch} {G : Gh} (l0 : Option Nat) (l1 : Int32) (l2 : Int32) {h : Hp} {Q : Int32 → Hp → Prop} (hw : w_X10_part l0 l1 l2 h Q) : RunQ l G 3 yX10_part cX10_part 4 (some .int) [va_rf l0, .int l1, .int l2] h (qI Q) :=
  V_run rfl (sl_len _ _ (by simp [cat_i, cat_l, rf_cat])) (V.sub [0, 1, 2] (by simp only [la_r, la_i, la_l, la_n]; rfl) (s_X10_part_0 hw))
def n_X10_path_32 (s0 : Int32) (h : Hp) (Q : Int32 → Hp → Prop) : Prop :=
  Q s0 h
def n_X10_path_22 (h : Hp) (Q : Int32 → Hp → Prop) : Prop :=
  n_X10_path_32 (-1) h Q
def n_X10_path_0 (l0 : Option Nat) (l1 : Int32) (l2 : Int32) (h : Hp) (Q : Int32 → Hp → Prop) : Prop :=
  oV h l0 11 <| w_X10_placeAt l0 l1 h <| fun v1 h =>
  oV h l0 11 <| w_X10_placeAt l0 l2 h <| fun v2 h =>
  br (v1 = none) (
    n_X10_path_22 h Q) (
    br (v2 = none) (
      n_X10_path_22 h Q) (
      w_X10_wayBetween v1 v2 h <| fun v3 h =>
      n_X10_path_32 v3 h Q))
def w_X10_path (l0 : Option Nat) (l1 : Int32) (l2 : Int32) (h : Hp) (Q : Int32 → Hp → Prop) : Prop := n_X10_path_0 l0 l1 l2 h Q
theorem s_X10_path_32 {l : Launch} {G : Gh} {s0 : Int32} {h : Hp} {Q : Int32 → Hp → Prop}  (hw : n_X10_path_32 s0 h Q) : V l G 3 yX10_path cX10_path 5 (some .int) 32 [] [.int s0] h (qI Q) := by
  unfold n_X10_path_32 at hw
  exact V_iret rfl dX10_path_32 ⟨_, rfl, hw⟩
theorem s_X10_path_22 {l : Launch} {G : Gh}  {h : Hp} {Q : Int32 → Hp → Prop}  (hw : n_X10_path_22 h Q) : V l G 3 yX10_path cX10_path 5 (some .int) 22 [] [] h (qI Q) := by
  unfold n_X10_path_22 at hw
  refine V_iconst (v := (-1)) (by decide) dX10_path_22 ?_
  refine V_goto (tgt := 32) dX10_path_23 (by decide) ?_
  exact V.sub [] rfl (s_X10_path_32 hw)
theorem s_X10_path_0 {l : Launch} {G : Gh} {l0 : Option Nat} {l1 : Int32} {l2 : Int32} {h : Hp} {Q : Int32 → Hp → Prop}  (hw : n_X10_path_0 l0 l1 l2 h Q) : V l G 3 yX10_path cX10_path 5 (some .int) 0 [(0, va_rf l0), (1, .int l1), (2, .int l2)] [] h (qI Q) := by
  unfold n_X10_path_0 at hw
  refine V_aload_n 0 rfl rfl dX10_path_0 ?_
  refine V_iload_n 1 rfl rfl dX10_path_1 ?_
  refine X_cV 10 [.int l1] [] ma_X10_91 (by decide) rfl (by decide) (by decide) rfl (by simp [cat_i, cat_l, rf_cat]) rfl dX10_path_2 hw (r_X10_placeAt _ _) (k_R (fun v1 h hw => ?_))
  refine V_astore_n (i := 3) [(3, va_rf v1), (0, va_rf l0), (1, .int l1), (2, .int l2)] rfl (by decide) rfl dX10_path_5 ?_
  refine V_aload_n 1 rfl rfl dX10_path_6 ?_
  refine V_iload_n 3 rfl rfl dX10_path_7 ?_
  refine X_cV 10 [.int l2] [] ma_X10_91 (by decide) rfl (by decide) (by decide) rfl (by simp [cat_i, cat_l, rf_cat]) rfl dX10_path_8 hw (r_X10_placeAt _ _) (k_R (fun v2 h hw => ?_))
  refine V_astore (i := 4) [(4, va_rf v2), (3, va_rf v1), (0, va_rf l0), (1, .int l1), (2, .int l2)] (by decide) (by simp [List.filter_cons, rf_cat, cat_i, cat_l]) dX10_path_11 ?_
  refine V_aload_n 1 rfl rfl dX10_path_13 ?_
  refine V_ifnull (tgt := 22) dX10_path_14 (by decide) hw (fun hw => ?_) (fun hw => ?_)
  · exact V.sub [] rfl (s_X10_path_22 hw)
  · refine V_aload 0 rfl dX10_path_17 ?_
    refine V_ifnonnull (tgt := 26) dX10_path_19 (by decide) hw (fun hw => ?_) (fun hw => ?_)
    · exact V.sub [] rfl (s_X10_path_22 hw)
    · refine V_aload_n 1 rfl rfl dX10_path_26 ?_
      refine V_aload 0 rfl dX10_path_27 ?_
      refine X_cS [va_rf v1, va_rf v2] [] ma_X10_110 (by decide) (by decide) rfl (by simp [cat_i, cat_l, rf_cat]) rfl dX10_path_29 (r_X10_wayBetween _ _ hw) (k_I (fun v3 h hw => ?_))
      exact V.sub [] rfl (s_X10_path_32 hw)
theorem r_X10_path {l : Launch} {G : Gh} (l0 : Option Nat) (l1 : Int32) (l2 : Int32) {h : Hp} {Q : Int32 → Hp → Prop} (hw : w_X10_path l0 l1 l2 h Q) : RunQ l G 3 yX10_path cX10_path 5 (some .int) [va_rf l0, .int l1, .int l2] h (qI Q) :=
  V_run rfl (sl_len _ _ (by simp [cat_i, cat_l, rf_cat])) (V.sub [0, 1, 2] (by simp only [la_r, la_i, la_l, la_n]; rfl) (s_X10_path_0 hw))
def n_X4_init_0 (l0 : Option Nat) (l1 : Int32) (l2 : Option Nat) (l3 : Int32) (h : Hp) (Q : Hp → Prop) : Prop :=
  oN l0 <|
  pI h l0 5 512 l1 fun h =>
  pR h l0 5 513 l2 fun h =>
  pI h l0 5 514 l3 fun h =>
  Q h
def w_X4_init (l0 : Option Nat) (l1 : Int32) (l2 : Option Nat) (l3 : Int32) (h : Hp) (Q : Hp → Prop) : Prop := n_X4_init_0 l0 l1 l2 l3 h Q
theorem s_X4_init_0 {l : Launch} {G : Gh} {l0 : Option Nat} {l1 : Int32} {l2 : Option Nat} {l3 : Int32} {h : Hp} {Q : Hp → Prop}  (hw : n_X4_init_0 l0 l1 l2 l3 h Q) : V l G 2 yX4_init cX4_init 4 none 0 [(0, va_rf l0), (1, .int l1), (2, va_rf l2), (3, .int l3)] [] h (qV Q) := by
  unfold n_X4_init_0 at hw
  refine V_aload_n 0 rfl rfl dX4_init_0 ?_
  refine X_obj oi_X4_1 (by decide) (by simp [cat_i, cat_l, rf_cat]) dX4_init_1 hw (fun hw => ?_)
  refine V_aload_n 0 rfl rfl dX4_init_4 ?_
  refine V_iload_n 1 rfl rfl dX4_init_5 ?_
  refine X_putI (c := 4) (k := 0) fa_X4_7 (Or.inr ⟨rfl, rfl, rfl, po_X4_7⟩) rfl dX4_init_6 hw (fun h hw => ?_)
  refine V_aload_n 0 rfl rfl dX4_init_9 ?_
  refine V_aload_n 2 rfl rfl dX4_init_10 ?_
  refine X_putR (c := 4) (k := 1) fa_X4_13 (Or.inr ⟨rfl, rfl, rfl, po_X4_13⟩) (Or.inl ⟨_, rfl⟩) dX4_init_11 hw (fun h hw => ?_)
  refine V_aload_n 0 rfl rfl dX4_init_14 ?_
  refine V_iload_n 3 rfl rfl dX4_init_15 ?_
  refine X_putI (c := 4) (k := 2) fa_X4_17 (Or.inr ⟨rfl, rfl, rfl, po_X4_17⟩) rfl dX4_init_16 hw (fun h hw => ?_)
  exact V_vret rfl dX4_init_19 ⟨rfl, hw⟩
theorem r_X4_init {l : Launch} {G : Gh} (l0 : Option Nat) (l1 : Int32) (l2 : Option Nat) (l3 : Int32) {h : Hp} {Q : Hp → Prop} (hw : w_X4_init l0 l1 l2 l3 h Q) : RunQ l G 2 yX4_init cX4_init 4 none [va_rf l0, .int l1, va_rf l2, .int l3] h (qV Q) :=
  V_run rfl (sl_len _ _ (by simp [cat_i, cat_l, rf_cat])) (V.sub [0, 1, 2, 3] (by simp only [la_r, la_i, la_l, la_n]; rfl) (s_X4_init_0 hw))
def n_X10_person_34 (l0 : Option Nat) (h : Hp) (Q : Int32 → Hp → Prop) : Prop :=
  oV h l0 11 <| w_X10_refuse l0 (-6) h <| fun v5 h =>
  Q v5 h
def n_X10_person_0 (l0 : Option Nat) (l1 : Int32) (l2 : Int32) (h : Hp) (Q : Int32 → Hp → Prop) : Prop :=
  oV h l0 11 <| w_X10_placeAt l0 l1 h <| fun v1 h =>
  br (v1 = none) (
    oV h l0 11 <| w_X10_refuse l0 (-1) h <| fun v2 h =>
    Q v2 h) (
    gI h v1 6 641 fun v3 =>
    br (v3 = 0) (
      w_X10_isIn l2 0 9999 h <| fun v4 h =>
      br (v4 = 0) (
        n_X10_person_34 l0 h Q) (
        gI h l0 11 1296 fun v6 =>
        br (v6 < 20) (
          gI h l0 11 1296 fun v7 =>
          gR h l0 11 1285 fun v8 =>
          nwO h 5 3 fun v9 h =>
          oN v9 <| w_X4_init v9 v7 v1 l2 h <| fun h =>
          stR h v8 v7 v9 fun h =>
          gI h l0 11 1296 fun v11 =>
          pI h l0 11 1296 (v11 + 1) fun h =>
          Q v7 h) (
          oV h l0 11 <| w_X10_refuse l0 (-7) h <| fun v12 h =>
          Q v12 h))) (
      n_X10_person_34 l0 h Q))
def w_X10_person (l0 : Option Nat) (l1 : Int32) (l2 : Int32) (h : Hp) (Q : Int32 → Hp → Prop) : Prop := n_X10_person_0 l0 l1 l2 h Q
theorem s_X10_person_34 {l : Launch} {G : Gh} {l0 : Option Nat} {h : Hp} {Q : Int32 → Hp → Prop}  (hw : n_X10_person_34 l0 h Q) : V l G 3 yX10_person cX10_person 5 (some .int) 34 [(0, va_rf l0)] [] h (qI Q) := by
  unfold n_X10_person_34 at hw
  refine V_aload_n 0 rfl rfl dX10_person_34 ?_
  refine V_bipush (v := (-6)) (by decide) dX10_person_35 ?_
  refine X_cV 10 [.int (-6)] [] ma_X10_95 (by decide) rfl (by decide) (by decide) rfl (by simp [cat_i, cat_l, rf_cat]) rfl dX10_person_37 hw (r_X10_refuse _ _) (k_I (fun v5 h hw => ?_))
  exact V_iret rfl dX10_person_40 ⟨_, rfl, hw⟩
set_option maxRecDepth 20000 in
theorem s_X10_person_0 {l : Launch} {G : Gh} {l0 : Option Nat} {l1 : Int32} {l2 : Int32} {h : Hp} {Q : Int32 → Hp → Prop}  (hw : n_X10_person_0 l0 l1 l2 h Q) : V l G 3 yX10_person cX10_person 5 (some .int) 0 [(0, va_rf l0), (1, .int l1), (2, .int l2)] [] h (qI Q) := by
  unfold n_X10_person_0 at hw
  refine V_aload_n 0 rfl rfl dX10_person_0 ?_
  refine V_iload_n 1 rfl rfl dX10_person_1 ?_
  refine X_cV 10 [.int l1] [] ma_X10_91 (by decide) rfl (by decide) (by decide) rfl (by simp [cat_i, cat_l, rf_cat]) rfl dX10_person_2 hw (r_X10_placeAt _ _) (k_R (fun v1 h hw => ?_))
  refine V_astore_n (i := 3) [(3, va_rf v1), (0, va_rf l0), (1, .int l1), (2, .int l2)] rfl (by decide) rfl dX10_person_5 ?_
  refine V_aload_n 0 rfl rfl dX10_person_6 ?_
  refine V_ifnonnull (tgt := 16) dX10_person_7 (by decide) hw (fun hw => ?_) (fun hw => ?_)
  · refine V_aload_n 1 rfl rfl dX10_person_10 ?_
    refine V_iconst (v := (-1)) (by decide) dX10_person_11 ?_
    refine X_cV 10 [.int (-1)] [] ma_X10_95 (by decide) rfl (by decide) (by decide) rfl (by simp [cat_i, cat_l, rf_cat]) rfl dX10_person_12 hw (r_X10_refuse _ _) (k_I (fun v2 h hw => ?_))
    exact V_iret rfl dX10_person_15 ⟨_, rfl, hw⟩
  · refine V_aload_n 0 rfl rfl dX10_person_16 ?_
    refine X_getI (c := 5) (k := 1) fa_X10_103 rfl dX10_person_17 hw (fun v3 hw => ?_)
    refine V_if_ne (tgt := 34) dX10_person_20 (by decide) hw (fun hw => ?_) (fun hw => ?_)
    · refine V_iload_n 3 rfl rfl dX10_person_23 ?_
      refine V_iconst (v := 0) (by decide) dX10_person_24 ?_
      refine V_sipush (v := 9999) (by decide) dX10_person_25 ?_
      refine X_cS [.int l2, .int 0, .int 9999] [] ma_X10_99 (by decide) (by decide) rfl (by simp [cat_i, cat_l, rf_cat]) rfl dX10_person_28 (r_X10_isIn _ _ _ hw) (k_I (fun v4 h hw => ?_))
      refine V_if_ne (tgt := 41) dX10_person_31 (by decide) hw (fun hw => ?_) (fun hw => ?_)
      · exact V.sub [1] rfl (s_X10_person_34 hw)
      · refine V_aload_n 1 rfl rfl dX10_person_41 ?_
        refine X_getI (c := 10) (k := 16) fa_X10_450 rfl dX10_person_42 hw (fun v6 hw => ?_)
        refine V_bipush (v := 20) (by decide) dX10_person_45 ?_
        refine V_icmp_lt (tgt := 57) dX10_person_47 (by decide) hw (fun hw => ?_) (fun hw => ?_)
        · refine V_aload_n 1 rfl rfl dX10_person_57 ?_
          refine X_getI (c := 10) (k := 16) fa_X10_450 rfl dX10_person_58 hw (fun v7 hw => ?_)
          refine V_istore (i := 4) [(4, .int v7), (3, va_rf v1), (0, va_rf l0), (1, .int l1), (2, .int l2)] (by decide) (by simp [List.filter_cons, rf_cat, cat_i, cat_l]) dX10_person_61 ?_
          refine V_aload_n 2 rfl rfl dX10_person_63 ?_
          refine X_getR (c := 10) (k := 5) fa_X10_41 rfl dX10_person_64 hw (fun v8 hw => ?_)
          refine V_iload 0 rfl dX10_person_67 ?_
          refine X_newO (c := 4) nc_X10_39 dX10_person_69 hw (fun v9 h hw => ?_)
          refine V_dup (rf_cat _) dX10_person_72 ?_
          refine V_iload 0 rfl dX10_person_73 ?_
          refine V_aload_n 1 rfl rfl dX10_person_75 ?_
          refine V_iload_n 4 rfl rfl dX10_person_76 ?_
          refine X_cI [.int v7, va_rf v1, .int l2] [va_rf v9, .int v7, va_rf v8] ma_X10_453 (by decide) (by decide) rfl (by simp [cat_i, cat_l, rf_cat]) rfl dX10_person_77 hw (r_X4_init _ _ _ _) (k_V (fun h hw => ?_))
          refine X_stR dX10_person_80 hw (fun h hw => ?_)
          refine V_aload_n 2 rfl rfl dX10_person_81 ?_
          refine V_dup (rf_cat _) dX10_person_82 ?_
          refine X_getI (c := 10) (k := 16) fa_X10_450 rfl dX10_person_83 hw (fun v11 hw => ?_)
          refine V_iconst (v := 1) (by decide) dX10_person_86 ?_
          refine V_iadd dX10_person_87 ?_
          refine X_putI (c := 10) (k := 16) fa_X10_450 (Or.inl rfl) rfl dX10_person_88 hw (fun h hw => ?_)
          refine V_iload 0 rfl dX10_person_91 ?_
          exact V_iret rfl dX10_person_93 ⟨_, rfl, hw⟩
        · refine V_aload_n 1 rfl rfl dX10_person_50 ?_
          refine V_bipush (v := (-7)) (by decide) dX10_person_51 ?_
          refine X_cV 10 [.int (-7)] [] ma_X10_95 (by decide) rfl (by decide) (by decide) rfl (by simp [cat_i, cat_l, rf_cat]) rfl dX10_person_53 hw (r_X10_refuse _ _) (k_I (fun v12 h hw => ?_))
          exact V_iret rfl dX10_person_56 ⟨_, rfl, hw⟩
    · exact V.sub [1] rfl (s_X10_person_34 hw)
theorem r_X10_person {l : Launch} {G : Gh} (l0 : Option Nat) (l1 : Int32) (l2 : Int32) {h : Hp} {Q : Int32 → Hp → Prop} (hw : w_X10_person l0 l1 l2 h Q) : RunQ l G 3 yX10_person cX10_person 5 (some .int) [va_rf l0, .int l1, .int l2] h (qI Q) :=
  V_run rfl (sl_len _ _ (by simp [cat_i, cat_l, rf_cat])) (V.sub [0, 1, 2] (by simp only [la_r, la_i, la_l, la_n]; rfl) (s_X10_person_0 hw))
def n_X10_place_34 (l0 : Option Nat) (h : Hp) (Q : Int32 → Hp → Prop) : Prop :=
  oV h l0 11 <| w_X10_refuse l0 (-6) h <| fun v4 h =>
  Q v4 h
def n_X10_place_0 (l0 : Option Nat) (l1 : Int32) (l2 : Int32) (h : Hp) (Q : Int32 → Hp → Prop) : Prop :=
  oV h l0 11 <| w_X10_placeAt l0 l1 h <| fun v1 h =>
  br (v1 = none) (
    oV h l0 11 <| w_X10_refuse l0 (-1) h <| fun v2 h =>
    Q v2 h) (
    w_X10_isIn l2 0 99 h <| fun v3 h =>
    br (v3 = 0) (
      n_X10_place_34 l0 h Q) (
      gI h v1 6 641 fun v5 =>
      br (1 < v5) (
        gI h l0 11 1292 fun v6 =>
        br (v6 < 24) (
          oV h l0 11 <| w_X10_settle l0 v1 l2 (-1) 0 h <| fun v7 h =>
          Q v7 h) (
          oV h l0 11 <| w_X10_refuse l0 (-7) h <| fun v8 h =>
          Q v8 h)) (
        n_X10_place_34 l0 h Q)))
def w_X10_place (l0 : Option Nat) (l1 : Int32) (l2 : Int32) (h : Hp) (Q : Int32 → Hp → Prop) : Prop := n_X10_place_0 l0 l1 l2 h Q
theorem s_X10_place_34 {l : Launch} {G : Gh} {l0 : Option Nat} {h : Hp} {Q : Int32 → Hp → Prop}  (hw : n_X10_place_34 l0 h Q) : V l G 4 yX10_place cX10_place 4 (some .int) 34 [(0, va_rf l0)] [] h (qI Q) := by
  unfold n_X10_place_34 at hw
  refine V_aload_n 0 rfl rfl dX10_place_34 ?_
  refine V_bipush (v := (-6)) (by decide) dX10_place_35 ?_
  refine X_cV 10 [.int (-6)] [] ma_X10_95 (by decide) rfl (by decide) (by decide) rfl (by simp [cat_i, cat_l, rf_cat]) rfl dX10_place_37 hw (r_X10_refuse _ _) (k_I (fun v4 h hw => ?_))
  exact V_iret rfl dX10_place_40 ⟨_, rfl, hw⟩
theorem s_X10_place_0 {l : Launch} {G : Gh} {l0 : Option Nat} {l1 : Int32} {l2 : Int32} {h : Hp} {Q : Int32 → Hp → Prop}  (hw : n_X10_place_0 l0 l1 l2 h Q) : V l G 4 yX10_place cX10_place 4 (some .int) 0 [(0, va_rf l0), (1, .int l1), (2, .int l2)] [] h (qI Q) := by
  unfold n_X10_place_0 at hw
  refine V_aload_n 0 rfl rfl dX10_place_0 ?_
  refine V_iload_n 1 rfl rfl dX10_place_1 ?_
  refine X_cV 10 [.int l1] [] ma_X10_91 (by decide) rfl (by decide) (by decide) rfl (by simp [cat_i, cat_l, rf_cat]) rfl dX10_place_2 hw (r_X10_placeAt _ _) (k_R (fun v1 h hw => ?_))
  refine V_astore_n (i := 3) [(3, va_rf v1), (0, va_rf l0), (1, .int l1), (2, .int l2)] rfl (by decide) rfl dX10_place_5 ?_
  refine V_aload_n 0 rfl rfl dX10_place_6 ?_
  refine V_ifnonnull (tgt := 16) dX10_place_7 (by decide) hw (fun hw => ?_) (fun hw => ?_)
  · refine V_aload_n 1 rfl rfl dX10_place_10 ?_
    refine V_iconst (v := (-1)) (by decide) dX10_place_11 ?_
    refine X_cV 10 [.int (-1)] [] ma_X10_95 (by decide) rfl (by decide) (by decide) rfl (by simp [cat_i, cat_l, rf_cat]) rfl dX10_place_12 hw (r_X10_refuse _ _) (k_I (fun v2 h hw => ?_))
    exact V_iret rfl dX10_place_15 ⟨_, rfl, hw⟩
  · refine V_iload_n 3 rfl rfl dX10_place_16 ?_
    refine V_iconst (v := 0) (by decide) dX10_place_17 ?_
    refine V_bipush (v := 99) (by decide) dX10_place_18 ?_
    refine X_cS [.int l2, .int 0, .int 99] [] ma_X10_99 (by decide) (by decide) rfl (by simp [cat_i, cat_l, rf_cat]) rfl dX10_place_20 (r_X10_isIn _ _ _ hw) (k_I (fun v3 h hw => ?_))
    refine V_if_eq (tgt := 34) dX10_place_23 (by decide) hw (fun hw => ?_) (fun hw => ?_)
    · exact V.sub [1] rfl (s_X10_place_34 hw)
    · refine V_aload_n 0 rfl rfl dX10_place_26 ?_
      refine X_getI (c := 5) (k := 1) fa_X10_103 rfl dX10_place_27 hw (fun v5 hw => ?_)
      refine V_iconst (v := 1) (by decide) dX10_place_30 ?_
      refine V_icmp_gt (tgt := 41) dX10_place_31 (by decide) hw (fun hw => ?_) (fun hw => ?_)
      · refine V_aload_n 1 rfl rfl dX10_place_41 ?_
        refine X_getI (c := 10) (k := 12) fa_X10_88 rfl dX10_place_42 hw (fun v6 hw => ?_)
        refine V_bipush (v := 24) (by decide) dX10_place_45 ?_
        refine V_icmp_lt (tgt := 57) dX10_place_47 (by decide) hw (fun hw => ?_) (fun hw => ?_)
        · refine V_aload_n 1 rfl rfl dX10_place_57 ?_
          refine V_aload_n 0 rfl rfl dX10_place_58 ?_
          refine V_iload_n 3 rfl rfl dX10_place_59 ?_
          refine V_iconst (v := (-1)) (by decide) dX10_place_60 ?_
          refine V_iconst (v := 0) (by decide) dX10_place_61 ?_
          refine X_cV 10 [va_rf v1, .int l2, .int (-1), .int 0] [] ma_X10_106 (by decide) rfl (by decide) (by decide) rfl (by simp [cat_i, cat_l, rf_cat]) rfl dX10_place_62 hw (r_X10_settle _ _ _ _ _) (k_I (fun v7 h hw => ?_))
          exact V_iret rfl dX10_place_65 ⟨_, rfl, hw⟩
        · refine V_aload_n 1 rfl rfl dX10_place_50 ?_
          refine V_bipush (v := (-7)) (by decide) dX10_place_51 ?_
          refine X_cV 10 [.int (-7)] [] ma_X10_95 (by decide) rfl (by decide) (by decide) rfl (by simp [cat_i, cat_l, rf_cat]) rfl dX10_place_53 hw (r_X10_refuse _ _) (k_I (fun v8 h hw => ?_))
          exact V_iret rfl dX10_place_56 ⟨_, rfl, hw⟩
      · exact V.sub [1] rfl (s_X10_place_34 hw)
theorem r_X10_place {l : Launch} {G : Gh} (l0 : Option Nat) (l1 : Int32) (l2 : Int32) {h : Hp} {Q : Int32 → Hp → Prop} (hw : w_X10_place l0 l1 l2 h Q) : RunQ l G 4 yX10_place cX10_place 4 (some .int) [va_rf l0, .int l1, .int l2] h (qI Q) :=
  V_run rfl (sl_len _ _ (by simp [cat_i, cat_l, rf_cat])) (V.sub [0, 1, 2] (by simp only [la_r, la_i, la_l, la_n]; rfl) (s_X10_place_0 hw))
def n_X10_reaches_32 (s0 : Int32) (h : Hp) (Q : Int32 → Hp → Prop) : Prop :=
  Q s0 h
def n_X10_reaches_22 (h : Hp) (Q : Int32 → Hp → Prop) : Prop :=
  n_X10_reaches_32 (-1) h Q
def n_X10_reaches_0 (l0 : Option Nat) (l1 : Int32) (l2 : Int32) (h : Hp) (Q : Int32 → Hp → Prop) : Prop :=
  oV h l0 11 <| w_X10_modelAt l0 l1 h <| fun v1 h =>
  oV h l0 11 <| w_X10_placeAt l0 l2 h <| fun v2 h =>
  br (v1 = none) (
    n_X10_reaches_22 h Q) (
    br (v2 = none) (
      n_X10_reaches_22 h Q) (
      w_X10_dayOfReach v1 v2 h <| fun v3 h =>
      n_X10_reaches_32 v3 h Q))
def w_X10_reaches (l0 : Option Nat) (l1 : Int32) (l2 : Int32) (h : Hp) (Q : Int32 → Hp → Prop) : Prop := n_X10_reaches_0 l0 l1 l2 h Q
theorem s_X10_reaches_32 {l : Launch} {G : Gh} {s0 : Int32} {h : Hp} {Q : Int32 → Hp → Prop}  (hw : n_X10_reaches_32 s0 h Q) : V l G 3 yX10_reaches cX10_reaches 5 (some .int) 32 [] [.int s0] h (qI Q) := by
  unfold n_X10_reaches_32 at hw
  exact V_iret rfl dX10_reaches_32 ⟨_, rfl, hw⟩
theorem s_X10_reaches_22 {l : Launch} {G : Gh}  {h : Hp} {Q : Int32 → Hp → Prop}  (hw : n_X10_reaches_22 h Q) : V l G 3 yX10_reaches cX10_reaches 5 (some .int) 22 [] [] h (qI Q) := by
  unfold n_X10_reaches_22 at hw
  refine V_iconst (v := (-1)) (by decide) dX10_reaches_22 ?_
  refine V_goto (tgt := 32) dX10_reaches_23 (by decide) ?_
  exact V.sub [] rfl (s_X10_reaches_32 hw)
theorem s_X10_reaches_0 {l : Launch} {G : Gh} {l0 : Option Nat} {l1 : Int32} {l2 : Int32} {h : Hp} {Q : Int32 → Hp → Prop}  (hw : n_X10_reaches_0 l0 l1 l2 h Q) : V l G 3 yX10_reaches cX10_reaches 5 (some .int) 0 [(0, va_rf l0), (1, .int l1), (2, .int l2)] [] h (qI Q) := by
  unfold n_X10_reaches_0 at hw
  refine V_aload_n 0 rfl rfl dX10_reaches_0 ?_
  refine V_iload_n 1 rfl rfl dX10_reaches_1 ?_
  refine X_cV 10 [.int l1] [] ma_X10_229 (by decide) rfl (by decide) (by decide) rfl (by simp [cat_i, cat_l, rf_cat]) rfl dX10_reaches_2 hw (r_X10_modelAt _ _) (k_R (fun v1 h hw => ?_))
  refine V_astore_n (i := 3) [(3, va_rf v1), (0, va_rf l0), (1, .int l1), (2, .int l2)] rfl (by decide) rfl dX10_reaches_5 ?_
  refine V_aload_n 1 rfl rfl dX10_reaches_6 ?_
  refine V_iload_n 3 rfl rfl dX10_reaches_7 ?_
  refine X_cV 10 [.int l2] [] ma_X10_91 (by decide) rfl (by decide) (by decide) rfl (by simp [cat_i, cat_l, rf_cat]) rfl dX10_reaches_8 hw (r_X10_placeAt _ _) (k_R (fun v2 h hw => ?_))
  refine V_astore (i := 4) [(4, va_rf v2), (3, va_rf v1), (0, va_rf l0), (1, .int l1), (2, .int l2)] (by decide) (by simp [List.filter_cons, rf_cat, cat_i, cat_l]) dX10_reaches_11 ?_
  refine V_aload_n 1 rfl rfl dX10_reaches_13 ?_
  refine V_ifnull (tgt := 22) dX10_reaches_14 (by decide) hw (fun hw => ?_) (fun hw => ?_)
  · exact V.sub [] rfl (s_X10_reaches_22 hw)
  · refine V_aload 0 rfl dX10_reaches_17 ?_
    refine V_ifnonnull (tgt := 26) dX10_reaches_19 (by decide) hw (fun hw => ?_) (fun hw => ?_)
    · exact V.sub [] rfl (s_X10_reaches_22 hw)
    · refine V_aload_n 1 rfl rfl dX10_reaches_26 ?_
      refine V_aload 0 rfl dX10_reaches_27 ?_
      refine X_cS [va_rf v1, va_rf v2] [] ma_X10_233 (by decide) (by decide) rfl (by simp [cat_i, cat_l, rf_cat]) rfl dX10_reaches_29 (r_X10_dayOfReach _ _ hw) (k_I (fun v3 h hw => ?_))
      exact V.sub [] rfl (s_X10_reaches_32 hw)
theorem r_X10_reaches {l : Launch} {G : Gh} (l0 : Option Nat) (l1 : Int32) (l2 : Int32) {h : Hp} {Q : Int32 → Hp → Prop} (hw : w_X10_reaches l0 l1 l2 h Q) : RunQ l G 3 yX10_reaches cX10_reaches 5 (some .int) [va_rf l0, .int l1, .int l2] h (qI Q) :=
  V_run rfl (sl_len _ _ (by simp [cat_i, cat_l, rf_cat])) (V.sub [0, 1, 2] (by simp only [la_r, la_i, la_l, la_n]; rfl) (s_X10_reaches_0 hw))
def b_J7_fill_d0a16_6 (l0 : Option Nat) (l1 : Int64) (l3 : Int32) (l4 : Int32) (h : Hp) (Q : Hp → Prop) (K6 : Int32 → Hp → Prop) : Prop :=
  br (l4 ≤ l3) (
    Q h) (
    stL h l0 l3 l1 fun h =>
    lt (l3 + 1) fun x2 =>
    K6 x2 h)
def l_J7_fill_d0a16_6 (l0 : Option Nat) (l1 : Int64) (l3 : Int32) (l4 : Int32) (h : Hp) (Q : Hp → Prop) : Prop :=
  Lo (fun (K : Int32 → Hp → Prop) s h => b_J7_fill_d0a16_6 l0 l1 s l4 h Q (fun l3 h => K (l3) h)) (l3) h
def n_J7_fill_d0a16_0 (l0 : Option Nat) (l1 : Int64) (h : Hp) (Q : Hp → Prop) : Prop :=
  alN h l0 fun v1 =>
  l_J7_fill_d0a16_6 l0 l1 0 v1 h Q
def w_J7_fill_d0a16 (l0 : Option Nat) (l1 : Int64) (h : Hp) (Q : Hp → Prop) : Prop := n_J7_fill_d0a16_0 l0 l1 h Q
theorem sb_J7_fill_d0a16_6 {l : Launch} {G : Gh} {l0 : Option Nat} {l1 : Int64} {l3 : Int32} {l4 : Int32} {h : Hp} {Q : Hp → Prop} {K6 : Int32 → Hp → Prop} (hK6 : ∀ (l3 : Int32) (h : Hp), K6 l3 h → V l G 1 yJ7_fill_d0a16 cJ7_fill_d0a16 5 none 6 [(0, va_rf l0), (1, .long l1), (3, .int l3), (4, .int l4)] [] h (qV Q)) (hw : b_J7_fill_d0a16_6 l0 l1 l3 l4 h Q K6) : V l G 1 yJ7_fill_d0a16 cJ7_fill_d0a16 5 none 6 [(0, va_rf l0), (1, .long l1), (3, .int l3), (4, .int l4)] [] h (qV Q) := by
  unfold b_J7_fill_d0a16_6 at hw
  refine V_iload_n 2 rfl rfl dJ7_fill_d0a16_6 ?_
  refine V_iload 3 rfl dJ7_fill_d0a16_7 ?_
  refine V_icmp_ge (tgt := 22) dJ7_fill_d0a16_9 (by decide) hw (fun hw => ?_) (fun hw => ?_)
  · exact V_vret rfl dJ7_fill_d0a16_22 ⟨rfl, hw⟩
  · refine V_aload_n 0 rfl rfl dJ7_fill_d0a16_12 ?_
    refine V_iload_n 2 rfl rfl dJ7_fill_d0a16_13 ?_
    refine V_lload_n 1 rfl rfl dJ7_fill_d0a16_14 ?_
    refine X_stL dJ7_fill_d0a16_15 hw (fun h hw => ?_)
    refine V_iincL (n := 1) 2 (fun z => [(3, .int z), (0, va_rf l0), (1, .long l1), (4, .int l4)]) rfl (by rfl) (by decide) (fun _ => rfl) dJ7_fill_d0a16_16 hw (fun x2 hw => ?_)
    refine V_goto (tgt := 6) dJ7_fill_d0a16_19 (by decide) ?_
    exact V.sub [1, 2, 0, 3] rfl (hK6 _ _ hw)
theorem s_J7_fill_d0a16_6 {l : Launch} {G : Gh} {l0 : Option Nat} {l1 : Int64} {l3 : Int32} {l4 : Int32} {h : Hp} {Q : Hp → Prop}  (hw : l_J7_fill_d0a16_6 l0 l1 l3 l4 h Q) : V l G 1 yJ7_fill_d0a16 cJ7_fill_d0a16 5 none 6 [(0, va_rf l0), (1, .long l1), (3, .int l3), (4, .int l4)] [] h (qV Q) :=
  Lo.ind (P := fun (s : Int32) h => V l G 1 yJ7_fill_d0a16 cJ7_fill_d0a16 5 none 6 [(0, va_rf l0), (1, .long l1), (3, .int s), (4, .int l4)] [] h (qV Q)) (fun K ih s h hw => sb_J7_fill_d0a16_6 (fun l3 h hk => ih (l3) h hk) hw) hw
theorem s_J7_fill_d0a16_0 {l : Launch} {G : Gh} {l0 : Option Nat} {l1 : Int64} {h : Hp} {Q : Hp → Prop}  (hw : n_J7_fill_d0a16_0 l0 l1 h Q) : V l G 1 yJ7_fill_d0a16 cJ7_fill_d0a16 5 none 0 [(0, va_rf l0), (1, .long l1)] [] h (qV Q) := by
  unfold n_J7_fill_d0a16_0 at hw
  refine V_iconst (v := 0) (by decide) dJ7_fill_d0a16_0 ?_
  refine V_istore_n (i := 3) [(3, .int 0), (0, va_rf l0), (1, .long l1)] rfl (by decide) rfl dJ7_fill_d0a16_1 ?_
  refine V_aload_n 1 rfl rfl dJ7_fill_d0a16_2 ?_
  refine X_alen dJ7_fill_d0a16_3 hw (fun v1 hw => ?_)
  refine V_istore (i := 4) [(4, .int v1), (3, .int 0), (0, va_rf l0), (1, .long l1)] (by decide) rfl dJ7_fill_d0a16_4 ?_
  exact V.sub [2, 3, 1, 0] rfl (s_J7_fill_d0a16_6 hw)
theorem r_J7_fill_d0a16 {l : Launch} {G : Gh} (l0 : Option Nat) (l1 : Int64) {h : Hp} {Q : Hp → Prop} (hw : w_J7_fill_d0a16 l0 l1 h Q) : RunQ l G 1 yJ7_fill_d0a16 cJ7_fill_d0a16 5 none [va_rf l0, .long l1] h (qV Q) :=
  V_run rfl (sl_len _ _ (by simp [cat_i, cat_l, rf_cat])) (V.sub [0, 1] (by simp only [la_r, la_i, la_l, la_n]; rfl) (s_J7_fill_d0a16_0 hw))
def n_X9_takeRow_0 (l0 : Option Nat) (l1 : Int32) (l2 : Int32) (h : Hp) (Q : Hp → Prop) : Prop :=
  pR h l0 10 1155 none fun h =>
  pI h l0 10 1153 l1 fun h =>
  pI h l0 10 1154 l2 fun h =>
  gR h l0 10 1152 fun v1 =>
  w_J7_fill_d0a16 v1 0 h <| fun h =>
  Q h
def w_X9_takeRow (l0 : Option Nat) (l1 : Int32) (l2 : Int32) (h : Hp) (Q : Hp → Prop) : Prop := n_X9_takeRow_0 l0 l1 l2 h Q
theorem s_X9_takeRow_0 {l : Launch} {G : Gh} {l0 : Option Nat} {l1 : Int32} {l2 : Int32} {h : Hp} {Q : Hp → Prop}  (hw : n_X9_takeRow_0 l0 l1 l2 h Q) : V l G 2 yX9_takeRow cX9_takeRow 3 none 0 [(0, va_rf l0), (1, .int l1), (2, .int l2)] [] h (qV Q) := by
  unfold n_X9_takeRow_0 at hw
  refine V_aload_n 0 rfl rfl dX9_takeRow_0 ?_
  refine V_null dX9_takeRow_1 ?_
  refine X_putR (c := 9) (k := 3) fa_X9_19 (Or.inl rfl) (Or.inl ⟨_, rfl⟩) dX9_takeRow_2 hw (fun h hw => ?_)
  refine V_aload_n 0 rfl rfl dX9_takeRow_5 ?_
  refine V_iload_n 1 rfl rfl dX9_takeRow_6 ?_
  refine X_putI (c := 9) (k := 1) fa_X9_15 (Or.inl rfl) rfl dX9_takeRow_7 hw (fun h hw => ?_)
  refine V_aload_n 0 rfl rfl dX9_takeRow_10 ?_
  refine V_iload_n 2 rfl rfl dX9_takeRow_11 ?_
  refine X_putI (c := 9) (k := 2) fa_X9_23 (Or.inl rfl) rfl dX9_takeRow_12 hw (fun h hw => ?_)
  refine V_aload_n 0 rfl rfl dX9_takeRow_15 ?_
  refine X_getR (c := 9) (k := 0) fa_X9_9 rfl dX9_takeRow_16 hw (fun v1 hw => ?_)
  refine V_lconst (v := 0) (by decide) dX9_takeRow_19 ?_
  refine X_cS [va_rf v1, .long 0] [] ma_X9_26 (by decide) (by decide) rfl (by simp [cat_i, cat_l, rf_cat]) rfl dX9_takeRow_20 (r_J7_fill_d0a16 _ _ hw) (k_V (fun h hw => ?_))
  exact V_vret rfl dX9_takeRow_23 ⟨rfl, hw⟩
theorem r_X9_takeRow {l : Launch} {G : Gh} (l0 : Option Nat) (l1 : Int32) (l2 : Int32) {h : Hp} {Q : Hp → Prop} (hw : w_X9_takeRow l0 l1 l2 h Q) : RunQ l G 2 yX9_takeRow cX9_takeRow 3 none [va_rf l0, .int l1, .int l2] h (qV Q) :=
  V_run rfl (sl_len _ _ (by simp [cat_i, cat_l, rf_cat])) (V.sub [0, 1, 2] (by simp only [la_r, la_i, la_l, la_n]; rfl) (s_X9_takeRow_0 hw))
def n_X10_row_0 (l0 : Option Nat) (l1 : Int32) (l2 : Int32) (l3 : Int32) (h : Hp) (Q : Int32 → Hp → Prop) : Prop :=
  oV h l0 11 <| w_X10_shelfAt l0 l1 h <| fun v1 h =>
  br (v1 = none) (
    oV h l0 11 <| w_X10_refuse l0 (-1) h <| fun v2 h =>
    Q v2 h) (
    br (0 ≤ l3) (
      w_X10_isIn l2 0 3 h <| fun v3 h =>
      br (v3 = 0) (
        oV h l0 11 <| w_X10_refuse l0 (-6) h <| fun v4 h =>
        Q v4 h) (
        br (l3 ≤ 60) (
          oV h v1 10 <| w_X9_takeRow v1 l2 l3 h <| fun h =>
          Q 1 h) (
          oV h l0 11 <| w_X10_refuse l0 (-7) h <| fun v6 h =>
          Q v6 h))) (
      oV h l0 11 <| w_X10_refuse l0 (-4) h <| fun v7 h =>
      Q v7 h))
def w_X10_row (l0 : Option Nat) (l1 : Int32) (l2 : Int32) (l3 : Int32) (h : Hp) (Q : Int32 → Hp → Prop) : Prop := n_X10_row_0 l0 l1 l2 l3 h Q
theorem s_X10_row_0 {l : Launch} {G : Gh} {l0 : Option Nat} {l1 : Int32} {l2 : Int32} {l3 : Int32} {h : Hp} {Q : Int32 → Hp → Prop}  (hw : n_X10_row_0 l0 l1 l2 l3 h Q) : V l G 3 yX10_row cX10_row 5 (some .int) 0 [(0, va_rf l0), (1, .int l1), (2, .int l2), (3, .int l3)] [] h (qI Q) := by
  unfold n_X10_row_0 at hw
  refine V_aload_n 0 rfl rfl dX10_row_0 ?_
  refine V_iload_n 1 rfl rfl dX10_row_1 ?_
  refine X_cV 10 [.int l1] [] ma_X10_156 (by decide) rfl (by decide) (by decide) rfl (by simp [cat_i, cat_l, rf_cat]) rfl dX10_row_2 hw (r_X10_shelfAt _ _) (k_R (fun v1 h hw => ?_))
  refine V_astore (i := 4) [(4, va_rf v1), (0, va_rf l0), (1, .int l1), (2, .int l2), (3, .int l3)] (by decide) rfl dX10_row_5 ?_
  refine V_aload 0 rfl dX10_row_7 ?_
  refine V_ifnonnull (tgt := 18) dX10_row_9 (by decide) hw (fun hw => ?_) (fun hw => ?_)
  · refine V_aload_n 1 rfl rfl dX10_row_12 ?_
    refine V_iconst (v := (-1)) (by decide) dX10_row_13 ?_
    refine X_cV 10 [.int (-1)] [] ma_X10_95 (by decide) rfl (by decide) (by decide) rfl (by simp [cat_i, cat_l, rf_cat]) rfl dX10_row_14 hw (r_X10_refuse _ _) (k_I (fun v2 h hw => ?_))
    exact V_iret rfl dX10_row_17 ⟨_, rfl, hw⟩
  · refine V_iload_n 4 rfl rfl dX10_row_18 ?_
    refine V_if_ge (tgt := 29) dX10_row_19 (by decide) hw (fun hw => ?_) (fun hw => ?_)
    · refine V_iload_n 3 rfl rfl dX10_row_29 ?_
      refine V_iconst (v := 0) (by decide) dX10_row_30 ?_
      refine V_iconst (v := 3) (by decide) dX10_row_31 ?_
      refine X_cS [.int l2, .int 0, .int 3] [] ma_X10_99 (by decide) (by decide) rfl (by simp [cat_i, cat_l, rf_cat]) rfl dX10_row_32 (r_X10_isIn _ _ _ hw) (k_I (fun v3 h hw => ?_))
      refine V_if_ne (tgt := 45) dX10_row_35 (by decide) hw (fun hw => ?_) (fun hw => ?_)
      · refine V_aload_n 1 rfl rfl dX10_row_38 ?_
        refine V_bipush (v := (-6)) (by decide) dX10_row_39 ?_
        refine X_cV 10 [.int (-6)] [] ma_X10_95 (by decide) rfl (by decide) (by decide) rfl (by simp [cat_i, cat_l, rf_cat]) rfl dX10_row_41 hw (r_X10_refuse _ _) (k_I (fun v4 h hw => ?_))
        exact V_iret rfl dX10_row_44 ⟨_, rfl, hw⟩
      · refine V_iload_n 4 rfl rfl dX10_row_45 ?_
        refine V_bipush (v := 60) (by decide) dX10_row_46 ?_
        refine V_icmp_le (tgt := 58) dX10_row_48 (by decide) hw (fun hw => ?_) (fun hw => ?_)
        · refine V_aload 0 rfl dX10_row_58 ?_
          refine V_iload_n 3 rfl rfl dX10_row_60 ?_
          refine V_iload_n 4 rfl rfl dX10_row_61 ?_
          refine X_cV 9 [.int l2, .int l3] [] ma_X10_160 (by decide) rfl (by decide) (by decide) rfl (by simp [cat_i, cat_l, rf_cat]) rfl dX10_row_62 hw (r_X9_takeRow _ _ _) (k_V (fun h hw => ?_))
          refine V_iconst (v := 1) (by decide) dX10_row_65 ?_
          exact V_iret rfl dX10_row_66 ⟨_, rfl, hw⟩
        · refine V_aload_n 1 rfl rfl dX10_row_51 ?_
          refine V_bipush (v := (-7)) (by decide) dX10_row_52 ?_
          refine X_cV 10 [.int (-7)] [] ma_X10_95 (by decide) rfl (by decide) (by decide) rfl (by simp [cat_i, cat_l, rf_cat]) rfl dX10_row_54 hw (r_X10_refuse _ _) (k_I (fun v6 h hw => ?_))
          exact V_iret rfl dX10_row_57 ⟨_, rfl, hw⟩
    · refine V_aload_n 1 rfl rfl dX10_row_22 ?_
      refine V_bipush (v := (-4)) (by decide) dX10_row_23 ?_
      refine X_cV 10 [.int (-4)] [] ma_X10_95 (by decide) rfl (by decide) (by decide) rfl (by simp [cat_i, cat_l, rf_cat]) rfl dX10_row_25 hw (r_X10_refuse _ _) (k_I (fun v7 h hw => ?_))
      exact V_iret rfl dX10_row_28 ⟨_, rfl, hw⟩
theorem r_X10_row {l : Launch} {G : Gh} (l0 : Option Nat) (l1 : Int32) (l2 : Int32) (l3 : Int32) {h : Hp} {Q : Int32 → Hp → Prop} (hw : w_X10_row l0 l1 l2 l3 h Q) : RunQ l G 3 yX10_row cX10_row 5 (some .int) [va_rf l0, .int l1, .int l2, .int l3] h (qI Q) :=
  V_run rfl (sl_len _ _ (by simp [cat_i, cat_l, rf_cat])) (V.sub [0, 1, 2, 3] (by simp only [la_r, la_i, la_l, la_n]; rfl) (s_X10_row_0 hw))
def n_X7_init_0 (l0 : Option Nat) (l1 : Int32) (l2 : Int32) (l3 : Int32) (l4 : Option Nat) (h : Hp) (Q : Hp → Prop) : Prop :=
  oN l0 <|
  pI h l0 8 900 (-1) fun h =>
  pI h l0 8 896 l1 fun h =>
  pI h l0 8 897 l2 fun h =>
  pI h l0 8 898 l3 fun h =>
  pR h l0 8 899 l4 fun h =>
  Q h
def w_X7_init (l0 : Option Nat) (l1 : Int32) (l2 : Int32) (l3 : Int32) (l4 : Option Nat) (h : Hp) (Q : Hp → Prop) : Prop := n_X7_init_0 l0 l1 l2 l3 l4 h Q
theorem s_X7_init_0 {l : Launch} {G : Gh} {l0 : Option Nat} {l1 : Int32} {l2 : Int32} {l3 : Int32} {l4 : Option Nat} {h : Hp} {Q : Hp → Prop}  (hw : n_X7_init_0 l0 l1 l2 l3 l4 h Q) : V l G 2 yX7_init cX7_init 5 none 0 [(0, va_rf l0), (1, .int l1), (2, .int l2), (3, .int l3), (4, va_rf l4)] [] h (qV Q) := by
  unfold n_X7_init_0 at hw
  refine V_aload_n 0 rfl rfl dX7_init_0 ?_
  refine X_obj oi_X7_3 (by decide) (by simp [cat_i, cat_l, rf_cat]) dX7_init_1 hw (fun hw => ?_)
  refine V_aload_n 0 rfl rfl dX7_init_4 ?_
  refine V_iconst (v := (-1)) (by decide) dX7_init_5 ?_
  refine X_putI (c := 7) (k := 4) fa_X7_9 (Or.inl rfl) rfl dX7_init_6 hw (fun h hw => ?_)
  refine V_aload_n 0 rfl rfl dX7_init_9 ?_
  refine V_iload_n 1 rfl rfl dX7_init_10 ?_
  refine X_putI (c := 7) (k := 0) fa_X7_15 (Or.inr ⟨rfl, rfl, rfl, po_X7_15⟩) rfl dX7_init_11 hw (fun h hw => ?_)
  refine V_aload_n 0 rfl rfl dX7_init_14 ?_
  refine V_iload_n 2 rfl rfl dX7_init_15 ?_
  refine X_putI (c := 7) (k := 1) fa_X7_18 (Or.inr ⟨rfl, rfl, rfl, po_X7_18⟩) rfl dX7_init_16 hw (fun h hw => ?_)
  refine V_aload_n 0 rfl rfl dX7_init_19 ?_
  refine V_iload_n 3 rfl rfl dX7_init_20 ?_
  refine X_putI (c := 7) (k := 2) fa_X7_21 (Or.inr ⟨rfl, rfl, rfl, po_X7_21⟩) rfl dX7_init_21 hw (fun h hw => ?_)
  refine V_aload_n 0 rfl rfl dX7_init_24 ?_
  refine V_aload 4 rfl dX7_init_25 ?_
  refine X_putR (c := 7) (k := 3) fa_X7_24 (Or.inr ⟨rfl, rfl, rfl, po_X7_24⟩) (Or.inr ⟨_, rfl⟩) dX7_init_27 hw (fun h hw => ?_)
  exact V_vret rfl dX7_init_30 ⟨rfl, hw⟩
theorem r_X7_init {l : Launch} {G : Gh} (l0 : Option Nat) (l1 : Int32) (l2 : Int32) (l3 : Int32) (l4 : Option Nat) {h : Hp} {Q : Hp → Prop} (hw : w_X7_init l0 l1 l2 l3 l4 h Q) : RunQ l G 2 yX7_init cX7_init 5 none [va_rf l0, .int l1, .int l2, .int l3, va_rf l4] h (qV Q) :=
  V_run rfl (sl_len _ _ (by simp [cat_i, cat_l, rf_cat])) (V.sub [0, 1, 2, 3, 4] (by simp only [la_r, la_i, la_l, la_n]; rfl) (s_X7_init_0 hw))
def n_X10_rule_21 (l0 : Option Nat) (h : Hp) (Q : Int32 → Hp → Prop) : Prop :=
  oV h l0 11 <| w_X10_refuse l0 (-1) h <| fun v2 h =>
  Q v2 h
def n_X10_rule_0 (l0 : Option Nat) (l1 : Int32) (l2 : Int32) (l3 : Int32) (h : Hp) (Q : Int32 → Hp → Prop) : Prop :=
  oV h l0 11 <| w_X10_shelfAt l0 l3 h <| fun v1 h =>
  br (v1 = none) (
    n_X10_rule_21 l0 h Q) (
    w_X10_isIn l1 1 3 h <| fun v3 h =>
    br (v3 = 0) (
      n_X10_rule_21 l0 h Q) (
      w_X10_rowTrouble v1 h <| fun v4 h =>
      br (v4 = 0) (
        w_X10_isIn l2 0 4000 h <| fun v5 h =>
        br (v5 = 0) (
          oV h l0 11 <| w_X10_refuse l0 (-6) h <| fun v6 h =>
          Q v6 h) (
          gR h l0 11 1288 fun v7 =>
          gR h v1 10 1152 fun v8 =>
          gI h v1 10 1154 fun v9 =>
          oV h v7 9 <| w_X8_takeLetters v7 v8 v9 h <| fun h =>
          gR h l0 11 1288 fun v11 =>
          oV h v11 9 <| w_X8_readRule v11 h <| fun h =>
          gR h l0 11 1288 fun v13 =>
          gI h v13 9 1028 fun v14 =>
          pI h l0 11 1298 v14 fun h =>
          gI h l0 11 1298 fun v15 =>
          br (v15 = (-1)) (
            gI h l0 11 1295 fun v16 =>
            br (v16 < 12) (
              gI h l0 11 1295 fun v17 =>
              gR h l0 11 1284 fun v18 =>
              nwO h 8 5 fun v19 h =>
              oV h v1 10 <| w_X9_rowCopy v1 h <| fun v20 h =>
              oN v19 <| w_X7_init v19 v17 l1 l2 v20 h <| fun h =>
              stR h v18 v17 v19 fun h =>
              gI h l0 11 1295 fun v22 =>
              pI h l0 11 1295 (v22 + 1) fun h =>
              Q v17 h) (
              oV h l0 11 <| w_X10_refuse l0 (-7) h <| fun v23 h =>
              Q v23 h)) (
            oV h l0 11 <| w_X10_refuse l0 (-6) h <| fun v24 h =>
            Q v24 h))) (
        oV h l0 11 <| w_X10_refuse l0 v4 h <| fun v25 h =>
        Q v25 h)))
def w_X10_rule (l0 : Option Nat) (l1 : Int32) (l2 : Int32) (l3 : Int32) (h : Hp) (Q : Int32 → Hp → Prop) : Prop := n_X10_rule_0 l0 l1 l2 l3 h Q
theorem s_X10_rule_21 {l : Launch} {G : Gh} {l0 : Option Nat} {h : Hp} {Q : Int32 → Hp → Prop}  (hw : n_X10_rule_21 l0 h Q) : V l G 102 yX10_rule cX10_rule 7 (some .int) 21 [(0, va_rf l0)] [] h (qI Q) := by
  unfold n_X10_rule_21 at hw
  refine V_aload_n 0 rfl rfl dX10_rule_21 ?_
  refine V_iconst (v := (-1)) (by decide) dX10_rule_22 ?_
  refine X_cV 10 [.int (-1)] [] ma_X10_95 (by decide) rfl (by decide) (by decide) rfl (by simp [cat_i, cat_l, rf_cat]) rfl dX10_rule_23 hw (r_X10_refuse _ _) (k_I (fun v2 h hw => ?_))
  exact V_iret rfl dX10_rule_26 ⟨_, rfl, hw⟩
set_option maxRecDepth 20000 in
theorem s_X10_rule_0 {l : Launch} {G : Gh} {l0 : Option Nat} {l1 : Int32} {l2 : Int32} {l3 : Int32} {h : Hp} {Q : Int32 → Hp → Prop}  (hw : n_X10_rule_0 l0 l1 l2 l3 h Q) : V l G 102 yX10_rule cX10_rule 7 (some .int) 0 [(0, va_rf l0), (1, .int l1), (2, .int l2), (3, .int l3)] [] h (qI Q) := by
  unfold n_X10_rule_0 at hw
  refine V_aload_n 0 rfl rfl dX10_rule_0 ?_
  refine V_iload_n 3 rfl rfl dX10_rule_1 ?_
  refine X_cV 10 [.int l3] [] ma_X10_156 (by decide) rfl (by decide) (by decide) rfl (by simp [cat_i, cat_l, rf_cat]) rfl dX10_rule_2 hw (r_X10_shelfAt _ _) (k_R (fun v1 h hw => ?_))
  refine V_astore (i := 4) [(4, va_rf v1), (0, va_rf l0), (1, .int l1), (2, .int l2), (3, .int l3)] (by decide) rfl dX10_rule_5 ?_
  refine V_aload 0 rfl dX10_rule_7 ?_
  refine V_ifnull (tgt := 21) dX10_rule_9 (by decide) hw (fun hw => ?_) (fun hw => ?_)
  · exact V.sub [1] rfl (s_X10_rule_21 hw)
  · refine V_iload_n 2 rfl rfl dX10_rule_12 ?_
    refine V_iconst (v := 1) (by decide) dX10_rule_13 ?_
    refine V_iconst (v := 3) (by decide) dX10_rule_14 ?_
    refine X_cS [.int l1, .int 1, .int 3] [] ma_X10_99 (by decide) (by decide) rfl (by simp [cat_i, cat_l, rf_cat]) rfl dX10_rule_15 (r_X10_isIn _ _ _ hw) (k_I (fun v3 h hw => ?_))
    refine V_if_ne (tgt := 27) dX10_rule_18 (by decide) hw (fun hw => ?_) (fun hw => ?_)
    · exact V.sub [1] rfl (s_X10_rule_21 hw)
    · refine V_aload 0 rfl dX10_rule_27 ?_
      refine X_cS [va_rf v1] [] ma_X10_164 (by decide) (by decide) rfl (by simp [cat_i, cat_l, rf_cat]) rfl dX10_rule_29 (r_X10_rowTrouble _ hw) (k_I (fun v4 h hw => ?_))
      refine V_istore (i := 5) [(5, .int v4), (4, va_rf v1), (0, va_rf l0), (1, .int l1), (2, .int l2), (3, .int l3)] (by decide) (by simp [List.filter_cons, rf_cat, cat_i, cat_l]) dX10_rule_32 ?_
      refine V_iload 0 rfl dX10_rule_34 ?_
      refine V_if_eq (tgt := 46) dX10_rule_36 (by decide) hw (fun hw => ?_) (fun hw => ?_)
      · refine V_iload_n 4 rfl rfl dX10_rule_46 ?_
        refine V_iconst (v := 0) (by decide) dX10_rule_47 ?_
        refine V_sipush (v := 4000) (by decide) dX10_rule_48 ?_
        refine X_cS [.int l2, .int 0, .int 4000] [] ma_X10_99 (by decide) (by decide) rfl (by simp [cat_i, cat_l, rf_cat]) rfl dX10_rule_51 (r_X10_isIn _ _ _ hw) (k_I (fun v5 h hw => ?_))
        refine V_if_ne (tgt := 64) dX10_rule_54 (by decide) hw (fun hw => ?_) (fun hw => ?_)
        · refine V_aload_n 2 rfl rfl dX10_rule_57 ?_
          refine V_bipush (v := (-6)) (by decide) dX10_rule_58 ?_
          refine X_cV 10 [.int (-6)] [] ma_X10_95 (by decide) rfl (by decide) (by decide) rfl (by simp [cat_i, cat_l, rf_cat]) rfl dX10_rule_60 hw (r_X10_refuse _ _) (k_I (fun v6 h hw => ?_))
          exact V_iret rfl dX10_rule_63 ⟨_, rfl, hw⟩
        · refine V_aload_n 2 rfl rfl dX10_rule_64 ?_
          refine X_getR (c := 10) (k := 8) fa_X10_55 rfl dX10_rule_65 hw (fun v7 hw => ?_)
          refine V_aload 1 rfl dX10_rule_68 ?_
          refine X_getR (c := 9) (k := 0) fa_X10_171 rfl dX10_rule_70 hw (fun v8 hw => ?_)
          refine V_aload 1 rfl dX10_rule_73 ?_
          refine X_getI (c := 9) (k := 2) fa_X10_168 rfl dX10_rule_75 hw (fun v9 hw => ?_)
          refine X_cV 8 [va_rf v8, .int v9] [] ma_X10_336 (by decide) rfl (by decide) (by decide) rfl (by simp [cat_i, cat_l, rf_cat]) rfl dX10_rule_78 hw (r_X8_takeLetters _ _ _) (k_V (fun h hw => ?_))
          refine V_aload_n 2 rfl rfl dX10_rule_81 ?_
          refine X_getR (c := 10) (k := 8) fa_X10_55 rfl dX10_rule_82 hw (fun v11 hw => ?_)
          refine X_cV 8 [] [] ma_X10_340 (by decide) rfl (by decide) (by decide) rfl (by simp [cat_i, cat_l, rf_cat]) rfl dX10_rule_85 hw (r_X8_readRule _) (k_V (fun h hw => ?_))
          refine V_aload_n 2 rfl rfl dX10_rule_88 ?_
          refine V_aload_n 2 rfl rfl dX10_rule_89 ?_
          refine X_getR (c := 10) (k := 8) fa_X10_55 rfl dX10_rule_90 hw (fun v13 hw => ?_)
          refine X_getI (c := 8) (k := 4) fa_X10_343 rfl dX10_rule_93 hw (fun v14 hw => ?_)
          refine X_putI (c := 10) (k := 18) fa_X10_80 (Or.inl rfl) rfl dX10_rule_96 hw (fun h hw => ?_)
          refine V_aload_n 2 rfl rfl dX10_rule_99 ?_
          refine X_getI (c := 10) (k := 18) fa_X10_80 rfl dX10_rule_100 hw (fun v15 hw => ?_)
          refine V_iconst (v := (-1)) (by decide) dX10_rule_103 ?_
          refine V_icmp_eq (tgt := 114) dX10_rule_104 (by decide) hw (fun hw => ?_) (fun hw => ?_)
          · refine V_aload_n 2 rfl rfl dX10_rule_114 ?_
            refine X_getI (c := 10) (k := 15) fa_X10_346 rfl dX10_rule_115 hw (fun v16 hw => ?_)
            refine V_bipush (v := 12) (by decide) dX10_rule_118 ?_
            refine V_icmp_lt (tgt := 130) dX10_rule_120 (by decide) hw (fun hw => ?_) (fun hw => ?_)
            · refine V_aload_n 2 rfl rfl dX10_rule_130 ?_
              refine X_getI (c := 10) (k := 15) fa_X10_346 rfl dX10_rule_131 hw (fun v17 hw => ?_)
              refine V_istore (i := 6) [(6, .int v17), (5, .int v4), (4, va_rf v1), (0, va_rf l0), (1, .int l1), (2, .int l2), (3, .int l3)] (by decide) rfl dX10_rule_134 ?_
              refine V_aload_n 3 rfl rfl dX10_rule_136 ?_
              refine X_getR (c := 10) (k := 4) fa_X10_35 rfl dX10_rule_137 hw (fun v18 hw => ?_)
              refine V_iload 0 rfl dX10_rule_140 ?_
              refine X_newO (c := 7) nc_X10_33 dX10_rule_142 hw (fun v19 h hw => ?_)
              refine V_dup (rf_cat _) dX10_rule_145 ?_
              refine V_iload 0 rfl dX10_rule_146 ?_
              refine V_iload_n 4 rfl rfl dX10_rule_148 ?_
              refine V_iload_n 5 rfl rfl dX10_rule_149 ?_
              refine V_aload 2 rfl dX10_rule_150 ?_
              refine X_cV 9 [] [.int l2, .int l1, .int v17, va_rf v19, va_rf v19, .int v17, va_rf v18] ma_X10_222 (by decide) rfl (by decide) (by decide) rfl (by simp [cat_i, cat_l, rf_cat]) rfl dX10_rule_152 hw (r_X9_rowCopy _) (k_R (fun v20 h hw => ?_))
              refine X_cI [.int v17, .int l1, .int l2, va_rf v20] [va_rf v19, .int v17, va_rf v18] ma_X10_349 (by decide) (by decide) rfl (by simp [cat_i, cat_l, rf_cat]) rfl dX10_rule_155 hw (r_X7_init _ _ _ _ _) (k_V (fun h hw => ?_))
              refine X_stR dX10_rule_158 hw (fun h hw => ?_)
              refine V_aload_n 3 rfl rfl dX10_rule_159 ?_
              refine V_dup (rf_cat _) dX10_rule_160 ?_
              refine X_getI (c := 10) (k := 15) fa_X10_346 rfl dX10_rule_161 hw (fun v22 hw => ?_)
              refine V_iconst (v := 1) (by decide) dX10_rule_164 ?_
              refine V_iadd dX10_rule_165 ?_
              refine X_putI (c := 10) (k := 15) fa_X10_346 (Or.inl rfl) rfl dX10_rule_166 hw (fun h hw => ?_)
              refine V_iload 0 rfl dX10_rule_169 ?_
              exact V_iret rfl dX10_rule_171 ⟨_, rfl, hw⟩
            · refine V_aload_n 2 rfl rfl dX10_rule_123 ?_
              refine V_bipush (v := (-7)) (by decide) dX10_rule_124 ?_
              refine X_cV 10 [.int (-7)] [] ma_X10_95 (by decide) rfl (by decide) (by decide) rfl (by simp [cat_i, cat_l, rf_cat]) rfl dX10_rule_126 hw (r_X10_refuse _ _) (k_I (fun v23 h hw => ?_))
              exact V_iret rfl dX10_rule_129 ⟨_, rfl, hw⟩
          · refine V_aload_n 2 rfl rfl dX10_rule_107 ?_
            refine V_bipush (v := (-6)) (by decide) dX10_rule_108 ?_
            refine X_cV 10 [.int (-6)] [] ma_X10_95 (by decide) rfl (by decide) (by decide) rfl (by simp [cat_i, cat_l, rf_cat]) rfl dX10_rule_110 hw (r_X10_refuse _ _) (k_I (fun v24 h hw => ?_))
            exact V_iret rfl dX10_rule_113 ⟨_, rfl, hw⟩
      · refine V_aload_n 2 rfl rfl dX10_rule_39 ?_
        refine V_iload 0 rfl dX10_rule_40 ?_
        refine X_cV 10 [.int v4] [] ma_X10_95 (by decide) rfl (by decide) (by decide) rfl (by simp [cat_i, cat_l, rf_cat]) rfl dX10_rule_42 hw (r_X10_refuse _ _) (k_I (fun v25 h hw => ?_))
        exact V_iret rfl dX10_rule_45 ⟨_, rfl, hw⟩
theorem r_X10_rule {l : Launch} {G : Gh} (l0 : Option Nat) (l1 : Int32) (l2 : Int32) (l3 : Int32) {h : Hp} {Q : Int32 → Hp → Prop} (hw : w_X10_rule l0 l1 l2 l3 h Q) : RunQ l G 102 yX10_rule cX10_rule 7 (some .int) [va_rf l0, .int l1, .int l2, .int l3] h (qI Q) :=
  V_run rfl (sl_len _ _ (by simp [cat_i, cat_l, rf_cat])) (V.sub [0, 1, 2, 3] (by simp only [la_r, la_i, la_l, la_n]; rfl) (s_X10_rule_0 hw))
def n_X10_said_17 (h : Hp) (Q : Int32 → Hp → Prop) : Prop :=
  Q (-1) h
def n_X10_said_78 (l0 : Option Nat) (l2 : Option Nat) (l3 : Int32) (l4 : Int32) (h : Hp) (Q : Int32 → Hp → Prop) (K24 : Int32 → Int32 → Hp → Prop) : Prop :=
  lt (l4 + 1) fun x7 =>
  K24 l3 x7 h
def b_X10_said_24 (l0 : Option Nat) (l2 : Option Nat) (l3 : Int32) (l4 : Int32) (h : Hp) (Q : Int32 → Hp → Prop) (K24 : Int32 → Int32 → Hp → Prop) : Prop :=
  gI h l0 11 1293 fun v3 =>
  br (v3 ≤ l4) (
    Q l3 h) (
    gR h l0 11 1282 fun v4 =>
    ldR h v4 l4 fun v5 =>
    gR h v5 1 15 fun v6 =>
    br (v6 = none) (
      n_X10_said_78 l0 l2 l3 l4 h Q K24) (
      gR h v5 1 15 fun v8 =>
      gR h v8 1 1 fun v9 =>
      br (v9 = l2) (
        gR h v5 1 15 fun v10 =>
        gI h v10 1 4 fun v11 =>
        oV h v5 1 <| w_X0_saysAt v5 v11 h <| fun v12 h =>
        lt (l3 + v12) fun x13 =>
        n_X10_said_78 l0 l2 x13 l4 h Q K24) (
        n_X10_said_78 l0 l2 l3 l4 h Q K24)))
def l_X10_said_24 (l0 : Option Nat) (l2 : Option Nat) (l3 : Int32) (l4 : Int32) (h : Hp) (Q : Int32 → Hp → Prop) : Prop :=
  Lo (fun (K : Int32 × Int32 → Hp → Prop) s h => b_X10_said_24 l0 l2 s.1 s.2 h Q (fun l3 l4 h => K (l3, l4) h)) (l3, l4) h
def n_X10_said_0 (l0 : Option Nat) (l1 : Int32) (h : Hp) (Q : Int32 → Hp → Prop) : Prop :=
  oV h l0 11 <| w_X10_placeAt l0 l1 h <| fun v1 h =>
  br (v1 = none) (
    n_X10_said_17 h Q) (
    gI h v1 6 648 fun v2 =>
    br (v2 = 0) (
      n_X10_said_17 h Q) (
      l_X10_said_24 l0 v1 0 0 h Q))
def w_X10_said (l0 : Option Nat) (l1 : Int32) (h : Hp) (Q : Int32 → Hp → Prop) : Prop := n_X10_said_0 l0 l1 h Q
theorem s_X10_said_17 {l : Launch} {G : Gh}  {h : Hp} {Q : Int32 → Hp → Prop}  (hw : n_X10_said_17 h Q) : V l G 3 yX10_said cX10_said 6 (some .int) 17 [] [] h (qI Q) := by
  unfold n_X10_said_17 at hw
  refine V_iconst (v := (-1)) (by decide) dX10_said_17 ?_
  exact V_iret rfl dX10_said_18 ⟨_, rfl, hw⟩
theorem s_X10_said_78 {l : Launch} {G : Gh} {l0 : Option Nat} {l2 : Option Nat} {l3 : Int32} {l4 : Int32} {h : Hp} {Q : Int32 → Hp → Prop} {K24 : Int32 → Int32 → Hp → Prop} (hK24 : ∀ (l3 : Int32) (l4 : Int32) (h : Hp), K24 l3 l4 h → V l G 3 yX10_said cX10_said 6 (some .int) 24 [(0, va_rf l0), (2, va_rf l2), (3, .int l3), (4, .int l4)] [] h (qI Q)) (hw : n_X10_said_78 l0 l2 l3 l4 h Q K24) : V l G 3 yX10_said cX10_said 6 (some .int) 78 [(0, va_rf l0), (2, va_rf l2), (3, .int l3), (4, .int l4)] [] h (qI Q) := by
  unfold n_X10_said_78 at hw
  refine V_iincL (n := 1) 3 (fun z => [(4, .int z), (0, va_rf l0), (2, va_rf l2), (3, .int l3)]) rfl (by rfl) (by decide) (fun _ => rfl) dX10_said_78 hw (fun x7 hw => ?_)
  refine V_goto (tgt := 24) dX10_said_81 (by decide) ?_
  exact V.sub [1, 2, 3, 0] rfl (hK24 _ _ _ hw)
theorem sb_X10_said_24 {l : Launch} {G : Gh} {l0 : Option Nat} {l2 : Option Nat} {l3 : Int32} {l4 : Int32} {h : Hp} {Q : Int32 → Hp → Prop} {K24 : Int32 → Int32 → Hp → Prop} (hK24 : ∀ (l3 : Int32) (l4 : Int32) (h : Hp), K24 l3 l4 h → V l G 3 yX10_said cX10_said 6 (some .int) 24 [(0, va_rf l0), (2, va_rf l2), (3, .int l3), (4, .int l4)] [] h (qI Q)) (hw : b_X10_said_24 l0 l2 l3 l4 h Q K24) : V l G 3 yX10_said cX10_said 6 (some .int) 24 [(0, va_rf l0), (2, va_rf l2), (3, .int l3), (4, .int l4)] [] h (qI Q) := by
  unfold b_X10_said_24 at hw
  refine V_iload 3 rfl dX10_said_24 ?_
  refine V_aload_n 0 rfl rfl dX10_said_26 ?_
  refine X_getI (c := 10) (k := 13) fa_X10_249 rfl dX10_said_27 hw (fun v3 hw => ?_)
  refine V_icmp_ge (tgt := 84) dX10_said_30 (by decide) hw (fun hw => ?_) (fun hw => ?_)
  · refine V_iload_n 2 rfl rfl dX10_said_84 ?_
    exact V_iret rfl dX10_said_85 ⟨_, rfl, hw⟩
  · refine V_aload_n 0 rfl rfl dX10_said_33 ?_
    refine X_getR (c := 10) (k := 2) fa_X10_23 rfl dX10_said_34 hw (fun v4 hw => ?_)
    refine V_iload 3 rfl dX10_said_37 ?_
    refine X_ldR dX10_said_39 hw (fun v5 hw => ?_)
    refine V_astore (i := 5) [(5, va_rf v5), (0, va_rf l0), (2, va_rf l2), (3, .int l3), (4, .int l4)] (by decide) rfl dX10_said_40 ?_
    refine V_aload 0 rfl dX10_said_42 ?_
    refine X_getR (c := 0) (k := 15) fa_X10_315 rfl dX10_said_44 hw (fun v6 hw => ?_)
    refine V_ifnull (tgt := 78) dX10_said_47 (by decide) hw (fun hw => ?_) (fun hw => ?_)
    · exact V.sub [1, 2, 3, 4] rfl (s_X10_said_78 hK24 hw)
    · refine V_aload 0 rfl dX10_said_50 ?_
      refine X_getR (c := 0) (k := 15) fa_X10_315 rfl dX10_said_52 hw (fun v8 hw => ?_)
      refine X_getR (c := 0) (k := 1) fa_X10_255 rfl dX10_said_55 hw (fun v9 hw => ?_)
      refine V_aload_n 2 rfl rfl dX10_said_58 ?_
      refine V_acmp_ne (tgt := 78) dX10_said_59 (by decide) hw (fun hw => ?_) (fun hw => ?_)
      · refine V_iload_n 3 rfl rfl dX10_said_62 ?_
        refine V_aload 0 rfl dX10_said_63 ?_
        refine V_aload 0 rfl dX10_said_65 ?_
        refine X_getR (c := 0) (k := 15) fa_X10_315 rfl dX10_said_67 hw (fun v10 hw => ?_)
        refine X_getI (c := 0) (k := 4) fa_X10_216 rfl dX10_said_70 hw (fun v11 hw => ?_)
        refine X_cV 0 [.int v11] [.int l3] ma_X10_381 (by decide) rfl (by decide) (by decide) rfl (by simp [cat_i, cat_l, rf_cat]) rfl dX10_said_73 hw (r_X0_saysAt _ _) (k_I (fun v12 h hw => ?_))
        refine V_iadd dX10_said_76 ?_
        refine V_ltI hw (fun x13 hw => ?_)
        refine V_istore_n (i := 3) [(3, .int x13), (5, va_rf v5), (0, va_rf l0), (2, va_rf l2), (4, .int l4)] rfl (by decide) (by simp [List.filter_cons, rf_cat, cat_i, cat_l]) dX10_said_77 ?_
        exact V.sub [2, 3, 0, 4] rfl (s_X10_said_78 hK24 hw)
      · exact V.sub [1, 2, 3, 4] rfl (s_X10_said_78 hK24 hw)
theorem s_X10_said_24 {l : Launch} {G : Gh} {l0 : Option Nat} {l2 : Option Nat} {l3 : Int32} {l4 : Int32} {h : Hp} {Q : Int32 → Hp → Prop}  (hw : l_X10_said_24 l0 l2 l3 l4 h Q) : V l G 3 yX10_said cX10_said 6 (some .int) 24 [(0, va_rf l0), (2, va_rf l2), (3, .int l3), (4, .int l4)] [] h (qI Q) :=
  Lo.ind (P := fun (s : Int32 × Int32) h => V l G 3 yX10_said cX10_said 6 (some .int) 24 [(0, va_rf l0), (2, va_rf l2), (3, .int s.1), (4, .int s.2)] [] h (qI Q)) (fun K ih s h hw => sb_X10_said_24 (fun l3 l4 h hk => ih (l3, l4) h hk) hw) hw
theorem s_X10_said_0 {l : Launch} {G : Gh} {l0 : Option Nat} {l1 : Int32} {h : Hp} {Q : Int32 → Hp → Prop}  (hw : n_X10_said_0 l0 l1 h Q) : V l G 3 yX10_said cX10_said 6 (some .int) 0 [(0, va_rf l0), (1, .int l1)] [] h (qI Q) := by
  unfold n_X10_said_0 at hw
  refine V_aload_n 0 rfl rfl dX10_said_0 ?_
  refine V_iload_n 1 rfl rfl dX10_said_1 ?_
  refine X_cV 10 [.int l1] [] ma_X10_91 (by decide) rfl (by decide) (by decide) rfl (by simp [cat_i, cat_l, rf_cat]) rfl dX10_said_2 hw (r_X10_placeAt _ _) (k_R (fun v1 h hw => ?_))
  refine V_astore_n (i := 2) [(2, va_rf v1), (0, va_rf l0), (1, .int l1)] rfl (by decide) rfl dX10_said_5 ?_
  refine V_aload_n 0 rfl rfl dX10_said_6 ?_
  refine V_ifnull (tgt := 17) dX10_said_7 (by decide) hw (fun hw => ?_) (fun hw => ?_)
  · exact V.sub [] rfl (s_X10_said_17 hw)
  · refine V_aload_n 0 rfl rfl dX10_said_10 ?_
    refine X_getI (c := 5) (k := 8) fa_X10_134 rfl dX10_said_11 hw (fun v2 hw => ?_)
    refine V_if_ne (tgt := 19) dX10_said_14 (by decide) hw (fun hw => ?_) (fun hw => ?_)
    · exact V.sub [] rfl (s_X10_said_17 hw)
    · refine V_iconst (v := 0) (by decide) dX10_said_19 ?_
      refine V_istore_n (i := 3) [(3, .int 0), (2, va_rf v1), (0, va_rf l0), (1, .int l1)] rfl (by decide) (by simp [List.filter_cons, rf_cat, cat_i, cat_l]) dX10_said_20 ?_
      refine V_iconst (v := 0) (by decide) dX10_said_21 ?_
      refine V_istore (i := 4) [(4, .int 0), (3, .int 0), (2, va_rf v1), (0, va_rf l0), (1, .int l1)] (by decide) rfl dX10_said_22 ?_
      exact V.sub [3, 2, 1, 0] rfl (s_X10_said_24 hw)
theorem r_X10_said {l : Launch} {G : Gh} (l0 : Option Nat) (l1 : Int32) {h : Hp} {Q : Int32 → Hp → Prop} (hw : w_X10_said l0 l1 h Q) : RunQ l G 3 yX10_said cX10_said 6 (some .int) [va_rf l0, .int l1] h (qI Q) :=
  V_run rfl (sl_len _ _ (by simp [cat_i, cat_l, rf_cat])) (V.sub [0, 1] (by simp only [la_r, la_i, la_l, la_n]; rfl) (s_X10_said_0 hw))
def n_X10_says_19 (l0 : Option Nat) (h : Hp) (Q : Int32 → Hp → Prop) : Prop :=
  oV h l0 11 <| w_X10_refuse l0 (-1) h <| fun v2 h =>
  Q v2 h
def n_X10_says_0 (l0 : Option Nat) (l1 : Int32) (l2 : Int32) (h : Hp) (Q : Int32 → Hp → Prop) : Prop :=
  oV h l0 11 <| w_X10_shelfAt l0 l1 h <| fun v1 h =>
  br (v1 = none) (
    n_X10_says_19 l0 h Q) (
    w_X10_isIn l2 0 3 h <| fun v3 h =>
    br (v3 = 0) (
      n_X10_says_19 l0 h Q) (
      oV h v1 10 <| w_X9_hasRow v1 h <| fun v4 h =>
      br (v4 = 0) (
        gR h v1 10 1155 fun v5 =>
        br (v5 = none) (
          oV h l0 11 <| w_X10_refuse l0 (-3) h <| fun v6 h =>
          Q v6 h) (
          oV h v5 1 <| w_X0_isOf v5 l2 h <| fun v7 h =>
          br (v7 = 0) (
            oV h l0 11 <| w_X10_refuse l0 (-2) h <| fun v8 h =>
            Q v8 h) (
            br (l2 = 1) (
              gI h v5 1 11 fun v9 =>
              Q v9 h) <|
            br (l2 = 2) (
              oV h v5 1 <| w_X0_partCount v5 h <| fun v10 h =>
              Q v10 h) <|
            br (l2 = 3) (
              oV h v5 1 <| w_X0_partCount v5 h <| fun v11 h =>
              Q (100 + v11) h) <|
            gI h v5 1 4 fun v12 =>
            Q v12 h))) (
        oV h l0 11 <| w_X10_refuse l0 (-2) h <| fun v13 h =>
        Q v13 h)))
def w_X10_says (l0 : Option Nat) (l1 : Int32) (l2 : Int32) (h : Hp) (Q : Int32 → Hp → Prop) : Prop := n_X10_says_0 l0 l1 l2 h Q
theorem s_X10_says_19 {l : Launch} {G : Gh} {l0 : Option Nat} {h : Hp} {Q : Int32 → Hp → Prop}  (hw : n_X10_says_19 l0 h Q) : V l G 3 yX10_says cX10_says 5 (some .int) 19 [(0, va_rf l0)] [] h (qI Q) := by
  unfold n_X10_says_19 at hw
  refine V_aload_n 0 rfl rfl dX10_says_19 ?_
  refine V_iconst (v := (-1)) (by decide) dX10_says_20 ?_
  refine X_cV 10 [.int (-1)] [] ma_X10_95 (by decide) rfl (by decide) (by decide) rfl (by simp [cat_i, cat_l, rf_cat]) rfl dX10_says_21 hw (r_X10_refuse _ _) (k_I (fun v2 h hw => ?_))
  exact V_iret rfl dX10_says_24 ⟨_, rfl, hw⟩
set_option maxRecDepth 20000 in
theorem s_X10_says_0 {l : Launch} {G : Gh} {l0 : Option Nat} {l1 : Int32} {l2 : Int32} {h : Hp} {Q : Int32 → Hp → Prop}  (hw : n_X10_says_0 l0 l1 l2 h Q) : V l G 3 yX10_says cX10_says 5 (some .int) 0 [(0, va_rf l0), (1, .int l1), (2, .int l2)] [] h (qI Q) := by
  unfold n_X10_says_0 at hw
  refine V_aload_n 0 rfl rfl dX10_says_0 ?_
  refine V_iload_n 1 rfl rfl dX10_says_1 ?_
  refine X_cV 10 [.int l1] [] ma_X10_156 (by decide) rfl (by decide) (by decide) rfl (by simp [cat_i, cat_l, rf_cat]) rfl dX10_says_2 hw (r_X10_shelfAt _ _) (k_R (fun v1 h hw => ?_))
  refine V_astore_n (i := 3) [(3, va_rf v1), (0, va_rf l0), (1, .int l1), (2, .int l2)] rfl (by decide) rfl dX10_says_5 ?_
  refine V_aload_n 0 rfl rfl dX10_says_6 ?_
  refine V_ifnull (tgt := 19) dX10_says_7 (by decide) hw (fun hw => ?_) (fun hw => ?_)
  · exact V.sub [1] rfl (s_X10_says_19 hw)
  · refine V_iload_n 3 rfl rfl dX10_says_10 ?_
    refine V_iconst (v := 0) (by decide) dX10_says_11 ?_
    refine V_iconst (v := 3) (by decide) dX10_says_12 ?_
    refine X_cS [.int l2, .int 0, .int 3] [] ma_X10_99 (by decide) (by decide) rfl (by simp [cat_i, cat_l, rf_cat]) rfl dX10_says_13 (r_X10_isIn _ _ _ hw) (k_I (fun v3 h hw => ?_))
    refine V_if_ne (tgt := 25) dX10_says_16 (by decide) hw (fun hw => ?_) (fun hw => ?_)
    · exact V.sub [1] rfl (s_X10_says_19 hw)
    · refine V_aload_n 0 rfl rfl dX10_says_25 ?_
      refine X_cV 9 [] [] ma_X10_186 (by decide) rfl (by decide) (by decide) rfl (by simp [cat_i, cat_l, rf_cat]) rfl dX10_says_26 hw (r_X9_hasRow _) (k_I (fun v4 h hw => ?_))
      refine V_if_eq (tgt := 39) dX10_says_29 (by decide) hw (fun hw => ?_) (fun hw => ?_)
      · refine V_aload_n 0 rfl rfl dX10_says_39 ?_
        refine X_getR (c := 9) (k := 3) fa_X10_182 rfl dX10_says_40 hw (fun v5 hw => ?_)
        refine V_astore (i := 4) [(4, va_rf v5), (3, va_rf v1), (0, va_rf l0), (1, .int l1), (2, .int l2)] (by decide) (by simp [List.filter_cons, rf_cat, cat_i, cat_l]) dX10_says_43 ?_
        refine V_aload 0 rfl dX10_says_45 ?_
        refine V_ifnonnull (tgt := 57) dX10_says_47 (by decide) hw (fun hw => ?_) (fun hw => ?_)
        · refine V_aload_n 2 rfl rfl dX10_says_50 ?_
          refine V_bipush (v := (-3)) (by decide) dX10_says_51 ?_
          refine X_cV 10 [.int (-3)] [] ma_X10_95 (by decide) rfl (by decide) (by decide) rfl (by simp [cat_i, cat_l, rf_cat]) rfl dX10_says_53 hw (r_X10_refuse _ _) (k_I (fun v6 h hw => ?_))
          exact V_iret rfl dX10_says_56 ⟨_, rfl, hw⟩
        · refine V_aload 0 rfl dX10_says_57 ?_
          refine V_iload_n 4 rfl rfl dX10_says_59 ?_
          refine X_cV 0 [.int l2] [] ma_X10_205 (by decide) rfl (by decide) (by decide) rfl (by simp [cat_i, cat_l, rf_cat]) rfl dX10_says_60 hw (r_X0_isOf _ _) (k_I (fun v7 h hw => ?_))
          refine V_if_ne (tgt := 73) dX10_says_63 (by decide) hw (fun hw => ?_) (fun hw => ?_)
          · refine V_aload_n 2 rfl rfl dX10_says_66 ?_
            refine V_bipush (v := (-2)) (by decide) dX10_says_67 ?_
            refine X_cV 10 [.int (-2)] [] ma_X10_95 (by decide) rfl (by decide) (by decide) rfl (by simp [cat_i, cat_l, rf_cat]) rfl dX10_says_69 hw (r_X10_refuse _ _) (k_I (fun v8 h hw => ?_))
            exact V_iret rfl dX10_says_72 ⟨_, rfl, hw⟩
          · refine V_iload_n 4 rfl rfl dX10_says_73 ?_
            by_cases c1 : l2 = 1
            · replace hw := hw.1 c1
              refine V_tsw 100 dX10_says_74 (by rw [c1]; exact Or.inr ⟨by decide, by decide, _, rfl, by decide⟩) ?_
              refine V_aload 0 rfl dX10_says_100 ?_
              refine X_getI (c := 0) (k := 11) fa_X10_209 rfl dX10_says_102 hw (fun v9 hw => ?_)
              exact V_iret rfl dX10_says_105 ⟨_, rfl, hw⟩
            replace hw := hw.2 c1
            by_cases c2 : l2 = 2
            · replace hw := hw.1 c2
              refine V_tsw 106 dX10_says_74 (by rw [c2]; exact Or.inr ⟨by decide, by decide, _, rfl, by decide⟩) ?_
              refine V_aload 0 rfl dX10_says_106 ?_
              refine X_cV 0 [] [] ma_X10_212 (by decide) rfl (by decide) (by decide) rfl (by simp [cat_i, cat_l, rf_cat]) rfl dX10_says_108 hw (r_X0_partCount _) (k_I (fun v10 h hw => ?_))
              exact V_iret rfl dX10_says_111 ⟨_, rfl, hw⟩
            replace hw := hw.2 c2
            by_cases c3 : l2 = 3
            · replace hw := hw.1 c3
              refine V_tsw 112 dX10_says_74 (by rw [c3]; exact Or.inr ⟨by decide, by decide, _, rfl, by decide⟩) ?_
              refine V_bipush (v := 100) (by decide) dX10_says_112 ?_
              refine V_aload 0 rfl dX10_says_114 ?_
              refine X_cV 0 [] [.int 100] ma_X10_212 (by decide) rfl (by decide) (by decide) rfl (by simp [cat_i, cat_l, rf_cat]) rfl dX10_says_116 hw (r_X0_partCount _) (k_I (fun v11 h hw => ?_))
              refine V_iadd dX10_says_119 ?_
              exact V_iret rfl dX10_says_120 ⟨_, rfl, hw⟩
            replace hw := hw.2 c3
            have hout : l2.toInt < 1 ∨ 3 < l2.toInt := by
              refine sw_out (fun v h1 h2 => ?_)
              rcases (show v = 1 ∨ v = 2 ∨ v = 3 by omega) with rfl | rfl | rfl
              · exact c1
              · exact c2
              · exact c3
            refine V_tsw 121 dX10_says_74 (Or.inl ⟨hout, by decide⟩) ?_
            refine V_aload 0 rfl dX10_says_121 ?_
            refine X_getI (c := 0) (k := 4) fa_X10_216 rfl dX10_says_123 hw (fun v12 hw => ?_)
            exact V_iret rfl dX10_says_126 ⟨_, rfl, hw⟩
      · refine V_aload_n 1 rfl rfl dX10_says_32 ?_
        refine V_bipush (v := (-2)) (by decide) dX10_says_33 ?_
        refine X_cV 10 [.int (-2)] [] ma_X10_95 (by decide) rfl (by decide) (by decide) rfl (by simp [cat_i, cat_l, rf_cat]) rfl dX10_says_35 hw (r_X10_refuse _ _) (k_I (fun v13 h hw => ?_))
        exact V_iret rfl dX10_says_38 ⟨_, rfl, hw⟩
theorem r_X10_says {l : Launch} {G : Gh} (l0 : Option Nat) (l1 : Int32) (l2 : Int32) {h : Hp} {Q : Int32 → Hp → Prop} (hw : w_X10_says l0 l1 l2 h Q) : RunQ l G 3 yX10_says cX10_says 5 (some .int) [va_rf l0, .int l1, .int l2] h (qI Q) :=
  V_run rfl (sl_len _ _ (by simp [cat_i, cat_l, rf_cat])) (V.sub [0, 1, 2] (by simp only [la_r, la_i, la_l, la_n]; rfl) (s_X10_says_0 hw))
def n_X10_set_24 (l0 : Option Nat) (l6 : Int32) (h : Hp) (Q : Int32 → Hp → Prop) : Prop :=
  oV h l0 11 <| w_X10_refuse l0 l6 h <| fun v3 h =>
  Q v3 h
def n_X10_set_0 (l0 : Option Nat) (l1 : Int32) (l2 : Int32) (l3 : Int64) (h : Hp) (Q : Int32 → Hp → Prop) : Prop :=
  oV h l0 11 <| w_X10_shelfAt l0 l1 h <| fun v1 h =>
  w_X10_rowTrouble v1 h <| fun v2 h =>
  br (v1 = none) (
    n_X10_set_24 l0 v2 h Q) (
    br (v2 = 0) (
      gI h v1 10 1154 fun v4 =>
      w_X10_isIn l2 0 (v4 - 1) h <| fun v5 h =>
      br (v5 = 0) (
        oV h l0 11 <| w_X10_refuse l0 (-5) h <| fun v6 h =>
        Q v6 h) (
        gR h v1 10 1152 fun v7 =>
        gI h v1 10 1153 fun v8 =>
        w_X10_narrowed v8 l3 h <| fun v9 h =>
        stL h v7 l2 v9 fun h =>
        Q 1 h)) (
      n_X10_set_24 l0 v2 h Q))
def w_X10_set (l0 : Option Nat) (l1 : Int32) (l2 : Int32) (l3 : Int64) (h : Hp) (Q : Int32 → Hp → Prop) : Prop := n_X10_set_0 l0 l1 l2 l3 h Q
theorem s_X10_set_24 {l : Launch} {G : Gh} {l0 : Option Nat} {l6 : Int32} {h : Hp} {Q : Int32 → Hp → Prop}  (hw : n_X10_set_24 l0 l6 h Q) : V l G 3 yX10_set cX10_set 7 (some .int) 24 [(0, va_rf l0), (6, .int l6)] [] h (qI Q) := by
  unfold n_X10_set_24 at hw
  refine V_aload_n 0 rfl rfl dX10_set_24 ?_
  refine V_iload 1 rfl dX10_set_25 ?_
  refine X_cV 10 [.int l6] [] ma_X10_95 (by decide) rfl (by decide) (by decide) rfl (by simp [cat_i, cat_l, rf_cat]) rfl dX10_set_27 hw (r_X10_refuse _ _) (k_I (fun v3 h hw => ?_))
  exact V_iret rfl dX10_set_30 ⟨_, rfl, hw⟩
theorem s_X10_set_0 {l : Launch} {G : Gh} {l0 : Option Nat} {l1 : Int32} {l2 : Int32} {l3 : Int64} {h : Hp} {Q : Int32 → Hp → Prop}  (hw : n_X10_set_0 l0 l1 l2 l3 h Q) : V l G 3 yX10_set cX10_set 7 (some .int) 0 [(0, va_rf l0), (1, .int l1), (2, .int l2), (3, .long l3)] [] h (qI Q) := by
  unfold n_X10_set_0 at hw
  refine V_aload_n 0 rfl rfl dX10_set_0 ?_
  refine V_iload_n 1 rfl rfl dX10_set_1 ?_
  refine X_cV 10 [.int l1] [] ma_X10_156 (by decide) rfl (by decide) (by decide) rfl (by simp [cat_i, cat_l, rf_cat]) rfl dX10_set_2 hw (r_X10_shelfAt _ _) (k_R (fun v1 h hw => ?_))
  refine V_astore (i := 5) [(5, va_rf v1), (0, va_rf l0), (1, .int l1), (2, .int l2), (3, .long l3)] (by decide) rfl dX10_set_5 ?_
  refine V_aload 0 rfl dX10_set_7 ?_
  refine X_cS [va_rf v1] [] ma_X10_164 (by decide) (by decide) rfl (by simp [cat_i, cat_l, rf_cat]) rfl dX10_set_9 (r_X10_rowTrouble _ hw) (k_I (fun v2 h hw => ?_))
  refine V_istore (i := 6) [(6, .int v2), (5, va_rf v1), (0, va_rf l0), (1, .int l1), (2, .int l2), (3, .long l3)] (by decide) (by simp [List.filter_cons, rf_cat, cat_i, cat_l]) dX10_set_12 ?_
  refine V_aload 1 rfl dX10_set_14 ?_
  refine V_ifnull (tgt := 24) dX10_set_16 (by decide) hw (fun hw => ?_) (fun hw => ?_)
  · exact V.sub [2, 0] rfl (s_X10_set_24 hw)
  · refine V_iload 0 rfl dX10_set_19 ?_
    refine V_if_eq (tgt := 31) dX10_set_21 (by decide) hw (fun hw => ?_) (fun hw => ?_)
    · refine V_iload_n 4 rfl rfl dX10_set_31 ?_
      refine V_iconst (v := 0) (by decide) dX10_set_32 ?_
      refine V_aload 1 rfl dX10_set_33 ?_
      refine X_getI (c := 9) (k := 2) fa_X10_168 rfl dX10_set_35 hw (fun v4 hw => ?_)
      refine V_iconst (v := 1) (by decide) dX10_set_38 ?_
      refine V_isub dX10_set_39 ?_
      refine X_cS [.int l2, .int 0, .int (v4 - 1)] [] ma_X10_99 (by decide) (by decide) rfl (by simp [cat_i, cat_l, rf_cat]) rfl dX10_set_40 (r_X10_isIn _ _ _ hw) (k_I (fun v5 h hw => ?_))
      refine V_if_ne (tgt := 53) dX10_set_43 (by decide) hw (fun hw => ?_) (fun hw => ?_)
      · refine V_aload_n 2 rfl rfl dX10_set_46 ?_
        refine V_bipush (v := (-5)) (by decide) dX10_set_47 ?_
        refine X_cV 10 [.int (-5)] [] ma_X10_95 (by decide) rfl (by decide) (by decide) rfl (by simp [cat_i, cat_l, rf_cat]) rfl dX10_set_49 hw (r_X10_refuse _ _) (k_I (fun v6 h hw => ?_))
        exact V_iret rfl dX10_set_52 ⟨_, rfl, hw⟩
      · refine V_aload 1 rfl dX10_set_53 ?_
        refine X_getR (c := 9) (k := 0) fa_X10_171 rfl dX10_set_55 hw (fun v7 hw => ?_)
        refine V_iload_n 4 rfl rfl dX10_set_58 ?_
        refine V_aload 1 rfl dX10_set_59 ?_
        refine X_getI (c := 9) (k := 1) fa_X10_175 rfl dX10_set_61 hw (fun v8 hw => ?_)
        refine V_lload_n 5 rfl rfl dX10_set_64 ?_
        refine X_cS [.int v8, .long l3] [.int l2, va_rf v7] ma_X10_178 (by decide) (by decide) rfl (by simp [cat_i, cat_l, rf_cat]) rfl dX10_set_65 (r_X10_narrowed _ _ hw) (k_L (fun v9 h hw => ?_))
        refine X_stL dX10_set_68 hw (fun h hw => ?_)
        refine V_iconst (v := 1) (by decide) dX10_set_69 ?_
        exact V_iret rfl dX10_set_70 ⟨_, rfl, hw⟩
    · exact V.sub [2, 0] rfl (s_X10_set_24 hw)
theorem r_X10_set {l : Launch} {G : Gh} (l0 : Option Nat) (l1 : Int32) (l2 : Int32) (l3 : Int64) {h : Hp} {Q : Int32 → Hp → Prop} (hw : w_X10_set l0 l1 l2 l3 h Q) : RunQ l G 3 yX10_set cX10_set 7 (some .int) [va_rf l0, .int l1, .int l2, .long l3] h (qI Q) :=
  V_run rfl (sl_len _ _ (by simp [cat_i, cat_l, rf_cat])) (V.sub [0, 1, 2, 3] (by simp only [la_r, la_i, la_l, la_n]; rfl) (s_X10_set_0 hw))
def n_X9_takeAsk_0 (l0 : Option Nat) (l1 : Option Nat) (h : Hp) (Q : Hp → Prop) : Prop :=
  pR h l0 10 1155 l1 fun h =>
  pI h l0 10 1153 (-1) fun h =>
  pI h l0 10 1154 0 fun h =>
  Q h
def w_X9_takeAsk (l0 : Option Nat) (l1 : Option Nat) (h : Hp) (Q : Hp → Prop) : Prop := n_X9_takeAsk_0 l0 l1 h Q
theorem s_X9_takeAsk_0 {l : Launch} {G : Gh} {l0 : Option Nat} {l1 : Option Nat} {h : Hp} {Q : Hp → Prop}  (hw : n_X9_takeAsk_0 l0 l1 h Q) : V l G 1 yX9_takeAsk cX9_takeAsk 2 none 0 [(0, va_rf l0), (1, va_rf l1)] [] h (qV Q) := by
  unfold n_X9_takeAsk_0 at hw
  refine V_aload_n 0 rfl rfl dX9_takeAsk_0 ?_
  refine V_aload_n 1 rfl rfl dX9_takeAsk_1 ?_
  refine X_putR (c := 9) (k := 3) fa_X9_19 (Or.inl rfl) (Or.inl ⟨_, rfl⟩) dX9_takeAsk_2 hw (fun h hw => ?_)
  refine V_aload_n 0 rfl rfl dX9_takeAsk_5 ?_
  refine V_iconst (v := (-1)) (by decide) dX9_takeAsk_6 ?_
  refine X_putI (c := 9) (k := 1) fa_X9_15 (Or.inl rfl) rfl dX9_takeAsk_7 hw (fun h hw => ?_)
  refine V_aload_n 0 rfl rfl dX9_takeAsk_10 ?_
  refine V_iconst (v := 0) (by decide) dX9_takeAsk_11 ?_
  refine X_putI (c := 9) (k := 2) fa_X9_23 (Or.inl rfl) rfl dX9_takeAsk_12 hw (fun h hw => ?_)
  exact V_vret rfl dX9_takeAsk_15 ⟨rfl, hw⟩
theorem r_X9_takeAsk {l : Launch} {G : Gh} (l0 : Option Nat) (l1 : Option Nat) {h : Hp} {Q : Hp → Prop} (hw : w_X9_takeAsk l0 l1 h Q) : RunQ l G 1 yX9_takeAsk cX9_takeAsk 2 none [va_rf l0, va_rf l1] h (qV Q) :=
  V_run rfl (sl_len _ _ (by simp [cat_i, cat_l, rf_cat])) (V.sub [0, 1] (by simp only [la_r, la_i, la_l, la_n]; rfl) (s_X9_takeAsk_0 hw))
def n_X10_show_27 (l0 : Option Nat) (h : Hp) (Q : Int32 → Hp → Prop) : Prop :=
  oV h l0 11 <| w_X10_refuse l0 (-1) h <| fun v3 h =>
  Q v3 h
def n_X10_show_49 (s0 : Int32) (h : Hp) (Q : Int32 → Hp → Prop) : Prop :=
  w_X10_bit s0 h <| fun v5 h =>
  Q v5 h
def n_X10_show_33 (l3 : Option Nat) (l4 : Option Nat) (h : Hp) (Q : Int32 → Hp → Prop) : Prop :=
  oV h l3 10 <| w_X9_takeAsk l3 l4 h <| fun h =>
  br (l4 = none) (
    n_X10_show_49 0 h Q) (
    n_X10_show_49 1 h Q)
def n_X10_show_0 (l0 : Option Nat) (l1 : Int32) (l2 : Int32) (h : Hp) (Q : Int32 → Hp → Prop) : Prop :=
  oV h l0 11 <| w_X10_shelfAt l0 l1 h <| fun v1 h =>
  oV h l0 11 <| w_X10_askAt l0 l2 h <| fun v2 h =>
  br (v1 = none) (
    n_X10_show_27 l0 h Q) (
    br (v2 = none) (
      br (l2 = (-1)) (
        n_X10_show_33 v1 v2 h Q) (
        n_X10_show_27 l0 h Q)) (
      n_X10_show_33 v1 v2 h Q))
def w_X10_show (l0 : Option Nat) (l1 : Int32) (l2 : Int32) (h : Hp) (Q : Int32 → Hp → Prop) : Prop := n_X10_show_0 l0 l1 l2 h Q
theorem s_X10_show_27 {l : Launch} {G : Gh} {l0 : Option Nat} {h : Hp} {Q : Int32 → Hp → Prop}  (hw : n_X10_show_27 l0 h Q) : V l G 3 yX10_show cX10_show 5 (some .int) 27 [(0, va_rf l0)] [] h (qI Q) := by
  unfold n_X10_show_27 at hw
  refine V_aload_n 0 rfl rfl dX10_show_27 ?_
  refine V_iconst (v := (-1)) (by decide) dX10_show_28 ?_
  refine X_cV 10 [.int (-1)] [] ma_X10_95 (by decide) rfl (by decide) (by decide) rfl (by simp [cat_i, cat_l, rf_cat]) rfl dX10_show_29 hw (r_X10_refuse _ _) (k_I (fun v3 h hw => ?_))
  exact V_iret rfl dX10_show_32 ⟨_, rfl, hw⟩
theorem s_X10_show_49 {l : Launch} {G : Gh} {s0 : Int32} {h : Hp} {Q : Int32 → Hp → Prop}  (hw : n_X10_show_49 s0 h Q) : V l G 3 yX10_show cX10_show 5 (some .int) 49 [] [.int s0] h (qI Q) := by
  unfold n_X10_show_49 at hw
  refine X_cS [.int s0] [] ma_X10_138 (by decide) (by decide) rfl (by simp [cat_i, cat_l, rf_cat]) rfl dX10_show_49 (r_X10_bit _ hw) (k_I (fun v5 h hw => ?_))
  exact V_iret rfl dX10_show_52 ⟨_, rfl, hw⟩
theorem s_X10_show_33 {l : Launch} {G : Gh} {l3 : Option Nat} {l4 : Option Nat} {h : Hp} {Q : Int32 → Hp → Prop}  (hw : n_X10_show_33 l3 l4 h Q) : V l G 3 yX10_show cX10_show 5 (some .int) 33 [(3, va_rf l3), (4, va_rf l4)] [] h (qI Q) := by
  unfold n_X10_show_33 at hw
  refine V_aload_n 0 rfl rfl dX10_show_33 ?_
  refine V_aload 1 rfl dX10_show_34 ?_
  refine X_cV 9 [va_rf l4] [] ma_X10_200 (by decide) rfl (by decide) (by decide) rfl (by simp [cat_i, cat_l, rf_cat]) rfl dX10_show_36 hw (r_X9_takeAsk _ _) (k_V (fun h hw => ?_))
  refine V_aload 1 rfl dX10_show_39 ?_
  refine V_ifnull (tgt := 48) dX10_show_41 (by decide) hw (fun hw => ?_) (fun hw => ?_)
  · refine V_iconst (v := 0) (by decide) dX10_show_48 ?_
    exact V.sub [] rfl (s_X10_show_49 hw)
  · refine V_iconst (v := 1) (by decide) dX10_show_44 ?_
    refine V_goto (tgt := 49) dX10_show_45 (by decide) ?_
    exact V.sub [] rfl (s_X10_show_49 hw)
theorem s_X10_show_0 {l : Launch} {G : Gh} {l0 : Option Nat} {l1 : Int32} {l2 : Int32} {h : Hp} {Q : Int32 → Hp → Prop}  (hw : n_X10_show_0 l0 l1 l2 h Q) : V l G 3 yX10_show cX10_show 5 (some .int) 0 [(0, va_rf l0), (1, .int l1), (2, .int l2)] [] h (qI Q) := by
  unfold n_X10_show_0 at hw
  refine V_aload_n 0 rfl rfl dX10_show_0 ?_
  refine V_iload_n 1 rfl rfl dX10_show_1 ?_
  refine X_cV 10 [.int l1] [] ma_X10_156 (by decide) rfl (by decide) (by decide) rfl (by simp [cat_i, cat_l, rf_cat]) rfl dX10_show_2 hw (r_X10_shelfAt _ _) (k_R (fun v1 h hw => ?_))
  refine V_astore_n (i := 3) [(3, va_rf v1), (0, va_rf l0), (1, .int l1), (2, .int l2)] rfl (by decide) rfl dX10_show_5 ?_
  refine V_aload_n 1 rfl rfl dX10_show_6 ?_
  refine V_iload_n 3 rfl rfl dX10_show_7 ?_
  refine X_cV 10 [.int l2] [] ma_X10_196 (by decide) rfl (by decide) (by decide) rfl (by simp [cat_i, cat_l, rf_cat]) rfl dX10_show_8 hw (r_X10_askAt _ _) (k_R (fun v2 h hw => ?_))
  refine V_astore (i := 4) [(4, va_rf v2), (3, va_rf v1), (0, va_rf l0), (1, .int l1), (2, .int l2)] (by decide) (by simp [List.filter_cons, rf_cat, cat_i, cat_l]) dX10_show_11 ?_
  refine V_aload_n 1 rfl rfl dX10_show_13 ?_
  refine V_ifnull (tgt := 27) dX10_show_14 (by decide) hw (fun hw => ?_) (fun hw => ?_)
  · exact V.sub [2] rfl (s_X10_show_27 hw)
  · refine V_aload 0 rfl dX10_show_17 ?_
    refine V_ifnonnull (tgt := 33) dX10_show_19 (by decide) hw (fun hw => ?_) (fun hw => ?_)
    · refine V_iload_n 4 rfl rfl dX10_show_22 ?_
      refine V_iconst (v := (-1)) (by decide) dX10_show_23 ?_
      refine V_icmp_eq (tgt := 33) dX10_show_24 (by decide) hw (fun hw => ?_) (fun hw => ?_)
      · exact V.sub [1, 0] rfl (s_X10_show_33 hw)
      · exact V.sub [2] rfl (s_X10_show_27 hw)
    · exact V.sub [1, 0] rfl (s_X10_show_33 hw)
theorem r_X10_show {l : Launch} {G : Gh} (l0 : Option Nat) (l1 : Int32) (l2 : Int32) {h : Hp} {Q : Int32 → Hp → Prop} (hw : w_X10_show l0 l1 l2 h Q) : RunQ l G 3 yX10_show cX10_show 5 (some .int) [va_rf l0, .int l1, .int l2] h (qI Q) :=
  V_run rfl (sl_len _ _ (by simp [cat_i, cat_l, rf_cat])) (V.sub [0, 1, 2] (by simp only [la_r, la_i, la_l, la_n]; rfl) (s_X10_show_0 hw))
def n_X10_status_95 (l0 : Option Nat) (l1 : Int32) (h : Hp) (Q : Int32 → Hp → Prop) : Prop :=
  oV h l0 11 <| w_X10_asksWith l0 l1 h <| fun v8 h =>
  Q v8 h
def n_X10_status_126 (s0 : Int32) (h : Hp) (Q : Int32 → Hp → Prop) : Prop :=
  Q s0 h
def n_X10_status_0 (l0 : Option Nat) (l1 : Int32) (h : Hp) (Q : Int32 → Hp → Prop) : Prop :=
  br (l1 = 0) (
    gI h l0 11 1292 fun v1 =>
    Q v1 h) <|
  br (l1 = 1) (
    gI h l0 11 1293 fun v2 =>
    Q v2 h) <|
  br (l1 = 2) (
    gI h l0 11 1294 fun v3 =>
    Q v3 h) <|
  br (l1 = 3) (
    gI h l0 11 1295 fun v4 =>
    Q v4 h) <|
  br (l1 = 4) (
    gI h l0 11 1296 fun v5 =>
    Q v5 h) <|
  br (l1 = 5) (
    gI h l0 11 1297 fun v6 =>
    Q v6 h) <|
  br (l1 = 6) (
    oV h l0 11 <| w_X10_booksMade l0 h <| fun v7 h =>
    Q v7 h) <|
  br (l1 = 7) (
    n_X10_status_95 l0 l1 h Q) <|
  br (l1 = 8) (
    n_X10_status_95 l0 l1 h Q) <|
  br (l1 = 9) (
    n_X10_status_95 l0 l1 h Q) <|
  br (l1 = 10) (
    n_X10_status_95 l0 l1 h Q) <|
  lt (l1 - 11) fun x9 =>
  w_X10_isIn x9 0 6 h <| fun v10 h =>
  br (v10 = 0) (
    n_X10_status_126 (-1) h Q) (
    gR h l0 11 1286 fun v11 =>
    ldI h v11 x9 fun v12 =>
    n_X10_status_126 v12 h Q)
def w_X10_status (l0 : Option Nat) (l1 : Int32) (h : Hp) (Q : Int32 → Hp → Prop) : Prop := n_X10_status_0 l0 l1 h Q
theorem s_X10_status_95 {l : Launch} {G : Gh} {l0 : Option Nat} {l1 : Int32} {h : Hp} {Q : Int32 → Hp → Prop}  (hw : n_X10_status_95 l0 l1 h Q) : V l G 3 yX10_status cX10_status 3 (some .int) 95 [(0, va_rf l0), (1, .int l1)] [] h (qI Q) := by
  unfold n_X10_status_95 at hw
  refine V_aload_n 0 rfl rfl dX10_status_95 ?_
  refine V_iload_n 1 rfl rfl dX10_status_96 ?_
  refine X_cV 10 [.int l1] [] ma_X10_523 (by decide) rfl (by decide) (by decide) rfl (by simp [cat_i, cat_l, rf_cat]) rfl dX10_status_97 hw (r_X10_asksWith _ _) (k_I (fun v8 h hw => ?_))
  exact V_iret rfl dX10_status_100 ⟨_, rfl, hw⟩
theorem s_X10_status_126 {l : Launch} {G : Gh} {s0 : Int32} {h : Hp} {Q : Int32 → Hp → Prop}  (hw : n_X10_status_126 s0 h Q) : V l G 3 yX10_status cX10_status 3 (some .int) 126 [] [.int s0] h (qI Q) := by
  unfold n_X10_status_126 at hw
  exact V_iret rfl dX10_status_126 ⟨_, rfl, hw⟩
set_option maxRecDepth 20000 in
theorem s_X10_status_0 {l : Launch} {G : Gh} {l0 : Option Nat} {l1 : Int32} {h : Hp} {Q : Int32 → Hp → Prop}  (hw : n_X10_status_0 l0 l1 h Q) : V l G 3 yX10_status cX10_status 3 (some .int) 0 [(0, va_rf l0), (1, .int l1)] [] h (qI Q) := by
  unfold n_X10_status_0 at hw
  refine V_iload_n 1 rfl rfl dX10_status_0 ?_
  by_cases c0 : l1 = 0
  · replace hw := hw.1 c0
    refine V_tsw 60 dX10_status_1 (by rw [c0]; exact Or.inr ⟨by decide, by decide, _, rfl, by decide⟩) ?_
    refine V_aload_n 0 rfl rfl dX10_status_60 ?_
    refine X_getI (c := 10) (k := 12) fa_X10_88 rfl dX10_status_61 hw (fun v1 hw => ?_)
    exact V_iret rfl dX10_status_64 ⟨_, rfl, hw⟩
  replace hw := hw.2 c0
  by_cases c1 : l1 = 1
  · replace hw := hw.1 c1
    refine V_tsw 65 dX10_status_1 (by rw [c1]; exact Or.inr ⟨by decide, by decide, _, rfl, by decide⟩) ?_
    refine V_aload_n 0 rfl rfl dX10_status_65 ?_
    refine X_getI (c := 10) (k := 13) fa_X10_249 rfl dX10_status_66 hw (fun v2 hw => ?_)
    exact V_iret rfl dX10_status_69 ⟨_, rfl, hw⟩
  replace hw := hw.2 c1
  by_cases c2 : l1 = 2
  · replace hw := hw.1 c2
    refine V_tsw 70 dX10_status_1 (by rw [c2]; exact Or.inr ⟨by decide, by decide, _, rfl, by decide⟩) ?_
    refine V_aload_n 0 rfl rfl dX10_status_70 ?_
    refine X_getI (c := 10) (k := 14) fa_X10_219 rfl dX10_status_71 hw (fun v3 hw => ?_)
    exact V_iret rfl dX10_status_74 ⟨_, rfl, hw⟩
  replace hw := hw.2 c2
  by_cases c3 : l1 = 3
  · replace hw := hw.1 c3
    refine V_tsw 75 dX10_status_1 (by rw [c3]; exact Or.inr ⟨by decide, by decide, _, rfl, by decide⟩) ?_
    refine V_aload_n 0 rfl rfl dX10_status_75 ?_
    refine X_getI (c := 10) (k := 15) fa_X10_346 rfl dX10_status_76 hw (fun v4 hw => ?_)
    exact V_iret rfl dX10_status_79 ⟨_, rfl, hw⟩
  replace hw := hw.2 c3
  by_cases c4 : l1 = 4
  · replace hw := hw.1 c4
    refine V_tsw 80 dX10_status_1 (by rw [c4]; exact Or.inr ⟨by decide, by decide, _, rfl, by decide⟩) ?_
    refine V_aload_n 0 rfl rfl dX10_status_80 ?_
    refine X_getI (c := 10) (k := 16) fa_X10_450 rfl dX10_status_81 hw (fun v5 hw => ?_)
    exact V_iret rfl dX10_status_84 ⟨_, rfl, hw⟩
  replace hw := hw.2 c4
  by_cases c5 : l1 = 5
  · replace hw := hw.1 c5
    refine V_tsw 85 dX10_status_1 (by rw [c5]; exact Or.inr ⟨by decide, by decide, _, rfl, by decide⟩) ?_
    refine V_aload_n 0 rfl rfl dX10_status_85 ?_
    refine X_getI (c := 10) (k := 17) fa_X10_114 rfl dX10_status_86 hw (fun v6 hw => ?_)
    exact V_iret rfl dX10_status_89 ⟨_, rfl, hw⟩
  replace hw := hw.2 c5
  by_cases c6 : l1 = 6
  · replace hw := hw.1 c6
    refine V_tsw 90 dX10_status_1 (by rw [c6]; exact Or.inr ⟨by decide, by decide, _, rfl, by decide⟩) ?_
    refine V_aload_n 0 rfl rfl dX10_status_90 ?_
    refine X_cV 10 [] [] ma_X10_520 (by decide) rfl (by decide) (by decide) rfl (by simp [cat_i, cat_l, rf_cat]) rfl dX10_status_91 hw (r_X10_booksMade _) (k_I (fun v7 h hw => ?_))
    exact V_iret rfl dX10_status_94 ⟨_, rfl, hw⟩
  replace hw := hw.2 c6
  by_cases c7 : l1 = 7
  · replace hw := hw.1 c7
    refine V_tsw 95 dX10_status_1 (by rw [c7]; exact Or.inr ⟨by decide, by decide, _, rfl, by decide⟩) ?_
    exact V.sub [0, 1] rfl (s_X10_status_95 hw)
  replace hw := hw.2 c7
  by_cases c8 : l1 = 8
  · replace hw := hw.1 c8
    refine V_tsw 95 dX10_status_1 (by rw [c8]; exact Or.inr ⟨by decide, by decide, _, rfl, by decide⟩) ?_
    exact V.sub [0, 1] rfl (s_X10_status_95 hw)
  replace hw := hw.2 c8
  by_cases c9 : l1 = 9
  · replace hw := hw.1 c9
    refine V_tsw 95 dX10_status_1 (by rw [c9]; exact Or.inr ⟨by decide, by decide, _, rfl, by decide⟩) ?_
    exact V.sub [0, 1] rfl (s_X10_status_95 hw)
  replace hw := hw.2 c9
  by_cases c10 : l1 = 10
  · replace hw := hw.1 c10
    refine V_tsw 95 dX10_status_1 (by rw [c10]; exact Or.inr ⟨by decide, by decide, _, rfl, by decide⟩) ?_
    exact V.sub [0, 1] rfl (s_X10_status_95 hw)
  replace hw := hw.2 c10
  have hout : l1.toInt < 0 ∨ 10 < l1.toInt := by
    refine sw_out (fun v h1 h2 => ?_)
    rcases (show v = 0 ∨ v = 1 ∨ v = 2 ∨ v = 3 ∨ v = 4 ∨ v = 5 ∨ v = 6 ∨ v = 7 ∨ v = 8 ∨ v = 9 ∨ v = 10 by omega) with rfl | rfl | rfl | rfl | rfl | rfl | rfl | rfl | rfl | rfl | rfl
    · exact c0
    · exact c1
    · exact c2
    · exact c3
    · exact c4
    · exact c5
    · exact c6
    · exact c7
    · exact c8
    · exact c9
    · exact c10
  refine V_tsw 101 dX10_status_1 (Or.inl ⟨hout, by decide⟩) ?_
  refine V_iload_n 1 rfl rfl dX10_status_101 ?_
  refine V_bipush (v := 11) (by decide) dX10_status_102 ?_
  refine V_isub dX10_status_104 ?_
  refine V_ltI hw (fun x9 hw => ?_)
  refine V_istore_n (i := 2) [(2, .int x9), (0, va_rf l0), (1, .int l1)] rfl (by decide) rfl dX10_status_105 ?_
  refine V_iload_n 0 rfl rfl dX10_status_106 ?_
  refine V_iconst (v := 0) (by decide) dX10_status_107 ?_
  refine V_bipush (v := 6) (by decide) dX10_status_108 ?_
  refine X_cS [.int x9, .int 0, .int 6] [] ma_X10_99 (by decide) (by decide) rfl (by simp [cat_i, cat_l, rf_cat]) rfl dX10_status_110 (r_X10_isIn _ _ _ hw) (k_I (fun v10 h hw => ?_))
  refine V_if_eq (tgt := 125) dX10_status_113 (by decide) hw (fun hw => ?_) (fun hw => ?_)
  · refine V_iconst (v := (-1)) (by decide) dX10_status_125 ?_
    exact V.sub [] rfl (s_X10_status_126 hw)
  · refine V_aload_n 1 rfl rfl dX10_status_116 ?_
    refine X_getR (c := 10) (k := 6) fa_X10_45 rfl dX10_status_117 hw (fun v11 hw => ?_)
    refine V_iload_n 0 rfl rfl dX10_status_120 ?_
    refine X_ldI dX10_status_121 hw (fun v12 hw => ?_)
    refine V_goto (tgt := 126) dX10_status_122 (by decide) ?_
    exact V.sub [] rfl (s_X10_status_126 hw)
theorem r_X10_status {l : Launch} {G : Gh} (l0 : Option Nat) (l1 : Int32) {h : Hp} {Q : Int32 → Hp → Prop} (hw : w_X10_status l0 l1 h Q) : RunQ l G 3 yX10_status cX10_status 3 (some .int) [va_rf l0, .int l1] h (qI Q) :=
  V_run rfl (sl_len _ _ (by simp [cat_i, cat_l, rf_cat])) (V.sub [0, 1] (by simp only [la_r, la_i, la_l, la_n]; rfl) (s_X10_status_0 hw))
def n_X10_strike_0 (l0 : Option Nat) (l1 : Int32) (h : Hp) (Q : Int32 → Hp → Prop) : Prop :=
  gI h l0 11 1295 fun v1 =>
  w_X10_isIn l1 0 (v1 - 1) h <| fun v2 h =>
  br (v2 = 0) (
    oV h l0 11 <| w_X10_refuse l0 (-1) h <| fun v3 h =>
    Q v3 h) (
    gR h l0 11 1284 fun v4 =>
    ldR h v4 l1 fun v5 =>
    gI h v5 8 900 fun v6 =>
    br (v6 = (-1)) (
      gI h l0 11 1297 fun v7 =>
      pI h v5 8 900 v7 fun h =>
      Q 1 h) (
      oV h l0 11 <| w_X10_refuse l0 (-6) h <| fun v8 h =>
      Q v8 h))
def w_X10_strike (l0 : Option Nat) (l1 : Int32) (h : Hp) (Q : Int32 → Hp → Prop) : Prop := n_X10_strike_0 l0 l1 h Q
theorem s_X10_strike_0 {l : Launch} {G : Gh} {l0 : Option Nat} {l1 : Int32} {h : Hp} {Q : Int32 → Hp → Prop}  (hw : n_X10_strike_0 l0 l1 h Q) : V l G 3 yX10_strike cX10_strike 3 (some .int) 0 [(0, va_rf l0), (1, .int l1)] [] h (qI Q) := by
  unfold n_X10_strike_0 at hw
  refine V_iload_n 1 rfl rfl dX10_strike_0 ?_
  refine V_iconst (v := 0) (by decide) dX10_strike_1 ?_
  refine V_aload_n 0 rfl rfl dX10_strike_2 ?_
  refine X_getI (c := 10) (k := 15) fa_X10_346 rfl dX10_strike_3 hw (fun v1 hw => ?_)
  refine V_iconst (v := 1) (by decide) dX10_strike_6 ?_
  refine V_isub dX10_strike_7 ?_
  refine X_cS [.int l1, .int 0, .int (v1 - 1)] [] ma_X10_99 (by decide) (by decide) rfl (by simp [cat_i, cat_l, rf_cat]) rfl dX10_strike_8 (r_X10_isIn _ _ _ hw) (k_I (fun v2 h hw => ?_))
  refine V_if_ne (tgt := 20) dX10_strike_11 (by decide) hw (fun hw => ?_) (fun hw => ?_)
  · refine V_aload_n 0 rfl rfl dX10_strike_14 ?_
    refine V_iconst (v := (-1)) (by decide) dX10_strike_15 ?_
    refine X_cV 10 [.int (-1)] [] ma_X10_95 (by decide) rfl (by decide) (by decide) rfl (by simp [cat_i, cat_l, rf_cat]) rfl dX10_strike_16 hw (r_X10_refuse _ _) (k_I (fun v3 h hw => ?_))
    exact V_iret rfl dX10_strike_19 ⟨_, rfl, hw⟩
  · refine V_aload_n 0 rfl rfl dX10_strike_20 ?_
    refine X_getR (c := 10) (k := 4) fa_X10_35 rfl dX10_strike_21 hw (fun v4 hw => ?_)
    refine V_iload_n 1 rfl rfl dX10_strike_24 ?_
    refine X_ldR dX10_strike_25 hw (fun v5 hw => ?_)
    refine V_astore_n (i := 2) [(2, va_rf v5), (0, va_rf l0), (1, .int l1)] rfl (by decide) rfl dX10_strike_26 ?_
    refine V_aload_n 0 rfl rfl dX10_strike_27 ?_
    refine X_getI (c := 7) (k := 4) fa_X10_352 rfl dX10_strike_28 hw (fun v6 hw => ?_)
    refine V_iconst (v := (-1)) (by decide) dX10_strike_31 ?_
    refine V_icmp_eq (tgt := 42) dX10_strike_32 (by decide) hw (fun hw => ?_) (fun hw => ?_)
    · refine V_aload_n 0 rfl rfl dX10_strike_42 ?_
      refine V_aload_n 1 rfl rfl dX10_strike_43 ?_
      refine X_getI (c := 10) (k := 17) fa_X10_114 rfl dX10_strike_44 hw (fun v7 hw => ?_)
      refine X_putI (c := 7) (k := 4) fa_X10_352 (Or.inl rfl) rfl dX10_strike_47 hw (fun h hw => ?_)
      refine V_iconst (v := 1) (by decide) dX10_strike_50 ?_
      exact V_iret rfl dX10_strike_51 ⟨_, rfl, hw⟩
    · refine V_aload_n 1 rfl rfl dX10_strike_35 ?_
      refine V_bipush (v := (-6)) (by decide) dX10_strike_36 ?_
      refine X_cV 10 [.int (-6)] [] ma_X10_95 (by decide) rfl (by decide) (by decide) rfl (by simp [cat_i, cat_l, rf_cat]) rfl dX10_strike_38 hw (r_X10_refuse _ _) (k_I (fun v8 h hw => ?_))
      exact V_iret rfl dX10_strike_41 ⟨_, rfl, hw⟩
theorem r_X10_strike {l : Launch} {G : Gh} (l0 : Option Nat) (l1 : Int32) {h : Hp} {Q : Int32 → Hp → Prop} (hw : w_X10_strike l0 l1 h Q) : RunQ l G 3 yX10_strike cX10_strike 3 (some .int) [va_rf l0, .int l1] h (qI Q) :=
  V_run rfl (sl_len _ _ (by simp [cat_i, cat_l, rf_cat])) (V.sub [0, 1] (by simp only [la_r, la_i, la_l, la_n]; rfl) (s_X10_strike_0 hw))
def n_X10_tear_65 (l0 : Option Nat) (h : Hp) (Q : Int32 → Hp → Prop) : Prop :=
  oV h l0 11 <| w_X10_refuse l0 (-6) h <| fun v6 h =>
  Q v6 h
def n_X10_tear_130 (l0 : Option Nat) (l2 : Int32) (l3 : Option Nat) (l4 : Int32) (l5 : Int32) (l6 : Int32) (h : Hp) (Q : Int32 → Hp → Prop) (K83 : Int32 → Int32 → Hp → Prop) : Prop :=
  lt (l6 + 1) fun x18 =>
  K83 l5 x18 h
def n_X10_tear_124 (l0 : Option Nat) (l2 : Int32) (l3 : Option Nat) (l4 : Int32) (l5 : Int32) (l6 : Int32) (s0 : Int32) (s1 : Option Nat) (h : Hp) (Q : Int32 → Hp → Prop) (K83 : Int32 → Int32 → Hp → Prop) : Prop :=
  pZ h s1 1 13 s0 fun h =>
  lt (l5 + 1) fun x17 =>
  n_X10_tear_130 l0 l2 l3 l4 x17 l6 h Q K83
def b_X10_tear_83 (l0 : Option Nat) (l2 : Int32) (l3 : Option Nat) (l4 : Int32) (l5 : Int32) (l6 : Int32) (h : Hp) (Q : Int32 → Hp → Prop) (K83 : Int32 → Int32 → Hp → Prop) : Prop :=
  gI h l0 11 1293 fun v11 =>
  br (v11 ≤ l6) (
    Q (l4 - l2) h) (
    gR h l0 11 1282 fun v12 =>
    ldR h v12 l6 fun v13 =>
    gR h v13 1 1 fun v14 =>
    br (v14 = l3) (
      gR h l0 11 1282 fun v15 =>
      ldR h v15 l6 fun v16 =>
      br (l5 < l2) (
        n_X10_tear_124 l0 l2 l3 l4 l5 l6 0 v16 h Q K83) (
        n_X10_tear_124 l0 l2 l3 l4 l5 l6 1 v16 h Q K83)) (
      n_X10_tear_130 l0 l2 l3 l4 l5 l6 h Q K83))
def l_X10_tear_83 (l0 : Option Nat) (l2 : Int32) (l3 : Option Nat) (l4 : Int32) (l5 : Int32) (l6 : Int32) (h : Hp) (Q : Int32 → Hp → Prop) : Prop :=
  Lo (fun (K : Int32 × Int32 → Hp → Prop) s h => b_X10_tear_83 l0 l2 l3 l4 s.1 s.2 h Q (fun l5 l6 h => K (l5, l6) h)) (l5, l6) h
def n_X10_tear_0 (l0 : Option Nat) (l1 : Int32) (l2 : Int32) (h : Hp) (Q : Int32 → Hp → Prop) : Prop :=
  oV h l0 11 <| w_X10_placeAt l0 l1 h <| fun v1 h =>
  br (v1 = none) (
    oV h l0 11 <| w_X10_refuse l0 (-1) h <| fun v2 h =>
    Q v2 h) (
    oV h l0 11 <| w_X10_sizeOfBook l0 v1 h <| fun v3 h =>
    gI h v1 6 641 fun v4 =>
    br (v4 = 0) (
      w_X10_isIn l2 0 v3 h <| fun v5 h =>
      br (v5 = 0) (
        n_X10_tear_65 l0 h Q) (
        gI h v1 6 649 fun v7 =>
        br (v7 = (-1)) (
          gR h v1 6 642 fun v8 =>
          br (v8 = none) (
            n_X10_tear_65 l0 h Q) (
            gR h v1 6 642 fun v9 =>
            gI h v9 6 648 fun v10 =>
            br (v10 = 0) (
              pI h v1 6 649 l2 fun h =>
              l_X10_tear_83 l0 l2 v1 v3 0 0 h Q) (
              n_X10_tear_65 l0 h Q))) (
          n_X10_tear_65 l0 h Q))) (
      n_X10_tear_65 l0 h Q))
def w_X10_tear (l0 : Option Nat) (l1 : Int32) (l2 : Int32) (h : Hp) (Q : Int32 → Hp → Prop) : Prop := n_X10_tear_0 l0 l1 l2 h Q
theorem s_X10_tear_65 {l : Launch} {G : Gh} {l0 : Option Nat} {h : Hp} {Q : Int32 → Hp → Prop}  (hw : n_X10_tear_65 l0 h Q) : V l G 3 yX10_tear cX10_tear 7 (some .int) 65 [(0, va_rf l0)] [] h (qI Q) := by
  unfold n_X10_tear_65 at hw
  refine V_aload_n 0 rfl rfl dX10_tear_65 ?_
  refine V_bipush (v := (-6)) (by decide) dX10_tear_66 ?_
  refine X_cV 10 [.int (-6)] [] ma_X10_95 (by decide) rfl (by decide) (by decide) rfl (by simp [cat_i, cat_l, rf_cat]) rfl dX10_tear_68 hw (r_X10_refuse _ _) (k_I (fun v6 h hw => ?_))
  exact V_iret rfl dX10_tear_71 ⟨_, rfl, hw⟩
theorem s_X10_tear_130 {l : Launch} {G : Gh} {l0 : Option Nat} {l2 : Int32} {l3 : Option Nat} {l4 : Int32} {l5 : Int32} {l6 : Int32} {h : Hp} {Q : Int32 → Hp → Prop} {K83 : Int32 → Int32 → Hp → Prop} (hK83 : ∀ (l5 : Int32) (l6 : Int32) (h : Hp), K83 l5 l6 h → V l G 3 yX10_tear cX10_tear 7 (some .int) 83 [(0, va_rf l0), (2, .int l2), (3, va_rf l3), (4, .int l4), (5, .int l5), (6, .int l6)] [] h (qI Q)) (hw : n_X10_tear_130 l0 l2 l3 l4 l5 l6 h Q K83) : V l G 3 yX10_tear cX10_tear 7 (some .int) 130 [(0, va_rf l0), (2, .int l2), (3, va_rf l3), (4, .int l4), (5, .int l5), (6, .int l6)] [] h (qI Q) := by
  unfold n_X10_tear_130 at hw
  refine V_iincL (n := 1) 5 (fun z => [(6, .int z), (0, va_rf l0), (2, .int l2), (3, va_rf l3), (4, .int l4), (5, .int l5)]) rfl (by rfl) (by decide) (fun _ => rfl) dX10_tear_130 hw (fun x18 hw => ?_)
  refine V_goto (tgt := 83) dX10_tear_133 (by decide) ?_
  exact V.sub [1, 2, 3, 4, 5, 0] rfl (hK83 _ _ _ hw)
theorem s_X10_tear_124 {l : Launch} {G : Gh} {l0 : Option Nat} {l2 : Int32} {l3 : Option Nat} {l4 : Int32} {l5 : Int32} {l6 : Int32} {s0 : Int32} {s1 : Option Nat} {h : Hp} {Q : Int32 → Hp → Prop} {K83 : Int32 → Int32 → Hp → Prop} (hK83 : ∀ (l5 : Int32) (l6 : Int32) (h : Hp), K83 l5 l6 h → V l G 3 yX10_tear cX10_tear 7 (some .int) 83 [(0, va_rf l0), (2, .int l2), (3, va_rf l3), (4, .int l4), (5, .int l5), (6, .int l6)] [] h (qI Q)) (hw : n_X10_tear_124 l0 l2 l3 l4 l5 l6 s0 s1 h Q K83) : V l G 3 yX10_tear cX10_tear 7 (some .int) 124 [(0, va_rf l0), (2, .int l2), (3, va_rf l3), (4, .int l4), (5, .int l5), (6, .int l6)] [.int s0, va_rf s1] h (qI Q) := by
  unfold n_X10_tear_124 at hw
  refine X_putZ (c := 0) (k := 13) fa_X10_306 (Or.inl rfl) rfl dX10_tear_124 hw (fun h hw => ?_)
  refine V_iincL (n := 1) 4 (fun z => [(5, .int z), (0, va_rf l0), (2, .int l2), (3, va_rf l3), (4, .int l4), (6, .int l6)]) rfl (by rfl) (by decide) (fun _ => rfl) dX10_tear_127 hw (fun x17 hw => ?_)
  exact V.sub [1, 2, 3, 4, 0, 5] rfl (s_X10_tear_130 hK83 hw)
theorem sb_X10_tear_83 {l : Launch} {G : Gh} {l0 : Option Nat} {l2 : Int32} {l3 : Option Nat} {l4 : Int32} {l5 : Int32} {l6 : Int32} {h : Hp} {Q : Int32 → Hp → Prop} {K83 : Int32 → Int32 → Hp → Prop} (hK83 : ∀ (l5 : Int32) (l6 : Int32) (h : Hp), K83 l5 l6 h → V l G 3 yX10_tear cX10_tear 7 (some .int) 83 [(0, va_rf l0), (2, .int l2), (3, va_rf l3), (4, .int l4), (5, .int l5), (6, .int l6)] [] h (qI Q)) (hw : b_X10_tear_83 l0 l2 l3 l4 l5 l6 h Q K83) : V l G 3 yX10_tear cX10_tear 7 (some .int) 83 [(0, va_rf l0), (2, .int l2), (3, va_rf l3), (4, .int l4), (5, .int l5), (6, .int l6)] [] h (qI Q) := by
  unfold b_X10_tear_83 at hw
  refine V_iload 5 rfl dX10_tear_83 ?_
  refine V_aload_n 0 rfl rfl dX10_tear_85 ?_
  refine X_getI (c := 10) (k := 13) fa_X10_249 rfl dX10_tear_86 hw (fun v11 hw => ?_)
  refine V_icmp_ge (tgt := 136) dX10_tear_89 (by decide) hw (fun hw => ?_) (fun hw => ?_)
  · refine V_iload 3 rfl dX10_tear_136 ?_
    refine V_iload_n 1 rfl rfl dX10_tear_138 ?_
    refine V_isub dX10_tear_139 ?_
    exact V_iret rfl dX10_tear_140 ⟨_, rfl, hw⟩
  · refine V_aload_n 0 rfl rfl dX10_tear_92 ?_
    refine X_getR (c := 10) (k := 2) fa_X10_23 rfl dX10_tear_93 hw (fun v12 hw => ?_)
    refine V_iload 5 rfl dX10_tear_96 ?_
    refine X_ldR dX10_tear_98 hw (fun v13 hw => ?_)
    refine X_getR (c := 0) (k := 1) fa_X10_255 rfl dX10_tear_99 hw (fun v14 hw => ?_)
    refine V_aload_n 2 rfl rfl dX10_tear_102 ?_
    refine V_acmp_ne (tgt := 130) dX10_tear_103 (by decide) hw (fun hw => ?_) (fun hw => ?_)
    · refine V_aload_n 0 rfl rfl dX10_tear_106 ?_
      refine X_getR (c := 10) (k := 2) fa_X10_23 rfl dX10_tear_107 hw (fun v15 hw => ?_)
      refine V_iload 5 rfl dX10_tear_110 ?_
      refine X_ldR dX10_tear_112 hw (fun v16 hw => ?_)
      refine V_iload 4 rfl dX10_tear_113 ?_
      refine V_iload_n 1 rfl rfl dX10_tear_115 ?_
      refine V_icmp_lt (tgt := 123) dX10_tear_116 (by decide) hw (fun hw => ?_) (fun hw => ?_)
      · refine V_iconst (v := 0) (by decide) dX10_tear_123 ?_
        exact V.sub [0, 1, 2, 3, 4, 5] rfl (s_X10_tear_124 hK83 hw)
      · refine V_iconst (v := 1) (by decide) dX10_tear_119 ?_
        refine V_goto (tgt := 124) dX10_tear_120 (by decide) ?_
        exact V.sub [0, 1, 2, 3, 4, 5] rfl (s_X10_tear_124 hK83 hw)
    · exact V.sub [0, 1, 2, 3, 4, 5] rfl (s_X10_tear_130 hK83 hw)
theorem s_X10_tear_83 {l : Launch} {G : Gh} {l0 : Option Nat} {l2 : Int32} {l3 : Option Nat} {l4 : Int32} {l5 : Int32} {l6 : Int32} {h : Hp} {Q : Int32 → Hp → Prop}  (hw : l_X10_tear_83 l0 l2 l3 l4 l5 l6 h Q) : V l G 3 yX10_tear cX10_tear 7 (some .int) 83 [(0, va_rf l0), (2, .int l2), (3, va_rf l3), (4, .int l4), (5, .int l5), (6, .int l6)] [] h (qI Q) :=
  Lo.ind (P := fun (s : Int32 × Int32) h => V l G 3 yX10_tear cX10_tear 7 (some .int) 83 [(0, va_rf l0), (2, .int l2), (3, va_rf l3), (4, .int l4), (5, .int s.1), (6, .int s.2)] [] h (qI Q)) (fun K ih s h hw => sb_X10_tear_83 (fun l5 l6 h hk => ih (l5, l6) h hk) hw) hw
set_option maxRecDepth 20000 in
theorem s_X10_tear_0 {l : Launch} {G : Gh} {l0 : Option Nat} {l1 : Int32} {l2 : Int32} {h : Hp} {Q : Int32 → Hp → Prop}  (hw : n_X10_tear_0 l0 l1 l2 h Q) : V l G 3 yX10_tear cX10_tear 7 (some .int) 0 [(0, va_rf l0), (1, .int l1), (2, .int l2)] [] h (qI Q) := by
  unfold n_X10_tear_0 at hw
  refine V_aload_n 0 rfl rfl dX10_tear_0 ?_
  refine V_iload_n 1 rfl rfl dX10_tear_1 ?_
  refine X_cV 10 [.int l1] [] ma_X10_91 (by decide) rfl (by decide) (by decide) rfl (by simp [cat_i, cat_l, rf_cat]) rfl dX10_tear_2 hw (r_X10_placeAt _ _) (k_R (fun v1 h hw => ?_))
  refine V_astore_n (i := 3) [(3, va_rf v1), (0, va_rf l0), (1, .int l1), (2, .int l2)] rfl (by decide) rfl dX10_tear_5 ?_
  refine V_aload_n 0 rfl rfl dX10_tear_6 ?_
  refine V_ifnonnull (tgt := 16) dX10_tear_7 (by decide) hw (fun hw => ?_) (fun hw => ?_)
  · refine V_aload_n 1 rfl rfl dX10_tear_10 ?_
    refine V_iconst (v := (-1)) (by decide) dX10_tear_11 ?_
    refine X_cV 10 [.int (-1)] [] ma_X10_95 (by decide) rfl (by decide) (by decide) rfl (by simp [cat_i, cat_l, rf_cat]) rfl dX10_tear_12 hw (r_X10_refuse _ _) (k_I (fun v2 h hw => ?_))
    exact V_iret rfl dX10_tear_15 ⟨_, rfl, hw⟩
  · refine V_aload_n 1 rfl rfl dX10_tear_16 ?_
    refine V_aload_n 0 rfl rfl dX10_tear_17 ?_
    refine X_cV 10 [va_rf v1] [] ma_X10_130 (by decide) rfl (by decide) (by decide) rfl (by simp [cat_i, cat_l, rf_cat]) rfl dX10_tear_18 hw (r_X10_sizeOfBook _ _) (k_I (fun v3 h hw => ?_))
    refine V_istore (i := 4) [(4, .int v3), (3, va_rf v1), (0, va_rf l0), (1, .int l1), (2, .int l2)] (by decide) (by simp [List.filter_cons, rf_cat, cat_i, cat_l]) dX10_tear_21 ?_
    refine V_aload_n 1 rfl rfl dX10_tear_23 ?_
    refine X_getI (c := 5) (k := 1) fa_X10_103 rfl dX10_tear_24 hw (fun v4 hw => ?_)
    refine V_if_ne (tgt := 65) dX10_tear_27 (by decide) hw (fun hw => ?_) (fun hw => ?_)
    · refine V_iload_n 4 rfl rfl dX10_tear_30 ?_
      refine V_iconst (v := 0) (by decide) dX10_tear_31 ?_
      refine V_iload 0 rfl dX10_tear_32 ?_
      refine X_cS [.int l2, .int 0, .int v3] [] ma_X10_99 (by decide) (by decide) rfl (by simp [cat_i, cat_l, rf_cat]) rfl dX10_tear_34 (r_X10_isIn _ _ _ hw) (k_I (fun v5 h hw => ?_))
      refine V_if_eq (tgt := 65) dX10_tear_37 (by decide) hw (fun hw => ?_) (fun hw => ?_)
      · exact V.sub [2] rfl (s_X10_tear_65 hw)
      · refine V_aload_n 1 rfl rfl dX10_tear_40 ?_
        refine X_getI (c := 5) (k := 9) fa_X10_147 rfl dX10_tear_41 hw (fun v7 hw => ?_)
        refine V_iconst (v := (-1)) (by decide) dX10_tear_44 ?_
        refine V_icmp_ne (tgt := 65) dX10_tear_45 (by decide) hw (fun hw => ?_) (fun hw => ?_)
        · refine V_aload_n 1 rfl rfl dX10_tear_48 ?_
          refine X_getR (c := 5) (k := 2) fa_X10_117 rfl dX10_tear_49 hw (fun v8 hw => ?_)
          refine V_ifnull (tgt := 65) dX10_tear_52 (by decide) hw (fun hw => ?_) (fun hw => ?_)
          · exact V.sub [2] rfl (s_X10_tear_65 hw)
          · refine V_aload_n 1 rfl rfl dX10_tear_55 ?_
            refine X_getR (c := 5) (k := 2) fa_X10_117 rfl dX10_tear_56 hw (fun v9 hw => ?_)
            refine X_getI (c := 5) (k := 8) fa_X10_134 rfl dX10_tear_59 hw (fun v10 hw => ?_)
            refine V_if_eq (tgt := 72) dX10_tear_62 (by decide) hw (fun hw => ?_) (fun hw => ?_)
            · refine V_aload_n 1 rfl rfl dX10_tear_72 ?_
              refine V_iload_n 4 rfl rfl dX10_tear_73 ?_
              refine X_putI (c := 5) (k := 9) fa_X10_147 (Or.inl rfl) rfl dX10_tear_74 hw (fun h hw => ?_)
              refine V_iconst (v := 0) (by decide) dX10_tear_77 ?_
              refine V_istore (i := 5) [(5, .int 0), (4, .int v3), (3, va_rf v1), (0, va_rf l0), (1, .int l1), (2, .int l2)] (by decide) rfl dX10_tear_78 ?_
              refine V_iconst (v := 0) (by decide) dX10_tear_80 ?_
              refine V_istore (i := 6) [(6, .int 0), (5, .int 0), (4, .int v3), (3, va_rf v1), (0, va_rf l0), (1, .int l1), (2, .int l2)] (by decide) rfl dX10_tear_81 ?_
              exact V.sub [4, 6, 3, 2, 1, 0] rfl (s_X10_tear_83 hw)
            · exact V.sub [2] rfl (s_X10_tear_65 hw)
        · exact V.sub [2] rfl (s_X10_tear_65 hw)
    · exact V.sub [2] rfl (s_X10_tear_65 hw)
theorem r_X10_tear {l : Launch} {G : Gh} (l0 : Option Nat) (l1 : Int32) (l2 : Int32) {h : Hp} {Q : Int32 → Hp → Prop} (hw : w_X10_tear l0 l1 l2 h Q) : RunQ l G 3 yX10_tear cX10_tear 7 (some .int) [va_rf l0, .int l1, .int l2] h (qI Q) :=
  V_run rfl (sl_len _ _ (by simp [cat_i, cat_l, rf_cat])) (V.sub [0, 1, 2] (by simp only [la_r, la_i, la_l, la_n]; rfl) (s_X10_tear_0 hw))
def n_X10_unbind_32 (l0 : Option Nat) (h : Hp) (Q : Int32 → Hp → Prop) : Prop :=
  oV h l0 11 <| w_X10_refuse l0 (-6) h <| fun v11 h =>
  Q v11 h
def n_X10_unbind_0 (l0 : Option Nat) (l1 : Int32) (h : Hp) (Q : Int32 → Hp → Prop) : Prop :=
  oV h l0 11 <| w_X10_askAt l0 l1 h <| fun v1 h =>
  br (v1 = none) (
    oV h l0 11 <| w_X10_refuse l0 (-1) h <| fun v2 h =>
    Q v2 h) (
    gI h v1 1 6 fun v3 =>
    br (v3 = 3) (
      gI h v1 1 18 fun v4 =>
      br (v4 = (-1)) (
        gI h l0 11 1297 fun v5 =>
        gR h v1 1 1 fun v6 =>
        gR h l0 11 1280 fun v7 =>
        ldR h v7 0 fun v8 =>
        w_X10_wayBetween v6 v8 h <| fun v9 h =>
        pI h v1 1 18 (v5 + v9) fun h =>
        gI h v1 1 18 fun v10 =>
        Q v10 h) (
        n_X10_unbind_32 l0 h Q)) (
      n_X10_unbind_32 l0 h Q))
def w_X10_unbind (l0 : Option Nat) (l1 : Int32) (h : Hp) (Q : Int32 → Hp → Prop) : Prop := n_X10_unbind_0 l0 l1 h Q
theorem s_X10_unbind_32 {l : Launch} {G : Gh} {l0 : Option Nat} {h : Hp} {Q : Int32 → Hp → Prop}  (hw : n_X10_unbind_32 l0 h Q) : V l G 3 yX10_unbind cX10_unbind 3 (some .int) 32 [(0, va_rf l0)] [] h (qI Q) := by
  unfold n_X10_unbind_32 at hw
  refine V_aload_n 0 rfl rfl dX10_unbind_32 ?_
  refine V_bipush (v := (-6)) (by decide) dX10_unbind_33 ?_
  refine X_cV 10 [.int (-6)] [] ma_X10_95 (by decide) rfl (by decide) (by decide) rfl (by simp [cat_i, cat_l, rf_cat]) rfl dX10_unbind_35 hw (r_X10_refuse _ _) (k_I (fun v11 h hw => ?_))
  exact V_iret rfl dX10_unbind_38 ⟨_, rfl, hw⟩
theorem s_X10_unbind_0 {l : Launch} {G : Gh} {l0 : Option Nat} {l1 : Int32} {h : Hp} {Q : Int32 → Hp → Prop}  (hw : n_X10_unbind_0 l0 l1 h Q) : V l G 3 yX10_unbind cX10_unbind 3 (some .int) 0 [(0, va_rf l0), (1, .int l1)] [] h (qI Q) := by
  unfold n_X10_unbind_0 at hw
  refine V_aload_n 0 rfl rfl dX10_unbind_0 ?_
  refine V_iload_n 1 rfl rfl dX10_unbind_1 ?_
  refine X_cV 10 [.int l1] [] ma_X10_196 (by decide) rfl (by decide) (by decide) rfl (by simp [cat_i, cat_l, rf_cat]) rfl dX10_unbind_2 hw (r_X10_askAt _ _) (k_R (fun v1 h hw => ?_))
  refine V_astore_n (i := 2) [(2, va_rf v1), (0, va_rf l0), (1, .int l1)] rfl (by decide) rfl dX10_unbind_5 ?_
  refine V_aload_n 0 rfl rfl dX10_unbind_6 ?_
  refine V_ifnonnull (tgt := 16) dX10_unbind_7 (by decide) hw (fun hw => ?_) (fun hw => ?_)
  · refine V_aload_n 1 rfl rfl dX10_unbind_10 ?_
    refine V_iconst (v := (-1)) (by decide) dX10_unbind_11 ?_
    refine X_cV 10 [.int (-1)] [] ma_X10_95 (by decide) rfl (by decide) (by decide) rfl (by simp [cat_i, cat_l, rf_cat]) rfl dX10_unbind_12 hw (r_X10_refuse _ _) (k_I (fun v2 h hw => ?_))
    exact V_iret rfl dX10_unbind_15 ⟨_, rfl, hw⟩
  · refine V_aload_n 0 rfl rfl dX10_unbind_16 ?_
    refine X_getI (c := 0) (k := 6) fa_X10_309 rfl dX10_unbind_17 hw (fun v3 hw => ?_)
    refine V_iconst (v := 3) (by decide) dX10_unbind_20 ?_
    refine V_icmp_ne (tgt := 32) dX10_unbind_21 (by decide) hw (fun hw => ?_) (fun hw => ?_)
    · refine V_aload_n 0 rfl rfl dX10_unbind_24 ?_
      refine X_getI (c := 0) (k := 18) fa_X10_463 rfl dX10_unbind_25 hw (fun v4 hw => ?_)
      refine V_iconst (v := (-1)) (by decide) dX10_unbind_28 ?_
      refine V_icmp_eq (tgt := 39) dX10_unbind_29 (by decide) hw (fun hw => ?_) (fun hw => ?_)
      · refine V_aload_n 0 rfl rfl dX10_unbind_39 ?_
        refine V_aload_n 1 rfl rfl dX10_unbind_40 ?_
        refine X_getI (c := 10) (k := 17) fa_X10_114 rfl dX10_unbind_41 hw (fun v5 hw => ?_)
        refine V_aload_n 0 rfl rfl dX10_unbind_44 ?_
        refine X_getR (c := 0) (k := 1) fa_X10_255 rfl dX10_unbind_45 hw (fun v6 hw => ?_)
        refine V_aload_n 1 rfl rfl dX10_unbind_48 ?_
        refine X_getR (c := 10) (k := 0) fa_X10_11 rfl dX10_unbind_49 hw (fun v7 hw => ?_)
        refine V_iconst (v := 0) (by decide) dX10_unbind_52 ?_
        refine X_ldR dX10_unbind_53 hw (fun v8 hw => ?_)
        refine X_cS [va_rf v6, va_rf v8] [.int v5, va_rf v1] ma_X10_110 (by decide) (by decide) rfl (by simp [cat_i, cat_l, rf_cat]) rfl dX10_unbind_54 (r_X10_wayBetween _ _ hw) (k_I (fun v9 h hw => ?_))
        refine V_iadd dX10_unbind_57 ?_
        refine X_putI (c := 0) (k := 18) fa_X10_463 (Or.inl rfl) rfl dX10_unbind_58 hw (fun h hw => ?_)
        refine V_aload_n 0 rfl rfl dX10_unbind_61 ?_
        refine X_getI (c := 0) (k := 18) fa_X10_463 rfl dX10_unbind_62 hw (fun v10 hw => ?_)
        exact V_iret rfl dX10_unbind_65 ⟨_, rfl, hw⟩
      · exact V.sub [1] rfl (s_X10_unbind_32 hw)
    · exact V.sub [1] rfl (s_X10_unbind_32 hw)
theorem r_X10_unbind {l : Launch} {G : Gh} (l0 : Option Nat) (l1 : Int32) {h : Hp} {Q : Int32 → Hp → Prop} (hw : w_X10_unbind l0 l1 h Q) : RunQ l G 3 yX10_unbind cX10_unbind 3 (some .int) [va_rf l0, .int l1] h (qI Q) :=
  V_run rfl (sl_len _ _ (by simp [cat_i, cat_l, rf_cat])) (V.sub [0, 1] (by simp only [la_r, la_i, la_l, la_n]; rfl) (s_X10_unbind_0 hw))
def n_X10_unchoose_71 (l4 : Int32) (h : Hp) (Q : Int32 → Hp → Prop) : Prop :=
  Q l4 h
def b_X10_unchoose_38 (l3 : Option Nat) (l4 : Int32) (l5 : Option Nat) (h : Hp) (Q : Int32 → Hp → Prop) (K38 : Int32 → Option Nat → Hp → Prop) : Prop :=
  br (l5 = none) (
    n_X10_unchoose_71 l4 h Q) (
    gR h l5 6 650 fun v5 =>
    br (v5 = l3) (
      pR h l5 6 650 none fun h =>
      lt (l4 + 1) fun x6 =>
      gR h l5 6 642 fun v7 =>
      K38 x6 v7 h) (
      n_X10_unchoose_71 l4 h Q))
def l_X10_unchoose_38 (l3 : Option Nat) (l4 : Int32) (l5 : Option Nat) (h : Hp) (Q : Int32 → Hp → Prop) : Prop :=
  Lo (fun (K : Int32 × Option Nat → Hp → Prop) s h => b_X10_unchoose_38 l3 s.1 s.2 h Q (fun l4 l5 h => K (l4, l5) h)) (l4, l5) h
def n_X10_unchoose_0 (l0 : Option Nat) (l1 : Int32) (h : Hp) (Q : Int32 → Hp → Prop) : Prop :=
  oV h l0 11 <| w_X10_placeAt l0 l1 h <| fun v1 h =>
  br (v1 = none) (
    oV h l0 11 <| w_X10_refuse l0 (-1) h <| fun v2 h =>
    Q v2 h) (
    gR h v1 6 650 fun v3 =>
    br (v3 = none) (
      oV h l0 11 <| w_X10_refuse l0 (-6) h <| fun v4 h =>
      Q v4 h) (
      l_X10_unchoose_38 v3 0 v1 h Q))
def w_X10_unchoose (l0 : Option Nat) (l1 : Int32) (h : Hp) (Q : Int32 → Hp → Prop) : Prop := n_X10_unchoose_0 l0 l1 h Q
theorem s_X10_unchoose_71 {l : Launch} {G : Gh} {l4 : Int32} {h : Hp} {Q : Int32 → Hp → Prop}  (hw : n_X10_unchoose_71 l4 h Q) : V l G 3 yX10_unchoose cX10_unchoose 6 (some .int) 71 [(4, .int l4)] [] h (qI Q) := by
  unfold n_X10_unchoose_71 at hw
  refine V_iload 0 rfl dX10_unchoose_71 ?_
  exact V_iret rfl dX10_unchoose_73 ⟨_, rfl, hw⟩
theorem sb_X10_unchoose_38 {l : Launch} {G : Gh} {l3 : Option Nat} {l4 : Int32} {l5 : Option Nat} {h : Hp} {Q : Int32 → Hp → Prop} {K38 : Int32 → Option Nat → Hp → Prop} (hK38 : ∀ (l4 : Int32) (l5 : Option Nat) (h : Hp), K38 l4 l5 h → V l G 3 yX10_unchoose cX10_unchoose 6 (some .int) 38 [(3, va_rf l3), (4, .int l4), (5, va_rf l5)] [] h (qI Q)) (hw : b_X10_unchoose_38 l3 l4 l5 h Q K38) : V l G 3 yX10_unchoose cX10_unchoose 6 (some .int) 38 [(3, va_rf l3), (4, .int l4), (5, va_rf l5)] [] h (qI Q) := by
  unfold b_X10_unchoose_38 at hw
  refine V_aload 2 rfl dX10_unchoose_38 ?_
  refine V_ifnull (tgt := 71) dX10_unchoose_40 (by decide) hw (fun hw => ?_) (fun hw => ?_)
  · exact V.sub [1] rfl (s_X10_unchoose_71 hw)
  · refine V_aload 2 rfl dX10_unchoose_43 ?_
    refine X_getR (c := 5) (k := 10) fa_X10_142 rfl dX10_unchoose_45 hw (fun v5 hw => ?_)
    refine V_aload_n 0 rfl rfl dX10_unchoose_48 ?_
    refine V_acmp_ne (tgt := 71) dX10_unchoose_49 (by decide) hw (fun hw => ?_) (fun hw => ?_)
    · refine V_aload 2 rfl dX10_unchoose_52 ?_
      refine V_null dX10_unchoose_54 ?_
      refine X_putR (c := 5) (k := 10) fa_X10_142 (Or.inl rfl) (Or.inl ⟨_, rfl⟩) dX10_unchoose_55 hw (fun h hw => ?_)
      refine V_iincL (n := 1) 1 (fun z => [(4, .int z), (3, va_rf l3), (5, va_rf l5)]) rfl (by rfl) (by decide) (fun _ => (by simp [List.filter_cons, rf_cat, cat_i, cat_l])) dX10_unchoose_58 hw (fun x6 hw => ?_)
      refine V_aload 2 rfl dX10_unchoose_61 ?_
      refine X_getR (c := 5) (k := 2) fa_X10_117 rfl dX10_unchoose_63 hw (fun v7 hw => ?_)
      refine V_astore (i := 5) [(5, va_rf v7), (4, .int x6), (3, va_rf l3)] (by decide) rfl dX10_unchoose_66 ?_
      refine V_goto (tgt := 38) dX10_unchoose_68 (by decide) ?_
      exact V.sub [2, 1, 0] rfl (hK38 _ _ _ hw)
    · exact V.sub [1] rfl (s_X10_unchoose_71 hw)
theorem s_X10_unchoose_38 {l : Launch} {G : Gh} {l3 : Option Nat} {l4 : Int32} {l5 : Option Nat} {h : Hp} {Q : Int32 → Hp → Prop}  (hw : l_X10_unchoose_38 l3 l4 l5 h Q) : V l G 3 yX10_unchoose cX10_unchoose 6 (some .int) 38 [(3, va_rf l3), (4, .int l4), (5, va_rf l5)] [] h (qI Q) :=
  Lo.ind (P := fun (s : Int32 × Option Nat) h => V l G 3 yX10_unchoose cX10_unchoose 6 (some .int) 38 [(3, va_rf l3), (4, .int s.1), (5, va_rf s.2)] [] h (qI Q)) (fun K ih s h hw => sb_X10_unchoose_38 (fun l4 l5 h hk => ih (l4, l5) h hk) hw) hw
theorem s_X10_unchoose_0 {l : Launch} {G : Gh} {l0 : Option Nat} {l1 : Int32} {h : Hp} {Q : Int32 → Hp → Prop}  (hw : n_X10_unchoose_0 l0 l1 h Q) : V l G 3 yX10_unchoose cX10_unchoose 6 (some .int) 0 [(0, va_rf l0), (1, .int l1)] [] h (qI Q) := by
  unfold n_X10_unchoose_0 at hw
  refine V_aload_n 0 rfl rfl dX10_unchoose_0 ?_
  refine V_iload_n 1 rfl rfl dX10_unchoose_1 ?_
  refine X_cV 10 [.int l1] [] ma_X10_91 (by decide) rfl (by decide) (by decide) rfl (by simp [cat_i, cat_l, rf_cat]) rfl dX10_unchoose_2 hw (r_X10_placeAt _ _) (k_R (fun v1 h hw => ?_))
  refine V_astore_n (i := 2) [(2, va_rf v1), (0, va_rf l0), (1, .int l1)] rfl (by decide) rfl dX10_unchoose_5 ?_
  refine V_aload_n 0 rfl rfl dX10_unchoose_6 ?_
  refine V_ifnonnull (tgt := 16) dX10_unchoose_7 (by decide) hw (fun hw => ?_) (fun hw => ?_)
  · refine V_aload_n 1 rfl rfl dX10_unchoose_10 ?_
    refine V_iconst (v := (-1)) (by decide) dX10_unchoose_11 ?_
    refine X_cV 10 [.int (-1)] [] ma_X10_95 (by decide) rfl (by decide) (by decide) rfl (by simp [cat_i, cat_l, rf_cat]) rfl dX10_unchoose_12 hw (r_X10_refuse _ _) (k_I (fun v2 h hw => ?_))
    exact V_iret rfl dX10_unchoose_15 ⟨_, rfl, hw⟩
  · refine V_aload_n 0 rfl rfl dX10_unchoose_16 ?_
    refine X_getR (c := 5) (k := 10) fa_X10_142 rfl dX10_unchoose_17 hw (fun v3 hw => ?_)
    refine V_astore_n (i := 3) [(3, va_rf v3), (2, va_rf v1), (0, va_rf l0), (1, .int l1)] rfl (by decide) (by simp [List.filter_cons, rf_cat, cat_i, cat_l]) dX10_unchoose_20 ?_
    refine V_aload_n 0 rfl rfl dX10_unchoose_21 ?_
    refine V_ifnonnull (tgt := 32) dX10_unchoose_22 (by decide) hw (fun hw => ?_) (fun hw => ?_)
    · refine V_aload_n 2 rfl rfl dX10_unchoose_25 ?_
      refine V_bipush (v := (-6)) (by decide) dX10_unchoose_26 ?_
      refine X_cV 10 [.int (-6)] [] ma_X10_95 (by decide) rfl (by decide) (by decide) rfl (by simp [cat_i, cat_l, rf_cat]) rfl dX10_unchoose_28 hw (r_X10_refuse _ _) (k_I (fun v4 h hw => ?_))
      exact V_iret rfl dX10_unchoose_31 ⟨_, rfl, hw⟩
    · refine V_iconst (v := 0) (by decide) dX10_unchoose_32 ?_
      refine V_istore (i := 4) [(4, .int 0), (3, va_rf v3), (2, va_rf v1), (0, va_rf l0), (1, .int l1)] (by decide) (by simp [List.filter_cons, rf_cat, cat_i, cat_l]) dX10_unchoose_33 ?_
      refine V_aload_n 2 rfl rfl dX10_unchoose_35 ?_
      refine V_astore (i := 5) [(5, va_rf v1), (4, .int 0), (3, va_rf v3), (2, va_rf v1), (0, va_rf l0), (1, .int l1)] (by decide) rfl dX10_unchoose_36 ?_
      exact V.sub [2, 1, 0] rfl (s_X10_unchoose_38 hw)
theorem r_X10_unchoose {l : Launch} {G : Gh} (l0 : Option Nat) (l1 : Int32) {h : Hp} {Q : Int32 → Hp → Prop} (hw : w_X10_unchoose l0 l1 h Q) : RunQ l G 3 yX10_unchoose cX10_unchoose 6 (some .int) [va_rf l0, .int l1] h (qI Q) :=
  V_run rfl (sl_len _ _ (by simp [cat_i, cat_l, rf_cat])) (V.sub [0, 1] (by simp only [la_r, la_i, la_l, la_n]; rfl) (s_X10_unchoose_0 hw))
def n_X10_vote_38 (l0 : Option Nat) (h : Hp) (Q : Int32 → Hp → Prop) : Prop :=
  oV h l0 11 <| w_X10_refuse l0 (-6) h <| fun v4 h =>
  Q v4 h
def n_X10_vote_0 (l0 : Option Nat) (l1 : Int32) (l2 : Int32) (l3 : Int32) (h : Hp) (Q : Int32 → Hp → Prop) : Prop :=
  oV h l0 11 <| w_X10_placeAt l0 l1 h <| fun v1 h =>
  br (v1 = none) (
    oV h l0 11 <| w_X10_refuse l0 (-1) h <| fun v2 h =>
    Q v2 h) (
    w_X10_isIn l2 0 15 h <| fun v3 h =>
    br (v3 = 0) (
      n_X10_vote_38 l0 h Q) (
      w_X10_isIn l3 0 99 h <| fun v5 h =>
      br (v5 = 0) (
        n_X10_vote_38 l0 h Q) (
        gR h v1 6 645 fun v6 =>
        ldI h v6 l2 fun v7 =>
        gR h v1 6 645 fun v8 =>
        stI h v8 l2 l3 fun h =>
        Q v7 h)))
def w_X10_vote (l0 : Option Nat) (l1 : Int32) (l2 : Int32) (l3 : Int32) (h : Hp) (Q : Int32 → Hp → Prop) : Prop := n_X10_vote_0 l0 l1 l2 l3 h Q
theorem s_X10_vote_38 {l : Launch} {G : Gh} {l0 : Option Nat} {h : Hp} {Q : Int32 → Hp → Prop}  (hw : n_X10_vote_38 l0 h Q) : V l G 3 yX10_vote cX10_vote 6 (some .int) 38 [(0, va_rf l0)] [] h (qI Q) := by
  unfold n_X10_vote_38 at hw
  refine V_aload_n 0 rfl rfl dX10_vote_38 ?_
  refine V_bipush (v := (-6)) (by decide) dX10_vote_39 ?_
  refine X_cV 10 [.int (-6)] [] ma_X10_95 (by decide) rfl (by decide) (by decide) rfl (by simp [cat_i, cat_l, rf_cat]) rfl dX10_vote_41 hw (r_X10_refuse _ _) (k_I (fun v4 h hw => ?_))
  exact V_iret rfl dX10_vote_44 ⟨_, rfl, hw⟩
theorem s_X10_vote_0 {l : Launch} {G : Gh} {l0 : Option Nat} {l1 : Int32} {l2 : Int32} {l3 : Int32} {h : Hp} {Q : Int32 → Hp → Prop}  (hw : n_X10_vote_0 l0 l1 l2 l3 h Q) : V l G 3 yX10_vote cX10_vote 6 (some .int) 0 [(0, va_rf l0), (1, .int l1), (2, .int l2), (3, .int l3)] [] h (qI Q) := by
  unfold n_X10_vote_0 at hw
  refine V_aload_n 0 rfl rfl dX10_vote_0 ?_
  refine V_iload_n 1 rfl rfl dX10_vote_1 ?_
  refine X_cV 10 [.int l1] [] ma_X10_91 (by decide) rfl (by decide) (by decide) rfl (by simp [cat_i, cat_l, rf_cat]) rfl dX10_vote_2 hw (r_X10_placeAt _ _) (k_R (fun v1 h hw => ?_))
  refine V_astore (i := 4) [(4, va_rf v1), (0, va_rf l0), (1, .int l1), (2, .int l2), (3, .int l3)] (by decide) rfl dX10_vote_5 ?_
  refine V_aload 0 rfl dX10_vote_7 ?_
  refine V_ifnonnull (tgt := 18) dX10_vote_9 (by decide) hw (fun hw => ?_) (fun hw => ?_)
  · refine V_aload_n 1 rfl rfl dX10_vote_12 ?_
    refine V_iconst (v := (-1)) (by decide) dX10_vote_13 ?_
    refine X_cV 10 [.int (-1)] [] ma_X10_95 (by decide) rfl (by decide) (by decide) rfl (by simp [cat_i, cat_l, rf_cat]) rfl dX10_vote_14 hw (r_X10_refuse _ _) (k_I (fun v2 h hw => ?_))
    exact V_iret rfl dX10_vote_17 ⟨_, rfl, hw⟩
  · refine V_iload_n 3 rfl rfl dX10_vote_18 ?_
    refine V_iconst (v := 0) (by decide) dX10_vote_19 ?_
    refine V_bipush (v := 15) (by decide) dX10_vote_20 ?_
    refine X_cS [.int l2, .int 0, .int 15] [] ma_X10_99 (by decide) (by decide) rfl (by simp [cat_i, cat_l, rf_cat]) rfl dX10_vote_22 (r_X10_isIn _ _ _ hw) (k_I (fun v3 h hw => ?_))
    refine V_if_eq (tgt := 38) dX10_vote_25 (by decide) hw (fun hw => ?_) (fun hw => ?_)
    · exact V.sub [1] rfl (s_X10_vote_38 hw)
    · refine V_iload_n 4 rfl rfl dX10_vote_28 ?_
      refine V_iconst (v := 0) (by decide) dX10_vote_29 ?_
      refine V_bipush (v := 99) (by decide) dX10_vote_30 ?_
      refine X_cS [.int l3, .int 0, .int 99] [] ma_X10_99 (by decide) (by decide) rfl (by simp [cat_i, cat_l, rf_cat]) rfl dX10_vote_32 (r_X10_isIn _ _ _ hw) (k_I (fun v5 h hw => ?_))
      refine V_if_ne (tgt := 45) dX10_vote_35 (by decide) hw (fun hw => ?_) (fun hw => ?_)
      · exact V.sub [1] rfl (s_X10_vote_38 hw)
      · refine V_aload 0 rfl dX10_vote_45 ?_
        refine X_getR (c := 5) (k := 5) fa_X10_360 rfl dX10_vote_47 hw (fun v6 hw => ?_)
        refine V_iload_n 3 rfl rfl dX10_vote_50 ?_
        refine X_ldI dX10_vote_51 hw (fun v7 hw => ?_)
        refine V_istore (i := 5) [(5, .int v7), (4, va_rf v1), (0, va_rf l0), (1, .int l1), (2, .int l2), (3, .int l3)] (by decide) (by simp [List.filter_cons, rf_cat, cat_i, cat_l]) dX10_vote_52 ?_
        refine V_aload 1 rfl dX10_vote_54 ?_
        refine X_getR (c := 5) (k := 5) fa_X10_360 rfl dX10_vote_56 hw (fun v8 hw => ?_)
        refine V_iload_n 4 rfl rfl dX10_vote_59 ?_
        refine V_iload_n 5 rfl rfl dX10_vote_60 ?_
        refine X_stI dX10_vote_61 hw (fun h hw => ?_)
        refine V_iload 0 rfl dX10_vote_62 ?_
        exact V_iret rfl dX10_vote_64 ⟨_, rfl, hw⟩
theorem r_X10_vote {l : Launch} {G : Gh} (l0 : Option Nat) (l1 : Int32) (l2 : Int32) (l3 : Int32) {h : Hp} {Q : Int32 → Hp → Prop} (hw : w_X10_vote l0 l1 l2 l3 h Q) : RunQ l G 3 yX10_vote cX10_vote 6 (some .int) [va_rf l0, .int l1, .int l2, .int l3] h (qI Q) :=
  V_run rfl (sl_len _ _ (by simp [cat_i, cat_l, rf_cat])) (V.sub [0, 1, 2, 3] (by simp only [la_r, la_i, la_l, la_n]; rfl) (s_X10_vote_0 hw))
def n_X10_withdraw_33 (l0 : Option Nat) (h : Hp) (Q : Int32 → Hp → Prop) : Prop :=
  oV h l0 11 <| w_X10_refuse l0 (-6) h <| fun v6 h =>
  Q v6 h
def n_X10_withdraw_0 (l0 : Option Nat) (l1 : Int32) (h : Hp) (Q : Int32 → Hp → Prop) : Prop :=
  oV h l0 11 <| w_X10_askAt l0 l1 h <| fun v1 h =>
  br (v1 = none) (
    oV h l0 11 <| w_X10_refuse l0 (-1) h <| fun v2 h =>
    Q v2 h) (
    gR h v1 1 1 fun v3 =>
    gI h v3 6 641 fun v4 =>
    br (v4 = 0) (
      oV h v1 1 <| w_X0_stands v1 h <| fun v5 h =>
      br (v5 = 0) (
        n_X10_withdraw_33 l0 h Q) (
        gI h l0 11 1297 fun v7 =>
        pI h v1 1 14 v7 fun h =>
        Q 1 h)) (
      n_X10_withdraw_33 l0 h Q))
def w_X10_withdraw (l0 : Option Nat) (l1 : Int32) (h : Hp) (Q : Int32 → Hp → Prop) : Prop := n_X10_withdraw_0 l0 l1 h Q
theorem s_X10_withdraw_33 {l : Launch} {G : Gh} {l0 : Option Nat} {h : Hp} {Q : Int32 → Hp → Prop}  (hw : n_X10_withdraw_33 l0 h Q) : V l G 3 yX10_withdraw cX10_withdraw 3 (some .int) 33 [(0, va_rf l0)] [] h (qI Q) := by
  unfold n_X10_withdraw_33 at hw
  refine V_aload_n 0 rfl rfl dX10_withdraw_33 ?_
  refine V_bipush (v := (-6)) (by decide) dX10_withdraw_34 ?_
  refine X_cV 10 [.int (-6)] [] ma_X10_95 (by decide) rfl (by decide) (by decide) rfl (by simp [cat_i, cat_l, rf_cat]) rfl dX10_withdraw_36 hw (r_X10_refuse _ _) (k_I (fun v6 h hw => ?_))
  exact V_iret rfl dX10_withdraw_39 ⟨_, rfl, hw⟩
theorem s_X10_withdraw_0 {l : Launch} {G : Gh} {l0 : Option Nat} {l1 : Int32} {h : Hp} {Q : Int32 → Hp → Prop}  (hw : n_X10_withdraw_0 l0 l1 h Q) : V l G 3 yX10_withdraw cX10_withdraw 3 (some .int) 0 [(0, va_rf l0), (1, .int l1)] [] h (qI Q) := by
  unfold n_X10_withdraw_0 at hw
  refine V_aload_n 0 rfl rfl dX10_withdraw_0 ?_
  refine V_iload_n 1 rfl rfl dX10_withdraw_1 ?_
  refine X_cV 10 [.int l1] [] ma_X10_196 (by decide) rfl (by decide) (by decide) rfl (by simp [cat_i, cat_l, rf_cat]) rfl dX10_withdraw_2 hw (r_X10_askAt _ _) (k_R (fun v1 h hw => ?_))
  refine V_astore_n (i := 2) [(2, va_rf v1), (0, va_rf l0), (1, .int l1)] rfl (by decide) rfl dX10_withdraw_5 ?_
  refine V_aload_n 0 rfl rfl dX10_withdraw_6 ?_
  refine V_ifnonnull (tgt := 16) dX10_withdraw_7 (by decide) hw (fun hw => ?_) (fun hw => ?_)
  · refine V_aload_n 1 rfl rfl dX10_withdraw_10 ?_
    refine V_iconst (v := (-1)) (by decide) dX10_withdraw_11 ?_
    refine X_cV 10 [.int (-1)] [] ma_X10_95 (by decide) rfl (by decide) (by decide) rfl (by simp [cat_i, cat_l, rf_cat]) rfl dX10_withdraw_12 hw (r_X10_refuse _ _) (k_I (fun v2 h hw => ?_))
    exact V_iret rfl dX10_withdraw_15 ⟨_, rfl, hw⟩
  · refine V_aload_n 0 rfl rfl dX10_withdraw_16 ?_
    refine X_getR (c := 0) (k := 1) fa_X10_255 rfl dX10_withdraw_17 hw (fun v3 hw => ?_)
    refine X_getI (c := 5) (k := 1) fa_X10_103 rfl dX10_withdraw_20 hw (fun v4 hw => ?_)
    refine V_if_ne (tgt := 33) dX10_withdraw_23 (by decide) hw (fun hw => ?_) (fun hw => ?_)
    · refine V_aload_n 0 rfl rfl dX10_withdraw_26 ?_
      refine X_cV 0 [] [] ma_X10_300 (by decide) rfl (by decide) (by decide) rfl (by simp [cat_i, cat_l, rf_cat]) rfl dX10_withdraw_27 hw (r_X0_stands _) (k_I (fun v5 h hw => ?_))
      refine V_if_ne (tgt := 40) dX10_withdraw_30 (by decide) hw (fun hw => ?_) (fun hw => ?_)
      · exact V.sub [1] rfl (s_X10_withdraw_33 hw)
      · refine V_aload_n 0 rfl rfl dX10_withdraw_40 ?_
        refine V_aload_n 1 rfl rfl dX10_withdraw_41 ?_
        refine X_getI (c := 10) (k := 17) fa_X10_114 rfl dX10_withdraw_42 hw (fun v7 hw => ?_)
        refine X_putI (c := 0) (k := 14) fa_X10_303 (Or.inl rfl) rfl dX10_withdraw_45 hw (fun h hw => ?_)
        refine V_iconst (v := 1) (by decide) dX10_withdraw_48 ?_
        exact V_iret rfl dX10_withdraw_49 ⟨_, rfl, hw⟩
    · exact V.sub [1] rfl (s_X10_withdraw_33 hw)
theorem r_X10_withdraw {l : Launch} {G : Gh} (l0 : Option Nat) (l1 : Int32) {h : Hp} {Q : Int32 → Hp → Prop} (hw : w_X10_withdraw l0 l1 h Q) : RunQ l G 3 yX10_withdraw cX10_withdraw 3 (some .int) [va_rf l0, .int l1] h (qI Q) :=
  V_run rfl (sl_len _ _ (by simp [cat_i, cat_l, rf_cat])) (V.sub [0, 1] (by simp only [la_r, la_i, la_l, la_n]; rfl) (s_X10_withdraw_0 hw))
def n_X10_write_25 (l0 : Option Nat) (h : Hp) (Q : Int32 → Hp → Prop) : Prop :=
  oV h l0 11 <| w_X10_refuse l0 (-1) h <| fun v3 h =>
  Q v3 h
def n_X10_write_90 (l0 : Option Nat) (h : Hp) (Q : Int32 → Hp → Prop) : Prop :=
  oV h l0 11 <| w_X10_refuse l0 (-6) h <| fun v6 h =>
  Q v6 h
def n_X10_write_184 (l0 : Option Nat) (l9 : Option Nat) (s0 : Int32) (s1 : Option Nat) (h : Hp) (Q : Int32 → Hp → Prop) : Prop :=
  pZ h s1 1 12 s0 fun h =>
  oV h l0 11 <| w_X10_borrow l0 l9 h <| fun h =>
  oV h l0 11 <| w_X10_enter l0 l9 h <| fun v19 h =>
  Q v19 h
def n_X10_write_183 (l0 : Option Nat) (l9 : Option Nat) (s0 : Option Nat) (h : Hp) (Q : Int32 → Hp → Prop) : Prop :=
  n_X10_write_184 l0 l9 0 s0 h Q
def n_X10_write_0 (l0 : Option Nat) (l1 : Int32) (l2 : Int32) (l3 : Int32) (l4 : Int32) (l5 : Int32) (h : Hp) (Q : Int32 → Hp → Prop) : Prop :=
  oV h l0 11 <| w_X10_placeAt l0 l1 h <| fun v1 h =>
  oV h l0 11 <| w_X10_shelfAt l0 l5 h <| fun v2 h =>
  br (v1 = none) (
    n_X10_write_25 l0 h Q) (
    br (v2 = none) (
      n_X10_write_25 l0 h Q) (
      w_X10_rowTrouble v2 h <| fun v4 h =>
      br (v4 = 0) (
        w_X10_isGroup l2 l3 h <| fun v5 h =>
        br (v5 = 0) (
          n_X10_write_90 l0 h Q) (
          w_X10_isIn l4 0 99 h <| fun v7 h =>
          br (v7 = 0) (
            n_X10_write_90 l0 h Q) (
            gI h v2 10 1154 fun v8 =>
            br (20 < v8) (
              n_X10_write_90 l0 h Q) (
              oV h l0 11 <| w_X10_mayWrite l0 v1 l2 l3 h <| fun v9 h =>
              br (v9 = 0) (
                n_X10_write_90 l0 h Q) (
                gI h l0 11 1293 fun v10 =>
                br (v10 < 160) (
                  nwO h 1 19 fun v11 h =>
                  gI h l0 11 1293 fun v12 =>
                  gI h l0 11 1297 fun v13 =>
                  oN v11 <| w_X0_init v11 v12 0 v1 l2 l3 l4 v13 h <| fun h =>
                  oV h v2 10 <| w_X9_rowCopy v2 h <| fun v15 h =>
                  pR h v11 1 8 v15 fun h =>
                  gI h v1 6 646 fun v16 =>
                  pI h v11 1 7 v16 fun h =>
                  gR h v1 6 642 fun v17 =>
                  br (v17 = none) (
                    n_X10_write_183 l0 v11 v11 h Q) (
                    gR h v1 6 642 fun v20 =>
                    gI h v20 6 648 fun v21 =>
                    br (v21 = 0) (
                      n_X10_write_183 l0 v11 v11 h Q) (
                      n_X10_write_184 l0 v11 1 v11 h Q))) (
                  oV h l0 11 <| w_X10_refuse l0 (-7) h <| fun v22 h =>
                  Q v22 h)))))) (
        oV h l0 11 <| w_X10_refuse l0 v4 h <| fun v23 h =>
        Q v23 h)))
def w_X10_write (l0 : Option Nat) (l1 : Int32) (l2 : Int32) (l3 : Int32) (l4 : Int32) (l5 : Int32) (h : Hp) (Q : Int32 → Hp → Prop) : Prop := n_X10_write_0 l0 l1 l2 l3 l4 l5 h Q
theorem s_X10_write_25 {l : Launch} {G : Gh} {l0 : Option Nat} {h : Hp} {Q : Int32 → Hp → Prop}  (hw : n_X10_write_25 l0 h Q) : V l G 10 yX10_write cX10_write 10 (some .int) 25 [(0, va_rf l0)] [] h (qI Q) := by
  unfold n_X10_write_25 at hw
  refine V_aload_n 0 rfl rfl dX10_write_25 ?_
  refine V_iconst (v := (-1)) (by decide) dX10_write_26 ?_
  refine X_cV 10 [.int (-1)] [] ma_X10_95 (by decide) rfl (by decide) (by decide) rfl (by simp [cat_i, cat_l, rf_cat]) rfl dX10_write_27 hw (r_X10_refuse _ _) (k_I (fun v3 h hw => ?_))
  exact V_iret rfl dX10_write_30 ⟨_, rfl, hw⟩
theorem s_X10_write_90 {l : Launch} {G : Gh} {l0 : Option Nat} {h : Hp} {Q : Int32 → Hp → Prop}  (hw : n_X10_write_90 l0 h Q) : V l G 10 yX10_write cX10_write 10 (some .int) 90 [(0, va_rf l0)] [] h (qI Q) := by
  unfold n_X10_write_90 at hw
  refine V_aload_n 0 rfl rfl dX10_write_90 ?_
  refine V_bipush (v := (-6)) (by decide) dX10_write_91 ?_
  refine X_cV 10 [.int (-6)] [] ma_X10_95 (by decide) rfl (by decide) (by decide) rfl (by simp [cat_i, cat_l, rf_cat]) rfl dX10_write_93 hw (r_X10_refuse _ _) (k_I (fun v6 h hw => ?_))
  exact V_iret rfl dX10_write_96 ⟨_, rfl, hw⟩
theorem s_X10_write_184 {l : Launch} {G : Gh} {l0 : Option Nat} {l9 : Option Nat} {s0 : Int32} {s1 : Option Nat} {h : Hp} {Q : Int32 → Hp → Prop}  (hw : n_X10_write_184 l0 l9 s0 s1 h Q) : V l G 10 yX10_write cX10_write 10 (some .int) 184 [(0, va_rf l0), (9, va_rf l9)] [.int s0, va_rf s1] h (qI Q) := by
  unfold n_X10_write_184 at hw
  refine X_putZ (c := 0) (k := 12) fa_X10_290 (Or.inl rfl) rfl dX10_write_184 hw (fun h hw => ?_)
  refine V_aload_n 0 rfl rfl dX10_write_187 ?_
  refine V_aload 1 rfl dX10_write_188 ?_
  refine X_cV 10 [va_rf l9] [] ma_X10_293 (by decide) rfl (by decide) (by decide) rfl (by simp [cat_i, cat_l, rf_cat]) rfl dX10_write_190 hw (r_X10_borrow _ _) (k_V (fun h hw => ?_))
  refine V_aload_n 0 rfl rfl dX10_write_193 ?_
  refine V_aload 1 rfl dX10_write_194 ?_
  refine X_cV 10 [va_rf l9] [] ma_X10_296 (by decide) rfl (by decide) (by decide) rfl (by simp [cat_i, cat_l, rf_cat]) rfl dX10_write_196 hw (r_X10_enter _ _) (k_I (fun v19 h hw => ?_))
  exact V_iret rfl dX10_write_199 ⟨_, rfl, hw⟩
theorem s_X10_write_183 {l : Launch} {G : Gh} {l0 : Option Nat} {l9 : Option Nat} {s0 : Option Nat} {h : Hp} {Q : Int32 → Hp → Prop}  (hw : n_X10_write_183 l0 l9 s0 h Q) : V l G 10 yX10_write cX10_write 10 (some .int) 183 [(0, va_rf l0), (9, va_rf l9)] [va_rf s0] h (qI Q) := by
  unfold n_X10_write_183 at hw
  refine V_iconst (v := 0) (by decide) dX10_write_183 ?_
  exact V.sub [0, 1] rfl (s_X10_write_184 hw)
set_option maxRecDepth 20000 in
theorem s_X10_write_0 {l : Launch} {G : Gh} {l0 : Option Nat} {l1 : Int32} {l2 : Int32} {l3 : Int32} {l4 : Int32} {l5 : Int32} {h : Hp} {Q : Int32 → Hp → Prop}  (hw : n_X10_write_0 l0 l1 l2 l3 l4 l5 h Q) : V l G 10 yX10_write cX10_write 10 (some .int) 0 [(0, va_rf l0), (1, .int l1), (2, .int l2), (3, .int l3), (4, .int l4), (5, .int l5)] [] h (qI Q) := by
  unfold n_X10_write_0 at hw
  refine V_aload_n 0 rfl rfl dX10_write_0 ?_
  refine V_iload_n 1 rfl rfl dX10_write_1 ?_
  refine X_cV 10 [.int l1] [] ma_X10_91 (by decide) rfl (by decide) (by decide) rfl (by simp [cat_i, cat_l, rf_cat]) rfl dX10_write_2 hw (r_X10_placeAt _ _) (k_R (fun v1 h hw => ?_))
  refine V_astore (i := 6) [(6, va_rf v1), (0, va_rf l0), (1, .int l1), (2, .int l2), (3, .int l3), (4, .int l4), (5, .int l5)] (by decide) rfl dX10_write_5 ?_
  refine V_aload_n 1 rfl rfl dX10_write_7 ?_
  refine V_iload 6 rfl dX10_write_8 ?_
  refine X_cV 10 [.int l5] [] ma_X10_156 (by decide) rfl (by decide) (by decide) rfl (by simp [cat_i, cat_l, rf_cat]) rfl dX10_write_10 hw (r_X10_shelfAt _ _) (k_R (fun v2 h hw => ?_))
  refine V_astore (i := 7) [(7, va_rf v2), (6, va_rf v1), (0, va_rf l0), (1, .int l1), (2, .int l2), (3, .int l3), (4, .int l4), (5, .int l5)] (by decide) (by simp [List.filter_cons, rf_cat, cat_i, cat_l]) dX10_write_13 ?_
  refine V_aload 1 rfl dX10_write_15 ?_
  refine V_ifnull (tgt := 25) dX10_write_17 (by decide) hw (fun hw => ?_) (fun hw => ?_)
  · exact V.sub [2] rfl (s_X10_write_25 hw)
  · refine V_aload 0 rfl dX10_write_20 ?_
    refine V_ifnonnull (tgt := 31) dX10_write_22 (by decide) hw (fun hw => ?_) (fun hw => ?_)
    · exact V.sub [2] rfl (s_X10_write_25 hw)
    · refine V_aload 0 rfl dX10_write_31 ?_
      refine X_cS [va_rf v2] [] ma_X10_164 (by decide) (by decide) rfl (by simp [cat_i, cat_l, rf_cat]) rfl dX10_write_33 (r_X10_rowTrouble _ hw) (k_I (fun v4 h hw => ?_))
      refine V_istore (i := 8) [(8, .int v4), (7, va_rf v2), (6, va_rf v1), (0, va_rf l0), (1, .int l1), (2, .int l2), (3, .int l3), (4, .int l4), (5, .int l5)] (by decide) (by simp [List.filter_cons, rf_cat, cat_i, cat_l]) dX10_write_36 ?_
      refine V_iload 0 rfl dX10_write_38 ?_
      refine V_if_eq (tgt := 50) dX10_write_40 (by decide) hw (fun hw => ?_) (fun hw => ?_)
      · refine V_iload_n 5 rfl rfl dX10_write_50 ?_
        refine V_iload_n 6 rfl rfl dX10_write_51 ?_
        refine X_cS [.int l2, .int l3] [] ma_X10_278 (by decide) (by decide) rfl (by simp [cat_i, cat_l, rf_cat]) rfl dX10_write_52 (r_X10_isGroup _ _ hw) (k_I (fun v5 h hw => ?_))
        refine V_if_eq (tgt := 90) dX10_write_55 (by decide) hw (fun hw => ?_) (fun hw => ?_)
        · exact V.sub [3] rfl (s_X10_write_90 hw)
        · refine V_iload 7 rfl dX10_write_58 ?_
          refine V_iconst (v := 0) (by decide) dX10_write_60 ?_
          refine V_bipush (v := 99) (by decide) dX10_write_61 ?_
          refine X_cS [.int l4, .int 0, .int 99] [] ma_X10_99 (by decide) (by decide) rfl (by simp [cat_i, cat_l, rf_cat]) rfl dX10_write_63 (r_X10_isIn _ _ _ hw) (k_I (fun v7 h hw => ?_))
          refine V_if_eq (tgt := 90) dX10_write_66 (by decide) hw (fun hw => ?_) (fun hw => ?_)
          · exact V.sub [3] rfl (s_X10_write_90 hw)
          · refine V_aload 1 rfl dX10_write_69 ?_
            refine X_getI (c := 9) (k := 2) fa_X10_168 rfl dX10_write_71 hw (fun v8 hw => ?_)
            refine V_bipush (v := 20) (by decide) dX10_write_74 ?_
            refine V_icmp_gt (tgt := 90) dX10_write_76 (by decide) hw (fun hw => ?_) (fun hw => ?_)
            · exact V.sub [3] rfl (s_X10_write_90 hw)
            · refine V_aload_n 3 rfl rfl dX10_write_79 ?_
              refine V_aload 2 rfl dX10_write_80 ?_
              refine V_iload_n 5 rfl rfl dX10_write_82 ?_
              refine V_iload_n 6 rfl rfl dX10_write_83 ?_
              refine X_cV 10 [va_rf v1, .int l2, .int l3] [] ma_X10_282 (by decide) rfl (by decide) (by decide) rfl (by simp [cat_i, cat_l, rf_cat]) rfl dX10_write_84 hw (r_X10_mayWrite _ _ _ _) (k_I (fun v9 h hw => ?_))
              refine V_if_ne (tgt := 97) dX10_write_87 (by decide) hw (fun hw => ?_) (fun hw => ?_)
              · exact V.sub [3] rfl (s_X10_write_90 hw)
              · refine V_aload_n 3 rfl rfl dX10_write_97 ?_
                refine X_getI (c := 10) (k := 13) fa_X10_249 rfl dX10_write_98 hw (fun v10 hw => ?_)
                refine V_sipush (v := 160) (by decide) dX10_write_101 ?_
                refine V_icmp_lt (tgt := 114) dX10_write_104 (by decide) hw (fun hw => ?_) (fun hw => ?_)
                · refine X_newO (c := 0) nc_X10_21 dX10_write_114 hw (fun v11 h hw => ?_)
                  refine V_dup (rf_cat _) dX10_write_117 ?_
                  refine V_aload_n 3 rfl rfl dX10_write_118 ?_
                  refine X_getI (c := 10) (k := 13) fa_X10_249 rfl dX10_write_119 hw (fun v12 hw => ?_)
                  refine V_iconst (v := 0) (by decide) dX10_write_122 ?_
                  refine V_aload 2 rfl dX10_write_123 ?_
                  refine V_iload_n 5 rfl rfl dX10_write_125 ?_
                  refine V_iload_n 6 rfl rfl dX10_write_126 ?_
                  refine V_iload 7 rfl dX10_write_127 ?_
                  refine V_aload_n 3 rfl rfl dX10_write_129 ?_
                  refine X_getI (c := 10) (k := 17) fa_X10_114 rfl dX10_write_130 hw (fun v13 hw => ?_)
                  refine X_cI [.int v12, .int 0, va_rf v1, .int l2, .int l3, .int l4, .int v13] [va_rf v11] ma_X10_286 (by decide) (by decide) rfl (by simp [cat_i, cat_l, rf_cat]) rfl dX10_write_133 hw (r_X0_init _ _ _ _ _ _ _ _) (k_V (fun h hw => ?_))
                  refine V_astore (i := 9) [(9, va_rf v11), (8, .int v4), (7, va_rf v2), (6, va_rf v1), (0, va_rf l0), (1, .int l1), (2, .int l2), (3, .int l3), (4, .int l4), (5, .int l5)] (by decide) rfl dX10_write_136 ?_
                  refine V_aload 0 rfl dX10_write_138 ?_
                  refine V_aload 2 rfl dX10_write_140 ?_
                  refine X_cV 9 [] [va_rf v11] ma_X10_222 (by decide) rfl (by decide) (by decide) rfl (by simp [cat_i, cat_l, rf_cat]) rfl dX10_write_142 hw (r_X9_rowCopy _) (k_R (fun v15 h hw => ?_))
                  refine X_putR (c := 0) (k := 8) fa_X10_237 (Or.inl rfl) (Or.inr ⟨_, rfl⟩) dX10_write_145 hw (fun h hw => ?_)
                  refine V_aload 0 rfl dX10_write_148 ?_
                  refine V_aload 3 rfl dX10_write_150 ?_
                  refine X_getI (c := 5) (k := 6) fa_X10_127 rfl dX10_write_152 hw (fun v16 hw => ?_)
                  refine X_putI (c := 0) (k := 7) fa_X10_289 (Or.inl rfl) rfl dX10_write_155 hw (fun h hw => ?_)
                  refine V_aload 0 rfl dX10_write_158 ?_
                  refine V_aload 3 rfl dX10_write_160 ?_
                  refine X_getR (c := 5) (k := 2) fa_X10_117 rfl dX10_write_162 hw (fun v17 hw => ?_)
                  refine V_ifnull (tgt := 183) dX10_write_165 (by decide) hw (fun hw => ?_) (fun hw => ?_)
                  · exact V.sub [4, 0] rfl (s_X10_write_183 hw)
                  · refine V_aload 3 rfl dX10_write_168 ?_
                    refine X_getR (c := 5) (k := 2) fa_X10_117 rfl dX10_write_170 hw (fun v20 hw => ?_)
                    refine X_getI (c := 5) (k := 8) fa_X10_134 rfl dX10_write_173 hw (fun v21 hw => ?_)
                    refine V_if_eq (tgt := 183) dX10_write_176 (by decide) hw (fun hw => ?_) (fun hw => ?_)
                    · exact V.sub [4, 0] rfl (s_X10_write_183 hw)
                    · refine V_iconst (v := 1) (by decide) dX10_write_179 ?_
                      refine V_goto (tgt := 184) dX10_write_180 (by decide) ?_
                      exact V.sub [4, 0] rfl (s_X10_write_184 hw)
                · refine V_aload_n 3 rfl rfl dX10_write_107 ?_
                  refine V_bipush (v := (-7)) (by decide) dX10_write_108 ?_
                  refine X_cV 10 [.int (-7)] [] ma_X10_95 (by decide) rfl (by decide) (by decide) rfl (by simp [cat_i, cat_l, rf_cat]) rfl dX10_write_110 hw (r_X10_refuse _ _) (k_I (fun v22 h hw => ?_))
                  exact V_iret rfl dX10_write_113 ⟨_, rfl, hw⟩
      · refine V_aload_n 3 rfl rfl dX10_write_43 ?_
        refine V_iload 0 rfl dX10_write_44 ?_
        refine X_cV 10 [.int v4] [] ma_X10_95 (by decide) rfl (by decide) (by decide) rfl (by simp [cat_i, cat_l, rf_cat]) rfl dX10_write_46 hw (r_X10_refuse _ _) (k_I (fun v23 h hw => ?_))
        exact V_iret rfl dX10_write_49 ⟨_, rfl, hw⟩
theorem r_X10_write {l : Launch} {G : Gh} (l0 : Option Nat) (l1 : Int32) (l2 : Int32) (l3 : Int32) (l4 : Int32) (l5 : Int32) {h : Hp} {Q : Int32 → Hp → Prop} (hw : w_X10_write l0 l1 l2 l3 l4 l5 h Q) : RunQ l G 10 yX10_write cX10_write 10 (some .int) [va_rf l0, .int l1, .int l2, .int l3, .int l4, .int l5] h (qI Q) :=
  V_run rfl (sl_len _ _ (by simp [cat_i, cat_l, rf_cat])) (V.sub [0, 1, 2, 3, 4, 5] (by simp only [la_r, la_i, la_l, la_n]; rfl) (s_X10_write_0 hw))
