theorem sb_X10_likeOnes_19 {l : Launch} {G : Gh} {l0 : Option Nat} {l1 : Option Nat} {l2 : Option Nat} {l3 : Int32} {l4 : Int32} {h : Hp} {Q : Int32 → Hp → Prop} {K19 : Int32 → Hp → Prop} (hK19 : ∀ (l4 : Int32) (h : Hp), K19 l4 h → V l G 2 yX10_likeOnes cX10_likeOnes 8 (some .int) 19 [(0, va_rf l0), (1, va_rf l1), (2, va_rf l2), (3, .int l3), (4, .int l4)] [] h (qI Q)) (hw : b_X10_likeOnes_19 l0 l1 l2 l3 l4 h Q K19) : V l G 2 yX10_likeOnes cX10_likeOnes 8 (some .int) 19 [(0, va_rf l0), (1, va_rf l1), (2, va_rf l2), (3, .int l3), (4, .int l4)] [] h (qI Q) := by
  unfold b_X10_likeOnes_19 at hw
  refine V_iload 4 rfl dX10_likeOnes_19 ?_
  refine V_aload_n 1 rfl rfl dX10_likeOnes_21 ?_
  refine X_alen dX10_likeOnes_22 hw (fun v5 hw => ?_)
  refine V_icmp_ge (tgt := 112) dX10_likeOnes_23 (by decide) hw (fun hw => ?_) (fun hw => ?_)
  · refine V_aload_n 0 rfl rfl dX10_likeOnes_112 ?_
    refine X_getR (c := 10) (k := 7) fa_X10_49 rfl dX10_likeOnes_113 hw (fun v6 hw => ?_)
    refine V_iload_n 3 rfl rfl dX10_likeOnes_116 ?_
    refine X_ldI dX10_likeOnes_117 hw (fun v7 hw => ?_)
    exact V_iret rfl dX10_likeOnes_118 ⟨_, rfl, hw⟩
  · refine V_iconst (v := 0) (by decide) dX10_likeOnes_26 ?_
    refine V_istore (i := 5) [(5, .int 0), (0, va_rf l0), (1, va_rf l1), (2, va_rf l2), (3, .int l3), (4, .int l4)] (by decide) rfl dX10_likeOnes_27 ?_
    refine V_iconst (v := 1) (by decide) dX10_likeOnes_29 ?_
    refine V_istore (i := 6) [(6, .int 1), (5, .int 0), (0, va_rf l0), (1, va_rf l1), (2, va_rf l2), (3, .int l3), (4, .int l4)] (by decide) rfl dX10_likeOnes_30 ?_
    exact V.sub [2, 3, 4, 5, 6, 1, 0] rfl (s_X10_likeOnes_32 hK19 hw)
theorem s_X10_likeOnes_19 {l : Launch} {G : Gh} {l0 : Option Nat} {l1 : Option Nat} {l2 : Option Nat} {l3 : Int32} {l4 : Int32} {h : Hp} {Q : Int32 → Hp → Prop}  (hw : l_X10_likeOnes_19 l0 l1 l2 l3 l4 h Q) : V l G 2 yX10_likeOnes cX10_likeOnes 8 (some .int) 19 [(0, va_rf l0), (1, va_rf l1), (2, va_rf l2), (3, .int l3), (4, .int l4)] [] h (qI Q) :=
  Lo.ind (P := fun (s : Int32) h => V l G 2 yX10_likeOnes cX10_likeOnes 8 (some .int) 19 [(0, va_rf l0), (1, va_rf l1), (2, va_rf l2), (3, .int l3), (4, .int s)] [] h (qI Q)) (fun K ih s h hw => sb_X10_likeOnes_19 (fun l4 h hk => ih (l4) h hk) hw) hw
theorem s_X10_likeOnes_0 {l : Launch} {G : Gh} {l0 : Option Nat} {l1 : Option Nat} {l2 : Option Nat} {h : Hp} {Q : Int32 → Hp → Prop}  (hw : n_X10_likeOnes_0 l0 l1 l2 h Q) : V l G 2 yX10_likeOnes cX10_likeOnes 8 (some .int) 0 [(0, va_rf l0), (1, va_rf l1), (2, va_rf l2)] [] h (qI Q) := by
  unfold n_X10_likeOnes_0 at hw
  refine V_aload_n 0 rfl rfl dX10_likeOnes_0 ?_
  refine X_getR (c := 10) (k := 7) fa_X10_49 rfl dX10_likeOnes_1 hw (fun v1 hw => ?_)
  refine V_iconst (v := 0) (by decide) dX10_likeOnes_4 ?_
  refine X_cS [va_rf v1, .int 0] [] ma_X10_263 (by decide) (by decide) rfl (by simp [cat_i, cat_l, rf_cat]) rfl dX10_likeOnes_5 (r_J7_fill_53178 _ _ hw) (k_V (fun h hw => ?_))
  refine V_aload_n 2 rfl rfl dX10_likeOnes_8 ?_
  refine X_alen dX10_likeOnes_9 hw (fun v3 hw => ?_)
  refine V_bipush (v := 20) (by decide) dX10_likeOnes_10 ?_
  refine X_mmin wl_X10_269 (by decide) (by simp [cat_i, cat_l, rf_cat]) dX10_likeOnes_12 hw (fun v4 hw => ?_)
  refine V_istore_n (i := 3) [(3, .int v4), (0, va_rf l0), (1, va_rf l1), (2, va_rf l2)] rfl (by decide) (by simp [List.filter_cons, rf_cat, cat_i, cat_l]) dX10_likeOnes_15 ?_
  refine V_iconst (v := 0) (by decide) dX10_likeOnes_16 ?_
  refine V_istore (i := 4) [(4, .int 0), (3, .int v4), (0, va_rf l0), (1, va_rf l1), (2, va_rf l2)] (by decide) rfl dX10_likeOnes_17 ?_
  exact V.sub [2, 3, 4, 1, 0] rfl (s_X10_likeOnes_19 hw)
theorem r_X10_likeOnes {l : Launch} {G : Gh} (l0 : Option Nat) (l1 : Option Nat) (l2 : Option Nat) {h : Hp} {Q : Int32 → Hp → Prop} (hw : w_X10_likeOnes l0 l1 l2 h Q) : RunQ l G 2 yX10_likeOnes cX10_likeOnes 8 (some .int) [va_rf l0, va_rf l1, va_rf l2] h (qI Q) :=
  V_run rfl (sl_len _ _ (by simp [cat_i, cat_l, rf_cat])) (V.sub [0, 1, 2] (by simp only [la_r, la_i, la_l, la_n]; rfl) (s_X10_likeOnes_0 hw))
def n_X10_borrow_100 (l0 : Option Nat) (l1 : Option Nat) (l2 : Int32) (h : Hp) (Q : Hp → Prop) (K2 : Int32 → Hp → Prop) : Prop :=
  lt (l2 + 1) fun x9 =>
  K2 x9 h
def b_X10_borrow_2 (l0 : Option Nat) (l1 : Option Nat) (l2 : Int32) (h : Hp) (Q : Hp → Prop) (K2 : Int32 → Hp → Prop) : Prop :=
  gI h l0 11 1294 fun v1 =>
  br (v1 ≤ l2) (
    Q h) (
    gR h l0 11 1283 fun v2 =>
    ldR h v2 l2 fun v3 =>
    gI h v3 4 385 fun v4 =>
    gI h l1 1 2 fun v5 =>
    br (v4 = v5) (
      gR h l1 1 1 fun v6 =>
      w_X10_dayOfReach v3 v6 h <| fun v7 h =>
      gI h l0 11 1297 fun v8 =>
      br (v8 < v7) (
        n_X10_borrow_100 l0 l1 l2 h Q K2) (
        gR h l1 1 8 fun v10 =>
        gR h v3 4 388 fun v11 =>
        oV h l0 11 <| w_X10_likeOnes l0 v10 v11 h <| fun v12 h =>
        br (v12 < 3) (
          n_X10_borrow_100 l0 l1 l2 h Q K2) (
          gR h l1 1 8 fun v13 =>
          alN h v13 fun v14 =>
          br ((2 * v12) < v14) (
            n_X10_borrow_100 l0 l1 l2 h Q K2) (
            gI h l1 1 11 fun v15 =>
            br (v12 ≤ v15) (
              n_X10_borrow_100 l0 l1 l2 h Q K2) (
              pI h l1 1 6 1 fun h =>
              pR h l1 1 10 v3 fun h =>
              pI h l1 1 11 v12 fun h =>
              n_X10_borrow_100 l0 l1 l2 h Q K2))))) (
      n_X10_borrow_100 l0 l1 l2 h Q K2))
def l_X10_borrow_2 (l0 : Option Nat) (l1 : Option Nat) (l2 : Int32) (h : Hp) (Q : Hp → Prop) : Prop :=
  Lo (fun (K : Int32 → Hp → Prop) s h => b_X10_borrow_2 l0 l1 s h Q (fun l2 h => K (l2) h)) (l2) h
def n_X10_borrow_0 (l0 : Option Nat) (l1 : Option Nat) (h : Hp) (Q : Hp → Prop) : Prop :=
  l_X10_borrow_2 l0 l1 0 h Q
def w_X10_borrow (l0 : Option Nat) (l1 : Option Nat) (h : Hp) (Q : Hp → Prop) : Prop := n_X10_borrow_0 l0 l1 h Q
theorem s_X10_borrow_100 {l : Launch} {G : Gh} {l0 : Option Nat} {l1 : Option Nat} {l2 : Int32} {h : Hp} {Q : Hp → Prop} {K2 : Int32 → Hp → Prop} (hK2 : ∀ (l2 : Int32) (h : Hp), K2 l2 h → V l G 3 yX10_borrow cX10_borrow 5 none 2 [(0, va_rf l0), (1, va_rf l1), (2, .int l2)] [] h (qV Q)) (hw : n_X10_borrow_100 l0 l1 l2 h Q K2) : V l G 3 yX10_borrow cX10_borrow 5 none 100 [(0, va_rf l0), (1, va_rf l1), (2, .int l2)] [] h (qV Q) := by
  unfold n_X10_borrow_100 at hw
  refine V_iincL (n := 1) 2 (fun z => [(2, .int z), (0, va_rf l0), (1, va_rf l1)]) rfl (by rfl) (by decide) (fun _ => (by simp [List.filter_cons, rf_cat, cat_i, cat_l])) dX10_borrow_100 hw (fun x9 hw => ?_)
  refine V_goto (tgt := 2) dX10_borrow_103 (by decide) ?_
  exact V.sub [1, 2, 0] rfl (hK2 _ _ hw)
set_option maxRecDepth 20000 in
theorem sb_X10_borrow_2 {l : Launch} {G : Gh} {l0 : Option Nat} {l1 : Option Nat} {l2 : Int32} {h : Hp} {Q : Hp → Prop} {K2 : Int32 → Hp → Prop} (hK2 : ∀ (l2 : Int32) (h : Hp), K2 l2 h → V l G 3 yX10_borrow cX10_borrow 5 none 2 [(0, va_rf l0), (1, va_rf l1), (2, .int l2)] [] h (qV Q)) (hw : b_X10_borrow_2 l0 l1 l2 h Q K2) : V l G 3 yX10_borrow cX10_borrow 5 none 2 [(0, va_rf l0), (1, va_rf l1), (2, .int l2)] [] h (qV Q) := by
  unfold b_X10_borrow_2 at hw
  refine V_iload_n 2 rfl rfl dX10_borrow_2 ?_
  refine V_aload_n 0 rfl rfl dX10_borrow_3 ?_
  refine X_getI (c := 10) (k := 14) fa_X10_219 rfl dX10_borrow_4 hw (fun v1 hw => ?_)
  refine V_icmp_ge (tgt := 106) dX10_borrow_7 (by decide) hw (fun hw => ?_) (fun hw => ?_)
  · exact V_vret rfl dX10_borrow_106 ⟨rfl, hw⟩
  · refine V_aload_n 0 rfl rfl dX10_borrow_10 ?_
    refine X_getR (c := 10) (k := 3) fa_X10_29 rfl dX10_borrow_11 hw (fun v2 hw => ?_)
    refine V_iload_n 2 rfl rfl dX10_borrow_14 ?_
    refine X_ldR dX10_borrow_15 hw (fun v3 hw => ?_)
    refine V_astore_n (i := 3) [(3, va_rf v3), (0, va_rf l0), (1, va_rf l1), (2, .int l2)] rfl (by decide) rfl dX10_borrow_16 ?_
    refine V_aload_n 0 rfl rfl dX10_borrow_17 ?_
    refine X_getI (c := 3) (k := 1) fa_X10_335 rfl dX10_borrow_18 hw (fun v4 hw => ?_)
    refine V_aload_n 2 rfl rfl dX10_borrow_21 ?_
    refine X_getI (c := 0) (k := 2) fa_X10_252 rfl dX10_borrow_22 hw (fun v5 hw => ?_)
    refine V_icmp_ne (tgt := 100) dX10_borrow_25 (by decide) hw (fun hw => ?_) (fun hw => ?_)
    · refine V_aload_n 0 rfl rfl dX10_borrow_28 ?_
      refine V_aload_n 2 rfl rfl dX10_borrow_29 ?_
      refine X_getR (c := 0) (k := 1) fa_X10_255 rfl dX10_borrow_30 hw (fun v6 hw => ?_)
      refine X_cS [va_rf v3, va_rf v6] [] ma_X10_233 (by decide) (by decide) rfl (by simp [cat_i, cat_l, rf_cat]) rfl dX10_borrow_33 (r_X10_dayOfReach _ _ hw) (k_I (fun v7 h hw => ?_))
      refine V_aload_n 1 rfl rfl dX10_borrow_36 ?_
      refine X_getI (c := 10) (k := 17) fa_X10_114 rfl dX10_borrow_37 hw (fun v8 hw => ?_)
      refine V_icmp_gt (tgt := 100) dX10_borrow_40 (by decide) hw (fun hw => ?_) (fun hw => ?_)
      · exact V.sub [1, 2, 3] rfl (s_X10_borrow_100 hK2 hw)
      · refine V_aload_n 1 rfl rfl dX10_borrow_43 ?_
        refine V_aload_n 2 rfl rfl dX10_borrow_44 ?_
        refine X_getR (c := 0) (k := 8) fa_X10_237 rfl dX10_borrow_45 hw (fun v10 hw => ?_)
        refine V_aload_n 0 rfl rfl dX10_borrow_48 ?_
        refine X_getR (c := 3) (k := 4) fa_X10_240 rfl dX10_borrow_49 hw (fun v11 hw => ?_)
        refine X_cV 10 [va_rf v10, va_rf v11] [] ma_X10_241 (by decide) rfl (by decide) (by decide) rfl (by simp [cat_i, cat_l, rf_cat]) rfl dX10_borrow_52 hw (r_X10_likeOnes _ _ _) (k_I (fun v12 h hw => ?_))
        refine V_istore (i := 4) [(4, .int v12), (3, va_rf v3), (0, va_rf l0), (1, va_rf l1), (2, .int l2)] (by decide) (by simp [List.filter_cons, rf_cat, cat_i, cat_l]) dX10_borrow_55 ?_
        refine V_iload 0 rfl dX10_borrow_57 ?_
        refine V_iconst (v := 3) (by decide) dX10_borrow_59 ?_
        refine V_icmp_lt (tgt := 100) dX10_borrow_60 (by decide) hw (fun hw => ?_) (fun hw => ?_)
        · exact V.sub [2, 3, 4] rfl (s_X10_borrow_100 hK2 hw)
        · refine V_iconst (v := 2) (by decide) dX10_borrow_63 ?_
          refine V_iload 0 rfl dX10_borrow_64 ?_
          refine V_imul dX10_borrow_66 ?_
          refine V_aload_n 3 rfl rfl dX10_borrow_67 ?_
          refine X_getR (c := 0) (k := 8) fa_X10_237 rfl dX10_borrow_68 hw (fun v13 hw => ?_)
          refine X_alen dX10_borrow_71 hw (fun v14 hw => ?_)
          refine V_icmp_lt (tgt := 100) dX10_borrow_72 (by decide) hw (fun hw => ?_) (fun hw => ?_)
          · exact V.sub [2, 3, 4] rfl (s_X10_borrow_100 hK2 hw)
          · refine V_iload 0 rfl dX10_borrow_75 ?_
            refine V_aload_n 3 rfl rfl dX10_borrow_77 ?_
            refine X_getI (c := 0) (k := 11) fa_X10_209 rfl dX10_borrow_78 hw (fun v15 hw => ?_)
            refine V_icmp_le (tgt := 100) dX10_borrow_81 (by decide) hw (fun hw => ?_) (fun hw => ?_)
            · exact V.sub [2, 3, 4] rfl (s_X10_borrow_100 hK2 hw)
            · refine V_aload_n 3 rfl rfl dX10_borrow_84 ?_
              refine V_iconst (v := 1) (by decide) dX10_borrow_85 ?_
              refine X_putI (c := 0) (k := 6) fa_X10_309 (Or.inl rfl) rfl dX10_borrow_86 hw (fun h hw => ?_)
              refine V_aload_n 3 rfl rfl dX10_borrow_89 ?_
              refine V_aload_n 1 rfl rfl dX10_borrow_90 ?_
              refine X_putR (c := 0) (k := 10) fa_X10_245 (Or.inl rfl) (Or.inl ⟨_, rfl⟩) dX10_borrow_91 hw (fun h hw => ?_)
              refine V_aload_n 3 rfl rfl dX10_borrow_94 ?_
              refine V_iload 0 rfl dX10_borrow_95 ?_
              refine X_putI (c := 0) (k := 11) fa_X10_209 (Or.inl rfl) rfl dX10_borrow_97 hw (fun h hw => ?_)
              exact V.sub [2, 3, 4] rfl (s_X10_borrow_100 hK2 hw)
    · exact V.sub [1, 2, 3] rfl (s_X10_borrow_100 hK2 hw)
theorem s_X10_borrow_2 {l : Launch} {G : Gh} {l0 : Option Nat} {l1 : Option Nat} {l2 : Int32} {h : Hp} {Q : Hp → Prop}  (hw : l_X10_borrow_2 l0 l1 l2 h Q) : V l G 3 yX10_borrow cX10_borrow 5 none 2 [(0, va_rf l0), (1, va_rf l1), (2, .int l2)] [] h (qV Q) :=
  Lo.ind (P := fun (s : Int32) h => V l G 3 yX10_borrow cX10_borrow 5 none 2 [(0, va_rf l0), (1, va_rf l1), (2, .int s)] [] h (qV Q)) (fun K ih s h hw => sb_X10_borrow_2 (fun l2 h hk => ih (l2) h hk) hw) hw
theorem s_X10_borrow_0 {l : Launch} {G : Gh} {l0 : Option Nat} {l1 : Option Nat} {h : Hp} {Q : Hp → Prop}  (hw : n_X10_borrow_0 l0 l1 h Q) : V l G 3 yX10_borrow cX10_borrow 5 none 0 [(0, va_rf l0), (1, va_rf l1)] [] h (qV Q) := by
  unfold n_X10_borrow_0 at hw
  refine V_iconst (v := 0) (by decide) dX10_borrow_0 ?_
  refine V_istore_n (i := 2) [(2, .int 0), (0, va_rf l0), (1, va_rf l1)] rfl (by decide) (by simp [List.filter_cons, rf_cat, cat_i, cat_l]) dX10_borrow_1 ?_
  exact V.sub [1, 2, 0] rfl (s_X10_borrow_2 hw)
theorem r_X10_borrow {l : Launch} {G : Gh} (l0 : Option Nat) (l1 : Option Nat) {h : Hp} {Q : Hp → Prop} (hw : w_X10_borrow l0 l1 h Q) : RunQ l G 3 yX10_borrow cX10_borrow 5 none [va_rf l0, va_rf l1] h (qV Q) :=
  V_run rfl (sl_len _ _ (by simp [cat_i, cat_l, rf_cat])) (V.sub [0, 1] (by simp only [la_r, la_i, la_l, la_n]; rfl) (s_X10_borrow_0 hw))
def n_X10_bringToQuarrel_58 (l0 : Option Nat) (l1 : Option Nat) (l2 : Int32) (h : Hp) (Q : Hp → Prop) (K9 : Int32 → Hp → Prop) : Prop :=
  lt (l2 + 1) fun x10 =>
  K9 x10 h
def b_X10_bringToQuarrel_9 (l0 : Option Nat) (l1 : Option Nat) (l2 : Int32) (h : Hp) (Q : Hp → Prop) (K9 : Int32 → Hp → Prop) : Prop :=
  gI h l0 11 1293 fun v3 =>
  br (v3 ≤ l2) (
    Q h) (
    gR h l0 11 1282 fun v4 =>
    ldR h v4 l2 fun v5 =>
    gR h v5 1 1 fun v6 =>
    br (v6 = l1) (
      gR h l0 11 1282 fun v7 =>
      ldR h v7 l2 fun v8 =>
      oV h v8 1 <| w_X0_stands v8 h <| fun v9 h =>
      br (v9 = 0) (
        n_X10_bringToQuarrel_58 l0 l1 l2 h Q K9) (
        gR h l0 11 1290 fun v11 =>
        gR h l0 11 1282 fun v12 =>
        ldR h v12 l2 fun v13 =>
        gI h v13 1 2 fun v14 =>
        oV h v11 7 <| w_X6_add v11 v14 h <| fun h =>
        n_X10_bringToQuarrel_58 l0 l1 l2 h Q K9)) (
      n_X10_bringToQuarrel_58 l0 l1 l2 h Q K9))
def l_X10_bringToQuarrel_9 (l0 : Option Nat) (l1 : Option Nat) (l2 : Int32) (h : Hp) (Q : Hp → Prop) : Prop :=
  Lo (fun (K : Int32 → Hp → Prop) s h => b_X10_bringToQuarrel_9 l0 l1 s h Q (fun l2 h => K (l2) h)) (l2) h
def n_X10_bringToQuarrel_0 (l0 : Option Nat) (l1 : Option Nat) (h : Hp) (Q : Hp → Prop) : Prop :=
  gR h l0 11 1290 fun v1 =>
  oV h v1 7 <| w_X6_clear v1 h <| fun h =>
  l_X10_bringToQuarrel_9 l0 l1 0 h Q
def w_X10_bringToQuarrel (l0 : Option Nat) (l1 : Option Nat) (h : Hp) (Q : Hp → Prop) : Prop := n_X10_bringToQuarrel_0 l0 l1 h Q
theorem s_X10_bringToQuarrel_58 {l : Launch} {G : Gh} {l0 : Option Nat} {l1 : Option Nat} {l2 : Int32} {h : Hp} {Q : Hp → Prop} {K9 : Int32 → Hp → Prop} (hK9 : ∀ (l2 : Int32) (h : Hp), K9 l2 h → V l G 3 yX10_bringToQuarrel cX10_bringToQuarrel 3 none 9 [(0, va_rf l0), (1, va_rf l1), (2, .int l2)] [] h (qV Q)) (hw : n_X10_bringToQuarrel_58 l0 l1 l2 h Q K9) : V l G 3 yX10_bringToQuarrel cX10_bringToQuarrel 3 none 58 [(0, va_rf l0), (1, va_rf l1), (2, .int l2)] [] h (qV Q) := by
  unfold n_X10_bringToQuarrel_58 at hw
  refine V_iincL (n := 1) 2 (fun z => [(2, .int z), (0, va_rf l0), (1, va_rf l1)]) rfl (by rfl) (by decide) (fun _ => (by simp [List.filter_cons, rf_cat, cat_i, cat_l])) dX10_bringToQuarrel_58 hw (fun x10 hw => ?_)
  refine V_goto (tgt := 9) dX10_bringToQuarrel_61 (by decide) ?_
  exact V.sub [1, 2, 0] rfl (hK9 _ _ hw)
theorem sb_X10_bringToQuarrel_9 {l : Launch} {G : Gh} {l0 : Option Nat} {l1 : Option Nat} {l2 : Int32} {h : Hp} {Q : Hp → Prop} {K9 : Int32 → Hp → Prop} (hK9 : ∀ (l2 : Int32) (h : Hp), K9 l2 h → V l G 3 yX10_bringToQuarrel cX10_bringToQuarrel 3 none 9 [(0, va_rf l0), (1, va_rf l1), (2, .int l2)] [] h (qV Q)) (hw : b_X10_bringToQuarrel_9 l0 l1 l2 h Q K9) : V l G 3 yX10_bringToQuarrel cX10_bringToQuarrel 3 none 9 [(0, va_rf l0), (1, va_rf l1), (2, .int l2)] [] h (qV Q) := by
  unfold b_X10_bringToQuarrel_9 at hw
  refine V_iload_n 2 rfl rfl dX10_bringToQuarrel_9 ?_
  refine V_aload_n 0 rfl rfl dX10_bringToQuarrel_10 ?_
  refine X_getI (c := 10) (k := 13) fa_X10_249 rfl dX10_bringToQuarrel_11 hw (fun v3 hw => ?_)
  refine V_icmp_ge (tgt := 64) dX10_bringToQuarrel_14 (by decide) hw (fun hw => ?_) (fun hw => ?_)
  · exact V_vret rfl dX10_bringToQuarrel_64 ⟨rfl, hw⟩
  · refine V_aload_n 0 rfl rfl dX10_bringToQuarrel_17 ?_
    refine X_getR (c := 10) (k := 2) fa_X10_23 rfl dX10_bringToQuarrel_18 hw (fun v4 hw => ?_)
    refine V_iload_n 2 rfl rfl dX10_bringToQuarrel_21 ?_
    refine X_ldR dX10_bringToQuarrel_22 hw (fun v5 hw => ?_)
    refine X_getR (c := 0) (k := 1) fa_X10_255 rfl dX10_bringToQuarrel_23 hw (fun v6 hw => ?_)
    refine V_aload_n 1 rfl rfl dX10_bringToQuarrel_26 ?_
    refine V_acmp_ne (tgt := 58) dX10_bringToQuarrel_27 (by decide) hw (fun hw => ?_) (fun hw => ?_)
    · refine V_aload_n 0 rfl rfl dX10_bringToQuarrel_30 ?_
      refine X_getR (c := 10) (k := 2) fa_X10_23 rfl dX10_bringToQuarrel_31 hw (fun v7 hw => ?_)
      refine V_iload_n 2 rfl rfl dX10_bringToQuarrel_34 ?_
      refine X_ldR dX10_bringToQuarrel_35 hw (fun v8 hw => ?_)
      refine X_cV 0 [] [] ma_X10_300 (by decide) rfl (by decide) (by decide) rfl (by simp [cat_i, cat_l, rf_cat]) rfl dX10_bringToQuarrel_36 hw (r_X0_stands _) (k_I (fun v9 h hw => ?_))
      refine V_if_eq (tgt := 58) dX10_bringToQuarrel_39 (by decide) hw (fun hw => ?_) (fun hw => ?_)
      · exact V.sub [0, 1, 2] rfl (s_X10_bringToQuarrel_58 hK9 hw)
      · refine V_aload_n 0 rfl rfl dX10_bringToQuarrel_42 ?_
        refine X_getR (c := 10) (k := 10) fa_X10_69 rfl dX10_bringToQuarrel_43 hw (fun v11 hw => ?_)
        refine V_aload_n 0 rfl rfl dX10_bringToQuarrel_46 ?_
        refine X_getR (c := 10) (k := 2) fa_X10_23 rfl dX10_bringToQuarrel_47 hw (fun v12 hw => ?_)
        refine V_iload_n 2 rfl rfl dX10_bringToQuarrel_50 ?_
        refine X_ldR dX10_bringToQuarrel_51 hw (fun v13 hw => ?_)
        refine X_getI (c := 0) (k := 2) fa_X10_252 rfl dX10_bringToQuarrel_52 hw (fun v14 hw => ?_)
        refine X_cV 6 [.int v14] [] ma_X10_506 (by decide) rfl (by decide) (by decide) rfl (by simp [cat_i, cat_l, rf_cat]) rfl dX10_bringToQuarrel_55 hw (r_X6_add _ _) (k_V (fun h hw => ?_))
        exact V.sub [0, 1, 2] rfl (s_X10_bringToQuarrel_58 hK9 hw)
    · exact V.sub [0, 1, 2] rfl (s_X10_bringToQuarrel_58 hK9 hw)
theorem s_X10_bringToQuarrel_9 {l : Launch} {G : Gh} {l0 : Option Nat} {l1 : Option Nat} {l2 : Int32} {h : Hp} {Q : Hp → Prop}  (hw : l_X10_bringToQuarrel_9 l0 l1 l2 h Q) : V l G 3 yX10_bringToQuarrel cX10_bringToQuarrel 3 none 9 [(0, va_rf l0), (1, va_rf l1), (2, .int l2)] [] h (qV Q) :=
  Lo.ind (P := fun (s : Int32) h => V l G 3 yX10_bringToQuarrel cX10_bringToQuarrel 3 none 9 [(0, va_rf l0), (1, va_rf l1), (2, .int s)] [] h (qV Q)) (fun K ih s h hw => sb_X10_bringToQuarrel_9 (fun l2 h hk => ih (l2) h hk) hw) hw
theorem s_X10_bringToQuarrel_0 {l : Launch} {G : Gh} {l0 : Option Nat} {l1 : Option Nat} {h : Hp} {Q : Hp → Prop}  (hw : n_X10_bringToQuarrel_0 l0 l1 h Q) : V l G 3 yX10_bringToQuarrel cX10_bringToQuarrel 3 none 0 [(0, va_rf l0), (1, va_rf l1)] [] h (qV Q) := by
  unfold n_X10_bringToQuarrel_0 at hw
  refine V_aload_n 0 rfl rfl dX10_bringToQuarrel_0 ?_
  refine X_getR (c := 10) (k := 10) fa_X10_69 rfl dX10_bringToQuarrel_1 hw (fun v1 hw => ?_)
  refine X_cV 6 [] [] ma_X10_505 (by decide) rfl (by decide) (by decide) rfl (by simp [cat_i, cat_l, rf_cat]) rfl dX10_bringToQuarrel_4 hw (r_X6_clear _) (k_V (fun h hw => ?_))
  refine V_iconst (v := 0) (by decide) dX10_bringToQuarrel_7 ?_
  refine V_istore_n (i := 2) [(2, .int 0), (0, va_rf l0), (1, va_rf l1)] rfl (by decide) (by simp [List.filter_cons, rf_cat, cat_i, cat_l]) dX10_bringToQuarrel_8 ?_
  exact V.sub [1, 2, 0] rfl (s_X10_bringToQuarrel_9 hw)
theorem r_X10_bringToQuarrel {l : Launch} {G : Gh} (l0 : Option Nat) (l1 : Option Nat) {h : Hp} {Q : Hp → Prop} (hw : w_X10_bringToQuarrel l0 l1 h Q) : RunQ l G 3 yX10_bringToQuarrel cX10_bringToQuarrel 3 none [va_rf l0, va_rf l1] h (qV Q) :=
  V_run rfl (sl_len _ _ (by simp [cat_i, cat_l, rf_cat])) (V.sub [0, 1] (by simp only [la_r, la_i, la_l, la_n]; rfl) (s_X10_bringToQuarrel_0 hw))
def n_X10_isCandidate_20 (s0 : Int32) (h : Hp) (Q : Int32 → Hp → Prop) : Prop :=
  rZ s0 h Q
def n_X10_isCandidate_59 (l0 : Option Nat) (l1 : Option Nat) (l2 : Option Nat) (l3 : Int32) (h : Hp) (Q : Int32 → Hp → Prop) (K23 : Int32 → Hp → Prop) : Prop :=
  lt (l3 + 1) fun x10 =>
  K23 x10 h
def b_X10_isCandidate_23 (l0 : Option Nat) (l1 : Option Nat) (l2 : Option Nat) (l3 : Int32) (h : Hp) (Q : Int32 → Hp → Prop) (K23 : Int32 → Hp → Prop) : Prop :=
  gI h l0 11 1292 fun v3 =>
  br (v3 ≤ l3) (
    rZ 0 h Q) (
    gR h l0 11 1280 fun v4 =>
    ldR h v4 l3 fun v5 =>
    gR h v5 6 642 fun v6 =>
    br (v6 = l2) (
      gR h l0 11 1280 fun v7 =>
      ldR h v7 l3 fun v8 =>
      gR h v8 6 650 fun v9 =>
      br (v9 = l1) (
        rZ 1 h Q) (
        n_X10_isCandidate_59 l0 l1 l2 l3 h Q K23)) (
      n_X10_isCandidate_59 l0 l1 l2 l3 h Q K23))
def l_X10_isCandidate_23 (l0 : Option Nat) (l1 : Option Nat) (l2 : Option Nat) (l3 : Int32) (h : Hp) (Q : Int32 → Hp → Prop) : Prop :=
  Lo (fun (K : Int32 → Hp → Prop) s h => b_X10_isCandidate_23 l0 l1 l2 s h Q (fun l3 h => K (l3) h)) (l3) h
def n_X10_isCandidate_0 (l0 : Option Nat) (l1 : Option Nat) (l2 : Option Nat) (h : Hp) (Q : Int32 → Hp → Prop) : Prop :=
  gI h l2 6 641 fun v1 =>
  br (v1 = 0) (
    gR h l1 5 513 fun v2 =>
    br (v2 = l2) (
      n_X10_isCandidate_20 1 h Q) (
      n_X10_isCandidate_20 0 h Q)) (
    l_X10_isCandidate_23 l0 l1 l2 0 h Q)
def w_X10_isCandidate (l0 : Option Nat) (l1 : Option Nat) (l2 : Option Nat) (h : Hp) (Q : Int32 → Hp → Prop) : Prop := n_X10_isCandidate_0 l0 l1 l2 h Q
theorem s_X10_isCandidate_20 {l : Launch} {G : Gh} {s0 : Int32} {h : Hp} {Q : Int32 → Hp → Prop}  (hw : n_X10_isCandidate_20 s0 h Q) : V l G 1 yX10_isCandidate cX10_isCandidate 4 (some .boolean) 20 [] [.int s0] h (qI Q) := by
  unfold n_X10_isCandidate_20 at hw
  exact V_zret rfl hw.1 dX10_isCandidate_20 ⟨_, rfl, hw.2⟩
theorem s_X10_isCandidate_59 {l : Launch} {G : Gh} {l0 : Option Nat} {l1 : Option Nat} {l2 : Option Nat} {l3 : Int32} {h : Hp} {Q : Int32 → Hp → Prop} {K23 : Int32 → Hp → Prop} (hK23 : ∀ (l3 : Int32) (h : Hp), K23 l3 h → V l G 1 yX10_isCandidate cX10_isCandidate 4 (some .boolean) 23 [(0, va_rf l0), (1, va_rf l1), (2, va_rf l2), (3, .int l3)] [] h (qI Q)) (hw : n_X10_isCandidate_59 l0 l1 l2 l3 h Q K23) : V l G 1 yX10_isCandidate cX10_isCandidate 4 (some .boolean) 59 [(0, va_rf l0), (1, va_rf l1), (2, va_rf l2), (3, .int l3)] [] h (qI Q) := by
  unfold n_X10_isCandidate_59 at hw
  refine V_iincL (n := 1) 3 (fun z => [(3, .int z), (0, va_rf l0), (1, va_rf l1), (2, va_rf l2)]) rfl (by rfl) (by decide) (fun _ => (by simp [List.filter_cons, rf_cat, cat_i, cat_l])) dX10_isCandidate_59 hw (fun x10 hw => ?_)
  refine V_goto (tgt := 23) dX10_isCandidate_62 (by decide) ?_
  exact V.sub [1, 2, 3, 0] rfl (hK23 _ _ hw)
theorem sb_X10_isCandidate_23 {l : Launch} {G : Gh} {l0 : Option Nat} {l1 : Option Nat} {l2 : Option Nat} {l3 : Int32} {h : Hp} {Q : Int32 → Hp → Prop} {K23 : Int32 → Hp → Prop} (hK23 : ∀ (l3 : Int32) (h : Hp), K23 l3 h → V l G 1 yX10_isCandidate cX10_isCandidate 4 (some .boolean) 23 [(0, va_rf l0), (1, va_rf l1), (2, va_rf l2), (3, .int l3)] [] h (qI Q)) (hw : b_X10_isCandidate_23 l0 l1 l2 l3 h Q K23) : V l G 1 yX10_isCandidate cX10_isCandidate 4 (some .boolean) 23 [(0, va_rf l0), (1, va_rf l1), (2, va_rf l2), (3, .int l3)] [] h (qI Q) := by
  unfold b_X10_isCandidate_23 at hw
  refine V_iload_n 3 rfl rfl dX10_isCandidate_23 ?_
  refine V_aload_n 0 rfl rfl dX10_isCandidate_24 ?_
  refine X_getI (c := 10) (k := 12) fa_X10_88 rfl dX10_isCandidate_25 hw (fun v3 hw => ?_)
  refine V_icmp_ge (tgt := 65) dX10_isCandidate_28 (by decide) hw (fun hw => ?_) (fun hw => ?_)
  · refine V_iconst (v := 0) (by decide) dX10_isCandidate_65 ?_
    exact V_zret rfl hw.1 dX10_isCandidate_66 ⟨_, rfl, hw.2⟩
  · refine V_aload_n 0 rfl rfl dX10_isCandidate_31 ?_
    refine X_getR (c := 10) (k := 0) fa_X10_11 rfl dX10_isCandidate_32 hw (fun v4 hw => ?_)
    refine V_iload_n 3 rfl rfl dX10_isCandidate_35 ?_
    refine X_ldR dX10_isCandidate_36 hw (fun v5 hw => ?_)
    refine X_getR (c := 5) (k := 2) fa_X10_117 rfl dX10_isCandidate_37 hw (fun v6 hw => ?_)
    refine V_aload_n 2 rfl rfl dX10_isCandidate_40 ?_
    refine V_acmp_ne (tgt := 59) dX10_isCandidate_41 (by decide) hw (fun hw => ?_) (fun hw => ?_)
    · refine V_aload_n 0 rfl rfl dX10_isCandidate_44 ?_
      refine X_getR (c := 10) (k := 0) fa_X10_11 rfl dX10_isCandidate_45 hw (fun v7 hw => ?_)
      refine V_iload_n 3 rfl rfl dX10_isCandidate_48 ?_
      refine X_ldR dX10_isCandidate_49 hw (fun v8 hw => ?_)
      refine X_getR (c := 5) (k := 10) fa_X10_142 rfl dX10_isCandidate_50 hw (fun v9 hw => ?_)
      refine V_aload_n 1 rfl rfl dX10_isCandidate_53 ?_
      refine V_acmp_ne (tgt := 59) dX10_isCandidate_54 (by decide) hw (fun hw => ?_) (fun hw => ?_)
      · refine V_iconst (v := 1) (by decide) dX10_isCandidate_57 ?_
        exact V_zret rfl hw.1 dX10_isCandidate_58 ⟨_, rfl, hw.2⟩
      · exact V.sub [0, 1, 2, 3] rfl (s_X10_isCandidate_59 hK23 hw)
    · exact V.sub [0, 1, 2, 3] rfl (s_X10_isCandidate_59 hK23 hw)
theorem s_X10_isCandidate_23 {l : Launch} {G : Gh} {l0 : Option Nat} {l1 : Option Nat} {l2 : Option Nat} {l3 : Int32} {h : Hp} {Q : Int32 → Hp → Prop}  (hw : l_X10_isCandidate_23 l0 l1 l2 l3 h Q) : V l G 1 yX10_isCandidate cX10_isCandidate 4 (some .boolean) 23 [(0, va_rf l0), (1, va_rf l1), (2, va_rf l2), (3, .int l3)] [] h (qI Q) :=
  Lo.ind (P := fun (s : Int32) h => V l G 1 yX10_isCandidate cX10_isCandidate 4 (some .boolean) 23 [(0, va_rf l0), (1, va_rf l1), (2, va_rf l2), (3, .int s)] [] h (qI Q)) (fun K ih s h hw => sb_X10_isCandidate_23 (fun l3 h hk => ih (l3) h hk) hw) hw
theorem s_X10_isCandidate_0 {l : Launch} {G : Gh} {l0 : Option Nat} {l1 : Option Nat} {l2 : Option Nat} {h : Hp} {Q : Int32 → Hp → Prop}  (hw : n_X10_isCandidate_0 l0 l1 l2 h Q) : V l G 1 yX10_isCandidate cX10_isCandidate 4 (some .boolean) 0 [(0, va_rf l0), (1, va_rf l1), (2, va_rf l2)] [] h (qI Q) := by
  unfold n_X10_isCandidate_0 at hw
  refine V_aload_n 2 rfl rfl dX10_isCandidate_0 ?_
  refine X_getI (c := 5) (k := 1) fa_X10_103 rfl dX10_isCandidate_1 hw (fun v1 hw => ?_)
  refine V_if_ne (tgt := 21) dX10_isCandidate_4 (by decide) hw (fun hw => ?_) (fun hw => ?_)
  · refine V_aload_n 1 rfl rfl dX10_isCandidate_7 ?_
    refine X_getR (c := 4) (k := 1) fa_X10_469 rfl dX10_isCandidate_8 hw (fun v2 hw => ?_)
    refine V_aload_n 2 rfl rfl dX10_isCandidate_11 ?_
    refine V_acmp_ne (tgt := 19) dX10_isCandidate_12 (by decide) hw (fun hw => ?_) (fun hw => ?_)
    · refine V_iconst (v := 1) (by decide) dX10_isCandidate_15 ?_
      refine V_goto (tgt := 20) dX10_isCandidate_16 (by decide) ?_
      exact V.sub [] rfl (s_X10_isCandidate_20 hw)
    · refine V_iconst (v := 0) (by decide) dX10_isCandidate_19 ?_
      exact V.sub [] rfl (s_X10_isCandidate_20 hw)
  · refine V_iconst (v := 0) (by decide) dX10_isCandidate_21 ?_
    refine V_istore_n (i := 3) [(3, .int 0), (0, va_rf l0), (1, va_rf l1), (2, va_rf l2)] rfl (by decide) (by simp [List.filter_cons, rf_cat, cat_i, cat_l]) dX10_isCandidate_22 ?_
    exact V.sub [1, 2, 3, 0] rfl (s_X10_isCandidate_23 hw)
theorem r_X10_isCandidate {l : Launch} {G : Gh} (l0 : Option Nat) (l1 : Option Nat) (l2 : Option Nat) {h : Hp} {Q : Int32 → Hp → Prop} (hw : w_X10_isCandidate l0 l1 l2 h Q) : RunQ l G 1 yX10_isCandidate cX10_isCandidate 4 (some .boolean) [va_rf l0, va_rf l1, va_rf l2] h (qI Q) :=
  V_run rfl (sl_len _ _ (by simp [cat_i, cat_l, rf_cat])) (V.sub [0, 1, 2] (by simp only [la_r, la_i, la_l, la_n]; rfl) (s_X10_isCandidate_0 hw))
def b_X10_candidatesOf_4 (l0 : Option Nat) (l1 : Option Nat) (l2 : Int32) (l3 : Int32) (h : Hp) (Q : Int32 → Hp → Prop) (K4 : Int32 → Int32 → Hp → Prop) : Prop :=
  gI h l0 11 1296 fun v1 =>
  br (v1 ≤ l3) (
    Q l2 h) (
    gR h l0 11 1285 fun v2 =>
    ldR h v2 l3 fun v3 =>
    oV h l0 11 <| w_X10_isCandidate l0 v3 l1 h <| fun v4 h =>
    w_X10_bit v4 h <| fun v5 h =>
    lt (l2 + v5) fun x6 =>
    lt (l3 + 1) fun x7 =>
    K4 x6 x7 h)
def l_X10_candidatesOf_4 (l0 : Option Nat) (l1 : Option Nat) (l2 : Int32) (l3 : Int32) (h : Hp) (Q : Int32 → Hp → Prop) : Prop :=
  Lo (fun (K : Int32 × Int32 → Hp → Prop) s h => b_X10_candidatesOf_4 l0 l1 s.1 s.2 h Q (fun l2 l3 h => K (l2, l3) h)) (l2, l3) h
def n_X10_candidatesOf_0 (l0 : Option Nat) (l1 : Option Nat) (h : Hp) (Q : Int32 → Hp → Prop) : Prop :=
  l_X10_candidatesOf_4 l0 l1 0 0 h Q
def w_X10_candidatesOf (l0 : Option Nat) (l1 : Option Nat) (h : Hp) (Q : Int32 → Hp → Prop) : Prop := n_X10_candidatesOf_0 l0 l1 h Q
theorem sb_X10_candidatesOf_4 {l : Launch} {G : Gh} {l0 : Option Nat} {l1 : Option Nat} {l2 : Int32} {l3 : Int32} {h : Hp} {Q : Int32 → Hp → Prop} {K4 : Int32 → Int32 → Hp → Prop} (hK4 : ∀ (l2 : Int32) (l3 : Int32) (h : Hp), K4 l2 l3 h → V l G 2 yX10_candidatesOf cX10_candidatesOf 4 (some .int) 4 [(0, va_rf l0), (1, va_rf l1), (2, .int l2), (3, .int l3)] [] h (qI Q)) (hw : b_X10_candidatesOf_4 l0 l1 l2 l3 h Q K4) : V l G 2 yX10_candidatesOf cX10_candidatesOf 4 (some .int) 4 [(0, va_rf l0), (1, va_rf l1), (2, .int l2), (3, .int l3)] [] h (qI Q) := by
  unfold b_X10_candidatesOf_4 at hw
  refine V_iload_n 3 rfl rfl dX10_candidatesOf_4 ?_
  refine V_aload_n 0 rfl rfl dX10_candidatesOf_5 ?_
  refine X_getI (c := 10) (k := 16) fa_X10_450 rfl dX10_candidatesOf_6 hw (fun v1 hw => ?_)
  refine V_icmp_ge (tgt := 35) dX10_candidatesOf_9 (by decide) hw (fun hw => ?_) (fun hw => ?_)
  · refine V_iload_n 2 rfl rfl dX10_candidatesOf_35 ?_
    exact V_iret rfl dX10_candidatesOf_36 ⟨_, rfl, hw⟩
  · refine V_iload_n 2 rfl rfl dX10_candidatesOf_12 ?_
    refine V_aload_n 0 rfl rfl dX10_candidatesOf_13 ?_
    refine V_aload_n 0 rfl rfl dX10_candidatesOf_14 ?_
    refine X_getR (c := 10) (k := 5) fa_X10_41 rfl dX10_candidatesOf_15 hw (fun v2 hw => ?_)
    refine V_iload_n 3 rfl rfl dX10_candidatesOf_18 ?_
    refine X_ldR dX10_candidatesOf_19 hw (fun v3 hw => ?_)
    refine V_aload_n 1 rfl rfl dX10_candidatesOf_20 ?_
    refine X_cV 10 [va_rf v3, va_rf l1] [.int l2] ma_X10_470 (by decide) rfl (by decide) (by decide) rfl (by simp [cat_i, cat_l, rf_cat]) rfl dX10_candidatesOf_21 hw (r_X10_isCandidate _ _ _) (k_I (fun v4 h hw => ?_))
    refine X_cS [.int v4] [.int l2] ma_X10_138 (by decide) (by decide) rfl (by simp [cat_i, cat_l, rf_cat]) rfl dX10_candidatesOf_24 (r_X10_bit _ hw) (k_I (fun v5 h hw => ?_))
    refine V_iadd dX10_candidatesOf_27 ?_
    refine V_ltI hw (fun x6 hw => ?_)
    refine V_istore_n (i := 2) [(2, .int x6), (0, va_rf l0), (1, va_rf l1), (3, .int l3)] rfl (by decide) (by simp [List.filter_cons, rf_cat, cat_i, cat_l]) dX10_candidatesOf_28 ?_
    refine V_iincL (n := 1) 3 (fun z => [(3, .int z), (2, .int x6), (0, va_rf l0), (1, va_rf l1)]) rfl (by rfl) (by decide) (fun _ => rfl) dX10_candidatesOf_29 hw (fun x7 hw => ?_)
    refine V_goto (tgt := 4) dX10_candidatesOf_32 (by decide) ?_
    exact V.sub [2, 3, 1, 0] rfl (hK4 _ _ _ hw)
theorem s_X10_candidatesOf_4 {l : Launch} {G : Gh} {l0 : Option Nat} {l1 : Option Nat} {l2 : Int32} {l3 : Int32} {h : Hp} {Q : Int32 → Hp → Prop}  (hw : l_X10_candidatesOf_4 l0 l1 l2 l3 h Q) : V l G 2 yX10_candidatesOf cX10_candidatesOf 4 (some .int) 4 [(0, va_rf l0), (1, va_rf l1), (2, .int l2), (3, .int l3)] [] h (qI Q) :=
  Lo.ind (P := fun (s : Int32 × Int32) h => V l G 2 yX10_candidatesOf cX10_candidatesOf 4 (some .int) 4 [(0, va_rf l0), (1, va_rf l1), (2, .int s.1), (3, .int s.2)] [] h (qI Q)) (fun K ih s h hw => sb_X10_candidatesOf_4 (fun l2 l3 h hk => ih (l2, l3) h hk) hw) hw
theorem s_X10_candidatesOf_0 {l : Launch} {G : Gh} {l0 : Option Nat} {l1 : Option Nat} {h : Hp} {Q : Int32 → Hp → Prop}  (hw : n_X10_candidatesOf_0 l0 l1 h Q) : V l G 2 yX10_candidatesOf cX10_candidatesOf 4 (some .int) 0 [(0, va_rf l0), (1, va_rf l1)] [] h (qI Q) := by
  unfold n_X10_candidatesOf_0 at hw
  refine V_iconst (v := 0) (by decide) dX10_candidatesOf_0 ?_
  refine V_istore_n (i := 2) [(2, .int 0), (0, va_rf l0), (1, va_rf l1)] rfl (by decide) (by simp [List.filter_cons, rf_cat, cat_i, cat_l]) dX10_candidatesOf_1 ?_
  refine V_iconst (v := 0) (by decide) dX10_candidatesOf_2 ?_
  refine V_istore_n (i := 3) [(3, .int 0), (2, .int 0), (0, va_rf l0), (1, va_rf l1)] rfl (by decide) rfl dX10_candidatesOf_3 ?_
  exact V.sub [2, 3, 1, 0] rfl (s_X10_candidatesOf_4 hw)
theorem r_X10_candidatesOf {l : Launch} {G : Gh} (l0 : Option Nat) (l1 : Option Nat) {h : Hp} {Q : Int32 → Hp → Prop} (hw : w_X10_candidatesOf l0 l1 h Q) : RunQ l G 2 yX10_candidatesOf cX10_candidatesOf 4 (some .int) [va_rf l0, va_rf l1] h (qI Q) :=
  V_run rfl (sl_len _ _ (by simp [cat_i, cat_l, rf_cat])) (V.sub [0, 1] (by simp only [la_r, la_i, la_l, la_n]; rfl) (s_X10_candidatesOf_0 hw))
def n_X10_chance_17 (h : Hp) (Q : Int32 → Hp → Prop) : Prop :=
  Q (-1) h
def n_X10_chance_148 (s0 : Int32) (h : Hp) (Q : Int32 → Hp → Prop) : Prop :=
  Q s0 h
def n_X10_chance_131 (l0 : Option Nat) (l2 : Int32) (l3 : Option Nat) (l4 : Int32) (l5 : Int32) (l6 : Int32) (h : Hp) (Q : Int32 → Hp → Prop) (K28 : Int32 → Int32 → Int32 → Hp → Prop) : Prop :=
  lt (l6 + 1) fun x6 =>
  K28 l4 l5 x6 h
def n_X10_chance_125 (l0 : Option Nat) (l2 : Int32) (l3 : Option Nat) (l4 : Int32) (l6 : Int32) (s0 : Int32) (s1 : Int32) (h : Hp) (Q : Int32 → Hp → Prop) (K28 : Int32 → Int32 → Int32 → Hp → Prop) : Prop :=
  w_X10_bit s0 h <| fun v20 h =>
  lt (s1 + v20) fun x21 =>
  n_X10_chance_131 l0 l2 l3 l4 x21 l6 h Q K28
def b_X10_chance_28 (l0 : Option Nat) (l2 : Int32) (l3 : Option Nat) (l4 : Int32) (l5 : Int32) (l6 : Int32) (h : Hp) (Q : Int32 → Hp → Prop) (K28 : Int32 → Int32 → Int32 → Hp → Prop) : Prop :=
  gI h l0 11 1293 fun v3 =>
  br (v3 ≤ l6) (
    br (l2 = 0) (
      n_X10_chance_148 l5 h Q) (
      n_X10_chance_148 l4 h Q)) (
    gR h l0 11 1282 fun v4 =>
    ldR h v4 l6 fun v5 =>
    br (v5 = l3) (
      n_X10_chance_131 l0 l2 l3 l4 l5 l6 h Q K28) (
      gR h v5 1 8 fun v7 =>
      br (v7 = none) (
        n_X10_chance_131 l0 l2 l3 l4 l5 l6 h Q K28) (
        gI h v5 1 2 fun v8 =>
        gI h l3 1 2 fun v9 =>
        br (v8 = v9) (
          gR h l3 1 10 fun v10 =>
          gR h v5 1 1 fun v11 =>
          w_X10_dayOfReach v10 v11 h <| fun v12 h =>
          gI h v5 1 5 fun v13 =>
          br (v12 ≤ v13) (
            n_X10_chance_131 l0 l2 l3 l4 l5 l6 h Q K28) (
            lt (l4 + 1) fun x14 =>
            gR h v5 1 8 fun v15 =>
            gR h l3 1 10 fun v16 =>
            gR h v16 4 388 fun v17 =>
            oV h l0 11 <| w_X10_likeOnes l0 v15 v17 h <| fun v18 h =>
            gI h l3 1 11 fun v19 =>
            br (v18 < v19) (
              n_X10_chance_125 l0 l2 l3 x14 l6 0 l5 h Q K28) (
              n_X10_chance_125 l0 l2 l3 x14 l6 1 l5 h Q K28))) (
          n_X10_chance_131 l0 l2 l3 l4 l5 l6 h Q K28))))
def l_X10_chance_28 (l0 : Option Nat) (l2 : Int32) (l3 : Option Nat) (l4 : Int32) (l5 : Int32) (l6 : Int32) (h : Hp) (Q : Int32 → Hp → Prop) : Prop :=
  Lo (fun (K : Int32 × Int32 × Int32 → Hp → Prop) s h => b_X10_chance_28 l0 l2 l3 s.1 s.2.1 s.2.2 h Q (fun l4 l5 l6 h => K (l4, l5, l6) h)) (l4, l5, l6) h
def n_X10_chance_0 (l0 : Option Nat) (l1 : Int32) (l2 : Int32) (h : Hp) (Q : Int32 → Hp → Prop) : Prop :=
  oV h l0 11 <| w_X10_askAt l0 l1 h <| fun v1 h =>
  br (v1 = none) (
    n_X10_chance_17 h Q) (
    gR h v1 1 10 fun v2 =>
    br (v2 = none) (
      n_X10_chance_17 h Q) (
      l_X10_chance_28 l0 l2 v1 0 0 0 h Q))
def w_X10_chance (l0 : Option Nat) (l1 : Int32) (l2 : Int32) (h : Hp) (Q : Int32 → Hp → Prop) : Prop := n_X10_chance_0 l0 l1 l2 h Q
theorem s_X10_chance_17 {l : Launch} {G : Gh}  {h : Hp} {Q : Int32 → Hp → Prop}  (hw : n_X10_chance_17 h Q) : V l G 3 yX10_chance cX10_chance 8 (some .int) 17 [] [] h (qI Q) := by
  unfold n_X10_chance_17 at hw
  refine V_iconst (v := (-1)) (by decide) dX10_chance_17 ?_
  exact V_iret rfl dX10_chance_18 ⟨_, rfl, hw⟩
theorem s_X10_chance_148 {l : Launch} {G : Gh} {s0 : Int32} {h : Hp} {Q : Int32 → Hp → Prop}  (hw : n_X10_chance_148 s0 h Q) : V l G 3 yX10_chance cX10_chance 8 (some .int) 148 [] [.int s0] h (qI Q) := by
  unfold n_X10_chance_148 at hw
  exact V_iret rfl dX10_chance_148 ⟨_, rfl, hw⟩
theorem s_X10_chance_131 {l : Launch} {G : Gh} {l0 : Option Nat} {l2 : Int32} {l3 : Option Nat} {l4 : Int32} {l5 : Int32} {l6 : Int32} {h : Hp} {Q : Int32 → Hp → Prop} {K28 : Int32 → Int32 → Int32 → Hp → Prop} (hK28 : ∀ (l4 : Int32) (l5 : Int32) (l6 : Int32) (h : Hp), K28 l4 l5 l6 h → V l G 3 yX10_chance cX10_chance 8 (some .int) 28 [(0, va_rf l0), (2, .int l2), (3, va_rf l3), (4, .int l4), (5, .int l5), (6, .int l6)] [] h (qI Q)) (hw : n_X10_chance_131 l0 l2 l3 l4 l5 l6 h Q K28) : V l G 3 yX10_chance cX10_chance 8 (some .int) 131 [(0, va_rf l0), (2, .int l2), (3, va_rf l3), (4, .int l4), (5, .int l5), (6, .int l6)] [] h (qI Q) := by
  unfold n_X10_chance_131 at hw
  refine V_iincL (n := 1) 5 (fun z => [(6, .int z), (0, va_rf l0), (2, .int l2), (3, va_rf l3), (4, .int l4), (5, .int l5)]) rfl (by rfl) (by decide) (fun _ => rfl) dX10_chance_131 hw (fun x6 hw => ?_)
  refine V_goto (tgt := 28) dX10_chance_134 (by decide) ?_
  exact V.sub [1, 2, 3, 4, 5, 0] rfl (hK28 _ _ _ _ hw)
theorem s_X10_chance_125 {l : Launch} {G : Gh} {l0 : Option Nat} {l2 : Int32} {l3 : Option Nat} {l4 : Int32} {l6 : Int32} {s0 : Int32} {s1 : Int32} {h : Hp} {Q : Int32 → Hp → Prop} {K28 : Int32 → Int32 → Int32 → Hp → Prop} (hK28 : ∀ (l4 : Int32) (l5 : Int32) (l6 : Int32) (h : Hp), K28 l4 l5 l6 h → V l G 3 yX10_chance cX10_chance 8 (some .int) 28 [(0, va_rf l0), (2, .int l2), (3, va_rf l3), (4, .int l4), (5, .int l5), (6, .int l6)] [] h (qI Q)) (hw : n_X10_chance_125 l0 l2 l3 l4 l6 s0 s1 h Q K28) : V l G 3 yX10_chance cX10_chance 8 (some .int) 125 [(0, va_rf l0), (2, .int l2), (3, va_rf l3), (4, .int l4), (6, .int l6)] [.int s0, .int s1] h (qI Q) := by
  unfold n_X10_chance_125 at hw
  refine X_cS [.int s0] [.int s1] ma_X10_138 (by decide) (by decide) rfl (by simp [cat_i, cat_l, rf_cat]) rfl dX10_chance_125 (r_X10_bit _ hw) (k_I (fun v20 h hw => ?_))
  refine V_iadd dX10_chance_128 ?_
  refine V_ltI hw (fun x21 hw => ?_)
  refine V_istore (i := 5) [(5, .int x21), (0, va_rf l0), (2, .int l2), (3, va_rf l3), (4, .int l4), (6, .int l6)] (by decide) rfl dX10_chance_129 ?_
  exact V.sub [1, 2, 3, 4, 0, 5] rfl (s_X10_chance_131 hK28 hw)
set_option maxRecDepth 20000 in
theorem sb_X10_chance_28 {l : Launch} {G : Gh} {l0 : Option Nat} {l2 : Int32} {l3 : Option Nat} {l4 : Int32} {l5 : Int32} {l6 : Int32} {h : Hp} {Q : Int32 → Hp → Prop} {K28 : Int32 → Int32 → Int32 → Hp → Prop} (hK28 : ∀ (l4 : Int32) (l5 : Int32) (l6 : Int32) (h : Hp), K28 l4 l5 l6 h → V l G 3 yX10_chance cX10_chance 8 (some .int) 28 [(0, va_rf l0), (2, .int l2), (3, va_rf l3), (4, .int l4), (5, .int l5), (6, .int l6)] [] h (qI Q)) (hw : b_X10_chance_28 l0 l2 l3 l4 l5 l6 h Q K28) : V l G 3 yX10_chance cX10_chance 8 (some .int) 28 [(0, va_rf l0), (2, .int l2), (3, va_rf l3), (4, .int l4), (5, .int l5), (6, .int l6)] [] h (qI Q) := by
  unfold b_X10_chance_28 at hw
  refine V_iload 5 rfl dX10_chance_28 ?_
  refine V_aload_n 0 rfl rfl dX10_chance_30 ?_
  refine X_getI (c := 10) (k := 13) fa_X10_249 rfl dX10_chance_31 hw (fun v3 hw => ?_)
  refine V_icmp_ge (tgt := 137) dX10_chance_34 (by decide) hw (fun hw => ?_) (fun hw => ?_)
  · refine V_iload_n 1 rfl rfl dX10_chance_137 ?_
    refine V_if_eq (tgt := 146) dX10_chance_138 (by decide) hw (fun hw => ?_) (fun hw => ?_)
    · refine V_iload 4 rfl dX10_chance_146 ?_
      exact V.sub [] rfl (s_X10_chance_148 hw)
    · refine V_iload 3 rfl dX10_chance_141 ?_
      refine V_goto (tgt := 148) dX10_chance_143 (by decide) ?_
      exact V.sub [] rfl (s_X10_chance_148 hw)
  · refine V_aload_n 0 rfl rfl dX10_chance_37 ?_
    refine X_getR (c := 10) (k := 2) fa_X10_23 rfl dX10_chance_38 hw (fun v4 hw => ?_)
    refine V_iload 5 rfl dX10_chance_41 ?_
    refine X_ldR dX10_chance_43 hw (fun v5 hw => ?_)
    refine V_astore (i := 7) [(7, va_rf v5), (0, va_rf l0), (2, .int l2), (3, va_rf l3), (4, .int l4), (5, .int l5), (6, .int l6)] (by decide) rfl dX10_chance_44 ?_
    refine V_aload 0 rfl dX10_chance_46 ?_
    refine V_aload_n 3 rfl rfl dX10_chance_48 ?_
    refine V_acmp_eq (tgt := 131) dX10_chance_49 (by decide) hw (fun hw => ?_) (fun hw => ?_)
    · exact V.sub [1, 2, 3, 4, 5, 6] rfl (s_X10_chance_131 hK28 hw)
    · refine V_aload 0 rfl dX10_chance_52 ?_
      refine X_getR (c := 0) (k := 8) fa_X10_237 rfl dX10_chance_54 hw (fun v7 hw => ?_)
      refine V_ifnull (tgt := 131) dX10_chance_57 (by decide) hw (fun hw => ?_) (fun hw => ?_)
      · exact V.sub [1, 2, 3, 4, 5, 6] rfl (s_X10_chance_131 hK28 hw)
      · refine V_aload 0 rfl dX10_chance_60 ?_
        refine X_getI (c := 0) (k := 2) fa_X10_252 rfl dX10_chance_62 hw (fun v8 hw => ?_)
        refine V_aload_n 3 rfl rfl dX10_chance_65 ?_
        refine X_getI (c := 0) (k := 2) fa_X10_252 rfl dX10_chance_66 hw (fun v9 hw => ?_)
        refine V_icmp_ne (tgt := 131) dX10_chance_69 (by decide) hw (fun hw => ?_) (fun hw => ?_)
        · refine V_aload_n 3 rfl rfl dX10_chance_72 ?_
          refine X_getR (c := 0) (k := 10) fa_X10_245 rfl dX10_chance_73 hw (fun v10 hw => ?_)
          refine V_aload 0 rfl dX10_chance_76 ?_
          refine X_getR (c := 0) (k := 1) fa_X10_255 rfl dX10_chance_78 hw (fun v11 hw => ?_)
          refine X_cS [va_rf v10, va_rf v11] [] ma_X10_233 (by decide) (by decide) rfl (by simp [cat_i, cat_l, rf_cat]) rfl dX10_chance_81 (r_X10_dayOfReach _ _ hw) (k_I (fun v12 h hw => ?_))
          refine V_aload 0 rfl dX10_chance_84 ?_
          refine X_getI (c := 0) (k := 5) fa_X10_258 rfl dX10_chance_86 hw (fun v13 hw => ?_)
          refine V_icmp_le (tgt := 131) dX10_chance_89 (by decide) hw (fun hw => ?_) (fun hw => ?_)
          · exact V.sub [1, 2, 3, 4, 5, 6] rfl (s_X10_chance_131 hK28 hw)
          · refine V_iincL (n := 1) 4 (fun z => [(4, .int z), (7, va_rf v5), (0, va_rf l0), (2, .int l2), (3, va_rf l3), (5, .int l5), (6, .int l6)]) rfl (by rfl) (by decide) (fun _ => (by simp [List.filter_cons, rf_cat, cat_i, cat_l])) dX10_chance_92 hw (fun x14 hw => ?_)
            refine V_iload 5 rfl dX10_chance_95 ?_
            refine V_aload_n 2 rfl rfl dX10_chance_97 ?_
            refine V_aload 1 rfl dX10_chance_98 ?_
            refine X_getR (c := 0) (k := 8) fa_X10_237 rfl dX10_chance_100 hw (fun v15 hw => ?_)
            refine V_aload_n 4 rfl rfl dX10_chance_103 ?_
            refine X_getR (c := 0) (k := 10) fa_X10_245 rfl dX10_chance_104 hw (fun v16 hw => ?_)
            refine X_getR (c := 3) (k := 4) fa_X10_240 rfl dX10_chance_107 hw (fun v17 hw => ?_)
            refine X_cV 10 [va_rf v15, va_rf v17] [.int l5] ma_X10_241 (by decide) rfl (by decide) (by decide) rfl (by simp [cat_i, cat_l, rf_cat]) rfl dX10_chance_110 hw (r_X10_likeOnes _ _ _) (k_I (fun v18 h hw => ?_))
            refine V_aload_n 4 rfl rfl dX10_chance_113 ?_
            refine X_getI (c := 0) (k := 11) fa_X10_209 rfl dX10_chance_114 hw (fun v19 hw => ?_)
            refine V_icmp_lt (tgt := 124) dX10_chance_117 (by decide) hw (fun hw => ?_) (fun hw => ?_)
            · refine V_iconst (v := 0) (by decide) dX10_chance_124 ?_
              exact V.sub [2, 3, 4, 0, 6] rfl (s_X10_chance_125 hK28 hw)
            · refine V_iconst (v := 1) (by decide) dX10_chance_120 ?_
              refine V_goto (tgt := 125) dX10_chance_121 (by decide) ?_
              exact V.sub [2, 3, 4, 0, 6] rfl (s_X10_chance_125 hK28 hw)
        · exact V.sub [1, 2, 3, 4, 5, 6] rfl (s_X10_chance_131 hK28 hw)
theorem s_X10_chance_28 {l : Launch} {G : Gh} {l0 : Option Nat} {l2 : Int32} {l3 : Option Nat} {l4 : Int32} {l5 : Int32} {l6 : Int32} {h : Hp} {Q : Int32 → Hp → Prop}  (hw : l_X10_chance_28 l0 l2 l3 l4 l5 l6 h Q) : V l G 3 yX10_chance cX10_chance 8 (some .int) 28 [(0, va_rf l0), (2, .int l2), (3, va_rf l3), (4, .int l4), (5, .int l5), (6, .int l6)] [] h (qI Q) :=
  Lo.ind (P := fun (s : Int32 × Int32 × Int32) h => V l G 3 yX10_chance cX10_chance 8 (some .int) 28 [(0, va_rf l0), (2, .int l2), (3, va_rf l3), (4, .int s.1), (5, .int s.2.1), (6, .int s.2.2)] [] h (qI Q)) (fun K ih s h hw => sb_X10_chance_28 (fun l4 l5 l6 h hk => ih (l4, l5, l6) h hk) hw) hw
theorem s_X10_chance_0 {l : Launch} {G : Gh} {l0 : Option Nat} {l1 : Int32} {l2 : Int32} {h : Hp} {Q : Int32 → Hp → Prop}  (hw : n_X10_chance_0 l0 l1 l2 h Q) : V l G 3 yX10_chance cX10_chance 8 (some .int) 0 [(0, va_rf l0), (1, .int l1), (2, .int l2)] [] h (qI Q) := by
  unfold n_X10_chance_0 at hw
  refine V_aload_n 0 rfl rfl dX10_chance_0 ?_
  refine V_iload_n 1 rfl rfl dX10_chance_1 ?_
  refine X_cV 10 [.int l1] [] ma_X10_196 (by decide) rfl (by decide) (by decide) rfl (by simp [cat_i, cat_l, rf_cat]) rfl dX10_chance_2 hw (r_X10_askAt _ _) (k_R (fun v1 h hw => ?_))
  refine V_astore_n (i := 3) [(3, va_rf v1), (0, va_rf l0), (1, .int l1), (2, .int l2)] rfl (by decide) rfl dX10_chance_5 ?_
  refine V_aload_n 0 rfl rfl dX10_chance_6 ?_
  refine V_ifnull (tgt := 17) dX10_chance_7 (by decide) hw (fun hw => ?_) (fun hw => ?_)
  · exact V.sub [] rfl (s_X10_chance_17 hw)
  · refine V_aload_n 0 rfl rfl dX10_chance_10 ?_
    refine X_getR (c := 0) (k := 10) fa_X10_245 rfl dX10_chance_11 hw (fun v2 hw => ?_)
    refine V_ifnonnull (tgt := 19) dX10_chance_14 (by decide) hw (fun hw => ?_) (fun hw => ?_)
    · exact V.sub [] rfl (s_X10_chance_17 hw)
    · refine V_iconst (v := 0) (by decide) dX10_chance_19 ?_
      refine V_istore (i := 4) [(4, .int 0), (3, va_rf v1), (0, va_rf l0), (1, .int l1), (2, .int l2)] (by decide) (by simp [List.filter_cons, rf_cat, cat_i, cat_l]) dX10_chance_20 ?_
      refine V_iconst (v := 0) (by decide) dX10_chance_22 ?_
      refine V_istore (i := 5) [(5, .int 0), (4, .int 0), (3, va_rf v1), (0, va_rf l0), (1, .int l1), (2, .int l2)] (by decide) rfl dX10_chance_23 ?_
      refine V_iconst (v := 0) (by decide) dX10_chance_25 ?_
      refine V_istore (i := 6) [(6, .int 0), (5, .int 0), (4, .int 0), (3, va_rf v1), (0, va_rf l0), (1, .int l1), (2, .int l2)] (by decide) rfl dX10_chance_26 ?_
      exact V.sub [4, 6, 3, 2, 1, 0] rfl (s_X10_chance_28 hw)
theorem r_X10_chance {l : Launch} {G : Gh} (l0 : Option Nat) (l1 : Int32) (l2 : Int32) {h : Hp} {Q : Int32 → Hp → Prop} (hw : w_X10_chance l0 l1 l2 h Q) : RunQ l G 3 yX10_chance cX10_chance 8 (some .int) [va_rf l0, .int l1, .int l2] h (qI Q) :=
  V_run rfl (sl_len _ _ (by simp [cat_i, cat_l, rf_cat])) (V.sub [0, 1, 2] (by simp only [la_r, la_i, la_l, la_n]; rfl) (s_X10_chance_0 hw))
def n_X10_shelfAt_20 (s0 : Option Nat) (h : Hp) (Q : Option Nat → Hp → Prop) : Prop :=
  Q s0 h
def n_X10_shelfAt_0 (l0 : Option Nat) (l1 : Int32) (h : Hp) (Q : Option Nat → Hp → Prop) : Prop :=
  w_X10_isIn l1 0 7 h <| fun v1 h =>
  br (v1 = 0) (
    n_X10_shelfAt_20 none h Q) (
    gR h l0 11 1281 fun v2 =>
    ldR h v2 l1 fun v3 =>
    n_X10_shelfAt_20 v3 h Q)
def w_X10_shelfAt (l0 : Option Nat) (l1 : Int32) (h : Hp) (Q : Option Nat → Hp → Prop) : Prop := n_X10_shelfAt_0 l0 l1 h Q
theorem s_X10_shelfAt_20 {l : Launch} {G : Gh} {s0 : Option Nat} {h : Hp} {Q : Option Nat → Hp → Prop}  (hw : n_X10_shelfAt_20 s0 h Q) : V l G 2 yX10_shelfAt cX10_shelfAt 2 (some (.object "ComplaintBooks$Shelf")) 20 [] [va_rf s0] h (qR Q) := by
  unfold n_X10_shelfAt_20 at hw
  exact V_aret rfl (Or.inl ⟨_, rfl⟩) dX10_shelfAt_20 ⟨_, rfl, hw⟩
theorem s_X10_shelfAt_0 {l : Launch} {G : Gh} {l0 : Option Nat} {l1 : Int32} {h : Hp} {Q : Option Nat → Hp → Prop}  (hw : n_X10_shelfAt_0 l0 l1 h Q) : V l G 2 yX10_shelfAt cX10_shelfAt 2 (some (.object "ComplaintBooks$Shelf")) 0 [(0, va_rf l0), (1, .int l1)] [] h (qR Q) := by
  unfold n_X10_shelfAt_0 at hw
  refine V_iload_n 1 rfl rfl dX10_shelfAt_0 ?_
  refine V_iconst (v := 0) (by decide) dX10_shelfAt_1 ?_
  refine V_bipush (v := 7) (by decide) dX10_shelfAt_2 ?_
  refine X_cS [.int l1, .int 0, .int 7] [] ma_X10_99 (by decide) (by decide) rfl (by simp [cat_i, cat_l, rf_cat]) rfl dX10_shelfAt_4 (r_X10_isIn _ _ _ hw) (k_I (fun v1 h hw => ?_))
  refine V_if_eq (tgt := 19) dX10_shelfAt_7 (by decide) hw (fun hw => ?_) (fun hw => ?_)
  · refine V_null dX10_shelfAt_19 ?_
    exact V.sub [] rfl (s_X10_shelfAt_20 hw)
  · refine V_aload_n 0 rfl rfl dX10_shelfAt_10 ?_
    refine X_getR (c := 10) (k := 1) fa_X10_17 rfl dX10_shelfAt_11 hw (fun v2 hw => ?_)
    refine V_iload_n 1 rfl rfl dX10_shelfAt_14 ?_
    refine X_ldR dX10_shelfAt_15 hw (fun v3 hw => ?_)
    refine V_goto (tgt := 20) dX10_shelfAt_16 (by decide) ?_
    exact V.sub [] rfl (s_X10_shelfAt_20 hw)
theorem r_X10_shelfAt {l : Launch} {G : Gh} (l0 : Option Nat) (l1 : Int32) {h : Hp} {Q : Option Nat → Hp → Prop} (hw : w_X10_shelfAt l0 l1 h Q) : RunQ l G 2 yX10_shelfAt cX10_shelfAt 2 (some (.object "ComplaintBooks$Shelf")) [va_rf l0, .int l1] h (qR Q) :=
  V_run rfl (sl_len _ _ (by simp [cat_i, cat_l, rf_cat])) (V.sub [0, 1] (by simp only [la_r, la_i, la_l, la_n]; rfl) (s_X10_shelfAt_0 hw))
def n_X9_hasRow_13 (s0 : Int32) (h : Hp) (Q : Int32 → Hp → Prop) : Prop :=
  rZ s0 h Q
def n_X9_hasRow_0 (l0 : Option Nat) (h : Hp) (Q : Int32 → Hp → Prop) : Prop :=
  gI h l0 10 1153 fun v1 =>
  br (v1 = (-1)) (
    n_X9_hasRow_13 0 h Q) (
    n_X9_hasRow_13 1 h Q)
def w_X9_hasRow (l0 : Option Nat) (h : Hp) (Q : Int32 → Hp → Prop) : Prop := n_X9_hasRow_0 l0 h Q
theorem s_X9_hasRow_13 {l : Launch} {G : Gh} {s0 : Int32} {h : Hp} {Q : Int32 → Hp → Prop}  (hw : n_X9_hasRow_13 s0 h Q) : V l G 1 yX9_hasRow cX9_hasRow 1 (some .boolean) 13 [] [.int s0] h (qI Q) := by
  unfold n_X9_hasRow_13 at hw
  exact V_zret rfl hw.1 dX9_hasRow_13 ⟨_, rfl, hw.2⟩
theorem s_X9_hasRow_0 {l : Launch} {G : Gh} {l0 : Option Nat} {h : Hp} {Q : Int32 → Hp → Prop}  (hw : n_X9_hasRow_0 l0 h Q) : V l G 1 yX9_hasRow cX9_hasRow 1 (some .boolean) 0 [(0, va_rf l0)] [] h (qI Q) := by
  unfold n_X9_hasRow_0 at hw
  refine V_aload_n 0 rfl rfl dX9_hasRow_0 ?_
  refine X_getI (c := 9) (k := 1) fa_X9_15 rfl dX9_hasRow_1 hw (fun v1 hw => ?_)
  refine V_iconst (v := (-1)) (by decide) dX9_hasRow_4 ?_
  refine V_icmp_eq (tgt := 12) dX9_hasRow_5 (by decide) hw (fun hw => ?_) (fun hw => ?_)
  · refine V_iconst (v := 0) (by decide) dX9_hasRow_12 ?_
    exact V.sub [] rfl (s_X9_hasRow_13 hw)
  · refine V_iconst (v := 1) (by decide) dX9_hasRow_8 ?_
    refine V_goto (tgt := 13) dX9_hasRow_9 (by decide) ?_
    exact V.sub [] rfl (s_X9_hasRow_13 hw)
theorem r_X9_hasRow {l : Launch} {G : Gh} (l0 : Option Nat) {h : Hp} {Q : Int32 → Hp → Prop} (hw : w_X9_hasRow l0 h Q) : RunQ l G 1 yX9_hasRow cX9_hasRow 1 (some .boolean) [va_rf l0] h (qI Q) :=
  V_run rfl (sl_len _ _ (by simp [cat_i, cat_l, rf_cat])) (V.sub [0] (by simp only [la_r, la_i, la_l, la_n]; rfl) (s_X9_hasRow_0 hw))
def n_X10_rowTrouble_29 (s0 : Int32) (h : Hp) (Q : Int32 → Hp → Prop) : Prop :=
  Q s0 h
def n_X10_rowTrouble_0 (l0 : Option Nat) (h : Hp) (Q : Int32 → Hp → Prop) : Prop :=
  br (l0 = none) (
    Q (-1) h) (
    gR h l0 10 1155 fun v1 =>
    br (v1 = none) (
      oV h l0 10 <| w_X9_hasRow l0 h <| fun v2 h =>
      br (v2 = 0) (
        n_X10_rowTrouble_29 (-3) h Q) (
        n_X10_rowTrouble_29 0 h Q)) (
      Q (-2) h))
def w_X10_rowTrouble (l0 : Option Nat) (h : Hp) (Q : Int32 → Hp → Prop) : Prop := n_X10_rowTrouble_0 l0 h Q
theorem s_X10_rowTrouble_29 {l : Launch} {G : Gh} {s0 : Int32} {h : Hp} {Q : Int32 → Hp → Prop}  (hw : n_X10_rowTrouble_29 s0 h Q) : V l G 2 yX10_rowTrouble cX10_rowTrouble 1 (some .int) 29 [] [.int s0] h (qI Q) := by
  unfold n_X10_rowTrouble_29 at hw
  exact V_iret rfl dX10_rowTrouble_29 ⟨_, rfl, hw⟩
theorem s_X10_rowTrouble_0 {l : Launch} {G : Gh} {l0 : Option Nat} {h : Hp} {Q : Int32 → Hp → Prop}  (hw : n_X10_rowTrouble_0 l0 h Q) : V l G 2 yX10_rowTrouble cX10_rowTrouble 1 (some .int) 0 [(0, va_rf l0)] [] h (qI Q) := by
  unfold n_X10_rowTrouble_0 at hw
  refine V_aload_n 0 rfl rfl dX10_rowTrouble_0 ?_
  refine V_ifnonnull (tgt := 6) dX10_rowTrouble_1 (by decide) hw (fun hw => ?_) (fun hw => ?_)
  · refine V_iconst (v := (-1)) (by decide) dX10_rowTrouble_4 ?_
    exact V_iret rfl dX10_rowTrouble_5 ⟨_, rfl, hw⟩
  · refine V_aload_n 0 rfl rfl dX10_rowTrouble_6 ?_
    refine X_getR (c := 9) (k := 3) fa_X10_182 rfl dX10_rowTrouble_7 hw (fun v1 hw => ?_)
    refine V_ifnull (tgt := 16) dX10_rowTrouble_10 (by decide) hw (fun hw => ?_) (fun hw => ?_)
    · refine V_aload_n 0 rfl rfl dX10_rowTrouble_16 ?_
      refine X_cV 9 [] [] ma_X10_186 (by decide) rfl (by decide) (by decide) rfl (by simp [cat_i, cat_l, rf_cat]) rfl dX10_rowTrouble_17 hw (r_X9_hasRow _) (k_I (fun v2 h hw => ?_))
      refine V_if_eq (tgt := 27) dX10_rowTrouble_20 (by decide) hw (fun hw => ?_) (fun hw => ?_)
      · refine V_bipush (v := (-3)) (by decide) dX10_rowTrouble_27 ?_
        exact V.sub [] rfl (s_X10_rowTrouble_29 hw)
      · refine V_iconst (v := 0) (by decide) dX10_rowTrouble_23 ?_
        refine V_goto (tgt := 29) dX10_rowTrouble_24 (by decide) ?_
        exact V.sub [] rfl (s_X10_rowTrouble_29 hw)
    · refine V_bipush (v := (-2)) (by decide) dX10_rowTrouble_13 ?_
      exact V_iret rfl dX10_rowTrouble_15 ⟨_, rfl, hw⟩
theorem r_X10_rowTrouble {l : Launch} {G : Gh} (l0 : Option Nat) {h : Hp} {Q : Int32 → Hp → Prop} (hw : w_X10_rowTrouble l0 h Q) : RunQ l G 2 yX10_rowTrouble cX10_rowTrouble 1 (some .int) [va_rf l0] h (qI Q) :=
  V_run rfl (sl_len _ _ (by simp [cat_i, cat_l, rf_cat])) (V.sub [0] (by simp only [la_r, la_i, la_l, la_n]; rfl) (s_X10_rowTrouble_0 hw))
def n_X9_votesFor_49 (l3 : Int32) (h : Hp) (Q : Int32 → Hp → Prop) : Prop :=
  Q l3 h
def n_X9_votesFor_38 (l0 : Option Nat) (l1 : Int32) (l2 : Int32) (l4 : Int32) (s0 : Int32) (s1 : Int32) (h : Hp) (Q : Int32 → Hp → Prop) (K5 : Int32 → Int32 → Hp → Prop) : Prop :=
  w_X10_bit s0 h <| fun v4 h =>
  lt (s1 + v4) fun x5 =>
  lt (l4 + 1) fun x6 =>
  K5 x5 x6 h
def b_X9_votesFor_5 (l0 : Option Nat) (l1 : Int32) (l2 : Int32) (l3 : Int32) (l4 : Int32) (h : Hp) (Q : Int32 → Hp → Prop) (K5 : Int32 → Int32 → Hp → Prop) : Prop :=
  br (l2 ≤ l4) (
    n_X9_votesFor_49 l3 h Q) (
    gI h l0 10 1154 fun v1 =>
    br (v1 ≤ l4) (
      n_X9_votesFor_49 l3 h Q) (
      gR h l0 10 1152 fun v2 =>
      ldL h v2 l4 fun v3 =>
      br ((v3 : Int64).toInt32 = l1) (
        n_X9_votesFor_38 l0 l1 l2 l4 1 l3 h Q K5) (
        n_X9_votesFor_38 l0 l1 l2 l4 0 l3 h Q K5)))
def l_X9_votesFor_5 (l0 : Option Nat) (l1 : Int32) (l2 : Int32) (l3 : Int32) (l4 : Int32) (h : Hp) (Q : Int32 → Hp → Prop) : Prop :=
  Lo (fun (K : Int32 × Int32 → Hp → Prop) s h => b_X9_votesFor_5 l0 l1 l2 s.1 s.2 h Q (fun l3 l4 h => K (l3, l4) h)) (l3, l4) h
def n_X9_votesFor_0 (l0 : Option Nat) (l1 : Int32) (l2 : Int32) (h : Hp) (Q : Int32 → Hp → Prop) : Prop :=
  l_X9_votesFor_5 l0 l1 l2 0 0 h Q
def w_X9_votesFor (l0 : Option Nat) (l1 : Int32) (l2 : Int32) (h : Hp) (Q : Int32 → Hp → Prop) : Prop := n_X9_votesFor_0 l0 l1 l2 h Q
theorem s_X9_votesFor_49 {l : Launch} {G : Gh} {l3 : Int32} {h : Hp} {Q : Int32 → Hp → Prop}  (hw : n_X9_votesFor_49 l3 h Q) : V l G 2 yX9_votesFor cX9_votesFor 5 (some .int) 49 [(3, .int l3)] [] h (qI Q) := by
  unfold n_X9_votesFor_49 at hw
  refine V_iload_n 0 rfl rfl dX9_votesFor_49 ?_
  exact V_iret rfl dX9_votesFor_50 ⟨_, rfl, hw⟩
theorem s_X9_votesFor_38 {l : Launch} {G : Gh} {l0 : Option Nat} {l1 : Int32} {l2 : Int32} {l4 : Int32} {s0 : Int32} {s1 : Int32} {h : Hp} {Q : Int32 → Hp → Prop} {K5 : Int32 → Int32 → Hp → Prop} (hK5 : ∀ (l3 : Int32) (l4 : Int32) (h : Hp), K5 l3 l4 h → V l G 2 yX9_votesFor cX9_votesFor 5 (some .int) 5 [(0, va_rf l0), (1, .int l1), (2, .int l2), (3, .int l3), (4, .int l4)] [] h (qI Q)) (hw : n_X9_votesFor_38 l0 l1 l2 l4 s0 s1 h Q K5) : V l G 2 yX9_votesFor cX9_votesFor 5 (some .int) 38 [(0, va_rf l0), (1, .int l1), (2, .int l2), (4, .int l4)] [.int s0, .int s1] h (qI Q) := by
  unfold n_X9_votesFor_38 at hw
  refine X_cS [.int s0] [.int s1] ma_X9_36 (by decide) (by decide) rfl (by simp [cat_i, cat_l, rf_cat]) rfl dX9_votesFor_38 (r_X10_bit _ hw) (k_I (fun v4 h hw => ?_))
  refine V_iadd dX9_votesFor_41 ?_
  refine V_ltI hw (fun x5 hw => ?_)
  refine V_istore_n (i := 3) [(3, .int x5), (0, va_rf l0), (1, .int l1), (2, .int l2), (4, .int l4)] rfl (by decide) rfl dX9_votesFor_42 ?_
  refine V_iincL (n := 1) 4 (fun z => [(4, .int z), (3, .int x5), (0, va_rf l0), (1, .int l1), (2, .int l2)]) rfl (by rfl) (by decide) (fun _ => rfl) dX9_votesFor_43 hw (fun x6 hw => ?_)
  refine V_goto (tgt := 5) dX9_votesFor_46 (by decide) ?_
  exact V.sub [2, 3, 4, 1, 0] rfl (hK5 _ _ _ hw)
theorem sb_X9_votesFor_5 {l : Launch} {G : Gh} {l0 : Option Nat} {l1 : Int32} {l2 : Int32} {l3 : Int32} {l4 : Int32} {h : Hp} {Q : Int32 → Hp → Prop} {K5 : Int32 → Int32 → Hp → Prop} (hK5 : ∀ (l3 : Int32) (l4 : Int32) (h : Hp), K5 l3 l4 h → V l G 2 yX9_votesFor cX9_votesFor 5 (some .int) 5 [(0, va_rf l0), (1, .int l1), (2, .int l2), (3, .int l3), (4, .int l4)] [] h (qI Q)) (hw : b_X9_votesFor_5 l0 l1 l2 l3 l4 h Q K5) : V l G 2 yX9_votesFor cX9_votesFor 5 (some .int) 5 [(0, va_rf l0), (1, .int l1), (2, .int l2), (3, .int l3), (4, .int l4)] [] h (qI Q) := by
  unfold b_X9_votesFor_5 at hw
  refine V_iload 4 rfl dX9_votesFor_5 ?_
  refine V_iload_n 2 rfl rfl dX9_votesFor_7 ?_
  refine V_icmp_ge (tgt := 49) dX9_votesFor_8 (by decide) hw (fun hw => ?_) (fun hw => ?_)
  · exact V.sub [3] rfl (s_X9_votesFor_49 hw)
  · refine V_iload 4 rfl dX9_votesFor_11 ?_
    refine V_aload_n 0 rfl rfl dX9_votesFor_13 ?_
    refine X_getI (c := 9) (k := 2) fa_X9_23 rfl dX9_votesFor_14 hw (fun v1 hw => ?_)
    refine V_icmp_ge (tgt := 49) dX9_votesFor_17 (by decide) hw (fun hw => ?_) (fun hw => ?_)
    · exact V.sub [3] rfl (s_X9_votesFor_49 hw)
    · refine V_iload_n 3 rfl rfl dX9_votesFor_20 ?_
      refine V_aload_n 0 rfl rfl dX9_votesFor_21 ?_
      refine X_getR (c := 9) (k := 0) fa_X9_9 rfl dX9_votesFor_22 hw (fun v2 hw => ?_)
      refine V_iload 4 rfl dX9_votesFor_25 ?_
      refine X_ldL dX9_votesFor_27 hw (fun v3 hw => ?_)
      refine V_l2i dX9_votesFor_28 ?_
      refine V_iload_n 1 rfl rfl dX9_votesFor_29 ?_
      refine V_icmp_ne (tgt := 37) dX9_votesFor_30 (by decide) hw (fun hw => ?_) (fun hw => ?_)
      · refine V_iconst (v := 1) (by decide) dX9_votesFor_33 ?_
        refine V_goto (tgt := 38) dX9_votesFor_34 (by decide) ?_
        exact V.sub [0, 1, 2, 4] rfl (s_X9_votesFor_38 hK5 hw)
      · refine V_iconst (v := 0) (by decide) dX9_votesFor_37 ?_
        exact V.sub [0, 1, 2, 4] rfl (s_X9_votesFor_38 hK5 hw)
theorem s_X9_votesFor_5 {l : Launch} {G : Gh} {l0 : Option Nat} {l1 : Int32} {l2 : Int32} {l3 : Int32} {l4 : Int32} {h : Hp} {Q : Int32 → Hp → Prop}  (hw : l_X9_votesFor_5 l0 l1 l2 l3 l4 h Q) : V l G 2 yX9_votesFor cX9_votesFor 5 (some .int) 5 [(0, va_rf l0), (1, .int l1), (2, .int l2), (3, .int l3), (4, .int l4)] [] h (qI Q) :=
  Lo.ind (P := fun (s : Int32 × Int32) h => V l G 2 yX9_votesFor cX9_votesFor 5 (some .int) 5 [(0, va_rf l0), (1, .int l1), (2, .int l2), (3, .int s.1), (4, .int s.2)] [] h (qI Q)) (fun K ih s h hw => sb_X9_votesFor_5 (fun l3 l4 h hk => ih (l3, l4) h hk) hw) hw
theorem s_X9_votesFor_0 {l : Launch} {G : Gh} {l0 : Option Nat} {l1 : Int32} {l2 : Int32} {h : Hp} {Q : Int32 → Hp → Prop}  (hw : n_X9_votesFor_0 l0 l1 l2 h Q) : V l G 2 yX9_votesFor cX9_votesFor 5 (some .int) 0 [(0, va_rf l0), (1, .int l1), (2, .int l2)] [] h (qI Q) := by
  unfold n_X9_votesFor_0 at hw
  refine V_iconst (v := 0) (by decide) dX9_votesFor_0 ?_
  refine V_istore_n (i := 3) [(3, .int 0), (0, va_rf l0), (1, .int l1), (2, .int l2)] rfl (by decide) rfl dX9_votesFor_1 ?_
  refine V_iconst (v := 0) (by decide) dX9_votesFor_2 ?_
  refine V_istore (i := 4) [(4, .int 0), (3, .int 0), (0, va_rf l0), (1, .int l1), (2, .int l2)] (by decide) rfl dX9_votesFor_3 ?_
  exact V.sub [2, 3, 4, 1, 0] rfl (s_X9_votesFor_5 hw)
theorem r_X9_votesFor {l : Launch} {G : Gh} (l0 : Option Nat) (l1 : Int32) (l2 : Int32) {h : Hp} {Q : Int32 → Hp → Prop} (hw : w_X9_votesFor l0 l1 l2 h Q) : RunQ l G 2 yX9_votesFor cX9_votesFor 5 (some .int) [va_rf l0, .int l1, .int l2] h (qI Q) :=
  V_run rfl (sl_len _ _ (by simp [cat_i, cat_l, rf_cat])) (V.sub [0, 1, 2] (by simp only [la_r, la_i, la_l, la_n]; rfl) (s_X9_votesFor_0 hw))
def n_X10_mostVoted_103 (l0 : Option Nat) (l1 : Option Nat) (l2 : Option Nat) (l3 : Int32) (l4 : Option Nat) (l5 : Int32) (l6 : Int32) (h : Hp) (Q : Option Nat → Hp → Prop) (K9 : Option Nat → Int32 → Int32 → Hp → Prop) : Prop :=
  lt (l6 + 1) fun x5 =>
  K9 l4 l5 x5 h
def n_X10_mostVoted_95 (l0 : Option Nat) (l1 : Option Nat) (l2 : Option Nat) (l3 : Int32) (l6 : Int32) (l7 : Option Nat) (l8 : Int32) (h : Hp) (Q : Option Nat → Hp → Prop) (K9 : Option Nat → Int32 → Int32 → Hp → Prop) : Prop :=
  n_X10_mostVoted_103 l0 l1 l2 l3 l7 l8 l6 h Q K9
def n_X10_mostVoted_76 (l0 : Option Nat) (l1 : Option Nat) (l2 : Option Nat) (l3 : Int32) (l4 : Option Nat) (l5 : Int32) (l6 : Int32) (l7 : Option Nat) (l8 : Int32) (s0 : Int32) (h : Hp) (Q : Option Nat → Hp → Prop) (K9 : Option Nat → Int32 → Int32 → Hp → Prop) : Prop :=
  br (l4 = none) (
    n_X10_mostVoted_95 l0 l1 l2 l3 l6 l7 l8 h Q K9) (
    br (l5 < l8) (
      n_X10_mostVoted_95 l0 l1 l2 l3 l6 l7 l8 h Q K9) (
      br (s0 = 0) (
        n_X10_mostVoted_103 l0 l1 l2 l3 l4 l5 l6 h Q K9) (
        n_X10_mostVoted_95 l0 l1 l2 l3 l6 l7 l8 h Q K9)))
def n_X10_mostVoted_75 (l0 : Option Nat) (l1 : Option Nat) (l2 : Option Nat) (l3 : Int32) (l4 : Option Nat) (l5 : Int32) (l6 : Int32) (l7 : Option Nat) (l8 : Int32) (h : Hp) (Q : Option Nat → Hp → Prop) (K9 : Option Nat → Int32 → Int32 → Hp → Prop) : Prop :=
  n_X10_mostVoted_76 l0 l1 l2 l3 l4 l5 l6 l7 l8 0 h Q K9
def b_X10_mostVoted_9 (l0 : Option Nat) (l1 : Option Nat) (l2 : Option Nat) (l3 : Int32) (l4 : Option Nat) (l5 : Int32) (l6 : Int32) (h : Hp) (Q : Option Nat → Hp → Prop) (K9 : Option Nat → Int32 → Int32 → Hp → Prop) : Prop :=
  gI h l0 11 1296 fun v1 =>
  br (v1 ≤ l6) (
    Q l4 h) (
    gR h l0 11 1285 fun v2 =>
    ldR h v2 l6 fun v3 =>
    oV h l0 11 <| w_X10_isCandidate l0 v3 l1 h <| fun v4 h =>
    br (v4 = 0) (
      n_X10_mostVoted_103 l0 l1 l2 l3 l4 l5 l6 h Q K9) (
      oV h l2 10 <| w_X9_votesFor l2 l6 l3 h <| fun v6 h =>
      br (l4 = none) (
        n_X10_mostVoted_75 l0 l1 l2 l3 l4 l5 l6 v3 v6 h Q K9) (
        br (v6 = l5) (
          gI h v3 5 514 fun v7 =>
          gI h l4 5 514 fun v8 =>
          br (v8 ≤ v7) (
            n_X10_mostVoted_75 l0 l1 l2 l3 l4 l5 l6 v3 v6 h Q K9) (
            n_X10_mostVoted_76 l0 l1 l2 l3 l4 l5 l6 v3 v6 1 h Q K9)) (
          n_X10_mostVoted_75 l0 l1 l2 l3 l4 l5 l6 v3 v6 h Q K9))))
def l_X10_mostVoted_9 (l0 : Option Nat) (l1 : Option Nat) (l2 : Option Nat) (l3 : Int32) (l4 : Option Nat) (l5 : Int32) (l6 : Int32) (h : Hp) (Q : Option Nat → Hp → Prop) : Prop :=
  Lo (fun (K : Option Nat × Int32 × Int32 → Hp → Prop) s h => b_X10_mostVoted_9 l0 l1 l2 l3 s.1 s.2.1 s.2.2 h Q (fun l4 l5 l6 h => K (l4, l5, l6) h)) (l4, l5, l6) h
def n_X10_mostVoted_0 (l0 : Option Nat) (l1 : Option Nat) (l2 : Option Nat) (l3 : Int32) (h : Hp) (Q : Option Nat → Hp → Prop) : Prop :=
  l_X10_mostVoted_9 l0 l1 l2 l3 none 0 0 h Q
def w_X10_mostVoted (l0 : Option Nat) (l1 : Option Nat) (l2 : Option Nat) (l3 : Int32) (h : Hp) (Q : Option Nat → Hp → Prop) : Prop := n_X10_mostVoted_0 l0 l1 l2 l3 h Q
theorem s_X10_mostVoted_103 {l : Launch} {G : Gh} {l0 : Option Nat} {l1 : Option Nat} {l2 : Option Nat} {l3 : Int32} {l4 : Option Nat} {l5 : Int32} {l6 : Int32} {h : Hp} {Q : Option Nat → Hp → Prop} {K9 : Option Nat → Int32 → Int32 → Hp → Prop} (hK9 : ∀ (l4 : Option Nat) (l5 : Int32) (l6 : Int32) (h : Hp), K9 l4 l5 l6 h → V l G 3 yX10_mostVoted cX10_mostVoted 10 (some (.object "ComplaintBooks$Person")) 9 [(0, va_rf l0), (1, va_rf l1), (2, va_rf l2), (3, .int l3), (4, va_rf l4), (5, .int l5), (6, .int l6)] [] h (qR Q)) (hw : n_X10_mostVoted_103 l0 l1 l2 l3 l4 l5 l6 h Q K9) : V l G 3 yX10_mostVoted cX10_mostVoted 10 (some (.object "ComplaintBooks$Person")) 103 [(0, va_rf l0), (1, va_rf l1), (2, va_rf l2), (3, .int l3), (4, va_rf l4), (5, .int l5), (6, .int l6)] [] h (qR Q) := by
  unfold n_X10_mostVoted_103 at hw
  refine V_iincL (n := 1) 6 (fun z => [(6, .int z), (0, va_rf l0), (1, va_rf l1), (2, va_rf l2), (3, .int l3), (4, va_rf l4), (5, .int l5)]) rfl (by rfl) (by decide) (fun _ => rfl) dX10_mostVoted_103 hw (fun x5 hw => ?_)
  refine V_goto (tgt := 9) dX10_mostVoted_106 (by decide) ?_
  exact V.sub [1, 2, 3, 4, 5, 6, 0] rfl (hK9 _ _ _ _ hw)
theorem s_X10_mostVoted_95 {l : Launch} {G : Gh} {l0 : Option Nat} {l1 : Option Nat} {l2 : Option Nat} {l3 : Int32} {l6 : Int32} {l7 : Option Nat} {l8 : Int32} {h : Hp} {Q : Option Nat → Hp → Prop} {K9 : Option Nat → Int32 → Int32 → Hp → Prop} (hK9 : ∀ (l4 : Option Nat) (l5 : Int32) (l6 : Int32) (h : Hp), K9 l4 l5 l6 h → V l G 3 yX10_mostVoted cX10_mostVoted 10 (some (.object "ComplaintBooks$Person")) 9 [(0, va_rf l0), (1, va_rf l1), (2, va_rf l2), (3, .int l3), (4, va_rf l4), (5, .int l5), (6, .int l6)] [] h (qR Q)) (hw : n_X10_mostVoted_95 l0 l1 l2 l3 l6 l7 l8 h Q K9) : V l G 3 yX10_mostVoted cX10_mostVoted 10 (some (.object "ComplaintBooks$Person")) 95 [(0, va_rf l0), (1, va_rf l1), (2, va_rf l2), (3, .int l3), (6, .int l6), (7, va_rf l7), (8, .int l8)] [] h (qR Q) := by
  unfold n_X10_mostVoted_95 at hw
  refine V_aload 5 rfl dX10_mostVoted_95 ?_
  refine V_astore (i := 4) [(4, va_rf l7), (0, va_rf l0), (1, va_rf l1), (2, va_rf l2), (3, .int l3), (6, .int l6), (7, va_rf l7), (8, .int l8)] (by decide) rfl dX10_mostVoted_97 ?_
  refine V_iload 7 rfl dX10_mostVoted_99 ?_
  refine V_istore (i := 5) [(5, .int l8), (4, va_rf l7), (0, va_rf l0), (1, va_rf l1), (2, va_rf l2), (3, .int l3), (6, .int l6), (7, va_rf l7), (8, .int l8)] (by decide) (by simp [List.filter_cons, rf_cat, cat_i, cat_l]) dX10_mostVoted_101 ?_
  exact V.sub [2, 3, 4, 5, 1, 0, 6] rfl (s_X10_mostVoted_103 hK9 hw)
theorem s_X10_mostVoted_76 {l : Launch} {G : Gh} {l0 : Option Nat} {l1 : Option Nat} {l2 : Option Nat} {l3 : Int32} {l4 : Option Nat} {l5 : Int32} {l6 : Int32} {l7 : Option Nat} {l8 : Int32} {s0 : Int32} {h : Hp} {Q : Option Nat → Hp → Prop} {K9 : Option Nat → Int32 → Int32 → Hp → Prop} (hK9 : ∀ (l4 : Option Nat) (l5 : Int32) (l6 : Int32) (h : Hp), K9 l4 l5 l6 h → V l G 3 yX10_mostVoted cX10_mostVoted 10 (some (.object "ComplaintBooks$Person")) 9 [(0, va_rf l0), (1, va_rf l1), (2, va_rf l2), (3, .int l3), (4, va_rf l4), (5, .int l5), (6, .int l6)] [] h (qR Q)) (hw : n_X10_mostVoted_76 l0 l1 l2 l3 l4 l5 l6 l7 l8 s0 h Q K9) : V l G 3 yX10_mostVoted cX10_mostVoted 10 (some (.object "ComplaintBooks$Person")) 76 [(0, va_rf l0), (1, va_rf l1), (2, va_rf l2), (3, .int l3), (4, va_rf l4), (5, .int l5), (6, .int l6), (7, va_rf l7), (8, .int l8)] [.int s0] h (qR Q) := by
  unfold n_X10_mostVoted_76 at hw
  refine V_istore (i := 9) [(9, .int s0), (0, va_rf l0), (1, va_rf l1), (2, va_rf l2), (3, .int l3), (4, va_rf l4), (5, .int l5), (6, .int l6), (7, va_rf l7), (8, .int l8)] (by decide) rfl dX10_mostVoted_76 ?_
  refine V_aload 5 rfl dX10_mostVoted_78 ?_
  refine V_ifnull (tgt := 95) dX10_mostVoted_80 (by decide) hw (fun hw => ?_) (fun hw => ?_)
  · exact V.sub [1, 2, 3, 4, 7, 8, 9] rfl (s_X10_mostVoted_95 hK9 hw)
  · refine V_iload 9 rfl dX10_mostVoted_83 ?_
    refine V_iload 6 rfl dX10_mostVoted_85 ?_
    refine V_icmp_gt (tgt := 95) dX10_mostVoted_87 (by decide) hw (fun hw => ?_) (fun hw => ?_)
    · exact V.sub [1, 2, 3, 4, 7, 8, 9] rfl (s_X10_mostVoted_95 hK9 hw)
    · refine V_iload 0 rfl dX10_mostVoted_90 ?_
      refine V_if_eq (tgt := 103) dX10_mostVoted_92 (by decide) hw (fun hw => ?_) (fun hw => ?_)
      · exact V.sub [1, 2, 3, 4, 5, 6, 7] rfl (s_X10_mostVoted_103 hK9 hw)
      · exact V.sub [1, 2, 3, 4, 7, 8, 9] rfl (s_X10_mostVoted_95 hK9 hw)
theorem s_X10_mostVoted_75 {l : Launch} {G : Gh} {l0 : Option Nat} {l1 : Option Nat} {l2 : Option Nat} {l3 : Int32} {l4 : Option Nat} {l5 : Int32} {l6 : Int32} {l7 : Option Nat} {l8 : Int32} {h : Hp} {Q : Option Nat → Hp → Prop} {K9 : Option Nat → Int32 → Int32 → Hp → Prop} (hK9 : ∀ (l4 : Option Nat) (l5 : Int32) (l6 : Int32) (h : Hp), K9 l4 l5 l6 h → V l G 3 yX10_mostVoted cX10_mostVoted 10 (some (.object "ComplaintBooks$Person")) 9 [(0, va_rf l0), (1, va_rf l1), (2, va_rf l2), (3, .int l3), (4, va_rf l4), (5, .int l5), (6, .int l6)] [] h (qR Q)) (hw : n_X10_mostVoted_75 l0 l1 l2 l3 l4 l5 l6 l7 l8 h Q K9) : V l G 3 yX10_mostVoted cX10_mostVoted 10 (some (.object "ComplaintBooks$Person")) 75 [(0, va_rf l0), (1, va_rf l1), (2, va_rf l2), (3, .int l3), (4, va_rf l4), (5, .int l5), (6, .int l6), (7, va_rf l7), (8, .int l8)] [] h (qR Q) := by
  unfold n_X10_mostVoted_75 at hw
  refine V_iconst (v := 0) (by decide) dX10_mostVoted_75 ?_
  exact V.sub [0, 1, 2, 3, 4, 5, 6, 7, 8] rfl (s_X10_mostVoted_76 hK9 hw)
theorem sb_X10_mostVoted_9 {l : Launch} {G : Gh} {l0 : Option Nat} {l1 : Option Nat} {l2 : Option Nat} {l3 : Int32} {l4 : Option Nat} {l5 : Int32} {l6 : Int32} {h : Hp} {Q : Option Nat → Hp → Prop} {K9 : Option Nat → Int32 → Int32 → Hp → Prop} (hK9 : ∀ (l4 : Option Nat) (l5 : Int32) (l6 : Int32) (h : Hp), K9 l4 l5 l6 h → V l G 3 yX10_mostVoted cX10_mostVoted 10 (some (.object "ComplaintBooks$Person")) 9 [(0, va_rf l0), (1, va_rf l1), (2, va_rf l2), (3, .int l3), (4, va_rf l4), (5, .int l5), (6, .int l6)] [] h (qR Q)) (hw : b_X10_mostVoted_9 l0 l1 l2 l3 l4 l5 l6 h Q K9) : V l G 3 yX10_mostVoted cX10_mostVoted 10 (some (.object "ComplaintBooks$Person")) 9 [(0, va_rf l0), (1, va_rf l1), (2, va_rf l2), (3, .int l3), (4, va_rf l4), (5, .int l5), (6, .int l6)] [] h (qR Q) := by
  unfold b_X10_mostVoted_9 at hw
  refine V_iload 6 rfl dX10_mostVoted_9 ?_
  refine V_aload_n 0 rfl rfl dX10_mostVoted_11 ?_
  refine X_getI (c := 10) (k := 16) fa_X10_450 rfl dX10_mostVoted_12 hw (fun v1 hw => ?_)
  refine V_icmp_ge (tgt := 109) dX10_mostVoted_15 (by decide) hw (fun hw => ?_) (fun hw => ?_)
  · refine V_aload 4 rfl dX10_mostVoted_109 ?_
    exact V_aret rfl (Or.inl ⟨_, rfl⟩) dX10_mostVoted_111 ⟨_, rfl, hw⟩
  · refine V_aload_n 0 rfl rfl dX10_mostVoted_18 ?_
    refine X_getR (c := 10) (k := 5) fa_X10_41 rfl dX10_mostVoted_19 hw (fun v2 hw => ?_)
    refine V_iload 6 rfl dX10_mostVoted_22 ?_
    refine X_ldR dX10_mostVoted_24 hw (fun v3 hw => ?_)
    refine V_astore (i := 7) [(7, va_rf v3), (0, va_rf l0), (1, va_rf l1), (2, va_rf l2), (3, .int l3), (4, va_rf l4), (5, .int l5), (6, .int l6)] (by decide) rfl dX10_mostVoted_25 ?_
    refine V_aload_n 1 rfl rfl dX10_mostVoted_27 ?_
    refine V_aload 0 rfl dX10_mostVoted_28 ?_
    refine V_aload_n 2 rfl rfl dX10_mostVoted_30 ?_
    refine X_cV 10 [va_rf v3, va_rf l1] [] ma_X10_470 (by decide) rfl (by decide) (by decide) rfl (by simp [cat_i, cat_l, rf_cat]) rfl dX10_mostVoted_31 hw (r_X10_isCandidate _ _ _) (k_I (fun v4 h hw => ?_))
    refine V_if_eq (tgt := 103) dX10_mostVoted_34 (by decide) hw (fun hw => ?_) (fun hw => ?_)
    · exact V.sub [1, 2, 3, 4, 5, 6, 7] rfl (s_X10_mostVoted_103 hK9 hw)
    · refine V_aload_n 3 rfl rfl dX10_mostVoted_37 ?_
      refine V_iload 7 rfl dX10_mostVoted_38 ?_
      refine V_iload_n 4 rfl rfl dX10_mostVoted_40 ?_
      refine X_cV 9 [.int l6, .int l3] [] ma_X10_474 (by decide) rfl (by decide) (by decide) rfl (by simp [cat_i, cat_l, rf_cat]) rfl dX10_mostVoted_41 hw (r_X9_votesFor _ _ _) (k_I (fun v6 h hw => ?_))
      refine V_istore (i := 8) [(8, .int v6), (7, va_rf v3), (0, va_rf l0), (1, va_rf l1), (2, va_rf l2), (3, .int l3), (4, va_rf l4), (5, .int l5), (6, .int l6)] (by decide) (by simp [List.filter_cons, rf_cat, cat_i, cat_l]) dX10_mostVoted_44 ?_
      refine V_aload 6 rfl dX10_mostVoted_46 ?_
      refine V_ifnull (tgt := 75) dX10_mostVoted_48 (by decide) hw (fun hw => ?_) (fun hw => ?_)
      · exact V.sub [2, 3, 4, 5, 6, 7, 8, 1, 0] rfl (s_X10_mostVoted_75 hK9 hw)
      · refine V_iload 0 rfl dX10_mostVoted_51 ?_
        refine V_iload 7 rfl dX10_mostVoted_53 ?_
        refine V_icmp_ne (tgt := 75) dX10_mostVoted_55 (by decide) hw (fun hw => ?_) (fun hw => ?_)
        · refine V_aload 1 rfl dX10_mostVoted_58 ?_
          refine X_getI (c := 4) (k := 2) fa_X10_477 rfl dX10_mostVoted_60 hw (fun v7 hw => ?_)
          refine V_aload 6 rfl dX10_mostVoted_63 ?_
          refine X_getI (c := 4) (k := 2) fa_X10_477 rfl dX10_mostVoted_65 hw (fun v8 hw => ?_)
          refine V_icmp_ge (tgt := 75) dX10_mostVoted_68 (by decide) hw (fun hw => ?_) (fun hw => ?_)
          · exact V.sub [2, 3, 4, 5, 6, 7, 8, 1, 0] rfl (s_X10_mostVoted_75 hK9 hw)
          · refine V_iconst (v := 1) (by decide) dX10_mostVoted_71 ?_
            refine V_goto (tgt := 76) dX10_mostVoted_72 (by decide) ?_
            exact V.sub [2, 3, 4, 5, 6, 7, 8, 1, 0] rfl (s_X10_mostVoted_76 hK9 hw)
        · exact V.sub [2, 3, 4, 5, 6, 7, 8, 1, 0] rfl (s_X10_mostVoted_75 hK9 hw)
theorem s_X10_mostVoted_9 {l : Launch} {G : Gh} {l0 : Option Nat} {l1 : Option Nat} {l2 : Option Nat} {l3 : Int32} {l4 : Option Nat} {l5 : Int32} {l6 : Int32} {h : Hp} {Q : Option Nat → Hp → Prop}  (hw : l_X10_mostVoted_9 l0 l1 l2 l3 l4 l5 l6 h Q) : V l G 3 yX10_mostVoted cX10_mostVoted 10 (some (.object "ComplaintBooks$Person")) 9 [(0, va_rf l0), (1, va_rf l1), (2, va_rf l2), (3, .int l3), (4, va_rf l4), (5, .int l5), (6, .int l6)] [] h (qR Q) :=
  Lo.ind (P := fun (s : Option Nat × Int32 × Int32) h => V l G 3 yX10_mostVoted cX10_mostVoted 10 (some (.object "ComplaintBooks$Person")) 9 [(0, va_rf l0), (1, va_rf l1), (2, va_rf l2), (3, .int l3), (4, va_rf s.1), (5, .int s.2.1), (6, .int s.2.2)] [] h (qR Q)) (fun K ih s h hw => sb_X10_mostVoted_9 (fun l4 l5 l6 h hk => ih (l4, l5, l6) h hk) hw) hw
theorem s_X10_mostVoted_0 {l : Launch} {G : Gh} {l0 : Option Nat} {l1 : Option Nat} {l2 : Option Nat} {l3 : Int32} {h : Hp} {Q : Option Nat → Hp → Prop}  (hw : n_X10_mostVoted_0 l0 l1 l2 l3 h Q) : V l G 3 yX10_mostVoted cX10_mostVoted 10 (some (.object "ComplaintBooks$Person")) 0 [(0, va_rf l0), (1, va_rf l1), (2, va_rf l2), (3, .int l3)] [] h (qR Q) := by
  unfold n_X10_mostVoted_0 at hw
  refine V_null dX10_mostVoted_0 ?_
  refine V_astore (i := 4) [(4, va_rf none), (0, va_rf l0), (1, va_rf l1), (2, va_rf l2), (3, .int l3)] (by decide) rfl dX10_mostVoted_1 ?_
  refine V_iconst (v := 0) (by decide) dX10_mostVoted_3 ?_
  refine V_istore (i := 5) [(5, .int 0), (4, va_rf none), (0, va_rf l0), (1, va_rf l1), (2, va_rf l2), (3, .int l3)] (by decide) (by simp [List.filter_cons, rf_cat, cat_i, cat_l]) dX10_mostVoted_4 ?_
  refine V_iconst (v := 0) (by decide) dX10_mostVoted_6 ?_
  refine V_istore (i := 6) [(6, .int 0), (5, .int 0), (4, va_rf none), (0, va_rf l0), (1, va_rf l1), (2, va_rf l2), (3, .int l3)] (by decide) rfl dX10_mostVoted_7 ?_
  exact V.sub [3, 4, 5, 6, 2, 1, 0] rfl (s_X10_mostVoted_9 hw)
theorem r_X10_mostVoted {l : Launch} {G : Gh} (l0 : Option Nat) (l1 : Option Nat) (l2 : Option Nat) (l3 : Int32) {h : Hp} {Q : Option Nat → Hp → Prop} (hw : w_X10_mostVoted l0 l1 l2 l3 h Q) : RunQ l G 3 yX10_mostVoted cX10_mostVoted 10 (some (.object "ComplaintBooks$Person")) [va_rf l0, va_rf l1, va_rf l2, .int l3] h (qR Q) :=
  V_run rfl (sl_len _ _ (by simp [cat_i, cat_l, rf_cat])) (V.sub [0, 1, 2, 3] (by simp only [la_r, la_i, la_l, la_n]; rfl) (s_X10_mostVoted_0 hw))
def n_X10_choose_22 (l0 : Option Nat) (h : Hp) (Q : Int32 → Hp → Prop) : Prop :=
  oV h l0 11 <| w_X10_refuse l0 (-1) h <| fun v3 h =>
  Q v3 h
def n_X10_choose_102 (l0 : Option Nat) (h : Hp) (Q : Int32 → Hp → Prop) : Prop :=
  oV h l0 11 <| w_X10_refuse l0 (-6) h <| fun v8 h =>
  Q v8 h
def n_X10_choose_0 (l0 : Option Nat) (l1 : Int32) (l2 : Int32) (h : Hp) (Q : Int32 → Hp → Prop) : Prop :=
  oV h l0 11 <| w_X10_placeAt l0 l1 h <| fun v1 h =>
  oV h l0 11 <| w_X10_shelfAt l0 l2 h <| fun v2 h =>
  br (v1 = none) (
    n_X10_choose_22 l0 h Q) (
    br (v2 = none) (
      n_X10_choose_22 l0 h Q) (
      w_X10_rowTrouble v2 h <| fun v4 h =>
      br (v4 = 0) (
        oV h l0 11 <| w_X10_candidatesOf l0 v1 h <| fun v5 h =>
        gI h v2 10 1154 fun v6 =>
        br (v5 ≤ v6) (
          oV h l0 11 <| w_X10_mostVoted l0 v1 v2 v5 h <| fun v7 h =>
          br (v7 = none) (
            n_X10_choose_102 l0 h Q) (
            gR h v1 6 650 fun v9 =>
            br (v9 = none) (
              gI h v1 6 641 fun v10 =>
              br (v10 = 3) (
                n_X10_choose_102 l0 h Q) (
                pR h v1 6 650 v7 fun h =>
                gI h v7 5 512 fun v11 =>
                Q v11 h)) (
              n_X10_choose_102 l0 h Q))) (
          oV h l0 11 <| w_X10_refuse l0 (-5) h <| fun v12 h =>
          Q v12 h)) (
        oV h l0 11 <| w_X10_refuse l0 v4 h <| fun v13 h =>
        Q v13 h)))
def w_X10_choose (l0 : Option Nat) (l1 : Int32) (l2 : Int32) (h : Hp) (Q : Int32 → Hp → Prop) : Prop := n_X10_choose_0 l0 l1 l2 h Q
theorem s_X10_choose_22 {l : Launch} {G : Gh} {l0 : Option Nat} {h : Hp} {Q : Int32 → Hp → Prop}  (hw : n_X10_choose_22 l0 h Q) : V l G 4 yX10_choose cX10_choose 8 (some .int) 22 [(0, va_rf l0)] [] h (qI Q) := by
  unfold n_X10_choose_22 at hw
  refine V_aload_n 0 rfl rfl dX10_choose_22 ?_
  refine V_iconst (v := (-1)) (by decide) dX10_choose_23 ?_
  refine X_cV 10 [.int (-1)] [] ma_X10_95 (by decide) rfl (by decide) (by decide) rfl (by simp [cat_i, cat_l, rf_cat]) rfl dX10_choose_24 hw (r_X10_refuse _ _) (k_I (fun v3 h hw => ?_))
  exact V_iret rfl dX10_choose_27 ⟨_, rfl, hw⟩
theorem s_X10_choose_102 {l : Launch} {G : Gh} {l0 : Option Nat} {h : Hp} {Q : Int32 → Hp → Prop}  (hw : n_X10_choose_102 l0 h Q) : V l G 4 yX10_choose cX10_choose 8 (some .int) 102 [(0, va_rf l0)] [] h (qI Q) := by
  unfold n_X10_choose_102 at hw
  refine V_aload_n 0 rfl rfl dX10_choose_102 ?_
  refine V_bipush (v := (-6)) (by decide) dX10_choose_103 ?_
  refine X_cV 10 [.int (-6)] [] ma_X10_95 (by decide) rfl (by decide) (by decide) rfl (by simp [cat_i, cat_l, rf_cat]) rfl dX10_choose_105 hw (r_X10_refuse _ _) (k_I (fun v8 h hw => ?_))
  exact V_iret rfl dX10_choose_108 ⟨_, rfl, hw⟩
set_option maxRecDepth 20000 in
theorem s_X10_choose_0 {l : Launch} {G : Gh} {l0 : Option Nat} {l1 : Int32} {l2 : Int32} {h : Hp} {Q : Int32 → Hp → Prop}  (hw : n_X10_choose_0 l0 l1 l2 h Q) : V l G 4 yX10_choose cX10_choose 8 (some .int) 0 [(0, va_rf l0), (1, .int l1), (2, .int l2)] [] h (qI Q) := by
  unfold n_X10_choose_0 at hw
  refine V_aload_n 0 rfl rfl dX10_choose_0 ?_
  refine V_iload_n 1 rfl rfl dX10_choose_1 ?_
  refine X_cV 10 [.int l1] [] ma_X10_91 (by decide) rfl (by decide) (by decide) rfl (by simp [cat_i, cat_l, rf_cat]) rfl dX10_choose_2 hw (r_X10_placeAt _ _) (k_R (fun v1 h hw => ?_))
  refine V_astore_n (i := 3) [(3, va_rf v1), (0, va_rf l0), (1, .int l1), (2, .int l2)] rfl (by decide) rfl dX10_choose_5 ?_
  refine V_aload_n 1 rfl rfl dX10_choose_6 ?_
  refine V_iload_n 3 rfl rfl dX10_choose_7 ?_
  refine X_cV 10 [.int l2] [] ma_X10_156 (by decide) rfl (by decide) (by decide) rfl (by simp [cat_i, cat_l, rf_cat]) rfl dX10_choose_8 hw (r_X10_shelfAt _ _) (k_R (fun v2 h hw => ?_))
  refine V_astore (i := 4) [(4, va_rf v2), (3, va_rf v1), (0, va_rf l0), (1, .int l1), (2, .int l2)] (by decide) (by simp [List.filter_cons, rf_cat, cat_i, cat_l]) dX10_choose_11 ?_
  refine V_aload_n 1 rfl rfl dX10_choose_13 ?_
  refine V_ifnull (tgt := 22) dX10_choose_14 (by decide) hw (fun hw => ?_) (fun hw => ?_)
  · exact V.sub [2] rfl (s_X10_choose_22 hw)
  · refine V_aload 0 rfl dX10_choose_17 ?_
    refine V_ifnonnull (tgt := 28) dX10_choose_19 (by decide) hw (fun hw => ?_) (fun hw => ?_)
    · exact V.sub [2] rfl (s_X10_choose_22 hw)
    · refine V_aload 0 rfl dX10_choose_28 ?_
      refine X_cS [va_rf v2] [] ma_X10_164 (by decide) (by decide) rfl (by simp [cat_i, cat_l, rf_cat]) rfl dX10_choose_30 (r_X10_rowTrouble _ hw) (k_I (fun v4 h hw => ?_))
      refine V_istore (i := 5) [(5, .int v4), (4, va_rf v2), (3, va_rf v1), (0, va_rf l0), (1, .int l1), (2, .int l2)] (by decide) (by simp [List.filter_cons, rf_cat, cat_i, cat_l]) dX10_choose_33 ?_
      refine V_iload 0 rfl dX10_choose_35 ?_
      refine V_if_eq (tgt := 47) dX10_choose_37 (by decide) hw (fun hw => ?_) (fun hw => ?_)
      · refine V_aload_n 3 rfl rfl dX10_choose_47 ?_
        refine V_aload_n 2 rfl rfl dX10_choose_48 ?_
        refine X_cV 10 [va_rf v1] [] ma_X10_456 (by decide) rfl (by decide) (by decide) rfl (by simp [cat_i, cat_l, rf_cat]) rfl dX10_choose_49 hw (r_X10_candidatesOf _ _) (k_I (fun v5 h hw => ?_))
        refine V_istore (i := 6) [(6, .int v5), (5, .int v4), (4, va_rf v2), (3, va_rf v1), (0, va_rf l0), (1, .int l1), (2, .int l2)] (by decide) rfl dX10_choose_52 ?_
        refine V_aload 2 rfl dX10_choose_54 ?_
        refine X_getI (c := 9) (k := 2) fa_X10_168 rfl dX10_choose_56 hw (fun v6 hw => ?_)
        refine V_iload 0 rfl dX10_choose_59 ?_
        refine V_icmp_ge (tgt := 71) dX10_choose_61 (by decide) hw (fun hw => ?_) (fun hw => ?_)
        · refine V_aload_n 4 rfl rfl dX10_choose_71 ?_
          refine V_aload_n 3 rfl rfl dX10_choose_72 ?_
          refine V_aload 2 rfl dX10_choose_73 ?_
          refine V_iload 0 rfl dX10_choose_75 ?_
          refine X_cV 10 [va_rf v1, va_rf v2, .int v5] [] ma_X10_459 (by decide) rfl (by decide) (by decide) rfl (by simp [cat_i, cat_l, rf_cat]) rfl dX10_choose_77 hw (r_X10_mostVoted _ _ _ _) (k_R (fun v7 h hw => ?_))
          refine V_astore (i := 7) [(7, va_rf v7), (6, .int v5), (5, .int v4), (4, va_rf v2), (3, va_rf v1), (0, va_rf l0), (1, .int l1), (2, .int l2)] (by decide) rfl dX10_choose_80 ?_
          refine V_aload 0 rfl dX10_choose_82 ?_
          refine V_ifnull (tgt := 102) dX10_choose_84 (by decide) hw (fun hw => ?_) (fun hw => ?_)
          · exact V.sub [5] rfl (s_X10_choose_102 hw)
          · refine V_aload_n 4 rfl rfl dX10_choose_87 ?_
            refine X_getR (c := 5) (k := 10) fa_X10_142 rfl dX10_choose_88 hw (fun v9 hw => ?_)
            refine V_ifnonnull (tgt := 102) dX10_choose_91 (by decide) hw (fun hw => ?_) (fun hw => ?_)
            · refine V_aload_n 4 rfl rfl dX10_choose_94 ?_
              refine X_getI (c := 5) (k := 1) fa_X10_103 rfl dX10_choose_95 hw (fun v10 hw => ?_)
              refine V_iconst (v := 3) (by decide) dX10_choose_98 ?_
              refine V_icmp_ne (tgt := 109) dX10_choose_99 (by decide) hw (fun hw => ?_) (fun hw => ?_)
              · exact V.sub [5] rfl (s_X10_choose_102 hw)
              · refine V_aload_n 4 rfl rfl dX10_choose_109 ?_
                refine V_aload 0 rfl dX10_choose_110 ?_
                refine X_putR (c := 5) (k := 10) fa_X10_142 (Or.inl rfl) (Or.inl ⟨_, rfl⟩) dX10_choose_112 hw (fun h hw => ?_)
                refine V_aload 0 rfl dX10_choose_115 ?_
                refine X_getI (c := 4) (k := 0) fa_X10_146 rfl dX10_choose_117 hw (fun v11 hw => ?_)
                exact V_iret rfl dX10_choose_120 ⟨_, rfl, hw⟩
            · exact V.sub [5] rfl (s_X10_choose_102 hw)
        · refine V_aload_n 4 rfl rfl dX10_choose_64 ?_
          refine V_bipush (v := (-5)) (by decide) dX10_choose_65 ?_
          refine X_cV 10 [.int (-5)] [] ma_X10_95 (by decide) rfl (by decide) (by decide) rfl (by simp [cat_i, cat_l, rf_cat]) rfl dX10_choose_67 hw (r_X10_refuse _ _) (k_I (fun v12 h hw => ?_))
          exact V_iret rfl dX10_choose_70 ⟨_, rfl, hw⟩
      · refine V_aload_n 3 rfl rfl dX10_choose_40 ?_
        refine V_iload 0 rfl dX10_choose_41 ?_
        refine X_cV 10 [.int v4] [] ma_X10_95 (by decide) rfl (by decide) (by decide) rfl (by simp [cat_i, cat_l, rf_cat]) rfl dX10_choose_43 hw (r_X10_refuse _ _) (k_I (fun v13 h hw => ?_))
        exact V_iret rfl dX10_choose_46 ⟨_, rfl, hw⟩
theorem r_X10_choose {l : Launch} {G : Gh} (l0 : Option Nat) (l1 : Int32) (l2 : Int32) {h : Hp} {Q : Int32 → Hp → Prop} (hw : w_X10_choose l0 l1 l2 h Q) : RunQ l G 4 yX10_choose cX10_choose 8 (some .int) [va_rf l0, .int l1, .int l2] h (qI Q) :=
  V_run rfl (sl_len _ _ (by simp [cat_i, cat_l, rf_cat])) (V.sub [0, 1, 2] (by simp only [la_r, la_i, la_l, la_n]; rfl) (s_X10_choose_0 hw))
def n_X6_tell_59 (l4 : Int32) (h : Hp) (Q : Int32 → Hp → Prop) : Prop :=
  rZ l4 h Q
def n_X6_tell_57 (l4 : Int32) (s0 : Int32) (s1 : Int32) (s2 : Int32) (s3 : Option Nat) (h : Hp) (Q : Int32 → Hp → Prop) : Prop :=
  stI h s3 s2 (s1 ^^^ s0) fun h =>
  n_X6_tell_59 l4 h Q
def n_X6_tell_19 (l0 : Option Nat) (l1 : Int32) (l2 : Int32) (s0 : Int32) (h : Hp) (Q : Int32 → Hp → Prop) : Prop :=
  br (s0 = 0) (
    n_X6_tell_59 s0 h Q) (
    gR h l0 7 768 fun v4 =>
    ldI h v4 l1 fun v5 =>
    stI h v4 l1 (v5 ^^^ (1 <<< (l2 &&& 31))) fun h =>
    gR h l0 7 768 fun v6 =>
    ldI h v6 l2 fun v7 =>
    br (l1 = l2) (
      n_X6_tell_57 s0 0 v7 l2 v6 h Q) (
      n_X6_tell_57 s0 (1 <<< (l1 &&& 31)) v7 l2 v6 h Q))
def n_X6_tell_0 (l0 : Option Nat) (l1 : Int32) (l2 : Int32) (l3 : Int32) (h : Hp) (Q : Int32 → Hp → Prop) : Prop :=
  gR h l0 7 768 fun v1 =>
  ldI h v1 l1 fun v2 =>
  w_X10_hasBit v2 l2 h <| fun v3 h =>
  br (v3 = l3) (
    n_X6_tell_19 l0 l1 l2 0 h Q) (
    n_X6_tell_19 l0 l1 l2 1 h Q)
def w_X6_tell (l0 : Option Nat) (l1 : Int32) (l2 : Int32) (l3 : Int32) (h : Hp) (Q : Int32 → Hp → Prop) : Prop := n_X6_tell_0 l0 l1 l2 l3 h Q
theorem s_X6_tell_59 {l : Launch} {G : Gh} {l4 : Int32} {h : Hp} {Q : Int32 → Hp → Prop}  (hw : n_X6_tell_59 l4 h Q) : V l G 2 yX6_tell cX6_tell 5 (some .boolean) 59 [(4, .int l4)] [] h (qI Q) := by
  unfold n_X6_tell_59 at hw
  refine V_iload 0 rfl dX6_tell_59 ?_
  exact V_zret rfl hw.1 dX6_tell_61 ⟨_, rfl, hw.2⟩
theorem s_X6_tell_57 {l : Launch} {G : Gh} {l4 : Int32} {s0 : Int32} {s1 : Int32} {s2 : Int32} {s3 : Option Nat} {h : Hp} {Q : Int32 → Hp → Prop}  (hw : n_X6_tell_57 l4 s0 s1 s2 s3 h Q) : V l G 2 yX6_tell cX6_tell 5 (some .boolean) 57 [(4, .int l4)] [.int s0, .int s1, .int s2, va_rf s3] h (qI Q) := by
  unfold n_X6_tell_57 at hw
  refine V_ixor dX6_tell_57 ?_
  refine X_stI dX6_tell_58 hw (fun h hw => ?_)
  exact V.sub [0] rfl (s_X6_tell_59 hw)
theorem s_X6_tell_19 {l : Launch} {G : Gh} {l0 : Option Nat} {l1 : Int32} {l2 : Int32} {s0 : Int32} {h : Hp} {Q : Int32 → Hp → Prop}  (hw : n_X6_tell_19 l0 l1 l2 s0 h Q) : V l G 2 yX6_tell cX6_tell 5 (some .boolean) 19 [(0, va_rf l0), (1, .int l1), (2, .int l2)] [.int s0] h (qI Q) := by
  unfold n_X6_tell_19 at hw
  refine V_istore (i := 4) [(4, .int s0), (0, va_rf l0), (1, .int l1), (2, .int l2)] (by decide) rfl dX6_tell_19 ?_
  refine V_iload 0 rfl dX6_tell_21 ?_
  refine V_if_eq (tgt := 59) dX6_tell_23 (by decide) hw (fun hw => ?_) (fun hw => ?_)
  · exact V.sub [0] rfl (s_X6_tell_59 hw)
  · refine V_aload_n 1 rfl rfl dX6_tell_26 ?_
    refine X_getR (c := 6) (k := 0) fa_X6_9 rfl dX6_tell_27 hw (fun v4 hw => ?_)
    refine V_iload_n 2 rfl rfl dX6_tell_30 ?_
    refine V_dup2 rfl (rf_cat _) dX6_tell_31 ?_
    refine X_ldI dX6_tell_32 hw (fun v5 hw => ?_)
    refine V_iconst (v := 1) (by decide) dX6_tell_33 ?_
    refine V_iload_n 3 rfl rfl dX6_tell_34 ?_
    refine V_ishl dX6_tell_35 ?_
    refine V_ixor dX6_tell_36 ?_
    refine X_stI dX6_tell_37 hw (fun h hw => ?_)
    refine V_aload_n 1 rfl rfl dX6_tell_38 ?_
    refine X_getR (c := 6) (k := 0) fa_X6_9 rfl dX6_tell_39 hw (fun v6 hw => ?_)
    refine V_iload_n 3 rfl rfl dX6_tell_42 ?_
    refine V_dup2 rfl (rf_cat _) dX6_tell_43 ?_
    refine X_ldI dX6_tell_44 hw (fun v7 hw => ?_)
    refine V_iload_n 2 rfl rfl dX6_tell_45 ?_
    refine V_iload_n 3 rfl rfl dX6_tell_46 ?_
    refine V_icmp_ne (tgt := 54) dX6_tell_47 (by decide) hw (fun hw => ?_) (fun hw => ?_)
    · refine V_iconst (v := 0) (by decide) dX6_tell_50 ?_
      refine V_goto (tgt := 57) dX6_tell_51 (by decide) ?_
      exact V.sub [0] rfl (s_X6_tell_57 hw)
    · refine V_iconst (v := 1) (by decide) dX6_tell_54 ?_
      refine V_iload_n 2 rfl rfl dX6_tell_55 ?_
      refine V_ishl dX6_tell_56 ?_
      exact V.sub [0] rfl (s_X6_tell_57 hw)
theorem s_X6_tell_0 {l : Launch} {G : Gh} {l0 : Option Nat} {l1 : Int32} {l2 : Int32} {l3 : Int32} {h : Hp} {Q : Int32 → Hp → Prop}  (hw : n_X6_tell_0 l0 l1 l2 l3 h Q) : V l G 2 yX6_tell cX6_tell 5 (some .boolean) 0 [(0, va_rf l0), (1, .int l1), (2, .int l2), (3, .int l3)] [] h (qI Q) := by
  unfold n_X6_tell_0 at hw
  refine V_aload_n 0 rfl rfl dX6_tell_0 ?_
  refine X_getR (c := 6) (k := 0) fa_X6_9 rfl dX6_tell_1 hw (fun v1 hw => ?_)
  refine V_iload_n 1 rfl rfl dX6_tell_4 ?_
  refine X_ldI dX6_tell_5 hw (fun v2 hw => ?_)
  refine V_iload_n 2 rfl rfl dX6_tell_6 ?_
  refine X_cS [.int v2, .int l2] [] ma_X6_21 (by decide) (by decide) rfl (by simp [cat_i, cat_l, rf_cat]) rfl dX6_tell_7 (r_X10_hasBit _ _ hw) (k_I (fun v3 h hw => ?_))
  refine V_iload_n 3 rfl rfl dX6_tell_10 ?_
  refine V_icmp_eq (tgt := 18) dX6_tell_11 (by decide) hw (fun hw => ?_) (fun hw => ?_)
  · refine V_iconst (v := 0) (by decide) dX6_tell_18 ?_
    exact V.sub [0, 1, 2] rfl (s_X6_tell_19 hw)
  · refine V_iconst (v := 1) (by decide) dX6_tell_14 ?_
    refine V_goto (tgt := 19) dX6_tell_15 (by decide) ?_
    exact V.sub [0, 1, 2] rfl (s_X6_tell_19 hw)
theorem r_X6_tell {l : Launch} {G : Gh} (l0 : Option Nat) (l1 : Int32) (l2 : Int32) (l3 : Int32) {h : Hp} {Q : Int32 → Hp → Prop} (hw : w_X6_tell l0 l1 l2 l3 h Q) : RunQ l G 2 yX6_tell cX6_tell 5 (some .boolean) [va_rf l0, .int l1, .int l2, .int l3] h (qI Q) :=
  V_run rfl (sl_len _ _ (by simp [cat_i, cat_l, rf_cat])) (V.sub [0, 1, 2, 3] (by simp only [la_r, la_i, la_l, la_n]; rfl) (s_X6_tell_0 hw))
def n_X10_clash_20 (l0 : Option Nat) (h : Hp) (Q : Int32 → Hp → Prop) : Prop :=
  oV h l0 11 <| w_X10_refuse l0 (-6) h <| fun v2 h =>
  Q v2 h
def n_X10_clash_0 (l0 : Option Nat) (l1 : Int32) (l2 : Int32) (l3 : Int32) (h : Hp) (Q : Int32 → Hp → Prop) : Prop :=
  w_X10_isIn l1 0 15 h <| fun v1 h =>
  br (v1 = 0) (
    n_X10_clash_20 l0 h Q) (
    w_X10_isIn l2 0 15 h <| fun v3 h =>
    br (v3 = 0) (
      n_X10_clash_20 l0 h Q) (
      gR h l0 11 1290 fun v4 =>
      oV h v4 7 <| w_X6_tell v4 l1 l2 l3 h <| fun v5 h =>
      w_X10_bit v5 h <| fun v6 h =>
      Q v6 h))
def w_X10_clash (l0 : Option Nat) (l1 : Int32) (l2 : Int32) (l3 : Int32) (h : Hp) (Q : Int32 → Hp → Prop) : Prop := n_X10_clash_0 l0 l1 l2 l3 h Q
theorem s_X10_clash_20 {l : Launch} {G : Gh} {l0 : Option Nat} {h : Hp} {Q : Int32 → Hp → Prop}  (hw : n_X10_clash_20 l0 h Q) : V l G 3 yX10_clash cX10_clash 4 (some .int) 20 [(0, va_rf l0)] [] h (qI Q) := by
  unfold n_X10_clash_20 at hw
  refine V_aload_n 0 rfl rfl dX10_clash_20 ?_
  refine V_bipush (v := (-6)) (by decide) dX10_clash_21 ?_
  refine X_cV 10 [.int (-6)] [] ma_X10_95 (by decide) rfl (by decide) (by decide) rfl (by simp [cat_i, cat_l, rf_cat]) rfl dX10_clash_23 hw (r_X10_refuse _ _) (k_I (fun v2 h hw => ?_))
  exact V_iret rfl dX10_clash_26 ⟨_, rfl, hw⟩
theorem s_X10_clash_0 {l : Launch} {G : Gh} {l0 : Option Nat} {l1 : Int32} {l2 : Int32} {l3 : Int32} {h : Hp} {Q : Int32 → Hp → Prop}  (hw : n_X10_clash_0 l0 l1 l2 l3 h Q) : V l G 3 yX10_clash cX10_clash 4 (some .int) 0 [(0, va_rf l0), (1, .int l1), (2, .int l2), (3, .int l3)] [] h (qI Q) := by
  unfold n_X10_clash_0 at hw
  refine V_iload_n 1 rfl rfl dX10_clash_0 ?_
  refine V_iconst (v := 0) (by decide) dX10_clash_1 ?_
  refine V_bipush (v := 15) (by decide) dX10_clash_2 ?_
  refine X_cS [.int l1, .int 0, .int 15] [] ma_X10_99 (by decide) (by decide) rfl (by simp [cat_i, cat_l, rf_cat]) rfl dX10_clash_4 (r_X10_isIn _ _ _ hw) (k_I (fun v1 h hw => ?_))
  refine V_if_eq (tgt := 20) dX10_clash_7 (by decide) hw (fun hw => ?_) (fun hw => ?_)
  · exact V.sub [0] rfl (s_X10_clash_20 hw)
  · refine V_iload_n 2 rfl rfl dX10_clash_10 ?_
    refine V_iconst (v := 0) (by decide) dX10_clash_11 ?_
    refine V_bipush (v := 15) (by decide) dX10_clash_12 ?_
    refine X_cS [.int l2, .int 0, .int 15] [] ma_X10_99 (by decide) (by decide) rfl (by simp [cat_i, cat_l, rf_cat]) rfl dX10_clash_14 (r_X10_isIn _ _ _ hw) (k_I (fun v3 h hw => ?_))
    refine V_if_ne (tgt := 27) dX10_clash_17 (by decide) hw (fun hw => ?_) (fun hw => ?_)
    · exact V.sub [0] rfl (s_X10_clash_20 hw)
    · refine V_aload_n 0 rfl rfl dX10_clash_27 ?_
      refine X_getR (c := 10) (k := 10) fa_X10_69 rfl dX10_clash_28 hw (fun v4 hw => ?_)
      refine V_iload_n 1 rfl rfl dX10_clash_31 ?_
      refine V_iload_n 2 rfl rfl dX10_clash_32 ?_
      refine V_iload_n 3 rfl rfl dX10_clash_33 ?_
      refine X_cV 6 [.int l1, .int l2, .int l3] [] ma_X10_480 (by decide) rfl (by decide) (by decide) rfl (by simp [cat_i, cat_l, rf_cat]) rfl dX10_clash_34 hw (r_X6_tell _ _ _ _) (k_I (fun v5 h hw => ?_))
      refine X_cS [.int v5] [] ma_X10_138 (by decide) (by decide) rfl (by simp [cat_i, cat_l, rf_cat]) rfl dX10_clash_37 (r_X10_bit _ hw) (k_I (fun v6 h hw => ?_))
      exact V_iret rfl dX10_clash_40 ⟨_, rfl, hw⟩
theorem r_X10_clash {l : Launch} {G : Gh} (l0 : Option Nat) (l1 : Int32) (l2 : Int32) (l3 : Int32) {h : Hp} {Q : Int32 → Hp → Prop} (hw : w_X10_clash l0 l1 l2 l3 h Q) : RunQ l G 3 yX10_clash cX10_clash 4 (some .int) [va_rf l0, .int l1, .int l2, .int l3] h (qI Q) :=
  V_run rfl (sl_len _ _ (by simp [cat_i, cat_l, rf_cat])) (V.sub [0, 1, 2, 3] (by simp only [la_r, la_i, la_l, la_n]; rfl) (s_X10_clash_0 hw))
def n_X10_standsAtTheTop_42 (l0 : Option Nat) (l1 : Int32) (l2 : Int32) (l3 : Int32) (h : Hp) (Q : Int32 → Hp → Prop) (K2 : Int32 → Hp → Prop) : Prop :=
  lt (l3 + 1) fun x9 =>
  K2 x9 h
def b_X10_standsAtTheTop_2 (l0 : Option Nat) (l1 : Int32) (l2 : Int32) (l3 : Int32) (h : Hp) (Q : Int32 → Hp → Prop) (K2 : Int32 → Hp → Prop) : Prop :=
  gI h l0 11 1293 fun v1 =>
  br (v1 ≤ l3) (
    rZ 0 h Q) (
    gR h l0 11 1282 fun v2 =>
    ldR h v2 l3 fun v3 =>
    gR h v3 1 1 fun v4 =>
    gI h v4 6 641 fun v5 =>
    br (v5 = 3) (
      gR h l0 11 1282 fun v6 =>
      ldR h v6 l3 fun v7 =>
      oV h v7 1 <| w_X0_isFor v7 l1 l2 h <| fun v8 h =>
      br (v8 = 0) (
        n_X10_standsAtTheTop_42 l0 l1 l2 l3 h Q K2) (
        rZ 1 h Q)) (
      n_X10_standsAtTheTop_42 l0 l1 l2 l3 h Q K2))
def l_X10_standsAtTheTop_2 (l0 : Option Nat) (l1 : Int32) (l2 : Int32) (l3 : Int32) (h : Hp) (Q : Int32 → Hp → Prop) : Prop :=
  Lo (fun (K : Int32 → Hp → Prop) s h => b_X10_standsAtTheTop_2 l0 l1 l2 s h Q (fun l3 h => K (l3) h)) (l3) h
def n_X10_standsAtTheTop_0 (l0 : Option Nat) (l1 : Int32) (l2 : Int32) (h : Hp) (Q : Int32 → Hp → Prop) : Prop :=
  l_X10_standsAtTheTop_2 l0 l1 l2 0 h Q
def w_X10_standsAtTheTop (l0 : Option Nat) (l1 : Int32) (l2 : Int32) (h : Hp) (Q : Int32 → Hp → Prop) : Prop := n_X10_standsAtTheTop_0 l0 l1 l2 h Q
theorem s_X10_standsAtTheTop_42 {l : Launch} {G : Gh} {l0 : Option Nat} {l1 : Int32} {l2 : Int32} {l3 : Int32} {h : Hp} {Q : Int32 → Hp → Prop} {K2 : Int32 → Hp → Prop} (hK2 : ∀ (l3 : Int32) (h : Hp), K2 l3 h → V l G 2 yX10_standsAtTheTop cX10_standsAtTheTop 4 (some .boolean) 2 [(0, va_rf l0), (1, .int l1), (2, .int l2), (3, .int l3)] [] h (qI Q)) (hw : n_X10_standsAtTheTop_42 l0 l1 l2 l3 h Q K2) : V l G 2 yX10_standsAtTheTop cX10_standsAtTheTop 4 (some .boolean) 42 [(0, va_rf l0), (1, .int l1), (2, .int l2), (3, .int l3)] [] h (qI Q) := by
  unfold n_X10_standsAtTheTop_42 at hw
  refine V_iincL (n := 1) 3 (fun z => [(3, .int z), (0, va_rf l0), (1, .int l1), (2, .int l2)]) rfl (by rfl) (by decide) (fun _ => rfl) dX10_standsAtTheTop_42 hw (fun x9 hw => ?_)
  refine V_goto (tgt := 2) dX10_standsAtTheTop_45 (by decide) ?_
  exact V.sub [1, 2, 3, 0] rfl (hK2 _ _ hw)
theorem sb_X10_standsAtTheTop_2 {l : Launch} {G : Gh} {l0 : Option Nat} {l1 : Int32} {l2 : Int32} {l3 : Int32} {h : Hp} {Q : Int32 → Hp → Prop} {K2 : Int32 → Hp → Prop} (hK2 : ∀ (l3 : Int32) (h : Hp), K2 l3 h → V l G 2 yX10_standsAtTheTop cX10_standsAtTheTop 4 (some .boolean) 2 [(0, va_rf l0), (1, .int l1), (2, .int l2), (3, .int l3)] [] h (qI Q)) (hw : b_X10_standsAtTheTop_2 l0 l1 l2 l3 h Q K2) : V l G 2 yX10_standsAtTheTop cX10_standsAtTheTop 4 (some .boolean) 2 [(0, va_rf l0), (1, .int l1), (2, .int l2), (3, .int l3)] [] h (qI Q) := by
  unfold b_X10_standsAtTheTop_2 at hw
  refine V_iload_n 3 rfl rfl dX10_standsAtTheTop_2 ?_
  refine V_aload_n 0 rfl rfl dX10_standsAtTheTop_3 ?_
  refine X_getI (c := 10) (k := 13) fa_X10_249 rfl dX10_standsAtTheTop_4 hw (fun v1 hw => ?_)
  refine V_icmp_ge (tgt := 48) dX10_standsAtTheTop_7 (by decide) hw (fun hw => ?_) (fun hw => ?_)
  · refine V_iconst (v := 0) (by decide) dX10_standsAtTheTop_48 ?_
    exact V_zret rfl hw.1 dX10_standsAtTheTop_49 ⟨_, rfl, hw.2⟩
  · refine V_aload_n 0 rfl rfl dX10_standsAtTheTop_10 ?_
    refine X_getR (c := 10) (k := 2) fa_X10_23 rfl dX10_standsAtTheTop_11 hw (fun v2 hw => ?_)
    refine V_iload_n 3 rfl rfl dX10_standsAtTheTop_14 ?_
    refine X_ldR dX10_standsAtTheTop_15 hw (fun v3 hw => ?_)
    refine X_getR (c := 0) (k := 1) fa_X10_255 rfl dX10_standsAtTheTop_16 hw (fun v4 hw => ?_)
    refine X_getI (c := 5) (k := 1) fa_X10_103 rfl dX10_standsAtTheTop_19 hw (fun v5 hw => ?_)
    refine V_iconst (v := 3) (by decide) dX10_standsAtTheTop_22 ?_
    refine V_icmp_ne (tgt := 42) dX10_standsAtTheTop_23 (by decide) hw (fun hw => ?_) (fun hw => ?_)
    · refine V_aload_n 0 rfl rfl dX10_standsAtTheTop_26 ?_
      refine X_getR (c := 10) (k := 2) fa_X10_23 rfl dX10_standsAtTheTop_27 hw (fun v6 hw => ?_)
      refine V_iload_n 3 rfl rfl dX10_standsAtTheTop_30 ?_
      refine X_ldR dX10_standsAtTheTop_31 hw (fun v7 hw => ?_)
      refine V_iload_n 1 rfl rfl dX10_standsAtTheTop_32 ?_
      refine V_iload_n 2 rfl rfl dX10_standsAtTheTop_33 ?_
      refine X_cV 0 [.int l1, .int l2] [] ma_X10_332 (by decide) rfl (by decide) (by decide) rfl (by simp [cat_i, cat_l, rf_cat]) rfl dX10_standsAtTheTop_34 hw (r_X0_isFor _ _ _) (k_I (fun v8 h hw => ?_))
      refine V_if_eq (tgt := 42) dX10_standsAtTheTop_37 (by decide) hw (fun hw => ?_) (fun hw => ?_)
      · exact V.sub [0, 1, 2, 3] rfl (s_X10_standsAtTheTop_42 hK2 hw)
      · refine V_iconst (v := 1) (by decide) dX10_standsAtTheTop_40 ?_
        exact V_zret rfl hw.1 dX10_standsAtTheTop_41 ⟨_, rfl, hw.2⟩
    · exact V.sub [0, 1, 2, 3] rfl (s_X10_standsAtTheTop_42 hK2 hw)
theorem s_X10_standsAtTheTop_2 {l : Launch} {G : Gh} {l0 : Option Nat} {l1 : Int32} {l2 : Int32} {l3 : Int32} {h : Hp} {Q : Int32 → Hp → Prop}  (hw : l_X10_standsAtTheTop_2 l0 l1 l2 l3 h Q) : V l G 2 yX10_standsAtTheTop cX10_standsAtTheTop 4 (some .boolean) 2 [(0, va_rf l0), (1, .int l1), (2, .int l2), (3, .int l3)] [] h (qI Q) :=
  Lo.ind (P := fun (s : Int32) h => V l G 2 yX10_standsAtTheTop cX10_standsAtTheTop 4 (some .boolean) 2 [(0, va_rf l0), (1, .int l1), (2, .int l2), (3, .int s)] [] h (qI Q)) (fun K ih s h hw => sb_X10_standsAtTheTop_2 (fun l3 h hk => ih (l3) h hk) hw) hw
theorem s_X10_standsAtTheTop_0 {l : Launch} {G : Gh} {l0 : Option Nat} {l1 : Int32} {l2 : Int32} {h : Hp} {Q : Int32 → Hp → Prop}  (hw : n_X10_standsAtTheTop_0 l0 l1 l2 h Q) : V l G 2 yX10_standsAtTheTop cX10_standsAtTheTop 4 (some .boolean) 0 [(0, va_rf l0), (1, .int l1), (2, .int l2)] [] h (qI Q) := by
  unfold n_X10_standsAtTheTop_0 at hw
  refine V_iconst (v := 0) (by decide) dX10_standsAtTheTop_0 ?_
  refine V_istore_n (i := 3) [(3, .int 0), (0, va_rf l0), (1, .int l1), (2, .int l2)] rfl (by decide) rfl dX10_standsAtTheTop_1 ?_
  exact V.sub [1, 2, 3, 0] rfl (s_X10_standsAtTheTop_2 hw)
theorem r_X10_standsAtTheTop {l : Launch} {G : Gh} (l0 : Option Nat) (l1 : Int32) (l2 : Int32) {h : Hp} {Q : Int32 → Hp → Prop} (hw : w_X10_standsAtTheTop l0 l1 l2 h Q) : RunQ l G 2 yX10_standsAtTheTop cX10_standsAtTheTop 4 (some .boolean) [va_rf l0, .int l1, .int l2] h (qI Q) :=
  V_run rfl (sl_len _ _ (by simp [cat_i, cat_l, rf_cat])) (V.sub [0, 1, 2] (by simp only [la_r, la_i, la_l, la_n]; rfl) (s_X10_standsAtTheTop_0 hw))
def n_X10_comesToTheTop_0 (l0 : Option Nat) (l1 : Int32) (l2 : Int32) (l3 : Int32) (h : Hp) (Q : Int32 → Hp → Prop) : Prop :=
  br (l1 = 0) (
    oV h l0 11 <| w_X10_askersOf l0 l2 l3 h <| fun v1 h =>
    oV h l0 11 <| w_X10_askedByMostHearths l0 v1 h <| fun v2 h =>
    rZ v2 h Q) <|
  br (l1 = 1) (
    oV h l0 11 <| w_X10_askersOf l0 l2 l3 h <| fun v3 h =>
    oV h l0 11 <| w_X10_askedByMostOrders l0 v3 h <| fun v4 h =>
    rZ v4 h Q) <|
  br (l1 = 2) (
    oV h l0 11 <| w_X10_standsAtTheTop l0 l2 l3 h <| fun v5 h =>
    rZ v5 h Q) <|
  rZ 0 h Q
def w_X10_comesToTheTop (l0 : Option Nat) (l1 : Int32) (l2 : Int32) (l3 : Int32) (h : Hp) (Q : Int32 → Hp → Prop) : Prop := n_X10_comesToTheTop_0 l0 l1 l2 l3 h Q
set_option maxRecDepth 20000 in
theorem s_X10_comesToTheTop_0 {l : Launch} {G : Gh} {l0 : Option Nat} {l1 : Int32} {l2 : Int32} {l3 : Int32} {h : Hp} {Q : Int32 → Hp → Prop}  (hw : n_X10_comesToTheTop_0 l0 l1 l2 l3 h Q) : V l G 3 yX10_comesToTheTop cX10_comesToTheTop 4 (some .boolean) 0 [(0, va_rf l0), (1, .int l1), (2, .int l2), (3, .int l3)] [] h (qI Q) := by
  unfold n_X10_comesToTheTop_0 at hw
  refine V_iload_n 1 rfl rfl dX10_comesToTheTop_0 ?_
  by_cases c0 : l1 = 0
  · replace hw := hw.1 c0
    refine V_tsw 28 dX10_comesToTheTop_1 (by rw [c0]; exact Or.inr ⟨by decide, by decide, _, rfl, by decide⟩) ?_
    refine V_aload_n 0 rfl rfl dX10_comesToTheTop_28 ?_
    refine V_aload_n 0 rfl rfl dX10_comesToTheTop_29 ?_
    refine V_iload_n 2 rfl rfl dX10_comesToTheTop_30 ?_
    refine V_iload_n 3 rfl rfl dX10_comesToTheTop_31 ?_
    refine X_cV 10 [.int l2, .int l3] [va_rf l0] ma_X10_427 (by decide) rfl (by decide) (by decide) rfl (by simp [cat_i, cat_l, rf_cat]) rfl dX10_comesToTheTop_32 hw (r_X10_askersOf _ _ _) (k_I (fun v1 h hw => ?_))
    refine X_cV 10 [.int v1] [] ma_X10_441 (by decide) rfl (by decide) (by decide) rfl (by simp [cat_i, cat_l, rf_cat]) rfl dX10_comesToTheTop_35 hw (r_X10_askedByMostHearths _ _) (k_I (fun v2 h hw => ?_))
    exact V_zret rfl hw.1 dX10_comesToTheTop_38 ⟨_, rfl, hw.2⟩
  replace hw := hw.2 c0
  by_cases c1 : l1 = 1
  · replace hw := hw.1 c1
    refine V_tsw 39 dX10_comesToTheTop_1 (by rw [c1]; exact Or.inr ⟨by decide, by decide, _, rfl, by decide⟩) ?_
    refine V_aload_n 0 rfl rfl dX10_comesToTheTop_39 ?_
    refine V_aload_n 0 rfl rfl dX10_comesToTheTop_40 ?_
    refine V_iload_n 2 rfl rfl dX10_comesToTheTop_41 ?_
    refine V_iload_n 3 rfl rfl dX10_comesToTheTop_42 ?_
    refine X_cV 10 [.int l2, .int l3] [va_rf l0] ma_X10_427 (by decide) rfl (by decide) (by decide) rfl (by simp [cat_i, cat_l, rf_cat]) rfl dX10_comesToTheTop_43 hw (r_X10_askersOf _ _ _) (k_I (fun v3 h hw => ?_))
    refine X_cV 10 [.int v3] [] ma_X10_444 (by decide) rfl (by decide) (by decide) rfl (by simp [cat_i, cat_l, rf_cat]) rfl dX10_comesToTheTop_46 hw (r_X10_askedByMostOrders _ _) (k_I (fun v4 h hw => ?_))
    exact V_zret rfl hw.1 dX10_comesToTheTop_49 ⟨_, rfl, hw.2⟩
  replace hw := hw.2 c1
  by_cases c2 : l1 = 2
  · replace hw := hw.1 c2
    refine V_tsw 50 dX10_comesToTheTop_1 (by rw [c2]; exact Or.inr ⟨by decide, by decide, _, rfl, by decide⟩) ?_
    refine V_aload_n 0 rfl rfl dX10_comesToTheTop_50 ?_
    refine V_iload_n 2 rfl rfl dX10_comesToTheTop_51 ?_
    refine V_iload_n 3 rfl rfl dX10_comesToTheTop_52 ?_
    refine X_cV 10 [.int l2, .int l3] [] ma_X10_447 (by decide) rfl (by decide) (by decide) rfl (by simp [cat_i, cat_l, rf_cat]) rfl dX10_comesToTheTop_53 hw (r_X10_standsAtTheTop _ _ _) (k_I (fun v5 h hw => ?_))
    exact V_zret rfl hw.1 dX10_comesToTheTop_56 ⟨_, rfl, hw.2⟩
  replace hw := hw.2 c2
  have hout : l1.toInt < 0 ∨ 2 < l1.toInt := by
    refine sw_out (fun v h1 h2 => ?_)
    rcases (show v = 0 ∨ v = 1 ∨ v = 2 by omega) with rfl | rfl | rfl
    · exact c0
    · exact c1
    · exact c2
  refine V_tsw 57 dX10_comesToTheTop_1 (Or.inl ⟨hout, by decide⟩) ?_
  refine V_iconst (v := 0) (by decide) dX10_comesToTheTop_57 ?_
  exact V_zret rfl hw.1 dX10_comesToTheTop_58 ⟨_, rfl, hw.2⟩
theorem r_X10_comesToTheTop {l : Launch} {G : Gh} (l0 : Option Nat) (l1 : Int32) (l2 : Int32) (l3 : Int32) {h : Hp} {Q : Int32 → Hp → Prop} (hw : w_X10_comesToTheTop l0 l1 l2 l3 h Q) : RunQ l G 3 yX10_comesToTheTop cX10_comesToTheTop 4 (some .boolean) [va_rf l0, .int l1, .int l2, .int l3] h (qI Q) :=
  V_run rfl (sl_len _ _ (by simp [cat_i, cat_l, rf_cat])) (V.sub [0, 1, 2, 3] (by simp only [la_r, la_i, la_l, la_n]; rfl) (s_X10_comesToTheTop_0 hw))
def n_X10_copy_24 (l0 : Option Nat) (h : Hp) (Q : Int32 → Hp → Prop) : Prop :=
  oV h l0 11 <| w_X10_refuse l0 (-1) h <| fun v3 h =>
  Q v3 h
def n_X10_copy_105 (l0 : Option Nat) (h : Hp) (Q : Int32 → Hp → Prop) : Prop :=
  oV h l0 11 <| w_X10_refuse l0 (-3) h <| fun v8 h =>
  Q v8 h
def n_X10_copy_157 (l0 : Option Nat) (h : Hp) (Q : Int32 → Hp → Prop) : Prop :=
  oV h l0 11 <| w_X10_refuse l0 (-5) h <| fun v12 h =>
  Q v12 h
def n_X10_copy_89 (l0 : Option Nat) (l3 : Int32) (l4 : Int32) (l5 : Int32) (l6 : Option Nat) (l7 : Option Nat) (h : Hp) (Q : Int32 → Hp → Prop) : Prop :=
  oV h l6 10 <| w_X9_hasRow l6 h <| fun v7 h =>
  br (v7 = 0) (
    n_X10_copy_105 l0 h Q) (
    oV h l7 10 <| w_X9_hasRow l7 h <| fun v9 h =>
    br (v9 = 0) (
      n_X10_copy_105 l0 h Q) (
      br (0 ≤ l5) (
        gI h l6 10 1154 fun v10 =>
        w_X10_isIn l3 0 (v10 - l5) h <| fun v11 h =>
        br (v11 = 0) (
          n_X10_copy_157 l0 h Q) (
          gI h l7 10 1154 fun v13 =>
          w_X10_isIn l4 0 (v13 - l5) h <| fun v14 h =>
          br (v14 = 0) (
            n_X10_copy_157 l0 h Q) (
            gR h l6 10 1152 fun v15 =>
            gR h l7 10 1152 fun v16 =>
            cpL h v15 l3 v16 l4 l5 fun h =>
            Q 1 h))) (
        oV h l0 11 <| w_X10_refuse l0 (-4) h <| fun v17 h =>
        Q v17 h)))
def n_X10_copy_46 (l0 : Option Nat) (h : Hp) (Q : Int32 → Hp → Prop) : Prop :=
  oV h l0 11 <| w_X10_refuse l0 (-2) h <| fun v22 h =>
  Q v22 h
def n_X10_copy_0 (l0 : Option Nat) (l1 : Int32) (l2 : Int32) (l3 : Int32) (l4 : Int32) (l5 : Int32) (h : Hp) (Q : Int32 → Hp → Prop) : Prop :=
  oV h l0 11 <| w_X10_shelfAt l0 l1 h <| fun v1 h =>
  oV h l0 11 <| w_X10_shelfAt l0 l2 h <| fun v2 h =>
  br (v1 = none) (
    n_X10_copy_24 l0 h Q) (
    br (v2 = none) (
      n_X10_copy_24 l0 h Q) (
      gR h v1 10 1155 fun v4 =>
      br (v4 = none) (
        gR h v2 10 1155 fun v5 =>
        br (v5 = none) (
          oV h v1 10 <| w_X9_hasRow v1 h <| fun v6 h =>
          br (v6 = 0) (
            n_X10_copy_89 l0 l3 l4 l5 v1 v2 h Q) (
            oV h v2 10 <| w_X9_hasRow v2 h <| fun v18 h =>
            br (v18 = 0) (
              n_X10_copy_89 l0 l3 l4 l5 v1 v2 h Q) (
              gI h v1 10 1153 fun v19 =>
              gI h v2 10 1153 fun v20 =>
              br (v19 = v20) (
                n_X10_copy_89 l0 l3 l4 l5 v1 v2 h Q) (
                oV h l0 11 <| w_X10_refuse l0 (-2) h <| fun v21 h =>
                Q v21 h)))) (
          n_X10_copy_46 l0 h Q)) (
        n_X10_copy_46 l0 h Q)))
def w_X10_copy (l0 : Option Nat) (l1 : Int32) (l2 : Int32) (l3 : Int32) (l4 : Int32) (l5 : Int32) (h : Hp) (Q : Int32 → Hp → Prop) : Prop := n_X10_copy_0 l0 l1 l2 l3 l4 l5 h Q
theorem s_X10_copy_24 {l : Launch} {G : Gh} {l0 : Option Nat} {h : Hp} {Q : Int32 → Hp → Prop}  (hw : n_X10_copy_24 l0 h Q) : V l G 3 yX10_copy cX10_copy 8 (some .int) 24 [(0, va_rf l0)] [] h (qI Q) := by
  unfold n_X10_copy_24 at hw
  refine V_aload_n 0 rfl rfl dX10_copy_24 ?_
  refine V_iconst (v := (-1)) (by decide) dX10_copy_25 ?_
  refine X_cV 10 [.int (-1)] [] ma_X10_95 (by decide) rfl (by decide) (by decide) rfl (by simp [cat_i, cat_l, rf_cat]) rfl dX10_copy_26 hw (r_X10_refuse _ _) (k_I (fun v3 h hw => ?_))
  exact V_iret rfl dX10_copy_29 ⟨_, rfl, hw⟩
theorem s_X10_copy_105 {l : Launch} {G : Gh} {l0 : Option Nat} {h : Hp} {Q : Int32 → Hp → Prop}  (hw : n_X10_copy_105 l0 h Q) : V l G 3 yX10_copy cX10_copy 8 (some .int) 105 [(0, va_rf l0)] [] h (qI Q) := by
  unfold n_X10_copy_105 at hw
  refine V_aload_n 0 rfl rfl dX10_copy_105 ?_
  refine V_bipush (v := (-3)) (by decide) dX10_copy_106 ?_
  refine X_cV 10 [.int (-3)] [] ma_X10_95 (by decide) rfl (by decide) (by decide) rfl (by simp [cat_i, cat_l, rf_cat]) rfl dX10_copy_108 hw (r_X10_refuse _ _) (k_I (fun v8 h hw => ?_))
  exact V_iret rfl dX10_copy_111 ⟨_, rfl, hw⟩
theorem s_X10_copy_157 {l : Launch} {G : Gh} {l0 : Option Nat} {h : Hp} {Q : Int32 → Hp → Prop}  (hw : n_X10_copy_157 l0 h Q) : V l G 3 yX10_copy cX10_copy 8 (some .int) 157 [(0, va_rf l0)] [] h (qI Q) := by
  unfold n_X10_copy_157 at hw
  refine V_aload_n 0 rfl rfl dX10_copy_157 ?_
  refine V_bipush (v := (-5)) (by decide) dX10_copy_158 ?_
  refine X_cV 10 [.int (-5)] [] ma_X10_95 (by decide) rfl (by decide) (by decide) rfl (by simp [cat_i, cat_l, rf_cat]) rfl dX10_copy_160 hw (r_X10_refuse _ _) (k_I (fun v12 h hw => ?_))
  exact V_iret rfl dX10_copy_163 ⟨_, rfl, hw⟩
set_option maxRecDepth 20000 in
theorem s_X10_copy_89 {l : Launch} {G : Gh} {l0 : Option Nat} {l3 : Int32} {l4 : Int32} {l5 : Int32} {l6 : Option Nat} {l7 : Option Nat} {h : Hp} {Q : Int32 → Hp → Prop}  (hw : n_X10_copy_89 l0 l3 l4 l5 l6 l7 h Q) : V l G 3 yX10_copy cX10_copy 8 (some .int) 89 [(0, va_rf l0), (3, .int l3), (4, .int l4), (5, .int l5), (6, va_rf l6), (7, va_rf l7)] [] h (qI Q) := by
  unfold n_X10_copy_89 at hw
  refine V_aload 4 rfl dX10_copy_89 ?_
  refine X_cV 9 [] [] ma_X10_186 (by decide) rfl (by decide) (by decide) rfl (by simp [cat_i, cat_l, rf_cat]) rfl dX10_copy_91 hw (r_X9_hasRow _) (k_I (fun v7 h hw => ?_))
  refine V_if_eq (tgt := 105) dX10_copy_94 (by decide) hw (fun hw => ?_) (fun hw => ?_)
  · exact V.sub [0] rfl (s_X10_copy_105 hw)
  · refine V_aload 5 rfl dX10_copy_97 ?_
    refine X_cV 9 [] [] ma_X10_186 (by decide) rfl (by decide) (by decide) rfl (by simp [cat_i, cat_l, rf_cat]) rfl dX10_copy_99 hw (r_X9_hasRow _) (k_I (fun v9 h hw => ?_))
    refine V_if_ne (tgt := 112) dX10_copy_102 (by decide) hw (fun hw => ?_) (fun hw => ?_)
    · exact V.sub [0] rfl (s_X10_copy_105 hw)
    · refine V_iload 3 rfl dX10_copy_112 ?_
      refine V_if_ge (tgt := 124) dX10_copy_114 (by decide) hw (fun hw => ?_) (fun hw => ?_)
      · refine V_iload_n 1 rfl rfl dX10_copy_124 ?_
        refine V_iconst (v := 0) (by decide) dX10_copy_125 ?_
        refine V_aload 4 rfl dX10_copy_126 ?_
        refine X_getI (c := 9) (k := 2) fa_X10_168 rfl dX10_copy_128 hw (fun v10 hw => ?_)
        refine V_iload 3 rfl dX10_copy_131 ?_
        refine V_isub dX10_copy_133 ?_
        refine X_cS [.int l3, .int 0, .int (v10 - l5)] [] ma_X10_99 (by decide) (by decide) rfl (by simp [cat_i, cat_l, rf_cat]) rfl dX10_copy_134 (r_X10_isIn _ _ _ hw) (k_I (fun v11 h hw => ?_))
        refine V_if_eq (tgt := 157) dX10_copy_137 (by decide) hw (fun hw => ?_) (fun hw => ?_)
        · exact V.sub [0] rfl (s_X10_copy_157 hw)
        · refine V_iload 2 rfl dX10_copy_140 ?_
          refine V_iconst (v := 0) (by decide) dX10_copy_142 ?_
          refine V_aload 5 rfl dX10_copy_143 ?_
          refine X_getI (c := 9) (k := 2) fa_X10_168 rfl dX10_copy_145 hw (fun v13 hw => ?_)
          refine V_iload 3 rfl dX10_copy_148 ?_
          refine V_isub dX10_copy_150 ?_
          refine X_cS [.int l4, .int 0, .int (v13 - l5)] [] ma_X10_99 (by decide) (by decide) rfl (by simp [cat_i, cat_l, rf_cat]) rfl dX10_copy_151 (r_X10_isIn _ _ _ hw) (k_I (fun v14 h hw => ?_))
          refine V_if_ne (tgt := 164) dX10_copy_154 (by decide) hw (fun hw => ?_) (fun hw => ?_)
          · exact V.sub [0] rfl (s_X10_copy_157 hw)
          · refine V_aload 4 rfl dX10_copy_164 ?_
            refine X_getR (c := 9) (k := 0) fa_X10_171 rfl dX10_copy_166 hw (fun v15 hw => ?_)
            refine V_iload_n 1 rfl rfl dX10_copy_169 ?_
            refine V_aload 5 rfl dX10_copy_170 ?_
            refine X_getR (c := 9) (k := 0) fa_X10_171 rfl dX10_copy_172 hw (fun v16 hw => ?_)
            refine V_iload 2 rfl dX10_copy_175 ?_
            refine V_iload 3 rfl dX10_copy_177 ?_
            refine X_cpL wd_ac_X10_190 wd_acn (by decide) (by simp [cat_i, cat_l, rf_cat]) dX10_copy_179 hw (fun h hw => ?_)
            refine V_iconst (v := 1) (by decide) dX10_copy_182 ?_
            exact V_iret rfl dX10_copy_183 ⟨_, rfl, hw⟩
      · refine V_aload_n 0 rfl rfl dX10_copy_117 ?_
        refine V_bipush (v := (-4)) (by decide) dX10_copy_118 ?_
        refine X_cV 10 [.int (-4)] [] ma_X10_95 (by decide) rfl (by decide) (by decide) rfl (by simp [cat_i, cat_l, rf_cat]) rfl dX10_copy_120 hw (r_X10_refuse _ _) (k_I (fun v17 h hw => ?_))
        exact V_iret rfl dX10_copy_123 ⟨_, rfl, hw⟩
theorem s_X10_copy_46 {l : Launch} {G : Gh} {l0 : Option Nat} {h : Hp} {Q : Int32 → Hp → Prop}  (hw : n_X10_copy_46 l0 h Q) : V l G 3 yX10_copy cX10_copy 8 (some .int) 46 [(0, va_rf l0)] [] h (qI Q) := by
  unfold n_X10_copy_46 at hw
  refine V_aload_n 0 rfl rfl dX10_copy_46 ?_
  refine V_bipush (v := (-2)) (by decide) dX10_copy_47 ?_
  refine X_cV 10 [.int (-2)] [] ma_X10_95 (by decide) rfl (by decide) (by decide) rfl (by simp [cat_i, cat_l, rf_cat]) rfl dX10_copy_49 hw (r_X10_refuse _ _) (k_I (fun v22 h hw => ?_))
  exact V_iret rfl dX10_copy_52 ⟨_, rfl, hw⟩
theorem s_X10_copy_0 {l : Launch} {G : Gh} {l0 : Option Nat} {l1 : Int32} {l2 : Int32} {l3 : Int32} {l4 : Int32} {l5 : Int32} {h : Hp} {Q : Int32 → Hp → Prop}  (hw : n_X10_copy_0 l0 l1 l2 l3 l4 l5 h Q) : V l G 3 yX10_copy cX10_copy 8 (some .int) 0 [(0, va_rf l0), (1, .int l1), (2, .int l2), (3, .int l3), (4, .int l4), (5, .int l5)] [] h (qI Q) := by
  unfold n_X10_copy_0 at hw
  refine V_aload_n 0 rfl rfl dX10_copy_0 ?_
  refine V_iload_n 1 rfl rfl dX10_copy_1 ?_
  refine X_cV 10 [.int l1] [] ma_X10_156 (by decide) rfl (by decide) (by decide) rfl (by simp [cat_i, cat_l, rf_cat]) rfl dX10_copy_2 hw (r_X10_shelfAt _ _) (k_R (fun v1 h hw => ?_))
  refine V_astore (i := 6) [(6, va_rf v1), (0, va_rf l0), (1, .int l1), (2, .int l2), (3, .int l3), (4, .int l4), (5, .int l5)] (by decide) rfl dX10_copy_5 ?_
  refine V_aload_n 1 rfl rfl dX10_copy_7 ?_
  refine V_iload_n 3 rfl rfl dX10_copy_8 ?_
  refine X_cV 10 [.int l2] [] ma_X10_156 (by decide) rfl (by decide) (by decide) rfl (by simp [cat_i, cat_l, rf_cat]) rfl dX10_copy_9 hw (r_X10_shelfAt _ _) (k_R (fun v2 h hw => ?_))
  refine V_astore (i := 7) [(7, va_rf v2), (6, va_rf v1), (0, va_rf l0), (1, .int l1), (2, .int l2), (3, .int l3), (4, .int l4), (5, .int l5)] (by decide) (by simp [List.filter_cons, rf_cat, cat_i, cat_l]) dX10_copy_12 ?_
  refine V_aload 1 rfl dX10_copy_14 ?_
  refine V_ifnull (tgt := 24) dX10_copy_16 (by decide) hw (fun hw => ?_) (fun hw => ?_)
  · exact V.sub [2] rfl (s_X10_copy_24 hw)
  · refine V_aload 0 rfl dX10_copy_19 ?_
    refine V_ifnonnull (tgt := 30) dX10_copy_21 (by decide) hw (fun hw => ?_) (fun hw => ?_)
    · exact V.sub [2] rfl (s_X10_copy_24 hw)
    · refine V_aload 1 rfl dX10_copy_30 ?_
      refine X_getR (c := 9) (k := 3) fa_X10_182 rfl dX10_copy_32 hw (fun v4 hw => ?_)
      refine V_ifnonnull (tgt := 46) dX10_copy_35 (by decide) hw (fun hw => ?_) (fun hw => ?_)
      · refine V_aload 0 rfl dX10_copy_38 ?_
        refine X_getR (c := 9) (k := 3) fa_X10_182 rfl dX10_copy_40 hw (fun v5 hw => ?_)
        refine V_ifnull (tgt := 53) dX10_copy_43 (by decide) hw (fun hw => ?_) (fun hw => ?_)
        · refine V_aload 1 rfl dX10_copy_53 ?_
          refine X_cV 9 [] [] ma_X10_186 (by decide) rfl (by decide) (by decide) rfl (by simp [cat_i, cat_l, rf_cat]) rfl dX10_copy_55 hw (r_X9_hasRow _) (k_I (fun v6 h hw => ?_))
          refine V_if_eq (tgt := 89) dX10_copy_58 (by decide) hw (fun hw => ?_) (fun hw => ?_)
          · exact V.sub [2, 5, 6, 7, 1, 0] rfl (s_X10_copy_89 hw)
          · refine V_aload 0 rfl dX10_copy_61 ?_
            refine X_cV 9 [] [] ma_X10_186 (by decide) rfl (by decide) (by decide) rfl (by simp [cat_i, cat_l, rf_cat]) rfl dX10_copy_63 hw (r_X9_hasRow _) (k_I (fun v18 h hw => ?_))
            refine V_if_eq (tgt := 89) dX10_copy_66 (by decide) hw (fun hw => ?_) (fun hw => ?_)
            · exact V.sub [2, 5, 6, 7, 1, 0] rfl (s_X10_copy_89 hw)
            · refine V_aload 1 rfl dX10_copy_69 ?_
              refine X_getI (c := 9) (k := 1) fa_X10_175 rfl dX10_copy_71 hw (fun v19 hw => ?_)
              refine V_aload 0 rfl dX10_copy_74 ?_
              refine X_getI (c := 9) (k := 1) fa_X10_175 rfl dX10_copy_76 hw (fun v20 hw => ?_)
              refine V_icmp_eq (tgt := 89) dX10_copy_79 (by decide) hw (fun hw => ?_) (fun hw => ?_)
              · exact V.sub [2, 5, 6, 7, 1, 0] rfl (s_X10_copy_89 hw)
              · refine V_aload_n 2 rfl rfl dX10_copy_82 ?_
                refine V_bipush (v := (-2)) (by decide) dX10_copy_83 ?_
                refine X_cV 10 [.int (-2)] [] ma_X10_95 (by decide) rfl (by decide) (by decide) rfl (by simp [cat_i, cat_l, rf_cat]) rfl dX10_copy_85 hw (r_X10_refuse _ _) (k_I (fun v21 h hw => ?_))
                exact V_iret rfl dX10_copy_88 ⟨_, rfl, hw⟩
        · exact V.sub [2] rfl (s_X10_copy_46 hw)
      · exact V.sub [2] rfl (s_X10_copy_46 hw)
theorem r_X10_copy {l : Launch} {G : Gh} (l0 : Option Nat) (l1 : Int32) (l2 : Int32) (l3 : Int32) (l4 : Int32) (l5 : Int32) {h : Hp} {Q : Int32 → Hp → Prop} (hw : w_X10_copy l0 l1 l2 l3 l4 l5 h Q) : RunQ l G 3 yX10_copy cX10_copy 8 (some .int) [va_rf l0, .int l1, .int l2, .int l3, .int l4, .int l5] h (qI Q) :=
  V_run rfl (sl_len _ _ (by simp [cat_i, cat_l, rf_cat])) (V.sub [0, 1, 2, 3, 4, 5] (by simp only [la_r, la_i, la_l, la_n]; rfl) (s_X10_copy_0 hw))
def n_X10_count_17 (h : Hp) (Q : Int32 → Hp → Prop) : Prop :=
  Q (-1) h
def n_X10_count_110 (l0 : Option Nat) (l3 : Int32) (l4 : Int32) (l5 : Int32) (l6 : Int32) (l7 : Int32) (h : Hp) (Q : Int32 → Hp → Prop) (K33 : Int32 → Int32 → Hp → Prop) : Prop :=
  lt (l7 + 1) fun x11 =>
  K33 l6 x11 h
def n_X10_count_104 (l0 : Option Nat) (l3 : Int32) (l4 : Int32) (l5 : Int32) (l7 : Int32) (s0 : Int32) (s1 : Int32) (h : Hp) (Q : Int32 → Hp → Prop) (K33 : Int32 → Int32 → Hp → Prop) : Prop :=
  w_X10_bit s0 h <| fun v9 h =>
  lt (s1 + v9) fun x10 =>
  n_X10_count_110 l0 l3 l4 l5 x10 l7 h Q K33
def n_X10_count_103 (l0 : Option Nat) (l3 : Int32) (l4 : Int32) (l5 : Int32) (l7 : Int32) (s0 : Int32) (h : Hp) (Q : Int32 → Hp → Prop) (K33 : Int32 → Int32 → Hp → Prop) : Prop :=
  n_X10_count_104 l0 l3 l4 l5 l7 0 s0 h Q K33
def n_X10_count_99 (l0 : Option Nat) (l3 : Int32) (l4 : Int32) (l5 : Int32) (l7 : Int32) (s0 : Int32) (h : Hp) (Q : Int32 → Hp → Prop) (K33 : Int32 → Int32 → Hp → Prop) : Prop :=
  n_X10_count_104 l0 l3 l4 l5 l7 1 s0 h Q K33
def n_X10_count_73 (l0 : Option Nat) (l3 : Int32) (l4 : Int32) (l5 : Int32) (l6 : Int32) (l7 : Int32) (l8 : Option Nat) (h : Hp) (Q : Int32 → Hp → Prop) (K33 : Int32 → Int32 → Hp → Prop) : Prop :=
  w_X10_hasBit l5 l7 h <| fun v8 h =>
  br (v8 = 0) (
    br (l4 = 0) (
      n_X10_count_103 l0 l3 l4 l5 l7 l6 h Q K33) (
      gI h l8 6 649 fun v12 =>
      br (v12 = (-1)) (
        n_X10_count_103 l0 l3 l4 l5 l7 l6 h Q K33) (
        n_X10_count_99 l0 l3 l4 l5 l7 l6 h Q K33))) (
    n_X10_count_99 l0 l3 l4 l5 l7 l6 h Q K33)
def b_X10_count_33 (l0 : Option Nat) (l3 : Int32) (l4 : Int32) (l5 : Int32) (l6 : Int32) (l7 : Int32) (h : Hp) (Q : Int32 → Hp → Prop) (K33 : Int32 → Int32 → Hp → Prop) : Prop :=
  gI h l0 11 1292 fun v4 =>
  br (v4 ≤ l7) (
    Q l6 h) (
    gR h l0 11 1280 fun v5 =>
    ldR h v5 l7 fun v6 =>
    gI h v6 6 641 fun v7 =>
    br (v7 = 0) (
      br (l3 = 3) (
        n_X10_count_73 l0 l3 l4 l5 l6 l7 v6 h Q K33) (
        gI h v6 6 644 fun v13 =>
        br (v13 = l3) (
          n_X10_count_73 l0 l3 l4 l5 l6 l7 v6 h Q K33) (
          n_X10_count_110 l0 l3 l4 l5 l6 l7 h Q K33))) (
      n_X10_count_110 l0 l3 l4 l5 l6 l7 h Q K33))
def l_X10_count_33 (l0 : Option Nat) (l3 : Int32) (l4 : Int32) (l5 : Int32) (l6 : Int32) (l7 : Int32) (h : Hp) (Q : Int32 → Hp → Prop) : Prop :=
  Lo (fun (K : Int32 × Int32 → Hp → Prop) s h => b_X10_count_33 l0 l3 l4 l5 s.1 s.2 h Q (fun l6 l7 h => K (l6, l7) h)) (l6, l7) h
def n_X10_count_0 (l0 : Option Nat) (l1 : Int32) (l2 : Int32) (l3 : Int32) (l4 : Int32) (h : Hp) (Q : Int32 → Hp → Prop) : Prop :=
  w_X10_isIn l3 0 3 h <| fun v1 h =>
  br (v1 = 0) (
    n_X10_count_17 h Q) (
    w_X10_isGroup l1 l2 h <| fun v2 h =>
    br (v2 = 0) (
      n_X10_count_17 h Q) (
      oV h l0 11 <| w_X10_askersOf l0 l1 l2 h <| fun v3 h =>
      l_X10_count_33 l0 l3 l4 v3 0 0 h Q))
def w_X10_count (l0 : Option Nat) (l1 : Int32) (l2 : Int32) (l3 : Int32) (l4 : Int32) (h : Hp) (Q : Int32 → Hp → Prop) : Prop := n_X10_count_0 l0 l1 l2 l3 l4 h Q
theorem s_X10_count_17 {l : Launch} {G : Gh}  {h : Hp} {Q : Int32 → Hp → Prop}  (hw : n_X10_count_17 h Q) : V l G 3 yX10_count cX10_count 9 (some .int) 17 [] [] h (qI Q) := by
  unfold n_X10_count_17 at hw
  refine V_iconst (v := (-1)) (by decide) dX10_count_17 ?_
  exact V_iret rfl dX10_count_18 ⟨_, rfl, hw⟩
theorem s_X10_count_110 {l : Launch} {G : Gh} {l0 : Option Nat} {l3 : Int32} {l4 : Int32} {l5 : Int32} {l6 : Int32} {l7 : Int32} {h : Hp} {Q : Int32 → Hp → Prop} {K33 : Int32 → Int32 → Hp → Prop} (hK33 : ∀ (l6 : Int32) (l7 : Int32) (h : Hp), K33 l6 l7 h → V l G 3 yX10_count cX10_count 9 (some .int) 33 [(0, va_rf l0), (3, .int l3), (4, .int l4), (5, .int l5), (6, .int l6), (7, .int l7)] [] h (qI Q)) (hw : n_X10_count_110 l0 l3 l4 l5 l6 l7 h Q K33) : V l G 3 yX10_count cX10_count 9 (some .int) 110 [(0, va_rf l0), (3, .int l3), (4, .int l4), (5, .int l5), (6, .int l6), (7, .int l7)] [] h (qI Q) := by
  unfold n_X10_count_110 at hw
  refine V_iincL (n := 1) 5 (fun z => [(7, .int z), (0, va_rf l0), (3, .int l3), (4, .int l4), (5, .int l5), (6, .int l6)]) rfl (by rfl) (by decide) (fun _ => rfl) dX10_count_110 hw (fun x11 hw => ?_)
  refine V_goto (tgt := 33) dX10_count_113 (by decide) ?_
  exact V.sub [1, 2, 3, 4, 5, 0] rfl (hK33 _ _ _ hw)
theorem s_X10_count_104 {l : Launch} {G : Gh} {l0 : Option Nat} {l3 : Int32} {l4 : Int32} {l5 : Int32} {l7 : Int32} {s0 : Int32} {s1 : Int32} {h : Hp} {Q : Int32 → Hp → Prop} {K33 : Int32 → Int32 → Hp → Prop} (hK33 : ∀ (l6 : Int32) (l7 : Int32) (h : Hp), K33 l6 l7 h → V l G 3 yX10_count cX10_count 9 (some .int) 33 [(0, va_rf l0), (3, .int l3), (4, .int l4), (5, .int l5), (6, .int l6), (7, .int l7)] [] h (qI Q)) (hw : n_X10_count_104 l0 l3 l4 l5 l7 s0 s1 h Q K33) : V l G 3 yX10_count cX10_count 9 (some .int) 104 [(0, va_rf l0), (3, .int l3), (4, .int l4), (5, .int l5), (7, .int l7)] [.int s0, .int s1] h (qI Q) := by
  unfold n_X10_count_104 at hw
  refine X_cS [.int s0] [.int s1] ma_X10_138 (by decide) (by decide) rfl (by simp [cat_i, cat_l, rf_cat]) rfl dX10_count_104 (r_X10_bit _ hw) (k_I (fun v9 h hw => ?_))
  refine V_iadd dX10_count_107 ?_
  refine V_ltI hw (fun x10 hw => ?_)
  refine V_istore (i := 6) [(6, .int x10), (0, va_rf l0), (3, .int l3), (4, .int l4), (5, .int l5), (7, .int l7)] (by decide) rfl dX10_count_108 ?_
  exact V.sub [1, 2, 3, 4, 0, 5] rfl (s_X10_count_110 hK33 hw)
theorem s_X10_count_103 {l : Launch} {G : Gh} {l0 : Option Nat} {l3 : Int32} {l4 : Int32} {l5 : Int32} {l7 : Int32} {s0 : Int32} {h : Hp} {Q : Int32 → Hp → Prop} {K33 : Int32 → Int32 → Hp → Prop} (hK33 : ∀ (l6 : Int32) (l7 : Int32) (h : Hp), K33 l6 l7 h → V l G 3 yX10_count cX10_count 9 (some .int) 33 [(0, va_rf l0), (3, .int l3), (4, .int l4), (5, .int l5), (6, .int l6), (7, .int l7)] [] h (qI Q)) (hw : n_X10_count_103 l0 l3 l4 l5 l7 s0 h Q K33) : V l G 3 yX10_count cX10_count 9 (some .int) 103 [(0, va_rf l0), (3, .int l3), (4, .int l4), (5, .int l5), (7, .int l7)] [.int s0] h (qI Q) := by
  unfold n_X10_count_103 at hw
  refine V_iconst (v := 0) (by decide) dX10_count_103 ?_
  exact V.sub [0, 1, 2, 3, 4] rfl (s_X10_count_104 hK33 hw)
theorem s_X10_count_99 {l : Launch} {G : Gh} {l0 : Option Nat} {l3 : Int32} {l4 : Int32} {l5 : Int32} {l7 : Int32} {s0 : Int32} {h : Hp} {Q : Int32 → Hp → Prop} {K33 : Int32 → Int32 → Hp → Prop} (hK33 : ∀ (l6 : Int32) (l7 : Int32) (h : Hp), K33 l6 l7 h → V l G 3 yX10_count cX10_count 9 (some .int) 33 [(0, va_rf l0), (3, .int l3), (4, .int l4), (5, .int l5), (6, .int l6), (7, .int l7)] [] h (qI Q)) (hw : n_X10_count_99 l0 l3 l4 l5 l7 s0 h Q K33) : V l G 3 yX10_count cX10_count 9 (some .int) 99 [(0, va_rf l0), (3, .int l3), (4, .int l4), (5, .int l5), (7, .int l7)] [.int s0] h (qI Q) := by
  unfold n_X10_count_99 at hw
  refine V_iconst (v := 1) (by decide) dX10_count_99 ?_
  refine V_goto (tgt := 104) dX10_count_100 (by decide) ?_
  exact V.sub [0, 1, 2, 3, 4] rfl (s_X10_count_104 hK33 hw)
theorem s_X10_count_73 {l : Launch} {G : Gh} {l0 : Option Nat} {l3 : Int32} {l4 : Int32} {l5 : Int32} {l6 : Int32} {l7 : Int32} {l8 : Option Nat} {h : Hp} {Q : Int32 → Hp → Prop} {K33 : Int32 → Int32 → Hp → Prop} (hK33 : ∀ (l6 : Int32) (l7 : Int32) (h : Hp), K33 l6 l7 h → V l G 3 yX10_count cX10_count 9 (some .int) 33 [(0, va_rf l0), (3, .int l3), (4, .int l4), (5, .int l5), (6, .int l6), (7, .int l7)] [] h (qI Q)) (hw : n_X10_count_73 l0 l3 l4 l5 l6 l7 l8 h Q K33) : V l G 3 yX10_count cX10_count 9 (some .int) 73 [(0, va_rf l0), (3, .int l3), (4, .int l4), (5, .int l5), (6, .int l6), (7, .int l7), (8, va_rf l8)] [] h (qI Q) := by
  unfold n_X10_count_73 at hw
  refine V_iload 4 rfl dX10_count_73 ?_
  refine V_iload 3 rfl dX10_count_75 ?_
  refine V_iload 5 rfl dX10_count_77 ?_
  refine X_cS [.int l5, .int l7] [.int l6] ma_X10_430 (by decide) (by decide) rfl (by simp [cat_i, cat_l, rf_cat]) rfl dX10_count_79 (r_X10_hasBit _ _ hw) (k_I (fun v8 h hw => ?_))
  refine V_if_ne (tgt := 99) dX10_count_82 (by decide) hw (fun hw => ?_) (fun hw => ?_)
  · refine V_iload 2 rfl dX10_count_85 ?_
    refine V_if_eq (tgt := 103) dX10_count_87 (by decide) hw (fun hw => ?_) (fun hw => ?_)
    · exact V.sub [0, 1, 2, 3, 5] rfl (s_X10_count_103 hK33 hw)
    · refine V_aload 6 rfl dX10_count_90 ?_
      refine X_getI (c := 5) (k := 9) fa_X10_147 rfl dX10_count_92 hw (fun v12 hw => ?_)
      refine V_iconst (v := (-1)) (by decide) dX10_count_95 ?_
      refine V_icmp_eq (tgt := 103) dX10_count_96 (by decide) hw (fun hw => ?_) (fun hw => ?_)
      · exact V.sub [0, 1, 2, 3, 5] rfl (s_X10_count_103 hK33 hw)
      · exact V.sub [0, 1, 2, 3, 5] rfl (s_X10_count_99 hK33 hw)
  · exact V.sub [0, 1, 2, 3, 5] rfl (s_X10_count_99 hK33 hw)
theorem sb_X10_count_33 {l : Launch} {G : Gh} {l0 : Option Nat} {l3 : Int32} {l4 : Int32} {l5 : Int32} {l6 : Int32} {l7 : Int32} {h : Hp} {Q : Int32 → Hp → Prop} {K33 : Int32 → Int32 → Hp → Prop} (hK33 : ∀ (l6 : Int32) (l7 : Int32) (h : Hp), K33 l6 l7 h → V l G 3 yX10_count cX10_count 9 (some .int) 33 [(0, va_rf l0), (3, .int l3), (4, .int l4), (5, .int l5), (6, .int l6), (7, .int l7)] [] h (qI Q)) (hw : b_X10_count_33 l0 l3 l4 l5 l6 l7 h Q K33) : V l G 3 yX10_count cX10_count 9 (some .int) 33 [(0, va_rf l0), (3, .int l3), (4, .int l4), (5, .int l5), (6, .int l6), (7, .int l7)] [] h (qI Q) := by
  unfold b_X10_count_33 at hw
  refine V_iload 5 rfl dX10_count_33 ?_
  refine V_aload_n 0 rfl rfl dX10_count_35 ?_
  refine X_getI (c := 10) (k := 12) fa_X10_88 rfl dX10_count_36 hw (fun v4 hw => ?_)
  refine V_icmp_ge (tgt := 116) dX10_count_39 (by decide) hw (fun hw => ?_) (fun hw => ?_)
  · refine V_iload 4 rfl dX10_count_116 ?_
    exact V_iret rfl dX10_count_118 ⟨_, rfl, hw⟩
  · refine V_aload_n 0 rfl rfl dX10_count_42 ?_
    refine X_getR (c := 10) (k := 0) fa_X10_11 rfl dX10_count_43 hw (fun v5 hw => ?_)
    refine V_iload 5 rfl dX10_count_46 ?_
    refine X_ldR dX10_count_48 hw (fun v6 hw => ?_)
    refine V_astore (i := 8) [(8, va_rf v6), (0, va_rf l0), (3, .int l3), (4, .int l4), (5, .int l5), (6, .int l6), (7, .int l7)] (by decide) rfl dX10_count_49 ?_
    refine V_aload 0 rfl dX10_count_51 ?_
    refine X_getI (c := 5) (k := 1) fa_X10_103 rfl dX10_count_53 hw (fun v7 hw => ?_)
    refine V_if_ne (tgt := 110) dX10_count_56 (by decide) hw (fun hw => ?_) (fun hw => ?_)
    · refine V_iload_n 2 rfl rfl dX10_count_59 ?_
      refine V_iconst (v := 3) (by decide) dX10_count_60 ?_
      refine V_icmp_eq (tgt := 73) dX10_count_61 (by decide) hw (fun hw => ?_) (fun hw => ?_)
      · exact V.sub [1, 2, 3, 4, 5, 6, 0] rfl (s_X10_count_73 hK33 hw)
      · refine V_aload 0 rfl dX10_count_64 ?_
        refine X_getI (c := 5) (k := 4) fa_X10_124 rfl dX10_count_66 hw (fun v13 hw => ?_)
        refine V_iload_n 2 rfl rfl dX10_count_69 ?_
        refine V_icmp_ne (tgt := 110) dX10_count_70 (by decide) hw (fun hw => ?_) (fun hw => ?_)
        · exact V.sub [1, 2, 3, 4, 5, 6, 0] rfl (s_X10_count_73 hK33 hw)
        · exact V.sub [1, 2, 3, 4, 5, 6] rfl (s_X10_count_110 hK33 hw)
    · exact V.sub [1, 2, 3, 4, 5, 6] rfl (s_X10_count_110 hK33 hw)
theorem s_X10_count_33 {l : Launch} {G : Gh} {l0 : Option Nat} {l3 : Int32} {l4 : Int32} {l5 : Int32} {l6 : Int32} {l7 : Int32} {h : Hp} {Q : Int32 → Hp → Prop}  (hw : l_X10_count_33 l0 l3 l4 l5 l6 l7 h Q) : V l G 3 yX10_count cX10_count 9 (some .int) 33 [(0, va_rf l0), (3, .int l3), (4, .int l4), (5, .int l5), (6, .int l6), (7, .int l7)] [] h (qI Q) :=
  Lo.ind (P := fun (s : Int32 × Int32) h => V l G 3 yX10_count cX10_count 9 (some .int) 33 [(0, va_rf l0), (3, .int l3), (4, .int l4), (5, .int l5), (6, .int s.1), (7, .int s.2)] [] h (qI Q)) (fun K ih s h hw => sb_X10_count_33 (fun l6 l7 h hk => ih (l6, l7) h hk) hw) hw
theorem s_X10_count_0 {l : Launch} {G : Gh} {l0 : Option Nat} {l1 : Int32} {l2 : Int32} {l3 : Int32} {l4 : Int32} {h : Hp} {Q : Int32 → Hp → Prop}  (hw : n_X10_count_0 l0 l1 l2 l3 l4 h Q) : V l G 3 yX10_count cX10_count 9 (some .int) 0 [(0, va_rf l0), (1, .int l1), (2, .int l2), (3, .int l3), (4, .int l4)] [] h (qI Q) := by
  unfold n_X10_count_0 at hw
  refine V_iload_n 3 rfl rfl dX10_count_0 ?_
  refine V_iconst (v := 0) (by decide) dX10_count_1 ?_
  refine V_iconst (v := 3) (by decide) dX10_count_2 ?_
  refine X_cS [.int l3, .int 0, .int 3] [] ma_X10_99 (by decide) (by decide) rfl (by simp [cat_i, cat_l, rf_cat]) rfl dX10_count_3 (r_X10_isIn _ _ _ hw) (k_I (fun v1 h hw => ?_))
  refine V_if_eq (tgt := 17) dX10_count_6 (by decide) hw (fun hw => ?_) (fun hw => ?_)
  · exact V.sub [] rfl (s_X10_count_17 hw)
  · refine V_iload_n 1 rfl rfl dX10_count_9 ?_
    refine V_iload_n 2 rfl rfl dX10_count_10 ?_
    refine X_cS [.int l1, .int l2] [] ma_X10_278 (by decide) (by decide) rfl (by simp [cat_i, cat_l, rf_cat]) rfl dX10_count_11 (r_X10_isGroup _ _ hw) (k_I (fun v2 h hw => ?_))
    refine V_if_ne (tgt := 19) dX10_count_14 (by decide) hw (fun hw => ?_) (fun hw => ?_)
    · exact V.sub [] rfl (s_X10_count_17 hw)
    · refine V_aload_n 0 rfl rfl dX10_count_19 ?_
      refine V_iload_n 1 rfl rfl dX10_count_20 ?_
      refine V_iload_n 2 rfl rfl dX10_count_21 ?_
      refine X_cV 10 [.int l1, .int l2] [] ma_X10_427 (by decide) rfl (by decide) (by decide) rfl (by simp [cat_i, cat_l, rf_cat]) rfl dX10_count_22 hw (r_X10_askersOf _ _ _) (k_I (fun v3 h hw => ?_))
      refine V_istore (i := 5) [(5, .int v3), (0, va_rf l0), (1, .int l1), (2, .int l2), (3, .int l3), (4, .int l4)] (by decide) rfl dX10_count_25 ?_
      refine V_iconst (v := 0) (by decide) dX10_count_27 ?_
      refine V_istore (i := 6) [(6, .int 0), (5, .int v3), (0, va_rf l0), (1, .int l1), (2, .int l2), (3, .int l3), (4, .int l4)] (by decide) rfl dX10_count_28 ?_
      refine V_iconst (v := 0) (by decide) dX10_count_30 ?_
      refine V_istore (i := 7) [(7, .int 0), (6, .int 0), (5, .int v3), (0, va_rf l0), (1, .int l1), (2, .int l2), (3, .int l3), (4, .int l4)] (by decide) rfl dX10_count_31 ?_
      exact V.sub [3, 6, 7, 2, 1, 0] rfl (s_X10_count_33 hw)
theorem r_X10_count {l : Launch} {G : Gh} (l0 : Option Nat) (l1 : Int32) (l2 : Int32) (l3 : Int32) (l4 : Int32) {h : Hp} {Q : Int32 → Hp → Prop} (hw : w_X10_count l0 l1 l2 l3 l4 h Q) : RunQ l G 3 yX10_count cX10_count 9 (some .int) [va_rf l0, .int l1, .int l2, .int l3, .int l4] h (qI Q) :=
  V_run rfl (sl_len _ _ (by simp [cat_i, cat_l, rf_cat])) (V.sub [0, 1, 2, 3, 4] (by simp only [la_r, la_i, la_l, la_n]; rfl) (s_X10_count_0 hw))
def n_X10_days_23 (l0 : Option Nat) (h : Hp) (Q : Int32 → Hp → Prop) : Prop :=
  oV h l0 11 <| w_X10_refuse l0 (-6) h <| fun v2 h =>
  Q v2 h
def n_X10_days_0 (l0 : Option Nat) (l1 : Int32) (h : Hp) (Q : Int32 → Hp → Prop) : Prop :=
  w_X10_isIn l1 1 400 h <| fun v1 h =>
  br (v1 = 0) (
    n_X10_days_23 l0 h Q) (
    gI h l0 11 1297 fun v3 =>
    br ((v3 + l1) ≤ 4000) (
      gI h l0 11 1297 fun v4 =>
      pI h l0 11 1297 (v4 + l1) fun h =>
      gI h l0 11 1297 fun v5 =>
      Q v5 h) (
      n_X10_days_23 l0 h Q))
def w_X10_days (l0 : Option Nat) (l1 : Int32) (h : Hp) (Q : Int32 → Hp → Prop) : Prop := n_X10_days_0 l0 l1 h Q
theorem s_X10_days_23 {l : Launch} {G : Gh} {l0 : Option Nat} {h : Hp} {Q : Int32 → Hp → Prop}  (hw : n_X10_days_23 l0 h Q) : V l G 3 yX10_days cX10_days 2 (some .int) 23 [(0, va_rf l0)] [] h (qI Q) := by
  unfold n_X10_days_23 at hw
  refine V_aload_n 0 rfl rfl dX10_days_23 ?_
  refine V_bipush (v := (-6)) (by decide) dX10_days_24 ?_
  refine X_cV 10 [.int (-6)] [] ma_X10_95 (by decide) rfl (by decide) (by decide) rfl (by simp [cat_i, cat_l, rf_cat]) rfl dX10_days_26 hw (r_X10_refuse _ _) (k_I (fun v2 h hw => ?_))
  exact V_iret rfl dX10_days_29 ⟨_, rfl, hw⟩
theorem s_X10_days_0 {l : Launch} {G : Gh} {l0 : Option Nat} {l1 : Int32} {h : Hp} {Q : Int32 → Hp → Prop}  (hw : n_X10_days_0 l0 l1 h Q) : V l G 3 yX10_days cX10_days 2 (some .int) 0 [(0, va_rf l0), (1, .int l1)] [] h (qI Q) := by
  unfold n_X10_days_0 at hw
  refine V_iload_n 1 rfl rfl dX10_days_0 ?_
  refine V_iconst (v := 1) (by decide) dX10_days_1 ?_
  refine V_sipush (v := 400) (by decide) dX10_days_2 ?_
  refine X_cS [.int l1, .int 1, .int 400] [] ma_X10_99 (by decide) (by decide) rfl (by simp [cat_i, cat_l, rf_cat]) rfl dX10_days_5 (r_X10_isIn _ _ _ hw) (k_I (fun v1 h hw => ?_))
  refine V_if_eq (tgt := 23) dX10_days_8 (by decide) hw (fun hw => ?_) (fun hw => ?_)
  · exact V.sub [0] rfl (s_X10_days_23 hw)
  · refine V_aload_n 0 rfl rfl dX10_days_11 ?_
    refine X_getI (c := 10) (k := 17) fa_X10_114 rfl dX10_days_12 hw (fun v3 hw => ?_)
    refine V_iload_n 1 rfl rfl dX10_days_15 ?_
    refine V_iadd dX10_days_16 ?_
    refine V_sipush (v := 4000) (by decide) dX10_days_17 ?_
    refine V_icmp_le (tgt := 30) dX10_days_20 (by decide) hw (fun hw => ?_) (fun hw => ?_)
    · refine V_aload_n 0 rfl rfl dX10_days_30 ?_
      refine V_dup (rf_cat _) dX10_days_31 ?_
      refine X_getI (c := 10) (k := 17) fa_X10_114 rfl dX10_days_32 hw (fun v4 hw => ?_)
      refine V_iload_n 1 rfl rfl dX10_days_35 ?_
      refine V_iadd dX10_days_36 ?_
      refine X_putI (c := 10) (k := 17) fa_X10_114 (Or.inl rfl) rfl dX10_days_37 hw (fun h hw => ?_)
      refine V_aload_n 0 rfl rfl dX10_days_40 ?_
      refine X_getI (c := 10) (k := 17) fa_X10_114 rfl dX10_days_41 hw (fun v5 hw => ?_)
      exact V_iret rfl dX10_days_44 ⟨_, rfl, hw⟩
    · exact V.sub [0] rfl (s_X10_days_23 hw)
theorem r_X10_days {l : Launch} {G : Gh} (l0 : Option Nat) (l1 : Int32) {h : Hp} {Q : Int32 → Hp → Prop} (hw : w_X10_days l0 l1 h Q) : RunQ l G 3 yX10_days cX10_days 2 (some .int) [va_rf l0, .int l1] h (qI Q) :=
  V_run rfl (sl_len _ _ (by simp [cat_i, cat_l, rf_cat])) (V.sub [0, 1] (by simp only [la_r, la_i, la_l, la_n]; rfl) (s_X10_days_0 hw))
def n_X10_element_31 (h : Hp) (Q : Int64 → Hp → Prop) : Prop :=
  Q 0 h
def n_X10_element_0 (l0 : Option Nat) (l1 : Int32) (l2 : Int32) (h : Hp) (Q : Int64 → Hp → Prop) : Prop :=
  oV h l0 11 <| w_X10_shelfAt l0 l1 h <| fun v1 h =>
  br (v1 = none) (
    n_X10_element_31 h Q) (
    oV h v1 10 <| w_X9_hasRow v1 h <| fun v2 h =>
    br (v2 = 0) (
      n_X10_element_31 h Q) (
      gI h v1 10 1154 fun v3 =>
      w_X10_isIn l2 0 (v3 - 1) h <| fun v4 h =>
      br (v4 = 0) (
        n_X10_element_31 h Q) (
        gR h v1 10 1152 fun v5 =>
        ldL h v5 l2 fun v6 =>
        Q v6 h)))
def w_X10_element (l0 : Option Nat) (l1 : Int32) (l2 : Int32) (h : Hp) (Q : Int64 → Hp → Prop) : Prop := n_X10_element_0 l0 l1 l2 h Q
theorem s_X10_element_31 {l : Launch} {G : Gh}  {h : Hp} {Q : Int64 → Hp → Prop}  (hw : n_X10_element_31 h Q) : V l G 3 yX10_element cX10_element 4 (some .long) 31 [] [] h (qL Q) := by
  unfold n_X10_element_31 at hw
  refine V_lconst (v := 0) (by decide) dX10_element_31 ?_
  exact V_lret rfl dX10_element_32 ⟨_, rfl, hw⟩
theorem s_X10_element_0 {l : Launch} {G : Gh} {l0 : Option Nat} {l1 : Int32} {l2 : Int32} {h : Hp} {Q : Int64 → Hp → Prop}  (hw : n_X10_element_0 l0 l1 l2 h Q) : V l G 3 yX10_element cX10_element 4 (some .long) 0 [(0, va_rf l0), (1, .int l1), (2, .int l2)] [] h (qL Q) := by
  unfold n_X10_element_0 at hw
  refine V_aload_n 0 rfl rfl dX10_element_0 ?_
  refine V_iload_n 1 rfl rfl dX10_element_1 ?_
  refine X_cV 10 [.int l1] [] ma_X10_156 (by decide) rfl (by decide) (by decide) rfl (by simp [cat_i, cat_l, rf_cat]) rfl dX10_element_2 hw (r_X10_shelfAt _ _) (k_R (fun v1 h hw => ?_))
  refine V_astore_n (i := 3) [(3, va_rf v1), (0, va_rf l0), (1, .int l1), (2, .int l2)] rfl (by decide) rfl dX10_element_5 ?_
  refine V_aload_n 0 rfl rfl dX10_element_6 ?_
  refine V_ifnull (tgt := 31) dX10_element_7 (by decide) hw (fun hw => ?_) (fun hw => ?_)
  · exact V.sub [] rfl (s_X10_element_31 hw)
  · refine V_aload_n 0 rfl rfl dX10_element_10 ?_
    refine X_cV 9 [] [] ma_X10_186 (by decide) rfl (by decide) (by decide) rfl (by simp [cat_i, cat_l, rf_cat]) rfl dX10_element_11 hw (r_X9_hasRow _) (k_I (fun v2 h hw => ?_))
    refine V_if_eq (tgt := 31) dX10_element_14 (by decide) hw (fun hw => ?_) (fun hw => ?_)
    · exact V.sub [] rfl (s_X10_element_31 hw)
    · refine V_iload_n 3 rfl rfl dX10_element_17 ?_
      refine V_iconst (v := 0) (by decide) dX10_element_18 ?_
      refine V_aload_n 0 rfl rfl dX10_element_19 ?_
      refine X_getI (c := 9) (k := 2) fa_X10_168 rfl dX10_element_20 hw (fun v3 hw => ?_)
      refine V_iconst (v := 1) (by decide) dX10_element_23 ?_
      refine V_isub dX10_element_24 ?_
      refine X_cS [.int l2, .int 0, .int (v3 - 1)] [] ma_X10_99 (by decide) (by decide) rfl (by simp [cat_i, cat_l, rf_cat]) rfl dX10_element_25 (r_X10_isIn _ _ _ hw) (k_I (fun v4 h hw => ?_))
      refine V_if_ne (tgt := 33) dX10_element_28 (by decide) hw (fun hw => ?_) (fun hw => ?_)
      · exact V.sub [] rfl (s_X10_element_31 hw)
      · refine V_aload_n 0 rfl rfl dX10_element_33 ?_
        refine X_getR (c := 9) (k := 0) fa_X10_171 rfl dX10_element_34 hw (fun v5 hw => ?_)
        refine V_iload_n 3 rfl rfl dX10_element_37 ?_
        refine X_ldL dX10_element_38 hw (fun v6 hw => ?_)
        exact V_lret rfl dX10_element_39 ⟨_, rfl, hw⟩
theorem r_X10_element {l : Launch} {G : Gh} (l0 : Option Nat) (l1 : Int32) (l2 : Int32) {h : Hp} {Q : Int64 → Hp → Prop} (hw : w_X10_element l0 l1 l2 h Q) : RunQ l G 3 yX10_element cX10_element 4 (some .long) [va_rf l0, .int l1, .int l2] h (qL Q) :=
  V_run rfl (sl_len _ _ (by simp [cat_i, cat_l, rf_cat])) (V.sub [0, 1, 2] (by simp only [la_r, la_i, la_l, la_n]; rfl) (s_X10_element_0 hw))
def n_X10_lastOf_27 (l1 : Option Nat) (h : Hp) (Q : Option Nat → Hp → Prop) : Prop :=
  Q l1 h
def b_X10_lastOf_4 (l1 : Option Nat) (l2 : Int32) (h : Hp) (Q : Option Nat → Hp → Prop) (K4 : Option Nat → Int32 → Hp → Prop) : Prop :=
  br (4 ≤ l2) (
    n_X10_lastOf_27 l1 h Q) (
    gR h l1 1 15 fun v1 =>
    br (v1 = none) (
      n_X10_lastOf_27 l1 h Q) (
      gR h l1 1 15 fun v2 =>
      lt (l2 + 1) fun x3 =>
      K4 v2 x3 h))
def l_X10_lastOf_4 (l1 : Option Nat) (l2 : Int32) (h : Hp) (Q : Option Nat → Hp → Prop) : Prop :=
  Lo (fun (K : Option Nat × Int32 → Hp → Prop) s h => b_X10_lastOf_4 s.1 s.2 h Q (fun l1 l2 h => K (l1, l2) h)) (l1, l2) h
def n_X10_lastOf_0 (l0 : Option Nat) (h : Hp) (Q : Option Nat → Hp → Prop) : Prop :=
  l_X10_lastOf_4 l0 0 h Q
def w_X10_lastOf (l0 : Option Nat) (h : Hp) (Q : Option Nat → Hp → Prop) : Prop := n_X10_lastOf_0 l0 h Q
theorem s_X10_lastOf_27 {l : Launch} {G : Gh} {l1 : Option Nat} {h : Hp} {Q : Option Nat → Hp → Prop}  (hw : n_X10_lastOf_27 l1 h Q) : V l G 1 yX10_lastOf cX10_lastOf 3 (some (.object "ComplaintBooks$Ask")) 27 [(1, va_rf l1)] [] h (qR Q) := by
  unfold n_X10_lastOf_27 at hw
  refine V_aload_n 0 rfl rfl dX10_lastOf_27 ?_
  exact V_aret rfl (Or.inl ⟨_, rfl⟩) dX10_lastOf_28 ⟨_, rfl, hw⟩
theorem sb_X10_lastOf_4 {l : Launch} {G : Gh} {l1 : Option Nat} {l2 : Int32} {h : Hp} {Q : Option Nat → Hp → Prop} {K4 : Option Nat → Int32 → Hp → Prop} (hK4 : ∀ (l1 : Option Nat) (l2 : Int32) (h : Hp), K4 l1 l2 h → V l G 1 yX10_lastOf cX10_lastOf 3 (some (.object "ComplaintBooks$Ask")) 4 [(1, va_rf l1), (2, .int l2)] [] h (qR Q)) (hw : b_X10_lastOf_4 l1 l2 h Q K4) : V l G 1 yX10_lastOf cX10_lastOf 3 (some (.object "ComplaintBooks$Ask")) 4 [(1, va_rf l1), (2, .int l2)] [] h (qR Q) := by
  unfold b_X10_lastOf_4 at hw
  refine V_iload_n 1 rfl rfl dX10_lastOf_4 ?_
  refine V_iconst (v := 4) (by decide) dX10_lastOf_5 ?_
  refine V_icmp_ge (tgt := 27) dX10_lastOf_6 (by decide) hw (fun hw => ?_) (fun hw => ?_)
  · exact V.sub [0] rfl (s_X10_lastOf_27 hw)
  · refine V_aload_n 0 rfl rfl dX10_lastOf_9 ?_
    refine X_getR (c := 0) (k := 15) fa_X10_315 rfl dX10_lastOf_10 hw (fun v1 hw => ?_)
    refine V_ifnull (tgt := 27) dX10_lastOf_13 (by decide) hw (fun hw => ?_) (fun hw => ?_)
    · exact V.sub [0] rfl (s_X10_lastOf_27 hw)
    · refine V_aload_n 0 rfl rfl dX10_lastOf_16 ?_
      refine X_getR (c := 0) (k := 15) fa_X10_315 rfl dX10_lastOf_17 hw (fun v2 hw => ?_)
      refine V_astore_n (i := 1) [(1, va_rf v2), (2, .int l2)] rfl (by decide) rfl dX10_lastOf_20 ?_
      refine V_iincL (n := 1) 1 (fun z => [(2, .int z), (1, va_rf v2)]) rfl (by rfl) (by decide) (fun _ => (by simp [List.filter_cons, rf_cat, cat_i, cat_l])) dX10_lastOf_21 hw (fun x3 hw => ?_)
      refine V_goto (tgt := 4) dX10_lastOf_24 (by decide) ?_
      exact V.sub [1, 0] rfl (hK4 _ _ _ hw)
theorem s_X10_lastOf_4 {l : Launch} {G : Gh} {l1 : Option Nat} {l2 : Int32} {h : Hp} {Q : Option Nat → Hp → Prop}  (hw : l_X10_lastOf_4 l1 l2 h Q) : V l G 1 yX10_lastOf cX10_lastOf 3 (some (.object "ComplaintBooks$Ask")) 4 [(1, va_rf l1), (2, .int l2)] [] h (qR Q) :=
  Lo.ind (P := fun (s : Option Nat × Int32) h => V l G 1 yX10_lastOf cX10_lastOf 3 (some (.object "ComplaintBooks$Ask")) 4 [(1, va_rf s.1), (2, .int s.2)] [] h (qR Q)) (fun K ih s h hw => sb_X10_lastOf_4 (fun l1 l2 h hk => ih (l1, l2) h hk) hw) hw
theorem s_X10_lastOf_0 {l : Launch} {G : Gh} {l0 : Option Nat} {h : Hp} {Q : Option Nat → Hp → Prop}  (hw : n_X10_lastOf_0 l0 h Q) : V l G 1 yX10_lastOf cX10_lastOf 3 (some (.object "ComplaintBooks$Ask")) 0 [(0, va_rf l0)] [] h (qR Q) := by
  unfold n_X10_lastOf_0 at hw
  refine V_aload_n 0 rfl rfl dX10_lastOf_0 ?_
  refine V_astore_n (i := 1) [(1, va_rf l0), (0, va_rf l0)] rfl (by decide) (by simp [List.filter_cons, rf_cat, cat_i, cat_l]) dX10_lastOf_1 ?_
  refine V_iconst (v := 0) (by decide) dX10_lastOf_2 ?_
  refine V_istore_n (i := 2) [(2, .int 0), (1, va_rf l0), (0, va_rf l0)] rfl (by decide) (by simp [List.filter_cons, rf_cat, cat_i, cat_l]) dX10_lastOf_3 ?_
  exact V.sub [1, 0] rfl (s_X10_lastOf_4 hw)
theorem r_X10_lastOf {l : Launch} {G : Gh} (l0 : Option Nat) {h : Hp} {Q : Option Nat → Hp → Prop} (hw : w_X10_lastOf l0 h Q) : RunQ l G 1 yX10_lastOf cX10_lastOf 3 (some (.object "ComplaintBooks$Ask")) [va_rf l0] h (qR Q) :=
  V_run rfl (sl_len _ _ (by simp [cat_i, cat_l, rf_cat])) (V.sub [0] (by simp only [la_r, la_i, la_l, la_n]; rfl) (s_X10_lastOf_0 hw))
def n_X10_end_21 (s0 : Int32) (h : Hp) (Q : Int32 → Hp → Prop) : Prop :=
  Q s0 h
def n_X10_end_0 (l0 : Option Nat) (l1 : Int32) (h : Hp) (Q : Int32 → Hp → Prop) : Prop :=
  oV h l0 11 <| w_X10_askAt l0 l1 h <| fun v1 h =>
  br (v1 = none) (
    n_X10_end_21 (-1) h Q) (
    w_X10_lastOf v1 h <| fun v2 h =>
    gI h v2 1 0 fun v3 =>
    n_X10_end_21 v3 h Q)
def w_X10_end (l0 : Option Nat) (l1 : Int32) (h : Hp) (Q : Int32 → Hp → Prop) : Prop := n_X10_end_0 l0 l1 h Q
theorem s_X10_end_21 {l : Launch} {G : Gh} {s0 : Int32} {h : Hp} {Q : Int32 → Hp → Prop}  (hw : n_X10_end_21 s0 h Q) : V l G 3 yX10_end cX10_end 3 (some .int) 21 [] [.int s0] h (qI Q) := by
  unfold n_X10_end_21 at hw
  exact V_iret rfl dX10_end_21 ⟨_, rfl, hw⟩
theorem s_X10_end_0 {l : Launch} {G : Gh} {l0 : Option Nat} {l1 : Int32} {h : Hp} {Q : Int32 → Hp → Prop}  (hw : n_X10_end_0 l0 l1 h Q) : V l G 3 yX10_end cX10_end 3 (some .int) 0 [(0, va_rf l0), (1, .int l1)] [] h (qI Q) := by
  unfold n_X10_end_0 at hw
  refine V_aload_n 0 rfl rfl dX10_end_0 ?_
  refine V_iload_n 1 rfl rfl dX10_end_1 ?_
  refine X_cV 10 [.int l1] [] ma_X10_196 (by decide) rfl (by decide) (by decide) rfl (by simp [cat_i, cat_l, rf_cat]) rfl dX10_end_2 hw (r_X10_askAt _ _) (k_R (fun v1 h hw => ?_))
  refine V_astore_n (i := 2) [(2, va_rf v1), (0, va_rf l0), (1, .int l1)] rfl (by decide) rfl dX10_end_5 ?_
  refine V_aload_n 0 rfl rfl dX10_end_6 ?_
  refine V_ifnonnull (tgt := 14) dX10_end_7 (by decide) hw (fun hw => ?_) (fun hw => ?_)
  · refine V_iconst (v := (-1)) (by decide) dX10_end_10 ?_
    refine V_goto (tgt := 21) dX10_end_11 (by decide) ?_
    exact V.sub [] rfl (s_X10_end_21 hw)
  · refine V_aload_n 0 rfl rfl dX10_end_14 ?_
    refine X_cS [va_rf v1] [] ma_X10_328 (by decide) (by decide) rfl (by simp [cat_i, cat_l, rf_cat]) rfl dX10_end_15 (r_X10_lastOf _ hw) (k_R (fun v2 h hw => ?_))
    refine X_getI (c := 0) (k := 0) fa_X10_204 rfl dX10_end_18 hw (fun v3 hw => ?_)
    exact V.sub [] rfl (s_X10_end_21 hw)
theorem r_X10_end {l : Launch} {G : Gh} (l0 : Option Nat) (l1 : Int32) {h : Hp} {Q : Int32 → Hp → Prop} (hw : w_X10_end l0 l1 h Q) : RunQ l G 3 yX10_end cX10_end 3 (some .int) [va_rf l0, .int l1] h (qI Q) :=
  V_run rfl (sl_len _ _ (by simp [cat_i, cat_l, rf_cat])) (V.sub [0, 1] (by simp only [la_r, la_i, la_l, la_n]; rfl) (s_X10_end_0 hw))
def n_X10_enter_0 (l0 : Option Nat) (l1 : Option Nat) (h : Hp) (Q : Int32 → Hp → Prop) : Prop :=
  gR h l0 11 1282 fun v1 =>
  gI h l0 11 1293 fun v2 =>
  stR h v1 v2 l1 fun h =>
  gI h l0 11 1293 fun v3 =>
  pI h l0 11 1293 (v3 + 1) fun h =>
  gI h l1 1 0 fun v4 =>
  Q v4 h
def w_X10_enter (l0 : Option Nat) (l1 : Option Nat) (h : Hp) (Q : Int32 → Hp → Prop) : Prop := n_X10_enter_0 l0 l1 h Q
theorem s_X10_enter_0 {l : Launch} {G : Gh} {l0 : Option Nat} {l1 : Option Nat} {h : Hp} {Q : Int32 → Hp → Prop}  (hw : n_X10_enter_0 l0 l1 h Q) : V l G 1 yX10_enter cX10_enter 2 (some .int) 0 [(0, va_rf l0), (1, va_rf l1)] [] h (qI Q) := by
  unfold n_X10_enter_0 at hw
  refine V_aload_n 0 rfl rfl dX10_enter_0 ?_
  refine X_getR (c := 10) (k := 2) fa_X10_23 rfl dX10_enter_1 hw (fun v1 hw => ?_)
  refine V_aload_n 0 rfl rfl dX10_enter_4 ?_
  refine X_getI (c := 10) (k := 13) fa_X10_249 rfl dX10_enter_5 hw (fun v2 hw => ?_)
  refine V_aload_n 1 rfl rfl dX10_enter_8 ?_
  refine X_stR dX10_enter_9 hw (fun h hw => ?_)
  refine V_aload_n 0 rfl rfl dX10_enter_10 ?_
  refine V_dup (rf_cat _) dX10_enter_11 ?_
  refine X_getI (c := 10) (k := 13) fa_X10_249 rfl dX10_enter_12 hw (fun v3 hw => ?_)
  refine V_iconst (v := 1) (by decide) dX10_enter_15 ?_
  refine V_iadd dX10_enter_16 ?_
  refine X_putI (c := 10) (k := 13) fa_X10_249 (Or.inl rfl) rfl dX10_enter_17 hw (fun h hw => ?_)
  refine V_aload_n 1 rfl rfl dX10_enter_20 ?_
  refine X_getI (c := 0) (k := 0) fa_X10_204 rfl dX10_enter_21 hw (fun v4 hw => ?_)
  exact V_iret rfl dX10_enter_24 ⟨_, rfl, hw⟩
theorem r_X10_enter {l : Launch} {G : Gh} (l0 : Option Nat) (l1 : Option Nat) {h : Hp} {Q : Int32 → Hp → Prop} (hw : w_X10_enter l0 l1 h Q) : RunQ l G 1 yX10_enter cX10_enter 2 (some .int) [va_rf l0, va_rf l1] h (qI Q) :=
  V_run rfl (sl_len _ _ (by simp [cat_i, cat_l, rf_cat])) (V.sub [0, 1] (by simp only [la_r, la_i, la_l, la_n]; rfl) (s_X10_enter_0 hw))
def n_X10_fault_0 (l0 : Option Nat) (h : Hp) (Q : Int32 → Hp → Prop) : Prop :=
  gI h l0 11 1298 fun v1 =>
  Q v1 h
def w_X10_fault (l0 : Option Nat) (h : Hp) (Q : Int32 → Hp → Prop) : Prop := n_X10_fault_0 l0 h Q
theorem s_X10_fault_0 {l : Launch} {G : Gh} {l0 : Option Nat} {h : Hp} {Q : Int32 → Hp → Prop}  (hw : n_X10_fault_0 l0 h Q) : V l G 1 yX10_fault cX10_fault 1 (some .int) 0 [(0, va_rf l0)] [] h (qI Q) := by
  unfold n_X10_fault_0 at hw
  refine V_aload_n 0 rfl rfl dX10_fault_0 ?_
  refine X_getI (c := 10) (k := 18) fa_X10_80 rfl dX10_fault_1 hw (fun v1 hw => ?_)
  exact V_iret rfl dX10_fault_4 ⟨_, rfl, hw⟩
theorem r_X10_fault {l : Launch} {G : Gh} (l0 : Option Nat) {h : Hp} {Q : Int32 → Hp → Prop} (hw : w_X10_fault l0 h Q) : RunQ l G 1 yX10_fault cX10_fault 1 (some .int) [va_rf l0] h (qI Q) :=
  V_run rfl (sl_len _ _ (by simp [cat_i, cat_l, rf_cat])) (V.sub [0] (by simp only [la_r, la_i, la_l, la_n]; rfl) (s_X10_fault_0 hw))
def n_X10_ruleInForce_90 (l0 : Option Nat) (l1 : Int32) (l2 : Int32) (l3 : Option Nat) (l4 : Int32) (h : Hp) (Q : Option Nat → Hp → Prop) (K5 : Option Nat → Int32 → Hp → Prop) : Prop :=
  lt (l4 + 1) fun x7 =>
  K5 l3 x7 h
def n_X10_ruleInForce_87 (l0 : Option Nat) (l1 : Int32) (l2 : Int32) (l4 : Int32) (l5 : Option Nat) (h : Hp) (Q : Option Nat → Hp → Prop) (K5 : Option Nat → Int32 → Hp → Prop) : Prop :=
  n_X10_ruleInForce_90 l0 l1 l2 l5 l4 h Q K5
def n_X10_ruleInForce_46 (l0 : Option Nat) (l1 : Int32) (l2 : Int32) (l3 : Option Nat) (l4 : Int32) (l5 : Option Nat) (s0 : Int32) (h : Hp) (Q : Option Nat → Hp → Prop) (K5 : Option Nat → Int32 → Hp → Prop) : Prop :=
  gI h l5 8 897 fun v5 =>
  br (v5 = l1) (
    gI h l5 8 898 fun v6 =>
    br (l2 < v6) (
      n_X10_ruleInForce_90 l0 l1 l2 l3 l4 h Q K5) (
      br (s0 = 0) (
        br (l3 = none) (
          n_X10_ruleInForce_87 l0 l1 l2 l4 l5 h Q K5) (
          gI h l5 8 898 fun v8 =>
          gI h l3 8 898 fun v9 =>
          br (v8 < v9) (
            n_X10_ruleInForce_90 l0 l1 l2 l3 l4 h Q K5) (
            n_X10_ruleInForce_87 l0 l1 l2 l4 l5 h Q K5))) (
        n_X10_ruleInForce_90 l0 l1 l2 l3 l4 h Q K5))) (
    n_X10_ruleInForce_90 l0 l1 l2 l3 l4 h Q K5)
def n_X10_ruleInForce_45 (l0 : Option Nat) (l1 : Int32) (l2 : Int32) (l3 : Option Nat) (l4 : Int32) (l5 : Option Nat) (h : Hp) (Q : Option Nat → Hp → Prop) (K5 : Option Nat → Int32 → Hp → Prop) : Prop :=
  n_X10_ruleInForce_46 l0 l1 l2 l3 l4 l5 0 h Q K5
def b_X10_ruleInForce_5 (l0 : Option Nat) (l1 : Int32) (l2 : Int32) (l3 : Option Nat) (l4 : Int32) (h : Hp) (Q : Option Nat → Hp → Prop) (K5 : Option Nat → Int32 → Hp → Prop) : Prop :=
  gI h l0 11 1295 fun v1 =>
  br (v1 ≤ l4) (
    Q l3 h) (
    gR h l0 11 1284 fun v2 =>
    ldR h v2 l4 fun v3 =>
    gI h v3 8 900 fun v4 =>
    br (v4 = (-1)) (
      n_X10_ruleInForce_45 l0 l1 l2 l3 l4 v3 h Q K5) (
      gI h v3 8 900 fun v10 =>
      br (l2 < v10) (
        n_X10_ruleInForce_45 l0 l1 l2 l3 l4 v3 h Q K5) (
        n_X10_ruleInForce_46 l0 l1 l2 l3 l4 v3 1 h Q K5)))
def l_X10_ruleInForce_5 (l0 : Option Nat) (l1 : Int32) (l2 : Int32) (l3 : Option Nat) (l4 : Int32) (h : Hp) (Q : Option Nat → Hp → Prop) : Prop :=
  Lo (fun (K : Option Nat × Int32 → Hp → Prop) s h => b_X10_ruleInForce_5 l0 l1 l2 s.1 s.2 h Q (fun l3 l4 h => K (l3, l4) h)) (l3, l4) h
def n_X10_ruleInForce_0 (l0 : Option Nat) (l1 : Int32) (l2 : Int32) (h : Hp) (Q : Option Nat → Hp → Prop) : Prop :=
  l_X10_ruleInForce_5 l0 l1 l2 none 0 h Q
def w_X10_ruleInForce (l0 : Option Nat) (l1 : Int32) (l2 : Int32) (h : Hp) (Q : Option Nat → Hp → Prop) : Prop := n_X10_ruleInForce_0 l0 l1 l2 h Q
theorem s_X10_ruleInForce_90 {l : Launch} {G : Gh} {l0 : Option Nat} {l1 : Int32} {l2 : Int32} {l3 : Option Nat} {l4 : Int32} {h : Hp} {Q : Option Nat → Hp → Prop} {K5 : Option Nat → Int32 → Hp → Prop} (hK5 : ∀ (l3 : Option Nat) (l4 : Int32) (h : Hp), K5 l3 l4 h → V l G 1 yX10_ruleInForce cX10_ruleInForce 7 (some (.object "ComplaintBooks$Rule")) 5 [(0, va_rf l0), (1, .int l1), (2, .int l2), (3, va_rf l3), (4, .int l4)] [] h (qR Q)) (hw : n_X10_ruleInForce_90 l0 l1 l2 l3 l4 h Q K5) : V l G 1 yX10_ruleInForce cX10_ruleInForce 7 (some (.object "ComplaintBooks$Rule")) 90 [(0, va_rf l0), (1, .int l1), (2, .int l2), (3, va_rf l3), (4, .int l4)] [] h (qR Q) := by
  unfold n_X10_ruleInForce_90 at hw
  refine V_iincL (n := 1) 4 (fun z => [(4, .int z), (0, va_rf l0), (1, .int l1), (2, .int l2), (3, va_rf l3)]) rfl (by rfl) (by decide) (fun _ => (by simp [List.filter_cons, rf_cat, cat_i, cat_l])) dX10_ruleInForce_90 hw (fun x7 hw => ?_)
  refine V_goto (tgt := 5) dX10_ruleInForce_93 (by decide) ?_
  exact V.sub [1, 2, 3, 4, 0] rfl (hK5 _ _ _ hw)
theorem s_X10_ruleInForce_87 {l : Launch} {G : Gh} {l0 : Option Nat} {l1 : Int32} {l2 : Int32} {l4 : Int32} {l5 : Option Nat} {h : Hp} {Q : Option Nat → Hp → Prop} {K5 : Option Nat → Int32 → Hp → Prop} (hK5 : ∀ (l3 : Option Nat) (l4 : Int32) (h : Hp), K5 l3 l4 h → V l G 1 yX10_ruleInForce cX10_ruleInForce 7 (some (.object "ComplaintBooks$Rule")) 5 [(0, va_rf l0), (1, .int l1), (2, .int l2), (3, va_rf l3), (4, .int l4)] [] h (qR Q)) (hw : n_X10_ruleInForce_87 l0 l1 l2 l4 l5 h Q K5) : V l G 1 yX10_ruleInForce cX10_ruleInForce 7 (some (.object "ComplaintBooks$Rule")) 87 [(0, va_rf l0), (1, .int l1), (2, .int l2), (4, .int l4), (5, va_rf l5)] [] h (qR Q) := by
  unfold n_X10_ruleInForce_87 at hw
  refine V_aload 4 rfl dX10_ruleInForce_87 ?_
  refine V_astore_n (i := 3) [(3, va_rf l5), (0, va_rf l0), (1, .int l1), (2, .int l2), (4, .int l4), (5, va_rf l5)] rfl (by decide) rfl dX10_ruleInForce_89 ?_
  exact V.sub [1, 2, 3, 0, 4] rfl (s_X10_ruleInForce_90 hK5 hw)
theorem s_X10_ruleInForce_46 {l : Launch} {G : Gh} {l0 : Option Nat} {l1 : Int32} {l2 : Int32} {l3 : Option Nat} {l4 : Int32} {l5 : Option Nat} {s0 : Int32} {h : Hp} {Q : Option Nat → Hp → Prop} {K5 : Option Nat → Int32 → Hp → Prop} (hK5 : ∀ (l3 : Option Nat) (l4 : Int32) (h : Hp), K5 l3 l4 h → V l G 1 yX10_ruleInForce cX10_ruleInForce 7 (some (.object "ComplaintBooks$Rule")) 5 [(0, va_rf l0), (1, .int l1), (2, .int l2), (3, va_rf l3), (4, .int l4)] [] h (qR Q)) (hw : n_X10_ruleInForce_46 l0 l1 l2 l3 l4 l5 s0 h Q K5) : V l G 1 yX10_ruleInForce cX10_ruleInForce 7 (some (.object "ComplaintBooks$Rule")) 46 [(0, va_rf l0), (1, .int l1), (2, .int l2), (3, va_rf l3), (4, .int l4), (5, va_rf l5)] [.int s0] h (qR Q) := by
  unfold n_X10_ruleInForce_46 at hw
  refine V_istore (i := 6) [(6, .int s0), (0, va_rf l0), (1, .int l1), (2, .int l2), (3, va_rf l3), (4, .int l4), (5, va_rf l5)] (by decide) (by simp [List.filter_cons, rf_cat, cat_i, cat_l]) dX10_ruleInForce_46 ?_
  refine V_aload 6 rfl dX10_ruleInForce_48 ?_
  refine X_getI (c := 7) (k := 1) fa_X10_384 rfl dX10_ruleInForce_50 hw (fun v5 hw => ?_)
  refine V_iload_n 2 rfl rfl dX10_ruleInForce_53 ?_
  refine V_icmp_ne (tgt := 90) dX10_ruleInForce_54 (by decide) hw (fun hw => ?_) (fun hw => ?_)
  · refine V_aload 6 rfl dX10_ruleInForce_57 ?_
    refine X_getI (c := 7) (k := 2) fa_X10_385 rfl dX10_ruleInForce_59 hw (fun v6 hw => ?_)
    refine V_iload_n 3 rfl rfl dX10_ruleInForce_62 ?_
    refine V_icmp_gt (tgt := 90) dX10_ruleInForce_63 (by decide) hw (fun hw => ?_) (fun hw => ?_)
    · exact V.sub [1, 2, 3, 4, 5] rfl (s_X10_ruleInForce_90 hK5 hw)
    · refine V_iload 0 rfl dX10_ruleInForce_66 ?_
      refine V_if_ne (tgt := 90) dX10_ruleInForce_68 (by decide) hw (fun hw => ?_) (fun hw => ?_)
      · refine V_aload_n 4 rfl rfl dX10_ruleInForce_71 ?_
        refine V_ifnull (tgt := 87) dX10_ruleInForce_72 (by decide) hw (fun hw => ?_) (fun hw => ?_)
        · exact V.sub [1, 2, 3, 5, 6] rfl (s_X10_ruleInForce_87 hK5 hw)
        · refine V_aload 6 rfl dX10_ruleInForce_75 ?_
          refine X_getI (c := 7) (k := 2) fa_X10_385 rfl dX10_ruleInForce_77 hw (fun v8 hw => ?_)
          refine V_aload_n 4 rfl rfl dX10_ruleInForce_80 ?_
          refine X_getI (c := 7) (k := 2) fa_X10_385 rfl dX10_ruleInForce_81 hw (fun v9 hw => ?_)
          refine V_icmp_lt (tgt := 90) dX10_ruleInForce_84 (by decide) hw (fun hw => ?_) (fun hw => ?_)
          · exact V.sub [1, 2, 3, 4, 5] rfl (s_X10_ruleInForce_90 hK5 hw)
          · exact V.sub [1, 2, 3, 5, 6] rfl (s_X10_ruleInForce_87 hK5 hw)
      · exact V.sub [1, 2, 3, 4, 5] rfl (s_X10_ruleInForce_90 hK5 hw)
  · exact V.sub [1, 2, 3, 4, 5] rfl (s_X10_ruleInForce_90 hK5 hw)
theorem s_X10_ruleInForce_45 {l : Launch} {G : Gh} {l0 : Option Nat} {l1 : Int32} {l2 : Int32} {l3 : Option Nat} {l4 : Int32} {l5 : Option Nat} {h : Hp} {Q : Option Nat → Hp → Prop} {K5 : Option Nat → Int32 → Hp → Prop} (hK5 : ∀ (l3 : Option Nat) (l4 : Int32) (h : Hp), K5 l3 l4 h → V l G 1 yX10_ruleInForce cX10_ruleInForce 7 (some (.object "ComplaintBooks$Rule")) 5 [(0, va_rf l0), (1, .int l1), (2, .int l2), (3, va_rf l3), (4, .int l4)] [] h (qR Q)) (hw : n_X10_ruleInForce_45 l0 l1 l2 l3 l4 l5 h Q K5) : V l G 1 yX10_ruleInForce cX10_ruleInForce 7 (some (.object "ComplaintBooks$Rule")) 45 [(0, va_rf l0), (1, .int l1), (2, .int l2), (3, va_rf l3), (4, .int l4), (5, va_rf l5)] [] h (qR Q) := by
  unfold n_X10_ruleInForce_45 at hw
  refine V_iconst (v := 0) (by decide) dX10_ruleInForce_45 ?_
  exact V.sub [0, 1, 2, 3, 4, 5] rfl (s_X10_ruleInForce_46 hK5 hw)
theorem sb_X10_ruleInForce_5 {l : Launch} {G : Gh} {l0 : Option Nat} {l1 : Int32} {l2 : Int32} {l3 : Option Nat} {l4 : Int32} {h : Hp} {Q : Option Nat → Hp → Prop} {K5 : Option Nat → Int32 → Hp → Prop} (hK5 : ∀ (l3 : Option Nat) (l4 : Int32) (h : Hp), K5 l3 l4 h → V l G 1 yX10_ruleInForce cX10_ruleInForce 7 (some (.object "ComplaintBooks$Rule")) 5 [(0, va_rf l0), (1, .int l1), (2, .int l2), (3, va_rf l3), (4, .int l4)] [] h (qR Q)) (hw : b_X10_ruleInForce_5 l0 l1 l2 l3 l4 h Q K5) : V l G 1 yX10_ruleInForce cX10_ruleInForce 7 (some (.object "ComplaintBooks$Rule")) 5 [(0, va_rf l0), (1, .int l1), (2, .int l2), (3, va_rf l3), (4, .int l4)] [] h (qR Q) := by
  unfold b_X10_ruleInForce_5 at hw
  refine V_iload 4 rfl dX10_ruleInForce_5 ?_
  refine V_aload_n 0 rfl rfl dX10_ruleInForce_7 ?_
  refine X_getI (c := 10) (k := 15) fa_X10_346 rfl dX10_ruleInForce_8 hw (fun v1 hw => ?_)
  refine V_icmp_ge (tgt := 96) dX10_ruleInForce_11 (by decide) hw (fun hw => ?_) (fun hw => ?_)
  · refine V_aload_n 3 rfl rfl dX10_ruleInForce_96 ?_
    exact V_aret rfl (Or.inl ⟨_, rfl⟩) dX10_ruleInForce_97 ⟨_, rfl, hw⟩
  · refine V_aload_n 0 rfl rfl dX10_ruleInForce_14 ?_
    refine X_getR (c := 10) (k := 4) fa_X10_35 rfl dX10_ruleInForce_15 hw (fun v2 hw => ?_)
    refine V_iload 4 rfl dX10_ruleInForce_18 ?_
    refine X_ldR dX10_ruleInForce_20 hw (fun v3 hw => ?_)
    refine V_astore (i := 5) [(5, va_rf v3), (0, va_rf l0), (1, .int l1), (2, .int l2), (3, va_rf l3), (4, .int l4)] (by decide) rfl dX10_ruleInForce_21 ?_
    refine V_aload 0 rfl dX10_ruleInForce_23 ?_
    refine X_getI (c := 7) (k := 4) fa_X10_352 rfl dX10_ruleInForce_25 hw (fun v4 hw => ?_)
    refine V_iconst (v := (-1)) (by decide) dX10_ruleInForce_28 ?_
    refine V_icmp_eq (tgt := 45) dX10_ruleInForce_29 (by decide) hw (fun hw => ?_) (fun hw => ?_)
    · exact V.sub [1, 2, 3, 4, 5, 0] rfl (s_X10_ruleInForce_45 hK5 hw)
    · refine V_aload 0 rfl dX10_ruleInForce_32 ?_
      refine X_getI (c := 7) (k := 4) fa_X10_352 rfl dX10_ruleInForce_34 hw (fun v10 hw => ?_)
      refine V_iload_n 3 rfl rfl dX10_ruleInForce_37 ?_
      refine V_icmp_gt (tgt := 45) dX10_ruleInForce_38 (by decide) hw (fun hw => ?_) (fun hw => ?_)
      · exact V.sub [1, 2, 3, 4, 5, 0] rfl (s_X10_ruleInForce_45 hK5 hw)
      · refine V_iconst (v := 1) (by decide) dX10_ruleInForce_41 ?_
        refine V_goto (tgt := 46) dX10_ruleInForce_42 (by decide) ?_
        exact V.sub [1, 2, 3, 4, 5, 0] rfl (s_X10_ruleInForce_46 hK5 hw)
theorem s_X10_ruleInForce_5 {l : Launch} {G : Gh} {l0 : Option Nat} {l1 : Int32} {l2 : Int32} {l3 : Option Nat} {l4 : Int32} {h : Hp} {Q : Option Nat → Hp → Prop}  (hw : l_X10_ruleInForce_5 l0 l1 l2 l3 l4 h Q) : V l G 1 yX10_ruleInForce cX10_ruleInForce 7 (some (.object "ComplaintBooks$Rule")) 5 [(0, va_rf l0), (1, .int l1), (2, .int l2), (3, va_rf l3), (4, .int l4)] [] h (qR Q) :=
  Lo.ind (P := fun (s : Option Nat × Int32) h => V l G 1 yX10_ruleInForce cX10_ruleInForce 7 (some (.object "ComplaintBooks$Rule")) 5 [(0, va_rf l0), (1, .int l1), (2, .int l2), (3, va_rf s.1), (4, .int s.2)] [] h (qR Q)) (fun K ih s h hw => sb_X10_ruleInForce_5 (fun l3 l4 h hk => ih (l3, l4) h hk) hw) hw
theorem s_X10_ruleInForce_0 {l : Launch} {G : Gh} {l0 : Option Nat} {l1 : Int32} {l2 : Int32} {h : Hp} {Q : Option Nat → Hp → Prop}  (hw : n_X10_ruleInForce_0 l0 l1 l2 h Q) : V l G 1 yX10_ruleInForce cX10_ruleInForce 7 (some (.object "ComplaintBooks$Rule")) 0 [(0, va_rf l0), (1, .int l1), (2, .int l2)] [] h (qR Q) := by
  unfold n_X10_ruleInForce_0 at hw
  refine V_null dX10_ruleInForce_0 ?_
  refine V_astore_n (i := 3) [(3, va_rf none), (0, va_rf l0), (1, .int l1), (2, .int l2)] rfl (by decide) rfl dX10_ruleInForce_1 ?_
  refine V_iconst (v := 0) (by decide) dX10_ruleInForce_2 ?_
  refine V_istore (i := 4) [(4, .int 0), (3, va_rf none), (0, va_rf l0), (1, .int l1), (2, .int l2)] (by decide) (by simp [List.filter_cons, rf_cat, cat_i, cat_l]) dX10_ruleInForce_3 ?_
  exact V.sub [2, 3, 4, 1, 0] rfl (s_X10_ruleInForce_5 hw)
theorem r_X10_ruleInForce {l : Launch} {G : Gh} (l0 : Option Nat) (l1 : Int32) (l2 : Int32) {h : Hp} {Q : Option Nat → Hp → Prop} (hw : w_X10_ruleInForce l0 l1 l2 h Q) : RunQ l G 1 yX10_ruleInForce cX10_ruleInForce 7 (some (.object "ComplaintBooks$Rule")) [va_rf l0, .int l1, .int l2] h (qR Q) :=
  V_run rfl (sl_len _ _ (by simp [cat_i, cat_l, rf_cat])) (V.sub [0, 1, 2] (by simp only [la_r, la_i, la_l, la_n]; rfl) (s_X10_ruleInForce_0 hw))
def n_X10_force_19 (s0 : Int32) (h : Hp) (Q : Int32 → Hp → Prop) : Prop :=
  Q s0 h
def n_X10_force_0 (l0 : Option Nat) (l1 : Int32) (l2 : Int32) (h : Hp) (Q : Int32 → Hp → Prop) : Prop :=
  oV h l0 11 <| w_X10_ruleInForce l0 l1 l2 h <| fun v1 h =>
  br (v1 = none) (
    n_X10_force_19 (-1) h Q) (
    gI h v1 8 896 fun v2 =>
    n_X10_force_19 v2 h Q)
def w_X10_force (l0 : Option Nat) (l1 : Int32) (l2 : Int32) (h : Hp) (Q : Int32 → Hp → Prop) : Prop := n_X10_force_0 l0 l1 l2 h Q
theorem s_X10_force_19 {l : Launch} {G : Gh} {s0 : Int32} {h : Hp} {Q : Int32 → Hp → Prop}  (hw : n_X10_force_19 s0 h Q) : V l G 2 yX10_force cX10_force 4 (some .int) 19 [] [.int s0] h (qI Q) := by
  unfold n_X10_force_19 at hw
  exact V_iret rfl dX10_force_19 ⟨_, rfl, hw⟩
theorem s_X10_force_0 {l : Launch} {G : Gh} {l0 : Option Nat} {l1 : Int32} {l2 : Int32} {h : Hp} {Q : Int32 → Hp → Prop}  (hw : n_X10_force_0 l0 l1 l2 h Q) : V l G 2 yX10_force cX10_force 4 (some .int) 0 [(0, va_rf l0), (1, .int l1), (2, .int l2)] [] h (qI Q) := by
  unfold n_X10_force_0 at hw
  refine V_aload_n 0 rfl rfl dX10_force_0 ?_
  refine V_iload_n 1 rfl rfl dX10_force_1 ?_
  refine V_iload_n 2 rfl rfl dX10_force_2 ?_
  refine X_cV 10 [.int l1, .int l2] [] ma_X10_355 (by decide) rfl (by decide) (by decide) rfl (by simp [cat_i, cat_l, rf_cat]) rfl dX10_force_3 hw (r_X10_ruleInForce _ _ _) (k_R (fun v1 h hw => ?_))
  refine V_astore_n (i := 3) [(3, va_rf v1), (0, va_rf l0), (1, .int l1), (2, .int l2)] rfl (by decide) rfl dX10_force_6 ?_
  refine V_aload_n 0 rfl rfl dX10_force_7 ?_
  refine V_ifnonnull (tgt := 15) dX10_force_8 (by decide) hw (fun hw => ?_) (fun hw => ?_)
  · refine V_iconst (v := (-1)) (by decide) dX10_force_11 ?_
    refine V_goto (tgt := 19) dX10_force_12 (by decide) ?_
    exact V.sub [] rfl (s_X10_force_19 hw)
  · refine V_aload_n 0 rfl rfl dX10_force_15 ?_
    refine X_getI (c := 7) (k := 0) fa_X10_359 rfl dX10_force_16 hw (fun v2 hw => ?_)
    exact V.sub [] rfl (s_X10_force_19 hw)
theorem r_X10_force {l : Launch} {G : Gh} (l0 : Option Nat) (l1 : Int32) (l2 : Int32) {h : Hp} {Q : Int32 → Hp → Prop} (hw : w_X10_force l0 l1 l2 h Q) : RunQ l G 2 yX10_force cX10_force 4 (some .int) [va_rf l0, .int l1, .int l2] h (qI Q) :=
  V_run rfl (sl_len _ _ (by simp [cat_i, cat_l, rf_cat])) (V.sub [0, 1, 2] (by simp only [la_r, la_i, la_l, la_n]; rfl) (s_X10_force_0 hw))
def n_X10_give_63 (l0 : Option Nat) (h : Hp) (Q : Int32 → Hp → Prop) : Prop :=
  oV h l0 11 <| w_X10_refuse l0 (-6) h <| fun v4 h =>
  Q v4 h
def n_X10_give_0 (l0 : Option Nat) (l1 : Int32) (h : Hp) (Q : Int32 → Hp → Prop) : Prop :=
  oV h l0 11 <| w_X10_askAt l0 l1 h <| fun v1 h =>
  br (v1 = none) (
    oV h l0 11 <| w_X10_refuse l0 (-1) h <| fun v2 h =>
    Q v2 h) (
    oV h v1 1 <| w_X0_isOf v1 2 h <| fun v3 h =>
    br (v3 = 0) (
      n_X10_give_63 l0 h Q) (
      gR h v1 1 1 fun v5 =>
      gI h v5 6 641 fun v6 =>
      br (v6 = 3) (
        n_X10_give_63 l0 h Q) (
        gR h v1 1 1 fun v7 =>
        gR h v7 6 650 fun v8 =>
        br (v8 = none) (
          n_X10_give_63 l0 h Q) (
          gI h v1 1 17 fun v9 =>
          br (v9 = 0) (
            gI h l0 11 1297 fun v10 =>
            oV h v1 1 <| w_X0_isBoundStill v1 v10 h <| fun v11 h =>
            br (v11 = 0) (
              pZ h v1 1 17 1 fun h =>
              gR h v1 1 1 fun v12 =>
              gR h v12 6 650 fun v13 =>
              gI h v13 5 512 fun v14 =>
              Q v14 h) (
              n_X10_give_63 l0 h Q)) (
            n_X10_give_63 l0 h Q)))))
def w_X10_give (l0 : Option Nat) (l1 : Int32) (h : Hp) (Q : Int32 → Hp → Prop) : Prop := n_X10_give_0 l0 l1 h Q
theorem s_X10_give_63 {l : Launch} {G : Gh} {l0 : Option Nat} {h : Hp} {Q : Int32 → Hp → Prop}  (hw : n_X10_give_63 l0 h Q) : V l G 3 yX10_give cX10_give 3 (some .int) 63 [(0, va_rf l0)] [] h (qI Q) := by
  unfold n_X10_give_63 at hw
  refine V_aload_n 0 rfl rfl dX10_give_63 ?_
  refine V_bipush (v := (-6)) (by decide) dX10_give_64 ?_
  refine X_cV 10 [.int (-6)] [] ma_X10_95 (by decide) rfl (by decide) (by decide) rfl (by simp [cat_i, cat_l, rf_cat]) rfl dX10_give_66 hw (r_X10_refuse _ _) (k_I (fun v4 h hw => ?_))
  exact V_iret rfl dX10_give_69 ⟨_, rfl, hw⟩
set_option maxRecDepth 20000 in
theorem s_X10_give_0 {l : Launch} {G : Gh} {l0 : Option Nat} {l1 : Int32} {h : Hp} {Q : Int32 → Hp → Prop}  (hw : n_X10_give_0 l0 l1 h Q) : V l G 3 yX10_give cX10_give 3 (some .int) 0 [(0, va_rf l0), (1, .int l1)] [] h (qI Q) := by
  unfold n_X10_give_0 at hw
  refine V_aload_n 0 rfl rfl dX10_give_0 ?_
  refine V_iload_n 1 rfl rfl dX10_give_1 ?_
  refine X_cV 10 [.int l1] [] ma_X10_196 (by decide) rfl (by decide) (by decide) rfl (by simp [cat_i, cat_l, rf_cat]) rfl dX10_give_2 hw (r_X10_askAt _ _) (k_R (fun v1 h hw => ?_))
  refine V_astore_n (i := 2) [(2, va_rf v1), (0, va_rf l0), (1, .int l1)] rfl (by decide) rfl dX10_give_5 ?_
  refine V_aload_n 0 rfl rfl dX10_give_6 ?_
  refine V_ifnonnull (tgt := 16) dX10_give_7 (by decide) hw (fun hw => ?_) (fun hw => ?_)
  · refine V_aload_n 1 rfl rfl dX10_give_10 ?_
    refine V_iconst (v := (-1)) (by decide) dX10_give_11 ?_
    refine X_cV 10 [.int (-1)] [] ma_X10_95 (by decide) rfl (by decide) (by decide) rfl (by simp [cat_i, cat_l, rf_cat]) rfl dX10_give_12 hw (r_X10_refuse _ _) (k_I (fun v2 h hw => ?_))
    exact V_iret rfl dX10_give_15 ⟨_, rfl, hw⟩
  · refine V_aload_n 0 rfl rfl dX10_give_16 ?_
    refine V_iconst (v := 2) (by decide) dX10_give_17 ?_
    refine X_cV 0 [.int 2] [] ma_X10_205 (by decide) rfl (by decide) (by decide) rfl (by simp [cat_i, cat_l, rf_cat]) rfl dX10_give_18 hw (r_X0_isOf _ _) (k_I (fun v3 h hw => ?_))
    refine V_if_eq (tgt := 63) dX10_give_21 (by decide) hw (fun hw => ?_) (fun hw => ?_)
    · exact V.sub [1] rfl (s_X10_give_63 hw)
    · refine V_aload_n 0 rfl rfl dX10_give_24 ?_
      refine X_getR (c := 0) (k := 1) fa_X10_255 rfl dX10_give_25 hw (fun v5 hw => ?_)
      refine X_getI (c := 5) (k := 1) fa_X10_103 rfl dX10_give_28 hw (fun v6 hw => ?_)
      refine V_iconst (v := 3) (by decide) dX10_give_31 ?_
      refine V_icmp_eq (tgt := 63) dX10_give_32 (by decide) hw (fun hw => ?_) (fun hw => ?_)
      · exact V.sub [1] rfl (s_X10_give_63 hw)
      · refine V_aload_n 0 rfl rfl dX10_give_35 ?_
        refine X_getR (c := 0) (k := 1) fa_X10_255 rfl dX10_give_36 hw (fun v7 hw => ?_)
        refine X_getR (c := 5) (k := 10) fa_X10_142 rfl dX10_give_39 hw (fun v8 hw => ?_)
        refine V_ifnull (tgt := 63) dX10_give_42 (by decide) hw (fun hw => ?_) (fun hw => ?_)
        · exact V.sub [1] rfl (s_X10_give_63 hw)
        · refine V_aload_n 0 rfl rfl dX10_give_45 ?_
          refine X_getI (c := 0) (k := 17) fa_X10_322 rfl dX10_give_46 hw (fun v9 hw => ?_)
          refine V_if_ne (tgt := 63) dX10_give_49 (by decide) hw (fun hw => ?_) (fun hw => ?_)
          · refine V_aload_n 0 rfl rfl dX10_give_52 ?_
            refine V_aload_n 1 rfl rfl dX10_give_53 ?_
            refine X_getI (c := 10) (k := 17) fa_X10_114 rfl dX10_give_54 hw (fun v10 hw => ?_)
            refine X_cV 0 [.int v10] [] ma_X10_466 (by decide) rfl (by decide) (by decide) rfl (by simp [cat_i, cat_l, rf_cat]) rfl dX10_give_57 hw (r_X0_isBoundStill _ _) (k_I (fun v11 h hw => ?_))
            refine V_if_eq (tgt := 70) dX10_give_60 (by decide) hw (fun hw => ?_) (fun hw => ?_)
            · refine V_aload_n 0 rfl rfl dX10_give_70 ?_
              refine V_iconst (v := 1) (by decide) dX10_give_71 ?_
              refine X_putZ (c := 0) (k := 17) fa_X10_322 (Or.inl rfl) rfl dX10_give_72 hw (fun h hw => ?_)
              refine V_aload_n 0 rfl rfl dX10_give_75 ?_
              refine X_getR (c := 0) (k := 1) fa_X10_255 rfl dX10_give_76 hw (fun v12 hw => ?_)
              refine X_getR (c := 5) (k := 10) fa_X10_142 rfl dX10_give_79 hw (fun v13 hw => ?_)
              refine X_getI (c := 4) (k := 0) fa_X10_146 rfl dX10_give_82 hw (fun v14 hw => ?_)
              exact V_iret rfl dX10_give_85 ⟨_, rfl, hw⟩
            · exact V.sub [1] rfl (s_X10_give_63 hw)
          · exact V.sub [1] rfl (s_X10_give_63 hw)
theorem r_X10_give {l : Launch} {G : Gh} (l0 : Option Nat) (l1 : Int32) {h : Hp} {Q : Int32 → Hp → Prop} (hw : w_X10_give l0 l1 h Q) : RunQ l G 3 yX10_give cX10_give 3 (some .int) [va_rf l0, .int l1] h (qI Q) :=
  V_run rfl (sl_len _ _ (by simp [cat_i, cat_l, rf_cat])) (V.sub [0, 1] (by simp only [la_r, la_i, la_l, la_n]; rfl) (s_X10_give_0 hw))
def n_X10_holds_46 (s0 : Int32) (h : Hp) (Q : Int32 → Hp → Prop) : Prop :=
  Q s0 h
def n_X10_holds_0 (l0 : Option Nat) (l1 : Int32) (h : Hp) (Q : Int32 → Hp → Prop) : Prop :=
  oV h l0 11 <| w_X10_shelfAt l0 l1 h <| fun v1 h =>
  br (v1 = none) (
    Q (-1) h) (
    gR h v1 10 1155 fun v2 =>
    br (v2 = none) (
      oV h v1 10 <| w_X9_hasRow v1 h <| fun v3 h =>
      br (v3 = 0) (
        n_X10_holds_46 (-1) h Q) (
        gI h v1 10 1153 fun v4 =>
        n_X10_holds_46 (1000 + v4) h Q)) (
      gR h v1 10 1155 fun v5 =>
      gI h v5 1 0 fun v6 =>
      Q v6 h))
def w_X10_holds (l0 : Option Nat) (l1 : Int32) (h : Hp) (Q : Int32 → Hp → Prop) : Prop := n_X10_holds_0 l0 l1 h Q
theorem s_X10_holds_46 {l : Launch} {G : Gh} {s0 : Int32} {h : Hp} {Q : Int32 → Hp → Prop}  (hw : n_X10_holds_46 s0 h Q) : V l G 3 yX10_holds cX10_holds 3 (some .int) 46 [] [.int s0] h (qI Q) := by
  unfold n_X10_holds_46 at hw
  exact V_iret rfl dX10_holds_46 ⟨_, rfl, hw⟩
theorem s_X10_holds_0 {l : Launch} {G : Gh} {l0 : Option Nat} {l1 : Int32} {h : Hp} {Q : Int32 → Hp → Prop}  (hw : n_X10_holds_0 l0 l1 h Q) : V l G 3 yX10_holds cX10_holds 3 (some .int) 0 [(0, va_rf l0), (1, .int l1)] [] h (qI Q) := by
  unfold n_X10_holds_0 at hw
  refine V_aload_n 0 rfl rfl dX10_holds_0 ?_
  refine V_iload_n 1 rfl rfl dX10_holds_1 ?_
  refine X_cV 10 [.int l1] [] ma_X10_156 (by decide) rfl (by decide) (by decide) rfl (by simp [cat_i, cat_l, rf_cat]) rfl dX10_holds_2 hw (r_X10_shelfAt _ _) (k_R (fun v1 h hw => ?_))
  refine V_astore_n (i := 2) [(2, va_rf v1), (0, va_rf l0), (1, .int l1)] rfl (by decide) rfl dX10_holds_5 ?_
  refine V_aload_n 0 rfl rfl dX10_holds_6 ?_
  refine V_ifnonnull (tgt := 12) dX10_holds_7 (by decide) hw (fun hw => ?_) (fun hw => ?_)
  · refine V_iconst (v := (-1)) (by decide) dX10_holds_10 ?_
    exact V_iret rfl dX10_holds_11 ⟨_, rfl, hw⟩
  · refine V_aload_n 0 rfl rfl dX10_holds_12 ?_
    refine X_getR (c := 9) (k := 3) fa_X10_182 rfl dX10_holds_13 hw (fun v2 hw => ?_)
    refine V_ifnull (tgt := 27) dX10_holds_16 (by decide) hw (fun hw => ?_) (fun hw => ?_)
    · refine V_aload_n 0 rfl rfl dX10_holds_27 ?_
      refine X_cV 9 [] [] ma_X10_186 (by decide) rfl (by decide) (by decide) rfl (by simp [cat_i, cat_l, rf_cat]) rfl dX10_holds_28 hw (r_X9_hasRow _) (k_I (fun v3 h hw => ?_))
      refine V_if_eq (tgt := 45) dX10_holds_31 (by decide) hw (fun hw => ?_) (fun hw => ?_)
      · refine V_iconst (v := (-1)) (by decide) dX10_holds_45 ?_
        exact V.sub [] rfl (s_X10_holds_46 hw)
      · refine V_sipush (v := 1000) (by decide) dX10_holds_34 ?_
        refine V_aload_n 0 rfl rfl dX10_holds_37 ?_
        refine X_getI (c := 9) (k := 1) fa_X10_175 rfl dX10_holds_38 hw (fun v4 hw => ?_)
        refine V_iadd dX10_holds_41 ?_
        refine V_goto (tgt := 46) dX10_holds_42 (by decide) ?_
        exact V.sub [] rfl (s_X10_holds_46 hw)
    · refine V_aload_n 0 rfl rfl dX10_holds_19 ?_
      refine X_getR (c := 9) (k := 3) fa_X10_182 rfl dX10_holds_20 hw (fun v5 hw => ?_)
      refine X_getI (c := 0) (k := 0) fa_X10_204 rfl dX10_holds_23 hw (fun v6 hw => ?_)
      exact V_iret rfl dX10_holds_26 ⟨_, rfl, hw⟩
theorem r_X10_holds {l : Launch} {G : Gh} (l0 : Option Nat) (l1 : Int32) {h : Hp} {Q : Int32 → Hp → Prop} (hw : w_X10_holds l0 l1 h Q) : RunQ l G 3 yX10_holds cX10_holds 3 (some .int) [va_rf l0, .int l1] h (qI Q) :=
  V_run rfl (sl_len _ _ (by simp [cat_i, cat_l, rf_cat])) (V.sub [0, 1] (by simp only [la_r, la_i, la_l, la_n]; rfl) (s_X10_holds_0 hw))
def n_X8_init_0 (l0 : Option Nat) (h : Hp) (Q : Hp → Prop) : Prop :=
  oN l0 <|
  nwA h 60 108 fun v1 h =>
  pR h l0 9 1024 v1 fun h =>
  lt 8 fun v2 =>
  nwA h v2 109 fun v3 h =>
  pR h l0 9 1025 v3 fun h =>
  pI h l0 9 1028 (-1) fun h =>
  Q h
def w_X8_init (l0 : Option Nat) (h : Hp) (Q : Hp → Prop) : Prop := n_X8_init_0 l0 h Q
theorem s_X8_init_0 {l : Launch} {G : Gh} {l0 : Option Nat} {h : Hp} {Q : Hp → Prop}  (hw : n_X8_init_0 l0 h Q) : V l G 9 yX8_init cX8_init 1 none 0 [(0, va_rf l0)] [] h (qV Q) := by
  unfold n_X8_init_0 at hw
  refine V_aload_n 0 rfl rfl dX8_init_0 ?_
  refine X_obj oi_X8_3 (by decide) (by simp [cat_i, cat_l, rf_cat]) dX8_init_1 hw (fun hw => ?_)
  refine V_aload_n 0 rfl rfl dX8_init_4 ?_
  refine V_bipush (v := 60) (by decide) dX8_init_5 ?_
  refine X_newI (k := 108) (by decide) dX8_init_7 hw (fun v1 h hw => ?_)
  refine X_putR (c := 8) (k := 0) fa_X8_9 (Or.inr ⟨rfl, rfl, rfl, po_X8_9⟩) (Or.inr ⟨_, rfl⟩) dX8_init_9 hw (fun h hw => ?_)
  refine V_aload_n 0 rfl rfl dX8_init_12 ?_
  refine V_ldcF rfl dX8_init_13 ?_
  refine X_strLen ma_X8_17 (by decide) (by simp [cat_i, cat_l, rf_cat]) dX8_init_15 hw (fun v2 hw => ?_)
  refine X_newI (k := 109) (by decide) dX8_init_18 hw (fun v3 h hw => ?_)
  refine X_putR (c := 8) (k := 1) fa_X8_23 (Or.inr ⟨rfl, rfl, rfl, po_X8_23⟩) (Or.inr ⟨_, rfl⟩) dX8_init_20 hw (fun h hw => ?_)
  refine V_aload_n 0 rfl rfl dX8_init_23 ?_
  refine V_iconst (v := (-1)) (by decide) dX8_init_24 ?_
  refine X_putI (c := 8) (k := 4) fa_X8_26 (Or.inl rfl) rfl dX8_init_25 hw (fun h hw => ?_)
  exact V_vret rfl dX8_init_28 ⟨rfl, hw⟩
theorem r_X8_init {l : Launch} {G : Gh} (l0 : Option Nat) {h : Hp} {Q : Hp → Prop} (hw : w_X8_init l0 h Q) : RunQ l G 9 yX8_init cX8_init 1 none [va_rf l0] h (qV Q) :=
  V_run rfl (sl_len _ _ (by simp [cat_i, cat_l, rf_cat])) (V.sub [0] (by simp only [la_r, la_i, la_l, la_n]; rfl) (s_X8_init_0 hw))
def n_X2_init_0 (l0 : Option Nat) (h : Hp) (Q : Hp → Prop) : Prop :=
  oN l0 <|
  nwA h 160 400 fun v1 h =>
  pR h l0 3 256 v1 fun h =>
  nwA h 161 102 fun v2 h =>
  pR h l0 3 257 v2 fun h =>
  nwA h 160 103 fun v3 h =>
  pR h l0 3 258 v3 fun h =>
  Q h
def w_X2_init (l0 : Option Nat) (h : Hp) (Q : Hp → Prop) : Prop := n_X2_init_0 l0 h Q
theorem s_X2_init_0 {l : Launch} {G : Gh} {l0 : Option Nat} {h : Hp} {Q : Hp → Prop}  (hw : n_X2_init_0 l0 h Q) : V l G 2 yX2_init cX2_init 1 none 0 [(0, va_rf l0)] [] h (qV Q) := by
  unfold n_X2_init_0 at hw
  refine V_aload_n 0 rfl rfl dX2_init_0 ?_
  refine X_obj oi_X2_3 (by decide) (by simp [cat_i, cat_l, rf_cat]) dX2_init_1 hw (fun hw => ?_)
  refine V_aload_n 0 rfl rfl dX2_init_4 ?_
  refine V_sipush (v := 160) (by decide) dX2_init_5 ?_
  refine X_newR (c := 0) (k := 400) nc_X2_9.2.1 (by decide) (by unfold rcOK; decide) dX2_init_8 hw (fun v1 h hw => ?_)
  refine X_putR (c := 2) (k := 0) fa_X2_11 (Or.inr ⟨rfl, rfl, rfl, po_X2_11⟩) (Or.inr ⟨_, rfl⟩) dX2_init_11 hw (fun h hw => ?_)
  refine V_aload_n 0 rfl rfl dX2_init_14 ?_
  refine V_sipush (v := 161) (by decide) dX2_init_15 ?_
  refine X_newI (k := 102) (by decide) dX2_init_18 hw (fun v2 h hw => ?_)
  refine X_putR (c := 2) (k := 1) fa_X2_17 (Or.inr ⟨rfl, rfl, rfl, po_X2_17⟩) (Or.inr ⟨_, rfl⟩) dX2_init_20 hw (fun h hw => ?_)
  refine V_aload_n 0 rfl rfl dX2_init_23 ?_
  refine V_sipush (v := 160) (by decide) dX2_init_24 ?_
  refine X_newI (k := 103) (by decide) dX2_init_27 hw (fun v3 h hw => ?_)
  refine X_putR (c := 2) (k := 2) fa_X2_21 (Or.inr ⟨rfl, rfl, rfl, po_X2_21⟩) (Or.inr ⟨_, rfl⟩) dX2_init_29 hw (fun h hw => ?_)
  exact V_vret rfl dX2_init_32 ⟨rfl, hw⟩
theorem r_X2_init {l : Launch} {G : Gh} (l0 : Option Nat) {h : Hp} {Q : Hp → Prop} (hw : w_X2_init l0 h Q) : RunQ l G 2 yX2_init cX2_init 1 none [va_rf l0] h (qV Q) :=
  V_run rfl (sl_len _ _ (by simp [cat_i, cat_l, rf_cat])) (V.sub [0] (by simp only [la_r, la_i, la_l, la_n]; rfl) (s_X2_init_0 hw))
def n_X6_init_0 (l0 : Option Nat) (h : Hp) (Q : Hp → Prop) : Prop :=
  oN l0 <|
  nwA h 16 105 fun v1 h =>
  pR h l0 7 768 v1 fun h =>
  nwA h 12 106 fun v2 h =>
  pR h l0 7 769 v2 fun h =>
  nwA h 12 107 fun v3 h =>
  pR h l0 7 770 v3 fun h =>
  Q h
def w_X6_init (l0 : Option Nat) (h : Hp) (Q : Hp → Prop) : Prop := n_X6_init_0 l0 h Q
theorem s_X6_init_0 {l : Launch} {G : Gh} {l0 : Option Nat} {h : Hp} {Q : Hp → Prop}  (hw : n_X6_init_0 l0 h Q) : V l G 2 yX6_init cX6_init 1 none 0 [(0, va_rf l0)] [] h (qV Q) := by
  unfold n_X6_init_0 at hw
  refine V_aload_n 0 rfl rfl dX6_init_0 ?_
  refine X_obj oi_X6_3 (by decide) (by simp [cat_i, cat_l, rf_cat]) dX6_init_1 hw (fun hw => ?_)
  refine V_aload_n 0 rfl rfl dX6_init_4 ?_
  refine V_bipush (v := 16) (by decide) dX6_init_5 ?_
  refine X_newI (k := 105) (by decide) dX6_init_7 hw (fun v1 h hw => ?_)
  refine X_putR (c := 6) (k := 0) fa_X6_9 (Or.inr ⟨rfl, rfl, rfl, po_X6_9⟩) (Or.inr ⟨_, rfl⟩) dX6_init_9 hw (fun h hw => ?_)
  refine V_aload_n 0 rfl rfl dX6_init_12 ?_
  refine V_bipush (v := 12) (by decide) dX6_init_13 ?_
  refine X_newI (k := 106) (by decide) dX6_init_15 hw (fun v2 h hw => ?_)
  refine X_putR (c := 6) (k := 1) fa_X6_15 (Or.inr ⟨rfl, rfl, rfl, po_X6_15⟩) (Or.inr ⟨_, rfl⟩) dX6_init_17 hw (fun h hw => ?_)
  refine V_aload_n 0 rfl rfl dX6_init_20 ?_
  refine V_bipush (v := 12) (by decide) dX6_init_21 ?_
  refine X_newI (k := 107) (by decide) dX6_init_23 hw (fun v3 h hw => ?_)
  refine X_putR (c := 6) (k := 2) fa_X6_18 (Or.inr ⟨rfl, rfl, rfl, po_X6_18⟩) (Or.inr ⟨_, rfl⟩) dX6_init_25 hw (fun h hw => ?_)
  exact V_vret rfl dX6_init_28 ⟨rfl, hw⟩
theorem r_X6_init {l : Launch} {G : Gh} (l0 : Option Nat) {h : Hp} {Q : Hp → Prop} (hw : w_X6_init l0 h Q) : RunQ l G 2 yX6_init cX6_init 1 none [va_rf l0] h (qV Q) :=
  V_run rfl (sl_len _ _ (by simp [cat_i, cat_l, rf_cat])) (V.sub [0] (by simp only [la_r, la_i, la_l, la_n]; rfl) (s_X6_init_0 hw))
def n_X1_init_0 (l0 : Option Nat) (h : Hp) (Q : Hp → Prop) : Prop :=
  oN l0 <|
  nwA h 10 100 fun v1 h =>
  pR h l0 2 128 v1 fun h =>
  nwA h 10 101 fun v2 h =>
  pR h l0 2 129 v2 fun h =>
  Q h
def w_X1_init (l0 : Option Nat) (h : Hp) (Q : Hp → Prop) : Prop := n_X1_init_0 l0 h Q
theorem s_X1_init_0 {l : Launch} {G : Gh} {l0 : Option Nat} {h : Hp} {Q : Hp → Prop}  (hw : n_X1_init_0 l0 h Q) : V l G 2 yX1_init cX1_init 1 none 0 [(0, va_rf l0)] [] h (qV Q) := by
  unfold n_X1_init_0 at hw
  refine V_aload_n 0 rfl rfl dX1_init_0 ?_
  refine X_obj oi_X1_3 (by decide) (by simp [cat_i, cat_l, rf_cat]) dX1_init_1 hw (fun hw => ?_)
  refine V_aload_n 0 rfl rfl dX1_init_4 ?_
  refine V_bipush (v := 10) (by decide) dX1_init_5 ?_
  refine X_newI (k := 100) (by decide) dX1_init_7 hw (fun v1 h hw => ?_)
  refine X_putR (c := 1) (k := 0) fa_X1_9 (Or.inr ⟨rfl, rfl, rfl, po_X1_9⟩) (Or.inr ⟨_, rfl⟩) dX1_init_9 hw (fun h hw => ?_)
  refine V_aload_n 0 rfl rfl dX1_init_12 ?_
  refine V_bipush (v := 10) (by decide) dX1_init_13 ?_
  refine X_newI (k := 101) (by decide) dX1_init_15 hw (fun v2 h hw => ?_)
  refine X_putR (c := 1) (k := 1) fa_X1_15 (Or.inr ⟨rfl, rfl, rfl, po_X1_15⟩) (Or.inr ⟨_, rfl⟩) dX1_init_17 hw (fun h hw => ?_)
  exact V_vret rfl dX1_init_20 ⟨rfl, hw⟩
theorem r_X1_init {l : Launch} {G : Gh} (l0 : Option Nat) {h : Hp} {Q : Hp → Prop} (hw : w_X1_init l0 h Q) : RunQ l G 2 yX1_init cX1_init 1 none [va_rf l0] h (qV Q) :=
  V_run rfl (sl_len _ _ (by simp [cat_i, cat_l, rf_cat])) (V.sub [0] (by simp only [la_r, la_i, la_l, la_n]; rfl) (s_X1_init_0 hw))
def n_X9_init_0 (l0 : Option Nat) (h : Hp) (Q : Hp → Prop) : Prop :=
  oN l0 <|
  nwA h 60 300 fun v1 h =>
  pR h l0 10 1152 v1 fun h =>
  pI h l0 10 1153 (-1) fun h =>
  Q h
def w_X9_init (l0 : Option Nat) (h : Hp) (Q : Hp → Prop) : Prop := n_X9_init_0 l0 h Q
theorem s_X9_init_0 {l : Launch} {G : Gh} {l0 : Option Nat} {h : Hp} {Q : Hp → Prop}  (hw : n_X9_init_0 l0 h Q) : V l G 2 yX9_init cX9_init 1 none 0 [(0, va_rf l0)] [] h (qV Q) := by
  unfold n_X9_init_0 at hw
  refine V_aload_n 0 rfl rfl dX9_init_0 ?_
  refine X_obj oi_X9_3 (by decide) (by simp [cat_i, cat_l, rf_cat]) dX9_init_1 hw (fun hw => ?_)
  refine V_aload_n 0 rfl rfl dX9_init_4 ?_
  refine V_bipush (v := 60) (by decide) dX9_init_5 ?_
  refine X_newL (k := 300) (by decide) dX9_init_7 hw (fun v1 h hw => ?_)
  refine X_putR (c := 9) (k := 0) fa_X9_9 (Or.inr ⟨rfl, rfl, rfl, po_X9_9⟩) (Or.inr ⟨_, rfl⟩) dX9_init_9 hw (fun h hw => ?_)
  refine V_aload_n 0 rfl rfl dX9_init_12 ?_
  refine V_iconst (v := (-1)) (by decide) dX9_init_13 ?_
  refine X_putI (c := 9) (k := 1) fa_X9_15 (Or.inl rfl) rfl dX9_init_14 hw (fun h hw => ?_)
  exact V_vret rfl dX9_init_17 ⟨rfl, hw⟩
theorem r_X9_init {l : Launch} {G : Gh} (l0 : Option Nat) {h : Hp} {Q : Hp → Prop} (hw : w_X9_init l0 h Q) : RunQ l G 2 yX9_init cX9_init 1 none [va_rf l0] h (qV Q) :=
  V_run rfl (sl_len _ _ (by simp [cat_i, cat_l, rf_cat])) (V.sub [0] (by simp only [la_r, la_i, la_l, la_n]; rfl) (s_X9_init_0 hw))
def n_X5_init_37 (l0 : Option Nat) (l2 : Option Nat) (l3 : Int32) (l4 : Int32) (l5 : Int32) (s0 : Int32) (s1 : Option Nat) (h : Hp) (Q : Hp → Prop) : Prop :=
  pI h s1 6 641 s0 fun h =>
  pR h l0 6 642 l2 fun h =>
  pI h l0 6 643 l3 fun h =>
  pI h l0 6 644 l4 fun h =>
  pI h l0 6 646 l5 fun h =>
  Q h
def n_X5_init_0 (l0 : Option Nat) (l1 : Int32) (l2 : Option Nat) (l3 : Int32) (l4 : Int32) (l5 : Int32) (h : Hp) (Q : Hp → Prop) : Prop :=
  oN l0 <|
  nwA h 16 104 fun v1 h =>
  pR h l0 6 645 v1 fun h =>
  pI h l0 6 649 (-1) fun h =>
  pI h l0 6 640 l1 fun h =>
  br (l2 = none) (
    n_X5_init_37 l0 l2 l3 l4 l5 3 l0 h Q) (
    gI h l2 6 641 fun v2 =>
    n_X5_init_37 l0 l2 l3 l4 l5 (v2 - 1) l0 h Q)
def w_X5_init (l0 : Option Nat) (l1 : Int32) (l2 : Option Nat) (l3 : Int32) (l4 : Int32) (l5 : Int32) (h : Hp) (Q : Hp → Prop) : Prop := n_X5_init_0 l0 l1 l2 l3 l4 l5 h Q
theorem s_X5_init_37 {l : Launch} {G : Gh} {l0 : Option Nat} {l2 : Option Nat} {l3 : Int32} {l4 : Int32} {l5 : Int32} {s0 : Int32} {s1 : Option Nat} {h : Hp} {Q : Hp → Prop}  (hw : n_X5_init_37 l0 l2 l3 l4 l5 s0 s1 h Q) : V l G 2 yX5_init cX5_init 6 none 37 [(0, va_rf l0), (2, va_rf l2), (3, .int l3), (4, .int l4), (5, .int l5)] [.int s0, va_rf s1] h (qV Q) := by
  unfold n_X5_init_37 at hw
  refine X_putI (c := 5) (k := 1) fa_X5_22 (Or.inr ⟨rfl, rfl, rfl, po_X5_22⟩) rfl dX5_init_37 hw (fun h hw => ?_)
  refine V_aload_n 0 rfl rfl dX5_init_40 ?_
  refine V_aload_n 1 rfl rfl dX5_init_41 ?_
  refine X_putR (c := 5) (k := 2) fa_X5_25 (Or.inr ⟨rfl, rfl, rfl, po_X5_25⟩) (Or.inl ⟨_, rfl⟩) dX5_init_42 hw (fun h hw => ?_)
  refine V_aload_n 0 rfl rfl dX5_init_45 ?_
  refine V_iload_n 2 rfl rfl dX5_init_46 ?_
  refine X_putI (c := 5) (k := 3) fa_X5_29 (Or.inr ⟨rfl, rfl, rfl, po_X5_29⟩) rfl dX5_init_47 hw (fun h hw => ?_)
  refine V_aload_n 0 rfl rfl dX5_init_50 ?_
  refine V_iload 3 rfl dX5_init_51 ?_
  refine X_putI (c := 5) (k := 4) fa_X5_32 (Or.inr ⟨rfl, rfl, rfl, po_X5_32⟩) rfl dX5_init_53 hw (fun h hw => ?_)
  refine V_aload_n 0 rfl rfl dX5_init_56 ?_
  refine V_iload 4 rfl dX5_init_57 ?_
  refine X_putI (c := 5) (k := 6) fa_X5_35 (Or.inl rfl) rfl dX5_init_59 hw (fun h hw => ?_)
  exact V_vret rfl dX5_init_62 ⟨rfl, hw⟩
theorem s_X5_init_0 {l : Launch} {G : Gh} {l0 : Option Nat} {l1 : Int32} {l2 : Option Nat} {l3 : Int32} {l4 : Int32} {l5 : Int32} {h : Hp} {Q : Hp → Prop}  (hw : n_X5_init_0 l0 l1 l2 l3 l4 l5 h Q) : V l G 2 yX5_init cX5_init 6 none 0 [(0, va_rf l0), (1, .int l1), (2, va_rf l2), (3, .int l3), (4, .int l4), (5, .int l5)] [] h (qV Q) := by
  unfold n_X5_init_0 at hw
  refine V_aload_n 0 rfl rfl dX5_init_0 ?_
  refine X_obj oi_X5_3 (by decide) (by simp [cat_i, cat_l, rf_cat]) dX5_init_1 hw (fun hw => ?_)
  refine V_aload_n 0 rfl rfl dX5_init_4 ?_
  refine V_bipush (v := 16) (by decide) dX5_init_5 ?_
  refine X_newI (k := 104) (by decide) dX5_init_7 hw (fun v1 h hw => ?_)
  refine X_putR (c := 5) (k := 5) fa_X5_9 (Or.inr ⟨rfl, rfl, rfl, po_X5_9⟩) (Or.inr ⟨_, rfl⟩) dX5_init_9 hw (fun h hw => ?_)
  refine V_aload_n 0 rfl rfl dX5_init_12 ?_
  refine V_iconst (v := (-1)) (by decide) dX5_init_13 ?_
  refine X_putI (c := 5) (k := 9) fa_X5_15 (Or.inl rfl) rfl dX5_init_14 hw (fun h hw => ?_)
  refine V_aload_n 0 rfl rfl dX5_init_17 ?_
  refine V_iload_n 1 rfl rfl dX5_init_18 ?_
  refine X_putI (c := 5) (k := 0) fa_X5_19 (Or.inr ⟨rfl, rfl, rfl, po_X5_19⟩) rfl dX5_init_19 hw (fun h hw => ?_)
  refine V_aload_n 0 rfl rfl dX5_init_22 ?_
  refine V_aload_n 2 rfl rfl dX5_init_23 ?_
  refine V_ifnonnull (tgt := 31) dX5_init_24 (by decide) hw (fun hw => ?_) (fun hw => ?_)
  · refine V_iconst (v := 3) (by decide) dX5_init_27 ?_
    refine V_goto (tgt := 37) dX5_init_28 (by decide) ?_
    exact V.sub [0, 2, 3, 4, 5] rfl (s_X5_init_37 hw)
  · refine V_aload_n 2 rfl rfl dX5_init_31 ?_
    refine X_getI (c := 5) (k := 1) fa_X5_22 rfl dX5_init_32 hw (fun v2 hw => ?_)
    refine V_iconst (v := 1) (by decide) dX5_init_35 ?_
    refine V_isub dX5_init_36 ?_
    exact V.sub [0, 2, 3, 4, 5] rfl (s_X5_init_37 hw)
theorem r_X5_init {l : Launch} {G : Gh} (l0 : Option Nat) (l1 : Int32) (l2 : Option Nat) (l3 : Int32) (l4 : Int32) (l5 : Int32) {h : Hp} {Q : Hp → Prop} (hw : w_X5_init l0 l1 l2 l3 l4 l5 h Q) : RunQ l G 2 yX5_init cX5_init 6 none [va_rf l0, .int l1, va_rf l2, .int l3, .int l4, .int l5] h (qV Q) :=
  V_run rfl (sl_len _ _ (by simp [cat_i, cat_l, rf_cat])) (V.sub [0, 1, 2, 3, 4, 5] (by simp only [la_r, la_i, la_l, la_n]; rfl) (s_X5_init_0 hw))
def b_X10_init_126 (l0 : Option Nat) (l1 : Int32) (h : Hp) (Q : Hp → Prop) (K126 : Int32 → Hp → Prop) : Prop :=
  br (8 ≤ l1) (
    gR h l0 11 1280 fun v17 =>
    nwO h 6 11 fun v18 h =>
    oN v18 <| w_X5_init v18 0 none 0 (-1) 0 h <| fun h =>
    stR h v17 0 v18 fun h =>
    pI h l0 11 1292 1 fun h =>
    Q h) (
    gR h l0 11 1281 fun v20 =>
    nwO h 10 4 fun v21 h =>
    oN v21 <| w_X9_init v21 h <| fun h =>
    stR h v20 l1 v21 fun h =>
    lt (l1 + 1) fun x23 =>
    K126 x23 h)
def l_X10_init_126 (l0 : Option Nat) (l1 : Int32) (h : Hp) (Q : Hp → Prop) : Prop :=
  Lo (fun (K : Int32 → Hp → Prop) s h => b_X10_init_126 l0 s h Q (fun l1 h => K (l1) h)) (l1) h
def n_X10_init_0 (l0 : Option Nat) (h : Hp) (Q : Hp → Prop) : Prop :=
  oN l0 <|
  nwA h 24 405 fun v1 h =>
  pR h l0 11 1280 v1 fun h =>
  nwA h 8 409 fun v2 h =>
  pR h l0 11 1281 v2 fun h =>
  nwA h 160 440 fun v3 h =>
  pR h l0 11 1282 v3 fun h =>
  nwA h 8 403 fun v4 h =>
  pR h l0 11 1283 v4 fun h =>
  nwA h 12 407 fun v5 h =>
  pR h l0 11 1284 v5 fun h =>
  nwA h 20 404 fun v6 h =>
  pR h l0 11 1285 v6 fun h =>
  nwA h 7 110 fun v7 h =>
  pR h l0 11 1286 v7 fun h =>
  nwA h 21 111 fun v8 h =>
  pR h l0 11 1287 v8 fun h =>
  nwO h 9 7 fun v9 h =>
  oN v9 <| w_X8_init v9 h <| fun h =>
  pR h l0 11 1288 v9 fun h =>
  nwO h 3 5 fun v11 h =>
  oN v11 <| w_X2_init v11 h <| fun h =>
  pR h l0 11 1289 v11 fun h =>
  nwO h 7 4 fun v13 h =>
  oN v13 <| w_X6_init v13 h <| fun h =>
  pR h l0 11 1290 v13 fun h =>
  nwO h 2 4 fun v15 h =>
  oN v15 <| w_X1_init v15 h <| fun h =>
  pR h l0 11 1291 v15 fun h =>
  pI h l0 11 1298 (-1) fun h =>
  l_X10_init_126 l0 0 h Q
def w_X10_init (l0 : Option Nat) (h : Hp) (Q : Hp → Prop) : Prop := n_X10_init_0 l0 h Q
theorem sb_X10_init_126 {l : Launch} {G : Gh} {l0 : Option Nat} {l1 : Int32} {h : Hp} {Q : Hp → Prop} {K126 : Int32 → Hp → Prop} (hK126 : ∀ (l1 : Int32) (h : Hp), K126 l1 h → V l G 10 yX10_init cX10_init 2 none 126 [(0, va_rf l0), (1, .int l1)] [] h (qV Q)) (hw : b_X10_init_126 l0 l1 h Q K126) : V l G 10 yX10_init cX10_init 2 none 126 [(0, va_rf l0), (1, .int l1)] [] h (qV Q) := by
  unfold b_X10_init_126 at hw
  refine V_iload_n 1 rfl rfl dX10_init_126 ?_
  refine V_bipush (v := 8) (by decide) dX10_init_127 ?_
  refine V_icmp_ge (tgt := 151) dX10_init_129 (by decide) hw (fun hw => ?_) (fun hw => ?_)
  · refine V_aload_n 0 rfl rfl dX10_init_151 ?_
    refine X_getR (c := 10) (k := 0) fa_X10_11 rfl dX10_init_152 hw (fun v17 hw => ?_)
    refine V_iconst (v := 0) (by decide) dX10_init_155 ?_
    refine X_newO (c := 5) nc_X10_9 dX10_init_156 hw (fun v18 h hw => ?_)
    refine V_dup (rf_cat _) dX10_init_159 ?_
    refine V_iconst (v := 0) (by decide) dX10_init_160 ?_
    refine V_null dX10_init_161 ?_
    refine V_iconst (v := 0) (by decide) dX10_init_162 ?_
    refine V_iconst (v := (-1)) (by decide) dX10_init_163 ?_
    refine V_iconst (v := 0) (by decide) dX10_init_164 ?_
    refine X_cI [.int 0, va_rf none, .int 0, .int (-1), .int 0] [va_rf v18, .int 0, va_rf v17] ma_X10_85 (by decide) (by decide) rfl (by simp [cat_i, cat_l, rf_cat]) rfl dX10_init_165 hw (r_X5_init _ _ _ _ _ _) (k_V (fun h hw => ?_))
    refine X_stR dX10_init_168 hw (fun h hw => ?_)
    refine V_aload_n 0 rfl rfl dX10_init_169 ?_
    refine V_iconst (v := 1) (by decide) dX10_init_170 ?_
    refine X_putI (c := 10) (k := 12) fa_X10_88 (Or.inl rfl) rfl dX10_init_171 hw (fun h hw => ?_)
    exact V_vret rfl dX10_init_174 ⟨rfl, hw⟩
  · refine V_aload_n 0 rfl rfl dX10_init_132 ?_
    refine X_getR (c := 10) (k := 1) fa_X10_17 rfl dX10_init_133 hw (fun v20 hw => ?_)
    refine V_iload_n 1 rfl rfl dX10_init_136 ?_
    refine X_newO (c := 9) nc_X10_15 dX10_init_137 hw (fun v21 h hw => ?_)
    refine V_dup (rf_cat _) dX10_init_140 ?_
    refine X_cI [] [va_rf v21, .int l1, va_rf v20] ma_X10_84 (by decide) (by decide) rfl (by simp [cat_i, cat_l, rf_cat]) rfl dX10_init_141 hw (r_X9_init _) (k_V (fun h hw => ?_))
    refine X_stR dX10_init_144 hw (fun h hw => ?_)
    refine V_iincL (n := 1) 1 (fun z => [(1, .int z), (0, va_rf l0)]) rfl (by rfl) (by decide) (fun _ => (by simp [List.filter_cons, rf_cat, cat_i, cat_l])) dX10_init_145 hw (fun x23 hw => ?_)
    refine V_goto (tgt := 126) dX10_init_148 (by decide) ?_
    exact V.sub [1, 0] rfl (hK126 _ _ hw)
theorem s_X10_init_126 {l : Launch} {G : Gh} {l0 : Option Nat} {l1 : Int32} {h : Hp} {Q : Hp → Prop}  (hw : l_X10_init_126 l0 l1 h Q) : V l G 10 yX10_init cX10_init 2 none 126 [(0, va_rf l0), (1, .int l1)] [] h (qV Q) :=
  Lo.ind (P := fun (s : Int32) h => V l G 10 yX10_init cX10_init 2 none 126 [(0, va_rf l0), (1, .int s)] [] h (qV Q)) (fun K ih s h hw => sb_X10_init_126 (fun l1 h hk => ih (l1) h hk) hw) hw
set_option maxRecDepth 20000 in
theorem s_X10_init_0 {l : Launch} {G : Gh} {l0 : Option Nat} {h : Hp} {Q : Hp → Prop}  (hw : n_X10_init_0 l0 h Q) : V l G 10 yX10_init cX10_init 2 none 0 [(0, va_rf l0)] [] h (qV Q) := by
  unfold n_X10_init_0 at hw
  refine V_aload_n 0 rfl rfl dX10_init_0 ?_
  refine X_obj oi_X10_1 (by decide) (by simp [cat_i, cat_l, rf_cat]) dX10_init_1 hw (fun hw => ?_)
  refine V_aload_n 0 rfl rfl dX10_init_4 ?_
  refine V_bipush (v := 24) (by decide) dX10_init_5 ?_
  refine X_newR (c := 5) (k := 405) nc_X10_9.2.1 (by decide) (by unfold rcOK; decide) dX10_init_7 hw (fun v1 h hw => ?_)
  refine X_putR (c := 10) (k := 0) fa_X10_11 (Or.inr ⟨rfl, rfl, rfl, po_X10_11⟩) (Or.inr ⟨_, rfl⟩) dX10_init_10 hw (fun h hw => ?_)
  refine V_aload_n 0 rfl rfl dX10_init_13 ?_
  refine V_bipush (v := 8) (by decide) dX10_init_14 ?_
  refine X_newR (c := 9) (k := 409) nc_X10_15.2.1 (by decide) (by unfold rcOK; decide) dX10_init_16 hw (fun v2 h hw => ?_)
  refine X_putR (c := 10) (k := 1) fa_X10_17 (Or.inr ⟨rfl, rfl, rfl, po_X10_17⟩) (Or.inr ⟨_, rfl⟩) dX10_init_19 hw (fun h hw => ?_)
  refine V_aload_n 0 rfl rfl dX10_init_22 ?_
  refine V_sipush (v := 160) (by decide) dX10_init_23 ?_
  refine X_newR (c := 0) (k := 440) nc_X10_21.2.1 (by decide) (by unfold rcOK; decide) dX10_init_26 hw (fun v3 h hw => ?_)
  refine X_putR (c := 10) (k := 2) fa_X10_23 (Or.inr ⟨rfl, rfl, rfl, po_X10_23⟩) (Or.inr ⟨_, rfl⟩) dX10_init_29 hw (fun h hw => ?_)
  refine V_aload_n 0 rfl rfl dX10_init_32 ?_
  refine V_bipush (v := 8) (by decide) dX10_init_33 ?_
  refine X_newR (c := 3) (k := 403) nc_X10_27.2.1 (by decide) (by unfold rcOK; decide) dX10_init_35 hw (fun v4 h hw => ?_)
  refine X_putR (c := 10) (k := 3) fa_X10_29 (Or.inr ⟨rfl, rfl, rfl, po_X10_29⟩) (Or.inr ⟨_, rfl⟩) dX10_init_38 hw (fun h hw => ?_)
  refine V_aload_n 0 rfl rfl dX10_init_41 ?_
  refine V_bipush (v := 12) (by decide) dX10_init_42 ?_
  refine X_newR (c := 7) (k := 407) nc_X10_33.2.1 (by decide) (by unfold rcOK; decide) dX10_init_44 hw (fun v5 h hw => ?_)
  refine X_putR (c := 10) (k := 4) fa_X10_35 (Or.inr ⟨rfl, rfl, rfl, po_X10_35⟩) (Or.inr ⟨_, rfl⟩) dX10_init_47 hw (fun h hw => ?_)
  refine V_aload_n 0 rfl rfl dX10_init_50 ?_
  refine V_bipush (v := 20) (by decide) dX10_init_51 ?_
  refine X_newR (c := 4) (k := 404) nc_X10_39.2.1 (by decide) (by unfold rcOK; decide) dX10_init_53 hw (fun v6 h hw => ?_)
  refine X_putR (c := 10) (k := 5) fa_X10_41 (Or.inr ⟨rfl, rfl, rfl, po_X10_41⟩) (Or.inr ⟨_, rfl⟩) dX10_init_56 hw (fun h hw => ?_)
  refine V_aload_n 0 rfl rfl dX10_init_59 ?_
  refine V_bipush (v := 7) (by decide) dX10_init_60 ?_
  refine X_newI (k := 110) (by decide) dX10_init_62 hw (fun v7 h hw => ?_)
  refine X_putR (c := 10) (k := 6) fa_X10_45 (Or.inr ⟨rfl, rfl, rfl, po_X10_45⟩) (Or.inr ⟨_, rfl⟩) dX10_init_64 hw (fun h hw => ?_)
  refine V_aload_n 0 rfl rfl dX10_init_67 ?_
  refine V_bipush (v := 21) (by decide) dX10_init_68 ?_
  refine X_newI (k := 111) (by decide) dX10_init_70 hw (fun v8 h hw => ?_)
  refine X_putR (c := 10) (k := 7) fa_X10_49 (Or.inr ⟨rfl, rfl, rfl, po_X10_49⟩) (Or.inr ⟨_, rfl⟩) dX10_init_72 hw (fun h hw => ?_)
  refine V_aload_n 0 rfl rfl dX10_init_75 ?_
  refine X_newO (c := 8) nc_X10_52 dX10_init_76 hw (fun v9 h hw => ?_)
  refine V_dup (rf_cat _) dX10_init_79 ?_
  refine X_cI [] [va_rf v9, va_rf l0] ma_X10_54 (by decide) (by decide) rfl (by simp [cat_i, cat_l, rf_cat]) rfl dX10_init_80 hw (r_X8_init _) (k_V (fun h hw => ?_))
  refine X_putR (c := 10) (k := 8) fa_X10_55 (Or.inr ⟨rfl, rfl, rfl, po_X10_55⟩) (Or.inl ⟨_, rfl⟩) dX10_init_83 hw (fun h hw => ?_)
  refine V_aload_n 0 rfl rfl dX10_init_86 ?_
  refine X_newO (c := 2) nc_X10_59 dX10_init_87 hw (fun v11 h hw => ?_)
  refine V_dup (rf_cat _) dX10_init_90 ?_
  refine X_cI [] [va_rf v11, va_rf l0] ma_X10_61 (by decide) (by decide) rfl (by simp [cat_i, cat_l, rf_cat]) rfl dX10_init_91 hw (r_X2_init _) (k_V (fun h hw => ?_))
  refine X_putR (c := 10) (k := 9) fa_X10_62 (Or.inr ⟨rfl, rfl, rfl, po_X10_62⟩) (Or.inl ⟨_, rfl⟩) dX10_init_94 hw (fun h hw => ?_)
  refine V_aload_n 0 rfl rfl dX10_init_97 ?_
  refine X_newO (c := 6) nc_X10_66 dX10_init_98 hw (fun v13 h hw => ?_)
  refine V_dup (rf_cat _) dX10_init_101 ?_
  refine X_cI [] [va_rf v13, va_rf l0] ma_X10_68 (by decide) (by decide) rfl (by simp [cat_i, cat_l, rf_cat]) rfl dX10_init_102 hw (r_X6_init _) (k_V (fun h hw => ?_))
  refine X_putR (c := 10) (k := 10) fa_X10_69 (Or.inr ⟨rfl, rfl, rfl, po_X10_69⟩) (Or.inl ⟨_, rfl⟩) dX10_init_105 hw (fun h hw => ?_)
  refine V_aload_n 0 rfl rfl dX10_init_108 ?_
  refine X_newO (c := 1) nc_X10_73 dX10_init_109 hw (fun v15 h hw => ?_)
  refine V_dup (rf_cat _) dX10_init_112 ?_
  refine X_cI [] [va_rf v15, va_rf l0] ma_X10_75 (by decide) (by decide) rfl (by simp [cat_i, cat_l, rf_cat]) rfl dX10_init_113 hw (r_X1_init _) (k_V (fun h hw => ?_))
  refine X_putR (c := 10) (k := 11) fa_X10_76 (Or.inr ⟨rfl, rfl, rfl, po_X10_76⟩) (Or.inl ⟨_, rfl⟩) dX10_init_116 hw (fun h hw => ?_)
  refine V_aload_n 0 rfl rfl dX10_init_119 ?_
  refine V_iconst (v := (-1)) (by decide) dX10_init_120 ?_
  refine X_putI (c := 10) (k := 18) fa_X10_80 (Or.inl rfl) rfl dX10_init_121 hw (fun h hw => ?_)
  refine V_iconst (v := 0) (by decide) dX10_init_124 ?_
  refine V_istore_n (i := 1) [(1, .int 0), (0, va_rf l0)] rfl (by decide) (by simp [List.filter_cons, rf_cat, cat_i, cat_l]) dX10_init_125 ?_
  exact V.sub [1, 0] rfl (s_X10_init_126 hw)
theorem r_X10_init {l : Launch} {G : Gh} (l0 : Option Nat) {h : Hp} {Q : Hp → Prop} (hw : w_X10_init l0 h Q) : RunQ l G 10 yX10_init cX10_init 2 none [va_rf l0] h (qV Q) :=
  V_run rfl (sl_len _ _ (by simp [cat_i, cat_l, rf_cat])) (V.sub [0] (by simp only [la_r, la_i, la_l, la_n]; rfl) (s_X10_init_0 hw))
def n_X10_standingIn_43 (l0 : Option Nat) (l1 : Option Nat) (l3 : Int32) (s0 : Int32) (s1 : Int32) (h : Hp) (Q : Int32 → Hp → Prop) (K4 : Int32 → Int32 → Hp → Prop) : Prop :=
  w_X10_bit s0 h <| fun v8 h =>
  lt (s1 + v8) fun x9 =>
  lt (l3 + 1) fun x10 =>
  K4 x9 x10 h
def n_X10_standingIn_42 (l0 : Option Nat) (l1 : Option Nat) (l3 : Int32) (s0 : Int32) (h : Hp) (Q : Int32 → Hp → Prop) (K4 : Int32 → Int32 → Hp → Prop) : Prop :=
  n_X10_standingIn_43 l0 l1 l3 0 s0 h Q K4
def b_X10_standingIn_4 (l0 : Option Nat) (l1 : Option Nat) (l2 : Int32) (l3 : Int32) (h : Hp) (Q : Int32 → Hp → Prop) (K4 : Int32 → Int32 → Hp → Prop) : Prop :=
  gI h l0 11 1293 fun v1 =>
  br (v1 ≤ l3) (
    Q l2 h) (
    gR h l0 11 1282 fun v2 =>
    ldR h v2 l3 fun v3 =>
    gR h v3 1 1 fun v4 =>
    br (v4 = l1) (
      gR h l0 11 1282 fun v5 =>
      ldR h v5 l3 fun v6 =>
      oV h v6 1 <| w_X0_stands v6 h <| fun v7 h =>
      br (v7 = 0) (
        n_X10_standingIn_42 l0 l1 l3 l2 h Q K4) (
        n_X10_standingIn_43 l0 l1 l3 1 l2 h Q K4)) (
      n_X10_standingIn_42 l0 l1 l3 l2 h Q K4))
def l_X10_standingIn_4 (l0 : Option Nat) (l1 : Option Nat) (l2 : Int32) (l3 : Int32) (h : Hp) (Q : Int32 → Hp → Prop) : Prop :=
  Lo (fun (K : Int32 × Int32 → Hp → Prop) s h => b_X10_standingIn_4 l0 l1 s.1 s.2 h Q (fun l2 l3 h => K (l2, l3) h)) (l2, l3) h
def n_X10_standingIn_0 (l0 : Option Nat) (l1 : Option Nat) (h : Hp) (Q : Int32 → Hp → Prop) : Prop :=
  l_X10_standingIn_4 l0 l1 0 0 h Q
def w_X10_standingIn (l0 : Option Nat) (l1 : Option Nat) (h : Hp) (Q : Int32 → Hp → Prop) : Prop := n_X10_standingIn_0 l0 l1 h Q
theorem s_X10_standingIn_43 {l : Launch} {G : Gh} {l0 : Option Nat} {l1 : Option Nat} {l3 : Int32} {s0 : Int32} {s1 : Int32} {h : Hp} {Q : Int32 → Hp → Prop} {K4 : Int32 → Int32 → Hp → Prop} (hK4 : ∀ (l2 : Int32) (l3 : Int32) (h : Hp), K4 l2 l3 h → V l G 2 yX10_standingIn cX10_standingIn 4 (some .int) 4 [(0, va_rf l0), (1, va_rf l1), (2, .int l2), (3, .int l3)] [] h (qI Q)) (hw : n_X10_standingIn_43 l0 l1 l3 s0 s1 h Q K4) : V l G 2 yX10_standingIn cX10_standingIn 4 (some .int) 43 [(0, va_rf l0), (1, va_rf l1), (3, .int l3)] [.int s0, .int s1] h (qI Q) := by
  unfold n_X10_standingIn_43 at hw
  refine X_cS [.int s0] [.int s1] ma_X10_138 (by decide) (by decide) rfl (by simp [cat_i, cat_l, rf_cat]) rfl dX10_standingIn_43 (r_X10_bit _ hw) (k_I (fun v8 h hw => ?_))
  refine V_iadd dX10_standingIn_46 ?_
  refine V_ltI hw (fun x9 hw => ?_)
  refine V_istore_n (i := 2) [(2, .int x9), (0, va_rf l0), (1, va_rf l1), (3, .int l3)] rfl (by decide) (by simp [List.filter_cons, rf_cat, cat_i, cat_l]) dX10_standingIn_47 ?_
  refine V_iincL (n := 1) 3 (fun z => [(3, .int z), (2, .int x9), (0, va_rf l0), (1, va_rf l1)]) rfl (by rfl) (by decide) (fun _ => rfl) dX10_standingIn_48 hw (fun x10 hw => ?_)
  refine V_goto (tgt := 4) dX10_standingIn_51 (by decide) ?_
  exact V.sub [2, 3, 1, 0] rfl (hK4 _ _ _ hw)
theorem s_X10_standingIn_42 {l : Launch} {G : Gh} {l0 : Option Nat} {l1 : Option Nat} {l3 : Int32} {s0 : Int32} {h : Hp} {Q : Int32 → Hp → Prop} {K4 : Int32 → Int32 → Hp → Prop} (hK4 : ∀ (l2 : Int32) (l3 : Int32) (h : Hp), K4 l2 l3 h → V l G 2 yX10_standingIn cX10_standingIn 4 (some .int) 4 [(0, va_rf l0), (1, va_rf l1), (2, .int l2), (3, .int l3)] [] h (qI Q)) (hw : n_X10_standingIn_42 l0 l1 l3 s0 h Q K4) : V l G 2 yX10_standingIn cX10_standingIn 4 (some .int) 42 [(0, va_rf l0), (1, va_rf l1), (3, .int l3)] [.int s0] h (qI Q) := by
  unfold n_X10_standingIn_42 at hw
  refine V_iconst (v := 0) (by decide) dX10_standingIn_42 ?_
  exact V.sub [0, 1, 2] rfl (s_X10_standingIn_43 hK4 hw)
theorem sb_X10_standingIn_4 {l : Launch} {G : Gh} {l0 : Option Nat} {l1 : Option Nat} {l2 : Int32} {l3 : Int32} {h : Hp} {Q : Int32 → Hp → Prop} {K4 : Int32 → Int32 → Hp → Prop} (hK4 : ∀ (l2 : Int32) (l3 : Int32) (h : Hp), K4 l2 l3 h → V l G 2 yX10_standingIn cX10_standingIn 4 (some .int) 4 [(0, va_rf l0), (1, va_rf l1), (2, .int l2), (3, .int l3)] [] h (qI Q)) (hw : b_X10_standingIn_4 l0 l1 l2 l3 h Q K4) : V l G 2 yX10_standingIn cX10_standingIn 4 (some .int) 4 [(0, va_rf l0), (1, va_rf l1), (2, .int l2), (3, .int l3)] [] h (qI Q) := by
  unfold b_X10_standingIn_4 at hw
  refine V_iload_n 3 rfl rfl dX10_standingIn_4 ?_
  refine V_aload_n 0 rfl rfl dX10_standingIn_5 ?_
  refine X_getI (c := 10) (k := 13) fa_X10_249 rfl dX10_standingIn_6 hw (fun v1 hw => ?_)
  refine V_icmp_ge (tgt := 54) dX10_standingIn_9 (by decide) hw (fun hw => ?_) (fun hw => ?_)
  · refine V_iload_n 2 rfl rfl dX10_standingIn_54 ?_
    exact V_iret rfl dX10_standingIn_55 ⟨_, rfl, hw⟩
  · refine V_iload_n 2 rfl rfl dX10_standingIn_12 ?_
    refine V_aload_n 0 rfl rfl dX10_standingIn_13 ?_
    refine X_getR (c := 10) (k := 2) fa_X10_23 rfl dX10_standingIn_14 hw (fun v2 hw => ?_)
    refine V_iload_n 3 rfl rfl dX10_standingIn_17 ?_
    refine X_ldR dX10_standingIn_18 hw (fun v3 hw => ?_)
    refine X_getR (c := 0) (k := 1) fa_X10_255 rfl dX10_standingIn_19 hw (fun v4 hw => ?_)
    refine V_aload_n 1 rfl rfl dX10_standingIn_22 ?_
    refine V_acmp_ne (tgt := 42) dX10_standingIn_23 (by decide) hw (fun hw => ?_) (fun hw => ?_)
    · refine V_aload_n 0 rfl rfl dX10_standingIn_26 ?_
      refine X_getR (c := 10) (k := 2) fa_X10_23 rfl dX10_standingIn_27 hw (fun v5 hw => ?_)
      refine V_iload_n 3 rfl rfl dX10_standingIn_30 ?_
      refine X_ldR dX10_standingIn_31 hw (fun v6 hw => ?_)
      refine X_cV 0 [] [.int l2] ma_X10_300 (by decide) rfl (by decide) (by decide) rfl (by simp [cat_i, cat_l, rf_cat]) rfl dX10_standingIn_32 hw (r_X0_stands _) (k_I (fun v7 h hw => ?_))
      refine V_if_eq (tgt := 42) dX10_standingIn_35 (by decide) hw (fun hw => ?_) (fun hw => ?_)
      · exact V.sub [0, 1, 3] rfl (s_X10_standingIn_42 hK4 hw)
      · refine V_iconst (v := 1) (by decide) dX10_standingIn_38 ?_
        refine V_goto (tgt := 43) dX10_standingIn_39 (by decide) ?_
        exact V.sub [0, 1, 3] rfl (s_X10_standingIn_43 hK4 hw)
    · exact V.sub [0, 1, 3] rfl (s_X10_standingIn_42 hK4 hw)
theorem s_X10_standingIn_4 {l : Launch} {G : Gh} {l0 : Option Nat} {l1 : Option Nat} {l2 : Int32} {l3 : Int32} {h : Hp} {Q : Int32 → Hp → Prop}  (hw : l_X10_standingIn_4 l0 l1 l2 l3 h Q) : V l G 2 yX10_standingIn cX10_standingIn 4 (some .int) 4 [(0, va_rf l0), (1, va_rf l1), (2, .int l2), (3, .int l3)] [] h (qI Q) :=
  Lo.ind (P := fun (s : Int32 × Int32) h => V l G 2 yX10_standingIn cX10_standingIn 4 (some .int) 4 [(0, va_rf l0), (1, va_rf l1), (2, .int s.1), (3, .int s.2)] [] h (qI Q)) (fun K ih s h hw => sb_X10_standingIn_4 (fun l2 l3 h hk => ih (l2, l3) h hk) hw) hw
theorem s_X10_standingIn_0 {l : Launch} {G : Gh} {l0 : Option Nat} {l1 : Option Nat} {h : Hp} {Q : Int32 → Hp → Prop}  (hw : n_X10_standingIn_0 l0 l1 h Q) : V l G 2 yX10_standingIn cX10_standingIn 4 (some .int) 0 [(0, va_rf l0), (1, va_rf l1)] [] h (qI Q) := by
  unfold n_X10_standingIn_0 at hw
  refine V_iconst (v := 0) (by decide) dX10_standingIn_0 ?_
  refine V_istore_n (i := 2) [(2, .int 0), (0, va_rf l0), (1, va_rf l1)] rfl (by decide) (by simp [List.filter_cons, rf_cat, cat_i, cat_l]) dX10_standingIn_1 ?_
  refine V_iconst (v := 0) (by decide) dX10_standingIn_2 ?_
  refine V_istore_n (i := 3) [(3, .int 0), (2, .int 0), (0, va_rf l0), (1, va_rf l1)] rfl (by decide) rfl dX10_standingIn_3 ?_
  exact V.sub [2, 3, 1, 0] rfl (s_X10_standingIn_4 hw)
theorem r_X10_standingIn {l : Launch} {G : Gh} (l0 : Option Nat) (l1 : Option Nat) {h : Hp} {Q : Int32 → Hp → Prop} (hw : w_X10_standingIn l0 l1 h Q) : RunQ l G 2 yX10_standingIn cX10_standingIn 4 (some .int) [va_rf l0, va_rf l1] h (qI Q) :=
  V_run rfl (sl_len _ _ (by simp [cat_i, cat_l, rf_cat])) (V.sub [0, 1] (by simp only [la_r, la_i, la_l, la_n]; rfl) (s_X10_standingIn_0 hw))
def b_X9_allIntsBelow_2 (l0 : Option Nat) (l1 : Int32) (l2 : Int32) (h : Hp) (Q : Int32 → Hp → Prop) (K2 : Int32 → Hp → Prop) : Prop :=
  gI h l0 10 1154 fun v1 =>
  br (v1 ≤ l2) (
    rZ 1 h Q) (
    gR h l0 10 1152 fun v2 =>
    ldL h v2 l2 fun v3 =>
    w_X10_isIn ((v3 : Int64).toInt32) 0 (l1 - 1) h <| fun v4 h =>
    br (v4 = 0) (
      rZ 0 h Q) (
      lt (l2 + 1) fun x5 =>
      K2 x5 h))
def l_X9_allIntsBelow_2 (l0 : Option Nat) (l1 : Int32) (l2 : Int32) (h : Hp) (Q : Int32 → Hp → Prop) : Prop :=
  Lo (fun (K : Int32 → Hp → Prop) s h => b_X9_allIntsBelow_2 l0 l1 s h Q (fun l2 h => K (l2) h)) (l2) h
def n_X9_allIntsBelow_0 (l0 : Option Nat) (l1 : Int32) (h : Hp) (Q : Int32 → Hp → Prop) : Prop :=
  l_X9_allIntsBelow_2 l0 l1 0 h Q
def w_X9_allIntsBelow (l0 : Option Nat) (l1 : Int32) (h : Hp) (Q : Int32 → Hp → Prop) : Prop := n_X9_allIntsBelow_0 l0 l1 h Q
theorem sb_X9_allIntsBelow_2 {l : Launch} {G : Gh} {l0 : Option Nat} {l1 : Int32} {l2 : Int32} {h : Hp} {Q : Int32 → Hp → Prop} {K2 : Int32 → Hp → Prop} (hK2 : ∀ (l2 : Int32) (h : Hp), K2 l2 h → V l G 2 yX9_allIntsBelow cX9_allIntsBelow 3 (some .boolean) 2 [(0, va_rf l0), (1, .int l1), (2, .int l2)] [] h (qI Q)) (hw : b_X9_allIntsBelow_2 l0 l1 l2 h Q K2) : V l G 2 yX9_allIntsBelow cX9_allIntsBelow 3 (some .boolean) 2 [(0, va_rf l0), (1, .int l1), (2, .int l2)] [] h (qI Q) := by
  unfold b_X9_allIntsBelow_2 at hw
  refine V_iload_n 2 rfl rfl dX9_allIntsBelow_2 ?_
  refine V_aload_n 0 rfl rfl dX9_allIntsBelow_3 ?_
  refine X_getI (c := 9) (k := 2) fa_X9_23 rfl dX9_allIntsBelow_4 hw (fun v1 hw => ?_)
  refine V_icmp_ge (tgt := 35) dX9_allIntsBelow_7 (by decide) hw (fun hw => ?_) (fun hw => ?_)
  · refine V_iconst (v := 1) (by decide) dX9_allIntsBelow_35 ?_
    exact V_zret rfl hw.1 dX9_allIntsBelow_36 ⟨_, rfl, hw.2⟩
  · refine V_aload_n 0 rfl rfl dX9_allIntsBelow_10 ?_
    refine X_getR (c := 9) (k := 0) fa_X9_9 rfl dX9_allIntsBelow_11 hw (fun v2 hw => ?_)
    refine V_iload_n 2 rfl rfl dX9_allIntsBelow_14 ?_
    refine X_ldL dX9_allIntsBelow_15 hw (fun v3 hw => ?_)
    refine V_l2i dX9_allIntsBelow_16 ?_
    refine V_iconst (v := 0) (by decide) dX9_allIntsBelow_17 ?_
    refine V_iload_n 1 rfl rfl dX9_allIntsBelow_18 ?_
    refine V_iconst (v := 1) (by decide) dX9_allIntsBelow_19 ?_
    refine V_isub dX9_allIntsBelow_20 ?_
    refine X_cS [.int ((v3 : Int64).toInt32), .int 0, .int (l1 - 1)] [] ma_X9_40 (by decide) (by decide) rfl (by simp [cat_i, cat_l, rf_cat]) rfl dX9_allIntsBelow_21 (r_X10_isIn _ _ _ hw) (k_I (fun v4 h hw => ?_))
    refine V_if_ne (tgt := 29) dX9_allIntsBelow_24 (by decide) hw (fun hw => ?_) (fun hw => ?_)
    · refine V_iconst (v := 0) (by decide) dX9_allIntsBelow_27 ?_
      exact V_zret rfl hw.1 dX9_allIntsBelow_28 ⟨_, rfl, hw.2⟩
    · refine V_iincL (n := 1) 2 (fun z => [(2, .int z), (0, va_rf l0), (1, .int l1)]) rfl (by rfl) (by decide) (fun _ => rfl) dX9_allIntsBelow_29 hw (fun x5 hw => ?_)
      refine V_goto (tgt := 2) dX9_allIntsBelow_32 (by decide) ?_
      exact V.sub [1, 2, 0] rfl (hK2 _ _ hw)
theorem s_X9_allIntsBelow_2 {l : Launch} {G : Gh} {l0 : Option Nat} {l1 : Int32} {l2 : Int32} {h : Hp} {Q : Int32 → Hp → Prop}  (hw : l_X9_allIntsBelow_2 l0 l1 l2 h Q) : V l G 2 yX9_allIntsBelow cX9_allIntsBelow 3 (some .boolean) 2 [(0, va_rf l0), (1, .int l1), (2, .int l2)] [] h (qI Q) :=
  Lo.ind (P := fun (s : Int32) h => V l G 2 yX9_allIntsBelow cX9_allIntsBelow 3 (some .boolean) 2 [(0, va_rf l0), (1, .int l1), (2, .int s)] [] h (qI Q)) (fun K ih s h hw => sb_X9_allIntsBelow_2 (fun l2 h hk => ih (l2) h hk) hw) hw
theorem s_X9_allIntsBelow_0 {l : Launch} {G : Gh} {l0 : Option Nat} {l1 : Int32} {h : Hp} {Q : Int32 → Hp → Prop}  (hw : n_X9_allIntsBelow_0 l0 l1 h Q) : V l G 2 yX9_allIntsBelow cX9_allIntsBelow 3 (some .boolean) 0 [(0, va_rf l0), (1, .int l1)] [] h (qI Q) := by
  unfold n_X9_allIntsBelow_0 at hw
  refine V_iconst (v := 0) (by decide) dX9_allIntsBelow_0 ?_
  refine V_istore_n (i := 2) [(2, .int 0), (0, va_rf l0), (1, .int l1)] rfl (by decide) rfl dX9_allIntsBelow_1 ?_
  exact V.sub [1, 2, 0] rfl (s_X9_allIntsBelow_2 hw)
theorem r_X9_allIntsBelow {l : Launch} {G : Gh} (l0 : Option Nat) (l1 : Int32) {h : Hp} {Q : Int32 → Hp → Prop} (hw : w_X9_allIntsBelow l0 l1 h Q) : RunQ l G 2 yX9_allIntsBelow cX9_allIntsBelow 3 (some .boolean) [va_rf l0, .int l1] h (qI Q) :=
  V_run rfl (sl_len _ _ (by simp [cat_i, cat_l, rf_cat])) (V.sub [0, 1] (by simp only [la_r, la_i, la_l, la_n]; rfl) (s_X9_allIntsBelow_0 hw))
def n_X6_all_0 (l0 : Option Nat) (h : Hp) (Q : Int32 → Hp → Prop) : Prop :=
  gI h l0 7 771 fun v1 =>
  Q ((1 <<< (v1 &&& 31)) - 1) h
def w_X6_all (l0 : Option Nat) (h : Hp) (Q : Int32 → Hp → Prop) : Prop := n_X6_all_0 l0 h Q
theorem s_X6_all_0 {l : Launch} {G : Gh} {l0 : Option Nat} {h : Hp} {Q : Int32 → Hp → Prop}  (hw : n_X6_all_0 l0 h Q) : V l G 1 yX6_all cX6_all 1 (some .int) 0 [(0, va_rf l0)] [] h (qI Q) := by
  unfold n_X6_all_0 at hw
  refine V_iconst (v := 1) (by decide) dX6_all_0 ?_
  refine V_aload_n 0 rfl rfl dX6_all_1 ?_
  refine X_getI (c := 6) (k := 3) fa_X6_25 rfl dX6_all_2 hw (fun v1 hw => ?_)
  refine V_ishl dX6_all_5 ?_
  refine V_iconst (v := 1) (by decide) dX6_all_6 ?_
  refine V_isub dX6_all_7 ?_
  exact V_iret rfl dX6_all_8 ⟨_, rfl, hw⟩
theorem r_X6_all {l : Launch} {G : Gh} (l0 : Option Nat) {h : Hp} {Q : Int32 → Hp → Prop} (hw : w_X6_all l0 h Q) : RunQ l G 1 yX6_all cX6_all 1 (some .int) [va_rf l0] h (qI Q) :=
  V_run rfl (sl_len _ _ (by simp [cat_i, cat_l, rf_cat])) (V.sub [0] (by simp only [la_r, la_i, la_l, la_n]; rfl) (s_X6_all_0 hw))
def b_X9_bitsOfInts_4 (l0 : Option Nat) (l1 : Int32) (l2 : Int32) (h : Hp) (Q : Int32 → Hp → Prop) (K4 : Int32 → Int32 → Hp → Prop) : Prop :=
  gI h l0 10 1154 fun v1 =>
  br (v1 ≤ l2) (
    Q l1 h) (
    gR h l0 10 1152 fun v2 =>
    ldL h v2 l2 fun v3 =>
    lt (l1 ||| (1 <<< (((v3 : Int64).toInt32) &&& 31))) fun x4 =>
    lt (l2 + 1) fun x5 =>
    K4 x4 x5 h)
def l_X9_bitsOfInts_4 (l0 : Option Nat) (l1 : Int32) (l2 : Int32) (h : Hp) (Q : Int32 → Hp → Prop) : Prop :=
  Lo (fun (K : Int32 × Int32 → Hp → Prop) s h => b_X9_bitsOfInts_4 l0 s.1 s.2 h Q (fun l1 l2 h => K (l1, l2) h)) (l1, l2) h
def n_X9_bitsOfInts_0 (l0 : Option Nat) (h : Hp) (Q : Int32 → Hp → Prop) : Prop :=
  l_X9_bitsOfInts_4 l0 0 0 h Q
def w_X9_bitsOfInts (l0 : Option Nat) (h : Hp) (Q : Int32 → Hp → Prop) : Prop := n_X9_bitsOfInts_0 l0 h Q
theorem sb_X9_bitsOfInts_4 {l : Launch} {G : Gh} {l0 : Option Nat} {l1 : Int32} {l2 : Int32} {h : Hp} {Q : Int32 → Hp → Prop} {K4 : Int32 → Int32 → Hp → Prop} (hK4 : ∀ (l1 : Int32) (l2 : Int32) (h : Hp), K4 l1 l2 h → V l G 1 yX9_bitsOfInts cX9_bitsOfInts 3 (some .int) 4 [(0, va_rf l0), (1, .int l1), (2, .int l2)] [] h (qI Q)) (hw : b_X9_bitsOfInts_4 l0 l1 l2 h Q K4) : V l G 1 yX9_bitsOfInts cX9_bitsOfInts 3 (some .int) 4 [(0, va_rf l0), (1, .int l1), (2, .int l2)] [] h (qI Q) := by
  unfold b_X9_bitsOfInts_4 at hw
  refine V_iload_n 2 rfl rfl dX9_bitsOfInts_4 ?_
  refine V_aload_n 0 rfl rfl dX9_bitsOfInts_5 ?_
  refine X_getI (c := 9) (k := 2) fa_X9_23 rfl dX9_bitsOfInts_6 hw (fun v1 hw => ?_)
  refine V_icmp_ge (tgt := 30) dX9_bitsOfInts_9 (by decide) hw (fun hw => ?_) (fun hw => ?_)
  · refine V_iload_n 1 rfl rfl dX9_bitsOfInts_30 ?_
    exact V_iret rfl dX9_bitsOfInts_31 ⟨_, rfl, hw⟩
  · refine V_iload_n 1 rfl rfl dX9_bitsOfInts_12 ?_
    refine V_iconst (v := 1) (by decide) dX9_bitsOfInts_13 ?_
    refine V_aload_n 0 rfl rfl dX9_bitsOfInts_14 ?_
    refine X_getR (c := 9) (k := 0) fa_X9_9 rfl dX9_bitsOfInts_15 hw (fun v2 hw => ?_)
    refine V_iload_n 2 rfl rfl dX9_bitsOfInts_18 ?_
    refine X_ldL dX9_bitsOfInts_19 hw (fun v3 hw => ?_)
    refine V_l2i dX9_bitsOfInts_20 ?_
    refine V_ishl dX9_bitsOfInts_21 ?_
    refine V_ior dX9_bitsOfInts_22 ?_
    refine V_ltI hw (fun x4 hw => ?_)
    refine V_istore_n (i := 1) [(1, .int x4), (0, va_rf l0), (2, .int l2)] rfl (by decide) (by simp [List.filter_cons, rf_cat, cat_i, cat_l]) dX9_bitsOfInts_23 ?_
    refine V_iincL (n := 1) 2 (fun z => [(2, .int z), (1, .int x4), (0, va_rf l0)]) rfl (by rfl) (by decide) (fun _ => rfl) dX9_bitsOfInts_24 hw (fun x5 hw => ?_)
    refine V_goto (tgt := 4) dX9_bitsOfInts_27 (by decide) ?_
    exact V.sub [2, 1, 0] rfl (hK4 _ _ _ hw)
theorem s_X9_bitsOfInts_4 {l : Launch} {G : Gh} {l0 : Option Nat} {l1 : Int32} {l2 : Int32} {h : Hp} {Q : Int32 → Hp → Prop}  (hw : l_X9_bitsOfInts_4 l0 l1 l2 h Q) : V l G 1 yX9_bitsOfInts cX9_bitsOfInts 3 (some .int) 4 [(0, va_rf l0), (1, .int l1), (2, .int l2)] [] h (qI Q) :=
  Lo.ind (P := fun (s : Int32 × Int32) h => V l G 1 yX9_bitsOfInts cX9_bitsOfInts 3 (some .int) 4 [(0, va_rf l0), (1, .int s.1), (2, .int s.2)] [] h (qI Q)) (fun K ih s h hw => sb_X9_bitsOfInts_4 (fun l1 l2 h hk => ih (l1, l2) h hk) hw) hw
theorem s_X9_bitsOfInts_0 {l : Launch} {G : Gh} {l0 : Option Nat} {h : Hp} {Q : Int32 → Hp → Prop}  (hw : n_X9_bitsOfInts_0 l0 h Q) : V l G 1 yX9_bitsOfInts cX9_bitsOfInts 3 (some .int) 0 [(0, va_rf l0)] [] h (qI Q) := by
  unfold n_X9_bitsOfInts_0 at hw
  refine V_iconst (v := 0) (by decide) dX9_bitsOfInts_0 ?_
  refine V_istore_n (i := 1) [(1, .int 0), (0, va_rf l0)] rfl (by decide) (by simp [List.filter_cons, rf_cat, cat_i, cat_l]) dX9_bitsOfInts_1 ?_
  refine V_iconst (v := 0) (by decide) dX9_bitsOfInts_2 ?_
  refine V_istore_n (i := 2) [(2, .int 0), (1, .int 0), (0, va_rf l0)] rfl (by decide) rfl dX9_bitsOfInts_3 ?_
  exact V.sub [2, 1, 0] rfl (s_X9_bitsOfInts_4 hw)
theorem r_X9_bitsOfInts {l : Launch} {G : Gh} (l0 : Option Nat) {h : Hp} {Q : Int32 → Hp → Prop} (hw : w_X9_bitsOfInts l0 h Q) : RunQ l G 1 yX9_bitsOfInts cX9_bitsOfInts 3 (some .int) [va_rf l0] h (qI Q) :=
  V_run rfl (sl_len _ _ (by simp [cat_i, cat_l, rf_cat])) (V.sub [0] (by simp only [la_r, la_i, la_l, la_n]; rfl) (s_X9_bitsOfInts_0 hw))
def n_X10_judge_22 (l0 : Option Nat) (h : Hp) (Q : Int32 → Hp → Prop) : Prop :=
  oV h l0 11 <| w_X10_refuse l0 (-1) h <| fun v3 h =>
  Q v3 h
def n_X10_judge_0 (l0 : Option Nat) (l1 : Int32) (l2 : Int32) (h : Hp) (Q : Int32 → Hp → Prop) : Prop :=
  oV h l0 11 <| w_X10_placeAt l0 l1 h <| fun v1 h =>
  oV h l0 11 <| w_X10_shelfAt l0 l2 h <| fun v2 h =>
  br (v1 = none) (
    n_X10_judge_22 l0 h Q) (
    br (v2 = none) (
      n_X10_judge_22 l0 h Q) (
      w_X10_rowTrouble v2 h <| fun v4 h =>
      br (v4 = 0) (
        oV h l0 11 <| w_X10_standingIn l0 v1 h <| fun v5 h =>
        oV h v2 10 <| w_X9_allIntsBelow v2 v5 h <| fun v6 h =>
        br (v6 = 0) (
          oV h l0 11 <| w_X10_refuse l0 (-6) h <| fun v7 h =>
          Q v7 h) (
          br (v5 ≤ 12) (
            oV h l0 11 <| w_X10_bringToQuarrel l0 v1 h <| fun h =>
            gR h l0 11 1290 fun v9 =>
            gR h l0 11 1290 fun v10 =>
            oV h v10 7 <| w_X6_all v10 h <| fun v11 h =>
            oV h v2 10 <| w_X9_bitsOfInts v2 h <| fun v12 h =>
            oV h v9 7 <| w_X6_isPeaceful v9 (v11 &&& (v12 ^^^ (-1))) h <| fun v13 h =>
            w_X10_bit v13 h <| fun v14 h =>
            Q v14 h) (
            oV h l0 11 <| w_X10_refuse l0 (-7) h <| fun v15 h =>
            Q v15 h))) (
        oV h l0 11 <| w_X10_refuse l0 v4 h <| fun v16 h =>
        Q v16 h)))
def w_X10_judge (l0 : Option Nat) (l1 : Int32) (l2 : Int32) (h : Hp) (Q : Int32 → Hp → Prop) : Prop := n_X10_judge_0 l0 l1 l2 h Q
theorem s_X10_judge_22 {l : Launch} {G : Gh} {l0 : Option Nat} {h : Hp} {Q : Int32 → Hp → Prop}  (hw : n_X10_judge_22 l0 h Q) : V l G 4 yX10_judge cX10_judge 7 (some .int) 22 [(0, va_rf l0)] [] h (qI Q) := by
  unfold n_X10_judge_22 at hw
  refine V_aload_n 0 rfl rfl dX10_judge_22 ?_
  refine V_iconst (v := (-1)) (by decide) dX10_judge_23 ?_
  refine X_cV 10 [.int (-1)] [] ma_X10_95 (by decide) rfl (by decide) (by decide) rfl (by simp [cat_i, cat_l, rf_cat]) rfl dX10_judge_24 hw (r_X10_refuse _ _) (k_I (fun v3 h hw => ?_))
  exact V_iret rfl dX10_judge_27 ⟨_, rfl, hw⟩
set_option maxRecDepth 20000 in
theorem s_X10_judge_0 {l : Launch} {G : Gh} {l0 : Option Nat} {l1 : Int32} {l2 : Int32} {h : Hp} {Q : Int32 → Hp → Prop}  (hw : n_X10_judge_0 l0 l1 l2 h Q) : V l G 4 yX10_judge cX10_judge 7 (some .int) 0 [(0, va_rf l0), (1, .int l1), (2, .int l2)] [] h (qI Q) := by
  unfold n_X10_judge_0 at hw
  refine V_aload_n 0 rfl rfl dX10_judge_0 ?_
  refine V_iload_n 1 rfl rfl dX10_judge_1 ?_
  refine X_cV 10 [.int l1] [] ma_X10_91 (by decide) rfl (by decide) (by decide) rfl (by simp [cat_i, cat_l, rf_cat]) rfl dX10_judge_2 hw (r_X10_placeAt _ _) (k_R (fun v1 h hw => ?_))
  refine V_astore_n (i := 3) [(3, va_rf v1), (0, va_rf l0), (1, .int l1), (2, .int l2)] rfl (by decide) rfl dX10_judge_5 ?_
  refine V_aload_n 1 rfl rfl dX10_judge_6 ?_
  refine V_iload_n 3 rfl rfl dX10_judge_7 ?_
  refine X_cV 10 [.int l2] [] ma_X10_156 (by decide) rfl (by decide) (by decide) rfl (by simp [cat_i, cat_l, rf_cat]) rfl dX10_judge_8 hw (r_X10_shelfAt _ _) (k_R (fun v2 h hw => ?_))
  refine V_astore (i := 4) [(4, va_rf v2), (3, va_rf v1), (0, va_rf l0), (1, .int l1), (2, .int l2)] (by decide) (by simp [List.filter_cons, rf_cat, cat_i, cat_l]) dX10_judge_11 ?_
  refine V_aload_n 1 rfl rfl dX10_judge_13 ?_
  refine V_ifnull (tgt := 22) dX10_judge_14 (by decide) hw (fun hw => ?_) (fun hw => ?_)
  · exact V.sub [2] rfl (s_X10_judge_22 hw)
  · refine V_aload 0 rfl dX10_judge_17 ?_
    refine V_ifnonnull (tgt := 28) dX10_judge_19 (by decide) hw (fun hw => ?_) (fun hw => ?_)
    · exact V.sub [2] rfl (s_X10_judge_22 hw)
    · refine V_aload 0 rfl dX10_judge_28 ?_
      refine X_cS [va_rf v2] [] ma_X10_164 (by decide) (by decide) rfl (by simp [cat_i, cat_l, rf_cat]) rfl dX10_judge_30 (r_X10_rowTrouble _ hw) (k_I (fun v4 h hw => ?_))
      refine V_istore (i := 5) [(5, .int v4), (4, va_rf v2), (3, va_rf v1), (0, va_rf l0), (1, .int l1), (2, .int l2)] (by decide) (by simp [List.filter_cons, rf_cat, cat_i, cat_l]) dX10_judge_33 ?_
      refine V_iload 0 rfl dX10_judge_35 ?_
      refine V_if_eq (tgt := 47) dX10_judge_37 (by decide) hw (fun hw => ?_) (fun hw => ?_)
      · refine V_aload_n 3 rfl rfl dX10_judge_47 ?_
        refine V_aload_n 2 rfl rfl dX10_judge_48 ?_
        refine X_cV 10 [va_rf v1] [] ma_X10_484 (by decide) rfl (by decide) (by decide) rfl (by simp [cat_i, cat_l, rf_cat]) rfl dX10_judge_49 hw (r_X10_standingIn _ _) (k_I (fun v5 h hw => ?_))
        refine V_istore (i := 6) [(6, .int v5), (5, .int v4), (4, va_rf v2), (3, va_rf v1), (0, va_rf l0), (1, .int l1), (2, .int l2)] (by decide) rfl dX10_judge_52 ?_
        refine V_aload 2 rfl dX10_judge_54 ?_
        refine V_iload 0 rfl dX10_judge_56 ?_
        refine X_cV 9 [.int v5] [] ma_X10_493 (by decide) rfl (by decide) (by decide) rfl (by simp [cat_i, cat_l, rf_cat]) rfl dX10_judge_58 hw (r_X9_allIntsBelow _ _) (k_I (fun v6 h hw => ?_))
        refine V_if_ne (tgt := 71) dX10_judge_61 (by decide) hw (fun hw => ?_) (fun hw => ?_)
        · refine V_aload_n 4 rfl rfl dX10_judge_64 ?_
          refine V_bipush (v := (-6)) (by decide) dX10_judge_65 ?_
          refine X_cV 10 [.int (-6)] [] ma_X10_95 (by decide) rfl (by decide) (by decide) rfl (by simp [cat_i, cat_l, rf_cat]) rfl dX10_judge_67 hw (r_X10_refuse _ _) (k_I (fun v7 h hw => ?_))
          exact V_iret rfl dX10_judge_70 ⟨_, rfl, hw⟩
        · refine V_iload 0 rfl dX10_judge_71 ?_
          refine V_bipush (v := 12) (by decide) dX10_judge_73 ?_
          refine V_icmp_le (tgt := 85) dX10_judge_75 (by decide) hw (fun hw => ?_) (fun hw => ?_)
          · refine V_aload_n 4 rfl rfl dX10_judge_85 ?_
            refine V_aload_n 3 rfl rfl dX10_judge_86 ?_
            refine X_cV 10 [va_rf v1] [] ma_X10_487 (by decide) rfl (by decide) (by decide) rfl (by simp [cat_i, cat_l, rf_cat]) rfl dX10_judge_87 hw (r_X10_bringToQuarrel _ _) (k_V (fun h hw => ?_))
            refine V_aload_n 4 rfl rfl dX10_judge_90 ?_
            refine X_getR (c := 10) (k := 10) fa_X10_69 rfl dX10_judge_91 hw (fun v9 hw => ?_)
            refine V_aload_n 4 rfl rfl dX10_judge_94 ?_
            refine X_getR (c := 10) (k := 10) fa_X10_69 rfl dX10_judge_95 hw (fun v10 hw => ?_)
            refine X_cV 6 [] [va_rf v9] ma_X10_496 (by decide) rfl (by decide) (by decide) rfl (by simp [cat_i, cat_l, rf_cat]) rfl dX10_judge_98 hw (r_X6_all _) (k_I (fun v11 h hw => ?_))
            refine V_aload 2 rfl dX10_judge_101 ?_
            refine X_cV 9 [] [.int v11, va_rf v9] ma_X10_499 (by decide) rfl (by decide) (by decide) rfl (by simp [cat_i, cat_l, rf_cat]) rfl dX10_judge_103 hw (r_X9_bitsOfInts _) (k_I (fun v12 h hw => ?_))
            refine V_iconst (v := (-1)) (by decide) dX10_judge_106 ?_
            refine V_ixor dX10_judge_107 ?_
            refine V_iand dX10_judge_108 ?_
            refine X_cV 6 [.int (v11 &&& (v12 ^^^ (-1)))] [] ma_X10_502 (by decide) rfl (by decide) (by decide) rfl (by simp [cat_i, cat_l, rf_cat]) rfl dX10_judge_109 hw (r_X6_isPeaceful _ _) (k_I (fun v13 h hw => ?_))
            refine X_cS [.int v13] [] ma_X10_138 (by decide) (by decide) rfl (by simp [cat_i, cat_l, rf_cat]) rfl dX10_judge_112 (r_X10_bit _ hw) (k_I (fun v14 h hw => ?_))
            exact V_iret rfl dX10_judge_115 ⟨_, rfl, hw⟩
          · refine V_aload_n 4 rfl rfl dX10_judge_78 ?_
            refine V_bipush (v := (-7)) (by decide) dX10_judge_79 ?_
            refine X_cV 10 [.int (-7)] [] ma_X10_95 (by decide) rfl (by decide) (by decide) rfl (by simp [cat_i, cat_l, rf_cat]) rfl dX10_judge_81 hw (r_X10_refuse _ _) (k_I (fun v15 h hw => ?_))
            exact V_iret rfl dX10_judge_84 ⟨_, rfl, hw⟩
      · refine V_aload_n 3 rfl rfl dX10_judge_40 ?_
        refine V_iload 0 rfl dX10_judge_41 ?_
        refine X_cV 10 [.int v4] [] ma_X10_95 (by decide) rfl (by decide) (by decide) rfl (by simp [cat_i, cat_l, rf_cat]) rfl dX10_judge_43 hw (r_X10_refuse _ _) (k_I (fun v16 h hw => ?_))
        exact V_iret rfl dX10_judge_46 ⟨_, rfl, hw⟩
theorem r_X10_judge {l : Launch} {G : Gh} (l0 : Option Nat) (l1 : Int32) (l2 : Int32) {h : Hp} {Q : Int32 → Hp → Prop} (hw : w_X10_judge l0 l1 l2 h Q) : RunQ l G 4 yX10_judge cX10_judge 7 (some .int) [va_rf l0, .int l1, .int l2] h (qI Q) :=
  V_run rfl (sl_len _ _ (by simp [cat_i, cat_l, rf_cat])) (V.sub [0, 1, 2] (by simp only [la_r, la_i, la_l, la_n]; rfl) (s_X10_judge_0 hw))
def n_X6_fewestToLeave_45 (l0 : Option Nat) (l1 : Int32) (l2 : Int32) (h : Hp) (Q : Int32 → Hp → Prop) (K7 : Int32 → Int32 → Hp → Prop) : Prop :=
  lt (l2 + 1) fun x5 =>
  K7 l1 x5 h
def b_X6_fewestToLeave_7 (l0 : Option Nat) (l1 : Int32) (l2 : Int32) (h : Hp) (Q : Int32 → Hp → Prop) (K7 : Int32 → Int32 → Hp → Prop) : Prop :=
  gI h l0 7 771 fun v2 =>
  br ((1 <<< (v2 &&& 31)) ≤ l2) (
    Q l1 h) (
    w_J6_bitCount_0f7a4 l2 h <| fun v3 h =>
    w_J6_bitCount_0f7a4 l1 h <| fun v4 h =>
    br (v4 ≤ v3) (
      n_X6_fewestToLeave_45 l0 l1 l2 h Q K7) (
      oV h l0 7 <| w_X6_all l0 h <| fun v6 h =>
      oV h l0 7 <| w_X6_isPeaceful l0 (v6 &&& (l2 ^^^ (-1))) h <| fun v7 h =>
      br (v7 = 0) (
        n_X6_fewestToLeave_45 l0 l1 l2 h Q K7) (
        n_X6_fewestToLeave_45 l0 l2 l2 h Q K7)))
def l_X6_fewestToLeave_7 (l0 : Option Nat) (l1 : Int32) (l2 : Int32) (h : Hp) (Q : Int32 → Hp → Prop) : Prop :=
  Lo (fun (K : Int32 × Int32 → Hp → Prop) s h => b_X6_fewestToLeave_7 l0 s.1 s.2 h Q (fun l1 l2 h => K (l1, l2) h)) (l1, l2) h
def n_X6_fewestToLeave_0 (l0 : Option Nat) (h : Hp) (Q : Int32 → Hp → Prop) : Prop :=
  oV h l0 7 <| w_X6_all l0 h <| fun v1 h =>
  l_X6_fewestToLeave_7 l0 v1 0 h Q
def w_X6_fewestToLeave (l0 : Option Nat) (h : Hp) (Q : Int32 → Hp → Prop) : Prop := n_X6_fewestToLeave_0 l0 h Q
theorem s_X6_fewestToLeave_45 {l : Launch} {G : Gh} {l0 : Option Nat} {l1 : Int32} {l2 : Int32} {h : Hp} {Q : Int32 → Hp → Prop} {K7 : Int32 → Int32 → Hp → Prop} (hK7 : ∀ (l1 : Int32) (l2 : Int32) (h : Hp), K7 l1 l2 h → V l G 3 yX6_fewestToLeave cX6_fewestToLeave 3 (some .int) 7 [(0, va_rf l0), (1, .int l1), (2, .int l2)] [] h (qI Q)) (hw : n_X6_fewestToLeave_45 l0 l1 l2 h Q K7) : V l G 3 yX6_fewestToLeave cX6_fewestToLeave 3 (some .int) 45 [(0, va_rf l0), (1, .int l1), (2, .int l2)] [] h (qI Q) := by
  unfold n_X6_fewestToLeave_45 at hw
  refine V_iincL (n := 1) 2 (fun z => [(2, .int z), (0, va_rf l0), (1, .int l1)]) rfl (by rfl) (by decide) (fun _ => rfl) dX6_fewestToLeave_45 hw (fun x5 hw => ?_)
  refine V_goto (tgt := 7) dX6_fewestToLeave_48 (by decide) ?_
  exact V.sub [1, 2, 0] rfl (hK7 _ _ _ hw)
theorem sb_X6_fewestToLeave_7 {l : Launch} {G : Gh} {l0 : Option Nat} {l1 : Int32} {l2 : Int32} {h : Hp} {Q : Int32 → Hp → Prop} {K7 : Int32 → Int32 → Hp → Prop} (hK7 : ∀ (l1 : Int32) (l2 : Int32) (h : Hp), K7 l1 l2 h → V l G 3 yX6_fewestToLeave cX6_fewestToLeave 3 (some .int) 7 [(0, va_rf l0), (1, .int l1), (2, .int l2)] [] h (qI Q)) (hw : b_X6_fewestToLeave_7 l0 l1 l2 h Q K7) : V l G 3 yX6_fewestToLeave cX6_fewestToLeave 3 (some .int) 7 [(0, va_rf l0), (1, .int l1), (2, .int l2)] [] h (qI Q) := by
  unfold b_X6_fewestToLeave_7 at hw
  refine V_iload_n 2 rfl rfl dX6_fewestToLeave_7 ?_
  refine V_iconst (v := 1) (by decide) dX6_fewestToLeave_8 ?_
  refine V_aload_n 0 rfl rfl dX6_fewestToLeave_9 ?_
  refine X_getI (c := 6) (k := 3) fa_X6_25 rfl dX6_fewestToLeave_10 hw (fun v2 hw => ?_)
  refine V_ishl dX6_fewestToLeave_13 ?_
  refine V_icmp_ge (tgt := 51) dX6_fewestToLeave_14 (by decide) hw (fun hw => ?_) (fun hw => ?_)
  · refine V_iload_n 1 rfl rfl dX6_fewestToLeave_51 ?_
    exact V_iret rfl dX6_fewestToLeave_52 ⟨_, rfl, hw⟩
  · refine V_iload_n 2 rfl rfl dX6_fewestToLeave_17 ?_
    refine X_cS [.int l2] [] ma_X6_33 (by decide) (by decide) rfl (by simp [cat_i, cat_l, rf_cat]) rfl dX6_fewestToLeave_18 (r_J6_bitCount_0f7a4 _ hw) (k_I (fun v3 h hw => ?_))
    refine V_iload_n 1 rfl rfl dX6_fewestToLeave_21 ?_
    refine X_cS [.int l1] [.int v3] ma_X6_33 (by decide) (by decide) rfl (by simp [cat_i, cat_l, rf_cat]) rfl dX6_fewestToLeave_22 (r_J6_bitCount_0f7a4 _ hw) (k_I (fun v4 h hw => ?_))
    refine V_icmp_ge (tgt := 45) dX6_fewestToLeave_25 (by decide) hw (fun hw => ?_) (fun hw => ?_)
    · exact V.sub [0, 1, 2] rfl (s_X6_fewestToLeave_45 hK7 hw)
    · refine V_aload_n 0 rfl rfl dX6_fewestToLeave_28 ?_
      refine V_aload_n 0 rfl rfl dX6_fewestToLeave_29 ?_
      refine X_cV 6 [] [va_rf l0] ma_X6_29 (by decide) rfl (by decide) (by decide) rfl (by simp [cat_i, cat_l, rf_cat]) rfl dX6_fewestToLeave_30 hw (r_X6_all _) (k_I (fun v6 h hw => ?_))
      refine V_iload_n 2 rfl rfl dX6_fewestToLeave_33 ?_
      refine V_iconst (v := (-1)) (by decide) dX6_fewestToLeave_34 ?_
      refine V_ixor dX6_fewestToLeave_35 ?_
      refine V_iand dX6_fewestToLeave_36 ?_
      refine X_cV 6 [.int (v6 &&& (l2 ^^^ (-1)))] [] ma_X6_39 (by decide) rfl (by decide) (by decide) rfl (by simp [cat_i, cat_l, rf_cat]) rfl dX6_fewestToLeave_37 hw (r_X6_isPeaceful _ _) (k_I (fun v7 h hw => ?_))
      refine V_if_eq (tgt := 45) dX6_fewestToLeave_40 (by decide) hw (fun hw => ?_) (fun hw => ?_)
      · exact V.sub [0, 1, 2] rfl (s_X6_fewestToLeave_45 hK7 hw)
      · refine V_iload_n 2 rfl rfl dX6_fewestToLeave_43 ?_
        refine V_istore_n (i := 1) [(1, .int l2), (0, va_rf l0), (2, .int l2)] rfl (by decide) (by simp [List.filter_cons, rf_cat, cat_i, cat_l]) dX6_fewestToLeave_44 ?_
        exact V.sub [1, 0, 2] rfl (s_X6_fewestToLeave_45 hK7 hw)
theorem s_X6_fewestToLeave_7 {l : Launch} {G : Gh} {l0 : Option Nat} {l1 : Int32} {l2 : Int32} {h : Hp} {Q : Int32 → Hp → Prop}  (hw : l_X6_fewestToLeave_7 l0 l1 l2 h Q) : V l G 3 yX6_fewestToLeave cX6_fewestToLeave 3 (some .int) 7 [(0, va_rf l0), (1, .int l1), (2, .int l2)] [] h (qI Q) :=
  Lo.ind (P := fun (s : Int32 × Int32) h => V l G 3 yX6_fewestToLeave cX6_fewestToLeave 3 (some .int) 7 [(0, va_rf l0), (1, .int s.1), (2, .int s.2)] [] h (qI Q)) (fun K ih s h hw => sb_X6_fewestToLeave_7 (fun l1 l2 h hk => ih (l1, l2) h hk) hw) hw
theorem s_X6_fewestToLeave_0 {l : Launch} {G : Gh} {l0 : Option Nat} {h : Hp} {Q : Int32 → Hp → Prop}  (hw : n_X6_fewestToLeave_0 l0 h Q) : V l G 3 yX6_fewestToLeave cX6_fewestToLeave 3 (some .int) 0 [(0, va_rf l0)] [] h (qI Q) := by
  unfold n_X6_fewestToLeave_0 at hw
  refine V_aload_n 0 rfl rfl dX6_fewestToLeave_0 ?_
  refine X_cV 6 [] [] ma_X6_29 (by decide) rfl (by decide) (by decide) rfl (by simp [cat_i, cat_l, rf_cat]) rfl dX6_fewestToLeave_1 hw (r_X6_all _) (k_I (fun v1 h hw => ?_))
  refine V_istore_n (i := 1) [(1, .int v1), (0, va_rf l0)] rfl (by decide) (by simp [List.filter_cons, rf_cat, cat_i, cat_l]) dX6_fewestToLeave_4 ?_
  refine V_iconst (v := 0) (by decide) dX6_fewestToLeave_5 ?_
  refine V_istore_n (i := 2) [(2, .int 0), (1, .int v1), (0, va_rf l0)] rfl (by decide) rfl dX6_fewestToLeave_6 ?_
  exact V.sub [2, 1, 0] rfl (s_X6_fewestToLeave_7 hw)
theorem r_X6_fewestToLeave {l : Launch} {G : Gh} (l0 : Option Nat) {h : Hp} {Q : Int32 → Hp → Prop} (hw : w_X6_fewestToLeave l0 h Q) : RunQ l G 3 yX6_fewestToLeave cX6_fewestToLeave 3 (some .int) [va_rf l0] h (qI Q) :=
  V_run rfl (sl_len _ _ (by simp [cat_i, cat_l, rf_cat])) (V.sub [0] (by simp only [la_r, la_i, la_l, la_n]; rfl) (s_X6_fewestToLeave_0 hw))
def n_X10_leave_0 (l0 : Option Nat) (l1 : Int32) (h : Hp) (Q : Int32 → Hp → Prop) : Prop :=
  oV h l0 11 <| w_X10_placeAt l0 l1 h <| fun v1 h =>
  br (v1 = none) (
    oV h l0 11 <| w_X10_refuse l0 (-1) h <| fun v2 h =>
    Q v2 h) (
    oV h l0 11 <| w_X10_standingIn l0 v1 h <| fun v3 h =>
    br (v3 ≤ 12) (
      oV h l0 11 <| w_X10_bringToQuarrel l0 v1 h <| fun h =>
      gR h l0 11 1290 fun v5 =>
      oV h v5 7 <| w_X6_fewestToLeave v5 h <| fun v6 h =>
      Q v6 h) (
      oV h l0 11 <| w_X10_refuse l0 (-7) h <| fun v7 h =>
      Q v7 h))
def w_X10_leave (l0 : Option Nat) (l1 : Int32) (h : Hp) (Q : Int32 → Hp → Prop) : Prop := n_X10_leave_0 l0 l1 h Q
theorem s_X10_leave_0 {l : Launch} {G : Gh} {l0 : Option Nat} {l1 : Int32} {h : Hp} {Q : Int32 → Hp → Prop}  (hw : n_X10_leave_0 l0 l1 h Q) : V l G 4 yX10_leave cX10_leave 3 (some .int) 0 [(0, va_rf l0), (1, .int l1)] [] h (qI Q) := by
  unfold n_X10_leave_0 at hw
  refine V_aload_n 0 rfl rfl dX10_leave_0 ?_
  refine V_iload_n 1 rfl rfl dX10_leave_1 ?_
  refine X_cV 10 [.int l1] [] ma_X10_91 (by decide) rfl (by decide) (by decide) rfl (by simp [cat_i, cat_l, rf_cat]) rfl dX10_leave_2 hw (r_X10_placeAt _ _) (k_R (fun v1 h hw => ?_))
  refine V_astore_n (i := 2) [(2, va_rf v1), (0, va_rf l0), (1, .int l1)] rfl (by decide) rfl dX10_leave_5 ?_
  refine V_aload_n 0 rfl rfl dX10_leave_6 ?_
  refine V_ifnonnull (tgt := 16) dX10_leave_7 (by decide) hw (fun hw => ?_) (fun hw => ?_)
  · refine V_aload_n 1 rfl rfl dX10_leave_10 ?_
    refine V_iconst (v := (-1)) (by decide) dX10_leave_11 ?_
    refine X_cV 10 [.int (-1)] [] ma_X10_95 (by decide) rfl (by decide) (by decide) rfl (by simp [cat_i, cat_l, rf_cat]) rfl dX10_leave_12 hw (r_X10_refuse _ _) (k_I (fun v2 h hw => ?_))
    exact V_iret rfl dX10_leave_15 ⟨_, rfl, hw⟩
  · refine V_aload_n 1 rfl rfl dX10_leave_16 ?_
    refine V_aload_n 0 rfl rfl dX10_leave_17 ?_
    refine X_cV 10 [va_rf v1] [] ma_X10_484 (by decide) rfl (by decide) (by decide) rfl (by simp [cat_i, cat_l, rf_cat]) rfl dX10_leave_18 hw (r_X10_standingIn _ _) (k_I (fun v3 h hw => ?_))
    refine V_bipush (v := 12) (by decide) dX10_leave_21 ?_
    refine V_icmp_le (tgt := 33) dX10_leave_23 (by decide) hw (fun hw => ?_) (fun hw => ?_)
    · refine V_aload_n 1 rfl rfl dX10_leave_33 ?_
      refine V_aload_n 0 rfl rfl dX10_leave_34 ?_
      refine X_cV 10 [va_rf v1] [] ma_X10_487 (by decide) rfl (by decide) (by decide) rfl (by simp [cat_i, cat_l, rf_cat]) rfl dX10_leave_35 hw (r_X10_bringToQuarrel _ _) (k_V (fun h hw => ?_))
      refine V_aload_n 1 rfl rfl dX10_leave_38 ?_
      refine X_getR (c := 10) (k := 10) fa_X10_69 rfl dX10_leave_39 hw (fun v5 hw => ?_)
      refine X_cV 6 [] [] ma_X10_490 (by decide) rfl (by decide) (by decide) rfl (by simp [cat_i, cat_l, rf_cat]) rfl dX10_leave_42 hw (r_X6_fewestToLeave _) (k_I (fun v6 h hw => ?_))
      exact V_iret rfl dX10_leave_45 ⟨_, rfl, hw⟩
    · refine V_aload_n 1 rfl rfl dX10_leave_26 ?_
      refine V_bipush (v := (-7)) (by decide) dX10_leave_27 ?_
      refine X_cV 10 [.int (-7)] [] ma_X10_95 (by decide) rfl (by decide) (by decide) rfl (by simp [cat_i, cat_l, rf_cat]) rfl dX10_leave_29 hw (r_X10_refuse _ _) (k_I (fun v7 h hw => ?_))
      exact V_iret rfl dX10_leave_32 ⟨_, rfl, hw⟩
theorem r_X10_leave {l : Launch} {G : Gh} (l0 : Option Nat) (l1 : Int32) {h : Hp} {Q : Int32 → Hp → Prop} (hw : w_X10_leave l0 l1 h Q) : RunQ l G 4 yX10_leave cX10_leave 3 (some .int) [va_rf l0, .int l1] h (qI Q) :=
  V_run rfl (sl_len _ _ (by simp [cat_i, cat_l, rf_cat])) (V.sub [0, 1] (by simp only [la_r, la_i, la_l, la_n]; rfl) (s_X10_leave_0 hw))
def n_X10_less_35 (s0 : Int32) (h : Hp) (Q : Int32 → Hp → Prop) : Prop :=
  Q s0 h
def n_X10_less_17 (h : Hp) (Q : Int32 → Hp → Prop) : Prop :=
  n_X10_less_35 1000 h Q
def n_X10_less_0 (l0 : Option Nat) (l1 : Int32) (h : Hp) (Q : Int32 → Hp → Prop) : Prop :=
  oV h l0 11 <| w_X10_askAt l0 l1 h <| fun v1 h =>
  br (v1 = none) (
    n_X10_less_17 h Q) (
    gR h v1 1 15 fun v2 =>
    br (v2 = none) (
      n_X10_less_17 h Q) (
      gI h v1 1 4 fun v3 =>
      gR h v1 1 15 fun v4 =>
      gI h v4 1 4 fun v5 =>
      n_X10_less_35 (v3 - v5) h Q))
def w_X10_less (l0 : Option Nat) (l1 : Int32) (h : Hp) (Q : Int32 → Hp → Prop) : Prop := n_X10_less_0 l0 l1 h Q
theorem s_X10_less_35 {l : Launch} {G : Gh} {s0 : Int32} {h : Hp} {Q : Int32 → Hp → Prop}  (hw : n_X10_less_35 s0 h Q) : V l G 3 yX10_less cX10_less 3 (some .int) 35 [] [.int s0] h (qI Q) := by
  unfold n_X10_less_35 at hw
  exact V_iret rfl dX10_less_35 ⟨_, rfl, hw⟩
theorem s_X10_less_17 {l : Launch} {G : Gh}  {h : Hp} {Q : Int32 → Hp → Prop}  (hw : n_X10_less_17 h Q) : V l G 3 yX10_less cX10_less 3 (some .int) 17 [] [] h (qI Q) := by
  unfold n_X10_less_17 at hw
  refine V_sipush (v := 1000) (by decide) dX10_less_17 ?_
  refine V_goto (tgt := 35) dX10_less_20 (by decide) ?_
  exact V.sub [] rfl (s_X10_less_35 hw)
theorem s_X10_less_0 {l : Launch} {G : Gh} {l0 : Option Nat} {l1 : Int32} {h : Hp} {Q : Int32 → Hp → Prop}  (hw : n_X10_less_0 l0 l1 h Q) : V l G 3 yX10_less cX10_less 3 (some .int) 0 [(0, va_rf l0), (1, .int l1)] [] h (qI Q) := by
  unfold n_X10_less_0 at hw
  refine V_aload_n 0 rfl rfl dX10_less_0 ?_
  refine V_iload_n 1 rfl rfl dX10_less_1 ?_
  refine X_cV 10 [.int l1] [] ma_X10_196 (by decide) rfl (by decide) (by decide) rfl (by simp [cat_i, cat_l, rf_cat]) rfl dX10_less_2 hw (r_X10_askAt _ _) (k_R (fun v1 h hw => ?_))
  refine V_astore_n (i := 2) [(2, va_rf v1), (0, va_rf l0), (1, .int l1)] rfl (by decide) rfl dX10_less_5 ?_
  refine V_aload_n 0 rfl rfl dX10_less_6 ?_
  refine V_ifnull (tgt := 17) dX10_less_7 (by decide) hw (fun hw => ?_) (fun hw => ?_)
  · exact V.sub [] rfl (s_X10_less_17 hw)
  · refine V_aload_n 0 rfl rfl dX10_less_10 ?_
    refine X_getR (c := 0) (k := 15) fa_X10_315 rfl dX10_less_11 hw (fun v2 hw => ?_)
    refine V_ifnonnull (tgt := 23) dX10_less_14 (by decide) hw (fun hw => ?_) (fun hw => ?_)
    · exact V.sub [] rfl (s_X10_less_17 hw)
    · refine V_aload_n 0 rfl rfl dX10_less_23 ?_
      refine X_getI (c := 0) (k := 4) fa_X10_216 rfl dX10_less_24 hw (fun v3 hw => ?_)
      refine V_aload_n 0 rfl rfl dX10_less_27 ?_
      refine X_getR (c := 0) (k := 15) fa_X10_315 rfl dX10_less_28 hw (fun v4 hw => ?_)
      refine X_getI (c := 0) (k := 4) fa_X10_216 rfl dX10_less_31 hw (fun v5 hw => ?_)
      refine V_isub dX10_less_34 ?_
      exact V.sub [] rfl (s_X10_less_35 hw)
theorem r_X10_less {l : Launch} {G : Gh} (l0 : Option Nat) (l1 : Int32) {h : Hp} {Q : Int32 → Hp → Prop} (hw : w_X10_less l0 l1 h Q) : RunQ l G 3 yX10_less cX10_less 3 (some .int) [va_rf l0, .int l1] h (qI Q) :=
  V_run rfl (sl_len _ _ (by simp [cat_i, cat_l, rf_cat])) (V.sub [0, 1] (by simp only [la_r, la_i, la_l, la_n]; rfl) (s_X10_less_0 hw))
def n_X10_modelAt_24 (s0 : Option Nat) (h : Hp) (Q : Option Nat → Hp → Prop) : Prop :=
  Q s0 h
def n_X10_modelAt_0 (l0 : Option Nat) (l1 : Int32) (h : Hp) (Q : Option Nat → Hp → Prop) : Prop :=
  gI h l0 11 1294 fun v1 =>
  w_X10_isIn l1 0 (v1 - 1) h <| fun v2 h =>
  br (v2 = 0) (
    n_X10_modelAt_24 none h Q) (
    gR h l0 11 1283 fun v3 =>
    ldR h v3 l1 fun v4 =>
    n_X10_modelAt_24 v4 h Q)
def w_X10_modelAt (l0 : Option Nat) (l1 : Int32) (h : Hp) (Q : Option Nat → Hp → Prop) : Prop := n_X10_modelAt_0 l0 l1 h Q
theorem s_X10_modelAt_24 {l : Launch} {G : Gh} {s0 : Option Nat} {h : Hp} {Q : Option Nat → Hp → Prop}  (hw : n_X10_modelAt_24 s0 h Q) : V l G 2 yX10_modelAt cX10_modelAt 2 (some (.object "ComplaintBooks$Model")) 24 [] [va_rf s0] h (qR Q) := by
  unfold n_X10_modelAt_24 at hw
  exact V_aret rfl (Or.inl ⟨_, rfl⟩) dX10_modelAt_24 ⟨_, rfl, hw⟩
theorem s_X10_modelAt_0 {l : Launch} {G : Gh} {l0 : Option Nat} {l1 : Int32} {h : Hp} {Q : Option Nat → Hp → Prop}  (hw : n_X10_modelAt_0 l0 l1 h Q) : V l G 2 yX10_modelAt cX10_modelAt 2 (some (.object "ComplaintBooks$Model")) 0 [(0, va_rf l0), (1, .int l1)] [] h (qR Q) := by
  unfold n_X10_modelAt_0 at hw
  refine V_iload_n 1 rfl rfl dX10_modelAt_0 ?_
  refine V_iconst (v := 0) (by decide) dX10_modelAt_1 ?_
  refine V_aload_n 0 rfl rfl dX10_modelAt_2 ?_
  refine X_getI (c := 10) (k := 14) fa_X10_219 rfl dX10_modelAt_3 hw (fun v1 hw => ?_)
  refine V_iconst (v := 1) (by decide) dX10_modelAt_6 ?_
  refine V_isub dX10_modelAt_7 ?_
  refine X_cS [.int l1, .int 0, .int (v1 - 1)] [] ma_X10_99 (by decide) (by decide) rfl (by simp [cat_i, cat_l, rf_cat]) rfl dX10_modelAt_8 (r_X10_isIn _ _ _ hw) (k_I (fun v2 h hw => ?_))
  refine V_if_eq (tgt := 23) dX10_modelAt_11 (by decide) hw (fun hw => ?_) (fun hw => ?_)
  · refine V_null dX10_modelAt_23 ?_
    exact V.sub [] rfl (s_X10_modelAt_24 hw)
  · refine V_aload_n 0 rfl rfl dX10_modelAt_14 ?_
    refine X_getR (c := 10) (k := 3) fa_X10_29 rfl dX10_modelAt_15 hw (fun v3 hw => ?_)
    refine V_iload_n 1 rfl rfl dX10_modelAt_18 ?_
    refine X_ldR dX10_modelAt_19 hw (fun v4 hw => ?_)
    refine V_goto (tgt := 24) dX10_modelAt_20 (by decide) ?_
    exact V.sub [] rfl (s_X10_modelAt_24 hw)
theorem r_X10_modelAt {l : Launch} {G : Gh} (l0 : Option Nat) (l1 : Int32) {h : Hp} {Q : Option Nat → Hp → Prop} (hw : w_X10_modelAt l0 l1 h Q) : RunQ l G 2 yX10_modelAt cX10_modelAt 2 (some (.object "ComplaintBooks$Model")) [va_rf l0, .int l1] h (qR Q) :=
  V_run rfl (sl_len _ _ (by simp [cat_i, cat_l, rf_cat])) (V.sub [0, 1] (by simp only [la_r, la_i, la_l, la_n]; rfl) (s_X10_modelAt_0 hw))
def n_X10_likeness_46 (s0 : Int32) (h : Hp) (Q : Int32 → Hp → Prop) : Prop :=
  Q s0 h
def n_X10_likeness_29 (h : Hp) (Q : Int32 → Hp → Prop) : Prop :=
  n_X10_likeness_46 (-1) h Q
def n_X10_likeness_0 (l0 : Option Nat) (l1 : Int32) (l2 : Int32) (h : Hp) (Q : Int32 → Hp → Prop) : Prop :=
  oV h l0 11 <| w_X10_askAt l0 l1 h <| fun v1 h =>
  oV h l0 11 <| w_X10_modelAt l0 l2 h <| fun v2 h =>
  br (v1 = none) (
    n_X10_likeness_29 h Q) (
    br (v2 = none) (
      n_X10_likeness_29 h Q) (
      gR h v1 1 8 fun v3 =>
      br (v3 = none) (
        n_X10_likeness_29 h Q) (
        gR h v1 1 8 fun v4 =>
        gR h v2 4 388 fun v5 =>
        oV h l0 11 <| w_X10_likeOnes l0 v4 v5 h <| fun v6 h =>
        n_X10_likeness_46 v6 h Q)))
def w_X10_likeness (l0 : Option Nat) (l1 : Int32) (l2 : Int32) (h : Hp) (Q : Int32 → Hp → Prop) : Prop := n_X10_likeness_0 l0 l1 l2 h Q
theorem s_X10_likeness_46 {l : Launch} {G : Gh} {s0 : Int32} {h : Hp} {Q : Int32 → Hp → Prop}  (hw : n_X10_likeness_46 s0 h Q) : V l G 3 yX10_likeness cX10_likeness 5 (some .int) 46 [] [.int s0] h (qI Q) := by
  unfold n_X10_likeness_46 at hw
  exact V_iret rfl dX10_likeness_46 ⟨_, rfl, hw⟩
theorem s_X10_likeness_29 {l : Launch} {G : Gh}  {h : Hp} {Q : Int32 → Hp → Prop}  (hw : n_X10_likeness_29 h Q) : V l G 3 yX10_likeness cX10_likeness 5 (some .int) 29 [] [] h (qI Q) := by
  unfold n_X10_likeness_29 at hw
  refine V_iconst (v := (-1)) (by decide) dX10_likeness_29 ?_
  refine V_goto (tgt := 46) dX10_likeness_30 (by decide) ?_
  exact V.sub [] rfl (s_X10_likeness_46 hw)
theorem s_X10_likeness_0 {l : Launch} {G : Gh} {l0 : Option Nat} {l1 : Int32} {l2 : Int32} {h : Hp} {Q : Int32 → Hp → Prop}  (hw : n_X10_likeness_0 l0 l1 l2 h Q) : V l G 3 yX10_likeness cX10_likeness 5 (some .int) 0 [(0, va_rf l0), (1, .int l1), (2, .int l2)] [] h (qI Q) := by
  unfold n_X10_likeness_0 at hw
  refine V_aload_n 0 rfl rfl dX10_likeness_0 ?_
  refine V_iload_n 1 rfl rfl dX10_likeness_1 ?_
  refine X_cV 10 [.int l1] [] ma_X10_196 (by decide) rfl (by decide) (by decide) rfl (by simp [cat_i, cat_l, rf_cat]) rfl dX10_likeness_2 hw (r_X10_askAt _ _) (k_R (fun v1 h hw => ?_))
  refine V_astore_n (i := 3) [(3, va_rf v1), (0, va_rf l0), (1, .int l1), (2, .int l2)] rfl (by decide) rfl dX10_likeness_5 ?_
  refine V_aload_n 1 rfl rfl dX10_likeness_6 ?_
  refine V_iload_n 3 rfl rfl dX10_likeness_7 ?_
  refine X_cV 10 [.int l2] [] ma_X10_229 (by decide) rfl (by decide) (by decide) rfl (by simp [cat_i, cat_l, rf_cat]) rfl dX10_likeness_8 hw (r_X10_modelAt _ _) (k_R (fun v2 h hw => ?_))
  refine V_astore (i := 4) [(4, va_rf v2), (3, va_rf v1), (0, va_rf l0), (1, .int l1), (2, .int l2)] (by decide) (by simp [List.filter_cons, rf_cat, cat_i, cat_l]) dX10_likeness_11 ?_
  refine V_aload_n 1 rfl rfl dX10_likeness_13 ?_
  refine V_ifnull (tgt := 29) dX10_likeness_14 (by decide) hw (fun hw => ?_) (fun hw => ?_)
  · exact V.sub [] rfl (s_X10_likeness_29 hw)
  · refine V_aload 0 rfl dX10_likeness_17 ?_
    refine V_ifnull (tgt := 29) dX10_likeness_19 (by decide) hw (fun hw => ?_) (fun hw => ?_)
    · exact V.sub [] rfl (s_X10_likeness_29 hw)
    · refine V_aload_n 1 rfl rfl dX10_likeness_22 ?_
      refine X_getR (c := 0) (k := 8) fa_X10_237 rfl dX10_likeness_23 hw (fun v3 hw => ?_)
      refine V_ifnonnull (tgt := 33) dX10_likeness_26 (by decide) hw (fun hw => ?_) (fun hw => ?_)
      · exact V.sub [] rfl (s_X10_likeness_29 hw)
      · refine V_aload_n 2 rfl rfl dX10_likeness_33 ?_
        refine V_aload_n 1 rfl rfl dX10_likeness_34 ?_
        refine X_getR (c := 0) (k := 8) fa_X10_237 rfl dX10_likeness_35 hw (fun v4 hw => ?_)
        refine V_aload 0 rfl dX10_likeness_38 ?_
        refine X_getR (c := 3) (k := 4) fa_X10_240 rfl dX10_likeness_40 hw (fun v5 hw => ?_)
        refine X_cV 10 [va_rf v4, va_rf v5] [] ma_X10_241 (by decide) rfl (by decide) (by decide) rfl (by simp [cat_i, cat_l, rf_cat]) rfl dX10_likeness_43 hw (r_X10_likeOnes _ _ _) (k_I (fun v6 h hw => ?_))
        exact V.sub [] rfl (s_X10_likeness_46 hw)
theorem r_X10_likeness {l : Launch} {G : Gh} (l0 : Option Nat) (l1 : Int32) (l2 : Int32) {h : Hp} {Q : Int32 → Hp → Prop} (hw : w_X10_likeness l0 l1 l2 h Q) : RunQ l G 3 yX10_likeness cX10_likeness 5 (some .int) [va_rf l0, .int l1, .int l2] h (qI Q) :=
  V_run rfl (sl_len _ _ (by simp [cat_i, cat_l, rf_cat])) (V.sub [0, 1, 2] (by simp only [la_r, la_i, la_l, la_n]; rfl) (s_X10_likeness_0 hw))
def n_X10_lost_32 (s0 : Int32) (h : Hp) (Q : Int32 → Hp → Prop) : Prop :=
  Q s0 h
def n_X10_lost_0 (l0 : Option Nat) (l1 : Int32) (h : Hp) (Q : Int32 → Hp → Prop) : Prop :=
  oV h l0 11 <| w_X10_askAt l0 l1 h <| fun v1 h =>
  br (v1 = none) (
    Q (-1) h) (
    w_X10_lastOf v1 h <| fun v2 h =>
    gR h v2 1 16 fun v3 =>
    br (v3 = none) (
      n_X10_lost_32 (-1) h Q) (
      gI h v3 6 640 fun v4 =>
      n_X10_lost_32 v4 h Q))
def w_X10_lost (l0 : Option Nat) (l1 : Int32) (h : Hp) (Q : Int32 → Hp → Prop) : Prop := n_X10_lost_0 l0 l1 h Q
theorem s_X10_lost_32 {l : Launch} {G : Gh} {s0 : Int32} {h : Hp} {Q : Int32 → Hp → Prop}  (hw : n_X10_lost_32 s0 h Q) : V l G 3 yX10_lost cX10_lost 4 (some .int) 32 [] [.int s0] h (qI Q) := by
  unfold n_X10_lost_32 at hw
  exact V_iret rfl dX10_lost_32 ⟨_, rfl, hw⟩
theorem s_X10_lost_0 {l : Launch} {G : Gh} {l0 : Option Nat} {l1 : Int32} {h : Hp} {Q : Int32 → Hp → Prop}  (hw : n_X10_lost_0 l0 l1 h Q) : V l G 3 yX10_lost cX10_lost 4 (some .int) 0 [(0, va_rf l0), (1, .int l1)] [] h (qI Q) := by
  unfold n_X10_lost_0 at hw
  refine V_aload_n 0 rfl rfl dX10_lost_0 ?_
  refine V_iload_n 1 rfl rfl dX10_lost_1 ?_
  refine X_cV 10 [.int l1] [] ma_X10_196 (by decide) rfl (by decide) (by decide) rfl (by simp [cat_i, cat_l, rf_cat]) rfl dX10_lost_2 hw (r_X10_askAt _ _) (k_R (fun v1 h hw => ?_))
  refine V_astore_n (i := 2) [(2, va_rf v1), (0, va_rf l0), (1, .int l1)] rfl (by decide) rfl dX10_lost_5 ?_
  refine V_aload_n 0 rfl rfl dX10_lost_6 ?_
  refine V_ifnonnull (tgt := 12) dX10_lost_7 (by decide) hw (fun hw => ?_) (fun hw => ?_)
  · refine V_iconst (v := (-1)) (by decide) dX10_lost_10 ?_
    exact V_iret rfl dX10_lost_11 ⟨_, rfl, hw⟩
  · refine V_aload_n 0 rfl rfl dX10_lost_12 ?_
    refine X_cS [va_rf v1] [] ma_X10_328 (by decide) (by decide) rfl (by simp [cat_i, cat_l, rf_cat]) rfl dX10_lost_13 (r_X10_lastOf _ hw) (k_R (fun v2 h hw => ?_))
    refine X_getR (c := 0) (k := 16) fa_X10_318 rfl dX10_lost_16 hw (fun v3 hw => ?_)
    refine V_astore_n (i := 3) [(3, va_rf v3), (2, va_rf v1), (0, va_rf l0), (1, .int l1)] rfl (by decide) (by simp [List.filter_cons, rf_cat, cat_i, cat_l]) dX10_lost_19 ?_
    refine V_aload_n 0 rfl rfl dX10_lost_20 ?_
    refine V_ifnonnull (tgt := 28) dX10_lost_21 (by decide) hw (fun hw => ?_) (fun hw => ?_)
    · refine V_iconst (v := (-1)) (by decide) dX10_lost_24 ?_
      refine V_goto (tgt := 32) dX10_lost_25 (by decide) ?_
      exact V.sub [] rfl (s_X10_lost_32 hw)
    · refine V_aload_n 0 rfl rfl dX10_lost_28 ?_
      refine X_getI (c := 5) (k := 0) fa_X10_121 rfl dX10_lost_29 hw (fun v4 hw => ?_)
      exact V.sub [] rfl (s_X10_lost_32 hw)
theorem r_X10_lost {l : Launch} {G : Gh} (l0 : Option Nat) (l1 : Int32) {h : Hp} {Q : Int32 → Hp → Prop} (hw : w_X10_lost l0 l1 h Q) : RunQ l G 3 yX10_lost cX10_lost 4 (some .int) [va_rf l0, .int l1] h (qI Q) :=
  V_run rfl (sl_len _ _ (by simp [cat_i, cat_l, rf_cat])) (V.sub [0, 1] (by simp only [la_r, la_i, la_l, la_n]; rfl) (s_X10_lost_0 hw))
def b_X2_hearthsOf_9 (l0 : Option Nat) (l1 : Int32) (l2 : Int32) (l3 : Int32) (h : Hp) (Q : Int32 → Hp → Prop) (K9 : Int32 → Int32 → Hp → Prop) : Prop :=
  gR h l0 3 257 fun v3 =>
  ldI h v3 (l1 + 1) fun v4 =>
  br (v4 ≤ l3) (
    Q l2 h) (
    gR h l0 3 256 fun v5 =>
    ldR h v5 l3 fun v6 =>
    gI h v6 1 7 fun v7 =>
    lt (l2 + v7) fun x8 =>
    lt (l3 + 1) fun x9 =>
    K9 x8 x9 h)
def l_X2_hearthsOf_9 (l0 : Option Nat) (l1 : Int32) (l2 : Int32) (l3 : Int32) (h : Hp) (Q : Int32 → Hp → Prop) : Prop :=
  Lo (fun (K : Int32 × Int32 → Hp → Prop) s h => b_X2_hearthsOf_9 l0 l1 s.1 s.2 h Q (fun l2 l3 h => K (l2, l3) h)) (l2, l3) h
def n_X2_hearthsOf_0 (l0 : Option Nat) (l1 : Int32) (h : Hp) (Q : Int32 → Hp → Prop) : Prop :=
  gR h l0 3 257 fun v1 =>
  ldI h v1 l1 fun v2 =>
  l_X2_hearthsOf_9 l0 l1 0 v2 h Q
def w_X2_hearthsOf (l0 : Option Nat) (l1 : Int32) (h : Hp) (Q : Int32 → Hp → Prop) : Prop := n_X2_hearthsOf_0 l0 l1 h Q
theorem sb_X2_hearthsOf_9 {l : Launch} {G : Gh} {l0 : Option Nat} {l1 : Int32} {l2 : Int32} {l3 : Int32} {h : Hp} {Q : Int32 → Hp → Prop} {K9 : Int32 → Int32 → Hp → Prop} (hK9 : ∀ (l2 : Int32) (l3 : Int32) (h : Hp), K9 l2 l3 h → V l G 1 yX2_hearthsOf cX2_hearthsOf 4 (some .int) 9 [(0, va_rf l0), (1, .int l1), (2, .int l2), (3, .int l3)] [] h (qI Q)) (hw : b_X2_hearthsOf_9 l0 l1 l2 l3 h Q K9) : V l G 1 yX2_hearthsOf cX2_hearthsOf 4 (some .int) 9 [(0, va_rf l0), (1, .int l1), (2, .int l2), (3, .int l3)] [] h (qI Q) := by
  unfold b_X2_hearthsOf_9 at hw
  refine V_iload_n 3 rfl rfl dX2_hearthsOf_9 ?_
  refine V_aload_n 0 rfl rfl dX2_hearthsOf_10 ?_
  refine X_getR (c := 2) (k := 1) fa_X2_17 rfl dX2_hearthsOf_11 hw (fun v3 hw => ?_)
  refine V_iload_n 1 rfl rfl dX2_hearthsOf_14 ?_
  refine V_iconst (v := 1) (by decide) dX2_hearthsOf_15 ?_
  refine V_iadd dX2_hearthsOf_16 ?_
  refine X_ldI dX2_hearthsOf_17 hw (fun v4 hw => ?_)
  refine V_icmp_ge (tgt := 39) dX2_hearthsOf_18 (by decide) hw (fun hw => ?_) (fun hw => ?_)
  · refine V_iload_n 2 rfl rfl dX2_hearthsOf_39 ?_
    exact V_iret rfl dX2_hearthsOf_40 ⟨_, rfl, hw⟩
  · refine V_iload_n 2 rfl rfl dX2_hearthsOf_21 ?_
    refine V_aload_n 0 rfl rfl dX2_hearthsOf_22 ?_
    refine X_getR (c := 2) (k := 0) fa_X2_11 rfl dX2_hearthsOf_23 hw (fun v5 hw => ?_)
    refine V_iload_n 3 rfl rfl dX2_hearthsOf_26 ?_
    refine X_ldR dX2_hearthsOf_27 hw (fun v6 hw => ?_)
    refine X_getI (c := 0) (k := 7) fa_X2_45 rfl dX2_hearthsOf_28 hw (fun v7 hw => ?_)
    refine V_iadd dX2_hearthsOf_31 ?_
    refine V_ltI hw (fun x8 hw => ?_)
    refine V_istore_n (i := 2) [(2, .int x8), (0, va_rf l0), (1, .int l1), (3, .int l3)] rfl (by decide) rfl dX2_hearthsOf_32 ?_
    refine V_iincL (n := 1) 3 (fun z => [(3, .int z), (2, .int x8), (0, va_rf l0), (1, .int l1)]) rfl (by rfl) (by decide) (fun _ => rfl) dX2_hearthsOf_33 hw (fun x9 hw => ?_)
    refine V_goto (tgt := 9) dX2_hearthsOf_36 (by decide) ?_
    exact V.sub [2, 3, 1, 0] rfl (hK9 _ _ _ hw)
theorem s_X2_hearthsOf_9 {l : Launch} {G : Gh} {l0 : Option Nat} {l1 : Int32} {l2 : Int32} {l3 : Int32} {h : Hp} {Q : Int32 → Hp → Prop}  (hw : l_X2_hearthsOf_9 l0 l1 l2 l3 h Q) : V l G 1 yX2_hearthsOf cX2_hearthsOf 4 (some .int) 9 [(0, va_rf l0), (1, .int l1), (2, .int l2), (3, .int l3)] [] h (qI Q) :=
  Lo.ind (P := fun (s : Int32 × Int32) h => V l G 1 yX2_hearthsOf cX2_hearthsOf 4 (some .int) 9 [(0, va_rf l0), (1, .int l1), (2, .int s.1), (3, .int s.2)] [] h (qI Q)) (fun K ih s h hw => sb_X2_hearthsOf_9 (fun l2 l3 h hk => ih (l2, l3) h hk) hw) hw
theorem s_X2_hearthsOf_0 {l : Launch} {G : Gh} {l0 : Option Nat} {l1 : Int32} {h : Hp} {Q : Int32 → Hp → Prop}  (hw : n_X2_hearthsOf_0 l0 l1 h Q) : V l G 1 yX2_hearthsOf cX2_hearthsOf 4 (some .int) 0 [(0, va_rf l0), (1, .int l1)] [] h (qI Q) := by
  unfold n_X2_hearthsOf_0 at hw
  refine V_iconst (v := 0) (by decide) dX2_hearthsOf_0 ?_
  refine V_istore_n (i := 2) [(2, .int 0), (0, va_rf l0), (1, .int l1)] rfl (by decide) rfl dX2_hearthsOf_1 ?_
  refine V_aload_n 1 rfl rfl dX2_hearthsOf_2 ?_
  refine X_getR (c := 2) (k := 1) fa_X2_17 rfl dX2_hearthsOf_3 hw (fun v1 hw => ?_)
  refine V_iload_n 2 rfl rfl dX2_hearthsOf_6 ?_
  refine X_ldI dX2_hearthsOf_7 hw (fun v2 hw => ?_)
  refine V_istore_n (i := 3) [(3, .int v2), (2, .int 0), (0, va_rf l0), (1, .int l1)] rfl (by decide) rfl dX2_hearthsOf_8 ?_
  exact V.sub [2, 3, 1, 0] rfl (s_X2_hearthsOf_9 hw)
theorem r_X2_hearthsOf {l : Launch} {G : Gh} (l0 : Option Nat) (l1 : Int32) {h : Hp} {Q : Int32 → Hp → Prop} (hw : w_X2_hearthsOf l0 l1 h Q) : RunQ l G 1 yX2_hearthsOf cX2_hearthsOf 4 (some .int) [va_rf l0, .int l1] h (qI Q) :=
  V_run rfl (sl_len _ _ (by simp [cat_i, cat_l, rf_cat])) (V.sub [0, 1] (by simp only [la_r, la_i, la_l, la_n]; rfl) (s_X2_hearthsOf_0 hw))
def n_X10_tellFields_0 (l0 : Option Nat) (l1 : Option Nat) (l2 : Int32) (h : Hp) (Q : Hp → Prop) : Prop :=
  gR h l0 11 1289 fun v1 =>
  oV h v1 3 <| w_X2_firstOf v1 l2 h <| fun v2 h =>
  gI h v2 1 2 fun v3 =>
  gR h l0 11 1288 fun v4 =>
  gR h v4 9 1025 fun v5 =>
  gR h l0 11 1289 fun v6 =>
  oV h v6 3 <| w_X2_sizeOf v6 l2 h <| fun v7 h =>
  stI h v5 0 v7 fun h =>
  gR h l0 11 1288 fun v8 =>
  gR h v8 9 1025 fun v9 =>
  gI h l1 6 647 fun v10 =>
  stI h v9 1 v10 fun h =>
  gR h l0 11 1288 fun v11 =>
  gR h v11 9 1025 fun v12 =>
  gR h l0 11 1289 fun v13 =>
  oV h v13 3 <| w_X2_hearthsOf v13 l2 h <| fun v14 h =>
  stI h v12 2 v14 fun h =>
  gR h l0 11 1288 fun v15 =>
  gR h v15 9 1025 fun v16 =>
  gI h l1 6 646 fun v17 =>
  stI h v16 3 v17 fun h =>
  gR h l0 11 1288 fun v18 =>
  gR h v18 9 1025 fun v19 =>
  gR h l0 11 1289 fun v20 =>
  oV h v20 3 <| w_X2_joined v20 l2 120 h <| fun v21 h =>
  stI h v19 4 v21 fun h =>
  gR h l0 11 1288 fun v22 =>
  gR h v22 9 1025 fun v23 =>
  stI h v23 5 v3 fun h =>
  gR h l0 11 1288 fun v24 =>
  gR h v24 9 1025 fun v25 =>
  gI h l0 11 1297 fun v26 =>
  stI h v25 6 v26 fun h =>
  gR h l0 11 1288 fun v27 =>
  gR h v27 9 1025 fun v28 =>
  gR h l1 6 645 fun v29 =>
  ldI h v29 v3 fun v30 =>
  stI h v28 7 v30 fun h =>
  Q h
def w_X10_tellFields (l0 : Option Nat) (l1 : Option Nat) (l2 : Int32) (h : Hp) (Q : Hp → Prop) : Prop := n_X10_tellFields_0 l0 l1 l2 h Q
set_option maxRecDepth 20000 in
theorem s_X10_tellFields_0 {l : Launch} {G : Gh} {l0 : Option Nat} {l1 : Option Nat} {l2 : Int32} {h : Hp} {Q : Hp → Prop}  (hw : n_X10_tellFields_0 l0 l1 l2 h Q) : V l G 4 yX10_tellFields cX10_tellFields 4 none 0 [(0, va_rf l0), (1, va_rf l1), (2, .int l2)] [] h (qV Q) := by
  unfold n_X10_tellFields_0 at hw
  refine V_aload_n 0 rfl rfl dX10_tellFields_0 ?_
  refine X_getR (c := 10) (k := 9) fa_X10_62 rfl dX10_tellFields_1 hw (fun v1 hw => ?_)
  refine V_iload_n 2 rfl rfl dX10_tellFields_4 ?_
  refine X_cV 2 [.int l2] [] ma_X10_408 (by decide) rfl (by decide) (by decide) rfl (by simp [cat_i, cat_l, rf_cat]) rfl dX10_tellFields_5 hw (r_X2_firstOf _ _) (k_R (fun v2 h hw => ?_))
  refine X_getI (c := 0) (k := 2) fa_X10_252 rfl dX10_tellFields_8 hw (fun v3 hw => ?_)
  refine V_istore_n (i := 3) [(3, .int v3), (0, va_rf l0), (1, va_rf l1), (2, .int l2)] rfl (by decide) rfl dX10_tellFields_11 ?_
  refine V_aload_n 1 rfl rfl dX10_tellFields_12 ?_
  refine X_getR (c := 10) (k := 8) fa_X10_55 rfl dX10_tellFields_13 hw (fun v4 hw => ?_)
  refine X_getR (c := 8) (k := 1) fa_X10_411 rfl dX10_tellFields_16 hw (fun v5 hw => ?_)
  refine V_iconst (v := 0) (by decide) dX10_tellFields_19 ?_
  refine V_aload_n 1 rfl rfl dX10_tellFields_20 ?_
  refine X_getR (c := 10) (k := 9) fa_X10_62 rfl dX10_tellFields_21 hw (fun v6 hw => ?_)
  refine V_iload_n 3 rfl rfl dX10_tellFields_24 ?_
  refine X_cV 2 [.int l2] [.int 0, va_rf v5] ma_X10_414 (by decide) rfl (by decide) (by decide) rfl (by simp [cat_i, cat_l, rf_cat]) rfl dX10_tellFields_25 hw (r_X2_sizeOf _ _) (k_I (fun v7 h hw => ?_))
  refine X_stI dX10_tellFields_28 hw (fun h hw => ?_)
  refine V_aload_n 1 rfl rfl dX10_tellFields_29 ?_
  refine X_getR (c := 10) (k := 8) fa_X10_55 rfl dX10_tellFields_30 hw (fun v8 hw => ?_)
  refine X_getR (c := 8) (k := 1) fa_X10_411 rfl dX10_tellFields_33 hw (fun v9 hw => ?_)
  refine V_iconst (v := 1) (by decide) dX10_tellFields_36 ?_
  refine V_aload_n 2 rfl rfl dX10_tellFields_37 ?_
  refine X_getI (c := 5) (k := 7) fa_X10_150 rfl dX10_tellFields_38 hw (fun v10 hw => ?_)
  refine X_stI dX10_tellFields_41 hw (fun h hw => ?_)
  refine V_aload_n 1 rfl rfl dX10_tellFields_42 ?_
  refine X_getR (c := 10) (k := 8) fa_X10_55 rfl dX10_tellFields_43 hw (fun v11 hw => ?_)
  refine X_getR (c := 8) (k := 1) fa_X10_411 rfl dX10_tellFields_46 hw (fun v12 hw => ?_)
  refine V_iconst (v := 2) (by decide) dX10_tellFields_49 ?_
  refine V_aload_n 1 rfl rfl dX10_tellFields_50 ?_
  refine X_getR (c := 10) (k := 9) fa_X10_62 rfl dX10_tellFields_51 hw (fun v13 hw => ?_)
  refine V_iload_n 3 rfl rfl dX10_tellFields_54 ?_
  refine X_cV 2 [.int l2] [.int 2, va_rf v12] ma_X10_417 (by decide) rfl (by decide) (by decide) rfl (by simp [cat_i, cat_l, rf_cat]) rfl dX10_tellFields_55 hw (r_X2_hearthsOf _ _) (k_I (fun v14 h hw => ?_))
  refine X_stI dX10_tellFields_58 hw (fun h hw => ?_)
  refine V_aload_n 1 rfl rfl dX10_tellFields_59 ?_
  refine X_getR (c := 10) (k := 8) fa_X10_55 rfl dX10_tellFields_60 hw (fun v15 hw => ?_)
  refine X_getR (c := 8) (k := 1) fa_X10_411 rfl dX10_tellFields_63 hw (fun v16 hw => ?_)
  refine V_iconst (v := 3) (by decide) dX10_tellFields_66 ?_
  refine V_aload_n 2 rfl rfl dX10_tellFields_67 ?_
  refine X_getI (c := 5) (k := 6) fa_X10_127 rfl dX10_tellFields_68 hw (fun v17 hw => ?_)
  refine X_stI dX10_tellFields_71 hw (fun h hw => ?_)
  refine V_aload_n 1 rfl rfl dX10_tellFields_72 ?_
  refine X_getR (c := 10) (k := 8) fa_X10_55 rfl dX10_tellFields_73 hw (fun v18 hw => ?_)
  refine X_getR (c := 8) (k := 1) fa_X10_411 rfl dX10_tellFields_76 hw (fun v19 hw => ?_)
  refine V_iconst (v := 4) (by decide) dX10_tellFields_79 ?_
  refine V_aload_n 1 rfl rfl dX10_tellFields_80 ?_
  refine X_getR (c := 10) (k := 9) fa_X10_62 rfl dX10_tellFields_81 hw (fun v20 hw => ?_)
  refine V_iload_n 3 rfl rfl dX10_tellFields_84 ?_
  refine V_bipush (v := 120) (by decide) dX10_tellFields_85 ?_
  refine X_cV 2 [.int l2, .int 120] [.int 4, va_rf v19] ma_X10_420 (by decide) rfl (by decide) (by decide) rfl (by simp [cat_i, cat_l, rf_cat]) rfl dX10_tellFields_87 hw (r_X2_joined _ _ _) (k_I (fun v21 h hw => ?_))
  refine X_stI dX10_tellFields_90 hw (fun h hw => ?_)
  refine V_aload_n 1 rfl rfl dX10_tellFields_91 ?_
  refine X_getR (c := 10) (k := 8) fa_X10_55 rfl dX10_tellFields_92 hw (fun v22 hw => ?_)
  refine X_getR (c := 8) (k := 1) fa_X10_411 rfl dX10_tellFields_95 hw (fun v23 hw => ?_)
  refine V_iconst (v := 5) (by decide) dX10_tellFields_98 ?_
  refine V_iload_n 0 rfl rfl dX10_tellFields_99 ?_
  refine X_stI dX10_tellFields_100 hw (fun h hw => ?_)
  refine V_aload_n 1 rfl rfl dX10_tellFields_101 ?_
  refine X_getR (c := 10) (k := 8) fa_X10_55 rfl dX10_tellFields_102 hw (fun v24 hw => ?_)
  refine X_getR (c := 8) (k := 1) fa_X10_411 rfl dX10_tellFields_105 hw (fun v25 hw => ?_)
  refine V_bipush (v := 6) (by decide) dX10_tellFields_108 ?_
  refine V_aload_n 1 rfl rfl dX10_tellFields_110 ?_
  refine X_getI (c := 10) (k := 17) fa_X10_114 rfl dX10_tellFields_111 hw (fun v26 hw => ?_)
  refine X_stI dX10_tellFields_114 hw (fun h hw => ?_)
  refine V_aload_n 1 rfl rfl dX10_tellFields_115 ?_
  refine X_getR (c := 10) (k := 8) fa_X10_55 rfl dX10_tellFields_116 hw (fun v27 hw => ?_)
  refine X_getR (c := 8) (k := 1) fa_X10_411 rfl dX10_tellFields_119 hw (fun v28 hw => ?_)
  refine V_bipush (v := 7) (by decide) dX10_tellFields_122 ?_
  refine V_aload_n 2 rfl rfl dX10_tellFields_124 ?_
  refine X_getR (c := 5) (k := 5) fa_X10_360 rfl dX10_tellFields_125 hw (fun v29 hw => ?_)
  refine V_iload_n 0 rfl rfl dX10_tellFields_128 ?_
  refine X_ldI dX10_tellFields_129 hw (fun v30 hw => ?_)
  refine X_stI dX10_tellFields_130 hw (fun h hw => ?_)
  exact V_vret rfl dX10_tellFields_131 ⟨rfl, hw⟩
theorem r_X10_tellFields {l : Launch} {G : Gh} (l0 : Option Nat) (l1 : Option Nat) (l2 : Int32) {h : Hp} {Q : Hp → Prop} (hw : w_X10_tellFields l0 l1 l2 h Q) : RunQ l G 4 yX10_tellFields cX10_tellFields 4 none [va_rf l0, va_rf l1, .int l2] h (qV Q) :=
  V_run rfl (sl_len _ _ (by simp [cat_i, cat_l, rf_cat])) (V.sub [0, 1, 2] (by simp only [la_r, la_i, la_l, la_n]; rfl) (s_X10_tellFields_0 hw))
def b_X8_takeLetters_17 (l0 : Option Nat) (l1 : Option Nat) (l3 : Int32) (h : Hp) (Q : Hp → Prop) (K17 : Int32 → Hp → Prop) : Prop :=
  gI h l0 9 1026 fun v4 =>
  br (v4 ≤ l3) (
    Q h) (
    gR h l0 9 1024 fun v5 =>
    ldL h l1 l3 fun v6 =>
    stI h v5 l3 ((v6 : Int64).toInt32) fun h =>
    lt (l3 + 1) fun x7 =>
    K17 x7 h)
def l_X8_takeLetters_17 (l0 : Option Nat) (l1 : Option Nat) (l3 : Int32) (h : Hp) (Q : Hp → Prop) : Prop :=
  Lo (fun (K : Int32 → Hp → Prop) s h => b_X8_takeLetters_17 l0 l1 s h Q (fun l3 h => K (l3) h)) (l3) h
def n_X8_takeLetters_0 (l0 : Option Nat) (l1 : Option Nat) (l2 : Int32) (h : Hp) (Q : Hp → Prop) : Prop :=
  alN h l1 fun v1 =>
  lt (if 60 < v1 then 60 else v1) fun v2 =>
  lt (if v2 < l2 then v2 else l2) fun v3 =>
  pI h l0 9 1026 v3 fun h =>
  l_X8_takeLetters_17 l0 l1 0 h Q
def w_X8_takeLetters (l0 : Option Nat) (l1 : Option Nat) (l2 : Int32) (h : Hp) (Q : Hp → Prop) : Prop := n_X8_takeLetters_0 l0 l1 l2 h Q
theorem sb_X8_takeLetters_17 {l : Launch} {G : Gh} {l0 : Option Nat} {l1 : Option Nat} {l3 : Int32} {h : Hp} {Q : Hp → Prop} {K17 : Int32 → Hp → Prop} (hK17 : ∀ (l3 : Int32) (h : Hp), K17 l3 h → V l G 2 yX8_takeLetters cX8_takeLetters 4 none 17 [(0, va_rf l0), (1, va_rf l1), (3, .int l3)] [] h (qV Q)) (hw : b_X8_takeLetters_17 l0 l1 l3 h Q K17) : V l G 2 yX8_takeLetters cX8_takeLetters 4 none 17 [(0, va_rf l0), (1, va_rf l1), (3, .int l3)] [] h (qV Q) := by
  unfold b_X8_takeLetters_17 at hw
  refine V_iload_n 2 rfl rfl dX8_takeLetters_17 ?_
  refine V_aload_n 0 rfl rfl dX8_takeLetters_18 ?_
  refine X_getI (c := 8) (k := 2) fa_X8_36 rfl dX8_takeLetters_19 hw (fun v4 hw => ?_)
  refine V_icmp_ge (tgt := 41) dX8_takeLetters_22 (by decide) hw (fun hw => ?_) (fun hw => ?_)
  · exact V_vret rfl dX8_takeLetters_41 ⟨rfl, hw⟩
  · refine V_aload_n 0 rfl rfl dX8_takeLetters_25 ?_
    refine X_getR (c := 8) (k := 0) fa_X8_9 rfl dX8_takeLetters_26 hw (fun v5 hw => ?_)
    refine V_iload_n 2 rfl rfl dX8_takeLetters_29 ?_
    refine V_aload_n 1 rfl rfl dX8_takeLetters_30 ?_
    refine V_iload_n 2 rfl rfl dX8_takeLetters_31 ?_
    refine X_ldL dX8_takeLetters_32 hw (fun v6 hw => ?_)
    refine V_l2i dX8_takeLetters_33 ?_
    refine X_stI dX8_takeLetters_34 hw (fun h hw => ?_)
    refine V_iincL (n := 1) 2 (fun z => [(3, .int z), (0, va_rf l0), (1, va_rf l1)]) rfl (by rfl) (by decide) (fun _ => rfl) dX8_takeLetters_35 hw (fun x7 hw => ?_)
    refine V_goto (tgt := 17) dX8_takeLetters_38 (by decide) ?_
    exact V.sub [1, 2, 0] rfl (hK17 _ _ hw)
theorem s_X8_takeLetters_17 {l : Launch} {G : Gh} {l0 : Option Nat} {l1 : Option Nat} {l3 : Int32} {h : Hp} {Q : Hp → Prop}  (hw : l_X8_takeLetters_17 l0 l1 l3 h Q) : V l G 2 yX8_takeLetters cX8_takeLetters 4 none 17 [(0, va_rf l0), (1, va_rf l1), (3, .int l3)] [] h (qV Q) :=
  Lo.ind (P := fun (s : Int32) h => V l G 2 yX8_takeLetters cX8_takeLetters 4 none 17 [(0, va_rf l0), (1, va_rf l1), (3, .int s)] [] h (qV Q)) (fun K ih s h hw => sb_X8_takeLetters_17 (fun l3 h hk => ih (l3) h hk) hw) hw
theorem s_X8_takeLetters_0 {l : Launch} {G : Gh} {l0 : Option Nat} {l1 : Option Nat} {l2 : Int32} {h : Hp} {Q : Hp → Prop}  (hw : n_X8_takeLetters_0 l0 l1 l2 h Q) : V l G 2 yX8_takeLetters cX8_takeLetters 4 none 0 [(0, va_rf l0), (1, va_rf l1), (2, .int l2)] [] h (qV Q) := by
  unfold n_X8_takeLetters_0 at hw
  refine V_aload_n 0 rfl rfl dX8_takeLetters_0 ?_
  refine V_iload_n 2 rfl rfl dX8_takeLetters_1 ?_
  refine V_aload_n 1 rfl rfl dX8_takeLetters_2 ?_
  refine X_alen dX8_takeLetters_3 hw (fun v1 hw => ?_)
  refine V_bipush (v := 60) (by decide) dX8_takeLetters_4 ?_
  refine X_mmin wl_X8_30 (by decide) (by simp [cat_i, cat_l, rf_cat]) dX8_takeLetters_6 hw (fun v2 hw => ?_)
  refine X_mmin wl_X8_30 (by decide) (by simp [cat_i, cat_l, rf_cat]) dX8_takeLetters_9 hw (fun v3 hw => ?_)
  refine X_putI (c := 8) (k := 2) fa_X8_36 (Or.inl rfl) rfl dX8_takeLetters_12 hw (fun h hw => ?_)
  refine V_iconst (v := 0) (by decide) dX8_takeLetters_15 ?_
  refine V_istore_n (i := 3) [(3, .int 0), (0, va_rf l0), (1, va_rf l1), (2, .int l2)] rfl (by decide) rfl dX8_takeLetters_16 ?_
  exact V.sub [1, 2, 0] rfl (s_X8_takeLetters_17 hw)
theorem r_X8_takeLetters {l : Launch} {G : Gh} (l0 : Option Nat) (l1 : Option Nat) (l2 : Int32) {h : Hp} {Q : Hp → Prop} (hw : w_X8_takeLetters l0 l1 l2 h Q) : RunQ l G 2 yX8_takeLetters cX8_takeLetters 4 none [va_rf l0, va_rf l1, .int l2] h (qV Q) :=
  V_run rfl (sl_len _ _ (by simp [cat_i, cat_l, rf_cat])) (V.sub [0, 1, 2] (by simp only [la_r, la_i, la_l, la_n]; rfl) (s_X8_takeLetters_0 hw))
def n_X8_next_32 (s0 : Int32) (h : Hp) (Q : Int32 → Hp → Prop) : Prop :=
  Q s0 h
def n_X8_next_31 (h : Hp) (Q : Int32 → Hp → Prop) : Prop :=
  n_X8_next_32 (-1) h Q
def n_X8_next_0 (l0 : Option Nat) (h : Hp) (Q : Int32 → Hp → Prop) : Prop :=
  gI h l0 9 1028 fun v1 =>
  br (v1 = (-1)) (
    gI h l0 9 1027 fun v2 =>
    gI h l0 9 1026 fun v3 =>
    br (v3 ≤ v2) (
      n_X8_next_31 h Q) (
      gR h l0 9 1024 fun v4 =>
      gI h l0 9 1027 fun v5 =>
      ldI h v4 v5 fun v6 =>
      n_X8_next_32 v6 h Q)) (
    n_X8_next_31 h Q)
def w_X8_next (l0 : Option Nat) (h : Hp) (Q : Int32 → Hp → Prop) : Prop := n_X8_next_0 l0 h Q
theorem s_X8_next_32 {l : Launch} {G : Gh} {s0 : Int32} {h : Hp} {Q : Int32 → Hp → Prop}  (hw : n_X8_next_32 s0 h Q) : V l G 1 yX8_next cX8_next 1 (some .int) 32 [] [.int s0] h (qI Q) := by
  unfold n_X8_next_32 at hw
  exact V_iret rfl dX8_next_32 ⟨_, rfl, hw⟩
theorem s_X8_next_31 {l : Launch} {G : Gh}  {h : Hp} {Q : Int32 → Hp → Prop}  (hw : n_X8_next_31 h Q) : V l G 1 yX8_next cX8_next 1 (some .int) 31 [] [] h (qI Q) := by
  unfold n_X8_next_31 at hw
  refine V_iconst (v := (-1)) (by decide) dX8_next_31 ?_
  exact V.sub [] rfl (s_X8_next_32 hw)
theorem s_X8_next_0 {l : Launch} {G : Gh} {l0 : Option Nat} {h : Hp} {Q : Int32 → Hp → Prop}  (hw : n_X8_next_0 l0 h Q) : V l G 1 yX8_next cX8_next 1 (some .int) 0 [(0, va_rf l0)] [] h (qI Q) := by
  unfold n_X8_next_0 at hw
  refine V_aload_n 0 rfl rfl dX8_next_0 ?_
  refine X_getI (c := 8) (k := 4) fa_X8_26 rfl dX8_next_1 hw (fun v1 hw => ?_)
  refine V_iconst (v := (-1)) (by decide) dX8_next_4 ?_
  refine V_icmp_ne (tgt := 31) dX8_next_5 (by decide) hw (fun hw => ?_) (fun hw => ?_)
  · refine V_aload_n 0 rfl rfl dX8_next_8 ?_
    refine X_getI (c := 8) (k := 3) fa_X8_39 rfl dX8_next_9 hw (fun v2 hw => ?_)
    refine V_aload_n 0 rfl rfl dX8_next_12 ?_
    refine X_getI (c := 8) (k := 2) fa_X8_36 rfl dX8_next_13 hw (fun v3 hw => ?_)
    refine V_icmp_ge (tgt := 31) dX8_next_16 (by decide) hw (fun hw => ?_) (fun hw => ?_)
    · exact V.sub [] rfl (s_X8_next_31 hw)
    · refine V_aload_n 0 rfl rfl dX8_next_19 ?_
      refine X_getR (c := 8) (k := 0) fa_X8_9 rfl dX8_next_20 hw (fun v4 hw => ?_)
      refine V_aload_n 0 rfl rfl dX8_next_23 ?_
      refine X_getI (c := 8) (k := 3) fa_X8_39 rfl dX8_next_24 hw (fun v5 hw => ?_)
      refine X_ldI dX8_next_27 hw (fun v6 hw => ?_)
      refine V_goto (tgt := 32) dX8_next_28 (by decide) ?_
      exact V.sub [] rfl (s_X8_next_32 hw)
  · exact V.sub [] rfl (s_X8_next_31 hw)
theorem r_X8_next {l : Launch} {G : Gh} (l0 : Option Nat) {h : Hp} {Q : Int32 → Hp → Prop} (hw : w_X8_next l0 h Q) : RunQ l G 1 yX8_next cX8_next 1 (some .int) [va_rf l0] h (qI Q) :=
  V_run rfl (sl_len _ _ (by simp [cat_i, cat_l, rf_cat])) (V.sub [0] (by simp only [la_r, la_i, la_l, la_n]; rfl) (s_X8_next_0 hw))
def n_X8_fail_16 (h : Hp) (Q : Hp → Prop) : Prop :=
  Q h
def n_X8_fail_0 (l0 : Option Nat) (h : Hp) (Q : Hp → Prop) : Prop :=
  gI h l0 9 1028 fun v1 =>
  br (v1 = (-1)) (
    gI h l0 9 1027 fun v2 =>
    pI h l0 9 1028 v2 fun h =>
    n_X8_fail_16 h Q) (
    n_X8_fail_16 h Q)
def w_X8_fail (l0 : Option Nat) (h : Hp) (Q : Hp → Prop) : Prop := n_X8_fail_0 l0 h Q
theorem s_X8_fail_16 {l : Launch} {G : Gh}  {h : Hp} {Q : Hp → Prop}  (hw : n_X8_fail_16 h Q) : V l G 1 yX8_fail cX8_fail 1 none 16 [] [] h (qV Q) := by
  unfold n_X8_fail_16 at hw
  exact V_vret rfl dX8_fail_16 ⟨rfl, hw⟩
theorem s_X8_fail_0 {l : Launch} {G : Gh} {l0 : Option Nat} {h : Hp} {Q : Hp → Prop}  (hw : n_X8_fail_0 l0 h Q) : V l G 1 yX8_fail cX8_fail 1 none 0 [(0, va_rf l0)] [] h (qV Q) := by
  unfold n_X8_fail_0 at hw
  refine V_aload_n 0 rfl rfl dX8_fail_0 ?_
  refine X_getI (c := 8) (k := 4) fa_X8_26 rfl dX8_fail_1 hw (fun v1 hw => ?_)
  refine V_iconst (v := (-1)) (by decide) dX8_fail_4 ?_
  refine V_icmp_ne (tgt := 16) dX8_fail_5 (by decide) hw (fun hw => ?_) (fun hw => ?_)
  · refine V_aload_n 0 rfl rfl dX8_fail_8 ?_
    refine V_aload_n 0 rfl rfl dX8_fail_9 ?_
    refine X_getI (c := 8) (k := 3) fa_X8_39 rfl dX8_fail_10 hw (fun v2 hw => ?_)
    refine X_putI (c := 8) (k := 4) fa_X8_26 (Or.inl rfl) rfl dX8_fail_13 hw (fun h hw => ?_)
    exact V.sub [] rfl (s_X8_fail_16 hw)
  · exact V.sub [] rfl (s_X8_fail_16 hw)
theorem r_X8_fail {l : Launch} {G : Gh} (l0 : Option Nat) {h : Hp} {Q : Hp → Prop} (hw : w_X8_fail l0 h Q) : RunQ l G 1 yX8_fail cX8_fail 1 none [va_rf l0] h (qV Q) :=
  V_run rfl (sl_len _ _ (by simp [cat_i, cat_l, rf_cat])) (V.sub [0] (by simp only [la_r, la_i, la_l, la_n]; rfl) (s_X8_fail_0 hw))
def n_X8_pass_21 (h : Hp) (Q : Hp → Prop) : Prop :=
  Q h
def n_X8_pass_0 (l0 : Option Nat) (l1 : Int32) (h : Hp) (Q : Hp → Prop) : Prop :=
  br (l1 = 0) (
    oV h l0 9 <| w_X8_fail l0 h <| fun h =>
    n_X8_pass_21 h Q) (
    gI h l0 9 1027 fun v2 =>
    pI h l0 9 1027 (v2 + 1) fun h =>
    n_X8_pass_21 h Q)
def w_X8_pass (l0 : Option Nat) (l1 : Int32) (h : Hp) (Q : Hp → Prop) : Prop := n_X8_pass_0 l0 l1 h Q
theorem s_X8_pass_21 {l : Launch} {G : Gh}  {h : Hp} {Q : Hp → Prop}  (hw : n_X8_pass_21 h Q) : V l G 2 yX8_pass cX8_pass 2 none 21 [] [] h (qV Q) := by
  unfold n_X8_pass_21 at hw
  exact V_vret rfl dX8_pass_21 ⟨rfl, hw⟩
theorem s_X8_pass_0 {l : Launch} {G : Gh} {l0 : Option Nat} {l1 : Int32} {h : Hp} {Q : Hp → Prop}  (hw : n_X8_pass_0 l0 l1 h Q) : V l G 2 yX8_pass cX8_pass 2 none 0 [(0, va_rf l0), (1, .int l1)] [] h (qV Q) := by
  unfold n_X8_pass_0 at hw
  refine V_iload_n 1 rfl rfl dX8_pass_0 ?_
  refine V_if_eq (tgt := 17) dX8_pass_1 (by decide) hw (fun hw => ?_) (fun hw => ?_)
  · refine V_aload_n 0 rfl rfl dX8_pass_17 ?_
    refine X_cV 8 [] [] ma_X8_64 (by decide) rfl (by decide) (by decide) rfl (by simp [cat_i, cat_l, rf_cat]) rfl dX8_pass_18 hw (r_X8_fail _) (k_V (fun h hw => ?_))
    exact V.sub [] rfl (s_X8_pass_21 hw)
  · refine V_aload_n 0 rfl rfl dX8_pass_4 ?_
    refine V_dup (rf_cat _) dX8_pass_5 ?_
    refine X_getI (c := 8) (k := 3) fa_X8_39 rfl dX8_pass_6 hw (fun v2 hw => ?_)
    refine V_iconst (v := 1) (by decide) dX8_pass_9 ?_
    refine V_iadd dX8_pass_10 ?_
    refine X_putI (c := 8) (k := 3) fa_X8_39 (Or.inl rfl) rfl dX8_pass_11 hw (fun h hw => ?_)
    refine V_goto (tgt := 21) dX8_pass_14 (by decide) ?_
    exact V.sub [] rfl (s_X8_pass_21 hw)
theorem r_X8_pass {l : Launch} {G : Gh} (l0 : Option Nat) (l1 : Int32) {h : Hp} {Q : Hp → Prop} (hw : w_X8_pass l0 l1 h Q) : RunQ l G 2 yX8_pass cX8_pass 2 none [va_rf l0, .int l1] h (qV Q) :=
  V_run rfl (sl_len _ _ (by simp [cat_i, cat_l, rf_cat])) (V.sub [0, 1] (by simp only [la_r, la_i, la_l, la_n]; rfl) (s_X8_pass_0 hw))
def n_X8_want_14 (s0 : Int32) (s1 : Option Nat) (h : Hp) (Q : Hp → Prop) : Prop :=
  oV h s1 9 <| w_X8_pass s1 s0 h <| fun h =>
  Q h
def n_X8_want_0 (l0 : Option Nat) (l1 : Int32) (h : Hp) (Q : Hp → Prop) : Prop :=
  oV h l0 9 <| w_X8_next l0 h <| fun v1 h =>
  br (v1 = l1) (
    n_X8_want_14 1 l0 h Q) (
    n_X8_want_14 0 l0 h Q)
def w_X8_want (l0 : Option Nat) (l1 : Int32) (h : Hp) (Q : Hp → Prop) : Prop := n_X8_want_0 l0 l1 h Q
theorem s_X8_want_14 {l : Launch} {G : Gh} {s0 : Int32} {s1 : Option Nat} {h : Hp} {Q : Hp → Prop}  (hw : n_X8_want_14 s0 s1 h Q) : V l G 3 yX8_want cX8_want 2 none 14 [] [.int s0, va_rf s1] h (qV Q) := by
  unfold n_X8_want_14 at hw
  refine X_cV 8 [.int s0] [] ma_X8_60 (by decide) rfl (by decide) (by decide) rfl (by simp [cat_i, cat_l, rf_cat]) rfl dX8_want_14 hw (r_X8_pass _ _) (k_V (fun h hw => ?_))
  exact V_vret rfl dX8_want_17 ⟨rfl, hw⟩
theorem s_X8_want_0 {l : Launch} {G : Gh} {l0 : Option Nat} {l1 : Int32} {h : Hp} {Q : Hp → Prop}  (hw : n_X8_want_0 l0 l1 h Q) : V l G 3 yX8_want cX8_want 2 none 0 [(0, va_rf l0), (1, .int l1)] [] h (qV Q) := by
  unfold n_X8_want_0 at hw
  refine V_aload_n 0 rfl rfl dX8_want_0 ?_
  refine V_aload_n 0 rfl rfl dX8_want_1 ?_
  refine X_cV 8 [] [va_rf l0] ma_X8_54 (by decide) rfl (by decide) (by decide) rfl (by simp [cat_i, cat_l, rf_cat]) rfl dX8_want_2 hw (r_X8_next _) (k_I (fun v1 h hw => ?_))
  refine V_iload_n 1 rfl rfl dX8_want_5 ?_
  refine V_icmp_ne (tgt := 13) dX8_want_6 (by decide) hw (fun hw => ?_) (fun hw => ?_)
  · refine V_iconst (v := 1) (by decide) dX8_want_9 ?_
    refine V_goto (tgt := 14) dX8_want_10 (by decide) ?_
    exact V.sub [] rfl (s_X8_want_14 hw)
  · refine V_iconst (v := 0) (by decide) dX8_want_13 ?_
    exact V.sub [] rfl (s_X8_want_14 hw)
theorem r_X8_want {l : Launch} {G : Gh} (l0 : Option Nat) (l1 : Int32) {h : Hp} {Q : Hp → Prop} (hw : w_X8_want l0 l1 h Q) : RunQ l G 3 yX8_want cX8_want 2 none [va_rf l0, .int l1] h (qV Q) :=
  V_run rfl (sl_len _ _ (by simp [cat_i, cat_l, rf_cat])) (V.sub [0, 1] (by simp only [la_r, la_i, la_l, la_n]; rfl) (s_X8_want_0 hw))
def n_X8_isDigit_17 (s0 : Int32) (h : Hp) (Q : Int32 → Hp → Prop) : Prop :=
  rZ s0 h Q
def n_X8_isDigit_16 (h : Hp) (Q : Int32 → Hp → Prop) : Prop :=
  n_X8_isDigit_17 0 h Q
def n_X8_isDigit_0 (l0 : Int32) (h : Hp) (Q : Int32 → Hp → Prop) : Prop :=
  br (l0 < 48) (
    n_X8_isDigit_16 h Q) (
    br (57 < l0) (
      n_X8_isDigit_16 h Q) (
      n_X8_isDigit_17 1 h Q))
def w_X8_isDigit (l0 : Int32) (h : Hp) (Q : Int32 → Hp → Prop) : Prop := n_X8_isDigit_0 l0 h Q
theorem s_X8_isDigit_17 {l : Launch} {G : Gh} {s0 : Int32} {h : Hp} {Q : Int32 → Hp → Prop}  (hw : n_X8_isDigit_17 s0 h Q) : V l G 1 yX8_isDigit cX8_isDigit 1 (some .boolean) 17 [] [.int s0] h (qI Q) := by
  unfold n_X8_isDigit_17 at hw
  exact V_zret rfl hw.1 dX8_isDigit_17 ⟨_, rfl, hw.2⟩
theorem s_X8_isDigit_16 {l : Launch} {G : Gh}  {h : Hp} {Q : Int32 → Hp → Prop}  (hw : n_X8_isDigit_16 h Q) : V l G 1 yX8_isDigit cX8_isDigit 1 (some .boolean) 16 [] [] h (qI Q) := by
  unfold n_X8_isDigit_16 at hw
  refine V_iconst (v := 0) (by decide) dX8_isDigit_16 ?_
  exact V.sub [] rfl (s_X8_isDigit_17 hw)
theorem s_X8_isDigit_0 {l : Launch} {G : Gh} {l0 : Int32} {h : Hp} {Q : Int32 → Hp → Prop}  (hw : n_X8_isDigit_0 l0 h Q) : V l G 1 yX8_isDigit cX8_isDigit 1 (some .boolean) 0 [(0, .int l0)] [] h (qI Q) := by
  unfold n_X8_isDigit_0 at hw
  refine V_iload_n 0 rfl rfl dX8_isDigit_0 ?_
  refine V_bipush (v := 48) (by decide) dX8_isDigit_1 ?_
  refine V_icmp_lt (tgt := 16) dX8_isDigit_3 (by decide) hw (fun hw => ?_) (fun hw => ?_)
  · exact V.sub [] rfl (s_X8_isDigit_16 hw)
  · refine V_iload_n 0 rfl rfl dX8_isDigit_6 ?_
    refine V_bipush (v := 57) (by decide) dX8_isDigit_7 ?_
    refine V_icmp_gt (tgt := 16) dX8_isDigit_9 (by decide) hw (fun hw => ?_) (fun hw => ?_)
    · exact V.sub [] rfl (s_X8_isDigit_16 hw)
    · refine V_iconst (v := 1) (by decide) dX8_isDigit_12 ?_
      refine V_goto (tgt := 17) dX8_isDigit_13 (by decide) ?_
      exact V.sub [] rfl (s_X8_isDigit_17 hw)
theorem r_X8_isDigit {l : Launch} {G : Gh} (l0 : Int32) {h : Hp} {Q : Int32 → Hp → Prop} (hw : w_X8_isDigit l0 h Q) : RunQ l G 1 yX8_isDigit cX8_isDigit 1 (some .boolean) [.int l0] h (qI Q) :=
  V_run rfl (sl_len _ _ (by simp [cat_i, cat_l, rf_cat])) (V.sub [0] (by simp only [la_r, la_i, la_l, la_n]; rfl) (s_X8_isDigit_0 hw))
def b_X8_readField_7 (l0 : Option Nat) (l1 : Int32) (l2 : Int32) (h : Hp) (Q : Int32 → Hp → Prop) (K7 : Int32 → Hp → Prop) : Prop :=
  gR h l0 9 1025 fun v2 =>
  alN h v2 fun v3 =>
  br (v3 ≤ l2) (
    oV h l0 9 <| w_X8_fail l0 h <| fun h =>
    Q 0 h) (
    strChar l2 fun v5 =>
    br (v5 = l1) (
      gI h l0 9 1027 fun v6 =>
      pI h l0 9 1027 (v6 + 1) fun h =>
      gR h l0 9 1025 fun v7 =>
      ldI h v7 l2 fun v8 =>
      Q v8 h) (
      lt (l2 + 1) fun x9 =>
      K7 x9 h))
def l_X8_readField_7 (l0 : Option Nat) (l1 : Int32) (l2 : Int32) (h : Hp) (Q : Int32 → Hp → Prop) : Prop :=
  Lo (fun (K : Int32 → Hp → Prop) s h => b_X8_readField_7 l0 l1 s h Q (fun l2 h => K (l2) h)) (l2) h
def n_X8_readField_0 (l0 : Option Nat) (h : Hp) (Q : Int32 → Hp → Prop) : Prop :=
  oV h l0 9 <| w_X8_next l0 h <| fun v1 h =>
  l_X8_readField_7 l0 v1 0 h Q
def w_X8_readField (l0 : Option Nat) (h : Hp) (Q : Int32 → Hp → Prop) : Prop := n_X8_readField_0 l0 h Q
theorem sb_X8_readField_7 {l : Launch} {G : Gh} {l0 : Option Nat} {l1 : Int32} {l2 : Int32} {h : Hp} {Q : Int32 → Hp → Prop} {K7 : Int32 → Hp → Prop} (hK7 : ∀ (l2 : Int32) (h : Hp), K7 l2 h → V l G 9 yX8_readField cX8_readField 3 (some .int) 7 [(0, va_rf l0), (1, .int l1), (2, .int l2)] [] h (qI Q)) (hw : b_X8_readField_7 l0 l1 l2 h Q K7) : V l G 9 yX8_readField cX8_readField 3 (some .int) 7 [(0, va_rf l0), (1, .int l1), (2, .int l2)] [] h (qI Q) := by
  unfold b_X8_readField_7 at hw
  refine V_iload_n 2 rfl rfl dX8_readField_7 ?_
  refine V_aload_n 0 rfl rfl dX8_readField_8 ?_
  refine X_getR (c := 8) (k := 1) fa_X8_23 rfl dX8_readField_9 hw (fun v2 hw => ?_)
  refine X_alen dX8_readField_12 hw (fun v3 hw => ?_)
  refine V_icmp_ge (tgt := 49) dX8_readField_13 (by decide) hw (fun hw => ?_) (fun hw => ?_)
  · refine V_aload_n 0 rfl rfl dX8_readField_49 ?_
    refine X_cV 8 [] [] ma_X8_64 (by decide) rfl (by decide) (by decide) rfl (by simp [cat_i, cat_l, rf_cat]) rfl dX8_readField_50 hw (r_X8_fail _) (k_V (fun h hw => ?_))
    refine V_iconst (v := 0) (by decide) dX8_readField_53 ?_
    exact V_iret rfl dX8_readField_54 ⟨_, rfl, hw⟩
  · refine V_ldcF rfl dX8_readField_16 ?_
    refine V_iload_n 2 rfl rfl dX8_readField_18 ?_
    refine X_strChar ma_X8_91 (by decide) (by simp [cat_i, cat_l, rf_cat]) dX8_readField_19 hw (fun v5 hw => ?_)
    refine V_iload_n 1 rfl rfl dX8_readField_22 ?_
    refine V_icmp_ne (tgt := 43) dX8_readField_23 (by decide) hw (fun hw => ?_) (fun hw => ?_)
    · refine V_aload_n 0 rfl rfl dX8_readField_26 ?_
      refine V_dup (rf_cat _) dX8_readField_27 ?_
      refine X_getI (c := 8) (k := 3) fa_X8_39 rfl dX8_readField_28 hw (fun v6 hw => ?_)
      refine V_iconst (v := 1) (by decide) dX8_readField_31 ?_
      refine V_iadd dX8_readField_32 ?_
      refine X_putI (c := 8) (k := 3) fa_X8_39 (Or.inl rfl) rfl dX8_readField_33 hw (fun h hw => ?_)
      refine V_aload_n 0 rfl rfl dX8_readField_36 ?_
      refine X_getR (c := 8) (k := 1) fa_X8_23 rfl dX8_readField_37 hw (fun v7 hw => ?_)
      refine V_iload_n 2 rfl rfl dX8_readField_40 ?_
      refine X_ldI dX8_readField_41 hw (fun v8 hw => ?_)
      exact V_iret rfl dX8_readField_42 ⟨_, rfl, hw⟩
    · refine V_iincL (n := 1) 2 (fun z => [(2, .int z), (0, va_rf l0), (1, .int l1)]) rfl (by rfl) (by decide) (fun _ => rfl) dX8_readField_43 hw (fun x9 hw => ?_)
      refine V_goto (tgt := 7) dX8_readField_46 (by decide) ?_
      exact V.sub [1, 2, 0] rfl (hK7 _ _ hw)
