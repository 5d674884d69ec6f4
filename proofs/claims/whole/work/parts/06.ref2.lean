theorem sb_X11_count_25 {l : Launch} {G : Gh} {l0 : Option Nat} {l1 : Int32} {l2 : Int32} {l3 : Int32} {l4 : Int32} {l5 : Int32} {l6 : Int32} {h : Hp} {Q : Int32 → Hp → Prop} {K25 : Int32 → Int32 → Hp → Prop} (hK25 : ∀ (l5 : Int32) (l6 : Int32) (h : Hp), K25 l5 l6 h → V l G 3 yX11_count cX11_count 7 (some .int) 25 [(0, va_rf l0), (1, .int l1), (2, .int l2), (3, .int l3), (4, .int l4), (5, .int l5), (6, .int l6)] [] h (qI Q)) (hw : b_X11_count_25 l0 l1 l2 l3 l4 l5 l6 h Q K25) : V l G 3 yX11_count cX11_count 7 (some .int) 25 [(0, va_rf l0), (1, .int l1), (2, .int l2), (3, .int l3), (4, .int l4), (5, .int l5), (6, .int l6)] [] h (qI Q) := by
  unfold b_X11_count_25 at hw
  refine V_iload 6 rfl dX11_count_25 ?_
  refine V_aload_n 0 rfl rfl dX11_count_27 ?_
  refine X_getI (c := 11) (k := 1) fa_X11_7 rfl dX11_count_28 hw (fun v2 hw => ?_)
  refine V_icmp_ge (tgt := 100) dX11_count_31 (by decide) hw (fun hw => ?_) (fun hw => ?_)
  · refine V_iload 5 rfl dX11_count_100 ?_
    exact V_iret rfl dX11_count_102 ⟨_, rfl, hw⟩
  · refine V_aload_n 0 rfl rfl dX11_count_34 ?_
    refine X_getR (c := 11) (k := 7) fa_X11_16 rfl dX11_count_35 hw (fun v3 hw => ?_)
    refine V_iload 6 rfl dX11_count_38 ?_
    refine X_ldI dX11_count_40 hw (fun v4 hw => ?_)
    refine V_if_ne (tgt := 94) dX11_count_41 (by decide) hw (fun hw => ?_) (fun hw => ?_)
    · refine V_iload_n 3 rfl rfl dX11_count_44 ?_
      refine V_iconst (v := 3) (by decide) dX11_count_45 ?_
      refine V_icmp_eq (tgt := 60) dX11_count_46 (by decide) hw (fun hw => ?_) (fun hw => ?_)
      · exact V.sub [0, 1, 2, 3, 4, 5, 6] rfl (s_X11_count_60 hK25 hw)
      · refine V_aload_n 0 rfl rfl dX11_count_49 ?_
        refine X_getR (c := 11) (k := 10) fa_X11_26 rfl dX11_count_50 hw (fun v10 hw => ?_)
        refine V_iload 6 rfl dX11_count_53 ?_
        refine X_ldI dX11_count_55 hw (fun v11 hw => ?_)
        refine V_iload_n 3 rfl rfl dX11_count_56 ?_
        refine V_icmp_ne (tgt := 94) dX11_count_57 (by decide) hw (fun hw => ?_) (fun hw => ?_)
        · exact V.sub [0, 1, 2, 3, 4, 5, 6] rfl (s_X11_count_60 hK25 hw)
        · exact V.sub [0, 1, 2, 3, 4, 5, 6] rfl (s_X11_count_94 hK25 hw)
    · exact V.sub [0, 1, 2, 3, 4, 5, 6] rfl (s_X11_count_94 hK25 hw)
theorem s_X11_count_25 {l : Launch} {G : Gh} {l0 : Option Nat} {l1 : Int32} {l2 : Int32} {l3 : Int32} {l4 : Int32} {l5 : Int32} {l6 : Int32} {h : Hp} {Q : Int32 → Hp → Prop}  (hw : l_X11_count_25 l0 l1 l2 l3 l4 l5 l6 h Q) : V l G 3 yX11_count cX11_count 7 (some .int) 25 [(0, va_rf l0), (1, .int l1), (2, .int l2), (3, .int l3), (4, .int l4), (5, .int l5), (6, .int l6)] [] h (qI Q) :=
  Lo.ind (P := fun (s : Int32 × Int32) h => V l G 3 yX11_count cX11_count 7 (some .int) 25 [(0, va_rf l0), (1, .int l1), (2, .int l2), (3, .int l3), (4, .int l4), (5, .int s.1), (6, .int s.2)] [] h (qI Q)) (fun K ih s h hw => sb_X11_count_25 (fun l5 l6 h hk => ih (l5, l6) h hk) hw) hw
theorem s_X11_count_0 {l : Launch} {G : Gh} {l0 : Option Nat} {l1 : Int32} {l2 : Int32} {l3 : Int32} {l4 : Int32} {h : Hp} {Q : Int32 → Hp → Prop}  (hw : n_X11_count_0 l0 l1 l2 l3 l4 h Q) : V l G 3 yX11_count cX11_count 7 (some .int) 0 [(0, va_rf l0), (1, .int l1), (2, .int l2), (3, .int l3), (4, .int l4)] [] h (qI Q) := by
  unfold n_X11_count_0 at hw
  refine V_iload_n 1 rfl rfl dX11_count_0 ?_
  refine V_iload_n 2 rfl rfl dX11_count_1 ?_
  refine X_cS [.int l1, .int l2] [] ma_X11_258 (by decide) (by decide) rfl (by simp [cat_i, cat_l, rf_cat]) rfl dX11_count_2 (r_X11_isAsked _ _ hw) (k_I (fun v1 h hw => ?_))
  refine V_if_eq (tgt := 17) dX11_count_5 (by decide) hw (fun hw => ?_) (fun hw => ?_)
  · exact V.sub [] rfl (s_X11_count_17 hw)
  · refine V_iload_n 3 rfl rfl dX11_count_8 ?_
    refine V_if_lt (tgt := 17) dX11_count_9 (by decide) hw (fun hw => ?_) (fun hw => ?_)
    · exact V.sub [] rfl (s_X11_count_17 hw)
    · refine V_iload_n 3 rfl rfl dX11_count_12 ?_
      refine V_iconst (v := 3) (by decide) dX11_count_13 ?_
      refine V_icmp_le (tgt := 19) dX11_count_14 (by decide) hw (fun hw => ?_) (fun hw => ?_)
      · refine V_iconst (v := 0) (by decide) dX11_count_19 ?_
        refine V_istore (i := 5) [(5, .int 0), (0, va_rf l0), (1, .int l1), (2, .int l2), (3, .int l3), (4, .int l4)] (by decide) rfl dX11_count_20 ?_
        refine V_iconst (v := 0) (by decide) dX11_count_22 ?_
        refine V_istore (i := 6) [(6, .int 0), (5, .int 0), (0, va_rf l0), (1, .int l1), (2, .int l2), (3, .int l3), (4, .int l4)] (by decide) rfl dX11_count_23 ?_
        exact V.sub [2, 3, 4, 5, 6, 1, 0] rfl (s_X11_count_25 hw)
      · exact V.sub [] rfl (s_X11_count_17 hw)
theorem r_X11_count {l : Launch} {G : Gh} (l0 : Option Nat) (l1 : Int32) (l2 : Int32) (l3 : Int32) (l4 : Int32) {h : Hp} {Q : Int32 → Hp → Prop} (hw : w_X11_count l0 l1 l2 l3 l4 h Q) : RunQ l G 3 yX11_count cX11_count 7 (some .int) [va_rf l0, .int l1, .int l2, .int l3, .int l4] h (qI Q) :=
  V_run rfl (sl_len _ _ (by simp [cat_i, cat_l, rf_cat])) (V.sub [0, 1, 2, 3, 4] (by simp only [la_r, la_i, la_l, la_n]; rfl) (s_X11_count_0 hw))
def n_X11_days_24 (l0 : Option Nat) (h : Hp) (Q : Int32 → Hp → Prop) : Prop :=
  oV h l0 12 <| w_X11_no l0 (-6) h <| fun v1 h =>
  Q v1 h
def n_X11_days_0 (l0 : Option Nat) (l1 : Int32) (h : Hp) (Q : Int32 → Hp → Prop) : Prop :=
  br (l1 < 1) (
    n_X11_days_24 l0 h Q) (
    br (400 < l1) (
      n_X11_days_24 l0 h Q) (
      gI h l0 12 1408 fun v2 =>
      br ((v2 + l1) ≤ 4000) (
        gI h l0 12 1408 fun v3 =>
        pI h l0 12 1408 (v3 + l1) fun h =>
        gI h l0 12 1408 fun v4 =>
        Q v4 h) (
        n_X11_days_24 l0 h Q)))
def w_X11_days (l0 : Option Nat) (l1 : Int32) (h : Hp) (Q : Int32 → Hp → Prop) : Prop := n_X11_days_0 l0 l1 h Q
theorem s_X11_days_24 {l : Launch} {G : Gh} {l0 : Option Nat} {h : Hp} {Q : Int32 → Hp → Prop}  (hw : n_X11_days_24 l0 h Q) : V l G 2 yX11_days cX11_days 2 (some .int) 24 [(0, va_rf l0)] [] h (qI Q) := by
  unfold n_X11_days_24 at hw
  refine V_aload_n 0 rfl rfl dX11_days_24 ?_
  refine V_bipush (v := (-6)) (by decide) dX11_days_25 ?_
  refine X_cV 11 [.int (-6)] [] ma_X11_212 (by decide) rfl (by decide) (by decide) rfl (by simp [cat_i, cat_l, rf_cat]) rfl dX11_days_27 hw (r_X11_no _ _) (k_I (fun v1 h hw => ?_))
  exact V_iret rfl dX11_days_30 ⟨_, rfl, hw⟩
theorem s_X11_days_0 {l : Launch} {G : Gh} {l0 : Option Nat} {l1 : Int32} {h : Hp} {Q : Int32 → Hp → Prop}  (hw : n_X11_days_0 l0 l1 h Q) : V l G 2 yX11_days cX11_days 2 (some .int) 0 [(0, va_rf l0), (1, .int l1)] [] h (qI Q) := by
  unfold n_X11_days_0 at hw
  refine V_iload_n 1 rfl rfl dX11_days_0 ?_
  refine V_iconst (v := 1) (by decide) dX11_days_1 ?_
  refine V_icmp_lt (tgt := 24) dX11_days_2 (by decide) hw (fun hw => ?_) (fun hw => ?_)
  · exact V.sub [0] rfl (s_X11_days_24 hw)
  · refine V_iload_n 1 rfl rfl dX11_days_5 ?_
    refine V_sipush (v := 400) (by decide) dX11_days_6 ?_
    refine V_icmp_gt (tgt := 24) dX11_days_9 (by decide) hw (fun hw => ?_) (fun hw => ?_)
    · exact V.sub [0] rfl (s_X11_days_24 hw)
    · refine V_aload_n 0 rfl rfl dX11_days_12 ?_
      refine X_getI (c := 11) (k := 0) fa_X11_224 rfl dX11_days_13 hw (fun v2 hw => ?_)
      refine V_iload_n 1 rfl rfl dX11_days_16 ?_
      refine V_iadd dX11_days_17 ?_
      refine V_sipush (v := 4000) (by decide) dX11_days_18 ?_
      refine V_icmp_le (tgt := 31) dX11_days_21 (by decide) hw (fun hw => ?_) (fun hw => ?_)
      · refine V_aload_n 0 rfl rfl dX11_days_31 ?_
        refine V_dup (rf_cat _) dX11_days_32 ?_
        refine X_getI (c := 11) (k := 0) fa_X11_224 rfl dX11_days_33 hw (fun v3 hw => ?_)
        refine V_iload_n 1 rfl rfl dX11_days_36 ?_
        refine V_iadd dX11_days_37 ?_
        refine X_putI (c := 11) (k := 0) fa_X11_224 (Or.inl rfl) rfl dX11_days_38 hw (fun h hw => ?_)
        refine V_aload_n 0 rfl rfl dX11_days_41 ?_
        refine X_getI (c := 11) (k := 0) fa_X11_224 rfl dX11_days_42 hw (fun v4 hw => ?_)
        exact V_iret rfl dX11_days_45 ⟨_, rfl, hw⟩
      · exact V.sub [0] rfl (s_X11_days_24 hw)
theorem r_X11_days {l : Launch} {G : Gh} (l0 : Option Nat) (l1 : Int32) {h : Hp} {Q : Int32 → Hp → Prop} (hw : w_X11_days l0 l1 h Q) : RunQ l G 2 yX11_days cX11_days 2 (some .int) [va_rf l0, .int l1] h (qI Q) :=
  V_run rfl (sl_len _ _ (by simp [cat_i, cat_l, rf_cat])) (V.sub [0, 1] (by simp only [la_r, la_i, la_l, la_n]; rfl) (s_X11_days_0 hw))
def n_X11_element_46 (s0 : Int64) (h : Hp) (Q : Int64 → Hp → Prop) : Prop :=
  Q s0 h
def n_X11_element_45 (h : Hp) (Q : Int64 → Hp → Prop) : Prop :=
  n_X11_element_46 0 h Q
def n_X11_element_0 (l0 : Option Nat) (l1 : Int32) (l2 : Int32) (h : Hp) (Q : Int64 → Hp → Prop) : Prop :=
  w_X11_isShelf l1 h <| fun v1 h =>
  br (v1 = 0) (
    n_X11_element_45 h Q) (
    gR h l0 12 1424 fun v2 =>
    ldI h v2 l1 fun v3 =>
    br (v3 = 1) (
      br (l2 < 0) (
        n_X11_element_45 h Q) (
        gR h l0 12 1426 fun v4 =>
        ldI h v4 l1 fun v5 =>
        br (v5 ≤ l2) (
          n_X11_element_45 h Q) (
          gR h l0 12 1428 fun v6 =>
          ldL h v6 ((60 * l1) + l2) fun v7 =>
          n_X11_element_46 v7 h Q))) (
      n_X11_element_45 h Q))
def w_X11_element (l0 : Option Nat) (l1 : Int32) (l2 : Int32) (h : Hp) (Q : Int64 → Hp → Prop) : Prop := n_X11_element_0 l0 l1 l2 h Q
theorem s_X11_element_46 {l : Launch} {G : Gh} {s0 : Int64} {h : Hp} {Q : Int64 → Hp → Prop}  (hw : n_X11_element_46 s0 h Q) : V l G 2 yX11_element cX11_element 3 (some .long) 46 [] [.long s0] h (qL Q) := by
  unfold n_X11_element_46 at hw
  exact V_lret rfl dX11_element_46 ⟨_, rfl, hw⟩
theorem s_X11_element_45 {l : Launch} {G : Gh}  {h : Hp} {Q : Int64 → Hp → Prop}  (hw : n_X11_element_45 h Q) : V l G 2 yX11_element cX11_element 3 (some .long) 45 [] [] h (qL Q) := by
  unfold n_X11_element_45 at hw
  refine V_lconst (v := 0) (by decide) dX11_element_45 ?_
  exact V.sub [] rfl (s_X11_element_46 hw)
theorem s_X11_element_0 {l : Launch} {G : Gh} {l0 : Option Nat} {l1 : Int32} {l2 : Int32} {h : Hp} {Q : Int64 → Hp → Prop}  (hw : n_X11_element_0 l0 l1 l2 h Q) : V l G 2 yX11_element cX11_element 3 (some .long) 0 [(0, va_rf l0), (1, .int l1), (2, .int l2)] [] h (qL Q) := by
  unfold n_X11_element_0 at hw
  refine V_iload_n 1 rfl rfl dX11_element_0 ?_
  refine X_cS [.int l1] [] ma_X11_237 (by decide) (by decide) rfl (by simp [cat_i, cat_l, rf_cat]) rfl dX11_element_1 (r_X11_isShelf _ hw) (k_I (fun v1 h hw => ?_))
  refine V_if_eq (tgt := 45) dX11_element_4 (by decide) hw (fun hw => ?_) (fun hw => ?_)
  · exact V.sub [] rfl (s_X11_element_45 hw)
  · refine V_aload_n 0 rfl rfl dX11_element_7 ?_
    refine X_getR (c := 11) (k := 16) fa_X11_45 rfl dX11_element_8 hw (fun v2 hw => ?_)
    refine V_iload_n 1 rfl rfl dX11_element_11 ?_
    refine X_ldI dX11_element_12 hw (fun v3 hw => ?_)
    refine V_iconst (v := 1) (by decide) dX11_element_13 ?_
    refine V_icmp_ne (tgt := 45) dX11_element_14 (by decide) hw (fun hw => ?_) (fun hw => ?_)
    · refine V_iload_n 2 rfl rfl dX11_element_17 ?_
      refine V_if_lt (tgt := 45) dX11_element_18 (by decide) hw (fun hw => ?_) (fun hw => ?_)
      · exact V.sub [] rfl (s_X11_element_45 hw)
      · refine V_iload_n 2 rfl rfl dX11_element_21 ?_
        refine V_aload_n 0 rfl rfl dX11_element_22 ?_
        refine X_getR (c := 11) (k := 18) fa_X11_51 rfl dX11_element_23 hw (fun v4 hw => ?_)
        refine V_iload_n 1 rfl rfl dX11_element_26 ?_
        refine X_ldI dX11_element_27 hw (fun v5 hw => ?_)
        refine V_icmp_ge (tgt := 45) dX11_element_28 (by decide) hw (fun hw => ?_) (fun hw => ?_)
        · exact V.sub [] rfl (s_X11_element_45 hw)
        · refine V_aload_n 0 rfl rfl dX11_element_31 ?_
          refine X_getR (c := 11) (k := 20) fa_X11_57 rfl dX11_element_32 hw (fun v6 hw => ?_)
          refine V_bipush (v := 60) (by decide) dX11_element_35 ?_
          refine V_iload_n 1 rfl rfl dX11_element_37 ?_
          refine V_imul dX11_element_38 ?_
          refine V_iload_n 2 rfl rfl dX11_element_39 ?_
          refine V_iadd dX11_element_40 ?_
          refine X_ldL dX11_element_41 hw (fun v7 hw => ?_)
          refine V_goto (tgt := 46) dX11_element_42 (by decide) ?_
          exact V.sub [] rfl (s_X11_element_46 hw)
    · exact V.sub [] rfl (s_X11_element_45 hw)
theorem r_X11_element {l : Launch} {G : Gh} (l0 : Option Nat) (l1 : Int32) (l2 : Int32) {h : Hp} {Q : Int64 → Hp → Prop} (hw : w_X11_element l0 l1 l2 h Q) : RunQ l G 2 yX11_element cX11_element 3 (some .long) [va_rf l0, .int l1, .int l2] h (qL Q) :=
  V_run rfl (sl_len _ _ (by simp [cat_i, cat_l, rf_cat])) (V.sub [0, 1, 2] (by simp only [la_r, la_i, la_l, la_n]; rfl) (s_X11_element_0 hw))
def b_X11_endOf_2 (l0 : Option Nat) (l2 : Int32) (h : Hp) (Q : Int32 → Hp → Prop) (K2 : Int32 → Hp → Prop) : Prop :=
  gR h l0 12 1437 fun v1 =>
  ldI h v1 l2 fun v2 =>
  br (v2 = (-1)) (
    Q l2 h) (
    gR h l0 12 1437 fun v3 =>
    ldI h v3 l2 fun v4 =>
    K2 v4 h)
def l_X11_endOf_2 (l0 : Option Nat) (l2 : Int32) (h : Hp) (Q : Int32 → Hp → Prop) : Prop :=
  Lo (fun (K : Int32 → Hp → Prop) s h => b_X11_endOf_2 l0 s h Q (fun l2 h => K (l2) h)) (l2) h
def n_X11_endOf_0 (l0 : Option Nat) (l1 : Int32) (h : Hp) (Q : Int32 → Hp → Prop) : Prop :=
  l_X11_endOf_2 l0 l1 h Q
def w_X11_endOf (l0 : Option Nat) (l1 : Int32) (h : Hp) (Q : Int32 → Hp → Prop) : Prop := n_X11_endOf_0 l0 l1 h Q
theorem sb_X11_endOf_2 {l : Launch} {G : Gh} {l0 : Option Nat} {l2 : Int32} {h : Hp} {Q : Int32 → Hp → Prop} {K2 : Int32 → Hp → Prop} (hK2 : ∀ (l2 : Int32) (h : Hp), K2 l2 h → V l G 1 yX11_endOf cX11_endOf 3 (some .int) 2 [(0, va_rf l0), (2, .int l2)] [] h (qI Q)) (hw : b_X11_endOf_2 l0 l2 h Q K2) : V l G 1 yX11_endOf cX11_endOf 3 (some .int) 2 [(0, va_rf l0), (2, .int l2)] [] h (qI Q) := by
  unfold b_X11_endOf_2 at hw
  refine V_aload_n 0 rfl rfl dX11_endOf_2 ?_
  refine X_getR (c := 11) (k := 29) fa_X11_85 rfl dX11_endOf_3 hw (fun v1 hw => ?_)
  refine V_iload_n 1 rfl rfl dX11_endOf_6 ?_
  refine X_ldI dX11_endOf_7 hw (fun v2 hw => ?_)
  refine V_iconst (v := (-1)) (by decide) dX11_endOf_8 ?_
  refine V_icmp_eq (tgt := 22) dX11_endOf_9 (by decide) hw (fun hw => ?_) (fun hw => ?_)
  · refine V_iload_n 1 rfl rfl dX11_endOf_22 ?_
    exact V_iret rfl dX11_endOf_23 ⟨_, rfl, hw⟩
  · refine V_aload_n 0 rfl rfl dX11_endOf_12 ?_
    refine X_getR (c := 11) (k := 29) fa_X11_85 rfl dX11_endOf_13 hw (fun v3 hw => ?_)
    refine V_iload_n 1 rfl rfl dX11_endOf_16 ?_
    refine X_ldI dX11_endOf_17 hw (fun v4 hw => ?_)
    refine V_istore_n (i := 2) [(2, .int v4), (0, va_rf l0)] rfl (by decide) rfl dX11_endOf_18 ?_
    refine V_goto (tgt := 2) dX11_endOf_19 (by decide) ?_
    exact V.sub [1, 0] rfl (hK2 _ _ hw)
theorem s_X11_endOf_2 {l : Launch} {G : Gh} {l0 : Option Nat} {l2 : Int32} {h : Hp} {Q : Int32 → Hp → Prop}  (hw : l_X11_endOf_2 l0 l2 h Q) : V l G 1 yX11_endOf cX11_endOf 3 (some .int) 2 [(0, va_rf l0), (2, .int l2)] [] h (qI Q) :=
  Lo.ind (P := fun (s : Int32) h => V l G 1 yX11_endOf cX11_endOf 3 (some .int) 2 [(0, va_rf l0), (2, .int s)] [] h (qI Q)) (fun K ih s h hw => sb_X11_endOf_2 (fun l2 h hk => ih (l2) h hk) hw) hw
theorem s_X11_endOf_0 {l : Launch} {G : Gh} {l0 : Option Nat} {l1 : Int32} {h : Hp} {Q : Int32 → Hp → Prop}  (hw : n_X11_endOf_0 l0 l1 h Q) : V l G 1 yX11_endOf cX11_endOf 3 (some .int) 0 [(0, va_rf l0), (1, .int l1)] [] h (qI Q) := by
  unfold n_X11_endOf_0 at hw
  refine V_iload_n 1 rfl rfl dX11_endOf_0 ?_
  refine V_istore_n (i := 2) [(2, .int l1), (0, va_rf l0), (1, .int l1)] rfl (by decide) rfl dX11_endOf_1 ?_
  exact V.sub [1, 0] rfl (s_X11_endOf_2 hw)
theorem r_X11_endOf {l : Launch} {G : Gh} (l0 : Option Nat) (l1 : Int32) {h : Hp} {Q : Int32 → Hp → Prop} (hw : w_X11_endOf l0 l1 h Q) : RunQ l G 1 yX11_endOf cX11_endOf 3 (some .int) [va_rf l0, .int l1] h (qI Q) :=
  V_run rfl (sl_len _ _ (by simp [cat_i, cat_l, rf_cat])) (V.sub [0, 1] (by simp only [la_r, la_i, la_l, la_n]; rfl) (s_X11_endOf_0 hw))
def n_X11_end_17 (s0 : Int32) (h : Hp) (Q : Int32 → Hp → Prop) : Prop :=
  Q s0 h
def n_X11_end_0 (l0 : Option Nat) (l1 : Int32) (h : Hp) (Q : Int32 → Hp → Prop) : Prop :=
  oV h l0 12 <| w_X11_isAsk l0 l1 h <| fun v1 h =>
  br (v1 = 0) (
    n_X11_end_17 (-1) h Q) (
    oV h l0 12 <| w_X11_endOf l0 l1 h <| fun v2 h =>
    n_X11_end_17 v2 h Q)
def w_X11_end (l0 : Option Nat) (l1 : Int32) (h : Hp) (Q : Int32 → Hp → Prop) : Prop := n_X11_end_0 l0 l1 h Q
theorem s_X11_end_17 {l : Launch} {G : Gh} {s0 : Int32} {h : Hp} {Q : Int32 → Hp → Prop}  (hw : n_X11_end_17 s0 h Q) : V l G 2 yX11_end cX11_end 2 (some .int) 17 [] [.int s0] h (qI Q) := by
  unfold n_X11_end_17 at hw
  exact V_iret rfl dX11_end_17 ⟨_, rfl, hw⟩
theorem s_X11_end_0 {l : Launch} {G : Gh} {l0 : Option Nat} {l1 : Int32} {h : Hp} {Q : Int32 → Hp → Prop}  (hw : n_X11_end_0 l0 l1 h Q) : V l G 2 yX11_end cX11_end 2 (some .int) 0 [(0, va_rf l0), (1, .int l1)] [] h (qI Q) := by
  unfold n_X11_end_0 at hw
  refine V_aload_n 0 rfl rfl dX11_end_0 ?_
  refine V_iload_n 1 rfl rfl dX11_end_1 ?_
  refine X_cV 11 [.int l1] [] ma_X11_240 (by decide) rfl (by decide) (by decide) rfl (by simp [cat_i, cat_l, rf_cat]) rfl dX11_end_2 hw (r_X11_isAsk _ _) (k_I (fun v1 h hw => ?_))
  refine V_if_eq (tgt := 16) dX11_end_5 (by decide) hw (fun hw => ?_) (fun hw => ?_)
  · refine V_iconst (v := (-1)) (by decide) dX11_end_16 ?_
    exact V.sub [] rfl (s_X11_end_17 hw)
  · refine V_aload_n 0 rfl rfl dX11_end_8 ?_
    refine V_iload_n 1 rfl rfl dX11_end_9 ?_
    refine X_cV 11 [.int l1] [] ma_X11_267 (by decide) rfl (by decide) (by decide) rfl (by simp [cat_i, cat_l, rf_cat]) rfl dX11_end_10 hw (r_X11_endOf _ _) (k_I (fun v2 h hw => ?_))
    refine V_goto (tgt := 17) dX11_end_13 (by decide) ?_
    exact V.sub [] rfl (s_X11_end_17 hw)
theorem r_X11_end {l : Launch} {G : Gh} (l0 : Option Nat) (l1 : Int32) {h : Hp} {Q : Int32 → Hp → Prop} (hw : w_X11_end l0 l1 h Q) : RunQ l G 2 yX11_end cX11_end 2 (some .int) [va_rf l0, .int l1] h (qI Q) :=
  V_run rfl (sl_len _ _ (by simp [cat_i, cat_l, rf_cat])) (V.sub [0, 1] (by simp only [la_r, la_i, la_l, la_n]; rfl) (s_X11_end_0 hw))
def n_X11_fault_0 (l0 : Option Nat) (h : Hp) (Q : Int32 → Hp → Prop) : Prop :=
  gI h l0 12 1414 fun v1 =>
  Q v1 h
def w_X11_fault (l0 : Option Nat) (h : Hp) (Q : Int32 → Hp → Prop) : Prop := n_X11_fault_0 l0 h Q
theorem s_X11_fault_0 {l : Launch} {G : Gh} {l0 : Option Nat} {h : Hp} {Q : Int32 → Hp → Prop}  (hw : n_X11_fault_0 l0 h Q) : V l G 1 yX11_fault cX11_fault 1 (some .int) 0 [(0, va_rf l0)] [] h (qI Q) := by
  unfold n_X11_fault_0 at hw
  refine V_aload_n 0 rfl rfl dX11_fault_0 ?_
  refine X_getI (c := 11) (k := 6) fa_X11_13 rfl dX11_fault_1 hw (fun v1 hw => ?_)
  exact V_iret rfl dX11_fault_4 ⟨_, rfl, hw⟩
theorem r_X11_fault {l : Launch} {G : Gh} (l0 : Option Nat) {h : Hp} {Q : Int32 → Hp → Prop} (hw : w_X11_fault l0 h Q) : RunQ l G 1 yX11_fault cX11_fault 1 (some .int) [va_rf l0] h (qI Q) :=
  V_run rfl (sl_len _ _ (by simp [cat_i, cat_l, rf_cat])) (V.sub [0] (by simp only [la_r, la_i, la_l, la_n]; rfl) (s_X11_fault_0 hw))
def n_X11_force_85 (l0 : Option Nat) (l1 : Int32) (l2 : Int32) (l3 : Int32) (l4 : Int32) (h : Hp) (Q : Int32 → Hp → Prop) (K5 : Int32 → Int32 → Hp → Prop) : Prop :=
  lt (l4 + 1) fun x6 =>
  K5 l3 x6 h
def n_X11_force_82 (l0 : Option Nat) (l1 : Int32) (l2 : Int32) (l4 : Int32) (h : Hp) (Q : Int32 → Hp → Prop) (K5 : Int32 → Int32 → Hp → Prop) : Prop :=
  n_X11_force_85 l0 l1 l2 l4 l4 h Q K5
def n_X11_force_61 (l0 : Option Nat) (l1 : Int32) (l2 : Int32) (l3 : Int32) (l4 : Int32) (h : Hp) (Q : Int32 → Hp → Prop) (K5 : Int32 → Int32 → Hp → Prop) : Prop :=
  br (l3 = (-1)) (
    n_X11_force_82 l0 l1 l2 l4 h Q K5) (
    gR h l0 12 1452 fun v9 =>
    ldI h v9 l4 fun v10 =>
    gR h l0 12 1452 fun v11 =>
    ldI h v11 l3 fun v12 =>
    br (v10 < v12) (
      n_X11_force_85 l0 l1 l2 l3 l4 h Q K5) (
      n_X11_force_82 l0 l1 l2 l4 h Q K5))
def b_X11_force_5 (l0 : Option Nat) (l1 : Int32) (l2 : Int32) (l3 : Int32) (l4 : Int32) (h : Hp) (Q : Int32 → Hp → Prop) (K5 : Int32 → Int32 → Hp → Prop) : Prop :=
  gI h l0 12 1412 fun v1 =>
  br (v1 ≤ l4) (
    Q l3 h) (
    gR h l0 12 1451 fun v2 =>
    ldI h v2 l4 fun v3 =>
    br (v3 = l1) (
      gR h l0 12 1452 fun v4 =>
      ldI h v4 l4 fun v5 =>
      br (l2 < v5) (
        n_X11_force_85 l0 l1 l2 l3 l4 h Q K5) (
        gR h l0 12 1453 fun v7 =>
        ldI h v7 l4 fun v8 =>
        br (v8 = (-1)) (
          n_X11_force_61 l0 l1 l2 l3 l4 h Q K5) (
          gR h l0 12 1453 fun v13 =>
          ldI h v13 l4 fun v14 =>
          br (l2 < v14) (
            n_X11_force_61 l0 l1 l2 l3 l4 h Q K5) (
            n_X11_force_85 l0 l1 l2 l3 l4 h Q K5)))) (
      n_X11_force_85 l0 l1 l2 l3 l4 h Q K5))
def l_X11_force_5 (l0 : Option Nat) (l1 : Int32) (l2 : Int32) (l3 : Int32) (l4 : Int32) (h : Hp) (Q : Int32 → Hp → Prop) : Prop :=
  Lo (fun (K : Int32 × Int32 → Hp → Prop) s h => b_X11_force_5 l0 l1 l2 s.1 s.2 h Q (fun l3 l4 h => K (l3, l4) h)) (l3, l4) h
def n_X11_force_0 (l0 : Option Nat) (l1 : Int32) (l2 : Int32) (h : Hp) (Q : Int32 → Hp → Prop) : Prop :=
  l_X11_force_5 l0 l1 l2 (-1) 0 h Q
def w_X11_force (l0 : Option Nat) (l1 : Int32) (l2 : Int32) (h : Hp) (Q : Int32 → Hp → Prop) : Prop := n_X11_force_0 l0 l1 l2 h Q
theorem s_X11_force_85 {l : Launch} {G : Gh} {l0 : Option Nat} {l1 : Int32} {l2 : Int32} {l3 : Int32} {l4 : Int32} {h : Hp} {Q : Int32 → Hp → Prop} {K5 : Int32 → Int32 → Hp → Prop} (hK5 : ∀ (l3 : Int32) (l4 : Int32) (h : Hp), K5 l3 l4 h → V l G 1 yX11_force cX11_force 5 (some .int) 5 [(0, va_rf l0), (1, .int l1), (2, .int l2), (3, .int l3), (4, .int l4)] [] h (qI Q)) (hw : n_X11_force_85 l0 l1 l2 l3 l4 h Q K5) : V l G 1 yX11_force cX11_force 5 (some .int) 85 [(0, va_rf l0), (1, .int l1), (2, .int l2), (3, .int l3), (4, .int l4)] [] h (qI Q) := by
  unfold n_X11_force_85 at hw
  refine V_iincL (n := 1) 4 (fun z => [(4, .int z), (0, va_rf l0), (1, .int l1), (2, .int l2), (3, .int l3)]) rfl (by rfl) (by decide) (fun _ => rfl) dX11_force_85 hw (fun x6 hw => ?_)
  refine V_goto (tgt := 5) dX11_force_88 (by decide) ?_
  exact V.sub [1, 2, 3, 4, 0] rfl (hK5 _ _ _ hw)
theorem s_X11_force_82 {l : Launch} {G : Gh} {l0 : Option Nat} {l1 : Int32} {l2 : Int32} {l4 : Int32} {h : Hp} {Q : Int32 → Hp → Prop} {K5 : Int32 → Int32 → Hp → Prop} (hK5 : ∀ (l3 : Int32) (l4 : Int32) (h : Hp), K5 l3 l4 h → V l G 1 yX11_force cX11_force 5 (some .int) 5 [(0, va_rf l0), (1, .int l1), (2, .int l2), (3, .int l3), (4, .int l4)] [] h (qI Q)) (hw : n_X11_force_82 l0 l1 l2 l4 h Q K5) : V l G 1 yX11_force cX11_force 5 (some .int) 82 [(0, va_rf l0), (1, .int l1), (2, .int l2), (4, .int l4)] [] h (qI Q) := by
  unfold n_X11_force_82 at hw
  refine V_iload 3 rfl dX11_force_82 ?_
  refine V_istore_n (i := 3) [(3, .int l4), (0, va_rf l0), (1, .int l1), (2, .int l2), (4, .int l4)] rfl (by decide) rfl dX11_force_84 ?_
  exact V.sub [1, 2, 3, 0, 4] rfl (s_X11_force_85 hK5 hw)
theorem s_X11_force_61 {l : Launch} {G : Gh} {l0 : Option Nat} {l1 : Int32} {l2 : Int32} {l3 : Int32} {l4 : Int32} {h : Hp} {Q : Int32 → Hp → Prop} {K5 : Int32 → Int32 → Hp → Prop} (hK5 : ∀ (l3 : Int32) (l4 : Int32) (h : Hp), K5 l3 l4 h → V l G 1 yX11_force cX11_force 5 (some .int) 5 [(0, va_rf l0), (1, .int l1), (2, .int l2), (3, .int l3), (4, .int l4)] [] h (qI Q)) (hw : n_X11_force_61 l0 l1 l2 l3 l4 h Q K5) : V l G 1 yX11_force cX11_force 5 (some .int) 61 [(0, va_rf l0), (1, .int l1), (2, .int l2), (3, .int l3), (4, .int l4)] [] h (qI Q) := by
  unfold n_X11_force_61 at hw
  refine V_iload_n 3 rfl rfl dX11_force_61 ?_
  refine V_iconst (v := (-1)) (by decide) dX11_force_62 ?_
  refine V_icmp_eq (tgt := 82) dX11_force_63 (by decide) hw (fun hw => ?_) (fun hw => ?_)
  · exact V.sub [0, 1, 2, 4] rfl (s_X11_force_82 hK5 hw)
  · refine V_aload_n 0 rfl rfl dX11_force_66 ?_
    refine X_getR (c := 11) (k := 44) fa_X11_130 rfl dX11_force_67 hw (fun v9 hw => ?_)
    refine V_iload 4 rfl dX11_force_70 ?_
    refine X_ldI dX11_force_72 hw (fun v10 hw => ?_)
    refine V_aload_n 0 rfl rfl dX11_force_73 ?_
    refine X_getR (c := 11) (k := 44) fa_X11_130 rfl dX11_force_74 hw (fun v11 hw => ?_)
    refine V_iload_n 3 rfl rfl dX11_force_77 ?_
    refine X_ldI dX11_force_78 hw (fun v12 hw => ?_)
    refine V_icmp_lt (tgt := 85) dX11_force_79 (by decide) hw (fun hw => ?_) (fun hw => ?_)
    · exact V.sub [0, 1, 2, 3, 4] rfl (s_X11_force_85 hK5 hw)
    · exact V.sub [0, 1, 2, 4] rfl (s_X11_force_82 hK5 hw)
theorem sb_X11_force_5 {l : Launch} {G : Gh} {l0 : Option Nat} {l1 : Int32} {l2 : Int32} {l3 : Int32} {l4 : Int32} {h : Hp} {Q : Int32 → Hp → Prop} {K5 : Int32 → Int32 → Hp → Prop} (hK5 : ∀ (l3 : Int32) (l4 : Int32) (h : Hp), K5 l3 l4 h → V l G 1 yX11_force cX11_force 5 (some .int) 5 [(0, va_rf l0), (1, .int l1), (2, .int l2), (3, .int l3), (4, .int l4)] [] h (qI Q)) (hw : b_X11_force_5 l0 l1 l2 l3 l4 h Q K5) : V l G 1 yX11_force cX11_force 5 (some .int) 5 [(0, va_rf l0), (1, .int l1), (2, .int l2), (3, .int l3), (4, .int l4)] [] h (qI Q) := by
  unfold b_X11_force_5 at hw
  refine V_iload 4 rfl dX11_force_5 ?_
  refine V_aload_n 0 rfl rfl dX11_force_7 ?_
  refine X_getI (c := 11) (k := 4) fa_X11_329 rfl dX11_force_8 hw (fun v1 hw => ?_)
  refine V_icmp_ge (tgt := 91) dX11_force_11 (by decide) hw (fun hw => ?_) (fun hw => ?_)
  · refine V_iload_n 3 rfl rfl dX11_force_91 ?_
    exact V_iret rfl dX11_force_92 ⟨_, rfl, hw⟩
  · refine V_aload_n 0 rfl rfl dX11_force_14 ?_
    refine X_getR (c := 11) (k := 43) fa_X11_127 rfl dX11_force_15 hw (fun v2 hw => ?_)
    refine V_iload 4 rfl dX11_force_18 ?_
    refine X_ldI dX11_force_20 hw (fun v3 hw => ?_)
    refine V_iload_n 1 rfl rfl dX11_force_21 ?_
    refine V_icmp_ne (tgt := 85) dX11_force_22 (by decide) hw (fun hw => ?_) (fun hw => ?_)
    · refine V_aload_n 0 rfl rfl dX11_force_25 ?_
      refine X_getR (c := 11) (k := 44) fa_X11_130 rfl dX11_force_26 hw (fun v4 hw => ?_)
      refine V_iload 4 rfl dX11_force_29 ?_
      refine X_ldI dX11_force_31 hw (fun v5 hw => ?_)
      refine V_iload_n 2 rfl rfl dX11_force_32 ?_
      refine V_icmp_gt (tgt := 85) dX11_force_33 (by decide) hw (fun hw => ?_) (fun hw => ?_)
      · exact V.sub [0, 1, 2, 3, 4] rfl (s_X11_force_85 hK5 hw)
      · refine V_aload_n 0 rfl rfl dX11_force_36 ?_
        refine X_getR (c := 11) (k := 45) fa_X11_133 rfl dX11_force_37 hw (fun v7 hw => ?_)
        refine V_iload 4 rfl dX11_force_40 ?_
        refine X_ldI dX11_force_42 hw (fun v8 hw => ?_)
        refine V_iconst (v := (-1)) (by decide) dX11_force_43 ?_
        refine V_icmp_eq (tgt := 61) dX11_force_44 (by decide) hw (fun hw => ?_) (fun hw => ?_)
        · exact V.sub [0, 1, 2, 3, 4] rfl (s_X11_force_61 hK5 hw)
        · refine V_aload_n 0 rfl rfl dX11_force_47 ?_
          refine X_getR (c := 11) (k := 45) fa_X11_133 rfl dX11_force_48 hw (fun v13 hw => ?_)
          refine V_iload 4 rfl dX11_force_51 ?_
          refine X_ldI dX11_force_53 hw (fun v14 hw => ?_)
          refine V_iload_n 2 rfl rfl dX11_force_54 ?_
          refine V_icmp_gt (tgt := 61) dX11_force_55 (by decide) hw (fun hw => ?_) (fun hw => ?_)
          · exact V.sub [0, 1, 2, 3, 4] rfl (s_X11_force_61 hK5 hw)
          · refine V_goto (tgt := 85) dX11_force_58 (by decide) ?_
            exact V.sub [0, 1, 2, 3, 4] rfl (s_X11_force_85 hK5 hw)
    · exact V.sub [0, 1, 2, 3, 4] rfl (s_X11_force_85 hK5 hw)
theorem s_X11_force_5 {l : Launch} {G : Gh} {l0 : Option Nat} {l1 : Int32} {l2 : Int32} {l3 : Int32} {l4 : Int32} {h : Hp} {Q : Int32 → Hp → Prop}  (hw : l_X11_force_5 l0 l1 l2 l3 l4 h Q) : V l G 1 yX11_force cX11_force 5 (some .int) 5 [(0, va_rf l0), (1, .int l1), (2, .int l2), (3, .int l3), (4, .int l4)] [] h (qI Q) :=
  Lo.ind (P := fun (s : Int32 × Int32) h => V l G 1 yX11_force cX11_force 5 (some .int) 5 [(0, va_rf l0), (1, .int l1), (2, .int l2), (3, .int s.1), (4, .int s.2)] [] h (qI Q)) (fun K ih s h hw => sb_X11_force_5 (fun l3 l4 h hk => ih (l3, l4) h hk) hw) hw
theorem s_X11_force_0 {l : Launch} {G : Gh} {l0 : Option Nat} {l1 : Int32} {l2 : Int32} {h : Hp} {Q : Int32 → Hp → Prop}  (hw : n_X11_force_0 l0 l1 l2 h Q) : V l G 1 yX11_force cX11_force 5 (some .int) 0 [(0, va_rf l0), (1, .int l1), (2, .int l2)] [] h (qI Q) := by
  unfold n_X11_force_0 at hw
  refine V_iconst (v := (-1)) (by decide) dX11_force_0 ?_
  refine V_istore_n (i := 3) [(3, .int (-1)), (0, va_rf l0), (1, .int l1), (2, .int l2)] rfl (by decide) rfl dX11_force_1 ?_
  refine V_iconst (v := 0) (by decide) dX11_force_2 ?_
  refine V_istore (i := 4) [(4, .int 0), (3, .int (-1)), (0, va_rf l0), (1, .int l1), (2, .int l2)] (by decide) rfl dX11_force_3 ?_
  exact V.sub [2, 3, 4, 1, 0] rfl (s_X11_force_5 hw)
theorem r_X11_force {l : Launch} {G : Gh} (l0 : Option Nat) (l1 : Int32) (l2 : Int32) {h : Hp} {Q : Int32 → Hp → Prop} (hw : w_X11_force l0 l1 l2 h Q) : RunQ l G 1 yX11_force cX11_force 5 (some .int) [va_rf l0, .int l1, .int l2] h (qI Q) :=
  V_run rfl (sl_len _ _ (by simp [cat_i, cat_l, rf_cat])) (V.sub [0, 1, 2] (by simp only [la_r, la_i, la_l, la_n]; rfl) (s_X11_force_0 hw))
def n_X11_give_57 (l0 : Option Nat) (h : Hp) (Q : Int32 → Hp → Prop) : Prop :=
  oV h l0 12 <| w_X11_no l0 (-6) h <| fun v5 h =>
  Q v5 h
def n_X11_give_97 (l0 : Option Nat) (h : Hp) (Q : Int32 → Hp → Prop) : Prop :=
  oV h l0 12 <| w_X11_no l0 (-6) h <| fun v18 h =>
  Q v18 h
def n_X11_give_104 (l0 : Option Nat) (l1 : Int32) (h : Hp) (Q : Int32 → Hp → Prop) : Prop :=
  gR h l0 12 1444 fun v22 =>
  stZ h v22 l1 1 fun h =>
  gR h l0 12 1421 fun v23 =>
  gR h l0 12 1430 fun v24 =>
  ldI h v24 l1 fun v25 =>
  ldI h v23 v25 fun v26 =>
  Q v26 h
def n_X11_give_0 (l0 : Option Nat) (l1 : Int32) (h : Hp) (Q : Int32 → Hp → Prop) : Prop :=
  oV h l0 12 <| w_X11_isAsk l0 l1 h <| fun v1 h =>
  br (v1 = 0) (
    oV h l0 12 <| w_X11_no l0 (-1) h <| fun v2 h =>
    Q v2 h) (
    gR h l0 12 1435 fun v3 =>
    ldI h v3 l1 fun v4 =>
    br (v4 < 2) (
      n_X11_give_57 l0 h Q) (
      gR h l0 12 1430 fun v6 =>
      ldI h v6 l1 fun v7 =>
      br (v7 = 0) (
        n_X11_give_57 l0 h Q) (
        gR h l0 12 1421 fun v8 =>
        gR h l0 12 1430 fun v9 =>
        ldI h v9 l1 fun v10 =>
        ldI h v8 v10 fun v11 =>
        br (v11 = (-1)) (
          n_X11_give_57 l0 h Q) (
          gR h l0 12 1444 fun v12 =>
          ldZ h v12 l1 fun v13 =>
          br (v13 = 0) (
            gR h l0 12 1435 fun v14 =>
            ldI h v14 l1 fun v15 =>
            br (v15 = 3) (
              gR h l0 12 1440 fun v16 =>
              ldI h v16 l1 fun v17 =>
              br (v17 = (-1)) (
                n_X11_give_97 l0 h Q) (
                gR h l0 12 1440 fun v19 =>
                ldI h v19 l1 fun v20 =>
                gI h l0 12 1408 fun v21 =>
                br (v20 ≤ v21) (
                  n_X11_give_104 l0 l1 h Q) (
                  n_X11_give_97 l0 h Q))) (
              n_X11_give_104 l0 l1 h Q)) (
            n_X11_give_57 l0 h Q)))))
def w_X11_give (l0 : Option Nat) (l1 : Int32) (h : Hp) (Q : Int32 → Hp → Prop) : Prop := n_X11_give_0 l0 l1 h Q
theorem s_X11_give_57 {l : Launch} {G : Gh} {l0 : Option Nat} {h : Hp} {Q : Int32 → Hp → Prop}  (hw : n_X11_give_57 l0 h Q) : V l G 2 yX11_give cX11_give 2 (some .int) 57 [(0, va_rf l0)] [] h (qI Q) := by
  unfold n_X11_give_57 at hw
  refine V_aload_n 0 rfl rfl dX11_give_57 ?_
  refine V_bipush (v := (-6)) (by decide) dX11_give_58 ?_
  refine X_cV 11 [.int (-6)] [] ma_X11_212 (by decide) rfl (by decide) (by decide) rfl (by simp [cat_i, cat_l, rf_cat]) rfl dX11_give_60 hw (r_X11_no _ _) (k_I (fun v5 h hw => ?_))
  exact V_iret rfl dX11_give_63 ⟨_, rfl, hw⟩
theorem s_X11_give_97 {l : Launch} {G : Gh} {l0 : Option Nat} {h : Hp} {Q : Int32 → Hp → Prop}  (hw : n_X11_give_97 l0 h Q) : V l G 2 yX11_give cX11_give 2 (some .int) 97 [(0, va_rf l0)] [] h (qI Q) := by
  unfold n_X11_give_97 at hw
  refine V_aload_n 0 rfl rfl dX11_give_97 ?_
  refine V_bipush (v := (-6)) (by decide) dX11_give_98 ?_
  refine X_cV 11 [.int (-6)] [] ma_X11_212 (by decide) rfl (by decide) (by decide) rfl (by simp [cat_i, cat_l, rf_cat]) rfl dX11_give_100 hw (r_X11_no _ _) (k_I (fun v18 h hw => ?_))
  exact V_iret rfl dX11_give_103 ⟨_, rfl, hw⟩
theorem s_X11_give_104 {l : Launch} {G : Gh} {l0 : Option Nat} {l1 : Int32} {h : Hp} {Q : Int32 → Hp → Prop}  (hw : n_X11_give_104 l0 l1 h Q) : V l G 2 yX11_give cX11_give 2 (some .int) 104 [(0, va_rf l0), (1, .int l1)] [] h (qI Q) := by
  unfold n_X11_give_104 at hw
  refine V_aload_n 0 rfl rfl dX11_give_104 ?_
  refine X_getR (c := 11) (k := 36) fa_X11_106 rfl dX11_give_105 hw (fun v22 hw => ?_)
  refine V_iload_n 1 rfl rfl dX11_give_108 ?_
  refine V_iconst (v := 1) (by decide) dX11_give_109 ?_
  refine X_stZ dX11_give_110 hw (fun h hw => ?_)
  refine V_aload_n 0 rfl rfl dX11_give_111 ?_
  refine X_getR (c := 11) (k := 13) fa_X11_35 rfl dX11_give_112 hw (fun v23 hw => ?_)
  refine V_aload_n 0 rfl rfl dX11_give_115 ?_
  refine X_getR (c := 11) (k := 22) fa_X11_64 rfl dX11_give_116 hw (fun v24 hw => ?_)
  refine V_iload_n 1 rfl rfl dX11_give_119 ?_
  refine X_ldI dX11_give_120 hw (fun v25 hw => ?_)
  refine X_ldI dX11_give_121 hw (fun v26 hw => ?_)
  exact V_iret rfl dX11_give_122 ⟨_, rfl, hw⟩
set_option maxRecDepth 20000 in
theorem s_X11_give_0 {l : Launch} {G : Gh} {l0 : Option Nat} {l1 : Int32} {h : Hp} {Q : Int32 → Hp → Prop}  (hw : n_X11_give_0 l0 l1 h Q) : V l G 2 yX11_give cX11_give 2 (some .int) 0 [(0, va_rf l0), (1, .int l1)] [] h (qI Q) := by
  unfold n_X11_give_0 at hw
  refine V_aload_n 0 rfl rfl dX11_give_0 ?_
  refine V_iload_n 1 rfl rfl dX11_give_1 ?_
  refine X_cV 11 [.int l1] [] ma_X11_240 (by decide) rfl (by decide) (by decide) rfl (by simp [cat_i, cat_l, rf_cat]) rfl dX11_give_2 hw (r_X11_isAsk _ _) (k_I (fun v1 h hw => ?_))
  refine V_if_ne (tgt := 14) dX11_give_5 (by decide) hw (fun hw => ?_) (fun hw => ?_)
  · refine V_aload_n 0 rfl rfl dX11_give_8 ?_
    refine V_iconst (v := (-1)) (by decide) dX11_give_9 ?_
    refine X_cV 11 [.int (-1)] [] ma_X11_212 (by decide) rfl (by decide) (by decide) rfl (by simp [cat_i, cat_l, rf_cat]) rfl dX11_give_10 hw (r_X11_no _ _) (k_I (fun v2 h hw => ?_))
    exact V_iret rfl dX11_give_13 ⟨_, rfl, hw⟩
  · refine V_aload_n 0 rfl rfl dX11_give_14 ?_
    refine X_getR (c := 11) (k := 27) fa_X11_79 rfl dX11_give_15 hw (fun v3 hw => ?_)
    refine V_iload_n 1 rfl rfl dX11_give_18 ?_
    refine X_ldI dX11_give_19 hw (fun v4 hw => ?_)
    refine V_iconst (v := 2) (by decide) dX11_give_20 ?_
    refine V_icmp_lt (tgt := 57) dX11_give_21 (by decide) hw (fun hw => ?_) (fun hw => ?_)
    · exact V.sub [0] rfl (s_X11_give_57 hw)
    · refine V_aload_n 0 rfl rfl dX11_give_24 ?_
      refine X_getR (c := 11) (k := 22) fa_X11_64 rfl dX11_give_25 hw (fun v6 hw => ?_)
      refine V_iload_n 1 rfl rfl dX11_give_28 ?_
      refine X_ldI dX11_give_29 hw (fun v7 hw => ?_)
      refine V_if_eq (tgt := 57) dX11_give_30 (by decide) hw (fun hw => ?_) (fun hw => ?_)
      · exact V.sub [0] rfl (s_X11_give_57 hw)
      · refine V_aload_n 0 rfl rfl dX11_give_33 ?_
        refine X_getR (c := 11) (k := 13) fa_X11_35 rfl dX11_give_34 hw (fun v8 hw => ?_)
        refine V_aload_n 0 rfl rfl dX11_give_37 ?_
        refine X_getR (c := 11) (k := 22) fa_X11_64 rfl dX11_give_38 hw (fun v9 hw => ?_)
        refine V_iload_n 1 rfl rfl dX11_give_41 ?_
        refine X_ldI dX11_give_42 hw (fun v10 hw => ?_)
        refine X_ldI dX11_give_43 hw (fun v11 hw => ?_)
        refine V_iconst (v := (-1)) (by decide) dX11_give_44 ?_
        refine V_icmp_eq (tgt := 57) dX11_give_45 (by decide) hw (fun hw => ?_) (fun hw => ?_)
        · exact V.sub [0] rfl (s_X11_give_57 hw)
        · refine V_aload_n 0 rfl rfl dX11_give_48 ?_
          refine X_getR (c := 11) (k := 36) fa_X11_106 rfl dX11_give_49 hw (fun v12 hw => ?_)
          refine V_iload_n 1 rfl rfl dX11_give_52 ?_
          refine X_ldZ dX11_give_53 hw (fun v13 hw => ?_)
          refine V_if_eq (tgt := 64) dX11_give_54 (by decide) hw (fun hw => ?_) (fun hw => ?_)
          · refine V_aload_n 0 rfl rfl dX11_give_64 ?_
            refine X_getR (c := 11) (k := 27) fa_X11_79 rfl dX11_give_65 hw (fun v14 hw => ?_)
            refine V_iload_n 1 rfl rfl dX11_give_68 ?_
            refine X_ldI dX11_give_69 hw (fun v15 hw => ?_)
            refine V_iconst (v := 3) (by decide) dX11_give_70 ?_
            refine V_icmp_ne (tgt := 104) dX11_give_71 (by decide) hw (fun hw => ?_) (fun hw => ?_)
            · refine V_aload_n 0 rfl rfl dX11_give_74 ?_
              refine X_getR (c := 11) (k := 32) fa_X11_94 rfl dX11_give_75 hw (fun v16 hw => ?_)
              refine V_iload_n 1 rfl rfl dX11_give_78 ?_
              refine X_ldI dX11_give_79 hw (fun v17 hw => ?_)
              refine V_iconst (v := (-1)) (by decide) dX11_give_80 ?_
              refine V_icmp_eq (tgt := 97) dX11_give_81 (by decide) hw (fun hw => ?_) (fun hw => ?_)
              · exact V.sub [0] rfl (s_X11_give_97 hw)
              · refine V_aload_n 0 rfl rfl dX11_give_84 ?_
                refine X_getR (c := 11) (k := 32) fa_X11_94 rfl dX11_give_85 hw (fun v19 hw => ?_)
                refine V_iload_n 1 rfl rfl dX11_give_88 ?_
                refine X_ldI dX11_give_89 hw (fun v20 hw => ?_)
                refine V_aload_n 0 rfl rfl dX11_give_90 ?_
                refine X_getI (c := 11) (k := 0) fa_X11_224 rfl dX11_give_91 hw (fun v21 hw => ?_)
                refine V_icmp_le (tgt := 104) dX11_give_94 (by decide) hw (fun hw => ?_) (fun hw => ?_)
                · exact V.sub [0, 1] rfl (s_X11_give_104 hw)
                · exact V.sub [0] rfl (s_X11_give_97 hw)
            · exact V.sub [0, 1] rfl (s_X11_give_104 hw)
          · exact V.sub [0] rfl (s_X11_give_57 hw)
theorem r_X11_give {l : Launch} {G : Gh} (l0 : Option Nat) (l1 : Int32) {h : Hp} {Q : Int32 → Hp → Prop} (hw : w_X11_give l0 l1 h Q) : RunQ l G 2 yX11_give cX11_give 2 (some .int) [va_rf l0, .int l1] h (qI Q) :=
  V_run rfl (sl_len _ _ (by simp [cat_i, cat_l, rf_cat])) (V.sub [0, 1] (by simp only [la_r, la_i, la_l, la_n]; rfl) (s_X11_give_0 hw))
def n_X11_holds_16 (h : Hp) (Q : Int32 → Hp → Prop) : Prop :=
  Q (-1) h
def n_X11_holds_47 (s0 : Int32) (h : Hp) (Q : Int32 → Hp → Prop) : Prop :=
  Q s0 h
def n_X11_holds_0 (l0 : Option Nat) (l1 : Int32) (h : Hp) (Q : Int32 → Hp → Prop) : Prop :=
  w_X11_isShelf l1 h <| fun v1 h =>
  br (v1 = 0) (
    n_X11_holds_16 h Q) (
    gR h l0 12 1424 fun v2 =>
    ldI h v2 l1 fun v3 =>
    br (v3 = 0) (
      n_X11_holds_16 h Q) (
      gR h l0 12 1424 fun v4 =>
      ldI h v4 l1 fun v5 =>
      br (v5 = 1) (
        gR h l0 12 1425 fun v6 =>
        ldI h v6 l1 fun v7 =>
        n_X11_holds_47 (1000 + v7) h Q) (
        gR h l0 12 1427 fun v8 =>
        ldI h v8 l1 fun v9 =>
        n_X11_holds_47 v9 h Q)))
def w_X11_holds (l0 : Option Nat) (l1 : Int32) (h : Hp) (Q : Int32 → Hp → Prop) : Prop := n_X11_holds_0 l0 l1 h Q
theorem s_X11_holds_16 {l : Launch} {G : Gh}  {h : Hp} {Q : Int32 → Hp → Prop}  (hw : n_X11_holds_16 h Q) : V l G 2 yX11_holds cX11_holds 2 (some .int) 16 [] [] h (qI Q) := by
  unfold n_X11_holds_16 at hw
  refine V_iconst (v := (-1)) (by decide) dX11_holds_16 ?_
  exact V_iret rfl dX11_holds_17 ⟨_, rfl, hw⟩
theorem s_X11_holds_47 {l : Launch} {G : Gh} {s0 : Int32} {h : Hp} {Q : Int32 → Hp → Prop}  (hw : n_X11_holds_47 s0 h Q) : V l G 2 yX11_holds cX11_holds 2 (some .int) 47 [] [.int s0] h (qI Q) := by
  unfold n_X11_holds_47 at hw
  exact V_iret rfl dX11_holds_47 ⟨_, rfl, hw⟩
theorem s_X11_holds_0 {l : Launch} {G : Gh} {l0 : Option Nat} {l1 : Int32} {h : Hp} {Q : Int32 → Hp → Prop}  (hw : n_X11_holds_0 l0 l1 h Q) : V l G 2 yX11_holds cX11_holds 2 (some .int) 0 [(0, va_rf l0), (1, .int l1)] [] h (qI Q) := by
  unfold n_X11_holds_0 at hw
  refine V_iload_n 1 rfl rfl dX11_holds_0 ?_
  refine X_cS [.int l1] [] ma_X11_237 (by decide) (by decide) rfl (by simp [cat_i, cat_l, rf_cat]) rfl dX11_holds_1 (r_X11_isShelf _ hw) (k_I (fun v1 h hw => ?_))
  refine V_if_eq (tgt := 16) dX11_holds_4 (by decide) hw (fun hw => ?_) (fun hw => ?_)
  · exact V.sub [] rfl (s_X11_holds_16 hw)
  · refine V_aload_n 0 rfl rfl dX11_holds_7 ?_
    refine X_getR (c := 11) (k := 16) fa_X11_45 rfl dX11_holds_8 hw (fun v2 hw => ?_)
    refine V_iload_n 1 rfl rfl dX11_holds_11 ?_
    refine X_ldI dX11_holds_12 hw (fun v3 hw => ?_)
    refine V_if_ne (tgt := 18) dX11_holds_13 (by decide) hw (fun hw => ?_) (fun hw => ?_)
    · exact V.sub [] rfl (s_X11_holds_16 hw)
    · refine V_aload_n 0 rfl rfl dX11_holds_18 ?_
      refine X_getR (c := 11) (k := 16) fa_X11_45 rfl dX11_holds_19 hw (fun v4 hw => ?_)
      refine V_iload_n 1 rfl rfl dX11_holds_22 ?_
      refine X_ldI dX11_holds_23 hw (fun v5 hw => ?_)
      refine V_iconst (v := 1) (by decide) dX11_holds_24 ?_
      refine V_icmp_ne (tgt := 41) dX11_holds_25 (by decide) hw (fun hw => ?_) (fun hw => ?_)
      · refine V_sipush (v := 1000) (by decide) dX11_holds_28 ?_
        refine V_aload_n 0 rfl rfl dX11_holds_31 ?_
        refine X_getR (c := 11) (k := 17) fa_X11_48 rfl dX11_holds_32 hw (fun v6 hw => ?_)
        refine V_iload_n 1 rfl rfl dX11_holds_35 ?_
        refine X_ldI dX11_holds_36 hw (fun v7 hw => ?_)
        refine V_iadd dX11_holds_37 ?_
        refine V_goto (tgt := 47) dX11_holds_38 (by decide) ?_
        exact V.sub [] rfl (s_X11_holds_47 hw)
      · refine V_aload_n 0 rfl rfl dX11_holds_41 ?_
        refine X_getR (c := 11) (k := 19) fa_X11_54 rfl dX11_holds_42 hw (fun v8 hw => ?_)
        refine V_iload_n 1 rfl rfl dX11_holds_45 ?_
        refine X_ldI dX11_holds_46 hw (fun v9 hw => ?_)
        exact V.sub [] rfl (s_X11_holds_47 hw)
theorem r_X11_holds {l : Launch} {G : Gh} (l0 : Option Nat) (l1 : Int32) {h : Hp} {Q : Int32 → Hp → Prop} (hw : w_X11_holds l0 l1 h Q) : RunQ l G 2 yX11_holds cX11_holds 2 (some .int) [va_rf l0, .int l1] h (qI Q) :=
  V_run rfl (sl_len _ _ (by simp [cat_i, cat_l, rf_cat])) (V.sub [0, 1] (by simp only [la_r, la_i, la_l, la_n]; rfl) (s_X11_holds_0 hw))
def n_X11_init_0 (l0 : Option Nat) (h : Hp) (Q : Hp → Prop) : Prop :=
  oN l0 <|
  pI h l0 12 1409 1 fun h =>
  pI h l0 12 1414 (-1) fun h =>
  nwA h 24 120 fun v1 h =>
  pR h l0 12 1415 v1 fun h =>
  nwA h 24 121 fun v2 h =>
  pR h l0 12 1416 v2 fun h =>
  nwA h 24 122 fun v3 h =>
  pR h l0 12 1417 v3 fun h =>
  nwA h 24 123 fun v4 h =>
  pR h l0 12 1418 v4 fun h =>
  nwA h 24 124 fun v5 h =>
  pR h l0 12 1419 v5 fun h =>
  nwA h 24 125 fun v6 h =>
  pR h l0 12 1420 v6 fun h =>
  nwA h 24 126 fun v7 h =>
  pR h l0 12 1421 v7 fun h =>
  nwA h 384 127 fun v8 h =>
  pR h l0 12 1422 v8 fun h =>
  nwA h 24 200 fun v9 h =>
  pR h l0 12 1423 v9 fun h =>
  nwA h 8 128 fun v10 h =>
  pR h l0 12 1424 v10 fun h =>
  nwA h 8 129 fun v11 h =>
  pR h l0 12 1425 v11 fun h =>
  nwA h 8 130 fun v12 h =>
  pR h l0 12 1426 v12 fun h =>
  nwA h 8 131 fun v13 h =>
  pR h l0 12 1427 v13 fun h =>
  nwA h 480 310 fun v14 h =>
  pR h l0 12 1428 v14 fun h =>
  nwA h 60 311 fun v15 h =>
  pR h l0 12 1429 v15 fun h =>
  nwA h 160 132 fun v16 h =>
  pR h l0 12 1430 v16 fun h =>
  nwA h 160 133 fun v17 h =>
  pR h l0 12 1431 v17 fun h =>
  nwA h 160 134 fun v18 h =>
  pR h l0 12 1432 v18 fun h =>
  nwA h 160 135 fun v19 h =>
  pR h l0 12 1433 v19 fun h =>
  nwA h 160 136 fun v20 h =>
  pR h l0 12 1434 v20 fun h =>
  nwA h 160 137 fun v21 h =>
  pR h l0 12 1435 v21 fun h =>
  nwA h 160 138 fun v22 h =>
  pR h l0 12 1436 v22 fun h =>
  nwA h 160 139 fun v23 h =>
  pR h l0 12 1437 v23 fun h =>
  nwA h 160 140 fun v24 h =>
  pR h l0 12 1438 v24 fun h =>
  nwA h 160 141 fun v25 h =>
  pR h l0 12 1439 v25 fun h =>
  nwA h 160 142 fun v26 h =>
  pR h l0 12 1440 v26 fun h =>
  nwA h 160 143 fun v27 h =>
  pR h l0 12 1441 v27 fun h =>
  nwA h 160 201 fun v28 h =>
  pR h l0 12 1442 v28 fun h =>
  nwA h 160 202 fun v29 h =>
  pR h l0 12 1443 v29 fun h =>
  nwA h 160 203 fun v30 h =>
  pR h l0 12 1444 v30 fun h =>
  nwA h 3200 312 fun v31 h =>
  pR h l0 12 1445 v31 fun h =>
  nwA h 8 144 fun v32 h =>
  pR h l0 12 1446 v32 fun h =>
  nwA h 8 145 fun v33 h =>
  pR h l0 12 1447 v33 fun h =>
  nwA h 8 146 fun v34 h =>
  pR h l0 12 1448 v34 fun h =>
  nwA h 8 147 fun v35 h =>
  pR h l0 12 1449 v35 fun h =>
  nwA h 480 313 fun v36 h =>
  pR h l0 12 1450 v36 fun h =>
  nwA h 13 148 fun v37 h =>
  pR h l0 12 1451 v37 fun h =>
  nwA h 13 149 fun v38 h =>
  pR h l0 12 1452 v38 fun h =>
  nwA h 13 150 fun v39 h =>
  pR h l0 12 1453 v39 fun h =>
  nwA h 13 151 fun v40 h =>
  pR h l0 12 1454 v40 fun h =>
  nwA h 13 152 fun v41 h =>
  pR h l0 12 1455 v41 fun h =>
  nwA h 1300 153 fun v42 h =>
  pR h l0 12 1456 v42 fun h =>
  nwA h 520 154 fun v43 h =>
  pR h l0 12 1457 v43 fun h =>
  nwA h 520 155 fun v44 h =>
  pR h l0 12 1458 v44 fun h =>
  nwA h 520 156 fun v45 h =>
  pR h l0 12 1459 v45 fun h =>
  nwA h 520 157 fun v46 h =>
  pR h l0 12 1460 v46 fun h =>
  nwA h 520 158 fun v47 h =>
  pR h l0 12 1461 v47 fun h =>
  nwA h 20 159 fun v48 h =>
  pR h l0 12 1462 v48 fun h =>
  nwA h 20 160 fun v49 h =>
  pR h l0 12 1463 v49 fun h =>
  nwA h 256 204 fun v50 h =>
  pR h l0 12 1464 v50 fun h =>
  nwA h 8 161 fun v51 h =>
  pR h l0 12 1465 v51 fun h =>
  nwA h 441 162 fun v52 h =>
  pR h l0 12 1466 v52 fun h =>
  nwA h 120 163 fun v53 h =>
  pR h l0 12 1467 v53 fun h =>
  nwA h 160 164 fun v54 h =>
  pR h l0 12 1477 v54 fun h =>
  nwA h 24 165 fun v55 h =>
  pR h l0 12 1478 v55 fun h =>
  nwA h 60 166 fun v56 h =>
  pR h l0 12 1480 v56 fun h =>
  nwA h 160 167 fun v57 h =>
  pR h l0 12 1481 v57 fun h =>
  pI h l0 12 1482 (-1) fun h =>
  nwA h 10 168 fun v58 h =>
  pR h l0 12 1483 v58 fun h =>
  nwA h 10 169 fun v59 h =>
  pR h l0 12 1484 v59 fun h =>
  nwA h 10 170 fun v60 h =>
  pR h l0 12 1485 v60 fun h =>
  nwA h 10 171 fun v61 h =>
  pR h l0 12 1486 v61 fun h =>
  gR h l0 12 1415 fun v62 =>
  stI h v62 0 3 fun h =>
  gR h l0 12 1416 fun v63 =>
  stI h v63 0 (-1) fun h =>
  gR h l0 12 1420 fun v64 =>
  stI h v64 0 (-1) fun h =>
  gR h l0 12 1421 fun v65 =>
  stI h v65 0 (-1) fun h =>
  Q h
def w_X11_init (l0 : Option Nat) (h : Hp) (Q : Hp → Prop) : Prop := n_X11_init_0 l0 h Q
set_option maxRecDepth 20000 in
theorem s_X11_init_0 {l : Launch} {G : Gh} {l0 : Option Nat} {h : Hp} {Q : Hp → Prop}  (hw : n_X11_init_0 l0 h Q) : V l G 2 yX11_init cX11_init 1 none 0 [(0, va_rf l0)] [] h (qV Q) := by
  unfold n_X11_init_0 at hw
  refine V_aload_n 0 rfl rfl dX11_init_0 ?_
  refine X_obj oi_X11_1 (by decide) (by simp [cat_i, cat_l, rf_cat]) dX11_init_1 hw (fun hw => ?_)
  refine V_aload_n 0 rfl rfl dX11_init_4 ?_
  refine V_iconst (v := 1) (by decide) dX11_init_5 ?_
  refine X_putI (c := 11) (k := 1) fa_X11_7 (Or.inl rfl) rfl dX11_init_6 hw (fun h hw => ?_)
  refine V_aload_n 0 rfl rfl dX11_init_9 ?_
  refine V_iconst (v := (-1)) (by decide) dX11_init_10 ?_
  refine X_putI (c := 11) (k := 6) fa_X11_13 (Or.inl rfl) rfl dX11_init_11 hw (fun h hw => ?_)
  refine V_aload_n 0 rfl rfl dX11_init_14 ?_
  refine V_bipush (v := 24) (by decide) dX11_init_15 ?_
  refine X_newI (k := 120) (by decide) dX11_init_17 hw (fun v1 h hw => ?_)
  refine X_putR (c := 11) (k := 7) fa_X11_16 (Or.inr ⟨rfl, rfl, rfl, po_X11_16⟩) (Or.inr ⟨_, rfl⟩) dX11_init_19 hw (fun h hw => ?_)
  refine V_aload_n 0 rfl rfl dX11_init_22 ?_
  refine V_bipush (v := 24) (by decide) dX11_init_23 ?_
  refine X_newI (k := 121) (by decide) dX11_init_25 hw (fun v2 h hw => ?_)
  refine X_putR (c := 11) (k := 8) fa_X11_20 (Or.inr ⟨rfl, rfl, rfl, po_X11_20⟩) (Or.inr ⟨_, rfl⟩) dX11_init_27 hw (fun h hw => ?_)
  refine V_aload_n 0 rfl rfl dX11_init_30 ?_
  refine V_bipush (v := 24) (by decide) dX11_init_31 ?_
  refine X_newI (k := 122) (by decide) dX11_init_33 hw (fun v3 h hw => ?_)
  refine X_putR (c := 11) (k := 9) fa_X11_23 (Or.inr ⟨rfl, rfl, rfl, po_X11_23⟩) (Or.inr ⟨_, rfl⟩) dX11_init_35 hw (fun h hw => ?_)
  refine V_aload_n 0 rfl rfl dX11_init_38 ?_
  refine V_bipush (v := 24) (by decide) dX11_init_39 ?_
  refine X_newI (k := 123) (by decide) dX11_init_41 hw (fun v4 h hw => ?_)
  refine X_putR (c := 11) (k := 10) fa_X11_26 (Or.inr ⟨rfl, rfl, rfl, po_X11_26⟩) (Or.inr ⟨_, rfl⟩) dX11_init_43 hw (fun h hw => ?_)
  refine V_aload_n 0 rfl rfl dX11_init_46 ?_
  refine V_bipush (v := 24) (by decide) dX11_init_47 ?_
  refine X_newI (k := 124) (by decide) dX11_init_49 hw (fun v5 h hw => ?_)
  refine X_putR (c := 11) (k := 11) fa_X11_29 (Or.inr ⟨rfl, rfl, rfl, po_X11_29⟩) (Or.inr ⟨_, rfl⟩) dX11_init_51 hw (fun h hw => ?_)
  refine V_aload_n 0 rfl rfl dX11_init_54 ?_
  refine V_bipush (v := 24) (by decide) dX11_init_55 ?_
  refine X_newI (k := 125) (by decide) dX11_init_57 hw (fun v6 h hw => ?_)
  refine X_putR (c := 11) (k := 12) fa_X11_32 (Or.inr ⟨rfl, rfl, rfl, po_X11_32⟩) (Or.inr ⟨_, rfl⟩) dX11_init_59 hw (fun h hw => ?_)
  refine V_aload_n 0 rfl rfl dX11_init_62 ?_
  refine V_bipush (v := 24) (by decide) dX11_init_63 ?_
  refine X_newI (k := 126) (by decide) dX11_init_65 hw (fun v7 h hw => ?_)
  refine X_putR (c := 11) (k := 13) fa_X11_35 (Or.inr ⟨rfl, rfl, rfl, po_X11_35⟩) (Or.inr ⟨_, rfl⟩) dX11_init_67 hw (fun h hw => ?_)
  refine V_aload_n 0 rfl rfl dX11_init_70 ?_
  refine V_sipush (v := 384) (by decide) dX11_init_71 ?_
  refine X_newI (k := 127) (by decide) dX11_init_74 hw (fun v8 h hw => ?_)
  refine X_putR (c := 11) (k := 14) fa_X11_38 (Or.inr ⟨rfl, rfl, rfl, po_X11_38⟩) (Or.inr ⟨_, rfl⟩) dX11_init_76 hw (fun h hw => ?_)
  refine V_aload_n 0 rfl rfl dX11_init_79 ?_
  refine V_bipush (v := 24) (by decide) dX11_init_80 ?_
  refine X_newZ (k := 200) (by decide) dX11_init_82 hw (fun v9 h hw => ?_)
  refine X_putR (c := 11) (k := 15) fa_X11_41 (Or.inr ⟨rfl, rfl, rfl, po_X11_41⟩) (Or.inr ⟨_, rfl⟩) dX11_init_84 hw (fun h hw => ?_)
  refine V_aload_n 0 rfl rfl dX11_init_87 ?_
  refine V_bipush (v := 8) (by decide) dX11_init_88 ?_
  refine X_newI (k := 128) (by decide) dX11_init_90 hw (fun v10 h hw => ?_)
  refine X_putR (c := 11) (k := 16) fa_X11_45 (Or.inr ⟨rfl, rfl, rfl, po_X11_45⟩) (Or.inr ⟨_, rfl⟩) dX11_init_92 hw (fun h hw => ?_)
  refine V_aload_n 0 rfl rfl dX11_init_95 ?_
  refine V_bipush (v := 8) (by decide) dX11_init_96 ?_
  refine X_newI (k := 129) (by decide) dX11_init_98 hw (fun v11 h hw => ?_)
  refine X_putR (c := 11) (k := 17) fa_X11_48 (Or.inr ⟨rfl, rfl, rfl, po_X11_48⟩) (Or.inr ⟨_, rfl⟩) dX11_init_100 hw (fun h hw => ?_)
  refine V_aload_n 0 rfl rfl dX11_init_103 ?_
  refine V_bipush (v := 8) (by decide) dX11_init_104 ?_
  refine X_newI (k := 130) (by decide) dX11_init_106 hw (fun v12 h hw => ?_)
  refine X_putR (c := 11) (k := 18) fa_X11_51 (Or.inr ⟨rfl, rfl, rfl, po_X11_51⟩) (Or.inr ⟨_, rfl⟩) dX11_init_108 hw (fun h hw => ?_)
  refine V_aload_n 0 rfl rfl dX11_init_111 ?_
  refine V_bipush (v := 8) (by decide) dX11_init_112 ?_
  refine X_newI (k := 131) (by decide) dX11_init_114 hw (fun v13 h hw => ?_)
  refine X_putR (c := 11) (k := 19) fa_X11_54 (Or.inr ⟨rfl, rfl, rfl, po_X11_54⟩) (Or.inr ⟨_, rfl⟩) dX11_init_116 hw (fun h hw => ?_)
  refine V_aload_n 0 rfl rfl dX11_init_119 ?_
  refine V_sipush (v := 480) (by decide) dX11_init_120 ?_
  refine X_newL (k := 310) (by decide) dX11_init_123 hw (fun v14 h hw => ?_)
  refine X_putR (c := 11) (k := 20) fa_X11_57 (Or.inr ⟨rfl, rfl, rfl, po_X11_57⟩) (Or.inr ⟨_, rfl⟩) dX11_init_125 hw (fun h hw => ?_)
  refine V_aload_n 0 rfl rfl dX11_init_128 ?_
  refine V_bipush (v := 60) (by decide) dX11_init_129 ?_
  refine X_newL (k := 311) (by decide) dX11_init_131 hw (fun v15 h hw => ?_)
  refine X_putR (c := 11) (k := 21) fa_X11_61 (Or.inr ⟨rfl, rfl, rfl, po_X11_61⟩) (Or.inr ⟨_, rfl⟩) dX11_init_133 hw (fun h hw => ?_)
  refine V_aload_n 0 rfl rfl dX11_init_136 ?_
  refine V_sipush (v := 160) (by decide) dX11_init_137 ?_
  refine X_newI (k := 132) (by decide) dX11_init_140 hw (fun v16 h hw => ?_)
  refine X_putR (c := 11) (k := 22) fa_X11_64 (Or.inr ⟨rfl, rfl, rfl, po_X11_64⟩) (Or.inr ⟨_, rfl⟩) dX11_init_142 hw (fun h hw => ?_)
  refine V_aload_n 0 rfl rfl dX11_init_145 ?_
  refine V_sipush (v := 160) (by decide) dX11_init_146 ?_
  refine X_newI (k := 133) (by decide) dX11_init_149 hw (fun v17 h hw => ?_)
  refine X_putR (c := 11) (k := 23) fa_X11_67 (Or.inr ⟨rfl, rfl, rfl, po_X11_67⟩) (Or.inr ⟨_, rfl⟩) dX11_init_151 hw (fun h hw => ?_)
  refine V_aload_n 0 rfl rfl dX11_init_154 ?_
  refine V_sipush (v := 160) (by decide) dX11_init_155 ?_
  refine X_newI (k := 134) (by decide) dX11_init_158 hw (fun v18 h hw => ?_)
  refine X_putR (c := 11) (k := 24) fa_X11_70 (Or.inr ⟨rfl, rfl, rfl, po_X11_70⟩) (Or.inr ⟨_, rfl⟩) dX11_init_160 hw (fun h hw => ?_)
  refine V_aload_n 0 rfl rfl dX11_init_163 ?_
  refine V_sipush (v := 160) (by decide) dX11_init_164 ?_
  refine X_newI (k := 135) (by decide) dX11_init_167 hw (fun v19 h hw => ?_)
  refine X_putR (c := 11) (k := 25) fa_X11_73 (Or.inr ⟨rfl, rfl, rfl, po_X11_73⟩) (Or.inr ⟨_, rfl⟩) dX11_init_169 hw (fun h hw => ?_)
  refine V_aload_n 0 rfl rfl dX11_init_172 ?_
  refine V_sipush (v := 160) (by decide) dX11_init_173 ?_
  refine X_newI (k := 136) (by decide) dX11_init_176 hw (fun v20 h hw => ?_)
  refine X_putR (c := 11) (k := 26) fa_X11_76 (Or.inr ⟨rfl, rfl, rfl, po_X11_76⟩) (Or.inr ⟨_, rfl⟩) dX11_init_178 hw (fun h hw => ?_)
  refine V_aload_n 0 rfl rfl dX11_init_181 ?_
  refine V_sipush (v := 160) (by decide) dX11_init_182 ?_
  refine X_newI (k := 137) (by decide) dX11_init_185 hw (fun v21 h hw => ?_)
  refine X_putR (c := 11) (k := 27) fa_X11_79 (Or.inr ⟨rfl, rfl, rfl, po_X11_79⟩) (Or.inr ⟨_, rfl⟩) dX11_init_187 hw (fun h hw => ?_)
  refine V_aload_n 0 rfl rfl dX11_init_190 ?_
  refine V_sipush (v := 160) (by decide) dX11_init_191 ?_
  refine X_newI (k := 138) (by decide) dX11_init_194 hw (fun v22 h hw => ?_)
  refine X_putR (c := 11) (k := 28) fa_X11_82 (Or.inr ⟨rfl, rfl, rfl, po_X11_82⟩) (Or.inr ⟨_, rfl⟩) dX11_init_196 hw (fun h hw => ?_)
  refine V_aload_n 0 rfl rfl dX11_init_199 ?_
  refine V_sipush (v := 160) (by decide) dX11_init_200 ?_
  refine X_newI (k := 139) (by decide) dX11_init_203 hw (fun v23 h hw => ?_)
  refine X_putR (c := 11) (k := 29) fa_X11_85 (Or.inr ⟨rfl, rfl, rfl, po_X11_85⟩) (Or.inr ⟨_, rfl⟩) dX11_init_205 hw (fun h hw => ?_)
  refine V_aload_n 0 rfl rfl dX11_init_208 ?_
  refine V_sipush (v := 160) (by decide) dX11_init_209 ?_
  refine X_newI (k := 140) (by decide) dX11_init_212 hw (fun v24 h hw => ?_)
  refine X_putR (c := 11) (k := 30) fa_X11_88 (Or.inr ⟨rfl, rfl, rfl, po_X11_88⟩) (Or.inr ⟨_, rfl⟩) dX11_init_214 hw (fun h hw => ?_)
  refine V_aload_n 0 rfl rfl dX11_init_217 ?_
  refine V_sipush (v := 160) (by decide) dX11_init_218 ?_
  refine X_newI (k := 141) (by decide) dX11_init_221 hw (fun v25 h hw => ?_)
  refine X_putR (c := 11) (k := 31) fa_X11_91 (Or.inr ⟨rfl, rfl, rfl, po_X11_91⟩) (Or.inr ⟨_, rfl⟩) dX11_init_223 hw (fun h hw => ?_)
  refine V_aload_n 0 rfl rfl dX11_init_226 ?_
  refine V_sipush (v := 160) (by decide) dX11_init_227 ?_
  refine X_newI (k := 142) (by decide) dX11_init_230 hw (fun v26 h hw => ?_)
  refine X_putR (c := 11) (k := 32) fa_X11_94 (Or.inr ⟨rfl, rfl, rfl, po_X11_94⟩) (Or.inr ⟨_, rfl⟩) dX11_init_232 hw (fun h hw => ?_)
  refine V_aload_n 0 rfl rfl dX11_init_235 ?_
  refine V_sipush (v := 160) (by decide) dX11_init_236 ?_
  refine X_newI (k := 143) (by decide) dX11_init_239 hw (fun v27 h hw => ?_)
  refine X_putR (c := 11) (k := 33) fa_X11_97 (Or.inr ⟨rfl, rfl, rfl, po_X11_97⟩) (Or.inr ⟨_, rfl⟩) dX11_init_241 hw (fun h hw => ?_)
  refine V_aload_n 0 rfl rfl dX11_init_244 ?_
  refine V_sipush (v := 160) (by decide) dX11_init_245 ?_
  refine X_newZ (k := 201) (by decide) dX11_init_248 hw (fun v28 h hw => ?_)
  refine X_putR (c := 11) (k := 34) fa_X11_100 (Or.inr ⟨rfl, rfl, rfl, po_X11_100⟩) (Or.inr ⟨_, rfl⟩) dX11_init_250 hw (fun h hw => ?_)
  refine V_aload_n 0 rfl rfl dX11_init_253 ?_
  refine V_sipush (v := 160) (by decide) dX11_init_254 ?_
  refine X_newZ (k := 202) (by decide) dX11_init_257 hw (fun v29 h hw => ?_)
  refine X_putR (c := 11) (k := 35) fa_X11_103 (Or.inr ⟨rfl, rfl, rfl, po_X11_103⟩) (Or.inr ⟨_, rfl⟩) dX11_init_259 hw (fun h hw => ?_)
  refine V_aload_n 0 rfl rfl dX11_init_262 ?_
  refine V_sipush (v := 160) (by decide) dX11_init_263 ?_
  refine X_newZ (k := 203) (by decide) dX11_init_266 hw (fun v30 h hw => ?_)
  refine X_putR (c := 11) (k := 36) fa_X11_106 (Or.inr ⟨rfl, rfl, rfl, po_X11_106⟩) (Or.inr ⟨_, rfl⟩) dX11_init_268 hw (fun h hw => ?_)
  refine V_aload_n 0 rfl rfl dX11_init_271 ?_
  refine V_sipush (v := 3200) (by decide) dX11_init_272 ?_
  refine X_newL (k := 312) (by decide) dX11_init_275 hw (fun v31 h hw => ?_)
  refine X_putR (c := 11) (k := 37) fa_X11_109 (Or.inr ⟨rfl, rfl, rfl, po_X11_109⟩) (Or.inr ⟨_, rfl⟩) dX11_init_277 hw (fun h hw => ?_)
  refine V_aload_n 0 rfl rfl dX11_init_280 ?_
  refine V_bipush (v := 8) (by decide) dX11_init_281 ?_
  refine X_newI (k := 144) (by decide) dX11_init_283 hw (fun v32 h hw => ?_)
  refine X_putR (c := 11) (k := 38) fa_X11_112 (Or.inr ⟨rfl, rfl, rfl, po_X11_112⟩) (Or.inr ⟨_, rfl⟩) dX11_init_285 hw (fun h hw => ?_)
  refine V_aload_n 0 rfl rfl dX11_init_288 ?_
  refine V_bipush (v := 8) (by decide) dX11_init_289 ?_
  refine X_newI (k := 145) (by decide) dX11_init_291 hw (fun v33 h hw => ?_)
  refine X_putR (c := 11) (k := 39) fa_X11_115 (Or.inr ⟨rfl, rfl, rfl, po_X11_115⟩) (Or.inr ⟨_, rfl⟩) dX11_init_293 hw (fun h hw => ?_)
  refine V_aload_n 0 rfl rfl dX11_init_296 ?_
  refine V_bipush (v := 8) (by decide) dX11_init_297 ?_
  refine X_newI (k := 146) (by decide) dX11_init_299 hw (fun v34 h hw => ?_)
  refine X_putR (c := 11) (k := 40) fa_X11_118 (Or.inr ⟨rfl, rfl, rfl, po_X11_118⟩) (Or.inr ⟨_, rfl⟩) dX11_init_301 hw (fun h hw => ?_)
  refine V_aload_n 0 rfl rfl dX11_init_304 ?_
  refine V_bipush (v := 8) (by decide) dX11_init_305 ?_
  refine X_newI (k := 147) (by decide) dX11_init_307 hw (fun v35 h hw => ?_)
  refine X_putR (c := 11) (k := 41) fa_X11_121 (Or.inr ⟨rfl, rfl, rfl, po_X11_121⟩) (Or.inr ⟨_, rfl⟩) dX11_init_309 hw (fun h hw => ?_)
  refine V_aload_n 0 rfl rfl dX11_init_312 ?_
  refine V_sipush (v := 480) (by decide) dX11_init_313 ?_
  refine X_newL (k := 313) (by decide) dX11_init_316 hw (fun v36 h hw => ?_)
  refine X_putR (c := 11) (k := 42) fa_X11_124 (Or.inr ⟨rfl, rfl, rfl, po_X11_124⟩) (Or.inr ⟨_, rfl⟩) dX11_init_318 hw (fun h hw => ?_)
  refine V_aload_n 0 rfl rfl dX11_init_321 ?_
  refine V_bipush (v := 13) (by decide) dX11_init_322 ?_
  refine X_newI (k := 148) (by decide) dX11_init_324 hw (fun v37 h hw => ?_)
  refine X_putR (c := 11) (k := 43) fa_X11_127 (Or.inr ⟨rfl, rfl, rfl, po_X11_127⟩) (Or.inr ⟨_, rfl⟩) dX11_init_326 hw (fun h hw => ?_)
  refine V_aload_n 0 rfl rfl dX11_init_329 ?_
  refine V_bipush (v := 13) (by decide) dX11_init_330 ?_
  refine X_newI (k := 149) (by decide) dX11_init_332 hw (fun v38 h hw => ?_)
  refine X_putR (c := 11) (k := 44) fa_X11_130 (Or.inr ⟨rfl, rfl, rfl, po_X11_130⟩) (Or.inr ⟨_, rfl⟩) dX11_init_334 hw (fun h hw => ?_)
  refine V_aload_n 0 rfl rfl dX11_init_337 ?_
  refine V_bipush (v := 13) (by decide) dX11_init_338 ?_
  refine X_newI (k := 150) (by decide) dX11_init_340 hw (fun v39 h hw => ?_)
  refine X_putR (c := 11) (k := 45) fa_X11_133 (Or.inr ⟨rfl, rfl, rfl, po_X11_133⟩) (Or.inr ⟨_, rfl⟩) dX11_init_342 hw (fun h hw => ?_)
  refine V_aload_n 0 rfl rfl dX11_init_345 ?_
  refine V_bipush (v := 13) (by decide) dX11_init_346 ?_
  refine X_newI (k := 151) (by decide) dX11_init_348 hw (fun v40 h hw => ?_)
  refine X_putR (c := 11) (k := 46) fa_X11_136 (Or.inr ⟨rfl, rfl, rfl, po_X11_136⟩) (Or.inr ⟨_, rfl⟩) dX11_init_350 hw (fun h hw => ?_)
  refine V_aload_n 0 rfl rfl dX11_init_353 ?_
  refine V_bipush (v := 13) (by decide) dX11_init_354 ?_
  refine X_newI (k := 152) (by decide) dX11_init_356 hw (fun v41 h hw => ?_)
  refine X_putR (c := 11) (k := 47) fa_X11_139 (Or.inr ⟨rfl, rfl, rfl, po_X11_139⟩) (Or.inr ⟨_, rfl⟩) dX11_init_358 hw (fun h hw => ?_)
  refine V_aload_n 0 rfl rfl dX11_init_361 ?_
  refine V_sipush (v := 1300) (by decide) dX11_init_362 ?_
  refine X_newI (k := 153) (by decide) dX11_init_365 hw (fun v42 h hw => ?_)
  refine X_putR (c := 11) (k := 48) fa_X11_142 (Or.inr ⟨rfl, rfl, rfl, po_X11_142⟩) (Or.inr ⟨_, rfl⟩) dX11_init_367 hw (fun h hw => ?_)
  refine V_aload_n 0 rfl rfl dX11_init_370 ?_
  refine V_sipush (v := 520) (by decide) dX11_init_371 ?_
  refine X_newI (k := 154) (by decide) dX11_init_374 hw (fun v43 h hw => ?_)
  refine X_putR (c := 11) (k := 49) fa_X11_145 (Or.inr ⟨rfl, rfl, rfl, po_X11_145⟩) (Or.inr ⟨_, rfl⟩) dX11_init_376 hw (fun h hw => ?_)
  refine V_aload_n 0 rfl rfl dX11_init_379 ?_
  refine V_sipush (v := 520) (by decide) dX11_init_380 ?_
  refine X_newI (k := 155) (by decide) dX11_init_383 hw (fun v44 h hw => ?_)
  refine X_putR (c := 11) (k := 50) fa_X11_148 (Or.inr ⟨rfl, rfl, rfl, po_X11_148⟩) (Or.inr ⟨_, rfl⟩) dX11_init_385 hw (fun h hw => ?_)
  refine V_aload_n 0 rfl rfl dX11_init_388 ?_
  refine V_sipush (v := 520) (by decide) dX11_init_389 ?_
  refine X_newI (k := 156) (by decide) dX11_init_392 hw (fun v45 h hw => ?_)
  refine X_putR (c := 11) (k := 51) fa_X11_151 (Or.inr ⟨rfl, rfl, rfl, po_X11_151⟩) (Or.inr ⟨_, rfl⟩) dX11_init_394 hw (fun h hw => ?_)
  refine V_aload_n 0 rfl rfl dX11_init_397 ?_
  refine V_sipush (v := 520) (by decide) dX11_init_398 ?_
  refine X_newI (k := 157) (by decide) dX11_init_401 hw (fun v46 h hw => ?_)
  refine X_putR (c := 11) (k := 52) fa_X11_154 (Or.inr ⟨rfl, rfl, rfl, po_X11_154⟩) (Or.inr ⟨_, rfl⟩) dX11_init_403 hw (fun h hw => ?_)
  refine V_aload_n 0 rfl rfl dX11_init_406 ?_
  refine V_sipush (v := 520) (by decide) dX11_init_407 ?_
  refine X_newI (k := 158) (by decide) dX11_init_410 hw (fun v47 h hw => ?_)
  refine X_putR (c := 11) (k := 53) fa_X11_157 (Or.inr ⟨rfl, rfl, rfl, po_X11_157⟩) (Or.inr ⟨_, rfl⟩) dX11_init_412 hw (fun h hw => ?_)
  refine V_aload_n 0 rfl rfl dX11_init_415 ?_
  refine V_bipush (v := 20) (by decide) dX11_init_416 ?_
  refine X_newI (k := 159) (by decide) dX11_init_418 hw (fun v48 h hw => ?_)
  refine X_putR (c := 11) (k := 54) fa_X11_160 (Or.inr ⟨rfl, rfl, rfl, po_X11_160⟩) (Or.inr ⟨_, rfl⟩) dX11_init_420 hw (fun h hw => ?_)
  refine V_aload_n 0 rfl rfl dX11_init_423 ?_
  refine V_bipush (v := 20) (by decide) dX11_init_424 ?_
  refine X_newI (k := 160) (by decide) dX11_init_426 hw (fun v49 h hw => ?_)
  refine X_putR (c := 11) (k := 55) fa_X11_163 (Or.inr ⟨rfl, rfl, rfl, po_X11_163⟩) (Or.inr ⟨_, rfl⟩) dX11_init_428 hw (fun h hw => ?_)
  refine V_aload_n 0 rfl rfl dX11_init_431 ?_
  refine V_sipush (v := 256) (by decide) dX11_init_432 ?_
  refine X_newZ (k := 204) (by decide) dX11_init_435 hw (fun v50 h hw => ?_)
  refine X_putR (c := 11) (k := 56) fa_X11_166 (Or.inr ⟨rfl, rfl, rfl, po_X11_166⟩) (Or.inr ⟨_, rfl⟩) dX11_init_437 hw (fun h hw => ?_)
  refine V_aload_n 0 rfl rfl dX11_init_440 ?_
  refine V_bipush (v := 8) (by decide) dX11_init_441 ?_
  refine X_newI (k := 161) (by decide) dX11_init_443 hw (fun v51 h hw => ?_)
  refine X_putR (c := 11) (k := 57) fa_X11_169 (Or.inr ⟨rfl, rfl, rfl, po_X11_169⟩) (Or.inr ⟨_, rfl⟩) dX11_init_445 hw (fun h hw => ?_)
  refine V_aload_n 0 rfl rfl dX11_init_448 ?_
  refine V_sipush (v := 441) (by decide) dX11_init_449 ?_
  refine X_newI (k := 162) (by decide) dX11_init_452 hw (fun v52 h hw => ?_)
  refine X_putR (c := 11) (k := 58) fa_X11_172 (Or.inr ⟨rfl, rfl, rfl, po_X11_172⟩) (Or.inr ⟨_, rfl⟩) dX11_init_454 hw (fun h hw => ?_)
  refine V_aload_n 0 rfl rfl dX11_init_457 ?_
  refine V_bipush (v := 120) (by decide) dX11_init_458 ?_
  refine X_newI (k := 163) (by decide) dX11_init_460 hw (fun v53 h hw => ?_)
  refine X_putR (c := 11) (k := 59) fa_X11_175 (Or.inr ⟨rfl, rfl, rfl, po_X11_175⟩) (Or.inr ⟨_, rfl⟩) dX11_init_462 hw (fun h hw => ?_)
  refine V_aload_n 0 rfl rfl dX11_init_465 ?_
  refine V_sipush (v := 160) (by decide) dX11_init_466 ?_
  refine X_newI (k := 164) (by decide) dX11_init_469 hw (fun v54 h hw => ?_)
  refine X_putR (c := 11) (k := 69) fa_X11_178 (Or.inr ⟨rfl, rfl, rfl, po_X11_178⟩) (Or.inr ⟨_, rfl⟩) dX11_init_471 hw (fun h hw => ?_)
  refine V_aload_n 0 rfl rfl dX11_init_474 ?_
  refine V_bipush (v := 24) (by decide) dX11_init_475 ?_
  refine X_newI (k := 165) (by decide) dX11_init_477 hw (fun v55 h hw => ?_)
  refine X_putR (c := 11) (k := 70) fa_X11_181 (Or.inr ⟨rfl, rfl, rfl, po_X11_181⟩) (Or.inr ⟨_, rfl⟩) dX11_init_479 hw (fun h hw => ?_)
  refine V_aload_n 0 rfl rfl dX11_init_482 ?_
  refine V_bipush (v := 60) (by decide) dX11_init_483 ?_
  refine X_newI (k := 166) (by decide) dX11_init_485 hw (fun v56 h hw => ?_)
  refine X_putR (c := 11) (k := 72) fa_X11_184 (Or.inr ⟨rfl, rfl, rfl, po_X11_184⟩) (Or.inr ⟨_, rfl⟩) dX11_init_487 hw (fun h hw => ?_)
  refine V_aload_n 0 rfl rfl dX11_init_490 ?_
  refine V_sipush (v := 160) (by decide) dX11_init_491 ?_
  refine X_newI (k := 167) (by decide) dX11_init_494 hw (fun v57 h hw => ?_)
  refine X_putR (c := 11) (k := 73) fa_X11_187 (Or.inr ⟨rfl, rfl, rfl, po_X11_187⟩) (Or.inr ⟨_, rfl⟩) dX11_init_496 hw (fun h hw => ?_)
  refine V_aload_n 0 rfl rfl dX11_init_499 ?_
  refine V_iconst (v := (-1)) (by decide) dX11_init_500 ?_
  refine X_putI (c := 11) (k := 74) fa_X11_190 (Or.inl rfl) rfl dX11_init_501 hw (fun h hw => ?_)
  refine V_aload_n 0 rfl rfl dX11_init_504 ?_
  refine V_bipush (v := 10) (by decide) dX11_init_505 ?_
  refine X_newI (k := 168) (by decide) dX11_init_507 hw (fun v58 h hw => ?_)
  refine X_putR (c := 11) (k := 75) fa_X11_193 (Or.inr ⟨rfl, rfl, rfl, po_X11_193⟩) (Or.inr ⟨_, rfl⟩) dX11_init_509 hw (fun h hw => ?_)
  refine V_aload_n 0 rfl rfl dX11_init_512 ?_
  refine V_bipush (v := 10) (by decide) dX11_init_513 ?_
  refine X_newI (k := 169) (by decide) dX11_init_515 hw (fun v59 h hw => ?_)
  refine X_putR (c := 11) (k := 76) fa_X11_196 (Or.inr ⟨rfl, rfl, rfl, po_X11_196⟩) (Or.inr ⟨_, rfl⟩) dX11_init_517 hw (fun h hw => ?_)
  refine V_aload_n 0 rfl rfl dX11_init_520 ?_
  refine V_bipush (v := 10) (by decide) dX11_init_521 ?_
  refine X_newI (k := 170) (by decide) dX11_init_523 hw (fun v60 h hw => ?_)
  refine X_putR (c := 11) (k := 77) fa_X11_199 (Or.inr ⟨rfl, rfl, rfl, po_X11_199⟩) (Or.inr ⟨_, rfl⟩) dX11_init_525 hw (fun h hw => ?_)
  refine V_aload_n 0 rfl rfl dX11_init_528 ?_
  refine V_bipush (v := 10) (by decide) dX11_init_529 ?_
  refine X_newI (k := 171) (by decide) dX11_init_531 hw (fun v61 h hw => ?_)
  refine X_putR (c := 11) (k := 78) fa_X11_202 (Or.inr ⟨rfl, rfl, rfl, po_X11_202⟩) (Or.inr ⟨_, rfl⟩) dX11_init_533 hw (fun h hw => ?_)
  refine V_aload_n 0 rfl rfl dX11_init_536 ?_
  refine X_getR (c := 11) (k := 7) fa_X11_16 rfl dX11_init_537 hw (fun v62 hw => ?_)
  refine V_iconst (v := 0) (by decide) dX11_init_540 ?_
  refine V_iconst (v := 3) (by decide) dX11_init_541 ?_
  refine X_stI dX11_init_542 hw (fun h hw => ?_)
  refine V_aload_n 0 rfl rfl dX11_init_543 ?_
  refine X_getR (c := 11) (k := 8) fa_X11_20 rfl dX11_init_544 hw (fun v63 hw => ?_)
  refine V_iconst (v := 0) (by decide) dX11_init_547 ?_
  refine V_iconst (v := (-1)) (by decide) dX11_init_548 ?_
  refine X_stI dX11_init_549 hw (fun h hw => ?_)
  refine V_aload_n 0 rfl rfl dX11_init_550 ?_
  refine X_getR (c := 11) (k := 12) fa_X11_32 rfl dX11_init_551 hw (fun v64 hw => ?_)
  refine V_iconst (v := 0) (by decide) dX11_init_554 ?_
  refine V_iconst (v := (-1)) (by decide) dX11_init_555 ?_
  refine X_stI dX11_init_556 hw (fun h hw => ?_)
  refine V_aload_n 0 rfl rfl dX11_init_557 ?_
  refine X_getR (c := 11) (k := 13) fa_X11_35 rfl dX11_init_558 hw (fun v65 hw => ?_)
  refine V_iconst (v := 0) (by decide) dX11_init_561 ?_
  refine V_iconst (v := (-1)) (by decide) dX11_init_562 ?_
  refine X_stI dX11_init_563 hw (fun h hw => ?_)
  exact V_vret rfl dX11_init_564 ⟨rfl, hw⟩
theorem r_X11_init {l : Launch} {G : Gh} (l0 : Option Nat) {h : Hp} {Q : Hp → Prop} (hw : w_X11_init l0 h Q) : RunQ l G 2 yX11_init cX11_init 1 none [va_rf l0] h (qV Q) :=
  V_run rfl (sl_len _ _ (by simp [cat_i, cat_l, rf_cat])) (V.sub [0] (by simp only [la_r, la_i, la_l, la_n]; rfl) (s_X11_init_0 hw))
def n_X11_isFree_70 (l0 : Option Nat) (l1 : Int32) (l2 : Int32) (l3 : Int32) (l4 : Int32) (h : Hp) (Q : Int32 → Hp → Prop) (K2 : Int32 → Hp → Prop) (K10 : Int32 → Hp → Prop) : Prop :=
  lt (l4 + 1) fun x12 =>
  K10 x12 h
def b_X11_isFree_10 (l0 : Option Nat) (l1 : Int32) (l2 : Int32) (l3 : Int32) (l4 : Int32) (h : Hp) (Q : Int32 → Hp → Prop) (K2 : Int32 → Hp → Prop) (K10 : Int32 → Hp → Prop) : Prop :=
  br (l3 ≤ l4) (
    lt (l3 + 1) fun x1 =>
    K2 x1 h) (
    br ((l2 >>> (l3 &&& 31)) &&& 1 = 0) (
      br ((l2 >>> (l4 &&& 31)) &&& 1 = 0) (
        gR h l0 12 1464 fun v2 =>
        gR h l0 12 1431 fun v3 =>
        gR h l0 12 1481 fun v4 =>
        ldI h v4 l3 fun v5 =>
        ldI h v3 v5 fun v6 =>
        gR h l0 12 1431 fun v7 =>
        gR h l0 12 1481 fun v8 =>
        ldI h v8 l4 fun v9 =>
        ldI h v7 v9 fun v10 =>
        ldZ h v2 ((16 * v6) + v10) fun v11 =>
        br (v11 = 0) (
          n_X11_isFree_70 l0 l1 l2 l3 l4 h Q K2 K10) (
          rZ 0 h Q)) (
        n_X11_isFree_70 l0 l1 l2 l3 l4 h Q K2 K10)) (
      n_X11_isFree_70 l0 l1 l2 l3 l4 h Q K2 K10))
def l_X11_isFree_10 (l0 : Option Nat) (l1 : Int32) (l2 : Int32) (l3 : Int32) (l4 : Int32) (h : Hp) (Q : Int32 → Hp → Prop) (K2 : Int32 → Hp → Prop) : Prop :=
  Lo (fun (K : Int32 → Hp → Prop) s h => b_X11_isFree_10 l0 l1 l2 l3 s h Q K2 (fun l4 h => K (l4) h)) (l4) h
def b_X11_isFree_2 (l0 : Option Nat) (l1 : Int32) (l2 : Int32) (l3 : Int32) (h : Hp) (Q : Int32 → Hp → Prop) (K2 : Int32 → Hp → Prop) : Prop :=
  br (l1 ≤ l3) (
    rZ 1 h Q) (
    l_X11_isFree_10 l0 l1 l2 l3 0 h Q K2)
def l_X11_isFree_2 (l0 : Option Nat) (l1 : Int32) (l2 : Int32) (l3 : Int32) (h : Hp) (Q : Int32 → Hp → Prop) : Prop :=
  Lo (fun (K : Int32 → Hp → Prop) s h => b_X11_isFree_2 l0 l1 l2 s h Q (fun l3 h => K (l3) h)) (l3) h
def n_X11_isFree_0 (l0 : Option Nat) (l1 : Int32) (l2 : Int32) (h : Hp) (Q : Int32 → Hp → Prop) : Prop :=
  l_X11_isFree_2 l0 l1 l2 0 h Q
def w_X11_isFree (l0 : Option Nat) (l1 : Int32) (l2 : Int32) (h : Hp) (Q : Int32 → Hp → Prop) : Prop := n_X11_isFree_0 l0 l1 l2 h Q
theorem s_X11_isFree_70 {l : Launch} {G : Gh} {l0 : Option Nat} {l1 : Int32} {l2 : Int32} {l3 : Int32} {l4 : Int32} {h : Hp} {Q : Int32 → Hp → Prop} {K2 : Int32 → Hp → Prop} {K10 : Int32 → Hp → Prop} (hK2 : ∀ (l3 : Int32) (h : Hp), K2 l3 h → V l G 1 yX11_isFree cX11_isFree 5 (some .boolean) 2 [(0, va_rf l0), (1, .int l1), (2, .int l2), (3, .int l3)] [] h (qI Q)) (hK10 : ∀ (l4 : Int32) (h : Hp), K10 l4 h → V l G 1 yX11_isFree cX11_isFree 5 (some .boolean) 10 [(0, va_rf l0), (1, .int l1), (2, .int l2), (3, .int l3), (4, .int l4)] [] h (qI Q)) (hw : n_X11_isFree_70 l0 l1 l2 l3 l4 h Q K2 K10) : V l G 1 yX11_isFree cX11_isFree 5 (some .boolean) 70 [(0, va_rf l0), (1, .int l1), (2, .int l2), (3, .int l3), (4, .int l4)] [] h (qI Q) := by
  unfold n_X11_isFree_70 at hw
  refine V_iincL (n := 1) 4 (fun z => [(4, .int z), (0, va_rf l0), (1, .int l1), (2, .int l2), (3, .int l3)]) rfl (by rfl) (by decide) (fun _ => rfl) dX11_isFree_70 hw (fun x12 hw => ?_)
  refine V_goto (tgt := 10) dX11_isFree_73 (by decide) ?_
  exact V.sub [1, 2, 3, 4, 0] rfl (hK10 _ _ hw)
set_option maxRecDepth 20000 in
theorem sb_X11_isFree_10 {l : Launch} {G : Gh} {l0 : Option Nat} {l1 : Int32} {l2 : Int32} {l3 : Int32} {l4 : Int32} {h : Hp} {Q : Int32 → Hp → Prop} {K2 : Int32 → Hp → Prop} {K10 : Int32 → Hp → Prop} (hK2 : ∀ (l3 : Int32) (h : Hp), K2 l3 h → V l G 1 yX11_isFree cX11_isFree 5 (some .boolean) 2 [(0, va_rf l0), (1, .int l1), (2, .int l2), (3, .int l3)] [] h (qI Q)) (hK10 : ∀ (l4 : Int32) (h : Hp), K10 l4 h → V l G 1 yX11_isFree cX11_isFree 5 (some .boolean) 10 [(0, va_rf l0), (1, .int l1), (2, .int l2), (3, .int l3), (4, .int l4)] [] h (qI Q)) (hw : b_X11_isFree_10 l0 l1 l2 l3 l4 h Q K2 K10) : V l G 1 yX11_isFree cX11_isFree 5 (some .boolean) 10 [(0, va_rf l0), (1, .int l1), (2, .int l2), (3, .int l3), (4, .int l4)] [] h (qI Q) := by
  unfold b_X11_isFree_10 at hw
  refine V_iload 4 rfl dX11_isFree_10 ?_
  refine V_iload_n 3 rfl rfl dX11_isFree_12 ?_
  refine V_icmp_ge (tgt := 76) dX11_isFree_13 (by decide) hw (fun hw => ?_) (fun hw => ?_)
  · refine V_iincL (n := 1) 3 (fun z => [(3, .int z), (0, va_rf l0), (1, .int l1), (2, .int l2), (4, .int l4)]) rfl (by rfl) (by decide) (fun _ => rfl) dX11_isFree_76 hw (fun x1 hw => ?_)
    refine V_goto (tgt := 2) dX11_isFree_79 (by decide) ?_
    exact V.sub [1, 2, 3, 0] rfl (hK2 _ _ hw)
  · refine V_iload_n 2 rfl rfl dX11_isFree_16 ?_
    refine V_iload_n 3 rfl rfl dX11_isFree_17 ?_
    refine V_ishr dX11_isFree_18 ?_
    refine V_iconst (v := 1) (by decide) dX11_isFree_19 ?_
    refine V_iand dX11_isFree_20 ?_
    refine V_if_ne (tgt := 70) dX11_isFree_21 (by decide) hw (fun hw => ?_) (fun hw => ?_)
    · refine V_iload_n 2 rfl rfl dX11_isFree_24 ?_
      refine V_iload 4 rfl dX11_isFree_25 ?_
      refine V_ishr dX11_isFree_27 ?_
      refine V_iconst (v := 1) (by decide) dX11_isFree_28 ?_
      refine V_iand dX11_isFree_29 ?_
      refine V_if_ne (tgt := 70) dX11_isFree_30 (by decide) hw (fun hw => ?_) (fun hw => ?_)
      · refine V_aload_n 0 rfl rfl dX11_isFree_33 ?_
        refine X_getR (c := 11) (k := 56) fa_X11_166 rfl dX11_isFree_34 hw (fun v2 hw => ?_)
        refine V_bipush (v := 16) (by decide) dX11_isFree_37 ?_
        refine V_aload_n 0 rfl rfl dX11_isFree_39 ?_
        refine X_getR (c := 11) (k := 23) fa_X11_67 rfl dX11_isFree_40 hw (fun v3 hw => ?_)
        refine V_aload_n 0 rfl rfl dX11_isFree_43 ?_
        refine X_getR (c := 11) (k := 73) fa_X11_187 rfl dX11_isFree_44 hw (fun v4 hw => ?_)
        refine V_iload_n 3 rfl rfl dX11_isFree_47 ?_
        refine X_ldI dX11_isFree_48 hw (fun v5 hw => ?_)
        refine X_ldI dX11_isFree_49 hw (fun v6 hw => ?_)
        refine V_imul dX11_isFree_50 ?_
        refine V_aload_n 0 rfl rfl dX11_isFree_51 ?_
        refine X_getR (c := 11) (k := 23) fa_X11_67 rfl dX11_isFree_52 hw (fun v7 hw => ?_)
        refine V_aload_n 0 rfl rfl dX11_isFree_55 ?_
        refine X_getR (c := 11) (k := 73) fa_X11_187 rfl dX11_isFree_56 hw (fun v8 hw => ?_)
        refine V_iload 4 rfl dX11_isFree_59 ?_
        refine X_ldI dX11_isFree_61 hw (fun v9 hw => ?_)
        refine X_ldI dX11_isFree_62 hw (fun v10 hw => ?_)
        refine V_iadd dX11_isFree_63 ?_
        refine X_ldZ dX11_isFree_64 hw (fun v11 hw => ?_)
        refine V_if_eq (tgt := 70) dX11_isFree_65 (by decide) hw (fun hw => ?_) (fun hw => ?_)
        · exact V.sub [0, 1, 2, 3, 4] rfl (s_X11_isFree_70 hK2 hK10 hw)
        · refine V_iconst (v := 0) (by decide) dX11_isFree_68 ?_
          exact V_zret rfl hw.1 dX11_isFree_69 ⟨_, rfl, hw.2⟩
      · exact V.sub [0, 1, 2, 3, 4] rfl (s_X11_isFree_70 hK2 hK10 hw)
    · exact V.sub [0, 1, 2, 3, 4] rfl (s_X11_isFree_70 hK2 hK10 hw)
theorem s_X11_isFree_10 {l : Launch} {G : Gh} {l0 : Option Nat} {l1 : Int32} {l2 : Int32} {l3 : Int32} {l4 : Int32} {h : Hp} {Q : Int32 → Hp → Prop} {K2 : Int32 → Hp → Prop} (hK2 : ∀ (l3 : Int32) (h : Hp), K2 l3 h → V l G 1 yX11_isFree cX11_isFree 5 (some .boolean) 2 [(0, va_rf l0), (1, .int l1), (2, .int l2), (3, .int l3)] [] h (qI Q)) (hw : l_X11_isFree_10 l0 l1 l2 l3 l4 h Q K2) : V l G 1 yX11_isFree cX11_isFree 5 (some .boolean) 10 [(0, va_rf l0), (1, .int l1), (2, .int l2), (3, .int l3), (4, .int l4)] [] h (qI Q) :=
  Lo.ind (P := fun (s : Int32) h => V l G 1 yX11_isFree cX11_isFree 5 (some .boolean) 10 [(0, va_rf l0), (1, .int l1), (2, .int l2), (3, .int l3), (4, .int s)] [] h (qI Q)) (fun K ih s h hw => sb_X11_isFree_10 hK2 (fun l4 h hk => ih (l4) h hk) hw) hw
theorem sb_X11_isFree_2 {l : Launch} {G : Gh} {l0 : Option Nat} {l1 : Int32} {l2 : Int32} {l3 : Int32} {h : Hp} {Q : Int32 → Hp → Prop} {K2 : Int32 → Hp → Prop} (hK2 : ∀ (l3 : Int32) (h : Hp), K2 l3 h → V l G 1 yX11_isFree cX11_isFree 5 (some .boolean) 2 [(0, va_rf l0), (1, .int l1), (2, .int l2), (3, .int l3)] [] h (qI Q)) (hw : b_X11_isFree_2 l0 l1 l2 l3 h Q K2) : V l G 1 yX11_isFree cX11_isFree 5 (some .boolean) 2 [(0, va_rf l0), (1, .int l1), (2, .int l2), (3, .int l3)] [] h (qI Q) := by
  unfold b_X11_isFree_2 at hw
  refine V_iload_n 3 rfl rfl dX11_isFree_2 ?_
  refine V_iload_n 1 rfl rfl dX11_isFree_3 ?_
  refine V_icmp_ge (tgt := 82) dX11_isFree_4 (by decide) hw (fun hw => ?_) (fun hw => ?_)
  · refine V_iconst (v := 1) (by decide) dX11_isFree_82 ?_
    exact V_zret rfl hw.1 dX11_isFree_83 ⟨_, rfl, hw.2⟩
  · refine V_iconst (v := 0) (by decide) dX11_isFree_7 ?_
    refine V_istore (i := 4) [(4, .int 0), (0, va_rf l0), (1, .int l1), (2, .int l2), (3, .int l3)] (by decide) rfl dX11_isFree_8 ?_
    exact V.sub [1, 2, 3, 4, 0] rfl (s_X11_isFree_10 hK2 hw)
theorem s_X11_isFree_2 {l : Launch} {G : Gh} {l0 : Option Nat} {l1 : Int32} {l2 : Int32} {l3 : Int32} {h : Hp} {Q : Int32 → Hp → Prop}  (hw : l_X11_isFree_2 l0 l1 l2 l3 h Q) : V l G 1 yX11_isFree cX11_isFree 5 (some .boolean) 2 [(0, va_rf l0), (1, .int l1), (2, .int l2), (3, .int l3)] [] h (qI Q) :=
  Lo.ind (P := fun (s : Int32) h => V l G 1 yX11_isFree cX11_isFree 5 (some .boolean) 2 [(0, va_rf l0), (1, .int l1), (2, .int l2), (3, .int s)] [] h (qI Q)) (fun K ih s h hw => sb_X11_isFree_2 (fun l3 h hk => ih (l3) h hk) hw) hw
theorem s_X11_isFree_0 {l : Launch} {G : Gh} {l0 : Option Nat} {l1 : Int32} {l2 : Int32} {h : Hp} {Q : Int32 → Hp → Prop}  (hw : n_X11_isFree_0 l0 l1 l2 h Q) : V l G 1 yX11_isFree cX11_isFree 5 (some .boolean) 0 [(0, va_rf l0), (1, .int l1), (2, .int l2)] [] h (qI Q) := by
  unfold n_X11_isFree_0 at hw
  refine V_iconst (v := 0) (by decide) dX11_isFree_0 ?_
  refine V_istore_n (i := 3) [(3, .int 0), (0, va_rf l0), (1, .int l1), (2, .int l2)] rfl (by decide) rfl dX11_isFree_1 ?_
  exact V.sub [1, 2, 3, 0] rfl (s_X11_isFree_2 hw)
theorem r_X11_isFree {l : Launch} {G : Gh} (l0 : Option Nat) (l1 : Int32) (l2 : Int32) {h : Hp} {Q : Int32 → Hp → Prop} (hw : w_X11_isFree l0 l1 l2 h Q) : RunQ l G 1 yX11_isFree cX11_isFree 5 (some .boolean) [va_rf l0, .int l1, .int l2] h (qI Q) :=
  V_run rfl (sl_len _ _ (by simp [cat_i, cat_l, rf_cat])) (V.sub [0, 1, 2] (by simp only [la_r, la_i, la_l, la_n]; rfl) (s_X11_isFree_0 hw))
def n_X11_standing_40 (l0 : Option Nat) (l1 : Int32) (l2 : Int32) (l3 : Int32) (h : Hp) (Q : Int32 → Hp → Prop) (K4 : Int32 → Int32 → Hp → Prop) : Prop :=
  lt (l3 + 1) fun x5 =>
  K4 l2 x5 h
def b_X11_standing_4 (l0 : Option Nat) (l1 : Int32) (l2 : Int32) (l3 : Int32) (h : Hp) (Q : Int32 → Hp → Prop) (K4 : Int32 → Int32 → Hp → Prop) : Prop :=
  gI h l0 12 1410 fun v1 =>
  br (v1 ≤ l3) (
    Q l2 h) (
    gR h l0 12 1430 fun v2 =>
    ldI h v2 l3 fun v3 =>
    br (v3 = l1) (
      oV h l0 12 <| w_X11_stands l0 l3 h <| fun v4 h =>
      br (v4 = 0) (
        n_X11_standing_40 l0 l1 l2 l3 h Q K4) (
        gR h l0 12 1481 fun v6 =>
        lt (l2 + 1) fun x7 =>
        stI h v6 l2 l3 fun h =>
        n_X11_standing_40 l0 l1 x7 l3 h Q K4)) (
      n_X11_standing_40 l0 l1 l2 l3 h Q K4))
def l_X11_standing_4 (l0 : Option Nat) (l1 : Int32) (l2 : Int32) (l3 : Int32) (h : Hp) (Q : Int32 → Hp → Prop) : Prop :=
  Lo (fun (K : Int32 × Int32 → Hp → Prop) s h => b_X11_standing_4 l0 l1 s.1 s.2 h Q (fun l2 l3 h => K (l2, l3) h)) (l2, l3) h
def n_X11_standing_0 (l0 : Option Nat) (l1 : Int32) (h : Hp) (Q : Int32 → Hp → Prop) : Prop :=
  l_X11_standing_4 l0 l1 0 0 h Q
def w_X11_standing (l0 : Option Nat) (l1 : Int32) (h : Hp) (Q : Int32 → Hp → Prop) : Prop := n_X11_standing_0 l0 l1 h Q
theorem s_X11_standing_40 {l : Launch} {G : Gh} {l0 : Option Nat} {l1 : Int32} {l2 : Int32} {l3 : Int32} {h : Hp} {Q : Int32 → Hp → Prop} {K4 : Int32 → Int32 → Hp → Prop} (hK4 : ∀ (l2 : Int32) (l3 : Int32) (h : Hp), K4 l2 l3 h → V l G 2 yX11_standing cX11_standing 4 (some .int) 4 [(0, va_rf l0), (1, .int l1), (2, .int l2), (3, .int l3)] [] h (qI Q)) (hw : n_X11_standing_40 l0 l1 l2 l3 h Q K4) : V l G 2 yX11_standing cX11_standing 4 (some .int) 40 [(0, va_rf l0), (1, .int l1), (2, .int l2), (3, .int l3)] [] h (qI Q) := by
  unfold n_X11_standing_40 at hw
  refine V_iincL (n := 1) 3 (fun z => [(3, .int z), (0, va_rf l0), (1, .int l1), (2, .int l2)]) rfl (by rfl) (by decide) (fun _ => rfl) dX11_standing_40 hw (fun x5 hw => ?_)
  refine V_goto (tgt := 4) dX11_standing_43 (by decide) ?_
  exact V.sub [1, 2, 3, 0] rfl (hK4 _ _ _ hw)
theorem sb_X11_standing_4 {l : Launch} {G : Gh} {l0 : Option Nat} {l1 : Int32} {l2 : Int32} {l3 : Int32} {h : Hp} {Q : Int32 → Hp → Prop} {K4 : Int32 → Int32 → Hp → Prop} (hK4 : ∀ (l2 : Int32) (l3 : Int32) (h : Hp), K4 l2 l3 h → V l G 2 yX11_standing cX11_standing 4 (some .int) 4 [(0, va_rf l0), (1, .int l1), (2, .int l2), (3, .int l3)] [] h (qI Q)) (hw : b_X11_standing_4 l0 l1 l2 l3 h Q K4) : V l G 2 yX11_standing cX11_standing 4 (some .int) 4 [(0, va_rf l0), (1, .int l1), (2, .int l2), (3, .int l3)] [] h (qI Q) := by
  unfold b_X11_standing_4 at hw
  refine V_iload_n 3 rfl rfl dX11_standing_4 ?_
  refine V_aload_n 0 rfl rfl dX11_standing_5 ?_
  refine X_getI (c := 11) (k := 2) fa_X11_205 rfl dX11_standing_6 hw (fun v1 hw => ?_)
  refine V_icmp_ge (tgt := 46) dX11_standing_9 (by decide) hw (fun hw => ?_) (fun hw => ?_)
  · refine V_iload_n 2 rfl rfl dX11_standing_46 ?_
    exact V_iret rfl dX11_standing_47 ⟨_, rfl, hw⟩
  · refine V_aload_n 0 rfl rfl dX11_standing_12 ?_
    refine X_getR (c := 11) (k := 22) fa_X11_64 rfl dX11_standing_13 hw (fun v2 hw => ?_)
    refine V_iload_n 3 rfl rfl dX11_standing_16 ?_
    refine X_ldI dX11_standing_17 hw (fun v3 hw => ?_)
    refine V_iload_n 1 rfl rfl dX11_standing_18 ?_
    refine V_icmp_ne (tgt := 40) dX11_standing_19 (by decide) hw (fun hw => ?_) (fun hw => ?_)
    · refine V_aload_n 0 rfl rfl dX11_standing_22 ?_
      refine V_iload_n 3 rfl rfl dX11_standing_23 ?_
      refine X_cV 11 [.int l3] [] ma_X11_338 (by decide) rfl (by decide) (by decide) rfl (by simp [cat_i, cat_l, rf_cat]) rfl dX11_standing_24 hw (r_X11_stands _ _) (k_I (fun v4 h hw => ?_))
      refine V_if_eq (tgt := 40) dX11_standing_27 (by decide) hw (fun hw => ?_) (fun hw => ?_)
      · exact V.sub [0, 1, 2, 3] rfl (s_X11_standing_40 hK4 hw)
      · refine V_aload_n 0 rfl rfl dX11_standing_30 ?_
        refine X_getR (c := 11) (k := 73) fa_X11_187 rfl dX11_standing_31 hw (fun v6 hw => ?_)
        refine V_iload_n 2 rfl rfl dX11_standing_34 ?_
        refine V_iincL (n := 1) 2 (fun z => [(2, .int z), (0, va_rf l0), (1, .int l1), (3, .int l3)]) rfl (by rfl) (by decide) (fun _ => rfl) dX11_standing_35 hw (fun x7 hw => ?_)
        refine V_iload_n 3 rfl rfl dX11_standing_38 ?_
        refine X_stI dX11_standing_39 hw (fun h hw => ?_)
        exact V.sub [1, 2, 0, 3] rfl (s_X11_standing_40 hK4 hw)
    · exact V.sub [0, 1, 2, 3] rfl (s_X11_standing_40 hK4 hw)
theorem s_X11_standing_4 {l : Launch} {G : Gh} {l0 : Option Nat} {l1 : Int32} {l2 : Int32} {l3 : Int32} {h : Hp} {Q : Int32 → Hp → Prop}  (hw : l_X11_standing_4 l0 l1 l2 l3 h Q) : V l G 2 yX11_standing cX11_standing 4 (some .int) 4 [(0, va_rf l0), (1, .int l1), (2, .int l2), (3, .int l3)] [] h (qI Q) :=
  Lo.ind (P := fun (s : Int32 × Int32) h => V l G 2 yX11_standing cX11_standing 4 (some .int) 4 [(0, va_rf l0), (1, .int l1), (2, .int s.1), (3, .int s.2)] [] h (qI Q)) (fun K ih s h hw => sb_X11_standing_4 (fun l2 l3 h hk => ih (l2, l3) h hk) hw) hw
theorem s_X11_standing_0 {l : Launch} {G : Gh} {l0 : Option Nat} {l1 : Int32} {h : Hp} {Q : Int32 → Hp → Prop}  (hw : n_X11_standing_0 l0 l1 h Q) : V l G 2 yX11_standing cX11_standing 4 (some .int) 0 [(0, va_rf l0), (1, .int l1)] [] h (qI Q) := by
  unfold n_X11_standing_0 at hw
  refine V_iconst (v := 0) (by decide) dX11_standing_0 ?_
  refine V_istore_n (i := 2) [(2, .int 0), (0, va_rf l0), (1, .int l1)] rfl (by decide) rfl dX11_standing_1 ?_
  refine V_iconst (v := 0) (by decide) dX11_standing_2 ?_
  refine V_istore_n (i := 3) [(3, .int 0), (2, .int 0), (0, va_rf l0), (1, .int l1)] rfl (by decide) rfl dX11_standing_3 ?_
  exact V.sub [2, 3, 1, 0] rfl (s_X11_standing_4 hw)
theorem r_X11_standing {l : Launch} {G : Gh} (l0 : Option Nat) (l1 : Int32) {h : Hp} {Q : Int32 → Hp → Prop} (hw : w_X11_standing l0 l1 h Q) : RunQ l G 2 yX11_standing cX11_standing 4 (some .int) [va_rf l0, .int l1] h (qI Q) :=
  V_run rfl (sl_len _ _ (by simp [cat_i, cat_l, rf_cat])) (V.sub [0, 1] (by simp only [la_r, la_i, la_l, la_n]; rfl) (s_X11_standing_0 hw))
def n_X11_judge_15 (l0 : Option Nat) (h : Hp) (Q : Int32 → Hp → Prop) : Prop :=
  oV h l0 12 <| w_X11_no l0 (-1) h <| fun v2 h =>
  Q v2 h
def n_X11_judge_147 (s0 : Int32) (h : Hp) (Q : Int32 → Hp → Prop) : Prop :=
  Q s0 h
def n_X11_judge_88 (l0 : Option Nat) (h : Hp) (Q : Int32 → Hp → Prop) : Prop :=
  oV h l0 12 <| w_X11_no l0 (-6) h <| fun v13 h =>
  Q v13 h
def n_X11_judge_111 (l0 : Option Nat) (l2 : Int32) (l4 : Int32) (l5 : Int32) (l6 : Int32) (h : Hp) (Q : Int32 → Hp → Prop) (K50 : Int32 → Int32 → Hp → Prop) : Prop :=
  lt (l6 + 1) fun x14 =>
  K50 l5 x14 h
def b_X11_judge_50 (l0 : Option Nat) (l2 : Int32) (l4 : Int32) (l5 : Int32) (l6 : Int32) (h : Hp) (Q : Int32 → Hp → Prop) (K50 : Int32 → Int32 → Hp → Prop) : Prop :=
  gR h l0 12 1426 fun v6 =>
  ldI h v6 l2 fun v7 =>
  br (v7 ≤ l6) (
    br (l4 ≤ 12) (
      oV h l0 12 <| w_X11_isFree l0 l4 l5 h <| fun v8 h =>
      br (v8 = 0) (
        n_X11_judge_147 0 h Q) (
        n_X11_judge_147 1 h Q)) (
      oV h l0 12 <| w_X11_no l0 (-7) h <| fun v9 h =>
      Q v9 h)) (
    gR h l0 12 1428 fun v10 =>
    ldL h v10 ((60 * l2) + l6) fun v11 =>
    lt ((v11 : Int64).toInt32) fun x12 =>
    br (x12 < 0) (
      n_X11_judge_88 l0 h Q) (
      br (x12 < l4) (
        br (31 ≤ x12) (
          n_X11_judge_111 l0 l2 l4 l5 l6 h Q K50) (
          lt (l5 ||| (1 <<< (x12 &&& 31))) fun x15 =>
          n_X11_judge_111 l0 l2 l4 x15 l6 h Q K50)) (
        n_X11_judge_88 l0 h Q)))
def l_X11_judge_50 (l0 : Option Nat) (l2 : Int32) (l4 : Int32) (l5 : Int32) (l6 : Int32) (h : Hp) (Q : Int32 → Hp → Prop) : Prop :=
  Lo (fun (K : Int32 × Int32 → Hp → Prop) s h => b_X11_judge_50 l0 l2 l4 s.1 s.2 h Q (fun l5 l6 h => K (l5, l6) h)) (l5, l6) h
def n_X11_judge_0 (l0 : Option Nat) (l1 : Int32) (l2 : Int32) (h : Hp) (Q : Int32 → Hp → Prop) : Prop :=
  oV h l0 12 <| w_X11_isPlace l0 l1 h <| fun v1 h =>
  br (v1 = 0) (
    n_X11_judge_15 l0 h Q) (
    w_X11_isShelf l2 h <| fun v3 h =>
    br (v3 = 0) (
      n_X11_judge_15 l0 h Q) (
      oV h l0 12 <| w_X11_wants l0 l2 h <| fun v4 h =>
      br (v4 = 0) (
        oV h l0 12 <| w_X11_standing l0 l1 h <| fun v5 h =>
        l_X11_judge_50 l0 l2 v5 0 0 h Q) (
        oV h l0 12 <| w_X11_no l0 v4 h <| fun v16 h =>
        Q v16 h)))
def w_X11_judge (l0 : Option Nat) (l1 : Int32) (l2 : Int32) (h : Hp) (Q : Int32 → Hp → Prop) : Prop := n_X11_judge_0 l0 l1 l2 h Q
theorem s_X11_judge_15 {l : Launch} {G : Gh} {l0 : Option Nat} {h : Hp} {Q : Int32 → Hp → Prop}  (hw : n_X11_judge_15 l0 h Q) : V l G 3 yX11_judge cX11_judge 8 (some .int) 15 [(0, va_rf l0)] [] h (qI Q) := by
  unfold n_X11_judge_15 at hw
  refine V_aload_n 0 rfl rfl dX11_judge_15 ?_
  refine V_iconst (v := (-1)) (by decide) dX11_judge_16 ?_
  refine X_cV 11 [.int (-1)] [] ma_X11_212 (by decide) rfl (by decide) (by decide) rfl (by simp [cat_i, cat_l, rf_cat]) rfl dX11_judge_17 hw (r_X11_no _ _) (k_I (fun v2 h hw => ?_))
  exact V_iret rfl dX11_judge_20 ⟨_, rfl, hw⟩
theorem s_X11_judge_147 {l : Launch} {G : Gh} {s0 : Int32} {h : Hp} {Q : Int32 → Hp → Prop}  (hw : n_X11_judge_147 s0 h Q) : V l G 3 yX11_judge cX11_judge 8 (some .int) 147 [] [.int s0] h (qI Q) := by
  unfold n_X11_judge_147 at hw
  exact V_iret rfl dX11_judge_147 ⟨_, rfl, hw⟩
theorem s_X11_judge_88 {l : Launch} {G : Gh} {l0 : Option Nat} {h : Hp} {Q : Int32 → Hp → Prop}  (hw : n_X11_judge_88 l0 h Q) : V l G 3 yX11_judge cX11_judge 8 (some .int) 88 [(0, va_rf l0)] [] h (qI Q) := by
  unfold n_X11_judge_88 at hw
  refine V_aload_n 0 rfl rfl dX11_judge_88 ?_
  refine V_bipush (v := (-6)) (by decide) dX11_judge_89 ?_
  refine X_cV 11 [.int (-6)] [] ma_X11_212 (by decide) rfl (by decide) (by decide) rfl (by simp [cat_i, cat_l, rf_cat]) rfl dX11_judge_91 hw (r_X11_no _ _) (k_I (fun v13 h hw => ?_))
  exact V_iret rfl dX11_judge_94 ⟨_, rfl, hw⟩
theorem s_X11_judge_111 {l : Launch} {G : Gh} {l0 : Option Nat} {l2 : Int32} {l4 : Int32} {l5 : Int32} {l6 : Int32} {h : Hp} {Q : Int32 → Hp → Prop} {K50 : Int32 → Int32 → Hp → Prop} (hK50 : ∀ (l5 : Int32) (l6 : Int32) (h : Hp), K50 l5 l6 h → V l G 3 yX11_judge cX11_judge 8 (some .int) 50 [(0, va_rf l0), (2, .int l2), (4, .int l4), (5, .int l5), (6, .int l6)] [] h (qI Q)) (hw : n_X11_judge_111 l0 l2 l4 l5 l6 h Q K50) : V l G 3 yX11_judge cX11_judge 8 (some .int) 111 [(0, va_rf l0), (2, .int l2), (4, .int l4), (5, .int l5), (6, .int l6)] [] h (qI Q) := by
  unfold n_X11_judge_111 at hw
  refine V_iincL (n := 1) 4 (fun z => [(6, .int z), (0, va_rf l0), (2, .int l2), (4, .int l4), (5, .int l5)]) rfl (by rfl) (by decide) (fun _ => rfl) dX11_judge_111 hw (fun x14 hw => ?_)
  refine V_goto (tgt := 50) dX11_judge_114 (by decide) ?_
  exact V.sub [1, 2, 3, 4, 0] rfl (hK50 _ _ _ hw)
set_option maxRecDepth 20000 in
theorem sb_X11_judge_50 {l : Launch} {G : Gh} {l0 : Option Nat} {l2 : Int32} {l4 : Int32} {l5 : Int32} {l6 : Int32} {h : Hp} {Q : Int32 → Hp → Prop} {K50 : Int32 → Int32 → Hp → Prop} (hK50 : ∀ (l5 : Int32) (l6 : Int32) (h : Hp), K50 l5 l6 h → V l G 3 yX11_judge cX11_judge 8 (some .int) 50 [(0, va_rf l0), (2, .int l2), (4, .int l4), (5, .int l5), (6, .int l6)] [] h (qI Q)) (hw : b_X11_judge_50 l0 l2 l4 l5 l6 h Q K50) : V l G 3 yX11_judge cX11_judge 8 (some .int) 50 [(0, va_rf l0), (2, .int l2), (4, .int l4), (5, .int l5), (6, .int l6)] [] h (qI Q) := by
  unfold b_X11_judge_50 at hw
  refine V_iload 4 rfl dX11_judge_50 ?_
  refine V_aload_n 0 rfl rfl dX11_judge_52 ?_
  refine X_getR (c := 11) (k := 18) fa_X11_51 rfl dX11_judge_53 hw (fun v6 hw => ?_)
  refine V_iload_n 1 rfl rfl dX11_judge_56 ?_
  refine X_ldI dX11_judge_57 hw (fun v7 hw => ?_)
  refine V_icmp_ge (tgt := 117) dX11_judge_58 (by decide) hw (fun hw => ?_) (fun hw => ?_)
  · refine V_iload 2 rfl dX11_judge_117 ?_
    refine V_bipush (v := 12) (by decide) dX11_judge_119 ?_
    refine V_icmp_le (tgt := 131) dX11_judge_121 (by decide) hw (fun hw => ?_) (fun hw => ?_)
    · refine V_aload_n 0 rfl rfl dX11_judge_131 ?_
      refine V_iload 2 rfl dX11_judge_132 ?_
      refine V_iload 3 rfl dX11_judge_134 ?_
      refine X_cV 11 [.int l4, .int l5] [] ma_X11_373 (by decide) rfl (by decide) (by decide) rfl (by simp [cat_i, cat_l, rf_cat]) rfl dX11_judge_136 hw (r_X11_isFree _ _ _) (k_I (fun v8 h hw => ?_))
      refine V_if_eq (tgt := 146) dX11_judge_139 (by decide) hw (fun hw => ?_) (fun hw => ?_)
      · refine V_iconst (v := 0) (by decide) dX11_judge_146 ?_
        exact V.sub [] rfl (s_X11_judge_147 hw)
      · refine V_iconst (v := 1) (by decide) dX11_judge_142 ?_
        refine V_goto (tgt := 147) dX11_judge_143 (by decide) ?_
        exact V.sub [] rfl (s_X11_judge_147 hw)
    · refine V_aload_n 0 rfl rfl dX11_judge_124 ?_
      refine V_bipush (v := (-7)) (by decide) dX11_judge_125 ?_
      refine X_cV 11 [.int (-7)] [] ma_X11_212 (by decide) rfl (by decide) (by decide) rfl (by simp [cat_i, cat_l, rf_cat]) rfl dX11_judge_127 hw (r_X11_no _ _) (k_I (fun v9 h hw => ?_))
      exact V_iret rfl dX11_judge_130 ⟨_, rfl, hw⟩
  · refine V_aload_n 0 rfl rfl dX11_judge_61 ?_
    refine X_getR (c := 11) (k := 20) fa_X11_57 rfl dX11_judge_62 hw (fun v10 hw => ?_)
    refine V_bipush (v := 60) (by decide) dX11_judge_65 ?_
    refine V_iload_n 1 rfl rfl dX11_judge_67 ?_
    refine V_imul dX11_judge_68 ?_
    refine V_iload 4 rfl dX11_judge_69 ?_
    refine V_iadd dX11_judge_71 ?_
    refine X_ldL dX11_judge_72 hw (fun v11 hw => ?_)
    refine V_l2i dX11_judge_73 ?_
    refine V_ltI hw (fun x12 hw => ?_)
    refine V_istore (i := 7) [(7, .int x12), (0, va_rf l0), (2, .int l2), (4, .int l4), (5, .int l5), (6, .int l6)] (by decide) rfl dX11_judge_74 ?_
    refine V_iload 0 rfl dX11_judge_76 ?_
    refine V_if_lt (tgt := 88) dX11_judge_78 (by decide) hw (fun hw => ?_) (fun hw => ?_)
    · exact V.sub [1] rfl (s_X11_judge_88 hw)
    · refine V_iload 0 rfl dX11_judge_81 ?_
      refine V_iload 3 rfl dX11_judge_83 ?_
      refine V_icmp_lt (tgt := 95) dX11_judge_85 (by decide) hw (fun hw => ?_) (fun hw => ?_)
      · refine V_iload 0 rfl dX11_judge_95 ?_
        refine V_bipush (v := 31) (by decide) dX11_judge_97 ?_
        refine V_icmp_ge (tgt := 111) dX11_judge_99 (by decide) hw (fun hw => ?_) (fun hw => ?_)
        · exact V.sub [1, 2, 3, 4, 5] rfl (s_X11_judge_111 hK50 hw)
        · refine V_iload 4 rfl dX11_judge_102 ?_
          refine V_iconst (v := 1) (by decide) dX11_judge_104 ?_
          refine V_iload 0 rfl dX11_judge_105 ?_
          refine V_ishl dX11_judge_107 ?_
          refine V_ior dX11_judge_108 ?_
          refine V_ltI hw (fun x15 hw => ?_)
          refine V_istore (i := 5) [(5, .int x15), (7, .int x12), (0, va_rf l0), (2, .int l2), (4, .int l4), (6, .int l6)] (by decide) rfl dX11_judge_109 ?_
          exact V.sub [2, 3, 4, 0, 5] rfl (s_X11_judge_111 hK50 hw)
      · exact V.sub [1] rfl (s_X11_judge_88 hw)
theorem s_X11_judge_50 {l : Launch} {G : Gh} {l0 : Option Nat} {l2 : Int32} {l4 : Int32} {l5 : Int32} {l6 : Int32} {h : Hp} {Q : Int32 → Hp → Prop}  (hw : l_X11_judge_50 l0 l2 l4 l5 l6 h Q) : V l G 3 yX11_judge cX11_judge 8 (some .int) 50 [(0, va_rf l0), (2, .int l2), (4, .int l4), (5, .int l5), (6, .int l6)] [] h (qI Q) :=
  Lo.ind (P := fun (s : Int32 × Int32) h => V l G 3 yX11_judge cX11_judge 8 (some .int) 50 [(0, va_rf l0), (2, .int l2), (4, .int l4), (5, .int s.1), (6, .int s.2)] [] h (qI Q)) (fun K ih s h hw => sb_X11_judge_50 (fun l5 l6 h hk => ih (l5, l6) h hk) hw) hw
theorem s_X11_judge_0 {l : Launch} {G : Gh} {l0 : Option Nat} {l1 : Int32} {l2 : Int32} {h : Hp} {Q : Int32 → Hp → Prop}  (hw : n_X11_judge_0 l0 l1 l2 h Q) : V l G 3 yX11_judge cX11_judge 8 (some .int) 0 [(0, va_rf l0), (1, .int l1), (2, .int l2)] [] h (qI Q) := by
  unfold n_X11_judge_0 at hw
  refine V_aload_n 0 rfl rfl dX11_judge_0 ?_
  refine V_iload_n 1 rfl rfl dX11_judge_1 ?_
  refine X_cV 11 [.int l1] [] ma_X11_208 (by decide) rfl (by decide) (by decide) rfl (by simp [cat_i, cat_l, rf_cat]) rfl dX11_judge_2 hw (r_X11_isPlace _ _) (k_I (fun v1 h hw => ?_))
  refine V_if_eq (tgt := 15) dX11_judge_5 (by decide) hw (fun hw => ?_) (fun hw => ?_)
  · exact V.sub [0] rfl (s_X11_judge_15 hw)
  · refine V_iload_n 2 rfl rfl dX11_judge_8 ?_
    refine X_cS [.int l2] [] ma_X11_237 (by decide) (by decide) rfl (by simp [cat_i, cat_l, rf_cat]) rfl dX11_judge_9 (r_X11_isShelf _ hw) (k_I (fun v3 h hw => ?_))
    refine V_if_ne (tgt := 21) dX11_judge_12 (by decide) hw (fun hw => ?_) (fun hw => ?_)
    · exact V.sub [0] rfl (s_X11_judge_15 hw)
    · refine V_aload_n 0 rfl rfl dX11_judge_21 ?_
      refine V_iload_n 2 rfl rfl dX11_judge_22 ?_
      refine X_cV 11 [.int l2] [] ma_X11_249 (by decide) rfl (by decide) (by decide) rfl (by simp [cat_i, cat_l, rf_cat]) rfl dX11_judge_23 hw (r_X11_wants _ _) (k_I (fun v4 h hw => ?_))
      refine V_istore_n (i := 3) [(3, .int v4), (0, va_rf l0), (1, .int l1), (2, .int l2)] rfl (by decide) rfl dX11_judge_26 ?_
      refine V_iload_n 0 rfl rfl dX11_judge_27 ?_
      refine V_if_eq (tgt := 37) dX11_judge_28 (by decide) hw (fun hw => ?_) (fun hw => ?_)
      · refine V_aload_n 1 rfl rfl dX11_judge_37 ?_
        refine V_iload_n 2 rfl rfl dX11_judge_38 ?_
        refine X_cV 11 [.int l1] [] ma_X11_370 (by decide) rfl (by decide) (by decide) rfl (by simp [cat_i, cat_l, rf_cat]) rfl dX11_judge_39 hw (r_X11_standing _ _) (k_I (fun v5 h hw => ?_))
        refine V_istore (i := 4) [(4, .int v5), (3, .int v4), (0, va_rf l0), (1, .int l1), (2, .int l2)] (by decide) rfl dX11_judge_42 ?_
        refine V_iconst (v := 0) (by decide) dX11_judge_44 ?_
        refine V_istore (i := 5) [(5, .int 0), (4, .int v5), (3, .int v4), (0, va_rf l0), (1, .int l1), (2, .int l2)] (by decide) rfl dX11_judge_45 ?_
        refine V_iconst (v := 0) (by decide) dX11_judge_47 ?_
        refine V_istore (i := 6) [(6, .int 0), (5, .int 0), (4, .int v5), (3, .int v4), (0, va_rf l0), (1, .int l1), (2, .int l2)] (by decide) rfl dX11_judge_48 ?_
        exact V.sub [4, 6, 2, 1, 0] rfl (s_X11_judge_50 hw)
      · refine V_aload_n 1 rfl rfl dX11_judge_31 ?_
        refine V_iload_n 0 rfl rfl dX11_judge_32 ?_
        refine X_cV 11 [.int v4] [] ma_X11_212 (by decide) rfl (by decide) (by decide) rfl (by simp [cat_i, cat_l, rf_cat]) rfl dX11_judge_33 hw (r_X11_no _ _) (k_I (fun v16 h hw => ?_))
        exact V_iret rfl dX11_judge_36 ⟨_, rfl, hw⟩
theorem r_X11_judge {l : Launch} {G : Gh} (l0 : Option Nat) (l1 : Int32) (l2 : Int32) {h : Hp} {Q : Int32 → Hp → Prop} (hw : w_X11_judge l0 l1 l2 h Q) : RunQ l G 3 yX11_judge cX11_judge 8 (some .int) [va_rf l0, .int l1, .int l2] h (qI Q) :=
  V_run rfl (sl_len _ _ (by simp [cat_i, cat_l, rf_cat])) (V.sub [0, 1, 2] (by simp only [la_r, la_i, la_l, la_n]; rfl) (s_X11_judge_0 hw))
def n_X11_placesUnder_25 (l0 : Option Nat) (l1 : Int32) (l2 : Int32) (l3 : Int32) (h : Hp) (Q : Int32 → Hp → Prop) (K4 : Int32 → Int32 → Hp → Prop) : Prop :=
  lt (l3 + 1) fun x5 =>
  K4 l2 x5 h
def b_X11_placesUnder_4 (l0 : Option Nat) (l1 : Int32) (l2 : Int32) (l3 : Int32) (h : Hp) (Q : Int32 → Hp → Prop) (K4 : Int32 → Int32 → Hp → Prop) : Prop :=
  gI h l0 12 1409 fun v1 =>
  br (v1 ≤ l3) (
    Q l2 h) (
    gR h l0 12 1416 fun v2 =>
    ldI h v2 l3 fun v3 =>
    br (v3 = l1) (
      lt (l2 + 1) fun x4 =>
      n_X11_placesUnder_25 l0 l1 x4 l3 h Q K4) (
      n_X11_placesUnder_25 l0 l1 l2 l3 h Q K4))
def l_X11_placesUnder_4 (l0 : Option Nat) (l1 : Int32) (l2 : Int32) (l3 : Int32) (h : Hp) (Q : Int32 → Hp → Prop) : Prop :=
  Lo (fun (K : Int32 × Int32 → Hp → Prop) s h => b_X11_placesUnder_4 l0 l1 s.1 s.2 h Q (fun l2 l3 h => K (l2, l3) h)) (l2, l3) h
def n_X11_placesUnder_0 (l0 : Option Nat) (l1 : Int32) (h : Hp) (Q : Int32 → Hp → Prop) : Prop :=
  l_X11_placesUnder_4 l0 l1 0 0 h Q
def w_X11_placesUnder (l0 : Option Nat) (l1 : Int32) (h : Hp) (Q : Int32 → Hp → Prop) : Prop := n_X11_placesUnder_0 l0 l1 h Q
theorem s_X11_placesUnder_25 {l : Launch} {G : Gh} {l0 : Option Nat} {l1 : Int32} {l2 : Int32} {l3 : Int32} {h : Hp} {Q : Int32 → Hp → Prop} {K4 : Int32 → Int32 → Hp → Prop} (hK4 : ∀ (l2 : Int32) (l3 : Int32) (h : Hp), K4 l2 l3 h → V l G 1 yX11_placesUnder cX11_placesUnder 4 (some .int) 4 [(0, va_rf l0), (1, .int l1), (2, .int l2), (3, .int l3)] [] h (qI Q)) (hw : n_X11_placesUnder_25 l0 l1 l2 l3 h Q K4) : V l G 1 yX11_placesUnder cX11_placesUnder 4 (some .int) 25 [(0, va_rf l0), (1, .int l1), (2, .int l2), (3, .int l3)] [] h (qI Q) := by
  unfold n_X11_placesUnder_25 at hw
  refine V_iincL (n := 1) 3 (fun z => [(3, .int z), (0, va_rf l0), (1, .int l1), (2, .int l2)]) rfl (by rfl) (by decide) (fun _ => rfl) dX11_placesUnder_25 hw (fun x5 hw => ?_)
  refine V_goto (tgt := 4) dX11_placesUnder_28 (by decide) ?_
  exact V.sub [1, 2, 3, 0] rfl (hK4 _ _ _ hw)
theorem sb_X11_placesUnder_4 {l : Launch} {G : Gh} {l0 : Option Nat} {l1 : Int32} {l2 : Int32} {l3 : Int32} {h : Hp} {Q : Int32 → Hp → Prop} {K4 : Int32 → Int32 → Hp → Prop} (hK4 : ∀ (l2 : Int32) (l3 : Int32) (h : Hp), K4 l2 l3 h → V l G 1 yX11_placesUnder cX11_placesUnder 4 (some .int) 4 [(0, va_rf l0), (1, .int l1), (2, .int l2), (3, .int l3)] [] h (qI Q)) (hw : b_X11_placesUnder_4 l0 l1 l2 l3 h Q K4) : V l G 1 yX11_placesUnder cX11_placesUnder 4 (some .int) 4 [(0, va_rf l0), (1, .int l1), (2, .int l2), (3, .int l3)] [] h (qI Q) := by
  unfold b_X11_placesUnder_4 at hw
  refine V_iload_n 3 rfl rfl dX11_placesUnder_4 ?_
  refine V_aload_n 0 rfl rfl dX11_placesUnder_5 ?_
  refine X_getI (c := 11) (k := 1) fa_X11_7 rfl dX11_placesUnder_6 hw (fun v1 hw => ?_)
  refine V_icmp_ge (tgt := 31) dX11_placesUnder_9 (by decide) hw (fun hw => ?_) (fun hw => ?_)
  · refine V_iload_n 2 rfl rfl dX11_placesUnder_31 ?_
    exact V_iret rfl dX11_placesUnder_32 ⟨_, rfl, hw⟩
  · refine V_aload_n 0 rfl rfl dX11_placesUnder_12 ?_
    refine X_getR (c := 11) (k := 8) fa_X11_20 rfl dX11_placesUnder_13 hw (fun v2 hw => ?_)
    refine V_iload_n 3 rfl rfl dX11_placesUnder_16 ?_
    refine X_ldI dX11_placesUnder_17 hw (fun v3 hw => ?_)
    refine V_iload_n 1 rfl rfl dX11_placesUnder_18 ?_
    refine V_icmp_ne (tgt := 25) dX11_placesUnder_19 (by decide) hw (fun hw => ?_) (fun hw => ?_)
    · refine V_iincL (n := 1) 2 (fun z => [(2, .int z), (0, va_rf l0), (1, .int l1), (3, .int l3)]) rfl (by rfl) (by decide) (fun _ => rfl) dX11_placesUnder_22 hw (fun x4 hw => ?_)
      exact V.sub [1, 2, 0, 3] rfl (s_X11_placesUnder_25 hK4 hw)
    · exact V.sub [0, 1, 2, 3] rfl (s_X11_placesUnder_25 hK4 hw)
theorem s_X11_placesUnder_4 {l : Launch} {G : Gh} {l0 : Option Nat} {l1 : Int32} {l2 : Int32} {l3 : Int32} {h : Hp} {Q : Int32 → Hp → Prop}  (hw : l_X11_placesUnder_4 l0 l1 l2 l3 h Q) : V l G 1 yX11_placesUnder cX11_placesUnder 4 (some .int) 4 [(0, va_rf l0), (1, .int l1), (2, .int l2), (3, .int l3)] [] h (qI Q) :=
  Lo.ind (P := fun (s : Int32 × Int32) h => V l G 1 yX11_placesUnder cX11_placesUnder 4 (some .int) 4 [(0, va_rf l0), (1, .int l1), (2, .int s.1), (3, .int s.2)] [] h (qI Q)) (fun K ih s h hw => sb_X11_placesUnder_4 (fun l2 l3 h hk => ih (l2, l3) h hk) hw) hw
theorem s_X11_placesUnder_0 {l : Launch} {G : Gh} {l0 : Option Nat} {l1 : Int32} {h : Hp} {Q : Int32 → Hp → Prop}  (hw : n_X11_placesUnder_0 l0 l1 h Q) : V l G 1 yX11_placesUnder cX11_placesUnder 4 (some .int) 0 [(0, va_rf l0), (1, .int l1)] [] h (qI Q) := by
  unfold n_X11_placesUnder_0 at hw
  refine V_iconst (v := 0) (by decide) dX11_placesUnder_0 ?_
  refine V_istore_n (i := 2) [(2, .int 0), (0, va_rf l0), (1, .int l1)] rfl (by decide) rfl dX11_placesUnder_1 ?_
  refine V_iconst (v := 0) (by decide) dX11_placesUnder_2 ?_
  refine V_istore_n (i := 3) [(3, .int 0), (2, .int 0), (0, va_rf l0), (1, .int l1)] rfl (by decide) rfl dX11_placesUnder_3 ?_
  exact V.sub [2, 3, 1, 0] rfl (s_X11_placesUnder_4 hw)
theorem r_X11_placesUnder {l : Launch} {G : Gh} (l0 : Option Nat) (l1 : Int32) {h : Hp} {Q : Int32 → Hp → Prop} (hw : w_X11_placesUnder l0 l1 h Q) : RunQ l G 1 yX11_placesUnder cX11_placesUnder 4 (some .int) [va_rf l0, .int l1] h (qI Q) :=
  V_run rfl (sl_len _ _ (by simp [cat_i, cat_l, rf_cat])) (V.sub [0, 1] (by simp only [la_r, la_i, la_l, la_n]; rfl) (s_X11_placesUnder_0 hw))
def n_X11_valueOf_236 (l1 : Int32) (l5 : Int64) (h : Hp) (Q : Int64 → Hp → Prop) : Prop :=
  Q (((l1 : Int32).toInt64) * l5) h
def b_X11_valueOf_140 (l0 : Option Nat) (l1 : Int32) (l5 : Int64) (l7 : Int32) (h : Hp) (Q : Int64 → Hp → Prop) (K140 : Int64 → Int32 → Hp → Prop) : Prop :=
  gI h l0 12 1479 fun v5 =>
  br (v5 ≤ l7) (
    n_X11_valueOf_236 l1 l5 h Q) (
    gR h l0 12 1477 fun v6 =>
    ldI h v6 l7 fun v7 =>
    oV h l0 12 <| w_X11_hearthsBehind l0 v7 h <| fun v8 h =>
    lt (l5 + ((v8 : Int32).toInt64)) fun x9 =>
    lt (l7 + 1) fun x10 =>
    K140 x9 x10 h)
def l_X11_valueOf_140 (l0 : Option Nat) (l1 : Int32) (l5 : Int64) (l7 : Int32) (h : Hp) (Q : Int64 → Hp → Prop) : Prop :=
  Lo (fun (K : Int64 × Int32 → Hp → Prop) s h => b_X11_valueOf_140 l0 l1 s.1 s.2 h Q (fun l5 l7 h => K (l5, l7) h)) (l5, l7) h
def n_X11_valueOf_218 (l0 : Option Nat) (l1 : Int32) (l3 : Int32) (l4 : Int32) (h : Hp) (Q : Int64 → Hp → Prop) : Prop :=
  gR h l0 12 1422 fun v19 =>
  dvI l4 8 fun v20 =>
  ldI h v19 ((16 * l3) + v20) fun v21 =>
  lt ((v21 : Int32).toInt64) fun x22 =>
  n_X11_valueOf_236 l1 x22 h Q
def n_X11_valueOf_0 (l0 : Option Nat) (l1 : Int32) (l2 : Int32) (l3 : Int32) (l4 : Int32) (h : Hp) (Q : Int64 → Hp → Prop) : Prop :=
  br (l2 = (-1)) (
    Q ((l1 : Int32).toInt64) h) (
    br (l2 = 98) (
      oV h l0 12 <| w_X11_placesUnder l0 l3 h <| fun v1 h =>
      lt ((v1 : Int32).toInt64) fun x2 =>
      n_X11_valueOf_236 l1 x2 h Q) <|
    br (l2 = 100) (
      gI h l0 12 1408 fun v3 =>
      lt ((v3 : Int32).toInt64) fun x4 =>
      n_X11_valueOf_236 l1 x4 h Q) <|
    br (l2 = 104) (
      l_X11_valueOf_140 l0 l1 0 0 h Q) <|
    br (l2 = 109) (
      oV h l0 12 <| w_X11_joined l0 1 h <| fun v11 h =>
      lt ((v11 : Int32).toInt64) fun x12 =>
      n_X11_valueOf_236 l1 x12 h Q) <|
    br (l2 = 110) (
      gI h l0 12 1479 fun v13 =>
      lt ((v13 : Int32).toInt64) fun x14 =>
      n_X11_valueOf_236 l1 x14 h Q) <|
    br (l2 = 116) (
      oV h l0 12 <| w_X11_hearthsOf l0 l3 h <| fun v15 h =>
      lt ((v15 : Int32).toInt64) fun x16 =>
      n_X11_valueOf_236 l1 x16 h Q) <|
    br (l2 = 119) (
      dvI l4 8 fun v17 =>
      lt ((v17 : Int32).toInt64) fun x18 =>
      n_X11_valueOf_236 l1 x18 h Q) <|
    n_X11_valueOf_218 l0 l1 l3 l4 h Q)
def w_X11_valueOf (l0 : Option Nat) (l1 : Int32) (l2 : Int32) (l3 : Int32) (l4 : Int32) (h : Hp) (Q : Int64 → Hp → Prop) : Prop := n_X11_valueOf_0 l0 l1 l2 l3 l4 h Q
theorem s_X11_valueOf_236 {l : Launch} {G : Gh} {l1 : Int32} {l5 : Int64} {h : Hp} {Q : Int64 → Hp → Prop}  (hw : n_X11_valueOf_236 l1 l5 h Q) : V l G 3 yX11_valueOf cX11_valueOf 8 (some .long) 236 [(1, .int l1), (5, .long l5)] [] h (qL Q) := by
  unfold n_X11_valueOf_236 at hw
  refine V_iload_n 0 rfl rfl dX11_valueOf_236 ?_
  refine V_i2l dX11_valueOf_237 ?_
  refine V_lload 1 rfl dX11_valueOf_238 ?_
  refine V_lmul dX11_valueOf_240 ?_
  exact V_lret rfl dX11_valueOf_241 ⟨_, rfl, hw⟩
theorem sb_X11_valueOf_140 {l : Launch} {G : Gh} {l0 : Option Nat} {l1 : Int32} {l5 : Int64} {l7 : Int32} {h : Hp} {Q : Int64 → Hp → Prop} {K140 : Int64 → Int32 → Hp → Prop} (hK140 : ∀ (l5 : Int64) (l7 : Int32) (h : Hp), K140 l5 l7 h → V l G 3 yX11_valueOf cX11_valueOf 8 (some .long) 140 [(0, va_rf l0), (1, .int l1), (5, .long l5), (7, .int l7)] [] h (qL Q)) (hw : b_X11_valueOf_140 l0 l1 l5 l7 h Q K140) : V l G 3 yX11_valueOf cX11_valueOf 8 (some .long) 140 [(0, va_rf l0), (1, .int l1), (5, .long l5), (7, .int l7)] [] h (qL Q) := by
  unfold b_X11_valueOf_140 at hw
  refine V_iload 3 rfl dX11_valueOf_140 ?_
  refine V_aload_n 0 rfl rfl dX11_valueOf_142 ?_
  refine X_getI (c := 11) (k := 71) fa_X11_335 rfl dX11_valueOf_143 hw (fun v5 hw => ?_)
  refine V_icmp_ge (tgt := 172) dX11_valueOf_146 (by decide) hw (fun hw => ?_) (fun hw => ?_)
  · refine V_goto (tgt := 236) dX11_valueOf_172 (by decide) ?_
    exact V.sub [1, 2] rfl (s_X11_valueOf_236 hw)
  · refine V_lload 2 rfl dX11_valueOf_149 ?_
    refine V_aload_n 0 rfl rfl dX11_valueOf_151 ?_
    refine V_aload_n 0 rfl rfl dX11_valueOf_152 ?_
    refine X_getR (c := 11) (k := 69) fa_X11_178 rfl dX11_valueOf_153 hw (fun v6 hw => ?_)
    refine V_iload 3 rfl dX11_valueOf_156 ?_
    refine X_ldI dX11_valueOf_158 hw (fun v7 hw => ?_)
    refine X_cV 11 [.int v7] [.long l5] ma_X11_264 (by decide) rfl (by decide) (by decide) rfl (by simp [cat_i, cat_l, rf_cat]) rfl dX11_valueOf_159 hw (r_X11_hearthsBehind _ _) (k_I (fun v8 h hw => ?_))
    refine V_i2l dX11_valueOf_162 ?_
    refine V_ladd dX11_valueOf_163 ?_
    refine V_ltL hw (fun x9 hw => ?_)
    refine V_lstore (i := 5) [(5, .long x9), (0, va_rf l0), (1, .int l1), (7, .int l7)] (by decide) rfl dX11_valueOf_164 ?_
    refine V_iincL (n := 1) 3 (fun z => [(7, .int z), (5, .long x9), (0, va_rf l0), (1, .int l1)]) rfl (by rfl) (by decide) (fun _ => rfl) dX11_valueOf_166 hw (fun x10 hw => ?_)
    refine V_goto (tgt := 140) dX11_valueOf_169 (by decide) ?_
    exact V.sub [2, 3, 1, 0] rfl (hK140 _ _ _ hw)
theorem s_X11_valueOf_140 {l : Launch} {G : Gh} {l0 : Option Nat} {l1 : Int32} {l5 : Int64} {l7 : Int32} {h : Hp} {Q : Int64 → Hp → Prop}  (hw : l_X11_valueOf_140 l0 l1 l5 l7 h Q) : V l G 3 yX11_valueOf cX11_valueOf 8 (some .long) 140 [(0, va_rf l0), (1, .int l1), (5, .long l5), (7, .int l7)] [] h (qL Q) :=
  Lo.ind (P := fun (s : Int64 × Int32) h => V l G 3 yX11_valueOf cX11_valueOf 8 (some .long) 140 [(0, va_rf l0), (1, .int l1), (5, .long s.1), (7, .int s.2)] [] h (qL Q)) (fun K ih s h hw => sb_X11_valueOf_140 (fun l5 l7 h hk => ih (l5, l7) h hk) hw) hw
theorem s_X11_valueOf_218 {l : Launch} {G : Gh} {l0 : Option Nat} {l1 : Int32} {l3 : Int32} {l4 : Int32} {h : Hp} {Q : Int64 → Hp → Prop}  (hw : n_X11_valueOf_218 l0 l1 l3 l4 h Q) : V l G 3 yX11_valueOf cX11_valueOf 8 (some .long) 218 [(0, va_rf l0), (1, .int l1), (3, .int l3), (4, .int l4)] [] h (qL Q) := by
  unfold n_X11_valueOf_218 at hw
  refine V_aload_n 0 rfl rfl dX11_valueOf_218 ?_
  refine X_getR (c := 11) (k := 14) fa_X11_38 rfl dX11_valueOf_219 hw (fun v19 hw => ?_)
  refine V_bipush (v := 16) (by decide) dX11_valueOf_222 ?_
  refine V_iload_n 2 rfl rfl dX11_valueOf_224 ?_
  refine V_imul dX11_valueOf_225 ?_
  refine V_iload 3 rfl dX11_valueOf_226 ?_
  refine V_bipush (v := 8) (by decide) dX11_valueOf_228 ?_
  refine X_idiv dX11_valueOf_230 hw (fun v20 hw => ?_)
  refine V_iadd dX11_valueOf_231 ?_
  refine X_ldI dX11_valueOf_232 hw (fun v21 hw => ?_)
  refine V_i2l dX11_valueOf_233 ?_
  refine V_ltL hw (fun x22 hw => ?_)
  refine V_lstore (i := 5) [(5, .long x22), (0, va_rf l0), (1, .int l1), (3, .int l3), (4, .int l4)] (by decide) rfl dX11_valueOf_234 ?_
  exact V.sub [2, 0] rfl (s_X11_valueOf_236 hw)
set_option maxRecDepth 20000 in
theorem s_X11_valueOf_0 {l : Launch} {G : Gh} {l0 : Option Nat} {l1 : Int32} {l2 : Int32} {l3 : Int32} {l4 : Int32} {h : Hp} {Q : Int64 → Hp → Prop}  (hw : n_X11_valueOf_0 l0 l1 l2 l3 l4 h Q) : V l G 3 yX11_valueOf cX11_valueOf 8 (some .long) 0 [(0, va_rf l0), (1, .int l1), (2, .int l2), (3, .int l3), (4, .int l4)] [] h (qL Q) := by
  unfold n_X11_valueOf_0 at hw
  refine V_iload_n 2 rfl rfl dX11_valueOf_0 ?_
  refine V_iconst (v := (-1)) (by decide) dX11_valueOf_1 ?_
  refine V_icmp_ne (tgt := 8) dX11_valueOf_2 (by decide) hw (fun hw => ?_) (fun hw => ?_)
  · refine V_iload_n 1 rfl rfl dX11_valueOf_5 ?_
    refine V_i2l dX11_valueOf_6 ?_
    exact V_lret rfl dX11_valueOf_7 ⟨_, rfl, hw⟩
  · refine V_lconst (v := 0) (by decide) dX11_valueOf_8 ?_
    refine V_lstore (i := 5) [(5, .long 0), (0, va_rf l0), (1, .int l1), (2, .int l2), (3, .int l3), (4, .int l4)] (by decide) rfl dX11_valueOf_9 ?_
    refine V_iload_n 3 rfl rfl dX11_valueOf_11 ?_
    by_cases c98 : l2 = 98
    · replace hw := hw.1 c98
      refine V_tsw 126 dX11_valueOf_12 (by rw [c98]; exact Or.inr ⟨by decide, by decide, _, rfl, by decide⟩) ?_
      refine V_aload_n 1 rfl rfl dX11_valueOf_126 ?_
      refine V_iload_n 4 rfl rfl dX11_valueOf_127 ?_
      refine X_cV 11 [.int l3] [] ma_X11_341 (by decide) rfl (by decide) (by decide) rfl (by simp [cat_i, cat_l, rf_cat]) rfl dX11_valueOf_128 hw (r_X11_placesUnder _ _) (k_I (fun v1 h hw => ?_))
      refine V_i2l dX11_valueOf_131 ?_
      refine V_ltL hw (fun x2 hw => ?_)
      refine V_lstore (i := 5) [(5, .long x2), (0, va_rf l0), (1, .int l1), (2, .int l2), (3, .int l3), (4, .int l4)] (by decide) rfl dX11_valueOf_132 ?_
      refine V_goto (tgt := 236) dX11_valueOf_134 (by decide) ?_
      exact V.sub [2, 0] rfl (s_X11_valueOf_236 hw)
    replace hw := hw.2 c98
    by_cases c100 : l2 = 100
    · replace hw := hw.1 c100
      refine V_tsw 208 dX11_valueOf_12 (by rw [c100]; exact Or.inr ⟨by decide, by decide, _, rfl, by decide⟩) ?_
      refine V_aload_n 1 rfl rfl dX11_valueOf_208 ?_
      refine X_getI (c := 11) (k := 0) fa_X11_224 rfl dX11_valueOf_209 hw (fun v3 hw => ?_)
      refine V_i2l dX11_valueOf_212 ?_
      refine V_ltL hw (fun x4 hw => ?_)
      refine V_lstore (i := 5) [(5, .long x4), (0, va_rf l0), (1, .int l1), (2, .int l2), (3, .int l3), (4, .int l4)] (by decide) rfl dX11_valueOf_213 ?_
      refine V_goto (tgt := 236) dX11_valueOf_215 (by decide) ?_
      exact V.sub [2, 0] rfl (s_X11_valueOf_236 hw)
    replace hw := hw.2 c100
    by_cases c104 : l2 = 104
    · replace hw := hw.1 c104
      refine V_tsw 137 dX11_valueOf_12 (by rw [c104]; exact Or.inr ⟨by decide, by decide, _, rfl, by decide⟩) ?_
      refine V_iconst (v := 0) (by decide) dX11_valueOf_137 ?_
      refine V_istore (i := 7) [(7, .int 0), (5, .long 0), (0, va_rf l0), (1, .int l1), (2, .int l2), (3, .int l3), (4, .int l4)] (by decide) rfl dX11_valueOf_138 ?_
      exact V.sub [2, 3, 1, 0] rfl (s_X11_valueOf_140 hw)
    replace hw := hw.2 c104
    by_cases c109 : l2 = 109
    · replace hw := hw.1 c109
      refine V_tsw 186 dX11_valueOf_12 (by rw [c109]; exact Or.inr ⟨by decide, by decide, _, rfl, by decide⟩) ?_
      refine V_aload_n 1 rfl rfl dX11_valueOf_186 ?_
      refine V_iconst (v := 1) (by decide) dX11_valueOf_187 ?_
      refine X_cV 11 [.int 1] [] ma_X11_344 (by decide) rfl (by decide) (by decide) rfl (by simp [cat_i, cat_l, rf_cat]) rfl dX11_valueOf_188 hw (r_X11_joined _ _) (k_I (fun v11 h hw => ?_))
      refine V_i2l dX11_valueOf_191 ?_
      refine V_ltL hw (fun x12 hw => ?_)
      refine V_lstore (i := 5) [(5, .long x12), (0, va_rf l0), (1, .int l1), (2, .int l2), (3, .int l3), (4, .int l4)] (by decide) rfl dX11_valueOf_192 ?_
      refine V_goto (tgt := 236) dX11_valueOf_194 (by decide) ?_
      exact V.sub [2, 0] rfl (s_X11_valueOf_236 hw)
    replace hw := hw.2 c109
    by_cases c110 : l2 = 110
    · replace hw := hw.1 c110
      refine V_tsw 116 dX11_valueOf_12 (by rw [c110]; exact Or.inr ⟨by decide, by decide, _, rfl, by decide⟩) ?_
      refine V_aload_n 1 rfl rfl dX11_valueOf_116 ?_
      refine X_getI (c := 11) (k := 71) fa_X11_335 rfl dX11_valueOf_117 hw (fun v13 hw => ?_)
      refine V_i2l dX11_valueOf_120 ?_
      refine V_ltL hw (fun x14 hw => ?_)
      refine V_lstore (i := 5) [(5, .long x14), (0, va_rf l0), (1, .int l1), (2, .int l2), (3, .int l3), (4, .int l4)] (by decide) rfl dX11_valueOf_121 ?_
      refine V_goto (tgt := 236) dX11_valueOf_123 (by decide) ?_
      exact V.sub [2, 0] rfl (s_X11_valueOf_236 hw)
    replace hw := hw.2 c110
    by_cases c116 : l2 = 116
    · replace hw := hw.1 c116
      refine V_tsw 175 dX11_valueOf_12 (by rw [c116]; exact Or.inr ⟨by decide, by decide, _, rfl, by decide⟩) ?_
      refine V_aload_n 1 rfl rfl dX11_valueOf_175 ?_
      refine V_iload_n 4 rfl rfl dX11_valueOf_176 ?_
      refine X_cV 11 [.int l3] [] ma_X11_231 (by decide) rfl (by decide) (by decide) rfl (by simp [cat_i, cat_l, rf_cat]) rfl dX11_valueOf_177 hw (r_X11_hearthsOf _ _) (k_I (fun v15 h hw => ?_))
      refine V_i2l dX11_valueOf_180 ?_
      refine V_ltL hw (fun x16 hw => ?_)
      refine V_lstore (i := 5) [(5, .long x16), (0, va_rf l0), (1, .int l1), (2, .int l2), (3, .int l3), (4, .int l4)] (by decide) rfl dX11_valueOf_181 ?_
      refine V_goto (tgt := 236) dX11_valueOf_183 (by decide) ?_
      exact V.sub [2, 0] rfl (s_X11_valueOf_236 hw)
    replace hw := hw.2 c116
    by_cases c119 : l2 = 119
    · replace hw := hw.1 c119
      refine V_tsw 197 dX11_valueOf_12 (by rw [c119]; exact Or.inr ⟨by decide, by decide, _, rfl, by decide⟩) ?_
      refine V_iload 5 rfl dX11_valueOf_197 ?_
      refine V_bipush (v := 8) (by decide) dX11_valueOf_199 ?_
      refine X_idiv dX11_valueOf_201 hw (fun v17 hw => ?_)
      refine V_i2l dX11_valueOf_202 ?_
      refine V_ltL hw (fun x18 hw => ?_)
      refine V_lstore (i := 5) [(5, .long x18), (0, va_rf l0), (1, .int l1), (2, .int l2), (3, .int l3), (4, .int l4)] (by decide) rfl dX11_valueOf_203 ?_
      refine V_goto (tgt := 236) dX11_valueOf_205 (by decide) ?_
      exact V.sub [2, 0] rfl (s_X11_valueOf_236 hw)
    replace hw := hw.2 c119
    refine V_tswD 218 dX11_valueOf_12 (by decide) (fun v h1 h2 => ?_) ?_
    · rcases (show v = 98 ∨ v = 99 ∨ v = 100 ∨ v = 101 ∨ v = 102 ∨ v = 103 ∨ v = 104 ∨ v = 105 ∨ v = 106 ∨ v = 107 ∨ v = 108 ∨ v = 109 ∨ v = 110 ∨ v = 111 ∨ v = 112 ∨ v = 113 ∨ v = 114 ∨ v = 115 ∨ v = 116 ∨ v = 117 ∨ v = 118 ∨ v = 119 by omega) with rfl | rfl | rfl | rfl | rfl | rfl | rfl | rfl | rfl | rfl | rfl | rfl | rfl | rfl | rfl | rfl | rfl | rfl | rfl | rfl | rfl | rfl
      · exact Or.inl c98
      · exact Or.inr ⟨_, rfl, by decide⟩
      · exact Or.inl c100
      · exact Or.inr ⟨_, rfl, by decide⟩
      · exact Or.inr ⟨_, rfl, by decide⟩
      · exact Or.inr ⟨_, rfl, by decide⟩
      · exact Or.inl c104
      · exact Or.inr ⟨_, rfl, by decide⟩
      · exact Or.inr ⟨_, rfl, by decide⟩
      · exact Or.inr ⟨_, rfl, by decide⟩
      · exact Or.inr ⟨_, rfl, by decide⟩
      · exact Or.inl c109
      · exact Or.inl c110
      · exact Or.inr ⟨_, rfl, by decide⟩
      · exact Or.inr ⟨_, rfl, by decide⟩
      · exact Or.inr ⟨_, rfl, by decide⟩
      · exact Or.inr ⟨_, rfl, by decide⟩
      · exact Or.inr ⟨_, rfl, by decide⟩
      · exact Or.inl c116
      · exact Or.inr ⟨_, rfl, by decide⟩
      · exact Or.inr ⟨_, rfl, by decide⟩
      · exact Or.inl c119
    · exact V.sub [1, 2, 4, 5] rfl (s_X11_valueOf_218 hw)
theorem r_X11_valueOf {l : Launch} {G : Gh} (l0 : Option Nat) (l1 : Int32) (l2 : Int32) (l3 : Int32) (l4 : Int32) {h : Hp} {Q : Int64 → Hp → Prop} (hw : w_X11_valueOf l0 l1 l2 l3 l4 h Q) : RunQ l G 3 yX11_valueOf cX11_valueOf 8 (some .long) [va_rf l0, .int l1, .int l2, .int l3, .int l4] h (qL Q) :=
  V_run rfl (sl_len _ _ (by simp [cat_i, cat_l, rf_cat])) (V.sub [0, 1, 2, 3, 4] (by simp only [la_r, la_i, la_l, la_n]; rfl) (s_X11_valueOf_0 hw))
def n_X11_keeps_267 (s0 : Int32) (h : Hp) (Q : Int32 → Hp → Prop) : Prop :=
  rZ s0 h Q
def n_X11_keeps_246 (l0 : Option Nat) (l1 : Int32) (l2 : Int32) (l3 : Int32) (l4 : Int32) (l5 : Int32) (h : Hp) (Q : Int32 → Hp → Prop) (K6 : Int32 → Int32 → Hp → Prop) : Prop :=
  lt (l5 + 1) fun x10 =>
  K6 l4 x10 h
def n_X11_keeps_245 (l0 : Option Nat) (l1 : Int32) (l2 : Int32) (l3 : Int32) (l4 : Int32) (l5 : Int32) (s0 : Int32) (s1 : Int32) (s2 : Option Nat) (h : Hp) (Q : Int32 → Hp → Prop) (K6 : Int32 → Int32 → Hp → Prop) : Prop :=
  stI h s2 s1 s0 fun h =>
  n_X11_keeps_246 l0 l1 l2 l3 l4 l5 h Q K6
def n_X11_keeps_157 (l0 : Option Nat) (l1 : Int32) (l2 : Int32) (l3 : Int32) (l4 : Int32) (l5 : Int32) (s0 : Int32) (s1 : Int32) (s2 : Option Nat) (h : Hp) (Q : Int32 → Hp → Prop) (K6 : Int32 → Int32 → Hp → Prop) : Prop :=
  stI h s2 s1 s0 fun h =>
  n_X11_keeps_246 l0 l1 l2 l3 l4 l5 h Q K6
def n_X11_keeps_156 (l0 : Option Nat) (l1 : Int32) (l2 : Int32) (l3 : Int32) (l4 : Int32) (l5 : Int32) (s0 : Int32) (s1 : Option Nat) (h : Hp) (Q : Int32 → Hp → Prop) (K6 : Int32 → Int32 → Hp → Prop) : Prop :=
  n_X11_keeps_157 l0 l1 l2 l3 l4 l5 0 s0 s1 h Q K6
def n_X11_keeps_152 (l0 : Option Nat) (l1 : Int32) (l2 : Int32) (l3 : Int32) (l4 : Int32) (l5 : Int32) (s0 : Int32) (s1 : Option Nat) (h : Hp) (Q : Int32 → Hp → Prop) (K6 : Int32 → Int32 → Hp → Prop) : Prop :=
  n_X11_keeps_157 l0 l1 l2 l3 l4 l5 1 s0 s1 h Q K6
def b_X11_keeps_6 (l0 : Option Nat) (l1 : Int32) (l2 : Int32) (l3 : Int32) (l4 : Int32) (l5 : Int32) (h : Hp) (Q : Int32 → Hp → Prop) (K6 : Int32 → Int32 → Hp → Prop) : Prop :=
  gR h l0 12 1454 fun v1 =>
  ldI h v1 l1 fun v2 =>
  br (v2 ≤ l5) (
    gR h l0 12 1480 fun v3 =>
    ldI h v3 0 fun v4 =>
    br (v4 = 1) (
      n_X11_keeps_267 1 h Q) (
      n_X11_keeps_267 0 h Q)) (
    gR h l0 12 1456 fun v5 =>
    ldI h v5 ((100 * l1) + l5) fun v6 =>
    br (v6 < 0) (
      br (v6 = (-1)) (
        gR h l0 12 1480 fun v7 =>
        gR h l0 12 1480 fun v8 =>
        ldI h v8 (l4 - 1) fun v9 =>
        stI h v7 (l4 - 1) (1 - v9) fun h =>
        n_X11_keeps_246 l0 l1 l2 l3 l4 l5 h Q K6) (
        lt (l4 + (-1)) fun x11 =>
        gR h l0 12 1480 fun v12 =>
        br (v6 = (-2)) (
          gR h l0 12 1480 fun v13 =>
          ldI h v13 (x11 - 1) fun v14 =>
          gR h l0 12 1480 fun v15 =>
          ldI h v15 x11 fun v16 =>
          n_X11_keeps_245 l0 l1 l2 l3 x11 l5 (v14 &&& v16) (x11 - 1) v12 h Q K6) (
          gR h l0 12 1480 fun v17 =>
          ldI h v17 (x11 - 1) fun v18 =>
          gR h l0 12 1480 fun v19 =>
          ldI h v19 x11 fun v20 =>
          n_X11_keeps_245 l0 l1 l2 l3 x11 l5 (v18 ||| v20) (x11 - 1) v12 h Q K6))) (
      lt ((40 * l1) + v6) fun x21 =>
      gR h l0 12 1457 fun v22 =>
      ldI h v22 x21 fun v23 =>
      gR h l0 12 1458 fun v24 =>
      ldI h v24 x21 fun v25 =>
      oV h l0 12 <| w_X11_valueOf l0 v23 v25 l2 l3 h <| fun v26 h =>
      gR h l0 12 1460 fun v27 =>
      ldI h v27 x21 fun v28 =>
      gR h l0 12 1461 fun v29 =>
      ldI h v29 x21 fun v30 =>
      oV h l0 12 <| w_X11_valueOf l0 v28 v30 l2 l3 h <| fun v31 h =>
      gR h l0 12 1480 fun v32 =>
      lt (l4 + 1) fun x33 =>
      gR h l0 12 1459 fun v34 =>
      ldI h v34 x21 fun v35 =>
      br (v35 = 60) (
        br (0 ≤ (lg_cmp v26 v31)) (
          n_X11_keeps_156 l0 l1 l2 l3 x33 l5 l4 v32 h Q K6) (
          n_X11_keeps_152 l0 l1 l2 l3 x33 l5 l4 v32 h Q K6)) (
        gR h l0 12 1459 fun v36 =>
        ldI h v36 x21 fun v37 =>
        br (v37 = 62) (
          br ((lg_cmp v26 v31) ≤ 0) (
            n_X11_keeps_156 l0 l1 l2 l3 x33 l5 l4 v32 h Q K6) (
            n_X11_keeps_152 l0 l1 l2 l3 x33 l5 l4 v32 h Q K6)) (
          br ((lg_cmp v26 v31) = 0) (
            n_X11_keeps_152 l0 l1 l2 l3 x33 l5 l4 v32 h Q K6) (
            n_X11_keeps_156 l0 l1 l2 l3 x33 l5 l4 v32 h Q K6)))))
def l_X11_keeps_6 (l0 : Option Nat) (l1 : Int32) (l2 : Int32) (l3 : Int32) (l4 : Int32) (l5 : Int32) (h : Hp) (Q : Int32 → Hp → Prop) : Prop :=
  Lo (fun (K : Int32 × Int32 → Hp → Prop) s h => b_X11_keeps_6 l0 l1 l2 l3 s.1 s.2 h Q (fun l4 l5 h => K (l4, l5) h)) (l4, l5) h
def n_X11_keeps_0 (l0 : Option Nat) (l1 : Int32) (l2 : Int32) (l3 : Int32) (h : Hp) (Q : Int32 → Hp → Prop) : Prop :=
  l_X11_keeps_6 l0 l1 l2 l3 0 0 h Q
def w_X11_keeps (l0 : Option Nat) (l1 : Int32) (l2 : Int32) (l3 : Int32) (h : Hp) (Q : Int32 → Hp → Prop) : Prop := n_X11_keeps_0 l0 l1 l2 l3 h Q
theorem s_X11_keeps_267 {l : Launch} {G : Gh} {s0 : Int32} {h : Hp} {Q : Int32 → Hp → Prop}  (hw : n_X11_keeps_267 s0 h Q) : V l G 4 yX11_keeps cX11_keeps 12 (some .boolean) 267 [] [.int s0] h (qI Q) := by
  unfold n_X11_keeps_267 at hw
  exact V_zret rfl hw.1 dX11_keeps_267 ⟨_, rfl, hw.2⟩
theorem s_X11_keeps_246 {l : Launch} {G : Gh} {l0 : Option Nat} {l1 : Int32} {l2 : Int32} {l3 : Int32} {l4 : Int32} {l5 : Int32} {h : Hp} {Q : Int32 → Hp → Prop} {K6 : Int32 → Int32 → Hp → Prop} (hK6 : ∀ (l4 : Int32) (l5 : Int32) (h : Hp), K6 l4 l5 h → V l G 4 yX11_keeps cX11_keeps 12 (some .boolean) 6 [(0, va_rf l0), (1, .int l1), (2, .int l2), (3, .int l3), (4, .int l4), (5, .int l5)] [] h (qI Q)) (hw : n_X11_keeps_246 l0 l1 l2 l3 l4 l5 h Q K6) : V l G 4 yX11_keeps cX11_keeps 12 (some .boolean) 246 [(0, va_rf l0), (1, .int l1), (2, .int l2), (3, .int l3), (4, .int l4), (5, .int l5)] [] h (qI Q) := by
  unfold n_X11_keeps_246 at hw
  refine V_iincL (n := 1) 5 (fun z => [(5, .int z), (0, va_rf l0), (1, .int l1), (2, .int l2), (3, .int l3), (4, .int l4)]) rfl (by rfl) (by decide) (fun _ => rfl) dX11_keeps_246 hw (fun x10 hw => ?_)
  refine V_goto (tgt := 6) dX11_keeps_249 (by decide) ?_
  exact V.sub [1, 2, 3, 4, 5, 0] rfl (hK6 _ _ _ hw)
theorem s_X11_keeps_245 {l : Launch} {G : Gh} {l0 : Option Nat} {l1 : Int32} {l2 : Int32} {l3 : Int32} {l4 : Int32} {l5 : Int32} {s0 : Int32} {s1 : Int32} {s2 : Option Nat} {h : Hp} {Q : Int32 → Hp → Prop} {K6 : Int32 → Int32 → Hp → Prop} (hK6 : ∀ (l4 : Int32) (l5 : Int32) (h : Hp), K6 l4 l5 h → V l G 4 yX11_keeps cX11_keeps 12 (some .boolean) 6 [(0, va_rf l0), (1, .int l1), (2, .int l2), (3, .int l3), (4, .int l4), (5, .int l5)] [] h (qI Q)) (hw : n_X11_keeps_245 l0 l1 l2 l3 l4 l5 s0 s1 s2 h Q K6) : V l G 4 yX11_keeps cX11_keeps 12 (some .boolean) 245 [(0, va_rf l0), (1, .int l1), (2, .int l2), (3, .int l3), (4, .int l4), (5, .int l5)] [.int s0, .int s1, va_rf s2] h (qI Q) := by
  unfold n_X11_keeps_245 at hw
  refine X_stI dX11_keeps_245 hw (fun h hw => ?_)
  exact V.sub [0, 1, 2, 3, 4, 5] rfl (s_X11_keeps_246 hK6 hw)
theorem s_X11_keeps_157 {l : Launch} {G : Gh} {l0 : Option Nat} {l1 : Int32} {l2 : Int32} {l3 : Int32} {l4 : Int32} {l5 : Int32} {s0 : Int32} {s1 : Int32} {s2 : Option Nat} {h : Hp} {Q : Int32 → Hp → Prop} {K6 : Int32 → Int32 → Hp → Prop} (hK6 : ∀ (l4 : Int32) (l5 : Int32) (h : Hp), K6 l4 l5 h → V l G 4 yX11_keeps cX11_keeps 12 (some .boolean) 6 [(0, va_rf l0), (1, .int l1), (2, .int l2), (3, .int l3), (4, .int l4), (5, .int l5)] [] h (qI Q)) (hw : n_X11_keeps_157 l0 l1 l2 l3 l4 l5 s0 s1 s2 h Q K6) : V l G 4 yX11_keeps cX11_keeps 12 (some .boolean) 157 [(0, va_rf l0), (1, .int l1), (2, .int l2), (3, .int l3), (4, .int l4), (5, .int l5)] [.int s0, .int s1, va_rf s2] h (qI Q) := by
  unfold n_X11_keeps_157 at hw
  refine X_stI dX11_keeps_157 hw (fun h hw => ?_)
  refine V_goto (tgt := 246) dX11_keeps_158 (by decide) ?_
  exact V.sub [0, 1, 2, 3, 4, 5] rfl (s_X11_keeps_246 hK6 hw)
theorem s_X11_keeps_156 {l : Launch} {G : Gh} {l0 : Option Nat} {l1 : Int32} {l2 : Int32} {l3 : Int32} {l4 : Int32} {l5 : Int32} {s0 : Int32} {s1 : Option Nat} {h : Hp} {Q : Int32 → Hp → Prop} {K6 : Int32 → Int32 → Hp → Prop} (hK6 : ∀ (l4 : Int32) (l5 : Int32) (h : Hp), K6 l4 l5 h → V l G 4 yX11_keeps cX11_keeps 12 (some .boolean) 6 [(0, va_rf l0), (1, .int l1), (2, .int l2), (3, .int l3), (4, .int l4), (5, .int l5)] [] h (qI Q)) (hw : n_X11_keeps_156 l0 l1 l2 l3 l4 l5 s0 s1 h Q K6) : V l G 4 yX11_keeps cX11_keeps 12 (some .boolean) 156 [(0, va_rf l0), (1, .int l1), (2, .int l2), (3, .int l3), (4, .int l4), (5, .int l5)] [.int s0, va_rf s1] h (qI Q) := by
  unfold n_X11_keeps_156 at hw
  refine V_iconst (v := 0) (by decide) dX11_keeps_156 ?_
  exact V.sub [0, 1, 2, 3, 4, 5] rfl (s_X11_keeps_157 hK6 hw)
theorem s_X11_keeps_152 {l : Launch} {G : Gh} {l0 : Option Nat} {l1 : Int32} {l2 : Int32} {l3 : Int32} {l4 : Int32} {l5 : Int32} {s0 : Int32} {s1 : Option Nat} {h : Hp} {Q : Int32 → Hp → Prop} {K6 : Int32 → Int32 → Hp → Prop} (hK6 : ∀ (l4 : Int32) (l5 : Int32) (h : Hp), K6 l4 l5 h → V l G 4 yX11_keeps cX11_keeps 12 (some .boolean) 6 [(0, va_rf l0), (1, .int l1), (2, .int l2), (3, .int l3), (4, .int l4), (5, .int l5)] [] h (qI Q)) (hw : n_X11_keeps_152 l0 l1 l2 l3 l4 l5 s0 s1 h Q K6) : V l G 4 yX11_keeps cX11_keeps 12 (some .boolean) 152 [(0, va_rf l0), (1, .int l1), (2, .int l2), (3, .int l3), (4, .int l4), (5, .int l5)] [.int s0, va_rf s1] h (qI Q) := by
  unfold n_X11_keeps_152 at hw
  refine V_iconst (v := 1) (by decide) dX11_keeps_152 ?_
  refine V_goto (tgt := 157) dX11_keeps_153 (by decide) ?_
  exact V.sub [0, 1, 2, 3, 4, 5] rfl (s_X11_keeps_157 hK6 hw)
set_option maxRecDepth 20000 in
theorem sb_X11_keeps_6 {l : Launch} {G : Gh} {l0 : Option Nat} {l1 : Int32} {l2 : Int32} {l3 : Int32} {l4 : Int32} {l5 : Int32} {h : Hp} {Q : Int32 → Hp → Prop} {K6 : Int32 → Int32 → Hp → Prop} (hK6 : ∀ (l4 : Int32) (l5 : Int32) (h : Hp), K6 l4 l5 h → V l G 4 yX11_keeps cX11_keeps 12 (some .boolean) 6 [(0, va_rf l0), (1, .int l1), (2, .int l2), (3, .int l3), (4, .int l4), (5, .int l5)] [] h (qI Q)) (hw : b_X11_keeps_6 l0 l1 l2 l3 l4 l5 h Q K6) : V l G 4 yX11_keeps cX11_keeps 12 (some .boolean) 6 [(0, va_rf l0), (1, .int l1), (2, .int l2), (3, .int l3), (4, .int l4), (5, .int l5)] [] h (qI Q) := by
  unfold b_X11_keeps_6 at hw
  refine V_iload 5 rfl dX11_keeps_6 ?_
  refine V_aload_n 0 rfl rfl dX11_keeps_8 ?_
  refine X_getR (c := 11) (k := 46) fa_X11_136 rfl dX11_keeps_9 hw (fun v1 hw => ?_)
  refine V_iload_n 1 rfl rfl dX11_keeps_12 ?_
  refine X_ldI dX11_keeps_13 hw (fun v2 hw => ?_)
  refine V_icmp_ge (tgt := 252) dX11_keeps_14 (by decide) hw (fun hw => ?_) (fun hw => ?_)
  · refine V_aload_n 0 rfl rfl dX11_keeps_252 ?_
    refine X_getR (c := 11) (k := 72) fa_X11_184 rfl dX11_keeps_253 hw (fun v3 hw => ?_)
    refine V_iconst (v := 0) (by decide) dX11_keeps_256 ?_
    refine X_ldI dX11_keeps_257 hw (fun v4 hw => ?_)
    refine V_iconst (v := 1) (by decide) dX11_keeps_258 ?_
    refine V_icmp_ne (tgt := 266) dX11_keeps_259 (by decide) hw (fun hw => ?_) (fun hw => ?_)
    · refine V_iconst (v := 1) (by decide) dX11_keeps_262 ?_
      refine V_goto (tgt := 267) dX11_keeps_263 (by decide) ?_
      exact V.sub [] rfl (s_X11_keeps_267 hw)
    · refine V_iconst (v := 0) (by decide) dX11_keeps_266 ?_
      exact V.sub [] rfl (s_X11_keeps_267 hw)
  · refine V_aload_n 0 rfl rfl dX11_keeps_17 ?_
    refine X_getR (c := 11) (k := 48) fa_X11_142 rfl dX11_keeps_18 hw (fun v5 hw => ?_)
    refine V_bipush (v := 100) (by decide) dX11_keeps_21 ?_
    refine V_iload_n 1 rfl rfl dX11_keeps_23 ?_
    refine V_imul dX11_keeps_24 ?_
    refine V_iload 5 rfl dX11_keeps_25 ?_
    refine V_iadd dX11_keeps_27 ?_
    refine X_ldI dX11_keeps_28 hw (fun v6 hw => ?_)
    refine V_istore (i := 6) [(6, .int v6), (0, va_rf l0), (1, .int l1), (2, .int l2), (3, .int l3), (4, .int l4), (5, .int l5)] (by decide) rfl dX11_keeps_29 ?_
    refine V_iload 0 rfl dX11_keeps_31 ?_
    refine V_if_lt (tgt := 161) dX11_keeps_33 (by decide) hw (fun hw => ?_) (fun hw => ?_)
    · refine V_iload 0 rfl dX11_keeps_161 ?_
      refine V_iconst (v := (-1)) (by decide) dX11_keeps_163 ?_
      refine V_icmp_ne (tgt := 190) dX11_keeps_164 (by decide) hw (fun hw => ?_) (fun hw => ?_)
      · refine V_aload_n 1 rfl rfl dX11_keeps_167 ?_
        refine X_getR (c := 11) (k := 72) fa_X11_184 rfl dX11_keeps_168 hw (fun v7 hw => ?_)
        refine V_iload 5 rfl dX11_keeps_171 ?_
        refine V_iconst (v := 1) (by decide) dX11_keeps_173 ?_
        refine V_isub dX11_keeps_174 ?_
        refine V_iconst (v := 1) (by decide) dX11_keeps_175 ?_
        refine V_aload_n 1 rfl rfl dX11_keeps_176 ?_
        refine X_getR (c := 11) (k := 72) fa_X11_184 rfl dX11_keeps_177 hw (fun v8 hw => ?_)
        refine V_iload 5 rfl dX11_keeps_180 ?_
        refine V_iconst (v := 1) (by decide) dX11_keeps_182 ?_
        refine V_isub dX11_keeps_183 ?_
        refine X_ldI dX11_keeps_184 hw (fun v9 hw => ?_)
        refine V_isub dX11_keeps_185 ?_
        refine X_stI dX11_keeps_186 hw (fun h hw => ?_)
        refine V_goto (tgt := 246) dX11_keeps_187 (by decide) ?_
        exact V.sub [1, 2, 3, 4, 5, 6] rfl (s_X11_keeps_246 hK6 hw)
      · refine V_iincL (n := (-1)) 5 (fun z => [(4, .int z), (6, .int v6), (0, va_rf l0), (1, .int l1), (2, .int l2), (3, .int l3), (5, .int l5)]) rfl (by rfl) (by decide) (fun _ => rfl) dX11_keeps_190 hw (fun x11 hw => ?_)
        refine V_aload_n 2 rfl rfl dX11_keeps_193 ?_
        refine X_getR (c := 11) (k := 72) fa_X11_184 rfl dX11_keeps_194 hw (fun v12 hw => ?_)
        refine V_iload 0 rfl dX11_keeps_197 ?_
        refine V_iconst (v := 1) (by decide) dX11_keeps_199 ?_
        refine V_isub dX11_keeps_200 ?_
        refine V_iload 1 rfl dX11_keeps_201 ?_
        refine V_bipush (v := (-2)) (by decide) dX11_keeps_203 ?_
        refine V_icmp_ne (tgt := 228) dX11_keeps_205 (by decide) hw (fun hw => ?_) (fun hw => ?_)
        · refine V_aload_n 2 rfl rfl dX11_keeps_208 ?_
          refine X_getR (c := 11) (k := 72) fa_X11_184 rfl dX11_keeps_209 hw (fun v13 hw => ?_)
          refine V_iload 0 rfl dX11_keeps_212 ?_
          refine V_iconst (v := 1) (by decide) dX11_keeps_214 ?_
          refine V_isub dX11_keeps_215 ?_
          refine X_ldI dX11_keeps_216 hw (fun v14 hw => ?_)
          refine V_aload_n 2 rfl rfl dX11_keeps_217 ?_
          refine X_getR (c := 11) (k := 72) fa_X11_184 rfl dX11_keeps_218 hw (fun v15 hw => ?_)
          refine V_iload 0 rfl dX11_keeps_221 ?_
          refine X_ldI dX11_keeps_223 hw (fun v16 hw => ?_)
          refine V_iand dX11_keeps_224 ?_
          refine V_goto (tgt := 245) dX11_keeps_225 (by decide) ?_
          exact V.sub [2, 3, 4, 5, 0, 6] rfl (s_X11_keeps_245 hK6 hw)
        · refine V_aload_n 2 rfl rfl dX11_keeps_228 ?_
          refine X_getR (c := 11) (k := 72) fa_X11_184 rfl dX11_keeps_229 hw (fun v17 hw => ?_)
          refine V_iload 0 rfl dX11_keeps_232 ?_
          refine V_iconst (v := 1) (by decide) dX11_keeps_234 ?_
          refine V_isub dX11_keeps_235 ?_
          refine X_ldI dX11_keeps_236 hw (fun v18 hw => ?_)
          refine V_aload_n 2 rfl rfl dX11_keeps_237 ?_
          refine X_getR (c := 11) (k := 72) fa_X11_184 rfl dX11_keeps_238 hw (fun v19 hw => ?_)
          refine V_iload 0 rfl dX11_keeps_241 ?_
          refine X_ldI dX11_keeps_243 hw (fun v20 hw => ?_)
          refine V_ior dX11_keeps_244 ?_
          exact V.sub [2, 3, 4, 5, 0, 6] rfl (s_X11_keeps_245 hK6 hw)
    · refine V_bipush (v := 40) (by decide) dX11_keeps_36 ?_
      refine V_iload_n 2 rfl rfl dX11_keeps_38 ?_
      refine V_imul dX11_keeps_39 ?_
      refine V_iload 0 rfl dX11_keeps_40 ?_
      refine V_iadd dX11_keeps_42 ?_
      refine V_ltI hw (fun x21 hw => ?_)
      refine V_istore (i := 7) [(7, .int x21), (6, .int v6), (0, va_rf l0), (1, .int l1), (2, .int l2), (3, .int l3), (4, .int l4), (5, .int l5)] (by decide) rfl dX11_keeps_43 ?_
      refine V_aload_n 2 rfl rfl dX11_keeps_45 ?_
      refine V_aload_n 2 rfl rfl dX11_keeps_46 ?_
      refine X_getR (c := 11) (k := 49) fa_X11_145 rfl dX11_keeps_47 hw (fun v22 hw => ?_)
      refine V_iload 0 rfl dX11_keeps_50 ?_
      refine X_ldI dX11_keeps_52 hw (fun v23 hw => ?_)
      refine V_aload_n 2 rfl rfl dX11_keeps_53 ?_
      refine X_getR (c := 11) (k := 50) fa_X11_148 rfl dX11_keeps_54 hw (fun v24 hw => ?_)
      refine V_iload 0 rfl dX11_keeps_57 ?_
      refine X_ldI dX11_keeps_59 hw (fun v25 hw => ?_)
      refine V_iload_n 4 rfl rfl dX11_keeps_60 ?_
      refine V_iload_n 5 rfl rfl dX11_keeps_61 ?_
      refine X_cV 11 [.int v23, .int v25, .int l2, .int l3] [] ma_X11_347 (by decide) rfl (by decide) (by decide) rfl (by simp [cat_i, cat_l, rf_cat]) rfl dX11_keeps_62 hw (r_X11_valueOf _ _ _ _ _) (k_L (fun v26 h hw => ?_))
      refine V_lstore (i := 8) [(8, .long v26), (7, .int x21), (6, .int v6), (0, va_rf l0), (1, .int l1), (2, .int l2), (3, .int l3), (4, .int l4), (5, .int l5)] (by decide) rfl dX11_keeps_65 ?_
      refine V_aload_n 3 rfl rfl dX11_keeps_67 ?_
      refine V_aload_n 3 rfl rfl dX11_keeps_68 ?_
      refine X_getR (c := 11) (k := 52) fa_X11_154 rfl dX11_keeps_69 hw (fun v27 hw => ?_)
      refine V_iload 1 rfl dX11_keeps_72 ?_
      refine X_ldI dX11_keeps_74 hw (fun v28 hw => ?_)
      refine V_aload_n 3 rfl rfl dX11_keeps_75 ?_
      refine X_getR (c := 11) (k := 53) fa_X11_157 rfl dX11_keeps_76 hw (fun v29 hw => ?_)
      refine V_iload 1 rfl dX11_keeps_79 ?_
      refine X_ldI dX11_keeps_81 hw (fun v30 hw => ?_)
      refine V_iload_n 5 rfl rfl dX11_keeps_82 ?_
      refine V_iload_n 6 rfl rfl dX11_keeps_83 ?_
      refine X_cV 11 [.int v28, .int v30, .int l2, .int l3] [] ma_X11_347 (by decide) rfl (by decide) (by decide) rfl (by simp [cat_i, cat_l, rf_cat]) rfl dX11_keeps_84 hw (r_X11_valueOf _ _ _ _ _) (k_L (fun v31 h hw => ?_))
      refine V_lstore (i := 10) [(10, .long v31), (8, .long v26), (7, .int x21), (6, .int v6), (0, va_rf l0), (1, .int l1), (2, .int l2), (3, .int l3), (4, .int l4), (5, .int l5)] (by decide) rfl dX11_keeps_87 ?_
      refine V_aload_n 4 rfl rfl dX11_keeps_89 ?_
      refine X_getR (c := 11) (k := 72) fa_X11_184 rfl dX11_keeps_90 hw (fun v32 hw => ?_)
      refine V_iload 8 rfl dX11_keeps_93 ?_
      refine V_iincL (n := 1) 8 (fun z => [(4, .int z), (10, .long v31), (8, .long v26), (7, .int x21), (6, .int v6), (0, va_rf l0), (1, .int l1), (2, .int l2), (3, .int l3), (5, .int l5)]) rfl (by rfl) (by decide) (fun _ => rfl) dX11_keeps_95 hw (fun x33 hw => ?_)
      refine V_aload_n 5 rfl rfl dX11_keeps_98 ?_
      refine X_getR (c := 11) (k := 51) fa_X11_151 rfl dX11_keeps_99 hw (fun v34 hw => ?_)
      refine V_iload 3 rfl dX11_keeps_102 ?_
      refine X_ldI dX11_keeps_104 hw (fun v35 hw => ?_)
      refine V_bipush (v := 60) (by decide) dX11_keeps_105 ?_
      refine V_icmp_ne (tgt := 121) dX11_keeps_107 (by decide) hw (fun hw => ?_) (fun hw => ?_)
      · refine V_lload 2 rfl dX11_keeps_110 ?_
        refine V_lload 1 rfl dX11_keeps_112 ?_
        refine V_lcmp dX11_keeps_114 ?_
        refine V_if_ge (tgt := 156) dX11_keeps_115 (by decide) hw (fun hw => ?_) (fun hw => ?_)
        · exact V.sub [5, 6, 7, 8, 0, 9] rfl (s_X11_keeps_156 hK6 hw)
        · refine V_goto (tgt := 152) dX11_keeps_118 (by decide) ?_
          exact V.sub [5, 6, 7, 8, 0, 9] rfl (s_X11_keeps_152 hK6 hw)
      · refine V_aload_n 5 rfl rfl dX11_keeps_121 ?_
        refine X_getR (c := 11) (k := 51) fa_X11_151 rfl dX11_keeps_122 hw (fun v36 hw => ?_)
        refine V_iload 3 rfl dX11_keeps_125 ?_
        refine X_ldI dX11_keeps_127 hw (fun v37 hw => ?_)
        refine V_bipush (v := 62) (by decide) dX11_keeps_128 ?_
        refine V_icmp_ne (tgt := 144) dX11_keeps_130 (by decide) hw (fun hw => ?_) (fun hw => ?_)
        · refine V_lload 2 rfl dX11_keeps_133 ?_
          refine V_lload 1 rfl dX11_keeps_135 ?_
          refine V_lcmp dX11_keeps_137 ?_
          refine V_if_le (tgt := 156) dX11_keeps_138 (by decide) hw (fun hw => ?_) (fun hw => ?_)
          · exact V.sub [5, 6, 7, 8, 0, 9] rfl (s_X11_keeps_156 hK6 hw)
          · refine V_goto (tgt := 152) dX11_keeps_141 (by decide) ?_
            exact V.sub [5, 6, 7, 8, 0, 9] rfl (s_X11_keeps_152 hK6 hw)
        · refine V_lload 2 rfl dX11_keeps_144 ?_
          refine V_lload 1 rfl dX11_keeps_146 ?_
          refine V_lcmp dX11_keeps_148 ?_
          refine V_if_ne (tgt := 156) dX11_keeps_149 (by decide) hw (fun hw => ?_) (fun hw => ?_)
          · exact V.sub [5, 6, 7, 8, 0, 9] rfl (s_X11_keeps_152 hK6 hw)
          · exact V.sub [5, 6, 7, 8, 0, 9] rfl (s_X11_keeps_156 hK6 hw)
theorem s_X11_keeps_6 {l : Launch} {G : Gh} {l0 : Option Nat} {l1 : Int32} {l2 : Int32} {l3 : Int32} {l4 : Int32} {l5 : Int32} {h : Hp} {Q : Int32 → Hp → Prop}  (hw : l_X11_keeps_6 l0 l1 l2 l3 l4 l5 h Q) : V l G 4 yX11_keeps cX11_keeps 12 (some .boolean) 6 [(0, va_rf l0), (1, .int l1), (2, .int l2), (3, .int l3), (4, .int l4), (5, .int l5)] [] h (qI Q) :=
  Lo.ind (P := fun (s : Int32 × Int32) h => V l G 4 yX11_keeps cX11_keeps 12 (some .boolean) 6 [(0, va_rf l0), (1, .int l1), (2, .int l2), (3, .int l3), (4, .int s.1), (5, .int s.2)] [] h (qI Q)) (fun K ih s h hw => sb_X11_keeps_6 (fun l4 l5 h hk => ih (l4, l5) h hk) hw) hw
theorem s_X11_keeps_0 {l : Launch} {G : Gh} {l0 : Option Nat} {l1 : Int32} {l2 : Int32} {l3 : Int32} {h : Hp} {Q : Int32 → Hp → Prop}  (hw : n_X11_keeps_0 l0 l1 l2 l3 h Q) : V l G 4 yX11_keeps cX11_keeps 12 (some .boolean) 0 [(0, va_rf l0), (1, .int l1), (2, .int l2), (3, .int l3)] [] h (qI Q) := by
  unfold n_X11_keeps_0 at hw
  refine V_iconst (v := 0) (by decide) dX11_keeps_0 ?_
  refine V_istore (i := 4) [(4, .int 0), (0, va_rf l0), (1, .int l1), (2, .int l2), (3, .int l3)] (by decide) rfl dX11_keeps_1 ?_
  refine V_iconst (v := 0) (by decide) dX11_keeps_3 ?_
  refine V_istore (i := 5) [(5, .int 0), (4, .int 0), (0, va_rf l0), (1, .int l1), (2, .int l2), (3, .int l3)] (by decide) rfl dX11_keeps_4 ?_
  exact V.sub [2, 3, 4, 5, 1, 0] rfl (s_X11_keeps_6 hw)
theorem r_X11_keeps {l : Launch} {G : Gh} (l0 : Option Nat) (l1 : Int32) (l2 : Int32) (l3 : Int32) {h : Hp} {Q : Int32 → Hp → Prop} (hw : w_X11_keeps l0 l1 l2 l3 h Q) : RunQ l G 4 yX11_keeps cX11_keeps 12 (some .boolean) [va_rf l0, .int l1, .int l2, .int l3] h (qI Q) :=
  V_run rfl (sl_len _ _ (by simp [cat_i, cat_l, rf_cat])) (V.sub [0, 1, 2, 3] (by simp only [la_r, la_i, la_l, la_n]; rfl) (s_X11_keeps_0 hw))
def n_X11_leave_76 (l0 : Option Nat) (l2 : Int32) (l3 : Int32) (l4 : Int32) (h : Hp) (Q : Int32 → Hp → Prop) (K38 : Int32 → Int32 → Hp → Prop) : Prop :=
  lt (l4 + 1) fun x5 =>
  K38 l3 x5 h
def n_X11_leave_73 (l0 : Option Nat) (l2 : Int32) (l4 : Int32) (h : Hp) (Q : Int32 → Hp → Prop) (K38 : Int32 → Int32 → Hp → Prop) : Prop :=
  n_X11_leave_76 l0 l2 l4 l4 h Q K38
def b_X11_leave_38 (l0 : Option Nat) (l2 : Int32) (l3 : Int32) (l4 : Int32) (h : Hp) (Q : Int32 → Hp → Prop) (K38 : Int32 → Int32 → Hp → Prop) : Prop :=
  br ((1 <<< (l2 &&& 31)) ≤ l4) (
    Q l3 h) (
    oV h l0 12 <| w_X11_isFree l0 l2 l4 h <| fun v4 h =>
    br (v4 = 0) (
      n_X11_leave_76 l0 l2 l3 l4 h Q K38) (
      br (l3 = (-1)) (
        n_X11_leave_73 l0 l2 l4 h Q K38) (
        w_X11_bits l4 h <| fun v6 h =>
        w_X11_bits l3 h <| fun v7 h =>
        br (v7 ≤ v6) (
          n_X11_leave_76 l0 l2 l3 l4 h Q K38) (
          n_X11_leave_73 l0 l2 l4 h Q K38))))
def l_X11_leave_38 (l0 : Option Nat) (l2 : Int32) (l3 : Int32) (l4 : Int32) (h : Hp) (Q : Int32 → Hp → Prop) : Prop :=
  Lo (fun (K : Int32 × Int32 → Hp → Prop) s h => b_X11_leave_38 l0 l2 s.1 s.2 h Q (fun l3 l4 h => K (l3, l4) h)) (l3, l4) h
def n_X11_leave_0 (l0 : Option Nat) (l1 : Int32) (h : Hp) (Q : Int32 → Hp → Prop) : Prop :=
  oV h l0 12 <| w_X11_isPlace l0 l1 h <| fun v1 h =>
  br (v1 = 0) (
    oV h l0 12 <| w_X11_no l0 (-1) h <| fun v2 h =>
    Q v2 h) (
    oV h l0 12 <| w_X11_standing l0 l1 h <| fun v3 h =>
    br (v3 ≤ 12) (
      l_X11_leave_38 l0 v3 (-1) 0 h Q) (
      oV h l0 12 <| w_X11_no l0 (-7) h <| fun v8 h =>
      Q v8 h))
def w_X11_leave (l0 : Option Nat) (l1 : Int32) (h : Hp) (Q : Int32 → Hp → Prop) : Prop := n_X11_leave_0 l0 l1 h Q
theorem s_X11_leave_76 {l : Launch} {G : Gh} {l0 : Option Nat} {l2 : Int32} {l3 : Int32} {l4 : Int32} {h : Hp} {Q : Int32 → Hp → Prop} {K38 : Int32 → Int32 → Hp → Prop} (hK38 : ∀ (l3 : Int32) (l4 : Int32) (h : Hp), K38 l3 l4 h → V l G 3 yX11_leave cX11_leave 5 (some .int) 38 [(0, va_rf l0), (2, .int l2), (3, .int l3), (4, .int l4)] [] h (qI Q)) (hw : n_X11_leave_76 l0 l2 l3 l4 h Q K38) : V l G 3 yX11_leave cX11_leave 5 (some .int) 76 [(0, va_rf l0), (2, .int l2), (3, .int l3), (4, .int l4)] [] h (qI Q) := by
  unfold n_X11_leave_76 at hw
  refine V_iincL (n := 1) 3 (fun z => [(4, .int z), (0, va_rf l0), (2, .int l2), (3, .int l3)]) rfl (by rfl) (by decide) (fun _ => rfl) dX11_leave_76 hw (fun x5 hw => ?_)
  refine V_goto (tgt := 38) dX11_leave_79 (by decide) ?_
  exact V.sub [1, 2, 3, 0] rfl (hK38 _ _ _ hw)
theorem s_X11_leave_73 {l : Launch} {G : Gh} {l0 : Option Nat} {l2 : Int32} {l4 : Int32} {h : Hp} {Q : Int32 → Hp → Prop} {K38 : Int32 → Int32 → Hp → Prop} (hK38 : ∀ (l3 : Int32) (l4 : Int32) (h : Hp), K38 l3 l4 h → V l G 3 yX11_leave cX11_leave 5 (some .int) 38 [(0, va_rf l0), (2, .int l2), (3, .int l3), (4, .int l4)] [] h (qI Q)) (hw : n_X11_leave_73 l0 l2 l4 h Q K38) : V l G 3 yX11_leave cX11_leave 5 (some .int) 73 [(0, va_rf l0), (2, .int l2), (4, .int l4)] [] h (qI Q) := by
  unfold n_X11_leave_73 at hw
  refine V_iload 2 rfl dX11_leave_73 ?_
  refine V_istore_n (i := 3) [(3, .int l4), (0, va_rf l0), (2, .int l2), (4, .int l4)] rfl (by decide) rfl dX11_leave_75 ?_
  exact V.sub [1, 2, 0, 3] rfl (s_X11_leave_76 hK38 hw)
theorem sb_X11_leave_38 {l : Launch} {G : Gh} {l0 : Option Nat} {l2 : Int32} {l3 : Int32} {l4 : Int32} {h : Hp} {Q : Int32 → Hp → Prop} {K38 : Int32 → Int32 → Hp → Prop} (hK38 : ∀ (l3 : Int32) (l4 : Int32) (h : Hp), K38 l3 l4 h → V l G 3 yX11_leave cX11_leave 5 (some .int) 38 [(0, va_rf l0), (2, .int l2), (3, .int l3), (4, .int l4)] [] h (qI Q)) (hw : b_X11_leave_38 l0 l2 l3 l4 h Q K38) : V l G 3 yX11_leave cX11_leave 5 (some .int) 38 [(0, va_rf l0), (2, .int l2), (3, .int l3), (4, .int l4)] [] h (qI Q) := by
  unfold b_X11_leave_38 at hw
  refine V_iload 3 rfl dX11_leave_38 ?_
  refine V_iconst (v := 1) (by decide) dX11_leave_40 ?_
  refine V_iload_n 1 rfl rfl dX11_leave_41 ?_
  refine V_ishl dX11_leave_42 ?_
  refine V_icmp_ge (tgt := 82) dX11_leave_43 (by decide) hw (fun hw => ?_) (fun hw => ?_)
  · refine V_iload_n 2 rfl rfl dX11_leave_82 ?_
    exact V_iret rfl dX11_leave_83 ⟨_, rfl, hw⟩
  · refine V_aload_n 0 rfl rfl dX11_leave_46 ?_
    refine V_iload_n 1 rfl rfl dX11_leave_47 ?_
    refine V_iload 3 rfl dX11_leave_48 ?_
    refine X_cV 11 [.int l2, .int l4] [] ma_X11_373 (by decide) rfl (by decide) (by decide) rfl (by simp [cat_i, cat_l, rf_cat]) rfl dX11_leave_50 hw (r_X11_isFree _ _ _) (k_I (fun v4 h hw => ?_))
    refine V_if_eq (tgt := 76) dX11_leave_53 (by decide) hw (fun hw => ?_) (fun hw => ?_)
    · exact V.sub [0, 1, 2, 3] rfl (s_X11_leave_76 hK38 hw)
    · refine V_iload_n 2 rfl rfl dX11_leave_56 ?_
      refine V_iconst (v := (-1)) (by decide) dX11_leave_57 ?_
      refine V_icmp_eq (tgt := 73) dX11_leave_58 (by decide) hw (fun hw => ?_) (fun hw => ?_)
      · exact V.sub [0, 1, 3] rfl (s_X11_leave_73 hK38 hw)
      · refine V_iload 3 rfl dX11_leave_61 ?_
        refine X_cS [.int l4] [] ma_X11_376 (by decide) (by decide) rfl (by simp [cat_i, cat_l, rf_cat]) rfl dX11_leave_63 (r_X11_bits _ hw) (k_I (fun v6 h hw => ?_))
        refine V_iload_n 2 rfl rfl dX11_leave_66 ?_
        refine X_cS [.int l3] [.int v6] ma_X11_376 (by decide) (by decide) rfl (by simp [cat_i, cat_l, rf_cat]) rfl dX11_leave_67 (r_X11_bits _ hw) (k_I (fun v7 h hw => ?_))
        refine V_icmp_ge (tgt := 76) dX11_leave_70 (by decide) hw (fun hw => ?_) (fun hw => ?_)
        · exact V.sub [0, 1, 2, 3] rfl (s_X11_leave_76 hK38 hw)
        · exact V.sub [0, 1, 3] rfl (s_X11_leave_73 hK38 hw)
theorem s_X11_leave_38 {l : Launch} {G : Gh} {l0 : Option Nat} {l2 : Int32} {l3 : Int32} {l4 : Int32} {h : Hp} {Q : Int32 → Hp → Prop}  (hw : l_X11_leave_38 l0 l2 l3 l4 h Q) : V l G 3 yX11_leave cX11_leave 5 (some .int) 38 [(0, va_rf l0), (2, .int l2), (3, .int l3), (4, .int l4)] [] h (qI Q) :=
  Lo.ind (P := fun (s : Int32 × Int32) h => V l G 3 yX11_leave cX11_leave 5 (some .int) 38 [(0, va_rf l0), (2, .int l2), (3, .int s.1), (4, .int s.2)] [] h (qI Q)) (fun K ih s h hw => sb_X11_leave_38 (fun l3 l4 h hk => ih (l3, l4) h hk) hw) hw
theorem s_X11_leave_0 {l : Launch} {G : Gh} {l0 : Option Nat} {l1 : Int32} {h : Hp} {Q : Int32 → Hp → Prop}  (hw : n_X11_leave_0 l0 l1 h Q) : V l G 3 yX11_leave cX11_leave 5 (some .int) 0 [(0, va_rf l0), (1, .int l1)] [] h (qI Q) := by
  unfold n_X11_leave_0 at hw
  refine V_aload_n 0 rfl rfl dX11_leave_0 ?_
  refine V_iload_n 1 rfl rfl dX11_leave_1 ?_
  refine X_cV 11 [.int l1] [] ma_X11_208 (by decide) rfl (by decide) (by decide) rfl (by simp [cat_i, cat_l, rf_cat]) rfl dX11_leave_2 hw (r_X11_isPlace _ _) (k_I (fun v1 h hw => ?_))
  refine V_if_ne (tgt := 14) dX11_leave_5 (by decide) hw (fun hw => ?_) (fun hw => ?_)
  · refine V_aload_n 0 rfl rfl dX11_leave_8 ?_
    refine V_iconst (v := (-1)) (by decide) dX11_leave_9 ?_
    refine X_cV 11 [.int (-1)] [] ma_X11_212 (by decide) rfl (by decide) (by decide) rfl (by simp [cat_i, cat_l, rf_cat]) rfl dX11_leave_10 hw (r_X11_no _ _) (k_I (fun v2 h hw => ?_))
    exact V_iret rfl dX11_leave_13 ⟨_, rfl, hw⟩
  · refine V_aload_n 0 rfl rfl dX11_leave_14 ?_
    refine V_iload_n 1 rfl rfl dX11_leave_15 ?_
    refine X_cV 11 [.int l1] [] ma_X11_370 (by decide) rfl (by decide) (by decide) rfl (by simp [cat_i, cat_l, rf_cat]) rfl dX11_leave_16 hw (r_X11_standing _ _) (k_I (fun v3 h hw => ?_))
    refine V_istore_n (i := 2) [(2, .int v3), (0, va_rf l0), (1, .int l1)] rfl (by decide) rfl dX11_leave_19 ?_
    refine V_iload_n 0 rfl rfl dX11_leave_20 ?_
    refine V_bipush (v := 12) (by decide) dX11_leave_21 ?_
    refine V_icmp_le (tgt := 33) dX11_leave_23 (by decide) hw (fun hw => ?_) (fun hw => ?_)
    · refine V_iconst (v := (-1)) (by decide) dX11_leave_33 ?_
      refine V_istore_n (i := 3) [(3, .int (-1)), (2, .int v3), (0, va_rf l0), (1, .int l1)] rfl (by decide) rfl dX11_leave_34 ?_
      refine V_iconst (v := 0) (by decide) dX11_leave_35 ?_
      refine V_istore (i := 4) [(4, .int 0), (3, .int (-1)), (2, .int v3), (0, va_rf l0), (1, .int l1)] (by decide) rfl dX11_leave_36 ?_
      exact V.sub [3, 2, 1, 0] rfl (s_X11_leave_38 hw)
    · refine V_aload_n 1 rfl rfl dX11_leave_26 ?_
      refine V_bipush (v := (-7)) (by decide) dX11_leave_27 ?_
      refine X_cV 11 [.int (-7)] [] ma_X11_212 (by decide) rfl (by decide) (by decide) rfl (by simp [cat_i, cat_l, rf_cat]) rfl dX11_leave_29 hw (r_X11_no _ _) (k_I (fun v8 h hw => ?_))
      exact V_iret rfl dX11_leave_32 ⟨_, rfl, hw⟩
theorem r_X11_leave {l : Launch} {G : Gh} (l0 : Option Nat) (l1 : Int32) {h : Hp} {Q : Int32 → Hp → Prop} (hw : w_X11_leave l0 l1 h Q) : RunQ l G 3 yX11_leave cX11_leave 5 (some .int) [va_rf l0, .int l1] h (qI Q) :=
  V_run rfl (sl_len _ _ (by simp [cat_i, cat_l, rf_cat])) (V.sub [0, 1] (by simp only [la_r, la_i, la_l, la_n]; rfl) (s_X11_leave_0 hw))
def n_X11_less_42 (s0 : Int32) (h : Hp) (Q : Int32 → Hp → Prop) : Prop :=
  Q s0 h
def n_X11_less_39 (h : Hp) (Q : Int32 → Hp → Prop) : Prop :=
  n_X11_less_42 1000 h Q
def n_X11_less_0 (l0 : Option Nat) (l1 : Int32) (h : Hp) (Q : Int32 → Hp → Prop) : Prop :=
  oV h l0 12 <| w_X11_isAsk l0 l1 h <| fun v1 h =>
  br (v1 = 0) (
    n_X11_less_39 h Q) (
    gR h l0 12 1437 fun v2 =>
    ldI h v2 l1 fun v3 =>
    br (v3 = (-1)) (
      n_X11_less_39 h Q) (
      gR h l0 12 1433 fun v4 =>
      ldI h v4 l1 fun v5 =>
      gR h l0 12 1433 fun v6 =>
      gR h l0 12 1437 fun v7 =>
      ldI h v7 l1 fun v8 =>
      ldI h v6 v8 fun v9 =>
      n_X11_less_42 (v5 - v9) h Q))
def w_X11_less (l0 : Option Nat) (l1 : Int32) (h : Hp) (Q : Int32 → Hp → Prop) : Prop := n_X11_less_0 l0 l1 h Q
theorem s_X11_less_42 {l : Launch} {G : Gh} {s0 : Int32} {h : Hp} {Q : Int32 → Hp → Prop}  (hw : n_X11_less_42 s0 h Q) : V l G 2 yX11_less cX11_less 2 (some .int) 42 [] [.int s0] h (qI Q) := by
  unfold n_X11_less_42 at hw
  exact V_iret rfl dX11_less_42 ⟨_, rfl, hw⟩
theorem s_X11_less_39 {l : Launch} {G : Gh}  {h : Hp} {Q : Int32 → Hp → Prop}  (hw : n_X11_less_39 h Q) : V l G 2 yX11_less cX11_less 2 (some .int) 39 [] [] h (qI Q) := by
  unfold n_X11_less_39 at hw
  refine V_sipush (v := 1000) (by decide) dX11_less_39 ?_
  exact V.sub [] rfl (s_X11_less_42 hw)
theorem s_X11_less_0 {l : Launch} {G : Gh} {l0 : Option Nat} {l1 : Int32} {h : Hp} {Q : Int32 → Hp → Prop}  (hw : n_X11_less_0 l0 l1 h Q) : V l G 2 yX11_less cX11_less 2 (some .int) 0 [(0, va_rf l0), (1, .int l1)] [] h (qI Q) := by
  unfold n_X11_less_0 at hw
  refine V_aload_n 0 rfl rfl dX11_less_0 ?_
  refine V_iload_n 1 rfl rfl dX11_less_1 ?_
  refine X_cV 11 [.int l1] [] ma_X11_240 (by decide) rfl (by decide) (by decide) rfl (by simp [cat_i, cat_l, rf_cat]) rfl dX11_less_2 hw (r_X11_isAsk _ _) (k_I (fun v1 h hw => ?_))
  refine V_if_eq (tgt := 39) dX11_less_5 (by decide) hw (fun hw => ?_) (fun hw => ?_)
  · exact V.sub [] rfl (s_X11_less_39 hw)
  · refine V_aload_n 0 rfl rfl dX11_less_8 ?_
    refine X_getR (c := 11) (k := 29) fa_X11_85 rfl dX11_less_9 hw (fun v2 hw => ?_)
    refine V_iload_n 1 rfl rfl dX11_less_12 ?_
    refine X_ldI dX11_less_13 hw (fun v3 hw => ?_)
    refine V_iconst (v := (-1)) (by decide) dX11_less_14 ?_
    refine V_icmp_eq (tgt := 39) dX11_less_15 (by decide) hw (fun hw => ?_) (fun hw => ?_)
    · exact V.sub [] rfl (s_X11_less_39 hw)
    · refine V_aload_n 0 rfl rfl dX11_less_18 ?_
      refine X_getR (c := 11) (k := 25) fa_X11_73 rfl dX11_less_19 hw (fun v4 hw => ?_)
      refine V_iload_n 1 rfl rfl dX11_less_22 ?_
      refine X_ldI dX11_less_23 hw (fun v5 hw => ?_)
      refine V_aload_n 0 rfl rfl dX11_less_24 ?_
      refine X_getR (c := 11) (k := 25) fa_X11_73 rfl dX11_less_25 hw (fun v6 hw => ?_)
      refine V_aload_n 0 rfl rfl dX11_less_28 ?_
      refine X_getR (c := 11) (k := 29) fa_X11_85 rfl dX11_less_29 hw (fun v7 hw => ?_)
      refine V_iload_n 1 rfl rfl dX11_less_32 ?_
      refine X_ldI dX11_less_33 hw (fun v8 hw => ?_)
      refine X_ldI dX11_less_34 hw (fun v9 hw => ?_)
      refine V_isub dX11_less_35 ?_
      refine V_goto (tgt := 42) dX11_less_36 (by decide) ?_
      exact V.sub [] rfl (s_X11_less_42 hw)
theorem r_X11_less {l : Launch} {G : Gh} (l0 : Option Nat) (l1 : Int32) {h : Hp} {Q : Int32 → Hp → Prop} (hw : w_X11_less l0 l1 h Q) : RunQ l G 2 yX11_less cX11_less 2 (some .int) [va_rf l0, .int l1] h (qI Q) :=
  V_run rfl (sl_len _ _ (by simp [cat_i, cat_l, rf_cat])) (V.sub [0, 1] (by simp only [la_r, la_i, la_l, la_n]; rfl) (s_X11_less_0 hw))
def n_X11_likeness_44 (s0 : Int32) (h : Hp) (Q : Int32 → Hp → Prop) : Prop :=
  Q s0 h
def n_X11_likeness_43 (h : Hp) (Q : Int32 → Hp → Prop) : Prop :=
  n_X11_likeness_44 (-1) h Q
def n_X11_likeness_0 (l0 : Option Nat) (l1 : Int32) (l2 : Int32) (h : Hp) (Q : Int32 → Hp → Prop) : Prop :=
  oV h l0 12 <| w_X11_isAsk l0 l1 h <| fun v1 h =>
  br (v1 = 0) (
    n_X11_likeness_43 h Q) (
    gR h l0 12 1415 fun v2 =>
    gR h l0 12 1430 fun v3 =>
    ldI h v3 l1 fun v4 =>
    ldI h v2 v4 fun v5 =>
    br (v5 = 0) (
      br (l2 < 0) (
        n_X11_likeness_43 h Q) (
        gI h l0 12 1411 fun v6 =>
        br (v6 ≤ l2) (
          n_X11_likeness_43 h Q) (
          oV h l0 12 <| w_X11_likenessOf l0 l1 l2 h <| fun v7 h =>
          n_X11_likeness_44 v7 h Q))) (
      n_X11_likeness_43 h Q))
def w_X11_likeness (l0 : Option Nat) (l1 : Int32) (l2 : Int32) (h : Hp) (Q : Int32 → Hp → Prop) : Prop := n_X11_likeness_0 l0 l1 l2 h Q
theorem s_X11_likeness_44 {l : Launch} {G : Gh} {s0 : Int32} {h : Hp} {Q : Int32 → Hp → Prop}  (hw : n_X11_likeness_44 s0 h Q) : V l G 2 yX11_likeness cX11_likeness 3 (some .int) 44 [] [.int s0] h (qI Q) := by
  unfold n_X11_likeness_44 at hw
  exact V_iret rfl dX11_likeness_44 ⟨_, rfl, hw⟩
theorem s_X11_likeness_43 {l : Launch} {G : Gh}  {h : Hp} {Q : Int32 → Hp → Prop}  (hw : n_X11_likeness_43 h Q) : V l G 2 yX11_likeness cX11_likeness 3 (some .int) 43 [] [] h (qI Q) := by
  unfold n_X11_likeness_43 at hw
  refine V_iconst (v := (-1)) (by decide) dX11_likeness_43 ?_
  exact V.sub [] rfl (s_X11_likeness_44 hw)
theorem s_X11_likeness_0 {l : Launch} {G : Gh} {l0 : Option Nat} {l1 : Int32} {l2 : Int32} {h : Hp} {Q : Int32 → Hp → Prop}  (hw : n_X11_likeness_0 l0 l1 l2 h Q) : V l G 2 yX11_likeness cX11_likeness 3 (some .int) 0 [(0, va_rf l0), (1, .int l1), (2, .int l2)] [] h (qI Q) := by
  unfold n_X11_likeness_0 at hw
  refine V_aload_n 0 rfl rfl dX11_likeness_0 ?_
  refine V_iload_n 1 rfl rfl dX11_likeness_1 ?_
  refine X_cV 11 [.int l1] [] ma_X11_240 (by decide) rfl (by decide) (by decide) rfl (by simp [cat_i, cat_l, rf_cat]) rfl dX11_likeness_2 hw (r_X11_isAsk _ _) (k_I (fun v1 h hw => ?_))
  refine V_if_eq (tgt := 43) dX11_likeness_5 (by decide) hw (fun hw => ?_) (fun hw => ?_)
  · exact V.sub [] rfl (s_X11_likeness_43 hw)
  · refine V_aload_n 0 rfl rfl dX11_likeness_8 ?_
    refine X_getR (c := 11) (k := 7) fa_X11_16 rfl dX11_likeness_9 hw (fun v2 hw => ?_)
    refine V_aload_n 0 rfl rfl dX11_likeness_12 ?_
    refine X_getR (c := 11) (k := 22) fa_X11_64 rfl dX11_likeness_13 hw (fun v3 hw => ?_)
    refine V_iload_n 1 rfl rfl dX11_likeness_16 ?_
    refine X_ldI dX11_likeness_17 hw (fun v4 hw => ?_)
    refine X_ldI dX11_likeness_18 hw (fun v5 hw => ?_)
    refine V_if_ne (tgt := 43) dX11_likeness_19 (by decide) hw (fun hw => ?_) (fun hw => ?_)
    · refine V_iload_n 2 rfl rfl dX11_likeness_22 ?_
      refine V_if_lt (tgt := 43) dX11_likeness_23 (by decide) hw (fun hw => ?_) (fun hw => ?_)
      · exact V.sub [] rfl (s_X11_likeness_43 hw)
      · refine V_iload_n 2 rfl rfl dX11_likeness_26 ?_
        refine V_aload_n 0 rfl rfl dX11_likeness_27 ?_
        refine X_getI (c := 11) (k := 3) fa_X11_252 rfl dX11_likeness_28 hw (fun v6 hw => ?_)
        refine V_icmp_ge (tgt := 43) dX11_likeness_31 (by decide) hw (fun hw => ?_) (fun hw => ?_)
        · exact V.sub [] rfl (s_X11_likeness_43 hw)
        · refine V_aload_n 0 rfl rfl dX11_likeness_34 ?_
          refine V_iload_n 1 rfl rfl dX11_likeness_35 ?_
          refine V_iload_n 2 rfl rfl dX11_likeness_36 ?_
          refine X_cV 11 [.int l1, .int l2] [] ma_X11_243 (by decide) rfl (by decide) (by decide) rfl (by simp [cat_i, cat_l, rf_cat]) rfl dX11_likeness_37 hw (r_X11_likenessOf _ _ _) (k_I (fun v7 h hw => ?_))
          refine V_goto (tgt := 44) dX11_likeness_40 (by decide) ?_
          exact V.sub [] rfl (s_X11_likeness_44 hw)
    · exact V.sub [] rfl (s_X11_likeness_43 hw)
theorem r_X11_likeness {l : Launch} {G : Gh} (l0 : Option Nat) (l1 : Int32) (l2 : Int32) {h : Hp} {Q : Int32 → Hp → Prop} (hw : w_X11_likeness l0 l1 l2 h Q) : RunQ l G 2 yX11_likeness cX11_likeness 3 (some .int) [va_rf l0, .int l1, .int l2] h (qI Q) :=
  V_run rfl (sl_len _ _ (by simp [cat_i, cat_l, rf_cat])) (V.sub [0, 1, 2] (by simp only [la_r, la_i, la_l, la_n]; rfl) (s_X11_likeness_0 hw))
def n_X11_lost_22 (s0 : Int32) (h : Hp) (Q : Int32 → Hp → Prop) : Prop :=
  Q s0 h
def n_X11_lost_0 (l0 : Option Nat) (l1 : Int32) (h : Hp) (Q : Int32 → Hp → Prop) : Prop :=
  oV h l0 12 <| w_X11_isAsk l0 l1 h <| fun v1 h =>
  br (v1 = 0) (
    n_X11_lost_22 (-1) h Q) (
    gR h l0 12 1438 fun v2 =>
    oV h l0 12 <| w_X11_endOf l0 l1 h <| fun v3 h =>
    ldI h v2 v3 fun v4 =>
    n_X11_lost_22 v4 h Q)
def w_X11_lost (l0 : Option Nat) (l1 : Int32) (h : Hp) (Q : Int32 → Hp → Prop) : Prop := n_X11_lost_0 l0 l1 h Q
theorem s_X11_lost_22 {l : Launch} {G : Gh} {s0 : Int32} {h : Hp} {Q : Int32 → Hp → Prop}  (hw : n_X11_lost_22 s0 h Q) : V l G 2 yX11_lost cX11_lost 2 (some .int) 22 [] [.int s0] h (qI Q) := by
  unfold n_X11_lost_22 at hw
  exact V_iret rfl dX11_lost_22 ⟨_, rfl, hw⟩
theorem s_X11_lost_0 {l : Launch} {G : Gh} {l0 : Option Nat} {l1 : Int32} {h : Hp} {Q : Int32 → Hp → Prop}  (hw : n_X11_lost_0 l0 l1 h Q) : V l G 2 yX11_lost cX11_lost 2 (some .int) 0 [(0, va_rf l0), (1, .int l1)] [] h (qI Q) := by
  unfold n_X11_lost_0 at hw
  refine V_aload_n 0 rfl rfl dX11_lost_0 ?_
  refine V_iload_n 1 rfl rfl dX11_lost_1 ?_
  refine X_cV 11 [.int l1] [] ma_X11_240 (by decide) rfl (by decide) (by decide) rfl (by simp [cat_i, cat_l, rf_cat]) rfl dX11_lost_2 hw (r_X11_isAsk _ _) (k_I (fun v1 h hw => ?_))
  refine V_if_eq (tgt := 21) dX11_lost_5 (by decide) hw (fun hw => ?_) (fun hw => ?_)
  · refine V_iconst (v := (-1)) (by decide) dX11_lost_21 ?_
    exact V.sub [] rfl (s_X11_lost_22 hw)
  · refine V_aload_n 0 rfl rfl dX11_lost_8 ?_
    refine X_getR (c := 11) (k := 30) fa_X11_88 rfl dX11_lost_9 hw (fun v2 hw => ?_)
    refine V_aload_n 0 rfl rfl dX11_lost_12 ?_
    refine V_iload_n 1 rfl rfl dX11_lost_13 ?_
    refine X_cV 11 [.int l1] [va_rf v2] ma_X11_267 (by decide) rfl (by decide) (by decide) rfl (by simp [cat_i, cat_l, rf_cat]) rfl dX11_lost_14 hw (r_X11_endOf _ _) (k_I (fun v3 h hw => ?_))
    refine X_ldI dX11_lost_17 hw (fun v4 hw => ?_)
    refine V_goto (tgt := 22) dX11_lost_18 (by decide) ?_
    exact V.sub [] rfl (s_X11_lost_22 hw)
theorem r_X11_lost {l : Launch} {G : Gh} (l0 : Option Nat) (l1 : Int32) {h : Hp} {Q : Int32 → Hp → Prop} (hw : w_X11_lost l0 l1 h Q) : RunQ l G 2 yX11_lost cX11_lost 2 (some .int) [va_rf l0, .int l1] h (qI Q) :=
  V_run rfl (sl_len _ _ (by simp [cat_i, cat_l, rf_cat])) (V.sub [0, 1] (by simp only [la_r, la_i, la_l, la_n]; rfl) (s_X11_lost_0 hw))
def n_X11_puts__0 (l0 : Option Nat) (l1 : Int32) (l2 : Int32) (l3 : Int32) (l4 : Int32) (l5 : Int32) (l6 : Int32) (h : Hp) (Q : Int32 → Hp → Prop) : Prop :=
  gR h l0 12 1430 fun v1 =>
  gI h l0 12 1410 fun v2 =>
  stI h v1 v2 l1 fun h =>
  gR h l0 12 1431 fun v3 =>
  gI h l0 12 1410 fun v4 =>
  stI h v3 v4 l2 fun h =>
  gR h l0 12 1432 fun v5 =>
  gI h l0 12 1410 fun v6 =>
  stI h v5 v6 l3 fun h =>
  gR h l0 12 1433 fun v7 =>
  gI h l0 12 1410 fun v8 =>
  stI h v7 v8 l4 fun h =>
  gR h l0 12 1434 fun v9 =>
  gI h l0 12 1410 fun v10 =>
  gI h l0 12 1408 fun v11 =>
  stI h v9 v10 v11 fun h =>
  gR h l0 12 1435 fun v12 =>
  gI h l0 12 1410 fun v13 =>
  stI h v12 v13 l5 fun h =>
  gR h l0 12 1436 fun v14 =>
  gI h l0 12 1410 fun v15 =>
  stI h v14 v15 (-1) fun h =>
  gR h l0 12 1437 fun v16 =>
  gI h l0 12 1410 fun v17 =>
  stI h v16 v17 (-1) fun h =>
  gR h l0 12 1438 fun v18 =>
  gI h l0 12 1410 fun v19 =>
  stI h v18 v19 (-1) fun h =>
  gR h l0 12 1439 fun v20 =>
  gI h l0 12 1410 fun v21 =>
  stI h v20 v21 (-1) fun h =>
  gR h l0 12 1440 fun v22 =>
  gI h l0 12 1410 fun v23 =>
  stI h v22 v23 (-1) fun h =>
  gR h l0 12 1442 fun v24 =>
  gI h l0 12 1410 fun v25 =>
  stZ h v24 v25 l6 fun h =>
  gI h l0 12 1410 fun v26 =>
  pI h l0 12 1410 (v26 + 1) fun h =>
  Q v26 h
def w_X11_puts_ (l0 : Option Nat) (l1 : Int32) (l2 : Int32) (l3 : Int32) (l4 : Int32) (l5 : Int32) (l6 : Int32) (h : Hp) (Q : Int32 → Hp → Prop) : Prop := n_X11_puts__0 l0 l1 l2 l3 l4 l5 l6 h Q
set_option maxRecDepth 20000 in
theorem s_X11_puts__0 {l : Launch} {G : Gh} {l0 : Option Nat} {l1 : Int32} {l2 : Int32} {l3 : Int32} {l4 : Int32} {l5 : Int32} {l6 : Int32} {h : Hp} {Q : Int32 → Hp → Prop}  (hw : n_X11_puts__0 l0 l1 l2 l3 l4 l5 l6 h Q) : V l G 1 yX11_puts_ cX11_puts_ 7 (some .int) 0 [(0, va_rf l0), (1, .int l1), (2, .int l2), (3, .int l3), (4, .int l4), (5, .int l5), (6, .int l6)] [] h (qI Q) := by
  unfold n_X11_puts__0 at hw
  refine V_aload_n 0 rfl rfl dX11_puts__0 ?_
  refine X_getR (c := 11) (k := 22) fa_X11_64 rfl dX11_puts__1 hw (fun v1 hw => ?_)
  refine V_aload_n 0 rfl rfl dX11_puts__4 ?_
  refine X_getI (c := 11) (k := 2) fa_X11_205 rfl dX11_puts__5 hw (fun v2 hw => ?_)
  refine V_iload_n 1 rfl rfl dX11_puts__8 ?_
  refine X_stI dX11_puts__9 hw (fun h hw => ?_)
  refine V_aload_n 0 rfl rfl dX11_puts__10 ?_
  refine X_getR (c := 11) (k := 23) fa_X11_67 rfl dX11_puts__11 hw (fun v3 hw => ?_)
  refine V_aload_n 0 rfl rfl dX11_puts__14 ?_
  refine X_getI (c := 11) (k := 2) fa_X11_205 rfl dX11_puts__15 hw (fun v4 hw => ?_)
  refine V_iload_n 2 rfl rfl dX11_puts__18 ?_
  refine X_stI dX11_puts__19 hw (fun h hw => ?_)
  refine V_aload_n 0 rfl rfl dX11_puts__20 ?_
  refine X_getR (c := 11) (k := 24) fa_X11_70 rfl dX11_puts__21 hw (fun v5 hw => ?_)
  refine V_aload_n 0 rfl rfl dX11_puts__24 ?_
  refine X_getI (c := 11) (k := 2) fa_X11_205 rfl dX11_puts__25 hw (fun v6 hw => ?_)
  refine V_iload_n 3 rfl rfl dX11_puts__28 ?_
  refine X_stI dX11_puts__29 hw (fun h hw => ?_)
  refine V_aload_n 0 rfl rfl dX11_puts__30 ?_
  refine X_getR (c := 11) (k := 25) fa_X11_73 rfl dX11_puts__31 hw (fun v7 hw => ?_)
  refine V_aload_n 0 rfl rfl dX11_puts__34 ?_
  refine X_getI (c := 11) (k := 2) fa_X11_205 rfl dX11_puts__35 hw (fun v8 hw => ?_)
  refine V_iload 4 rfl dX11_puts__38 ?_
  refine X_stI dX11_puts__40 hw (fun h hw => ?_)
  refine V_aload_n 0 rfl rfl dX11_puts__41 ?_
  refine X_getR (c := 11) (k := 26) fa_X11_76 rfl dX11_puts__42 hw (fun v9 hw => ?_)
  refine V_aload_n 0 rfl rfl dX11_puts__45 ?_
  refine X_getI (c := 11) (k := 2) fa_X11_205 rfl dX11_puts__46 hw (fun v10 hw => ?_)
  refine V_aload_n 0 rfl rfl dX11_puts__49 ?_
  refine X_getI (c := 11) (k := 0) fa_X11_224 rfl dX11_puts__50 hw (fun v11 hw => ?_)
  refine X_stI dX11_puts__53 hw (fun h hw => ?_)
  refine V_aload_n 0 rfl rfl dX11_puts__54 ?_
  refine X_getR (c := 11) (k := 27) fa_X11_79 rfl dX11_puts__55 hw (fun v12 hw => ?_)
  refine V_aload_n 0 rfl rfl dX11_puts__58 ?_
  refine X_getI (c := 11) (k := 2) fa_X11_205 rfl dX11_puts__59 hw (fun v13 hw => ?_)
  refine V_iload 5 rfl dX11_puts__62 ?_
  refine X_stI dX11_puts__64 hw (fun h hw => ?_)
  refine V_aload_n 0 rfl rfl dX11_puts__65 ?_
  refine X_getR (c := 11) (k := 28) fa_X11_82 rfl dX11_puts__66 hw (fun v14 hw => ?_)
  refine V_aload_n 0 rfl rfl dX11_puts__69 ?_
  refine X_getI (c := 11) (k := 2) fa_X11_205 rfl dX11_puts__70 hw (fun v15 hw => ?_)
  refine V_iconst (v := (-1)) (by decide) dX11_puts__73 ?_
  refine X_stI dX11_puts__74 hw (fun h hw => ?_)
  refine V_aload_n 0 rfl rfl dX11_puts__75 ?_
  refine X_getR (c := 11) (k := 29) fa_X11_85 rfl dX11_puts__76 hw (fun v16 hw => ?_)
  refine V_aload_n 0 rfl rfl dX11_puts__79 ?_
  refine X_getI (c := 11) (k := 2) fa_X11_205 rfl dX11_puts__80 hw (fun v17 hw => ?_)
  refine V_iconst (v := (-1)) (by decide) dX11_puts__83 ?_
  refine X_stI dX11_puts__84 hw (fun h hw => ?_)
  refine V_aload_n 0 rfl rfl dX11_puts__85 ?_
  refine X_getR (c := 11) (k := 30) fa_X11_88 rfl dX11_puts__86 hw (fun v18 hw => ?_)
  refine V_aload_n 0 rfl rfl dX11_puts__89 ?_
  refine X_getI (c := 11) (k := 2) fa_X11_205 rfl dX11_puts__90 hw (fun v19 hw => ?_)
  refine V_iconst (v := (-1)) (by decide) dX11_puts__93 ?_
  refine X_stI dX11_puts__94 hw (fun h hw => ?_)
  refine V_aload_n 0 rfl rfl dX11_puts__95 ?_
  refine X_getR (c := 11) (k := 31) fa_X11_91 rfl dX11_puts__96 hw (fun v20 hw => ?_)
  refine V_aload_n 0 rfl rfl dX11_puts__99 ?_
  refine X_getI (c := 11) (k := 2) fa_X11_205 rfl dX11_puts__100 hw (fun v21 hw => ?_)
  refine V_iconst (v := (-1)) (by decide) dX11_puts__103 ?_
  refine X_stI dX11_puts__104 hw (fun h hw => ?_)
  refine V_aload_n 0 rfl rfl dX11_puts__105 ?_
  refine X_getR (c := 11) (k := 32) fa_X11_94 rfl dX11_puts__106 hw (fun v22 hw => ?_)
  refine V_aload_n 0 rfl rfl dX11_puts__109 ?_
  refine X_getI (c := 11) (k := 2) fa_X11_205 rfl dX11_puts__110 hw (fun v23 hw => ?_)
  refine V_iconst (v := (-1)) (by decide) dX11_puts__113 ?_
  refine X_stI dX11_puts__114 hw (fun h hw => ?_)
  refine V_aload_n 0 rfl rfl dX11_puts__115 ?_
  refine X_getR (c := 11) (k := 34) fa_X11_100 rfl dX11_puts__116 hw (fun v24 hw => ?_)
  refine V_aload_n 0 rfl rfl dX11_puts__119 ?_
  refine X_getI (c := 11) (k := 2) fa_X11_205 rfl dX11_puts__120 hw (fun v25 hw => ?_)
  refine V_iload 6 rfl dX11_puts__123 ?_
  refine X_stZ dX11_puts__125 hw (fun h hw => ?_)
  refine V_aload_n 0 rfl rfl dX11_puts__126 ?_
  refine V_dup (rf_cat _) dX11_puts__127 ?_
  refine X_getI (c := 11) (k := 2) fa_X11_205 rfl dX11_puts__128 hw (fun v26 hw => ?_)
  refine V_dup_x1 rfl (rf_cat _) dX11_puts__131 ?_
  refine V_iconst (v := 1) (by decide) dX11_puts__132 ?_
  refine V_iadd dX11_puts__133 ?_
  refine X_putI (c := 11) (k := 2) fa_X11_205 (Or.inl rfl) rfl dX11_puts__134 hw (fun h hw => ?_)
  exact V_iret rfl dX11_puts__137 ⟨_, rfl, hw⟩
theorem r_X11_puts_ {l : Launch} {G : Gh} (l0 : Option Nat) (l1 : Int32) (l2 : Int32) (l3 : Int32) (l4 : Int32) (l5 : Int32) (l6 : Int32) {h : Hp} {Q : Int32 → Hp → Prop} (hw : w_X11_puts_ l0 l1 l2 l3 l4 l5 l6 h Q) : RunQ l G 1 yX11_puts_ cX11_puts_ 7 (some .int) [va_rf l0, .int l1, .int l2, .int l3, .int l4, .int l5, .int l6] h (qI Q) :=
  V_run rfl (sl_len _ _ (by simp [cat_i, cat_l, rf_cat])) (V.sub [0, 1, 2, 3, 4, 5, 6] (by simp only [la_r, la_i, la_l, la_n]; rfl) (s_X11_puts__0 hw))
def n_X11_make_32 (l0 : Option Nat) (h : Hp) (Q : Int32 → Hp → Prop) : Prop :=
  oV h l0 12 <| w_X11_no l0 (-6) h <| fun v5 h =>
  Q v5 h
def n_X11_make_268 (l0 : Option Nat) (l1 : Int32) (l2 : Int32) (l3 : Int32) (l4 : Int32) (h : Hp) (Q : Int32 → Hp → Prop) (K124 : Int32 → Hp → Prop) : Prop :=
  lt (l4 + 1) fun x15 =>
  K124 x15 h
def n_X11_make_262 (l0 : Option Nat) (l1 : Int32) (l2 : Int32) (l3 : Int32) (l4 : Int32) (l5 : Int32) (l6 : Int32) (l7 : Int32) (h : Hp) (Q : Int32 → Hp → Prop) (K124 : Int32 → Hp → Prop) (K218 : Int32 → Hp → Prop) : Prop :=
  lt (l7 + 1) fun x20 =>
  K218 x20 h
def b_X11_make_218 (l0 : Option Nat) (l1 : Int32) (l2 : Int32) (l3 : Int32) (l4 : Int32) (l5 : Int32) (l6 : Int32) (l7 : Int32) (h : Hp) (Q : Int32 → Hp → Prop) (K124 : Int32 → Hp → Prop) (K218 : Int32 → Hp → Prop) : Prop :=
  gI h l0 12 1479 fun v16 =>
  br (v16 ≤ l7) (
    n_X11_make_268 l0 l1 l2 l3 l4 h Q K124) (
    br (l5 = 0) (
      gR h l0 12 1438 fun v17 =>
      gR h l0 12 1477 fun v18 =>
      ldI h v18 l7 fun v19 =>
      stI h v17 v19 l1 fun h =>
      n_X11_make_262 l0 l1 l2 l3 l4 l5 l6 l7 h Q K124 K218) (
      gR h l0 12 1437 fun v21 =>
      gR h l0 12 1477 fun v22 =>
      ldI h v22 l7 fun v23 =>
      stI h v21 v23 l6 fun h =>
      n_X11_make_262 l0 l1 l2 l3 l4 l5 l6 l7 h Q K124 K218))
def l_X11_make_218 (l0 : Option Nat) (l1 : Int32) (l2 : Int32) (l3 : Int32) (l4 : Int32) (l5 : Int32) (l6 : Int32) (l7 : Int32) (h : Hp) (Q : Int32 → Hp → Prop) (K124 : Int32 → Hp → Prop) : Prop :=
  Lo (fun (K : Int32 → Hp → Prop) s h => b_X11_make_218 l0 l1 l2 l3 l4 l5 l6 s h Q K124 (fun l7 h => K (l7) h)) (l7) h
def n_X11_make_213 (l0 : Option Nat) (l1 : Int32) (l2 : Int32) (l3 : Int32) (l4 : Int32) (l5 : Int32) (s0 : Int32) (h : Hp) (Q : Int32 → Hp → Prop) (K124 : Int32 → Hp → Prop) : Prop :=
  l_X11_make_218 l0 l1 l2 l3 l4 l5 s0 0 h Q K124
def n_X11_make_201 (l0 : Option Nat) (l1 : Int32) (l2 : Int32) (l3 : Int32) (l4 : Int32) (l5 : Int32) (s0 : Int32) (s1 : Option Nat) (s2 : Int32) (s3 : Int32) (s4 : Int32) (s5 : Option Nat) (h : Hp) (Q : Int32 → Hp → Prop) (K124 : Int32 → Hp → Prop) : Prop :=
  oV h s1 12 <| w_X11_joined s1 s0 h <| fun v26 h =>
  oV h s5 12 <| w_X11_puts_ s5 s4 s3 s2 v26 2 0 h <| fun v27 h =>
  n_X11_make_213 l0 l1 l2 l3 l4 l5 v27 h Q K124
def n_X11_make_166 (l0 : Option Nat) (l1 : Int32) (l2 : Int32) (l3 : Int32) (l4 : Int32) (s0 : Int32) (h : Hp) (Q : Int32 → Hp → Prop) (K124 : Int32 → Hp → Prop) : Prop :=
  br (s0 = 0) (
    n_X11_make_213 l0 l1 l2 l3 l4 s0 (-1) h Q K124) (
    dvI l4 8 fun v24 =>
    rmI l4 8 fun v25 =>
    br (l2 = (-1)) (
      n_X11_make_201 l0 l1 l2 l3 l4 s0 1 l0 v25 v24 l1 l0 h Q K124) (
      gR h l0 12 1455 fun v28 =>
      ldI h v28 l2 fun v29 =>
      n_X11_make_201 l0 l1 l2 l3 l4 s0 v29 l0 v25 v24 l1 l0 h Q K124))
def n_X11_make_161 (l0 : Option Nat) (l1 : Int32) (l2 : Int32) (l3 : Int32) (l4 : Int32) (h : Hp) (Q : Int32 → Hp → Prop) (K124 : Int32 → Hp → Prop) : Prop :=
  n_X11_make_166 l0 l1 l2 l3 l4 1 h Q K124
def b_X11_make_124 (l0 : Option Nat) (l1 : Int32) (l2 : Int32) (l3 : Int32) (l4 : Int32) (h : Hp) (Q : Int32 → Hp → Prop) (K124 : Int32 → Hp → Prop) : Prop :=
  br (128 ≤ l4) (
    gR h l0 12 1423 fun v13 =>
    stZ h v13 l1 1 fun h =>
    Q l3 h) (
    oV h l0 12 <| w_X11_gathers l0 l1 l4 h <| fun v14 h =>
    br (v14 = 0) (
      n_X11_make_268 l0 l1 l2 l3 l4 h Q K124) (
      br (l2 = (-1)) (
        n_X11_make_161 l0 l1 l2 l3 l4 h Q K124) (
        oV h l0 12 <| w_X11_keeps l0 l2 l1 l4 h <| fun v30 h =>
        br (v30 = 0) (
          n_X11_make_166 l0 l1 l2 l3 l4 0 h Q K124) (
          n_X11_make_161 l0 l1 l2 l3 l4 h Q K124))))
def l_X11_make_124 (l0 : Option Nat) (l1 : Int32) (l2 : Int32) (l3 : Int32) (l4 : Int32) (h : Hp) (Q : Int32 → Hp → Prop) : Prop :=
  Lo (fun (K : Int32 → Hp → Prop) s h => b_X11_make_124 l0 l1 l2 l3 s h Q (fun l4 h => K (l4) h)) (l4) h
def n_X11_make_96 (l0 : Option Nat) (l1 : Int32) (l2 : Int32) (l3 : Int32) (l4 : Int32) (h : Hp) (Q : Int32 → Hp → Prop) (K59 : Int32 → Int32 → Hp → Prop) : Prop :=
  lt (l4 + 1) fun x33 =>
  K59 l3 x33 h
def n_X11_make_93 (l0 : Option Nat) (l1 : Int32) (l2 : Int32) (l3 : Int32) (l4 : Int32) (h : Hp) (Q : Int32 → Hp → Prop) (K59 : Int32 → Int32 → Hp → Prop) : Prop :=
  lt (l3 + 1) fun x34 =>
  n_X11_make_96 l0 l1 l2 x34 l4 h Q K59
def b_X11_make_59 (l0 : Option Nat) (l1 : Int32) (l2 : Int32) (l3 : Int32) (l4 : Int32) (h : Hp) (Q : Int32 → Hp → Prop) (K59 : Int32 → Int32 → Hp → Prop) : Prop :=
  br (128 ≤ l4) (
    gI h l0 12 1410 fun v12 =>
    br ((v12 + l3) ≤ 160) (
      l_X11_make_124 l0 l1 l2 l3 0 h Q) (
      oV h l0 12 <| w_X11_no l0 (-7) h <| fun v31 h =>
      Q v31 h)) (
    oV h l0 12 <| w_X11_gathers l0 l1 l4 h <| fun v32 h =>
    br (v32 ≤ 0) (
      n_X11_make_96 l0 l1 l2 l3 l4 h Q K59) (
      br (l2 = (-1)) (
        n_X11_make_93 l0 l1 l2 l3 l4 h Q K59) (
        oV h l0 12 <| w_X11_keeps l0 l2 l1 l4 h <| fun v35 h =>
        br (v35 = 0) (
          n_X11_make_96 l0 l1 l2 l3 l4 h Q K59) (
          n_X11_make_93 l0 l1 l2 l3 l4 h Q K59))))
def l_X11_make_59 (l0 : Option Nat) (l1 : Int32) (l2 : Int32) (l3 : Int32) (l4 : Int32) (h : Hp) (Q : Int32 → Hp → Prop) : Prop :=
  Lo (fun (K : Int32 × Int32 → Hp → Prop) s h => b_X11_make_59 l0 l1 l2 s.1 s.2 h Q (fun l3 l4 h => K (l3, l4) h)) (l3, l4) h
def n_X11_make_0 (l0 : Option Nat) (l1 : Int32) (h : Hp) (Q : Int32 → Hp → Prop) : Prop :=
  oV h l0 12 <| w_X11_isPlace l0 l1 h <| fun v1 h =>
  br (v1 = 0) (
    oV h l0 12 <| w_X11_no l0 (-1) h <| fun v2 h =>
    Q v2 h) (
    gR h l0 12 1415 fun v3 =>
    ldI h v3 l1 fun v4 =>
    br (v4 = 0) (
      n_X11_make_32 l0 h Q) (
      gR h l0 12 1423 fun v6 =>
      ldZ h v6 l1 fun v7 =>
      br (v7 = 0) (
        gR h l0 12 1415 fun v8 =>
        ldI h v8 l1 fun v9 =>
        gI h l0 12 1408 fun v10 =>
        oV h l0 12 <| w_X11_force l0 v9 v10 h <| fun v11 h =>
        l_X11_make_59 l0 l1 v11 0 0 h Q) (
        n_X11_make_32 l0 h Q)))
def w_X11_make (l0 : Option Nat) (l1 : Int32) (h : Hp) (Q : Int32 → Hp → Prop) : Prop := n_X11_make_0 l0 l1 h Q
theorem s_X11_make_32 {l : Launch} {G : Gh} {l0 : Option Nat} {h : Hp} {Q : Int32 → Hp → Prop}  (hw : n_X11_make_32 l0 h Q) : V l G 5 yX11_make cX11_make 8 (some .int) 32 [(0, va_rf l0)] [] h (qI Q) := by
  unfold n_X11_make_32 at hw
  refine V_aload_n 0 rfl rfl dX11_make_32 ?_
  refine V_bipush (v := (-6)) (by decide) dX11_make_33 ?_
  refine X_cV 11 [.int (-6)] [] ma_X11_212 (by decide) rfl (by decide) (by decide) rfl (by simp [cat_i, cat_l, rf_cat]) rfl dX11_make_35 hw (r_X11_no _ _) (k_I (fun v5 h hw => ?_))
  exact V_iret rfl dX11_make_38 ⟨_, rfl, hw⟩
theorem s_X11_make_268 {l : Launch} {G : Gh} {l0 : Option Nat} {l1 : Int32} {l2 : Int32} {l3 : Int32} {l4 : Int32} {h : Hp} {Q : Int32 → Hp → Prop} {K124 : Int32 → Hp → Prop} (hK124 : ∀ (l4 : Int32) (h : Hp), K124 l4 h → V l G 5 yX11_make cX11_make 8 (some .int) 124 [(0, va_rf l0), (1, .int l1), (2, .int l2), (3, .int l3), (4, .int l4)] [] h (qI Q)) (hw : n_X11_make_268 l0 l1 l2 l3 l4 h Q K124) : V l G 5 yX11_make cX11_make 8 (some .int) 268 [(0, va_rf l0), (1, .int l1), (2, .int l2), (3, .int l3), (4, .int l4)] [] h (qI Q) := by
  unfold n_X11_make_268 at hw
  refine V_iincL (n := 1) 4 (fun z => [(4, .int z), (0, va_rf l0), (1, .int l1), (2, .int l2), (3, .int l3)]) rfl (by rfl) (by decide) (fun _ => rfl) dX11_make_268 hw (fun x15 hw => ?_)
  refine V_goto (tgt := 124) dX11_make_271 (by decide) ?_
  exact V.sub [1, 2, 3, 4, 0] rfl (hK124 _ _ hw)
theorem s_X11_make_262 {l : Launch} {G : Gh} {l0 : Option Nat} {l1 : Int32} {l2 : Int32} {l3 : Int32} {l4 : Int32} {l5 : Int32} {l6 : Int32} {l7 : Int32} {h : Hp} {Q : Int32 → Hp → Prop} {K124 : Int32 → Hp → Prop} {K218 : Int32 → Hp → Prop} (hK124 : ∀ (l4 : Int32) (h : Hp), K124 l4 h → V l G 5 yX11_make cX11_make 8 (some .int) 124 [(0, va_rf l0), (1, .int l1), (2, .int l2), (3, .int l3), (4, .int l4)] [] h (qI Q)) (hK218 : ∀ (l7 : Int32) (h : Hp), K218 l7 h → V l G 5 yX11_make cX11_make 8 (some .int) 218 [(0, va_rf l0), (1, .int l1), (2, .int l2), (3, .int l3), (4, .int l4), (5, .int l5), (6, .int l6), (7, .int l7)] [] h (qI Q)) (hw : n_X11_make_262 l0 l1 l2 l3 l4 l5 l6 l7 h Q K124 K218) : V l G 5 yX11_make cX11_make 8 (some .int) 262 [(0, va_rf l0), (1, .int l1), (2, .int l2), (3, .int l3), (4, .int l4), (5, .int l5), (6, .int l6), (7, .int l7)] [] h (qI Q) := by
  unfold n_X11_make_262 at hw
  refine V_iincL (n := 1) 7 (fun z => [(7, .int z), (0, va_rf l0), (1, .int l1), (2, .int l2), (3, .int l3), (4, .int l4), (5, .int l5), (6, .int l6)]) rfl (by rfl) (by decide) (fun _ => rfl) dX11_make_262 hw (fun x20 hw => ?_)
  refine V_goto (tgt := 218) dX11_make_265 (by decide) ?_
  exact V.sub [1, 2, 3, 4, 5, 6, 7, 0] rfl (hK218 _ _ hw)
theorem sb_X11_make_218 {l : Launch} {G : Gh} {l0 : Option Nat} {l1 : Int32} {l2 : Int32} {l3 : Int32} {l4 : Int32} {l5 : Int32} {l6 : Int32} {l7 : Int32} {h : Hp} {Q : Int32 → Hp → Prop} {K124 : Int32 → Hp → Prop} {K218 : Int32 → Hp → Prop} (hK124 : ∀ (l4 : Int32) (h : Hp), K124 l4 h → V l G 5 yX11_make cX11_make 8 (some .int) 124 [(0, va_rf l0), (1, .int l1), (2, .int l2), (3, .int l3), (4, .int l4)] [] h (qI Q)) (hK218 : ∀ (l7 : Int32) (h : Hp), K218 l7 h → V l G 5 yX11_make cX11_make 8 (some .int) 218 [(0, va_rf l0), (1, .int l1), (2, .int l2), (3, .int l3), (4, .int l4), (5, .int l5), (6, .int l6), (7, .int l7)] [] h (qI Q)) (hw : b_X11_make_218 l0 l1 l2 l3 l4 l5 l6 l7 h Q K124 K218) : V l G 5 yX11_make cX11_make 8 (some .int) 218 [(0, va_rf l0), (1, .int l1), (2, .int l2), (3, .int l3), (4, .int l4), (5, .int l5), (6, .int l6), (7, .int l7)] [] h (qI Q) := by
  unfold b_X11_make_218 at hw
  refine V_iload 7 rfl dX11_make_218 ?_
  refine V_aload_n 0 rfl rfl dX11_make_220 ?_
  refine X_getI (c := 11) (k := 71) fa_X11_335 rfl dX11_make_221 hw (fun v16 hw => ?_)
  refine V_icmp_ge (tgt := 268) dX11_make_224 (by decide) hw (fun hw => ?_) (fun hw => ?_)
  · exact V.sub [0, 1, 2, 3, 4] rfl (s_X11_make_268 hK124 hw)
  · refine V_iload 5 rfl dX11_make_227 ?_
    refine V_if_eq (tgt := 249) dX11_make_229 (by decide) hw (fun hw => ?_) (fun hw => ?_)
    · refine V_aload_n 0 rfl rfl dX11_make_249 ?_
      refine X_getR (c := 11) (k := 30) fa_X11_88 rfl dX11_make_250 hw (fun v17 hw => ?_)
      refine V_aload_n 0 rfl rfl dX11_make_253 ?_
      refine X_getR (c := 11) (k := 69) fa_X11_178 rfl dX11_make_254 hw (fun v18 hw => ?_)
      refine V_iload 7 rfl dX11_make_257 ?_
      refine X_ldI dX11_make_259 hw (fun v19 hw => ?_)
      refine V_iload_n 1 rfl rfl dX11_make_260 ?_
      refine X_stI dX11_make_261 hw (fun h hw => ?_)
      exact V.sub [0, 1, 2, 3, 4, 5, 6, 7] rfl (s_X11_make_262 hK124 hK218 hw)
    · refine V_aload_n 0 rfl rfl dX11_make_232 ?_
      refine X_getR (c := 11) (k := 29) fa_X11_85 rfl dX11_make_233 hw (fun v21 hw => ?_)
      refine V_aload_n 0 rfl rfl dX11_make_236 ?_
      refine X_getR (c := 11) (k := 69) fa_X11_178 rfl dX11_make_237 hw (fun v22 hw => ?_)
      refine V_iload 7 rfl dX11_make_240 ?_
      refine X_ldI dX11_make_242 hw (fun v23 hw => ?_)
      refine V_iload 6 rfl dX11_make_243 ?_
      refine X_stI dX11_make_245 hw (fun h hw => ?_)
      refine V_goto (tgt := 262) dX11_make_246 (by decide) ?_
      exact V.sub [0, 1, 2, 3, 4, 5, 6, 7] rfl (s_X11_make_262 hK124 hK218 hw)
theorem s_X11_make_218 {l : Launch} {G : Gh} {l0 : Option Nat} {l1 : Int32} {l2 : Int32} {l3 : Int32} {l4 : Int32} {l5 : Int32} {l6 : Int32} {l7 : Int32} {h : Hp} {Q : Int32 → Hp → Prop} {K124 : Int32 → Hp → Prop} (hK124 : ∀ (l4 : Int32) (h : Hp), K124 l4 h → V l G 5 yX11_make cX11_make 8 (some .int) 124 [(0, va_rf l0), (1, .int l1), (2, .int l2), (3, .int l3), (4, .int l4)] [] h (qI Q)) (hw : l_X11_make_218 l0 l1 l2 l3 l4 l5 l6 l7 h Q K124) : V l G 5 yX11_make cX11_make 8 (some .int) 218 [(0, va_rf l0), (1, .int l1), (2, .int l2), (3, .int l3), (4, .int l4), (5, .int l5), (6, .int l6), (7, .int l7)] [] h (qI Q) :=
  Lo.ind (P := fun (s : Int32) h => V l G 5 yX11_make cX11_make 8 (some .int) 218 [(0, va_rf l0), (1, .int l1), (2, .int l2), (3, .int l3), (4, .int l4), (5, .int l5), (6, .int l6), (7, .int s)] [] h (qI Q)) (fun K ih s h hw => sb_X11_make_218 hK124 (fun l7 h hk => ih (l7) h hk) hw) hw
theorem s_X11_make_213 {l : Launch} {G : Gh} {l0 : Option Nat} {l1 : Int32} {l2 : Int32} {l3 : Int32} {l4 : Int32} {l5 : Int32} {s0 : Int32} {h : Hp} {Q : Int32 → Hp → Prop} {K124 : Int32 → Hp → Prop} (hK124 : ∀ (l4 : Int32) (h : Hp), K124 l4 h → V l G 5 yX11_make cX11_make 8 (some .int) 124 [(0, va_rf l0), (1, .int l1), (2, .int l2), (3, .int l3), (4, .int l4)] [] h (qI Q)) (hw : n_X11_make_213 l0 l1 l2 l3 l4 l5 s0 h Q K124) : V l G 5 yX11_make cX11_make 8 (some .int) 213 [(0, va_rf l0), (1, .int l1), (2, .int l2), (3, .int l3), (4, .int l4), (5, .int l5)] [.int s0] h (qI Q) := by
  unfold n_X11_make_213 at hw
  refine V_istore (i := 6) [(6, .int s0), (0, va_rf l0), (1, .int l1), (2, .int l2), (3, .int l3), (4, .int l4), (5, .int l5)] (by decide) rfl dX11_make_213 ?_
  refine V_iconst (v := 0) (by decide) dX11_make_215 ?_
  refine V_istore (i := 7) [(7, .int 0), (6, .int s0), (0, va_rf l0), (1, .int l1), (2, .int l2), (3, .int l3), (4, .int l4), (5, .int l5)] (by decide) rfl dX11_make_216 ?_
  exact V.sub [2, 3, 4, 5, 6, 7, 1, 0] rfl (s_X11_make_218 hK124 hw)
theorem s_X11_make_201 {l : Launch} {G : Gh} {l0 : Option Nat} {l1 : Int32} {l2 : Int32} {l3 : Int32} {l4 : Int32} {l5 : Int32} {s0 : Int32} {s1 : Option Nat} {s2 : Int32} {s3 : Int32} {s4 : Int32} {s5 : Option Nat} {h : Hp} {Q : Int32 → Hp → Prop} {K124 : Int32 → Hp → Prop} (hK124 : ∀ (l4 : Int32) (h : Hp), K124 l4 h → V l G 5 yX11_make cX11_make 8 (some .int) 124 [(0, va_rf l0), (1, .int l1), (2, .int l2), (3, .int l3), (4, .int l4)] [] h (qI Q)) (hw : n_X11_make_201 l0 l1 l2 l3 l4 l5 s0 s1 s2 s3 s4 s5 h Q K124) : V l G 5 yX11_make cX11_make 8 (some .int) 201 [(0, va_rf l0), (1, .int l1), (2, .int l2), (3, .int l3), (4, .int l4), (5, .int l5)] [.int s0, va_rf s1, .int s2, .int s3, .int s4, va_rf s5] h (qI Q) := by
  unfold n_X11_make_201 at hw
  refine X_cV 11 [.int s0] [.int s2, .int s3, .int s4, va_rf s5] ma_X11_344 (by decide) rfl (by decide) (by decide) rfl (by simp [cat_i, cat_l, rf_cat]) rfl dX11_make_201 hw (r_X11_joined _ _) (k_I (fun v26 h hw => ?_))
  refine V_iconst (v := 2) (by decide) dX11_make_204 ?_
  refine V_iconst (v := 0) (by decide) dX11_make_205 ?_
  refine X_cV 11 [.int s4, .int s3, .int s2, .int v26, .int 2, .int 0] [] ma_X11_261 (by decide) rfl (by decide) (by decide) rfl (by simp [cat_i, cat_l, rf_cat]) rfl dX11_make_206 hw (r_X11_puts_ _ _ _ _ _ _ _) (k_I (fun v27 h hw => ?_))
  refine V_goto (tgt := 213) dX11_make_209 (by decide) ?_
  exact V.sub [0, 1, 2, 3, 4, 5] rfl (s_X11_make_213 hK124 hw)
theorem s_X11_make_166 {l : Launch} {G : Gh} {l0 : Option Nat} {l1 : Int32} {l2 : Int32} {l3 : Int32} {l4 : Int32} {s0 : Int32} {h : Hp} {Q : Int32 → Hp → Prop} {K124 : Int32 → Hp → Prop} (hK124 : ∀ (l4 : Int32) (h : Hp), K124 l4 h → V l G 5 yX11_make cX11_make 8 (some .int) 124 [(0, va_rf l0), (1, .int l1), (2, .int l2), (3, .int l3), (4, .int l4)] [] h (qI Q)) (hw : n_X11_make_166 l0 l1 l2 l3 l4 s0 h Q K124) : V l G 5 yX11_make cX11_make 8 (some .int) 166 [(0, va_rf l0), (1, .int l1), (2, .int l2), (3, .int l3), (4, .int l4)] [.int s0] h (qI Q) := by
  unfold n_X11_make_166 at hw
  refine V_istore (i := 5) [(5, .int s0), (0, va_rf l0), (1, .int l1), (2, .int l2), (3, .int l3), (4, .int l4)] (by decide) rfl dX11_make_166 ?_
  refine V_iload 0 rfl dX11_make_168 ?_
  refine V_if_eq (tgt := 212) dX11_make_170 (by decide) hw (fun hw => ?_) (fun hw => ?_)
  · refine V_iconst (v := (-1)) (by decide) dX11_make_212 ?_
    exact V.sub [1, 2, 3, 4, 5, 0] rfl (s_X11_make_213 hK124 hw)
  · refine V_aload_n 1 rfl rfl dX11_make_173 ?_
    refine V_iload_n 2 rfl rfl dX11_make_174 ?_
    refine V_iload 5 rfl dX11_make_175 ?_
    refine V_bipush (v := 8) (by decide) dX11_make_177 ?_
    refine X_idiv dX11_make_179 hw (fun v24 hw => ?_)
    refine V_iload 5 rfl dX11_make_180 ?_
    refine V_bipush (v := 8) (by decide) dX11_make_182 ?_
    refine X_irem dX11_make_184 hw (fun v25 hw => ?_)
    refine V_aload_n 1 rfl rfl dX11_make_185 ?_
    refine V_iload_n 3 rfl rfl dX11_make_186 ?_
    refine V_iconst (v := (-1)) (by decide) dX11_make_187 ?_
    refine V_icmp_ne (tgt := 195) dX11_make_188 (by decide) hw (fun hw => ?_) (fun hw => ?_)
    · refine V_iconst (v := 1) (by decide) dX11_make_191 ?_
      refine V_goto (tgt := 201) dX11_make_192 (by decide) ?_
      exact V.sub [1, 2, 3, 4, 5, 0] rfl (s_X11_make_201 hK124 hw)
    · refine V_aload_n 1 rfl rfl dX11_make_195 ?_
      refine X_getR (c := 11) (k := 47) fa_X11_139 rfl dX11_make_196 hw (fun v28 hw => ?_)
      refine V_iload_n 3 rfl rfl dX11_make_199 ?_
      refine X_ldI dX11_make_200 hw (fun v29 hw => ?_)
      exact V.sub [1, 2, 3, 4, 5, 0] rfl (s_X11_make_201 hK124 hw)
theorem s_X11_make_161 {l : Launch} {G : Gh} {l0 : Option Nat} {l1 : Int32} {l2 : Int32} {l3 : Int32} {l4 : Int32} {h : Hp} {Q : Int32 → Hp → Prop} {K124 : Int32 → Hp → Prop} (hK124 : ∀ (l4 : Int32) (h : Hp), K124 l4 h → V l G 5 yX11_make cX11_make 8 (some .int) 124 [(0, va_rf l0), (1, .int l1), (2, .int l2), (3, .int l3), (4, .int l4)] [] h (qI Q)) (hw : n_X11_make_161 l0 l1 l2 l3 l4 h Q K124) : V l G 5 yX11_make cX11_make 8 (some .int) 161 [(0, va_rf l0), (1, .int l1), (2, .int l2), (3, .int l3), (4, .int l4)] [] h (qI Q) := by
  unfold n_X11_make_161 at hw
  refine V_iconst (v := 1) (by decide) dX11_make_161 ?_
  refine V_goto (tgt := 166) dX11_make_162 (by decide) ?_
  exact V.sub [0, 1, 2, 3, 4] rfl (s_X11_make_166 hK124 hw)
theorem sb_X11_make_124 {l : Launch} {G : Gh} {l0 : Option Nat} {l1 : Int32} {l2 : Int32} {l3 : Int32} {l4 : Int32} {h : Hp} {Q : Int32 → Hp → Prop} {K124 : Int32 → Hp → Prop} (hK124 : ∀ (l4 : Int32) (h : Hp), K124 l4 h → V l G 5 yX11_make cX11_make 8 (some .int) 124 [(0, va_rf l0), (1, .int l1), (2, .int l2), (3, .int l3), (4, .int l4)] [] h (qI Q)) (hw : b_X11_make_124 l0 l1 l2 l3 l4 h Q K124) : V l G 5 yX11_make cX11_make 8 (some .int) 124 [(0, va_rf l0), (1, .int l1), (2, .int l2), (3, .int l3), (4, .int l4)] [] h (qI Q) := by
  unfold b_X11_make_124 at hw
  refine V_iload 4 rfl dX11_make_124 ?_
  refine V_sipush (v := 128) (by decide) dX11_make_126 ?_
  refine V_icmp_ge (tgt := 274) dX11_make_129 (by decide) hw (fun hw => ?_) (fun hw => ?_)
  · refine V_aload_n 0 rfl rfl dX11_make_274 ?_
    refine X_getR (c := 11) (k := 15) fa_X11_41 rfl dX11_make_275 hw (fun v13 hw => ?_)
    refine V_iload_n 1 rfl rfl dX11_make_278 ?_
    refine V_iconst (v := 1) (by decide) dX11_make_279 ?_
    refine X_stZ dX11_make_280 hw (fun h hw => ?_)
    refine V_iload_n 3 rfl rfl dX11_make_281 ?_
    exact V_iret rfl dX11_make_282 ⟨_, rfl, hw⟩
  · refine V_aload_n 0 rfl rfl dX11_make_132 ?_
    refine V_iload_n 1 rfl rfl dX11_make_133 ?_
    refine V_iload 4 rfl dX11_make_134 ?_
    refine X_cV 11 [.int l1, .int l4] [] ma_X11_354 (by decide) rfl (by decide) (by decide) rfl (by simp [cat_i, cat_l, rf_cat]) rfl dX11_make_136 hw (r_X11_gathers _ _ _) (k_I (fun v14 h hw => ?_))
    refine V_if_ne (tgt := 145) dX11_make_139 (by decide) hw (fun hw => ?_) (fun hw => ?_)
    · refine V_goto (tgt := 268) dX11_make_142 (by decide) ?_
      exact V.sub [0, 1, 2, 3, 4] rfl (s_X11_make_268 hK124 hw)
    · refine V_iload_n 2 rfl rfl dX11_make_145 ?_
      refine V_iconst (v := (-1)) (by decide) dX11_make_146 ?_
      refine V_icmp_eq (tgt := 161) dX11_make_147 (by decide) hw (fun hw => ?_) (fun hw => ?_)
      · exact V.sub [0, 1, 2, 3, 4] rfl (s_X11_make_161 hK124 hw)
      · refine V_aload_n 0 rfl rfl dX11_make_150 ?_
        refine V_iload_n 2 rfl rfl dX11_make_151 ?_
        refine V_iload_n 1 rfl rfl dX11_make_152 ?_
        refine V_iload 4 rfl dX11_make_153 ?_
        refine X_cV 11 [.int l2, .int l1, .int l4] [] ma_X11_357 (by decide) rfl (by decide) (by decide) rfl (by simp [cat_i, cat_l, rf_cat]) rfl dX11_make_155 hw (r_X11_keeps _ _ _ _) (k_I (fun v30 h hw => ?_))
        refine V_if_eq (tgt := 165) dX11_make_158 (by decide) hw (fun hw => ?_) (fun hw => ?_)
        · refine V_iconst (v := 0) (by decide) dX11_make_165 ?_
          exact V.sub [0, 1, 2, 3, 4] rfl (s_X11_make_166 hK124 hw)
        · exact V.sub [0, 1, 2, 3, 4] rfl (s_X11_make_161 hK124 hw)
theorem s_X11_make_124 {l : Launch} {G : Gh} {l0 : Option Nat} {l1 : Int32} {l2 : Int32} {l3 : Int32} {l4 : Int32} {h : Hp} {Q : Int32 → Hp → Prop}  (hw : l_X11_make_124 l0 l1 l2 l3 l4 h Q) : V l G 5 yX11_make cX11_make 8 (some .int) 124 [(0, va_rf l0), (1, .int l1), (2, .int l2), (3, .int l3), (4, .int l4)] [] h (qI Q) :=
  Lo.ind (P := fun (s : Int32) h => V l G 5 yX11_make cX11_make 8 (some .int) 124 [(0, va_rf l0), (1, .int l1), (2, .int l2), (3, .int l3), (4, .int s)] [] h (qI Q)) (fun K ih s h hw => sb_X11_make_124 (fun l4 h hk => ih (l4) h hk) hw) hw
theorem s_X11_make_96 {l : Launch} {G : Gh} {l0 : Option Nat} {l1 : Int32} {l2 : Int32} {l3 : Int32} {l4 : Int32} {h : Hp} {Q : Int32 → Hp → Prop} {K59 : Int32 → Int32 → Hp → Prop} (hK59 : ∀ (l3 : Int32) (l4 : Int32) (h : Hp), K59 l3 l4 h → V l G 5 yX11_make cX11_make 8 (some .int) 59 [(0, va_rf l0), (1, .int l1), (2, .int l2), (3, .int l3), (4, .int l4)] [] h (qI Q)) (hw : n_X11_make_96 l0 l1 l2 l3 l4 h Q K59) : V l G 5 yX11_make cX11_make 8 (some .int) 96 [(0, va_rf l0), (1, .int l1), (2, .int l2), (3, .int l3), (4, .int l4)] [] h (qI Q) := by
  unfold n_X11_make_96 at hw
  refine V_iincL (n := 1) 4 (fun z => [(4, .int z), (0, va_rf l0), (1, .int l1), (2, .int l2), (3, .int l3)]) rfl (by rfl) (by decide) (fun _ => rfl) dX11_make_96 hw (fun x33 hw => ?_)
  refine V_goto (tgt := 59) dX11_make_99 (by decide) ?_
  exact V.sub [1, 2, 3, 4, 0] rfl (hK59 _ _ _ hw)
theorem s_X11_make_93 {l : Launch} {G : Gh} {l0 : Option Nat} {l1 : Int32} {l2 : Int32} {l3 : Int32} {l4 : Int32} {h : Hp} {Q : Int32 → Hp → Prop} {K59 : Int32 → Int32 → Hp → Prop} (hK59 : ∀ (l3 : Int32) (l4 : Int32) (h : Hp), K59 l3 l4 h → V l G 5 yX11_make cX11_make 8 (some .int) 59 [(0, va_rf l0), (1, .int l1), (2, .int l2), (3, .int l3), (4, .int l4)] [] h (qI Q)) (hw : n_X11_make_93 l0 l1 l2 l3 l4 h Q K59) : V l G 5 yX11_make cX11_make 8 (some .int) 93 [(0, va_rf l0), (1, .int l1), (2, .int l2), (3, .int l3), (4, .int l4)] [] h (qI Q) := by
  unfold n_X11_make_93 at hw
  refine V_iincL (n := 1) 3 (fun z => [(3, .int z), (0, va_rf l0), (1, .int l1), (2, .int l2), (4, .int l4)]) rfl (by rfl) (by decide) (fun _ => rfl) dX11_make_93 hw (fun x34 hw => ?_)
  exact V.sub [1, 2, 3, 0, 4] rfl (s_X11_make_96 hK59 hw)
theorem sb_X11_make_59 {l : Launch} {G : Gh} {l0 : Option Nat} {l1 : Int32} {l2 : Int32} {l3 : Int32} {l4 : Int32} {h : Hp} {Q : Int32 → Hp → Prop} {K59 : Int32 → Int32 → Hp → Prop} (hK59 : ∀ (l3 : Int32) (l4 : Int32) (h : Hp), K59 l3 l4 h → V l G 5 yX11_make cX11_make 8 (some .int) 59 [(0, va_rf l0), (1, .int l1), (2, .int l2), (3, .int l3), (4, .int l4)] [] h (qI Q)) (hw : b_X11_make_59 l0 l1 l2 l3 l4 h Q K59) : V l G 5 yX11_make cX11_make 8 (some .int) 59 [(0, va_rf l0), (1, .int l1), (2, .int l2), (3, .int l3), (4, .int l4)] [] h (qI Q) := by
  unfold b_X11_make_59 at hw
  refine V_iload 4 rfl dX11_make_59 ?_
  refine V_sipush (v := 128) (by decide) dX11_make_61 ?_
  refine V_icmp_ge (tgt := 102) dX11_make_64 (by decide) hw (fun hw => ?_) (fun hw => ?_)
  · refine V_aload_n 0 rfl rfl dX11_make_102 ?_
    refine X_getI (c := 11) (k := 2) fa_X11_205 rfl dX11_make_103 hw (fun v12 hw => ?_)
    refine V_iload_n 3 rfl rfl dX11_make_106 ?_
    refine V_iadd dX11_make_107 ?_
    refine V_sipush (v := 160) (by decide) dX11_make_108 ?_
    refine V_icmp_le (tgt := 121) dX11_make_111 (by decide) hw (fun hw => ?_) (fun hw => ?_)
    · refine V_iconst (v := 0) (by decide) dX11_make_121 ?_
      refine V_istore (i := 4) [(4, .int 0), (0, va_rf l0), (1, .int l1), (2, .int l2), (3, .int l3)] (by decide) rfl dX11_make_122 ?_
      exact V.sub [1, 2, 3, 4, 0] rfl (s_X11_make_124 hw)
    · refine V_aload_n 0 rfl rfl dX11_make_114 ?_
      refine V_bipush (v := (-7)) (by decide) dX11_make_115 ?_
      refine X_cV 11 [.int (-7)] [] ma_X11_212 (by decide) rfl (by decide) (by decide) rfl (by simp [cat_i, cat_l, rf_cat]) rfl dX11_make_117 hw (r_X11_no _ _) (k_I (fun v31 h hw => ?_))
      exact V_iret rfl dX11_make_120 ⟨_, rfl, hw⟩
  · refine V_aload_n 0 rfl rfl dX11_make_67 ?_
    refine V_iload_n 1 rfl rfl dX11_make_68 ?_
    refine V_iload 4 rfl dX11_make_69 ?_
    refine X_cV 11 [.int l1, .int l4] [] ma_X11_354 (by decide) rfl (by decide) (by decide) rfl (by simp [cat_i, cat_l, rf_cat]) rfl dX11_make_71 hw (r_X11_gathers _ _ _) (k_I (fun v32 h hw => ?_))
    refine V_if_le (tgt := 96) dX11_make_74 (by decide) hw (fun hw => ?_) (fun hw => ?_)
    · exact V.sub [0, 1, 2, 3, 4] rfl (s_X11_make_96 hK59 hw)
    · refine V_iload_n 2 rfl rfl dX11_make_77 ?_
      refine V_iconst (v := (-1)) (by decide) dX11_make_78 ?_
      refine V_icmp_eq (tgt := 93) dX11_make_79 (by decide) hw (fun hw => ?_) (fun hw => ?_)
      · exact V.sub [0, 1, 2, 3, 4] rfl (s_X11_make_93 hK59 hw)
      · refine V_aload_n 0 rfl rfl dX11_make_82 ?_
        refine V_iload_n 2 rfl rfl dX11_make_83 ?_
        refine V_iload_n 1 rfl rfl dX11_make_84 ?_
        refine V_iload 4 rfl dX11_make_85 ?_
        refine X_cV 11 [.int l2, .int l1, .int l4] [] ma_X11_357 (by decide) rfl (by decide) (by decide) rfl (by simp [cat_i, cat_l, rf_cat]) rfl dX11_make_87 hw (r_X11_keeps _ _ _ _) (k_I (fun v35 h hw => ?_))
        refine V_if_eq (tgt := 96) dX11_make_90 (by decide) hw (fun hw => ?_) (fun hw => ?_)
        · exact V.sub [0, 1, 2, 3, 4] rfl (s_X11_make_96 hK59 hw)
        · exact V.sub [0, 1, 2, 3, 4] rfl (s_X11_make_93 hK59 hw)
theorem s_X11_make_59 {l : Launch} {G : Gh} {l0 : Option Nat} {l1 : Int32} {l2 : Int32} {l3 : Int32} {l4 : Int32} {h : Hp} {Q : Int32 → Hp → Prop}  (hw : l_X11_make_59 l0 l1 l2 l3 l4 h Q) : V l G 5 yX11_make cX11_make 8 (some .int) 59 [(0, va_rf l0), (1, .int l1), (2, .int l2), (3, .int l3), (4, .int l4)] [] h (qI Q) :=
  Lo.ind (P := fun (s : Int32 × Int32) h => V l G 5 yX11_make cX11_make 8 (some .int) 59 [(0, va_rf l0), (1, .int l1), (2, .int l2), (3, .int s.1), (4, .int s.2)] [] h (qI Q)) (fun K ih s h hw => sb_X11_make_59 (fun l3 l4 h hk => ih (l3, l4) h hk) hw) hw
theorem s_X11_make_0 {l : Launch} {G : Gh} {l0 : Option Nat} {l1 : Int32} {h : Hp} {Q : Int32 → Hp → Prop}  (hw : n_X11_make_0 l0 l1 h Q) : V l G 5 yX11_make cX11_make 8 (some .int) 0 [(0, va_rf l0), (1, .int l1)] [] h (qI Q) := by
  unfold n_X11_make_0 at hw
  refine V_aload_n 0 rfl rfl dX11_make_0 ?_
  refine V_iload_n 1 rfl rfl dX11_make_1 ?_
  refine X_cV 11 [.int l1] [] ma_X11_208 (by decide) rfl (by decide) (by decide) rfl (by simp [cat_i, cat_l, rf_cat]) rfl dX11_make_2 hw (r_X11_isPlace _ _) (k_I (fun v1 h hw => ?_))
  refine V_if_ne (tgt := 14) dX11_make_5 (by decide) hw (fun hw => ?_) (fun hw => ?_)
  · refine V_aload_n 0 rfl rfl dX11_make_8 ?_
    refine V_iconst (v := (-1)) (by decide) dX11_make_9 ?_
    refine X_cV 11 [.int (-1)] [] ma_X11_212 (by decide) rfl (by decide) (by decide) rfl (by simp [cat_i, cat_l, rf_cat]) rfl dX11_make_10 hw (r_X11_no _ _) (k_I (fun v2 h hw => ?_))
    exact V_iret rfl dX11_make_13 ⟨_, rfl, hw⟩
  · refine V_aload_n 0 rfl rfl dX11_make_14 ?_
    refine X_getR (c := 11) (k := 7) fa_X11_16 rfl dX11_make_15 hw (fun v3 hw => ?_)
    refine V_iload_n 1 rfl rfl dX11_make_18 ?_
    refine X_ldI dX11_make_19 hw (fun v4 hw => ?_)
    refine V_if_eq (tgt := 32) dX11_make_20 (by decide) hw (fun hw => ?_) (fun hw => ?_)
    · exact V.sub [0] rfl (s_X11_make_32 hw)
    · refine V_aload_n 0 rfl rfl dX11_make_23 ?_
      refine X_getR (c := 11) (k := 15) fa_X11_41 rfl dX11_make_24 hw (fun v6 hw => ?_)
      refine V_iload_n 1 rfl rfl dX11_make_27 ?_
      refine X_ldZ dX11_make_28 hw (fun v7 hw => ?_)
      refine V_if_eq (tgt := 39) dX11_make_29 (by decide) hw (fun hw => ?_) (fun hw => ?_)
      · refine V_aload_n 0 rfl rfl dX11_make_39 ?_
        refine V_aload_n 0 rfl rfl dX11_make_40 ?_
        refine X_getR (c := 11) (k := 7) fa_X11_16 rfl dX11_make_41 hw (fun v8 hw => ?_)
        refine V_iload_n 1 rfl rfl dX11_make_44 ?_
        refine X_ldI dX11_make_45 hw (fun v9 hw => ?_)
        refine V_aload_n 0 rfl rfl dX11_make_46 ?_
        refine X_getI (c := 11) (k := 0) fa_X11_224 rfl dX11_make_47 hw (fun v10 hw => ?_)
        refine X_cV 11 [.int v9, .int v10] [] ma_X11_351 (by decide) rfl (by decide) (by decide) rfl (by simp [cat_i, cat_l, rf_cat]) rfl dX11_make_50 hw (r_X11_force _ _ _) (k_I (fun v11 h hw => ?_))
        refine V_istore_n (i := 2) [(2, .int v11), (0, va_rf l0), (1, .int l1)] rfl (by decide) rfl dX11_make_53 ?_
        refine V_iconst (v := 0) (by decide) dX11_make_54 ?_
        refine V_istore_n (i := 3) [(3, .int 0), (2, .int v11), (0, va_rf l0), (1, .int l1)] rfl (by decide) rfl dX11_make_55 ?_
        refine V_iconst (v := 0) (by decide) dX11_make_56 ?_
        refine V_istore (i := 4) [(4, .int 0), (3, .int 0), (2, .int v11), (0, va_rf l0), (1, .int l1)] (by decide) rfl dX11_make_57 ?_
        exact V.sub [3, 4, 2, 1, 0] rfl (s_X11_make_59 hw)
      · exact V.sub [0] rfl (s_X11_make_32 hw)
theorem r_X11_make {l : Launch} {G : Gh} (l0 : Option Nat) (l1 : Int32) {h : Hp} {Q : Int32 → Hp → Prop} (hw : w_X11_make l0 l1 h Q) : RunQ l G 5 yX11_make cX11_make 8 (some .int) [va_rf l0, .int l1] h (qI Q) :=
  V_run rfl (sl_len _ _ (by simp [cat_i, cat_l, rf_cat])) (V.sub [0, 1] (by simp only [la_r, la_i, la_l, la_n]; rfl) (s_X11_make_0 hw))
def n_X11_model_15 (l0 : Option Nat) (h : Hp) (Q : Int32 → Hp → Prop) : Prop :=
  oV h l0 12 <| w_X11_no l0 (-1) h <| fun v2 h =>
  Q v2 h
def n_X11_model_61 (l0 : Option Nat) (h : Hp) (Q : Int32 → Hp → Prop) : Prop :=
  oV h l0 12 <| w_X11_no l0 (-6) h <| fun v5 h =>
  Q v5 h
def b_X11_model_135 (l0 : Option Nat) (l2 : Int32) (l5 : Int32) (h : Hp) (Q : Int32 → Hp → Prop) (K135 : Int32 → Hp → Prop) : Prop :=
  gR h l0 12 1426 fun v21 =>
  ldI h v21 l2 fun v22 =>
  br (v22 ≤ l5) (
    gI h l0 12 1411 fun v23 =>
    pI h l0 12 1411 (v23 + 1) fun h =>
    Q v23 h) (
    gR h l0 12 1450 fun v24 =>
    gI h l0 12 1411 fun v25 =>
    gR h l0 12 1428 fun v26 =>
    ldL h v26 ((60 * l2) + l5) fun v27 =>
    stL h v24 ((60 * v25) + l5) v27 fun h =>
    lt (l5 + 1) fun x28 =>
    K135 x28 h)
def l_X11_model_135 (l0 : Option Nat) (l2 : Int32) (l5 : Int32) (h : Hp) (Q : Int32 → Hp → Prop) : Prop :=
  Lo (fun (K : Int32 → Hp → Prop) s h => b_X11_model_135 l0 l2 s h Q (fun l5 h => K (l5) h)) (l5) h
def n_X11_model_0 (l0 : Option Nat) (l1 : Int32) (l2 : Int32) (l3 : Int32) (h : Hp) (Q : Int32 → Hp → Prop) : Prop :=
  w_X11_isShelf l2 h <| fun v1 h =>
  br (v1 = 0) (
    n_X11_model_15 l0 h Q) (
    oV h l0 12 <| w_X11_isPlace l0 l3 h <| fun v3 h =>
    br (v3 = 0) (
      n_X11_model_15 l0 h Q) (
      oV h l0 12 <| w_X11_wants l0 l2 h <| fun v4 h =>
      br (v4 = 0) (
        br (l1 < 0) (
          n_X11_model_61 l0 h Q) (
          br (15 < l1) (
            n_X11_model_61 l0 h Q) (
            gR h l0 12 1426 fun v6 =>
            ldI h v6 l2 fun v7 =>
            br (v7 ≤ 20) (
              gI h l0 12 1411 fun v8 =>
              br (v8 = 8) (
                oV h l0 12 <| w_X11_no l0 (-7) h <| fun v9 h =>
                Q v9 h) (
                gR h l0 12 1446 fun v10 =>
                gI h l0 12 1411 fun v11 =>
                stI h v10 v11 l1 fun h =>
                gR h l0 12 1447 fun v12 =>
                gI h l0 12 1411 fun v13 =>
                stI h v12 v13 l3 fun h =>
                gR h l0 12 1448 fun v14 =>
                gI h l0 12 1411 fun v15 =>
                gI h l0 12 1408 fun v16 =>
                stI h v14 v15 v16 fun h =>
                gR h l0 12 1449 fun v17 =>
                gI h l0 12 1411 fun v18 =>
                gR h l0 12 1426 fun v19 =>
                ldI h v19 l2 fun v20 =>
                stI h v17 v18 v20 fun h =>
                l_X11_model_135 l0 l2 0 h Q)) (
              n_X11_model_61 l0 h Q)))) (
        oV h l0 12 <| w_X11_no l0 v4 h <| fun v29 h =>
        Q v29 h)))
def w_X11_model (l0 : Option Nat) (l1 : Int32) (l2 : Int32) (l3 : Int32) (h : Hp) (Q : Int32 → Hp → Prop) : Prop := n_X11_model_0 l0 l1 l2 l3 h Q
theorem s_X11_model_15 {l : Launch} {G : Gh} {l0 : Option Nat} {h : Hp} {Q : Int32 → Hp → Prop}  (hw : n_X11_model_15 l0 h Q) : V l G 3 yX11_model cX11_model 6 (some .int) 15 [(0, va_rf l0)] [] h (qI Q) := by
  unfold n_X11_model_15 at hw
  refine V_aload_n 0 rfl rfl dX11_model_15 ?_
  refine V_iconst (v := (-1)) (by decide) dX11_model_16 ?_
  refine X_cV 11 [.int (-1)] [] ma_X11_212 (by decide) rfl (by decide) (by decide) rfl (by simp [cat_i, cat_l, rf_cat]) rfl dX11_model_17 hw (r_X11_no _ _) (k_I (fun v2 h hw => ?_))
  exact V_iret rfl dX11_model_20 ⟨_, rfl, hw⟩
theorem s_X11_model_61 {l : Launch} {G : Gh} {l0 : Option Nat} {h : Hp} {Q : Int32 → Hp → Prop}  (hw : n_X11_model_61 l0 h Q) : V l G 3 yX11_model cX11_model 6 (some .int) 61 [(0, va_rf l0)] [] h (qI Q) := by
  unfold n_X11_model_61 at hw
  refine V_aload_n 0 rfl rfl dX11_model_61 ?_
  refine V_bipush (v := (-6)) (by decide) dX11_model_62 ?_
  refine X_cV 11 [.int (-6)] [] ma_X11_212 (by decide) rfl (by decide) (by decide) rfl (by simp [cat_i, cat_l, rf_cat]) rfl dX11_model_64 hw (r_X11_no _ _) (k_I (fun v5 h hw => ?_))
  exact V_iret rfl dX11_model_67 ⟨_, rfl, hw⟩
theorem sb_X11_model_135 {l : Launch} {G : Gh} {l0 : Option Nat} {l2 : Int32} {l5 : Int32} {h : Hp} {Q : Int32 → Hp → Prop} {K135 : Int32 → Hp → Prop} (hK135 : ∀ (l5 : Int32) (h : Hp), K135 l5 h → V l G 3 yX11_model cX11_model 6 (some .int) 135 [(0, va_rf l0), (2, .int l2), (5, .int l5)] [] h (qI Q)) (hw : b_X11_model_135 l0 l2 l5 h Q K135) : V l G 3 yX11_model cX11_model 6 (some .int) 135 [(0, va_rf l0), (2, .int l2), (5, .int l5)] [] h (qI Q) := by
  unfold b_X11_model_135 at hw
  refine V_iload 2 rfl dX11_model_135 ?_
  refine V_aload_n 0 rfl rfl dX11_model_137 ?_
  refine X_getR (c := 11) (k := 18) fa_X11_51 rfl dX11_model_138 hw (fun v21 hw => ?_)
  refine V_iload_n 1 rfl rfl dX11_model_141 ?_
  refine X_ldI dX11_model_142 hw (fun v22 hw => ?_)
  refine V_icmp_ge (tgt := 179) dX11_model_143 (by decide) hw (fun hw => ?_) (fun hw => ?_)
  · refine V_aload_n 0 rfl rfl dX11_model_179 ?_
    refine V_dup (rf_cat _) dX11_model_180 ?_
    refine X_getI (c := 11) (k := 3) fa_X11_252 rfl dX11_model_181 hw (fun v23 hw => ?_)
    refine V_dup_x1 rfl (rf_cat _) dX11_model_184 ?_
    refine V_iconst (v := 1) (by decide) dX11_model_185 ?_
    refine V_iadd dX11_model_186 ?_
    refine X_putI (c := 11) (k := 3) fa_X11_252 (Or.inl rfl) rfl dX11_model_187 hw (fun h hw => ?_)
    exact V_iret rfl dX11_model_190 ⟨_, rfl, hw⟩
  · refine V_aload_n 0 rfl rfl dX11_model_146 ?_
    refine X_getR (c := 11) (k := 42) fa_X11_124 rfl dX11_model_147 hw (fun v24 hw => ?_)
    refine V_bipush (v := 60) (by decide) dX11_model_150 ?_
    refine V_aload_n 0 rfl rfl dX11_model_152 ?_
    refine X_getI (c := 11) (k := 3) fa_X11_252 rfl dX11_model_153 hw (fun v25 hw => ?_)
    refine V_imul dX11_model_156 ?_
    refine V_iload 2 rfl dX11_model_157 ?_
    refine V_iadd dX11_model_159 ?_
    refine V_aload_n 0 rfl rfl dX11_model_160 ?_
    refine X_getR (c := 11) (k := 20) fa_X11_57 rfl dX11_model_161 hw (fun v26 hw => ?_)
    refine V_bipush (v := 60) (by decide) dX11_model_164 ?_
    refine V_iload_n 1 rfl rfl dX11_model_166 ?_
    refine V_imul dX11_model_167 ?_
    refine V_iload 2 rfl dX11_model_168 ?_
    refine V_iadd dX11_model_170 ?_
    refine X_ldL dX11_model_171 hw (fun v27 hw => ?_)
    refine X_stL dX11_model_172 hw (fun h hw => ?_)
    refine V_iincL (n := 1) 2 (fun z => [(5, .int z), (0, va_rf l0), (2, .int l2)]) rfl (by rfl) (by decide) (fun _ => rfl) dX11_model_173 hw (fun x28 hw => ?_)
    refine V_goto (tgt := 135) dX11_model_176 (by decide) ?_
    exact V.sub [1, 2, 0] rfl (hK135 _ _ hw)
theorem s_X11_model_135 {l : Launch} {G : Gh} {l0 : Option Nat} {l2 : Int32} {l5 : Int32} {h : Hp} {Q : Int32 → Hp → Prop}  (hw : l_X11_model_135 l0 l2 l5 h Q) : V l G 3 yX11_model cX11_model 6 (some .int) 135 [(0, va_rf l0), (2, .int l2), (5, .int l5)] [] h (qI Q) :=
  Lo.ind (P := fun (s : Int32) h => V l G 3 yX11_model cX11_model 6 (some .int) 135 [(0, va_rf l0), (2, .int l2), (5, .int s)] [] h (qI Q)) (fun K ih s h hw => sb_X11_model_135 (fun l5 h hk => ih (l5) h hk) hw) hw
set_option maxRecDepth 20000 in
theorem s_X11_model_0 {l : Launch} {G : Gh} {l0 : Option Nat} {l1 : Int32} {l2 : Int32} {l3 : Int32} {h : Hp} {Q : Int32 → Hp → Prop}  (hw : n_X11_model_0 l0 l1 l2 l3 h Q) : V l G 3 yX11_model cX11_model 6 (some .int) 0 [(0, va_rf l0), (1, .int l1), (2, .int l2), (3, .int l3)] [] h (qI Q) := by
  unfold n_X11_model_0 at hw
  refine V_iload_n 2 rfl rfl dX11_model_0 ?_
  refine X_cS [.int l2] [] ma_X11_237 (by decide) (by decide) rfl (by simp [cat_i, cat_l, rf_cat]) rfl dX11_model_1 (r_X11_isShelf _ hw) (k_I (fun v1 h hw => ?_))
  refine V_if_eq (tgt := 15) dX11_model_4 (by decide) hw (fun hw => ?_) (fun hw => ?_)
  · exact V.sub [0] rfl (s_X11_model_15 hw)
  · refine V_aload_n 0 rfl rfl dX11_model_7 ?_
    refine V_iload_n 3 rfl rfl dX11_model_8 ?_
    refine X_cV 11 [.int l3] [] ma_X11_208 (by decide) rfl (by decide) (by decide) rfl (by simp [cat_i, cat_l, rf_cat]) rfl dX11_model_9 hw (r_X11_isPlace _ _) (k_I (fun v3 h hw => ?_))
    refine V_if_ne (tgt := 21) dX11_model_12 (by decide) hw (fun hw => ?_) (fun hw => ?_)
    · exact V.sub [0] rfl (s_X11_model_15 hw)
    · refine V_aload_n 0 rfl rfl dX11_model_21 ?_
      refine V_iload_n 2 rfl rfl dX11_model_22 ?_
      refine X_cV 11 [.int l2] [] ma_X11_249 (by decide) rfl (by decide) (by decide) rfl (by simp [cat_i, cat_l, rf_cat]) rfl dX11_model_23 hw (r_X11_wants _ _) (k_I (fun v4 h hw => ?_))
      refine V_istore (i := 4) [(4, .int v4), (0, va_rf l0), (1, .int l1), (2, .int l2), (3, .int l3)] (by decide) rfl dX11_model_26 ?_
      refine V_iload 0 rfl dX11_model_28 ?_
      refine V_if_eq (tgt := 40) dX11_model_30 (by decide) hw (fun hw => ?_) (fun hw => ?_)
      · refine V_iload_n 2 rfl rfl dX11_model_40 ?_
        refine V_if_lt (tgt := 61) dX11_model_41 (by decide) hw (fun hw => ?_) (fun hw => ?_)
        · exact V.sub [1] rfl (s_X11_model_61 hw)
        · refine V_iload_n 2 rfl rfl dX11_model_44 ?_
          refine V_bipush (v := 15) (by decide) dX11_model_45 ?_
          refine V_icmp_gt (tgt := 61) dX11_model_47 (by decide) hw (fun hw => ?_) (fun hw => ?_)
          · exact V.sub [1] rfl (s_X11_model_61 hw)
          · refine V_aload_n 1 rfl rfl dX11_model_50 ?_
            refine X_getR (c := 11) (k := 18) fa_X11_51 rfl dX11_model_51 hw (fun v6 hw => ?_)
            refine V_iload_n 3 rfl rfl dX11_model_54 ?_
            refine X_ldI dX11_model_55 hw (fun v7 hw => ?_)
            refine V_bipush (v := 20) (by decide) dX11_model_56 ?_
            refine V_icmp_le (tgt := 68) dX11_model_58 (by decide) hw (fun hw => ?_) (fun hw => ?_)
            · refine V_aload_n 1 rfl rfl dX11_model_68 ?_
              refine X_getI (c := 11) (k := 3) fa_X11_252 rfl dX11_model_69 hw (fun v8 hw => ?_)
              refine V_bipush (v := 8) (by decide) dX11_model_72 ?_
              refine V_icmp_ne (tgt := 84) dX11_model_74 (by decide) hw (fun hw => ?_) (fun hw => ?_)
              · refine V_aload_n 1 rfl rfl dX11_model_77 ?_
                refine V_bipush (v := (-7)) (by decide) dX11_model_78 ?_
                refine X_cV 11 [.int (-7)] [] ma_X11_212 (by decide) rfl (by decide) (by decide) rfl (by simp [cat_i, cat_l, rf_cat]) rfl dX11_model_80 hw (r_X11_no _ _) (k_I (fun v9 h hw => ?_))
                exact V_iret rfl dX11_model_83 ⟨_, rfl, hw⟩
              · refine V_aload_n 1 rfl rfl dX11_model_84 ?_
                refine X_getR (c := 11) (k := 38) fa_X11_112 rfl dX11_model_85 hw (fun v10 hw => ?_)
                refine V_aload_n 1 rfl rfl dX11_model_88 ?_
                refine X_getI (c := 11) (k := 3) fa_X11_252 rfl dX11_model_89 hw (fun v11 hw => ?_)
                refine V_iload_n 2 rfl rfl dX11_model_92 ?_
                refine X_stI dX11_model_93 hw (fun h hw => ?_)
                refine V_aload_n 1 rfl rfl dX11_model_94 ?_
                refine X_getR (c := 11) (k := 39) fa_X11_115 rfl dX11_model_95 hw (fun v12 hw => ?_)
                refine V_aload_n 1 rfl rfl dX11_model_98 ?_
                refine X_getI (c := 11) (k := 3) fa_X11_252 rfl dX11_model_99 hw (fun v13 hw => ?_)
                refine V_iload_n 4 rfl rfl dX11_model_102 ?_
                refine X_stI dX11_model_103 hw (fun h hw => ?_)
                refine V_aload_n 1 rfl rfl dX11_model_104 ?_
                refine X_getR (c := 11) (k := 40) fa_X11_118 rfl dX11_model_105 hw (fun v14 hw => ?_)
                refine V_aload_n 1 rfl rfl dX11_model_108 ?_
                refine X_getI (c := 11) (k := 3) fa_X11_252 rfl dX11_model_109 hw (fun v15 hw => ?_)
                refine V_aload_n 1 rfl rfl dX11_model_112 ?_
                refine X_getI (c := 11) (k := 0) fa_X11_224 rfl dX11_model_113 hw (fun v16 hw => ?_)
                refine X_stI dX11_model_116 hw (fun h hw => ?_)
                refine V_aload_n 1 rfl rfl dX11_model_117 ?_
                refine X_getR (c := 11) (k := 41) fa_X11_121 rfl dX11_model_118 hw (fun v17 hw => ?_)
                refine V_aload_n 1 rfl rfl dX11_model_121 ?_
                refine X_getI (c := 11) (k := 3) fa_X11_252 rfl dX11_model_122 hw (fun v18 hw => ?_)
                refine V_aload_n 1 rfl rfl dX11_model_125 ?_
                refine X_getR (c := 11) (k := 18) fa_X11_51 rfl dX11_model_126 hw (fun v19 hw => ?_)
                refine V_iload_n 3 rfl rfl dX11_model_129 ?_
                refine X_ldI dX11_model_130 hw (fun v20 hw => ?_)
                refine X_stI dX11_model_131 hw (fun h hw => ?_)
                refine V_iconst (v := 0) (by decide) dX11_model_132 ?_
                refine V_istore (i := 5) [(5, .int 0), (4, .int v4), (0, va_rf l0), (1, .int l1), (2, .int l2), (3, .int l3)] (by decide) rfl dX11_model_133 ?_
                exact V.sub [2, 4, 0] rfl (s_X11_model_135 hw)
            · exact V.sub [1] rfl (s_X11_model_61 hw)
      · refine V_aload_n 1 rfl rfl dX11_model_33 ?_
        refine V_iload 0 rfl dX11_model_34 ?_
        refine X_cV 11 [.int v4] [] ma_X11_212 (by decide) rfl (by decide) (by decide) rfl (by simp [cat_i, cat_l, rf_cat]) rfl dX11_model_36 hw (r_X11_no _ _) (k_I (fun v29 h hw => ?_))
        exact V_iret rfl dX11_model_39 ⟨_, rfl, hw⟩
theorem r_X11_model {l : Launch} {G : Gh} (l0 : Option Nat) (l1 : Int32) (l2 : Int32) (l3 : Int32) {h : Hp} {Q : Int32 → Hp → Prop} (hw : w_X11_model l0 l1 l2 l3 h Q) : RunQ l G 3 yX11_model cX11_model 6 (some .int) [va_rf l0, .int l1, .int l2, .int l3] h (qI Q) :=
  V_run rfl (sl_len _ _ (by simp [cat_i, cat_l, rf_cat])) (V.sub [0, 1, 2, 3] (by simp only [la_r, la_i, la_l, la_n]; rfl) (s_X11_model_0 hw))
