def n_X11_other_19 (h : Hp) (Q : Int32 → Hp → Prop) : Prop :=
  Q (-1) h
def n_X11_other_54 (l0 : Option Nat) (l1 : Int32) (l3 : Int32) (l4 : Int32) (h : Hp) (Q : Int32 → Hp → Prop) (K26 : Int32 → Int32 → Hp → Prop) : Prop :=
  lt (l4 + 1) fun x2 =>
  K26 l3 x2 h
def b_X11_other_26 (l0 : Option Nat) (l1 : Int32) (l3 : Int32) (l4 : Int32) (h : Hp) (Q : Int32 → Hp → Prop) (K26 : Int32 → Int32 → Hp → Prop) : Prop :=
  br (128 ≤ l4) (
    Q (-1) h) (
    oV h l0 12 <| w_X11_comes l0 l1 l4 h <| fun v1 h =>
    br (v1 = 0) (
      n_X11_other_54 l0 l1 l3 l4 h Q K26) (
      lt (l3 + (-1)) fun x3 =>
      br (l3 = 0) (
        Q l4 h) (
        n_X11_other_54 l0 l1 x3 l4 h Q K26)))
def l_X11_other_26 (l0 : Option Nat) (l1 : Int32) (l3 : Int32) (l4 : Int32) (h : Hp) (Q : Int32 → Hp → Prop) : Prop :=
  Lo (fun (K : Int32 × Int32 → Hp → Prop) s h => b_X11_other_26 l0 l1 s.1 s.2 h Q (fun l3 l4 h => K (l3, l4) h)) (l3, l4) h
def n_X11_other_0 (l0 : Option Nat) (l1 : Int32) (l2 : Int32) (h : Hp) (Q : Int32 → Hp → Prop) : Prop :=
  br (l1 < 0) (
    n_X11_other_19 h Q) (
    br (2 < l1) (
      n_X11_other_19 h Q) (
      br (l2 < 0) (
        n_X11_other_19 h Q) (
        br (l2 ≤ 15) (
          l_X11_other_26 l0 l1 l2 0 h Q) (
          n_X11_other_19 h Q))))
def w_X11_other (l0 : Option Nat) (l1 : Int32) (l2 : Int32) (h : Hp) (Q : Int32 → Hp → Prop) : Prop := n_X11_other_0 l0 l1 l2 h Q
theorem s_X11_other_19 {l : Launch} {G : Gh}  {h : Hp} {Q : Int32 → Hp → Prop}  (hw : n_X11_other_19 h Q) : V l G 4 yX11_other cX11_other 5 (some .int) 19 [] [] h (qI Q) := by
  unfold n_X11_other_19 at hw
  refine V_iconst (v := (-1)) (by decide) dX11_other_19 ?_
  exact V_iret rfl dX11_other_20 ⟨_, rfl, hw⟩
theorem s_X11_other_54 {l : Launch} {G : Gh} {l0 : Option Nat} {l1 : Int32} {l3 : Int32} {l4 : Int32} {h : Hp} {Q : Int32 → Hp → Prop} {K26 : Int32 → Int32 → Hp → Prop} (hK26 : ∀ (l3 : Int32) (l4 : Int32) (h : Hp), K26 l3 l4 h → V l G 4 yX11_other cX11_other 5 (some .int) 26 [(0, va_rf l0), (1, .int l1), (3, .int l3), (4, .int l4)] [] h (qI Q)) (hw : n_X11_other_54 l0 l1 l3 l4 h Q K26) : V l G 4 yX11_other cX11_other 5 (some .int) 54 [(0, va_rf l0), (1, .int l1), (3, .int l3), (4, .int l4)] [] h (qI Q) := by
  unfold n_X11_other_54 at hw
  refine V_iincL (n := 1) 3 (fun z => [(4, .int z), (0, va_rf l0), (1, .int l1), (3, .int l3)]) rfl (by rfl) (by decide) (fun _ => rfl) dX11_other_54 hw (fun x2 hw => ?_)
  refine V_goto (tgt := 26) dX11_other_57 (by decide) ?_
  exact V.sub [1, 2, 3, 0] rfl (hK26 _ _ _ hw)
theorem sb_X11_other_26 {l : Launch} {G : Gh} {l0 : Option Nat} {l1 : Int32} {l3 : Int32} {l4 : Int32} {h : Hp} {Q : Int32 → Hp → Prop} {K26 : Int32 → Int32 → Hp → Prop} (hK26 : ∀ (l3 : Int32) (l4 : Int32) (h : Hp), K26 l3 l4 h → V l G 4 yX11_other cX11_other 5 (some .int) 26 [(0, va_rf l0), (1, .int l1), (3, .int l3), (4, .int l4)] [] h (qI Q)) (hw : b_X11_other_26 l0 l1 l3 l4 h Q K26) : V l G 4 yX11_other cX11_other 5 (some .int) 26 [(0, va_rf l0), (1, .int l1), (3, .int l3), (4, .int l4)] [] h (qI Q) := by
  unfold b_X11_other_26 at hw
  refine V_iload 3 rfl dX11_other_26 ?_
  refine V_sipush (v := 128) (by decide) dX11_other_28 ?_
  refine V_icmp_ge (tgt := 60) dX11_other_31 (by decide) hw (fun hw => ?_) (fun hw => ?_)
  · refine V_iconst (v := (-1)) (by decide) dX11_other_60 ?_
    exact V_iret rfl dX11_other_61 ⟨_, rfl, hw⟩
  · refine V_aload_n 0 rfl rfl dX11_other_34 ?_
    refine V_iload_n 1 rfl rfl dX11_other_35 ?_
    refine V_iload 3 rfl dX11_other_36 ?_
    refine X_cV 11 [.int l1, .int l4] [] ma_X11_382 (by decide) rfl (by decide) (by decide) rfl (by simp [cat_i, cat_l, rf_cat]) rfl dX11_other_38 hw (r_X11_comes _ _ _) (k_I (fun v1 h hw => ?_))
    refine V_if_eq (tgt := 54) dX11_other_41 (by decide) hw (fun hw => ?_) (fun hw => ?_)
    · exact V.sub [0, 1, 2, 3] rfl (s_X11_other_54 hK26 hw)
    · refine V_iload_n 2 rfl rfl dX11_other_44 ?_
      refine V_iincL (n := (-1)) 2 (fun z => [(3, .int z), (0, va_rf l0), (1, .int l1), (4, .int l4)]) rfl (by rfl) (by decide) (fun _ => rfl) dX11_other_45 hw (fun x3 hw => ?_)
      refine V_if_ne (tgt := 54) dX11_other_48 (by decide) hw (fun hw => ?_) (fun hw => ?_)
      · refine V_iload 3 rfl dX11_other_51 ?_
        exact V_iret rfl dX11_other_53 ⟨_, rfl, hw⟩
      · exact V.sub [1, 2, 0, 3] rfl (s_X11_other_54 hK26 hw)
theorem s_X11_other_26 {l : Launch} {G : Gh} {l0 : Option Nat} {l1 : Int32} {l3 : Int32} {l4 : Int32} {h : Hp} {Q : Int32 → Hp → Prop}  (hw : l_X11_other_26 l0 l1 l3 l4 h Q) : V l G 4 yX11_other cX11_other 5 (some .int) 26 [(0, va_rf l0), (1, .int l1), (3, .int l3), (4, .int l4)] [] h (qI Q) :=
  Lo.ind (P := fun (s : Int32 × Int32) h => V l G 4 yX11_other cX11_other 5 (some .int) 26 [(0, va_rf l0), (1, .int l1), (3, .int s.1), (4, .int s.2)] [] h (qI Q)) (fun K ih s h hw => sb_X11_other_26 (fun l3 l4 h hk => ih (l3, l4) h hk) hw) hw
theorem s_X11_other_0 {l : Launch} {G : Gh} {l0 : Option Nat} {l1 : Int32} {l2 : Int32} {h : Hp} {Q : Int32 → Hp → Prop}  (hw : n_X11_other_0 l0 l1 l2 h Q) : V l G 4 yX11_other cX11_other 5 (some .int) 0 [(0, va_rf l0), (1, .int l1), (2, .int l2)] [] h (qI Q) := by
  unfold n_X11_other_0 at hw
  refine V_iload_n 1 rfl rfl dX11_other_0 ?_
  refine V_if_lt (tgt := 19) dX11_other_1 (by decide) hw (fun hw => ?_) (fun hw => ?_)
  · exact V.sub [] rfl (s_X11_other_19 hw)
  · refine V_iload_n 1 rfl rfl dX11_other_4 ?_
    refine V_iconst (v := 2) (by decide) dX11_other_5 ?_
    refine V_icmp_gt (tgt := 19) dX11_other_6 (by decide) hw (fun hw => ?_) (fun hw => ?_)
    · exact V.sub [] rfl (s_X11_other_19 hw)
    · refine V_iload_n 2 rfl rfl dX11_other_9 ?_
      refine V_if_lt (tgt := 19) dX11_other_10 (by decide) hw (fun hw => ?_) (fun hw => ?_)
      · exact V.sub [] rfl (s_X11_other_19 hw)
      · refine V_iload_n 2 rfl rfl dX11_other_13 ?_
        refine V_bipush (v := 15) (by decide) dX11_other_14 ?_
        refine V_icmp_le (tgt := 21) dX11_other_16 (by decide) hw (fun hw => ?_) (fun hw => ?_)
        · refine V_iload_n 2 rfl rfl dX11_other_21 ?_
          refine V_istore_n (i := 3) [(3, .int l2), (0, va_rf l0), (1, .int l1), (2, .int l2)] rfl (by decide) rfl dX11_other_22 ?_
          refine V_iconst (v := 0) (by decide) dX11_other_23 ?_
          refine V_istore (i := 4) [(4, .int 0), (3, .int l2), (0, va_rf l0), (1, .int l1), (2, .int l2)] (by decide) rfl dX11_other_24 ?_
          exact V.sub [2, 3, 1, 0] rfl (s_X11_other_26 hw)
        · exact V.sub [] rfl (s_X11_other_19 hw)
theorem r_X11_other {l : Launch} {G : Gh} (l0 : Option Nat) (l1 : Int32) (l2 : Int32) {h : Hp} {Q : Int32 → Hp → Prop} (hw : w_X11_other l0 l1 l2 h Q) : RunQ l G 4 yX11_other cX11_other 5 (some .int) [va_rf l0, .int l1, .int l2] h (qI Q) :=
  V_run rfl (sl_len _ _ (by simp [cat_i, cat_l, rf_cat])) (V.sub [0, 1, 2] (by simp only [la_r, la_i, la_l, la_n]; rfl) (s_X11_other_0 hw))
def n_X11_puts_0 (l0 : Option Nat) (l1 : Int32) (l2 : Int32) (l3 : Int32) (l4 : Int32) (l5 : Int32) (h : Hp) (Q : Int32 → Hp → Prop) : Prop :=
  gR h l0 12 1415 fun v1 =>
  gI h l0 12 1409 fun v2 =>
  stI h v1 v2 l2 fun h =>
  gR h l0 12 1416 fun v3 =>
  gI h l0 12 1409 fun v4 =>
  stI h v3 v4 l1 fun h =>
  gR h l0 12 1417 fun v5 =>
  gI h l0 12 1409 fun v6 =>
  stI h v5 v6 l3 fun h =>
  gR h l0 12 1418 fun v7 =>
  gI h l0 12 1409 fun v8 =>
  stI h v7 v8 l4 fun h =>
  gR h l0 12 1419 fun v9 =>
  gI h l0 12 1409 fun v10 =>
  stI h v9 v10 l5 fun h =>
  gR h l0 12 1420 fun v11 =>
  gI h l0 12 1409 fun v12 =>
  stI h v11 v12 (-1) fun h =>
  gR h l0 12 1421 fun v13 =>
  gI h l0 12 1409 fun v14 =>
  stI h v13 v14 (-1) fun h =>
  gI h l0 12 1409 fun v15 =>
  pI h l0 12 1409 (v15 + 1) fun h =>
  Q v15 h
def w_X11_puts (l0 : Option Nat) (l1 : Int32) (l2 : Int32) (l3 : Int32) (l4 : Int32) (l5 : Int32) (h : Hp) (Q : Int32 → Hp → Prop) : Prop := n_X11_puts_0 l0 l1 l2 l3 l4 l5 h Q
set_option maxRecDepth 20000 in
theorem s_X11_puts_0 {l : Launch} {G : Gh} {l0 : Option Nat} {l1 : Int32} {l2 : Int32} {l3 : Int32} {l4 : Int32} {l5 : Int32} {h : Hp} {Q : Int32 → Hp → Prop}  (hw : n_X11_puts_0 l0 l1 l2 l3 l4 l5 h Q) : V l G 1 yX11_puts cX11_puts 6 (some .int) 0 [(0, va_rf l0), (1, .int l1), (2, .int l2), (3, .int l3), (4, .int l4), (5, .int l5)] [] h (qI Q) := by
  unfold n_X11_puts_0 at hw
  refine V_aload_n 0 rfl rfl dX11_puts_0 ?_
  refine X_getR (c := 11) (k := 7) fa_X11_16 rfl dX11_puts_1 hw (fun v1 hw => ?_)
  refine V_aload_n 0 rfl rfl dX11_puts_4 ?_
  refine X_getI (c := 11) (k := 1) fa_X11_7 rfl dX11_puts_5 hw (fun v2 hw => ?_)
  refine V_iload_n 2 rfl rfl dX11_puts_8 ?_
  refine X_stI dX11_puts_9 hw (fun h hw => ?_)
  refine V_aload_n 0 rfl rfl dX11_puts_10 ?_
  refine X_getR (c := 11) (k := 8) fa_X11_20 rfl dX11_puts_11 hw (fun v3 hw => ?_)
  refine V_aload_n 0 rfl rfl dX11_puts_14 ?_
  refine X_getI (c := 11) (k := 1) fa_X11_7 rfl dX11_puts_15 hw (fun v4 hw => ?_)
  refine V_iload_n 1 rfl rfl dX11_puts_18 ?_
  refine X_stI dX11_puts_19 hw (fun h hw => ?_)
  refine V_aload_n 0 rfl rfl dX11_puts_20 ?_
  refine X_getR (c := 11) (k := 9) fa_X11_23 rfl dX11_puts_21 hw (fun v5 hw => ?_)
  refine V_aload_n 0 rfl rfl dX11_puts_24 ?_
  refine X_getI (c := 11) (k := 1) fa_X11_7 rfl dX11_puts_25 hw (fun v6 hw => ?_)
  refine V_iload_n 3 rfl rfl dX11_puts_28 ?_
  refine X_stI dX11_puts_29 hw (fun h hw => ?_)
  refine V_aload_n 0 rfl rfl dX11_puts_30 ?_
  refine X_getR (c := 11) (k := 10) fa_X11_26 rfl dX11_puts_31 hw (fun v7 hw => ?_)
  refine V_aload_n 0 rfl rfl dX11_puts_34 ?_
  refine X_getI (c := 11) (k := 1) fa_X11_7 rfl dX11_puts_35 hw (fun v8 hw => ?_)
  refine V_iload 4 rfl dX11_puts_38 ?_
  refine X_stI dX11_puts_40 hw (fun h hw => ?_)
  refine V_aload_n 0 rfl rfl dX11_puts_41 ?_
  refine X_getR (c := 11) (k := 11) fa_X11_29 rfl dX11_puts_42 hw (fun v9 hw => ?_)
  refine V_aload_n 0 rfl rfl dX11_puts_45 ?_
  refine X_getI (c := 11) (k := 1) fa_X11_7 rfl dX11_puts_46 hw (fun v10 hw => ?_)
  refine V_iload 5 rfl dX11_puts_49 ?_
  refine X_stI dX11_puts_51 hw (fun h hw => ?_)
  refine V_aload_n 0 rfl rfl dX11_puts_52 ?_
  refine X_getR (c := 11) (k := 12) fa_X11_32 rfl dX11_puts_53 hw (fun v11 hw => ?_)
  refine V_aload_n 0 rfl rfl dX11_puts_56 ?_
  refine X_getI (c := 11) (k := 1) fa_X11_7 rfl dX11_puts_57 hw (fun v12 hw => ?_)
  refine V_iconst (v := (-1)) (by decide) dX11_puts_60 ?_
  refine X_stI dX11_puts_61 hw (fun h hw => ?_)
  refine V_aload_n 0 rfl rfl dX11_puts_62 ?_
  refine X_getR (c := 11) (k := 13) fa_X11_35 rfl dX11_puts_63 hw (fun v13 hw => ?_)
  refine V_aload_n 0 rfl rfl dX11_puts_66 ?_
  refine X_getI (c := 11) (k := 1) fa_X11_7 rfl dX11_puts_67 hw (fun v14 hw => ?_)
  refine V_iconst (v := (-1)) (by decide) dX11_puts_70 ?_
  refine X_stI dX11_puts_71 hw (fun h hw => ?_)
  refine V_aload_n 0 rfl rfl dX11_puts_72 ?_
  refine V_dup (rf_cat _) dX11_puts_73 ?_
  refine X_getI (c := 11) (k := 1) fa_X11_7 rfl dX11_puts_74 hw (fun v15 hw => ?_)
  refine V_dup_x1 rfl (rf_cat _) dX11_puts_77 ?_
  refine V_iconst (v := 1) (by decide) dX11_puts_78 ?_
  refine V_iadd dX11_puts_79 ?_
  refine X_putI (c := 11) (k := 1) fa_X11_7 (Or.inl rfl) rfl dX11_puts_80 hw (fun h hw => ?_)
  exact V_iret rfl dX11_puts_83 ⟨_, rfl, hw⟩
theorem r_X11_puts {l : Launch} {G : Gh} (l0 : Option Nat) (l1 : Int32) (l2 : Int32) (l3 : Int32) (l4 : Int32) (l5 : Int32) {h : Hp} {Q : Int32 → Hp → Prop} (hw : w_X11_puts l0 l1 l2 l3 l4 l5 h Q) : RunQ l G 1 yX11_puts cX11_puts 6 (some .int) [va_rf l0, .int l1, .int l2, .int l3, .int l4, .int l5] h (qI Q) :=
  V_run rfl (sl_len _ _ (by simp [cat_i, cat_l, rf_cat])) (V.sub [0, 1, 2, 3, 4, 5] (by simp only [la_r, la_i, la_l, la_n]; rfl) (s_X11_puts_0 hw))
def n_X11_parish_57 (l0 : Option Nat) (h : Hp) (Q : Int32 → Hp → Prop) : Prop :=
  oV h l0 12 <| w_X11_no l0 (-6) h <| fun v3 h =>
  Q v3 h
def n_X11_parish_92 (s0 : Int32) (h : Hp) (Q : Int32 → Hp → Prop) : Prop :=
  Q s0 h
def n_X11_parish_0 (l0 : Option Nat) (l1 : Int32) (l2 : Int32) (l3 : Int32) (l4 : Int32) (h : Hp) (Q : Int32 → Hp → Prop) : Prop :=
  oV h l0 12 <| w_X11_isPlace l0 l1 h <| fun v1 h =>
  br (v1 = 0) (
    oV h l0 12 <| w_X11_no l0 (-1) h <| fun v2 h =>
    Q v2 h) (
    br (l2 < 0) (
      n_X11_parish_57 l0 h Q) (
      br (99 < l2) (
        n_X11_parish_57 l0 h Q) (
        br (l3 < 0) (
          n_X11_parish_57 l0 h Q) (
          br (2 < l3) (
            n_X11_parish_57 l0 h Q) (
            br (l4 < 1) (
              n_X11_parish_57 l0 h Q) (
              br (999 < l4) (
                n_X11_parish_57 l0 h Q) (
                gR h l0 12 1415 fun v4 =>
                ldI h v4 l1 fun v5 =>
                br (v5 = 1) (
                  gI h l0 12 1409 fun v6 =>
                  br (v6 = 24) (
                    oV h l0 12 <| w_X11_no l0 (-7) h <| fun v7 h =>
                    n_X11_parish_92 v7 h Q) (
                    oV h l0 12 <| w_X11_puts l0 l1 0 l2 l3 l4 h <| fun v8 h =>
                    n_X11_parish_92 v8 h Q)) (
                  n_X11_parish_57 l0 h Q))))))))
def w_X11_parish (l0 : Option Nat) (l1 : Int32) (l2 : Int32) (l3 : Int32) (l4 : Int32) (h : Hp) (Q : Int32 → Hp → Prop) : Prop := n_X11_parish_0 l0 l1 l2 l3 l4 h Q
theorem s_X11_parish_57 {l : Launch} {G : Gh} {l0 : Option Nat} {h : Hp} {Q : Int32 → Hp → Prop}  (hw : n_X11_parish_57 l0 h Q) : V l G 2 yX11_parish cX11_parish 5 (some .int) 57 [(0, va_rf l0)] [] h (qI Q) := by
  unfold n_X11_parish_57 at hw
  refine V_aload_n 0 rfl rfl dX11_parish_57 ?_
  refine V_bipush (v := (-6)) (by decide) dX11_parish_58 ?_
  refine X_cV 11 [.int (-6)] [] ma_X11_212 (by decide) rfl (by decide) (by decide) rfl (by simp [cat_i, cat_l, rf_cat]) rfl dX11_parish_60 hw (r_X11_no _ _) (k_I (fun v3 h hw => ?_))
  exact V_iret rfl dX11_parish_63 ⟨_, rfl, hw⟩
theorem s_X11_parish_92 {l : Launch} {G : Gh} {s0 : Int32} {h : Hp} {Q : Int32 → Hp → Prop}  (hw : n_X11_parish_92 s0 h Q) : V l G 2 yX11_parish cX11_parish 5 (some .int) 92 [] [.int s0] h (qI Q) := by
  unfold n_X11_parish_92 at hw
  exact V_iret rfl dX11_parish_92 ⟨_, rfl, hw⟩
set_option maxRecDepth 20000 in
theorem s_X11_parish_0 {l : Launch} {G : Gh} {l0 : Option Nat} {l1 : Int32} {l2 : Int32} {l3 : Int32} {l4 : Int32} {h : Hp} {Q : Int32 → Hp → Prop}  (hw : n_X11_parish_0 l0 l1 l2 l3 l4 h Q) : V l G 2 yX11_parish cX11_parish 5 (some .int) 0 [(0, va_rf l0), (1, .int l1), (2, .int l2), (3, .int l3), (4, .int l4)] [] h (qI Q) := by
  unfold n_X11_parish_0 at hw
  refine V_aload_n 0 rfl rfl dX11_parish_0 ?_
  refine V_iload_n 1 rfl rfl dX11_parish_1 ?_
  refine X_cV 11 [.int l1] [] ma_X11_208 (by decide) rfl (by decide) (by decide) rfl (by simp [cat_i, cat_l, rf_cat]) rfl dX11_parish_2 hw (r_X11_isPlace _ _) (k_I (fun v1 h hw => ?_))
  refine V_if_ne (tgt := 14) dX11_parish_5 (by decide) hw (fun hw => ?_) (fun hw => ?_)
  · refine V_aload_n 0 rfl rfl dX11_parish_8 ?_
    refine V_iconst (v := (-1)) (by decide) dX11_parish_9 ?_
    refine X_cV 11 [.int (-1)] [] ma_X11_212 (by decide) rfl (by decide) (by decide) rfl (by simp [cat_i, cat_l, rf_cat]) rfl dX11_parish_10 hw (r_X11_no _ _) (k_I (fun v2 h hw => ?_))
    exact V_iret rfl dX11_parish_13 ⟨_, rfl, hw⟩
  · refine V_iload_n 2 rfl rfl dX11_parish_14 ?_
    refine V_if_lt (tgt := 57) dX11_parish_15 (by decide) hw (fun hw => ?_) (fun hw => ?_)
    · exact V.sub [0] rfl (s_X11_parish_57 hw)
    · refine V_iload_n 2 rfl rfl dX11_parish_18 ?_
      refine V_bipush (v := 99) (by decide) dX11_parish_19 ?_
      refine V_icmp_gt (tgt := 57) dX11_parish_21 (by decide) hw (fun hw => ?_) (fun hw => ?_)
      · exact V.sub [0] rfl (s_X11_parish_57 hw)
      · refine V_iload_n 3 rfl rfl dX11_parish_24 ?_
        refine V_if_lt (tgt := 57) dX11_parish_25 (by decide) hw (fun hw => ?_) (fun hw => ?_)
        · exact V.sub [0] rfl (s_X11_parish_57 hw)
        · refine V_iload_n 3 rfl rfl dX11_parish_28 ?_
          refine V_iconst (v := 2) (by decide) dX11_parish_29 ?_
          refine V_icmp_gt (tgt := 57) dX11_parish_30 (by decide) hw (fun hw => ?_) (fun hw => ?_)
          · exact V.sub [0] rfl (s_X11_parish_57 hw)
          · refine V_iload 4 rfl dX11_parish_33 ?_
            refine V_iconst (v := 1) (by decide) dX11_parish_35 ?_
            refine V_icmp_lt (tgt := 57) dX11_parish_36 (by decide) hw (fun hw => ?_) (fun hw => ?_)
            · exact V.sub [0] rfl (s_X11_parish_57 hw)
            · refine V_iload 4 rfl dX11_parish_39 ?_
              refine V_sipush (v := 999) (by decide) dX11_parish_41 ?_
              refine V_icmp_gt (tgt := 57) dX11_parish_44 (by decide) hw (fun hw => ?_) (fun hw => ?_)
              · exact V.sub [0] rfl (s_X11_parish_57 hw)
              · refine V_aload_n 0 rfl rfl dX11_parish_47 ?_
                refine X_getR (c := 11) (k := 7) fa_X11_16 rfl dX11_parish_48 hw (fun v4 hw => ?_)
                refine V_iload_n 1 rfl rfl dX11_parish_51 ?_
                refine X_ldI dX11_parish_52 hw (fun v5 hw => ?_)
                refine V_iconst (v := 1) (by decide) dX11_parish_53 ?_
                refine V_icmp_eq (tgt := 64) dX11_parish_54 (by decide) hw (fun hw => ?_) (fun hw => ?_)
                · refine V_aload_n 0 rfl rfl dX11_parish_64 ?_
                  refine X_getI (c := 11) (k := 1) fa_X11_7 rfl dX11_parish_65 hw (fun v6 hw => ?_)
                  refine V_bipush (v := 24) (by decide) dX11_parish_68 ?_
                  refine V_icmp_ne (tgt := 82) dX11_parish_70 (by decide) hw (fun hw => ?_) (fun hw => ?_)
                  · refine V_aload_n 0 rfl rfl dX11_parish_73 ?_
                    refine V_bipush (v := (-7)) (by decide) dX11_parish_74 ?_
                    refine X_cV 11 [.int (-7)] [] ma_X11_212 (by decide) rfl (by decide) (by decide) rfl (by simp [cat_i, cat_l, rf_cat]) rfl dX11_parish_76 hw (r_X11_no _ _) (k_I (fun v7 h hw => ?_))
                    refine V_goto (tgt := 92) dX11_parish_79 (by decide) ?_
                    exact V.sub [] rfl (s_X11_parish_92 hw)
                  · refine V_aload_n 0 rfl rfl dX11_parish_82 ?_
                    refine V_iload_n 1 rfl rfl dX11_parish_83 ?_
                    refine V_iconst (v := 0) (by decide) dX11_parish_84 ?_
                    refine V_iload_n 2 rfl rfl dX11_parish_85 ?_
                    refine V_iload_n 3 rfl rfl dX11_parish_86 ?_
                    refine V_iload 4 rfl dX11_parish_87 ?_
                    refine X_cV 11 [.int l1, .int 0, .int l2, .int l3, .int l4] [] ma_X11_216 (by decide) rfl (by decide) (by decide) rfl (by simp [cat_i, cat_l, rf_cat]) rfl dX11_parish_89 hw (r_X11_puts _ _ _ _ _ _) (k_I (fun v8 h hw => ?_))
                    exact V.sub [] rfl (s_X11_parish_92 hw)
                · exact V.sub [0] rfl (s_X11_parish_57 hw)
theorem r_X11_parish {l : Launch} {G : Gh} (l0 : Option Nat) (l1 : Int32) (l2 : Int32) (l3 : Int32) (l4 : Int32) {h : Hp} {Q : Int32 → Hp → Prop} (hw : w_X11_parish l0 l1 l2 l3 l4 h Q) : RunQ l G 2 yX11_parish cX11_parish 5 (some .int) [va_rf l0, .int l1, .int l2, .int l3, .int l4] h (qI Q) :=
  V_run rfl (sl_len _ _ (by simp [cat_i, cat_l, rf_cat])) (V.sub [0, 1, 2, 3, 4] (by simp only [la_r, la_i, la_l, la_n]; rfl) (s_X11_parish_0 hw))
def n_X11_part_69 (l0 : Option Nat) (l1 : Int32) (l3 : Int32) (l4 : Int32) (l5 : Int32) (h : Hp) (Q : Int32 → Hp → Prop) (K15 : Int32 → Int32 → Hp → Prop) (K27 : Int32 → Int32 → Hp → Prop) : Prop :=
  lt (l5 + 1) fun x10 =>
  K27 l3 x10 h
def b_X11_part_27 (l0 : Option Nat) (l1 : Int32) (l3 : Int32) (l4 : Int32) (l5 : Int32) (h : Hp) (Q : Int32 → Hp → Prop) (K15 : Int32 → Int32 → Hp → Prop) (K27 : Int32 → Int32 → Hp → Prop) : Prop :=
  gI h l0 12 1410 fun v3 =>
  br (v3 ≤ l5) (
    lt (l4 + 1) fun x4 =>
    K15 l3 x4 h) (
    gR h l0 12 1430 fun v5 =>
    ldI h v5 l5 fun v6 =>
    br (v6 = l4) (
      gR h l0 12 1437 fun v7 =>
      ldI h v7 l5 fun v8 =>
      br (v8 = l1) (
        lt (l3 + (-1)) fun x9 =>
        br (l3 = 0) (
          Q l5 h) (
          n_X11_part_69 l0 l1 x9 l4 l5 h Q K15 K27)) (
        n_X11_part_69 l0 l1 l3 l4 l5 h Q K15 K27)) (
      n_X11_part_69 l0 l1 l3 l4 l5 h Q K15 K27))
def l_X11_part_27 (l0 : Option Nat) (l1 : Int32) (l3 : Int32) (l4 : Int32) (l5 : Int32) (h : Hp) (Q : Int32 → Hp → Prop) (K15 : Int32 → Int32 → Hp → Prop) : Prop :=
  Lo (fun (K : Int32 × Int32 → Hp → Prop) s h => b_X11_part_27 l0 l1 s.1 l4 s.2 h Q K15 (fun l3 l5 h => K (l3, l5) h)) (l3, l5) h
def b_X11_part_15 (l0 : Option Nat) (l1 : Int32) (l3 : Int32) (l4 : Int32) (h : Hp) (Q : Int32 → Hp → Prop) (K15 : Int32 → Int32 → Hp → Prop) : Prop :=
  gI h l0 12 1409 fun v2 =>
  br (v2 ≤ l4) (
    Q (-1) h) (
    l_X11_part_27 l0 l1 l3 l4 0 h Q K15)
def l_X11_part_15 (l0 : Option Nat) (l1 : Int32) (l3 : Int32) (l4 : Int32) (h : Hp) (Q : Int32 → Hp → Prop) : Prop :=
  Lo (fun (K : Int32 × Int32 → Hp → Prop) s h => b_X11_part_15 l0 l1 s.1 s.2 h Q (fun l3 l4 h => K (l3, l4) h)) (l3, l4) h
def n_X11_part_0 (l0 : Option Nat) (l1 : Int32) (l2 : Int32) (h : Hp) (Q : Int32 → Hp → Prop) : Prop :=
  oV h l0 12 <| w_X11_isAsk l0 l1 h <| fun v1 h =>
  br (v1 = 0) (
    Q (-1) h) (
    l_X11_part_15 l0 l1 l2 0 h Q)
def w_X11_part (l0 : Option Nat) (l1 : Int32) (l2 : Int32) (h : Hp) (Q : Int32 → Hp → Prop) : Prop := n_X11_part_0 l0 l1 l2 h Q
theorem s_X11_part_69 {l : Launch} {G : Gh} {l0 : Option Nat} {l1 : Int32} {l3 : Int32} {l4 : Int32} {l5 : Int32} {h : Hp} {Q : Int32 → Hp → Prop} {K15 : Int32 → Int32 → Hp → Prop} {K27 : Int32 → Int32 → Hp → Prop} (hK15 : ∀ (l3 : Int32) (l4 : Int32) (h : Hp), K15 l3 l4 h → V l G 2 yX11_part cX11_part 6 (some .int) 15 [(0, va_rf l0), (1, .int l1), (3, .int l3), (4, .int l4)] [] h (qI Q)) (hK27 : ∀ (l3 : Int32) (l5 : Int32) (h : Hp), K27 l3 l5 h → V l G 2 yX11_part cX11_part 6 (some .int) 27 [(0, va_rf l0), (1, .int l1), (3, .int l3), (4, .int l4), (5, .int l5)] [] h (qI Q)) (hw : n_X11_part_69 l0 l1 l3 l4 l5 h Q K15 K27) : V l G 2 yX11_part cX11_part 6 (some .int) 69 [(0, va_rf l0), (1, .int l1), (3, .int l3), (4, .int l4), (5, .int l5)] [] h (qI Q) := by
  unfold n_X11_part_69 at hw
  refine V_iincL (n := 1) 4 (fun z => [(5, .int z), (0, va_rf l0), (1, .int l1), (3, .int l3), (4, .int l4)]) rfl (by rfl) (by decide) (fun _ => rfl) dX11_part_69 hw (fun x10 hw => ?_)
  refine V_goto (tgt := 27) dX11_part_72 (by decide) ?_
  exact V.sub [1, 2, 3, 4, 0] rfl (hK27 _ _ _ hw)
theorem sb_X11_part_27 {l : Launch} {G : Gh} {l0 : Option Nat} {l1 : Int32} {l3 : Int32} {l4 : Int32} {l5 : Int32} {h : Hp} {Q : Int32 → Hp → Prop} {K15 : Int32 → Int32 → Hp → Prop} {K27 : Int32 → Int32 → Hp → Prop} (hK15 : ∀ (l3 : Int32) (l4 : Int32) (h : Hp), K15 l3 l4 h → V l G 2 yX11_part cX11_part 6 (some .int) 15 [(0, va_rf l0), (1, .int l1), (3, .int l3), (4, .int l4)] [] h (qI Q)) (hK27 : ∀ (l3 : Int32) (l5 : Int32) (h : Hp), K27 l3 l5 h → V l G 2 yX11_part cX11_part 6 (some .int) 27 [(0, va_rf l0), (1, .int l1), (3, .int l3), (4, .int l4), (5, .int l5)] [] h (qI Q)) (hw : b_X11_part_27 l0 l1 l3 l4 l5 h Q K15 K27) : V l G 2 yX11_part cX11_part 6 (some .int) 27 [(0, va_rf l0), (1, .int l1), (3, .int l3), (4, .int l4), (5, .int l5)] [] h (qI Q) := by
  unfold b_X11_part_27 at hw
  refine V_iload 4 rfl dX11_part_27 ?_
  refine V_aload_n 0 rfl rfl dX11_part_29 ?_
  refine X_getI (c := 11) (k := 2) fa_X11_205 rfl dX11_part_30 hw (fun v3 hw => ?_)
  refine V_icmp_ge (tgt := 75) dX11_part_33 (by decide) hw (fun hw => ?_) (fun hw => ?_)
  · refine V_iincL (n := 1) 3 (fun z => [(4, .int z), (0, va_rf l0), (1, .int l1), (3, .int l3), (5, .int l5)]) rfl (by rfl) (by decide) (fun _ => rfl) dX11_part_75 hw (fun x4 hw => ?_)
    refine V_goto (tgt := 15) dX11_part_78 (by decide) ?_
    exact V.sub [1, 2, 3, 0] rfl (hK15 _ _ _ hw)
  · refine V_aload_n 0 rfl rfl dX11_part_36 ?_
    refine X_getR (c := 11) (k := 22) fa_X11_64 rfl dX11_part_37 hw (fun v5 hw => ?_)
    refine V_iload 4 rfl dX11_part_40 ?_
    refine X_ldI dX11_part_42 hw (fun v6 hw => ?_)
    refine V_iload 3 rfl dX11_part_43 ?_
    refine V_icmp_ne (tgt := 69) dX11_part_45 (by decide) hw (fun hw => ?_) (fun hw => ?_)
    · refine V_aload_n 0 rfl rfl dX11_part_48 ?_
      refine X_getR (c := 11) (k := 29) fa_X11_85 rfl dX11_part_49 hw (fun v7 hw => ?_)
      refine V_iload 4 rfl dX11_part_52 ?_
      refine X_ldI dX11_part_54 hw (fun v8 hw => ?_)
      refine V_iload_n 1 rfl rfl dX11_part_55 ?_
      refine V_icmp_ne (tgt := 69) dX11_part_56 (by decide) hw (fun hw => ?_) (fun hw => ?_)
      · refine V_iload_n 2 rfl rfl dX11_part_59 ?_
        refine V_iincL (n := (-1)) 2 (fun z => [(3, .int z), (0, va_rf l0), (1, .int l1), (4, .int l4), (5, .int l5)]) rfl (by rfl) (by decide) (fun _ => rfl) dX11_part_60 hw (fun x9 hw => ?_)
        refine V_if_ne (tgt := 69) dX11_part_63 (by decide) hw (fun hw => ?_) (fun hw => ?_)
        · refine V_iload 4 rfl dX11_part_66 ?_
          exact V_iret rfl dX11_part_68 ⟨_, rfl, hw⟩
        · exact V.sub [1, 2, 0, 3, 4] rfl (s_X11_part_69 hK15 hK27 hw)
      · exact V.sub [0, 1, 2, 3, 4] rfl (s_X11_part_69 hK15 hK27 hw)
    · exact V.sub [0, 1, 2, 3, 4] rfl (s_X11_part_69 hK15 hK27 hw)
theorem s_X11_part_27 {l : Launch} {G : Gh} {l0 : Option Nat} {l1 : Int32} {l3 : Int32} {l4 : Int32} {l5 : Int32} {h : Hp} {Q : Int32 → Hp → Prop} {K15 : Int32 → Int32 → Hp → Prop} (hK15 : ∀ (l3 : Int32) (l4 : Int32) (h : Hp), K15 l3 l4 h → V l G 2 yX11_part cX11_part 6 (some .int) 15 [(0, va_rf l0), (1, .int l1), (3, .int l3), (4, .int l4)] [] h (qI Q)) (hw : l_X11_part_27 l0 l1 l3 l4 l5 h Q K15) : V l G 2 yX11_part cX11_part 6 (some .int) 27 [(0, va_rf l0), (1, .int l1), (3, .int l3), (4, .int l4), (5, .int l5)] [] h (qI Q) :=
  Lo.ind (P := fun (s : Int32 × Int32) h => V l G 2 yX11_part cX11_part 6 (some .int) 27 [(0, va_rf l0), (1, .int l1), (3, .int s.1), (4, .int l4), (5, .int s.2)] [] h (qI Q)) (fun K ih s h hw => sb_X11_part_27 hK15 (fun l3 l5 h hk => ih (l3, l5) h hk) hw) hw
theorem sb_X11_part_15 {l : Launch} {G : Gh} {l0 : Option Nat} {l1 : Int32} {l3 : Int32} {l4 : Int32} {h : Hp} {Q : Int32 → Hp → Prop} {K15 : Int32 → Int32 → Hp → Prop} (hK15 : ∀ (l3 : Int32) (l4 : Int32) (h : Hp), K15 l3 l4 h → V l G 2 yX11_part cX11_part 6 (some .int) 15 [(0, va_rf l0), (1, .int l1), (3, .int l3), (4, .int l4)] [] h (qI Q)) (hw : b_X11_part_15 l0 l1 l3 l4 h Q K15) : V l G 2 yX11_part cX11_part 6 (some .int) 15 [(0, va_rf l0), (1, .int l1), (3, .int l3), (4, .int l4)] [] h (qI Q) := by
  unfold b_X11_part_15 at hw
  refine V_iload 3 rfl dX11_part_15 ?_
  refine V_aload_n 0 rfl rfl dX11_part_17 ?_
  refine X_getI (c := 11) (k := 1) fa_X11_7 rfl dX11_part_18 hw (fun v2 hw => ?_)
  refine V_icmp_ge (tgt := 81) dX11_part_21 (by decide) hw (fun hw => ?_) (fun hw => ?_)
  · refine V_iconst (v := (-1)) (by decide) dX11_part_81 ?_
    exact V_iret rfl dX11_part_82 ⟨_, rfl, hw⟩
  · refine V_iconst (v := 0) (by decide) dX11_part_24 ?_
    refine V_istore (i := 5) [(5, .int 0), (0, va_rf l0), (1, .int l1), (3, .int l3), (4, .int l4)] (by decide) rfl dX11_part_25 ?_
    exact V.sub [1, 2, 3, 4, 0] rfl (s_X11_part_27 hK15 hw)
theorem s_X11_part_15 {l : Launch} {G : Gh} {l0 : Option Nat} {l1 : Int32} {l3 : Int32} {l4 : Int32} {h : Hp} {Q : Int32 → Hp → Prop}  (hw : l_X11_part_15 l0 l1 l3 l4 h Q) : V l G 2 yX11_part cX11_part 6 (some .int) 15 [(0, va_rf l0), (1, .int l1), (3, .int l3), (4, .int l4)] [] h (qI Q) :=
  Lo.ind (P := fun (s : Int32 × Int32) h => V l G 2 yX11_part cX11_part 6 (some .int) 15 [(0, va_rf l0), (1, .int l1), (3, .int s.1), (4, .int s.2)] [] h (qI Q)) (fun K ih s h hw => sb_X11_part_15 (fun l3 l4 h hk => ih (l3, l4) h hk) hw) hw
theorem s_X11_part_0 {l : Launch} {G : Gh} {l0 : Option Nat} {l1 : Int32} {l2 : Int32} {h : Hp} {Q : Int32 → Hp → Prop}  (hw : n_X11_part_0 l0 l1 l2 h Q) : V l G 2 yX11_part cX11_part 6 (some .int) 0 [(0, va_rf l0), (1, .int l1), (2, .int l2)] [] h (qI Q) := by
  unfold n_X11_part_0 at hw
  refine V_aload_n 0 rfl rfl dX11_part_0 ?_
  refine V_iload_n 1 rfl rfl dX11_part_1 ?_
  refine X_cV 11 [.int l1] [] ma_X11_240 (by decide) rfl (by decide) (by decide) rfl (by simp [cat_i, cat_l, rf_cat]) rfl dX11_part_2 hw (r_X11_isAsk _ _) (k_I (fun v1 h hw => ?_))
  refine V_if_ne (tgt := 10) dX11_part_5 (by decide) hw (fun hw => ?_) (fun hw => ?_)
  · refine V_iconst (v := (-1)) (by decide) dX11_part_8 ?_
    exact V_iret rfl dX11_part_9 ⟨_, rfl, hw⟩
  · refine V_iload_n 2 rfl rfl dX11_part_10 ?_
    refine V_istore_n (i := 3) [(3, .int l2), (0, va_rf l0), (1, .int l1), (2, .int l2)] rfl (by decide) rfl dX11_part_11 ?_
    refine V_iconst (v := 0) (by decide) dX11_part_12 ?_
    refine V_istore (i := 4) [(4, .int 0), (3, .int l2), (0, va_rf l0), (1, .int l1), (2, .int l2)] (by decide) rfl dX11_part_13 ?_
    exact V.sub [2, 3, 1, 0] rfl (s_X11_part_15 hw)
theorem r_X11_part {l : Launch} {G : Gh} (l0 : Option Nat) (l1 : Int32) (l2 : Int32) {h : Hp} {Q : Int32 → Hp → Prop} (hw : w_X11_part l0 l1 l2 h Q) : RunQ l G 2 yX11_part cX11_part 6 (some .int) [va_rf l0, .int l1, .int l2] h (qI Q) :=
  V_run rfl (sl_len _ _ (by simp [cat_i, cat_l, rf_cat])) (V.sub [0, 1, 2] (by simp only [la_r, la_i, la_l, la_n]; rfl) (s_X11_part_0 hw))
def n_X11_partsOf_25 (l0 : Option Nat) (l1 : Int32) (l2 : Int32) (l3 : Int32) (h : Hp) (Q : Int32 → Hp → Prop) (K4 : Int32 → Int32 → Hp → Prop) : Prop :=
  lt (l3 + 1) fun x5 =>
  K4 l2 x5 h
def b_X11_partsOf_4 (l0 : Option Nat) (l1 : Int32) (l2 : Int32) (l3 : Int32) (h : Hp) (Q : Int32 → Hp → Prop) (K4 : Int32 → Int32 → Hp → Prop) : Prop :=
  gI h l0 12 1410 fun v1 =>
  br (v1 ≤ l3) (
    Q l2 h) (
    gR h l0 12 1437 fun v2 =>
    ldI h v2 l3 fun v3 =>
    br (v3 = l1) (
      lt (l2 + 1) fun x4 =>
      n_X11_partsOf_25 l0 l1 x4 l3 h Q K4) (
      n_X11_partsOf_25 l0 l1 l2 l3 h Q K4))
def l_X11_partsOf_4 (l0 : Option Nat) (l1 : Int32) (l2 : Int32) (l3 : Int32) (h : Hp) (Q : Int32 → Hp → Prop) : Prop :=
  Lo (fun (K : Int32 × Int32 → Hp → Prop) s h => b_X11_partsOf_4 l0 l1 s.1 s.2 h Q (fun l2 l3 h => K (l2, l3) h)) (l2, l3) h
def n_X11_partsOf_0 (l0 : Option Nat) (l1 : Int32) (h : Hp) (Q : Int32 → Hp → Prop) : Prop :=
  l_X11_partsOf_4 l0 l1 0 0 h Q
def w_X11_partsOf (l0 : Option Nat) (l1 : Int32) (h : Hp) (Q : Int32 → Hp → Prop) : Prop := n_X11_partsOf_0 l0 l1 h Q
theorem s_X11_partsOf_25 {l : Launch} {G : Gh} {l0 : Option Nat} {l1 : Int32} {l2 : Int32} {l3 : Int32} {h : Hp} {Q : Int32 → Hp → Prop} {K4 : Int32 → Int32 → Hp → Prop} (hK4 : ∀ (l2 : Int32) (l3 : Int32) (h : Hp), K4 l2 l3 h → V l G 1 yX11_partsOf cX11_partsOf 4 (some .int) 4 [(0, va_rf l0), (1, .int l1), (2, .int l2), (3, .int l3)] [] h (qI Q)) (hw : n_X11_partsOf_25 l0 l1 l2 l3 h Q K4) : V l G 1 yX11_partsOf cX11_partsOf 4 (some .int) 25 [(0, va_rf l0), (1, .int l1), (2, .int l2), (3, .int l3)] [] h (qI Q) := by
  unfold n_X11_partsOf_25 at hw
  refine V_iincL (n := 1) 3 (fun z => [(3, .int z), (0, va_rf l0), (1, .int l1), (2, .int l2)]) rfl (by rfl) (by decide) (fun _ => rfl) dX11_partsOf_25 hw (fun x5 hw => ?_)
  refine V_goto (tgt := 4) dX11_partsOf_28 (by decide) ?_
  exact V.sub [1, 2, 3, 0] rfl (hK4 _ _ _ hw)
theorem sb_X11_partsOf_4 {l : Launch} {G : Gh} {l0 : Option Nat} {l1 : Int32} {l2 : Int32} {l3 : Int32} {h : Hp} {Q : Int32 → Hp → Prop} {K4 : Int32 → Int32 → Hp → Prop} (hK4 : ∀ (l2 : Int32) (l3 : Int32) (h : Hp), K4 l2 l3 h → V l G 1 yX11_partsOf cX11_partsOf 4 (some .int) 4 [(0, va_rf l0), (1, .int l1), (2, .int l2), (3, .int l3)] [] h (qI Q)) (hw : b_X11_partsOf_4 l0 l1 l2 l3 h Q K4) : V l G 1 yX11_partsOf cX11_partsOf 4 (some .int) 4 [(0, va_rf l0), (1, .int l1), (2, .int l2), (3, .int l3)] [] h (qI Q) := by
  unfold b_X11_partsOf_4 at hw
  refine V_iload_n 3 rfl rfl dX11_partsOf_4 ?_
  refine V_aload_n 0 rfl rfl dX11_partsOf_5 ?_
  refine X_getI (c := 11) (k := 2) fa_X11_205 rfl dX11_partsOf_6 hw (fun v1 hw => ?_)
  refine V_icmp_ge (tgt := 31) dX11_partsOf_9 (by decide) hw (fun hw => ?_) (fun hw => ?_)
  · refine V_iload_n 2 rfl rfl dX11_partsOf_31 ?_
    exact V_iret rfl dX11_partsOf_32 ⟨_, rfl, hw⟩
  · refine V_aload_n 0 rfl rfl dX11_partsOf_12 ?_
    refine X_getR (c := 11) (k := 29) fa_X11_85 rfl dX11_partsOf_13 hw (fun v2 hw => ?_)
    refine V_iload_n 3 rfl rfl dX11_partsOf_16 ?_
    refine X_ldI dX11_partsOf_17 hw (fun v3 hw => ?_)
    refine V_iload_n 1 rfl rfl dX11_partsOf_18 ?_
    refine V_icmp_ne (tgt := 25) dX11_partsOf_19 (by decide) hw (fun hw => ?_) (fun hw => ?_)
    · refine V_iincL (n := 1) 2 (fun z => [(2, .int z), (0, va_rf l0), (1, .int l1), (3, .int l3)]) rfl (by rfl) (by decide) (fun _ => rfl) dX11_partsOf_22 hw (fun x4 hw => ?_)
      exact V.sub [1, 2, 0, 3] rfl (s_X11_partsOf_25 hK4 hw)
    · exact V.sub [0, 1, 2, 3] rfl (s_X11_partsOf_25 hK4 hw)
theorem s_X11_partsOf_4 {l : Launch} {G : Gh} {l0 : Option Nat} {l1 : Int32} {l2 : Int32} {l3 : Int32} {h : Hp} {Q : Int32 → Hp → Prop}  (hw : l_X11_partsOf_4 l0 l1 l2 l3 h Q) : V l G 1 yX11_partsOf cX11_partsOf 4 (some .int) 4 [(0, va_rf l0), (1, .int l1), (2, .int l2), (3, .int l3)] [] h (qI Q) :=
  Lo.ind (P := fun (s : Int32 × Int32) h => V l G 1 yX11_partsOf cX11_partsOf 4 (some .int) 4 [(0, va_rf l0), (1, .int l1), (2, .int s.1), (3, .int s.2)] [] h (qI Q)) (fun K ih s h hw => sb_X11_partsOf_4 (fun l2 l3 h hk => ih (l2, l3) h hk) hw) hw
theorem s_X11_partsOf_0 {l : Launch} {G : Gh} {l0 : Option Nat} {l1 : Int32} {h : Hp} {Q : Int32 → Hp → Prop}  (hw : n_X11_partsOf_0 l0 l1 h Q) : V l G 1 yX11_partsOf cX11_partsOf 4 (some .int) 0 [(0, va_rf l0), (1, .int l1)] [] h (qI Q) := by
  unfold n_X11_partsOf_0 at hw
  refine V_iconst (v := 0) (by decide) dX11_partsOf_0 ?_
  refine V_istore_n (i := 2) [(2, .int 0), (0, va_rf l0), (1, .int l1)] rfl (by decide) rfl dX11_partsOf_1 ?_
  refine V_iconst (v := 0) (by decide) dX11_partsOf_2 ?_
  refine V_istore_n (i := 3) [(3, .int 0), (2, .int 0), (0, va_rf l0), (1, .int l1)] rfl (by decide) rfl dX11_partsOf_3 ?_
  exact V.sub [2, 3, 1, 0] rfl (s_X11_partsOf_4 hw)
theorem r_X11_partsOf {l : Launch} {G : Gh} (l0 : Option Nat) (l1 : Int32) {h : Hp} {Q : Int32 → Hp → Prop} (hw : w_X11_partsOf l0 l1 h Q) : RunQ l G 1 yX11_partsOf cX11_partsOf 4 (some .int) [va_rf l0, .int l1] h (qI Q) :=
  V_run rfl (sl_len _ _ (by simp [cat_i, cat_l, rf_cat])) (V.sub [0, 1] (by simp only [la_r, la_i, la_l, la_n]; rfl) (s_X11_partsOf_0 hw))
def n_X11_path_26 (s0 : Int32) (h : Hp) (Q : Int32 → Hp → Prop) : Prop :=
  Q s0 h
def n_X11_path_25 (h : Hp) (Q : Int32 → Hp → Prop) : Prop :=
  n_X11_path_26 (-1) h Q
def n_X11_path_0 (l0 : Option Nat) (l1 : Int32) (l2 : Int32) (h : Hp) (Q : Int32 → Hp → Prop) : Prop :=
  oV h l0 12 <| w_X11_isPlace l0 l1 h <| fun v1 h =>
  br (v1 = 0) (
    n_X11_path_25 h Q) (
    oV h l0 12 <| w_X11_isPlace l0 l2 h <| fun v2 h =>
    br (v2 = 0) (
      n_X11_path_25 h Q) (
      oV h l0 12 <| w_X11_pathOf l0 l1 l2 h <| fun v3 h =>
      n_X11_path_26 v3 h Q))
def w_X11_path (l0 : Option Nat) (l1 : Int32) (l2 : Int32) (h : Hp) (Q : Int32 → Hp → Prop) : Prop := n_X11_path_0 l0 l1 l2 h Q
theorem s_X11_path_26 {l : Launch} {G : Gh} {s0 : Int32} {h : Hp} {Q : Int32 → Hp → Prop}  (hw : n_X11_path_26 s0 h Q) : V l G 2 yX11_path cX11_path 3 (some .int) 26 [] [.int s0] h (qI Q) := by
  unfold n_X11_path_26 at hw
  exact V_iret rfl dX11_path_26 ⟨_, rfl, hw⟩
theorem s_X11_path_25 {l : Launch} {G : Gh}  {h : Hp} {Q : Int32 → Hp → Prop}  (hw : n_X11_path_25 h Q) : V l G 2 yX11_path cX11_path 3 (some .int) 25 [] [] h (qI Q) := by
  unfold n_X11_path_25 at hw
  refine V_iconst (v := (-1)) (by decide) dX11_path_25 ?_
  exact V.sub [] rfl (s_X11_path_26 hw)
theorem s_X11_path_0 {l : Launch} {G : Gh} {l0 : Option Nat} {l1 : Int32} {l2 : Int32} {h : Hp} {Q : Int32 → Hp → Prop}  (hw : n_X11_path_0 l0 l1 l2 h Q) : V l G 2 yX11_path cX11_path 3 (some .int) 0 [(0, va_rf l0), (1, .int l1), (2, .int l2)] [] h (qI Q) := by
  unfold n_X11_path_0 at hw
  refine V_aload_n 0 rfl rfl dX11_path_0 ?_
  refine V_iload_n 1 rfl rfl dX11_path_1 ?_
  refine X_cV 11 [.int l1] [] ma_X11_208 (by decide) rfl (by decide) (by decide) rfl (by simp [cat_i, cat_l, rf_cat]) rfl dX11_path_2 hw (r_X11_isPlace _ _) (k_I (fun v1 h hw => ?_))
  refine V_if_eq (tgt := 25) dX11_path_5 (by decide) hw (fun hw => ?_) (fun hw => ?_)
  · exact V.sub [] rfl (s_X11_path_25 hw)
  · refine V_aload_n 0 rfl rfl dX11_path_8 ?_
    refine V_iload_n 2 rfl rfl dX11_path_9 ?_
    refine X_cV 11 [.int l2] [] ma_X11_208 (by decide) rfl (by decide) (by decide) rfl (by simp [cat_i, cat_l, rf_cat]) rfl dX11_path_10 hw (r_X11_isPlace _ _) (k_I (fun v2 h hw => ?_))
    refine V_if_eq (tgt := 25) dX11_path_13 (by decide) hw (fun hw => ?_) (fun hw => ?_)
    · exact V.sub [] rfl (s_X11_path_25 hw)
    · refine V_aload_n 0 rfl rfl dX11_path_16 ?_
      refine V_iload_n 1 rfl rfl dX11_path_17 ?_
      refine V_iload_n 2 rfl rfl dX11_path_18 ?_
      refine X_cV 11 [.int l1, .int l2] [] ma_X11_220 (by decide) rfl (by decide) (by decide) rfl (by simp [cat_i, cat_l, rf_cat]) rfl dX11_path_19 hw (r_X11_pathOf _ _ _) (k_I (fun v3 h hw => ?_))
      refine V_goto (tgt := 26) dX11_path_22 (by decide) ?_
      exact V.sub [] rfl (s_X11_path_26 hw)
theorem r_X11_path {l : Launch} {G : Gh} (l0 : Option Nat) (l1 : Int32) (l2 : Int32) {h : Hp} {Q : Int32 → Hp → Prop} (hw : w_X11_path l0 l1 l2 h Q) : RunQ l G 2 yX11_path cX11_path 3 (some .int) [va_rf l0, .int l1, .int l2] h (qI Q) :=
  V_run rfl (sl_len _ _ (by simp [cat_i, cat_l, rf_cat])) (V.sub [0, 1, 2] (by simp only [la_r, la_i, la_l, la_n]; rfl) (s_X11_path_0 hw))
def n_X11_person_34 (l0 : Option Nat) (h : Hp) (Q : Int32 → Hp → Prop) : Prop :=
  oV h l0 12 <| w_X11_no l0 (-6) h <| fun v5 h =>
  Q v5 h
def n_X11_person_0 (l0 : Option Nat) (l1 : Int32) (l2 : Int32) (h : Hp) (Q : Int32 → Hp → Prop) : Prop :=
  oV h l0 12 <| w_X11_isPlace l0 l1 h <| fun v1 h =>
  br (v1 = 0) (
    oV h l0 12 <| w_X11_no l0 (-1) h <| fun v2 h =>
    Q v2 h) (
    gR h l0 12 1415 fun v3 =>
    ldI h v3 l1 fun v4 =>
    br (v4 = 0) (
      br (l2 < 0) (
        n_X11_person_34 l0 h Q) (
        br (l2 ≤ 9999) (
          gI h l0 12 1413 fun v6 =>
          br (v6 = 20) (
            oV h l0 12 <| w_X11_no l0 (-7) h <| fun v7 h =>
            Q v7 h) (
            gR h l0 12 1462 fun v8 =>
            gI h l0 12 1413 fun v9 =>
            stI h v8 v9 l1 fun h =>
            gR h l0 12 1463 fun v10 =>
            gI h l0 12 1413 fun v11 =>
            stI h v10 v11 l2 fun h =>
            gI h l0 12 1413 fun v12 =>
            pI h l0 12 1413 (v12 + 1) fun h =>
            Q v12 h)) (
          n_X11_person_34 l0 h Q))) (
      n_X11_person_34 l0 h Q))
def w_X11_person (l0 : Option Nat) (l1 : Int32) (l2 : Int32) (h : Hp) (Q : Int32 → Hp → Prop) : Prop := n_X11_person_0 l0 l1 l2 h Q
theorem s_X11_person_34 {l : Launch} {G : Gh} {l0 : Option Nat} {h : Hp} {Q : Int32 → Hp → Prop}  (hw : n_X11_person_34 l0 h Q) : V l G 2 yX11_person cX11_person 3 (some .int) 34 [(0, va_rf l0)] [] h (qI Q) := by
  unfold n_X11_person_34 at hw
  refine V_aload_n 0 rfl rfl dX11_person_34 ?_
  refine V_bipush (v := (-6)) (by decide) dX11_person_35 ?_
  refine X_cV 11 [.int (-6)] [] ma_X11_212 (by decide) rfl (by decide) (by decide) rfl (by simp [cat_i, cat_l, rf_cat]) rfl dX11_person_37 hw (r_X11_no _ _) (k_I (fun v5 h hw => ?_))
  exact V_iret rfl dX11_person_40 ⟨_, rfl, hw⟩
set_option maxRecDepth 20000 in
theorem s_X11_person_0 {l : Launch} {G : Gh} {l0 : Option Nat} {l1 : Int32} {l2 : Int32} {h : Hp} {Q : Int32 → Hp → Prop}  (hw : n_X11_person_0 l0 l1 l2 h Q) : V l G 2 yX11_person cX11_person 3 (some .int) 0 [(0, va_rf l0), (1, .int l1), (2, .int l2)] [] h (qI Q) := by
  unfold n_X11_person_0 at hw
  refine V_aload_n 0 rfl rfl dX11_person_0 ?_
  refine V_iload_n 1 rfl rfl dX11_person_1 ?_
  refine X_cV 11 [.int l1] [] ma_X11_208 (by decide) rfl (by decide) (by decide) rfl (by simp [cat_i, cat_l, rf_cat]) rfl dX11_person_2 hw (r_X11_isPlace _ _) (k_I (fun v1 h hw => ?_))
  refine V_if_ne (tgt := 14) dX11_person_5 (by decide) hw (fun hw => ?_) (fun hw => ?_)
  · refine V_aload_n 0 rfl rfl dX11_person_8 ?_
    refine V_iconst (v := (-1)) (by decide) dX11_person_9 ?_
    refine X_cV 11 [.int (-1)] [] ma_X11_212 (by decide) rfl (by decide) (by decide) rfl (by simp [cat_i, cat_l, rf_cat]) rfl dX11_person_10 hw (r_X11_no _ _) (k_I (fun v2 h hw => ?_))
    exact V_iret rfl dX11_person_13 ⟨_, rfl, hw⟩
  · refine V_aload_n 0 rfl rfl dX11_person_14 ?_
    refine X_getR (c := 11) (k := 7) fa_X11_16 rfl dX11_person_15 hw (fun v3 hw => ?_)
    refine V_iload_n 1 rfl rfl dX11_person_18 ?_
    refine X_ldI dX11_person_19 hw (fun v4 hw => ?_)
    refine V_if_ne (tgt := 34) dX11_person_20 (by decide) hw (fun hw => ?_) (fun hw => ?_)
    · refine V_iload_n 2 rfl rfl dX11_person_23 ?_
      refine V_if_lt (tgt := 34) dX11_person_24 (by decide) hw (fun hw => ?_) (fun hw => ?_)
      · exact V.sub [0] rfl (s_X11_person_34 hw)
      · refine V_iload_n 2 rfl rfl dX11_person_27 ?_
        refine V_sipush (v := 9999) (by decide) dX11_person_28 ?_
        refine V_icmp_le (tgt := 41) dX11_person_31 (by decide) hw (fun hw => ?_) (fun hw => ?_)
        · refine V_aload_n 0 rfl rfl dX11_person_41 ?_
          refine X_getI (c := 11) (k := 5) fa_X11_364 rfl dX11_person_42 hw (fun v6 hw => ?_)
          refine V_bipush (v := 20) (by decide) dX11_person_45 ?_
          refine V_icmp_ne (tgt := 57) dX11_person_47 (by decide) hw (fun hw => ?_) (fun hw => ?_)
          · refine V_aload_n 0 rfl rfl dX11_person_50 ?_
            refine V_bipush (v := (-7)) (by decide) dX11_person_51 ?_
            refine X_cV 11 [.int (-7)] [] ma_X11_212 (by decide) rfl (by decide) (by decide) rfl (by simp [cat_i, cat_l, rf_cat]) rfl dX11_person_53 hw (r_X11_no _ _) (k_I (fun v7 h hw => ?_))
            exact V_iret rfl dX11_person_56 ⟨_, rfl, hw⟩
          · refine V_aload_n 0 rfl rfl dX11_person_57 ?_
            refine X_getR (c := 11) (k := 54) fa_X11_160 rfl dX11_person_58 hw (fun v8 hw => ?_)
            refine V_aload_n 0 rfl rfl dX11_person_61 ?_
            refine X_getI (c := 11) (k := 5) fa_X11_364 rfl dX11_person_62 hw (fun v9 hw => ?_)
            refine V_iload_n 1 rfl rfl dX11_person_65 ?_
            refine X_stI dX11_person_66 hw (fun h hw => ?_)
            refine V_aload_n 0 rfl rfl dX11_person_67 ?_
            refine X_getR (c := 11) (k := 55) fa_X11_163 rfl dX11_person_68 hw (fun v10 hw => ?_)
            refine V_aload_n 0 rfl rfl dX11_person_71 ?_
            refine X_getI (c := 11) (k := 5) fa_X11_364 rfl dX11_person_72 hw (fun v11 hw => ?_)
            refine V_iload_n 2 rfl rfl dX11_person_75 ?_
            refine X_stI dX11_person_76 hw (fun h hw => ?_)
            refine V_aload_n 0 rfl rfl dX11_person_77 ?_
            refine V_dup (rf_cat _) dX11_person_78 ?_
            refine X_getI (c := 11) (k := 5) fa_X11_364 rfl dX11_person_79 hw (fun v12 hw => ?_)
            refine V_dup_x1 rfl (rf_cat _) dX11_person_82 ?_
            refine V_iconst (v := 1) (by decide) dX11_person_83 ?_
            refine V_iadd dX11_person_84 ?_
            refine X_putI (c := 11) (k := 5) fa_X11_364 (Or.inl rfl) rfl dX11_person_85 hw (fun h hw => ?_)
            exact V_iret rfl dX11_person_88 ⟨_, rfl, hw⟩
        · exact V.sub [0] rfl (s_X11_person_34 hw)
    · exact V.sub [0] rfl (s_X11_person_34 hw)
theorem r_X11_person {l : Launch} {G : Gh} (l0 : Option Nat) (l1 : Int32) (l2 : Int32) {h : Hp} {Q : Int32 → Hp → Prop} (hw : w_X11_person l0 l1 l2 h Q) : RunQ l G 2 yX11_person cX11_person 3 (some .int) [va_rf l0, .int l1, .int l2] h (qI Q) :=
  V_run rfl (sl_len _ _ (by simp [cat_i, cat_l, rf_cat])) (V.sub [0, 1, 2] (by simp only [la_r, la_i, la_l, la_n]; rfl) (s_X11_person_0 hw))
def n_X11_place_34 (l0 : Option Nat) (h : Hp) (Q : Int32 → Hp → Prop) : Prop :=
  oV h l0 12 <| w_X11_no l0 (-6) h <| fun v3 h =>
  Q v3 h
def n_X11_place_75 (s0 : Int32) (h : Hp) (Q : Int32 → Hp → Prop) : Prop :=
  Q s0 h
def n_X11_place_0 (l0 : Option Nat) (l1 : Int32) (l2 : Int32) (h : Hp) (Q : Int32 → Hp → Prop) : Prop :=
  oV h l0 12 <| w_X11_isPlace l0 l1 h <| fun v1 h =>
  br (v1 = 0) (
    oV h l0 12 <| w_X11_no l0 (-1) h <| fun v2 h =>
    Q v2 h) (
    br (l2 < 0) (
      n_X11_place_34 l0 h Q) (
      br (99 < l2) (
        n_X11_place_34 l0 h Q) (
        gR h l0 12 1415 fun v4 =>
        ldI h v4 l1 fun v5 =>
        br (2 ≤ v5) (
          gI h l0 12 1409 fun v6 =>
          br (v6 = 24) (
            oV h l0 12 <| w_X11_no l0 (-7) h <| fun v7 h =>
            n_X11_place_75 v7 h Q) (
            gR h l0 12 1415 fun v8 =>
            ldI h v8 l1 fun v9 =>
            oV h l0 12 <| w_X11_puts l0 l1 (v9 - 1) l2 (-1) 0 h <| fun v10 h =>
            n_X11_place_75 v10 h Q)) (
          n_X11_place_34 l0 h Q))))
def w_X11_place (l0 : Option Nat) (l1 : Int32) (l2 : Int32) (h : Hp) (Q : Int32 → Hp → Prop) : Prop := n_X11_place_0 l0 l1 l2 h Q
theorem s_X11_place_34 {l : Launch} {G : Gh} {l0 : Option Nat} {h : Hp} {Q : Int32 → Hp → Prop}  (hw : n_X11_place_34 l0 h Q) : V l G 2 yX11_place cX11_place 3 (some .int) 34 [(0, va_rf l0)] [] h (qI Q) := by
  unfold n_X11_place_34 at hw
  refine V_aload_n 0 rfl rfl dX11_place_34 ?_
  refine V_bipush (v := (-6)) (by decide) dX11_place_35 ?_
  refine X_cV 11 [.int (-6)] [] ma_X11_212 (by decide) rfl (by decide) (by decide) rfl (by simp [cat_i, cat_l, rf_cat]) rfl dX11_place_37 hw (r_X11_no _ _) (k_I (fun v3 h hw => ?_))
  exact V_iret rfl dX11_place_40 ⟨_, rfl, hw⟩
theorem s_X11_place_75 {l : Launch} {G : Gh} {s0 : Int32} {h : Hp} {Q : Int32 → Hp → Prop}  (hw : n_X11_place_75 s0 h Q) : V l G 2 yX11_place cX11_place 3 (some .int) 75 [] [.int s0] h (qI Q) := by
  unfold n_X11_place_75 at hw
  exact V_iret rfl dX11_place_75 ⟨_, rfl, hw⟩
set_option maxRecDepth 20000 in
theorem s_X11_place_0 {l : Launch} {G : Gh} {l0 : Option Nat} {l1 : Int32} {l2 : Int32} {h : Hp} {Q : Int32 → Hp → Prop}  (hw : n_X11_place_0 l0 l1 l2 h Q) : V l G 2 yX11_place cX11_place 3 (some .int) 0 [(0, va_rf l0), (1, .int l1), (2, .int l2)] [] h (qI Q) := by
  unfold n_X11_place_0 at hw
  refine V_aload_n 0 rfl rfl dX11_place_0 ?_
  refine V_iload_n 1 rfl rfl dX11_place_1 ?_
  refine X_cV 11 [.int l1] [] ma_X11_208 (by decide) rfl (by decide) (by decide) rfl (by simp [cat_i, cat_l, rf_cat]) rfl dX11_place_2 hw (r_X11_isPlace _ _) (k_I (fun v1 h hw => ?_))
  refine V_if_ne (tgt := 14) dX11_place_5 (by decide) hw (fun hw => ?_) (fun hw => ?_)
  · refine V_aload_n 0 rfl rfl dX11_place_8 ?_
    refine V_iconst (v := (-1)) (by decide) dX11_place_9 ?_
    refine X_cV 11 [.int (-1)] [] ma_X11_212 (by decide) rfl (by decide) (by decide) rfl (by simp [cat_i, cat_l, rf_cat]) rfl dX11_place_10 hw (r_X11_no _ _) (k_I (fun v2 h hw => ?_))
    exact V_iret rfl dX11_place_13 ⟨_, rfl, hw⟩
  · refine V_iload_n 2 rfl rfl dX11_place_14 ?_
    refine V_if_lt (tgt := 34) dX11_place_15 (by decide) hw (fun hw => ?_) (fun hw => ?_)
    · exact V.sub [0] rfl (s_X11_place_34 hw)
    · refine V_iload_n 2 rfl rfl dX11_place_18 ?_
      refine V_bipush (v := 99) (by decide) dX11_place_19 ?_
      refine V_icmp_gt (tgt := 34) dX11_place_21 (by decide) hw (fun hw => ?_) (fun hw => ?_)
      · exact V.sub [0] rfl (s_X11_place_34 hw)
      · refine V_aload_n 0 rfl rfl dX11_place_24 ?_
        refine X_getR (c := 11) (k := 7) fa_X11_16 rfl dX11_place_25 hw (fun v4 hw => ?_)
        refine V_iload_n 1 rfl rfl dX11_place_28 ?_
        refine X_ldI dX11_place_29 hw (fun v5 hw => ?_)
        refine V_iconst (v := 2) (by decide) dX11_place_30 ?_
        refine V_icmp_ge (tgt := 41) dX11_place_31 (by decide) hw (fun hw => ?_) (fun hw => ?_)
        · refine V_aload_n 0 rfl rfl dX11_place_41 ?_
          refine X_getI (c := 11) (k := 1) fa_X11_7 rfl dX11_place_42 hw (fun v6 hw => ?_)
          refine V_bipush (v := 24) (by decide) dX11_place_45 ?_
          refine V_icmp_ne (tgt := 59) dX11_place_47 (by decide) hw (fun hw => ?_) (fun hw => ?_)
          · refine V_aload_n 0 rfl rfl dX11_place_50 ?_
            refine V_bipush (v := (-7)) (by decide) dX11_place_51 ?_
            refine X_cV 11 [.int (-7)] [] ma_X11_212 (by decide) rfl (by decide) (by decide) rfl (by simp [cat_i, cat_l, rf_cat]) rfl dX11_place_53 hw (r_X11_no _ _) (k_I (fun v7 h hw => ?_))
            refine V_goto (tgt := 75) dX11_place_56 (by decide) ?_
            exact V.sub [] rfl (s_X11_place_75 hw)
          · refine V_aload_n 0 rfl rfl dX11_place_59 ?_
            refine V_iload_n 1 rfl rfl dX11_place_60 ?_
            refine V_aload_n 0 rfl rfl dX11_place_61 ?_
            refine X_getR (c := 11) (k := 7) fa_X11_16 rfl dX11_place_62 hw (fun v8 hw => ?_)
            refine V_iload_n 1 rfl rfl dX11_place_65 ?_
            refine X_ldI dX11_place_66 hw (fun v9 hw => ?_)
            refine V_iconst (v := 1) (by decide) dX11_place_67 ?_
            refine V_isub dX11_place_68 ?_
            refine V_iload_n 2 rfl rfl dX11_place_69 ?_
            refine V_iconst (v := (-1)) (by decide) dX11_place_70 ?_
            refine V_iconst (v := 0) (by decide) dX11_place_71 ?_
            refine X_cV 11 [.int l1, .int (v9 - 1), .int l2, .int (-1), .int 0] [] ma_X11_216 (by decide) rfl (by decide) (by decide) rfl (by simp [cat_i, cat_l, rf_cat]) rfl dX11_place_72 hw (r_X11_puts _ _ _ _ _ _) (k_I (fun v10 h hw => ?_))
            exact V.sub [] rfl (s_X11_place_75 hw)
        · exact V.sub [0] rfl (s_X11_place_34 hw)
theorem r_X11_place {l : Launch} {G : Gh} (l0 : Option Nat) (l1 : Int32) (l2 : Int32) {h : Hp} {Q : Int32 → Hp → Prop} (hw : w_X11_place l0 l1 l2 h Q) : RunQ l G 2 yX11_place cX11_place 3 (some .int) [va_rf l0, .int l1, .int l2] h (qI Q) :=
  V_run rfl (sl_len _ _ (by simp [cat_i, cat_l, rf_cat])) (V.sub [0, 1, 2] (by simp only [la_r, la_i, la_l, la_n]; rfl) (s_X11_place_0 hw))
def n_X11_reaches_30 (s0 : Int32) (h : Hp) (Q : Int32 → Hp → Prop) : Prop :=
  Q s0 h
def n_X11_reaches_29 (h : Hp) (Q : Int32 → Hp → Prop) : Prop :=
  n_X11_reaches_30 (-1) h Q
def n_X11_reaches_0 (l0 : Option Nat) (l1 : Int32) (l2 : Int32) (h : Hp) (Q : Int32 → Hp → Prop) : Prop :=
  br (l1 < 0) (
    n_X11_reaches_29 h Q) (
    gI h l0 12 1411 fun v1 =>
    br (v1 ≤ l1) (
      n_X11_reaches_29 h Q) (
      oV h l0 12 <| w_X11_isPlace l0 l2 h <| fun v2 h =>
      br (v2 = 0) (
        n_X11_reaches_29 h Q) (
        oV h l0 12 <| w_X11_reached l0 l1 l2 h <| fun v3 h =>
        n_X11_reaches_30 v3 h Q)))
def w_X11_reaches (l0 : Option Nat) (l1 : Int32) (l2 : Int32) (h : Hp) (Q : Int32 → Hp → Prop) : Prop := n_X11_reaches_0 l0 l1 l2 h Q
theorem s_X11_reaches_30 {l : Launch} {G : Gh} {s0 : Int32} {h : Hp} {Q : Int32 → Hp → Prop}  (hw : n_X11_reaches_30 s0 h Q) : V l G 3 yX11_reaches cX11_reaches 3 (some .int) 30 [] [.int s0] h (qI Q) := by
  unfold n_X11_reaches_30 at hw
  exact V_iret rfl dX11_reaches_30 ⟨_, rfl, hw⟩
theorem s_X11_reaches_29 {l : Launch} {G : Gh}  {h : Hp} {Q : Int32 → Hp → Prop}  (hw : n_X11_reaches_29 h Q) : V l G 3 yX11_reaches cX11_reaches 3 (some .int) 29 [] [] h (qI Q) := by
  unfold n_X11_reaches_29 at hw
  refine V_iconst (v := (-1)) (by decide) dX11_reaches_29 ?_
  exact V.sub [] rfl (s_X11_reaches_30 hw)
theorem s_X11_reaches_0 {l : Launch} {G : Gh} {l0 : Option Nat} {l1 : Int32} {l2 : Int32} {h : Hp} {Q : Int32 → Hp → Prop}  (hw : n_X11_reaches_0 l0 l1 l2 h Q) : V l G 3 yX11_reaches cX11_reaches 3 (some .int) 0 [(0, va_rf l0), (1, .int l1), (2, .int l2)] [] h (qI Q) := by
  unfold n_X11_reaches_0 at hw
  refine V_iload_n 1 rfl rfl dX11_reaches_0 ?_
  refine V_if_lt (tgt := 29) dX11_reaches_1 (by decide) hw (fun hw => ?_) (fun hw => ?_)
  · exact V.sub [] rfl (s_X11_reaches_29 hw)
  · refine V_iload_n 1 rfl rfl dX11_reaches_4 ?_
    refine V_aload_n 0 rfl rfl dX11_reaches_5 ?_
    refine X_getI (c := 11) (k := 3) fa_X11_252 rfl dX11_reaches_6 hw (fun v1 hw => ?_)
    refine V_icmp_ge (tgt := 29) dX11_reaches_9 (by decide) hw (fun hw => ?_) (fun hw => ?_)
    · exact V.sub [] rfl (s_X11_reaches_29 hw)
    · refine V_aload_n 0 rfl rfl dX11_reaches_12 ?_
      refine V_iload_n 2 rfl rfl dX11_reaches_13 ?_
      refine X_cV 11 [.int l2] [] ma_X11_208 (by decide) rfl (by decide) (by decide) rfl (by simp [cat_i, cat_l, rf_cat]) rfl dX11_reaches_14 hw (r_X11_isPlace _ _) (k_I (fun v2 h hw => ?_))
      refine V_if_eq (tgt := 29) dX11_reaches_17 (by decide) hw (fun hw => ?_) (fun hw => ?_)
      · exact V.sub [] rfl (s_X11_reaches_29 hw)
      · refine V_aload_n 0 rfl rfl dX11_reaches_20 ?_
        refine V_iload_n 1 rfl rfl dX11_reaches_21 ?_
        refine V_iload_n 2 rfl rfl dX11_reaches_22 ?_
        refine X_cV 11 [.int l1, .int l2] [] ma_X11_255 (by decide) rfl (by decide) (by decide) rfl (by simp [cat_i, cat_l, rf_cat]) rfl dX11_reaches_23 hw (r_X11_reached _ _ _) (k_I (fun v3 h hw => ?_))
        refine V_goto (tgt := 30) dX11_reaches_26 (by decide) ?_
        exact V.sub [] rfl (s_X11_reaches_30 hw)
theorem r_X11_reaches {l : Launch} {G : Gh} (l0 : Option Nat) (l1 : Int32) (l2 : Int32) {h : Hp} {Q : Int32 → Hp → Prop} (hw : w_X11_reaches l0 l1 l2 h Q) : RunQ l G 3 yX11_reaches cX11_reaches 3 (some .int) [va_rf l0, .int l1, .int l2] h (qI Q) :=
  V_run rfl (sl_len _ _ (by simp [cat_i, cat_l, rf_cat])) (V.sub [0, 1, 2] (by simp only [la_r, la_i, la_l, la_n]; rfl) (s_X11_reaches_0 hw))
def n_X11_row_33 (l0 : Option Nat) (h : Hp) (Q : Int32 → Hp → Prop) : Prop :=
  oV h l0 12 <| w_X11_no l0 (-6) h <| fun v3 h =>
  Q v3 h
def b_X11_row_77 (l0 : Option Nat) (l1 : Int32) (l4 : Int32) (h : Hp) (Q : Int32 → Hp → Prop) (K77 : Int32 → Hp → Prop) : Prop :=
  br (60 ≤ l4) (
    Q 1 h) (
    gR h l0 12 1428 fun v7 =>
    stL h v7 ((60 * l1) + l4) 0 fun h =>
    lt (l4 + 1) fun x8 =>
    K77 x8 h)
def l_X11_row_77 (l0 : Option Nat) (l1 : Int32) (l4 : Int32) (h : Hp) (Q : Int32 → Hp → Prop) : Prop :=
  Lo (fun (K : Int32 → Hp → Prop) s h => b_X11_row_77 l0 l1 s h Q (fun l4 h => K (l4) h)) (l4) h
def n_X11_row_0 (l0 : Option Nat) (l1 : Int32) (l2 : Int32) (l3 : Int32) (h : Hp) (Q : Int32 → Hp → Prop) : Prop :=
  w_X11_isShelf l1 h <| fun v1 h =>
  br (v1 = 0) (
    oV h l0 12 <| w_X11_no l0 (-1) h <| fun v2 h =>
    Q v2 h) (
    br (0 ≤ l3) (
      br (l2 < 0) (
        n_X11_row_33 l0 h Q) (
        br (l2 ≤ 3) (
          br (l3 ≤ 60) (
            gR h l0 12 1424 fun v4 =>
            stI h v4 l1 1 fun h =>
            gR h l0 12 1425 fun v5 =>
            stI h v5 l1 l2 fun h =>
            gR h l0 12 1426 fun v6 =>
            stI h v6 l1 l3 fun h =>
            l_X11_row_77 l0 l1 0 h Q) (
            oV h l0 12 <| w_X11_no l0 (-7) h <| fun v9 h =>
            Q v9 h)) (
          n_X11_row_33 l0 h Q))) (
      oV h l0 12 <| w_X11_no l0 (-4) h <| fun v10 h =>
      Q v10 h))
def w_X11_row (l0 : Option Nat) (l1 : Int32) (l2 : Int32) (l3 : Int32) (h : Hp) (Q : Int32 → Hp → Prop) : Prop := n_X11_row_0 l0 l1 l2 l3 h Q
theorem s_X11_row_33 {l : Launch} {G : Gh} {l0 : Option Nat} {h : Hp} {Q : Int32 → Hp → Prop}  (hw : n_X11_row_33 l0 h Q) : V l G 2 yX11_row cX11_row 5 (some .int) 33 [(0, va_rf l0)] [] h (qI Q) := by
  unfold n_X11_row_33 at hw
  refine V_aload_n 0 rfl rfl dX11_row_33 ?_
  refine V_bipush (v := (-6)) (by decide) dX11_row_34 ?_
  refine X_cV 11 [.int (-6)] [] ma_X11_212 (by decide) rfl (by decide) (by decide) rfl (by simp [cat_i, cat_l, rf_cat]) rfl dX11_row_36 hw (r_X11_no _ _) (k_I (fun v3 h hw => ?_))
  exact V_iret rfl dX11_row_39 ⟨_, rfl, hw⟩
theorem sb_X11_row_77 {l : Launch} {G : Gh} {l0 : Option Nat} {l1 : Int32} {l4 : Int32} {h : Hp} {Q : Int32 → Hp → Prop} {K77 : Int32 → Hp → Prop} (hK77 : ∀ (l4 : Int32) (h : Hp), K77 l4 h → V l G 2 yX11_row cX11_row 5 (some .int) 77 [(0, va_rf l0), (1, .int l1), (4, .int l4)] [] h (qI Q)) (hw : b_X11_row_77 l0 l1 l4 h Q K77) : V l G 2 yX11_row cX11_row 5 (some .int) 77 [(0, va_rf l0), (1, .int l1), (4, .int l4)] [] h (qI Q) := by
  unfold b_X11_row_77 at hw
  refine V_iload 2 rfl dX11_row_77 ?_
  refine V_bipush (v := 60) (by decide) dX11_row_79 ?_
  refine V_icmp_ge (tgt := 103) dX11_row_81 (by decide) hw (fun hw => ?_) (fun hw => ?_)
  · refine V_iconst (v := 1) (by decide) dX11_row_103 ?_
    exact V_iret rfl dX11_row_104 ⟨_, rfl, hw⟩
  · refine V_aload_n 0 rfl rfl dX11_row_84 ?_
    refine X_getR (c := 11) (k := 20) fa_X11_57 rfl dX11_row_85 hw (fun v7 hw => ?_)
    refine V_bipush (v := 60) (by decide) dX11_row_88 ?_
    refine V_iload_n 1 rfl rfl dX11_row_90 ?_
    refine V_imul dX11_row_91 ?_
    refine V_iload 2 rfl dX11_row_92 ?_
    refine V_iadd dX11_row_94 ?_
    refine V_lconst (v := 0) (by decide) dX11_row_95 ?_
    refine X_stL dX11_row_96 hw (fun h hw => ?_)
    refine V_iincL (n := 1) 2 (fun z => [(4, .int z), (0, va_rf l0), (1, .int l1)]) rfl (by rfl) (by decide) (fun _ => rfl) dX11_row_97 hw (fun x8 hw => ?_)
    refine V_goto (tgt := 77) dX11_row_100 (by decide) ?_
    exact V.sub [1, 2, 0] rfl (hK77 _ _ hw)
theorem s_X11_row_77 {l : Launch} {G : Gh} {l0 : Option Nat} {l1 : Int32} {l4 : Int32} {h : Hp} {Q : Int32 → Hp → Prop}  (hw : l_X11_row_77 l0 l1 l4 h Q) : V l G 2 yX11_row cX11_row 5 (some .int) 77 [(0, va_rf l0), (1, .int l1), (4, .int l4)] [] h (qI Q) :=
  Lo.ind (P := fun (s : Int32) h => V l G 2 yX11_row cX11_row 5 (some .int) 77 [(0, va_rf l0), (1, .int l1), (4, .int s)] [] h (qI Q)) (fun K ih s h hw => sb_X11_row_77 (fun l4 h hk => ih (l4) h hk) hw) hw
set_option maxRecDepth 20000 in
theorem s_X11_row_0 {l : Launch} {G : Gh} {l0 : Option Nat} {l1 : Int32} {l2 : Int32} {l3 : Int32} {h : Hp} {Q : Int32 → Hp → Prop}  (hw : n_X11_row_0 l0 l1 l2 l3 h Q) : V l G 2 yX11_row cX11_row 5 (some .int) 0 [(0, va_rf l0), (1, .int l1), (2, .int l2), (3, .int l3)] [] h (qI Q) := by
  unfold n_X11_row_0 at hw
  refine V_iload_n 1 rfl rfl dX11_row_0 ?_
  refine X_cS [.int l1] [] ma_X11_237 (by decide) (by decide) rfl (by simp [cat_i, cat_l, rf_cat]) rfl dX11_row_1 (r_X11_isShelf _ hw) (k_I (fun v1 h hw => ?_))
  refine V_if_ne (tgt := 13) dX11_row_4 (by decide) hw (fun hw => ?_) (fun hw => ?_)
  · refine V_aload_n 0 rfl rfl dX11_row_7 ?_
    refine V_iconst (v := (-1)) (by decide) dX11_row_8 ?_
    refine X_cV 11 [.int (-1)] [] ma_X11_212 (by decide) rfl (by decide) (by decide) rfl (by simp [cat_i, cat_l, rf_cat]) rfl dX11_row_9 hw (r_X11_no _ _) (k_I (fun v2 h hw => ?_))
    exact V_iret rfl dX11_row_12 ⟨_, rfl, hw⟩
  · refine V_iload_n 3 rfl rfl dX11_row_13 ?_
    refine V_if_ge (tgt := 24) dX11_row_14 (by decide) hw (fun hw => ?_) (fun hw => ?_)
    · refine V_iload_n 2 rfl rfl dX11_row_24 ?_
      refine V_if_lt (tgt := 33) dX11_row_25 (by decide) hw (fun hw => ?_) (fun hw => ?_)
      · exact V.sub [0] rfl (s_X11_row_33 hw)
      · refine V_iload_n 2 rfl rfl dX11_row_28 ?_
        refine V_iconst (v := 3) (by decide) dX11_row_29 ?_
        refine V_icmp_le (tgt := 40) dX11_row_30 (by decide) hw (fun hw => ?_) (fun hw => ?_)
        · refine V_iload_n 3 rfl rfl dX11_row_40 ?_
          refine V_bipush (v := 60) (by decide) dX11_row_41 ?_
          refine V_icmp_le (tgt := 53) dX11_row_43 (by decide) hw (fun hw => ?_) (fun hw => ?_)
          · refine V_aload_n 0 rfl rfl dX11_row_53 ?_
            refine X_getR (c := 11) (k := 16) fa_X11_45 rfl dX11_row_54 hw (fun v4 hw => ?_)
            refine V_iload_n 1 rfl rfl dX11_row_57 ?_
            refine V_iconst (v := 1) (by decide) dX11_row_58 ?_
            refine X_stI dX11_row_59 hw (fun h hw => ?_)
            refine V_aload_n 0 rfl rfl dX11_row_60 ?_
            refine X_getR (c := 11) (k := 17) fa_X11_48 rfl dX11_row_61 hw (fun v5 hw => ?_)
            refine V_iload_n 1 rfl rfl dX11_row_64 ?_
            refine V_iload_n 2 rfl rfl dX11_row_65 ?_
            refine X_stI dX11_row_66 hw (fun h hw => ?_)
            refine V_aload_n 0 rfl rfl dX11_row_67 ?_
            refine X_getR (c := 11) (k := 18) fa_X11_51 rfl dX11_row_68 hw (fun v6 hw => ?_)
            refine V_iload_n 1 rfl rfl dX11_row_71 ?_
            refine V_iload_n 3 rfl rfl dX11_row_72 ?_
            refine X_stI dX11_row_73 hw (fun h hw => ?_)
            refine V_iconst (v := 0) (by decide) dX11_row_74 ?_
            refine V_istore (i := 4) [(4, .int 0), (0, va_rf l0), (1, .int l1), (2, .int l2), (3, .int l3)] (by decide) rfl dX11_row_75 ?_
            exact V.sub [1, 2, 0] rfl (s_X11_row_77 hw)
          · refine V_aload_n 0 rfl rfl dX11_row_46 ?_
            refine V_bipush (v := (-7)) (by decide) dX11_row_47 ?_
            refine X_cV 11 [.int (-7)] [] ma_X11_212 (by decide) rfl (by decide) (by decide) rfl (by simp [cat_i, cat_l, rf_cat]) rfl dX11_row_49 hw (r_X11_no _ _) (k_I (fun v9 h hw => ?_))
            exact V_iret rfl dX11_row_52 ⟨_, rfl, hw⟩
        · exact V.sub [0] rfl (s_X11_row_33 hw)
    · refine V_aload_n 0 rfl rfl dX11_row_17 ?_
      refine V_bipush (v := (-4)) (by decide) dX11_row_18 ?_
      refine X_cV 11 [.int (-4)] [] ma_X11_212 (by decide) rfl (by decide) (by decide) rfl (by simp [cat_i, cat_l, rf_cat]) rfl dX11_row_20 hw (r_X11_no _ _) (k_I (fun v10 h hw => ?_))
      exact V_iret rfl dX11_row_23 ⟨_, rfl, hw⟩
theorem r_X11_row {l : Launch} {G : Gh} (l0 : Option Nat) (l1 : Int32) (l2 : Int32) (l3 : Int32) {h : Hp} {Q : Int32 → Hp → Prop} (hw : w_X11_row l0 l1 l2 l3 h Q) : RunQ l G 2 yX11_row cX11_row 5 (some .int) [va_rf l0, .int l1, .int l2, .int l3] h (qI Q) :=
  V_run rfl (sl_len _ _ (by simp [cat_i, cat_l, rf_cat])) (V.sub [0, 1, 2, 3] (by simp only [la_r, la_i, la_l, la_n]; rfl) (s_X11_row_0 hw))
def n_X11_rule_17 (l0 : Option Nat) (h : Hp) (Q : Int32 → Hp → Prop) : Prop :=
  oV h l0 12 <| w_X11_no l0 (-1) h <| fun v1 h =>
  Q v1 h
def n_X11_rule_53 (l0 : Option Nat) (h : Hp) (Q : Int32 → Hp → Prop) : Prop :=
  oV h l0 12 <| w_X11_no l0 (-6) h <| fun v4 h =>
  Q v4 h
def n_X11_rule_0 (l0 : Option Nat) (l1 : Int32) (l2 : Int32) (l3 : Int32) (h : Hp) (Q : Int32 → Hp → Prop) : Prop :=
  br (l1 < 1) (
    n_X11_rule_17 l0 h Q) (
    br (3 < l1) (
      n_X11_rule_17 l0 h Q) (
      w_X11_isShelf l3 h <| fun v2 h =>
      br (v2 = 0) (
        n_X11_rule_17 l0 h Q) (
        oV h l0 12 <| w_X11_wants l0 l3 h <| fun v3 h =>
        br (v3 = 0) (
          br (l2 < 0) (
            n_X11_rule_53 l0 h Q) (
            br (l2 ≤ 4000) (
              gI h l0 12 1412 fun v5 =>
              oV h l0 12 <| w_X11_compiles l0 l3 v5 h <| fun v6 h =>
              pI h l0 12 1414 v6 fun h =>
              gI h l0 12 1414 fun v7 =>
              br (v7 = (-1)) (
                gI h l0 12 1412 fun v8 =>
                br (v8 = 12) (
                  oV h l0 12 <| w_X11_no l0 (-7) h <| fun v9 h =>
                  Q v9 h) (
                  gR h l0 12 1451 fun v10 =>
                  gI h l0 12 1412 fun v11 =>
                  stI h v10 v11 l1 fun h =>
                  gR h l0 12 1452 fun v12 =>
                  gI h l0 12 1412 fun v13 =>
                  stI h v12 v13 l2 fun h =>
                  gR h l0 12 1453 fun v14 =>
                  gI h l0 12 1412 fun v15 =>
                  stI h v14 v15 (-1) fun h =>
                  gI h l0 12 1412 fun v16 =>
                  pI h l0 12 1412 (v16 + 1) fun h =>
                  Q v16 h)) (
                oV h l0 12 <| w_X11_no l0 (-6) h <| fun v17 h =>
                Q v17 h)) (
              n_X11_rule_53 l0 h Q))) (
          oV h l0 12 <| w_X11_no l0 v3 h <| fun v18 h =>
          Q v18 h))))
def w_X11_rule (l0 : Option Nat) (l1 : Int32) (l2 : Int32) (l3 : Int32) (h : Hp) (Q : Int32 → Hp → Prop) : Prop := n_X11_rule_0 l0 l1 l2 l3 h Q
theorem s_X11_rule_17 {l : Launch} {G : Gh} {l0 : Option Nat} {h : Hp} {Q : Int32 → Hp → Prop}  (hw : n_X11_rule_17 l0 h Q) : V l G 7 yX11_rule cX11_rule 5 (some .int) 17 [(0, va_rf l0)] [] h (qI Q) := by
  unfold n_X11_rule_17 at hw
  refine V_aload_n 0 rfl rfl dX11_rule_17 ?_
  refine V_iconst (v := (-1)) (by decide) dX11_rule_18 ?_
  refine X_cV 11 [.int (-1)] [] ma_X11_212 (by decide) rfl (by decide) (by decide) rfl (by simp [cat_i, cat_l, rf_cat]) rfl dX11_rule_19 hw (r_X11_no _ _) (k_I (fun v1 h hw => ?_))
  exact V_iret rfl dX11_rule_22 ⟨_, rfl, hw⟩
theorem s_X11_rule_53 {l : Launch} {G : Gh} {l0 : Option Nat} {h : Hp} {Q : Int32 → Hp → Prop}  (hw : n_X11_rule_53 l0 h Q) : V l G 7 yX11_rule cX11_rule 5 (some .int) 53 [(0, va_rf l0)] [] h (qI Q) := by
  unfold n_X11_rule_53 at hw
  refine V_aload_n 0 rfl rfl dX11_rule_53 ?_
  refine V_bipush (v := (-6)) (by decide) dX11_rule_54 ?_
  refine X_cV 11 [.int (-6)] [] ma_X11_212 (by decide) rfl (by decide) (by decide) rfl (by simp [cat_i, cat_l, rf_cat]) rfl dX11_rule_56 hw (r_X11_no _ _) (k_I (fun v4 h hw => ?_))
  exact V_iret rfl dX11_rule_59 ⟨_, rfl, hw⟩
set_option maxRecDepth 20000 in
theorem s_X11_rule_0 {l : Launch} {G : Gh} {l0 : Option Nat} {l1 : Int32} {l2 : Int32} {l3 : Int32} {h : Hp} {Q : Int32 → Hp → Prop}  (hw : n_X11_rule_0 l0 l1 l2 l3 h Q) : V l G 7 yX11_rule cX11_rule 5 (some .int) 0 [(0, va_rf l0), (1, .int l1), (2, .int l2), (3, .int l3)] [] h (qI Q) := by
  unfold n_X11_rule_0 at hw
  refine V_iload_n 1 rfl rfl dX11_rule_0 ?_
  refine V_iconst (v := 1) (by decide) dX11_rule_1 ?_
  refine V_icmp_lt (tgt := 17) dX11_rule_2 (by decide) hw (fun hw => ?_) (fun hw => ?_)
  · exact V.sub [0] rfl (s_X11_rule_17 hw)
  · refine V_iload_n 1 rfl rfl dX11_rule_5 ?_
    refine V_iconst (v := 3) (by decide) dX11_rule_6 ?_
    refine V_icmp_gt (tgt := 17) dX11_rule_7 (by decide) hw (fun hw => ?_) (fun hw => ?_)
    · exact V.sub [0] rfl (s_X11_rule_17 hw)
    · refine V_iload_n 3 rfl rfl dX11_rule_10 ?_
      refine X_cS [.int l3] [] ma_X11_237 (by decide) (by decide) rfl (by simp [cat_i, cat_l, rf_cat]) rfl dX11_rule_11 (r_X11_isShelf _ hw) (k_I (fun v2 h hw => ?_))
      refine V_if_ne (tgt := 23) dX11_rule_14 (by decide) hw (fun hw => ?_) (fun hw => ?_)
      · exact V.sub [0] rfl (s_X11_rule_17 hw)
      · refine V_aload_n 0 rfl rfl dX11_rule_23 ?_
        refine V_iload_n 3 rfl rfl dX11_rule_24 ?_
        refine X_cV 11 [.int l3] [] ma_X11_249 (by decide) rfl (by decide) (by decide) rfl (by simp [cat_i, cat_l, rf_cat]) rfl dX11_rule_25 hw (r_X11_wants _ _) (k_I (fun v3 h hw => ?_))
        refine V_istore (i := 4) [(4, .int v3), (0, va_rf l0), (1, .int l1), (2, .int l2), (3, .int l3)] (by decide) rfl dX11_rule_28 ?_
        refine V_iload 0 rfl dX11_rule_30 ?_
        refine V_if_eq (tgt := 42) dX11_rule_32 (by decide) hw (fun hw => ?_) (fun hw => ?_)
        · refine V_iload_n 3 rfl rfl dX11_rule_42 ?_
          refine V_if_lt (tgt := 53) dX11_rule_43 (by decide) hw (fun hw => ?_) (fun hw => ?_)
          · exact V.sub [1] rfl (s_X11_rule_53 hw)
          · refine V_iload_n 3 rfl rfl dX11_rule_46 ?_
            refine V_sipush (v := 4000) (by decide) dX11_rule_47 ?_
            refine V_icmp_le (tgt := 60) dX11_rule_50 (by decide) hw (fun hw => ?_) (fun hw => ?_)
            · refine V_aload_n 1 rfl rfl dX11_rule_60 ?_
              refine V_aload_n 1 rfl rfl dX11_rule_61 ?_
              refine V_iload_n 4 rfl rfl dX11_rule_62 ?_
              refine V_aload_n 1 rfl rfl dX11_rule_63 ?_
              refine X_getI (c := 11) (k := 4) fa_X11_329 rfl dX11_rule_64 hw (fun v5 hw => ?_)
              refine X_cV 11 [.int l3, .int v5] [va_rf l0] ma_X11_332 (by decide) rfl (by decide) (by decide) rfl (by simp [cat_i, cat_l, rf_cat]) rfl dX11_rule_67 hw (r_X11_compiles _ _ _) (k_I (fun v6 h hw => ?_))
              refine X_putI (c := 11) (k := 6) fa_X11_13 (Or.inl rfl) rfl dX11_rule_70 hw (fun h hw => ?_)
              refine V_aload_n 1 rfl rfl dX11_rule_73 ?_
              refine X_getI (c := 11) (k := 6) fa_X11_13 rfl dX11_rule_74 hw (fun v7 hw => ?_)
              refine V_iconst (v := (-1)) (by decide) dX11_rule_77 ?_
              refine V_icmp_eq (tgt := 88) dX11_rule_78 (by decide) hw (fun hw => ?_) (fun hw => ?_)
              · refine V_aload_n 1 rfl rfl dX11_rule_88 ?_
                refine X_getI (c := 11) (k := 4) fa_X11_329 rfl dX11_rule_89 hw (fun v8 hw => ?_)
                refine V_bipush (v := 12) (by decide) dX11_rule_92 ?_
                refine V_icmp_ne (tgt := 104) dX11_rule_94 (by decide) hw (fun hw => ?_) (fun hw => ?_)
                · refine V_aload_n 1 rfl rfl dX11_rule_97 ?_
                  refine V_bipush (v := (-7)) (by decide) dX11_rule_98 ?_
                  refine X_cV 11 [.int (-7)] [] ma_X11_212 (by decide) rfl (by decide) (by decide) rfl (by simp [cat_i, cat_l, rf_cat]) rfl dX11_rule_100 hw (r_X11_no _ _) (k_I (fun v9 h hw => ?_))
                  exact V_iret rfl dX11_rule_103 ⟨_, rfl, hw⟩
                · refine V_aload_n 1 rfl rfl dX11_rule_104 ?_
                  refine X_getR (c := 11) (k := 43) fa_X11_127 rfl dX11_rule_105 hw (fun v10 hw => ?_)
                  refine V_aload_n 1 rfl rfl dX11_rule_108 ?_
                  refine X_getI (c := 11) (k := 4) fa_X11_329 rfl dX11_rule_109 hw (fun v11 hw => ?_)
                  refine V_iload_n 2 rfl rfl dX11_rule_112 ?_
                  refine X_stI dX11_rule_113 hw (fun h hw => ?_)
                  refine V_aload_n 1 rfl rfl dX11_rule_114 ?_
                  refine X_getR (c := 11) (k := 44) fa_X11_130 rfl dX11_rule_115 hw (fun v12 hw => ?_)
                  refine V_aload_n 1 rfl rfl dX11_rule_118 ?_
                  refine X_getI (c := 11) (k := 4) fa_X11_329 rfl dX11_rule_119 hw (fun v13 hw => ?_)
                  refine V_iload_n 3 rfl rfl dX11_rule_122 ?_
                  refine X_stI dX11_rule_123 hw (fun h hw => ?_)
                  refine V_aload_n 1 rfl rfl dX11_rule_124 ?_
                  refine X_getR (c := 11) (k := 45) fa_X11_133 rfl dX11_rule_125 hw (fun v14 hw => ?_)
                  refine V_aload_n 1 rfl rfl dX11_rule_128 ?_
                  refine X_getI (c := 11) (k := 4) fa_X11_329 rfl dX11_rule_129 hw (fun v15 hw => ?_)
                  refine V_iconst (v := (-1)) (by decide) dX11_rule_132 ?_
                  refine X_stI dX11_rule_133 hw (fun h hw => ?_)
                  refine V_aload_n 1 rfl rfl dX11_rule_134 ?_
                  refine V_dup (rf_cat _) dX11_rule_135 ?_
                  refine X_getI (c := 11) (k := 4) fa_X11_329 rfl dX11_rule_136 hw (fun v16 hw => ?_)
                  refine V_dup_x1 rfl (rf_cat _) dX11_rule_139 ?_
                  refine V_iconst (v := 1) (by decide) dX11_rule_140 ?_
                  refine V_iadd dX11_rule_141 ?_
                  refine X_putI (c := 11) (k := 4) fa_X11_329 (Or.inl rfl) rfl dX11_rule_142 hw (fun h hw => ?_)
                  exact V_iret rfl dX11_rule_145 ⟨_, rfl, hw⟩
              · refine V_aload_n 1 rfl rfl dX11_rule_81 ?_
                refine V_bipush (v := (-6)) (by decide) dX11_rule_82 ?_
                refine X_cV 11 [.int (-6)] [] ma_X11_212 (by decide) rfl (by decide) (by decide) rfl (by simp [cat_i, cat_l, rf_cat]) rfl dX11_rule_84 hw (r_X11_no _ _) (k_I (fun v17 h hw => ?_))
                exact V_iret rfl dX11_rule_87 ⟨_, rfl, hw⟩
            · exact V.sub [1] rfl (s_X11_rule_53 hw)
        · refine V_aload_n 1 rfl rfl dX11_rule_35 ?_
          refine V_iload 0 rfl dX11_rule_36 ?_
          refine X_cV 11 [.int v3] [] ma_X11_212 (by decide) rfl (by decide) (by decide) rfl (by simp [cat_i, cat_l, rf_cat]) rfl dX11_rule_38 hw (r_X11_no _ _) (k_I (fun v18 h hw => ?_))
          exact V_iret rfl dX11_rule_41 ⟨_, rfl, hw⟩
theorem r_X11_rule {l : Launch} {G : Gh} (l0 : Option Nat) (l1 : Int32) (l2 : Int32) (l3 : Int32) {h : Hp} {Q : Int32 → Hp → Prop} (hw : w_X11_rule l0 l1 l2 l3 h Q) : RunQ l G 7 yX11_rule cX11_rule 5 (some .int) [va_rf l0, .int l1, .int l2, .int l3] h (qI Q) :=
  V_run rfl (sl_len _ _ (by simp [cat_i, cat_l, rf_cat])) (V.sub [0, 1, 2, 3] (by simp only [la_r, la_i, la_l, la_n]; rfl) (s_X11_rule_0 hw))
def n_X11_said_17 (h : Hp) (Q : Int32 → Hp → Prop) : Prop :=
  Q (-1) h
def n_X11_said_109 (l0 : Option Nat) (l1 : Int32) (l2 : Int32) (l3 : Int32) (h : Hp) (Q : Int32 → Hp → Prop) (K23 : Int32 → Int32 → Hp → Prop) : Prop :=
  lt (l3 + 1) fun x12 =>
  K23 l2 x12 h
def n_X11_said_90 (l0 : Option Nat) (l1 : Int32) (l2 : Int32) (l3 : Int32) (l4 : Int32) (h : Hp) (Q : Int32 → Hp → Prop) (K23 : Int32 → Int32 → Hp → Prop) (K52 : Int32 → Hp → Prop) : Prop :=
  lt (l4 + 1) fun x17 =>
  K52 x17 h
def b_X11_said_52 (l0 : Option Nat) (l1 : Int32) (l2 : Int32) (l3 : Int32) (l4 : Int32) (h : Hp) (Q : Int32 → Hp → Prop) (K23 : Int32 → Int32 → Hp → Prop) (K52 : Int32 → Hp → Prop) : Prop :=
  gI h l0 12 1410 fun v7 =>
  br (v7 ≤ l4) (
    gR h l0 12 1433 fun v8 =>
    ldI h v8 l3 fun v9 =>
    oV h l0 12 <| w_X11_saidAt l0 v9 h <| fun v10 h =>
    lt (l2 + v10) fun x11 =>
    n_X11_said_109 l0 l1 x11 l3 h Q K23) (
    gR h l0 12 1437 fun v13 =>
    ldI h v13 l4 fun v14 =>
    br (v14 = l3) (
      gR h l0 12 1477 fun v15 =>
      gI h l0 12 1479 fun v16 =>
      pI h l0 12 1479 (v16 + 1) fun h =>
      stI h v15 v16 l4 fun h =>
      n_X11_said_90 l0 l1 l2 l3 l4 h Q K23 K52) (
      n_X11_said_90 l0 l1 l2 l3 l4 h Q K23 K52))
def l_X11_said_52 (l0 : Option Nat) (l1 : Int32) (l2 : Int32) (l3 : Int32) (l4 : Int32) (h : Hp) (Q : Int32 → Hp → Prop) (K23 : Int32 → Int32 → Hp → Prop) : Prop :=
  Lo (fun (K : Int32 → Hp → Prop) s h => b_X11_said_52 l0 l1 l2 l3 s h Q K23 (fun l4 h => K (l4) h)) (l4) h
def b_X11_said_23 (l0 : Option Nat) (l1 : Int32) (l2 : Int32) (l3 : Int32) (h : Hp) (Q : Int32 → Hp → Prop) (K23 : Int32 → Int32 → Hp → Prop) : Prop :=
  gI h l0 12 1410 fun v4 =>
  br (v4 ≤ l3) (
    Q l2 h) (
    gR h l0 12 1430 fun v5 =>
    ldI h v5 l3 fun v6 =>
    br (v6 = l1) (
      pI h l0 12 1479 0 fun h =>
      l_X11_said_52 l0 l1 l2 l3 0 h Q K23) (
      n_X11_said_109 l0 l1 l2 l3 h Q K23))
def l_X11_said_23 (l0 : Option Nat) (l1 : Int32) (l2 : Int32) (l3 : Int32) (h : Hp) (Q : Int32 → Hp → Prop) : Prop :=
  Lo (fun (K : Int32 × Int32 → Hp → Prop) s h => b_X11_said_23 l0 l1 s.1 s.2 h Q (fun l2 l3 h => K (l2, l3) h)) (l2, l3) h
def n_X11_said_0 (l0 : Option Nat) (l1 : Int32) (h : Hp) (Q : Int32 → Hp → Prop) : Prop :=
  oV h l0 12 <| w_X11_isPlace l0 l1 h <| fun v1 h =>
  br (v1 = 0) (
    n_X11_said_17 h Q) (
    gR h l0 12 1423 fun v2 =>
    ldZ h v2 l1 fun v3 =>
    br (v3 = 0) (
      n_X11_said_17 h Q) (
      l_X11_said_23 l0 l1 0 0 h Q))
def w_X11_said (l0 : Option Nat) (l1 : Int32) (h : Hp) (Q : Int32 → Hp → Prop) : Prop := n_X11_said_0 l0 l1 h Q
theorem s_X11_said_17 {l : Launch} {G : Gh}  {h : Hp} {Q : Int32 → Hp → Prop}  (hw : n_X11_said_17 h Q) : V l G 3 yX11_said cX11_said 5 (some .int) 17 [] [] h (qI Q) := by
  unfold n_X11_said_17 at hw
  refine V_iconst (v := (-1)) (by decide) dX11_said_17 ?_
  exact V_iret rfl dX11_said_18 ⟨_, rfl, hw⟩
theorem s_X11_said_109 {l : Launch} {G : Gh} {l0 : Option Nat} {l1 : Int32} {l2 : Int32} {l3 : Int32} {h : Hp} {Q : Int32 → Hp → Prop} {K23 : Int32 → Int32 → Hp → Prop} (hK23 : ∀ (l2 : Int32) (l3 : Int32) (h : Hp), K23 l2 l3 h → V l G 3 yX11_said cX11_said 5 (some .int) 23 [(0, va_rf l0), (1, .int l1), (2, .int l2), (3, .int l3)] [] h (qI Q)) (hw : n_X11_said_109 l0 l1 l2 l3 h Q K23) : V l G 3 yX11_said cX11_said 5 (some .int) 109 [(0, va_rf l0), (1, .int l1), (2, .int l2), (3, .int l3)] [] h (qI Q) := by
  unfold n_X11_said_109 at hw
  refine V_iincL (n := 1) 3 (fun z => [(3, .int z), (0, va_rf l0), (1, .int l1), (2, .int l2)]) rfl (by rfl) (by decide) (fun _ => rfl) dX11_said_109 hw (fun x12 hw => ?_)
  refine V_goto (tgt := 23) dX11_said_112 (by decide) ?_
  exact V.sub [1, 2, 3, 0] rfl (hK23 _ _ _ hw)
theorem s_X11_said_90 {l : Launch} {G : Gh} {l0 : Option Nat} {l1 : Int32} {l2 : Int32} {l3 : Int32} {l4 : Int32} {h : Hp} {Q : Int32 → Hp → Prop} {K23 : Int32 → Int32 → Hp → Prop} {K52 : Int32 → Hp → Prop} (hK23 : ∀ (l2 : Int32) (l3 : Int32) (h : Hp), K23 l2 l3 h → V l G 3 yX11_said cX11_said 5 (some .int) 23 [(0, va_rf l0), (1, .int l1), (2, .int l2), (3, .int l3)] [] h (qI Q)) (hK52 : ∀ (l4 : Int32) (h : Hp), K52 l4 h → V l G 3 yX11_said cX11_said 5 (some .int) 52 [(0, va_rf l0), (1, .int l1), (2, .int l2), (3, .int l3), (4, .int l4)] [] h (qI Q)) (hw : n_X11_said_90 l0 l1 l2 l3 l4 h Q K23 K52) : V l G 3 yX11_said cX11_said 5 (some .int) 90 [(0, va_rf l0), (1, .int l1), (2, .int l2), (3, .int l3), (4, .int l4)] [] h (qI Q) := by
  unfold n_X11_said_90 at hw
  refine V_iincL (n := 1) 4 (fun z => [(4, .int z), (0, va_rf l0), (1, .int l1), (2, .int l2), (3, .int l3)]) rfl (by rfl) (by decide) (fun _ => rfl) dX11_said_90 hw (fun x17 hw => ?_)
  refine V_goto (tgt := 52) dX11_said_93 (by decide) ?_
  exact V.sub [1, 2, 3, 4, 0] rfl (hK52 _ _ hw)
theorem sb_X11_said_52 {l : Launch} {G : Gh} {l0 : Option Nat} {l1 : Int32} {l2 : Int32} {l3 : Int32} {l4 : Int32} {h : Hp} {Q : Int32 → Hp → Prop} {K23 : Int32 → Int32 → Hp → Prop} {K52 : Int32 → Hp → Prop} (hK23 : ∀ (l2 : Int32) (l3 : Int32) (h : Hp), K23 l2 l3 h → V l G 3 yX11_said cX11_said 5 (some .int) 23 [(0, va_rf l0), (1, .int l1), (2, .int l2), (3, .int l3)] [] h (qI Q)) (hK52 : ∀ (l4 : Int32) (h : Hp), K52 l4 h → V l G 3 yX11_said cX11_said 5 (some .int) 52 [(0, va_rf l0), (1, .int l1), (2, .int l2), (3, .int l3), (4, .int l4)] [] h (qI Q)) (hw : b_X11_said_52 l0 l1 l2 l3 l4 h Q K23 K52) : V l G 3 yX11_said cX11_said 5 (some .int) 52 [(0, va_rf l0), (1, .int l1), (2, .int l2), (3, .int l3), (4, .int l4)] [] h (qI Q) := by
  unfold b_X11_said_52 at hw
  refine V_iload 4 rfl dX11_said_52 ?_
  refine V_aload_n 0 rfl rfl dX11_said_54 ?_
  refine X_getI (c := 11) (k := 2) fa_X11_205 rfl dX11_said_55 hw (fun v7 hw => ?_)
  refine V_icmp_ge (tgt := 96) dX11_said_58 (by decide) hw (fun hw => ?_) (fun hw => ?_)
  · refine V_iload_n 2 rfl rfl dX11_said_96 ?_
    refine V_aload_n 0 rfl rfl dX11_said_97 ?_
    refine V_aload_n 0 rfl rfl dX11_said_98 ?_
    refine X_getR (c := 11) (k := 25) fa_X11_73 rfl dX11_said_99 hw (fun v8 hw => ?_)
    refine V_iload_n 3 rfl rfl dX11_said_102 ?_
    refine X_ldI dX11_said_103 hw (fun v9 hw => ?_)
    refine X_cV 11 [.int v9] [.int l2] ma_X11_379 (by decide) rfl (by decide) (by decide) rfl (by simp [cat_i, cat_l, rf_cat]) rfl dX11_said_104 hw (r_X11_saidAt _ _) (k_I (fun v10 h hw => ?_))
    refine V_iadd dX11_said_107 ?_
    refine V_ltI hw (fun x11 hw => ?_)
    refine V_istore_n (i := 2) [(2, .int x11), (0, va_rf l0), (1, .int l1), (3, .int l3), (4, .int l4)] rfl (by decide) rfl dX11_said_108 ?_
    exact V.sub [1, 2, 0, 3] rfl (s_X11_said_109 hK23 hw)
  · refine V_aload_n 0 rfl rfl dX11_said_61 ?_
    refine X_getR (c := 11) (k := 29) fa_X11_85 rfl dX11_said_62 hw (fun v13 hw => ?_)
    refine V_iload 4 rfl dX11_said_65 ?_
    refine X_ldI dX11_said_67 hw (fun v14 hw => ?_)
    refine V_iload_n 3 rfl rfl dX11_said_68 ?_
    refine V_icmp_ne (tgt := 90) dX11_said_69 (by decide) hw (fun hw => ?_) (fun hw => ?_)
    · refine V_aload_n 0 rfl rfl dX11_said_72 ?_
      refine X_getR (c := 11) (k := 69) fa_X11_178 rfl dX11_said_73 hw (fun v15 hw => ?_)
      refine V_aload_n 0 rfl rfl dX11_said_76 ?_
      refine V_dup (rf_cat _) dX11_said_77 ?_
      refine X_getI (c := 11) (k := 71) fa_X11_335 rfl dX11_said_78 hw (fun v16 hw => ?_)
      refine V_dup_x1 rfl (rf_cat _) dX11_said_81 ?_
      refine V_iconst (v := 1) (by decide) dX11_said_82 ?_
      refine V_iadd dX11_said_83 ?_
      refine X_putI (c := 11) (k := 71) fa_X11_335 (Or.inl rfl) rfl dX11_said_84 hw (fun h hw => ?_)
      refine V_iload 4 rfl dX11_said_87 ?_
      refine X_stI dX11_said_89 hw (fun h hw => ?_)
      exact V.sub [0, 1, 2, 3, 4] rfl (s_X11_said_90 hK23 hK52 hw)
    · exact V.sub [0, 1, 2, 3, 4] rfl (s_X11_said_90 hK23 hK52 hw)
theorem s_X11_said_52 {l : Launch} {G : Gh} {l0 : Option Nat} {l1 : Int32} {l2 : Int32} {l3 : Int32} {l4 : Int32} {h : Hp} {Q : Int32 → Hp → Prop} {K23 : Int32 → Int32 → Hp → Prop} (hK23 : ∀ (l2 : Int32) (l3 : Int32) (h : Hp), K23 l2 l3 h → V l G 3 yX11_said cX11_said 5 (some .int) 23 [(0, va_rf l0), (1, .int l1), (2, .int l2), (3, .int l3)] [] h (qI Q)) (hw : l_X11_said_52 l0 l1 l2 l3 l4 h Q K23) : V l G 3 yX11_said cX11_said 5 (some .int) 52 [(0, va_rf l0), (1, .int l1), (2, .int l2), (3, .int l3), (4, .int l4)] [] h (qI Q) :=
  Lo.ind (P := fun (s : Int32) h => V l G 3 yX11_said cX11_said 5 (some .int) 52 [(0, va_rf l0), (1, .int l1), (2, .int l2), (3, .int l3), (4, .int s)] [] h (qI Q)) (fun K ih s h hw => sb_X11_said_52 hK23 (fun l4 h hk => ih (l4) h hk) hw) hw
theorem sb_X11_said_23 {l : Launch} {G : Gh} {l0 : Option Nat} {l1 : Int32} {l2 : Int32} {l3 : Int32} {h : Hp} {Q : Int32 → Hp → Prop} {K23 : Int32 → Int32 → Hp → Prop} (hK23 : ∀ (l2 : Int32) (l3 : Int32) (h : Hp), K23 l2 l3 h → V l G 3 yX11_said cX11_said 5 (some .int) 23 [(0, va_rf l0), (1, .int l1), (2, .int l2), (3, .int l3)] [] h (qI Q)) (hw : b_X11_said_23 l0 l1 l2 l3 h Q K23) : V l G 3 yX11_said cX11_said 5 (some .int) 23 [(0, va_rf l0), (1, .int l1), (2, .int l2), (3, .int l3)] [] h (qI Q) := by
  unfold b_X11_said_23 at hw
  refine V_iload_n 3 rfl rfl dX11_said_23 ?_
  refine V_aload_n 0 rfl rfl dX11_said_24 ?_
  refine X_getI (c := 11) (k := 2) fa_X11_205 rfl dX11_said_25 hw (fun v4 hw => ?_)
  refine V_icmp_ge (tgt := 115) dX11_said_28 (by decide) hw (fun hw => ?_) (fun hw => ?_)
  · refine V_iload_n 2 rfl rfl dX11_said_115 ?_
    exact V_iret rfl dX11_said_116 ⟨_, rfl, hw⟩
  · refine V_aload_n 0 rfl rfl dX11_said_31 ?_
    refine X_getR (c := 11) (k := 22) fa_X11_64 rfl dX11_said_32 hw (fun v5 hw => ?_)
    refine V_iload_n 3 rfl rfl dX11_said_35 ?_
    refine X_ldI dX11_said_36 hw (fun v6 hw => ?_)
    refine V_iload_n 1 rfl rfl dX11_said_37 ?_
    refine V_icmp_eq (tgt := 44) dX11_said_38 (by decide) hw (fun hw => ?_) (fun hw => ?_)
    · refine V_aload_n 0 rfl rfl dX11_said_44 ?_
      refine V_iconst (v := 0) (by decide) dX11_said_45 ?_
      refine X_putI (c := 11) (k := 71) fa_X11_335 (Or.inl rfl) rfl dX11_said_46 hw (fun h hw => ?_)
      refine V_iconst (v := 0) (by decide) dX11_said_49 ?_
      refine V_istore (i := 4) [(4, .int 0), (0, va_rf l0), (1, .int l1), (2, .int l2), (3, .int l3)] (by decide) rfl dX11_said_50 ?_
      exact V.sub [1, 2, 3, 4, 0] rfl (s_X11_said_52 hK23 hw)
    · refine V_goto (tgt := 109) dX11_said_41 (by decide) ?_
      exact V.sub [0, 1, 2, 3] rfl (s_X11_said_109 hK23 hw)
theorem s_X11_said_23 {l : Launch} {G : Gh} {l0 : Option Nat} {l1 : Int32} {l2 : Int32} {l3 : Int32} {h : Hp} {Q : Int32 → Hp → Prop}  (hw : l_X11_said_23 l0 l1 l2 l3 h Q) : V l G 3 yX11_said cX11_said 5 (some .int) 23 [(0, va_rf l0), (1, .int l1), (2, .int l2), (3, .int l3)] [] h (qI Q) :=
  Lo.ind (P := fun (s : Int32 × Int32) h => V l G 3 yX11_said cX11_said 5 (some .int) 23 [(0, va_rf l0), (1, .int l1), (2, .int s.1), (3, .int s.2)] [] h (qI Q)) (fun K ih s h hw => sb_X11_said_23 (fun l2 l3 h hk => ih (l2, l3) h hk) hw) hw
theorem s_X11_said_0 {l : Launch} {G : Gh} {l0 : Option Nat} {l1 : Int32} {h : Hp} {Q : Int32 → Hp → Prop}  (hw : n_X11_said_0 l0 l1 h Q) : V l G 3 yX11_said cX11_said 5 (some .int) 0 [(0, va_rf l0), (1, .int l1)] [] h (qI Q) := by
  unfold n_X11_said_0 at hw
  refine V_aload_n 0 rfl rfl dX11_said_0 ?_
  refine V_iload_n 1 rfl rfl dX11_said_1 ?_
  refine X_cV 11 [.int l1] [] ma_X11_208 (by decide) rfl (by decide) (by decide) rfl (by simp [cat_i, cat_l, rf_cat]) rfl dX11_said_2 hw (r_X11_isPlace _ _) (k_I (fun v1 h hw => ?_))
  refine V_if_eq (tgt := 17) dX11_said_5 (by decide) hw (fun hw => ?_) (fun hw => ?_)
  · exact V.sub [] rfl (s_X11_said_17 hw)
  · refine V_aload_n 0 rfl rfl dX11_said_8 ?_
    refine X_getR (c := 11) (k := 15) fa_X11_41 rfl dX11_said_9 hw (fun v2 hw => ?_)
    refine V_iload_n 1 rfl rfl dX11_said_12 ?_
    refine X_ldZ dX11_said_13 hw (fun v3 hw => ?_)
    refine V_if_ne (tgt := 19) dX11_said_14 (by decide) hw (fun hw => ?_) (fun hw => ?_)
    · exact V.sub [] rfl (s_X11_said_17 hw)
    · refine V_iconst (v := 0) (by decide) dX11_said_19 ?_
      refine V_istore_n (i := 2) [(2, .int 0), (0, va_rf l0), (1, .int l1)] rfl (by decide) rfl dX11_said_20 ?_
      refine V_iconst (v := 0) (by decide) dX11_said_21 ?_
      refine V_istore_n (i := 3) [(3, .int 0), (2, .int 0), (0, va_rf l0), (1, .int l1)] rfl (by decide) rfl dX11_said_22 ?_
      exact V.sub [2, 3, 1, 0] rfl (s_X11_said_23 hw)
theorem r_X11_said {l : Launch} {G : Gh} (l0 : Option Nat) (l1 : Int32) {h : Hp} {Q : Int32 → Hp → Prop} (hw : w_X11_said l0 l1 h Q) : RunQ l G 3 yX11_said cX11_said 5 (some .int) [va_rf l0, .int l1] h (qI Q) :=
  V_run rfl (sl_len _ _ (by simp [cat_i, cat_l, rf_cat])) (V.sub [0, 1] (by simp only [la_r, la_i, la_l, la_n]; rfl) (s_X11_said_0 hw))
def n_X11_says_16 (l0 : Option Nat) (h : Hp) (Q : Int32 → Hp → Prop) : Prop :=
  oV h l0 12 <| w_X11_no l0 (-1) h <| fun v2 h =>
  Q v2 h
def n_X11_says_151 (s0 : Int32) (h : Hp) (Q : Int32 → Hp → Prop) : Prop :=
  Q s0 h
def n_X11_says_98 (l0 : Option Nat) (l2 : Int32) (l3 : Int32) (h : Hp) (Q : Int32 → Hp → Prop) : Prop :=
  br (l2 = 0) (
    gR h l0 12 1433 fun v11 =>
    ldI h v11 l3 fun v12 =>
    n_X11_says_151 v12 h Q) (
    br (l2 = 1) (
      gR h l0 12 1436 fun v13 =>
      ldI h v13 l3 fun v14 =>
      oV h l0 12 <| w_X11_likenessOf l0 l3 v14 h <| fun v15 h =>
      n_X11_says_151 v15 h Q) (
      br (l2 = 2) (
        oV h l0 12 <| w_X11_partsOf l0 l3 h <| fun v16 h =>
        n_X11_says_151 v16 h Q) (
        oV h l0 12 <| w_X11_partsOf l0 l3 h <| fun v17 h =>
        n_X11_says_151 (100 + v17) h Q)))
def n_X11_says_91 (l0 : Option Nat) (h : Hp) (Q : Int32 → Hp → Prop) : Prop :=
  oV h l0 12 <| w_X11_no l0 (-2) h <| fun v22 h =>
  Q v22 h
def n_X11_says_0 (l0 : Option Nat) (l1 : Int32) (l2 : Int32) (h : Hp) (Q : Int32 → Hp → Prop) : Prop :=
  w_X11_isShelf l1 h <| fun v1 h =>
  br (v1 = 0) (
    n_X11_says_16 l0 h Q) (
    br (l2 < 0) (
      n_X11_says_16 l0 h Q) (
      br (l2 ≤ 3) (
        gR h l0 12 1424 fun v3 =>
        ldI h v3 l1 fun v4 =>
        br (v4 = 1) (
          oV h l0 12 <| w_X11_no l0 (-2) h <| fun v5 h =>
          Q v5 h) (
          gR h l0 12 1424 fun v6 =>
          ldI h v6 l1 fun v7 =>
          br (v7 = 0) (
            oV h l0 12 <| w_X11_no l0 (-3) h <| fun v8 h =>
            Q v8 h) (
            gR h l0 12 1427 fun v9 =>
            ldI h v9 l1 fun v10 =>
            br (l2 = 0) (
              n_X11_says_98 l0 l2 v10 h Q) (
              gR h l0 12 1435 fun v18 =>
              ldI h v18 v10 fun v19 =>
              br (v19 = l2) (
                n_X11_says_98 l0 l2 v10 h Q) (
                br (l2 = 2) (
                  gR h l0 12 1435 fun v20 =>
                  ldI h v20 v10 fun v21 =>
                  br (v21 = 3) (
                    n_X11_says_98 l0 l2 v10 h Q) (
                    n_X11_says_91 l0 h Q)) (
                  n_X11_says_91 l0 h Q)))))) (
        n_X11_says_16 l0 h Q)))
def w_X11_says (l0 : Option Nat) (l1 : Int32) (l2 : Int32) (h : Hp) (Q : Int32 → Hp → Prop) : Prop := n_X11_says_0 l0 l1 l2 h Q
theorem s_X11_says_16 {l : Launch} {G : Gh} {l0 : Option Nat} {h : Hp} {Q : Int32 → Hp → Prop}  (hw : n_X11_says_16 l0 h Q) : V l G 2 yX11_says cX11_says 4 (some .int) 16 [(0, va_rf l0)] [] h (qI Q) := by
  unfold n_X11_says_16 at hw
  refine V_aload_n 0 rfl rfl dX11_says_16 ?_
  refine V_iconst (v := (-1)) (by decide) dX11_says_17 ?_
  refine X_cV 11 [.int (-1)] [] ma_X11_212 (by decide) rfl (by decide) (by decide) rfl (by simp [cat_i, cat_l, rf_cat]) rfl dX11_says_18 hw (r_X11_no _ _) (k_I (fun v2 h hw => ?_))
  exact V_iret rfl dX11_says_21 ⟨_, rfl, hw⟩
theorem s_X11_says_151 {l : Launch} {G : Gh} {s0 : Int32} {h : Hp} {Q : Int32 → Hp → Prop}  (hw : n_X11_says_151 s0 h Q) : V l G 2 yX11_says cX11_says 4 (some .int) 151 [] [.int s0] h (qI Q) := by
  unfold n_X11_says_151 at hw
  exact V_iret rfl dX11_says_151 ⟨_, rfl, hw⟩
theorem s_X11_says_98 {l : Launch} {G : Gh} {l0 : Option Nat} {l2 : Int32} {l3 : Int32} {h : Hp} {Q : Int32 → Hp → Prop}  (hw : n_X11_says_98 l0 l2 l3 h Q) : V l G 2 yX11_says cX11_says 4 (some .int) 98 [(0, va_rf l0), (2, .int l2), (3, .int l3)] [] h (qI Q) := by
  unfold n_X11_says_98 at hw
  refine V_iload_n 1 rfl rfl dX11_says_98 ?_
  refine V_if_ne (tgt := 111) dX11_says_99 (by decide) hw (fun hw => ?_) (fun hw => ?_)
  · refine V_aload_n 0 rfl rfl dX11_says_102 ?_
    refine X_getR (c := 11) (k := 25) fa_X11_73 rfl dX11_says_103 hw (fun v11 hw => ?_)
    refine V_iload_n 2 rfl rfl dX11_says_106 ?_
    refine X_ldI dX11_says_107 hw (fun v12 hw => ?_)
    refine V_goto (tgt := 151) dX11_says_108 (by decide) ?_
    exact V.sub [] rfl (s_X11_says_151 hw)
  · refine V_iload_n 1 rfl rfl dX11_says_111 ?_
    refine V_iconst (v := 1) (by decide) dX11_says_112 ?_
    refine V_icmp_ne (tgt := 130) dX11_says_113 (by decide) hw (fun hw => ?_) (fun hw => ?_)
    · refine V_aload_n 0 rfl rfl dX11_says_116 ?_
      refine V_iload_n 2 rfl rfl dX11_says_117 ?_
      refine V_aload_n 0 rfl rfl dX11_says_118 ?_
      refine X_getR (c := 11) (k := 28) fa_X11_82 rfl dX11_says_119 hw (fun v13 hw => ?_)
      refine V_iload_n 2 rfl rfl dX11_says_122 ?_
      refine X_ldI dX11_says_123 hw (fun v14 hw => ?_)
      refine X_cV 11 [.int l3, .int v14] [] ma_X11_243 (by decide) rfl (by decide) (by decide) rfl (by simp [cat_i, cat_l, rf_cat]) rfl dX11_says_124 hw (r_X11_likenessOf _ _ _) (k_I (fun v15 h hw => ?_))
      refine V_goto (tgt := 151) dX11_says_127 (by decide) ?_
      exact V.sub [] rfl (s_X11_says_151 hw)
    · refine V_iload_n 1 rfl rfl dX11_says_130 ?_
      refine V_iconst (v := 2) (by decide) dX11_says_131 ?_
      refine V_icmp_ne (tgt := 143) dX11_says_132 (by decide) hw (fun hw => ?_) (fun hw => ?_)
      · refine V_aload_n 0 rfl rfl dX11_says_135 ?_
        refine V_iload_n 2 rfl rfl dX11_says_136 ?_
        refine X_cV 11 [.int l3] [] ma_X11_246 (by decide) rfl (by decide) (by decide) rfl (by simp [cat_i, cat_l, rf_cat]) rfl dX11_says_137 hw (r_X11_partsOf _ _) (k_I (fun v16 h hw => ?_))
        refine V_goto (tgt := 151) dX11_says_140 (by decide) ?_
        exact V.sub [] rfl (s_X11_says_151 hw)
      · refine V_bipush (v := 100) (by decide) dX11_says_143 ?_
        refine V_aload_n 0 rfl rfl dX11_says_145 ?_
        refine V_iload_n 2 rfl rfl dX11_says_146 ?_
        refine X_cV 11 [.int l3] [.int 100] ma_X11_246 (by decide) rfl (by decide) (by decide) rfl (by simp [cat_i, cat_l, rf_cat]) rfl dX11_says_147 hw (r_X11_partsOf _ _) (k_I (fun v17 h hw => ?_))
        refine V_iadd dX11_says_150 ?_
        exact V.sub [] rfl (s_X11_says_151 hw)
theorem s_X11_says_91 {l : Launch} {G : Gh} {l0 : Option Nat} {h : Hp} {Q : Int32 → Hp → Prop}  (hw : n_X11_says_91 l0 h Q) : V l G 2 yX11_says cX11_says 4 (some .int) 91 [(0, va_rf l0)] [] h (qI Q) := by
  unfold n_X11_says_91 at hw
  refine V_aload_n 0 rfl rfl dX11_says_91 ?_
  refine V_bipush (v := (-2)) (by decide) dX11_says_92 ?_
  refine X_cV 11 [.int (-2)] [] ma_X11_212 (by decide) rfl (by decide) (by decide) rfl (by simp [cat_i, cat_l, rf_cat]) rfl dX11_says_94 hw (r_X11_no _ _) (k_I (fun v22 h hw => ?_))
  exact V_iret rfl dX11_says_97 ⟨_, rfl, hw⟩
set_option maxRecDepth 20000 in
theorem s_X11_says_0 {l : Launch} {G : Gh} {l0 : Option Nat} {l1 : Int32} {l2 : Int32} {h : Hp} {Q : Int32 → Hp → Prop}  (hw : n_X11_says_0 l0 l1 l2 h Q) : V l G 2 yX11_says cX11_says 4 (some .int) 0 [(0, va_rf l0), (1, .int l1), (2, .int l2)] [] h (qI Q) := by
  unfold n_X11_says_0 at hw
  refine V_iload_n 1 rfl rfl dX11_says_0 ?_
  refine X_cS [.int l1] [] ma_X11_237 (by decide) (by decide) rfl (by simp [cat_i, cat_l, rf_cat]) rfl dX11_says_1 (r_X11_isShelf _ hw) (k_I (fun v1 h hw => ?_))
  refine V_if_eq (tgt := 16) dX11_says_4 (by decide) hw (fun hw => ?_) (fun hw => ?_)
  · exact V.sub [0] rfl (s_X11_says_16 hw)
  · refine V_iload_n 2 rfl rfl dX11_says_7 ?_
    refine V_if_lt (tgt := 16) dX11_says_8 (by decide) hw (fun hw => ?_) (fun hw => ?_)
    · exact V.sub [0] rfl (s_X11_says_16 hw)
    · refine V_iload_n 2 rfl rfl dX11_says_11 ?_
      refine V_iconst (v := 3) (by decide) dX11_says_12 ?_
      refine V_icmp_le (tgt := 22) dX11_says_13 (by decide) hw (fun hw => ?_) (fun hw => ?_)
      · refine V_aload_n 0 rfl rfl dX11_says_22 ?_
        refine X_getR (c := 11) (k := 16) fa_X11_45 rfl dX11_says_23 hw (fun v3 hw => ?_)
        refine V_iload_n 1 rfl rfl dX11_says_26 ?_
        refine X_ldI dX11_says_27 hw (fun v4 hw => ?_)
        refine V_iconst (v := 1) (by decide) dX11_says_28 ?_
        refine V_icmp_ne (tgt := 39) dX11_says_29 (by decide) hw (fun hw => ?_) (fun hw => ?_)
        · refine V_aload_n 0 rfl rfl dX11_says_32 ?_
          refine V_bipush (v := (-2)) (by decide) dX11_says_33 ?_
          refine X_cV 11 [.int (-2)] [] ma_X11_212 (by decide) rfl (by decide) (by decide) rfl (by simp [cat_i, cat_l, rf_cat]) rfl dX11_says_35 hw (r_X11_no _ _) (k_I (fun v5 h hw => ?_))
          exact V_iret rfl dX11_says_38 ⟨_, rfl, hw⟩
        · refine V_aload_n 0 rfl rfl dX11_says_39 ?_
          refine X_getR (c := 11) (k := 16) fa_X11_45 rfl dX11_says_40 hw (fun v6 hw => ?_)
          refine V_iload_n 1 rfl rfl dX11_says_43 ?_
          refine X_ldI dX11_says_44 hw (fun v7 hw => ?_)
          refine V_if_ne (tgt := 55) dX11_says_45 (by decide) hw (fun hw => ?_) (fun hw => ?_)
          · refine V_aload_n 0 rfl rfl dX11_says_48 ?_
            refine V_bipush (v := (-3)) (by decide) dX11_says_49 ?_
            refine X_cV 11 [.int (-3)] [] ma_X11_212 (by decide) rfl (by decide) (by decide) rfl (by simp [cat_i, cat_l, rf_cat]) rfl dX11_says_51 hw (r_X11_no _ _) (k_I (fun v8 h hw => ?_))
            exact V_iret rfl dX11_says_54 ⟨_, rfl, hw⟩
          · refine V_aload_n 0 rfl rfl dX11_says_55 ?_
            refine X_getR (c := 11) (k := 19) fa_X11_54 rfl dX11_says_56 hw (fun v9 hw => ?_)
            refine V_iload_n 1 rfl rfl dX11_says_59 ?_
            refine X_ldI dX11_says_60 hw (fun v10 hw => ?_)
            refine V_istore_n (i := 3) [(3, .int v10), (0, va_rf l0), (1, .int l1), (2, .int l2)] rfl (by decide) rfl dX11_says_61 ?_
            refine V_iload_n 3 rfl rfl dX11_says_62 ?_
            refine V_if_eq (tgt := 98) dX11_says_63 (by decide) hw (fun hw => ?_) (fun hw => ?_)
            · exact V.sub [1, 3, 0] rfl (s_X11_says_98 hw)
            · refine V_aload_n 1 rfl rfl dX11_says_66 ?_
              refine X_getR (c := 11) (k := 27) fa_X11_79 rfl dX11_says_67 hw (fun v18 hw => ?_)
              refine V_iload_n 0 rfl rfl dX11_says_70 ?_
              refine X_ldI dX11_says_71 hw (fun v19 hw => ?_)
              refine V_iload_n 3 rfl rfl dX11_says_72 ?_
              refine V_icmp_eq (tgt := 98) dX11_says_73 (by decide) hw (fun hw => ?_) (fun hw => ?_)
              · exact V.sub [1, 3, 0] rfl (s_X11_says_98 hw)
              · refine V_iload_n 3 rfl rfl dX11_says_76 ?_
                refine V_iconst (v := 2) (by decide) dX11_says_77 ?_
                refine V_icmp_ne (tgt := 91) dX11_says_78 (by decide) hw (fun hw => ?_) (fun hw => ?_)
                · refine V_aload_n 1 rfl rfl dX11_says_81 ?_
                  refine X_getR (c := 11) (k := 27) fa_X11_79 rfl dX11_says_82 hw (fun v20 hw => ?_)
                  refine V_iload_n 0 rfl rfl dX11_says_85 ?_
                  refine X_ldI dX11_says_86 hw (fun v21 hw => ?_)
                  refine V_iconst (v := 3) (by decide) dX11_says_87 ?_
                  refine V_icmp_eq (tgt := 98) dX11_says_88 (by decide) hw (fun hw => ?_) (fun hw => ?_)
                  · exact V.sub [1, 3, 0] rfl (s_X11_says_98 hw)
                  · exact V.sub [1] rfl (s_X11_says_91 hw)
                · exact V.sub [1] rfl (s_X11_says_91 hw)
      · exact V.sub [0] rfl (s_X11_says_16 hw)
theorem r_X11_says {l : Launch} {G : Gh} (l0 : Option Nat) (l1 : Int32) (l2 : Int32) {h : Hp} {Q : Int32 → Hp → Prop} (hw : w_X11_says l0 l1 l2 h Q) : RunQ l G 2 yX11_says cX11_says 4 (some .int) [va_rf l0, .int l1, .int l2] h (qI Q) :=
  V_run rfl (sl_len _ _ (by simp [cat_i, cat_l, rf_cat])) (V.sub [0, 1, 2] (by simp only [la_r, la_i, la_l, la_n]; rfl) (s_X11_says_0 hw))
def n_X11_set_60 (l0 : Option Nat) (h : Hp) (Q : Int32 → Hp → Prop) : Prop :=
  oV h l0 12 <| w_X11_no l0 (-5) h <| fun v9 h =>
  Q v9 h
def n_X11_set_127 (s0 : Int64) (s1 : Int32) (s2 : Option Nat) (h : Hp) (Q : Int32 → Hp → Prop) : Prop :=
  stL h s2 s1 s0 fun h =>
  Q 1 h
def n_X11_set_0 (l0 : Option Nat) (l1 : Int32) (l2 : Int32) (l3 : Int64) (h : Hp) (Q : Int32 → Hp → Prop) : Prop :=
  w_X11_isShelf l1 h <| fun v1 h =>
  br (v1 = 0) (
    oV h l0 12 <| w_X11_no l0 (-1) h <| fun v2 h =>
    Q v2 h) (
    gR h l0 12 1424 fun v3 =>
    ldI h v3 l1 fun v4 =>
    br (v4 = 2) (
      oV h l0 12 <| w_X11_no l0 (-2) h <| fun v5 h =>
      Q v5 h) (
      gR h l0 12 1424 fun v6 =>
      ldI h v6 l1 fun v7 =>
      br (v7 = 0) (
        oV h l0 12 <| w_X11_no l0 (-3) h <| fun v8 h =>
        Q v8 h) (
        br (l2 < 0) (
          n_X11_set_60 l0 h Q) (
          gR h l0 12 1426 fun v10 =>
          ldI h v10 l1 fun v11 =>
          br (l2 < v11) (
            gR h l0 12 1428 fun v12 =>
            gR h l0 12 1425 fun v13 =>
            ldI h v13 l1 fun v14 =>
            br (v14 = 0) (
              n_X11_set_127 ((((l3 : Int64).toInt32 : Int32).toInt8.toInt32 : Int32).toInt64) ((60 * l1) + l2) v12 h Q) (
              gR h l0 12 1425 fun v15 =>
              ldI h v15 l1 fun v16 =>
              br (v16 = 1) (
                n_X11_set_127 ((((l3 : Int64).toInt32 : Int32).toInt16.toInt32 : Int32).toInt64) ((60 * l1) + l2) v12 h Q) (
                gR h l0 12 1425 fun v17 =>
                ldI h v17 l1 fun v18 =>
                br (v18 = 2) (
                  n_X11_set_127 (((l3 : Int64).toInt32 : Int32).toInt64) ((60 * l1) + l2) v12 h Q) (
                  n_X11_set_127 l3 ((60 * l1) + l2) v12 h Q)))) (
            n_X11_set_60 l0 h Q)))))
def w_X11_set (l0 : Option Nat) (l1 : Int32) (l2 : Int32) (l3 : Int64) (h : Hp) (Q : Int32 → Hp → Prop) : Prop := n_X11_set_0 l0 l1 l2 l3 h Q
theorem s_X11_set_60 {l : Launch} {G : Gh} {l0 : Option Nat} {h : Hp} {Q : Int32 → Hp → Prop}  (hw : n_X11_set_60 l0 h Q) : V l G 2 yX11_set cX11_set 5 (some .int) 60 [(0, va_rf l0)] [] h (qI Q) := by
  unfold n_X11_set_60 at hw
  refine V_aload_n 0 rfl rfl dX11_set_60 ?_
  refine V_bipush (v := (-5)) (by decide) dX11_set_61 ?_
  refine X_cV 11 [.int (-5)] [] ma_X11_212 (by decide) rfl (by decide) (by decide) rfl (by simp [cat_i, cat_l, rf_cat]) rfl dX11_set_63 hw (r_X11_no _ _) (k_I (fun v9 h hw => ?_))
  exact V_iret rfl dX11_set_66 ⟨_, rfl, hw⟩
theorem s_X11_set_127 {l : Launch} {G : Gh} {s0 : Int64} {s1 : Int32} {s2 : Option Nat} {h : Hp} {Q : Int32 → Hp → Prop}  (hw : n_X11_set_127 s0 s1 s2 h Q) : V l G 2 yX11_set cX11_set 5 (some .int) 127 [] [.long s0, .int s1, va_rf s2] h (qI Q) := by
  unfold n_X11_set_127 at hw
  refine X_stL dX11_set_127 hw (fun h hw => ?_)
  refine V_iconst (v := 1) (by decide) dX11_set_128 ?_
  exact V_iret rfl dX11_set_129 ⟨_, rfl, hw⟩
set_option maxRecDepth 20000 in
theorem s_X11_set_0 {l : Launch} {G : Gh} {l0 : Option Nat} {l1 : Int32} {l2 : Int32} {l3 : Int64} {h : Hp} {Q : Int32 → Hp → Prop}  (hw : n_X11_set_0 l0 l1 l2 l3 h Q) : V l G 2 yX11_set cX11_set 5 (some .int) 0 [(0, va_rf l0), (1, .int l1), (2, .int l2), (3, .long l3)] [] h (qI Q) := by
  unfold n_X11_set_0 at hw
  refine V_iload_n 1 rfl rfl dX11_set_0 ?_
  refine X_cS [.int l1] [] ma_X11_237 (by decide) (by decide) rfl (by simp [cat_i, cat_l, rf_cat]) rfl dX11_set_1 (r_X11_isShelf _ hw) (k_I (fun v1 h hw => ?_))
  refine V_if_ne (tgt := 13) dX11_set_4 (by decide) hw (fun hw => ?_) (fun hw => ?_)
  · refine V_aload_n 0 rfl rfl dX11_set_7 ?_
    refine V_iconst (v := (-1)) (by decide) dX11_set_8 ?_
    refine X_cV 11 [.int (-1)] [] ma_X11_212 (by decide) rfl (by decide) (by decide) rfl (by simp [cat_i, cat_l, rf_cat]) rfl dX11_set_9 hw (r_X11_no _ _) (k_I (fun v2 h hw => ?_))
    exact V_iret rfl dX11_set_12 ⟨_, rfl, hw⟩
  · refine V_aload_n 0 rfl rfl dX11_set_13 ?_
    refine X_getR (c := 11) (k := 16) fa_X11_45 rfl dX11_set_14 hw (fun v3 hw => ?_)
    refine V_iload_n 1 rfl rfl dX11_set_17 ?_
    refine X_ldI dX11_set_18 hw (fun v4 hw => ?_)
    refine V_iconst (v := 2) (by decide) dX11_set_19 ?_
    refine V_icmp_ne (tgt := 30) dX11_set_20 (by decide) hw (fun hw => ?_) (fun hw => ?_)
    · refine V_aload_n 0 rfl rfl dX11_set_23 ?_
      refine V_bipush (v := (-2)) (by decide) dX11_set_24 ?_
      refine X_cV 11 [.int (-2)] [] ma_X11_212 (by decide) rfl (by decide) (by decide) rfl (by simp [cat_i, cat_l, rf_cat]) rfl dX11_set_26 hw (r_X11_no _ _) (k_I (fun v5 h hw => ?_))
      exact V_iret rfl dX11_set_29 ⟨_, rfl, hw⟩
    · refine V_aload_n 0 rfl rfl dX11_set_30 ?_
      refine X_getR (c := 11) (k := 16) fa_X11_45 rfl dX11_set_31 hw (fun v6 hw => ?_)
      refine V_iload_n 1 rfl rfl dX11_set_34 ?_
      refine X_ldI dX11_set_35 hw (fun v7 hw => ?_)
      refine V_if_ne (tgt := 46) dX11_set_36 (by decide) hw (fun hw => ?_) (fun hw => ?_)
      · refine V_aload_n 0 rfl rfl dX11_set_39 ?_
        refine V_bipush (v := (-3)) (by decide) dX11_set_40 ?_
        refine X_cV 11 [.int (-3)] [] ma_X11_212 (by decide) rfl (by decide) (by decide) rfl (by simp [cat_i, cat_l, rf_cat]) rfl dX11_set_42 hw (r_X11_no _ _) (k_I (fun v8 h hw => ?_))
        exact V_iret rfl dX11_set_45 ⟨_, rfl, hw⟩
      · refine V_iload_n 2 rfl rfl dX11_set_46 ?_
        refine V_if_lt (tgt := 60) dX11_set_47 (by decide) hw (fun hw => ?_) (fun hw => ?_)
        · exact V.sub [0] rfl (s_X11_set_60 hw)
        · refine V_iload_n 2 rfl rfl dX11_set_50 ?_
          refine V_aload_n 0 rfl rfl dX11_set_51 ?_
          refine X_getR (c := 11) (k := 18) fa_X11_51 rfl dX11_set_52 hw (fun v10 hw => ?_)
          refine V_iload_n 1 rfl rfl dX11_set_55 ?_
          refine X_ldI dX11_set_56 hw (fun v11 hw => ?_)
          refine V_icmp_lt (tgt := 67) dX11_set_57 (by decide) hw (fun hw => ?_) (fun hw => ?_)
          · refine V_aload_n 0 rfl rfl dX11_set_67 ?_
            refine X_getR (c := 11) (k := 20) fa_X11_57 rfl dX11_set_68 hw (fun v12 hw => ?_)
            refine V_bipush (v := 60) (by decide) dX11_set_71 ?_
            refine V_iload_n 1 rfl rfl dX11_set_73 ?_
            refine V_imul dX11_set_74 ?_
            refine V_iload_n 2 rfl rfl dX11_set_75 ?_
            refine V_iadd dX11_set_76 ?_
            refine V_aload_n 0 rfl rfl dX11_set_77 ?_
            refine X_getR (c := 11) (k := 17) fa_X11_48 rfl dX11_set_78 hw (fun v13 hw => ?_)
            refine V_iload_n 1 rfl rfl dX11_set_81 ?_
            refine X_ldI dX11_set_82 hw (fun v14 hw => ?_)
            refine V_if_ne (tgt := 93) dX11_set_83 (by decide) hw (fun hw => ?_) (fun hw => ?_)
            · refine V_lload_n 3 rfl rfl dX11_set_86 ?_
              refine V_l2i dX11_set_87 ?_
              refine V_i2b dX11_set_88 ?_
              refine V_i2l dX11_set_89 ?_
              refine V_goto (tgt := 127) dX11_set_90 (by decide) ?_
              exact V.sub [] rfl (s_X11_set_127 hw)
            · refine V_aload_n 0 rfl rfl dX11_set_93 ?_
              refine X_getR (c := 11) (k := 17) fa_X11_48 rfl dX11_set_94 hw (fun v15 hw => ?_)
              refine V_iload_n 1 rfl rfl dX11_set_97 ?_
              refine X_ldI dX11_set_98 hw (fun v16 hw => ?_)
              refine V_iconst (v := 1) (by decide) dX11_set_99 ?_
              refine V_icmp_ne (tgt := 110) dX11_set_100 (by decide) hw (fun hw => ?_) (fun hw => ?_)
              · refine V_lload_n 3 rfl rfl dX11_set_103 ?_
                refine V_l2i dX11_set_104 ?_
                refine V_i2s dX11_set_105 ?_
                refine V_i2l dX11_set_106 ?_
                refine V_goto (tgt := 127) dX11_set_107 (by decide) ?_
                exact V.sub [] rfl (s_X11_set_127 hw)
              · refine V_aload_n 0 rfl rfl dX11_set_110 ?_
                refine X_getR (c := 11) (k := 17) fa_X11_48 rfl dX11_set_111 hw (fun v17 hw => ?_)
                refine V_iload_n 1 rfl rfl dX11_set_114 ?_
                refine X_ldI dX11_set_115 hw (fun v18 hw => ?_)
                refine V_iconst (v := 2) (by decide) dX11_set_116 ?_
                refine V_icmp_ne (tgt := 126) dX11_set_117 (by decide) hw (fun hw => ?_) (fun hw => ?_)
                · refine V_lload_n 3 rfl rfl dX11_set_120 ?_
                  refine V_l2i dX11_set_121 ?_
                  refine V_i2l dX11_set_122 ?_
                  refine V_goto (tgt := 127) dX11_set_123 (by decide) ?_
                  exact V.sub [] rfl (s_X11_set_127 hw)
                · refine V_lload_n 3 rfl rfl dX11_set_126 ?_
                  exact V.sub [] rfl (s_X11_set_127 hw)
          · exact V.sub [0] rfl (s_X11_set_60 hw)
theorem r_X11_set {l : Launch} {G : Gh} (l0 : Option Nat) (l1 : Int32) (l2 : Int32) (l3 : Int64) {h : Hp} {Q : Int32 → Hp → Prop} (hw : w_X11_set l0 l1 l2 l3 h Q) : RunQ l G 2 yX11_set cX11_set 5 (some .int) [va_rf l0, .int l1, .int l2, .long l3] h (qI Q) :=
  V_run rfl (sl_len _ _ (by simp [cat_i, cat_l, rf_cat])) (V.sub [0, 1, 2, 3] (by simp only [la_r, la_i, la_l, la_n]; rfl) (s_X11_set_0 hw))
def n_X11_show_20 (l0 : Option Nat) (h : Hp) (Q : Int32 → Hp → Prop) : Prop :=
  oV h l0 12 <| w_X11_no l0 (-1) h <| fun v2 h =>
  Q v2 h
def n_X11_show_59 (s0 : Int32) (h : Hp) (Q : Int32 → Hp → Prop) : Prop :=
  Q s0 h
def n_X11_show_41 (l0 : Option Nat) (l1 : Int32) (l2 : Int32) (s0 : Int32) (s1 : Int32) (s2 : Option Nat) (h : Hp) (Q : Int32 → Hp → Prop) : Prop :=
  stI h s2 s1 s0 fun h =>
  gR h l0 12 1427 fun v4 =>
  stI h v4 l1 l2 fun h =>
  br (l2 = (-1)) (
    n_X11_show_59 0 h Q) (
    n_X11_show_59 1 h Q)
def n_X11_show_26 (l0 : Option Nat) (l1 : Int32) (l2 : Int32) (h : Hp) (Q : Int32 → Hp → Prop) : Prop :=
  gR h l0 12 1424 fun v3 =>
  br (l2 = (-1)) (
    n_X11_show_41 l0 l1 l2 0 l1 v3 h Q) (
    n_X11_show_41 l0 l1 l2 2 l1 v3 h Q)
def n_X11_show_0 (l0 : Option Nat) (l1 : Int32) (l2 : Int32) (h : Hp) (Q : Int32 → Hp → Prop) : Prop :=
  w_X11_isShelf l1 h <| fun v1 h =>
  br (v1 = 0) (
    n_X11_show_20 l0 h Q) (
    br (l2 = (-1)) (
      n_X11_show_26 l0 l1 l2 h Q) (
      oV h l0 12 <| w_X11_isAsk l0 l2 h <| fun v5 h =>
      br (v5 = 0) (
        n_X11_show_20 l0 h Q) (
        n_X11_show_26 l0 l1 l2 h Q)))
def w_X11_show (l0 : Option Nat) (l1 : Int32) (l2 : Int32) (h : Hp) (Q : Int32 → Hp → Prop) : Prop := n_X11_show_0 l0 l1 l2 h Q
theorem s_X11_show_20 {l : Launch} {G : Gh} {l0 : Option Nat} {h : Hp} {Q : Int32 → Hp → Prop}  (hw : n_X11_show_20 l0 h Q) : V l G 2 yX11_show cX11_show 3 (some .int) 20 [(0, va_rf l0)] [] h (qI Q) := by
  unfold n_X11_show_20 at hw
  refine V_aload_n 0 rfl rfl dX11_show_20 ?_
  refine V_iconst (v := (-1)) (by decide) dX11_show_21 ?_
  refine X_cV 11 [.int (-1)] [] ma_X11_212 (by decide) rfl (by decide) (by decide) rfl (by simp [cat_i, cat_l, rf_cat]) rfl dX11_show_22 hw (r_X11_no _ _) (k_I (fun v2 h hw => ?_))
  exact V_iret rfl dX11_show_25 ⟨_, rfl, hw⟩
theorem s_X11_show_59 {l : Launch} {G : Gh} {s0 : Int32} {h : Hp} {Q : Int32 → Hp → Prop}  (hw : n_X11_show_59 s0 h Q) : V l G 2 yX11_show cX11_show 3 (some .int) 59 [] [.int s0] h (qI Q) := by
  unfold n_X11_show_59 at hw
  exact V_iret rfl dX11_show_59 ⟨_, rfl, hw⟩
theorem s_X11_show_41 {l : Launch} {G : Gh} {l0 : Option Nat} {l1 : Int32} {l2 : Int32} {s0 : Int32} {s1 : Int32} {s2 : Option Nat} {h : Hp} {Q : Int32 → Hp → Prop}  (hw : n_X11_show_41 l0 l1 l2 s0 s1 s2 h Q) : V l G 2 yX11_show cX11_show 3 (some .int) 41 [(0, va_rf l0), (1, .int l1), (2, .int l2)] [.int s0, .int s1, va_rf s2] h (qI Q) := by
  unfold n_X11_show_41 at hw
  refine X_stI dX11_show_41 hw (fun h hw => ?_)
  refine V_aload_n 0 rfl rfl dX11_show_42 ?_
  refine X_getR (c := 11) (k := 19) fa_X11_54 rfl dX11_show_43 hw (fun v4 hw => ?_)
  refine V_iload_n 1 rfl rfl dX11_show_46 ?_
  refine V_iload_n 2 rfl rfl dX11_show_47 ?_
  refine X_stI dX11_show_48 hw (fun h hw => ?_)
  refine V_iload_n 2 rfl rfl dX11_show_49 ?_
  refine V_iconst (v := (-1)) (by decide) dX11_show_50 ?_
  refine V_icmp_ne (tgt := 58) dX11_show_51 (by decide) hw (fun hw => ?_) (fun hw => ?_)
  · refine V_iconst (v := 0) (by decide) dX11_show_54 ?_
    refine V_goto (tgt := 59) dX11_show_55 (by decide) ?_
    exact V.sub [] rfl (s_X11_show_59 hw)
  · refine V_iconst (v := 1) (by decide) dX11_show_58 ?_
    exact V.sub [] rfl (s_X11_show_59 hw)
theorem s_X11_show_26 {l : Launch} {G : Gh} {l0 : Option Nat} {l1 : Int32} {l2 : Int32} {h : Hp} {Q : Int32 → Hp → Prop}  (hw : n_X11_show_26 l0 l1 l2 h Q) : V l G 2 yX11_show cX11_show 3 (some .int) 26 [(0, va_rf l0), (1, .int l1), (2, .int l2)] [] h (qI Q) := by
  unfold n_X11_show_26 at hw
  refine V_aload_n 0 rfl rfl dX11_show_26 ?_
  refine X_getR (c := 11) (k := 16) fa_X11_45 rfl dX11_show_27 hw (fun v3 hw => ?_)
  refine V_iload_n 1 rfl rfl dX11_show_30 ?_
  refine V_iload_n 2 rfl rfl dX11_show_31 ?_
  refine V_iconst (v := (-1)) (by decide) dX11_show_32 ?_
  refine V_icmp_ne (tgt := 40) dX11_show_33 (by decide) hw (fun hw => ?_) (fun hw => ?_)
  · refine V_iconst (v := 0) (by decide) dX11_show_36 ?_
    refine V_goto (tgt := 41) dX11_show_37 (by decide) ?_
    exact V.sub [0, 1, 2] rfl (s_X11_show_41 hw)
  · refine V_iconst (v := 2) (by decide) dX11_show_40 ?_
    exact V.sub [0, 1, 2] rfl (s_X11_show_41 hw)
theorem s_X11_show_0 {l : Launch} {G : Gh} {l0 : Option Nat} {l1 : Int32} {l2 : Int32} {h : Hp} {Q : Int32 → Hp → Prop}  (hw : n_X11_show_0 l0 l1 l2 h Q) : V l G 2 yX11_show cX11_show 3 (some .int) 0 [(0, va_rf l0), (1, .int l1), (2, .int l2)] [] h (qI Q) := by
  unfold n_X11_show_0 at hw
  refine V_iload_n 1 rfl rfl dX11_show_0 ?_
  refine X_cS [.int l1] [] ma_X11_237 (by decide) (by decide) rfl (by simp [cat_i, cat_l, rf_cat]) rfl dX11_show_1 (r_X11_isShelf _ hw) (k_I (fun v1 h hw => ?_))
  refine V_if_eq (tgt := 20) dX11_show_4 (by decide) hw (fun hw => ?_) (fun hw => ?_)
  · exact V.sub [0] rfl (s_X11_show_20 hw)
  · refine V_iload_n 2 rfl rfl dX11_show_7 ?_
    refine V_iconst (v := (-1)) (by decide) dX11_show_8 ?_
    refine V_icmp_eq (tgt := 26) dX11_show_9 (by decide) hw (fun hw => ?_) (fun hw => ?_)
    · exact V.sub [0, 1, 2] rfl (s_X11_show_26 hw)
    · refine V_aload_n 0 rfl rfl dX11_show_12 ?_
      refine V_iload_n 2 rfl rfl dX11_show_13 ?_
      refine X_cV 11 [.int l2] [] ma_X11_240 (by decide) rfl (by decide) (by decide) rfl (by simp [cat_i, cat_l, rf_cat]) rfl dX11_show_14 hw (r_X11_isAsk _ _) (k_I (fun v5 h hw => ?_))
      refine V_if_ne (tgt := 26) dX11_show_17 (by decide) hw (fun hw => ?_) (fun hw => ?_)
      · exact V.sub [0] rfl (s_X11_show_20 hw)
      · exact V.sub [0, 1, 2] rfl (s_X11_show_26 hw)
theorem r_X11_show {l : Launch} {G : Gh} (l0 : Option Nat) (l1 : Int32) (l2 : Int32) {h : Hp} {Q : Int32 → Hp → Prop} (hw : w_X11_show l0 l1 l2 h Q) : RunQ l G 2 yX11_show cX11_show 3 (some .int) [va_rf l0, .int l1, .int l2] h (qI Q) :=
  V_run rfl (sl_len _ _ (by simp [cat_i, cat_l, rf_cat])) (V.sub [0, 1, 2] (by simp only [la_r, la_i, la_l, la_n]; rfl) (s_X11_show_0 hw))
def n_X11_status_136 (l0 : Option Nat) (l2 : Int32) (l3 : Int32) (h : Hp) (Q : Int32 → Hp → Prop) (K116 : Int32 → Int32 → Hp → Prop) : Prop :=
  lt (l3 + 1) fun x10 =>
  K116 l2 x10 h
def b_X11_status_116 (l0 : Option Nat) (l2 : Int32) (l3 : Int32) (h : Hp) (Q : Int32 → Hp → Prop) (K116 : Int32 → Int32 → Hp → Prop) : Prop :=
  gI h l0 12 1409 fun v7 =>
  br (v7 ≤ l3) (
    Q l2 h) (
    gR h l0 12 1423 fun v8 =>
    ldZ h v8 l3 fun v9 =>
    br (v9 = 0) (
      n_X11_status_136 l0 l2 l3 h Q K116) (
      lt (l2 + 1) fun x11 =>
      n_X11_status_136 l0 x11 l3 h Q K116))
def l_X11_status_116 (l0 : Option Nat) (l2 : Int32) (l3 : Int32) (h : Hp) (Q : Int32 → Hp → Prop) : Prop :=
  Lo (fun (K : Int32 × Int32 → Hp → Prop) s h => b_X11_status_116 l0 s.1 s.2 h Q (fun l2 l3 h => K (l2, l3) h)) (l2, l3) h
def n_X11_status_167 (l0 : Option Nat) (l2 : Int32) (l3 : Int32) (h : Hp) (Q : Int32 → Hp → Prop) (K146 : Int32 → Int32 → Hp → Prop) : Prop :=
  lt (l3 + 1) fun x16 =>
  K146 l2 x16 h
def b_X11_status_146 (l0 : Option Nat) (l2 : Int32) (l3 : Int32) (h : Hp) (Q : Int32 → Hp → Prop) (K146 : Int32 → Int32 → Hp → Prop) : Prop :=
  gI h l0 12 1410 fun v12 =>
  br (v12 ≤ l3) (
    Q l2 h) (
    gR h l0 12 1435 fun v13 =>
    ldI h v13 l3 fun v14 =>
    br (v14 = 1) (
      lt (l2 + 1) fun x15 =>
      n_X11_status_167 l0 x15 l3 h Q K146) (
      n_X11_status_167 l0 l2 l3 h Q K146))
def l_X11_status_146 (l0 : Option Nat) (l2 : Int32) (l3 : Int32) (h : Hp) (Q : Int32 → Hp → Prop) : Prop :=
  Lo (fun (K : Int32 × Int32 → Hp → Prop) s h => b_X11_status_146 l0 s.1 s.2 h Q (fun l2 l3 h => K (l2, l3) h)) (l2, l3) h
def n_X11_status_198 (l0 : Option Nat) (l2 : Int32) (l3 : Int32) (h : Hp) (Q : Int32 → Hp → Prop) (K177 : Int32 → Int32 → Hp → Prop) : Prop :=
  lt (l3 + 1) fun x20 =>
  K177 l2 x20 h
def b_X11_status_177 (l0 : Option Nat) (l2 : Int32) (l3 : Int32) (h : Hp) (Q : Int32 → Hp → Prop) (K177 : Int32 → Int32 → Hp → Prop) : Prop :=
  gI h l0 12 1410 fun v17 =>
  br (v17 ≤ l3) (
    Q l2 h) (
    gR h l0 12 1438 fun v18 =>
    ldI h v18 l3 fun v19 =>
    br (v19 = (-1)) (
      n_X11_status_198 l0 l2 l3 h Q K177) (
      lt (l2 + 1) fun x21 =>
      n_X11_status_198 l0 x21 l3 h Q K177))
def l_X11_status_177 (l0 : Option Nat) (l2 : Int32) (l3 : Int32) (h : Hp) (Q : Int32 → Hp → Prop) : Prop :=
  Lo (fun (K : Int32 × Int32 → Hp → Prop) s h => b_X11_status_177 l0 s.1 s.2 h Q (fun l2 l3 h => K (l2, l3) h)) (l2, l3) h
def n_X11_status_228 (l0 : Option Nat) (l2 : Int32) (l3 : Int32) (h : Hp) (Q : Int32 → Hp → Prop) (K208 : Int32 → Int32 → Hp → Prop) : Prop :=
  lt (l3 + 1) fun x25 =>
  K208 l2 x25 h
def b_X11_status_208 (l0 : Option Nat) (l2 : Int32) (l3 : Int32) (h : Hp) (Q : Int32 → Hp → Prop) (K208 : Int32 → Int32 → Hp → Prop) : Prop :=
  gI h l0 12 1410 fun v22 =>
  br (v22 ≤ l3) (
    Q l2 h) (
    gR h l0 12 1442 fun v23 =>
    ldZ h v23 l3 fun v24 =>
    br (v24 = 0) (
      n_X11_status_228 l0 l2 l3 h Q K208) (
      lt (l2 + 1) fun x26 =>
      n_X11_status_228 l0 x26 l3 h Q K208))
def l_X11_status_208 (l0 : Option Nat) (l2 : Int32) (l3 : Int32) (h : Hp) (Q : Int32 → Hp → Prop) : Prop :=
  Lo (fun (K : Int32 × Int32 → Hp → Prop) s h => b_X11_status_208 l0 s.1 s.2 h Q (fun l2 l3 h => K (l2, l3) h)) (l2, l3) h
def n_X11_status_258 (l0 : Option Nat) (l2 : Int32) (l3 : Int32) (h : Hp) (Q : Int32 → Hp → Prop) (K238 : Int32 → Int32 → Hp → Prop) : Prop :=
  lt (l3 + 1) fun x30 =>
  K238 l2 x30 h
def b_X11_status_238 (l0 : Option Nat) (l2 : Int32) (l3 : Int32) (h : Hp) (Q : Int32 → Hp → Prop) (K238 : Int32 → Int32 → Hp → Prop) : Prop :=
  gI h l0 12 1410 fun v27 =>
  br (v27 ≤ l3) (
    Q l2 h) (
    gR h l0 12 1444 fun v28 =>
    ldZ h v28 l3 fun v29 =>
    br (v29 = 0) (
      n_X11_status_258 l0 l2 l3 h Q K238) (
      lt (l2 + 1) fun x31 =>
      n_X11_status_258 l0 x31 l3 h Q K238))
def l_X11_status_238 (l0 : Option Nat) (l2 : Int32) (l3 : Int32) (h : Hp) (Q : Int32 → Hp → Prop) : Prop :=
  Lo (fun (K : Int32 × Int32 → Hp → Prop) s h => b_X11_status_238 l0 s.1 s.2 h Q (fun l2 l3 h => K (l2, l3) h)) (l2, l3) h
def n_X11_status_22 (l0 : Option Nat) (l1 : Int32) (h : Hp) (Q : Int32 → Hp → Prop) : Prop :=
  br (l1 = 0) (
    gI h l0 12 1409 fun v1 =>
    Q v1 h) <|
  br (l1 = 1) (
    gI h l0 12 1410 fun v2 =>
    Q v2 h) <|
  br (l1 = 2) (
    gI h l0 12 1411 fun v3 =>
    Q v3 h) <|
  br (l1 = 3) (
    gI h l0 12 1412 fun v4 =>
    Q v4 h) <|
  br (l1 = 4) (
    gI h l0 12 1413 fun v5 =>
    Q v5 h) <|
  br (l1 = 5) (
    gI h l0 12 1408 fun v6 =>
    Q v6 h) <|
  br (l1 = 6) (
    l_X11_status_116 l0 0 0 h Q) <|
  br (l1 = 7) (
    l_X11_status_146 l0 0 0 h Q) <|
  br (l1 = 8) (
    l_X11_status_177 l0 0 0 h Q) <|
  br (l1 = 9) (
    l_X11_status_208 l0 0 0 h Q) <|
  br (l1 = 10) (
    l_X11_status_238 l0 0 0 h Q) <|
  Q (-1) h
def n_X11_status_0 (l0 : Option Nat) (l1 : Int32) (h : Hp) (Q : Int32 → Hp → Prop) : Prop :=
  br (l1 ≤ 10) (
    n_X11_status_22 l0 l1 h Q) (
    br (18 ≤ l1) (
      n_X11_status_22 l0 l1 h Q) (
      gR h l0 12 1465 fun v32 =>
      ldI h v32 (l1 - 10) fun v33 =>
      Q v33 h))
def w_X11_status (l0 : Option Nat) (l1 : Int32) (h : Hp) (Q : Int32 → Hp → Prop) : Prop := n_X11_status_0 l0 l1 h Q
theorem s_X11_status_136 {l : Launch} {G : Gh} {l0 : Option Nat} {l2 : Int32} {l3 : Int32} {h : Hp} {Q : Int32 → Hp → Prop} {K116 : Int32 → Int32 → Hp → Prop} (hK116 : ∀ (l2 : Int32) (l3 : Int32) (h : Hp), K116 l2 l3 h → V l G 1 yX11_status cX11_status 4 (some .int) 116 [(0, va_rf l0), (2, .int l2), (3, .int l3)] [] h (qI Q)) (hw : n_X11_status_136 l0 l2 l3 h Q K116) : V l G 1 yX11_status cX11_status 4 (some .int) 136 [(0, va_rf l0), (2, .int l2), (3, .int l3)] [] h (qI Q) := by
  unfold n_X11_status_136 at hw
  refine V_iincL (n := 1) 2 (fun z => [(3, .int z), (0, va_rf l0), (2, .int l2)]) rfl (by rfl) (by decide) (fun _ => rfl) dX11_status_136 hw (fun x10 hw => ?_)
  refine V_goto (tgt := 116) dX11_status_139 (by decide) ?_
  exact V.sub [1, 2, 0] rfl (hK116 _ _ _ hw)
theorem sb_X11_status_116 {l : Launch} {G : Gh} {l0 : Option Nat} {l2 : Int32} {l3 : Int32} {h : Hp} {Q : Int32 → Hp → Prop} {K116 : Int32 → Int32 → Hp → Prop} (hK116 : ∀ (l2 : Int32) (l3 : Int32) (h : Hp), K116 l2 l3 h → V l G 1 yX11_status cX11_status 4 (some .int) 116 [(0, va_rf l0), (2, .int l2), (3, .int l3)] [] h (qI Q)) (hw : b_X11_status_116 l0 l2 l3 h Q K116) : V l G 1 yX11_status cX11_status 4 (some .int) 116 [(0, va_rf l0), (2, .int l2), (3, .int l3)] [] h (qI Q) := by
  unfold b_X11_status_116 at hw
  refine V_iload_n 2 rfl rfl dX11_status_116 ?_
  refine V_aload_n 0 rfl rfl dX11_status_117 ?_
  refine X_getI (c := 11) (k := 1) fa_X11_7 rfl dX11_status_118 hw (fun v7 hw => ?_)
  refine V_icmp_ge (tgt := 142) dX11_status_121 (by decide) hw (fun hw => ?_) (fun hw => ?_)
  · refine V_iload_n 1 rfl rfl dX11_status_142 ?_
    exact V_iret rfl dX11_status_143 ⟨_, rfl, hw⟩
  · refine V_aload_n 0 rfl rfl dX11_status_124 ?_
    refine X_getR (c := 11) (k := 15) fa_X11_41 rfl dX11_status_125 hw (fun v8 hw => ?_)
    refine V_iload_n 2 rfl rfl dX11_status_128 ?_
    refine X_ldZ dX11_status_129 hw (fun v9 hw => ?_)
    refine V_if_eq (tgt := 136) dX11_status_130 (by decide) hw (fun hw => ?_) (fun hw => ?_)
    · exact V.sub [0, 1, 2] rfl (s_X11_status_136 hK116 hw)
    · refine V_iincL (n := 1) 1 (fun z => [(2, .int z), (0, va_rf l0), (3, .int l3)]) rfl (by rfl) (by decide) (fun _ => rfl) dX11_status_133 hw (fun x11 hw => ?_)
      exact V.sub [1, 0, 2] rfl (s_X11_status_136 hK116 hw)
theorem s_X11_status_116 {l : Launch} {G : Gh} {l0 : Option Nat} {l2 : Int32} {l3 : Int32} {h : Hp} {Q : Int32 → Hp → Prop}  (hw : l_X11_status_116 l0 l2 l3 h Q) : V l G 1 yX11_status cX11_status 4 (some .int) 116 [(0, va_rf l0), (2, .int l2), (3, .int l3)] [] h (qI Q) :=
  Lo.ind (P := fun (s : Int32 × Int32) h => V l G 1 yX11_status cX11_status 4 (some .int) 116 [(0, va_rf l0), (2, .int s.1), (3, .int s.2)] [] h (qI Q)) (fun K ih s h hw => sb_X11_status_116 (fun l2 l3 h hk => ih (l2, l3) h hk) hw) hw
theorem s_X11_status_167 {l : Launch} {G : Gh} {l0 : Option Nat} {l2 : Int32} {l3 : Int32} {h : Hp} {Q : Int32 → Hp → Prop} {K146 : Int32 → Int32 → Hp → Prop} (hK146 : ∀ (l2 : Int32) (l3 : Int32) (h : Hp), K146 l2 l3 h → V l G 1 yX11_status cX11_status 4 (some .int) 146 [(0, va_rf l0), (2, .int l2), (3, .int l3)] [] h (qI Q)) (hw : n_X11_status_167 l0 l2 l3 h Q K146) : V l G 1 yX11_status cX11_status 4 (some .int) 167 [(0, va_rf l0), (2, .int l2), (3, .int l3)] [] h (qI Q) := by
  unfold n_X11_status_167 at hw
  refine V_iincL (n := 1) 2 (fun z => [(3, .int z), (0, va_rf l0), (2, .int l2)]) rfl (by rfl) (by decide) (fun _ => rfl) dX11_status_167 hw (fun x16 hw => ?_)
  refine V_goto (tgt := 146) dX11_status_170 (by decide) ?_
  exact V.sub [1, 2, 0] rfl (hK146 _ _ _ hw)
theorem sb_X11_status_146 {l : Launch} {G : Gh} {l0 : Option Nat} {l2 : Int32} {l3 : Int32} {h : Hp} {Q : Int32 → Hp → Prop} {K146 : Int32 → Int32 → Hp → Prop} (hK146 : ∀ (l2 : Int32) (l3 : Int32) (h : Hp), K146 l2 l3 h → V l G 1 yX11_status cX11_status 4 (some .int) 146 [(0, va_rf l0), (2, .int l2), (3, .int l3)] [] h (qI Q)) (hw : b_X11_status_146 l0 l2 l3 h Q K146) : V l G 1 yX11_status cX11_status 4 (some .int) 146 [(0, va_rf l0), (2, .int l2), (3, .int l3)] [] h (qI Q) := by
  unfold b_X11_status_146 at hw
  refine V_iload_n 2 rfl rfl dX11_status_146 ?_
  refine V_aload_n 0 rfl rfl dX11_status_147 ?_
  refine X_getI (c := 11) (k := 2) fa_X11_205 rfl dX11_status_148 hw (fun v12 hw => ?_)
  refine V_icmp_ge (tgt := 173) dX11_status_151 (by decide) hw (fun hw => ?_) (fun hw => ?_)
  · refine V_iload_n 1 rfl rfl dX11_status_173 ?_
    exact V_iret rfl dX11_status_174 ⟨_, rfl, hw⟩
  · refine V_aload_n 0 rfl rfl dX11_status_154 ?_
    refine X_getR (c := 11) (k := 27) fa_X11_79 rfl dX11_status_155 hw (fun v13 hw => ?_)
    refine V_iload_n 2 rfl rfl dX11_status_158 ?_
    refine X_ldI dX11_status_159 hw (fun v14 hw => ?_)
    refine V_iconst (v := 1) (by decide) dX11_status_160 ?_
    refine V_icmp_ne (tgt := 167) dX11_status_161 (by decide) hw (fun hw => ?_) (fun hw => ?_)
    · refine V_iincL (n := 1) 1 (fun z => [(2, .int z), (0, va_rf l0), (3, .int l3)]) rfl (by rfl) (by decide) (fun _ => rfl) dX11_status_164 hw (fun x15 hw => ?_)
      exact V.sub [1, 0, 2] rfl (s_X11_status_167 hK146 hw)
    · exact V.sub [0, 1, 2] rfl (s_X11_status_167 hK146 hw)
theorem s_X11_status_146 {l : Launch} {G : Gh} {l0 : Option Nat} {l2 : Int32} {l3 : Int32} {h : Hp} {Q : Int32 → Hp → Prop}  (hw : l_X11_status_146 l0 l2 l3 h Q) : V l G 1 yX11_status cX11_status 4 (some .int) 146 [(0, va_rf l0), (2, .int l2), (3, .int l3)] [] h (qI Q) :=
  Lo.ind (P := fun (s : Int32 × Int32) h => V l G 1 yX11_status cX11_status 4 (some .int) 146 [(0, va_rf l0), (2, .int s.1), (3, .int s.2)] [] h (qI Q)) (fun K ih s h hw => sb_X11_status_146 (fun l2 l3 h hk => ih (l2, l3) h hk) hw) hw
theorem s_X11_status_198 {l : Launch} {G : Gh} {l0 : Option Nat} {l2 : Int32} {l3 : Int32} {h : Hp} {Q : Int32 → Hp → Prop} {K177 : Int32 → Int32 → Hp → Prop} (hK177 : ∀ (l2 : Int32) (l3 : Int32) (h : Hp), K177 l2 l3 h → V l G 1 yX11_status cX11_status 4 (some .int) 177 [(0, va_rf l0), (2, .int l2), (3, .int l3)] [] h (qI Q)) (hw : n_X11_status_198 l0 l2 l3 h Q K177) : V l G 1 yX11_status cX11_status 4 (some .int) 198 [(0, va_rf l0), (2, .int l2), (3, .int l3)] [] h (qI Q) := by
  unfold n_X11_status_198 at hw
  refine V_iincL (n := 1) 2 (fun z => [(3, .int z), (0, va_rf l0), (2, .int l2)]) rfl (by rfl) (by decide) (fun _ => rfl) dX11_status_198 hw (fun x20 hw => ?_)
  refine V_goto (tgt := 177) dX11_status_201 (by decide) ?_
  exact V.sub [1, 2, 0] rfl (hK177 _ _ _ hw)
theorem sb_X11_status_177 {l : Launch} {G : Gh} {l0 : Option Nat} {l2 : Int32} {l3 : Int32} {h : Hp} {Q : Int32 → Hp → Prop} {K177 : Int32 → Int32 → Hp → Prop} (hK177 : ∀ (l2 : Int32) (l3 : Int32) (h : Hp), K177 l2 l3 h → V l G 1 yX11_status cX11_status 4 (some .int) 177 [(0, va_rf l0), (2, .int l2), (3, .int l3)] [] h (qI Q)) (hw : b_X11_status_177 l0 l2 l3 h Q K177) : V l G 1 yX11_status cX11_status 4 (some .int) 177 [(0, va_rf l0), (2, .int l2), (3, .int l3)] [] h (qI Q) := by
  unfold b_X11_status_177 at hw
  refine V_iload_n 2 rfl rfl dX11_status_177 ?_
  refine V_aload_n 0 rfl rfl dX11_status_178 ?_
  refine X_getI (c := 11) (k := 2) fa_X11_205 rfl dX11_status_179 hw (fun v17 hw => ?_)
  refine V_icmp_ge (tgt := 204) dX11_status_182 (by decide) hw (fun hw => ?_) (fun hw => ?_)
  · refine V_iload_n 1 rfl rfl dX11_status_204 ?_
    exact V_iret rfl dX11_status_205 ⟨_, rfl, hw⟩
  · refine V_aload_n 0 rfl rfl dX11_status_185 ?_
    refine X_getR (c := 11) (k := 30) fa_X11_88 rfl dX11_status_186 hw (fun v18 hw => ?_)
    refine V_iload_n 2 rfl rfl dX11_status_189 ?_
    refine X_ldI dX11_status_190 hw (fun v19 hw => ?_)
    refine V_iconst (v := (-1)) (by decide) dX11_status_191 ?_
    refine V_icmp_eq (tgt := 198) dX11_status_192 (by decide) hw (fun hw => ?_) (fun hw => ?_)
    · exact V.sub [0, 1, 2] rfl (s_X11_status_198 hK177 hw)
    · refine V_iincL (n := 1) 1 (fun z => [(2, .int z), (0, va_rf l0), (3, .int l3)]) rfl (by rfl) (by decide) (fun _ => rfl) dX11_status_195 hw (fun x21 hw => ?_)
      exact V.sub [1, 0, 2] rfl (s_X11_status_198 hK177 hw)
theorem s_X11_status_177 {l : Launch} {G : Gh} {l0 : Option Nat} {l2 : Int32} {l3 : Int32} {h : Hp} {Q : Int32 → Hp → Prop}  (hw : l_X11_status_177 l0 l2 l3 h Q) : V l G 1 yX11_status cX11_status 4 (some .int) 177 [(0, va_rf l0), (2, .int l2), (3, .int l3)] [] h (qI Q) :=
  Lo.ind (P := fun (s : Int32 × Int32) h => V l G 1 yX11_status cX11_status 4 (some .int) 177 [(0, va_rf l0), (2, .int s.1), (3, .int s.2)] [] h (qI Q)) (fun K ih s h hw => sb_X11_status_177 (fun l2 l3 h hk => ih (l2, l3) h hk) hw) hw
theorem s_X11_status_228 {l : Launch} {G : Gh} {l0 : Option Nat} {l2 : Int32} {l3 : Int32} {h : Hp} {Q : Int32 → Hp → Prop} {K208 : Int32 → Int32 → Hp → Prop} (hK208 : ∀ (l2 : Int32) (l3 : Int32) (h : Hp), K208 l2 l3 h → V l G 1 yX11_status cX11_status 4 (some .int) 208 [(0, va_rf l0), (2, .int l2), (3, .int l3)] [] h (qI Q)) (hw : n_X11_status_228 l0 l2 l3 h Q K208) : V l G 1 yX11_status cX11_status 4 (some .int) 228 [(0, va_rf l0), (2, .int l2), (3, .int l3)] [] h (qI Q) := by
  unfold n_X11_status_228 at hw
  refine V_iincL (n := 1) 2 (fun z => [(3, .int z), (0, va_rf l0), (2, .int l2)]) rfl (by rfl) (by decide) (fun _ => rfl) dX11_status_228 hw (fun x25 hw => ?_)
  refine V_goto (tgt := 208) dX11_status_231 (by decide) ?_
  exact V.sub [1, 2, 0] rfl (hK208 _ _ _ hw)
theorem sb_X11_status_208 {l : Launch} {G : Gh} {l0 : Option Nat} {l2 : Int32} {l3 : Int32} {h : Hp} {Q : Int32 → Hp → Prop} {K208 : Int32 → Int32 → Hp → Prop} (hK208 : ∀ (l2 : Int32) (l3 : Int32) (h : Hp), K208 l2 l3 h → V l G 1 yX11_status cX11_status 4 (some .int) 208 [(0, va_rf l0), (2, .int l2), (3, .int l3)] [] h (qI Q)) (hw : b_X11_status_208 l0 l2 l3 h Q K208) : V l G 1 yX11_status cX11_status 4 (some .int) 208 [(0, va_rf l0), (2, .int l2), (3, .int l3)] [] h (qI Q) := by
  unfold b_X11_status_208 at hw
  refine V_iload_n 2 rfl rfl dX11_status_208 ?_
  refine V_aload_n 0 rfl rfl dX11_status_209 ?_
  refine X_getI (c := 11) (k := 2) fa_X11_205 rfl dX11_status_210 hw (fun v22 hw => ?_)
  refine V_icmp_ge (tgt := 234) dX11_status_213 (by decide) hw (fun hw => ?_) (fun hw => ?_)
  · refine V_iload_n 1 rfl rfl dX11_status_234 ?_
    exact V_iret rfl dX11_status_235 ⟨_, rfl, hw⟩
  · refine V_aload_n 0 rfl rfl dX11_status_216 ?_
    refine X_getR (c := 11) (k := 34) fa_X11_100 rfl dX11_status_217 hw (fun v23 hw => ?_)
    refine V_iload_n 2 rfl rfl dX11_status_220 ?_
    refine X_ldZ dX11_status_221 hw (fun v24 hw => ?_)
    refine V_if_eq (tgt := 228) dX11_status_222 (by decide) hw (fun hw => ?_) (fun hw => ?_)
    · exact V.sub [0, 1, 2] rfl (s_X11_status_228 hK208 hw)
    · refine V_iincL (n := 1) 1 (fun z => [(2, .int z), (0, va_rf l0), (3, .int l3)]) rfl (by rfl) (by decide) (fun _ => rfl) dX11_status_225 hw (fun x26 hw => ?_)
      exact V.sub [1, 0, 2] rfl (s_X11_status_228 hK208 hw)
theorem s_X11_status_208 {l : Launch} {G : Gh} {l0 : Option Nat} {l2 : Int32} {l3 : Int32} {h : Hp} {Q : Int32 → Hp → Prop}  (hw : l_X11_status_208 l0 l2 l3 h Q) : V l G 1 yX11_status cX11_status 4 (some .int) 208 [(0, va_rf l0), (2, .int l2), (3, .int l3)] [] h (qI Q) :=
  Lo.ind (P := fun (s : Int32 × Int32) h => V l G 1 yX11_status cX11_status 4 (some .int) 208 [(0, va_rf l0), (2, .int s.1), (3, .int s.2)] [] h (qI Q)) (fun K ih s h hw => sb_X11_status_208 (fun l2 l3 h hk => ih (l2, l3) h hk) hw) hw
theorem s_X11_status_258 {l : Launch} {G : Gh} {l0 : Option Nat} {l2 : Int32} {l3 : Int32} {h : Hp} {Q : Int32 → Hp → Prop} {K238 : Int32 → Int32 → Hp → Prop} (hK238 : ∀ (l2 : Int32) (l3 : Int32) (h : Hp), K238 l2 l3 h → V l G 1 yX11_status cX11_status 4 (some .int) 238 [(0, va_rf l0), (2, .int l2), (3, .int l3)] [] h (qI Q)) (hw : n_X11_status_258 l0 l2 l3 h Q K238) : V l G 1 yX11_status cX11_status 4 (some .int) 258 [(0, va_rf l0), (2, .int l2), (3, .int l3)] [] h (qI Q) := by
  unfold n_X11_status_258 at hw
  refine V_iincL (n := 1) 2 (fun z => [(3, .int z), (0, va_rf l0), (2, .int l2)]) rfl (by rfl) (by decide) (fun _ => rfl) dX11_status_258 hw (fun x30 hw => ?_)
  refine V_goto (tgt := 238) dX11_status_261 (by decide) ?_
  exact V.sub [1, 2, 0] rfl (hK238 _ _ _ hw)
theorem sb_X11_status_238 {l : Launch} {G : Gh} {l0 : Option Nat} {l2 : Int32} {l3 : Int32} {h : Hp} {Q : Int32 → Hp → Prop} {K238 : Int32 → Int32 → Hp → Prop} (hK238 : ∀ (l2 : Int32) (l3 : Int32) (h : Hp), K238 l2 l3 h → V l G 1 yX11_status cX11_status 4 (some .int) 238 [(0, va_rf l0), (2, .int l2), (3, .int l3)] [] h (qI Q)) (hw : b_X11_status_238 l0 l2 l3 h Q K238) : V l G 1 yX11_status cX11_status 4 (some .int) 238 [(0, va_rf l0), (2, .int l2), (3, .int l3)] [] h (qI Q) := by
  unfold b_X11_status_238 at hw
  refine V_iload_n 2 rfl rfl dX11_status_238 ?_
  refine V_aload_n 0 rfl rfl dX11_status_239 ?_
  refine X_getI (c := 11) (k := 2) fa_X11_205 rfl dX11_status_240 hw (fun v27 hw => ?_)
  refine V_icmp_ge (tgt := 264) dX11_status_243 (by decide) hw (fun hw => ?_) (fun hw => ?_)
  · refine V_iload_n 1 rfl rfl dX11_status_264 ?_
    exact V_iret rfl dX11_status_265 ⟨_, rfl, hw⟩
  · refine V_aload_n 0 rfl rfl dX11_status_246 ?_
    refine X_getR (c := 11) (k := 36) fa_X11_106 rfl dX11_status_247 hw (fun v28 hw => ?_)
    refine V_iload_n 2 rfl rfl dX11_status_250 ?_
    refine X_ldZ dX11_status_251 hw (fun v29 hw => ?_)
    refine V_if_eq (tgt := 258) dX11_status_252 (by decide) hw (fun hw => ?_) (fun hw => ?_)
    · exact V.sub [0, 1, 2] rfl (s_X11_status_258 hK238 hw)
    · refine V_iincL (n := 1) 1 (fun z => [(2, .int z), (0, va_rf l0), (3, .int l3)]) rfl (by rfl) (by decide) (fun _ => rfl) dX11_status_255 hw (fun x31 hw => ?_)
      exact V.sub [1, 0, 2] rfl (s_X11_status_258 hK238 hw)
theorem s_X11_status_238 {l : Launch} {G : Gh} {l0 : Option Nat} {l2 : Int32} {l3 : Int32} {h : Hp} {Q : Int32 → Hp → Prop}  (hw : l_X11_status_238 l0 l2 l3 h Q) : V l G 1 yX11_status cX11_status 4 (some .int) 238 [(0, va_rf l0), (2, .int l2), (3, .int l3)] [] h (qI Q) :=
  Lo.ind (P := fun (s : Int32 × Int32) h => V l G 1 yX11_status cX11_status 4 (some .int) 238 [(0, va_rf l0), (2, .int s.1), (3, .int s.2)] [] h (qI Q)) (fun K ih s h hw => sb_X11_status_238 (fun l2 l3 h hk => ih (l2, l3) h hk) hw) hw
set_option maxRecDepth 20000 in
theorem s_X11_status_22 {l : Launch} {G : Gh} {l0 : Option Nat} {l1 : Int32} {h : Hp} {Q : Int32 → Hp → Prop}  (hw : n_X11_status_22 l0 l1 h Q) : V l G 1 yX11_status cX11_status 4 (some .int) 22 [(0, va_rf l0), (1, .int l1)] [] h (qI Q) := by
  unfold n_X11_status_22 at hw
  refine V_iconst (v := 0) (by decide) dX11_status_22 ?_
  refine V_istore_n (i := 2) [(2, .int 0), (0, va_rf l0), (1, .int l1)] rfl (by decide) rfl dX11_status_23 ?_
  refine V_iload_n 2 rfl rfl dX11_status_24 ?_
  by_cases c0 : l1 = 0
  · replace hw := hw.1 c0
    refine V_tsw 84 dX11_status_25 (by rw [c0]; exact Or.inr ⟨by decide, by decide, _, rfl, by decide⟩) ?_
    refine V_aload_n 1 rfl rfl dX11_status_84 ?_
    refine X_getI (c := 11) (k := 1) fa_X11_7 rfl dX11_status_85 hw (fun v1 hw => ?_)
    exact V_iret rfl dX11_status_88 ⟨_, rfl, hw⟩
  replace hw := hw.2 c0
  by_cases c1 : l1 = 1
  · replace hw := hw.1 c1
    refine V_tsw 89 dX11_status_25 (by rw [c1]; exact Or.inr ⟨by decide, by decide, _, rfl, by decide⟩) ?_
    refine V_aload_n 1 rfl rfl dX11_status_89 ?_
    refine X_getI (c := 11) (k := 2) fa_X11_205 rfl dX11_status_90 hw (fun v2 hw => ?_)
    exact V_iret rfl dX11_status_93 ⟨_, rfl, hw⟩
  replace hw := hw.2 c1
  by_cases c2 : l1 = 2
  · replace hw := hw.1 c2
    refine V_tsw 94 dX11_status_25 (by rw [c2]; exact Or.inr ⟨by decide, by decide, _, rfl, by decide⟩) ?_
    refine V_aload_n 1 rfl rfl dX11_status_94 ?_
    refine X_getI (c := 11) (k := 3) fa_X11_252 rfl dX11_status_95 hw (fun v3 hw => ?_)
    exact V_iret rfl dX11_status_98 ⟨_, rfl, hw⟩
  replace hw := hw.2 c2
  by_cases c3 : l1 = 3
  · replace hw := hw.1 c3
    refine V_tsw 99 dX11_status_25 (by rw [c3]; exact Or.inr ⟨by decide, by decide, _, rfl, by decide⟩) ?_
    refine V_aload_n 1 rfl rfl dX11_status_99 ?_
    refine X_getI (c := 11) (k := 4) fa_X11_329 rfl dX11_status_100 hw (fun v4 hw => ?_)
    exact V_iret rfl dX11_status_103 ⟨_, rfl, hw⟩
  replace hw := hw.2 c3
  by_cases c4 : l1 = 4
  · replace hw := hw.1 c4
    refine V_tsw 104 dX11_status_25 (by rw [c4]; exact Or.inr ⟨by decide, by decide, _, rfl, by decide⟩) ?_
    refine V_aload_n 1 rfl rfl dX11_status_104 ?_
    refine X_getI (c := 11) (k := 5) fa_X11_364 rfl dX11_status_105 hw (fun v5 hw => ?_)
    exact V_iret rfl dX11_status_108 ⟨_, rfl, hw⟩
  replace hw := hw.2 c4
  by_cases c5 : l1 = 5
  · replace hw := hw.1 c5
    refine V_tsw 109 dX11_status_25 (by rw [c5]; exact Or.inr ⟨by decide, by decide, _, rfl, by decide⟩) ?_
    refine V_aload_n 1 rfl rfl dX11_status_109 ?_
    refine X_getI (c := 11) (k := 0) fa_X11_224 rfl dX11_status_110 hw (fun v6 hw => ?_)
    exact V_iret rfl dX11_status_113 ⟨_, rfl, hw⟩
  replace hw := hw.2 c5
  by_cases c6 : l1 = 6
  · replace hw := hw.1 c6
    refine V_tsw 114 dX11_status_25 (by rw [c6]; exact Or.inr ⟨by decide, by decide, _, rfl, by decide⟩) ?_
    refine V_iconst (v := 0) (by decide) dX11_status_114 ?_
    refine V_istore_n (i := 3) [(3, .int 0), (2, .int 0), (0, va_rf l0), (1, .int l1)] rfl (by decide) rfl dX11_status_115 ?_
    exact V.sub [2, 1, 0] rfl (s_X11_status_116 hw)
  replace hw := hw.2 c6
  by_cases c7 : l1 = 7
  · replace hw := hw.1 c7
    refine V_tsw 144 dX11_status_25 (by rw [c7]; exact Or.inr ⟨by decide, by decide, _, rfl, by decide⟩) ?_
    refine V_iconst (v := 0) (by decide) dX11_status_144 ?_
    refine V_istore_n (i := 3) [(3, .int 0), (2, .int 0), (0, va_rf l0), (1, .int l1)] rfl (by decide) rfl dX11_status_145 ?_
    exact V.sub [2, 1, 0] rfl (s_X11_status_146 hw)
  replace hw := hw.2 c7
  by_cases c8 : l1 = 8
  · replace hw := hw.1 c8
    refine V_tsw 175 dX11_status_25 (by rw [c8]; exact Or.inr ⟨by decide, by decide, _, rfl, by decide⟩) ?_
    refine V_iconst (v := 0) (by decide) dX11_status_175 ?_
    refine V_istore_n (i := 3) [(3, .int 0), (2, .int 0), (0, va_rf l0), (1, .int l1)] rfl (by decide) rfl dX11_status_176 ?_
    exact V.sub [2, 1, 0] rfl (s_X11_status_177 hw)
  replace hw := hw.2 c8
  by_cases c9 : l1 = 9
  · replace hw := hw.1 c9
    refine V_tsw 206 dX11_status_25 (by rw [c9]; exact Or.inr ⟨by decide, by decide, _, rfl, by decide⟩) ?_
    refine V_iconst (v := 0) (by decide) dX11_status_206 ?_
    refine V_istore_n (i := 3) [(3, .int 0), (2, .int 0), (0, va_rf l0), (1, .int l1)] rfl (by decide) rfl dX11_status_207 ?_
    exact V.sub [2, 1, 0] rfl (s_X11_status_208 hw)
  replace hw := hw.2 c9
  by_cases c10 : l1 = 10
  · replace hw := hw.1 c10
    refine V_tsw 236 dX11_status_25 (by rw [c10]; exact Or.inr ⟨by decide, by decide, _, rfl, by decide⟩) ?_
    refine V_iconst (v := 0) (by decide) dX11_status_236 ?_
    refine V_istore_n (i := 3) [(3, .int 0), (2, .int 0), (0, va_rf l0), (1, .int l1)] rfl (by decide) rfl dX11_status_237 ?_
    exact V.sub [2, 1, 0] rfl (s_X11_status_238 hw)
  replace hw := hw.2 c10
  have hout : l1.toInt < 0 ∨ 10 < l1.toInt := by
    refine sw_out (fun v h1 h2 => ?_)
    rcases (show v = 0 ∨ v = 1 ∨ v = 2 ∨ v = 3 ∨ v = 4 ∨ v = 5 ∨ v = 6 ∨ v = 7 ∨ v = 8 ∨ v = 9 ∨ v = 10 by omega) with rfl | rfl | rfl | rfl | rfl | rfl | rfl | rfl | rfl | rfl | rfl
    · exact c0
    · exact c1
    · exact c2
    · exact c3
    · exact c4
    · exact c5
    · exact c6
    · exact c7
    · exact c8
    · exact c9
    · exact c10
  refine V_tsw 266 dX11_status_25 (Or.inl ⟨hout, by decide⟩) ?_
  refine V_iconst (v := (-1)) (by decide) dX11_status_266 ?_
  exact V_iret rfl dX11_status_267 ⟨_, rfl, hw⟩
theorem s_X11_status_0 {l : Launch} {G : Gh} {l0 : Option Nat} {l1 : Int32} {h : Hp} {Q : Int32 → Hp → Prop}  (hw : n_X11_status_0 l0 l1 h Q) : V l G 1 yX11_status cX11_status 4 (some .int) 0 [(0, va_rf l0), (1, .int l1)] [] h (qI Q) := by
  unfold n_X11_status_0 at hw
  refine V_iload_n 1 rfl rfl dX11_status_0 ?_
  refine V_bipush (v := 10) (by decide) dX11_status_1 ?_
  refine V_icmp_le (tgt := 22) dX11_status_3 (by decide) hw (fun hw => ?_) (fun hw => ?_)
  · exact V.sub [0, 1] rfl (s_X11_status_22 hw)
  · refine V_iload_n 1 rfl rfl dX11_status_6 ?_
    refine V_bipush (v := 18) (by decide) dX11_status_7 ?_
    refine V_icmp_ge (tgt := 22) dX11_status_9 (by decide) hw (fun hw => ?_) (fun hw => ?_)
    · exact V.sub [0, 1] rfl (s_X11_status_22 hw)
    · refine V_aload_n 0 rfl rfl dX11_status_12 ?_
      refine X_getR (c := 11) (k := 57) fa_X11_169 rfl dX11_status_13 hw (fun v32 hw => ?_)
      refine V_iload_n 1 rfl rfl dX11_status_16 ?_
      refine V_bipush (v := 10) (by decide) dX11_status_17 ?_
      refine V_isub dX11_status_19 ?_
      refine X_ldI dX11_status_20 hw (fun v33 hw => ?_)
      exact V_iret rfl dX11_status_21 ⟨_, rfl, hw⟩
theorem r_X11_status {l : Launch} {G : Gh} (l0 : Option Nat) (l1 : Int32) {h : Hp} {Q : Int32 → Hp → Prop} (hw : w_X11_status l0 l1 h Q) : RunQ l G 1 yX11_status cX11_status 4 (some .int) [va_rf l0, .int l1] h (qI Q) :=
  V_run rfl (sl_len _ _ (by simp [cat_i, cat_l, rf_cat])) (V.sub [0, 1] (by simp only [la_r, la_i, la_l, la_n]; rfl) (s_X11_status_0 hw))
def n_X11_strike_12 (l0 : Option Nat) (h : Hp) (Q : Int32 → Hp → Prop) : Prop :=
  oV h l0 12 <| w_X11_no l0 (-1) h <| fun v1 h =>
  Q v1 h
def n_X11_strike_0 (l0 : Option Nat) (l1 : Int32) (h : Hp) (Q : Int32 → Hp → Prop) : Prop :=
  br (l1 < 0) (
    n_X11_strike_12 l0 h Q) (
    gI h l0 12 1412 fun v2 =>
    br (l1 < v2) (
      gR h l0 12 1453 fun v3 =>
      ldI h v3 l1 fun v4 =>
      br (v4 = (-1)) (
        gR h l0 12 1453 fun v5 =>
        gI h l0 12 1408 fun v6 =>
        stI h v5 l1 v6 fun h =>
        Q 1 h) (
        oV h l0 12 <| w_X11_no l0 (-6) h <| fun v7 h =>
        Q v7 h)) (
      n_X11_strike_12 l0 h Q))
def w_X11_strike (l0 : Option Nat) (l1 : Int32) (h : Hp) (Q : Int32 → Hp → Prop) : Prop := n_X11_strike_0 l0 l1 h Q
theorem s_X11_strike_12 {l : Launch} {G : Gh} {l0 : Option Nat} {h : Hp} {Q : Int32 → Hp → Prop}  (hw : n_X11_strike_12 l0 h Q) : V l G 2 yX11_strike cX11_strike 2 (some .int) 12 [(0, va_rf l0)] [] h (qI Q) := by
  unfold n_X11_strike_12 at hw
  refine V_aload_n 0 rfl rfl dX11_strike_12 ?_
  refine V_iconst (v := (-1)) (by decide) dX11_strike_13 ?_
  refine X_cV 11 [.int (-1)] [] ma_X11_212 (by decide) rfl (by decide) (by decide) rfl (by simp [cat_i, cat_l, rf_cat]) rfl dX11_strike_14 hw (r_X11_no _ _) (k_I (fun v1 h hw => ?_))
  exact V_iret rfl dX11_strike_17 ⟨_, rfl, hw⟩
theorem s_X11_strike_0 {l : Launch} {G : Gh} {l0 : Option Nat} {l1 : Int32} {h : Hp} {Q : Int32 → Hp → Prop}  (hw : n_X11_strike_0 l0 l1 h Q) : V l G 2 yX11_strike cX11_strike 2 (some .int) 0 [(0, va_rf l0), (1, .int l1)] [] h (qI Q) := by
  unfold n_X11_strike_0 at hw
  refine V_iload_n 1 rfl rfl dX11_strike_0 ?_
  refine V_if_lt (tgt := 12) dX11_strike_1 (by decide) hw (fun hw => ?_) (fun hw => ?_)
  · exact V.sub [0] rfl (s_X11_strike_12 hw)
  · refine V_iload_n 1 rfl rfl dX11_strike_4 ?_
    refine V_aload_n 0 rfl rfl dX11_strike_5 ?_
    refine X_getI (c := 11) (k := 4) fa_X11_329 rfl dX11_strike_6 hw (fun v2 hw => ?_)
    refine V_icmp_lt (tgt := 18) dX11_strike_9 (by decide) hw (fun hw => ?_) (fun hw => ?_)
    · refine V_aload_n 0 rfl rfl dX11_strike_18 ?_
      refine X_getR (c := 11) (k := 45) fa_X11_133 rfl dX11_strike_19 hw (fun v3 hw => ?_)
      refine V_iload_n 1 rfl rfl dX11_strike_22 ?_
      refine X_ldI dX11_strike_23 hw (fun v4 hw => ?_)
      refine V_iconst (v := (-1)) (by decide) dX11_strike_24 ?_
      refine V_icmp_eq (tgt := 35) dX11_strike_25 (by decide) hw (fun hw => ?_) (fun hw => ?_)
      · refine V_aload_n 0 rfl rfl dX11_strike_35 ?_
        refine X_getR (c := 11) (k := 45) fa_X11_133 rfl dX11_strike_36 hw (fun v5 hw => ?_)
        refine V_iload_n 1 rfl rfl dX11_strike_39 ?_
        refine V_aload_n 0 rfl rfl dX11_strike_40 ?_
        refine X_getI (c := 11) (k := 0) fa_X11_224 rfl dX11_strike_41 hw (fun v6 hw => ?_)
        refine X_stI dX11_strike_44 hw (fun h hw => ?_)
        refine V_iconst (v := 1) (by decide) dX11_strike_45 ?_
        exact V_iret rfl dX11_strike_46 ⟨_, rfl, hw⟩
      · refine V_aload_n 0 rfl rfl dX11_strike_28 ?_
        refine V_bipush (v := (-6)) (by decide) dX11_strike_29 ?_
        refine X_cV 11 [.int (-6)] [] ma_X11_212 (by decide) rfl (by decide) (by decide) rfl (by simp [cat_i, cat_l, rf_cat]) rfl dX11_strike_31 hw (r_X11_no _ _) (k_I (fun v7 h hw => ?_))
        exact V_iret rfl dX11_strike_34 ⟨_, rfl, hw⟩
    · exact V.sub [0] rfl (s_X11_strike_12 hw)
theorem r_X11_strike {l : Launch} {G : Gh} (l0 : Option Nat) (l1 : Int32) {h : Hp} {Q : Int32 → Hp → Prop} (hw : w_X11_strike l0 l1 h Q) : RunQ l G 2 yX11_strike cX11_strike 2 (some .int) [va_rf l0, .int l1] h (qI Q) :=
  V_run rfl (sl_len _ _ (by simp [cat_i, cat_l, rf_cat])) (V.sub [0, 1] (by simp only [la_r, la_i, la_l, la_n]; rfl) (s_X11_strike_0 hw))
def n_X11_tear_60 (l0 : Option Nat) (h : Hp) (Q : Int32 → Hp → Prop) : Prop :=
  oV h l0 12 <| w_X11_no l0 (-6) h <| fun v5 h =>
  Q v5 h
def n_X11_tear_124 (l0 : Option Nat) (l1 : Int32) (l2 : Int32) (l3 : Int32) (l4 : Int32) (l5 : Int32) (h : Hp) (Q : Int32 → Hp → Prop) (K82 : Int32 → Int32 → Int32 → Hp → Prop) : Prop :=
  lt (l5 + 1) fun x20 =>
  K82 l3 l4 x20 h
def b_X11_tear_82 (l0 : Option Nat) (l1 : Int32) (l2 : Int32) (l3 : Int32) (l4 : Int32) (l5 : Int32) (h : Hp) (Q : Int32 → Hp → Prop) (K82 : Int32 → Int32 → Int32 → Hp → Prop) : Prop :=
  gI h l0 12 1410 fun v14 =>
  br (v14 ≤ l5) (
    Q l4 h) (
    gR h l0 12 1430 fun v15 =>
    ldI h v15 l5 fun v16 =>
    br (v16 = l1) (
      lt (l3 + 1) fun x17 =>
      br (l2 ≤ l3) (
        gR h l0 12 1443 fun v18 =>
        stZ h v18 l5 1 fun h =>
        lt (l4 + 1) fun x19 =>
        n_X11_tear_124 l0 l1 l2 x17 x19 l5 h Q K82) (
        n_X11_tear_124 l0 l1 l2 x17 l4 l5 h Q K82)) (
      n_X11_tear_124 l0 l1 l2 l3 l4 l5 h Q K82))
def l_X11_tear_82 (l0 : Option Nat) (l1 : Int32) (l2 : Int32) (l3 : Int32) (l4 : Int32) (l5 : Int32) (h : Hp) (Q : Int32 → Hp → Prop) : Prop :=
  Lo (fun (K : Int32 × Int32 × Int32 → Hp → Prop) s h => b_X11_tear_82 l0 l1 l2 s.1 s.2.1 s.2.2 h Q (fun l3 l4 l5 h => K (l3, l4, l5) h)) (l3, l4, l5) h
def n_X11_tear_0 (l0 : Option Nat) (l1 : Int32) (l2 : Int32) (h : Hp) (Q : Int32 → Hp → Prop) : Prop :=
  oV h l0 12 <| w_X11_isPlace l0 l1 h <| fun v1 h =>
  br (v1 = 0) (
    oV h l0 12 <| w_X11_no l0 (-1) h <| fun v2 h =>
    Q v2 h) (
    gR h l0 12 1415 fun v3 =>
    ldI h v3 l1 fun v4 =>
    br (v4 = 0) (
      br (l2 < 0) (
        n_X11_tear_60 l0 h Q) (
        oV h l0 12 <| w_X11_bookSize l0 l1 h <| fun v6 h =>
        br (v6 < l2) (
          n_X11_tear_60 l0 h Q) (
          gR h l0 12 1420 fun v7 =>
          ldI h v7 l1 fun v8 =>
          br (v8 = (-1)) (
            gR h l0 12 1423 fun v9 =>
            gR h l0 12 1416 fun v10 =>
            ldI h v10 l1 fun v11 =>
            ldZ h v9 v11 fun v12 =>
            br (v12 = 0) (
              gR h l0 12 1420 fun v13 =>
              stI h v13 l1 l2 fun h =>
              l_X11_tear_82 l0 l1 l2 0 0 0 h Q) (
              n_X11_tear_60 l0 h Q)) (
            n_X11_tear_60 l0 h Q)))) (
      n_X11_tear_60 l0 h Q))
def w_X11_tear (l0 : Option Nat) (l1 : Int32) (l2 : Int32) (h : Hp) (Q : Int32 → Hp → Prop) : Prop := n_X11_tear_0 l0 l1 l2 h Q
theorem s_X11_tear_60 {l : Launch} {G : Gh} {l0 : Option Nat} {h : Hp} {Q : Int32 → Hp → Prop}  (hw : n_X11_tear_60 l0 h Q) : V l G 2 yX11_tear cX11_tear 6 (some .int) 60 [(0, va_rf l0)] [] h (qI Q) := by
  unfold n_X11_tear_60 at hw
  refine V_aload_n 0 rfl rfl dX11_tear_60 ?_
  refine V_bipush (v := (-6)) (by decide) dX11_tear_61 ?_
  refine X_cV 11 [.int (-6)] [] ma_X11_212 (by decide) rfl (by decide) (by decide) rfl (by simp [cat_i, cat_l, rf_cat]) rfl dX11_tear_63 hw (r_X11_no _ _) (k_I (fun v5 h hw => ?_))
  exact V_iret rfl dX11_tear_66 ⟨_, rfl, hw⟩
theorem s_X11_tear_124 {l : Launch} {G : Gh} {l0 : Option Nat} {l1 : Int32} {l2 : Int32} {l3 : Int32} {l4 : Int32} {l5 : Int32} {h : Hp} {Q : Int32 → Hp → Prop} {K82 : Int32 → Int32 → Int32 → Hp → Prop} (hK82 : ∀ (l3 : Int32) (l4 : Int32) (l5 : Int32) (h : Hp), K82 l3 l4 l5 h → V l G 2 yX11_tear cX11_tear 6 (some .int) 82 [(0, va_rf l0), (1, .int l1), (2, .int l2), (3, .int l3), (4, .int l4), (5, .int l5)] [] h (qI Q)) (hw : n_X11_tear_124 l0 l1 l2 l3 l4 l5 h Q K82) : V l G 2 yX11_tear cX11_tear 6 (some .int) 124 [(0, va_rf l0), (1, .int l1), (2, .int l2), (3, .int l3), (4, .int l4), (5, .int l5)] [] h (qI Q) := by
  unfold n_X11_tear_124 at hw
  refine V_iincL (n := 1) 5 (fun z => [(5, .int z), (0, va_rf l0), (1, .int l1), (2, .int l2), (3, .int l3), (4, .int l4)]) rfl (by rfl) (by decide) (fun _ => rfl) dX11_tear_124 hw (fun x20 hw => ?_)
  refine V_goto (tgt := 82) dX11_tear_127 (by decide) ?_
  exact V.sub [1, 2, 3, 4, 5, 0] rfl (hK82 _ _ _ _ hw)
theorem sb_X11_tear_82 {l : Launch} {G : Gh} {l0 : Option Nat} {l1 : Int32} {l2 : Int32} {l3 : Int32} {l4 : Int32} {l5 : Int32} {h : Hp} {Q : Int32 → Hp → Prop} {K82 : Int32 → Int32 → Int32 → Hp → Prop} (hK82 : ∀ (l3 : Int32) (l4 : Int32) (l5 : Int32) (h : Hp), K82 l3 l4 l5 h → V l G 2 yX11_tear cX11_tear 6 (some .int) 82 [(0, va_rf l0), (1, .int l1), (2, .int l2), (3, .int l3), (4, .int l4), (5, .int l5)] [] h (qI Q)) (hw : b_X11_tear_82 l0 l1 l2 l3 l4 l5 h Q K82) : V l G 2 yX11_tear cX11_tear 6 (some .int) 82 [(0, va_rf l0), (1, .int l1), (2, .int l2), (3, .int l3), (4, .int l4), (5, .int l5)] [] h (qI Q) := by
  unfold b_X11_tear_82 at hw
  refine V_iload 5 rfl dX11_tear_82 ?_
  refine V_aload_n 0 rfl rfl dX11_tear_84 ?_
  refine X_getI (c := 11) (k := 2) fa_X11_205 rfl dX11_tear_85 hw (fun v14 hw => ?_)
  refine V_icmp_ge (tgt := 130) dX11_tear_88 (by decide) hw (fun hw => ?_) (fun hw => ?_)
  · refine V_iload 4 rfl dX11_tear_130 ?_
    exact V_iret rfl dX11_tear_132 ⟨_, rfl, hw⟩
  · refine V_aload_n 0 rfl rfl dX11_tear_91 ?_
    refine X_getR (c := 11) (k := 22) fa_X11_64 rfl dX11_tear_92 hw (fun v15 hw => ?_)
    refine V_iload 5 rfl dX11_tear_95 ?_
    refine X_ldI dX11_tear_97 hw (fun v16 hw => ?_)
    refine V_iload_n 1 rfl rfl dX11_tear_98 ?_
    refine V_icmp_ne (tgt := 124) dX11_tear_99 (by decide) hw (fun hw => ?_) (fun hw => ?_)
    · refine V_iload_n 3 rfl rfl dX11_tear_102 ?_
      refine V_iincL (n := 1) 3 (fun z => [(3, .int z), (0, va_rf l0), (1, .int l1), (2, .int l2), (4, .int l4), (5, .int l5)]) rfl (by rfl) (by decide) (fun _ => rfl) dX11_tear_103 hw (fun x17 hw => ?_)
      refine V_iload_n 3 rfl rfl dX11_tear_106 ?_
      refine V_icmp_ge (tgt := 113) dX11_tear_107 (by decide) hw (fun hw => ?_) (fun hw => ?_)
      · refine V_aload_n 1 rfl rfl dX11_tear_113 ?_
        refine X_getR (c := 11) (k := 35) fa_X11_103 rfl dX11_tear_114 hw (fun v18 hw => ?_)
        refine V_iload 5 rfl dX11_tear_117 ?_
        refine V_iconst (v := 1) (by decide) dX11_tear_119 ?_
        refine X_stZ dX11_tear_120 hw (fun h hw => ?_)
        refine V_iincL (n := 1) 4 (fun z => [(4, .int z), (3, .int x17), (0, va_rf l0), (1, .int l1), (2, .int l2), (5, .int l5)]) rfl (by rfl) (by decide) (fun _ => rfl) dX11_tear_121 hw (fun x19 hw => ?_)
        exact V.sub [2, 3, 4, 1, 0, 5] rfl (s_X11_tear_124 hK82 hw)
      · refine V_goto (tgt := 124) dX11_tear_110 (by decide) ?_
        exact V.sub [1, 2, 3, 0, 4, 5] rfl (s_X11_tear_124 hK82 hw)
    · exact V.sub [0, 1, 2, 3, 4, 5] rfl (s_X11_tear_124 hK82 hw)
theorem s_X11_tear_82 {l : Launch} {G : Gh} {l0 : Option Nat} {l1 : Int32} {l2 : Int32} {l3 : Int32} {l4 : Int32} {l5 : Int32} {h : Hp} {Q : Int32 → Hp → Prop}  (hw : l_X11_tear_82 l0 l1 l2 l3 l4 l5 h Q) : V l G 2 yX11_tear cX11_tear 6 (some .int) 82 [(0, va_rf l0), (1, .int l1), (2, .int l2), (3, .int l3), (4, .int l4), (5, .int l5)] [] h (qI Q) :=
  Lo.ind (P := fun (s : Int32 × Int32 × Int32) h => V l G 2 yX11_tear cX11_tear 6 (some .int) 82 [(0, va_rf l0), (1, .int l1), (2, .int l2), (3, .int s.1), (4, .int s.2.1), (5, .int s.2.2)] [] h (qI Q)) (fun K ih s h hw => sb_X11_tear_82 (fun l3 l4 l5 h hk => ih (l3, l4, l5) h hk) hw) hw
set_option maxRecDepth 20000 in
theorem s_X11_tear_0 {l : Launch} {G : Gh} {l0 : Option Nat} {l1 : Int32} {l2 : Int32} {h : Hp} {Q : Int32 → Hp → Prop}  (hw : n_X11_tear_0 l0 l1 l2 h Q) : V l G 2 yX11_tear cX11_tear 6 (some .int) 0 [(0, va_rf l0), (1, .int l1), (2, .int l2)] [] h (qI Q) := by
  unfold n_X11_tear_0 at hw
  refine V_aload_n 0 rfl rfl dX11_tear_0 ?_
  refine V_iload_n 1 rfl rfl dX11_tear_1 ?_
  refine X_cV 11 [.int l1] [] ma_X11_208 (by decide) rfl (by decide) (by decide) rfl (by simp [cat_i, cat_l, rf_cat]) rfl dX11_tear_2 hw (r_X11_isPlace _ _) (k_I (fun v1 h hw => ?_))
  refine V_if_ne (tgt := 14) dX11_tear_5 (by decide) hw (fun hw => ?_) (fun hw => ?_)
  · refine V_aload_n 0 rfl rfl dX11_tear_8 ?_
    refine V_iconst (v := (-1)) (by decide) dX11_tear_9 ?_
    refine X_cV 11 [.int (-1)] [] ma_X11_212 (by decide) rfl (by decide) (by decide) rfl (by simp [cat_i, cat_l, rf_cat]) rfl dX11_tear_10 hw (r_X11_no _ _) (k_I (fun v2 h hw => ?_))
    exact V_iret rfl dX11_tear_13 ⟨_, rfl, hw⟩
  · refine V_aload_n 0 rfl rfl dX11_tear_14 ?_
    refine X_getR (c := 11) (k := 7) fa_X11_16 rfl dX11_tear_15 hw (fun v3 hw => ?_)
    refine V_iload_n 1 rfl rfl dX11_tear_18 ?_
    refine X_ldI dX11_tear_19 hw (fun v4 hw => ?_)
    refine V_if_ne (tgt := 60) dX11_tear_20 (by decide) hw (fun hw => ?_) (fun hw => ?_)
    · refine V_iload_n 2 rfl rfl dX11_tear_23 ?_
      refine V_if_lt (tgt := 60) dX11_tear_24 (by decide) hw (fun hw => ?_) (fun hw => ?_)
      · exact V.sub [0] rfl (s_X11_tear_60 hw)
      · refine V_iload_n 2 rfl rfl dX11_tear_27 ?_
        refine V_aload_n 0 rfl rfl dX11_tear_28 ?_
        refine V_iload_n 1 rfl rfl dX11_tear_29 ?_
        refine X_cV 11 [.int l1] [.int l2] ma_X11_234 (by decide) rfl (by decide) (by decide) rfl (by simp [cat_i, cat_l, rf_cat]) rfl dX11_tear_30 hw (r_X11_bookSize _ _) (k_I (fun v6 h hw => ?_))
        refine V_icmp_gt (tgt := 60) dX11_tear_33 (by decide) hw (fun hw => ?_) (fun hw => ?_)
        · exact V.sub [0] rfl (s_X11_tear_60 hw)
        · refine V_aload_n 0 rfl rfl dX11_tear_36 ?_
          refine X_getR (c := 11) (k := 12) fa_X11_32 rfl dX11_tear_37 hw (fun v7 hw => ?_)
          refine V_iload_n 1 rfl rfl dX11_tear_40 ?_
          refine X_ldI dX11_tear_41 hw (fun v8 hw => ?_)
          refine V_iconst (v := (-1)) (by decide) dX11_tear_42 ?_
          refine V_icmp_ne (tgt := 60) dX11_tear_43 (by decide) hw (fun hw => ?_) (fun hw => ?_)
          · refine V_aload_n 0 rfl rfl dX11_tear_46 ?_
            refine X_getR (c := 11) (k := 15) fa_X11_41 rfl dX11_tear_47 hw (fun v9 hw => ?_)
            refine V_aload_n 0 rfl rfl dX11_tear_50 ?_
            refine X_getR (c := 11) (k := 8) fa_X11_20 rfl dX11_tear_51 hw (fun v10 hw => ?_)
            refine V_iload_n 1 rfl rfl dX11_tear_54 ?_
            refine X_ldI dX11_tear_55 hw (fun v11 hw => ?_)
            refine X_ldZ dX11_tear_56 hw (fun v12 hw => ?_)
            refine V_if_eq (tgt := 67) dX11_tear_57 (by decide) hw (fun hw => ?_) (fun hw => ?_)
            · refine V_aload_n 0 rfl rfl dX11_tear_67 ?_
              refine X_getR (c := 11) (k := 12) fa_X11_32 rfl dX11_tear_68 hw (fun v13 hw => ?_)
              refine V_iload_n 1 rfl rfl dX11_tear_71 ?_
              refine V_iload_n 2 rfl rfl dX11_tear_72 ?_
              refine X_stI dX11_tear_73 hw (fun h hw => ?_)
              refine V_iconst (v := 0) (by decide) dX11_tear_74 ?_
              refine V_istore_n (i := 3) [(3, .int 0), (0, va_rf l0), (1, .int l1), (2, .int l2)] rfl (by decide) rfl dX11_tear_75 ?_
              refine V_iconst (v := 0) (by decide) dX11_tear_76 ?_
              refine V_istore (i := 4) [(4, .int 0), (3, .int 0), (0, va_rf l0), (1, .int l1), (2, .int l2)] (by decide) rfl dX11_tear_77 ?_
              refine V_iconst (v := 0) (by decide) dX11_tear_79 ?_
              refine V_istore (i := 5) [(5, .int 0), (4, .int 0), (3, .int 0), (0, va_rf l0), (1, .int l1), (2, .int l2)] (by decide) rfl dX11_tear_80 ?_
              exact V.sub [3, 4, 5, 2, 1, 0] rfl (s_X11_tear_82 hw)
            · exact V.sub [0] rfl (s_X11_tear_60 hw)
          · exact V.sub [0] rfl (s_X11_tear_60 hw)
    · exact V.sub [0] rfl (s_X11_tear_60 hw)
theorem r_X11_tear {l : Launch} {G : Gh} (l0 : Option Nat) (l1 : Int32) (l2 : Int32) {h : Hp} {Q : Int32 → Hp → Prop} (hw : w_X11_tear l0 l1 l2 h Q) : RunQ l G 2 yX11_tear cX11_tear 6 (some .int) [va_rf l0, .int l1, .int l2] h (qI Q) :=
  V_run rfl (sl_len _ _ (by simp [cat_i, cat_l, rf_cat])) (V.sub [0, 1, 2] (by simp only [la_r, la_i, la_l, la_n]; rfl) (s_X11_tear_0 hw))
def n_X11_unbind_34 (l0 : Option Nat) (h : Hp) (Q : Int32 → Hp → Prop) : Prop :=
  oV h l0 12 <| w_X11_no l0 (-6) h <| fun v14 h =>
  Q v14 h
def n_X11_unbind_0 (l0 : Option Nat) (l1 : Int32) (h : Hp) (Q : Int32 → Hp → Prop) : Prop :=
  oV h l0 12 <| w_X11_isAsk l0 l1 h <| fun v1 h =>
  br (v1 = 0) (
    oV h l0 12 <| w_X11_no l0 (-1) h <| fun v2 h =>
    Q v2 h) (
    gR h l0 12 1435 fun v3 =>
    ldI h v3 l1 fun v4 =>
    br (v4 = 3) (
      gR h l0 12 1440 fun v5 =>
      ldI h v5 l1 fun v6 =>
      br (v6 = (-1)) (
        gR h l0 12 1440 fun v7 =>
        gI h l0 12 1408 fun v8 =>
        gR h l0 12 1430 fun v9 =>
        ldI h v9 l1 fun v10 =>
        oV h l0 12 <| w_X11_pathOf l0 v10 0 h <| fun v11 h =>
        stI h v7 l1 (v8 + v11) fun h =>
        gR h l0 12 1440 fun v12 =>
        ldI h v12 l1 fun v13 =>
        Q v13 h) (
        n_X11_unbind_34 l0 h Q)) (
      n_X11_unbind_34 l0 h Q))
def w_X11_unbind (l0 : Option Nat) (l1 : Int32) (h : Hp) (Q : Int32 → Hp → Prop) : Prop := n_X11_unbind_0 l0 l1 h Q
theorem s_X11_unbind_34 {l : Launch} {G : Gh} {l0 : Option Nat} {h : Hp} {Q : Int32 → Hp → Prop}  (hw : n_X11_unbind_34 l0 h Q) : V l G 2 yX11_unbind cX11_unbind 2 (some .int) 34 [(0, va_rf l0)] [] h (qI Q) := by
  unfold n_X11_unbind_34 at hw
  refine V_aload_n 0 rfl rfl dX11_unbind_34 ?_
  refine V_bipush (v := (-6)) (by decide) dX11_unbind_35 ?_
  refine X_cV 11 [.int (-6)] [] ma_X11_212 (by decide) rfl (by decide) (by decide) rfl (by simp [cat_i, cat_l, rf_cat]) rfl dX11_unbind_37 hw (r_X11_no _ _) (k_I (fun v14 h hw => ?_))
  exact V_iret rfl dX11_unbind_40 ⟨_, rfl, hw⟩
set_option maxRecDepth 20000 in
theorem s_X11_unbind_0 {l : Launch} {G : Gh} {l0 : Option Nat} {l1 : Int32} {h : Hp} {Q : Int32 → Hp → Prop}  (hw : n_X11_unbind_0 l0 l1 h Q) : V l G 2 yX11_unbind cX11_unbind 2 (some .int) 0 [(0, va_rf l0), (1, .int l1)] [] h (qI Q) := by
  unfold n_X11_unbind_0 at hw
  refine V_aload_n 0 rfl rfl dX11_unbind_0 ?_
  refine V_iload_n 1 rfl rfl dX11_unbind_1 ?_
  refine X_cV 11 [.int l1] [] ma_X11_240 (by decide) rfl (by decide) (by decide) rfl (by simp [cat_i, cat_l, rf_cat]) rfl dX11_unbind_2 hw (r_X11_isAsk _ _) (k_I (fun v1 h hw => ?_))
  refine V_if_ne (tgt := 14) dX11_unbind_5 (by decide) hw (fun hw => ?_) (fun hw => ?_)
  · refine V_aload_n 0 rfl rfl dX11_unbind_8 ?_
    refine V_iconst (v := (-1)) (by decide) dX11_unbind_9 ?_
    refine X_cV 11 [.int (-1)] [] ma_X11_212 (by decide) rfl (by decide) (by decide) rfl (by simp [cat_i, cat_l, rf_cat]) rfl dX11_unbind_10 hw (r_X11_no _ _) (k_I (fun v2 h hw => ?_))
    exact V_iret rfl dX11_unbind_13 ⟨_, rfl, hw⟩
  · refine V_aload_n 0 rfl rfl dX11_unbind_14 ?_
    refine X_getR (c := 11) (k := 27) fa_X11_79 rfl dX11_unbind_15 hw (fun v3 hw => ?_)
    refine V_iload_n 1 rfl rfl dX11_unbind_18 ?_
    refine X_ldI dX11_unbind_19 hw (fun v4 hw => ?_)
    refine V_iconst (v := 3) (by decide) dX11_unbind_20 ?_
    refine V_icmp_ne (tgt := 34) dX11_unbind_21 (by decide) hw (fun hw => ?_) (fun hw => ?_)
    · refine V_aload_n 0 rfl rfl dX11_unbind_24 ?_
      refine X_getR (c := 11) (k := 32) fa_X11_94 rfl dX11_unbind_25 hw (fun v5 hw => ?_)
      refine V_iload_n 1 rfl rfl dX11_unbind_28 ?_
      refine X_ldI dX11_unbind_29 hw (fun v6 hw => ?_)
      refine V_iconst (v := (-1)) (by decide) dX11_unbind_30 ?_
      refine V_icmp_eq (tgt := 41) dX11_unbind_31 (by decide) hw (fun hw => ?_) (fun hw => ?_)
      · refine V_aload_n 0 rfl rfl dX11_unbind_41 ?_
        refine X_getR (c := 11) (k := 32) fa_X11_94 rfl dX11_unbind_42 hw (fun v7 hw => ?_)
        refine V_iload_n 1 rfl rfl dX11_unbind_45 ?_
        refine V_aload_n 0 rfl rfl dX11_unbind_46 ?_
        refine X_getI (c := 11) (k := 0) fa_X11_224 rfl dX11_unbind_47 hw (fun v8 hw => ?_)
        refine V_aload_n 0 rfl rfl dX11_unbind_50 ?_
        refine V_aload_n 0 rfl rfl dX11_unbind_51 ?_
        refine X_getR (c := 11) (k := 22) fa_X11_64 rfl dX11_unbind_52 hw (fun v9 hw => ?_)
        refine V_iload_n 1 rfl rfl dX11_unbind_55 ?_
        refine X_ldI dX11_unbind_56 hw (fun v10 hw => ?_)
        refine V_iconst (v := 0) (by decide) dX11_unbind_57 ?_
        refine X_cV 11 [.int v10, .int 0] [.int v8, .int l1, va_rf v7] ma_X11_220 (by decide) rfl (by decide) (by decide) rfl (by simp [cat_i, cat_l, rf_cat]) rfl dX11_unbind_58 hw (r_X11_pathOf _ _ _) (k_I (fun v11 h hw => ?_))
        refine V_iadd dX11_unbind_61 ?_
        refine X_stI dX11_unbind_62 hw (fun h hw => ?_)
        refine V_aload_n 0 rfl rfl dX11_unbind_63 ?_
        refine X_getR (c := 11) (k := 32) fa_X11_94 rfl dX11_unbind_64 hw (fun v12 hw => ?_)
        refine V_iload_n 1 rfl rfl dX11_unbind_67 ?_
        refine X_ldI dX11_unbind_68 hw (fun v13 hw => ?_)
        exact V_iret rfl dX11_unbind_69 ⟨_, rfl, hw⟩
      · exact V.sub [0] rfl (s_X11_unbind_34 hw)
    · exact V.sub [0] rfl (s_X11_unbind_34 hw)
theorem r_X11_unbind {l : Launch} {G : Gh} (l0 : Option Nat) (l1 : Int32) {h : Hp} {Q : Int32 → Hp → Prop} (hw : w_X11_unbind l0 l1 h Q) : RunQ l G 2 yX11_unbind cX11_unbind 2 (some .int) [va_rf l0, .int l1] h (qI Q) :=
  V_run rfl (sl_len _ _ (by simp [cat_i, cat_l, rf_cat])) (V.sub [0, 1] (by simp only [la_r, la_i, la_l, la_n]; rfl) (s_X11_unbind_0 hw))
def n_X11_unchoose_83 (l3 : Int32) (h : Hp) (Q : Int32 → Hp → Prop) : Prop :=
  Q l3 h
def b_X11_unchoose_43 (l0 : Option Nat) (l2 : Int32) (l3 : Int32) (l4 : Int32) (h : Hp) (Q : Int32 → Hp → Prop) (K43 : Int32 → Int32 → Hp → Prop) : Prop :=
  br (l4 = (-1)) (
    n_X11_unchoose_83 l3 h Q) (
    gR h l0 12 1421 fun v8 =>
    ldI h v8 l4 fun v9 =>
    br (v9 = l2) (
      gR h l0 12 1421 fun v10 =>
      stI h v10 l4 (-1) fun h =>
      lt (l3 + 1) fun x11 =>
      gR h l0 12 1416 fun v12 =>
      ldI h v12 l4 fun v13 =>
      K43 x11 v13 h) (
      n_X11_unchoose_83 l3 h Q))
def l_X11_unchoose_43 (l0 : Option Nat) (l2 : Int32) (l3 : Int32) (l4 : Int32) (h : Hp) (Q : Int32 → Hp → Prop) : Prop :=
  Lo (fun (K : Int32 × Int32 → Hp → Prop) s h => b_X11_unchoose_43 l0 l2 s.1 s.2 h Q (fun l3 l4 h => K (l3, l4) h)) (l3, l4) h
def n_X11_unchoose_0 (l0 : Option Nat) (l1 : Int32) (h : Hp) (Q : Int32 → Hp → Prop) : Prop :=
  oV h l0 12 <| w_X11_isPlace l0 l1 h <| fun v1 h =>
  br (v1 = 0) (
    oV h l0 12 <| w_X11_no l0 (-1) h <| fun v2 h =>
    Q v2 h) (
    gR h l0 12 1421 fun v3 =>
    ldI h v3 l1 fun v4 =>
    br (v4 = (-1)) (
      oV h l0 12 <| w_X11_no l0 (-6) h <| fun v5 h =>
      Q v5 h) (
      gR h l0 12 1421 fun v6 =>
      ldI h v6 l1 fun v7 =>
      l_X11_unchoose_43 l0 v7 0 l1 h Q))
def w_X11_unchoose (l0 : Option Nat) (l1 : Int32) (h : Hp) (Q : Int32 → Hp → Prop) : Prop := n_X11_unchoose_0 l0 l1 h Q
theorem s_X11_unchoose_83 {l : Launch} {G : Gh} {l3 : Int32} {h : Hp} {Q : Int32 → Hp → Prop}  (hw : n_X11_unchoose_83 l3 h Q) : V l G 2 yX11_unchoose cX11_unchoose 5 (some .int) 83 [(3, .int l3)] [] h (qI Q) := by
  unfold n_X11_unchoose_83 at hw
  refine V_iload_n 0 rfl rfl dX11_unchoose_83 ?_
  exact V_iret rfl dX11_unchoose_84 ⟨_, rfl, hw⟩
theorem sb_X11_unchoose_43 {l : Launch} {G : Gh} {l0 : Option Nat} {l2 : Int32} {l3 : Int32} {l4 : Int32} {h : Hp} {Q : Int32 → Hp → Prop} {K43 : Int32 → Int32 → Hp → Prop} (hK43 : ∀ (l3 : Int32) (l4 : Int32) (h : Hp), K43 l3 l4 h → V l G 2 yX11_unchoose cX11_unchoose 5 (some .int) 43 [(0, va_rf l0), (2, .int l2), (3, .int l3), (4, .int l4)] [] h (qI Q)) (hw : b_X11_unchoose_43 l0 l2 l3 l4 h Q K43) : V l G 2 yX11_unchoose cX11_unchoose 5 (some .int) 43 [(0, va_rf l0), (2, .int l2), (3, .int l3), (4, .int l4)] [] h (qI Q) := by
  unfold b_X11_unchoose_43 at hw
  refine V_iload 3 rfl dX11_unchoose_43 ?_
  refine V_iconst (v := (-1)) (by decide) dX11_unchoose_45 ?_
  refine V_icmp_eq (tgt := 83) dX11_unchoose_46 (by decide) hw (fun hw => ?_) (fun hw => ?_)
  · exact V.sub [2] rfl (s_X11_unchoose_83 hw)
  · refine V_aload_n 0 rfl rfl dX11_unchoose_49 ?_
    refine X_getR (c := 11) (k := 13) fa_X11_35 rfl dX11_unchoose_50 hw (fun v8 hw => ?_)
    refine V_iload 3 rfl dX11_unchoose_53 ?_
    refine X_ldI dX11_unchoose_55 hw (fun v9 hw => ?_)
    refine V_iload_n 1 rfl rfl dX11_unchoose_56 ?_
    refine V_icmp_ne (tgt := 83) dX11_unchoose_57 (by decide) hw (fun hw => ?_) (fun hw => ?_)
    · refine V_aload_n 0 rfl rfl dX11_unchoose_60 ?_
      refine X_getR (c := 11) (k := 13) fa_X11_35 rfl dX11_unchoose_61 hw (fun v10 hw => ?_)
      refine V_iload 3 rfl dX11_unchoose_64 ?_
      refine V_iconst (v := (-1)) (by decide) dX11_unchoose_66 ?_
      refine X_stI dX11_unchoose_67 hw (fun h hw => ?_)
      refine V_iincL (n := 1) 2 (fun z => [(3, .int z), (0, va_rf l0), (2, .int l2), (4, .int l4)]) rfl (by rfl) (by decide) (fun _ => rfl) dX11_unchoose_68 hw (fun x11 hw => ?_)
      refine V_aload_n 1 rfl rfl dX11_unchoose_71 ?_
      refine X_getR (c := 11) (k := 8) fa_X11_20 rfl dX11_unchoose_72 hw (fun v12 hw => ?_)
      refine V_iload 3 rfl dX11_unchoose_75 ?_
      refine X_ldI dX11_unchoose_77 hw (fun v13 hw => ?_)
      refine V_istore (i := 4) [(4, .int v13), (3, .int x11), (0, va_rf l0), (2, .int l2)] (by decide) rfl dX11_unchoose_78 ?_
      refine V_goto (tgt := 43) dX11_unchoose_80 (by decide) ?_
      exact V.sub [2, 3, 1, 0] rfl (hK43 _ _ _ hw)
    · exact V.sub [2] rfl (s_X11_unchoose_83 hw)
theorem s_X11_unchoose_43 {l : Launch} {G : Gh} {l0 : Option Nat} {l2 : Int32} {l3 : Int32} {l4 : Int32} {h : Hp} {Q : Int32 → Hp → Prop}  (hw : l_X11_unchoose_43 l0 l2 l3 l4 h Q) : V l G 2 yX11_unchoose cX11_unchoose 5 (some .int) 43 [(0, va_rf l0), (2, .int l2), (3, .int l3), (4, .int l4)] [] h (qI Q) :=
  Lo.ind (P := fun (s : Int32 × Int32) h => V l G 2 yX11_unchoose cX11_unchoose 5 (some .int) 43 [(0, va_rf l0), (2, .int l2), (3, .int s.1), (4, .int s.2)] [] h (qI Q)) (fun K ih s h hw => sb_X11_unchoose_43 (fun l3 l4 h hk => ih (l3, l4) h hk) hw) hw
theorem s_X11_unchoose_0 {l : Launch} {G : Gh} {l0 : Option Nat} {l1 : Int32} {h : Hp} {Q : Int32 → Hp → Prop}  (hw : n_X11_unchoose_0 l0 l1 h Q) : V l G 2 yX11_unchoose cX11_unchoose 5 (some .int) 0 [(0, va_rf l0), (1, .int l1)] [] h (qI Q) := by
  unfold n_X11_unchoose_0 at hw
  refine V_aload_n 0 rfl rfl dX11_unchoose_0 ?_
  refine V_iload_n 1 rfl rfl dX11_unchoose_1 ?_
  refine X_cV 11 [.int l1] [] ma_X11_208 (by decide) rfl (by decide) (by decide) rfl (by simp [cat_i, cat_l, rf_cat]) rfl dX11_unchoose_2 hw (r_X11_isPlace _ _) (k_I (fun v1 h hw => ?_))
  refine V_if_ne (tgt := 14) dX11_unchoose_5 (by decide) hw (fun hw => ?_) (fun hw => ?_)
  · refine V_aload_n 0 rfl rfl dX11_unchoose_8 ?_
    refine V_iconst (v := (-1)) (by decide) dX11_unchoose_9 ?_
    refine X_cV 11 [.int (-1)] [] ma_X11_212 (by decide) rfl (by decide) (by decide) rfl (by simp [cat_i, cat_l, rf_cat]) rfl dX11_unchoose_10 hw (r_X11_no _ _) (k_I (fun v2 h hw => ?_))
    exact V_iret rfl dX11_unchoose_13 ⟨_, rfl, hw⟩
  · refine V_aload_n 0 rfl rfl dX11_unchoose_14 ?_
    refine X_getR (c := 11) (k := 13) fa_X11_35 rfl dX11_unchoose_15 hw (fun v3 hw => ?_)
    refine V_iload_n 1 rfl rfl dX11_unchoose_18 ?_
    refine X_ldI dX11_unchoose_19 hw (fun v4 hw => ?_)
    refine V_iconst (v := (-1)) (by decide) dX11_unchoose_20 ?_
    refine V_icmp_ne (tgt := 31) dX11_unchoose_21 (by decide) hw (fun hw => ?_) (fun hw => ?_)
    · refine V_aload_n 0 rfl rfl dX11_unchoose_24 ?_
      refine V_bipush (v := (-6)) (by decide) dX11_unchoose_25 ?_
      refine X_cV 11 [.int (-6)] [] ma_X11_212 (by decide) rfl (by decide) (by decide) rfl (by simp [cat_i, cat_l, rf_cat]) rfl dX11_unchoose_27 hw (r_X11_no _ _) (k_I (fun v5 h hw => ?_))
      exact V_iret rfl dX11_unchoose_30 ⟨_, rfl, hw⟩
    · refine V_aload_n 0 rfl rfl dX11_unchoose_31 ?_
      refine X_getR (c := 11) (k := 13) fa_X11_35 rfl dX11_unchoose_32 hw (fun v6 hw => ?_)
      refine V_iload_n 1 rfl rfl dX11_unchoose_35 ?_
      refine X_ldI dX11_unchoose_36 hw (fun v7 hw => ?_)
      refine V_istore_n (i := 2) [(2, .int v7), (0, va_rf l0), (1, .int l1)] rfl (by decide) rfl dX11_unchoose_37 ?_
      refine V_iconst (v := 0) (by decide) dX11_unchoose_38 ?_
      refine V_istore_n (i := 3) [(3, .int 0), (2, .int v7), (0, va_rf l0), (1, .int l1)] rfl (by decide) rfl dX11_unchoose_39 ?_
      refine V_iload_n 3 rfl rfl dX11_unchoose_40 ?_
      refine V_istore (i := 4) [(4, .int l1), (3, .int 0), (2, .int v7), (0, va_rf l0), (1, .int l1)] (by decide) rfl dX11_unchoose_41 ?_
      exact V.sub [3, 2, 1, 0] rfl (s_X11_unchoose_43 hw)
theorem r_X11_unchoose {l : Launch} {G : Gh} (l0 : Option Nat) (l1 : Int32) {h : Hp} {Q : Int32 → Hp → Prop} (hw : w_X11_unchoose l0 l1 h Q) : RunQ l G 2 yX11_unchoose cX11_unchoose 5 (some .int) [va_rf l0, .int l1] h (qI Q) :=
  V_run rfl (sl_len _ _ (by simp [cat_i, cat_l, rf_cat])) (V.sub [0, 1] (by simp only [la_r, la_i, la_l, la_n]; rfl) (s_X11_unchoose_0 hw))
def n_X11_vote_34 (l0 : Option Nat) (h : Hp) (Q : Int32 → Hp → Prop) : Prop :=
  oV h l0 12 <| w_X11_no l0 (-6) h <| fun v3 h =>
  Q v3 h
def n_X11_vote_0 (l0 : Option Nat) (l1 : Int32) (l2 : Int32) (l3 : Int32) (h : Hp) (Q : Int32 → Hp → Prop) : Prop :=
  oV h l0 12 <| w_X11_isPlace l0 l1 h <| fun v1 h =>
  br (v1 = 0) (
    oV h l0 12 <| w_X11_no l0 (-1) h <| fun v2 h =>
    Q v2 h) (
    br (l2 < 0) (
      n_X11_vote_34 l0 h Q) (
      br (15 < l2) (
        n_X11_vote_34 l0 h Q) (
        br (l3 < 0) (
          n_X11_vote_34 l0 h Q) (
          br (l3 ≤ 99) (
            gR h l0 12 1422 fun v4 =>
            ldI h v4 ((16 * l1) + l2) fun v5 =>
            gR h l0 12 1422 fun v6 =>
            stI h v6 ((16 * l1) + l2) l3 fun h =>
            Q v5 h) (
            n_X11_vote_34 l0 h Q)))))
def w_X11_vote (l0 : Option Nat) (l1 : Int32) (l2 : Int32) (l3 : Int32) (h : Hp) (Q : Int32 → Hp → Prop) : Prop := n_X11_vote_0 l0 l1 l2 l3 h Q
theorem s_X11_vote_34 {l : Launch} {G : Gh} {l0 : Option Nat} {h : Hp} {Q : Int32 → Hp → Prop}  (hw : n_X11_vote_34 l0 h Q) : V l G 2 yX11_vote cX11_vote 5 (some .int) 34 [(0, va_rf l0)] [] h (qI Q) := by
  unfold n_X11_vote_34 at hw
  refine V_aload_n 0 rfl rfl dX11_vote_34 ?_
  refine V_bipush (v := (-6)) (by decide) dX11_vote_35 ?_
  refine X_cV 11 [.int (-6)] [] ma_X11_212 (by decide) rfl (by decide) (by decide) rfl (by simp [cat_i, cat_l, rf_cat]) rfl dX11_vote_37 hw (r_X11_no _ _) (k_I (fun v3 h hw => ?_))
  exact V_iret rfl dX11_vote_40 ⟨_, rfl, hw⟩
set_option maxRecDepth 20000 in
theorem s_X11_vote_0 {l : Launch} {G : Gh} {l0 : Option Nat} {l1 : Int32} {l2 : Int32} {l3 : Int32} {h : Hp} {Q : Int32 → Hp → Prop}  (hw : n_X11_vote_0 l0 l1 l2 l3 h Q) : V l G 2 yX11_vote cX11_vote 5 (some .int) 0 [(0, va_rf l0), (1, .int l1), (2, .int l2), (3, .int l3)] [] h (qI Q) := by
  unfold n_X11_vote_0 at hw
  refine V_aload_n 0 rfl rfl dX11_vote_0 ?_
  refine V_iload_n 1 rfl rfl dX11_vote_1 ?_
  refine X_cV 11 [.int l1] [] ma_X11_208 (by decide) rfl (by decide) (by decide) rfl (by simp [cat_i, cat_l, rf_cat]) rfl dX11_vote_2 hw (r_X11_isPlace _ _) (k_I (fun v1 h hw => ?_))
  refine V_if_ne (tgt := 14) dX11_vote_5 (by decide) hw (fun hw => ?_) (fun hw => ?_)
  · refine V_aload_n 0 rfl rfl dX11_vote_8 ?_
    refine V_iconst (v := (-1)) (by decide) dX11_vote_9 ?_
    refine X_cV 11 [.int (-1)] [] ma_X11_212 (by decide) rfl (by decide) (by decide) rfl (by simp [cat_i, cat_l, rf_cat]) rfl dX11_vote_10 hw (r_X11_no _ _) (k_I (fun v2 h hw => ?_))
    exact V_iret rfl dX11_vote_13 ⟨_, rfl, hw⟩
  · refine V_iload_n 2 rfl rfl dX11_vote_14 ?_
    refine V_if_lt (tgt := 34) dX11_vote_15 (by decide) hw (fun hw => ?_) (fun hw => ?_)
    · exact V.sub [0] rfl (s_X11_vote_34 hw)
    · refine V_iload_n 2 rfl rfl dX11_vote_18 ?_
      refine V_bipush (v := 15) (by decide) dX11_vote_19 ?_
      refine V_icmp_gt (tgt := 34) dX11_vote_21 (by decide) hw (fun hw => ?_) (fun hw => ?_)
      · exact V.sub [0] rfl (s_X11_vote_34 hw)
      · refine V_iload_n 3 rfl rfl dX11_vote_24 ?_
        refine V_if_lt (tgt := 34) dX11_vote_25 (by decide) hw (fun hw => ?_) (fun hw => ?_)
        · exact V.sub [0] rfl (s_X11_vote_34 hw)
        · refine V_iload_n 3 rfl rfl dX11_vote_28 ?_
          refine V_bipush (v := 99) (by decide) dX11_vote_29 ?_
          refine V_icmp_le (tgt := 41) dX11_vote_31 (by decide) hw (fun hw => ?_) (fun hw => ?_)
          · refine V_aload_n 0 rfl rfl dX11_vote_41 ?_
            refine X_getR (c := 11) (k := 14) fa_X11_38 rfl dX11_vote_42 hw (fun v4 hw => ?_)
            refine V_bipush (v := 16) (by decide) dX11_vote_45 ?_
            refine V_iload_n 1 rfl rfl dX11_vote_47 ?_
            refine V_imul dX11_vote_48 ?_
            refine V_iload_n 2 rfl rfl dX11_vote_49 ?_
            refine V_iadd dX11_vote_50 ?_
            refine X_ldI dX11_vote_51 hw (fun v5 hw => ?_)
            refine V_istore (i := 4) [(4, .int v5), (0, va_rf l0), (1, .int l1), (2, .int l2), (3, .int l3)] (by decide) rfl dX11_vote_52 ?_
            refine V_aload_n 1 rfl rfl dX11_vote_54 ?_
            refine X_getR (c := 11) (k := 14) fa_X11_38 rfl dX11_vote_55 hw (fun v6 hw => ?_)
            refine V_bipush (v := 16) (by decide) dX11_vote_58 ?_
            refine V_iload_n 2 rfl rfl dX11_vote_60 ?_
            refine V_imul dX11_vote_61 ?_
            refine V_iload_n 3 rfl rfl dX11_vote_62 ?_
            refine V_iadd dX11_vote_63 ?_
            refine V_iload_n 4 rfl rfl dX11_vote_64 ?_
            refine X_stI dX11_vote_65 hw (fun h hw => ?_)
            refine V_iload 0 rfl dX11_vote_66 ?_
            exact V_iret rfl dX11_vote_68 ⟨_, rfl, hw⟩
          · exact V.sub [0] rfl (s_X11_vote_34 hw)
theorem r_X11_vote {l : Launch} {G : Gh} (l0 : Option Nat) (l1 : Int32) (l2 : Int32) (l3 : Int32) {h : Hp} {Q : Int32 → Hp → Prop} (hw : w_X11_vote l0 l1 l2 l3 h Q) : RunQ l G 2 yX11_vote cX11_vote 5 (some .int) [va_rf l0, .int l1, .int l2, .int l3] h (qI Q) :=
  V_run rfl (sl_len _ _ (by simp [cat_i, cat_l, rf_cat])) (V.sub [0, 1, 2, 3] (by simp only [la_r, la_i, la_l, la_n]; rfl) (s_X11_vote_0 hw))
def n_X11_withdraw_47 (l0 : Option Nat) (h : Hp) (Q : Int32 → Hp → Prop) : Prop :=
  oV h l0 12 <| w_X11_no l0 (-6) h <| fun v13 h =>
  Q v13 h
def n_X11_withdraw_0 (l0 : Option Nat) (l1 : Int32) (h : Hp) (Q : Int32 → Hp → Prop) : Prop :=
  oV h l0 12 <| w_X11_isAsk l0 l1 h <| fun v1 h =>
  br (v1 = 0) (
    oV h l0 12 <| w_X11_no l0 (-1) h <| fun v2 h =>
    Q v2 h) (
    gR h l0 12 1415 fun v3 =>
    gR h l0 12 1430 fun v4 =>
    ldI h v4 l1 fun v5 =>
    ldI h v3 v5 fun v6 =>
    br (v6 = 0) (
      gR h l0 12 1439 fun v7 =>
      ldI h v7 l1 fun v8 =>
      br (v8 = (-1)) (
        gR h l0 12 1443 fun v9 =>
        ldZ h v9 l1 fun v10 =>
        br (v10 = 0) (
          gR h l0 12 1439 fun v11 =>
          gI h l0 12 1408 fun v12 =>
          stI h v11 l1 v12 fun h =>
          Q 1 h) (
          n_X11_withdraw_47 l0 h Q)) (
        n_X11_withdraw_47 l0 h Q)) (
      n_X11_withdraw_47 l0 h Q))
def w_X11_withdraw (l0 : Option Nat) (l1 : Int32) (h : Hp) (Q : Int32 → Hp → Prop) : Prop := n_X11_withdraw_0 l0 l1 h Q
theorem s_X11_withdraw_47 {l : Launch} {G : Gh} {l0 : Option Nat} {h : Hp} {Q : Int32 → Hp → Prop}  (hw : n_X11_withdraw_47 l0 h Q) : V l G 2 yX11_withdraw cX11_withdraw 2 (some .int) 47 [(0, va_rf l0)] [] h (qI Q) := by
  unfold n_X11_withdraw_47 at hw
  refine V_aload_n 0 rfl rfl dX11_withdraw_47 ?_
  refine V_bipush (v := (-6)) (by decide) dX11_withdraw_48 ?_
  refine X_cV 11 [.int (-6)] [] ma_X11_212 (by decide) rfl (by decide) (by decide) rfl (by simp [cat_i, cat_l, rf_cat]) rfl dX11_withdraw_50 hw (r_X11_no _ _) (k_I (fun v13 h hw => ?_))
  exact V_iret rfl dX11_withdraw_53 ⟨_, rfl, hw⟩
theorem s_X11_withdraw_0 {l : Launch} {G : Gh} {l0 : Option Nat} {l1 : Int32} {h : Hp} {Q : Int32 → Hp → Prop}  (hw : n_X11_withdraw_0 l0 l1 h Q) : V l G 2 yX11_withdraw cX11_withdraw 2 (some .int) 0 [(0, va_rf l0), (1, .int l1)] [] h (qI Q) := by
  unfold n_X11_withdraw_0 at hw
  refine V_aload_n 0 rfl rfl dX11_withdraw_0 ?_
  refine V_iload_n 1 rfl rfl dX11_withdraw_1 ?_
  refine X_cV 11 [.int l1] [] ma_X11_240 (by decide) rfl (by decide) (by decide) rfl (by simp [cat_i, cat_l, rf_cat]) rfl dX11_withdraw_2 hw (r_X11_isAsk _ _) (k_I (fun v1 h hw => ?_))
  refine V_if_ne (tgt := 14) dX11_withdraw_5 (by decide) hw (fun hw => ?_) (fun hw => ?_)
  · refine V_aload_n 0 rfl rfl dX11_withdraw_8 ?_
    refine V_iconst (v := (-1)) (by decide) dX11_withdraw_9 ?_
    refine X_cV 11 [.int (-1)] [] ma_X11_212 (by decide) rfl (by decide) (by decide) rfl (by simp [cat_i, cat_l, rf_cat]) rfl dX11_withdraw_10 hw (r_X11_no _ _) (k_I (fun v2 h hw => ?_))
    exact V_iret rfl dX11_withdraw_13 ⟨_, rfl, hw⟩
  · refine V_aload_n 0 rfl rfl dX11_withdraw_14 ?_
    refine X_getR (c := 11) (k := 7) fa_X11_16 rfl dX11_withdraw_15 hw (fun v3 hw => ?_)
    refine V_aload_n 0 rfl rfl dX11_withdraw_18 ?_
    refine X_getR (c := 11) (k := 22) fa_X11_64 rfl dX11_withdraw_19 hw (fun v4 hw => ?_)
    refine V_iload_n 1 rfl rfl dX11_withdraw_22 ?_
    refine X_ldI dX11_withdraw_23 hw (fun v5 hw => ?_)
    refine X_ldI dX11_withdraw_24 hw (fun v6 hw => ?_)
    refine V_if_ne (tgt := 47) dX11_withdraw_25 (by decide) hw (fun hw => ?_) (fun hw => ?_)
    · refine V_aload_n 0 rfl rfl dX11_withdraw_28 ?_
      refine X_getR (c := 11) (k := 31) fa_X11_91 rfl dX11_withdraw_29 hw (fun v7 hw => ?_)
      refine V_iload_n 1 rfl rfl dX11_withdraw_32 ?_
      refine X_ldI dX11_withdraw_33 hw (fun v8 hw => ?_)
      refine V_iconst (v := (-1)) (by decide) dX11_withdraw_34 ?_
      refine V_icmp_ne (tgt := 47) dX11_withdraw_35 (by decide) hw (fun hw => ?_) (fun hw => ?_)
      · refine V_aload_n 0 rfl rfl dX11_withdraw_38 ?_
        refine X_getR (c := 11) (k := 35) fa_X11_103 rfl dX11_withdraw_39 hw (fun v9 hw => ?_)
        refine V_iload_n 1 rfl rfl dX11_withdraw_42 ?_
        refine X_ldZ dX11_withdraw_43 hw (fun v10 hw => ?_)
        refine V_if_eq (tgt := 54) dX11_withdraw_44 (by decide) hw (fun hw => ?_) (fun hw => ?_)
        · refine V_aload_n 0 rfl rfl dX11_withdraw_54 ?_
          refine X_getR (c := 11) (k := 31) fa_X11_91 rfl dX11_withdraw_55 hw (fun v11 hw => ?_)
          refine V_iload_n 1 rfl rfl dX11_withdraw_58 ?_
          refine V_aload_n 0 rfl rfl dX11_withdraw_59 ?_
          refine X_getI (c := 11) (k := 0) fa_X11_224 rfl dX11_withdraw_60 hw (fun v12 hw => ?_)
          refine X_stI dX11_withdraw_63 hw (fun h hw => ?_)
          refine V_iconst (v := 1) (by decide) dX11_withdraw_64 ?_
          exact V_iret rfl dX11_withdraw_65 ⟨_, rfl, hw⟩
        · exact V.sub [0] rfl (s_X11_withdraw_47 hw)
      · exact V.sub [0] rfl (s_X11_withdraw_47 hw)
    · exact V.sub [0] rfl (s_X11_withdraw_47 hw)
theorem r_X11_withdraw {l : Launch} {G : Gh} (l0 : Option Nat) (l1 : Int32) {h : Hp} {Q : Int32 → Hp → Prop} (hw : w_X11_withdraw l0 l1 h Q) : RunQ l G 2 yX11_withdraw cX11_withdraw 2 (some .int) [va_rf l0, .int l1] h (qI Q) :=
  V_run rfl (sl_len _ _ (by simp [cat_i, cat_l, rf_cat])) (V.sub [0, 1] (by simp only [la_r, la_i, la_l, la_n]; rfl) (s_X11_withdraw_0 hw))
def n_X11_write_16 (l0 : Option Nat) (h : Hp) (Q : Int32 → Hp → Prop) : Prop :=
  oV h l0 12 <| w_X11_no l0 (-1) h <| fun v2 h =>
  Q v2 h
def n_X11_write_93 (l0 : Option Nat) (h : Hp) (Q : Int32 → Hp → Prop) : Prop :=
  oV h l0 12 <| w_X11_no l0 (-6) h <| fun v8 h =>
  Q v8 h
def n_X11_write_368 (l0 : Option Nat) (l1 : Int32) (l2 : Int32) (l7 : Int32) (l8 : Int32) (l9 : Int32) (h : Hp) (Q : Int32 → Hp → Prop) (K276 : Int32 → Int32 → Hp → Prop) : Prop :=
  lt (l9 + 1) fun x32 =>
  K276 l8 x32 h
def b_X11_write_276 (l0 : Option Nat) (l1 : Int32) (l2 : Int32) (l7 : Int32) (l8 : Int32) (l9 : Int32) (h : Hp) (Q : Int32 → Hp → Prop) (K276 : Int32 → Int32 → Hp → Prop) : Prop :=
  gI h l0 12 1411 fun v26 =>
  br (v26 ≤ l9) (
    Q l7 h) (
    gR h l0 12 1446 fun v27 =>
    ldI h v27 l9 fun v28 =>
    br (v28 = l2) (
      oV h l0 12 <| w_X11_reached l0 l9 l1 h <| fun v29 h =>
      gI h l0 12 1408 fun v30 =>
      br (v29 ≤ v30) (
        oV h l0 12 <| w_X11_likenessOf l0 l7 l9 h <| fun v31 h =>
        br (v31 ≤ l8) (
          n_X11_write_368 l0 l1 l2 l7 l8 l9 h Q K276) (
          gR h l0 12 1441 fun v33 =>
          ldI h v33 l7 fun v34 =>
          br (v34 ≤ (2 * v31)) (
            gR h l0 12 1435 fun v35 =>
            stI h v35 l7 1 fun h =>
            gR h l0 12 1436 fun v36 =>
            stI h v36 l7 l9 fun h =>
            n_X11_write_368 l0 l1 l2 l7 v31 l9 h Q K276) (
            n_X11_write_368 l0 l1 l2 l7 l8 l9 h Q K276))) (
        n_X11_write_368 l0 l1 l2 l7 l8 l9 h Q K276)) (
      n_X11_write_368 l0 l1 l2 l7 l8 l9 h Q K276))
def l_X11_write_276 (l0 : Option Nat) (l1 : Int32) (l2 : Int32) (l7 : Int32) (l8 : Int32) (l9 : Int32) (h : Hp) (Q : Int32 → Hp → Prop) : Prop :=
  Lo (fun (K : Int32 × Int32 → Hp → Prop) s h => b_X11_write_276 l0 l1 l2 l7 s.1 s.2 h Q (fun l8 l9 h => K (l8, l9) h)) (l8, l9) h
def b_X11_write_226 (l0 : Option Nat) (l1 : Int32) (l2 : Int32) (l5 : Int32) (l7 : Int32) (l8 : Int32) (h : Hp) (Q : Int32 → Hp → Prop) (K226 : Int32 → Hp → Prop) : Prop :=
  gR h l0 12 1426 fun v24 =>
  ldI h v24 l5 fun v25 =>
  br (v25 ≤ l8) (
    l_X11_write_276 l0 l1 l2 l7 2 0 h Q) (
    gR h l0 12 1445 fun v37 =>
    gR h l0 12 1428 fun v38 =>
    ldL h v38 ((60 * l5) + l8) fun v39 =>
    stL h v37 ((20 * l7) + l8) v39 fun h =>
    lt (l8 + 1) fun x40 =>
    K226 x40 h)
def l_X11_write_226 (l0 : Option Nat) (l1 : Int32) (l2 : Int32) (l5 : Int32) (l7 : Int32) (l8 : Int32) (h : Hp) (Q : Int32 → Hp → Prop) : Prop :=
  Lo (fun (K : Int32 → Hp → Prop) s h => b_X11_write_226 l0 l1 l2 l5 l7 s h Q (fun l8 h => K (l8) h)) (l8) h
def n_X11_write_163 (l0 : Option Nat) (l1 : Int32) (l2 : Int32) (l3 : Int32) (l4 : Int32) (l5 : Int32) (l7 : Int32) (h : Hp) (Q : Int32 → Hp → Prop) (K103 : Int32 → Hp → Prop) : Prop :=
  lt (l7 + 1) fun x50 =>
  K103 x50 h
def b_X11_write_103 (l0 : Option Nat) (l1 : Int32) (l2 : Int32) (l3 : Int32) (l4 : Int32) (l5 : Int32) (l7 : Int32) (h : Hp) (Q : Int32 → Hp → Prop) (K103 : Int32 → Hp → Prop) : Prop :=
  gI h l0 12 1410 fun v13 =>
  br (v13 ≤ l7) (
    gI h l0 12 1410 fun v14 =>
    br (v14 = 160) (
      oV h l0 12 <| w_X11_no l0 (-7) h <| fun v15 h =>
      Q v15 h) (
      gR h l0 12 1423 fun v16 =>
      gR h l0 12 1416 fun v17 =>
      ldI h v17 l1 fun v18 =>
      ldZ h v16 v18 fun v19 =>
      oV h l0 12 <| w_X11_puts_ l0 l1 l2 l3 l4 0 v19 h <| fun v20 h =>
      gR h l0 12 1441 fun v21 =>
      gR h l0 12 1426 fun v22 =>
      ldI h v22 l5 fun v23 =>
      stI h v21 v20 v23 fun h =>
      l_X11_write_226 l0 l1 l2 l5 v20 0 h Q)) (
    gR h l0 12 1430 fun v41 =>
    ldI h v41 l7 fun v42 =>
    br (v42 = l1) (
      gR h l0 12 1431 fun v43 =>
      ldI h v43 l7 fun v44 =>
      br (v44 = l2) (
        gR h l0 12 1432 fun v45 =>
        ldI h v45 l7 fun v46 =>
        br (v46 = l3) (
          gR h l0 12 1439 fun v47 =>
          ldI h v47 l7 fun v48 =>
          br (v48 = (-1)) (
            oV h l0 12 <| w_X11_no l0 (-6) h <| fun v49 h =>
            Q v49 h) (
            n_X11_write_163 l0 l1 l2 l3 l4 l5 l7 h Q K103)) (
          n_X11_write_163 l0 l1 l2 l3 l4 l5 l7 h Q K103)) (
        n_X11_write_163 l0 l1 l2 l3 l4 l5 l7 h Q K103)) (
      n_X11_write_163 l0 l1 l2 l3 l4 l5 l7 h Q K103))
def l_X11_write_103 (l0 : Option Nat) (l1 : Int32) (l2 : Int32) (l3 : Int32) (l4 : Int32) (l5 : Int32) (l7 : Int32) (h : Hp) (Q : Int32 → Hp → Prop) : Prop :=
  Lo (fun (K : Int32 → Hp → Prop) s h => b_X11_write_103 l0 l1 l2 l3 l4 l5 s h Q (fun l7 h => K (l7) h)) (l7) h
def n_X11_write_0 (l0 : Option Nat) (l1 : Int32) (l2 : Int32) (l3 : Int32) (l4 : Int32) (l5 : Int32) (h : Hp) (Q : Int32 → Hp → Prop) : Prop :=
  oV h l0 12 <| w_X11_isPlace l0 l1 h <| fun v1 h =>
  br (v1 = 0) (
    n_X11_write_16 l0 h Q) (
    w_X11_isShelf l5 h <| fun v3 h =>
    br (v3 = 0) (
      n_X11_write_16 l0 h Q) (
      oV h l0 12 <| w_X11_wants l0 l5 h <| fun v4 h =>
      br (v4 = 0) (
        gR h l0 12 1415 fun v5 =>
        ldI h v5 l1 fun v6 =>
        br (v6 = 0) (
          w_X11_isAsked l2 l3 h <| fun v7 h =>
          br (v7 = 0) (
            n_X11_write_93 l0 h Q) (
            br (l4 < 0) (
              n_X11_write_93 l0 h Q) (
              br (99 < l4) (
                n_X11_write_93 l0 h Q) (
                gR h l0 12 1420 fun v9 =>
                ldI h v9 l1 fun v10 =>
                br (v10 = (-1)) (
                  gR h l0 12 1426 fun v11 =>
                  ldI h v11 l5 fun v12 =>
                  br (v12 ≤ 20) (
                    l_X11_write_103 l0 l1 l2 l3 l4 l5 0 h Q) (
                    n_X11_write_93 l0 h Q)) (
                  n_X11_write_93 l0 h Q))))) (
          n_X11_write_93 l0 h Q)) (
        oV h l0 12 <| w_X11_no l0 v4 h <| fun v51 h =>
        Q v51 h)))
def w_X11_write (l0 : Option Nat) (l1 : Int32) (l2 : Int32) (l3 : Int32) (l4 : Int32) (l5 : Int32) (h : Hp) (Q : Int32 → Hp → Prop) : Prop := n_X11_write_0 l0 l1 l2 l3 l4 l5 h Q
theorem s_X11_write_16 {l : Launch} {G : Gh} {l0 : Option Nat} {h : Hp} {Q : Int32 → Hp → Prop}  (hw : n_X11_write_16 l0 h Q) : V l G 3 yX11_write cX11_write 11 (some .int) 16 [(0, va_rf l0)] [] h (qI Q) := by
  unfold n_X11_write_16 at hw
  refine V_aload_n 0 rfl rfl dX11_write_16 ?_
  refine V_iconst (v := (-1)) (by decide) dX11_write_17 ?_
  refine X_cV 11 [.int (-1)] [] ma_X11_212 (by decide) rfl (by decide) (by decide) rfl (by simp [cat_i, cat_l, rf_cat]) rfl dX11_write_18 hw (r_X11_no _ _) (k_I (fun v2 h hw => ?_))
  exact V_iret rfl dX11_write_21 ⟨_, rfl, hw⟩
theorem s_X11_write_93 {l : Launch} {G : Gh} {l0 : Option Nat} {h : Hp} {Q : Int32 → Hp → Prop}  (hw : n_X11_write_93 l0 h Q) : V l G 3 yX11_write cX11_write 11 (some .int) 93 [(0, va_rf l0)] [] h (qI Q) := by
  unfold n_X11_write_93 at hw
  refine V_aload_n 0 rfl rfl dX11_write_93 ?_
  refine V_bipush (v := (-6)) (by decide) dX11_write_94 ?_
  refine X_cV 11 [.int (-6)] [] ma_X11_212 (by decide) rfl (by decide) (by decide) rfl (by simp [cat_i, cat_l, rf_cat]) rfl dX11_write_96 hw (r_X11_no _ _) (k_I (fun v8 h hw => ?_))
  exact V_iret rfl dX11_write_99 ⟨_, rfl, hw⟩
theorem s_X11_write_368 {l : Launch} {G : Gh} {l0 : Option Nat} {l1 : Int32} {l2 : Int32} {l7 : Int32} {l8 : Int32} {l9 : Int32} {h : Hp} {Q : Int32 → Hp → Prop} {K276 : Int32 → Int32 → Hp → Prop} (hK276 : ∀ (l8 : Int32) (l9 : Int32) (h : Hp), K276 l8 l9 h → V l G 3 yX11_write cX11_write 11 (some .int) 276 [(0, va_rf l0), (1, .int l1), (2, .int l2), (7, .int l7), (8, .int l8), (9, .int l9)] [] h (qI Q)) (hw : n_X11_write_368 l0 l1 l2 l7 l8 l9 h Q K276) : V l G 3 yX11_write cX11_write 11 (some .int) 368 [(0, va_rf l0), (1, .int l1), (2, .int l2), (7, .int l7), (8, .int l8), (9, .int l9)] [] h (qI Q) := by
  unfold n_X11_write_368 at hw
  refine V_iincL (n := 1) 5 (fun z => [(9, .int z), (0, va_rf l0), (1, .int l1), (2, .int l2), (7, .int l7), (8, .int l8)]) rfl (by rfl) (by decide) (fun _ => rfl) dX11_write_368 hw (fun x32 hw => ?_)
  refine V_goto (tgt := 276) dX11_write_371 (by decide) ?_
  exact V.sub [1, 2, 3, 4, 5, 0] rfl (hK276 _ _ _ hw)
set_option maxRecDepth 20000 in
theorem sb_X11_write_276 {l : Launch} {G : Gh} {l0 : Option Nat} {l1 : Int32} {l2 : Int32} {l7 : Int32} {l8 : Int32} {l9 : Int32} {h : Hp} {Q : Int32 → Hp → Prop} {K276 : Int32 → Int32 → Hp → Prop} (hK276 : ∀ (l8 : Int32) (l9 : Int32) (h : Hp), K276 l8 l9 h → V l G 3 yX11_write cX11_write 11 (some .int) 276 [(0, va_rf l0), (1, .int l1), (2, .int l2), (7, .int l7), (8, .int l8), (9, .int l9)] [] h (qI Q)) (hw : b_X11_write_276 l0 l1 l2 l7 l8 l9 h Q K276) : V l G 3 yX11_write cX11_write 11 (some .int) 276 [(0, va_rf l0), (1, .int l1), (2, .int l2), (7, .int l7), (8, .int l8), (9, .int l9)] [] h (qI Q) := by
  unfold b_X11_write_276 at hw
  refine V_iload 5 rfl dX11_write_276 ?_
  refine V_aload_n 0 rfl rfl dX11_write_278 ?_
  refine X_getI (c := 11) (k := 3) fa_X11_252 rfl dX11_write_279 hw (fun v26 hw => ?_)
  refine V_icmp_ge (tgt := 374) dX11_write_282 (by decide) hw (fun hw => ?_) (fun hw => ?_)
  · refine V_iload 3 rfl dX11_write_374 ?_
    exact V_iret rfl dX11_write_376 ⟨_, rfl, hw⟩
  · refine V_aload_n 0 rfl rfl dX11_write_285 ?_
    refine X_getR (c := 11) (k := 38) fa_X11_112 rfl dX11_write_286 hw (fun v27 hw => ?_)
    refine V_iload 5 rfl dX11_write_289 ?_
    refine X_ldI dX11_write_291 hw (fun v28 hw => ?_)
    refine V_iload_n 2 rfl rfl dX11_write_292 ?_
    refine V_icmp_ne (tgt := 368) dX11_write_293 (by decide) hw (fun hw => ?_) (fun hw => ?_)
    · refine V_aload_n 0 rfl rfl dX11_write_296 ?_
      refine V_iload 5 rfl dX11_write_297 ?_
      refine V_iload_n 1 rfl rfl dX11_write_299 ?_
      refine X_cV 11 [.int l9, .int l1] [] ma_X11_255 (by decide) rfl (by decide) (by decide) rfl (by simp [cat_i, cat_l, rf_cat]) rfl dX11_write_300 hw (r_X11_reached _ _ _) (k_I (fun v29 h hw => ?_))
      refine V_aload_n 0 rfl rfl dX11_write_303 ?_
      refine X_getI (c := 11) (k := 0) fa_X11_224 rfl dX11_write_304 hw (fun v30 hw => ?_)
      refine V_icmp_le (tgt := 313) dX11_write_307 (by decide) hw (fun hw => ?_) (fun hw => ?_)
      · refine V_aload_n 0 rfl rfl dX11_write_313 ?_
        refine V_iload 3 rfl dX11_write_314 ?_
        refine V_iload 5 rfl dX11_write_316 ?_
        refine X_cV 11 [.int l7, .int l9] [] ma_X11_243 (by decide) rfl (by decide) (by decide) rfl (by simp [cat_i, cat_l, rf_cat]) rfl dX11_write_318 hw (r_X11_likenessOf _ _ _) (k_I (fun v31 h hw => ?_))
        refine V_istore (i := 10) [(10, .int v31), (0, va_rf l0), (1, .int l1), (2, .int l2), (7, .int l7), (8, .int l8), (9, .int l9)] (by decide) rfl dX11_write_321 ?_
        refine V_iload 0 rfl dX11_write_323 ?_
        refine V_iload 5 rfl dX11_write_325 ?_
        refine V_icmp_le (tgt := 368) dX11_write_327 (by decide) hw (fun hw => ?_) (fun hw => ?_)
        · exact V.sub [1, 2, 3, 4, 5, 6] rfl (s_X11_write_368 hK276 hw)
        · refine V_iconst (v := 2) (by decide) dX11_write_330 ?_
          refine V_iload 0 rfl dX11_write_331 ?_
          refine V_imul dX11_write_333 ?_
          refine V_aload_n 1 rfl rfl dX11_write_334 ?_
          refine X_getR (c := 11) (k := 33) fa_X11_97 rfl dX11_write_335 hw (fun v33 hw => ?_)
          refine V_iload 4 rfl dX11_write_338 ?_
          refine X_ldI dX11_write_340 hw (fun v34 hw => ?_)
          refine V_icmp_ge (tgt := 347) dX11_write_341 (by decide) hw (fun hw => ?_) (fun hw => ?_)
          · refine V_iload 0 rfl dX11_write_347 ?_
            refine V_istore (i := 8) [(8, .int v31), (10, .int v31), (0, va_rf l0), (1, .int l1), (2, .int l2), (7, .int l7), (9, .int l9)] (by decide) rfl dX11_write_349 ?_
            refine V_aload_n 2 rfl rfl dX11_write_351 ?_
            refine X_getR (c := 11) (k := 27) fa_X11_79 rfl dX11_write_352 hw (fun v35 hw => ?_)
            refine V_iload 5 rfl dX11_write_355 ?_
            refine V_iconst (v := 1) (by decide) dX11_write_357 ?_
            refine X_stI dX11_write_358 hw (fun h hw => ?_)
            refine V_aload_n 2 rfl rfl dX11_write_359 ?_
            refine X_getR (c := 11) (k := 28) fa_X11_82 rfl dX11_write_360 hw (fun v36 hw => ?_)
            refine V_iload 5 rfl dX11_write_363 ?_
            refine V_iload 6 rfl dX11_write_365 ?_
            refine X_stI dX11_write_367 hw (fun h hw => ?_)
            exact V.sub [2, 3, 4, 5, 0, 6] rfl (s_X11_write_368 hK276 hw)
          · refine V_goto (tgt := 368) dX11_write_344 (by decide) ?_
            exact V.sub [1, 2, 3, 4, 5, 6] rfl (s_X11_write_368 hK276 hw)
      · refine V_goto (tgt := 368) dX11_write_310 (by decide) ?_
        exact V.sub [0, 1, 2, 3, 4, 5] rfl (s_X11_write_368 hK276 hw)
    · exact V.sub [0, 1, 2, 3, 4, 5] rfl (s_X11_write_368 hK276 hw)
theorem s_X11_write_276 {l : Launch} {G : Gh} {l0 : Option Nat} {l1 : Int32} {l2 : Int32} {l7 : Int32} {l8 : Int32} {l9 : Int32} {h : Hp} {Q : Int32 → Hp → Prop}  (hw : l_X11_write_276 l0 l1 l2 l7 l8 l9 h Q) : V l G 3 yX11_write cX11_write 11 (some .int) 276 [(0, va_rf l0), (1, .int l1), (2, .int l2), (7, .int l7), (8, .int l8), (9, .int l9)] [] h (qI Q) :=
  Lo.ind (P := fun (s : Int32 × Int32) h => V l G 3 yX11_write cX11_write 11 (some .int) 276 [(0, va_rf l0), (1, .int l1), (2, .int l2), (7, .int l7), (8, .int s.1), (9, .int s.2)] [] h (qI Q)) (fun K ih s h hw => sb_X11_write_276 (fun l8 l9 h hk => ih (l8, l9) h hk) hw) hw
theorem sb_X11_write_226 {l : Launch} {G : Gh} {l0 : Option Nat} {l1 : Int32} {l2 : Int32} {l5 : Int32} {l7 : Int32} {l8 : Int32} {h : Hp} {Q : Int32 → Hp → Prop} {K226 : Int32 → Hp → Prop} (hK226 : ∀ (l8 : Int32) (h : Hp), K226 l8 h → V l G 3 yX11_write cX11_write 11 (some .int) 226 [(0, va_rf l0), (1, .int l1), (2, .int l2), (5, .int l5), (7, .int l7), (8, .int l8)] [] h (qI Q)) (hw : b_X11_write_226 l0 l1 l2 l5 l7 l8 h Q K226) : V l G 3 yX11_write cX11_write 11 (some .int) 226 [(0, va_rf l0), (1, .int l1), (2, .int l2), (5, .int l5), (7, .int l7), (8, .int l8)] [] h (qI Q) := by
  unfold b_X11_write_226 at hw
  refine V_iload 5 rfl dX11_write_226 ?_
  refine V_aload_n 0 rfl rfl dX11_write_228 ?_
  refine X_getR (c := 11) (k := 18) fa_X11_51 rfl dX11_write_229 hw (fun v24 hw => ?_)
  refine V_iload 3 rfl dX11_write_232 ?_
  refine X_ldI dX11_write_234 hw (fun v25 hw => ?_)
  refine V_icmp_ge (tgt := 270) dX11_write_235 (by decide) hw (fun hw => ?_) (fun hw => ?_)
  · refine V_iconst (v := 2) (by decide) dX11_write_270 ?_
    refine V_istore (i := 8) [(8, .int 2), (0, va_rf l0), (1, .int l1), (2, .int l2), (5, .int l5), (7, .int l7)] (by decide) rfl dX11_write_271 ?_
    refine V_iconst (v := 0) (by decide) dX11_write_273 ?_
    refine V_istore (i := 9) [(9, .int 0), (8, .int 2), (0, va_rf l0), (1, .int l1), (2, .int l2), (5, .int l5), (7, .int l7)] (by decide) rfl dX11_write_274 ?_
    exact V.sub [2, 3, 4, 6, 1, 0] rfl (s_X11_write_276 hw)
  · refine V_aload_n 0 rfl rfl dX11_write_238 ?_
    refine X_getR (c := 11) (k := 37) fa_X11_109 rfl dX11_write_239 hw (fun v37 hw => ?_)
    refine V_bipush (v := 20) (by decide) dX11_write_242 ?_
    refine V_iload 4 rfl dX11_write_244 ?_
    refine V_imul dX11_write_246 ?_
    refine V_iload 5 rfl dX11_write_247 ?_
    refine V_iadd dX11_write_249 ?_
    refine V_aload_n 0 rfl rfl dX11_write_250 ?_
    refine X_getR (c := 11) (k := 20) fa_X11_57 rfl dX11_write_251 hw (fun v38 hw => ?_)
    refine V_bipush (v := 60) (by decide) dX11_write_254 ?_
    refine V_iload 3 rfl dX11_write_256 ?_
    refine V_imul dX11_write_258 ?_
    refine V_iload 5 rfl dX11_write_259 ?_
    refine V_iadd dX11_write_261 ?_
    refine X_ldL dX11_write_262 hw (fun v39 hw => ?_)
    refine X_stL dX11_write_263 hw (fun h hw => ?_)
    refine V_iincL (n := 1) 5 (fun z => [(8, .int z), (0, va_rf l0), (1, .int l1), (2, .int l2), (5, .int l5), (7, .int l7)]) rfl (by rfl) (by decide) (fun _ => rfl) dX11_write_264 hw (fun x40 hw => ?_)
    refine V_goto (tgt := 226) dX11_write_267 (by decide) ?_
    exact V.sub [1, 2, 3, 4, 5, 0] rfl (hK226 _ _ hw)
theorem s_X11_write_226 {l : Launch} {G : Gh} {l0 : Option Nat} {l1 : Int32} {l2 : Int32} {l5 : Int32} {l7 : Int32} {l8 : Int32} {h : Hp} {Q : Int32 → Hp → Prop}  (hw : l_X11_write_226 l0 l1 l2 l5 l7 l8 h Q) : V l G 3 yX11_write cX11_write 11 (some .int) 226 [(0, va_rf l0), (1, .int l1), (2, .int l2), (5, .int l5), (7, .int l7), (8, .int l8)] [] h (qI Q) :=
  Lo.ind (P := fun (s : Int32) h => V l G 3 yX11_write cX11_write 11 (some .int) 226 [(0, va_rf l0), (1, .int l1), (2, .int l2), (5, .int l5), (7, .int l7), (8, .int s)] [] h (qI Q)) (fun K ih s h hw => sb_X11_write_226 (fun l8 h hk => ih (l8) h hk) hw) hw
theorem s_X11_write_163 {l : Launch} {G : Gh} {l0 : Option Nat} {l1 : Int32} {l2 : Int32} {l3 : Int32} {l4 : Int32} {l5 : Int32} {l7 : Int32} {h : Hp} {Q : Int32 → Hp → Prop} {K103 : Int32 → Hp → Prop} (hK103 : ∀ (l7 : Int32) (h : Hp), K103 l7 h → V l G 3 yX11_write cX11_write 11 (some .int) 103 [(0, va_rf l0), (1, .int l1), (2, .int l2), (3, .int l3), (4, .int l4), (5, .int l5), (7, .int l7)] [] h (qI Q)) (hw : n_X11_write_163 l0 l1 l2 l3 l4 l5 l7 h Q K103) : V l G 3 yX11_write cX11_write 11 (some .int) 163 [(0, va_rf l0), (1, .int l1), (2, .int l2), (3, .int l3), (4, .int l4), (5, .int l5), (7, .int l7)] [] h (qI Q) := by
  unfold n_X11_write_163 at hw
  refine V_iincL (n := 1) 6 (fun z => [(7, .int z), (0, va_rf l0), (1, .int l1), (2, .int l2), (3, .int l3), (4, .int l4), (5, .int l5)]) rfl (by rfl) (by decide) (fun _ => rfl) dX11_write_163 hw (fun x50 hw => ?_)
  refine V_goto (tgt := 103) dX11_write_166 (by decide) ?_
  exact V.sub [1, 2, 3, 4, 5, 6, 0] rfl (hK103 _ _ hw)
set_option maxRecDepth 20000 in
theorem sb_X11_write_103 {l : Launch} {G : Gh} {l0 : Option Nat} {l1 : Int32} {l2 : Int32} {l3 : Int32} {l4 : Int32} {l5 : Int32} {l7 : Int32} {h : Hp} {Q : Int32 → Hp → Prop} {K103 : Int32 → Hp → Prop} (hK103 : ∀ (l7 : Int32) (h : Hp), K103 l7 h → V l G 3 yX11_write cX11_write 11 (some .int) 103 [(0, va_rf l0), (1, .int l1), (2, .int l2), (3, .int l3), (4, .int l4), (5, .int l5), (7, .int l7)] [] h (qI Q)) (hw : b_X11_write_103 l0 l1 l2 l3 l4 l5 l7 h Q K103) : V l G 3 yX11_write cX11_write 11 (some .int) 103 [(0, va_rf l0), (1, .int l1), (2, .int l2), (3, .int l3), (4, .int l4), (5, .int l5), (7, .int l7)] [] h (qI Q) := by
  unfold b_X11_write_103 at hw
  refine V_iload 6 rfl dX11_write_103 ?_
  refine V_aload_n 0 rfl rfl dX11_write_105 ?_
  refine X_getI (c := 11) (k := 2) fa_X11_205 rfl dX11_write_106 hw (fun v13 hw => ?_)
  refine V_icmp_ge (tgt := 169) dX11_write_109 (by decide) hw (fun hw => ?_) (fun hw => ?_)
  · refine V_aload_n 0 rfl rfl dX11_write_169 ?_
    refine X_getI (c := 11) (k := 2) fa_X11_205 rfl dX11_write_170 hw (fun v14 hw => ?_)
    refine V_sipush (v := 160) (by decide) dX11_write_173 ?_
    refine V_icmp_ne (tgt := 186) dX11_write_176 (by decide) hw (fun hw => ?_) (fun hw => ?_)
    · refine V_aload_n 0 rfl rfl dX11_write_179 ?_
      refine V_bipush (v := (-7)) (by decide) dX11_write_180 ?_
      refine X_cV 11 [.int (-7)] [] ma_X11_212 (by decide) rfl (by decide) (by decide) rfl (by simp [cat_i, cat_l, rf_cat]) rfl dX11_write_182 hw (r_X11_no _ _) (k_I (fun v15 h hw => ?_))
      exact V_iret rfl dX11_write_185 ⟨_, rfl, hw⟩
    · refine V_aload_n 0 rfl rfl dX11_write_186 ?_
      refine V_iload_n 1 rfl rfl dX11_write_187 ?_
      refine V_iload_n 2 rfl rfl dX11_write_188 ?_
      refine V_iload_n 3 rfl rfl dX11_write_189 ?_
      refine V_iload 4 rfl dX11_write_190 ?_
      refine V_iconst (v := 0) (by decide) dX11_write_192 ?_
      refine V_aload_n 0 rfl rfl dX11_write_193 ?_
      refine X_getR (c := 11) (k := 15) fa_X11_41 rfl dX11_write_194 hw (fun v16 hw => ?_)
      refine V_aload_n 0 rfl rfl dX11_write_197 ?_
      refine X_getR (c := 11) (k := 8) fa_X11_20 rfl dX11_write_198 hw (fun v17 hw => ?_)
      refine V_iload_n 1 rfl rfl dX11_write_201 ?_
      refine X_ldI dX11_write_202 hw (fun v18 hw => ?_)
      refine X_ldZ dX11_write_203 hw (fun v19 hw => ?_)
      refine X_cV 11 [.int l1, .int l2, .int l3, .int l4, .int 0, .int v19] [] ma_X11_261 (by decide) rfl (by decide) (by decide) rfl (by simp [cat_i, cat_l, rf_cat]) rfl dX11_write_204 hw (r_X11_puts_ _ _ _ _ _ _ _) (k_I (fun v20 h hw => ?_))
      refine V_istore (i := 7) [(7, .int v20), (0, va_rf l0), (1, .int l1), (2, .int l2), (3, .int l3), (4, .int l4), (5, .int l5)] (by decide) rfl dX11_write_207 ?_
      refine V_aload_n 1 rfl rfl dX11_write_209 ?_
      refine X_getR (c := 11) (k := 33) fa_X11_97 rfl dX11_write_210 hw (fun v21 hw => ?_)
      refine V_iload 0 rfl dX11_write_213 ?_
      refine V_aload_n 1 rfl rfl dX11_write_215 ?_
      refine X_getR (c := 11) (k := 18) fa_X11_51 rfl dX11_write_216 hw (fun v22 hw => ?_)
      refine V_iload 6 rfl dX11_write_219 ?_
      refine X_ldI dX11_write_221 hw (fun v23 hw => ?_)
      refine X_stI dX11_write_222 hw (fun h hw => ?_)
      refine V_iconst (v := 0) (by decide) dX11_write_223 ?_
      refine V_istore (i := 8) [(8, .int 0), (7, .int v20), (0, va_rf l0), (1, .int l1), (2, .int l2), (3, .int l3), (4, .int l4), (5, .int l5)] (by decide) rfl dX11_write_224 ?_
      exact V.sub [2, 3, 4, 7, 1, 0] rfl (s_X11_write_226 hw)
  · refine V_aload_n 0 rfl rfl dX11_write_112 ?_
    refine X_getR (c := 11) (k := 22) fa_X11_64 rfl dX11_write_113 hw (fun v41 hw => ?_)
    refine V_iload 6 rfl dX11_write_116 ?_
    refine X_ldI dX11_write_118 hw (fun v42 hw => ?_)
    refine V_iload_n 1 rfl rfl dX11_write_119 ?_
    refine V_icmp_ne (tgt := 163) dX11_write_120 (by decide) hw (fun hw => ?_) (fun hw => ?_)
    · refine V_aload_n 0 rfl rfl dX11_write_123 ?_
      refine X_getR (c := 11) (k := 23) fa_X11_67 rfl dX11_write_124 hw (fun v43 hw => ?_)
      refine V_iload 6 rfl dX11_write_127 ?_
      refine X_ldI dX11_write_129 hw (fun v44 hw => ?_)
      refine V_iload_n 2 rfl rfl dX11_write_130 ?_
      refine V_icmp_ne (tgt := 163) dX11_write_131 (by decide) hw (fun hw => ?_) (fun hw => ?_)
      · refine V_aload_n 0 rfl rfl dX11_write_134 ?_
        refine X_getR (c := 11) (k := 24) fa_X11_70 rfl dX11_write_135 hw (fun v45 hw => ?_)
        refine V_iload 6 rfl dX11_write_138 ?_
        refine X_ldI dX11_write_140 hw (fun v46 hw => ?_)
        refine V_iload_n 3 rfl rfl dX11_write_141 ?_
        refine V_icmp_ne (tgt := 163) dX11_write_142 (by decide) hw (fun hw => ?_) (fun hw => ?_)
        · refine V_aload_n 0 rfl rfl dX11_write_145 ?_
          refine X_getR (c := 11) (k := 31) fa_X11_91 rfl dX11_write_146 hw (fun v47 hw => ?_)
          refine V_iload 6 rfl dX11_write_149 ?_
          refine X_ldI dX11_write_151 hw (fun v48 hw => ?_)
          refine V_iconst (v := (-1)) (by decide) dX11_write_152 ?_
          refine V_icmp_ne (tgt := 163) dX11_write_153 (by decide) hw (fun hw => ?_) (fun hw => ?_)
          · refine V_aload_n 0 rfl rfl dX11_write_156 ?_
            refine V_bipush (v := (-6)) (by decide) dX11_write_157 ?_
            refine X_cV 11 [.int (-6)] [] ma_X11_212 (by decide) rfl (by decide) (by decide) rfl (by simp [cat_i, cat_l, rf_cat]) rfl dX11_write_159 hw (r_X11_no _ _) (k_I (fun v49 h hw => ?_))
            exact V_iret rfl dX11_write_162 ⟨_, rfl, hw⟩
          · exact V.sub [0, 1, 2, 3, 4, 5, 6] rfl (s_X11_write_163 hK103 hw)
        · exact V.sub [0, 1, 2, 3, 4, 5, 6] rfl (s_X11_write_163 hK103 hw)
      · exact V.sub [0, 1, 2, 3, 4, 5, 6] rfl (s_X11_write_163 hK103 hw)
    · exact V.sub [0, 1, 2, 3, 4, 5, 6] rfl (s_X11_write_163 hK103 hw)
theorem s_X11_write_103 {l : Launch} {G : Gh} {l0 : Option Nat} {l1 : Int32} {l2 : Int32} {l3 : Int32} {l4 : Int32} {l5 : Int32} {l7 : Int32} {h : Hp} {Q : Int32 → Hp → Prop}  (hw : l_X11_write_103 l0 l1 l2 l3 l4 l5 l7 h Q) : V l G 3 yX11_write cX11_write 11 (some .int) 103 [(0, va_rf l0), (1, .int l1), (2, .int l2), (3, .int l3), (4, .int l4), (5, .int l5), (7, .int l7)] [] h (qI Q) :=
  Lo.ind (P := fun (s : Int32) h => V l G 3 yX11_write cX11_write 11 (some .int) 103 [(0, va_rf l0), (1, .int l1), (2, .int l2), (3, .int l3), (4, .int l4), (5, .int l5), (7, .int s)] [] h (qI Q)) (fun K ih s h hw => sb_X11_write_103 (fun l7 h hk => ih (l7) h hk) hw) hw
set_option maxRecDepth 20000 in
theorem s_X11_write_0 {l : Launch} {G : Gh} {l0 : Option Nat} {l1 : Int32} {l2 : Int32} {l3 : Int32} {l4 : Int32} {l5 : Int32} {h : Hp} {Q : Int32 → Hp → Prop}  (hw : n_X11_write_0 l0 l1 l2 l3 l4 l5 h Q) : V l G 3 yX11_write cX11_write 11 (some .int) 0 [(0, va_rf l0), (1, .int l1), (2, .int l2), (3, .int l3), (4, .int l4), (5, .int l5)] [] h (qI Q) := by
  unfold n_X11_write_0 at hw
  refine V_aload_n 0 rfl rfl dX11_write_0 ?_
  refine V_iload_n 1 rfl rfl dX11_write_1 ?_
  refine X_cV 11 [.int l1] [] ma_X11_208 (by decide) rfl (by decide) (by decide) rfl (by simp [cat_i, cat_l, rf_cat]) rfl dX11_write_2 hw (r_X11_isPlace _ _) (k_I (fun v1 h hw => ?_))
  refine V_if_eq (tgt := 16) dX11_write_5 (by decide) hw (fun hw => ?_) (fun hw => ?_)
  · exact V.sub [0] rfl (s_X11_write_16 hw)
  · refine V_iload 5 rfl dX11_write_8 ?_
    refine X_cS [.int l5] [] ma_X11_237 (by decide) (by decide) rfl (by simp [cat_i, cat_l, rf_cat]) rfl dX11_write_10 (r_X11_isShelf _ hw) (k_I (fun v3 h hw => ?_))
    refine V_if_ne (tgt := 22) dX11_write_13 (by decide) hw (fun hw => ?_) (fun hw => ?_)
    · exact V.sub [0] rfl (s_X11_write_16 hw)
    · refine V_aload_n 0 rfl rfl dX11_write_22 ?_
      refine V_iload 5 rfl dX11_write_23 ?_
      refine X_cV 11 [.int l5] [] ma_X11_249 (by decide) rfl (by decide) (by decide) rfl (by simp [cat_i, cat_l, rf_cat]) rfl dX11_write_25 hw (r_X11_wants _ _) (k_I (fun v4 h hw => ?_))
      refine V_istore (i := 6) [(6, .int v4), (0, va_rf l0), (1, .int l1), (2, .int l2), (3, .int l3), (4, .int l4), (5, .int l5)] (by decide) rfl dX11_write_28 ?_
      refine V_iload 0 rfl dX11_write_30 ?_
      refine V_if_eq (tgt := 42) dX11_write_32 (by decide) hw (fun hw => ?_) (fun hw => ?_)
      · refine V_aload_n 1 rfl rfl dX11_write_42 ?_
        refine X_getR (c := 11) (k := 7) fa_X11_16 rfl dX11_write_43 hw (fun v5 hw => ?_)
        refine V_iload_n 2 rfl rfl dX11_write_46 ?_
        refine X_ldI dX11_write_47 hw (fun v6 hw => ?_)
        refine V_if_ne (tgt := 93) dX11_write_48 (by decide) hw (fun hw => ?_) (fun hw => ?_)
        · refine V_iload_n 3 rfl rfl dX11_write_51 ?_
          refine V_iload_n 4 rfl rfl dX11_write_52 ?_
          refine X_cS [.int l2, .int l3] [] ma_X11_258 (by decide) (by decide) rfl (by simp [cat_i, cat_l, rf_cat]) rfl dX11_write_53 (r_X11_isAsked _ _ hw) (k_I (fun v7 h hw => ?_))
          refine V_if_eq (tgt := 93) dX11_write_56 (by decide) hw (fun hw => ?_) (fun hw => ?_)
          · exact V.sub [1] rfl (s_X11_write_93 hw)
          · refine V_iload 5 rfl dX11_write_59 ?_
            refine V_if_lt (tgt := 93) dX11_write_61 (by decide) hw (fun hw => ?_) (fun hw => ?_)
            · exact V.sub [1] rfl (s_X11_write_93 hw)
            · refine V_iload 5 rfl dX11_write_64 ?_
              refine V_bipush (v := 99) (by decide) dX11_write_66 ?_
              refine V_icmp_gt (tgt := 93) dX11_write_68 (by decide) hw (fun hw => ?_) (fun hw => ?_)
              · exact V.sub [1] rfl (s_X11_write_93 hw)
              · refine V_aload_n 1 rfl rfl dX11_write_71 ?_
                refine X_getR (c := 11) (k := 12) fa_X11_32 rfl dX11_write_72 hw (fun v9 hw => ?_)
                refine V_iload_n 2 rfl rfl dX11_write_75 ?_
                refine X_ldI dX11_write_76 hw (fun v10 hw => ?_)
                refine V_iconst (v := (-1)) (by decide) dX11_write_77 ?_
                refine V_icmp_ne (tgt := 93) dX11_write_78 (by decide) hw (fun hw => ?_) (fun hw => ?_)
                · refine V_aload_n 1 rfl rfl dX11_write_81 ?_
                  refine X_getR (c := 11) (k := 18) fa_X11_51 rfl dX11_write_82 hw (fun v11 hw => ?_)
                  refine V_iload 6 rfl dX11_write_85 ?_
                  refine X_ldI dX11_write_87 hw (fun v12 hw => ?_)
                  refine V_bipush (v := 20) (by decide) dX11_write_88 ?_
                  refine V_icmp_le (tgt := 100) dX11_write_90 (by decide) hw (fun hw => ?_) (fun hw => ?_)
                  · refine V_iconst (v := 0) (by decide) dX11_write_100 ?_
                    refine V_istore (i := 7) [(7, .int 0), (6, .int v4), (0, va_rf l0), (1, .int l1), (2, .int l2), (3, .int l3), (4, .int l4), (5, .int l5)] (by decide) rfl dX11_write_101 ?_
                    exact V.sub [2, 3, 4, 5, 6, 7, 0] rfl (s_X11_write_103 hw)
                  · exact V.sub [1] rfl (s_X11_write_93 hw)
                · exact V.sub [1] rfl (s_X11_write_93 hw)
        · exact V.sub [1] rfl (s_X11_write_93 hw)
      · refine V_aload_n 1 rfl rfl dX11_write_35 ?_
        refine V_iload 0 rfl dX11_write_36 ?_
        refine X_cV 11 [.int v4] [] ma_X11_212 (by decide) rfl (by decide) (by decide) rfl (by simp [cat_i, cat_l, rf_cat]) rfl dX11_write_38 hw (r_X11_no _ _) (k_I (fun v51 h hw => ?_))
        exact V_iret rfl dX11_write_41 ⟨_, rfl, hw⟩
theorem r_X11_write {l : Launch} {G : Gh} (l0 : Option Nat) (l1 : Int32) (l2 : Int32) (l3 : Int32) (l4 : Int32) (l5 : Int32) {h : Hp} {Q : Int32 → Hp → Prop} (hw : w_X11_write l0 l1 l2 l3 l4 l5 h Q) : RunQ l G 3 yX11_write cX11_write 11 (some .int) [va_rf l0, .int l1, .int l2, .int l3, .int l4, .int l5] h (qI Q) :=
  V_run rfl (sl_len _ _ (by simp [cat_i, cat_l, rf_cat])) (V.sub [0, 1, 2, 3, 4, 5] (by simp only [la_r, la_i, la_l, la_n]; rfl) (s_X11_write_0 hw))
