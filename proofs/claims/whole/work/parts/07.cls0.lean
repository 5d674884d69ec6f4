def n_X0_comesAfter_80 (s0 : Int32) (h : Hp) (Q : Int32 → Hp → Prop) : Prop :=
  rZ s0 h Q
def n_X0_comesAfter_27 (s0 : Int32) (h : Hp) (Q : Int32 → Hp → Prop) : Prop :=
  rZ s0 h Q
def n_X0_comesAfter_0 (l0 : Option Nat) (l1 : Option Nat) (h : Hp) (Q : Int32 → Hp → Prop) : Prop :=
  gI h l0 1 2 fun v1 =>
  gI h l1 1 2 fun v2 =>
  br (v1 = v2) (
    gI h l0 1 3 fun v3 =>
    gI h l1 1 3 fun v4 =>
    br (v3 = v4) (
      gR h l0 1 1 fun v5 =>
      gI h v5 6 640 fun v6 =>
      gR h l1 1 1 fun v7 =>
      gI h v7 6 640 fun v8 =>
      br (v6 ≤ v8) (
        n_X0_comesAfter_80 0 h Q) (
        n_X0_comesAfter_80 1 h Q)) (
      gI h l0 1 3 fun v9 =>
      gI h l1 1 3 fun v10 =>
      br (v9 ≤ v10) (
        n_X0_comesAfter_80 0 h Q) (
        n_X0_comesAfter_80 1 h Q))) (
    gI h l0 1 2 fun v11 =>
    gI h l1 1 2 fun v12 =>
    br (v11 ≤ v12) (
      n_X0_comesAfter_27 0 h Q) (
      n_X0_comesAfter_27 1 h Q))
def w_X0_comesAfter (l0 : Option Nat) (l1 : Option Nat) (h : Hp) (Q : Int32 → Hp → Prop) : Prop := n_X0_comesAfter_0 l0 l1 h Q
theorem s_X0_comesAfter_80 {l : Launch} {G : Gh} {s0 : Int32} {h : Hp} {Q : Int32 → Hp → Prop}  (hw : n_X0_comesAfter_80 s0 h Q) : V l G 1 yX0_comesAfter cX0_comesAfter 2 (some .boolean) 80 [] [.int s0] h (qI Q) := by
  unfold n_X0_comesAfter_80 at hw
  exact V_zret rfl hw.1 dX0_comesAfter_80 ⟨_, rfl, hw.2⟩
theorem s_X0_comesAfter_27 {l : Launch} {G : Gh} {s0 : Int32} {h : Hp} {Q : Int32 → Hp → Prop}  (hw : n_X0_comesAfter_27 s0 h Q) : V l G 1 yX0_comesAfter cX0_comesAfter 2 (some .boolean) 27 [] [.int s0] h (qI Q) := by
  unfold n_X0_comesAfter_27 at hw
  exact V_zret rfl hw.1 dX0_comesAfter_27 ⟨_, rfl, hw.2⟩
set_option maxRecDepth 20000 in
theorem s_X0_comesAfter_0 {l : Launch} {G : Gh} {l0 : Option Nat} {l1 : Option Nat} {h : Hp} {Q : Int32 → Hp → Prop}  (hw : n_X0_comesAfter_0 l0 l1 h Q) : V l G 1 yX0_comesAfter cX0_comesAfter 2 (some .boolean) 0 [(0, va_rf l0), (1, va_rf l1)] [] h (qI Q) := by
  unfold n_X0_comesAfter_0 at hw
  refine V_aload_n 0 rfl rfl dX0_comesAfter_0 ?_
  refine X_getI (c := 0) (k := 2) fa_X0_28 rfl dX0_comesAfter_1 hw (fun v1 hw => ?_)
  refine V_aload_n 1 rfl rfl dX0_comesAfter_4 ?_
  refine X_getI (c := 0) (k := 2) fa_X0_28 rfl dX0_comesAfter_5 hw (fun v2 hw => ?_)
  refine V_icmp_eq (tgt := 28) dX0_comesAfter_8 (by decide) hw (fun hw => ?_) (fun hw => ?_)
  · refine V_aload_n 0 rfl rfl dX0_comesAfter_28 ?_
    refine X_getI (c := 0) (k := 3) fa_X0_31 rfl dX0_comesAfter_29 hw (fun v3 hw => ?_)
    refine V_aload_n 1 rfl rfl dX0_comesAfter_32 ?_
    refine X_getI (c := 0) (k := 3) fa_X0_31 rfl dX0_comesAfter_33 hw (fun v4 hw => ?_)
    refine V_icmp_eq (tgt := 58) dX0_comesAfter_36 (by decide) hw (fun hw => ?_) (fun hw => ?_)
    · refine V_aload_n 0 rfl rfl dX0_comesAfter_58 ?_
      refine X_getR (c := 0) (k := 1) fa_X0_24 rfl dX0_comesAfter_59 hw (fun v5 hw => ?_)
      refine X_getI (c := 5) (k := 0) fa_X0_57 rfl dX0_comesAfter_62 hw (fun v6 hw => ?_)
      refine V_aload_n 1 rfl rfl dX0_comesAfter_65 ?_
      refine X_getR (c := 0) (k := 1) fa_X0_24 rfl dX0_comesAfter_66 hw (fun v7 hw => ?_)
      refine X_getI (c := 5) (k := 0) fa_X0_57 rfl dX0_comesAfter_69 hw (fun v8 hw => ?_)
      refine V_icmp_le (tgt := 79) dX0_comesAfter_72 (by decide) hw (fun hw => ?_) (fun hw => ?_)
      · refine V_iconst (v := 0) (by decide) dX0_comesAfter_79 ?_
        exact V.sub [] rfl (s_X0_comesAfter_80 hw)
      · refine V_iconst (v := 1) (by decide) dX0_comesAfter_75 ?_
        refine V_goto (tgt := 80) dX0_comesAfter_76 (by decide) ?_
        exact V.sub [] rfl (s_X0_comesAfter_80 hw)
    · refine V_aload_n 0 rfl rfl dX0_comesAfter_39 ?_
      refine X_getI (c := 0) (k := 3) fa_X0_31 rfl dX0_comesAfter_40 hw (fun v9 hw => ?_)
      refine V_aload_n 1 rfl rfl dX0_comesAfter_43 ?_
      refine X_getI (c := 0) (k := 3) fa_X0_31 rfl dX0_comesAfter_44 hw (fun v10 hw => ?_)
      refine V_icmp_le (tgt := 54) dX0_comesAfter_47 (by decide) hw (fun hw => ?_) (fun hw => ?_)
      · refine V_iconst (v := 0) (by decide) dX0_comesAfter_54 ?_
        refine V_goto (tgt := 80) dX0_comesAfter_55 (by decide) ?_
        exact V.sub [] rfl (s_X0_comesAfter_80 hw)
      · refine V_iconst (v := 1) (by decide) dX0_comesAfter_50 ?_
        refine V_goto (tgt := 80) dX0_comesAfter_51 (by decide) ?_
        exact V.sub [] rfl (s_X0_comesAfter_80 hw)
  · refine V_aload_n 0 rfl rfl dX0_comesAfter_11 ?_
    refine X_getI (c := 0) (k := 2) fa_X0_28 rfl dX0_comesAfter_12 hw (fun v11 hw => ?_)
    refine V_aload_n 1 rfl rfl dX0_comesAfter_15 ?_
    refine X_getI (c := 0) (k := 2) fa_X0_28 rfl dX0_comesAfter_16 hw (fun v12 hw => ?_)
    refine V_icmp_le (tgt := 26) dX0_comesAfter_19 (by decide) hw (fun hw => ?_) (fun hw => ?_)
    · refine V_iconst (v := 0) (by decide) dX0_comesAfter_26 ?_
      exact V.sub [] rfl (s_X0_comesAfter_27 hw)
    · refine V_iconst (v := 1) (by decide) dX0_comesAfter_22 ?_
      refine V_goto (tgt := 27) dX0_comesAfter_23 (by decide) ?_
      exact V.sub [] rfl (s_X0_comesAfter_27 hw)
theorem r_X0_comesAfter {l : Launch} {G : Gh} (l0 : Option Nat) (l1 : Option Nat) {h : Hp} {Q : Int32 → Hp → Prop} (hw : w_X0_comesAfter l0 l1 h Q) : RunQ l G 1 yX0_comesAfter cX0_comesAfter 2 (some .boolean) [va_rf l0, va_rf l1] h (qI Q) :=
  V_run rfl (sl_len _ _ (by simp [cat_i, cat_l, rf_cat])) (V.sub [0, 1] (by simp only [la_r, la_i, la_l, la_n]; rfl) (s_X0_comesAfter_0 hw))
def n_X0_init_0 (l0 : Option Nat) (l1 : Int32) (l2 : Int32) (l3 : Option Nat) (l4 : Int32) (l5 : Int32) (l6 : Int32) (l7 : Int32) (h : Hp) (Q : Hp → Prop) : Prop :=
  oN l0 <|
  pI h l0 1 14 (-1) fun h =>
  pI h l0 1 18 (-1) fun h =>
  pI h l0 1 0 l1 fun h =>
  pI h l0 1 6 l2 fun h =>
  pR h l0 1 1 l3 fun h =>
  pI h l0 1 2 l4 fun h =>
  pI h l0 1 3 l5 fun h =>
  pI h l0 1 4 l6 fun h =>
  pI h l0 1 5 l7 fun h =>
  Q h
def w_X0_init (l0 : Option Nat) (l1 : Int32) (l2 : Int32) (l3 : Option Nat) (l4 : Int32) (l5 : Int32) (l6 : Int32) (l7 : Int32) (h : Hp) (Q : Hp → Prop) : Prop := n_X0_init_0 l0 l1 l2 l3 l4 l5 l6 l7 h Q
theorem s_X0_init_0 {l : Launch} {G : Gh} {l0 : Option Nat} {l1 : Int32} {l2 : Int32} {l3 : Option Nat} {l4 : Int32} {l5 : Int32} {l6 : Int32} {l7 : Int32} {h : Hp} {Q : Hp → Prop}  (hw : n_X0_init_0 l0 l1 l2 l3 l4 l5 l6 l7 h Q) : V l G 2 yX0_init cX0_init 8 none 0 [(0, va_rf l0), (1, .int l1), (2, .int l2), (3, va_rf l3), (4, .int l4), (5, .int l5), (6, .int l6), (7, .int l7)] [] h (qV Q) := by
  unfold n_X0_init_0 at hw
  refine V_aload_n 0 rfl rfl dX0_init_0 ?_
  refine X_obj oi_X0_3 (by decide) (by simp [cat_i, cat_l, rf_cat]) dX0_init_1 hw (fun hw => ?_)
  refine V_aload_n 0 rfl rfl dX0_init_4 ?_
  refine V_iconst (v := (-1)) (by decide) dX0_init_5 ?_
  refine X_putI (c := 0) (k := 14) fa_X0_9 (Or.inl rfl) rfl dX0_init_6 hw (fun h hw => ?_)
  refine V_aload_n 0 rfl rfl dX0_init_9 ?_
  refine V_iconst (v := (-1)) (by decide) dX0_init_10 ?_
  refine X_putI (c := 0) (k := 18) fa_X0_15 (Or.inl rfl) rfl dX0_init_11 hw (fun h hw => ?_)
  refine V_aload_n 0 rfl rfl dX0_init_14 ?_
  refine V_iload_n 1 rfl rfl dX0_init_15 ?_
  refine X_putI (c := 0) (k := 0) fa_X0_18 (Or.inr ⟨rfl, rfl, rfl, po_X0_18⟩) rfl dX0_init_16 hw (fun h hw => ?_)
  refine V_aload_n 0 rfl rfl dX0_init_19 ?_
  refine V_iload_n 2 rfl rfl dX0_init_20 ?_
  refine X_putI (c := 0) (k := 6) fa_X0_21 (Or.inl rfl) rfl dX0_init_21 hw (fun h hw => ?_)
  refine V_aload_n 0 rfl rfl dX0_init_24 ?_
  refine V_aload_n 3 rfl rfl dX0_init_25 ?_
  refine X_putR (c := 0) (k := 1) fa_X0_24 (Or.inr ⟨rfl, rfl, rfl, po_X0_24⟩) (Or.inl ⟨_, rfl⟩) dX0_init_26 hw (fun h hw => ?_)
  refine V_aload_n 0 rfl rfl dX0_init_29 ?_
  refine V_iload 4 rfl dX0_init_30 ?_
  refine X_putI (c := 0) (k := 2) fa_X0_28 (Or.inr ⟨rfl, rfl, rfl, po_X0_28⟩) rfl dX0_init_32 hw (fun h hw => ?_)
  refine V_aload_n 0 rfl rfl dX0_init_35 ?_
  refine V_iload 5 rfl dX0_init_36 ?_
  refine X_putI (c := 0) (k := 3) fa_X0_31 (Or.inr ⟨rfl, rfl, rfl, po_X0_31⟩) rfl dX0_init_38 hw (fun h hw => ?_)
  refine V_aload_n 0 rfl rfl dX0_init_41 ?_
  refine V_iload 6 rfl dX0_init_42 ?_
  refine X_putI (c := 0) (k := 4) fa_X0_34 (Or.inr ⟨rfl, rfl, rfl, po_X0_34⟩) rfl dX0_init_44 hw (fun h hw => ?_)
  refine V_aload_n 0 rfl rfl dX0_init_47 ?_
  refine V_iload 7 rfl dX0_init_48 ?_
  refine X_putI (c := 0) (k := 5) fa_X0_37 (Or.inr ⟨rfl, rfl, rfl, po_X0_37⟩) rfl dX0_init_50 hw (fun h hw => ?_)
  exact V_vret rfl dX0_init_53 ⟨rfl, hw⟩
theorem r_X0_init {l : Launch} {G : Gh} (l0 : Option Nat) (l1 : Int32) (l2 : Int32) (l3 : Option Nat) (l4 : Int32) (l5 : Int32) (l6 : Int32) (l7 : Int32) {h : Hp} {Q : Hp → Prop} (hw : w_X0_init l0 l1 l2 l3 l4 l5 l6 l7 h Q) : RunQ l G 2 yX0_init cX0_init 8 none [va_rf l0, .int l1, .int l2, va_rf l3, .int l4, .int l5, .int l6, .int l7] h (qV Q) :=
  V_run rfl (sl_len _ _ (by simp [cat_i, cat_l, rf_cat])) (V.sub [0, 1, 2, 3, 4, 5, 6, 7] (by simp only [la_r, la_i, la_l, la_n]; rfl) (s_X0_init_0 hw))
def n_X0_isBoundStill_29 (s0 : Int32) (h : Hp) (Q : Int32 → Hp → Prop) : Prop :=
  rZ s0 h Q
def n_X0_isBoundStill_24 (h : Hp) (Q : Int32 → Hp → Prop) : Prop :=
  n_X0_isBoundStill_29 1 h Q
def n_X0_isBoundStill_28 (h : Hp) (Q : Int32 → Hp → Prop) : Prop :=
  n_X0_isBoundStill_29 0 h Q
def n_X0_isBoundStill_0 (l0 : Option Nat) (l1 : Int32) (h : Hp) (Q : Int32 → Hp → Prop) : Prop :=
  gI h l0 1 6 fun v1 =>
  br (v1 = 3) (
    gI h l0 1 18 fun v2 =>
    br (v2 = (-1)) (
      n_X0_isBoundStill_24 h Q) (
      gI h l0 1 18 fun v3 =>
      br (v3 ≤ l1) (
        n_X0_isBoundStill_28 h Q) (
        n_X0_isBoundStill_24 h Q))) (
    n_X0_isBoundStill_28 h Q)
def w_X0_isBoundStill (l0 : Option Nat) (l1 : Int32) (h : Hp) (Q : Int32 → Hp → Prop) : Prop := n_X0_isBoundStill_0 l0 l1 h Q
theorem s_X0_isBoundStill_29 {l : Launch} {G : Gh} {s0 : Int32} {h : Hp} {Q : Int32 → Hp → Prop}  (hw : n_X0_isBoundStill_29 s0 h Q) : V l G 1 yX0_isBoundStill cX0_isBoundStill 2 (some .boolean) 29 [] [.int s0] h (qI Q) := by
  unfold n_X0_isBoundStill_29 at hw
  exact V_zret rfl hw.1 dX0_isBoundStill_29 ⟨_, rfl, hw.2⟩
theorem s_X0_isBoundStill_24 {l : Launch} {G : Gh}  {h : Hp} {Q : Int32 → Hp → Prop}  (hw : n_X0_isBoundStill_24 h Q) : V l G 1 yX0_isBoundStill cX0_isBoundStill 2 (some .boolean) 24 [] [] h (qI Q) := by
  unfold n_X0_isBoundStill_24 at hw
  refine V_iconst (v := 1) (by decide) dX0_isBoundStill_24 ?_
  refine V_goto (tgt := 29) dX0_isBoundStill_25 (by decide) ?_
  exact V.sub [] rfl (s_X0_isBoundStill_29 hw)
theorem s_X0_isBoundStill_28 {l : Launch} {G : Gh}  {h : Hp} {Q : Int32 → Hp → Prop}  (hw : n_X0_isBoundStill_28 h Q) : V l G 1 yX0_isBoundStill cX0_isBoundStill 2 (some .boolean) 28 [] [] h (qI Q) := by
  unfold n_X0_isBoundStill_28 at hw
  refine V_iconst (v := 0) (by decide) dX0_isBoundStill_28 ?_
  exact V.sub [] rfl (s_X0_isBoundStill_29 hw)
theorem s_X0_isBoundStill_0 {l : Launch} {G : Gh} {l0 : Option Nat} {l1 : Int32} {h : Hp} {Q : Int32 → Hp → Prop}  (hw : n_X0_isBoundStill_0 l0 l1 h Q) : V l G 1 yX0_isBoundStill cX0_isBoundStill 2 (some .boolean) 0 [(0, va_rf l0), (1, .int l1)] [] h (qI Q) := by
  unfold n_X0_isBoundStill_0 at hw
  refine V_aload_n 0 rfl rfl dX0_isBoundStill_0 ?_
  refine X_getI (c := 0) (k := 6) fa_X0_21 rfl dX0_isBoundStill_1 hw (fun v1 hw => ?_)
  refine V_iconst (v := 3) (by decide) dX0_isBoundStill_4 ?_
  refine V_icmp_ne (tgt := 28) dX0_isBoundStill_5 (by decide) hw (fun hw => ?_) (fun hw => ?_)
  · refine V_aload_n 0 rfl rfl dX0_isBoundStill_8 ?_
    refine X_getI (c := 0) (k := 18) fa_X0_15 rfl dX0_isBoundStill_9 hw (fun v2 hw => ?_)
    refine V_iconst (v := (-1)) (by decide) dX0_isBoundStill_12 ?_
    refine V_icmp_eq (tgt := 24) dX0_isBoundStill_13 (by decide) hw (fun hw => ?_) (fun hw => ?_)
    · exact V.sub [] rfl (s_X0_isBoundStill_24 hw)
    · refine V_aload_n 0 rfl rfl dX0_isBoundStill_16 ?_
      refine X_getI (c := 0) (k := 18) fa_X0_15 rfl dX0_isBoundStill_17 hw (fun v3 hw => ?_)
      refine V_iload_n 1 rfl rfl dX0_isBoundStill_20 ?_
      refine V_icmp_le (tgt := 28) dX0_isBoundStill_21 (by decide) hw (fun hw => ?_) (fun hw => ?_)
      · exact V.sub [] rfl (s_X0_isBoundStill_28 hw)
      · exact V.sub [] rfl (s_X0_isBoundStill_24 hw)
  · exact V.sub [] rfl (s_X0_isBoundStill_28 hw)
theorem r_X0_isBoundStill {l : Launch} {G : Gh} (l0 : Option Nat) (l1 : Int32) {h : Hp} {Q : Int32 → Hp → Prop} (hw : w_X0_isBoundStill l0 l1 h Q) : RunQ l G 1 yX0_isBoundStill cX0_isBoundStill 2 (some .boolean) [va_rf l0, .int l1] h (qI Q) :=
  V_run rfl (sl_len _ _ (by simp [cat_i, cat_l, rf_cat])) (V.sub [0, 1] (by simp only [la_r, la_i, la_l, la_n]; rfl) (s_X0_isBoundStill_0 hw))
def n_X0_isFor_21 (s0 : Int32) (h : Hp) (Q : Int32 → Hp → Prop) : Prop :=
  rZ s0 h Q
def n_X0_isFor_20 (h : Hp) (Q : Int32 → Hp → Prop) : Prop :=
  n_X0_isFor_21 0 h Q
def n_X0_isFor_0 (l0 : Option Nat) (l1 : Int32) (l2 : Int32) (h : Hp) (Q : Int32 → Hp → Prop) : Prop :=
  gI h l0 1 2 fun v1 =>
  br (v1 = l1) (
    gI h l0 1 3 fun v2 =>
    br (v2 = l2) (
      n_X0_isFor_21 1 h Q) (
      n_X0_isFor_20 h Q)) (
    n_X0_isFor_20 h Q)
def w_X0_isFor (l0 : Option Nat) (l1 : Int32) (l2 : Int32) (h : Hp) (Q : Int32 → Hp → Prop) : Prop := n_X0_isFor_0 l0 l1 l2 h Q
theorem s_X0_isFor_21 {l : Launch} {G : Gh} {s0 : Int32} {h : Hp} {Q : Int32 → Hp → Prop}  (hw : n_X0_isFor_21 s0 h Q) : V l G 1 yX0_isFor cX0_isFor 3 (some .boolean) 21 [] [.int s0] h (qI Q) := by
  unfold n_X0_isFor_21 at hw
  exact V_zret rfl hw.1 dX0_isFor_21 ⟨_, rfl, hw.2⟩
theorem s_X0_isFor_20 {l : Launch} {G : Gh}  {h : Hp} {Q : Int32 → Hp → Prop}  (hw : n_X0_isFor_20 h Q) : V l G 1 yX0_isFor cX0_isFor 3 (some .boolean) 20 [] [] h (qI Q) := by
  unfold n_X0_isFor_20 at hw
  refine V_iconst (v := 0) (by decide) dX0_isFor_20 ?_
  exact V.sub [] rfl (s_X0_isFor_21 hw)
theorem s_X0_isFor_0 {l : Launch} {G : Gh} {l0 : Option Nat} {l1 : Int32} {l2 : Int32} {h : Hp} {Q : Int32 → Hp → Prop}  (hw : n_X0_isFor_0 l0 l1 l2 h Q) : V l G 1 yX0_isFor cX0_isFor 3 (some .boolean) 0 [(0, va_rf l0), (1, .int l1), (2, .int l2)] [] h (qI Q) := by
  unfold n_X0_isFor_0 at hw
  refine V_aload_n 0 rfl rfl dX0_isFor_0 ?_
  refine X_getI (c := 0) (k := 2) fa_X0_28 rfl dX0_isFor_1 hw (fun v1 hw => ?_)
  refine V_iload_n 1 rfl rfl dX0_isFor_4 ?_
  refine V_icmp_ne (tgt := 20) dX0_isFor_5 (by decide) hw (fun hw => ?_) (fun hw => ?_)
  · refine V_aload_n 0 rfl rfl dX0_isFor_8 ?_
    refine X_getI (c := 0) (k := 3) fa_X0_31 rfl dX0_isFor_9 hw (fun v2 hw => ?_)
    refine V_iload_n 2 rfl rfl dX0_isFor_12 ?_
    refine V_icmp_ne (tgt := 20) dX0_isFor_13 (by decide) hw (fun hw => ?_) (fun hw => ?_)
    · refine V_iconst (v := 1) (by decide) dX0_isFor_16 ?_
      refine V_goto (tgt := 21) dX0_isFor_17 (by decide) ?_
      exact V.sub [] rfl (s_X0_isFor_21 hw)
    · exact V.sub [] rfl (s_X0_isFor_20 hw)
  · exact V.sub [] rfl (s_X0_isFor_20 hw)
theorem r_X0_isFor {l : Launch} {G : Gh} (l0 : Option Nat) (l1 : Int32) (l2 : Int32) {h : Hp} {Q : Int32 → Hp → Prop} (hw : w_X0_isFor l0 l1 l2 h Q) : RunQ l G 1 yX0_isFor cX0_isFor 3 (some .boolean) [va_rf l0, .int l1, .int l2] h (qI Q) :=
  V_run rfl (sl_len _ _ (by simp [cat_i, cat_l, rf_cat])) (V.sub [0, 1, 2] (by simp only [la_r, la_i, la_l, la_n]; rfl) (s_X0_isFor_0 hw))
def n_X0_isOf_30 (s0 : Int32) (h : Hp) (Q : Int32 → Hp → Prop) : Prop :=
  rZ s0 h Q
def n_X0_isOf_25 (h : Hp) (Q : Int32 → Hp → Prop) : Prop :=
  n_X0_isOf_30 1 h Q
def n_X0_isOf_29 (h : Hp) (Q : Int32 → Hp → Prop) : Prop :=
  n_X0_isOf_30 0 h Q
def n_X0_isOf_0 (l0 : Option Nat) (l1 : Int32) (h : Hp) (Q : Int32 → Hp → Prop) : Prop :=
  br (l1 = 0) (
    n_X0_isOf_25 h Q) (
    gI h l0 1 6 fun v1 =>
    br (l1 = v1) (
      n_X0_isOf_25 h Q) (
      br (l1 = 2) (
        gI h l0 1 6 fun v2 =>
        br (v2 = 3) (
          n_X0_isOf_25 h Q) (
          n_X0_isOf_29 h Q)) (
        n_X0_isOf_29 h Q)))
def w_X0_isOf (l0 : Option Nat) (l1 : Int32) (h : Hp) (Q : Int32 → Hp → Prop) : Prop := n_X0_isOf_0 l0 l1 h Q
theorem s_X0_isOf_30 {l : Launch} {G : Gh} {s0 : Int32} {h : Hp} {Q : Int32 → Hp → Prop}  (hw : n_X0_isOf_30 s0 h Q) : V l G 1 yX0_isOf cX0_isOf 2 (some .boolean) 30 [] [.int s0] h (qI Q) := by
  unfold n_X0_isOf_30 at hw
  exact V_zret rfl hw.1 dX0_isOf_30 ⟨_, rfl, hw.2⟩
theorem s_X0_isOf_25 {l : Launch} {G : Gh}  {h : Hp} {Q : Int32 → Hp → Prop}  (hw : n_X0_isOf_25 h Q) : V l G 1 yX0_isOf cX0_isOf 2 (some .boolean) 25 [] [] h (qI Q) := by
  unfold n_X0_isOf_25 at hw
  refine V_iconst (v := 1) (by decide) dX0_isOf_25 ?_
  refine V_goto (tgt := 30) dX0_isOf_26 (by decide) ?_
  exact V.sub [] rfl (s_X0_isOf_30 hw)
theorem s_X0_isOf_29 {l : Launch} {G : Gh}  {h : Hp} {Q : Int32 → Hp → Prop}  (hw : n_X0_isOf_29 h Q) : V l G 1 yX0_isOf cX0_isOf 2 (some .boolean) 29 [] [] h (qI Q) := by
  unfold n_X0_isOf_29 at hw
  refine V_iconst (v := 0) (by decide) dX0_isOf_29 ?_
  exact V.sub [] rfl (s_X0_isOf_30 hw)
theorem s_X0_isOf_0 {l : Launch} {G : Gh} {l0 : Option Nat} {l1 : Int32} {h : Hp} {Q : Int32 → Hp → Prop}  (hw : n_X0_isOf_0 l0 l1 h Q) : V l G 1 yX0_isOf cX0_isOf 2 (some .boolean) 0 [(0, va_rf l0), (1, .int l1)] [] h (qI Q) := by
  unfold n_X0_isOf_0 at hw
  refine V_iload_n 1 rfl rfl dX0_isOf_0 ?_
  refine V_if_eq (tgt := 25) dX0_isOf_1 (by decide) hw (fun hw => ?_) (fun hw => ?_)
  · exact V.sub [] rfl (s_X0_isOf_25 hw)
  · refine V_iload_n 1 rfl rfl dX0_isOf_4 ?_
    refine V_aload_n 0 rfl rfl dX0_isOf_5 ?_
    refine X_getI (c := 0) (k := 6) fa_X0_21 rfl dX0_isOf_6 hw (fun v1 hw => ?_)
    refine V_icmp_eq (tgt := 25) dX0_isOf_9 (by decide) hw (fun hw => ?_) (fun hw => ?_)
    · exact V.sub [] rfl (s_X0_isOf_25 hw)
    · refine V_iload_n 1 rfl rfl dX0_isOf_12 ?_
      refine V_iconst (v := 2) (by decide) dX0_isOf_13 ?_
      refine V_icmp_ne (tgt := 29) dX0_isOf_14 (by decide) hw (fun hw => ?_) (fun hw => ?_)
      · refine V_aload_n 0 rfl rfl dX0_isOf_17 ?_
        refine X_getI (c := 0) (k := 6) fa_X0_21 rfl dX0_isOf_18 hw (fun v2 hw => ?_)
        refine V_iconst (v := 3) (by decide) dX0_isOf_21 ?_
        refine V_icmp_ne (tgt := 29) dX0_isOf_22 (by decide) hw (fun hw => ?_) (fun hw => ?_)
        · exact V.sub [] rfl (s_X0_isOf_25 hw)
        · exact V.sub [] rfl (s_X0_isOf_29 hw)
      · exact V.sub [] rfl (s_X0_isOf_29 hw)
theorem r_X0_isOf {l : Launch} {G : Gh} (l0 : Option Nat) (l1 : Int32) {h : Hp} {Q : Int32 → Hp → Prop} (hw : w_X0_isOf l0 l1 h Q) : RunQ l G 1 yX0_isOf cX0_isOf 2 (some .boolean) [va_rf l0, .int l1] h (qI Q) :=
  V_run rfl (sl_len _ _ (by simp [cat_i, cat_l, rf_cat])) (V.sub [0, 1] (by simp only [la_r, la_i, la_l, la_n]; rfl) (s_X0_isOf_0 hw))
def n_X0_partCount_16 (s0 : Int32) (h : Hp) (Q : Int32 → Hp → Prop) : Prop :=
  Q s0 h
def n_X0_partCount_0 (l0 : Option Nat) (h : Hp) (Q : Int32 → Hp → Prop) : Prop :=
  gR h l0 1 9 fun v1 =>
  br (v1 = none) (
    n_X0_partCount_16 0 h Q) (
    gR h l0 1 9 fun v2 =>
    alN h v2 fun v3 =>
    n_X0_partCount_16 v3 h Q)
def w_X0_partCount (l0 : Option Nat) (h : Hp) (Q : Int32 → Hp → Prop) : Prop := n_X0_partCount_0 l0 h Q
theorem s_X0_partCount_16 {l : Launch} {G : Gh} {s0 : Int32} {h : Hp} {Q : Int32 → Hp → Prop}  (hw : n_X0_partCount_16 s0 h Q) : V l G 1 yX0_partCount cX0_partCount 1 (some .int) 16 [] [.int s0] h (qI Q) := by
  unfold n_X0_partCount_16 at hw
  exact V_iret rfl dX0_partCount_16 ⟨_, rfl, hw⟩
theorem s_X0_partCount_0 {l : Launch} {G : Gh} {l0 : Option Nat} {h : Hp} {Q : Int32 → Hp → Prop}  (hw : n_X0_partCount_0 l0 h Q) : V l G 1 yX0_partCount cX0_partCount 1 (some .int) 0 [(0, va_rf l0)] [] h (qI Q) := by
  unfold n_X0_partCount_0 at hw
  refine V_aload_n 0 rfl rfl dX0_partCount_0 ?_
  refine X_getR (c := 0) (k := 9) fa_X0_44 rfl dX0_partCount_1 hw (fun v1 hw => ?_)
  refine V_ifnonnull (tgt := 11) dX0_partCount_4 (by decide) hw (fun hw => ?_) (fun hw => ?_)
  · refine V_iconst (v := 0) (by decide) dX0_partCount_7 ?_
    refine V_goto (tgt := 16) dX0_partCount_8 (by decide) ?_
    exact V.sub [] rfl (s_X0_partCount_16 hw)
  · refine V_aload_n 0 rfl rfl dX0_partCount_11 ?_
    refine X_getR (c := 0) (k := 9) fa_X0_44 rfl dX0_partCount_12 hw (fun v2 hw => ?_)
    refine X_alen dX0_partCount_15 hw (fun v3 hw => ?_)
    exact V.sub [] rfl (s_X0_partCount_16 hw)
theorem r_X0_partCount {l : Launch} {G : Gh} (l0 : Option Nat) {h : Hp} {Q : Int32 → Hp → Prop} (hw : w_X0_partCount l0 h Q) : RunQ l G 1 yX0_partCount cX0_partCount 1 (some .int) [va_rf l0] h (qI Q) :=
  V_run rfl (sl_len _ _ (by simp [cat_i, cat_l, rf_cat])) (V.sub [0] (by simp only [la_r, la_i, la_l, la_n]; rfl) (s_X0_partCount_0 hw))
def n_X0_saysAt_0 (l0 : Option Nat) (l1 : Int32) (h : Hp) (Q : Int32 → Hp → Prop) : Prop :=
  gI h l0 1 7 fun v1 =>
  gI h l0 1 4 fun v2 =>
  lt (if 0 ≤ (v2 - l1) then (v2 - l1) else 0 - (v2 - l1)) fun v3 =>
  Q (v1 * (100 - v3)) h
def w_X0_saysAt (l0 : Option Nat) (l1 : Int32) (h : Hp) (Q : Int32 → Hp → Prop) : Prop := n_X0_saysAt_0 l0 l1 h Q
theorem s_X0_saysAt_0 {l : Launch} {G : Gh} {l0 : Option Nat} {l1 : Int32} {h : Hp} {Q : Int32 → Hp → Prop}  (hw : n_X0_saysAt_0 l0 l1 h Q) : V l G 2 yX0_saysAt cX0_saysAt 2 (some .int) 0 [(0, va_rf l0), (1, .int l1)] [] h (qI Q) := by
  unfold n_X0_saysAt_0 at hw
  refine V_aload_n 0 rfl rfl dX0_saysAt_0 ?_
  refine X_getI (c := 0) (k := 7) fa_X0_48 rfl dX0_saysAt_1 hw (fun v1 hw => ?_)
  refine V_bipush (v := 100) (by decide) dX0_saysAt_4 ?_
  refine V_aload_n 0 rfl rfl dX0_saysAt_6 ?_
  refine X_getI (c := 0) (k := 4) fa_X0_34 rfl dX0_saysAt_7 hw (fun v2 hw => ?_)
  refine V_iload_n 1 rfl rfl dX0_saysAt_10 ?_
  refine V_isub dX0_saysAt_11 ?_
  refine X_mabs wl_X0_51 (by decide) (by simp [cat_i, cat_l, rf_cat]) dX0_saysAt_12 hw (fun v3 hw => ?_)
  refine V_isub dX0_saysAt_15 ?_
  refine V_imul dX0_saysAt_16 ?_
  exact V_iret rfl dX0_saysAt_17 ⟨_, rfl, hw⟩
theorem r_X0_saysAt {l : Launch} {G : Gh} (l0 : Option Nat) (l1 : Int32) {h : Hp} {Q : Int32 → Hp → Prop} (hw : w_X0_saysAt l0 l1 h Q) : RunQ l G 2 yX0_saysAt cX0_saysAt 2 (some .int) [va_rf l0, .int l1] h (qI Q) :=
  V_run rfl (sl_len _ _ (by simp [cat_i, cat_l, rf_cat])) (V.sub [0, 1] (by simp only [la_r, la_i, la_l, la_n]; rfl) (s_X0_saysAt_0 hw))
def n_X0_stands_20 (s0 : Int32) (h : Hp) (Q : Int32 → Hp → Prop) : Prop :=
  rZ s0 h Q
def n_X0_stands_19 (h : Hp) (Q : Int32 → Hp → Prop) : Prop :=
  n_X0_stands_20 0 h Q
def n_X0_stands_0 (l0 : Option Nat) (h : Hp) (Q : Int32 → Hp → Prop) : Prop :=
  gI h l0 1 14 fun v1 =>
  br (v1 = (-1)) (
    gI h l0 1 13 fun v2 =>
    br (v2 = 0) (
      n_X0_stands_20 1 h Q) (
      n_X0_stands_19 h Q)) (
    n_X0_stands_19 h Q)
def w_X0_stands (l0 : Option Nat) (h : Hp) (Q : Int32 → Hp → Prop) : Prop := n_X0_stands_0 l0 h Q
theorem s_X0_stands_20 {l : Launch} {G : Gh} {s0 : Int32} {h : Hp} {Q : Int32 → Hp → Prop}  (hw : n_X0_stands_20 s0 h Q) : V l G 1 yX0_stands cX0_stands 1 (some .boolean) 20 [] [.int s0] h (qI Q) := by
  unfold n_X0_stands_20 at hw
  exact V_zret rfl hw.1 dX0_stands_20 ⟨_, rfl, hw.2⟩
theorem s_X0_stands_19 {l : Launch} {G : Gh}  {h : Hp} {Q : Int32 → Hp → Prop}  (hw : n_X0_stands_19 h Q) : V l G 1 yX0_stands cX0_stands 1 (some .boolean) 19 [] [] h (qI Q) := by
  unfold n_X0_stands_19 at hw
  refine V_iconst (v := 0) (by decide) dX0_stands_19 ?_
  exact V.sub [] rfl (s_X0_stands_20 hw)
theorem s_X0_stands_0 {l : Launch} {G : Gh} {l0 : Option Nat} {h : Hp} {Q : Int32 → Hp → Prop}  (hw : n_X0_stands_0 l0 h Q) : V l G 1 yX0_stands cX0_stands 1 (some .boolean) 0 [(0, va_rf l0)] [] h (qI Q) := by
  unfold n_X0_stands_0 at hw
  refine V_aload_n 0 rfl rfl dX0_stands_0 ?_
  refine X_getI (c := 0) (k := 14) fa_X0_9 rfl dX0_stands_1 hw (fun v1 hw => ?_)
  refine V_iconst (v := (-1)) (by decide) dX0_stands_4 ?_
  refine V_icmp_ne (tgt := 19) dX0_stands_5 (by decide) hw (fun hw => ?_) (fun hw => ?_)
  · refine V_aload_n 0 rfl rfl dX0_stands_8 ?_
    refine X_getI (c := 0) (k := 13) fa_X0_40 rfl dX0_stands_9 hw (fun v2 hw => ?_)
    refine V_if_ne (tgt := 19) dX0_stands_12 (by decide) hw (fun hw => ?_) (fun hw => ?_)
    · refine V_iconst (v := 1) (by decide) dX0_stands_15 ?_
      refine V_goto (tgt := 20) dX0_stands_16 (by decide) ?_
      exact V.sub [] rfl (s_X0_stands_20 hw)
    · exact V.sub [] rfl (s_X0_stands_19 hw)
  · exact V.sub [] rfl (s_X0_stands_19 hw)
theorem r_X0_stands {l : Launch} {G : Gh} (l0 : Option Nat) {h : Hp} {Q : Int32 → Hp → Prop} (hw : w_X0_stands l0 h Q) : RunQ l G 1 yX0_stands cX0_stands 1 (some .boolean) [va_rf l0] h (qI Q) :=
  V_run rfl (sl_len _ _ (by simp [cat_i, cat_l, rf_cat])) (V.sub [0] (by simp only [la_r, la_i, la_l, la_n]; rfl) (s_X0_stands_0 hw))
def n_X10_isIn_15 (s0 : Int32) (h : Hp) (Q : Int32 → Hp → Prop) : Prop :=
  rZ s0 h Q
def n_X10_isIn_14 (h : Hp) (Q : Int32 → Hp → Prop) : Prop :=
  n_X10_isIn_15 0 h Q
def n_X10_isIn_0 (l0 : Int32) (l1 : Int32) (l2 : Int32) (h : Hp) (Q : Int32 → Hp → Prop) : Prop :=
  br (l0 < l1) (
    n_X10_isIn_14 h Q) (
    br (l2 < l0) (
      n_X10_isIn_14 h Q) (
      n_X10_isIn_15 1 h Q))
def w_X10_isIn (l0 : Int32) (l1 : Int32) (l2 : Int32) (h : Hp) (Q : Int32 → Hp → Prop) : Prop := n_X10_isIn_0 l0 l1 l2 h Q
theorem s_X10_isIn_15 {l : Launch} {G : Gh} {s0 : Int32} {h : Hp} {Q : Int32 → Hp → Prop}  (hw : n_X10_isIn_15 s0 h Q) : V l G 1 yX10_isIn cX10_isIn 3 (some .boolean) 15 [] [.int s0] h (qI Q) := by
  unfold n_X10_isIn_15 at hw
  exact V_zret rfl hw.1 dX10_isIn_15 ⟨_, rfl, hw.2⟩
theorem s_X10_isIn_14 {l : Launch} {G : Gh}  {h : Hp} {Q : Int32 → Hp → Prop}  (hw : n_X10_isIn_14 h Q) : V l G 1 yX10_isIn cX10_isIn 3 (some .boolean) 14 [] [] h (qI Q) := by
  unfold n_X10_isIn_14 at hw
  refine V_iconst (v := 0) (by decide) dX10_isIn_14 ?_
  exact V.sub [] rfl (s_X10_isIn_15 hw)
theorem s_X10_isIn_0 {l : Launch} {G : Gh} {l0 : Int32} {l1 : Int32} {l2 : Int32} {h : Hp} {Q : Int32 → Hp → Prop}  (hw : n_X10_isIn_0 l0 l1 l2 h Q) : V l G 1 yX10_isIn cX10_isIn 3 (some .boolean) 0 [(0, .int l0), (1, .int l1), (2, .int l2)] [] h (qI Q) := by
  unfold n_X10_isIn_0 at hw
  refine V_iload_n 0 rfl rfl dX10_isIn_0 ?_
  refine V_iload_n 1 rfl rfl dX10_isIn_1 ?_
  refine V_icmp_lt (tgt := 14) dX10_isIn_2 (by decide) hw (fun hw => ?_) (fun hw => ?_)
  · exact V.sub [] rfl (s_X10_isIn_14 hw)
  · refine V_iload_n 0 rfl rfl dX10_isIn_5 ?_
    refine V_iload_n 2 rfl rfl dX10_isIn_6 ?_
    refine V_icmp_gt (tgt := 14) dX10_isIn_7 (by decide) hw (fun hw => ?_) (fun hw => ?_)
    · exact V.sub [] rfl (s_X10_isIn_14 hw)
    · refine V_iconst (v := 1) (by decide) dX10_isIn_10 ?_
      refine V_goto (tgt := 15) dX10_isIn_11 (by decide) ?_
      exact V.sub [] rfl (s_X10_isIn_15 hw)
theorem r_X10_isIn {l : Launch} {G : Gh} (l0 : Int32) (l1 : Int32) (l2 : Int32) {h : Hp} {Q : Int32 → Hp → Prop} (hw : w_X10_isIn l0 l1 l2 h Q) : RunQ l G 1 yX10_isIn cX10_isIn 3 (some .boolean) [.int l0, .int l1, .int l2] h (qI Q) :=
  V_run rfl (sl_len _ _ (by simp [cat_i, cat_l, rf_cat])) (V.sub [0, 1, 2] (by simp only [la_r, la_i, la_l, la_n]; rfl) (s_X10_isIn_0 hw))
def n_X10_placeAt_24 (s0 : Option Nat) (h : Hp) (Q : Option Nat → Hp → Prop) : Prop :=
  Q s0 h
def n_X10_placeAt_0 (l0 : Option Nat) (l1 : Int32) (h : Hp) (Q : Option Nat → Hp → Prop) : Prop :=
  gI h l0 11 1292 fun v1 =>
  w_X10_isIn l1 0 (v1 - 1) h <| fun v2 h =>
  br (v2 = 0) (
    n_X10_placeAt_24 none h Q) (
    gR h l0 11 1280 fun v3 =>
    ldR h v3 l1 fun v4 =>
    n_X10_placeAt_24 v4 h Q)
def w_X10_placeAt (l0 : Option Nat) (l1 : Int32) (h : Hp) (Q : Option Nat → Hp → Prop) : Prop := n_X10_placeAt_0 l0 l1 h Q
theorem s_X10_placeAt_24 {l : Launch} {G : Gh} {s0 : Option Nat} {h : Hp} {Q : Option Nat → Hp → Prop}  (hw : n_X10_placeAt_24 s0 h Q) : V l G 2 yX10_placeAt cX10_placeAt 2 (some (.object "ComplaintBooks$Place")) 24 [] [va_rf s0] h (qR Q) := by
  unfold n_X10_placeAt_24 at hw
  exact V_aret rfl (Or.inl ⟨_, rfl⟩) dX10_placeAt_24 ⟨_, rfl, hw⟩
theorem s_X10_placeAt_0 {l : Launch} {G : Gh} {l0 : Option Nat} {l1 : Int32} {h : Hp} {Q : Option Nat → Hp → Prop}  (hw : n_X10_placeAt_0 l0 l1 h Q) : V l G 2 yX10_placeAt cX10_placeAt 2 (some (.object "ComplaintBooks$Place")) 0 [(0, va_rf l0), (1, .int l1)] [] h (qR Q) := by
  unfold n_X10_placeAt_0 at hw
  refine V_iload_n 1 rfl rfl dX10_placeAt_0 ?_
  refine V_iconst (v := 0) (by decide) dX10_placeAt_1 ?_
  refine V_aload_n 0 rfl rfl dX10_placeAt_2 ?_
  refine X_getI (c := 10) (k := 12) fa_X10_88 rfl dX10_placeAt_3 hw (fun v1 hw => ?_)
  refine V_iconst (v := 1) (by decide) dX10_placeAt_6 ?_
  refine V_isub dX10_placeAt_7 ?_
  refine X_cS [.int l1, .int 0, .int (v1 - 1)] [] ma_X10_99 (by decide) (by decide) rfl (by simp [cat_i, cat_l, rf_cat]) rfl dX10_placeAt_8 (r_X10_isIn _ _ _ hw) (k_I (fun v2 h hw => ?_))
  refine V_if_eq (tgt := 23) dX10_placeAt_11 (by decide) hw (fun hw => ?_) (fun hw => ?_)
  · refine V_null dX10_placeAt_23 ?_
    exact V.sub [] rfl (s_X10_placeAt_24 hw)
  · refine V_aload_n 0 rfl rfl dX10_placeAt_14 ?_
    refine X_getR (c := 10) (k := 0) fa_X10_11 rfl dX10_placeAt_15 hw (fun v3 hw => ?_)
    refine V_iload_n 1 rfl rfl dX10_placeAt_18 ?_
    refine X_ldR dX10_placeAt_19 hw (fun v4 hw => ?_)
    refine V_goto (tgt := 24) dX10_placeAt_20 (by decide) ?_
    exact V.sub [] rfl (s_X10_placeAt_24 hw)
theorem r_X10_placeAt {l : Launch} {G : Gh} (l0 : Option Nat) (l1 : Int32) {h : Hp} {Q : Option Nat → Hp → Prop} (hw : w_X10_placeAt l0 l1 h Q) : RunQ l G 2 yX10_placeAt cX10_placeAt 2 (some (.object "ComplaintBooks$Place")) [va_rf l0, .int l1] h (qR Q) :=
  V_run rfl (sl_len _ _ (by simp [cat_i, cat_l, rf_cat])) (V.sub [0, 1] (by simp only [la_r, la_i, la_l, la_n]; rfl) (s_X10_placeAt_0 hw))
def n_X10_bit_9 (s0 : Int32) (h : Hp) (Q : Int32 → Hp → Prop) : Prop :=
  Q s0 h
def n_X10_bit_0 (l0 : Int32) (h : Hp) (Q : Int32 → Hp → Prop) : Prop :=
  br (l0 = 0) (
    n_X10_bit_9 0 h Q) (
    n_X10_bit_9 1 h Q)
def w_X10_bit (l0 : Int32) (h : Hp) (Q : Int32 → Hp → Prop) : Prop := n_X10_bit_0 l0 h Q
theorem s_X10_bit_9 {l : Launch} {G : Gh} {s0 : Int32} {h : Hp} {Q : Int32 → Hp → Prop}  (hw : n_X10_bit_9 s0 h Q) : V l G 1 yX10_bit cX10_bit 1 (some .int) 9 [] [.int s0] h (qI Q) := by
  unfold n_X10_bit_9 at hw
  exact V_iret rfl dX10_bit_9 ⟨_, rfl, hw⟩
theorem s_X10_bit_0 {l : Launch} {G : Gh} {l0 : Int32} {h : Hp} {Q : Int32 → Hp → Prop}  (hw : n_X10_bit_0 l0 h Q) : V l G 1 yX10_bit cX10_bit 1 (some .int) 0 [(0, .int l0)] [] h (qI Q) := by
  unfold n_X10_bit_0 at hw
  refine V_iload_n 0 rfl rfl dX10_bit_0 ?_
  refine V_if_eq (tgt := 8) dX10_bit_1 (by decide) hw (fun hw => ?_) (fun hw => ?_)
  · refine V_iconst (v := 0) (by decide) dX10_bit_8 ?_
    exact V.sub [] rfl (s_X10_bit_9 hw)
  · refine V_iconst (v := 1) (by decide) dX10_bit_4 ?_
    refine V_goto (tgt := 9) dX10_bit_5 (by decide) ?_
    exact V.sub [] rfl (s_X10_bit_9 hw)
theorem r_X10_bit {l : Launch} {G : Gh} (l0 : Int32) {h : Hp} {Q : Int32 → Hp → Prop} (hw : w_X10_bit l0 h Q) : RunQ l G 1 yX10_bit cX10_bit 1 (some .int) [.int l0] h (qI Q) :=
  V_run rfl (sl_len _ _ (by simp [cat_i, cat_l, rf_cat])) (V.sub [0] (by simp only [la_r, la_i, la_l, la_n]; rfl) (s_X10_bit_0 hw))
def n_X10_sizeOfBook_31 (l0 : Option Nat) (l1 : Option Nat) (l3 : Int32) (s0 : Int32) (s1 : Int32) (h : Hp) (Q : Int32 → Hp → Prop) (K4 : Int32 → Int32 → Hp → Prop) : Prop :=
  w_X10_bit s0 h <| fun v5 h =>
  lt (s1 + v5) fun x6 =>
  lt (l3 + 1) fun x7 =>
  K4 x6 x7 h
def b_X10_sizeOfBook_4 (l0 : Option Nat) (l1 : Option Nat) (l2 : Int32) (l3 : Int32) (h : Hp) (Q : Int32 → Hp → Prop) (K4 : Int32 → Int32 → Hp → Prop) : Prop :=
  gI h l0 11 1293 fun v1 =>
  br (v1 ≤ l3) (
    Q l2 h) (
    gR h l0 11 1282 fun v2 =>
    ldR h v2 l3 fun v3 =>
    gR h v3 1 1 fun v4 =>
    br (v4 = l1) (
      n_X10_sizeOfBook_31 l0 l1 l3 1 l2 h Q K4) (
      n_X10_sizeOfBook_31 l0 l1 l3 0 l2 h Q K4))
def l_X10_sizeOfBook_4 (l0 : Option Nat) (l1 : Option Nat) (l2 : Int32) (l3 : Int32) (h : Hp) (Q : Int32 → Hp → Prop) : Prop :=
  Lo (fun (K : Int32 × Int32 → Hp → Prop) s h => b_X10_sizeOfBook_4 l0 l1 s.1 s.2 h Q (fun l2 l3 h => K (l2, l3) h)) (l2, l3) h
def n_X10_sizeOfBook_0 (l0 : Option Nat) (l1 : Option Nat) (h : Hp) (Q : Int32 → Hp → Prop) : Prop :=
  l_X10_sizeOfBook_4 l0 l1 0 0 h Q
def w_X10_sizeOfBook (l0 : Option Nat) (l1 : Option Nat) (h : Hp) (Q : Int32 → Hp → Prop) : Prop := n_X10_sizeOfBook_0 l0 l1 h Q
theorem s_X10_sizeOfBook_31 {l : Launch} {G : Gh} {l0 : Option Nat} {l1 : Option Nat} {l3 : Int32} {s0 : Int32} {s1 : Int32} {h : Hp} {Q : Int32 → Hp → Prop} {K4 : Int32 → Int32 → Hp → Prop} (hK4 : ∀ (l2 : Int32) (l3 : Int32) (h : Hp), K4 l2 l3 h → V l G 2 yX10_sizeOfBook cX10_sizeOfBook 4 (some .int) 4 [(0, va_rf l0), (1, va_rf l1), (2, .int l2), (3, .int l3)] [] h (qI Q)) (hw : n_X10_sizeOfBook_31 l0 l1 l3 s0 s1 h Q K4) : V l G 2 yX10_sizeOfBook cX10_sizeOfBook 4 (some .int) 31 [(0, va_rf l0), (1, va_rf l1), (3, .int l3)] [.int s0, .int s1] h (qI Q) := by
  unfold n_X10_sizeOfBook_31 at hw
  refine X_cS [.int s0] [.int s1] ma_X10_138 (by decide) (by decide) rfl (by simp [cat_i, cat_l, rf_cat]) rfl dX10_sizeOfBook_31 (r_X10_bit _ hw) (k_I (fun v5 h hw => ?_))
  refine V_iadd dX10_sizeOfBook_34 ?_
  refine V_ltI hw (fun x6 hw => ?_)
  refine V_istore_n (i := 2) [(2, .int x6), (0, va_rf l0), (1, va_rf l1), (3, .int l3)] rfl (by decide) (by simp [List.filter_cons, rf_cat, cat_i, cat_l]) dX10_sizeOfBook_35 ?_
  refine V_iincL (n := 1) 3 (fun z => [(3, .int z), (2, .int x6), (0, va_rf l0), (1, va_rf l1)]) rfl (by rfl) (by decide) (fun _ => rfl) dX10_sizeOfBook_36 hw (fun x7 hw => ?_)
  refine V_goto (tgt := 4) dX10_sizeOfBook_39 (by decide) ?_
  exact V.sub [2, 3, 1, 0] rfl (hK4 _ _ _ hw)
theorem sb_X10_sizeOfBook_4 {l : Launch} {G : Gh} {l0 : Option Nat} {l1 : Option Nat} {l2 : Int32} {l3 : Int32} {h : Hp} {Q : Int32 → Hp → Prop} {K4 : Int32 → Int32 → Hp → Prop} (hK4 : ∀ (l2 : Int32) (l3 : Int32) (h : Hp), K4 l2 l3 h → V l G 2 yX10_sizeOfBook cX10_sizeOfBook 4 (some .int) 4 [(0, va_rf l0), (1, va_rf l1), (2, .int l2), (3, .int l3)] [] h (qI Q)) (hw : b_X10_sizeOfBook_4 l0 l1 l2 l3 h Q K4) : V l G 2 yX10_sizeOfBook cX10_sizeOfBook 4 (some .int) 4 [(0, va_rf l0), (1, va_rf l1), (2, .int l2), (3, .int l3)] [] h (qI Q) := by
  unfold b_X10_sizeOfBook_4 at hw
  refine V_iload_n 3 rfl rfl dX10_sizeOfBook_4 ?_
  refine V_aload_n 0 rfl rfl dX10_sizeOfBook_5 ?_
  refine X_getI (c := 10) (k := 13) fa_X10_249 rfl dX10_sizeOfBook_6 hw (fun v1 hw => ?_)
  refine V_icmp_ge (tgt := 42) dX10_sizeOfBook_9 (by decide) hw (fun hw => ?_) (fun hw => ?_)
  · refine V_iload_n 2 rfl rfl dX10_sizeOfBook_42 ?_
    exact V_iret rfl dX10_sizeOfBook_43 ⟨_, rfl, hw⟩
  · refine V_iload_n 2 rfl rfl dX10_sizeOfBook_12 ?_
    refine V_aload_n 0 rfl rfl dX10_sizeOfBook_13 ?_
    refine X_getR (c := 10) (k := 2) fa_X10_23 rfl dX10_sizeOfBook_14 hw (fun v2 hw => ?_)
    refine V_iload_n 3 rfl rfl dX10_sizeOfBook_17 ?_
    refine X_ldR dX10_sizeOfBook_18 hw (fun v3 hw => ?_)
    refine X_getR (c := 0) (k := 1) fa_X10_255 rfl dX10_sizeOfBook_19 hw (fun v4 hw => ?_)
    refine V_aload_n 1 rfl rfl dX10_sizeOfBook_22 ?_
    refine V_acmp_ne (tgt := 30) dX10_sizeOfBook_23 (by decide) hw (fun hw => ?_) (fun hw => ?_)
    · refine V_iconst (v := 1) (by decide) dX10_sizeOfBook_26 ?_
      refine V_goto (tgt := 31) dX10_sizeOfBook_27 (by decide) ?_
      exact V.sub [0, 1, 3] rfl (s_X10_sizeOfBook_31 hK4 hw)
    · refine V_iconst (v := 0) (by decide) dX10_sizeOfBook_30 ?_
      exact V.sub [0, 1, 3] rfl (s_X10_sizeOfBook_31 hK4 hw)
theorem s_X10_sizeOfBook_4 {l : Launch} {G : Gh} {l0 : Option Nat} {l1 : Option Nat} {l2 : Int32} {l3 : Int32} {h : Hp} {Q : Int32 → Hp → Prop}  (hw : l_X10_sizeOfBook_4 l0 l1 l2 l3 h Q) : V l G 2 yX10_sizeOfBook cX10_sizeOfBook 4 (some .int) 4 [(0, va_rf l0), (1, va_rf l1), (2, .int l2), (3, .int l3)] [] h (qI Q) :=
  Lo.ind (P := fun (s : Int32 × Int32) h => V l G 2 yX10_sizeOfBook cX10_sizeOfBook 4 (some .int) 4 [(0, va_rf l0), (1, va_rf l1), (2, .int s.1), (3, .int s.2)] [] h (qI Q)) (fun K ih s h hw => sb_X10_sizeOfBook_4 (fun l2 l3 h hk => ih (l2, l3) h hk) hw) hw
theorem s_X10_sizeOfBook_0 {l : Launch} {G : Gh} {l0 : Option Nat} {l1 : Option Nat} {h : Hp} {Q : Int32 → Hp → Prop}  (hw : n_X10_sizeOfBook_0 l0 l1 h Q) : V l G 2 yX10_sizeOfBook cX10_sizeOfBook 4 (some .int) 0 [(0, va_rf l0), (1, va_rf l1)] [] h (qI Q) := by
  unfold n_X10_sizeOfBook_0 at hw
  refine V_iconst (v := 0) (by decide) dX10_sizeOfBook_0 ?_
  refine V_istore_n (i := 2) [(2, .int 0), (0, va_rf l0), (1, va_rf l1)] rfl (by decide) (by simp [List.filter_cons, rf_cat, cat_i, cat_l]) dX10_sizeOfBook_1 ?_
  refine V_iconst (v := 0) (by decide) dX10_sizeOfBook_2 ?_
  refine V_istore_n (i := 3) [(3, .int 0), (2, .int 0), (0, va_rf l0), (1, va_rf l1)] rfl (by decide) rfl dX10_sizeOfBook_3 ?_
  exact V.sub [2, 3, 1, 0] rfl (s_X10_sizeOfBook_4 hw)
theorem r_X10_sizeOfBook {l : Launch} {G : Gh} (l0 : Option Nat) (l1 : Option Nat) {h : Hp} {Q : Int32 → Hp → Prop} (hw : w_X10_sizeOfBook l0 l1 h Q) : RunQ l G 2 yX10_sizeOfBook cX10_sizeOfBook 4 (some .int) [va_rf l0, va_rf l1] h (qI Q) :=
  V_run rfl (sl_len _ _ (by simp [cat_i, cat_l, rf_cat])) (V.sub [0, 1] (by simp only [la_r, la_i, la_l, la_n]; rfl) (s_X10_sizeOfBook_0 hw))
def n_X10_about_83 (s0 : Int32) (h : Hp) (Q : Int32 → Hp → Prop) : Prop :=
  Q s0 h
def n_X10_about_126 (s0 : Int32) (h : Hp) (Q : Int32 → Hp → Prop) : Prop :=
  Q s0 h
def n_X10_about_0 (l0 : Option Nat) (l1 : Int32) (l2 : Int32) (h : Hp) (Q : Int32 → Hp → Prop) : Prop :=
  oV h l0 11 <| w_X10_placeAt l0 l1 h <| fun v1 h =>
  br (v1 = none) (
    Q (-1) h) (
    br (l2 = 0) (
      gI h v1 6 641 fun v2 =>
      Q v2 h) <|
    br (l2 = 1) (
      gR h v1 6 642 fun v3 =>
      br (v3 = none) (
        n_X10_about_83 (-1) h Q) (
        gR h v1 6 642 fun v4 =>
        gI h v4 6 640 fun v5 =>
        n_X10_about_83 v5 h Q)) <|
    br (l2 = 2) (
      gI h v1 6 644 fun v6 =>
      Q v6 h) <|
    br (l2 = 3) (
      gI h v1 6 646 fun v7 =>
      Q v7 h) <|
    br (l2 = 4) (
      oV h l0 11 <| w_X10_sizeOfBook l0 v1 h <| fun v8 h =>
      Q v8 h) <|
    br (l2 = 5) (
      gI h v1 6 648 fun v9 =>
      w_X10_bit v9 h <| fun v10 h =>
      Q v10 h) <|
    br (l2 = 6) (
      gR h v1 6 650 fun v11 =>
      br (v11 = none) (
        n_X10_about_126 (-1) h Q) (
        gR h v1 6 650 fun v12 =>
        gI h v12 5 512 fun v13 =>
        n_X10_about_126 v13 h Q)) <|
    br (l2 = 7) (
      gI h v1 6 649 fun v14 =>
      Q v14 h) <|
    Q (-1) h)
def w_X10_about (l0 : Option Nat) (l1 : Int32) (l2 : Int32) (h : Hp) (Q : Int32 → Hp → Prop) : Prop := n_X10_about_0 l0 l1 l2 h Q
theorem s_X10_about_83 {l : Launch} {G : Gh} {s0 : Int32} {h : Hp} {Q : Int32 → Hp → Prop}  (hw : n_X10_about_83 s0 h Q) : V l G 3 yX10_about cX10_about 4 (some .int) 83 [] [.int s0] h (qI Q) := by
  unfold n_X10_about_83 at hw
  exact V_iret rfl dX10_about_83 ⟨_, rfl, hw⟩
theorem s_X10_about_126 {l : Launch} {G : Gh} {s0 : Int32} {h : Hp} {Q : Int32 → Hp → Prop}  (hw : n_X10_about_126 s0 h Q) : V l G 3 yX10_about cX10_about 4 (some .int) 126 [] [.int s0] h (qI Q) := by
  unfold n_X10_about_126 at hw
  exact V_iret rfl dX10_about_126 ⟨_, rfl, hw⟩
set_option maxRecDepth 20000 in
theorem s_X10_about_0 {l : Launch} {G : Gh} {l0 : Option Nat} {l1 : Int32} {l2 : Int32} {h : Hp} {Q : Int32 → Hp → Prop}  (hw : n_X10_about_0 l0 l1 l2 h Q) : V l G 3 yX10_about cX10_about 4 (some .int) 0 [(0, va_rf l0), (1, .int l1), (2, .int l2)] [] h (qI Q) := by
  unfold n_X10_about_0 at hw
  refine V_aload_n 0 rfl rfl dX10_about_0 ?_
  refine V_iload_n 1 rfl rfl dX10_about_1 ?_
  refine X_cV 10 [.int l1] [] ma_X10_91 (by decide) rfl (by decide) (by decide) rfl (by simp [cat_i, cat_l, rf_cat]) rfl dX10_about_2 hw (r_X10_placeAt _ _) (k_R (fun v1 h hw => ?_))
  refine V_astore_n (i := 3) [(3, va_rf v1), (0, va_rf l0), (1, .int l1), (2, .int l2)] rfl (by decide) rfl dX10_about_5 ?_
  refine V_aload_n 0 rfl rfl dX10_about_6 ?_
  refine V_ifnonnull (tgt := 12) dX10_about_7 (by decide) hw (fun hw => ?_) (fun hw => ?_)
  · refine V_iconst (v := (-1)) (by decide) dX10_about_10 ?_
    exact V_iret rfl dX10_about_11 ⟨_, rfl, hw⟩
  · refine V_iload_n 3 rfl rfl dX10_about_12 ?_
    by_cases c0 : l2 = 0
    · replace hw := hw.1 c0
      refine V_tsw 60 dX10_about_13 (by rw [c0]; exact Or.inr ⟨by decide, by decide, _, rfl, by decide⟩) ?_
      refine V_aload_n 0 rfl rfl dX10_about_60 ?_
      refine X_getI (c := 5) (k := 1) fa_X10_103 rfl dX10_about_61 hw (fun v2 hw => ?_)
      exact V_iret rfl dX10_about_64 ⟨_, rfl, hw⟩
    replace hw := hw.2 c0
    by_cases c1 : l2 = 1
    · replace hw := hw.1 c1
      refine V_tsw 65 dX10_about_13 (by rw [c1]; exact Or.inr ⟨by decide, by decide, _, rfl, by decide⟩) ?_
      refine V_aload_n 0 rfl rfl dX10_about_65 ?_
      refine X_getR (c := 5) (k := 2) fa_X10_117 rfl dX10_about_66 hw (fun v3 hw => ?_)
      refine V_ifnonnull (tgt := 76) dX10_about_69 (by decide) hw (fun hw => ?_) (fun hw => ?_)
      · refine V_iconst (v := (-1)) (by decide) dX10_about_72 ?_
        refine V_goto (tgt := 83) dX10_about_73 (by decide) ?_
        exact V.sub [] rfl (s_X10_about_83 hw)
      · refine V_aload_n 0 rfl rfl dX10_about_76 ?_
        refine X_getR (c := 5) (k := 2) fa_X10_117 rfl dX10_about_77 hw (fun v4 hw => ?_)
        refine X_getI (c := 5) (k := 0) fa_X10_121 rfl dX10_about_80 hw (fun v5 hw => ?_)
        exact V.sub [] rfl (s_X10_about_83 hw)
    replace hw := hw.2 c1
    by_cases c2 : l2 = 2
    · replace hw := hw.1 c2
      refine V_tsw 84 dX10_about_13 (by rw [c2]; exact Or.inr ⟨by decide, by decide, _, rfl, by decide⟩) ?_
      refine V_aload_n 0 rfl rfl dX10_about_84 ?_
      refine X_getI (c := 5) (k := 4) fa_X10_124 rfl dX10_about_85 hw (fun v6 hw => ?_)
      exact V_iret rfl dX10_about_88 ⟨_, rfl, hw⟩
    replace hw := hw.2 c2
    by_cases c3 : l2 = 3
    · replace hw := hw.1 c3
      refine V_tsw 89 dX10_about_13 (by rw [c3]; exact Or.inr ⟨by decide, by decide, _, rfl, by decide⟩) ?_
      refine V_aload_n 0 rfl rfl dX10_about_89 ?_
      refine X_getI (c := 5) (k := 6) fa_X10_127 rfl dX10_about_90 hw (fun v7 hw => ?_)
      exact V_iret rfl dX10_about_93 ⟨_, rfl, hw⟩
    replace hw := hw.2 c3
    by_cases c4 : l2 = 4
    · replace hw := hw.1 c4
      refine V_tsw 94 dX10_about_13 (by rw [c4]; exact Or.inr ⟨by decide, by decide, _, rfl, by decide⟩) ?_
      refine V_aload_n 1 rfl rfl dX10_about_94 ?_
      refine V_aload_n 0 rfl rfl dX10_about_95 ?_
      refine X_cV 10 [va_rf v1] [] ma_X10_130 (by decide) rfl (by decide) (by decide) rfl (by simp [cat_i, cat_l, rf_cat]) rfl dX10_about_96 hw (r_X10_sizeOfBook _ _) (k_I (fun v8 h hw => ?_))
      exact V_iret rfl dX10_about_99 ⟨_, rfl, hw⟩
    replace hw := hw.2 c4
    by_cases c5 : l2 = 5
    · replace hw := hw.1 c5
      refine V_tsw 100 dX10_about_13 (by rw [c5]; exact Or.inr ⟨by decide, by decide, _, rfl, by decide⟩) ?_
      refine V_aload_n 0 rfl rfl dX10_about_100 ?_
      refine X_getI (c := 5) (k := 8) fa_X10_134 rfl dX10_about_101 hw (fun v9 hw => ?_)
      refine X_cS [.int v9] [] ma_X10_138 (by decide) (by decide) rfl (by simp [cat_i, cat_l, rf_cat]) rfl dX10_about_104 (r_X10_bit _ hw) (k_I (fun v10 h hw => ?_))
      exact V_iret rfl dX10_about_107 ⟨_, rfl, hw⟩
    replace hw := hw.2 c5
    by_cases c6 : l2 = 6
    · replace hw := hw.1 c6
      refine V_tsw 108 dX10_about_13 (by rw [c6]; exact Or.inr ⟨by decide, by decide, _, rfl, by decide⟩) ?_
      refine V_aload_n 0 rfl rfl dX10_about_108 ?_
      refine X_getR (c := 5) (k := 10) fa_X10_142 rfl dX10_about_109 hw (fun v11 hw => ?_)
      refine V_ifnonnull (tgt := 119) dX10_about_112 (by decide) hw (fun hw => ?_) (fun hw => ?_)
      · refine V_iconst (v := (-1)) (by decide) dX10_about_115 ?_
        refine V_goto (tgt := 126) dX10_about_116 (by decide) ?_
        exact V.sub [] rfl (s_X10_about_126 hw)
      · refine V_aload_n 0 rfl rfl dX10_about_119 ?_
        refine X_getR (c := 5) (k := 10) fa_X10_142 rfl dX10_about_120 hw (fun v12 hw => ?_)
        refine X_getI (c := 4) (k := 0) fa_X10_146 rfl dX10_about_123 hw (fun v13 hw => ?_)
        exact V.sub [] rfl (s_X10_about_126 hw)
    replace hw := hw.2 c6
    by_cases c7 : l2 = 7
    · replace hw := hw.1 c7
      refine V_tsw 127 dX10_about_13 (by rw [c7]; exact Or.inr ⟨by decide, by decide, _, rfl, by decide⟩) ?_
      refine V_aload_n 0 rfl rfl dX10_about_127 ?_
      refine X_getI (c := 5) (k := 9) fa_X10_147 rfl dX10_about_128 hw (fun v14 hw => ?_)
      exact V_iret rfl dX10_about_131 ⟨_, rfl, hw⟩
    replace hw := hw.2 c7
    have hout : l2.toInt < 0 ∨ 7 < l2.toInt := by
      refine sw_out (fun v h1 h2 => ?_)
      rcases (show v = 0 ∨ v = 1 ∨ v = 2 ∨ v = 3 ∨ v = 4 ∨ v = 5 ∨ v = 6 ∨ v = 7 by omega) with rfl | rfl | rfl | rfl | rfl | rfl | rfl | rfl
      · exact c0
      · exact c1
      · exact c2
      · exact c3
      · exact c4
      · exact c5
      · exact c6
      · exact c7
    refine V_tsw 132 dX10_about_13 (Or.inl ⟨hout, by decide⟩) ?_
    refine V_iconst (v := (-1)) (by decide) dX10_about_132 ?_
    exact V_iret rfl dX10_about_133 ⟨_, rfl, hw⟩
theorem r_X10_about {l : Launch} {G : Gh} (l0 : Option Nat) (l1 : Int32) (l2 : Int32) {h : Hp} {Q : Int32 → Hp → Prop} (hw : w_X10_about l0 l1 l2 h Q) : RunQ l G 3 yX10_about cX10_about 4 (some .int) [va_rf l0, .int l1, .int l2] h (qI Q) :=
  V_run rfl (sl_len _ _ (by simp [cat_i, cat_l, rf_cat])) (V.sub [0, 1, 2] (by simp only [la_r, la_i, la_l, la_n]; rfl) (s_X10_about_0 hw))
def n_X10_askAt_24 (s0 : Option Nat) (h : Hp) (Q : Option Nat → Hp → Prop) : Prop :=
  Q s0 h
def n_X10_askAt_0 (l0 : Option Nat) (l1 : Int32) (h : Hp) (Q : Option Nat → Hp → Prop) : Prop :=
  gI h l0 11 1293 fun v1 =>
  w_X10_isIn l1 0 (v1 - 1) h <| fun v2 h =>
  br (v2 = 0) (
    n_X10_askAt_24 none h Q) (
    gR h l0 11 1282 fun v3 =>
    ldR h v3 l1 fun v4 =>
    n_X10_askAt_24 v4 h Q)
def w_X10_askAt (l0 : Option Nat) (l1 : Int32) (h : Hp) (Q : Option Nat → Hp → Prop) : Prop := n_X10_askAt_0 l0 l1 h Q
theorem s_X10_askAt_24 {l : Launch} {G : Gh} {s0 : Option Nat} {h : Hp} {Q : Option Nat → Hp → Prop}  (hw : n_X10_askAt_24 s0 h Q) : V l G 2 yX10_askAt cX10_askAt 2 (some (.object "ComplaintBooks$Ask")) 24 [] [va_rf s0] h (qR Q) := by
  unfold n_X10_askAt_24 at hw
  exact V_aret rfl (Or.inl ⟨_, rfl⟩) dX10_askAt_24 ⟨_, rfl, hw⟩
theorem s_X10_askAt_0 {l : Launch} {G : Gh} {l0 : Option Nat} {l1 : Int32} {h : Hp} {Q : Option Nat → Hp → Prop}  (hw : n_X10_askAt_0 l0 l1 h Q) : V l G 2 yX10_askAt cX10_askAt 2 (some (.object "ComplaintBooks$Ask")) 0 [(0, va_rf l0), (1, .int l1)] [] h (qR Q) := by
  unfold n_X10_askAt_0 at hw
  refine V_iload_n 1 rfl rfl dX10_askAt_0 ?_
  refine V_iconst (v := 0) (by decide) dX10_askAt_1 ?_
  refine V_aload_n 0 rfl rfl dX10_askAt_2 ?_
  refine X_getI (c := 10) (k := 13) fa_X10_249 rfl dX10_askAt_3 hw (fun v1 hw => ?_)
  refine V_iconst (v := 1) (by decide) dX10_askAt_6 ?_
  refine V_isub dX10_askAt_7 ?_
  refine X_cS [.int l1, .int 0, .int (v1 - 1)] [] ma_X10_99 (by decide) (by decide) rfl (by simp [cat_i, cat_l, rf_cat]) rfl dX10_askAt_8 (r_X10_isIn _ _ _ hw) (k_I (fun v2 h hw => ?_))
  refine V_if_eq (tgt := 23) dX10_askAt_11 (by decide) hw (fun hw => ?_) (fun hw => ?_)
  · refine V_null dX10_askAt_23 ?_
    exact V.sub [] rfl (s_X10_askAt_24 hw)
  · refine V_aload_n 0 rfl rfl dX10_askAt_14 ?_
    refine X_getR (c := 10) (k := 2) fa_X10_23 rfl dX10_askAt_15 hw (fun v3 hw => ?_)
    refine V_iload_n 1 rfl rfl dX10_askAt_18 ?_
    refine X_ldR dX10_askAt_19 hw (fun v4 hw => ?_)
    refine V_goto (tgt := 24) dX10_askAt_20 (by decide) ?_
    exact V.sub [] rfl (s_X10_askAt_24 hw)
theorem r_X10_askAt {l : Launch} {G : Gh} (l0 : Option Nat) (l1 : Int32) {h : Hp} {Q : Option Nat → Hp → Prop} (hw : w_X10_askAt l0 l1 h Q) : RunQ l G 2 yX10_askAt cX10_askAt 2 (some (.object "ComplaintBooks$Ask")) [va_rf l0, .int l1] h (qR Q) :=
  V_run rfl (sl_len _ _ (by simp [cat_i, cat_l, rf_cat])) (V.sub [0, 1] (by simp only [la_r, la_i, la_l, la_n]; rfl) (s_X10_askAt_0 hw))
def n_X10_ask_138 (s0 : Int32) (h : Hp) (Q : Int32 → Hp → Prop) : Prop :=
  w_X10_bit s0 h <| fun v12 h =>
  Q v12 h
def n_X10_ask_168 (s0 : Int32) (h : Hp) (Q : Int32 → Hp → Prop) : Prop :=
  Q s0 h
def n_X10_ask_187 (s0 : Int32) (h : Hp) (Q : Int32 → Hp → Prop) : Prop :=
  Q s0 h
def n_X10_ask_211 (s0 : Int32) (h : Hp) (Q : Int32 → Hp → Prop) : Prop :=
  Q s0 h
def n_X10_ask_0 (l0 : Option Nat) (l1 : Int32) (l2 : Int32) (h : Hp) (Q : Int32 → Hp → Prop) : Prop :=
  oV h l0 11 <| w_X10_askAt l0 l1 h <| fun v1 h =>
  br (v1 = none) (
    Q (-1) h) (
    br (l2 = 0) (
      gI h v1 1 6 fun v2 =>
      Q v2 h) <|
    br (l2 = 1) (
      gR h v1 1 1 fun v3 =>
      gI h v3 6 640 fun v4 =>
      Q v4 h) <|
    br (l2 = 2) (
      gI h v1 1 2 fun v5 =>
      Q v5 h) <|
    br (l2 = 3) (
      gI h v1 1 3 fun v6 =>
      Q v6 h) <|
    br (l2 = 4) (
      gI h v1 1 4 fun v7 =>
      Q v7 h) <|
    br (l2 = 5) (
      gI h v1 1 5 fun v8 =>
      Q v8 h) <|
    br (l2 = 6) (
      gI h v1 1 12 fun v9 =>
      w_X10_bit v9 h <| fun v10 h =>
      Q v10 h) <|
    br (l2 = 7) (
      gI h v1 1 14 fun v11 =>
      br (v11 = (-1)) (
        n_X10_ask_138 0 h Q) (
        n_X10_ask_138 1 h Q)) <|
    br (l2 = 8) (
      gI h v1 1 13 fun v13 =>
      w_X10_bit v13 h <| fun v14 h =>
      Q v14 h) <|
    br (l2 = 9) (
      gR h v1 1 15 fun v15 =>
      br (v15 = none) (
        n_X10_ask_168 (-1) h Q) (
        gR h v1 1 15 fun v16 =>
        gI h v16 1 0 fun v17 =>
        n_X10_ask_168 v17 h Q)) <|
    br (l2 = 10) (
      gR h v1 1 16 fun v18 =>
      br (v18 = none) (
        n_X10_ask_187 (-1) h Q) (
        gR h v1 1 16 fun v19 =>
        gI h v19 6 640 fun v20 =>
        n_X10_ask_187 v20 h Q)) <|
    br (l2 = 11) (
      gI h v1 1 7 fun v21 =>
      Q v21 h) <|
    br (l2 = 12) (
      gR h v1 1 10 fun v22 =>
      br (v22 = none) (
        n_X10_ask_211 (-1) h Q) (
        gR h v1 1 10 fun v23 =>
        gI h v23 4 384 fun v24 =>
        n_X10_ask_211 v24 h Q)) <|
    br (l2 = 13) (
      gI h v1 1 17 fun v25 =>
      w_X10_bit v25 h <| fun v26 h =>
      Q v26 h) <|
    Q (-1) h)
def w_X10_ask (l0 : Option Nat) (l1 : Int32) (l2 : Int32) (h : Hp) (Q : Int32 → Hp → Prop) : Prop := n_X10_ask_0 l0 l1 l2 h Q
theorem s_X10_ask_138 {l : Launch} {G : Gh} {s0 : Int32} {h : Hp} {Q : Int32 → Hp → Prop}  (hw : n_X10_ask_138 s0 h Q) : V l G 3 yX10_ask cX10_ask 4 (some .int) 138 [] [.int s0] h (qI Q) := by
  unfold n_X10_ask_138 at hw
  refine X_cS [.int s0] [] ma_X10_138 (by decide) (by decide) rfl (by simp [cat_i, cat_l, rf_cat]) rfl dX10_ask_138 (r_X10_bit _ hw) (k_I (fun v12 h hw => ?_))
  exact V_iret rfl dX10_ask_141 ⟨_, rfl, hw⟩
theorem s_X10_ask_168 {l : Launch} {G : Gh} {s0 : Int32} {h : Hp} {Q : Int32 → Hp → Prop}  (hw : n_X10_ask_168 s0 h Q) : V l G 3 yX10_ask cX10_ask 4 (some .int) 168 [] [.int s0] h (qI Q) := by
  unfold n_X10_ask_168 at hw
  exact V_iret rfl dX10_ask_168 ⟨_, rfl, hw⟩
theorem s_X10_ask_187 {l : Launch} {G : Gh} {s0 : Int32} {h : Hp} {Q : Int32 → Hp → Prop}  (hw : n_X10_ask_187 s0 h Q) : V l G 3 yX10_ask cX10_ask 4 (some .int) 187 [] [.int s0] h (qI Q) := by
  unfold n_X10_ask_187 at hw
  exact V_iret rfl dX10_ask_187 ⟨_, rfl, hw⟩
theorem s_X10_ask_211 {l : Launch} {G : Gh} {s0 : Int32} {h : Hp} {Q : Int32 → Hp → Prop}  (hw : n_X10_ask_211 s0 h Q) : V l G 3 yX10_ask cX10_ask 4 (some .int) 211 [] [.int s0] h (qI Q) := by
  unfold n_X10_ask_211 at hw
  exact V_iret rfl dX10_ask_211 ⟨_, rfl, hw⟩
set_option maxRecDepth 20000 in
theorem s_X10_ask_0 {l : Launch} {G : Gh} {l0 : Option Nat} {l1 : Int32} {l2 : Int32} {h : Hp} {Q : Int32 → Hp → Prop}  (hw : n_X10_ask_0 l0 l1 l2 h Q) : V l G 3 yX10_ask cX10_ask 4 (some .int) 0 [(0, va_rf l0), (1, .int l1), (2, .int l2)] [] h (qI Q) := by
  unfold n_X10_ask_0 at hw
  refine V_aload_n 0 rfl rfl dX10_ask_0 ?_
  refine V_iload_n 1 rfl rfl dX10_ask_1 ?_
  refine X_cV 10 [.int l1] [] ma_X10_196 (by decide) rfl (by decide) (by decide) rfl (by simp [cat_i, cat_l, rf_cat]) rfl dX10_ask_2 hw (r_X10_askAt _ _) (k_R (fun v1 h hw => ?_))
  refine V_astore_n (i := 3) [(3, va_rf v1), (0, va_rf l0), (1, .int l1), (2, .int l2)] rfl (by decide) rfl dX10_ask_5 ?_
  refine V_aload_n 0 rfl rfl dX10_ask_6 ?_
  refine V_ifnonnull (tgt := 12) dX10_ask_7 (by decide) hw (fun hw => ?_) (fun hw => ?_)
  · refine V_iconst (v := (-1)) (by decide) dX10_ask_10 ?_
    exact V_iret rfl dX10_ask_11 ⟨_, rfl, hw⟩
  · refine V_iload_n 3 rfl rfl dX10_ask_12 ?_
    by_cases c0 : l2 = 0
    · replace hw := hw.1 c0
      refine V_tsw 84 dX10_ask_13 (by rw [c0]; exact Or.inr ⟨by decide, by decide, _, rfl, by decide⟩) ?_
      refine V_aload_n 0 rfl rfl dX10_ask_84 ?_
      refine X_getI (c := 0) (k := 6) fa_X10_309 rfl dX10_ask_85 hw (fun v2 hw => ?_)
      exact V_iret rfl dX10_ask_88 ⟨_, rfl, hw⟩
    replace hw := hw.2 c0
    by_cases c1 : l2 = 1
    · replace hw := hw.1 c1
      refine V_tsw 89 dX10_ask_13 (by rw [c1]; exact Or.inr ⟨by decide, by decide, _, rfl, by decide⟩) ?_
      refine V_aload_n 0 rfl rfl dX10_ask_89 ?_
      refine X_getR (c := 0) (k := 1) fa_X10_255 rfl dX10_ask_90 hw (fun v3 hw => ?_)
      refine X_getI (c := 5) (k := 0) fa_X10_121 rfl dX10_ask_93 hw (fun v4 hw => ?_)
      exact V_iret rfl dX10_ask_96 ⟨_, rfl, hw⟩
    replace hw := hw.2 c1
    by_cases c2 : l2 = 2
    · replace hw := hw.1 c2
      refine V_tsw 97 dX10_ask_13 (by rw [c2]; exact Or.inr ⟨by decide, by decide, _, rfl, by decide⟩) ?_
      refine V_aload_n 0 rfl rfl dX10_ask_97 ?_
      refine X_getI (c := 0) (k := 2) fa_X10_252 rfl dX10_ask_98 hw (fun v5 hw => ?_)
      exact V_iret rfl dX10_ask_101 ⟨_, rfl, hw⟩
    replace hw := hw.2 c2
    by_cases c3 : l2 = 3
    · replace hw := hw.1 c3
      refine V_tsw 102 dX10_ask_13 (by rw [c3]; exact Or.inr ⟨by decide, by decide, _, rfl, by decide⟩) ?_
      refine V_aload_n 0 rfl rfl dX10_ask_102 ?_
      refine X_getI (c := 0) (k := 3) fa_X10_312 rfl dX10_ask_103 hw (fun v6 hw => ?_)
      exact V_iret rfl dX10_ask_106 ⟨_, rfl, hw⟩
    replace hw := hw.2 c3
    by_cases c4 : l2 = 4
    · replace hw := hw.1 c4
      refine V_tsw 107 dX10_ask_13 (by rw [c4]; exact Or.inr ⟨by decide, by decide, _, rfl, by decide⟩) ?_
      refine V_aload_n 0 rfl rfl dX10_ask_107 ?_
      refine X_getI (c := 0) (k := 4) fa_X10_216 rfl dX10_ask_108 hw (fun v7 hw => ?_)
      exact V_iret rfl dX10_ask_111 ⟨_, rfl, hw⟩
    replace hw := hw.2 c4
    by_cases c5 : l2 = 5
    · replace hw := hw.1 c5
      refine V_tsw 112 dX10_ask_13 (by rw [c5]; exact Or.inr ⟨by decide, by decide, _, rfl, by decide⟩) ?_
      refine V_aload_n 0 rfl rfl dX10_ask_112 ?_
      refine X_getI (c := 0) (k := 5) fa_X10_258 rfl dX10_ask_113 hw (fun v8 hw => ?_)
      exact V_iret rfl dX10_ask_116 ⟨_, rfl, hw⟩
    replace hw := hw.2 c5
    by_cases c6 : l2 = 6
    · replace hw := hw.1 c6
      refine V_tsw 117 dX10_ask_13 (by rw [c6]; exact Or.inr ⟨by decide, by decide, _, rfl, by decide⟩) ?_
      refine V_aload_n 0 rfl rfl dX10_ask_117 ?_
      refine X_getI (c := 0) (k := 12) fa_X10_290 rfl dX10_ask_118 hw (fun v9 hw => ?_)
      refine X_cS [.int v9] [] ma_X10_138 (by decide) (by decide) rfl (by simp [cat_i, cat_l, rf_cat]) rfl dX10_ask_121 (r_X10_bit _ hw) (k_I (fun v10 h hw => ?_))
      exact V_iret rfl dX10_ask_124 ⟨_, rfl, hw⟩
    replace hw := hw.2 c6
    by_cases c7 : l2 = 7
    · replace hw := hw.1 c7
      refine V_tsw 125 dX10_ask_13 (by rw [c7]; exact Or.inr ⟨by decide, by decide, _, rfl, by decide⟩) ?_
      refine V_aload_n 0 rfl rfl dX10_ask_125 ?_
      refine X_getI (c := 0) (k := 14) fa_X10_303 rfl dX10_ask_126 hw (fun v11 hw => ?_)
      refine V_iconst (v := (-1)) (by decide) dX10_ask_129 ?_
      refine V_icmp_eq (tgt := 137) dX10_ask_130 (by decide) hw (fun hw => ?_) (fun hw => ?_)
      · refine V_iconst (v := 0) (by decide) dX10_ask_137 ?_
        exact V.sub [] rfl (s_X10_ask_138 hw)
      · refine V_iconst (v := 1) (by decide) dX10_ask_133 ?_
        refine V_goto (tgt := 138) dX10_ask_134 (by decide) ?_
        exact V.sub [] rfl (s_X10_ask_138 hw)
    replace hw := hw.2 c7
    by_cases c8 : l2 = 8
    · replace hw := hw.1 c8
      refine V_tsw 142 dX10_ask_13 (by rw [c8]; exact Or.inr ⟨by decide, by decide, _, rfl, by decide⟩) ?_
      refine V_aload_n 0 rfl rfl dX10_ask_142 ?_
      refine X_getI (c := 0) (k := 13) fa_X10_306 rfl dX10_ask_143 hw (fun v13 hw => ?_)
      refine X_cS [.int v13] [] ma_X10_138 (by decide) (by decide) rfl (by simp [cat_i, cat_l, rf_cat]) rfl dX10_ask_146 (r_X10_bit _ hw) (k_I (fun v14 h hw => ?_))
      exact V_iret rfl dX10_ask_149 ⟨_, rfl, hw⟩
    replace hw := hw.2 c8
    by_cases c9 : l2 = 9
    · replace hw := hw.1 c9
      refine V_tsw 150 dX10_ask_13 (by rw [c9]; exact Or.inr ⟨by decide, by decide, _, rfl, by decide⟩) ?_
      refine V_aload_n 0 rfl rfl dX10_ask_150 ?_
      refine X_getR (c := 0) (k := 15) fa_X10_315 rfl dX10_ask_151 hw (fun v15 hw => ?_)
      refine V_ifnonnull (tgt := 161) dX10_ask_154 (by decide) hw (fun hw => ?_) (fun hw => ?_)
      · refine V_iconst (v := (-1)) (by decide) dX10_ask_157 ?_
        refine V_goto (tgt := 168) dX10_ask_158 (by decide) ?_
        exact V.sub [] rfl (s_X10_ask_168 hw)
      · refine V_aload_n 0 rfl rfl dX10_ask_161 ?_
        refine X_getR (c := 0) (k := 15) fa_X10_315 rfl dX10_ask_162 hw (fun v16 hw => ?_)
        refine X_getI (c := 0) (k := 0) fa_X10_204 rfl dX10_ask_165 hw (fun v17 hw => ?_)
        exact V.sub [] rfl (s_X10_ask_168 hw)
    replace hw := hw.2 c9
    by_cases c10 : l2 = 10
    · replace hw := hw.1 c10
      refine V_tsw 169 dX10_ask_13 (by rw [c10]; exact Or.inr ⟨by decide, by decide, _, rfl, by decide⟩) ?_
      refine V_aload_n 0 rfl rfl dX10_ask_169 ?_
      refine X_getR (c := 0) (k := 16) fa_X10_318 rfl dX10_ask_170 hw (fun v18 hw => ?_)
      refine V_ifnonnull (tgt := 180) dX10_ask_173 (by decide) hw (fun hw => ?_) (fun hw => ?_)
      · refine V_iconst (v := (-1)) (by decide) dX10_ask_176 ?_
        refine V_goto (tgt := 187) dX10_ask_177 (by decide) ?_
        exact V.sub [] rfl (s_X10_ask_187 hw)
      · refine V_aload_n 0 rfl rfl dX10_ask_180 ?_
        refine X_getR (c := 0) (k := 16) fa_X10_318 rfl dX10_ask_181 hw (fun v19 hw => ?_)
        refine X_getI (c := 5) (k := 0) fa_X10_121 rfl dX10_ask_184 hw (fun v20 hw => ?_)
        exact V.sub [] rfl (s_X10_ask_187 hw)
    replace hw := hw.2 c10
    by_cases c11 : l2 = 11
    · replace hw := hw.1 c11
      refine V_tsw 188 dX10_ask_13 (by rw [c11]; exact Or.inr ⟨by decide, by decide, _, rfl, by decide⟩) ?_
      refine V_aload_n 0 rfl rfl dX10_ask_188 ?_
      refine X_getI (c := 0) (k := 7) fa_X10_289 rfl dX10_ask_189 hw (fun v21 hw => ?_)
      exact V_iret rfl dX10_ask_192 ⟨_, rfl, hw⟩
    replace hw := hw.2 c11
    by_cases c12 : l2 = 12
    · replace hw := hw.1 c12
      refine V_tsw 193 dX10_ask_13 (by rw [c12]; exact Or.inr ⟨by decide, by decide, _, rfl, by decide⟩) ?_
      refine V_aload_n 0 rfl rfl dX10_ask_193 ?_
      refine X_getR (c := 0) (k := 10) fa_X10_245 rfl dX10_ask_194 hw (fun v22 hw => ?_)
      refine V_ifnonnull (tgt := 204) dX10_ask_197 (by decide) hw (fun hw => ?_) (fun hw => ?_)
      · refine V_iconst (v := (-1)) (by decide) dX10_ask_200 ?_
        refine V_goto (tgt := 211) dX10_ask_201 (by decide) ?_
        exact V.sub [] rfl (s_X10_ask_211 hw)
      · refine V_aload_n 0 rfl rfl dX10_ask_204 ?_
        refine X_getR (c := 0) (k := 10) fa_X10_245 rfl dX10_ask_205 hw (fun v23 hw => ?_)
        refine X_getI (c := 3) (k := 0) fa_X10_321 rfl dX10_ask_208 hw (fun v24 hw => ?_)
        exact V.sub [] rfl (s_X10_ask_211 hw)
    replace hw := hw.2 c12
    by_cases c13 : l2 = 13
    · replace hw := hw.1 c13
      refine V_tsw 212 dX10_ask_13 (by rw [c13]; exact Or.inr ⟨by decide, by decide, _, rfl, by decide⟩) ?_
      refine V_aload_n 0 rfl rfl dX10_ask_212 ?_
      refine X_getI (c := 0) (k := 17) fa_X10_322 rfl dX10_ask_213 hw (fun v25 hw => ?_)
      refine X_cS [.int v25] [] ma_X10_138 (by decide) (by decide) rfl (by simp [cat_i, cat_l, rf_cat]) rfl dX10_ask_216 (r_X10_bit _ hw) (k_I (fun v26 h hw => ?_))
      exact V_iret rfl dX10_ask_219 ⟨_, rfl, hw⟩
    replace hw := hw.2 c13
    have hout : l2.toInt < 0 ∨ 13 < l2.toInt := by
      refine sw_out (fun v h1 h2 => ?_)
      rcases (show v = 0 ∨ v = 1 ∨ v = 2 ∨ v = 3 ∨ v = 4 ∨ v = 5 ∨ v = 6 ∨ v = 7 ∨ v = 8 ∨ v = 9 ∨ v = 10 ∨ v = 11 ∨ v = 12 ∨ v = 13 by omega) with rfl | rfl | rfl | rfl | rfl | rfl | rfl | rfl | rfl | rfl | rfl | rfl | rfl | rfl
      · exact c0
      · exact c1
      · exact c2
      · exact c3
      · exact c4
      · exact c5
      · exact c6
      · exact c7
      · exact c8
      · exact c9
      · exact c10
      · exact c11
      · exact c12
      · exact c13
    refine V_tsw 220 dX10_ask_13 (Or.inl ⟨hout, by decide⟩) ?_
    refine V_iconst (v := (-1)) (by decide) dX10_ask_220 ?_
    exact V_iret rfl dX10_ask_221 ⟨_, rfl, hw⟩
theorem r_X10_ask {l : Launch} {G : Gh} (l0 : Option Nat) (l1 : Int32) (l2 : Int32) {h : Hp} {Q : Int32 → Hp → Prop} (hw : w_X10_ask l0 l1 l2 h Q) : RunQ l G 3 yX10_ask cX10_ask 4 (some .int) [va_rf l0, .int l1, .int l2] h (qI Q) :=
  V_run rfl (sl_len _ _ (by simp [cat_i, cat_l, rf_cat])) (V.sub [0, 1, 2] (by simp only [la_r, la_i, la_l, la_n]; rfl) (s_X10_ask_0 hw))
def n_X10_isGroup_25 (s0 : Int32) (h : Hp) (Q : Int32 → Hp → Prop) : Prop :=
  rZ s0 h Q
def n_X10_isGroup_24 (h : Hp) (Q : Int32 → Hp → Prop) : Prop :=
  n_X10_isGroup_25 0 h Q
def n_X10_isGroup_0 (l0 : Int32) (l1 : Int32) (h : Hp) (Q : Int32 → Hp → Prop) : Prop :=
  w_X10_isIn l0 0 15 h <| fun v1 h =>
  br (v1 = 0) (
    n_X10_isGroup_24 h Q) (
    w_X10_isIn l1 0 7 h <| fun v2 h =>
    br (v2 = 0) (
      n_X10_isGroup_24 h Q) (
      n_X10_isGroup_25 1 h Q))
def w_X10_isGroup (l0 : Int32) (l1 : Int32) (h : Hp) (Q : Int32 → Hp → Prop) : Prop := n_X10_isGroup_0 l0 l1 h Q
theorem s_X10_isGroup_25 {l : Launch} {G : Gh} {s0 : Int32} {h : Hp} {Q : Int32 → Hp → Prop}  (hw : n_X10_isGroup_25 s0 h Q) : V l G 2 yX10_isGroup cX10_isGroup 2 (some .boolean) 25 [] [.int s0] h (qI Q) := by
  unfold n_X10_isGroup_25 at hw
  exact V_zret rfl hw.1 dX10_isGroup_25 ⟨_, rfl, hw.2⟩
theorem s_X10_isGroup_24 {l : Launch} {G : Gh}  {h : Hp} {Q : Int32 → Hp → Prop}  (hw : n_X10_isGroup_24 h Q) : V l G 2 yX10_isGroup cX10_isGroup 2 (some .boolean) 24 [] [] h (qI Q) := by
  unfold n_X10_isGroup_24 at hw
  refine V_iconst (v := 0) (by decide) dX10_isGroup_24 ?_
  exact V.sub [] rfl (s_X10_isGroup_25 hw)
theorem s_X10_isGroup_0 {l : Launch} {G : Gh} {l0 : Int32} {l1 : Int32} {h : Hp} {Q : Int32 → Hp → Prop}  (hw : n_X10_isGroup_0 l0 l1 h Q) : V l G 2 yX10_isGroup cX10_isGroup 2 (some .boolean) 0 [(0, .int l0), (1, .int l1)] [] h (qI Q) := by
  unfold n_X10_isGroup_0 at hw
  refine V_iload_n 0 rfl rfl dX10_isGroup_0 ?_
  refine V_iconst (v := 0) (by decide) dX10_isGroup_1 ?_
  refine V_bipush (v := 15) (by decide) dX10_isGroup_2 ?_
  refine X_cS [.int l0, .int 0, .int 15] [] ma_X10_99 (by decide) (by decide) rfl (by simp [cat_i, cat_l, rf_cat]) rfl dX10_isGroup_4 (r_X10_isIn _ _ _ hw) (k_I (fun v1 h hw => ?_))
  refine V_if_eq (tgt := 24) dX10_isGroup_7 (by decide) hw (fun hw => ?_) (fun hw => ?_)
  · exact V.sub [] rfl (s_X10_isGroup_24 hw)
  · refine V_iload_n 1 rfl rfl dX10_isGroup_10 ?_
    refine V_iconst (v := 0) (by decide) dX10_isGroup_11 ?_
    refine V_bipush (v := 7) (by decide) dX10_isGroup_12 ?_
    refine X_cS [.int l1, .int 0, .int 7] [] ma_X10_99 (by decide) (by decide) rfl (by simp [cat_i, cat_l, rf_cat]) rfl dX10_isGroup_14 (r_X10_isIn _ _ _ hw) (k_I (fun v2 h hw => ?_))
    refine V_if_eq (tgt := 24) dX10_isGroup_17 (by decide) hw (fun hw => ?_) (fun hw => ?_)
    · exact V.sub [] rfl (s_X10_isGroup_24 hw)
    · refine V_iconst (v := 1) (by decide) dX10_isGroup_20 ?_
      refine V_goto (tgt := 25) dX10_isGroup_21 (by decide) ?_
      exact V.sub [] rfl (s_X10_isGroup_25 hw)
theorem r_X10_isGroup {l : Launch} {G : Gh} (l0 : Int32) (l1 : Int32) {h : Hp} {Q : Int32 → Hp → Prop} (hw : w_X10_isGroup l0 l1 h Q) : RunQ l G 2 yX10_isGroup cX10_isGroup 2 (some .boolean) [.int l0, .int l1] h (qI Q) :=
  V_run rfl (sl_len _ _ (by simp [cat_i, cat_l, rf_cat])) (V.sub [0, 1] (by simp only [la_r, la_i, la_l, la_n]; rfl) (s_X10_isGroup_0 hw))
def n_X10_wayBetween_78 (l4 : Int32) (h : Hp) (Q : Int32 → Hp → Prop) : Prop :=
  Q l4 h
def n_X10_wayBetween_72 (l2 : Option Nat) (l3 : Option Nat) (l4 : Int32) (l5 : Int32) (h : Hp) (Q : Int32 → Hp → Prop) (K10 : Option Nat → Option Nat → Int32 → Int32 → Hp → Prop) : Prop :=
  lt (l5 + 1) fun x6 =>
  K10 l2 l3 l4 x6 h
def b_X10_wayBetween_10 (l2 : Option Nat) (l3 : Option Nat) (l4 : Int32) (l5 : Int32) (h : Hp) (Q : Int32 → Hp → Prop) (K10 : Option Nat → Option Nat → Int32 → Int32 → Hp → Prop) : Prop :=
  br (8 ≤ l5) (
    n_X10_wayBetween_78 l4 h Q) (
    br (l2 = none) (
      n_X10_wayBetween_78 l4 h Q) (
      br (l3 = none) (
        n_X10_wayBetween_78 l4 h Q) (
        br (l2 = l3) (
          n_X10_wayBetween_78 l4 h Q) (
          gI h l2 6 641 fun v1 =>
          gI h l3 6 641 fun v2 =>
          br (v2 < v1) (
            gI h l3 6 643 fun v3 =>
            lt (l4 + v3) fun x4 =>
            gR h l3 6 642 fun v5 =>
            n_X10_wayBetween_72 l2 v5 x4 l5 h Q K10) (
            gI h l2 6 643 fun v7 =>
            lt (l4 + v7) fun x8 =>
            gR h l2 6 642 fun v9 =>
            n_X10_wayBetween_72 v9 l3 x8 l5 h Q K10)))))
def l_X10_wayBetween_10 (l2 : Option Nat) (l3 : Option Nat) (l4 : Int32) (l5 : Int32) (h : Hp) (Q : Int32 → Hp → Prop) : Prop :=
  Lo (fun (K : Option Nat × Option Nat × Int32 × Int32 → Hp → Prop) s h => b_X10_wayBetween_10 s.1 s.2.1 s.2.2.1 s.2.2.2 h Q (fun l2 l3 l4 l5 h => K (l2, l3, l4, l5) h)) (l2, l3, l4, l5) h
def n_X10_wayBetween_0 (l0 : Option Nat) (l1 : Option Nat) (h : Hp) (Q : Int32 → Hp → Prop) : Prop :=
  l_X10_wayBetween_10 l0 l1 0 0 h Q
def w_X10_wayBetween (l0 : Option Nat) (l1 : Option Nat) (h : Hp) (Q : Int32 → Hp → Prop) : Prop := n_X10_wayBetween_0 l0 l1 h Q
theorem s_X10_wayBetween_78 {l : Launch} {G : Gh} {l4 : Int32} {h : Hp} {Q : Int32 → Hp → Prop}  (hw : n_X10_wayBetween_78 l4 h Q) : V l G 1 yX10_wayBetween cX10_wayBetween 6 (some .int) 78 [(4, .int l4)] [] h (qI Q) := by
  unfold n_X10_wayBetween_78 at hw
  refine V_iload 0 rfl dX10_wayBetween_78 ?_
  exact V_iret rfl dX10_wayBetween_80 ⟨_, rfl, hw⟩
theorem s_X10_wayBetween_72 {l : Launch} {G : Gh} {l2 : Option Nat} {l3 : Option Nat} {l4 : Int32} {l5 : Int32} {h : Hp} {Q : Int32 → Hp → Prop} {K10 : Option Nat → Option Nat → Int32 → Int32 → Hp → Prop} (hK10 : ∀ (l2 : Option Nat) (l3 : Option Nat) (l4 : Int32) (l5 : Int32) (h : Hp), K10 l2 l3 l4 l5 h → V l G 1 yX10_wayBetween cX10_wayBetween 6 (some .int) 10 [(2, va_rf l2), (3, va_rf l3), (4, .int l4), (5, .int l5)] [] h (qI Q)) (hw : n_X10_wayBetween_72 l2 l3 l4 l5 h Q K10) : V l G 1 yX10_wayBetween cX10_wayBetween 6 (some .int) 72 [(2, va_rf l2), (3, va_rf l3), (4, .int l4), (5, .int l5)] [] h (qI Q) := by
  unfold n_X10_wayBetween_72 at hw
  refine V_iincL (n := 1) 3 (fun z => [(5, .int z), (2, va_rf l2), (3, va_rf l3), (4, .int l4)]) rfl (by rfl) (by decide) (fun _ => rfl) dX10_wayBetween_72 hw (fun x6 hw => ?_)
  refine V_goto (tgt := 10) dX10_wayBetween_75 (by decide) ?_
  exact V.sub [1, 2, 3, 0] rfl (hK10 _ _ _ _ _ hw)
theorem sb_X10_wayBetween_10 {l : Launch} {G : Gh} {l2 : Option Nat} {l3 : Option Nat} {l4 : Int32} {l5 : Int32} {h : Hp} {Q : Int32 → Hp → Prop} {K10 : Option Nat → Option Nat → Int32 → Int32 → Hp → Prop} (hK10 : ∀ (l2 : Option Nat) (l3 : Option Nat) (l4 : Int32) (l5 : Int32) (h : Hp), K10 l2 l3 l4 l5 h → V l G 1 yX10_wayBetween cX10_wayBetween 6 (some .int) 10 [(2, va_rf l2), (3, va_rf l3), (4, .int l4), (5, .int l5)] [] h (qI Q)) (hw : b_X10_wayBetween_10 l2 l3 l4 l5 h Q K10) : V l G 1 yX10_wayBetween cX10_wayBetween 6 (some .int) 10 [(2, va_rf l2), (3, va_rf l3), (4, .int l4), (5, .int l5)] [] h (qI Q) := by
  unfold b_X10_wayBetween_10 at hw
  refine V_iload 3 rfl dX10_wayBetween_10 ?_
  refine V_bipush (v := 8) (by decide) dX10_wayBetween_12 ?_
  refine V_icmp_ge (tgt := 78) dX10_wayBetween_14 (by decide) hw (fun hw => ?_) (fun hw => ?_)
  · exact V.sub [2] rfl (s_X10_wayBetween_78 hw)
  · refine V_aload_n 0 rfl rfl dX10_wayBetween_17 ?_
    refine V_ifnull (tgt := 78) dX10_wayBetween_18 (by decide) hw (fun hw => ?_) (fun hw => ?_)
    · exact V.sub [2] rfl (s_X10_wayBetween_78 hw)
    · refine V_aload_n 1 rfl rfl dX10_wayBetween_21 ?_
      refine V_ifnull (tgt := 78) dX10_wayBetween_22 (by decide) hw (fun hw => ?_) (fun hw => ?_)
      · exact V.sub [2] rfl (s_X10_wayBetween_78 hw)
      · refine V_aload_n 0 rfl rfl dX10_wayBetween_25 ?_
        refine V_aload_n 1 rfl rfl dX10_wayBetween_26 ?_
        refine V_acmp_eq (tgt := 78) dX10_wayBetween_27 (by decide) hw (fun hw => ?_) (fun hw => ?_)
        · exact V.sub [2] rfl (s_X10_wayBetween_78 hw)
        · refine V_aload_n 0 rfl rfl dX10_wayBetween_30 ?_
          refine X_getI (c := 5) (k := 1) fa_X10_103 rfl dX10_wayBetween_31 hw (fun v1 hw => ?_)
          refine V_aload_n 1 rfl rfl dX10_wayBetween_34 ?_
          refine X_getI (c := 5) (k := 1) fa_X10_103 rfl dX10_wayBetween_35 hw (fun v2 hw => ?_)
          refine V_icmp_gt (tgt := 58) dX10_wayBetween_38 (by decide) hw (fun hw => ?_) (fun hw => ?_)
          · refine V_iload 2 rfl dX10_wayBetween_58 ?_
            refine V_aload_n 1 rfl rfl dX10_wayBetween_60 ?_
            refine X_getI (c := 5) (k := 3) fa_X10_153 rfl dX10_wayBetween_61 hw (fun v3 hw => ?_)
            refine V_iadd dX10_wayBetween_64 ?_
            refine V_ltI hw (fun x4 hw => ?_)
            refine V_istore (i := 4) [(4, .int x4), (2, va_rf l2), (3, va_rf l3), (5, .int l5)] (by decide) (by simp [List.filter_cons, rf_cat, cat_i, cat_l]) dX10_wayBetween_65 ?_
            refine V_aload_n 2 rfl rfl dX10_wayBetween_67 ?_
            refine X_getR (c := 5) (k := 2) fa_X10_117 rfl dX10_wayBetween_68 hw (fun v5 hw => ?_)
            refine V_astore_n (i := 3) [(3, va_rf v5), (4, .int x4), (2, va_rf l2), (5, .int l5)] rfl (by decide) (by simp [List.filter_cons, rf_cat, cat_i, cat_l]) dX10_wayBetween_71 ?_
            exact V.sub [2, 0, 1, 3] rfl (s_X10_wayBetween_72 hK10 hw)
          · refine V_iload 2 rfl dX10_wayBetween_41 ?_
            refine V_aload_n 0 rfl rfl dX10_wayBetween_43 ?_
            refine X_getI (c := 5) (k := 3) fa_X10_153 rfl dX10_wayBetween_44 hw (fun v7 hw => ?_)
            refine V_iadd dX10_wayBetween_47 ?_
            refine V_ltI hw (fun x8 hw => ?_)
            refine V_istore (i := 4) [(4, .int x8), (2, va_rf l2), (3, va_rf l3), (5, .int l5)] (by decide) (by simp [List.filter_cons, rf_cat, cat_i, cat_l]) dX10_wayBetween_48 ?_
            refine V_aload_n 1 rfl rfl dX10_wayBetween_50 ?_
            refine X_getR (c := 5) (k := 2) fa_X10_117 rfl dX10_wayBetween_51 hw (fun v9 hw => ?_)
            refine V_astore_n (i := 2) [(2, va_rf v9), (4, .int x8), (3, va_rf l3), (5, .int l5)] rfl (by decide) rfl dX10_wayBetween_54 ?_
            refine V_goto (tgt := 72) dX10_wayBetween_55 (by decide) ?_
            exact V.sub [0, 2, 1, 3] rfl (s_X10_wayBetween_72 hK10 hw)
theorem s_X10_wayBetween_10 {l : Launch} {G : Gh} {l2 : Option Nat} {l3 : Option Nat} {l4 : Int32} {l5 : Int32} {h : Hp} {Q : Int32 → Hp → Prop}  (hw : l_X10_wayBetween_10 l2 l3 l4 l5 h Q) : V l G 1 yX10_wayBetween cX10_wayBetween 6 (some .int) 10 [(2, va_rf l2), (3, va_rf l3), (4, .int l4), (5, .int l5)] [] h (qI Q) :=
  Lo.ind (P := fun (s : Option Nat × Option Nat × Int32 × Int32) h => V l G 1 yX10_wayBetween cX10_wayBetween 6 (some .int) 10 [(2, va_rf s.1), (3, va_rf s.2.1), (4, .int s.2.2.1), (5, .int s.2.2.2)] [] h (qI Q)) (fun K ih s h hw => sb_X10_wayBetween_10 (fun l2 l3 l4 l5 h hk => ih (l2, l3, l4, l5) h hk) hw) hw
theorem s_X10_wayBetween_0 {l : Launch} {G : Gh} {l0 : Option Nat} {l1 : Option Nat} {h : Hp} {Q : Int32 → Hp → Prop}  (hw : n_X10_wayBetween_0 l0 l1 h Q) : V l G 1 yX10_wayBetween cX10_wayBetween 6 (some .int) 0 [(0, va_rf l0), (1, va_rf l1)] [] h (qI Q) := by
  unfold n_X10_wayBetween_0 at hw
  refine V_aload_n 0 rfl rfl dX10_wayBetween_0 ?_
  refine V_astore_n (i := 2) [(2, va_rf l0), (0, va_rf l0), (1, va_rf l1)] rfl (by decide) (by simp [List.filter_cons, rf_cat, cat_i, cat_l]) dX10_wayBetween_1 ?_
  refine V_aload_n 2 rfl rfl dX10_wayBetween_2 ?_
  refine V_astore_n (i := 3) [(3, va_rf l1), (2, va_rf l0), (0, va_rf l0), (1, va_rf l1)] rfl (by decide) (by simp [List.filter_cons, rf_cat, cat_i, cat_l]) dX10_wayBetween_3 ?_
  refine V_iconst (v := 0) (by decide) dX10_wayBetween_4 ?_
  refine V_istore (i := 4) [(4, .int 0), (3, va_rf l1), (2, va_rf l0), (0, va_rf l0), (1, va_rf l1)] (by decide) (by simp [List.filter_cons, rf_cat, cat_i, cat_l]) dX10_wayBetween_5 ?_
  refine V_iconst (v := 0) (by decide) dX10_wayBetween_7 ?_
  refine V_istore (i := 5) [(5, .int 0), (4, .int 0), (3, va_rf l1), (2, va_rf l0), (0, va_rf l0), (1, va_rf l1)] (by decide) rfl dX10_wayBetween_8 ?_
  exact V.sub [3, 2, 1, 0] rfl (s_X10_wayBetween_10 hw)
theorem r_X10_wayBetween {l : Launch} {G : Gh} (l0 : Option Nat) (l1 : Option Nat) {h : Hp} {Q : Int32 → Hp → Prop} (hw : w_X10_wayBetween l0 l1 h Q) : RunQ l G 1 yX10_wayBetween cX10_wayBetween 6 (some .int) [va_rf l0, va_rf l1] h (qI Q) :=
  V_run rfl (sl_len _ _ (by simp [cat_i, cat_l, rf_cat])) (V.sub [0, 1] (by simp only [la_r, la_i, la_l, la_n]; rfl) (s_X10_wayBetween_0 hw))
def n_J6_bitCount_0f7a4_0 (l0 : Int32) (h : Hp) (Q : Int32 → Hp → Prop) : Prop :=
  lt (l0 - ((((l0 : Int32).toUInt32 >>> ((1 : Int32).toUInt32 &&& 31)).toInt32) &&& 1431655765)) fun x1 =>
  lt ((x1 &&& 858993459) + ((((x1 : Int32).toUInt32 >>> ((2 : Int32).toUInt32 &&& 31)).toInt32) &&& 858993459)) fun x2 =>
  lt ((x2 + (((x2 : Int32).toUInt32 >>> ((4 : Int32).toUInt32 &&& 31)).toInt32)) &&& 252645135) fun x3 =>
  lt (x3 + (((x3 : Int32).toUInt32 >>> ((8 : Int32).toUInt32 &&& 31)).toInt32)) fun x4 =>
  lt (x4 + (((x4 : Int32).toUInt32 >>> ((16 : Int32).toUInt32 &&& 31)).toInt32)) fun x5 =>
  Q (x5 &&& 63) h
def w_J6_bitCount_0f7a4 (l0 : Int32) (h : Hp) (Q : Int32 → Hp → Prop) : Prop := n_J6_bitCount_0f7a4_0 l0 h Q
set_option maxRecDepth 20000 in
theorem s_J6_bitCount_0f7a4_0 {l : Launch} {G : Gh} {l0 : Int32} {h : Hp} {Q : Int32 → Hp → Prop}  (hw : n_J6_bitCount_0f7a4_0 l0 h Q) : V l G 1 yJ6_bitCount_0f7a4 cJ6_bitCount_0f7a4 1 (some .int) 0 [(0, .int l0)] [] h (qI Q) := by
  unfold n_J6_bitCount_0f7a4_0 at hw
  refine V_iload_n 0 rfl rfl dJ6_bitCount_0f7a4_0 ?_
  refine V_iload_n 0 rfl rfl dJ6_bitCount_0f7a4_1 ?_
  refine V_iconst (v := 1) (by decide) dJ6_bitCount_0f7a4_2 ?_
  refine V_iushr dJ6_bitCount_0f7a4_3 ?_
  refine V_ldcw (v := 1431655765) ci_J6_265 dJ6_bitCount_0f7a4_4 ?_
  refine V_iand dJ6_bitCount_0f7a4_7 ?_
  refine V_isub dJ6_bitCount_0f7a4_8 ?_
  refine V_ltI hw (fun x1 hw => ?_)
  refine V_istore_n (i := 0) [(0, .int x1)] rfl (by decide) rfl dJ6_bitCount_0f7a4_9 ?_
  refine V_iload_n 0 rfl rfl dJ6_bitCount_0f7a4_10 ?_
  refine V_ldcw (v := 858993459) ci_J6_266 dJ6_bitCount_0f7a4_11 ?_
  refine V_iand dJ6_bitCount_0f7a4_14 ?_
  refine V_iload_n 0 rfl rfl dJ6_bitCount_0f7a4_15 ?_
  refine V_iconst (v := 2) (by decide) dJ6_bitCount_0f7a4_16 ?_
  refine V_iushr dJ6_bitCount_0f7a4_17 ?_
  refine V_ldcw (v := 858993459) ci_J6_266 dJ6_bitCount_0f7a4_18 ?_
  refine V_iand dJ6_bitCount_0f7a4_21 ?_
  refine V_iadd dJ6_bitCount_0f7a4_22 ?_
  refine V_ltI hw (fun x2 hw => ?_)
  refine V_istore_n (i := 0) [(0, .int x2)] rfl (by decide) rfl dJ6_bitCount_0f7a4_23 ?_
  refine V_iload_n 0 rfl rfl dJ6_bitCount_0f7a4_24 ?_
  refine V_iload_n 0 rfl rfl dJ6_bitCount_0f7a4_25 ?_
  refine V_iconst (v := 4) (by decide) dJ6_bitCount_0f7a4_26 ?_
  refine V_iushr dJ6_bitCount_0f7a4_27 ?_
  refine V_iadd dJ6_bitCount_0f7a4_28 ?_
  refine V_ldcw (v := 252645135) ci_J6_267 dJ6_bitCount_0f7a4_29 ?_
  refine V_iand dJ6_bitCount_0f7a4_32 ?_
  refine V_ltI hw (fun x3 hw => ?_)
  refine V_istore_n (i := 0) [(0, .int x3)] rfl (by decide) rfl dJ6_bitCount_0f7a4_33 ?_
  refine V_iload_n 0 rfl rfl dJ6_bitCount_0f7a4_34 ?_
  refine V_iload_n 0 rfl rfl dJ6_bitCount_0f7a4_35 ?_
  refine V_bipush (v := 8) (by decide) dJ6_bitCount_0f7a4_36 ?_
  refine V_iushr dJ6_bitCount_0f7a4_38 ?_
  refine V_iadd dJ6_bitCount_0f7a4_39 ?_
  refine V_ltI hw (fun x4 hw => ?_)
  refine V_istore_n (i := 0) [(0, .int x4)] rfl (by decide) rfl dJ6_bitCount_0f7a4_40 ?_
  refine V_iload_n 0 rfl rfl dJ6_bitCount_0f7a4_41 ?_
  refine V_iload_n 0 rfl rfl dJ6_bitCount_0f7a4_42 ?_
  refine V_bipush (v := 16) (by decide) dJ6_bitCount_0f7a4_43 ?_
  refine V_iushr dJ6_bitCount_0f7a4_45 ?_
  refine V_iadd dJ6_bitCount_0f7a4_46 ?_
  refine V_ltI hw (fun x5 hw => ?_)
  refine V_istore_n (i := 0) [(0, .int x5)] rfl (by decide) rfl dJ6_bitCount_0f7a4_47 ?_
  refine V_iload_n 0 rfl rfl dJ6_bitCount_0f7a4_48 ?_
  refine V_bipush (v := 63) (by decide) dJ6_bitCount_0f7a4_49 ?_
  refine V_iand dJ6_bitCount_0f7a4_51 ?_
  exact V_iret rfl dJ6_bitCount_0f7a4_52 ⟨_, rfl, hw⟩
theorem r_J6_bitCount_0f7a4 {l : Launch} {G : Gh} (l0 : Int32) {h : Hp} {Q : Int32 → Hp → Prop} (hw : w_J6_bitCount_0f7a4 l0 h Q) : RunQ l G 1 yJ6_bitCount_0f7a4 cJ6_bitCount_0f7a4 1 (some .int) [.int l0] h (qI Q) :=
  V_run rfl (sl_len _ _ (by simp [cat_i, cat_l, rf_cat])) (V.sub [0] (by simp only [la_r, la_i, la_l, la_n]; rfl) (s_J6_bitCount_0f7a4_0 hw))
def n_X10_asked_21 (h : Hp) (Q : Int32 → Hp → Prop) : Prop :=
  Q (-1) h
def n_X10_asked_179 (l0 : Option Nat) (l1 : Int32) (l2 : Int32) (l3 : Int32) (l5 : Int32) (l6 : Option Nat) (l7 : Int32) (l8 : Int32) (h : Hp) (Q : Int32 → Hp → Prop) (K29 : Int32 → Int32 → Hp → Prop) : Prop :=
  lt (l8 + 1) fun x10 =>
  K29 l7 x10 h
def n_X10_asked_164 (l0 : Option Nat) (l1 : Int32) (l2 : Int32) (l3 : Int32) (l5 : Int32) (l6 : Option Nat) (l8 : Int32) (l9 : Option Nat) (s0 : Int32) (s1 : Int32) (h : Hp) (Q : Int32 → Hp → Prop) (K29 : Int32 → Int32 → Hp → Prop) : Prop :=
  w_X10_bit s0 h <| fun v15 h =>
  gR h l9 1 1 fun v16 =>
  gI h v16 6 640 fun v17 =>
  lt (s1 ||| (v15 <<< (v17 &&& 31))) fun x18 =>
  n_X10_asked_179 l0 l1 l2 l3 l5 l6 x18 l8 h Q K29
def n_X10_asked_163 (l0 : Option Nat) (l1 : Int32) (l2 : Int32) (l3 : Int32) (l5 : Int32) (l6 : Option Nat) (l8 : Int32) (l9 : Option Nat) (s0 : Int32) (h : Hp) (Q : Int32 → Hp → Prop) (K29 : Int32 → Int32 → Hp → Prop) : Prop :=
  n_X10_asked_164 l0 l1 l2 l3 l5 l6 l8 l9 0 s0 h Q K29
def n_X10_asked_145 (l0 : Option Nat) (l1 : Int32) (l2 : Int32) (l3 : Int32) (l5 : Int32) (l6 : Option Nat) (l7 : Int32) (l8 : Int32) (l9 : Option Nat) (l11 : Int32) (s0 : Int32) (h : Hp) (Q : Int32 → Hp → Prop) (K29 : Int32 → Int32 → Hp → Prop) : Prop :=
  br (l11 = 0) (
    n_X10_asked_163 l0 l1 l2 l3 l5 l6 l8 l9 l7 h Q K29) (
    br (s0 = 0) (
      n_X10_asked_164 l0 l1 l2 l3 l5 l6 l8 l9 1 l7 h Q K29) (
      n_X10_asked_163 l0 l1 l2 l3 l5 l6 l8 l9 l7 h Q K29))
def n_X10_asked_144 (l0 : Option Nat) (l1 : Int32) (l2 : Int32) (l3 : Int32) (l5 : Int32) (l6 : Option Nat) (l7 : Int32) (l8 : Int32) (l9 : Option Nat) (l11 : Int32) (h : Hp) (Q : Int32 → Hp → Prop) (K29 : Int32 → Int32 → Hp → Prop) : Prop :=
  n_X10_asked_145 l0 l1 l2 l3 l5 l6 l7 l8 l9 l11 0 h Q K29
def n_X10_asked_107 (l0 : Option Nat) (l1 : Int32) (l2 : Int32) (l3 : Int32) (l5 : Int32) (l6 : Option Nat) (l7 : Int32) (l8 : Int32) (l9 : Option Nat) (l10 : Int32) (s0 : Int32) (h : Hp) (Q : Int32 → Hp → Prop) (K29 : Int32 → Int32 → Hp → Prop) : Prop :=
  gI h l9 1 14 fun v14 =>
  br (v14 = (-1)) (
    n_X10_asked_144 l0 l1 l2 l3 l5 l6 l7 l8 l9 s0 h Q K29) (
    gI h l9 1 14 fun v19 =>
    br (l3 < v19) (
      n_X10_asked_144 l0 l1 l2 l3 l5 l6 l7 l8 l9 s0 h Q K29) (
      gI h l9 1 14 fun v20 =>
      br (l5 < (v20 + l10)) (
        n_X10_asked_144 l0 l1 l2 l3 l5 l6 l7 l8 l9 s0 h Q K29) (
        n_X10_asked_145 l0 l1 l2 l3 l5 l6 l7 l8 l9 s0 1 h Q K29)))
def n_X10_asked_106 (l0 : Option Nat) (l1 : Int32) (l2 : Int32) (l3 : Int32) (l5 : Int32) (l6 : Option Nat) (l7 : Int32) (l8 : Int32) (l9 : Option Nat) (l10 : Int32) (h : Hp) (Q : Int32 → Hp → Prop) (K29 : Int32 → Int32 → Hp → Prop) : Prop :=
  n_X10_asked_107 l0 l1 l2 l3 l5 l6 l7 l8 l9 l10 0 h Q K29
def b_X10_asked_29 (l0 : Option Nat) (l1 : Int32) (l2 : Int32) (l3 : Int32) (l5 : Int32) (l6 : Option Nat) (l7 : Int32) (l8 : Int32) (h : Hp) (Q : Int32 → Hp → Prop) (K29 : Int32 → Int32 → Hp → Prop) : Prop :=
  gI h l0 11 1293 fun v3 =>
  br (v3 ≤ l8) (
    w_J6_bitCount_0f7a4 l7 h <| fun v4 h =>
    Q v4 h) (
    gR h l0 11 1282 fun v5 =>
    ldR h v5 l8 fun v6 =>
    gR h v6 1 1 fun v7 =>
    gI h v7 6 641 fun v8 =>
    br (v8 = 0) (
      oV h v6 1 <| w_X0_isFor v6 l1 l2 h <| fun v9 h =>
      br (v9 = 0) (
        n_X10_asked_179 l0 l1 l2 l3 l5 l6 l7 l8 h Q K29) (
        gR h v6 1 1 fun v11 =>
        w_X10_wayBetween v11 l6 h <| fun v12 h =>
        gI h v6 1 5 fun v13 =>
        br (l3 < v13) (
          n_X10_asked_106 l0 l1 l2 l3 l5 l6 l7 l8 v6 v12 h Q K29) (
          gI h v6 1 5 fun v21 =>
          br (l5 < (v21 + v12)) (
            n_X10_asked_106 l0 l1 l2 l3 l5 l6 l7 l8 v6 v12 h Q K29) (
            n_X10_asked_107 l0 l1 l2 l3 l5 l6 l7 l8 v6 v12 1 h Q K29)))) (
      n_X10_asked_179 l0 l1 l2 l3 l5 l6 l7 l8 h Q K29))
def l_X10_asked_29 (l0 : Option Nat) (l1 : Int32) (l2 : Int32) (l3 : Int32) (l5 : Int32) (l6 : Option Nat) (l7 : Int32) (l8 : Int32) (h : Hp) (Q : Int32 → Hp → Prop) : Prop :=
  Lo (fun (K : Int32 × Int32 → Hp → Prop) s h => b_X10_asked_29 l0 l1 l2 l3 l5 l6 s.1 s.2 h Q (fun l7 l8 h => K (l7, l8) h)) (l7, l8) h
def n_X10_asked_0 (l0 : Option Nat) (l1 : Int32) (l2 : Int32) (l3 : Int32) (l4 : Int32) (l5 : Int32) (h : Hp) (Q : Int32 → Hp → Prop) : Prop :=
  oV h l0 11 <| w_X10_placeAt l0 l4 h <| fun v1 h =>
  br (v1 = none) (
    n_X10_asked_21 h Q) (
    w_X10_isGroup l1 l2 h <| fun v2 h =>
    br (v2 = 0) (
      n_X10_asked_21 h Q) (
      l_X10_asked_29 l0 l1 l2 l3 l5 v1 0 0 h Q))
def w_X10_asked (l0 : Option Nat) (l1 : Int32) (l2 : Int32) (l3 : Int32) (l4 : Int32) (l5 : Int32) (h : Hp) (Q : Int32 → Hp → Prop) : Prop := n_X10_asked_0 l0 l1 l2 l3 l4 l5 h Q
theorem s_X10_asked_21 {l : Launch} {G : Gh}  {h : Hp} {Q : Int32 → Hp → Prop}  (hw : n_X10_asked_21 h Q) : V l G 3 yX10_asked cX10_asked 13 (some .int) 21 [] [] h (qI Q) := by
  unfold n_X10_asked_21 at hw
  refine V_iconst (v := (-1)) (by decide) dX10_asked_21 ?_
  exact V_iret rfl dX10_asked_22 ⟨_, rfl, hw⟩
theorem s_X10_asked_179 {l : Launch} {G : Gh} {l0 : Option Nat} {l1 : Int32} {l2 : Int32} {l3 : Int32} {l5 : Int32} {l6 : Option Nat} {l7 : Int32} {l8 : Int32} {h : Hp} {Q : Int32 → Hp → Prop} {K29 : Int32 → Int32 → Hp → Prop} (hK29 : ∀ (l7 : Int32) (l8 : Int32) (h : Hp), K29 l7 l8 h → V l G 3 yX10_asked cX10_asked 13 (some .int) 29 [(0, va_rf l0), (1, .int l1), (2, .int l2), (3, .int l3), (5, .int l5), (6, va_rf l6), (7, .int l7), (8, .int l8)] [] h (qI Q)) (hw : n_X10_asked_179 l0 l1 l2 l3 l5 l6 l7 l8 h Q K29) : V l G 3 yX10_asked cX10_asked 13 (some .int) 179 [(0, va_rf l0), (1, .int l1), (2, .int l2), (3, .int l3), (5, .int l5), (6, va_rf l6), (7, .int l7), (8, .int l8)] [] h (qI Q) := by
  unfold n_X10_asked_179 at hw
  refine V_iincL (n := 1) 7 (fun z => [(8, .int z), (0, va_rf l0), (1, .int l1), (2, .int l2), (3, .int l3), (5, .int l5), (6, va_rf l6), (7, .int l7)]) rfl (by rfl) (by decide) (fun _ => rfl) dX10_asked_179 hw (fun x10 hw => ?_)
  refine V_goto (tgt := 29) dX10_asked_182 (by decide) ?_
  exact V.sub [1, 2, 3, 4, 5, 6, 7, 0] rfl (hK29 _ _ _ hw)
theorem s_X10_asked_164 {l : Launch} {G : Gh} {l0 : Option Nat} {l1 : Int32} {l2 : Int32} {l3 : Int32} {l5 : Int32} {l6 : Option Nat} {l8 : Int32} {l9 : Option Nat} {s0 : Int32} {s1 : Int32} {h : Hp} {Q : Int32 → Hp → Prop} {K29 : Int32 → Int32 → Hp → Prop} (hK29 : ∀ (l7 : Int32) (l8 : Int32) (h : Hp), K29 l7 l8 h → V l G 3 yX10_asked cX10_asked 13 (some .int) 29 [(0, va_rf l0), (1, .int l1), (2, .int l2), (3, .int l3), (5, .int l5), (6, va_rf l6), (7, .int l7), (8, .int l8)] [] h (qI Q)) (hw : n_X10_asked_164 l0 l1 l2 l3 l5 l6 l8 l9 s0 s1 h Q K29) : V l G 3 yX10_asked cX10_asked 13 (some .int) 164 [(0, va_rf l0), (1, .int l1), (2, .int l2), (3, .int l3), (5, .int l5), (6, va_rf l6), (8, .int l8), (9, va_rf l9)] [.int s0, .int s1] h (qI Q) := by
  unfold n_X10_asked_164 at hw
  refine X_cS [.int s0] [.int s1] ma_X10_138 (by decide) (by decide) rfl (by simp [cat_i, cat_l, rf_cat]) rfl dX10_asked_164 (r_X10_bit _ hw) (k_I (fun v15 h hw => ?_))
  refine V_aload 7 rfl dX10_asked_167 ?_
  refine X_getR (c := 0) (k := 1) fa_X10_255 rfl dX10_asked_169 hw (fun v16 hw => ?_)
  refine X_getI (c := 5) (k := 0) fa_X10_121 rfl dX10_asked_172 hw (fun v17 hw => ?_)
  refine V_ishl dX10_asked_175 ?_
  refine V_ior dX10_asked_176 ?_
  refine V_ltI hw (fun x18 hw => ?_)
  refine V_istore (i := 7) [(7, .int x18), (0, va_rf l0), (1, .int l1), (2, .int l2), (3, .int l3), (5, .int l5), (6, va_rf l6), (8, .int l8), (9, va_rf l9)] (by decide) (by simp [List.filter_cons, rf_cat, cat_i, cat_l]) dX10_asked_177 ?_
  exact V.sub [1, 2, 3, 4, 5, 6, 0, 7] rfl (s_X10_asked_179 hK29 hw)
theorem s_X10_asked_163 {l : Launch} {G : Gh} {l0 : Option Nat} {l1 : Int32} {l2 : Int32} {l3 : Int32} {l5 : Int32} {l6 : Option Nat} {l8 : Int32} {l9 : Option Nat} {s0 : Int32} {h : Hp} {Q : Int32 → Hp → Prop} {K29 : Int32 → Int32 → Hp → Prop} (hK29 : ∀ (l7 : Int32) (l8 : Int32) (h : Hp), K29 l7 l8 h → V l G 3 yX10_asked cX10_asked 13 (some .int) 29 [(0, va_rf l0), (1, .int l1), (2, .int l2), (3, .int l3), (5, .int l5), (6, va_rf l6), (7, .int l7), (8, .int l8)] [] h (qI Q)) (hw : n_X10_asked_163 l0 l1 l2 l3 l5 l6 l8 l9 s0 h Q K29) : V l G 3 yX10_asked cX10_asked 13 (some .int) 163 [(0, va_rf l0), (1, .int l1), (2, .int l2), (3, .int l3), (5, .int l5), (6, va_rf l6), (8, .int l8), (9, va_rf l9)] [.int s0] h (qI Q) := by
  unfold n_X10_asked_163 at hw
  refine V_iconst (v := 0) (by decide) dX10_asked_163 ?_
  exact V.sub [0, 1, 2, 3, 4, 5, 6, 7] rfl (s_X10_asked_164 hK29 hw)
theorem s_X10_asked_145 {l : Launch} {G : Gh} {l0 : Option Nat} {l1 : Int32} {l2 : Int32} {l3 : Int32} {l5 : Int32} {l6 : Option Nat} {l7 : Int32} {l8 : Int32} {l9 : Option Nat} {l11 : Int32} {s0 : Int32} {h : Hp} {Q : Int32 → Hp → Prop} {K29 : Int32 → Int32 → Hp → Prop} (hK29 : ∀ (l7 : Int32) (l8 : Int32) (h : Hp), K29 l7 l8 h → V l G 3 yX10_asked cX10_asked 13 (some .int) 29 [(0, va_rf l0), (1, .int l1), (2, .int l2), (3, .int l3), (5, .int l5), (6, va_rf l6), (7, .int l7), (8, .int l8)] [] h (qI Q)) (hw : n_X10_asked_145 l0 l1 l2 l3 l5 l6 l7 l8 l9 l11 s0 h Q K29) : V l G 3 yX10_asked cX10_asked 13 (some .int) 145 [(0, va_rf l0), (1, .int l1), (2, .int l2), (3, .int l3), (5, .int l5), (6, va_rf l6), (7, .int l7), (8, .int l8), (9, va_rf l9), (11, .int l11)] [.int s0] h (qI Q) := by
  unfold n_X10_asked_145 at hw
  refine V_istore (i := 12) [(12, .int s0), (0, va_rf l0), (1, .int l1), (2, .int l2), (3, .int l3), (5, .int l5), (6, va_rf l6), (7, .int l7), (8, .int l8), (9, va_rf l9), (11, .int l11)] (by decide) rfl dX10_asked_145 ?_
  refine V_iload 7 rfl dX10_asked_147 ?_
  refine V_iload 10 rfl dX10_asked_149 ?_
  refine V_if_eq (tgt := 163) dX10_asked_151 (by decide) hw (fun hw => ?_) (fun hw => ?_)
  · exact V.sub [1, 2, 3, 4, 5, 6, 8, 9] rfl (s_X10_asked_163 hK29 hw)
  · refine V_iload 0 rfl dX10_asked_154 ?_
    refine V_if_ne (tgt := 163) dX10_asked_156 (by decide) hw (fun hw => ?_) (fun hw => ?_)
    · refine V_iconst (v := 1) (by decide) dX10_asked_159 ?_
      refine V_goto (tgt := 164) dX10_asked_160 (by decide) ?_
      exact V.sub [1, 2, 3, 4, 5, 6, 8, 9] rfl (s_X10_asked_164 hK29 hw)
    · exact V.sub [1, 2, 3, 4, 5, 6, 8, 9] rfl (s_X10_asked_163 hK29 hw)
theorem s_X10_asked_144 {l : Launch} {G : Gh} {l0 : Option Nat} {l1 : Int32} {l2 : Int32} {l3 : Int32} {l5 : Int32} {l6 : Option Nat} {l7 : Int32} {l8 : Int32} {l9 : Option Nat} {l11 : Int32} {h : Hp} {Q : Int32 → Hp → Prop} {K29 : Int32 → Int32 → Hp → Prop} (hK29 : ∀ (l7 : Int32) (l8 : Int32) (h : Hp), K29 l7 l8 h → V l G 3 yX10_asked cX10_asked 13 (some .int) 29 [(0, va_rf l0), (1, .int l1), (2, .int l2), (3, .int l3), (5, .int l5), (6, va_rf l6), (7, .int l7), (8, .int l8)] [] h (qI Q)) (hw : n_X10_asked_144 l0 l1 l2 l3 l5 l6 l7 l8 l9 l11 h Q K29) : V l G 3 yX10_asked cX10_asked 13 (some .int) 144 [(0, va_rf l0), (1, .int l1), (2, .int l2), (3, .int l3), (5, .int l5), (6, va_rf l6), (7, .int l7), (8, .int l8), (9, va_rf l9), (11, .int l11)] [] h (qI Q) := by
  unfold n_X10_asked_144 at hw
  refine V_iconst (v := 0) (by decide) dX10_asked_144 ?_
  exact V.sub [0, 1, 2, 3, 4, 5, 6, 7, 8, 9] rfl (s_X10_asked_145 hK29 hw)
theorem s_X10_asked_107 {l : Launch} {G : Gh} {l0 : Option Nat} {l1 : Int32} {l2 : Int32} {l3 : Int32} {l5 : Int32} {l6 : Option Nat} {l7 : Int32} {l8 : Int32} {l9 : Option Nat} {l10 : Int32} {s0 : Int32} {h : Hp} {Q : Int32 → Hp → Prop} {K29 : Int32 → Int32 → Hp → Prop} (hK29 : ∀ (l7 : Int32) (l8 : Int32) (h : Hp), K29 l7 l8 h → V l G 3 yX10_asked cX10_asked 13 (some .int) 29 [(0, va_rf l0), (1, .int l1), (2, .int l2), (3, .int l3), (5, .int l5), (6, va_rf l6), (7, .int l7), (8, .int l8)] [] h (qI Q)) (hw : n_X10_asked_107 l0 l1 l2 l3 l5 l6 l7 l8 l9 l10 s0 h Q K29) : V l G 3 yX10_asked cX10_asked 13 (some .int) 107 [(0, va_rf l0), (1, .int l1), (2, .int l2), (3, .int l3), (5, .int l5), (6, va_rf l6), (7, .int l7), (8, .int l8), (9, va_rf l9), (10, .int l10)] [.int s0] h (qI Q) := by
  unfold n_X10_asked_107 at hw
  refine V_istore (i := 11) [(11, .int s0), (0, va_rf l0), (1, .int l1), (2, .int l2), (3, .int l3), (5, .int l5), (6, va_rf l6), (7, .int l7), (8, .int l8), (9, va_rf l9), (10, .int l10)] (by decide) rfl dX10_asked_107 ?_
  refine V_aload 9 rfl dX10_asked_109 ?_
  refine X_getI (c := 0) (k := 14) fa_X10_303 rfl dX10_asked_111 hw (fun v14 hw => ?_)
  refine V_iconst (v := (-1)) (by decide) dX10_asked_114 ?_
  refine V_icmp_eq (tgt := 144) dX10_asked_115 (by decide) hw (fun hw => ?_) (fun hw => ?_)
  · exact V.sub [1, 2, 3, 4, 5, 6, 7, 8, 9, 0] rfl (s_X10_asked_144 hK29 hw)
  · refine V_aload 9 rfl dX10_asked_118 ?_
    refine X_getI (c := 0) (k := 14) fa_X10_303 rfl dX10_asked_120 hw (fun v19 hw => ?_)
    refine V_iload_n 4 rfl rfl dX10_asked_123 ?_
    refine V_icmp_gt (tgt := 144) dX10_asked_124 (by decide) hw (fun hw => ?_) (fun hw => ?_)
    · exact V.sub [1, 2, 3, 4, 5, 6, 7, 8, 9, 0] rfl (s_X10_asked_144 hK29 hw)
    · refine V_aload 9 rfl dX10_asked_127 ?_
      refine X_getI (c := 0) (k := 14) fa_X10_303 rfl dX10_asked_129 hw (fun v20 hw => ?_)
      refine V_iload 10 rfl dX10_asked_132 ?_
      refine V_iadd dX10_asked_134 ?_
      refine V_iload 5 rfl dX10_asked_135 ?_
      refine V_icmp_gt (tgt := 144) dX10_asked_137 (by decide) hw (fun hw => ?_) (fun hw => ?_)
      · exact V.sub [1, 2, 3, 4, 5, 6, 7, 8, 9, 0] rfl (s_X10_asked_144 hK29 hw)
      · refine V_iconst (v := 1) (by decide) dX10_asked_140 ?_
        refine V_goto (tgt := 145) dX10_asked_141 (by decide) ?_
        exact V.sub [1, 2, 3, 4, 5, 6, 7, 8, 9, 0] rfl (s_X10_asked_145 hK29 hw)
theorem s_X10_asked_106 {l : Launch} {G : Gh} {l0 : Option Nat} {l1 : Int32} {l2 : Int32} {l3 : Int32} {l5 : Int32} {l6 : Option Nat} {l7 : Int32} {l8 : Int32} {l9 : Option Nat} {l10 : Int32} {h : Hp} {Q : Int32 → Hp → Prop} {K29 : Int32 → Int32 → Hp → Prop} (hK29 : ∀ (l7 : Int32) (l8 : Int32) (h : Hp), K29 l7 l8 h → V l G 3 yX10_asked cX10_asked 13 (some .int) 29 [(0, va_rf l0), (1, .int l1), (2, .int l2), (3, .int l3), (5, .int l5), (6, va_rf l6), (7, .int l7), (8, .int l8)] [] h (qI Q)) (hw : n_X10_asked_106 l0 l1 l2 l3 l5 l6 l7 l8 l9 l10 h Q K29) : V l G 3 yX10_asked cX10_asked 13 (some .int) 106 [(0, va_rf l0), (1, .int l1), (2, .int l2), (3, .int l3), (5, .int l5), (6, va_rf l6), (7, .int l7), (8, .int l8), (9, va_rf l9), (10, .int l10)] [] h (qI Q) := by
  unfold n_X10_asked_106 at hw
  refine V_iconst (v := 0) (by decide) dX10_asked_106 ?_
  exact V.sub [0, 1, 2, 3, 4, 5, 6, 7, 8, 9] rfl (s_X10_asked_107 hK29 hw)
set_option maxRecDepth 20000 in
theorem sb_X10_asked_29 {l : Launch} {G : Gh} {l0 : Option Nat} {l1 : Int32} {l2 : Int32} {l3 : Int32} {l5 : Int32} {l6 : Option Nat} {l7 : Int32} {l8 : Int32} {h : Hp} {Q : Int32 → Hp → Prop} {K29 : Int32 → Int32 → Hp → Prop} (hK29 : ∀ (l7 : Int32) (l8 : Int32) (h : Hp), K29 l7 l8 h → V l G 3 yX10_asked cX10_asked 13 (some .int) 29 [(0, va_rf l0), (1, .int l1), (2, .int l2), (3, .int l3), (5, .int l5), (6, va_rf l6), (7, .int l7), (8, .int l8)] [] h (qI Q)) (hw : b_X10_asked_29 l0 l1 l2 l3 l5 l6 l7 l8 h Q K29) : V l G 3 yX10_asked cX10_asked 13 (some .int) 29 [(0, va_rf l0), (1, .int l1), (2, .int l2), (3, .int l3), (5, .int l5), (6, va_rf l6), (7, .int l7), (8, .int l8)] [] h (qI Q) := by
  unfold b_X10_asked_29 at hw
  refine V_iload 7 rfl dX10_asked_29 ?_
  refine V_aload_n 0 rfl rfl dX10_asked_31 ?_
  refine X_getI (c := 10) (k := 13) fa_X10_249 rfl dX10_asked_32 hw (fun v3 hw => ?_)
  refine V_icmp_ge (tgt := 185) dX10_asked_35 (by decide) hw (fun hw => ?_) (fun hw => ?_)
  · refine V_iload 6 rfl dX10_asked_185 ?_
    refine X_cS [.int l7] [] ma_X10_433 (by decide) (by decide) rfl (by simp [cat_i, cat_l, rf_cat]) rfl dX10_asked_187 (r_J6_bitCount_0f7a4 _ hw) (k_I (fun v4 h hw => ?_))
    exact V_iret rfl dX10_asked_190 ⟨_, rfl, hw⟩
  · refine V_aload_n 0 rfl rfl dX10_asked_38 ?_
    refine X_getR (c := 10) (k := 2) fa_X10_23 rfl dX10_asked_39 hw (fun v5 hw => ?_)
    refine V_iload 7 rfl dX10_asked_42 ?_
    refine X_ldR dX10_asked_44 hw (fun v6 hw => ?_)
    refine V_astore (i := 9) [(9, va_rf v6), (0, va_rf l0), (1, .int l1), (2, .int l2), (3, .int l3), (5, .int l5), (6, va_rf l6), (7, .int l7), (8, .int l8)] (by decide) rfl dX10_asked_45 ?_
    refine V_aload 0 rfl dX10_asked_47 ?_
    refine X_getR (c := 0) (k := 1) fa_X10_255 rfl dX10_asked_49 hw (fun v7 hw => ?_)
    refine X_getI (c := 5) (k := 1) fa_X10_103 rfl dX10_asked_52 hw (fun v8 hw => ?_)
    refine V_if_ne (tgt := 179) dX10_asked_55 (by decide) hw (fun hw => ?_) (fun hw => ?_)
    · refine V_aload 0 rfl dX10_asked_58 ?_
      refine V_iload_n 2 rfl rfl dX10_asked_60 ?_
      refine V_iload_n 3 rfl rfl dX10_asked_61 ?_
      refine X_cV 0 [.int l1, .int l2] [] ma_X10_332 (by decide) rfl (by decide) (by decide) rfl (by simp [cat_i, cat_l, rf_cat]) rfl dX10_asked_62 hw (r_X0_isFor _ _ _) (k_I (fun v9 h hw => ?_))
      refine V_if_eq (tgt := 179) dX10_asked_65 (by decide) hw (fun hw => ?_) (fun hw => ?_)
      · exact V.sub [1, 2, 3, 4, 5, 6, 7, 8] rfl (s_X10_asked_179 hK29 hw)
      · refine V_aload 0 rfl dX10_asked_68 ?_
        refine X_getR (c := 0) (k := 1) fa_X10_255 rfl dX10_asked_70 hw (fun v11 hw => ?_)
        refine V_aload 6 rfl dX10_asked_73 ?_
        refine X_cS [va_rf v11, va_rf l6] [] ma_X10_110 (by decide) (by decide) rfl (by simp [cat_i, cat_l, rf_cat]) rfl dX10_asked_75 (r_X10_wayBetween _ _ hw) (k_I (fun v12 h hw => ?_))
        refine V_istore (i := 10) [(10, .int v12), (9, va_rf v6), (0, va_rf l0), (1, .int l1), (2, .int l2), (3, .int l3), (5, .int l5), (6, va_rf l6), (7, .int l7), (8, .int l8)] (by decide) (by simp [List.filter_cons, rf_cat, cat_i, cat_l]) dX10_asked_78 ?_
        refine V_aload 1 rfl dX10_asked_80 ?_
        refine X_getI (c := 0) (k := 5) fa_X10_258 rfl dX10_asked_82 hw (fun v13 hw => ?_)
        refine V_iload_n 5 rfl rfl dX10_asked_85 ?_
        refine V_icmp_gt (tgt := 106) dX10_asked_86 (by decide) hw (fun hw => ?_) (fun hw => ?_)
        · exact V.sub [2, 3, 4, 5, 6, 7, 8, 9, 1, 0] rfl (s_X10_asked_106 hK29 hw)
        · refine V_aload 1 rfl dX10_asked_89 ?_
          refine X_getI (c := 0) (k := 5) fa_X10_258 rfl dX10_asked_91 hw (fun v21 hw => ?_)
          refine V_iload 0 rfl dX10_asked_94 ?_
          refine V_iadd dX10_asked_96 ?_
          refine V_iload 6 rfl dX10_asked_97 ?_
          refine V_icmp_gt (tgt := 106) dX10_asked_99 (by decide) hw (fun hw => ?_) (fun hw => ?_)
          · exact V.sub [2, 3, 4, 5, 6, 7, 8, 9, 1, 0] rfl (s_X10_asked_106 hK29 hw)
          · refine V_iconst (v := 1) (by decide) dX10_asked_102 ?_
            refine V_goto (tgt := 107) dX10_asked_103 (by decide) ?_
            exact V.sub [2, 3, 4, 5, 6, 7, 8, 9, 1, 0] rfl (s_X10_asked_107 hK29 hw)
    · exact V.sub [1, 2, 3, 4, 5, 6, 7, 8] rfl (s_X10_asked_179 hK29 hw)
theorem s_X10_asked_29 {l : Launch} {G : Gh} {l0 : Option Nat} {l1 : Int32} {l2 : Int32} {l3 : Int32} {l5 : Int32} {l6 : Option Nat} {l7 : Int32} {l8 : Int32} {h : Hp} {Q : Int32 → Hp → Prop}  (hw : l_X10_asked_29 l0 l1 l2 l3 l5 l6 l7 l8 h Q) : V l G 3 yX10_asked cX10_asked 13 (some .int) 29 [(0, va_rf l0), (1, .int l1), (2, .int l2), (3, .int l3), (5, .int l5), (6, va_rf l6), (7, .int l7), (8, .int l8)] [] h (qI Q) :=
  Lo.ind (P := fun (s : Int32 × Int32) h => V l G 3 yX10_asked cX10_asked 13 (some .int) 29 [(0, va_rf l0), (1, .int l1), (2, .int l2), (3, .int l3), (5, .int l5), (6, va_rf l6), (7, .int s.1), (8, .int s.2)] [] h (qI Q)) (fun K ih s h hw => sb_X10_asked_29 (fun l7 l8 h hk => ih (l7, l8) h hk) hw) hw
theorem s_X10_asked_0 {l : Launch} {G : Gh} {l0 : Option Nat} {l1 : Int32} {l2 : Int32} {l3 : Int32} {l4 : Int32} {l5 : Int32} {h : Hp} {Q : Int32 → Hp → Prop}  (hw : n_X10_asked_0 l0 l1 l2 l3 l4 l5 h Q) : V l G 3 yX10_asked cX10_asked 13 (some .int) 0 [(0, va_rf l0), (1, .int l1), (2, .int l2), (3, .int l3), (4, .int l4), (5, .int l5)] [] h (qI Q) := by
  unfold n_X10_asked_0 at hw
  refine V_aload_n 0 rfl rfl dX10_asked_0 ?_
  refine V_iload 4 rfl dX10_asked_1 ?_
  refine X_cV 10 [.int l4] [] ma_X10_91 (by decide) rfl (by decide) (by decide) rfl (by simp [cat_i, cat_l, rf_cat]) rfl dX10_asked_3 hw (r_X10_placeAt _ _) (k_R (fun v1 h hw => ?_))
  refine V_astore (i := 6) [(6, va_rf v1), (0, va_rf l0), (1, .int l1), (2, .int l2), (3, .int l3), (4, .int l4), (5, .int l5)] (by decide) rfl dX10_asked_6 ?_
  refine V_aload 0 rfl dX10_asked_8 ?_
  refine V_ifnull (tgt := 21) dX10_asked_10 (by decide) hw (fun hw => ?_) (fun hw => ?_)
  · exact V.sub [] rfl (s_X10_asked_21 hw)
  · refine V_iload_n 2 rfl rfl dX10_asked_13 ?_
    refine V_iload_n 3 rfl rfl dX10_asked_14 ?_
    refine X_cS [.int l1, .int l2] [] ma_X10_278 (by decide) (by decide) rfl (by simp [cat_i, cat_l, rf_cat]) rfl dX10_asked_15 (r_X10_isGroup _ _ hw) (k_I (fun v2 h hw => ?_))
    refine V_if_ne (tgt := 23) dX10_asked_18 (by decide) hw (fun hw => ?_) (fun hw => ?_)
    · exact V.sub [] rfl (s_X10_asked_21 hw)
    · refine V_iconst (v := 0) (by decide) dX10_asked_23 ?_
      refine V_istore (i := 7) [(7, .int 0), (6, va_rf v1), (0, va_rf l0), (1, .int l1), (2, .int l2), (3, .int l3), (4, .int l4), (5, .int l5)] (by decide) (by simp [List.filter_cons, rf_cat, cat_i, cat_l]) dX10_asked_24 ?_
      refine V_iconst (v := 0) (by decide) dX10_asked_26 ?_
      refine V_istore (i := 8) [(8, .int 0), (7, .int 0), (6, va_rf v1), (0, va_rf l0), (1, .int l1), (2, .int l2), (3, .int l3), (4, .int l4), (5, .int l5)] (by decide) rfl dX10_asked_27 ?_
      exact V.sub [3, 4, 5, 6, 8, 2, 1, 0] rfl (s_X10_asked_29 hw)
theorem r_X10_asked {l : Launch} {G : Gh} (l0 : Option Nat) (l1 : Int32) (l2 : Int32) (l3 : Int32) (l4 : Int32) (l5 : Int32) {h : Hp} {Q : Int32 → Hp → Prop} (hw : w_X10_asked l0 l1 l2 l3 l4 l5 h Q) : RunQ l G 3 yX10_asked cX10_asked 13 (some .int) [va_rf l0, .int l1, .int l2, .int l3, .int l4, .int l5] h (qI Q) :=
  V_run rfl (sl_len _ _ (by simp [cat_i, cat_l, rf_cat])) (V.sub [0, 1, 2, 3, 4, 5] (by simp only [la_r, la_i, la_l, la_n]; rfl) (s_X10_asked_0 hw))
def n_X10_hasBit_13 (s0 : Int32) (h : Hp) (Q : Int32 → Hp → Prop) : Prop :=
  rZ s0 h Q
def n_X10_hasBit_0 (l0 : Int32) (l1 : Int32) (h : Hp) (Q : Int32 → Hp → Prop) : Prop :=
  br ((l0 >>> (l1 &&& 31)) &&& 1 = 0) (
    n_X10_hasBit_13 0 h Q) (
    n_X10_hasBit_13 1 h Q)
def w_X10_hasBit (l0 : Int32) (l1 : Int32) (h : Hp) (Q : Int32 → Hp → Prop) : Prop := n_X10_hasBit_0 l0 l1 h Q
theorem s_X10_hasBit_13 {l : Launch} {G : Gh} {s0 : Int32} {h : Hp} {Q : Int32 → Hp → Prop}  (hw : n_X10_hasBit_13 s0 h Q) : V l G 1 yX10_hasBit cX10_hasBit 2 (some .boolean) 13 [] [.int s0] h (qI Q) := by
  unfold n_X10_hasBit_13 at hw
  exact V_zret rfl hw.1 dX10_hasBit_13 ⟨_, rfl, hw.2⟩
theorem s_X10_hasBit_0 {l : Launch} {G : Gh} {l0 : Int32} {l1 : Int32} {h : Hp} {Q : Int32 → Hp → Prop}  (hw : n_X10_hasBit_0 l0 l1 h Q) : V l G 1 yX10_hasBit cX10_hasBit 2 (some .boolean) 0 [(0, .int l0), (1, .int l1)] [] h (qI Q) := by
  unfold n_X10_hasBit_0 at hw
  refine V_iload_n 0 rfl rfl dX10_hasBit_0 ?_
  refine V_iload_n 1 rfl rfl dX10_hasBit_1 ?_
  refine V_ishr dX10_hasBit_2 ?_
  refine V_iconst (v := 1) (by decide) dX10_hasBit_3 ?_
  refine V_iand dX10_hasBit_4 ?_
  refine V_if_eq (tgt := 12) dX10_hasBit_5 (by decide) hw (fun hw => ?_) (fun hw => ?_)
  · refine V_iconst (v := 0) (by decide) dX10_hasBit_12 ?_
    exact V.sub [] rfl (s_X10_hasBit_13 hw)
  · refine V_iconst (v := 1) (by decide) dX10_hasBit_8 ?_
    refine V_goto (tgt := 13) dX10_hasBit_9 (by decide) ?_
    exact V.sub [] rfl (s_X10_hasBit_13 hw)
theorem r_X10_hasBit {l : Launch} {G : Gh} (l0 : Int32) (l1 : Int32) {h : Hp} {Q : Int32 → Hp → Prop} (hw : w_X10_hasBit l0 l1 h Q) : RunQ l G 1 yX10_hasBit cX10_hasBit 2 (some .boolean) [.int l0, .int l1] h (qI Q) :=
  V_run rfl (sl_len _ _ (by simp [cat_i, cat_l, rf_cat])) (V.sub [0, 1] (by simp only [la_r, la_i, la_l, la_n]; rfl) (s_X10_hasBit_0 hw))
def n_X10_askedByMostHearths_62 (s0 : Int32) (h : Hp) (Q : Int32 → Hp → Prop) : Prop :=
  rZ s0 h Q
def n_X10_askedByMostHearths_34 (l0 : Option Nat) (l1 : Int32) (l3 : Int32) (s0 : Int32) (s1 : Int32) (h : Hp) (Q : Int32 → Hp → Prop) (K4 : Int32 → Int32 → Hp → Prop) : Prop :=
  lt (s1 + s0) fun x6 =>
  lt (l3 + 1) fun x7 =>
  K4 x6 x7 h
def b_X10_askedByMostHearths_4 (l0 : Option Nat) (l1 : Int32) (l2 : Int32) (l3 : Int32) (h : Hp) (Q : Int32 → Hp → Prop) (K4 : Int32 → Int32 → Hp → Prop) : Prop :=
  gI h l0 11 1292 fun v1 =>
  br (v1 ≤ l3) (
    gR h l0 11 1280 fun v2 =>
    ldR h v2 0 fun v3 =>
    gI h v3 6 646 fun v4 =>
    br ((2 * l2) ≤ v4) (
      n_X10_askedByMostHearths_62 0 h Q) (
      n_X10_askedByMostHearths_62 1 h Q)) (
    w_X10_hasBit l1 l3 h <| fun v5 h =>
    br (v5 = 0) (
      n_X10_askedByMostHearths_34 l0 l1 l3 0 l2 h Q K4) (
      gR h l0 11 1280 fun v8 =>
      ldR h v8 l3 fun v9 =>
      gI h v9 6 646 fun v10 =>
      n_X10_askedByMostHearths_34 l0 l1 l3 v10 l2 h Q K4))
def l_X10_askedByMostHearths_4 (l0 : Option Nat) (l1 : Int32) (l2 : Int32) (l3 : Int32) (h : Hp) (Q : Int32 → Hp → Prop) : Prop :=
  Lo (fun (K : Int32 × Int32 → Hp → Prop) s h => b_X10_askedByMostHearths_4 l0 l1 s.1 s.2 h Q (fun l2 l3 h => K (l2, l3) h)) (l2, l3) h
def n_X10_askedByMostHearths_0 (l0 : Option Nat) (l1 : Int32) (h : Hp) (Q : Int32 → Hp → Prop) : Prop :=
  l_X10_askedByMostHearths_4 l0 l1 0 0 h Q
def w_X10_askedByMostHearths (l0 : Option Nat) (l1 : Int32) (h : Hp) (Q : Int32 → Hp → Prop) : Prop := n_X10_askedByMostHearths_0 l0 l1 h Q
theorem s_X10_askedByMostHearths_62 {l : Launch} {G : Gh} {s0 : Int32} {h : Hp} {Q : Int32 → Hp → Prop}  (hw : n_X10_askedByMostHearths_62 s0 h Q) : V l G 2 yX10_askedByMostHearths cX10_askedByMostHearths 4 (some .boolean) 62 [] [.int s0] h (qI Q) := by
  unfold n_X10_askedByMostHearths_62 at hw
  exact V_zret rfl hw.1 dX10_askedByMostHearths_62 ⟨_, rfl, hw.2⟩
theorem s_X10_askedByMostHearths_34 {l : Launch} {G : Gh} {l0 : Option Nat} {l1 : Int32} {l3 : Int32} {s0 : Int32} {s1 : Int32} {h : Hp} {Q : Int32 → Hp → Prop} {K4 : Int32 → Int32 → Hp → Prop} (hK4 : ∀ (l2 : Int32) (l3 : Int32) (h : Hp), K4 l2 l3 h → V l G 2 yX10_askedByMostHearths cX10_askedByMostHearths 4 (some .boolean) 4 [(0, va_rf l0), (1, .int l1), (2, .int l2), (3, .int l3)] [] h (qI Q)) (hw : n_X10_askedByMostHearths_34 l0 l1 l3 s0 s1 h Q K4) : V l G 2 yX10_askedByMostHearths cX10_askedByMostHearths 4 (some .boolean) 34 [(0, va_rf l0), (1, .int l1), (3, .int l3)] [.int s0, .int s1] h (qI Q) := by
  unfold n_X10_askedByMostHearths_34 at hw
  refine V_iadd dX10_askedByMostHearths_34 ?_
  refine V_ltI hw (fun x6 hw => ?_)
  refine V_istore_n (i := 2) [(2, .int x6), (0, va_rf l0), (1, .int l1), (3, .int l3)] rfl (by decide) rfl dX10_askedByMostHearths_35 ?_
  refine V_iincL (n := 1) 3 (fun z => [(3, .int z), (2, .int x6), (0, va_rf l0), (1, .int l1)]) rfl (by rfl) (by decide) (fun _ => rfl) dX10_askedByMostHearths_36 hw (fun x7 hw => ?_)
  refine V_goto (tgt := 4) dX10_askedByMostHearths_39 (by decide) ?_
  exact V.sub [2, 3, 1, 0] rfl (hK4 _ _ _ hw)
theorem sb_X10_askedByMostHearths_4 {l : Launch} {G : Gh} {l0 : Option Nat} {l1 : Int32} {l2 : Int32} {l3 : Int32} {h : Hp} {Q : Int32 → Hp → Prop} {K4 : Int32 → Int32 → Hp → Prop} (hK4 : ∀ (l2 : Int32) (l3 : Int32) (h : Hp), K4 l2 l3 h → V l G 2 yX10_askedByMostHearths cX10_askedByMostHearths 4 (some .boolean) 4 [(0, va_rf l0), (1, .int l1), (2, .int l2), (3, .int l3)] [] h (qI Q)) (hw : b_X10_askedByMostHearths_4 l0 l1 l2 l3 h Q K4) : V l G 2 yX10_askedByMostHearths cX10_askedByMostHearths 4 (some .boolean) 4 [(0, va_rf l0), (1, .int l1), (2, .int l2), (3, .int l3)] [] h (qI Q) := by
  unfold b_X10_askedByMostHearths_4 at hw
  refine V_iload_n 3 rfl rfl dX10_askedByMostHearths_4 ?_
  refine V_aload_n 0 rfl rfl dX10_askedByMostHearths_5 ?_
  refine X_getI (c := 10) (k := 12) fa_X10_88 rfl dX10_askedByMostHearths_6 hw (fun v1 hw => ?_)
  refine V_icmp_ge (tgt := 42) dX10_askedByMostHearths_9 (by decide) hw (fun hw => ?_) (fun hw => ?_)
  · refine V_iconst (v := 2) (by decide) dX10_askedByMostHearths_42 ?_
    refine V_iload_n 2 rfl rfl dX10_askedByMostHearths_43 ?_
    refine V_imul dX10_askedByMostHearths_44 ?_
    refine V_aload_n 0 rfl rfl dX10_askedByMostHearths_45 ?_
    refine X_getR (c := 10) (k := 0) fa_X10_11 rfl dX10_askedByMostHearths_46 hw (fun v2 hw => ?_)
    refine V_iconst (v := 0) (by decide) dX10_askedByMostHearths_49 ?_
    refine X_ldR dX10_askedByMostHearths_50 hw (fun v3 hw => ?_)
    refine X_getI (c := 5) (k := 6) fa_X10_127 rfl dX10_askedByMostHearths_51 hw (fun v4 hw => ?_)
    refine V_icmp_le (tgt := 61) dX10_askedByMostHearths_54 (by decide) hw (fun hw => ?_) (fun hw => ?_)
    · refine V_iconst (v := 0) (by decide) dX10_askedByMostHearths_61 ?_
      exact V.sub [] rfl (s_X10_askedByMostHearths_62 hw)
    · refine V_iconst (v := 1) (by decide) dX10_askedByMostHearths_57 ?_
      refine V_goto (tgt := 62) dX10_askedByMostHearths_58 (by decide) ?_
      exact V.sub [] rfl (s_X10_askedByMostHearths_62 hw)
  · refine V_iload_n 2 rfl rfl dX10_askedByMostHearths_12 ?_
    refine V_iload_n 1 rfl rfl dX10_askedByMostHearths_13 ?_
    refine V_iload_n 3 rfl rfl dX10_askedByMostHearths_14 ?_
    refine X_cS [.int l1, .int l3] [.int l2] ma_X10_430 (by decide) (by decide) rfl (by simp [cat_i, cat_l, rf_cat]) rfl dX10_askedByMostHearths_15 (r_X10_hasBit _ _ hw) (k_I (fun v5 h hw => ?_))
    refine V_if_eq (tgt := 33) dX10_askedByMostHearths_18 (by decide) hw (fun hw => ?_) (fun hw => ?_)
    · refine V_iconst (v := 0) (by decide) dX10_askedByMostHearths_33 ?_
      exact V.sub [0, 1, 3] rfl (s_X10_askedByMostHearths_34 hK4 hw)
    · refine V_aload_n 0 rfl rfl dX10_askedByMostHearths_21 ?_
      refine X_getR (c := 10) (k := 0) fa_X10_11 rfl dX10_askedByMostHearths_22 hw (fun v8 hw => ?_)
      refine V_iload_n 3 rfl rfl dX10_askedByMostHearths_25 ?_
      refine X_ldR dX10_askedByMostHearths_26 hw (fun v9 hw => ?_)
      refine X_getI (c := 5) (k := 6) fa_X10_127 rfl dX10_askedByMostHearths_27 hw (fun v10 hw => ?_)
      refine V_goto (tgt := 34) dX10_askedByMostHearths_30 (by decide) ?_
      exact V.sub [0, 1, 3] rfl (s_X10_askedByMostHearths_34 hK4 hw)
theorem s_X10_askedByMostHearths_4 {l : Launch} {G : Gh} {l0 : Option Nat} {l1 : Int32} {l2 : Int32} {l3 : Int32} {h : Hp} {Q : Int32 → Hp → Prop}  (hw : l_X10_askedByMostHearths_4 l0 l1 l2 l3 h Q) : V l G 2 yX10_askedByMostHearths cX10_askedByMostHearths 4 (some .boolean) 4 [(0, va_rf l0), (1, .int l1), (2, .int l2), (3, .int l3)] [] h (qI Q) :=
  Lo.ind (P := fun (s : Int32 × Int32) h => V l G 2 yX10_askedByMostHearths cX10_askedByMostHearths 4 (some .boolean) 4 [(0, va_rf l0), (1, .int l1), (2, .int s.1), (3, .int s.2)] [] h (qI Q)) (fun K ih s h hw => sb_X10_askedByMostHearths_4 (fun l2 l3 h hk => ih (l2, l3) h hk) hw) hw
theorem s_X10_askedByMostHearths_0 {l : Launch} {G : Gh} {l0 : Option Nat} {l1 : Int32} {h : Hp} {Q : Int32 → Hp → Prop}  (hw : n_X10_askedByMostHearths_0 l0 l1 h Q) : V l G 2 yX10_askedByMostHearths cX10_askedByMostHearths 4 (some .boolean) 0 [(0, va_rf l0), (1, .int l1)] [] h (qI Q) := by
  unfold n_X10_askedByMostHearths_0 at hw
  refine V_iconst (v := 0) (by decide) dX10_askedByMostHearths_0 ?_
  refine V_istore_n (i := 2) [(2, .int 0), (0, va_rf l0), (1, .int l1)] rfl (by decide) rfl dX10_askedByMostHearths_1 ?_
  refine V_iconst (v := 0) (by decide) dX10_askedByMostHearths_2 ?_
  refine V_istore_n (i := 3) [(3, .int 0), (2, .int 0), (0, va_rf l0), (1, .int l1)] rfl (by decide) rfl dX10_askedByMostHearths_3 ?_
  exact V.sub [2, 3, 1, 0] rfl (s_X10_askedByMostHearths_4 hw)
theorem r_X10_askedByMostHearths {l : Launch} {G : Gh} (l0 : Option Nat) (l1 : Int32) {h : Hp} {Q : Int32 → Hp → Prop} (hw : w_X10_askedByMostHearths l0 l1 h Q) : RunQ l G 2 yX10_askedByMostHearths cX10_askedByMostHearths 4 (some .boolean) [va_rf l0, .int l1] h (qI Q) :=
  V_run rfl (sl_len _ _ (by simp [cat_i, cat_l, rf_cat])) (V.sub [0, 1] (by simp only [la_r, la_i, la_l, la_n]; rfl) (s_X10_askedByMostHearths_0 hw))
def n_X10_askedByMostOrders_100 (s0 : Int32) (h : Hp) (Q : Int32 → Hp → Prop) : Prop :=
  rZ s0 h Q
def n_X10_askedByMostOrders_79 (l0 : Option Nat) (l1 : Int32) (l3 : Int32) (s0 : Int32) (s1 : Int32) (h : Hp) (Q : Int32 → Hp → Prop) (K4 : Int32 → Int32 → Hp → Prop) : Prop :=
  w_X10_bit s0 h <| fun v2 h =>
  lt (s1 + v2) fun x3 =>
  lt (l3 + 1) fun x4 =>
  K4 x3 x4 h
def n_X10_askedByMostOrders_58 (l0 : Option Nat) (l1 : Int32) (l2 : Int32) (l3 : Int32) (l4 : Int32) (l5 : Int32) (l6 : Int32) (h : Hp) (Q : Int32 → Hp → Prop) (K4 : Int32 → Int32 → Hp → Prop) (K18 : Int32 → Int32 → Int32 → Hp → Prop) : Prop :=
  lt (l6 + 1) fun x12 =>
  K18 l4 l5 x12 h
def b_X10_askedByMostOrders_18 (l0 : Option Nat) (l1 : Int32) (l2 : Int32) (l3 : Int32) (l4 : Int32) (l5 : Int32) (l6 : Int32) (h : Hp) (Q : Int32 → Hp → Prop) (K4 : Int32 → Int32 → Hp → Prop) (K18 : Int32 → Int32 → Int32 → Hp → Prop) : Prop :=
  gI h l0 11 1292 fun v1 =>
  br (v1 ≤ l6) (
    br ((2 * l4) ≤ l5) (
      n_X10_askedByMostOrders_79 l0 l1 l3 0 l2 h Q K4) (
      n_X10_askedByMostOrders_79 l0 l1 l3 1 l2 h Q K4)) (
    gR h l0 11 1280 fun v5 =>
    ldR h v5 l6 fun v6 =>
    gI h v6 6 644 fun v7 =>
    br (v7 = l3) (
      w_X10_hasBit l1 l6 h <| fun v8 h =>
      w_X10_bit v8 h <| fun v9 h =>
      lt (l4 + v9) fun x10 =>
      lt (l5 + 1) fun x11 =>
      n_X10_askedByMostOrders_58 l0 l1 l2 l3 x10 x11 l6 h Q K4 K18) (
      n_X10_askedByMostOrders_58 l0 l1 l2 l3 l4 l5 l6 h Q K4 K18))
def l_X10_askedByMostOrders_18 (l0 : Option Nat) (l1 : Int32) (l2 : Int32) (l3 : Int32) (l4 : Int32) (l5 : Int32) (l6 : Int32) (h : Hp) (Q : Int32 → Hp → Prop) (K4 : Int32 → Int32 → Hp → Prop) : Prop :=
  Lo (fun (K : Int32 × Int32 × Int32 → Hp → Prop) s h => b_X10_askedByMostOrders_18 l0 l1 l2 l3 s.1 s.2.1 s.2.2 h Q K4 (fun l4 l5 l6 h => K (l4, l5, l6) h)) (l4, l5, l6) h
def b_X10_askedByMostOrders_4 (l0 : Option Nat) (l1 : Int32) (l2 : Int32) (l3 : Int32) (h : Hp) (Q : Int32 → Hp → Prop) (K4 : Int32 → Int32 → Hp → Prop) : Prop :=
  br (3 ≤ l3) (
    br (l2 < 2) (
      n_X10_askedByMostOrders_100 0 h Q) (
      n_X10_askedByMostOrders_100 1 h Q)) (
    l_X10_askedByMostOrders_18 l0 l1 l2 l3 0 0 0 h Q K4)
def l_X10_askedByMostOrders_4 (l0 : Option Nat) (l1 : Int32) (l2 : Int32) (l3 : Int32) (h : Hp) (Q : Int32 → Hp → Prop) : Prop :=
  Lo (fun (K : Int32 × Int32 → Hp → Prop) s h => b_X10_askedByMostOrders_4 l0 l1 s.1 s.2 h Q (fun l2 l3 h => K (l2, l3) h)) (l2, l3) h
def n_X10_askedByMostOrders_0 (l0 : Option Nat) (l1 : Int32) (h : Hp) (Q : Int32 → Hp → Prop) : Prop :=
  l_X10_askedByMostOrders_4 l0 l1 0 0 h Q
def w_X10_askedByMostOrders (l0 : Option Nat) (l1 : Int32) (h : Hp) (Q : Int32 → Hp → Prop) : Prop := n_X10_askedByMostOrders_0 l0 l1 h Q
theorem s_X10_askedByMostOrders_100 {l : Launch} {G : Gh} {s0 : Int32} {h : Hp} {Q : Int32 → Hp → Prop}  (hw : n_X10_askedByMostOrders_100 s0 h Q) : V l G 2 yX10_askedByMostOrders cX10_askedByMostOrders 7 (some .boolean) 100 [] [.int s0] h (qI Q) := by
  unfold n_X10_askedByMostOrders_100 at hw
  exact V_zret rfl hw.1 dX10_askedByMostOrders_100 ⟨_, rfl, hw.2⟩
theorem s_X10_askedByMostOrders_79 {l : Launch} {G : Gh} {l0 : Option Nat} {l1 : Int32} {l3 : Int32} {s0 : Int32} {s1 : Int32} {h : Hp} {Q : Int32 → Hp → Prop} {K4 : Int32 → Int32 → Hp → Prop} (hK4 : ∀ (l2 : Int32) (l3 : Int32) (h : Hp), K4 l2 l3 h → V l G 2 yX10_askedByMostOrders cX10_askedByMostOrders 7 (some .boolean) 4 [(0, va_rf l0), (1, .int l1), (2, .int l2), (3, .int l3)] [] h (qI Q)) (hw : n_X10_askedByMostOrders_79 l0 l1 l3 s0 s1 h Q K4) : V l G 2 yX10_askedByMostOrders cX10_askedByMostOrders 7 (some .boolean) 79 [(0, va_rf l0), (1, .int l1), (3, .int l3)] [.int s0, .int s1] h (qI Q) := by
  unfold n_X10_askedByMostOrders_79 at hw
  refine X_cS [.int s0] [.int s1] ma_X10_138 (by decide) (by decide) rfl (by simp [cat_i, cat_l, rf_cat]) rfl dX10_askedByMostOrders_79 (r_X10_bit _ hw) (k_I (fun v2 h hw => ?_))
  refine V_iadd dX10_askedByMostOrders_82 ?_
  refine V_ltI hw (fun x3 hw => ?_)
  refine V_istore_n (i := 2) [(2, .int x3), (0, va_rf l0), (1, .int l1), (3, .int l3)] rfl (by decide) rfl dX10_askedByMostOrders_83 ?_
  refine V_iincL (n := 1) 3 (fun z => [(3, .int z), (2, .int x3), (0, va_rf l0), (1, .int l1)]) rfl (by rfl) (by decide) (fun _ => rfl) dX10_askedByMostOrders_84 hw (fun x4 hw => ?_)
  refine V_goto (tgt := 4) dX10_askedByMostOrders_87 (by decide) ?_
  exact V.sub [2, 3, 1, 0] rfl (hK4 _ _ _ hw)
theorem s_X10_askedByMostOrders_58 {l : Launch} {G : Gh} {l0 : Option Nat} {l1 : Int32} {l2 : Int32} {l3 : Int32} {l4 : Int32} {l5 : Int32} {l6 : Int32} {h : Hp} {Q : Int32 → Hp → Prop} {K4 : Int32 → Int32 → Hp → Prop} {K18 : Int32 → Int32 → Int32 → Hp → Prop} (hK4 : ∀ (l2 : Int32) (l3 : Int32) (h : Hp), K4 l2 l3 h → V l G 2 yX10_askedByMostOrders cX10_askedByMostOrders 7 (some .boolean) 4 [(0, va_rf l0), (1, .int l1), (2, .int l2), (3, .int l3)] [] h (qI Q)) (hK18 : ∀ (l4 : Int32) (l5 : Int32) (l6 : Int32) (h : Hp), K18 l4 l5 l6 h → V l G 2 yX10_askedByMostOrders cX10_askedByMostOrders 7 (some .boolean) 18 [(0, va_rf l0), (1, .int l1), (2, .int l2), (3, .int l3), (4, .int l4), (5, .int l5), (6, .int l6)] [] h (qI Q)) (hw : n_X10_askedByMostOrders_58 l0 l1 l2 l3 l4 l5 l6 h Q K4 K18) : V l G 2 yX10_askedByMostOrders cX10_askedByMostOrders 7 (some .boolean) 58 [(0, va_rf l0), (1, .int l1), (2, .int l2), (3, .int l3), (4, .int l4), (5, .int l5), (6, .int l6)] [] h (qI Q) := by
  unfold n_X10_askedByMostOrders_58 at hw
  refine V_iincL (n := 1) 6 (fun z => [(6, .int z), (0, va_rf l0), (1, .int l1), (2, .int l2), (3, .int l3), (4, .int l4), (5, .int l5)]) rfl (by rfl) (by decide) (fun _ => rfl) dX10_askedByMostOrders_58 hw (fun x12 hw => ?_)
  refine V_goto (tgt := 18) dX10_askedByMostOrders_61 (by decide) ?_
  exact V.sub [1, 2, 3, 4, 5, 6, 0] rfl (hK18 _ _ _ _ hw)
theorem sb_X10_askedByMostOrders_18 {l : Launch} {G : Gh} {l0 : Option Nat} {l1 : Int32} {l2 : Int32} {l3 : Int32} {l4 : Int32} {l5 : Int32} {l6 : Int32} {h : Hp} {Q : Int32 → Hp → Prop} {K4 : Int32 → Int32 → Hp → Prop} {K18 : Int32 → Int32 → Int32 → Hp → Prop} (hK4 : ∀ (l2 : Int32) (l3 : Int32) (h : Hp), K4 l2 l3 h → V l G 2 yX10_askedByMostOrders cX10_askedByMostOrders 7 (some .boolean) 4 [(0, va_rf l0), (1, .int l1), (2, .int l2), (3, .int l3)] [] h (qI Q)) (hK18 : ∀ (l4 : Int32) (l5 : Int32) (l6 : Int32) (h : Hp), K18 l4 l5 l6 h → V l G 2 yX10_askedByMostOrders cX10_askedByMostOrders 7 (some .boolean) 18 [(0, va_rf l0), (1, .int l1), (2, .int l2), (3, .int l3), (4, .int l4), (5, .int l5), (6, .int l6)] [] h (qI Q)) (hw : b_X10_askedByMostOrders_18 l0 l1 l2 l3 l4 l5 l6 h Q K4 K18) : V l G 2 yX10_askedByMostOrders cX10_askedByMostOrders 7 (some .boolean) 18 [(0, va_rf l0), (1, .int l1), (2, .int l2), (3, .int l3), (4, .int l4), (5, .int l5), (6, .int l6)] [] h (qI Q) := by
  unfold b_X10_askedByMostOrders_18 at hw
  refine V_iload 6 rfl dX10_askedByMostOrders_18 ?_
  refine V_aload_n 0 rfl rfl dX10_askedByMostOrders_20 ?_
  refine X_getI (c := 10) (k := 12) fa_X10_88 rfl dX10_askedByMostOrders_21 hw (fun v1 hw => ?_)
  refine V_icmp_ge (tgt := 64) dX10_askedByMostOrders_24 (by decide) hw (fun hw => ?_) (fun hw => ?_)
  · refine V_iload_n 2 rfl rfl dX10_askedByMostOrders_64 ?_
    refine V_iconst (v := 2) (by decide) dX10_askedByMostOrders_65 ?_
    refine V_iload 4 rfl dX10_askedByMostOrders_66 ?_
    refine V_imul dX10_askedByMostOrders_68 ?_
    refine V_iload 5 rfl dX10_askedByMostOrders_69 ?_
    refine V_icmp_le (tgt := 78) dX10_askedByMostOrders_71 (by decide) hw (fun hw => ?_) (fun hw => ?_)
    · refine V_iconst (v := 0) (by decide) dX10_askedByMostOrders_78 ?_
      exact V.sub [0, 1, 3] rfl (s_X10_askedByMostOrders_79 hK4 hw)
    · refine V_iconst (v := 1) (by decide) dX10_askedByMostOrders_74 ?_
      refine V_goto (tgt := 79) dX10_askedByMostOrders_75 (by decide) ?_
      exact V.sub [0, 1, 3] rfl (s_X10_askedByMostOrders_79 hK4 hw)
  · refine V_aload_n 0 rfl rfl dX10_askedByMostOrders_27 ?_
    refine X_getR (c := 10) (k := 0) fa_X10_11 rfl dX10_askedByMostOrders_28 hw (fun v5 hw => ?_)
    refine V_iload 6 rfl dX10_askedByMostOrders_31 ?_
    refine X_ldR dX10_askedByMostOrders_33 hw (fun v6 hw => ?_)
    refine X_getI (c := 5) (k := 4) fa_X10_124 rfl dX10_askedByMostOrders_34 hw (fun v7 hw => ?_)
    refine V_iload_n 3 rfl rfl dX10_askedByMostOrders_37 ?_
    refine V_icmp_ne (tgt := 58) dX10_askedByMostOrders_38 (by decide) hw (fun hw => ?_) (fun hw => ?_)
    · refine V_iload 4 rfl dX10_askedByMostOrders_41 ?_
      refine V_iload_n 1 rfl rfl dX10_askedByMostOrders_43 ?_
      refine V_iload 6 rfl dX10_askedByMostOrders_44 ?_
      refine X_cS [.int l1, .int l6] [.int l4] ma_X10_430 (by decide) (by decide) rfl (by simp [cat_i, cat_l, rf_cat]) rfl dX10_askedByMostOrders_46 (r_X10_hasBit _ _ hw) (k_I (fun v8 h hw => ?_))
      refine X_cS [.int v8] [.int l4] ma_X10_138 (by decide) (by decide) rfl (by simp [cat_i, cat_l, rf_cat]) rfl dX10_askedByMostOrders_49 (r_X10_bit _ hw) (k_I (fun v9 h hw => ?_))
      refine V_iadd dX10_askedByMostOrders_52 ?_
      refine V_ltI hw (fun x10 hw => ?_)
      refine V_istore (i := 4) [(4, .int x10), (0, va_rf l0), (1, .int l1), (2, .int l2), (3, .int l3), (5, .int l5), (6, .int l6)] (by decide) rfl dX10_askedByMostOrders_53 ?_
      refine V_iincL (n := 1) 5 (fun z => [(5, .int z), (4, .int x10), (0, va_rf l0), (1, .int l1), (2, .int l2), (3, .int l3), (6, .int l6)]) rfl (by rfl) (by decide) (fun _ => rfl) dX10_askedByMostOrders_55 hw (fun x11 hw => ?_)
      exact V.sub [2, 3, 4, 5, 1, 0, 6] rfl (s_X10_askedByMostOrders_58 hK4 hK18 hw)
    · exact V.sub [0, 1, 2, 3, 4, 5, 6] rfl (s_X10_askedByMostOrders_58 hK4 hK18 hw)
theorem s_X10_askedByMostOrders_18 {l : Launch} {G : Gh} {l0 : Option Nat} {l1 : Int32} {l2 : Int32} {l3 : Int32} {l4 : Int32} {l5 : Int32} {l6 : Int32} {h : Hp} {Q : Int32 → Hp → Prop} {K4 : Int32 → Int32 → Hp → Prop} (hK4 : ∀ (l2 : Int32) (l3 : Int32) (h : Hp), K4 l2 l3 h → V l G 2 yX10_askedByMostOrders cX10_askedByMostOrders 7 (some .boolean) 4 [(0, va_rf l0), (1, .int l1), (2, .int l2), (3, .int l3)] [] h (qI Q)) (hw : l_X10_askedByMostOrders_18 l0 l1 l2 l3 l4 l5 l6 h Q K4) : V l G 2 yX10_askedByMostOrders cX10_askedByMostOrders 7 (some .boolean) 18 [(0, va_rf l0), (1, .int l1), (2, .int l2), (3, .int l3), (4, .int l4), (5, .int l5), (6, .int l6)] [] h (qI Q) :=
  Lo.ind (P := fun (s : Int32 × Int32 × Int32) h => V l G 2 yX10_askedByMostOrders cX10_askedByMostOrders 7 (some .boolean) 18 [(0, va_rf l0), (1, .int l1), (2, .int l2), (3, .int l3), (4, .int s.1), (5, .int s.2.1), (6, .int s.2.2)] [] h (qI Q)) (fun K ih s h hw => sb_X10_askedByMostOrders_18 hK4 (fun l4 l5 l6 h hk => ih (l4, l5, l6) h hk) hw) hw
theorem sb_X10_askedByMostOrders_4 {l : Launch} {G : Gh} {l0 : Option Nat} {l1 : Int32} {l2 : Int32} {l3 : Int32} {h : Hp} {Q : Int32 → Hp → Prop} {K4 : Int32 → Int32 → Hp → Prop} (hK4 : ∀ (l2 : Int32) (l3 : Int32) (h : Hp), K4 l2 l3 h → V l G 2 yX10_askedByMostOrders cX10_askedByMostOrders 7 (some .boolean) 4 [(0, va_rf l0), (1, .int l1), (2, .int l2), (3, .int l3)] [] h (qI Q)) (hw : b_X10_askedByMostOrders_4 l0 l1 l2 l3 h Q K4) : V l G 2 yX10_askedByMostOrders cX10_askedByMostOrders 7 (some .boolean) 4 [(0, va_rf l0), (1, .int l1), (2, .int l2), (3, .int l3)] [] h (qI Q) := by
  unfold b_X10_askedByMostOrders_4 at hw
  refine V_iload_n 3 rfl rfl dX10_askedByMostOrders_4 ?_
  refine V_iconst (v := 3) (by decide) dX10_askedByMostOrders_5 ?_
  refine V_icmp_ge (tgt := 90) dX10_askedByMostOrders_6 (by decide) hw (fun hw => ?_) (fun hw => ?_)
  · refine V_iload_n 2 rfl rfl dX10_askedByMostOrders_90 ?_
    refine V_iconst (v := 2) (by decide) dX10_askedByMostOrders_91 ?_
    refine V_icmp_lt (tgt := 99) dX10_askedByMostOrders_92 (by decide) hw (fun hw => ?_) (fun hw => ?_)
    · refine V_iconst (v := 0) (by decide) dX10_askedByMostOrders_99 ?_
      exact V.sub [] rfl (s_X10_askedByMostOrders_100 hw)
    · refine V_iconst (v := 1) (by decide) dX10_askedByMostOrders_95 ?_
      refine V_goto (tgt := 100) dX10_askedByMostOrders_96 (by decide) ?_
      exact V.sub [] rfl (s_X10_askedByMostOrders_100 hw)
  · refine V_iconst (v := 0) (by decide) dX10_askedByMostOrders_9 ?_
    refine V_istore (i := 4) [(4, .int 0), (0, va_rf l0), (1, .int l1), (2, .int l2), (3, .int l3)] (by decide) rfl dX10_askedByMostOrders_10 ?_
    refine V_iconst (v := 0) (by decide) dX10_askedByMostOrders_12 ?_
    refine V_istore (i := 5) [(5, .int 0), (4, .int 0), (0, va_rf l0), (1, .int l1), (2, .int l2), (3, .int l3)] (by decide) rfl dX10_askedByMostOrders_13 ?_
    refine V_iconst (v := 0) (by decide) dX10_askedByMostOrders_15 ?_
    refine V_istore (i := 6) [(6, .int 0), (5, .int 0), (4, .int 0), (0, va_rf l0), (1, .int l1), (2, .int l2), (3, .int l3)] (by decide) rfl dX10_askedByMostOrders_16 ?_
    exact V.sub [3, 4, 5, 6, 2, 1, 0] rfl (s_X10_askedByMostOrders_18 hK4 hw)
theorem s_X10_askedByMostOrders_4 {l : Launch} {G : Gh} {l0 : Option Nat} {l1 : Int32} {l2 : Int32} {l3 : Int32} {h : Hp} {Q : Int32 → Hp → Prop}  (hw : l_X10_askedByMostOrders_4 l0 l1 l2 l3 h Q) : V l G 2 yX10_askedByMostOrders cX10_askedByMostOrders 7 (some .boolean) 4 [(0, va_rf l0), (1, .int l1), (2, .int l2), (3, .int l3)] [] h (qI Q) :=
  Lo.ind (P := fun (s : Int32 × Int32) h => V l G 2 yX10_askedByMostOrders cX10_askedByMostOrders 7 (some .boolean) 4 [(0, va_rf l0), (1, .int l1), (2, .int s.1), (3, .int s.2)] [] h (qI Q)) (fun K ih s h hw => sb_X10_askedByMostOrders_4 (fun l2 l3 h hk => ih (l2, l3) h hk) hw) hw
theorem s_X10_askedByMostOrders_0 {l : Launch} {G : Gh} {l0 : Option Nat} {l1 : Int32} {h : Hp} {Q : Int32 → Hp → Prop}  (hw : n_X10_askedByMostOrders_0 l0 l1 h Q) : V l G 2 yX10_askedByMostOrders cX10_askedByMostOrders 7 (some .boolean) 0 [(0, va_rf l0), (1, .int l1)] [] h (qI Q) := by
  unfold n_X10_askedByMostOrders_0 at hw
  refine V_iconst (v := 0) (by decide) dX10_askedByMostOrders_0 ?_
  refine V_istore_n (i := 2) [(2, .int 0), (0, va_rf l0), (1, .int l1)] rfl (by decide) rfl dX10_askedByMostOrders_1 ?_
  refine V_iconst (v := 0) (by decide) dX10_askedByMostOrders_2 ?_
  refine V_istore_n (i := 3) [(3, .int 0), (2, .int 0), (0, va_rf l0), (1, .int l1)] rfl (by decide) rfl dX10_askedByMostOrders_3 ?_
  exact V.sub [2, 3, 1, 0] rfl (s_X10_askedByMostOrders_4 hw)
theorem r_X10_askedByMostOrders {l : Launch} {G : Gh} (l0 : Option Nat) (l1 : Int32) {h : Hp} {Q : Int32 → Hp → Prop} (hw : w_X10_askedByMostOrders l0 l1 h Q) : RunQ l G 2 yX10_askedByMostOrders cX10_askedByMostOrders 7 (some .boolean) [va_rf l0, .int l1] h (qI Q) :=
  V_run rfl (sl_len _ _ (by simp [cat_i, cat_l, rf_cat])) (V.sub [0, 1] (by simp only [la_r, la_i, la_l, la_n]; rfl) (s_X10_askedByMostOrders_0 hw))
def n_X10_askersOf_65 (l0 : Option Nat) (l1 : Int32) (l2 : Int32) (l3 : Int32) (l4 : Int32) (h : Hp) (Q : Int32 → Hp → Prop) (K5 : Int32 → Int32 → Hp → Prop) : Prop :=
  lt (l4 + 1) fun x7 =>
  K5 l3 x7 h
def b_X10_askersOf_5 (l0 : Option Nat) (l1 : Int32) (l2 : Int32) (l3 : Int32) (l4 : Int32) (h : Hp) (Q : Int32 → Hp → Prop) (K5 : Int32 → Int32 → Hp → Prop) : Prop :=
  gI h l0 11 1293 fun v1 =>
  br (v1 ≤ l4) (
    Q l3 h) (
    gR h l0 11 1282 fun v2 =>
    ldR h v2 l4 fun v3 =>
    gR h v3 1 1 fun v4 =>
    gI h v4 6 641 fun v5 =>
    br (v5 = 0) (
      oV h v3 1 <| w_X0_stands v3 h <| fun v6 h =>
      br (v6 = 0) (
        n_X10_askersOf_65 l0 l1 l2 l3 l4 h Q K5) (
        oV h v3 1 <| w_X0_isFor v3 l1 l2 h <| fun v8 h =>
        br (v8 = 0) (
          n_X10_askersOf_65 l0 l1 l2 l3 l4 h Q K5) (
          gR h v3 1 1 fun v9 =>
          gI h v9 6 640 fun v10 =>
          lt (l3 ||| (1 <<< (v10 &&& 31))) fun x11 =>
          n_X10_askersOf_65 l0 l1 l2 x11 l4 h Q K5))) (
      n_X10_askersOf_65 l0 l1 l2 l3 l4 h Q K5))
def l_X10_askersOf_5 (l0 : Option Nat) (l1 : Int32) (l2 : Int32) (l3 : Int32) (l4 : Int32) (h : Hp) (Q : Int32 → Hp → Prop) : Prop :=
  Lo (fun (K : Int32 × Int32 → Hp → Prop) s h => b_X10_askersOf_5 l0 l1 l2 s.1 s.2 h Q (fun l3 l4 h => K (l3, l4) h)) (l3, l4) h
def n_X10_askersOf_0 (l0 : Option Nat) (l1 : Int32) (l2 : Int32) (h : Hp) (Q : Int32 → Hp → Prop) : Prop :=
  l_X10_askersOf_5 l0 l1 l2 0 0 h Q
def w_X10_askersOf (l0 : Option Nat) (l1 : Int32) (l2 : Int32) (h : Hp) (Q : Int32 → Hp → Prop) : Prop := n_X10_askersOf_0 l0 l1 l2 h Q
theorem s_X10_askersOf_65 {l : Launch} {G : Gh} {l0 : Option Nat} {l1 : Int32} {l2 : Int32} {l3 : Int32} {l4 : Int32} {h : Hp} {Q : Int32 → Hp → Prop} {K5 : Int32 → Int32 → Hp → Prop} (hK5 : ∀ (l3 : Int32) (l4 : Int32) (h : Hp), K5 l3 l4 h → V l G 2 yX10_askersOf cX10_askersOf 6 (some .int) 5 [(0, va_rf l0), (1, .int l1), (2, .int l2), (3, .int l3), (4, .int l4)] [] h (qI Q)) (hw : n_X10_askersOf_65 l0 l1 l2 l3 l4 h Q K5) : V l G 2 yX10_askersOf cX10_askersOf 6 (some .int) 65 [(0, va_rf l0), (1, .int l1), (2, .int l2), (3, .int l3), (4, .int l4)] [] h (qI Q) := by
  unfold n_X10_askersOf_65 at hw
  refine V_iincL (n := 1) 4 (fun z => [(4, .int z), (0, va_rf l0), (1, .int l1), (2, .int l2), (3, .int l3)]) rfl (by rfl) (by decide) (fun _ => rfl) dX10_askersOf_65 hw (fun x7 hw => ?_)
  refine V_goto (tgt := 5) dX10_askersOf_68 (by decide) ?_
  exact V.sub [1, 2, 3, 4, 0] rfl (hK5 _ _ _ hw)
theorem sb_X10_askersOf_5 {l : Launch} {G : Gh} {l0 : Option Nat} {l1 : Int32} {l2 : Int32} {l3 : Int32} {l4 : Int32} {h : Hp} {Q : Int32 → Hp → Prop} {K5 : Int32 → Int32 → Hp → Prop} (hK5 : ∀ (l3 : Int32) (l4 : Int32) (h : Hp), K5 l3 l4 h → V l G 2 yX10_askersOf cX10_askersOf 6 (some .int) 5 [(0, va_rf l0), (1, .int l1), (2, .int l2), (3, .int l3), (4, .int l4)] [] h (qI Q)) (hw : b_X10_askersOf_5 l0 l1 l2 l3 l4 h Q K5) : V l G 2 yX10_askersOf cX10_askersOf 6 (some .int) 5 [(0, va_rf l0), (1, .int l1), (2, .int l2), (3, .int l3), (4, .int l4)] [] h (qI Q) := by
  unfold b_X10_askersOf_5 at hw
  refine V_iload 4 rfl dX10_askersOf_5 ?_
  refine V_aload_n 0 rfl rfl dX10_askersOf_7 ?_
  refine X_getI (c := 10) (k := 13) fa_X10_249 rfl dX10_askersOf_8 hw (fun v1 hw => ?_)
  refine V_icmp_ge (tgt := 71) dX10_askersOf_11 (by decide) hw (fun hw => ?_) (fun hw => ?_)
  · refine V_iload_n 3 rfl rfl dX10_askersOf_71 ?_
    exact V_iret rfl dX10_askersOf_72 ⟨_, rfl, hw⟩
  · refine V_aload_n 0 rfl rfl dX10_askersOf_14 ?_
    refine X_getR (c := 10) (k := 2) fa_X10_23 rfl dX10_askersOf_15 hw (fun v2 hw => ?_)
    refine V_iload 4 rfl dX10_askersOf_18 ?_
    refine X_ldR dX10_askersOf_20 hw (fun v3 hw => ?_)
    refine V_astore (i := 5) [(5, va_rf v3), (0, va_rf l0), (1, .int l1), (2, .int l2), (3, .int l3), (4, .int l4)] (by decide) rfl dX10_askersOf_21 ?_
    refine V_aload 0 rfl dX10_askersOf_23 ?_
    refine X_getR (c := 0) (k := 1) fa_X10_255 rfl dX10_askersOf_25 hw (fun v4 hw => ?_)
    refine X_getI (c := 5) (k := 1) fa_X10_103 rfl dX10_askersOf_28 hw (fun v5 hw => ?_)
    refine V_if_ne (tgt := 65) dX10_askersOf_31 (by decide) hw (fun hw => ?_) (fun hw => ?_)
    · refine V_aload 0 rfl dX10_askersOf_34 ?_
      refine X_cV 0 [] [] ma_X10_300 (by decide) rfl (by decide) (by decide) rfl (by simp [cat_i, cat_l, rf_cat]) rfl dX10_askersOf_36 hw (r_X0_stands _) (k_I (fun v6 h hw => ?_))
      refine V_if_eq (tgt := 65) dX10_askersOf_39 (by decide) hw (fun hw => ?_) (fun hw => ?_)
      · exact V.sub [1, 2, 3, 4, 5] rfl (s_X10_askersOf_65 hK5 hw)
      · refine V_aload 0 rfl dX10_askersOf_42 ?_
        refine V_iload_n 2 rfl rfl dX10_askersOf_44 ?_
        refine V_iload_n 3 rfl rfl dX10_askersOf_45 ?_
        refine X_cV 0 [.int l1, .int l2] [] ma_X10_332 (by decide) rfl (by decide) (by decide) rfl (by simp [cat_i, cat_l, rf_cat]) rfl dX10_askersOf_46 hw (r_X0_isFor _ _ _) (k_I (fun v8 h hw => ?_))
        refine V_if_eq (tgt := 65) dX10_askersOf_49 (by decide) hw (fun hw => ?_) (fun hw => ?_)
        · exact V.sub [1, 2, 3, 4, 5] rfl (s_X10_askersOf_65 hK5 hw)
        · refine V_iload_n 4 rfl rfl dX10_askersOf_52 ?_
          refine V_iconst (v := 1) (by decide) dX10_askersOf_53 ?_
          refine V_aload 0 rfl dX10_askersOf_54 ?_
          refine X_getR (c := 0) (k := 1) fa_X10_255 rfl dX10_askersOf_56 hw (fun v9 hw => ?_)
          refine X_getI (c := 5) (k := 0) fa_X10_121 rfl dX10_askersOf_59 hw (fun v10 hw => ?_)
          refine V_ishl dX10_askersOf_62 ?_
          refine V_ior dX10_askersOf_63 ?_
          refine V_ltI hw (fun x11 hw => ?_)
          refine V_istore_n (i := 3) [(3, .int x11), (5, va_rf v3), (0, va_rf l0), (1, .int l1), (2, .int l2), (4, .int l4)] rfl (by decide) rfl dX10_askersOf_64 ?_
          exact V.sub [2, 3, 4, 0, 5] rfl (s_X10_askersOf_65 hK5 hw)
    · exact V.sub [1, 2, 3, 4, 5] rfl (s_X10_askersOf_65 hK5 hw)
theorem s_X10_askersOf_5 {l : Launch} {G : Gh} {l0 : Option Nat} {l1 : Int32} {l2 : Int32} {l3 : Int32} {l4 : Int32} {h : Hp} {Q : Int32 → Hp → Prop}  (hw : l_X10_askersOf_5 l0 l1 l2 l3 l4 h Q) : V l G 2 yX10_askersOf cX10_askersOf 6 (some .int) 5 [(0, va_rf l0), (1, .int l1), (2, .int l2), (3, .int l3), (4, .int l4)] [] h (qI Q) :=
  Lo.ind (P := fun (s : Int32 × Int32) h => V l G 2 yX10_askersOf cX10_askersOf 6 (some .int) 5 [(0, va_rf l0), (1, .int l1), (2, .int l2), (3, .int s.1), (4, .int s.2)] [] h (qI Q)) (fun K ih s h hw => sb_X10_askersOf_5 (fun l3 l4 h hk => ih (l3, l4) h hk) hw) hw
theorem s_X10_askersOf_0 {l : Launch} {G : Gh} {l0 : Option Nat} {l1 : Int32} {l2 : Int32} {h : Hp} {Q : Int32 → Hp → Prop}  (hw : n_X10_askersOf_0 l0 l1 l2 h Q) : V l G 2 yX10_askersOf cX10_askersOf 6 (some .int) 0 [(0, va_rf l0), (1, .int l1), (2, .int l2)] [] h (qI Q) := by
  unfold n_X10_askersOf_0 at hw
  refine V_iconst (v := 0) (by decide) dX10_askersOf_0 ?_
  refine V_istore_n (i := 3) [(3, .int 0), (0, va_rf l0), (1, .int l1), (2, .int l2)] rfl (by decide) rfl dX10_askersOf_1 ?_
  refine V_iconst (v := 0) (by decide) dX10_askersOf_2 ?_
  refine V_istore (i := 4) [(4, .int 0), (3, .int 0), (0, va_rf l0), (1, .int l1), (2, .int l2)] (by decide) rfl dX10_askersOf_3 ?_
  exact V.sub [2, 3, 4, 1, 0] rfl (s_X10_askersOf_5 hw)
theorem r_X10_askersOf {l : Launch} {G : Gh} (l0 : Option Nat) (l1 : Int32) (l2 : Int32) {h : Hp} {Q : Int32 → Hp → Prop} (hw : w_X10_askersOf l0 l1 l2 h Q) : RunQ l G 2 yX10_askersOf cX10_askersOf 6 (some .int) [va_rf l0, .int l1, .int l2] h (qI Q) :=
  V_run rfl (sl_len _ _ (by simp [cat_i, cat_l, rf_cat])) (V.sub [0, 1, 2] (by simp only [la_r, la_i, la_l, la_n]; rfl) (s_X10_askersOf_0 hw))
def n_X10_asksWith_118 (l0 : Option Nat) (l1 : Int32) (l2 : Int32) (l3 : Int32) (h : Hp) (Q : Int32 → Hp → Prop) (K4 : Int32 → Int32 → Hp → Prop) : Prop :=
  lt (l3 + 1) fun x7 =>
  K4 l2 x7 h
def n_X10_asksWith_63 (l0 : Option Nat) (l1 : Int32) (l3 : Int32) (s0 : Int32) (s1 : Int32) (h : Hp) (Q : Int32 → Hp → Prop) (K4 : Int32 → Int32 → Hp → Prop) : Prop :=
  w_X10_bit s0 h <| fun v5 h =>
  lt (s1 + v5) fun x6 =>
  n_X10_asksWith_118 l0 l1 x6 l3 h Q K4
def n_X10_asksWith_85 (l0 : Option Nat) (l1 : Int32) (l3 : Int32) (s0 : Int32) (s1 : Int32) (h : Hp) (Q : Int32 → Hp → Prop) (K4 : Int32 → Int32 → Hp → Prop) : Prop :=
  w_X10_bit s0 h <| fun v9 h =>
  lt (s1 + v9) fun x10 =>
  n_X10_asksWith_118 l0 l1 x10 l3 h Q K4
def b_X10_asksWith_4 (l0 : Option Nat) (l1 : Int32) (l2 : Int32) (l3 : Int32) (h : Hp) (Q : Int32 → Hp → Prop) (K4 : Int32 → Int32 → Hp → Prop) : Prop :=
  gI h l0 11 1293 fun v1 =>
  br (v1 ≤ l3) (
    Q l2 h) (
    gR h l0 11 1282 fun v2 =>
    ldR h v2 l3 fun v3 =>
    br (l1 = 7) (
      gI h v3 1 6 fun v4 =>
      br (v4 = 1) (
        n_X10_asksWith_63 l0 l1 l3 1 l2 h Q K4) (
        n_X10_asksWith_63 l0 l1 l3 0 l2 h Q K4)) <|
    br (l1 = 8) (
      gR h v3 1 16 fun v8 =>
      br (v8 = none) (
        n_X10_asksWith_85 l0 l1 l3 0 l2 h Q K4) (
        n_X10_asksWith_85 l0 l1 l3 1 l2 h Q K4)) <|
    br (l1 = 9) (
      gI h v3 1 12 fun v11 =>
      w_X10_bit v11 h <| fun v12 h =>
      lt (l2 + v12) fun x13 =>
      n_X10_asksWith_118 l0 l1 x13 l3 h Q K4) <|
    gI h v3 1 17 fun v14 =>
    w_X10_bit v14 h <| fun v15 h =>
    lt (l2 + v15) fun x16 =>
    n_X10_asksWith_118 l0 l1 x16 l3 h Q K4)
def l_X10_asksWith_4 (l0 : Option Nat) (l1 : Int32) (l2 : Int32) (l3 : Int32) (h : Hp) (Q : Int32 → Hp → Prop) : Prop :=
  Lo (fun (K : Int32 × Int32 → Hp → Prop) s h => b_X10_asksWith_4 l0 l1 s.1 s.2 h Q (fun l2 l3 h => K (l2, l3) h)) (l2, l3) h
def n_X10_asksWith_0 (l0 : Option Nat) (l1 : Int32) (h : Hp) (Q : Int32 → Hp → Prop) : Prop :=
  l_X10_asksWith_4 l0 l1 0 0 h Q
def w_X10_asksWith (l0 : Option Nat) (l1 : Int32) (h : Hp) (Q : Int32 → Hp → Prop) : Prop := n_X10_asksWith_0 l0 l1 h Q
theorem s_X10_asksWith_118 {l : Launch} {G : Gh} {l0 : Option Nat} {l1 : Int32} {l2 : Int32} {l3 : Int32} {h : Hp} {Q : Int32 → Hp → Prop} {K4 : Int32 → Int32 → Hp → Prop} (hK4 : ∀ (l2 : Int32) (l3 : Int32) (h : Hp), K4 l2 l3 h → V l G 2 yX10_asksWith cX10_asksWith 5 (some .int) 4 [(0, va_rf l0), (1, .int l1), (2, .int l2), (3, .int l3)] [] h (qI Q)) (hw : n_X10_asksWith_118 l0 l1 l2 l3 h Q K4) : V l G 2 yX10_asksWith cX10_asksWith 5 (some .int) 118 [(0, va_rf l0), (1, .int l1), (2, .int l2), (3, .int l3)] [] h (qI Q) := by
  unfold n_X10_asksWith_118 at hw
  refine V_iincL (n := 1) 3 (fun z => [(3, .int z), (0, va_rf l0), (1, .int l1), (2, .int l2)]) rfl (by rfl) (by decide) (fun _ => rfl) dX10_asksWith_118 hw (fun x7 hw => ?_)
  refine V_goto (tgt := 4) dX10_asksWith_121 (by decide) ?_
  exact V.sub [1, 2, 3, 0] rfl (hK4 _ _ _ hw)
theorem s_X10_asksWith_63 {l : Launch} {G : Gh} {l0 : Option Nat} {l1 : Int32} {l3 : Int32} {s0 : Int32} {s1 : Int32} {h : Hp} {Q : Int32 → Hp → Prop} {K4 : Int32 → Int32 → Hp → Prop} (hK4 : ∀ (l2 : Int32) (l3 : Int32) (h : Hp), K4 l2 l3 h → V l G 2 yX10_asksWith cX10_asksWith 5 (some .int) 4 [(0, va_rf l0), (1, .int l1), (2, .int l2), (3, .int l3)] [] h (qI Q)) (hw : n_X10_asksWith_63 l0 l1 l3 s0 s1 h Q K4) : V l G 2 yX10_asksWith cX10_asksWith 5 (some .int) 63 [(0, va_rf l0), (1, .int l1), (3, .int l3)] [.int s0, .int s1] h (qI Q) := by
  unfold n_X10_asksWith_63 at hw
  refine X_cS [.int s0] [.int s1] ma_X10_138 (by decide) (by decide) rfl (by simp [cat_i, cat_l, rf_cat]) rfl dX10_asksWith_63 (r_X10_bit _ hw) (k_I (fun v5 h hw => ?_))
  refine V_iadd dX10_asksWith_66 ?_
  refine V_ltI hw (fun x6 hw => ?_)
  refine V_istore_n (i := 2) [(2, .int x6), (0, va_rf l0), (1, .int l1), (3, .int l3)] rfl (by decide) rfl dX10_asksWith_67 ?_
  refine V_goto (tgt := 118) dX10_asksWith_68 (by decide) ?_
  exact V.sub [1, 2, 0, 3] rfl (s_X10_asksWith_118 hK4 hw)
theorem s_X10_asksWith_85 {l : Launch} {G : Gh} {l0 : Option Nat} {l1 : Int32} {l3 : Int32} {s0 : Int32} {s1 : Int32} {h : Hp} {Q : Int32 → Hp → Prop} {K4 : Int32 → Int32 → Hp → Prop} (hK4 : ∀ (l2 : Int32) (l3 : Int32) (h : Hp), K4 l2 l3 h → V l G 2 yX10_asksWith cX10_asksWith 5 (some .int) 4 [(0, va_rf l0), (1, .int l1), (2, .int l2), (3, .int l3)] [] h (qI Q)) (hw : n_X10_asksWith_85 l0 l1 l3 s0 s1 h Q K4) : V l G 2 yX10_asksWith cX10_asksWith 5 (some .int) 85 [(0, va_rf l0), (1, .int l1), (3, .int l3)] [.int s0, .int s1] h (qI Q) := by
  unfold n_X10_asksWith_85 at hw
  refine X_cS [.int s0] [.int s1] ma_X10_138 (by decide) (by decide) rfl (by simp [cat_i, cat_l, rf_cat]) rfl dX10_asksWith_85 (r_X10_bit _ hw) (k_I (fun v9 h hw => ?_))
  refine V_iadd dX10_asksWith_88 ?_
  refine V_ltI hw (fun x10 hw => ?_)
  refine V_istore_n (i := 2) [(2, .int x10), (0, va_rf l0), (1, .int l1), (3, .int l3)] rfl (by decide) rfl dX10_asksWith_89 ?_
  refine V_goto (tgt := 118) dX10_asksWith_90 (by decide) ?_
  exact V.sub [1, 2, 0, 3] rfl (s_X10_asksWith_118 hK4 hw)
set_option maxRecDepth 20000 in
theorem sb_X10_asksWith_4 {l : Launch} {G : Gh} {l0 : Option Nat} {l1 : Int32} {l2 : Int32} {l3 : Int32} {h : Hp} {Q : Int32 → Hp → Prop} {K4 : Int32 → Int32 → Hp → Prop} (hK4 : ∀ (l2 : Int32) (l3 : Int32) (h : Hp), K4 l2 l3 h → V l G 2 yX10_asksWith cX10_asksWith 5 (some .int) 4 [(0, va_rf l0), (1, .int l1), (2, .int l2), (3, .int l3)] [] h (qI Q)) (hw : b_X10_asksWith_4 l0 l1 l2 l3 h Q K4) : V l G 2 yX10_asksWith cX10_asksWith 5 (some .int) 4 [(0, va_rf l0), (1, .int l1), (2, .int l2), (3, .int l3)] [] h (qI Q) := by
  unfold b_X10_asksWith_4 at hw
  refine V_iload_n 3 rfl rfl dX10_asksWith_4 ?_
  refine V_aload_n 0 rfl rfl dX10_asksWith_5 ?_
  refine X_getI (c := 10) (k := 13) fa_X10_249 rfl dX10_asksWith_6 hw (fun v1 hw => ?_)
  refine V_icmp_ge (tgt := 124) dX10_asksWith_9 (by decide) hw (fun hw => ?_) (fun hw => ?_)
  · refine V_iload_n 2 rfl rfl dX10_asksWith_124 ?_
    exact V_iret rfl dX10_asksWith_125 ⟨_, rfl, hw⟩
  · refine V_aload_n 0 rfl rfl dX10_asksWith_12 ?_
    refine X_getR (c := 10) (k := 2) fa_X10_23 rfl dX10_asksWith_13 hw (fun v2 hw => ?_)
    refine V_iload_n 3 rfl rfl dX10_asksWith_16 ?_
    refine X_ldR dX10_asksWith_17 hw (fun v3 hw => ?_)
    refine V_astore (i := 4) [(4, va_rf v3), (0, va_rf l0), (1, .int l1), (2, .int l2), (3, .int l3)] (by decide) rfl dX10_asksWith_18 ?_
    refine V_iload_n 2 rfl rfl dX10_asksWith_20 ?_
    by_cases c7 : l1 = 7
    · replace hw := hw.1 c7
      refine V_tsw 48 dX10_asksWith_21 (by rw [c7]; exact Or.inr ⟨by decide, by decide, _, rfl, by decide⟩) ?_
      refine V_iload_n 3 rfl rfl dX10_asksWith_48 ?_
      refine V_aload 0 rfl dX10_asksWith_49 ?_
      refine X_getI (c := 0) (k := 6) fa_X10_309 rfl dX10_asksWith_51 hw (fun v4 hw => ?_)
      refine V_iconst (v := 1) (by decide) dX10_asksWith_54 ?_
      refine V_icmp_ne (tgt := 62) dX10_asksWith_55 (by decide) hw (fun hw => ?_) (fun hw => ?_)
      · refine V_iconst (v := 1) (by decide) dX10_asksWith_58 ?_
        refine V_goto (tgt := 63) dX10_asksWith_59 (by decide) ?_
        exact V.sub [1, 2, 4] rfl (s_X10_asksWith_63 hK4 hw)
      · refine V_iconst (v := 0) (by decide) dX10_asksWith_62 ?_
        exact V.sub [1, 2, 4] rfl (s_X10_asksWith_63 hK4 hw)
    replace hw := hw.2 c7
    by_cases c8 : l1 = 8
    · replace hw := hw.1 c8
      refine V_tsw 71 dX10_asksWith_21 (by rw [c8]; exact Or.inr ⟨by decide, by decide, _, rfl, by decide⟩) ?_
      refine V_iload_n 3 rfl rfl dX10_asksWith_71 ?_
      refine V_aload 0 rfl dX10_asksWith_72 ?_
      refine X_getR (c := 0) (k := 16) fa_X10_318 rfl dX10_asksWith_74 hw (fun v8 hw => ?_)
      refine V_ifnull (tgt := 84) dX10_asksWith_77 (by decide) hw (fun hw => ?_) (fun hw => ?_)
      · refine V_iconst (v := 0) (by decide) dX10_asksWith_84 ?_
        exact V.sub [1, 2, 4] rfl (s_X10_asksWith_85 hK4 hw)
      · refine V_iconst (v := 1) (by decide) dX10_asksWith_80 ?_
        refine V_goto (tgt := 85) dX10_asksWith_81 (by decide) ?_
        exact V.sub [1, 2, 4] rfl (s_X10_asksWith_85 hK4 hw)
    replace hw := hw.2 c8
    by_cases c9 : l1 = 9
    · replace hw := hw.1 c9
      refine V_tsw 93 dX10_asksWith_21 (by rw [c9]; exact Or.inr ⟨by decide, by decide, _, rfl, by decide⟩) ?_
      refine V_iload_n 3 rfl rfl dX10_asksWith_93 ?_
      refine V_aload 0 rfl dX10_asksWith_94 ?_
      refine X_getI (c := 0) (k := 12) fa_X10_290 rfl dX10_asksWith_96 hw (fun v11 hw => ?_)
      refine X_cS [.int v11] [.int l2] ma_X10_138 (by decide) (by decide) rfl (by simp [cat_i, cat_l, rf_cat]) rfl dX10_asksWith_99 (r_X10_bit _ hw) (k_I (fun v12 h hw => ?_))
      refine V_iadd dX10_asksWith_102 ?_
      refine V_ltI hw (fun x13 hw => ?_)
      refine V_istore_n (i := 2) [(2, .int x13), (4, va_rf v3), (0, va_rf l0), (1, .int l1), (3, .int l3)] rfl (by decide) rfl dX10_asksWith_103 ?_
      refine V_goto (tgt := 118) dX10_asksWith_104 (by decide) ?_
      exact V.sub [2, 3, 0, 4] rfl (s_X10_asksWith_118 hK4 hw)
    replace hw := hw.2 c9
    have hout : l1.toInt < 7 ∨ 9 < l1.toInt := by
      refine sw_out (fun v h1 h2 => ?_)
      rcases (show v = 7 ∨ v = 8 ∨ v = 9 by omega) with rfl | rfl | rfl
      · exact c7
      · exact c8
      · exact c9
    refine V_tsw 107 dX10_asksWith_21 (Or.inl ⟨hout, by decide⟩) ?_
    refine V_iload_n 3 rfl rfl dX10_asksWith_107 ?_
    refine V_aload 0 rfl dX10_asksWith_108 ?_
    refine X_getI (c := 0) (k := 17) fa_X10_322 rfl dX10_asksWith_110 hw (fun v14 hw => ?_)
    refine X_cS [.int v14] [.int l2] ma_X10_138 (by decide) (by decide) rfl (by simp [cat_i, cat_l, rf_cat]) rfl dX10_asksWith_113 (r_X10_bit _ hw) (k_I (fun v15 h hw => ?_))
    refine V_iadd dX10_asksWith_116 ?_
    refine V_ltI hw (fun x16 hw => ?_)
    refine V_istore_n (i := 2) [(2, .int x16), (4, va_rf v3), (0, va_rf l0), (1, .int l1), (3, .int l3)] rfl (by decide) rfl dX10_asksWith_117 ?_
    exact V.sub [2, 3, 0, 4] rfl (s_X10_asksWith_118 hK4 hw)
theorem s_X10_asksWith_4 {l : Launch} {G : Gh} {l0 : Option Nat} {l1 : Int32} {l2 : Int32} {l3 : Int32} {h : Hp} {Q : Int32 → Hp → Prop}  (hw : l_X10_asksWith_4 l0 l1 l2 l3 h Q) : V l G 2 yX10_asksWith cX10_asksWith 5 (some .int) 4 [(0, va_rf l0), (1, .int l1), (2, .int l2), (3, .int l3)] [] h (qI Q) :=
  Lo.ind (P := fun (s : Int32 × Int32) h => V l G 2 yX10_asksWith cX10_asksWith 5 (some .int) 4 [(0, va_rf l0), (1, .int l1), (2, .int s.1), (3, .int s.2)] [] h (qI Q)) (fun K ih s h hw => sb_X10_asksWith_4 (fun l2 l3 h hk => ih (l2, l3) h hk) hw) hw
theorem s_X10_asksWith_0 {l : Launch} {G : Gh} {l0 : Option Nat} {l1 : Int32} {h : Hp} {Q : Int32 → Hp → Prop}  (hw : n_X10_asksWith_0 l0 l1 h Q) : V l G 2 yX10_asksWith cX10_asksWith 5 (some .int) 0 [(0, va_rf l0), (1, .int l1)] [] h (qI Q) := by
  unfold n_X10_asksWith_0 at hw
  refine V_iconst (v := 0) (by decide) dX10_asksWith_0 ?_
  refine V_istore_n (i := 2) [(2, .int 0), (0, va_rf l0), (1, .int l1)] rfl (by decide) rfl dX10_asksWith_1 ?_
  refine V_iconst (v := 0) (by decide) dX10_asksWith_2 ?_
  refine V_istore_n (i := 3) [(3, .int 0), (2, .int 0), (0, va_rf l0), (1, .int l1)] rfl (by decide) rfl dX10_asksWith_3 ?_
  exact V.sub [2, 3, 1, 0] rfl (s_X10_asksWith_4 hw)
theorem r_X10_asksWith {l : Launch} {G : Gh} (l0 : Option Nat) (l1 : Int32) {h : Hp} {Q : Int32 → Hp → Prop} (hw : w_X10_asksWith l0 l1 h Q) : RunQ l G 2 yX10_asksWith cX10_asksWith 5 (some .int) [va_rf l0, .int l1] h (qI Q) :=
  V_run rfl (sl_len _ _ (by simp [cat_i, cat_l, rf_cat])) (V.sub [0, 1] (by simp only [la_r, la_i, la_l, la_n]; rfl) (s_X10_asksWith_0 hw))
def n_X10_refuse_24 (l1 : Int32) (h : Hp) (Q : Int32 → Hp → Prop) : Prop :=
  Q l1 h
def n_X10_refuse_0 (l0 : Option Nat) (l1 : Int32) (h : Hp) (Q : Int32 → Hp → Prop) : Prop :=
  lt ((-1) - l1) fun x1 =>
  w_X10_isIn x1 0 6 h <| fun v2 h =>
  br (v2 = 0) (
    n_X10_refuse_24 l1 h Q) (
    gR h l0 11 1286 fun v3 =>
    ldI h v3 x1 fun v4 =>
    stI h v3 x1 (v4 + 1) fun h =>
    n_X10_refuse_24 l1 h Q)
def w_X10_refuse (l0 : Option Nat) (l1 : Int32) (h : Hp) (Q : Int32 → Hp → Prop) : Prop := n_X10_refuse_0 l0 l1 h Q
theorem s_X10_refuse_24 {l : Launch} {G : Gh} {l1 : Int32} {h : Hp} {Q : Int32 → Hp → Prop}  (hw : n_X10_refuse_24 l1 h Q) : V l G 2 yX10_refuse cX10_refuse 3 (some .int) 24 [(1, .int l1)] [] h (qI Q) := by
  unfold n_X10_refuse_24 at hw
  refine V_iload_n 0 rfl rfl dX10_refuse_24 ?_
  exact V_iret rfl dX10_refuse_25 ⟨_, rfl, hw⟩
theorem s_X10_refuse_0 {l : Launch} {G : Gh} {l0 : Option Nat} {l1 : Int32} {h : Hp} {Q : Int32 → Hp → Prop}  (hw : n_X10_refuse_0 l0 l1 h Q) : V l G 2 yX10_refuse cX10_refuse 3 (some .int) 0 [(0, va_rf l0), (1, .int l1)] [] h (qI Q) := by
  unfold n_X10_refuse_0 at hw
  refine V_iconst (v := (-1)) (by decide) dX10_refuse_0 ?_
  refine V_iload_n 1 rfl rfl dX10_refuse_1 ?_
  refine V_isub dX10_refuse_2 ?_
  refine V_ltI hw (fun x1 hw => ?_)
  refine V_istore_n (i := 2) [(2, .int x1), (0, va_rf l0), (1, .int l1)] rfl (by decide) rfl dX10_refuse_3 ?_
  refine V_iload_n 0 rfl rfl dX10_refuse_4 ?_
  refine V_iconst (v := 0) (by decide) dX10_refuse_5 ?_
  refine V_bipush (v := 6) (by decide) dX10_refuse_6 ?_
  refine X_cS [.int x1, .int 0, .int 6] [] ma_X10_99 (by decide) (by decide) rfl (by simp [cat_i, cat_l, rf_cat]) rfl dX10_refuse_8 (r_X10_isIn _ _ _ hw) (k_I (fun v2 h hw => ?_))
  refine V_if_eq (tgt := 24) dX10_refuse_11 (by decide) hw (fun hw => ?_) (fun hw => ?_)
  · exact V.sub [2] rfl (s_X10_refuse_24 hw)
  · refine V_aload_n 1 rfl rfl dX10_refuse_14 ?_
    refine X_getR (c := 10) (k := 6) fa_X10_45 rfl dX10_refuse_15 hw (fun v3 hw => ?_)
    refine V_iload_n 0 rfl rfl dX10_refuse_18 ?_
    refine V_dup2 rfl (rf_cat _) dX10_refuse_19 ?_
    refine X_ldI dX10_refuse_20 hw (fun v4 hw => ?_)
    refine V_iconst (v := 1) (by decide) dX10_refuse_21 ?_
    refine V_iadd dX10_refuse_22 ?_
    refine X_stI dX10_refuse_23 hw (fun h hw => ?_)
    exact V.sub [2] rfl (s_X10_refuse_24 hw)
theorem r_X10_refuse {l : Launch} {G : Gh} (l0 : Option Nat) (l1 : Int32) {h : Hp} {Q : Int32 → Hp → Prop} (hw : w_X10_refuse l0 l1 h Q) : RunQ l G 2 yX10_refuse cX10_refuse 3 (some .int) [va_rf l0, .int l1] h (qI Q) :=
  V_run rfl (sl_len _ _ (by simp [cat_i, cat_l, rf_cat])) (V.sub [0, 1] (by simp only [la_r, la_i, la_l, la_n]; rfl) (s_X10_refuse_0 hw))
def n_X2_clear_0 (l0 : Option Nat) (h : Hp) (Q : Hp → Prop) : Prop :=
  pI h l0 3 259 0 fun h =>
  pI h l0 3 260 0 fun h =>
  Q h
def w_X2_clear (l0 : Option Nat) (h : Hp) (Q : Hp → Prop) : Prop := n_X2_clear_0 l0 h Q
theorem s_X2_clear_0 {l : Launch} {G : Gh} {l0 : Option Nat} {h : Hp} {Q : Hp → Prop}  (hw : n_X2_clear_0 l0 h Q) : V l G 1 yX2_clear cX2_clear 1 none 0 [(0, va_rf l0)] [] h (qV Q) := by
  unfold n_X2_clear_0 at hw
  refine V_aload_n 0 rfl rfl dX2_clear_0 ?_
  refine V_iconst (v := 0) (by decide) dX2_clear_1 ?_
  refine X_putI (c := 2) (k := 3) fa_X2_24 (Or.inl rfl) rfl dX2_clear_2 hw (fun h hw => ?_)
  refine V_aload_n 0 rfl rfl dX2_clear_5 ?_
  refine V_iconst (v := 0) (by decide) dX2_clear_6 ?_
  refine X_putI (c := 2) (k := 4) fa_X2_28 (Or.inl rfl) rfl dX2_clear_7 hw (fun h hw => ?_)
  exact V_vret rfl dX2_clear_10 ⟨rfl, hw⟩
theorem r_X2_clear {l : Launch} {G : Gh} (l0 : Option Nat) {h : Hp} {Q : Hp → Prop} (hw : w_X2_clear l0 h Q) : RunQ l G 1 yX2_clear cX2_clear 1 none [va_rf l0] h (qV Q) :=
  V_run rfl (sl_len _ _ (by simp [cat_i, cat_l, rf_cat])) (V.sub [0] (by simp only [la_r, la_i, la_l, la_n]; rfl) (s_X2_clear_0 hw))
def n_X2_add_55 (l0 : Option Nat) (l1 : Option Nat) (l2 : Int32) (h : Hp) (Q : Hp → Prop) : Prop :=
  gR h l0 3 256 fun v3 =>
  stR h v3 l2 l1 fun h =>
  gI h l0 3 259 fun v4 =>
  pI h l0 3 259 (v4 + 1) fun h =>
  Q h
def b_X2_add_16 (l0 : Option Nat) (l1 : Option Nat) (l2 : Int32) (h : Hp) (Q : Hp → Prop) (K16 : Int32 → Hp → Prop) : Prop :=
  br (l2 ≤ 0) (
    n_X2_add_55 l0 l1 l2 h Q) (
    gR h l0 3 256 fun v5 =>
    ldR h v5 (l2 - 1) fun v6 =>
    oV h v6 1 <| w_X0_comesAfter v6 l1 h <| fun v7 h =>
    br (v7 = 0) (
      n_X2_add_55 l0 l1 l2 h Q) (
      gR h l0 3 256 fun v8 =>
      gR h l0 3 256 fun v9 =>
      ldR h v9 (l2 - 1) fun v10 =>
      stR h v8 l2 v10 fun h =>
      lt (l2 + (-1)) fun x11 =>
      K16 x11 h))
def l_X2_add_16 (l0 : Option Nat) (l1 : Option Nat) (l2 : Int32) (h : Hp) (Q : Hp → Prop) : Prop :=
  Lo (fun (K : Int32 → Hp → Prop) s h => b_X2_add_16 l0 l1 s h Q (fun l2 h => K (l2) h)) (l2) h
def n_X2_add_0 (l0 : Option Nat) (l1 : Option Nat) (h : Hp) (Q : Hp → Prop) : Prop :=
  gI h l0 3 259 fun v1 =>
  br (v1 < 160) (
    gI h l0 3 259 fun v2 =>
    l_X2_add_16 l0 l1 v2 h Q) (
    Q h)
def w_X2_add (l0 : Option Nat) (l1 : Option Nat) (h : Hp) (Q : Hp → Prop) : Prop := n_X2_add_0 l0 l1 h Q
theorem s_X2_add_55 {l : Launch} {G : Gh} {l0 : Option Nat} {l1 : Option Nat} {l2 : Int32} {h : Hp} {Q : Hp → Prop}  (hw : n_X2_add_55 l0 l1 l2 h Q) : V l G 2 yX2_add cX2_add 3 none 55 [(0, va_rf l0), (1, va_rf l1), (2, .int l2)] [] h (qV Q) := by
  unfold n_X2_add_55 at hw
  refine V_aload_n 0 rfl rfl dX2_add_55 ?_
  refine X_getR (c := 2) (k := 0) fa_X2_11 rfl dX2_add_56 hw (fun v3 hw => ?_)
  refine V_iload_n 2 rfl rfl dX2_add_59 ?_
  refine V_aload_n 1 rfl rfl dX2_add_60 ?_
  refine X_stR dX2_add_61 hw (fun h hw => ?_)
  refine V_aload_n 0 rfl rfl dX2_add_62 ?_
  refine V_dup (rf_cat _) dX2_add_63 ?_
  refine X_getI (c := 2) (k := 3) fa_X2_24 rfl dX2_add_64 hw (fun v4 hw => ?_)
  refine V_iconst (v := 1) (by decide) dX2_add_67 ?_
  refine V_iadd dX2_add_68 ?_
  refine X_putI (c := 2) (k := 3) fa_X2_24 (Or.inl rfl) rfl dX2_add_69 hw (fun h hw => ?_)
  exact V_vret rfl dX2_add_72 ⟨rfl, hw⟩
theorem sb_X2_add_16 {l : Launch} {G : Gh} {l0 : Option Nat} {l1 : Option Nat} {l2 : Int32} {h : Hp} {Q : Hp → Prop} {K16 : Int32 → Hp → Prop} (hK16 : ∀ (l2 : Int32) (h : Hp), K16 l2 h → V l G 2 yX2_add cX2_add 3 none 16 [(0, va_rf l0), (1, va_rf l1), (2, .int l2)] [] h (qV Q)) (hw : b_X2_add_16 l0 l1 l2 h Q K16) : V l G 2 yX2_add cX2_add 3 none 16 [(0, va_rf l0), (1, va_rf l1), (2, .int l2)] [] h (qV Q) := by
  unfold b_X2_add_16 at hw
  refine V_iload_n 2 rfl rfl dX2_add_16 ?_
  refine V_if_le (tgt := 55) dX2_add_17 (by decide) hw (fun hw => ?_) (fun hw => ?_)
  · exact V.sub [0, 1, 2] rfl (s_X2_add_55 hw)
  · refine V_aload_n 0 rfl rfl dX2_add_20 ?_
    refine X_getR (c := 2) (k := 0) fa_X2_11 rfl dX2_add_21 hw (fun v5 hw => ?_)
    refine V_iload_n 2 rfl rfl dX2_add_24 ?_
    refine V_iconst (v := 1) (by decide) dX2_add_25 ?_
    refine V_isub dX2_add_26 ?_
    refine X_ldR dX2_add_27 hw (fun v6 hw => ?_)
    refine V_aload_n 1 rfl rfl dX2_add_28 ?_
    refine X_cV 0 [va_rf l1] [] ma_X2_31 (by decide) rfl (by decide) (by decide) rfl (by simp [cat_i, cat_l, rf_cat]) rfl dX2_add_29 hw (r_X0_comesAfter _ _) (k_I (fun v7 h hw => ?_))
    refine V_if_eq (tgt := 55) dX2_add_32 (by decide) hw (fun hw => ?_) (fun hw => ?_)
    · exact V.sub [0, 1, 2] rfl (s_X2_add_55 hw)
    · refine V_aload_n 0 rfl rfl dX2_add_35 ?_
      refine X_getR (c := 2) (k := 0) fa_X2_11 rfl dX2_add_36 hw (fun v8 hw => ?_)
      refine V_iload_n 2 rfl rfl dX2_add_39 ?_
      refine V_aload_n 0 rfl rfl dX2_add_40 ?_
      refine X_getR (c := 2) (k := 0) fa_X2_11 rfl dX2_add_41 hw (fun v9 hw => ?_)
      refine V_iload_n 2 rfl rfl dX2_add_44 ?_
      refine V_iconst (v := 1) (by decide) dX2_add_45 ?_
      refine V_isub dX2_add_46 ?_
      refine X_ldR dX2_add_47 hw (fun v10 hw => ?_)
      refine X_stR dX2_add_48 hw (fun h hw => ?_)
      refine V_iincL (n := (-1)) 2 (fun z => [(2, .int z), (0, va_rf l0), (1, va_rf l1)]) rfl (by rfl) (by decide) (fun _ => (by simp [List.filter_cons, rf_cat, cat_i, cat_l])) dX2_add_49 hw (fun x11 hw => ?_)
      refine V_goto (tgt := 16) dX2_add_52 (by decide) ?_
      exact V.sub [1, 2, 0] rfl (hK16 _ _ hw)
theorem s_X2_add_16 {l : Launch} {G : Gh} {l0 : Option Nat} {l1 : Option Nat} {l2 : Int32} {h : Hp} {Q : Hp → Prop}  (hw : l_X2_add_16 l0 l1 l2 h Q) : V l G 2 yX2_add cX2_add 3 none 16 [(0, va_rf l0), (1, va_rf l1), (2, .int l2)] [] h (qV Q) :=
  Lo.ind (P := fun (s : Int32) h => V l G 2 yX2_add cX2_add 3 none 16 [(0, va_rf l0), (1, va_rf l1), (2, .int s)] [] h (qV Q)) (fun K ih s h hw => sb_X2_add_16 (fun l2 h hk => ih (l2) h hk) hw) hw
theorem s_X2_add_0 {l : Launch} {G : Gh} {l0 : Option Nat} {l1 : Option Nat} {h : Hp} {Q : Hp → Prop}  (hw : n_X2_add_0 l0 l1 h Q) : V l G 2 yX2_add cX2_add 3 none 0 [(0, va_rf l0), (1, va_rf l1)] [] h (qV Q) := by
  unfold n_X2_add_0 at hw
  refine V_aload_n 0 rfl rfl dX2_add_0 ?_
  refine X_getI (c := 2) (k := 3) fa_X2_24 rfl dX2_add_1 hw (fun v1 hw => ?_)
  refine V_sipush (v := 160) (by decide) dX2_add_4 ?_
  refine V_icmp_lt (tgt := 11) dX2_add_7 (by decide) hw (fun hw => ?_) (fun hw => ?_)
  · refine V_aload_n 0 rfl rfl dX2_add_11 ?_
    refine X_getI (c := 2) (k := 3) fa_X2_24 rfl dX2_add_12 hw (fun v2 hw => ?_)
    refine V_istore_n (i := 2) [(2, .int v2), (0, va_rf l0), (1, va_rf l1)] rfl (by decide) (by simp [List.filter_cons, rf_cat, cat_i, cat_l]) dX2_add_15 ?_
    exact V.sub [1, 2, 0] rfl (s_X2_add_16 hw)
  · exact V_vret rfl dX2_add_10 ⟨rfl, hw⟩
theorem r_X2_add {l : Launch} {G : Gh} (l0 : Option Nat) (l1 : Option Nat) {h : Hp} {Q : Hp → Prop} (hw : w_X2_add l0 l1 h Q) : RunQ l G 2 yX2_add cX2_add 3 none [va_rf l0, va_rf l1] h (qV Q) :=
  V_run rfl (sl_len _ _ (by simp [cat_i, cat_l, rf_cat])) (V.sub [0, 1] (by simp only [la_r, la_i, la_l, la_n]; rfl) (s_X2_add_0 hw))
def n_X2_findStarts_73 (l0 : Option Nat) (l1 : Int32) (h : Hp) (Q : Hp → Prop) (K7 : Int32 → Hp → Prop) : Prop :=
  lt (l1 + 1) fun x8 =>
  K7 x8 h
def n_X2_findStarts_53 (l0 : Option Nat) (l1 : Int32) (h : Hp) (Q : Hp → Prop) (K7 : Int32 → Hp → Prop) : Prop :=
  gR h l0 3 257 fun v5 =>
  gI h l0 3 260 fun v6 =>
  stI h v5 v6 l1 fun h =>
  gI h l0 3 260 fun v7 =>
  pI h l0 3 260 (v7 + 1) fun h =>
  n_X2_findStarts_73 l0 l1 h Q K7
def b_X2_findStarts_7 (l0 : Option Nat) (l1 : Int32) (h : Hp) (Q : Hp → Prop) (K7 : Int32 → Hp → Prop) : Prop :=
  gI h l0 3 259 fun v1 =>
  br (v1 ≤ l1) (
    gR h l0 3 257 fun v2 =>
    gI h l0 3 260 fun v3 =>
    gI h l0 3 259 fun v4 =>
    stI h v2 v3 v4 fun h =>
    Q h) (
    br (l1 = 0) (
      n_X2_findStarts_53 l0 l1 h Q K7) (
      gR h l0 3 256 fun v9 =>
      ldR h v9 l1 fun v10 =>
      gR h l0 3 256 fun v11 =>
      ldR h v11 (l1 - 1) fun v12 =>
      gI h v12 1 2 fun v13 =>
      gR h l0 3 256 fun v14 =>
      ldR h v14 (l1 - 1) fun v15 =>
      gI h v15 1 3 fun v16 =>
      oV h v10 1 <| w_X0_isFor v10 v13 v16 h <| fun v17 h =>
      br (v17 = 0) (
        n_X2_findStarts_53 l0 l1 h Q K7) (
        n_X2_findStarts_73 l0 l1 h Q K7)))
def l_X2_findStarts_7 (l0 : Option Nat) (l1 : Int32) (h : Hp) (Q : Hp → Prop) : Prop :=
  Lo (fun (K : Int32 → Hp → Prop) s h => b_X2_findStarts_7 l0 s h Q (fun l1 h => K (l1) h)) (l1) h
def n_X2_findStarts_0 (l0 : Option Nat) (h : Hp) (Q : Hp → Prop) : Prop :=
  pI h l0 3 260 0 fun h =>
  l_X2_findStarts_7 l0 0 h Q
def w_X2_findStarts (l0 : Option Nat) (h : Hp) (Q : Hp → Prop) : Prop := n_X2_findStarts_0 l0 h Q
theorem s_X2_findStarts_73 {l : Launch} {G : Gh} {l0 : Option Nat} {l1 : Int32} {h : Hp} {Q : Hp → Prop} {K7 : Int32 → Hp → Prop} (hK7 : ∀ (l1 : Int32) (h : Hp), K7 l1 h → V l G 2 yX2_findStarts cX2_findStarts 2 none 7 [(0, va_rf l0), (1, .int l1)] [] h (qV Q)) (hw : n_X2_findStarts_73 l0 l1 h Q K7) : V l G 2 yX2_findStarts cX2_findStarts 2 none 73 [(0, va_rf l0), (1, .int l1)] [] h (qV Q) := by
  unfold n_X2_findStarts_73 at hw
  refine V_iincL (n := 1) 1 (fun z => [(1, .int z), (0, va_rf l0)]) rfl (by rfl) (by decide) (fun _ => (by simp [List.filter_cons, rf_cat, cat_i, cat_l])) dX2_findStarts_73 hw (fun x8 hw => ?_)
  refine V_goto (tgt := 7) dX2_findStarts_76 (by decide) ?_
  exact V.sub [1, 0] rfl (hK7 _ _ hw)
theorem s_X2_findStarts_53 {l : Launch} {G : Gh} {l0 : Option Nat} {l1 : Int32} {h : Hp} {Q : Hp → Prop} {K7 : Int32 → Hp → Prop} (hK7 : ∀ (l1 : Int32) (h : Hp), K7 l1 h → V l G 2 yX2_findStarts cX2_findStarts 2 none 7 [(0, va_rf l0), (1, .int l1)] [] h (qV Q)) (hw : n_X2_findStarts_53 l0 l1 h Q K7) : V l G 2 yX2_findStarts cX2_findStarts 2 none 53 [(0, va_rf l0), (1, .int l1)] [] h (qV Q) := by
  unfold n_X2_findStarts_53 at hw
  refine V_aload_n 0 rfl rfl dX2_findStarts_53 ?_
  refine X_getR (c := 2) (k := 1) fa_X2_17 rfl dX2_findStarts_54 hw (fun v5 hw => ?_)
  refine V_aload_n 0 rfl rfl dX2_findStarts_57 ?_
  refine X_getI (c := 2) (k := 4) fa_X2_28 rfl dX2_findStarts_58 hw (fun v6 hw => ?_)
  refine V_iload_n 1 rfl rfl dX2_findStarts_61 ?_
  refine X_stI dX2_findStarts_62 hw (fun h hw => ?_)
  refine V_aload_n 0 rfl rfl dX2_findStarts_63 ?_
  refine V_dup (rf_cat _) dX2_findStarts_64 ?_
  refine X_getI (c := 2) (k := 4) fa_X2_28 rfl dX2_findStarts_65 hw (fun v7 hw => ?_)
  refine V_iconst (v := 1) (by decide) dX2_findStarts_68 ?_
  refine V_iadd dX2_findStarts_69 ?_
  refine X_putI (c := 2) (k := 4) fa_X2_28 (Or.inl rfl) rfl dX2_findStarts_70 hw (fun h hw => ?_)
  exact V.sub [0, 1] rfl (s_X2_findStarts_73 hK7 hw)
theorem sb_X2_findStarts_7 {l : Launch} {G : Gh} {l0 : Option Nat} {l1 : Int32} {h : Hp} {Q : Hp → Prop} {K7 : Int32 → Hp → Prop} (hK7 : ∀ (l1 : Int32) (h : Hp), K7 l1 h → V l G 2 yX2_findStarts cX2_findStarts 2 none 7 [(0, va_rf l0), (1, .int l1)] [] h (qV Q)) (hw : b_X2_findStarts_7 l0 l1 h Q K7) : V l G 2 yX2_findStarts cX2_findStarts 2 none 7 [(0, va_rf l0), (1, .int l1)] [] h (qV Q) := by
  unfold b_X2_findStarts_7 at hw
  refine V_iload_n 1 rfl rfl dX2_findStarts_7 ?_
  refine V_aload_n 0 rfl rfl dX2_findStarts_8 ?_
  refine X_getI (c := 2) (k := 3) fa_X2_24 rfl dX2_findStarts_9 hw (fun v1 hw => ?_)
  refine V_icmp_ge (tgt := 79) dX2_findStarts_12 (by decide) hw (fun hw => ?_) (fun hw => ?_)
  · refine V_aload_n 0 rfl rfl dX2_findStarts_79 ?_
    refine X_getR (c := 2) (k := 1) fa_X2_17 rfl dX2_findStarts_80 hw (fun v2 hw => ?_)
    refine V_aload_n 0 rfl rfl dX2_findStarts_83 ?_
    refine X_getI (c := 2) (k := 4) fa_X2_28 rfl dX2_findStarts_84 hw (fun v3 hw => ?_)
    refine V_aload_n 0 rfl rfl dX2_findStarts_87 ?_
    refine X_getI (c := 2) (k := 3) fa_X2_24 rfl dX2_findStarts_88 hw (fun v4 hw => ?_)
    refine X_stI dX2_findStarts_91 hw (fun h hw => ?_)
    exact V_vret rfl dX2_findStarts_92 ⟨rfl, hw⟩
  · refine V_iload_n 1 rfl rfl dX2_findStarts_15 ?_
    refine V_if_eq (tgt := 53) dX2_findStarts_16 (by decide) hw (fun hw => ?_) (fun hw => ?_)
    · exact V.sub [0, 1] rfl (s_X2_findStarts_53 hK7 hw)
    · refine V_aload_n 0 rfl rfl dX2_findStarts_19 ?_
      refine X_getR (c := 2) (k := 0) fa_X2_11 rfl dX2_findStarts_20 hw (fun v9 hw => ?_)
      refine V_iload_n 1 rfl rfl dX2_findStarts_23 ?_
      refine X_ldR dX2_findStarts_24 hw (fun v10 hw => ?_)
      refine V_aload_n 0 rfl rfl dX2_findStarts_25 ?_
      refine X_getR (c := 2) (k := 0) fa_X2_11 rfl dX2_findStarts_26 hw (fun v11 hw => ?_)
      refine V_iload_n 1 rfl rfl dX2_findStarts_29 ?_
      refine V_iconst (v := 1) (by decide) dX2_findStarts_30 ?_
      refine V_isub dX2_findStarts_31 ?_
      refine X_ldR dX2_findStarts_32 hw (fun v12 hw => ?_)
      refine X_getI (c := 0) (k := 2) fa_X2_35 rfl dX2_findStarts_33 hw (fun v13 hw => ?_)
      refine V_aload_n 0 rfl rfl dX2_findStarts_36 ?_
      refine X_getR (c := 2) (k := 0) fa_X2_11 rfl dX2_findStarts_37 hw (fun v14 hw => ?_)
      refine V_iload_n 1 rfl rfl dX2_findStarts_40 ?_
      refine V_iconst (v := 1) (by decide) dX2_findStarts_41 ?_
      refine V_isub dX2_findStarts_42 ?_
      refine X_ldR dX2_findStarts_43 hw (fun v15 hw => ?_)
      refine X_getI (c := 0) (k := 3) fa_X2_38 rfl dX2_findStarts_44 hw (fun v16 hw => ?_)
      refine X_cV 0 [.int v13, .int v16] [] ma_X2_41 (by decide) rfl (by decide) (by decide) rfl (by simp [cat_i, cat_l, rf_cat]) rfl dX2_findStarts_47 hw (r_X0_isFor _ _ _) (k_I (fun v17 h hw => ?_))
      refine V_if_ne (tgt := 73) dX2_findStarts_50 (by decide) hw (fun hw => ?_) (fun hw => ?_)
      · exact V.sub [0, 1] rfl (s_X2_findStarts_53 hK7 hw)
      · exact V.sub [0, 1] rfl (s_X2_findStarts_73 hK7 hw)
theorem s_X2_findStarts_7 {l : Launch} {G : Gh} {l0 : Option Nat} {l1 : Int32} {h : Hp} {Q : Hp → Prop}  (hw : l_X2_findStarts_7 l0 l1 h Q) : V l G 2 yX2_findStarts cX2_findStarts 2 none 7 [(0, va_rf l0), (1, .int l1)] [] h (qV Q) :=
  Lo.ind (P := fun (s : Int32) h => V l G 2 yX2_findStarts cX2_findStarts 2 none 7 [(0, va_rf l0), (1, .int s)] [] h (qV Q)) (fun K ih s h hw => sb_X2_findStarts_7 (fun l1 h hk => ih (l1) h hk) hw) hw
theorem s_X2_findStarts_0 {l : Launch} {G : Gh} {l0 : Option Nat} {h : Hp} {Q : Hp → Prop}  (hw : n_X2_findStarts_0 l0 h Q) : V l G 2 yX2_findStarts cX2_findStarts 2 none 0 [(0, va_rf l0)] [] h (qV Q) := by
  unfold n_X2_findStarts_0 at hw
  refine V_aload_n 0 rfl rfl dX2_findStarts_0 ?_
  refine V_iconst (v := 0) (by decide) dX2_findStarts_1 ?_
  refine X_putI (c := 2) (k := 4) fa_X2_28 (Or.inl rfl) rfl dX2_findStarts_2 hw (fun h hw => ?_)
  refine V_iconst (v := 0) (by decide) dX2_findStarts_5 ?_
  refine V_istore_n (i := 1) [(1, .int 0), (0, va_rf l0)] rfl (by decide) (by simp [List.filter_cons, rf_cat, cat_i, cat_l]) dX2_findStarts_6 ?_
  exact V.sub [1, 0] rfl (s_X2_findStarts_7 hw)
theorem r_X2_findStarts {l : Launch} {G : Gh} (l0 : Option Nat) {h : Hp} {Q : Hp → Prop} (hw : w_X2_findStarts l0 h Q) : RunQ l G 2 yX2_findStarts cX2_findStarts 2 none [va_rf l0] h (qV Q) :=
  V_run rfl (sl_len _ _ (by simp [cat_i, cat_l, rf_cat])) (V.sub [0] (by simp only [la_r, la_i, la_l, la_n]; rfl) (s_X2_findStarts_0 hw))
def n_X10_gather_58 (l0 : Option Nat) (l1 : Option Nat) (l2 : Int32) (h : Hp) (Q : Hp → Prop) (K9 : Int32 → Hp → Prop) : Prop :=
  lt (l2 + 1) fun x13 =>
  K9 x13 h
def b_X10_gather_9 (l0 : Option Nat) (l1 : Option Nat) (l2 : Int32) (h : Hp) (Q : Hp → Prop) (K9 : Int32 → Hp → Prop) : Prop :=
  gI h l0 11 1293 fun v3 =>
  br (v3 ≤ l2) (
    gR h l0 11 1289 fun v4 =>
    oV h v4 3 <| w_X2_findStarts v4 h <| fun h =>
    Q h) (
    gR h l0 11 1282 fun v6 =>
    ldR h v6 l2 fun v7 =>
    gR h v7 1 1 fun v8 =>
    gR h v8 6 642 fun v9 =>
    br (v9 = l1) (
      gR h l0 11 1282 fun v10 =>
      ldR h v10 l2 fun v11 =>
      oV h v11 1 <| w_X0_stands v11 h <| fun v12 h =>
      br (v12 = 0) (
        n_X10_gather_58 l0 l1 l2 h Q K9) (
        gR h l0 11 1289 fun v14 =>
        gR h l0 11 1282 fun v15 =>
        ldR h v15 l2 fun v16 =>
        oV h v14 3 <| w_X2_add v14 v16 h <| fun h =>
        n_X10_gather_58 l0 l1 l2 h Q K9)) (
      n_X10_gather_58 l0 l1 l2 h Q K9))
def l_X10_gather_9 (l0 : Option Nat) (l1 : Option Nat) (l2 : Int32) (h : Hp) (Q : Hp → Prop) : Prop :=
  Lo (fun (K : Int32 → Hp → Prop) s h => b_X10_gather_9 l0 l1 s h Q (fun l2 h => K (l2) h)) (l2) h
def n_X10_gather_0 (l0 : Option Nat) (l1 : Option Nat) (h : Hp) (Q : Hp → Prop) : Prop :=
  gR h l0 11 1289 fun v1 =>
  oV h v1 3 <| w_X2_clear v1 h <| fun h =>
  l_X10_gather_9 l0 l1 0 h Q
def w_X10_gather (l0 : Option Nat) (l1 : Option Nat) (h : Hp) (Q : Hp → Prop) : Prop := n_X10_gather_0 l0 l1 h Q
theorem s_X10_gather_58 {l : Launch} {G : Gh} {l0 : Option Nat} {l1 : Option Nat} {l2 : Int32} {h : Hp} {Q : Hp → Prop} {K9 : Int32 → Hp → Prop} (hK9 : ∀ (l2 : Int32) (h : Hp), K9 l2 h → V l G 3 yX10_gather cX10_gather 3 none 9 [(0, va_rf l0), (1, va_rf l1), (2, .int l2)] [] h (qV Q)) (hw : n_X10_gather_58 l0 l1 l2 h Q K9) : V l G 3 yX10_gather cX10_gather 3 none 58 [(0, va_rf l0), (1, va_rf l1), (2, .int l2)] [] h (qV Q) := by
  unfold n_X10_gather_58 at hw
  refine V_iincL (n := 1) 2 (fun z => [(2, .int z), (0, va_rf l0), (1, va_rf l1)]) rfl (by rfl) (by decide) (fun _ => (by simp [List.filter_cons, rf_cat, cat_i, cat_l])) dX10_gather_58 hw (fun x13 hw => ?_)
  refine V_goto (tgt := 9) dX10_gather_61 (by decide) ?_
  exact V.sub [1, 2, 0] rfl (hK9 _ _ hw)
theorem sb_X10_gather_9 {l : Launch} {G : Gh} {l0 : Option Nat} {l1 : Option Nat} {l2 : Int32} {h : Hp} {Q : Hp → Prop} {K9 : Int32 → Hp → Prop} (hK9 : ∀ (l2 : Int32) (h : Hp), K9 l2 h → V l G 3 yX10_gather cX10_gather 3 none 9 [(0, va_rf l0), (1, va_rf l1), (2, .int l2)] [] h (qV Q)) (hw : b_X10_gather_9 l0 l1 l2 h Q K9) : V l G 3 yX10_gather cX10_gather 3 none 9 [(0, va_rf l0), (1, va_rf l1), (2, .int l2)] [] h (qV Q) := by
  unfold b_X10_gather_9 at hw
  refine V_iload_n 2 rfl rfl dX10_gather_9 ?_
  refine V_aload_n 0 rfl rfl dX10_gather_10 ?_
  refine X_getI (c := 10) (k := 13) fa_X10_249 rfl dX10_gather_11 hw (fun v3 hw => ?_)
  refine V_icmp_ge (tgt := 64) dX10_gather_14 (by decide) hw (fun hw => ?_) (fun hw => ?_)
  · refine V_aload_n 0 rfl rfl dX10_gather_64 ?_
    refine X_getR (c := 10) (k := 9) fa_X10_62 rfl dX10_gather_65 hw (fun v4 hw => ?_)
    refine X_cV 2 [] [] ma_X10_392 (by decide) rfl (by decide) (by decide) rfl (by simp [cat_i, cat_l, rf_cat]) rfl dX10_gather_68 hw (r_X2_findStarts _) (k_V (fun h hw => ?_))
    exact V_vret rfl dX10_gather_71 ⟨rfl, hw⟩
  · refine V_aload_n 0 rfl rfl dX10_gather_17 ?_
    refine X_getR (c := 10) (k := 2) fa_X10_23 rfl dX10_gather_18 hw (fun v6 hw => ?_)
    refine V_iload_n 2 rfl rfl dX10_gather_21 ?_
    refine X_ldR dX10_gather_22 hw (fun v7 hw => ?_)
    refine X_getR (c := 0) (k := 1) fa_X10_255 rfl dX10_gather_23 hw (fun v8 hw => ?_)
    refine X_getR (c := 5) (k := 2) fa_X10_117 rfl dX10_gather_26 hw (fun v9 hw => ?_)
    refine V_aload_n 1 rfl rfl dX10_gather_29 ?_
    refine V_acmp_ne (tgt := 58) dX10_gather_30 (by decide) hw (fun hw => ?_) (fun hw => ?_)
    · refine V_aload_n 0 rfl rfl dX10_gather_33 ?_
      refine X_getR (c := 10) (k := 2) fa_X10_23 rfl dX10_gather_34 hw (fun v10 hw => ?_)
      refine V_iload_n 2 rfl rfl dX10_gather_37 ?_
      refine X_ldR dX10_gather_38 hw (fun v11 hw => ?_)
      refine X_cV 0 [] [] ma_X10_300 (by decide) rfl (by decide) (by decide) rfl (by simp [cat_i, cat_l, rf_cat]) rfl dX10_gather_39 hw (r_X0_stands _) (k_I (fun v12 h hw => ?_))
      refine V_if_eq (tgt := 58) dX10_gather_42 (by decide) hw (fun hw => ?_) (fun hw => ?_)
      · exact V.sub [0, 1, 2] rfl (s_X10_gather_58 hK9 hw)
      · refine V_aload_n 0 rfl rfl dX10_gather_45 ?_
        refine X_getR (c := 10) (k := 9) fa_X10_62 rfl dX10_gather_46 hw (fun v14 hw => ?_)
        refine V_aload_n 0 rfl rfl dX10_gather_49 ?_
        refine X_getR (c := 10) (k := 2) fa_X10_23 rfl dX10_gather_50 hw (fun v15 hw => ?_)
        refine V_iload_n 2 rfl rfl dX10_gather_53 ?_
        refine X_ldR dX10_gather_54 hw (fun v16 hw => ?_)
        refine X_cV 2 [va_rf v16] [] ma_X10_389 (by decide) rfl (by decide) (by decide) rfl (by simp [cat_i, cat_l, rf_cat]) rfl dX10_gather_55 hw (r_X2_add _ _) (k_V (fun h hw => ?_))
        exact V.sub [0, 1, 2] rfl (s_X10_gather_58 hK9 hw)
    · exact V.sub [0, 1, 2] rfl (s_X10_gather_58 hK9 hw)
theorem s_X10_gather_9 {l : Launch} {G : Gh} {l0 : Option Nat} {l1 : Option Nat} {l2 : Int32} {h : Hp} {Q : Hp → Prop}  (hw : l_X10_gather_9 l0 l1 l2 h Q) : V l G 3 yX10_gather cX10_gather 3 none 9 [(0, va_rf l0), (1, va_rf l1), (2, .int l2)] [] h (qV Q) :=
  Lo.ind (P := fun (s : Int32) h => V l G 3 yX10_gather cX10_gather 3 none 9 [(0, va_rf l0), (1, va_rf l1), (2, .int s)] [] h (qV Q)) (fun K ih s h hw => sb_X10_gather_9 (fun l2 h hk => ih (l2) h hk) hw) hw
theorem s_X10_gather_0 {l : Launch} {G : Gh} {l0 : Option Nat} {l1 : Option Nat} {h : Hp} {Q : Hp → Prop}  (hw : n_X10_gather_0 l0 l1 h Q) : V l G 3 yX10_gather cX10_gather 3 none 0 [(0, va_rf l0), (1, va_rf l1)] [] h (qV Q) := by
  unfold n_X10_gather_0 at hw
  refine V_aload_n 0 rfl rfl dX10_gather_0 ?_
  refine X_getR (c := 10) (k := 9) fa_X10_62 rfl dX10_gather_1 hw (fun v1 hw => ?_)
  refine X_cV 2 [] [] ma_X10_386 (by decide) rfl (by decide) (by decide) rfl (by simp [cat_i, cat_l, rf_cat]) rfl dX10_gather_4 hw (r_X2_clear _) (k_V (fun h hw => ?_))
  refine V_iconst (v := 0) (by decide) dX10_gather_7 ?_
  refine V_istore_n (i := 2) [(2, .int 0), (0, va_rf l0), (1, va_rf l1)] rfl (by decide) (by simp [List.filter_cons, rf_cat, cat_i, cat_l]) dX10_gather_8 ?_
  exact V.sub [1, 2, 0] rfl (s_X10_gather_9 hw)
theorem r_X10_gather {l : Launch} {G : Gh} (l0 : Option Nat) (l1 : Option Nat) {h : Hp} {Q : Hp → Prop} (hw : w_X10_gather l0 l1 h Q) : RunQ l G 3 yX10_gather cX10_gather 3 none [va_rf l0, va_rf l1] h (qV Q) :=
  V_run rfl (sl_len _ _ (by simp [cat_i, cat_l, rf_cat])) (V.sub [0, 1] (by simp only [la_r, la_i, la_l, la_n]; rfl) (s_X10_gather_0 hw))
def n_X6_clear_0 (l0 : Option Nat) (h : Hp) (Q : Hp → Prop) : Prop :=
  pI h l0 7 771 0 fun h =>
  Q h
def w_X6_clear (l0 : Option Nat) (h : Hp) (Q : Hp → Prop) : Prop := n_X6_clear_0 l0 h Q
theorem s_X6_clear_0 {l : Launch} {G : Gh} {l0 : Option Nat} {h : Hp} {Q : Hp → Prop}  (hw : n_X6_clear_0 l0 h Q) : V l G 1 yX6_clear cX6_clear 1 none 0 [(0, va_rf l0)] [] h (qV Q) := by
  unfold n_X6_clear_0 at hw
  refine V_aload_n 0 rfl rfl dX6_clear_0 ?_
  refine V_iconst (v := 0) (by decide) dX6_clear_1 ?_
  refine X_putI (c := 6) (k := 3) fa_X6_25 (Or.inl rfl) rfl dX6_clear_2 hw (fun h hw => ?_)
  exact V_vret rfl dX6_clear_5 ⟨rfl, hw⟩
theorem r_X6_clear {l : Launch} {G : Gh} (l0 : Option Nat) {h : Hp} {Q : Hp → Prop} (hw : w_X6_clear l0 h Q) : RunQ l G 1 yX6_clear cX6_clear 1 none [va_rf l0] h (qV Q) :=
  V_run rfl (sl_len _ _ (by simp [cat_i, cat_l, rf_cat])) (V.sub [0] (by simp only [la_r, la_i, la_l, la_n]; rfl) (s_X6_clear_0 hw))
def n_X2_firstOf_0 (l0 : Option Nat) (l1 : Int32) (h : Hp) (Q : Option Nat → Hp → Prop) : Prop :=
  gR h l0 3 256 fun v1 =>
  gR h l0 3 257 fun v2 =>
  ldI h v2 l1 fun v3 =>
  ldR h v1 v3 fun v4 =>
  Q v4 h
def w_X2_firstOf (l0 : Option Nat) (l1 : Int32) (h : Hp) (Q : Option Nat → Hp → Prop) : Prop := n_X2_firstOf_0 l0 l1 h Q
theorem s_X2_firstOf_0 {l : Launch} {G : Gh} {l0 : Option Nat} {l1 : Int32} {h : Hp} {Q : Option Nat → Hp → Prop}  (hw : n_X2_firstOf_0 l0 l1 h Q) : V l G 1 yX2_firstOf cX2_firstOf 2 (some (.object "ComplaintBooks$Ask")) 0 [(0, va_rf l0), (1, .int l1)] [] h (qR Q) := by
  unfold n_X2_firstOf_0 at hw
  refine V_aload_n 0 rfl rfl dX2_firstOf_0 ?_
  refine X_getR (c := 2) (k := 0) fa_X2_11 rfl dX2_firstOf_1 hw (fun v1 hw => ?_)
  refine V_aload_n 0 rfl rfl dX2_firstOf_4 ?_
  refine X_getR (c := 2) (k := 1) fa_X2_17 rfl dX2_firstOf_5 hw (fun v2 hw => ?_)
  refine V_iload_n 1 rfl rfl dX2_firstOf_8 ?_
  refine X_ldI dX2_firstOf_9 hw (fun v3 hw => ?_)
  refine X_ldR dX2_firstOf_10 hw (fun v4 hw => ?_)
  exact V_aret rfl (Or.inl ⟨_, rfl⟩) dX2_firstOf_11 ⟨_, rfl, hw⟩
theorem r_X2_firstOf {l : Launch} {G : Gh} (l0 : Option Nat) (l1 : Int32) {h : Hp} {Q : Option Nat → Hp → Prop} (hw : w_X2_firstOf l0 l1 h Q) : RunQ l G 1 yX2_firstOf cX2_firstOf 2 (some (.object "ComplaintBooks$Ask")) [va_rf l0, .int l1] h (qR Q) :=
  V_run rfl (sl_len _ _ (by simp [cat_i, cat_l, rf_cat])) (V.sub [0, 1] (by simp only [la_r, la_i, la_l, la_n]; rfl) (s_X2_firstOf_0 hw))
def n_X6_add_88 (l0 : Option Nat) (l1 : Int32) (l2 : Int32) (h : Hp) (Q : Hp → Prop) (K32 : Int32 → Hp → Prop) : Prop :=
  lt (l2 + 1) fun x13 =>
  K32 x13 h
def b_X6_add_32 (l0 : Option Nat) (l1 : Int32) (l2 : Int32) (h : Hp) (Q : Hp → Prop) (K32 : Int32 → Hp → Prop) : Prop :=
  gI h l0 7 771 fun v6 =>
  br (v6 ≤ l2) (
    gI h l0 7 771 fun v7 =>
    pI h l0 7 771 (v7 + 1) fun h =>
    Q h) (
    gR h l0 7 768 fun v8 =>
    ldI h v8 l1 fun v9 =>
    gR h l0 7 769 fun v10 =>
    ldI h v10 l2 fun v11 =>
    w_X10_hasBit v9 v11 h <| fun v12 h =>
    br (v12 = 0) (
      n_X6_add_88 l0 l1 l2 h Q K32) (
      gR h l0 7 770 fun v14 =>
      ldI h v14 l2 fun v15 =>
      gI h l0 7 771 fun v16 =>
      stI h v14 l2 (v15 ||| (1 <<< (v16 &&& 31))) fun h =>
      gR h l0 7 770 fun v17 =>
      gI h l0 7 771 fun v18 =>
      ldI h v17 v18 fun v19 =>
      stI h v17 v18 (v19 ||| (1 <<< (l2 &&& 31))) fun h =>
      n_X6_add_88 l0 l1 l2 h Q K32))
def l_X6_add_32 (l0 : Option Nat) (l1 : Int32) (l2 : Int32) (h : Hp) (Q : Hp → Prop) : Prop :=
  Lo (fun (K : Int32 → Hp → Prop) s h => b_X6_add_32 l0 l1 s h Q (fun l2 h => K (l2) h)) (l2) h
def n_X6_add_0 (l0 : Option Nat) (l1 : Int32) (h : Hp) (Q : Hp → Prop) : Prop :=
  gI h l0 7 771 fun v1 =>
  br (v1 < 12) (
    gR h l0 7 769 fun v2 =>
    gI h l0 7 771 fun v3 =>
    stI h v2 v3 l1 fun h =>
    gR h l0 7 770 fun v4 =>
    gI h l0 7 771 fun v5 =>
    stI h v4 v5 0 fun h =>
    l_X6_add_32 l0 l1 0 h Q) (
    Q h)
def w_X6_add (l0 : Option Nat) (l1 : Int32) (h : Hp) (Q : Hp → Prop) : Prop := n_X6_add_0 l0 l1 h Q
theorem s_X6_add_88 {l : Launch} {G : Gh} {l0 : Option Nat} {l1 : Int32} {l2 : Int32} {h : Hp} {Q : Hp → Prop} {K32 : Int32 → Hp → Prop} (hK32 : ∀ (l2 : Int32) (h : Hp), K32 l2 h → V l G 2 yX6_add cX6_add 3 none 32 [(0, va_rf l0), (1, .int l1), (2, .int l2)] [] h (qV Q)) (hw : n_X6_add_88 l0 l1 l2 h Q K32) : V l G 2 yX6_add cX6_add 3 none 88 [(0, va_rf l0), (1, .int l1), (2, .int l2)] [] h (qV Q) := by
  unfold n_X6_add_88 at hw
  refine V_iincL (n := 1) 2 (fun z => [(2, .int z), (0, va_rf l0), (1, .int l1)]) rfl (by rfl) (by decide) (fun _ => rfl) dX6_add_88 hw (fun x13 hw => ?_)
  refine V_goto (tgt := 32) dX6_add_91 (by decide) ?_
  exact V.sub [1, 2, 0] rfl (hK32 _ _ hw)
set_option maxRecDepth 20000 in
theorem sb_X6_add_32 {l : Launch} {G : Gh} {l0 : Option Nat} {l1 : Int32} {l2 : Int32} {h : Hp} {Q : Hp → Prop} {K32 : Int32 → Hp → Prop} (hK32 : ∀ (l2 : Int32) (h : Hp), K32 l2 h → V l G 2 yX6_add cX6_add 3 none 32 [(0, va_rf l0), (1, .int l1), (2, .int l2)] [] h (qV Q)) (hw : b_X6_add_32 l0 l1 l2 h Q K32) : V l G 2 yX6_add cX6_add 3 none 32 [(0, va_rf l0), (1, .int l1), (2, .int l2)] [] h (qV Q) := by
  unfold b_X6_add_32 at hw
  refine V_iload_n 2 rfl rfl dX6_add_32 ?_
  refine V_aload_n 0 rfl rfl dX6_add_33 ?_
  refine X_getI (c := 6) (k := 3) fa_X6_25 rfl dX6_add_34 hw (fun v6 hw => ?_)
  refine V_icmp_ge (tgt := 94) dX6_add_37 (by decide) hw (fun hw => ?_) (fun hw => ?_)
  · refine V_aload_n 0 rfl rfl dX6_add_94 ?_
    refine V_dup (rf_cat _) dX6_add_95 ?_
    refine X_getI (c := 6) (k := 3) fa_X6_25 rfl dX6_add_96 hw (fun v7 hw => ?_)
    refine V_iconst (v := 1) (by decide) dX6_add_99 ?_
    refine V_iadd dX6_add_100 ?_
    refine X_putI (c := 6) (k := 3) fa_X6_25 (Or.inl rfl) rfl dX6_add_101 hw (fun h hw => ?_)
    exact V_vret rfl dX6_add_104 ⟨rfl, hw⟩
  · refine V_aload_n 0 rfl rfl dX6_add_40 ?_
    refine X_getR (c := 6) (k := 0) fa_X6_9 rfl dX6_add_41 hw (fun v8 hw => ?_)
    refine V_iload_n 1 rfl rfl dX6_add_44 ?_
    refine X_ldI dX6_add_45 hw (fun v9 hw => ?_)
    refine V_aload_n 0 rfl rfl dX6_add_46 ?_
    refine X_getR (c := 6) (k := 1) fa_X6_15 rfl dX6_add_47 hw (fun v10 hw => ?_)
    refine V_iload_n 2 rfl rfl dX6_add_50 ?_
    refine X_ldI dX6_add_51 hw (fun v11 hw => ?_)
    refine X_cS [.int v9, .int v11] [] ma_X6_21 (by decide) (by decide) rfl (by simp [cat_i, cat_l, rf_cat]) rfl dX6_add_52 (r_X10_hasBit _ _ hw) (k_I (fun v12 h hw => ?_))
    refine V_if_eq (tgt := 88) dX6_add_55 (by decide) hw (fun hw => ?_) (fun hw => ?_)
    · exact V.sub [0, 1, 2] rfl (s_X6_add_88 hK32 hw)
    · refine V_aload_n 0 rfl rfl dX6_add_58 ?_
      refine X_getR (c := 6) (k := 2) fa_X6_18 rfl dX6_add_59 hw (fun v14 hw => ?_)
      refine V_iload_n 2 rfl rfl dX6_add_62 ?_
      refine V_dup2 rfl (rf_cat _) dX6_add_63 ?_
      refine X_ldI dX6_add_64 hw (fun v15 hw => ?_)
      refine V_iconst (v := 1) (by decide) dX6_add_65 ?_
      refine V_aload_n 0 rfl rfl dX6_add_66 ?_
      refine X_getI (c := 6) (k := 3) fa_X6_25 rfl dX6_add_67 hw (fun v16 hw => ?_)
      refine V_ishl dX6_add_70 ?_
      refine V_ior dX6_add_71 ?_
      refine X_stI dX6_add_72 hw (fun h hw => ?_)
      refine V_aload_n 0 rfl rfl dX6_add_73 ?_
      refine X_getR (c := 6) (k := 2) fa_X6_18 rfl dX6_add_74 hw (fun v17 hw => ?_)
      refine V_aload_n 0 rfl rfl dX6_add_77 ?_
      refine X_getI (c := 6) (k := 3) fa_X6_25 rfl dX6_add_78 hw (fun v18 hw => ?_)
      refine V_dup2 rfl (rf_cat _) dX6_add_81 ?_
      refine X_ldI dX6_add_82 hw (fun v19 hw => ?_)
      refine V_iconst (v := 1) (by decide) dX6_add_83 ?_
      refine V_iload_n 2 rfl rfl dX6_add_84 ?_
      refine V_ishl dX6_add_85 ?_
      refine V_ior dX6_add_86 ?_
      refine X_stI dX6_add_87 hw (fun h hw => ?_)
      exact V.sub [0, 1, 2] rfl (s_X6_add_88 hK32 hw)
theorem s_X6_add_32 {l : Launch} {G : Gh} {l0 : Option Nat} {l1 : Int32} {l2 : Int32} {h : Hp} {Q : Hp → Prop}  (hw : l_X6_add_32 l0 l1 l2 h Q) : V l G 2 yX6_add cX6_add 3 none 32 [(0, va_rf l0), (1, .int l1), (2, .int l2)] [] h (qV Q) :=
  Lo.ind (P := fun (s : Int32) h => V l G 2 yX6_add cX6_add 3 none 32 [(0, va_rf l0), (1, .int l1), (2, .int s)] [] h (qV Q)) (fun K ih s h hw => sb_X6_add_32 (fun l2 h hk => ih (l2) h hk) hw) hw
theorem s_X6_add_0 {l : Launch} {G : Gh} {l0 : Option Nat} {l1 : Int32} {h : Hp} {Q : Hp → Prop}  (hw : n_X6_add_0 l0 l1 h Q) : V l G 2 yX6_add cX6_add 3 none 0 [(0, va_rf l0), (1, .int l1)] [] h (qV Q) := by
  unfold n_X6_add_0 at hw
  refine V_aload_n 0 rfl rfl dX6_add_0 ?_
  refine X_getI (c := 6) (k := 3) fa_X6_25 rfl dX6_add_1 hw (fun v1 hw => ?_)
  refine V_bipush (v := 12) (by decide) dX6_add_4 ?_
  refine V_icmp_lt (tgt := 10) dX6_add_6 (by decide) hw (fun hw => ?_) (fun hw => ?_)
  · refine V_aload_n 0 rfl rfl dX6_add_10 ?_
    refine X_getR (c := 6) (k := 1) fa_X6_15 rfl dX6_add_11 hw (fun v2 hw => ?_)
    refine V_aload_n 0 rfl rfl dX6_add_14 ?_
    refine X_getI (c := 6) (k := 3) fa_X6_25 rfl dX6_add_15 hw (fun v3 hw => ?_)
    refine V_iload_n 1 rfl rfl dX6_add_18 ?_
    refine X_stI dX6_add_19 hw (fun h hw => ?_)
    refine V_aload_n 0 rfl rfl dX6_add_20 ?_
    refine X_getR (c := 6) (k := 2) fa_X6_18 rfl dX6_add_21 hw (fun v4 hw => ?_)
    refine V_aload_n 0 rfl rfl dX6_add_24 ?_
    refine X_getI (c := 6) (k := 3) fa_X6_25 rfl dX6_add_25 hw (fun v5 hw => ?_)
    refine V_iconst (v := 0) (by decide) dX6_add_28 ?_
    refine X_stI dX6_add_29 hw (fun h hw => ?_)
    refine V_iconst (v := 0) (by decide) dX6_add_30 ?_
    refine V_istore_n (i := 2) [(2, .int 0), (0, va_rf l0), (1, .int l1)] rfl (by decide) rfl dX6_add_31 ?_
    exact V.sub [1, 2, 0] rfl (s_X6_add_32 hw)
  · exact V_vret rfl dX6_add_9 ⟨rfl, hw⟩
theorem r_X6_add {l : Launch} {G : Gh} (l0 : Option Nat) (l1 : Int32) {h : Hp} {Q : Hp → Prop} (hw : w_X6_add l0 l1 h Q) : RunQ l G 2 yX6_add cX6_add 3 none [va_rf l0, .int l1] h (qV Q) :=
  V_run rfl (sl_len _ _ (by simp [cat_i, cat_l, rf_cat])) (V.sub [0, 1] (by simp only [la_r, la_i, la_l, la_n]; rfl) (s_X6_add_0 hw))
def n_X2_sizeOf_0 (l0 : Option Nat) (l1 : Int32) (h : Hp) (Q : Int32 → Hp → Prop) : Prop :=
  gR h l0 3 257 fun v1 =>
  ldI h v1 (l1 + 1) fun v2 =>
  gR h l0 3 257 fun v3 =>
  ldI h v3 l1 fun v4 =>
  Q (v2 - v4) h
def w_X2_sizeOf (l0 : Option Nat) (l1 : Int32) (h : Hp) (Q : Int32 → Hp → Prop) : Prop := n_X2_sizeOf_0 l0 l1 h Q
theorem s_X2_sizeOf_0 {l : Launch} {G : Gh} {l0 : Option Nat} {l1 : Int32} {h : Hp} {Q : Int32 → Hp → Prop}  (hw : n_X2_sizeOf_0 l0 l1 h Q) : V l G 1 yX2_sizeOf cX2_sizeOf 2 (some .int) 0 [(0, va_rf l0), (1, .int l1)] [] h (qI Q) := by
  unfold n_X2_sizeOf_0 at hw
  refine V_aload_n 0 rfl rfl dX2_sizeOf_0 ?_
  refine X_getR (c := 2) (k := 1) fa_X2_17 rfl dX2_sizeOf_1 hw (fun v1 hw => ?_)
  refine V_iload_n 1 rfl rfl dX2_sizeOf_4 ?_
  refine V_iconst (v := 1) (by decide) dX2_sizeOf_5 ?_
  refine V_iadd dX2_sizeOf_6 ?_
  refine X_ldI dX2_sizeOf_7 hw (fun v2 hw => ?_)
  refine V_aload_n 0 rfl rfl dX2_sizeOf_8 ?_
  refine X_getR (c := 2) (k := 1) fa_X2_17 rfl dX2_sizeOf_9 hw (fun v3 hw => ?_)
  refine V_iload_n 1 rfl rfl dX2_sizeOf_12 ?_
  refine X_ldI dX2_sizeOf_13 hw (fun v4 hw => ?_)
  refine V_isub dX2_sizeOf_14 ?_
  exact V_iret rfl dX2_sizeOf_15 ⟨_, rfl, hw⟩
theorem r_X2_sizeOf {l : Launch} {G : Gh} (l0 : Option Nat) (l1 : Int32) {h : Hp} {Q : Int32 → Hp → Prop} (hw : w_X2_sizeOf l0 l1 h Q) : RunQ l G 1 yX2_sizeOf cX2_sizeOf 2 (some .int) [va_rf l0, .int l1] h (qI Q) :=
  V_run rfl (sl_len _ _ (by simp [cat_i, cat_l, rf_cat])) (V.sub [0, 1] (by simp only [la_r, la_i, la_l, la_n]; rfl) (s_X2_sizeOf_0 hw))
def n_X2_muchAt_144 (l0 : Option Nat) (l1 : Int32) (l2 : Int32) (l3 : Int32) (h : Hp) (Q : Int32 → Hp → Prop) (K7 : Int32 → Hp → Prop) : Prop :=
  lt (l3 + 1) fun x9 =>
  K7 x9 h
def n_X2_muchAt_110 (l0 : Option Nat) (l1 : Int32) (l2 : Int32) (l3 : Int32) (l4 : Int32) (l6 : Int32) (s0 : Int32) (s1 : Int32) (h : Hp) (Q : Int32 → Hp → Prop) (K7 : Int32 → Hp → Prop) (K33 : Int32 → Int32 → Int32 → Hp → Prop) : Prop :=
  w_X10_bit s0 h <| fun v27 h =>
  lt (s1 + v27) fun x28 =>
  lt (l6 + 1) fun x29 =>
  K33 l4 x28 x29 h
def n_X2_muchAt_75 (l0 : Option Nat) (l1 : Int32) (l2 : Int32) (l3 : Int32) (l5 : Int32) (l6 : Int32) (s0 : Int32) (s1 : Int32) (h : Hp) (Q : Int32 → Hp → Prop) (K7 : Int32 → Hp → Prop) (K33 : Int32 → Int32 → Int32 → Hp → Prop) : Prop :=
  w_X10_bit s0 h <| fun v19 h =>
  lt (s1 + v19) fun x20 =>
  gR h l0 3 256 fun v21 =>
  ldR h v21 l6 fun v22 =>
  gI h v22 1 4 fun v23 =>
  gR h l0 3 256 fun v24 =>
  ldR h v24 l3 fun v25 =>
  gI h v25 1 4 fun v26 =>
  br (v26 < v23) (
    n_X2_muchAt_110 l0 l1 l2 l3 x20 l6 0 l5 h Q K7 K33) (
    n_X2_muchAt_110 l0 l1 l2 l3 x20 l6 1 l5 h Q K7 K33)
def b_X2_muchAt_33 (l0 : Option Nat) (l1 : Int32) (l2 : Int32) (l3 : Int32) (l4 : Int32) (l5 : Int32) (l6 : Int32) (h : Hp) (Q : Int32 → Hp → Prop) (K7 : Int32 → Hp → Prop) (K33 : Int32 → Int32 → Int32 → Hp → Prop) : Prop :=
  gR h l0 3 257 fun v7 =>
  ldI h v7 (l1 + 1) fun v8 =>
  br (v8 ≤ l6) (
    br (l2 < l4) (
      n_X2_muchAt_144 l0 l1 l2 l3 h Q K7) (
      br (l5 ≤ l2) (
        n_X2_muchAt_144 l0 l1 l2 l3 h Q K7) (
        gR h l0 3 256 fun v10 =>
        ldR h v10 l3 fun v11 =>
        gI h v11 1 4 fun v12 =>
        Q v12 h))) (
    gR h l0 3 256 fun v13 =>
    ldR h v13 l6 fun v14 =>
    gI h v14 1 4 fun v15 =>
    gR h l0 3 256 fun v16 =>
    ldR h v16 l3 fun v17 =>
    gI h v17 1 4 fun v18 =>
    br (v18 ≤ v15) (
      n_X2_muchAt_75 l0 l1 l2 l3 l5 l6 0 l4 h Q K7 K33) (
      n_X2_muchAt_75 l0 l1 l2 l3 l5 l6 1 l4 h Q K7 K33))
def l_X2_muchAt_33 (l0 : Option Nat) (l1 : Int32) (l2 : Int32) (l3 : Int32) (l4 : Int32) (l5 : Int32) (l6 : Int32) (h : Hp) (Q : Int32 → Hp → Prop) (K7 : Int32 → Hp → Prop) : Prop :=
  Lo (fun (K : Int32 × Int32 × Int32 → Hp → Prop) s h => b_X2_muchAt_33 l0 l1 l2 l3 s.1 s.2.1 s.2.2 h Q K7 (fun l4 l5 l6 h => K (l4, l5, l6) h)) (l4, l5, l6) h
def b_X2_muchAt_7 (l0 : Option Nat) (l1 : Int32) (l2 : Int32) (l3 : Int32) (h : Hp) (Q : Int32 → Hp → Prop) (K7 : Int32 → Hp → Prop) : Prop :=
  gR h l0 3 257 fun v3 =>
  ldI h v3 (l1 + 1) fun v4 =>
  br (v4 ≤ l3) (
    Q 0 h) (
    gR h l0 3 257 fun v5 =>
    ldI h v5 l1 fun v6 =>
    l_X2_muchAt_33 l0 l1 l2 l3 0 0 v6 h Q K7)
def l_X2_muchAt_7 (l0 : Option Nat) (l1 : Int32) (l2 : Int32) (l3 : Int32) (h : Hp) (Q : Int32 → Hp → Prop) : Prop :=
  Lo (fun (K : Int32 → Hp → Prop) s h => b_X2_muchAt_7 l0 l1 l2 s h Q (fun l3 h => K (l3) h)) (l3) h
def n_X2_muchAt_0 (l0 : Option Nat) (l1 : Int32) (l2 : Int32) (h : Hp) (Q : Int32 → Hp → Prop) : Prop :=
  gR h l0 3 257 fun v1 =>
  ldI h v1 l1 fun v2 =>
  l_X2_muchAt_7 l0 l1 l2 v2 h Q
def w_X2_muchAt (l0 : Option Nat) (l1 : Int32) (l2 : Int32) (h : Hp) (Q : Int32 → Hp → Prop) : Prop := n_X2_muchAt_0 l0 l1 l2 h Q
theorem s_X2_muchAt_144 {l : Launch} {G : Gh} {l0 : Option Nat} {l1 : Int32} {l2 : Int32} {l3 : Int32} {h : Hp} {Q : Int32 → Hp → Prop} {K7 : Int32 → Hp → Prop} (hK7 : ∀ (l3 : Int32) (h : Hp), K7 l3 h → V l G 2 yX2_muchAt cX2_muchAt 7 (some .int) 7 [(0, va_rf l0), (1, .int l1), (2, .int l2), (3, .int l3)] [] h (qI Q)) (hw : n_X2_muchAt_144 l0 l1 l2 l3 h Q K7) : V l G 2 yX2_muchAt cX2_muchAt 7 (some .int) 144 [(0, va_rf l0), (1, .int l1), (2, .int l2), (3, .int l3)] [] h (qI Q) := by
  unfold n_X2_muchAt_144 at hw
  refine V_iincL (n := 1) 3 (fun z => [(3, .int z), (0, va_rf l0), (1, .int l1), (2, .int l2)]) rfl (by rfl) (by decide) (fun _ => rfl) dX2_muchAt_144 hw (fun x9 hw => ?_)
  refine V_goto (tgt := 7) dX2_muchAt_147 (by decide) ?_
  exact V.sub [1, 2, 3, 0] rfl (hK7 _ _ hw)
theorem s_X2_muchAt_110 {l : Launch} {G : Gh} {l0 : Option Nat} {l1 : Int32} {l2 : Int32} {l3 : Int32} {l4 : Int32} {l6 : Int32} {s0 : Int32} {s1 : Int32} {h : Hp} {Q : Int32 → Hp → Prop} {K7 : Int32 → Hp → Prop} {K33 : Int32 → Int32 → Int32 → Hp → Prop} (hK7 : ∀ (l3 : Int32) (h : Hp), K7 l3 h → V l G 2 yX2_muchAt cX2_muchAt 7 (some .int) 7 [(0, va_rf l0), (1, .int l1), (2, .int l2), (3, .int l3)] [] h (qI Q)) (hK33 : ∀ (l4 : Int32) (l5 : Int32) (l6 : Int32) (h : Hp), K33 l4 l5 l6 h → V l G 2 yX2_muchAt cX2_muchAt 7 (some .int) 33 [(0, va_rf l0), (1, .int l1), (2, .int l2), (3, .int l3), (4, .int l4), (5, .int l5), (6, .int l6)] [] h (qI Q)) (hw : n_X2_muchAt_110 l0 l1 l2 l3 l4 l6 s0 s1 h Q K7 K33) : V l G 2 yX2_muchAt cX2_muchAt 7 (some .int) 110 [(0, va_rf l0), (1, .int l1), (2, .int l2), (3, .int l3), (4, .int l4), (6, .int l6)] [.int s0, .int s1] h (qI Q) := by
  unfold n_X2_muchAt_110 at hw
  refine X_cS [.int s0] [.int s1] ma_X2_59 (by decide) (by decide) rfl (by simp [cat_i, cat_l, rf_cat]) rfl dX2_muchAt_110 (r_X10_bit _ hw) (k_I (fun v27 h hw => ?_))
  refine V_iadd dX2_muchAt_113 ?_
  refine V_ltI hw (fun x28 hw => ?_)
  refine V_istore (i := 5) [(5, .int x28), (0, va_rf l0), (1, .int l1), (2, .int l2), (3, .int l3), (4, .int l4), (6, .int l6)] (by decide) rfl dX2_muchAt_114 ?_
  refine V_iincL (n := 1) 6 (fun z => [(6, .int z), (5, .int x28), (0, va_rf l0), (1, .int l1), (2, .int l2), (3, .int l3), (4, .int l4)]) rfl (by rfl) (by decide) (fun _ => rfl) dX2_muchAt_116 hw (fun x29 hw => ?_)
  refine V_goto (tgt := 33) dX2_muchAt_119 (by decide) ?_
  exact V.sub [2, 3, 4, 5, 6, 1, 0] rfl (hK33 _ _ _ _ hw)
theorem s_X2_muchAt_75 {l : Launch} {G : Gh} {l0 : Option Nat} {l1 : Int32} {l2 : Int32} {l3 : Int32} {l5 : Int32} {l6 : Int32} {s0 : Int32} {s1 : Int32} {h : Hp} {Q : Int32 → Hp → Prop} {K7 : Int32 → Hp → Prop} {K33 : Int32 → Int32 → Int32 → Hp → Prop} (hK7 : ∀ (l3 : Int32) (h : Hp), K7 l3 h → V l G 2 yX2_muchAt cX2_muchAt 7 (some .int) 7 [(0, va_rf l0), (1, .int l1), (2, .int l2), (3, .int l3)] [] h (qI Q)) (hK33 : ∀ (l4 : Int32) (l5 : Int32) (l6 : Int32) (h : Hp), K33 l4 l5 l6 h → V l G 2 yX2_muchAt cX2_muchAt 7 (some .int) 33 [(0, va_rf l0), (1, .int l1), (2, .int l2), (3, .int l3), (4, .int l4), (5, .int l5), (6, .int l6)] [] h (qI Q)) (hw : n_X2_muchAt_75 l0 l1 l2 l3 l5 l6 s0 s1 h Q K7 K33) : V l G 2 yX2_muchAt cX2_muchAt 7 (some .int) 75 [(0, va_rf l0), (1, .int l1), (2, .int l2), (3, .int l3), (5, .int l5), (6, .int l6)] [.int s0, .int s1] h (qI Q) := by
  unfold n_X2_muchAt_75 at hw
  refine X_cS [.int s0] [.int s1] ma_X2_59 (by decide) (by decide) rfl (by simp [cat_i, cat_l, rf_cat]) rfl dX2_muchAt_75 (r_X10_bit _ hw) (k_I (fun v19 h hw => ?_))
  refine V_iadd dX2_muchAt_78 ?_
  refine V_ltI hw (fun x20 hw => ?_)
  refine V_istore (i := 4) [(4, .int x20), (0, va_rf l0), (1, .int l1), (2, .int l2), (3, .int l3), (5, .int l5), (6, .int l6)] (by decide) rfl dX2_muchAt_79 ?_
  refine V_iload 5 rfl dX2_muchAt_81 ?_
  refine V_aload_n 1 rfl rfl dX2_muchAt_83 ?_
  refine X_getR (c := 2) (k := 0) fa_X2_11 rfl dX2_muchAt_84 hw (fun v21 hw => ?_)
  refine V_iload 6 rfl dX2_muchAt_87 ?_
  refine X_ldR dX2_muchAt_89 hw (fun v22 hw => ?_)
  refine X_getI (c := 0) (k := 4) fa_X2_56 rfl dX2_muchAt_90 hw (fun v23 hw => ?_)
  refine V_aload_n 1 rfl rfl dX2_muchAt_93 ?_
  refine X_getR (c := 2) (k := 0) fa_X2_11 rfl dX2_muchAt_94 hw (fun v24 hw => ?_)
  refine V_iload_n 4 rfl rfl dX2_muchAt_97 ?_
  refine X_ldR dX2_muchAt_98 hw (fun v25 hw => ?_)
  refine X_getI (c := 0) (k := 4) fa_X2_56 rfl dX2_muchAt_99 hw (fun v26 hw => ?_)
  refine V_icmp_gt (tgt := 109) dX2_muchAt_102 (by decide) hw (fun hw => ?_) (fun hw => ?_)
  · refine V_iconst (v := 0) (by decide) dX2_muchAt_109 ?_
    exact V.sub [1, 2, 3, 4, 0, 6] rfl (s_X2_muchAt_110 hK7 hK33 hw)
  · refine V_iconst (v := 1) (by decide) dX2_muchAt_105 ?_
    refine V_goto (tgt := 110) dX2_muchAt_106 (by decide) ?_
    exact V.sub [1, 2, 3, 4, 0, 6] rfl (s_X2_muchAt_110 hK7 hK33 hw)
theorem sb_X2_muchAt_33 {l : Launch} {G : Gh} {l0 : Option Nat} {l1 : Int32} {l2 : Int32} {l3 : Int32} {l4 : Int32} {l5 : Int32} {l6 : Int32} {h : Hp} {Q : Int32 → Hp → Prop} {K7 : Int32 → Hp → Prop} {K33 : Int32 → Int32 → Int32 → Hp → Prop} (hK7 : ∀ (l3 : Int32) (h : Hp), K7 l3 h → V l G 2 yX2_muchAt cX2_muchAt 7 (some .int) 7 [(0, va_rf l0), (1, .int l1), (2, .int l2), (3, .int l3)] [] h (qI Q)) (hK33 : ∀ (l4 : Int32) (l5 : Int32) (l6 : Int32) (h : Hp), K33 l4 l5 l6 h → V l G 2 yX2_muchAt cX2_muchAt 7 (some .int) 33 [(0, va_rf l0), (1, .int l1), (2, .int l2), (3, .int l3), (4, .int l4), (5, .int l5), (6, .int l6)] [] h (qI Q)) (hw : b_X2_muchAt_33 l0 l1 l2 l3 l4 l5 l6 h Q K7 K33) : V l G 2 yX2_muchAt cX2_muchAt 7 (some .int) 33 [(0, va_rf l0), (1, .int l1), (2, .int l2), (3, .int l3), (4, .int l4), (5, .int l5), (6, .int l6)] [] h (qI Q) := by
  unfold b_X2_muchAt_33 at hw
  refine V_iload 6 rfl dX2_muchAt_33 ?_
  refine V_aload_n 0 rfl rfl dX2_muchAt_35 ?_
  refine X_getR (c := 2) (k := 1) fa_X2_17 rfl dX2_muchAt_36 hw (fun v7 hw => ?_)
  refine V_iload_n 1 rfl rfl dX2_muchAt_39 ?_
  refine V_iconst (v := 1) (by decide) dX2_muchAt_40 ?_
  refine V_iadd dX2_muchAt_41 ?_
  refine X_ldI dX2_muchAt_42 hw (fun v8 hw => ?_)
  refine V_icmp_ge (tgt := 122) dX2_muchAt_43 (by decide) hw (fun hw => ?_) (fun hw => ?_)
  · refine V_iload 4 rfl dX2_muchAt_122 ?_
    refine V_iload_n 2 rfl rfl dX2_muchAt_124 ?_
    refine V_icmp_gt (tgt := 144) dX2_muchAt_125 (by decide) hw (fun hw => ?_) (fun hw => ?_)
    · exact V.sub [0, 1, 2, 3] rfl (s_X2_muchAt_144 hK7 hw)
    · refine V_iload_n 2 rfl rfl dX2_muchAt_128 ?_
      refine V_iload 5 rfl dX2_muchAt_129 ?_
      refine V_icmp_ge (tgt := 144) dX2_muchAt_131 (by decide) hw (fun hw => ?_) (fun hw => ?_)
      · exact V.sub [0, 1, 2, 3] rfl (s_X2_muchAt_144 hK7 hw)
      · refine V_aload_n 0 rfl rfl dX2_muchAt_134 ?_
        refine X_getR (c := 2) (k := 0) fa_X2_11 rfl dX2_muchAt_135 hw (fun v10 hw => ?_)
        refine V_iload_n 3 rfl rfl dX2_muchAt_138 ?_
        refine X_ldR dX2_muchAt_139 hw (fun v11 hw => ?_)
        refine X_getI (c := 0) (k := 4) fa_X2_56 rfl dX2_muchAt_140 hw (fun v12 hw => ?_)
        exact V_iret rfl dX2_muchAt_143 ⟨_, rfl, hw⟩
  · refine V_iload 4 rfl dX2_muchAt_46 ?_
    refine V_aload_n 0 rfl rfl dX2_muchAt_48 ?_
    refine X_getR (c := 2) (k := 0) fa_X2_11 rfl dX2_muchAt_49 hw (fun v13 hw => ?_)
    refine V_iload 6 rfl dX2_muchAt_52 ?_
    refine X_ldR dX2_muchAt_54 hw (fun v14 hw => ?_)
    refine X_getI (c := 0) (k := 4) fa_X2_56 rfl dX2_muchAt_55 hw (fun v15 hw => ?_)
    refine V_aload_n 0 rfl rfl dX2_muchAt_58 ?_
    refine X_getR (c := 2) (k := 0) fa_X2_11 rfl dX2_muchAt_59 hw (fun v16 hw => ?_)
    refine V_iload_n 3 rfl rfl dX2_muchAt_62 ?_
    refine X_ldR dX2_muchAt_63 hw (fun v17 hw => ?_)
    refine X_getI (c := 0) (k := 4) fa_X2_56 rfl dX2_muchAt_64 hw (fun v18 hw => ?_)
    refine V_icmp_ge (tgt := 74) dX2_muchAt_67 (by decide) hw (fun hw => ?_) (fun hw => ?_)
    · refine V_iconst (v := 0) (by decide) dX2_muchAt_74 ?_
      exact V.sub [0, 1, 2, 3, 5, 6] rfl (s_X2_muchAt_75 hK7 hK33 hw)
    · refine V_iconst (v := 1) (by decide) dX2_muchAt_70 ?_
      refine V_goto (tgt := 75) dX2_muchAt_71 (by decide) ?_
      exact V.sub [0, 1, 2, 3, 5, 6] rfl (s_X2_muchAt_75 hK7 hK33 hw)
theorem s_X2_muchAt_33 {l : Launch} {G : Gh} {l0 : Option Nat} {l1 : Int32} {l2 : Int32} {l3 : Int32} {l4 : Int32} {l5 : Int32} {l6 : Int32} {h : Hp} {Q : Int32 → Hp → Prop} {K7 : Int32 → Hp → Prop} (hK7 : ∀ (l3 : Int32) (h : Hp), K7 l3 h → V l G 2 yX2_muchAt cX2_muchAt 7 (some .int) 7 [(0, va_rf l0), (1, .int l1), (2, .int l2), (3, .int l3)] [] h (qI Q)) (hw : l_X2_muchAt_33 l0 l1 l2 l3 l4 l5 l6 h Q K7) : V l G 2 yX2_muchAt cX2_muchAt 7 (some .int) 33 [(0, va_rf l0), (1, .int l1), (2, .int l2), (3, .int l3), (4, .int l4), (5, .int l5), (6, .int l6)] [] h (qI Q) :=
  Lo.ind (P := fun (s : Int32 × Int32 × Int32) h => V l G 2 yX2_muchAt cX2_muchAt 7 (some .int) 33 [(0, va_rf l0), (1, .int l1), (2, .int l2), (3, .int l3), (4, .int s.1), (5, .int s.2.1), (6, .int s.2.2)] [] h (qI Q)) (fun K ih s h hw => sb_X2_muchAt_33 hK7 (fun l4 l5 l6 h hk => ih (l4, l5, l6) h hk) hw) hw
theorem sb_X2_muchAt_7 {l : Launch} {G : Gh} {l0 : Option Nat} {l1 : Int32} {l2 : Int32} {l3 : Int32} {h : Hp} {Q : Int32 → Hp → Prop} {K7 : Int32 → Hp → Prop} (hK7 : ∀ (l3 : Int32) (h : Hp), K7 l3 h → V l G 2 yX2_muchAt cX2_muchAt 7 (some .int) 7 [(0, va_rf l0), (1, .int l1), (2, .int l2), (3, .int l3)] [] h (qI Q)) (hw : b_X2_muchAt_7 l0 l1 l2 l3 h Q K7) : V l G 2 yX2_muchAt cX2_muchAt 7 (some .int) 7 [(0, va_rf l0), (1, .int l1), (2, .int l2), (3, .int l3)] [] h (qI Q) := by
  unfold b_X2_muchAt_7 at hw
  refine V_iload_n 3 rfl rfl dX2_muchAt_7 ?_
  refine V_aload_n 0 rfl rfl dX2_muchAt_8 ?_
  refine X_getR (c := 2) (k := 1) fa_X2_17 rfl dX2_muchAt_9 hw (fun v3 hw => ?_)
  refine V_iload_n 1 rfl rfl dX2_muchAt_12 ?_
  refine V_iconst (v := 1) (by decide) dX2_muchAt_13 ?_
  refine V_iadd dX2_muchAt_14 ?_
  refine X_ldI dX2_muchAt_15 hw (fun v4 hw => ?_)
  refine V_icmp_ge (tgt := 150) dX2_muchAt_16 (by decide) hw (fun hw => ?_) (fun hw => ?_)
  · refine V_iconst (v := 0) (by decide) dX2_muchAt_150 ?_
    exact V_iret rfl dX2_muchAt_151 ⟨_, rfl, hw⟩
  · refine V_iconst (v := 0) (by decide) dX2_muchAt_19 ?_
    refine V_istore (i := 4) [(4, .int 0), (0, va_rf l0), (1, .int l1), (2, .int l2), (3, .int l3)] (by decide) rfl dX2_muchAt_20 ?_
    refine V_iconst (v := 0) (by decide) dX2_muchAt_22 ?_
    refine V_istore (i := 5) [(5, .int 0), (4, .int 0), (0, va_rf l0), (1, .int l1), (2, .int l2), (3, .int l3)] (by decide) rfl dX2_muchAt_23 ?_
    refine V_aload_n 2 rfl rfl dX2_muchAt_25 ?_
    refine X_getR (c := 2) (k := 1) fa_X2_17 rfl dX2_muchAt_26 hw (fun v5 hw => ?_)
    refine V_iload_n 3 rfl rfl dX2_muchAt_29 ?_
    refine X_ldI dX2_muchAt_30 hw (fun v6 hw => ?_)
    refine V_istore (i := 6) [(6, .int v6), (5, .int 0), (4, .int 0), (0, va_rf l0), (1, .int l1), (2, .int l2), (3, .int l3)] (by decide) rfl dX2_muchAt_31 ?_
    exact V.sub [3, 4, 5, 6, 2, 1, 0] rfl (s_X2_muchAt_33 hK7 hw)
theorem s_X2_muchAt_7 {l : Launch} {G : Gh} {l0 : Option Nat} {l1 : Int32} {l2 : Int32} {l3 : Int32} {h : Hp} {Q : Int32 → Hp → Prop}  (hw : l_X2_muchAt_7 l0 l1 l2 l3 h Q) : V l G 2 yX2_muchAt cX2_muchAt 7 (some .int) 7 [(0, va_rf l0), (1, .int l1), (2, .int l2), (3, .int l3)] [] h (qI Q) :=
  Lo.ind (P := fun (s : Int32) h => V l G 2 yX2_muchAt cX2_muchAt 7 (some .int) 7 [(0, va_rf l0), (1, .int l1), (2, .int l2), (3, .int s)] [] h (qI Q)) (fun K ih s h hw => sb_X2_muchAt_7 (fun l3 h hk => ih (l3) h hk) hw) hw
theorem s_X2_muchAt_0 {l : Launch} {G : Gh} {l0 : Option Nat} {l1 : Int32} {l2 : Int32} {h : Hp} {Q : Int32 → Hp → Prop}  (hw : n_X2_muchAt_0 l0 l1 l2 h Q) : V l G 2 yX2_muchAt cX2_muchAt 7 (some .int) 0 [(0, va_rf l0), (1, .int l1), (2, .int l2)] [] h (qI Q) := by
  unfold n_X2_muchAt_0 at hw
  refine V_aload_n 0 rfl rfl dX2_muchAt_0 ?_
  refine X_getR (c := 2) (k := 1) fa_X2_17 rfl dX2_muchAt_1 hw (fun v1 hw => ?_)
  refine V_iload_n 1 rfl rfl dX2_muchAt_4 ?_
  refine X_ldI dX2_muchAt_5 hw (fun v2 hw => ?_)
  refine V_istore_n (i := 3) [(3, .int v2), (0, va_rf l0), (1, .int l1), (2, .int l2)] rfl (by decide) rfl dX2_muchAt_6 ?_
  exact V.sub [1, 2, 3, 0] rfl (s_X2_muchAt_7 hw)
theorem r_X2_muchAt {l : Launch} {G : Gh} (l0 : Option Nat) (l1 : Int32) (l2 : Int32) {h : Hp} {Q : Int32 → Hp → Prop} (hw : w_X2_muchAt l0 l1 l2 h Q) : RunQ l G 2 yX2_muchAt cX2_muchAt 7 (some .int) [va_rf l0, .int l1, .int l2] h (qI Q) :=
  V_run rfl (sl_len _ _ (by simp [cat_i, cat_l, rf_cat])) (V.sub [0, 1, 2] (by simp only [la_r, la_i, la_l, la_n]; rfl) (s_X2_muchAt_0 hw))
def n_X2_joined_0 (l0 : Option Nat) (l1 : Int32) (l2 : Int32) (h : Hp) (Q : Int32 → Hp → Prop) : Prop :=
  br (l2 = 108) (
    oV h l0 3 <| w_X2_muchAt l0 l1 0 h <| fun v1 h =>
    Q v1 h) <|
  br (l2 = 120) (
    oV h l0 3 <| w_X2_sizeOf l0 l1 h <| fun v2 h =>
    oV h l0 3 <| w_X2_muchAt l0 l1 (v2 - 1) h <| fun v3 h =>
    Q v3 h) <|
  oV h l0 3 <| w_X2_sizeOf l0 l1 h <| fun v4 h =>
  dvI (v4 - 1) 2 fun v5 =>
  oV h l0 3 <| w_X2_muchAt l0 l1 v5 h <| fun v6 h =>
  Q v6 h
def w_X2_joined (l0 : Option Nat) (l1 : Int32) (l2 : Int32) (h : Hp) (Q : Int32 → Hp → Prop) : Prop := n_X2_joined_0 l0 l1 l2 h Q
theorem s_X2_joined_0 {l : Launch} {G : Gh} {l0 : Option Nat} {l1 : Int32} {l2 : Int32} {h : Hp} {Q : Int32 → Hp → Prop}  (hw : n_X2_joined_0 l0 l1 l2 h Q) : V l G 3 yX2_joined cX2_joined 3 (some .int) 0 [(0, va_rf l0), (1, .int l1), (2, .int l2)] [] h (qI Q) := by
  unfold n_X2_joined_0 at hw
  refine V_iload_n 2 rfl rfl dX2_joined_0 ?_
  by_cases c108 : l2 = 108
  · replace hw := hw.1 c108
    refine V_lsw (off := 40) 41 dX2_joined_1 (by decide) (by rw [c108]; rfl) (by decide) ?_
    refine V_aload_n 0 rfl rfl dX2_joined_41 ?_
    refine V_iload_n 1 rfl rfl dX2_joined_42 ?_
    refine V_iconst (v := 0) (by decide) dX2_joined_43 ?_
    refine X_cV 2 [.int l1, .int 0] [] ma_X2_52 (by decide) rfl (by decide) (by decide) rfl (by simp [cat_i, cat_l, rf_cat]) rfl dX2_joined_44 hw (r_X2_muchAt _ _ _) (k_I (fun v1 h hw => ?_))
    exact V_iret rfl dX2_joined_47 ⟨_, rfl, hw⟩
  replace hw := hw.2 c108
  by_cases c120 : l2 = 120
  · replace hw := hw.1 c120
    refine V_lsw (off := 27) 28 dX2_joined_1 (by decide) (by rw [c120]; rfl) (by decide) ?_
    refine V_aload_n 0 rfl rfl dX2_joined_28 ?_
    refine V_iload_n 1 rfl rfl dX2_joined_29 ?_
    refine V_aload_n 0 rfl rfl dX2_joined_30 ?_
    refine V_iload_n 1 rfl rfl dX2_joined_31 ?_
    refine X_cV 2 [.int l1] [.int l1, va_rf l0] ma_X2_48 (by decide) rfl (by decide) (by decide) rfl (by simp [cat_i, cat_l, rf_cat]) rfl dX2_joined_32 hw (r_X2_sizeOf _ _) (k_I (fun v2 h hw => ?_))
    refine V_iconst (v := 1) (by decide) dX2_joined_35 ?_
    refine V_isub dX2_joined_36 ?_
    refine X_cV 2 [.int l1, .int (v2 - 1)] [] ma_X2_52 (by decide) rfl (by decide) (by decide) rfl (by simp [cat_i, cat_l, rf_cat]) rfl dX2_joined_37 hw (r_X2_muchAt _ _ _) (k_I (fun v3 h hw => ?_))
    exact V_iret rfl dX2_joined_40 ⟨_, rfl, hw⟩
  replace hw := hw.2 c120
  refine V_lsw (off := 47) 48 dX2_joined_1 (by decide) (by rw [show _ from lv_osw c108 (a := 108) (by decide), show _ from lv_osw c120 (a := 120) (by decide)]; rfl) (by decide) ?_
  refine V_aload_n 0 rfl rfl dX2_joined_48 ?_
  refine V_iload_n 1 rfl rfl dX2_joined_49 ?_
  refine V_aload_n 0 rfl rfl dX2_joined_50 ?_
  refine V_iload_n 1 rfl rfl dX2_joined_51 ?_
  refine X_cV 2 [.int l1] [.int l1, va_rf l0] ma_X2_48 (by decide) rfl (by decide) (by decide) rfl (by simp [cat_i, cat_l, rf_cat]) rfl dX2_joined_52 hw (r_X2_sizeOf _ _) (k_I (fun v4 h hw => ?_))
  refine V_iconst (v := 1) (by decide) dX2_joined_55 ?_
  refine V_isub dX2_joined_56 ?_
  refine V_iconst (v := 2) (by decide) dX2_joined_57 ?_
  refine X_idiv dX2_joined_58 hw (fun v5 hw => ?_)
  refine X_cV 2 [.int l1, .int v5] [] ma_X2_52 (by decide) rfl (by decide) (by decide) rfl (by simp [cat_i, cat_l, rf_cat]) rfl dX2_joined_59 hw (r_X2_muchAt _ _ _) (k_I (fun v6 h hw => ?_))
  exact V_iret rfl dX2_joined_62 ⟨_, rfl, hw⟩
theorem r_X2_joined {l : Launch} {G : Gh} (l0 : Option Nat) (l1 : Int32) (l2 : Int32) {h : Hp} {Q : Int32 → Hp → Prop} (hw : w_X2_joined l0 l1 l2 h Q) : RunQ l G 3 yX2_joined cX2_joined 3 (some .int) [va_rf l0, .int l1, .int l2] h (qI Q) :=
  V_run rfl (sl_len _ _ (by simp [cat_i, cat_l, rf_cat])) (V.sub [0, 1, 2] (by simp only [la_r, la_i, la_l, la_n]; rfl) (s_X2_joined_0 hw))
def b_X2_saidBy_18 (l0 : Option Nat) (l1 : Int32) (l3 : Int32) (l4 : Int32) (l5 : Int32) (h : Hp) (Q : Int32 → Hp → Prop) (K18 : Int32 → Int32 → Hp → Prop) : Prop :=
  gR h l0 3 257 fun v4 =>
  ldI h v4 (l1 + 1) fun v5 =>
  br (v5 ≤ l5) (
    Q l4 h) (
    gR h l0 3 256 fun v6 =>
    ldR h v6 l5 fun v7 =>
    oV h v7 1 <| w_X0_saysAt v7 l3 h <| fun v8 h =>
    lt (l4 + v8) fun x9 =>
    lt (l5 + 1) fun x10 =>
    K18 x9 x10 h)
def l_X2_saidBy_18 (l0 : Option Nat) (l1 : Int32) (l3 : Int32) (l4 : Int32) (l5 : Int32) (h : Hp) (Q : Int32 → Hp → Prop) : Prop :=
  Lo (fun (K : Int32 × Int32 → Hp → Prop) s h => b_X2_saidBy_18 l0 l1 l3 s.1 s.2 h Q (fun l4 l5 h => K (l4, l5) h)) (l4, l5) h
def n_X2_saidBy_0 (l0 : Option Nat) (l1 : Int32) (l2 : Int32) (h : Hp) (Q : Int32 → Hp → Prop) : Prop :=
  oV h l0 3 <| w_X2_joined l0 l1 l2 h <| fun v1 h =>
  gR h l0 3 257 fun v2 =>
  ldI h v2 l1 fun v3 =>
  l_X2_saidBy_18 l0 l1 v1 0 v3 h Q
def w_X2_saidBy (l0 : Option Nat) (l1 : Int32) (l2 : Int32) (h : Hp) (Q : Int32 → Hp → Prop) : Prop := n_X2_saidBy_0 l0 l1 l2 h Q
theorem sb_X2_saidBy_18 {l : Launch} {G : Gh} {l0 : Option Nat} {l1 : Int32} {l3 : Int32} {l4 : Int32} {l5 : Int32} {h : Hp} {Q : Int32 → Hp → Prop} {K18 : Int32 → Int32 → Hp → Prop} (hK18 : ∀ (l4 : Int32) (l5 : Int32) (h : Hp), K18 l4 l5 h → V l G 4 yX2_saidBy cX2_saidBy 6 (some .int) 18 [(0, va_rf l0), (1, .int l1), (3, .int l3), (4, .int l4), (5, .int l5)] [] h (qI Q)) (hw : b_X2_saidBy_18 l0 l1 l3 l4 l5 h Q K18) : V l G 4 yX2_saidBy cX2_saidBy 6 (some .int) 18 [(0, va_rf l0), (1, .int l1), (3, .int l3), (4, .int l4), (5, .int l5)] [] h (qI Q) := by
  unfold b_X2_saidBy_18 at hw
  refine V_iload 4 rfl dX2_saidBy_18 ?_
  refine V_aload_n 0 rfl rfl dX2_saidBy_20 ?_
  refine X_getR (c := 2) (k := 1) fa_X2_17 rfl dX2_saidBy_21 hw (fun v4 hw => ?_)
  refine V_iload_n 1 rfl rfl dX2_saidBy_24 ?_
  refine V_iconst (v := 1) (by decide) dX2_saidBy_25 ?_
  refine V_iadd dX2_saidBy_26 ?_
  refine X_ldI dX2_saidBy_27 hw (fun v5 hw => ?_)
  refine V_icmp_ge (tgt := 53) dX2_saidBy_28 (by decide) hw (fun hw => ?_) (fun hw => ?_)
  · refine V_iload 3 rfl dX2_saidBy_53 ?_
    exact V_iret rfl dX2_saidBy_55 ⟨_, rfl, hw⟩
  · refine V_iload 3 rfl dX2_saidBy_31 ?_
    refine V_aload_n 0 rfl rfl dX2_saidBy_33 ?_
    refine X_getR (c := 2) (k := 0) fa_X2_11 rfl dX2_saidBy_34 hw (fun v6 hw => ?_)
    refine V_iload 4 rfl dX2_saidBy_37 ?_
    refine X_ldR dX2_saidBy_39 hw (fun v7 hw => ?_)
    refine V_iload_n 2 rfl rfl dX2_saidBy_40 ?_
    refine X_cV 0 [.int l3] [.int l4] ma_X2_66 (by decide) rfl (by decide) (by decide) rfl (by simp [cat_i, cat_l, rf_cat]) rfl dX2_saidBy_41 hw (r_X0_saysAt _ _) (k_I (fun v8 h hw => ?_))
    refine V_iadd dX2_saidBy_44 ?_
    refine V_ltI hw (fun x9 hw => ?_)
    refine V_istore (i := 4) [(4, .int x9), (0, va_rf l0), (1, .int l1), (3, .int l3), (5, .int l5)] (by decide) rfl dX2_saidBy_45 ?_
    refine V_iincL (n := 1) 4 (fun z => [(5, .int z), (4, .int x9), (0, va_rf l0), (1, .int l1), (3, .int l3)]) rfl (by rfl) (by decide) (fun _ => rfl) dX2_saidBy_47 hw (fun x10 hw => ?_)
    refine V_goto (tgt := 18) dX2_saidBy_50 (by decide) ?_
    exact V.sub [2, 3, 4, 1, 0] rfl (hK18 _ _ _ hw)
theorem s_X2_saidBy_18 {l : Launch} {G : Gh} {l0 : Option Nat} {l1 : Int32} {l3 : Int32} {l4 : Int32} {l5 : Int32} {h : Hp} {Q : Int32 → Hp → Prop}  (hw : l_X2_saidBy_18 l0 l1 l3 l4 l5 h Q) : V l G 4 yX2_saidBy cX2_saidBy 6 (some .int) 18 [(0, va_rf l0), (1, .int l1), (3, .int l3), (4, .int l4), (5, .int l5)] [] h (qI Q) :=
  Lo.ind (P := fun (s : Int32 × Int32) h => V l G 4 yX2_saidBy cX2_saidBy 6 (some .int) 18 [(0, va_rf l0), (1, .int l1), (3, .int l3), (4, .int s.1), (5, .int s.2)] [] h (qI Q)) (fun K ih s h hw => sb_X2_saidBy_18 (fun l4 l5 h hk => ih (l4, l5) h hk) hw) hw
theorem s_X2_saidBy_0 {l : Launch} {G : Gh} {l0 : Option Nat} {l1 : Int32} {l2 : Int32} {h : Hp} {Q : Int32 → Hp → Prop}  (hw : n_X2_saidBy_0 l0 l1 l2 h Q) : V l G 4 yX2_saidBy cX2_saidBy 6 (some .int) 0 [(0, va_rf l0), (1, .int l1), (2, .int l2)] [] h (qI Q) := by
  unfold n_X2_saidBy_0 at hw
  refine V_aload_n 0 rfl rfl dX2_saidBy_0 ?_
  refine V_iload_n 1 rfl rfl dX2_saidBy_1 ?_
  refine V_iload_n 2 rfl rfl dX2_saidBy_2 ?_
  refine X_cV 2 [.int l1, .int l2] [] ma_X2_63 (by decide) rfl (by decide) (by decide) rfl (by simp [cat_i, cat_l, rf_cat]) rfl dX2_saidBy_3 hw (r_X2_joined _ _ _) (k_I (fun v1 h hw => ?_))
  refine V_istore_n (i := 3) [(3, .int v1), (0, va_rf l0), (1, .int l1), (2, .int l2)] rfl (by decide) rfl dX2_saidBy_6 ?_
  refine V_iconst (v := 0) (by decide) dX2_saidBy_7 ?_
  refine V_istore (i := 4) [(4, .int 0), (3, .int v1), (0, va_rf l0), (1, .int l1), (2, .int l2)] (by decide) rfl dX2_saidBy_8 ?_
  refine V_aload_n 2 rfl rfl dX2_saidBy_10 ?_
  refine X_getR (c := 2) (k := 1) fa_X2_17 rfl dX2_saidBy_11 hw (fun v2 hw => ?_)
  refine V_iload_n 3 rfl rfl dX2_saidBy_14 ?_
  refine X_ldI dX2_saidBy_15 hw (fun v3 hw => ?_)
  refine V_istore (i := 5) [(5, .int v3), (4, .int 0), (3, .int v1), (0, va_rf l0), (1, .int l1), (2, .int l2)] (by decide) rfl dX2_saidBy_16 ?_
  exact V.sub [3, 4, 2, 1, 0] rfl (s_X2_saidBy_18 hw)
theorem r_X2_saidBy {l : Launch} {G : Gh} (l0 : Option Nat) (l1 : Int32) (l2 : Int32) {h : Hp} {Q : Int32 → Hp → Prop} (hw : w_X2_saidBy l0 l1 l2 h Q) : RunQ l G 4 yX2_saidBy cX2_saidBy 6 (some .int) [va_rf l0, .int l1, .int l2] h (qI Q) :=
  V_run rfl (sl_len _ _ (by simp [cat_i, cat_l, rf_cat])) (V.sub [0, 1, 2] (by simp only [la_r, la_i, la_l, la_n]; rfl) (s_X2_saidBy_0 hw))
def n_X1_takeGroup_64 (l0 : Option Nat) (l1 : Int32) (l2 : Option Nat) (l3 : Int32) (h : Hp) (Q : Hp → Prop) (K16 : Int32 → Hp → Prop) : Prop :=
  lt (l3 + 1) fun x8 =>
  K16 x8 h
def b_X1_takeGroup_16 (l0 : Option Nat) (l1 : Int32) (l2 : Option Nat) (l3 : Int32) (h : Hp) (Q : Hp → Prop) (K16 : Int32 → Hp → Prop) : Prop :=
  lt 3 fun v3 =>
  br (v3 ≤ l3) (
    Q h) (
    jnLd l3 fun v4 =>
    oV h l2 3 <| w_X2_saidBy l2 l1 v4 h <| fun v5 h =>
    gR h l0 2 128 fun v6 =>
    ldI h v6 l1 fun v7 =>
    br (v5 ≤ v7) (
      n_X1_takeGroup_64 l0 l1 l2 l3 h Q K16) (
      gR h l0 2 128 fun v9 =>
      stI h v9 l1 v5 fun h =>
      gR h l0 2 129 fun v10 =>
      stI h v10 l1 (l3 + 1) fun h =>
      n_X1_takeGroup_64 l0 l1 l2 l3 h Q K16))
def l_X1_takeGroup_16 (l0 : Option Nat) (l1 : Int32) (l2 : Option Nat) (l3 : Int32) (h : Hp) (Q : Hp → Prop) : Prop :=
  Lo (fun (K : Int32 → Hp → Prop) s h => b_X1_takeGroup_16 l0 l1 l2 s h Q (fun l3 h => K (l3) h)) (l3) h
def n_X1_takeGroup_0 (l0 : Option Nat) (l1 : Int32) (l2 : Option Nat) (h : Hp) (Q : Hp → Prop) : Prop :=
  gR h l0 2 128 fun v1 =>
  stI h v1 l1 0 fun h =>
  gR h l0 2 129 fun v2 =>
  stI h v2 l1 0 fun h =>
  l_X1_takeGroup_16 l0 l1 l2 0 h Q
def w_X1_takeGroup (l0 : Option Nat) (l1 : Int32) (l2 : Option Nat) (h : Hp) (Q : Hp → Prop) : Prop := n_X1_takeGroup_0 l0 l1 l2 h Q
theorem s_X1_takeGroup_64 {l : Launch} {G : Gh} {l0 : Option Nat} {l1 : Int32} {l2 : Option Nat} {l3 : Int32} {h : Hp} {Q : Hp → Prop} {K16 : Int32 → Hp → Prop} (hK16 : ∀ (l3 : Int32) (h : Hp), K16 l3 h → V l G 5 yX1_takeGroup cX1_takeGroup 5 none 16 [(0, va_rf l0), (1, .int l1), (2, va_rf l2), (3, .int l3)] [] h (qV Q)) (hw : n_X1_takeGroup_64 l0 l1 l2 l3 h Q K16) : V l G 5 yX1_takeGroup cX1_takeGroup 5 none 64 [(0, va_rf l0), (1, .int l1), (2, va_rf l2), (3, .int l3)] [] h (qV Q) := by
  unfold n_X1_takeGroup_64 at hw
  refine V_iincL (n := 1) 3 (fun z => [(3, .int z), (0, va_rf l0), (1, .int l1), (2, va_rf l2)]) rfl (by rfl) (by decide) (fun _ => (by simp [List.filter_cons, rf_cat, cat_i, cat_l])) dX1_takeGroup_64 hw (fun x8 hw => ?_)
  refine V_goto (tgt := 16) dX1_takeGroup_67 (by decide) ?_
  exact V.sub [1, 2, 3, 0] rfl (hK16 _ _ hw)
theorem sb_X1_takeGroup_16 {l : Launch} {G : Gh} {l0 : Option Nat} {l1 : Int32} {l2 : Option Nat} {l3 : Int32} {h : Hp} {Q : Hp → Prop} {K16 : Int32 → Hp → Prop} (hK16 : ∀ (l3 : Int32) (h : Hp), K16 l3 h → V l G 5 yX1_takeGroup cX1_takeGroup 5 none 16 [(0, va_rf l0), (1, .int l1), (2, va_rf l2), (3, .int l3)] [] h (qV Q)) (hw : b_X1_takeGroup_16 l0 l1 l2 l3 h Q K16) : V l G 5 yX1_takeGroup cX1_takeGroup 5 none 16 [(0, va_rf l0), (1, .int l1), (2, va_rf l2), (3, .int l3)] [] h (qV Q) := by
  unfold b_X1_takeGroup_16 at hw
  refine V_iload_n 3 rfl rfl dX1_takeGroup_16 ?_
  refine V_getJ wd_J dX1_takeGroup_17 ?_
  refine X_jnLen dX1_takeGroup_20 hw (fun v3 hw => ?_)
  refine V_icmp_ge (tgt := 70) dX1_takeGroup_21 (by decide) hw (fun hw => ?_) (fun hw => ?_)
  · exact V_vret rfl dX1_takeGroup_70 ⟨rfl, hw⟩
  · refine V_aload_n 2 rfl rfl dX1_takeGroup_24 ?_
    refine V_iload_n 1 rfl rfl dX1_takeGroup_25 ?_
    refine V_getJ wd_J dX1_takeGroup_26 ?_
    refine V_iload_n 3 rfl rfl dX1_takeGroup_29 ?_
    refine X_jnLd dX1_takeGroup_30 hw (fun v4 hw => ?_)
    refine X_cV 2 [.int l1, .int v4] [] ma_X1_21 (by decide) rfl (by decide) (by decide) rfl (by simp [cat_i, cat_l, rf_cat]) rfl dX1_takeGroup_31 hw (r_X2_saidBy _ _ _) (k_I (fun v5 h hw => ?_))
    refine V_istore (i := 4) [(4, .int v5), (0, va_rf l0), (1, .int l1), (2, va_rf l2), (3, .int l3)] (by decide) rfl dX1_takeGroup_34 ?_
    refine V_iload 0 rfl dX1_takeGroup_36 ?_
    refine V_aload_n 1 rfl rfl dX1_takeGroup_38 ?_
    refine X_getR (c := 1) (k := 0) fa_X1_9 rfl dX1_takeGroup_39 hw (fun v6 hw => ?_)
    refine V_iload_n 2 rfl rfl dX1_takeGroup_42 ?_
    refine X_ldI dX1_takeGroup_43 hw (fun v7 hw => ?_)
    refine V_icmp_le (tgt := 64) dX1_takeGroup_44 (by decide) hw (fun hw => ?_) (fun hw => ?_)
    · exact V.sub [1, 2, 3, 4] rfl (s_X1_takeGroup_64 hK16 hw)
    · refine V_aload_n 1 rfl rfl dX1_takeGroup_47 ?_
      refine X_getR (c := 1) (k := 0) fa_X1_9 rfl dX1_takeGroup_48 hw (fun v9 hw => ?_)
      refine V_iload_n 2 rfl rfl dX1_takeGroup_51 ?_
      refine V_iload 0 rfl dX1_takeGroup_52 ?_
      refine X_stI dX1_takeGroup_54 hw (fun h hw => ?_)
      refine V_aload_n 1 rfl rfl dX1_takeGroup_55 ?_
      refine X_getR (c := 1) (k := 1) fa_X1_15 rfl dX1_takeGroup_56 hw (fun v10 hw => ?_)
      refine V_iload_n 2 rfl rfl dX1_takeGroup_59 ?_
      refine V_iload_n 4 rfl rfl dX1_takeGroup_60 ?_
      refine V_iconst (v := 1) (by decide) dX1_takeGroup_61 ?_
      refine V_iadd dX1_takeGroup_62 ?_
      refine X_stI dX1_takeGroup_63 hw (fun h hw => ?_)
      exact V.sub [1, 2, 3, 4] rfl (s_X1_takeGroup_64 hK16 hw)
theorem s_X1_takeGroup_16 {l : Launch} {G : Gh} {l0 : Option Nat} {l1 : Int32} {l2 : Option Nat} {l3 : Int32} {h : Hp} {Q : Hp → Prop}  (hw : l_X1_takeGroup_16 l0 l1 l2 l3 h Q) : V l G 5 yX1_takeGroup cX1_takeGroup 5 none 16 [(0, va_rf l0), (1, .int l1), (2, va_rf l2), (3, .int l3)] [] h (qV Q) :=
  Lo.ind (P := fun (s : Int32) h => V l G 5 yX1_takeGroup cX1_takeGroup 5 none 16 [(0, va_rf l0), (1, .int l1), (2, va_rf l2), (3, .int s)] [] h (qV Q)) (fun K ih s h hw => sb_X1_takeGroup_16 (fun l3 h hk => ih (l3) h hk) hw) hw
theorem s_X1_takeGroup_0 {l : Launch} {G : Gh} {l0 : Option Nat} {l1 : Int32} {l2 : Option Nat} {h : Hp} {Q : Hp → Prop}  (hw : n_X1_takeGroup_0 l0 l1 l2 h Q) : V l G 5 yX1_takeGroup cX1_takeGroup 5 none 0 [(0, va_rf l0), (1, .int l1), (2, va_rf l2)] [] h (qV Q) := by
  unfold n_X1_takeGroup_0 at hw
  refine V_aload_n 0 rfl rfl dX1_takeGroup_0 ?_
  refine X_getR (c := 1) (k := 0) fa_X1_9 rfl dX1_takeGroup_1 hw (fun v1 hw => ?_)
  refine V_iload_n 1 rfl rfl dX1_takeGroup_4 ?_
  refine V_iconst (v := 0) (by decide) dX1_takeGroup_5 ?_
  refine X_stI dX1_takeGroup_6 hw (fun h hw => ?_)
  refine V_aload_n 0 rfl rfl dX1_takeGroup_7 ?_
  refine X_getR (c := 1) (k := 1) fa_X1_15 rfl dX1_takeGroup_8 hw (fun v2 hw => ?_)
  refine V_iload_n 1 rfl rfl dX1_takeGroup_11 ?_
  refine V_iconst (v := 0) (by decide) dX1_takeGroup_12 ?_
  refine X_stI dX1_takeGroup_13 hw (fun h hw => ?_)
  refine V_iconst (v := 0) (by decide) dX1_takeGroup_14 ?_
  refine V_istore_n (i := 3) [(3, .int 0), (0, va_rf l0), (1, .int l1), (2, va_rf l2)] rfl (by decide) (by simp [List.filter_cons, rf_cat, cat_i, cat_l]) dX1_takeGroup_15 ?_
  exact V.sub [1, 2, 3, 0] rfl (s_X1_takeGroup_16 hw)
theorem r_X1_takeGroup {l : Launch} {G : Gh} (l0 : Option Nat) (l1 : Int32) (l2 : Option Nat) {h : Hp} {Q : Hp → Prop} (hw : w_X1_takeGroup l0 l1 l2 h Q) : RunQ l G 5 yX1_takeGroup cX1_takeGroup 5 none [va_rf l0, .int l1, va_rf l2] h (qV Q) :=
  V_run rfl (sl_len _ _ (by simp [cat_i, cat_l, rf_cat])) (V.sub [0, 1, 2] (by simp only [la_r, la_i, la_l, la_n]; rfl) (s_X1_takeGroup_0 hw))
def n_X6_isPeaceful_31 (l0 : Option Nat) (l1 : Int32) (l2 : Int32) (h : Hp) (Q : Int32 → Hp → Prop) (K2 : Int32 → Hp → Prop) : Prop :=
  lt (l2 + 1) fun x3 =>
  K2 x3 h
def b_X6_isPeaceful_2 (l0 : Option Nat) (l1 : Int32) (l2 : Int32) (h : Hp) (Q : Int32 → Hp → Prop) (K2 : Int32 → Hp → Prop) : Prop :=
  gI h l0 7 771 fun v1 =>
  br (v1 ≤ l2) (
    rZ 1 h Q) (
    w_X10_hasBit l1 l2 h <| fun v2 h =>
    br (v2 = 0) (
      n_X6_isPeaceful_31 l0 l1 l2 h Q K2) (
      gR h l0 7 770 fun v4 =>
      ldI h v4 l2 fun v5 =>
      br ((v5 &&& l1) = 0) (
        n_X6_isPeaceful_31 l0 l1 l2 h Q K2) (
        rZ 0 h Q)))
def l_X6_isPeaceful_2 (l0 : Option Nat) (l1 : Int32) (l2 : Int32) (h : Hp) (Q : Int32 → Hp → Prop) : Prop :=
  Lo (fun (K : Int32 → Hp → Prop) s h => b_X6_isPeaceful_2 l0 l1 s h Q (fun l2 h => K (l2) h)) (l2) h
def n_X6_isPeaceful_0 (l0 : Option Nat) (l1 : Int32) (h : Hp) (Q : Int32 → Hp → Prop) : Prop :=
  l_X6_isPeaceful_2 l0 l1 0 h Q
def w_X6_isPeaceful (l0 : Option Nat) (l1 : Int32) (h : Hp) (Q : Int32 → Hp → Prop) : Prop := n_X6_isPeaceful_0 l0 l1 h Q
theorem s_X6_isPeaceful_31 {l : Launch} {G : Gh} {l0 : Option Nat} {l1 : Int32} {l2 : Int32} {h : Hp} {Q : Int32 → Hp → Prop} {K2 : Int32 → Hp → Prop} (hK2 : ∀ (l2 : Int32) (h : Hp), K2 l2 h → V l G 2 yX6_isPeaceful cX6_isPeaceful 3 (some .boolean) 2 [(0, va_rf l0), (1, .int l1), (2, .int l2)] [] h (qI Q)) (hw : n_X6_isPeaceful_31 l0 l1 l2 h Q K2) : V l G 2 yX6_isPeaceful cX6_isPeaceful 3 (some .boolean) 31 [(0, va_rf l0), (1, .int l1), (2, .int l2)] [] h (qI Q) := by
  unfold n_X6_isPeaceful_31 at hw
  refine V_iincL (n := 1) 2 (fun z => [(2, .int z), (0, va_rf l0), (1, .int l1)]) rfl (by rfl) (by decide) (fun _ => rfl) dX6_isPeaceful_31 hw (fun x3 hw => ?_)
  refine V_goto (tgt := 2) dX6_isPeaceful_34 (by decide) ?_
  exact V.sub [1, 2, 0] rfl (hK2 _ _ hw)
theorem sb_X6_isPeaceful_2 {l : Launch} {G : Gh} {l0 : Option Nat} {l1 : Int32} {l2 : Int32} {h : Hp} {Q : Int32 → Hp → Prop} {K2 : Int32 → Hp → Prop} (hK2 : ∀ (l2 : Int32) (h : Hp), K2 l2 h → V l G 2 yX6_isPeaceful cX6_isPeaceful 3 (some .boolean) 2 [(0, va_rf l0), (1, .int l1), (2, .int l2)] [] h (qI Q)) (hw : b_X6_isPeaceful_2 l0 l1 l2 h Q K2) : V l G 2 yX6_isPeaceful cX6_isPeaceful 3 (some .boolean) 2 [(0, va_rf l0), (1, .int l1), (2, .int l2)] [] h (qI Q) := by
  unfold b_X6_isPeaceful_2 at hw
  refine V_iload_n 2 rfl rfl dX6_isPeaceful_2 ?_
  refine V_aload_n 0 rfl rfl dX6_isPeaceful_3 ?_
  refine X_getI (c := 6) (k := 3) fa_X6_25 rfl dX6_isPeaceful_4 hw (fun v1 hw => ?_)
  refine V_icmp_ge (tgt := 37) dX6_isPeaceful_7 (by decide) hw (fun hw => ?_) (fun hw => ?_)
  · refine V_iconst (v := 1) (by decide) dX6_isPeaceful_37 ?_
    exact V_zret rfl hw.1 dX6_isPeaceful_38 ⟨_, rfl, hw.2⟩
  · refine V_iload_n 1 rfl rfl dX6_isPeaceful_10 ?_
    refine V_iload_n 2 rfl rfl dX6_isPeaceful_11 ?_
    refine X_cS [.int l1, .int l2] [] ma_X6_21 (by decide) (by decide) rfl (by simp [cat_i, cat_l, rf_cat]) rfl dX6_isPeaceful_12 (r_X10_hasBit _ _ hw) (k_I (fun v2 h hw => ?_))
    refine V_if_eq (tgt := 31) dX6_isPeaceful_15 (by decide) hw (fun hw => ?_) (fun hw => ?_)
    · exact V.sub [0, 1, 2] rfl (s_X6_isPeaceful_31 hK2 hw)
    · refine V_aload_n 0 rfl rfl dX6_isPeaceful_18 ?_
      refine X_getR (c := 6) (k := 2) fa_X6_18 rfl dX6_isPeaceful_19 hw (fun v4 hw => ?_)
      refine V_iload_n 2 rfl rfl dX6_isPeaceful_22 ?_
      refine X_ldI dX6_isPeaceful_23 hw (fun v5 hw => ?_)
      refine V_iload_n 1 rfl rfl dX6_isPeaceful_24 ?_
      refine V_iand dX6_isPeaceful_25 ?_
      refine V_if_eq (tgt := 31) dX6_isPeaceful_26 (by decide) hw (fun hw => ?_) (fun hw => ?_)
      · exact V.sub [0, 1, 2] rfl (s_X6_isPeaceful_31 hK2 hw)
      · refine V_iconst (v := 0) (by decide) dX6_isPeaceful_29 ?_
        exact V_zret rfl hw.1 dX6_isPeaceful_30 ⟨_, rfl, hw.2⟩
theorem s_X6_isPeaceful_2 {l : Launch} {G : Gh} {l0 : Option Nat} {l1 : Int32} {l2 : Int32} {h : Hp} {Q : Int32 → Hp → Prop}  (hw : l_X6_isPeaceful_2 l0 l1 l2 h Q) : V l G 2 yX6_isPeaceful cX6_isPeaceful 3 (some .boolean) 2 [(0, va_rf l0), (1, .int l1), (2, .int l2)] [] h (qI Q) :=
  Lo.ind (P := fun (s : Int32) h => V l G 2 yX6_isPeaceful cX6_isPeaceful 3 (some .boolean) 2 [(0, va_rf l0), (1, .int l1), (2, .int s)] [] h (qI Q)) (fun K ih s h hw => sb_X6_isPeaceful_2 (fun l2 h hk => ih (l2) h hk) hw) hw
theorem s_X6_isPeaceful_0 {l : Launch} {G : Gh} {l0 : Option Nat} {l1 : Int32} {h : Hp} {Q : Int32 → Hp → Prop}  (hw : n_X6_isPeaceful_0 l0 l1 h Q) : V l G 2 yX6_isPeaceful cX6_isPeaceful 3 (some .boolean) 0 [(0, va_rf l0), (1, .int l1)] [] h (qI Q) := by
  unfold n_X6_isPeaceful_0 at hw
  refine V_iconst (v := 0) (by decide) dX6_isPeaceful_0 ?_
  refine V_istore_n (i := 2) [(2, .int 0), (0, va_rf l0), (1, .int l1)] rfl (by decide) rfl dX6_isPeaceful_1 ?_
  exact V.sub [1, 2, 0] rfl (s_X6_isPeaceful_2 hw)
theorem r_X6_isPeaceful {l : Launch} {G : Gh} (l0 : Option Nat) (l1 : Int32) {h : Hp} {Q : Int32 → Hp → Prop} (hw : w_X6_isPeaceful l0 l1 h Q) : RunQ l G 2 yX6_isPeaceful cX6_isPeaceful 3 (some .boolean) [va_rf l0, .int l1] h (qI Q) :=
  V_run rfl (sl_len _ _ (by simp [cat_i, cat_l, rf_cat])) (V.sub [0, 1] (by simp only [la_r, la_i, la_l, la_n]; rfl) (s_X6_isPeaceful_0 hw))
def n_X1_saidTogether_31 (l0 : Option Nat) (l1 : Int32) (l3 : Int32) (s0 : Int32) (s1 : Int32) (h : Hp) (Q : Int32 → Hp → Prop) (K4 : Int32 → Int32 → Hp → Prop) : Prop :=
  lt (s1 + s0) fun x3 =>
  lt (l3 + 1) fun x4 =>
  K4 x3 x4 h
def b_X1_saidTogether_4 (l0 : Option Nat) (l1 : Int32) (l2 : Int32) (l3 : Int32) (h : Hp) (Q : Int32 → Hp → Prop) (K4 : Int32 → Int32 → Hp → Prop) : Prop :=
  gI h l0 2 130 fun v1 =>
  br (v1 ≤ l3) (
    Q l2 h) (
    w_X10_hasBit l1 l3 h <| fun v2 h =>
    br (v2 = 0) (
      n_X1_saidTogether_31 l0 l1 l3 0 l2 h Q K4) (
      gR h l0 2 128 fun v5 =>
      ldI h v5 l3 fun v6 =>
      n_X1_saidTogether_31 l0 l1 l3 v6 l2 h Q K4))
def l_X1_saidTogether_4 (l0 : Option Nat) (l1 : Int32) (l2 : Int32) (l3 : Int32) (h : Hp) (Q : Int32 → Hp → Prop) : Prop :=
  Lo (fun (K : Int32 × Int32 → Hp → Prop) s h => b_X1_saidTogether_4 l0 l1 s.1 s.2 h Q (fun l2 l3 h => K (l2, l3) h)) (l2, l3) h
def n_X1_saidTogether_0 (l0 : Option Nat) (l1 : Int32) (h : Hp) (Q : Int32 → Hp → Prop) : Prop :=
  l_X1_saidTogether_4 l0 l1 0 0 h Q
def w_X1_saidTogether (l0 : Option Nat) (l1 : Int32) (h : Hp) (Q : Int32 → Hp → Prop) : Prop := n_X1_saidTogether_0 l0 l1 h Q
theorem s_X1_saidTogether_31 {l : Launch} {G : Gh} {l0 : Option Nat} {l1 : Int32} {l3 : Int32} {s0 : Int32} {s1 : Int32} {h : Hp} {Q : Int32 → Hp → Prop} {K4 : Int32 → Int32 → Hp → Prop} (hK4 : ∀ (l2 : Int32) (l3 : Int32) (h : Hp), K4 l2 l3 h → V l G 2 yX1_saidTogether cX1_saidTogether 4 (some .int) 4 [(0, va_rf l0), (1, .int l1), (2, .int l2), (3, .int l3)] [] h (qI Q)) (hw : n_X1_saidTogether_31 l0 l1 l3 s0 s1 h Q K4) : V l G 2 yX1_saidTogether cX1_saidTogether 4 (some .int) 31 [(0, va_rf l0), (1, .int l1), (3, .int l3)] [.int s0, .int s1] h (qI Q) := by
  unfold n_X1_saidTogether_31 at hw
  refine V_iadd dX1_saidTogether_31 ?_
  refine V_ltI hw (fun x3 hw => ?_)
  refine V_istore_n (i := 2) [(2, .int x3), (0, va_rf l0), (1, .int l1), (3, .int l3)] rfl (by decide) rfl dX1_saidTogether_32 ?_
  refine V_iincL (n := 1) 3 (fun z => [(3, .int z), (2, .int x3), (0, va_rf l0), (1, .int l1)]) rfl (by rfl) (by decide) (fun _ => rfl) dX1_saidTogether_33 hw (fun x4 hw => ?_)
  refine V_goto (tgt := 4) dX1_saidTogether_36 (by decide) ?_
  exact V.sub [2, 3, 1, 0] rfl (hK4 _ _ _ hw)
theorem sb_X1_saidTogether_4 {l : Launch} {G : Gh} {l0 : Option Nat} {l1 : Int32} {l2 : Int32} {l3 : Int32} {h : Hp} {Q : Int32 → Hp → Prop} {K4 : Int32 → Int32 → Hp → Prop} (hK4 : ∀ (l2 : Int32) (l3 : Int32) (h : Hp), K4 l2 l3 h → V l G 2 yX1_saidTogether cX1_saidTogether 4 (some .int) 4 [(0, va_rf l0), (1, .int l1), (2, .int l2), (3, .int l3)] [] h (qI Q)) (hw : b_X1_saidTogether_4 l0 l1 l2 l3 h Q K4) : V l G 2 yX1_saidTogether cX1_saidTogether 4 (some .int) 4 [(0, va_rf l0), (1, .int l1), (2, .int l2), (3, .int l3)] [] h (qI Q) := by
  unfold b_X1_saidTogether_4 at hw
  refine V_iload_n 3 rfl rfl dX1_saidTogether_4 ?_
  refine V_aload_n 0 rfl rfl dX1_saidTogether_5 ?_
  refine X_getI (c := 1) (k := 2) fa_X1_27 rfl dX1_saidTogether_6 hw (fun v1 hw => ?_)
  refine V_icmp_ge (tgt := 39) dX1_saidTogether_9 (by decide) hw (fun hw => ?_) (fun hw => ?_)
  · refine V_iload_n 2 rfl rfl dX1_saidTogether_39 ?_
    exact V_iret rfl dX1_saidTogether_40 ⟨_, rfl, hw⟩
  · refine V_iload_n 2 rfl rfl dX1_saidTogether_12 ?_
    refine V_iload_n 1 rfl rfl dX1_saidTogether_13 ?_
    refine V_iload_n 3 rfl rfl dX1_saidTogether_14 ?_
    refine X_cS [.int l1, .int l3] [.int l2] ma_X1_49 (by decide) (by decide) rfl (by simp [cat_i, cat_l, rf_cat]) rfl dX1_saidTogether_15 (r_X10_hasBit _ _ hw) (k_I (fun v2 h hw => ?_))
    refine V_if_eq (tgt := 30) dX1_saidTogether_18 (by decide) hw (fun hw => ?_) (fun hw => ?_)
    · refine V_iconst (v := 0) (by decide) dX1_saidTogether_30 ?_
      exact V.sub [0, 1, 3] rfl (s_X1_saidTogether_31 hK4 hw)
    · refine V_aload_n 0 rfl rfl dX1_saidTogether_21 ?_
      refine X_getR (c := 1) (k := 0) fa_X1_9 rfl dX1_saidTogether_22 hw (fun v5 hw => ?_)
      refine V_iload_n 3 rfl rfl dX1_saidTogether_25 ?_
      refine X_ldI dX1_saidTogether_26 hw (fun v6 hw => ?_)
      refine V_goto (tgt := 31) dX1_saidTogether_27 (by decide) ?_
      exact V.sub [0, 1, 3] rfl (s_X1_saidTogether_31 hK4 hw)
theorem s_X1_saidTogether_4 {l : Launch} {G : Gh} {l0 : Option Nat} {l1 : Int32} {l2 : Int32} {l3 : Int32} {h : Hp} {Q : Int32 → Hp → Prop}  (hw : l_X1_saidTogether_4 l0 l1 l2 l3 h Q) : V l G 2 yX1_saidTogether cX1_saidTogether 4 (some .int) 4 [(0, va_rf l0), (1, .int l1), (2, .int l2), (3, .int l3)] [] h (qI Q) :=
  Lo.ind (P := fun (s : Int32 × Int32) h => V l G 2 yX1_saidTogether cX1_saidTogether 4 (some .int) 4 [(0, va_rf l0), (1, .int l1), (2, .int s.1), (3, .int s.2)] [] h (qI Q)) (fun K ih s h hw => sb_X1_saidTogether_4 (fun l2 l3 h hk => ih (l2, l3) h hk) hw) hw
theorem s_X1_saidTogether_0 {l : Launch} {G : Gh} {l0 : Option Nat} {l1 : Int32} {h : Hp} {Q : Int32 → Hp → Prop}  (hw : n_X1_saidTogether_0 l0 l1 h Q) : V l G 2 yX1_saidTogether cX1_saidTogether 4 (some .int) 0 [(0, va_rf l0), (1, .int l1)] [] h (qI Q) := by
  unfold n_X1_saidTogether_0 at hw
  refine V_iconst (v := 0) (by decide) dX1_saidTogether_0 ?_
  refine V_istore_n (i := 2) [(2, .int 0), (0, va_rf l0), (1, .int l1)] rfl (by decide) rfl dX1_saidTogether_1 ?_
  refine V_iconst (v := 0) (by decide) dX1_saidTogether_2 ?_
  refine V_istore_n (i := 3) [(3, .int 0), (2, .int 0), (0, va_rf l0), (1, .int l1)] rfl (by decide) rfl dX1_saidTogether_3 ?_
  exact V.sub [2, 3, 1, 0] rfl (s_X1_saidTogether_4 hw)
theorem r_X1_saidTogether {l : Launch} {G : Gh} (l0 : Option Nat) (l1 : Int32) {h : Hp} {Q : Int32 → Hp → Prop} (hw : w_X1_saidTogether l0 l1 h Q) : RunQ l G 2 yX1_saidTogether cX1_saidTogether 4 (some .int) [va_rf l0, .int l1] h (qI Q) :=
  V_run rfl (sl_len _ _ (by simp [cat_i, cat_l, rf_cat])) (V.sub [0, 1] (by simp only [la_r, la_i, la_l, la_n]; rfl) (s_X1_saidTogether_0 hw))
def n_X1_find_70 (l0 : Option Nat) (l2 : Int32) (l3 : Option Nat) (l4 : Int32) (l5 : Int32) (h : Hp) (Q : Int32 → Hp → Prop) (K16 : Int32 → Int32 → Hp → Prop) : Prop :=
  lt (l5 + 1) fun x3 =>
  K16 l4 x3 h
def b_X1_find_16 (l0 : Option Nat) (l2 : Int32) (l3 : Option Nat) (l4 : Int32) (l5 : Int32) (h : Hp) (Q : Int32 → Hp → Prop) (K16 : Int32 → Int32 → Hp → Prop) : Prop :=
  gI h l0 2 130 fun v1 =>
  br ((1 <<< (v1 &&& 31)) ≤ l5) (
    Q l4 h) (
    w_J6_bitCount_0f7a4 l5 h <| fun v2 h =>
    br (l2 < v2) (
      n_X1_find_70 l0 l2 l3 l4 l5 h Q K16) (
      oV h l3 7 <| w_X6_isPeaceful l3 l5 h <| fun v4 h =>
      br (v4 = 0) (
        n_X1_find_70 l0 l2 l3 l4 l5 h Q K16) (
        oV h l0 2 <| w_X1_saidTogether l0 l5 h <| fun v5 h =>
        br (v5 ≤ l4) (
          n_X1_find_70 l0 l2 l3 l4 l5 h Q K16) (
          pI h l0 2 131 l5 fun h =>
          n_X1_find_70 l0 l2 l3 v5 l5 h Q K16))))
def l_X1_find_16 (l0 : Option Nat) (l2 : Int32) (l3 : Option Nat) (l4 : Int32) (l5 : Int32) (h : Hp) (Q : Int32 → Hp → Prop) : Prop :=
  Lo (fun (K : Int32 × Int32 → Hp → Prop) s h => b_X1_find_16 l0 l2 l3 s.1 s.2 h Q (fun l4 l5 h => K (l4, l5) h)) (l4, l5) h
def n_X1_find_0 (l0 : Option Nat) (l1 : Int32) (l2 : Int32) (l3 : Option Nat) (h : Hp) (Q : Int32 → Hp → Prop) : Prop :=
  pI h l0 2 130 l1 fun h =>
  pI h l0 2 131 0 fun h =>
  l_X1_find_16 l0 l2 l3 0 0 h Q
def w_X1_find (l0 : Option Nat) (l1 : Int32) (l2 : Int32) (l3 : Option Nat) (h : Hp) (Q : Int32 → Hp → Prop) : Prop := n_X1_find_0 l0 l1 l2 l3 h Q
theorem s_X1_find_70 {l : Launch} {G : Gh} {l0 : Option Nat} {l2 : Int32} {l3 : Option Nat} {l4 : Int32} {l5 : Int32} {h : Hp} {Q : Int32 → Hp → Prop} {K16 : Int32 → Int32 → Hp → Prop} (hK16 : ∀ (l4 : Int32) (l5 : Int32) (h : Hp), K16 l4 l5 h → V l G 3 yX1_find cX1_find 7 (some .int) 16 [(0, va_rf l0), (2, .int l2), (3, va_rf l3), (4, .int l4), (5, .int l5)] [] h (qI Q)) (hw : n_X1_find_70 l0 l2 l3 l4 l5 h Q K16) : V l G 3 yX1_find cX1_find 7 (some .int) 70 [(0, va_rf l0), (2, .int l2), (3, va_rf l3), (4, .int l4), (5, .int l5)] [] h (qI Q) := by
  unfold n_X1_find_70 at hw
  refine V_iincL (n := 1) 4 (fun z => [(5, .int z), (0, va_rf l0), (2, .int l2), (3, va_rf l3), (4, .int l4)]) rfl (by rfl) (by decide) (fun _ => rfl) dX1_find_70 hw (fun x3 hw => ?_)
  refine V_goto (tgt := 16) dX1_find_73 (by decide) ?_
  exact V.sub [1, 2, 3, 4, 0] rfl (hK16 _ _ _ hw)
theorem sb_X1_find_16 {l : Launch} {G : Gh} {l0 : Option Nat} {l2 : Int32} {l3 : Option Nat} {l4 : Int32} {l5 : Int32} {h : Hp} {Q : Int32 → Hp → Prop} {K16 : Int32 → Int32 → Hp → Prop} (hK16 : ∀ (l4 : Int32) (l5 : Int32) (h : Hp), K16 l4 l5 h → V l G 3 yX1_find cX1_find 7 (some .int) 16 [(0, va_rf l0), (2, .int l2), (3, va_rf l3), (4, .int l4), (5, .int l5)] [] h (qI Q)) (hw : b_X1_find_16 l0 l2 l3 l4 l5 h Q K16) : V l G 3 yX1_find cX1_find 7 (some .int) 16 [(0, va_rf l0), (2, .int l2), (3, va_rf l3), (4, .int l4), (5, .int l5)] [] h (qI Q) := by
  unfold b_X1_find_16 at hw
  refine V_iload 4 rfl dX1_find_16 ?_
  refine V_iconst (v := 1) (by decide) dX1_find_18 ?_
  refine V_aload_n 0 rfl rfl dX1_find_19 ?_
  refine X_getI (c := 1) (k := 2) fa_X1_27 rfl dX1_find_20 hw (fun v1 hw => ?_)
  refine V_ishl dX1_find_23 ?_
  refine V_icmp_ge (tgt := 76) dX1_find_24 (by decide) hw (fun hw => ?_) (fun hw => ?_)
  · refine V_iload 3 rfl dX1_find_76 ?_
    exact V_iret rfl dX1_find_78 ⟨_, rfl, hw⟩
  · refine V_iload 4 rfl dX1_find_27 ?_
    refine X_cS [.int l5] [] ma_X1_34 (by decide) (by decide) rfl (by simp [cat_i, cat_l, rf_cat]) rfl dX1_find_29 (r_J6_bitCount_0f7a4 _ hw) (k_I (fun v2 h hw => ?_))
    refine V_iload_n 1 rfl rfl dX1_find_32 ?_
    refine V_icmp_gt (tgt := 70) dX1_find_33 (by decide) hw (fun hw => ?_) (fun hw => ?_)
    · exact V.sub [0, 1, 2, 3, 4] rfl (s_X1_find_70 hK16 hw)
    · refine V_aload_n 2 rfl rfl dX1_find_36 ?_
      refine V_iload 4 rfl dX1_find_37 ?_
      refine X_cV 6 [.int l5] [] ma_X1_40 (by decide) rfl (by decide) (by decide) rfl (by simp [cat_i, cat_l, rf_cat]) rfl dX1_find_39 hw (r_X6_isPeaceful _ _) (k_I (fun v4 h hw => ?_))
      refine V_if_eq (tgt := 70) dX1_find_42 (by decide) hw (fun hw => ?_) (fun hw => ?_)
      · exact V.sub [0, 1, 2, 3, 4] rfl (s_X1_find_70 hK16 hw)
      · refine V_aload_n 0 rfl rfl dX1_find_45 ?_
        refine V_iload 4 rfl dX1_find_46 ?_
        refine X_cV 1 [.int l5] [] ma_X1_46 (by decide) rfl (by decide) (by decide) rfl (by simp [cat_i, cat_l, rf_cat]) rfl dX1_find_48 hw (r_X1_saidTogether _ _) (k_I (fun v5 h hw => ?_))
        refine V_istore (i := 6) [(6, .int v5), (0, va_rf l0), (2, .int l2), (3, va_rf l3), (4, .int l4), (5, .int l5)] (by decide) rfl dX1_find_51 ?_
        refine V_iload 0 rfl dX1_find_53 ?_
        refine V_iload 4 rfl dX1_find_55 ?_
        refine V_icmp_le (tgt := 70) dX1_find_57 (by decide) hw (fun hw => ?_) (fun hw => ?_)
        · exact V.sub [1, 2, 3, 4, 5] rfl (s_X1_find_70 hK16 hw)
        · refine V_iload 0 rfl dX1_find_60 ?_
          refine V_istore (i := 4) [(4, .int v5), (6, .int v5), (0, va_rf l0), (2, .int l2), (3, va_rf l3), (5, .int l5)] (by decide) (by simp [List.filter_cons, rf_cat, cat_i, cat_l]) dX1_find_62 ?_
          refine V_aload_n 2 rfl rfl dX1_find_64 ?_
          refine V_iload 5 rfl dX1_find_65 ?_
          refine X_putI (c := 1) (k := 3) fa_X1_31 (Or.inl rfl) rfl dX1_find_67 hw (fun h hw => ?_)
          exact V.sub [2, 3, 4, 0, 5] rfl (s_X1_find_70 hK16 hw)
theorem s_X1_find_16 {l : Launch} {G : Gh} {l0 : Option Nat} {l2 : Int32} {l3 : Option Nat} {l4 : Int32} {l5 : Int32} {h : Hp} {Q : Int32 → Hp → Prop}  (hw : l_X1_find_16 l0 l2 l3 l4 l5 h Q) : V l G 3 yX1_find cX1_find 7 (some .int) 16 [(0, va_rf l0), (2, .int l2), (3, va_rf l3), (4, .int l4), (5, .int l5)] [] h (qI Q) :=
  Lo.ind (P := fun (s : Int32 × Int32) h => V l G 3 yX1_find cX1_find 7 (some .int) 16 [(0, va_rf l0), (2, .int l2), (3, va_rf l3), (4, .int s.1), (5, .int s.2)] [] h (qI Q)) (fun K ih s h hw => sb_X1_find_16 (fun l4 l5 h hk => ih (l4, l5) h hk) hw) hw
theorem s_X1_find_0 {l : Launch} {G : Gh} {l0 : Option Nat} {l1 : Int32} {l2 : Int32} {l3 : Option Nat} {h : Hp} {Q : Int32 → Hp → Prop}  (hw : n_X1_find_0 l0 l1 l2 l3 h Q) : V l G 3 yX1_find cX1_find 7 (some .int) 0 [(0, va_rf l0), (1, .int l1), (2, .int l2), (3, va_rf l3)] [] h (qI Q) := by
  unfold n_X1_find_0 at hw
  refine V_aload_n 0 rfl rfl dX1_find_0 ?_
  refine V_iload_n 1 rfl rfl dX1_find_1 ?_
  refine X_putI (c := 1) (k := 2) fa_X1_27 (Or.inl rfl) rfl dX1_find_2 hw (fun h hw => ?_)
  refine V_aload_n 0 rfl rfl dX1_find_5 ?_
  refine V_iconst (v := 0) (by decide) dX1_find_6 ?_
  refine X_putI (c := 1) (k := 3) fa_X1_31 (Or.inl rfl) rfl dX1_find_7 hw (fun h hw => ?_)
  refine V_iconst (v := 0) (by decide) dX1_find_10 ?_
  refine V_istore (i := 4) [(4, .int 0), (0, va_rf l0), (1, .int l1), (2, .int l2), (3, va_rf l3)] (by decide) (by simp [List.filter_cons, rf_cat, cat_i, cat_l]) dX1_find_11 ?_
  refine V_iconst (v := 0) (by decide) dX1_find_13 ?_
  refine V_istore (i := 5) [(5, .int 0), (4, .int 0), (0, va_rf l0), (1, .int l1), (2, .int l2), (3, va_rf l3)] (by decide) rfl dX1_find_14 ?_
  exact V.sub [2, 4, 5, 1, 0] rfl (s_X1_find_16 hw)
theorem r_X1_find {l : Launch} {G : Gh} (l0 : Option Nat) (l1 : Int32) (l2 : Int32) (l3 : Option Nat) {h : Hp} {Q : Int32 → Hp → Prop} (hw : w_X1_find l0 l1 l2 l3 h Q) : RunQ l G 3 yX1_find cX1_find 7 (some .int) [va_rf l0, .int l1, .int l2, va_rf l3] h (qI Q) :=
  V_run rfl (sl_len _ _ (by simp [cat_i, cat_l, rf_cat])) (V.sub [0, 1, 2, 3] (by simp only [la_r, la_i, la_l, la_n]; rfl) (s_X1_find_0 hw))
def n_X10_best_33 (l0 : Option Nat) (h : Hp) (Q : Int32 → Hp → Prop) : Prop :=
  oV h l0 11 <| w_X10_refuse l0 (-6) h <| fun v4 h =>
  Q v4 h
def b_X10_best_74 (l0 : Option Nat) (l2 : Int32) (l4 : Int32) (h : Hp) (Q : Int32 → Hp → Prop) (K74 : Int32 → Hp → Prop) : Prop :=
  gR h l0 11 1289 fun v11 =>
  gI h v11 3 260 fun v12 =>
  br (v12 ≤ l4) (
    gR h l0 11 1291 fun v13 =>
    gR h l0 11 1289 fun v14 =>
    gI h v14 3 260 fun v15 =>
    gR h l0 11 1290 fun v16 =>
    oV h v13 2 <| w_X1_find v13 v15 l2 v16 h <| fun v17 h =>
    Q v17 h) (
    gR h l0 11 1290 fun v18 =>
    gR h l0 11 1289 fun v19 =>
    oV h v19 3 <| w_X2_firstOf v19 l4 h <| fun v20 h =>
    gI h v20 1 2 fun v21 =>
    oV h v18 7 <| w_X6_add v18 v21 h <| fun h =>
    gR h l0 11 1291 fun v23 =>
    gR h l0 11 1289 fun v24 =>
    oV h v23 2 <| w_X1_takeGroup v23 l4 v24 h <| fun h =>
    lt (l4 + 1) fun x26 =>
    K74 x26 h)
def l_X10_best_74 (l0 : Option Nat) (l2 : Int32) (l4 : Int32) (h : Hp) (Q : Int32 → Hp → Prop) : Prop :=
  Lo (fun (K : Int32 → Hp → Prop) s h => b_X10_best_74 l0 l2 s h Q (fun l4 h => K (l4) h)) (l4) h
def n_X10_best_0 (l0 : Option Nat) (l1 : Int32) (l2 : Int32) (h : Hp) (Q : Int32 → Hp → Prop) : Prop :=
  oV h l0 11 <| w_X10_placeAt l0 l1 h <| fun v1 h =>
  br (v1 = none) (
    oV h l0 11 <| w_X10_refuse l0 (-1) h <| fun v2 h =>
    Q v2 h) (
    w_X10_isIn l2 0 12 h <| fun v3 h =>
    br (v3 = 0) (
      n_X10_best_33 l0 h Q) (
      gI h v1 6 641 fun v5 =>
      br (v5 = 0) (
        n_X10_best_33 l0 h Q) (
        oV h l0 11 <| w_X10_gather l0 v1 h <| fun h =>
        gR h l0 11 1289 fun v7 =>
        gI h v7 3 260 fun v8 =>
        br (v8 ≤ 10) (
          gR h l0 11 1290 fun v9 =>
          oV h v9 7 <| w_X6_clear v9 h <| fun h =>
          l_X10_best_74 l0 l2 0 h Q) (
          oV h l0 11 <| w_X10_refuse l0 (-7) h <| fun v27 h =>
          Q v27 h))))
def w_X10_best (l0 : Option Nat) (l1 : Int32) (l2 : Int32) (h : Hp) (Q : Int32 → Hp → Prop) : Prop := n_X10_best_0 l0 l1 l2 h Q
theorem s_X10_best_33 {l : Launch} {G : Gh} {l0 : Option Nat} {h : Hp} {Q : Int32 → Hp → Prop}  (hw : n_X10_best_33 l0 h Q) : V l G 6 yX10_best cX10_best 5 (some .int) 33 [(0, va_rf l0)] [] h (qI Q) := by
  unfold n_X10_best_33 at hw
  refine V_aload_n 0 rfl rfl dX10_best_33 ?_
  refine V_bipush (v := (-6)) (by decide) dX10_best_34 ?_
  refine X_cV 10 [.int (-6)] [] ma_X10_95 (by decide) rfl (by decide) (by decide) rfl (by simp [cat_i, cat_l, rf_cat]) rfl dX10_best_36 hw (r_X10_refuse _ _) (k_I (fun v4 h hw => ?_))
  exact V_iret rfl dX10_best_39 ⟨_, rfl, hw⟩
theorem sb_X10_best_74 {l : Launch} {G : Gh} {l0 : Option Nat} {l2 : Int32} {l4 : Int32} {h : Hp} {Q : Int32 → Hp → Prop} {K74 : Int32 → Hp → Prop} (hK74 : ∀ (l4 : Int32) (h : Hp), K74 l4 h → V l G 6 yX10_best cX10_best 5 (some .int) 74 [(0, va_rf l0), (2, .int l2), (4, .int l4)] [] h (qI Q)) (hw : b_X10_best_74 l0 l2 l4 h Q K74) : V l G 6 yX10_best cX10_best 5 (some .int) 74 [(0, va_rf l0), (2, .int l2), (4, .int l4)] [] h (qI Q) := by
  unfold b_X10_best_74 at hw
  refine V_iload 2 rfl dX10_best_74 ?_
  refine V_aload_n 0 rfl rfl dX10_best_76 ?_
  refine X_getR (c := 10) (k := 9) fa_X10_62 rfl dX10_best_77 hw (fun v11 hw => ?_)
  refine X_getI (c := 2) (k := 4) fa_X10_370 rfl dX10_best_80 hw (fun v12 hw => ?_)
  refine V_icmp_ge (tgt := 124) dX10_best_83 (by decide) hw (fun hw => ?_) (fun hw => ?_)
  · refine V_aload_n 0 rfl rfl dX10_best_124 ?_
    refine X_getR (c := 10) (k := 11) fa_X10_76 rfl dX10_best_125 hw (fun v13 hw => ?_)
    refine V_aload_n 0 rfl rfl dX10_best_128 ?_
    refine X_getR (c := 10) (k := 9) fa_X10_62 rfl dX10_best_129 hw (fun v14 hw => ?_)
    refine X_getI (c := 2) (k := 4) fa_X10_370 rfl dX10_best_132 hw (fun v15 hw => ?_)
    refine V_iload_n 1 rfl rfl dX10_best_135 ?_
    refine V_aload_n 0 rfl rfl dX10_best_136 ?_
    refine X_getR (c := 10) (k := 10) fa_X10_69 rfl dX10_best_137 hw (fun v16 hw => ?_)
    refine X_cV 1 [.int v15, .int l2, va_rf v16] [] ma_X10_513 (by decide) rfl (by decide) (by decide) rfl (by simp [cat_i, cat_l, rf_cat]) rfl dX10_best_140 hw (r_X1_find _ _ _ _) (k_I (fun v17 h hw => ?_))
    exact V_iret rfl dX10_best_143 ⟨_, rfl, hw⟩
  · refine V_aload_n 0 rfl rfl dX10_best_86 ?_
    refine X_getR (c := 10) (k := 10) fa_X10_69 rfl dX10_best_87 hw (fun v18 hw => ?_)
    refine V_aload_n 0 rfl rfl dX10_best_90 ?_
    refine X_getR (c := 10) (k := 9) fa_X10_62 rfl dX10_best_91 hw (fun v19 hw => ?_)
    refine V_iload 2 rfl dX10_best_94 ?_
    refine X_cV 2 [.int l4] [va_rf v18] ma_X10_408 (by decide) rfl (by decide) (by decide) rfl (by simp [cat_i, cat_l, rf_cat]) rfl dX10_best_96 hw (r_X2_firstOf _ _) (k_R (fun v20 h hw => ?_))
    refine X_getI (c := 0) (k := 2) fa_X10_252 rfl dX10_best_99 hw (fun v21 hw => ?_)
    refine X_cV 6 [.int v21] [] ma_X10_506 (by decide) rfl (by decide) (by decide) rfl (by simp [cat_i, cat_l, rf_cat]) rfl dX10_best_102 hw (r_X6_add _ _) (k_V (fun h hw => ?_))
    refine V_aload_n 0 rfl rfl dX10_best_105 ?_
    refine X_getR (c := 10) (k := 11) fa_X10_76 rfl dX10_best_106 hw (fun v23 hw => ?_)
    refine V_iload 2 rfl dX10_best_109 ?_
    refine V_aload_n 0 rfl rfl dX10_best_111 ?_
    refine X_getR (c := 10) (k := 9) fa_X10_62 rfl dX10_best_112 hw (fun v24 hw => ?_)
    refine X_cV 1 [.int l4, va_rf v24] [] ma_X10_509 (by decide) rfl (by decide) (by decide) rfl (by simp [cat_i, cat_l, rf_cat]) rfl dX10_best_115 hw (r_X1_takeGroup _ _ _) (k_V (fun h hw => ?_))
    refine V_iincL (n := 1) 2 (fun z => [(4, .int z), (0, va_rf l0), (2, .int l2)]) rfl (by rfl) (by decide) (fun _ => rfl) dX10_best_118 hw (fun x26 hw => ?_)
    refine V_goto (tgt := 74) dX10_best_121 (by decide) ?_
    exact V.sub [1, 2, 0] rfl (hK74 _ _ hw)
theorem s_X10_best_74 {l : Launch} {G : Gh} {l0 : Option Nat} {l2 : Int32} {l4 : Int32} {h : Hp} {Q : Int32 → Hp → Prop}  (hw : l_X10_best_74 l0 l2 l4 h Q) : V l G 6 yX10_best cX10_best 5 (some .int) 74 [(0, va_rf l0), (2, .int l2), (4, .int l4)] [] h (qI Q) :=
  Lo.ind (P := fun (s : Int32) h => V l G 6 yX10_best cX10_best 5 (some .int) 74 [(0, va_rf l0), (2, .int l2), (4, .int s)] [] h (qI Q)) (fun K ih s h hw => sb_X10_best_74 (fun l4 h hk => ih (l4) h hk) hw) hw
theorem s_X10_best_0 {l : Launch} {G : Gh} {l0 : Option Nat} {l1 : Int32} {l2 : Int32} {h : Hp} {Q : Int32 → Hp → Prop}  (hw : n_X10_best_0 l0 l1 l2 h Q) : V l G 6 yX10_best cX10_best 5 (some .int) 0 [(0, va_rf l0), (1, .int l1), (2, .int l2)] [] h (qI Q) := by
  unfold n_X10_best_0 at hw
  refine V_aload_n 0 rfl rfl dX10_best_0 ?_
  refine V_iload_n 1 rfl rfl dX10_best_1 ?_
  refine X_cV 10 [.int l1] [] ma_X10_91 (by decide) rfl (by decide) (by decide) rfl (by simp [cat_i, cat_l, rf_cat]) rfl dX10_best_2 hw (r_X10_placeAt _ _) (k_R (fun v1 h hw => ?_))
  refine V_astore_n (i := 3) [(3, va_rf v1), (0, va_rf l0), (1, .int l1), (2, .int l2)] rfl (by decide) rfl dX10_best_5 ?_
  refine V_aload_n 0 rfl rfl dX10_best_6 ?_
  refine V_ifnonnull (tgt := 16) dX10_best_7 (by decide) hw (fun hw => ?_) (fun hw => ?_)
  · refine V_aload_n 1 rfl rfl dX10_best_10 ?_
    refine V_iconst (v := (-1)) (by decide) dX10_best_11 ?_
    refine X_cV 10 [.int (-1)] [] ma_X10_95 (by decide) rfl (by decide) (by decide) rfl (by simp [cat_i, cat_l, rf_cat]) rfl dX10_best_12 hw (r_X10_refuse _ _) (k_I (fun v2 h hw => ?_))
    exact V_iret rfl dX10_best_15 ⟨_, rfl, hw⟩
  · refine V_iload_n 3 rfl rfl dX10_best_16 ?_
    refine V_iconst (v := 0) (by decide) dX10_best_17 ?_
    refine V_bipush (v := 12) (by decide) dX10_best_18 ?_
    refine X_cS [.int l2, .int 0, .int 12] [] ma_X10_99 (by decide) (by decide) rfl (by simp [cat_i, cat_l, rf_cat]) rfl dX10_best_20 (r_X10_isIn _ _ _ hw) (k_I (fun v3 h hw => ?_))
    refine V_if_eq (tgt := 33) dX10_best_23 (by decide) hw (fun hw => ?_) (fun hw => ?_)
    · exact V.sub [1] rfl (s_X10_best_33 hw)
    · refine V_aload_n 0 rfl rfl dX10_best_26 ?_
      refine X_getI (c := 5) (k := 1) fa_X10_103 rfl dX10_best_27 hw (fun v5 hw => ?_)
      refine V_if_ne (tgt := 40) dX10_best_30 (by decide) hw (fun hw => ?_) (fun hw => ?_)
      · exact V.sub [1] rfl (s_X10_best_33 hw)
      · refine V_aload_n 1 rfl rfl dX10_best_40 ?_
        refine V_aload_n 0 rfl rfl dX10_best_41 ?_
        refine X_cV 10 [va_rf v1] [] ma_X10_363 (by decide) rfl (by decide) (by decide) rfl (by simp [cat_i, cat_l, rf_cat]) rfl dX10_best_42 hw (r_X10_gather _ _) (k_V (fun h hw => ?_))
        refine V_aload_n 1 rfl rfl dX10_best_45 ?_
        refine X_getR (c := 10) (k := 9) fa_X10_62 rfl dX10_best_46 hw (fun v7 hw => ?_)
        refine X_getI (c := 2) (k := 4) fa_X10_370 rfl dX10_best_49 hw (fun v8 hw => ?_)
        refine V_bipush (v := 10) (by decide) dX10_best_52 ?_
        refine V_icmp_le (tgt := 64) dX10_best_54 (by decide) hw (fun hw => ?_) (fun hw => ?_)
        · refine V_aload_n 1 rfl rfl dX10_best_64 ?_
          refine X_getR (c := 10) (k := 10) fa_X10_69 rfl dX10_best_65 hw (fun v9 hw => ?_)
          refine X_cV 6 [] [] ma_X10_505 (by decide) rfl (by decide) (by decide) rfl (by simp [cat_i, cat_l, rf_cat]) rfl dX10_best_68 hw (r_X6_clear _) (k_V (fun h hw => ?_))
          refine V_iconst (v := 0) (by decide) dX10_best_71 ?_
          refine V_istore (i := 4) [(4, .int 0), (3, va_rf v1), (0, va_rf l0), (1, .int l1), (2, .int l2)] (by decide) (by simp [List.filter_cons, rf_cat, cat_i, cat_l]) dX10_best_72 ?_
          exact V.sub [2, 4, 0] rfl (s_X10_best_74 hw)
        · refine V_aload_n 1 rfl rfl dX10_best_57 ?_
          refine V_bipush (v := (-7)) (by decide) dX10_best_58 ?_
          refine X_cV 10 [.int (-7)] [] ma_X10_95 (by decide) rfl (by decide) (by decide) rfl (by simp [cat_i, cat_l, rf_cat]) rfl dX10_best_60 hw (r_X10_refuse _ _) (k_I (fun v27 h hw => ?_))
          exact V_iret rfl dX10_best_63 ⟨_, rfl, hw⟩
theorem r_X10_best {l : Launch} {G : Gh} (l0 : Option Nat) (l1 : Int32) (l2 : Int32) {h : Hp} {Q : Int32 → Hp → Prop} (hw : w_X10_best l0 l1 l2 h Q) : RunQ l G 6 yX10_best cX10_best 5 (some .int) [va_rf l0, .int l1, .int l2] h (qI Q) :=
  V_run rfl (sl_len _ _ (by simp [cat_i, cat_l, rf_cat])) (V.sub [0, 1, 2] (by simp only [la_r, la_i, la_l, la_n]; rfl) (s_X10_best_0 hw))
def n_X1_joinOf_37 (s0 : Int32) (h : Hp) (Q : Int32 → Hp → Prop) : Prop :=
  Q s0 h
def n_X1_joinOf_0 (l0 : Option Nat) (l1 : Int32) (h : Hp) (Q : Int32 → Hp → Prop) : Prop :=
  gI h l0 2 130 fun v1 =>
  w_X10_isIn l1 0 (v1 - 1) h <| fun v2 h =>
  br (v2 = 0) (
    Q (-1) h) (
    gI h l0 2 131 fun v3 =>
    w_X10_hasBit v3 l1 h <| fun v4 h =>
    br (v4 = 0) (
      n_X1_joinOf_37 0 h Q) (
      gR h l0 2 129 fun v5 =>
      ldI h v5 l1 fun v6 =>
      n_X1_joinOf_37 v6 h Q))
def w_X1_joinOf (l0 : Option Nat) (l1 : Int32) (h : Hp) (Q : Int32 → Hp → Prop) : Prop := n_X1_joinOf_0 l0 l1 h Q
theorem s_X1_joinOf_37 {l : Launch} {G : Gh} {s0 : Int32} {h : Hp} {Q : Int32 → Hp → Prop}  (hw : n_X1_joinOf_37 s0 h Q) : V l G 2 yX1_joinOf cX1_joinOf 2 (some .int) 37 [] [.int s0] h (qI Q) := by
  unfold n_X1_joinOf_37 at hw
  exact V_iret rfl dX1_joinOf_37 ⟨_, rfl, hw⟩
theorem s_X1_joinOf_0 {l : Launch} {G : Gh} {l0 : Option Nat} {l1 : Int32} {h : Hp} {Q : Int32 → Hp → Prop}  (hw : n_X1_joinOf_0 l0 l1 h Q) : V l G 2 yX1_joinOf cX1_joinOf 2 (some .int) 0 [(0, va_rf l0), (1, .int l1)] [] h (qI Q) := by
  unfold n_X1_joinOf_0 at hw
  refine V_iload_n 1 rfl rfl dX1_joinOf_0 ?_
  refine V_iconst (v := 0) (by decide) dX1_joinOf_1 ?_
  refine V_aload_n 0 rfl rfl dX1_joinOf_2 ?_
  refine X_getI (c := 1) (k := 2) fa_X1_27 rfl dX1_joinOf_3 hw (fun v1 hw => ?_)
  refine V_iconst (v := 1) (by decide) dX1_joinOf_6 ?_
  refine V_isub dX1_joinOf_7 ?_
  refine X_cS [.int l1, .int 0, .int (v1 - 1)] [] ma_X1_53 (by decide) (by decide) rfl (by simp [cat_i, cat_l, rf_cat]) rfl dX1_joinOf_8 (r_X10_isIn _ _ _ hw) (k_I (fun v2 h hw => ?_))
  refine V_if_ne (tgt := 16) dX1_joinOf_11 (by decide) hw (fun hw => ?_) (fun hw => ?_)
  · refine V_iconst (v := (-1)) (by decide) dX1_joinOf_14 ?_
    exact V_iret rfl dX1_joinOf_15 ⟨_, rfl, hw⟩
  · refine V_aload_n 0 rfl rfl dX1_joinOf_16 ?_
    refine X_getI (c := 1) (k := 3) fa_X1_31 rfl dX1_joinOf_17 hw (fun v3 hw => ?_)
    refine V_iload_n 1 rfl rfl dX1_joinOf_20 ?_
    refine X_cS [.int v3, .int l1] [] ma_X1_49 (by decide) (by decide) rfl (by simp [cat_i, cat_l, rf_cat]) rfl dX1_joinOf_21 (r_X10_hasBit _ _ hw) (k_I (fun v4 h hw => ?_))
    refine V_if_eq (tgt := 36) dX1_joinOf_24 (by decide) hw (fun hw => ?_) (fun hw => ?_)
    · refine V_iconst (v := 0) (by decide) dX1_joinOf_36 ?_
      exact V.sub [] rfl (s_X1_joinOf_37 hw)
    · refine V_aload_n 0 rfl rfl dX1_joinOf_27 ?_
      refine X_getR (c := 1) (k := 1) fa_X1_15 rfl dX1_joinOf_28 hw (fun v5 hw => ?_)
      refine V_iload_n 1 rfl rfl dX1_joinOf_31 ?_
      refine X_ldI dX1_joinOf_32 hw (fun v6 hw => ?_)
      refine V_goto (tgt := 37) dX1_joinOf_33 (by decide) ?_
      exact V.sub [] rfl (s_X1_joinOf_37 hw)
theorem r_X1_joinOf {l : Launch} {G : Gh} (l0 : Option Nat) (l1 : Int32) {h : Hp} {Q : Int32 → Hp → Prop} (hw : w_X1_joinOf l0 l1 h Q) : RunQ l G 2 yX1_joinOf cX1_joinOf 2 (some .int) [va_rf l0, .int l1] h (qI Q) :=
  V_run rfl (sl_len _ _ (by simp [cat_i, cat_l, rf_cat])) (V.sub [0, 1] (by simp only [la_r, la_i, la_l, la_n]; rfl) (s_X1_joinOf_0 hw))
def n_X10_bestOf_0 (l0 : Option Nat) (l1 : Int32) (h : Hp) (Q : Int32 → Hp → Prop) : Prop :=
  gR h l0 11 1291 fun v1 =>
  oV h v1 2 <| w_X1_joinOf v1 l1 h <| fun v2 h =>
  Q v2 h
def w_X10_bestOf (l0 : Option Nat) (l1 : Int32) (h : Hp) (Q : Int32 → Hp → Prop) : Prop := n_X10_bestOf_0 l0 l1 h Q
theorem s_X10_bestOf_0 {l : Launch} {G : Gh} {l0 : Option Nat} {l1 : Int32} {h : Hp} {Q : Int32 → Hp → Prop}  (hw : n_X10_bestOf_0 l0 l1 h Q) : V l G 3 yX10_bestOf cX10_bestOf 2 (some .int) 0 [(0, va_rf l0), (1, .int l1)] [] h (qI Q) := by
  unfold n_X10_bestOf_0 at hw
  refine V_aload_n 0 rfl rfl dX10_bestOf_0 ?_
  refine X_getR (c := 10) (k := 11) fa_X10_76 rfl dX10_bestOf_1 hw (fun v1 hw => ?_)
  refine V_iload_n 1 rfl rfl dX10_bestOf_4 ?_
  refine X_cV 1 [.int l1] [] ma_X10_517 (by decide) rfl (by decide) (by decide) rfl (by simp [cat_i, cat_l, rf_cat]) rfl dX10_bestOf_5 hw (r_X1_joinOf _ _) (k_I (fun v2 h hw => ?_))
  exact V_iret rfl dX10_bestOf_8 ⟨_, rfl, hw⟩
theorem r_X10_bestOf {l : Launch} {G : Gh} (l0 : Option Nat) (l1 : Int32) {h : Hp} {Q : Int32 → Hp → Prop} (hw : w_X10_bestOf l0 l1 h Q) : RunQ l G 3 yX10_bestOf cX10_bestOf 2 (some .int) [va_rf l0, .int l1] h (qI Q) :=
  V_run rfl (sl_len _ _ (by simp [cat_i, cat_l, rf_cat])) (V.sub [0, 1] (by simp only [la_r, la_i, la_l, la_n]; rfl) (s_X10_bestOf_0 hw))
def n_X10_bind_52 (l0 : Option Nat) (h : Hp) (Q : Int32 → Hp → Prop) : Prop :=
  oV h l0 11 <| w_X10_refuse l0 (-6) h <| fun v6 h =>
  Q v6 h
def n_X10_bind_0 (l0 : Option Nat) (l1 : Int32) (h : Hp) (Q : Int32 → Hp → Prop) : Prop :=
  oV h l0 11 <| w_X10_askAt l0 l1 h <| fun v1 h =>
  br (v1 = none) (
    oV h l0 11 <| w_X10_refuse l0 (-1) h <| fun v2 h =>
    Q v2 h) (
    gI h v1 1 6 fun v3 =>
    br (v3 = 2) (
      gR h v1 1 1 fun v4 =>
      gI h v4 6 641 fun v5 =>
      br (v5 = 3) (
        n_X10_bind_52 l0 h Q) (
        gR h v1 1 1 fun v7 =>
        gR h v7 6 650 fun v8 =>
        br (v8 = none) (
          n_X10_bind_52 l0 h Q) (
          gI h v1 1 17 fun v9 =>
          br (v9 = 0) (
            pI h v1 1 6 3 fun h =>
            gR h v1 1 1 fun v10 =>
            gR h v10 6 650 fun v11 =>
            gI h v11 5 512 fun v12 =>
            Q v12 h) (
            n_X10_bind_52 l0 h Q)))) (
      n_X10_bind_52 l0 h Q))
def w_X10_bind (l0 : Option Nat) (l1 : Int32) (h : Hp) (Q : Int32 → Hp → Prop) : Prop := n_X10_bind_0 l0 l1 h Q
theorem s_X10_bind_52 {l : Launch} {G : Gh} {l0 : Option Nat} {h : Hp} {Q : Int32 → Hp → Prop}  (hw : n_X10_bind_52 l0 h Q) : V l G 3 yX10_bind cX10_bind 3 (some .int) 52 [(0, va_rf l0)] [] h (qI Q) := by
  unfold n_X10_bind_52 at hw
  refine V_aload_n 0 rfl rfl dX10_bind_52 ?_
  refine V_bipush (v := (-6)) (by decide) dX10_bind_53 ?_
  refine X_cV 10 [.int (-6)] [] ma_X10_95 (by decide) rfl (by decide) (by decide) rfl (by simp [cat_i, cat_l, rf_cat]) rfl dX10_bind_55 hw (r_X10_refuse _ _) (k_I (fun v6 h hw => ?_))
  exact V_iret rfl dX10_bind_58 ⟨_, rfl, hw⟩
theorem s_X10_bind_0 {l : Launch} {G : Gh} {l0 : Option Nat} {l1 : Int32} {h : Hp} {Q : Int32 → Hp → Prop}  (hw : n_X10_bind_0 l0 l1 h Q) : V l G 3 yX10_bind cX10_bind 3 (some .int) 0 [(0, va_rf l0), (1, .int l1)] [] h (qI Q) := by
  unfold n_X10_bind_0 at hw
  refine V_aload_n 0 rfl rfl dX10_bind_0 ?_
  refine V_iload_n 1 rfl rfl dX10_bind_1 ?_
  refine X_cV 10 [.int l1] [] ma_X10_196 (by decide) rfl (by decide) (by decide) rfl (by simp [cat_i, cat_l, rf_cat]) rfl dX10_bind_2 hw (r_X10_askAt _ _) (k_R (fun v1 h hw => ?_))
  refine V_astore_n (i := 2) [(2, va_rf v1), (0, va_rf l0), (1, .int l1)] rfl (by decide) rfl dX10_bind_5 ?_
  refine V_aload_n 0 rfl rfl dX10_bind_6 ?_
  refine V_ifnonnull (tgt := 16) dX10_bind_7 (by decide) hw (fun hw => ?_) (fun hw => ?_)
  · refine V_aload_n 1 rfl rfl dX10_bind_10 ?_
    refine V_iconst (v := (-1)) (by decide) dX10_bind_11 ?_
    refine X_cV 10 [.int (-1)] [] ma_X10_95 (by decide) rfl (by decide) (by decide) rfl (by simp [cat_i, cat_l, rf_cat]) rfl dX10_bind_12 hw (r_X10_refuse _ _) (k_I (fun v2 h hw => ?_))
    exact V_iret rfl dX10_bind_15 ⟨_, rfl, hw⟩
  · refine V_aload_n 0 rfl rfl dX10_bind_16 ?_
    refine X_getI (c := 0) (k := 6) fa_X10_309 rfl dX10_bind_17 hw (fun v3 hw => ?_)
    refine V_iconst (v := 2) (by decide) dX10_bind_20 ?_
    refine V_icmp_ne (tgt := 52) dX10_bind_21 (by decide) hw (fun hw => ?_) (fun hw => ?_)
    · refine V_aload_n 0 rfl rfl dX10_bind_24 ?_
      refine X_getR (c := 0) (k := 1) fa_X10_255 rfl dX10_bind_25 hw (fun v4 hw => ?_)
      refine X_getI (c := 5) (k := 1) fa_X10_103 rfl dX10_bind_28 hw (fun v5 hw => ?_)
      refine V_iconst (v := 3) (by decide) dX10_bind_31 ?_
      refine V_icmp_eq (tgt := 52) dX10_bind_32 (by decide) hw (fun hw => ?_) (fun hw => ?_)
      · exact V.sub [1] rfl (s_X10_bind_52 hw)
      · refine V_aload_n 0 rfl rfl dX10_bind_35 ?_
        refine X_getR (c := 0) (k := 1) fa_X10_255 rfl dX10_bind_36 hw (fun v7 hw => ?_)
        refine X_getR (c := 5) (k := 10) fa_X10_142 rfl dX10_bind_39 hw (fun v8 hw => ?_)
        refine V_ifnull (tgt := 52) dX10_bind_42 (by decide) hw (fun hw => ?_) (fun hw => ?_)
        · exact V.sub [1] rfl (s_X10_bind_52 hw)
        · refine V_aload_n 0 rfl rfl dX10_bind_45 ?_
          refine X_getI (c := 0) (k := 17) fa_X10_322 rfl dX10_bind_46 hw (fun v9 hw => ?_)
          refine V_if_eq (tgt := 59) dX10_bind_49 (by decide) hw (fun hw => ?_) (fun hw => ?_)
          · refine V_aload_n 0 rfl rfl dX10_bind_59 ?_
            refine V_iconst (v := 3) (by decide) dX10_bind_60 ?_
            refine X_putI (c := 0) (k := 6) fa_X10_309 (Or.inl rfl) rfl dX10_bind_61 hw (fun h hw => ?_)
            refine V_aload_n 0 rfl rfl dX10_bind_64 ?_
            refine X_getR (c := 0) (k := 1) fa_X10_255 rfl dX10_bind_65 hw (fun v10 hw => ?_)
            refine X_getR (c := 5) (k := 10) fa_X10_142 rfl dX10_bind_68 hw (fun v11 hw => ?_)
            refine X_getI (c := 4) (k := 0) fa_X10_146 rfl dX10_bind_71 hw (fun v12 hw => ?_)
            exact V_iret rfl dX10_bind_74 ⟨_, rfl, hw⟩
          · exact V.sub [1] rfl (s_X10_bind_52 hw)
    · exact V.sub [1] rfl (s_X10_bind_52 hw)
theorem r_X10_bind {l : Launch} {G : Gh} (l0 : Option Nat) (l1 : Int32) {h : Hp} {Q : Int32 → Hp → Prop} (hw : w_X10_bind l0 l1 h Q) : RunQ l G 3 yX10_bind cX10_bind 3 (some .int) [va_rf l0, .int l1] h (qI Q) :=
  V_run rfl (sl_len _ _ (by simp [cat_i, cat_l, rf_cat])) (V.sub [0, 1] (by simp only [la_r, la_i, la_l, la_n]; rfl) (s_X10_bind_0 hw))
def n_X10_book_14 (h : Hp) (Q : Int32 → Hp → Prop) : Prop :=
  Q (-1) h
def n_X10_book_56 (l0 : Option Nat) (l3 : Option Nat) (l4 : Int32) (l5 : Int32) (h : Hp) (Q : Int32 → Hp → Prop) (K22 : Int32 → Int32 → Hp → Prop) : Prop :=
  lt (l5 + 1) fun x7 =>
  K22 l4 x7 h
def b_X10_book_22 (l0 : Option Nat) (l3 : Option Nat) (l4 : Int32) (l5 : Int32) (h : Hp) (Q : Int32 → Hp → Prop) (K22 : Int32 → Int32 → Hp → Prop) : Prop :=
  gI h l0 11 1293 fun v2 =>
  br (v2 ≤ l5) (
    Q (-1) h) (
    gR h l0 11 1282 fun v3 =>
    ldR h v3 l5 fun v4 =>
    gR h v4 1 1 fun v5 =>
    br (v5 = l3) (
      br (l4 = 0) (
        Q l5 h) (
        lt (l4 + (-1)) fun x6 =>
        n_X10_book_56 l0 l3 x6 l5 h Q K22)) (
      n_X10_book_56 l0 l3 l4 l5 h Q K22))
def l_X10_book_22 (l0 : Option Nat) (l3 : Option Nat) (l4 : Int32) (l5 : Int32) (h : Hp) (Q : Int32 → Hp → Prop) : Prop :=
  Lo (fun (K : Int32 × Int32 → Hp → Prop) s h => b_X10_book_22 l0 l3 s.1 s.2 h Q (fun l4 l5 h => K (l4, l5) h)) (l4, l5) h
def n_X10_book_0 (l0 : Option Nat) (l1 : Int32) (l2 : Int32) (h : Hp) (Q : Int32 → Hp → Prop) : Prop :=
  oV h l0 11 <| w_X10_placeAt l0 l1 h <| fun v1 h =>
  br (v1 = none) (
    n_X10_book_14 h Q) (
    br (0 ≤ l2) (
      l_X10_book_22 l0 v1 l2 0 h Q) (
      n_X10_book_14 h Q))
def w_X10_book (l0 : Option Nat) (l1 : Int32) (l2 : Int32) (h : Hp) (Q : Int32 → Hp → Prop) : Prop := n_X10_book_0 l0 l1 l2 h Q
theorem s_X10_book_14 {l : Launch} {G : Gh}  {h : Hp} {Q : Int32 → Hp → Prop}  (hw : n_X10_book_14 h Q) : V l G 3 yX10_book cX10_book 6 (some .int) 14 [] [] h (qI Q) := by
  unfold n_X10_book_14 at hw
  refine V_iconst (v := (-1)) (by decide) dX10_book_14 ?_
  exact V_iret rfl dX10_book_15 ⟨_, rfl, hw⟩
theorem s_X10_book_56 {l : Launch} {G : Gh} {l0 : Option Nat} {l3 : Option Nat} {l4 : Int32} {l5 : Int32} {h : Hp} {Q : Int32 → Hp → Prop} {K22 : Int32 → Int32 → Hp → Prop} (hK22 : ∀ (l4 : Int32) (l5 : Int32) (h : Hp), K22 l4 l5 h → V l G 3 yX10_book cX10_book 6 (some .int) 22 [(0, va_rf l0), (3, va_rf l3), (4, .int l4), (5, .int l5)] [] h (qI Q)) (hw : n_X10_book_56 l0 l3 l4 l5 h Q K22) : V l G 3 yX10_book cX10_book 6 (some .int) 56 [(0, va_rf l0), (3, va_rf l3), (4, .int l4), (5, .int l5)] [] h (qI Q) := by
  unfold n_X10_book_56 at hw
  refine V_iincL (n := 1) 3 (fun z => [(5, .int z), (0, va_rf l0), (3, va_rf l3), (4, .int l4)]) rfl (by rfl) (by decide) (fun _ => rfl) dX10_book_56 hw (fun x7 hw => ?_)
  refine V_goto (tgt := 22) dX10_book_59 (by decide) ?_
  exact V.sub [1, 2, 3, 0] rfl (hK22 _ _ _ hw)
theorem sb_X10_book_22 {l : Launch} {G : Gh} {l0 : Option Nat} {l3 : Option Nat} {l4 : Int32} {l5 : Int32} {h : Hp} {Q : Int32 → Hp → Prop} {K22 : Int32 → Int32 → Hp → Prop} (hK22 : ∀ (l4 : Int32) (l5 : Int32) (h : Hp), K22 l4 l5 h → V l G 3 yX10_book cX10_book 6 (some .int) 22 [(0, va_rf l0), (3, va_rf l3), (4, .int l4), (5, .int l5)] [] h (qI Q)) (hw : b_X10_book_22 l0 l3 l4 l5 h Q K22) : V l G 3 yX10_book cX10_book 6 (some .int) 22 [(0, va_rf l0), (3, va_rf l3), (4, .int l4), (5, .int l5)] [] h (qI Q) := by
  unfold b_X10_book_22 at hw
  refine V_iload 3 rfl dX10_book_22 ?_
  refine V_aload_n 0 rfl rfl dX10_book_24 ?_
  refine X_getI (c := 10) (k := 13) fa_X10_249 rfl dX10_book_25 hw (fun v2 hw => ?_)
  refine V_icmp_ge (tgt := 62) dX10_book_28 (by decide) hw (fun hw => ?_) (fun hw => ?_)
  · refine V_iconst (v := (-1)) (by decide) dX10_book_62 ?_
    exact V_iret rfl dX10_book_63 ⟨_, rfl, hw⟩
  · refine V_aload_n 0 rfl rfl dX10_book_31 ?_
    refine X_getR (c := 10) (k := 2) fa_X10_23 rfl dX10_book_32 hw (fun v3 hw => ?_)
    refine V_iload 3 rfl dX10_book_35 ?_
    refine X_ldR dX10_book_37 hw (fun v4 hw => ?_)
    refine X_getR (c := 0) (k := 1) fa_X10_255 rfl dX10_book_38 hw (fun v5 hw => ?_)
    refine V_aload_n 1 rfl rfl dX10_book_41 ?_
    refine V_acmp_ne (tgt := 56) dX10_book_42 (by decide) hw (fun hw => ?_) (fun hw => ?_)
    · refine V_iload 2 rfl dX10_book_45 ?_
      refine V_if_ne (tgt := 53) dX10_book_47 (by decide) hw (fun hw => ?_) (fun hw => ?_)
      · refine V_iload 3 rfl dX10_book_50 ?_
        exact V_iret rfl dX10_book_52 ⟨_, rfl, hw⟩
      · refine V_iincL (n := (-1)) 2 (fun z => [(4, .int z), (0, va_rf l0), (3, va_rf l3), (5, .int l5)]) rfl (by rfl) (by decide) (fun _ => (by simp [List.filter_cons, rf_cat, cat_i, cat_l])) dX10_book_53 hw (fun x6 hw => ?_)
        exact V.sub [1, 2, 0, 3] rfl (s_X10_book_56 hK22 hw)
    · exact V.sub [0, 1, 2, 3] rfl (s_X10_book_56 hK22 hw)
theorem s_X10_book_22 {l : Launch} {G : Gh} {l0 : Option Nat} {l3 : Option Nat} {l4 : Int32} {l5 : Int32} {h : Hp} {Q : Int32 → Hp → Prop}  (hw : l_X10_book_22 l0 l3 l4 l5 h Q) : V l G 3 yX10_book cX10_book 6 (some .int) 22 [(0, va_rf l0), (3, va_rf l3), (4, .int l4), (5, .int l5)] [] h (qI Q) :=
  Lo.ind (P := fun (s : Int32 × Int32) h => V l G 3 yX10_book cX10_book 6 (some .int) 22 [(0, va_rf l0), (3, va_rf l3), (4, .int s.1), (5, .int s.2)] [] h (qI Q)) (fun K ih s h hw => sb_X10_book_22 (fun l4 l5 h hk => ih (l4, l5) h hk) hw) hw
theorem s_X10_book_0 {l : Launch} {G : Gh} {l0 : Option Nat} {l1 : Int32} {l2 : Int32} {h : Hp} {Q : Int32 → Hp → Prop}  (hw : n_X10_book_0 l0 l1 l2 h Q) : V l G 3 yX10_book cX10_book 6 (some .int) 0 [(0, va_rf l0), (1, .int l1), (2, .int l2)] [] h (qI Q) := by
  unfold n_X10_book_0 at hw
  refine V_aload_n 0 rfl rfl dX10_book_0 ?_
  refine V_iload_n 1 rfl rfl dX10_book_1 ?_
  refine X_cV 10 [.int l1] [] ma_X10_91 (by decide) rfl (by decide) (by decide) rfl (by simp [cat_i, cat_l, rf_cat]) rfl dX10_book_2 hw (r_X10_placeAt _ _) (k_R (fun v1 h hw => ?_))
  refine V_astore_n (i := 3) [(3, va_rf v1), (0, va_rf l0), (1, .int l1), (2, .int l2)] rfl (by decide) rfl dX10_book_5 ?_
  refine V_aload_n 0 rfl rfl dX10_book_6 ?_
  refine V_ifnull (tgt := 14) dX10_book_7 (by decide) hw (fun hw => ?_) (fun hw => ?_)
  · exact V.sub [] rfl (s_X10_book_14 hw)
  · refine V_iload_n 3 rfl rfl dX10_book_10 ?_
    refine V_if_ge (tgt := 16) dX10_book_11 (by decide) hw (fun hw => ?_) (fun hw => ?_)
    · refine V_iload_n 3 rfl rfl dX10_book_16 ?_
      refine V_istore (i := 4) [(4, .int l2), (3, va_rf v1), (0, va_rf l0), (1, .int l1), (2, .int l2)] (by decide) (by simp [List.filter_cons, rf_cat, cat_i, cat_l]) dX10_book_17 ?_
      refine V_iconst (v := 0) (by decide) dX10_book_19 ?_
      refine V_istore (i := 5) [(5, .int 0), (4, .int l2), (3, va_rf v1), (0, va_rf l0), (1, .int l1), (2, .int l2)] (by decide) rfl dX10_book_20 ?_
      exact V.sub [3, 2, 1, 0] rfl (s_X10_book_22 hw)
    · exact V.sub [] rfl (s_X10_book_14 hw)
theorem r_X10_book {l : Launch} {G : Gh} (l0 : Option Nat) (l1 : Int32) (l2 : Int32) {h : Hp} {Q : Int32 → Hp → Prop} (hw : w_X10_book l0 l1 l2 h Q) : RunQ l G 3 yX10_book cX10_book 6 (some .int) [va_rf l0, .int l1, .int l2] h (qI Q) :=
  V_run rfl (sl_len _ _ (by simp [cat_i, cat_l, rf_cat])) (V.sub [0, 1, 2] (by simp only [la_r, la_i, la_l, la_n]; rfl) (s_X10_book_0 hw))
def b_X10_booksMade_4 (l0 : Option Nat) (l1 : Int32) (l2 : Int32) (h : Hp) (Q : Int32 → Hp → Prop) (K4 : Int32 → Int32 → Hp → Prop) : Prop :=
  gI h l0 11 1292 fun v1 =>
  br (v1 ≤ l2) (
    Q l1 h) (
    gR h l0 11 1280 fun v2 =>
    ldR h v2 l2 fun v3 =>
    gI h v3 6 648 fun v4 =>
    w_X10_bit v4 h <| fun v5 h =>
    lt (l1 + v5) fun x6 =>
    lt (l2 + 1) fun x7 =>
    K4 x6 x7 h)
def l_X10_booksMade_4 (l0 : Option Nat) (l1 : Int32) (l2 : Int32) (h : Hp) (Q : Int32 → Hp → Prop) : Prop :=
  Lo (fun (K : Int32 × Int32 → Hp → Prop) s h => b_X10_booksMade_4 l0 s.1 s.2 h Q (fun l1 l2 h => K (l1, l2) h)) (l1, l2) h
def n_X10_booksMade_0 (l0 : Option Nat) (h : Hp) (Q : Int32 → Hp → Prop) : Prop :=
  l_X10_booksMade_4 l0 0 0 h Q
def w_X10_booksMade (l0 : Option Nat) (h : Hp) (Q : Int32 → Hp → Prop) : Prop := n_X10_booksMade_0 l0 h Q
theorem sb_X10_booksMade_4 {l : Launch} {G : Gh} {l0 : Option Nat} {l1 : Int32} {l2 : Int32} {h : Hp} {Q : Int32 → Hp → Prop} {K4 : Int32 → Int32 → Hp → Prop} (hK4 : ∀ (l1 : Int32) (l2 : Int32) (h : Hp), K4 l1 l2 h → V l G 2 yX10_booksMade cX10_booksMade 3 (some .int) 4 [(0, va_rf l0), (1, .int l1), (2, .int l2)] [] h (qI Q)) (hw : b_X10_booksMade_4 l0 l1 l2 h Q K4) : V l G 2 yX10_booksMade cX10_booksMade 3 (some .int) 4 [(0, va_rf l0), (1, .int l1), (2, .int l2)] [] h (qI Q) := by
  unfold b_X10_booksMade_4 at hw
  refine V_iload_n 2 rfl rfl dX10_booksMade_4 ?_
  refine V_aload_n 0 rfl rfl dX10_booksMade_5 ?_
  refine X_getI (c := 10) (k := 12) fa_X10_88 rfl dX10_booksMade_6 hw (fun v1 hw => ?_)
  refine V_icmp_ge (tgt := 33) dX10_booksMade_9 (by decide) hw (fun hw => ?_) (fun hw => ?_)
  · refine V_iload_n 1 rfl rfl dX10_booksMade_33 ?_
    exact V_iret rfl dX10_booksMade_34 ⟨_, rfl, hw⟩
  · refine V_iload_n 1 rfl rfl dX10_booksMade_12 ?_
    refine V_aload_n 0 rfl rfl dX10_booksMade_13 ?_
    refine X_getR (c := 10) (k := 0) fa_X10_11 rfl dX10_booksMade_14 hw (fun v2 hw => ?_)
    refine V_iload_n 2 rfl rfl dX10_booksMade_17 ?_
    refine X_ldR dX10_booksMade_18 hw (fun v3 hw => ?_)
    refine X_getI (c := 5) (k := 8) fa_X10_134 rfl dX10_booksMade_19 hw (fun v4 hw => ?_)
    refine X_cS [.int v4] [.int l1] ma_X10_138 (by decide) (by decide) rfl (by simp [cat_i, cat_l, rf_cat]) rfl dX10_booksMade_22 (r_X10_bit _ hw) (k_I (fun v5 h hw => ?_))
    refine V_iadd dX10_booksMade_25 ?_
    refine V_ltI hw (fun x6 hw => ?_)
    refine V_istore_n (i := 1) [(1, .int x6), (0, va_rf l0), (2, .int l2)] rfl (by decide) (by simp [List.filter_cons, rf_cat, cat_i, cat_l]) dX10_booksMade_26 ?_
    refine V_iincL (n := 1) 2 (fun z => [(2, .int z), (1, .int x6), (0, va_rf l0)]) rfl (by rfl) (by decide) (fun _ => rfl) dX10_booksMade_27 hw (fun x7 hw => ?_)
    refine V_goto (tgt := 4) dX10_booksMade_30 (by decide) ?_
    exact V.sub [2, 1, 0] rfl (hK4 _ _ _ hw)
theorem s_X10_booksMade_4 {l : Launch} {G : Gh} {l0 : Option Nat} {l1 : Int32} {l2 : Int32} {h : Hp} {Q : Int32 → Hp → Prop}  (hw : l_X10_booksMade_4 l0 l1 l2 h Q) : V l G 2 yX10_booksMade cX10_booksMade 3 (some .int) 4 [(0, va_rf l0), (1, .int l1), (2, .int l2)] [] h (qI Q) :=
  Lo.ind (P := fun (s : Int32 × Int32) h => V l G 2 yX10_booksMade cX10_booksMade 3 (some .int) 4 [(0, va_rf l0), (1, .int s.1), (2, .int s.2)] [] h (qI Q)) (fun K ih s h hw => sb_X10_booksMade_4 (fun l1 l2 h hk => ih (l1, l2) h hk) hw) hw
theorem s_X10_booksMade_0 {l : Launch} {G : Gh} {l0 : Option Nat} {h : Hp} {Q : Int32 → Hp → Prop}  (hw : n_X10_booksMade_0 l0 h Q) : V l G 2 yX10_booksMade cX10_booksMade 3 (some .int) 0 [(0, va_rf l0)] [] h (qI Q) := by
  unfold n_X10_booksMade_0 at hw
  refine V_iconst (v := 0) (by decide) dX10_booksMade_0 ?_
  refine V_istore_n (i := 1) [(1, .int 0), (0, va_rf l0)] rfl (by decide) (by simp [List.filter_cons, rf_cat, cat_i, cat_l]) dX10_booksMade_1 ?_
  refine V_iconst (v := 0) (by decide) dX10_booksMade_2 ?_
  refine V_istore_n (i := 2) [(2, .int 0), (1, .int 0), (0, va_rf l0)] rfl (by decide) rfl dX10_booksMade_3 ?_
  exact V.sub [2, 1, 0] rfl (s_X10_booksMade_4 hw)
theorem r_X10_booksMade {l : Launch} {G : Gh} (l0 : Option Nat) {h : Hp} {Q : Int32 → Hp → Prop} (hw : w_X10_booksMade l0 h Q) : RunQ l G 2 yX10_booksMade cX10_booksMade 3 (some .int) [va_rf l0] h (qI Q) :=
  V_run rfl (sl_len _ _ (by simp [cat_i, cat_l, rf_cat])) (V.sub [0] (by simp only [la_r, la_i, la_l, la_n]; rfl) (s_X10_booksMade_0 hw))
def n_X10_dayOfReach_0 (l0 : Option Nat) (l1 : Option Nat) (h : Hp) (Q : Int32 → Hp → Prop) : Prop :=
  gI h l0 4 387 fun v1 =>
  gR h l0 4 386 fun v2 =>
  w_X10_wayBetween v2 l1 h <| fun v3 h =>
  Q (v1 + v3) h
def w_X10_dayOfReach (l0 : Option Nat) (l1 : Option Nat) (h : Hp) (Q : Int32 → Hp → Prop) : Prop := n_X10_dayOfReach_0 l0 l1 h Q
theorem s_X10_dayOfReach_0 {l : Launch} {G : Gh} {l0 : Option Nat} {l1 : Option Nat} {h : Hp} {Q : Int32 → Hp → Prop}  (hw : n_X10_dayOfReach_0 l0 l1 h Q) : V l G 2 yX10_dayOfReach cX10_dayOfReach 2 (some .int) 0 [(0, va_rf l0), (1, va_rf l1)] [] h (qI Q) := by
  unfold n_X10_dayOfReach_0 at hw
  refine V_aload_n 0 rfl rfl dX10_dayOfReach_0 ?_
  refine X_getI (c := 3) (k := 3) fa_X10_261 rfl dX10_dayOfReach_1 hw (fun v1 hw => ?_)
  refine V_aload_n 0 rfl rfl dX10_dayOfReach_4 ?_
  refine X_getR (c := 3) (k := 2) fa_X10_262 rfl dX10_dayOfReach_5 hw (fun v2 hw => ?_)
  refine V_aload_n 1 rfl rfl dX10_dayOfReach_8 ?_
  refine X_cS [va_rf v2, va_rf l1] [.int v1] ma_X10_110 (by decide) (by decide) rfl (by simp [cat_i, cat_l, rf_cat]) rfl dX10_dayOfReach_9 (r_X10_wayBetween _ _ hw) (k_I (fun v3 h hw => ?_))
  refine V_iadd dX10_dayOfReach_12 ?_
  exact V_iret rfl dX10_dayOfReach_13 ⟨_, rfl, hw⟩
theorem r_X10_dayOfReach {l : Launch} {G : Gh} (l0 : Option Nat) (l1 : Option Nat) {h : Hp} {Q : Int32 → Hp → Prop} (hw : w_X10_dayOfReach l0 l1 h Q) : RunQ l G 2 yX10_dayOfReach cX10_dayOfReach 2 (some .int) [va_rf l0, va_rf l1] h (qI Q) :=
  V_run rfl (sl_len _ _ (by simp [cat_i, cat_l, rf_cat])) (V.sub [0, 1] (by simp only [la_r, la_i, la_l, la_n]; rfl) (s_X10_dayOfReach_0 hw))
def b_J7_fill_53178_5 (l0 : Option Nat) (l1 : Int32) (l2 : Int32) (l3 : Int32) (h : Hp) (Q : Hp → Prop) (K5 : Int32 → Hp → Prop) : Prop :=
  br (l3 ≤ l2) (
    Q h) (
    stI h l0 l2 l1 fun h =>
    lt (l2 + 1) fun x2 =>
    K5 x2 h)
def l_J7_fill_53178_5 (l0 : Option Nat) (l1 : Int32) (l2 : Int32) (l3 : Int32) (h : Hp) (Q : Hp → Prop) : Prop :=
  Lo (fun (K : Int32 → Hp → Prop) s h => b_J7_fill_53178_5 l0 l1 s l3 h Q (fun l2 h => K (l2) h)) (l2) h
def n_J7_fill_53178_0 (l0 : Option Nat) (l1 : Int32) (h : Hp) (Q : Hp → Prop) : Prop :=
  alN h l0 fun v1 =>
  l_J7_fill_53178_5 l0 l1 0 v1 h Q
def w_J7_fill_53178 (l0 : Option Nat) (l1 : Int32) (h : Hp) (Q : Hp → Prop) : Prop := n_J7_fill_53178_0 l0 l1 h Q
theorem sb_J7_fill_53178_5 {l : Launch} {G : Gh} {l0 : Option Nat} {l1 : Int32} {l2 : Int32} {l3 : Int32} {h : Hp} {Q : Hp → Prop} {K5 : Int32 → Hp → Prop} (hK5 : ∀ (l2 : Int32) (h : Hp), K5 l2 h → V l G 1 yJ7_fill_53178 cJ7_fill_53178 4 none 5 [(0, va_rf l0), (1, .int l1), (2, .int l2), (3, .int l3)] [] h (qV Q)) (hw : b_J7_fill_53178_5 l0 l1 l2 l3 h Q K5) : V l G 1 yJ7_fill_53178 cJ7_fill_53178 4 none 5 [(0, va_rf l0), (1, .int l1), (2, .int l2), (3, .int l3)] [] h (qV Q) := by
  unfold b_J7_fill_53178_5 at hw
  refine V_iload_n 2 rfl rfl dJ7_fill_53178_5 ?_
  refine V_iload_n 3 rfl rfl dJ7_fill_53178_6 ?_
  refine V_icmp_ge (tgt := 20) dJ7_fill_53178_7 (by decide) hw (fun hw => ?_) (fun hw => ?_)
  · exact V_vret rfl dJ7_fill_53178_20 ⟨rfl, hw⟩
  · refine V_aload_n 0 rfl rfl dJ7_fill_53178_10 ?_
    refine V_iload_n 2 rfl rfl dJ7_fill_53178_11 ?_
    refine V_iload_n 1 rfl rfl dJ7_fill_53178_12 ?_
    refine X_stI dJ7_fill_53178_13 hw (fun h hw => ?_)
    refine V_iincL (n := 1) 2 (fun z => [(2, .int z), (0, va_rf l0), (1, .int l1), (3, .int l3)]) rfl (by rfl) (by decide) (fun _ => rfl) dJ7_fill_53178_14 hw (fun x2 hw => ?_)
    refine V_goto (tgt := 5) dJ7_fill_53178_17 (by decide) ?_
    exact V.sub [1, 2, 0, 3] rfl (hK5 _ _ hw)
theorem s_J7_fill_53178_5 {l : Launch} {G : Gh} {l0 : Option Nat} {l1 : Int32} {l2 : Int32} {l3 : Int32} {h : Hp} {Q : Hp → Prop}  (hw : l_J7_fill_53178_5 l0 l1 l2 l3 h Q) : V l G 1 yJ7_fill_53178 cJ7_fill_53178 4 none 5 [(0, va_rf l0), (1, .int l1), (2, .int l2), (3, .int l3)] [] h (qV Q) :=
  Lo.ind (P := fun (s : Int32) h => V l G 1 yJ7_fill_53178 cJ7_fill_53178 4 none 5 [(0, va_rf l0), (1, .int l1), (2, .int s), (3, .int l3)] [] h (qV Q)) (fun K ih s h hw => sb_J7_fill_53178_5 (fun l2 h hk => ih (l2) h hk) hw) hw
theorem s_J7_fill_53178_0 {l : Launch} {G : Gh} {l0 : Option Nat} {l1 : Int32} {h : Hp} {Q : Hp → Prop}  (hw : n_J7_fill_53178_0 l0 l1 h Q) : V l G 1 yJ7_fill_53178 cJ7_fill_53178 4 none 0 [(0, va_rf l0), (1, .int l1)] [] h (qV Q) := by
  unfold n_J7_fill_53178_0 at hw
  refine V_iconst (v := 0) (by decide) dJ7_fill_53178_0 ?_
  refine V_istore_n (i := 2) [(2, .int 0), (0, va_rf l0), (1, .int l1)] rfl (by decide) rfl dJ7_fill_53178_1 ?_
  refine V_aload_n 1 rfl rfl dJ7_fill_53178_2 ?_
  refine X_alen dJ7_fill_53178_3 hw (fun v1 hw => ?_)
  refine V_istore_n (i := 3) [(3, .int v1), (2, .int 0), (0, va_rf l0), (1, .int l1)] rfl (by decide) rfl dJ7_fill_53178_4 ?_
  exact V.sub [2, 3, 1, 0] rfl (s_J7_fill_53178_5 hw)
theorem r_J7_fill_53178 {l : Launch} {G : Gh} (l0 : Option Nat) (l1 : Int32) {h : Hp} {Q : Hp → Prop} (hw : w_J7_fill_53178 l0 l1 h Q) : RunQ l G 1 yJ7_fill_53178 cJ7_fill_53178 4 none [va_rf l0, .int l1] h (qV Q) :=
  V_run rfl (sl_len _ _ (by simp [cat_i, cat_l, rf_cat])) (V.sub [0, 1] (by simp only [la_r, la_i, la_l, la_n]; rfl) (s_J7_fill_53178_0 hw))
def n_X10_likeOnes_96 (l0 : Option Nat) (l1 : Option Nat) (l2 : Option Nat) (l3 : Int32) (l4 : Int32) (l6 : Int32) (l7 : Int32) (h : Hp) (Q : Int32 → Hp → Prop) (K19 : Int32 → Hp → Prop) (K32 : Int32 → Int32 → Hp → Prop) : Prop :=
  lt (l6 + 1) fun x14 =>
  K32 l7 x14 h
def b_X10_likeOnes_32 (l0 : Option Nat) (l1 : Option Nat) (l2 : Option Nat) (l3 : Int32) (l4 : Int32) (l5 : Int32) (l6 : Int32) (h : Hp) (Q : Int32 → Hp → Prop) (K19 : Int32 → Hp → Prop) (K32 : Int32 → Int32 → Hp → Prop) : Prop :=
  br (l3 < l6) (
    lt (l4 + 1) fun x8 =>
    K19 x8 h) (
    gR h l0 11 1287 fun v9 =>
    ldI h v9 l6 fun v10 =>
    ldL h l1 l4 fun v11 =>
    ldL h l2 (l6 - 1) fun v12 =>
    br ((lg_cmp v11 v12) = 0) (
      gR h l0 11 1287 fun v13 =>
      stI h v13 l6 (l5 + 1) fun h =>
      n_X10_likeOnes_96 l0 l1 l2 l3 l4 l6 v10 h Q K19 K32) (
      gR h l0 11 1287 fun v15 =>
      gR h l0 11 1287 fun v16 =>
      ldI h v16 (l6 - 1) fun v17 =>
      lt (if v10 < v17 then v17 else v10) fun v18 =>
      stI h v15 l6 v18 fun h =>
      n_X10_likeOnes_96 l0 l1 l2 l3 l4 l6 v10 h Q K19 K32))
def l_X10_likeOnes_32 (l0 : Option Nat) (l1 : Option Nat) (l2 : Option Nat) (l3 : Int32) (l4 : Int32) (l5 : Int32) (l6 : Int32) (h : Hp) (Q : Int32 → Hp → Prop) (K19 : Int32 → Hp → Prop) : Prop :=
  Lo (fun (K : Int32 × Int32 → Hp → Prop) s h => b_X10_likeOnes_32 l0 l1 l2 l3 l4 s.1 s.2 h Q K19 (fun l5 l6 h => K (l5, l6) h)) (l5, l6) h
def b_X10_likeOnes_19 (l0 : Option Nat) (l1 : Option Nat) (l2 : Option Nat) (l3 : Int32) (l4 : Int32) (h : Hp) (Q : Int32 → Hp → Prop) (K19 : Int32 → Hp → Prop) : Prop :=
  alN h l1 fun v5 =>
  br (v5 ≤ l4) (
    gR h l0 11 1287 fun v6 =>
    ldI h v6 l3 fun v7 =>
    Q v7 h) (
    l_X10_likeOnes_32 l0 l1 l2 l3 l4 0 1 h Q K19)
def l_X10_likeOnes_19 (l0 : Option Nat) (l1 : Option Nat) (l2 : Option Nat) (l3 : Int32) (l4 : Int32) (h : Hp) (Q : Int32 → Hp → Prop) : Prop :=
  Lo (fun (K : Int32 → Hp → Prop) s h => b_X10_likeOnes_19 l0 l1 l2 l3 s h Q (fun l4 h => K (l4) h)) (l4) h
def n_X10_likeOnes_0 (l0 : Option Nat) (l1 : Option Nat) (l2 : Option Nat) (h : Hp) (Q : Int32 → Hp → Prop) : Prop :=
  gR h l0 11 1287 fun v1 =>
  w_J7_fill_53178 v1 0 h <| fun h =>
  alN h l2 fun v3 =>
  lt (if 20 < v3 then 20 else v3) fun v4 =>
  l_X10_likeOnes_19 l0 l1 l2 v4 0 h Q
def w_X10_likeOnes (l0 : Option Nat) (l1 : Option Nat) (l2 : Option Nat) (h : Hp) (Q : Int32 → Hp → Prop) : Prop := n_X10_likeOnes_0 l0 l1 l2 h Q
theorem s_X10_likeOnes_96 {l : Launch} {G : Gh} {l0 : Option Nat} {l1 : Option Nat} {l2 : Option Nat} {l3 : Int32} {l4 : Int32} {l6 : Int32} {l7 : Int32} {h : Hp} {Q : Int32 → Hp → Prop} {K19 : Int32 → Hp → Prop} {K32 : Int32 → Int32 → Hp → Prop} (hK19 : ∀ (l4 : Int32) (h : Hp), K19 l4 h → V l G 2 yX10_likeOnes cX10_likeOnes 8 (some .int) 19 [(0, va_rf l0), (1, va_rf l1), (2, va_rf l2), (3, .int l3), (4, .int l4)] [] h (qI Q)) (hK32 : ∀ (l5 : Int32) (l6 : Int32) (h : Hp), K32 l5 l6 h → V l G 2 yX10_likeOnes cX10_likeOnes 8 (some .int) 32 [(0, va_rf l0), (1, va_rf l1), (2, va_rf l2), (3, .int l3), (4, .int l4), (5, .int l5), (6, .int l6)] [] h (qI Q)) (hw : n_X10_likeOnes_96 l0 l1 l2 l3 l4 l6 l7 h Q K19 K32) : V l G 2 yX10_likeOnes cX10_likeOnes 8 (some .int) 96 [(0, va_rf l0), (1, va_rf l1), (2, va_rf l2), (3, .int l3), (4, .int l4), (6, .int l6), (7, .int l7)] [] h (qI Q) := by
  unfold n_X10_likeOnes_96 at hw
  refine V_iload 6 rfl dX10_likeOnes_96 ?_
  refine V_istore (i := 5) [(5, .int l7), (0, va_rf l0), (1, va_rf l1), (2, va_rf l2), (3, .int l3), (4, .int l4), (6, .int l6), (7, .int l7)] (by decide) rfl dX10_likeOnes_98 ?_
  refine V_iincL (n := 1) 6 (fun z => [(6, .int z), (5, .int l7), (0, va_rf l0), (1, va_rf l1), (2, va_rf l2), (3, .int l3), (4, .int l4), (7, .int l7)]) rfl (by rfl) (by decide) (fun _ => rfl) dX10_likeOnes_100 hw (fun x14 hw => ?_)
  refine V_goto (tgt := 32) dX10_likeOnes_103 (by decide) ?_
  exact V.sub [2, 3, 4, 5, 6, 1, 0] rfl (hK32 _ _ _ hw)
set_option maxRecDepth 20000 in
theorem sb_X10_likeOnes_32 {l : Launch} {G : Gh} {l0 : Option Nat} {l1 : Option Nat} {l2 : Option Nat} {l3 : Int32} {l4 : Int32} {l5 : Int32} {l6 : Int32} {h : Hp} {Q : Int32 → Hp → Prop} {K19 : Int32 → Hp → Prop} {K32 : Int32 → Int32 → Hp → Prop} (hK19 : ∀ (l4 : Int32) (h : Hp), K19 l4 h → V l G 2 yX10_likeOnes cX10_likeOnes 8 (some .int) 19 [(0, va_rf l0), (1, va_rf l1), (2, va_rf l2), (3, .int l3), (4, .int l4)] [] h (qI Q)) (hK32 : ∀ (l5 : Int32) (l6 : Int32) (h : Hp), K32 l5 l6 h → V l G 2 yX10_likeOnes cX10_likeOnes 8 (some .int) 32 [(0, va_rf l0), (1, va_rf l1), (2, va_rf l2), (3, .int l3), (4, .int l4), (5, .int l5), (6, .int l6)] [] h (qI Q)) (hw : b_X10_likeOnes_32 l0 l1 l2 l3 l4 l5 l6 h Q K19 K32) : V l G 2 yX10_likeOnes cX10_likeOnes 8 (some .int) 32 [(0, va_rf l0), (1, va_rf l1), (2, va_rf l2), (3, .int l3), (4, .int l4), (5, .int l5), (6, .int l6)] [] h (qI Q) := by
  unfold b_X10_likeOnes_32 at hw
  refine V_iload 6 rfl dX10_likeOnes_32 ?_
  refine V_iload_n 3 rfl rfl dX10_likeOnes_34 ?_
  refine V_icmp_gt (tgt := 106) dX10_likeOnes_35 (by decide) hw (fun hw => ?_) (fun hw => ?_)
  · refine V_iincL (n := 1) 4 (fun z => [(4, .int z), (0, va_rf l0), (1, va_rf l1), (2, va_rf l2), (3, .int l3), (5, .int l5), (6, .int l6)]) rfl (by rfl) (by decide) (fun _ => rfl) dX10_likeOnes_106 hw (fun x8 hw => ?_)
    refine V_goto (tgt := 19) dX10_likeOnes_109 (by decide) ?_
    exact V.sub [1, 2, 3, 4, 0] rfl (hK19 _ _ hw)
  · refine V_aload_n 0 rfl rfl dX10_likeOnes_38 ?_
    refine X_getR (c := 10) (k := 7) fa_X10_49 rfl dX10_likeOnes_39 hw (fun v9 hw => ?_)
    refine V_iload 6 rfl dX10_likeOnes_42 ?_
    refine X_ldI dX10_likeOnes_44 hw (fun v10 hw => ?_)
    refine V_istore (i := 7) [(7, .int v10), (0, va_rf l0), (1, va_rf l1), (2, va_rf l2), (3, .int l3), (4, .int l4), (5, .int l5), (6, .int l6)] (by decide) rfl dX10_likeOnes_45 ?_
    refine V_aload_n 2 rfl rfl dX10_likeOnes_47 ?_
    refine V_iload 5 rfl dX10_likeOnes_48 ?_
    refine X_ldL dX10_likeOnes_50 hw (fun v11 hw => ?_)
    refine V_aload_n 3 rfl rfl dX10_likeOnes_51 ?_
    refine V_iload 7 rfl dX10_likeOnes_52 ?_
    refine V_iconst (v := 1) (by decide) dX10_likeOnes_54 ?_
    refine V_isub dX10_likeOnes_55 ?_
    refine X_ldL dX10_likeOnes_56 hw (fun v12 hw => ?_)
    refine V_lcmp dX10_likeOnes_57 ?_
    refine V_if_ne (tgt := 75) dX10_likeOnes_58 (by decide) hw (fun hw => ?_) (fun hw => ?_)
    · refine V_aload_n 1 rfl rfl dX10_likeOnes_61 ?_
      refine X_getR (c := 10) (k := 7) fa_X10_49 rfl dX10_likeOnes_62 hw (fun v13 hw => ?_)
      refine V_iload 7 rfl dX10_likeOnes_65 ?_
      refine V_iload 6 rfl dX10_likeOnes_67 ?_
      refine V_iconst (v := 1) (by decide) dX10_likeOnes_69 ?_
      refine V_iadd dX10_likeOnes_70 ?_
      refine X_stI dX10_likeOnes_71 hw (fun h hw => ?_)
      refine V_goto (tgt := 96) dX10_likeOnes_72 (by decide) ?_
      exact V.sub [1, 2, 3, 4, 5, 7, 0] rfl (s_X10_likeOnes_96 hK19 hK32 hw)
    · refine V_aload_n 1 rfl rfl dX10_likeOnes_75 ?_
      refine X_getR (c := 10) (k := 7) fa_X10_49 rfl dX10_likeOnes_76 hw (fun v15 hw => ?_)
      refine V_iload 7 rfl dX10_likeOnes_79 ?_
      refine V_iload 0 rfl dX10_likeOnes_81 ?_
      refine V_aload_n 1 rfl rfl dX10_likeOnes_83 ?_
      refine X_getR (c := 10) (k := 7) fa_X10_49 rfl dX10_likeOnes_84 hw (fun v16 hw => ?_)
      refine V_iload 7 rfl dX10_likeOnes_87 ?_
      refine V_iconst (v := 1) (by decide) dX10_likeOnes_89 ?_
      refine V_isub dX10_likeOnes_90 ?_
      refine X_ldI dX10_likeOnes_91 hw (fun v17 hw => ?_)
      refine X_mmax wl_X10_275 (by decide) (by simp [cat_i, cat_l, rf_cat]) dX10_likeOnes_92 hw (fun v18 hw => ?_)
      refine X_stI dX10_likeOnes_95 hw (fun h hw => ?_)
      exact V.sub [1, 2, 3, 4, 5, 7, 0] rfl (s_X10_likeOnes_96 hK19 hK32 hw)
theorem s_X10_likeOnes_32 {l : Launch} {G : Gh} {l0 : Option Nat} {l1 : Option Nat} {l2 : Option Nat} {l3 : Int32} {l4 : Int32} {l5 : Int32} {l6 : Int32} {h : Hp} {Q : Int32 → Hp → Prop} {K19 : Int32 → Hp → Prop} (hK19 : ∀ (l4 : Int32) (h : Hp), K19 l4 h → V l G 2 yX10_likeOnes cX10_likeOnes 8 (some .int) 19 [(0, va_rf l0), (1, va_rf l1), (2, va_rf l2), (3, .int l3), (4, .int l4)] [] h (qI Q)) (hw : l_X10_likeOnes_32 l0 l1 l2 l3 l4 l5 l6 h Q K19) : V l G 2 yX10_likeOnes cX10_likeOnes 8 (some .int) 32 [(0, va_rf l0), (1, va_rf l1), (2, va_rf l2), (3, .int l3), (4, .int l4), (5, .int l5), (6, .int l6)] [] h (qI Q) :=
  Lo.ind (P := fun (s : Int32 × Int32) h => V l G 2 yX10_likeOnes cX10_likeOnes 8 (some .int) 32 [(0, va_rf l0), (1, va_rf l1), (2, va_rf l2), (3, .int l3), (4, .int l4), (5, .int s.1), (6, .int s.2)] [] h (qI Q)) (fun K ih s h hw => sb_X10_likeOnes_32 hK19 (fun l5 l6 h hk => ih (l5, l6) h hk) hw) hw
