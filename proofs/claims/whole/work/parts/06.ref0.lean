def n_X11_isPlace_17 (s0 : Int32) (h : Hp) (Q : Int32 → Hp → Prop) : Prop :=
  rZ s0 h Q
def n_X11_isPlace_16 (h : Hp) (Q : Int32 → Hp → Prop) : Prop :=
  n_X11_isPlace_17 0 h Q
def n_X11_isPlace_0 (l0 : Option Nat) (l1 : Int32) (h : Hp) (Q : Int32 → Hp → Prop) : Prop :=
  br (l1 < 0) (
    n_X11_isPlace_16 h Q) (
    gI h l0 12 1409 fun v1 =>
    br (v1 ≤ l1) (
      n_X11_isPlace_16 h Q) (
      n_X11_isPlace_17 1 h Q))
def w_X11_isPlace (l0 : Option Nat) (l1 : Int32) (h : Hp) (Q : Int32 → Hp → Prop) : Prop := n_X11_isPlace_0 l0 l1 h Q
theorem s_X11_isPlace_17 {l : Launch} {G : Gh} {s0 : Int32} {h : Hp} {Q : Int32 → Hp → Prop}  (hw : n_X11_isPlace_17 s0 h Q) : V l G 1 yX11_isPlace cX11_isPlace 2 (some .boolean) 17 [] [.int s0] h (qI Q) := by
  unfold n_X11_isPlace_17 at hw
  exact V_zret rfl hw.1 dX11_isPlace_17 ⟨_, rfl, hw.2⟩
theorem s_X11_isPlace_16 {l : Launch} {G : Gh}  {h : Hp} {Q : Int32 → Hp → Prop}  (hw : n_X11_isPlace_16 h Q) : V l G 1 yX11_isPlace cX11_isPlace 2 (some .boolean) 16 [] [] h (qI Q) := by
  unfold n_X11_isPlace_16 at hw
  refine V_iconst (v := 0) (by decide) dX11_isPlace_16 ?_
  exact V.sub [] rfl (s_X11_isPlace_17 hw)
theorem s_X11_isPlace_0 {l : Launch} {G : Gh} {l0 : Option Nat} {l1 : Int32} {h : Hp} {Q : Int32 → Hp → Prop}  (hw : n_X11_isPlace_0 l0 l1 h Q) : V l G 1 yX11_isPlace cX11_isPlace 2 (some .boolean) 0 [(0, va_rf l0), (1, .int l1)] [] h (qI Q) := by
  unfold n_X11_isPlace_0 at hw
  refine V_iload_n 1 rfl rfl dX11_isPlace_0 ?_
  refine V_if_lt (tgt := 16) dX11_isPlace_1 (by decide) hw (fun hw => ?_) (fun hw => ?_)
  · exact V.sub [] rfl (s_X11_isPlace_16 hw)
  · refine V_iload_n 1 rfl rfl dX11_isPlace_4 ?_
    refine V_aload_n 0 rfl rfl dX11_isPlace_5 ?_
    refine X_getI (c := 11) (k := 1) fa_X11_7 rfl dX11_isPlace_6 hw (fun v1 hw => ?_)
    refine V_icmp_ge (tgt := 16) dX11_isPlace_9 (by decide) hw (fun hw => ?_) (fun hw => ?_)
    · exact V.sub [] rfl (s_X11_isPlace_16 hw)
    · refine V_iconst (v := 1) (by decide) dX11_isPlace_12 ?_
      refine V_goto (tgt := 17) dX11_isPlace_13 (by decide) ?_
      exact V.sub [] rfl (s_X11_isPlace_17 hw)
theorem r_X11_isPlace {l : Launch} {G : Gh} (l0 : Option Nat) (l1 : Int32) {h : Hp} {Q : Int32 → Hp → Prop} (hw : w_X11_isPlace l0 l1 h Q) : RunQ l G 1 yX11_isPlace cX11_isPlace 2 (some .boolean) [va_rf l0, .int l1] h (qI Q) :=
  V_run rfl (sl_len _ _ (by simp [cat_i, cat_l, rf_cat])) (V.sub [0, 1] (by simp only [la_r, la_i, la_l, la_n]; rfl) (s_X11_isPlace_0 hw))
def n_X11_isBelow_32 (s0 : Int32) (h : Hp) (Q : Int32 → Hp → Prop) : Prop :=
  rZ s0 h Q
def n_X11_isBelow_22 (l2 : Int32) (l3 : Int32) (h : Hp) (Q : Int32 → Hp → Prop) : Prop :=
  br (l3 = l2) (
    n_X11_isBelow_32 1 h Q) (
    n_X11_isBelow_32 0 h Q)
def b_X11_isBelow_2 (l0 : Option Nat) (l2 : Int32) (l3 : Int32) (h : Hp) (Q : Int32 → Hp → Prop) (K2 : Int32 → Hp → Prop) : Prop :=
  br (l3 = (-1)) (
    n_X11_isBelow_22 l2 l3 h Q) (
    br (l3 = l2) (
      n_X11_isBelow_22 l2 l3 h Q) (
      gR h l0 12 1416 fun v1 =>
      ldI h v1 l3 fun v2 =>
      K2 v2 h))
def l_X11_isBelow_2 (l0 : Option Nat) (l2 : Int32) (l3 : Int32) (h : Hp) (Q : Int32 → Hp → Prop) : Prop :=
  Lo (fun (K : Int32 → Hp → Prop) s h => b_X11_isBelow_2 l0 l2 s h Q (fun l3 h => K (l3) h)) (l3) h
def n_X11_isBelow_0 (l0 : Option Nat) (l1 : Int32) (l2 : Int32) (h : Hp) (Q : Int32 → Hp → Prop) : Prop :=
  l_X11_isBelow_2 l0 l2 l1 h Q
def w_X11_isBelow (l0 : Option Nat) (l1 : Int32) (l2 : Int32) (h : Hp) (Q : Int32 → Hp → Prop) : Prop := n_X11_isBelow_0 l0 l1 l2 h Q
theorem s_X11_isBelow_32 {l : Launch} {G : Gh} {s0 : Int32} {h : Hp} {Q : Int32 → Hp → Prop}  (hw : n_X11_isBelow_32 s0 h Q) : V l G 1 yX11_isBelow cX11_isBelow 4 (some .boolean) 32 [] [.int s0] h (qI Q) := by
  unfold n_X11_isBelow_32 at hw
  exact V_zret rfl hw.1 dX11_isBelow_32 ⟨_, rfl, hw.2⟩
theorem s_X11_isBelow_22 {l : Launch} {G : Gh} {l2 : Int32} {l3 : Int32} {h : Hp} {Q : Int32 → Hp → Prop}  (hw : n_X11_isBelow_22 l2 l3 h Q) : V l G 1 yX11_isBelow cX11_isBelow 4 (some .boolean) 22 [(2, .int l2), (3, .int l3)] [] h (qI Q) := by
  unfold n_X11_isBelow_22 at hw
  refine V_iload_n 1 rfl rfl dX11_isBelow_22 ?_
  refine V_iload_n 0 rfl rfl dX11_isBelow_23 ?_
  refine V_icmp_ne (tgt := 31) dX11_isBelow_24 (by decide) hw (fun hw => ?_) (fun hw => ?_)
  · refine V_iconst (v := 1) (by decide) dX11_isBelow_27 ?_
    refine V_goto (tgt := 32) dX11_isBelow_28 (by decide) ?_
    exact V.sub [] rfl (s_X11_isBelow_32 hw)
  · refine V_iconst (v := 0) (by decide) dX11_isBelow_31 ?_
    exact V.sub [] rfl (s_X11_isBelow_32 hw)
theorem sb_X11_isBelow_2 {l : Launch} {G : Gh} {l0 : Option Nat} {l2 : Int32} {l3 : Int32} {h : Hp} {Q : Int32 → Hp → Prop} {K2 : Int32 → Hp → Prop} (hK2 : ∀ (l3 : Int32) (h : Hp), K2 l3 h → V l G 1 yX11_isBelow cX11_isBelow 4 (some .boolean) 2 [(0, va_rf l0), (2, .int l2), (3, .int l3)] [] h (qI Q)) (hw : b_X11_isBelow_2 l0 l2 l3 h Q K2) : V l G 1 yX11_isBelow cX11_isBelow 4 (some .boolean) 2 [(0, va_rf l0), (2, .int l2), (3, .int l3)] [] h (qI Q) := by
  unfold b_X11_isBelow_2 at hw
  refine V_iload_n 2 rfl rfl dX11_isBelow_2 ?_
  refine V_iconst (v := (-1)) (by decide) dX11_isBelow_3 ?_
  refine V_icmp_eq (tgt := 22) dX11_isBelow_4 (by decide) hw (fun hw => ?_) (fun hw => ?_)
  · exact V.sub [1, 2] rfl (s_X11_isBelow_22 hw)
  · refine V_iload_n 2 rfl rfl dX11_isBelow_7 ?_
    refine V_iload_n 1 rfl rfl dX11_isBelow_8 ?_
    refine V_icmp_eq (tgt := 22) dX11_isBelow_9 (by decide) hw (fun hw => ?_) (fun hw => ?_)
    · exact V.sub [1, 2] rfl (s_X11_isBelow_22 hw)
    · refine V_aload_n 0 rfl rfl dX11_isBelow_12 ?_
      refine X_getR (c := 11) (k := 8) fa_X11_20 rfl dX11_isBelow_13 hw (fun v1 hw => ?_)
      refine V_iload_n 2 rfl rfl dX11_isBelow_16 ?_
      refine X_ldI dX11_isBelow_17 hw (fun v2 hw => ?_)
      refine V_istore_n (i := 3) [(3, .int v2), (0, va_rf l0), (2, .int l2)] rfl (by decide) rfl dX11_isBelow_18 ?_
      refine V_goto (tgt := 2) dX11_isBelow_19 (by decide) ?_
      exact V.sub [1, 2, 0] rfl (hK2 _ _ hw)
theorem s_X11_isBelow_2 {l : Launch} {G : Gh} {l0 : Option Nat} {l2 : Int32} {l3 : Int32} {h : Hp} {Q : Int32 → Hp → Prop}  (hw : l_X11_isBelow_2 l0 l2 l3 h Q) : V l G 1 yX11_isBelow cX11_isBelow 4 (some .boolean) 2 [(0, va_rf l0), (2, .int l2), (3, .int l3)] [] h (qI Q) :=
  Lo.ind (P := fun (s : Int32) h => V l G 1 yX11_isBelow cX11_isBelow 4 (some .boolean) 2 [(0, va_rf l0), (2, .int l2), (3, .int s)] [] h (qI Q)) (fun K ih s h hw => sb_X11_isBelow_2 (fun l3 h hk => ih (l3) h hk) hw) hw
theorem s_X11_isBelow_0 {l : Launch} {G : Gh} {l0 : Option Nat} {l1 : Int32} {l2 : Int32} {h : Hp} {Q : Int32 → Hp → Prop}  (hw : n_X11_isBelow_0 l0 l1 l2 h Q) : V l G 1 yX11_isBelow cX11_isBelow 4 (some .boolean) 0 [(0, va_rf l0), (1, .int l1), (2, .int l2)] [] h (qI Q) := by
  unfold n_X11_isBelow_0 at hw
  refine V_iload_n 1 rfl rfl dX11_isBelow_0 ?_
  refine V_istore_n (i := 3) [(3, .int l1), (0, va_rf l0), (1, .int l1), (2, .int l2)] rfl (by decide) rfl dX11_isBelow_1 ?_
  exact V.sub [1, 3, 0] rfl (s_X11_isBelow_2 hw)
theorem r_X11_isBelow {l : Launch} {G : Gh} (l0 : Option Nat) (l1 : Int32) (l2 : Int32) {h : Hp} {Q : Int32 → Hp → Prop} (hw : w_X11_isBelow l0 l1 l2 h Q) : RunQ l G 1 yX11_isBelow cX11_isBelow 4 (some .boolean) [va_rf l0, .int l1, .int l2] h (qI Q) :=
  V_run rfl (sl_len _ _ (by simp [cat_i, cat_l, rf_cat])) (V.sub [0, 1, 2] (by simp only [la_r, la_i, la_l, la_n]; rfl) (s_X11_isBelow_0 hw))
def n_X11_hearthsOf_39 (l0 : Option Nat) (l1 : Int32) (l2 : Int32) (l3 : Int32) (h : Hp) (Q : Int32 → Hp → Prop) (K4 : Int32 → Int32 → Hp → Prop) : Prop :=
  lt (l3 + 1) fun x5 =>
  K4 l2 x5 h
def b_X11_hearthsOf_4 (l0 : Option Nat) (l1 : Int32) (l2 : Int32) (l3 : Int32) (h : Hp) (Q : Int32 → Hp → Prop) (K4 : Int32 → Int32 → Hp → Prop) : Prop :=
  gI h l0 12 1409 fun v1 =>
  br (v1 ≤ l3) (
    Q l2 h) (
    gR h l0 12 1415 fun v2 =>
    ldI h v2 l3 fun v3 =>
    br (v3 = 0) (
      oV h l0 12 <| w_X11_isBelow l0 l3 l1 h <| fun v4 h =>
      br (v4 = 0) (
        n_X11_hearthsOf_39 l0 l1 l2 l3 h Q K4) (
        gR h l0 12 1419 fun v6 =>
        ldI h v6 l3 fun v7 =>
        lt (l2 + v7) fun x8 =>
        n_X11_hearthsOf_39 l0 l1 x8 l3 h Q K4)) (
      n_X11_hearthsOf_39 l0 l1 l2 l3 h Q K4))
def l_X11_hearthsOf_4 (l0 : Option Nat) (l1 : Int32) (l2 : Int32) (l3 : Int32) (h : Hp) (Q : Int32 → Hp → Prop) : Prop :=
  Lo (fun (K : Int32 × Int32 → Hp → Prop) s h => b_X11_hearthsOf_4 l0 l1 s.1 s.2 h Q (fun l2 l3 h => K (l2, l3) h)) (l2, l3) h
def n_X11_hearthsOf_0 (l0 : Option Nat) (l1 : Int32) (h : Hp) (Q : Int32 → Hp → Prop) : Prop :=
  l_X11_hearthsOf_4 l0 l1 0 0 h Q
def w_X11_hearthsOf (l0 : Option Nat) (l1 : Int32) (h : Hp) (Q : Int32 → Hp → Prop) : Prop := n_X11_hearthsOf_0 l0 l1 h Q
theorem s_X11_hearthsOf_39 {l : Launch} {G : Gh} {l0 : Option Nat} {l1 : Int32} {l2 : Int32} {l3 : Int32} {h : Hp} {Q : Int32 → Hp → Prop} {K4 : Int32 → Int32 → Hp → Prop} (hK4 : ∀ (l2 : Int32) (l3 : Int32) (h : Hp), K4 l2 l3 h → V l G 2 yX11_hearthsOf cX11_hearthsOf 4 (some .int) 4 [(0, va_rf l0), (1, .int l1), (2, .int l2), (3, .int l3)] [] h (qI Q)) (hw : n_X11_hearthsOf_39 l0 l1 l2 l3 h Q K4) : V l G 2 yX11_hearthsOf cX11_hearthsOf 4 (some .int) 39 [(0, va_rf l0), (1, .int l1), (2, .int l2), (3, .int l3)] [] h (qI Q) := by
  unfold n_X11_hearthsOf_39 at hw
  refine V_iincL (n := 1) 3 (fun z => [(3, .int z), (0, va_rf l0), (1, .int l1), (2, .int l2)]) rfl (by rfl) (by decide) (fun _ => rfl) dX11_hearthsOf_39 hw (fun x5 hw => ?_)
  refine V_goto (tgt := 4) dX11_hearthsOf_42 (by decide) ?_
  exact V.sub [1, 2, 3, 0] rfl (hK4 _ _ _ hw)
theorem sb_X11_hearthsOf_4 {l : Launch} {G : Gh} {l0 : Option Nat} {l1 : Int32} {l2 : Int32} {l3 : Int32} {h : Hp} {Q : Int32 → Hp → Prop} {K4 : Int32 → Int32 → Hp → Prop} (hK4 : ∀ (l2 : Int32) (l3 : Int32) (h : Hp), K4 l2 l3 h → V l G 2 yX11_hearthsOf cX11_hearthsOf 4 (some .int) 4 [(0, va_rf l0), (1, .int l1), (2, .int l2), (3, .int l3)] [] h (qI Q)) (hw : b_X11_hearthsOf_4 l0 l1 l2 l3 h Q K4) : V l G 2 yX11_hearthsOf cX11_hearthsOf 4 (some .int) 4 [(0, va_rf l0), (1, .int l1), (2, .int l2), (3, .int l3)] [] h (qI Q) := by
  unfold b_X11_hearthsOf_4 at hw
  refine V_iload_n 3 rfl rfl dX11_hearthsOf_4 ?_
  refine V_aload_n 0 rfl rfl dX11_hearthsOf_5 ?_
  refine X_getI (c := 11) (k := 1) fa_X11_7 rfl dX11_hearthsOf_6 hw (fun v1 hw => ?_)
  refine V_icmp_ge (tgt := 45) dX11_hearthsOf_9 (by decide) hw (fun hw => ?_) (fun hw => ?_)
  · refine V_iload_n 2 rfl rfl dX11_hearthsOf_45 ?_
    exact V_iret rfl dX11_hearthsOf_46 ⟨_, rfl, hw⟩
  · refine V_aload_n 0 rfl rfl dX11_hearthsOf_12 ?_
    refine X_getR (c := 11) (k := 7) fa_X11_16 rfl dX11_hearthsOf_13 hw (fun v2 hw => ?_)
    refine V_iload_n 3 rfl rfl dX11_hearthsOf_16 ?_
    refine X_ldI dX11_hearthsOf_17 hw (fun v3 hw => ?_)
    refine V_if_ne (tgt := 39) dX11_hearthsOf_18 (by decide) hw (fun hw => ?_) (fun hw => ?_)
    · refine V_aload_n 0 rfl rfl dX11_hearthsOf_21 ?_
      refine V_iload_n 3 rfl rfl dX11_hearthsOf_22 ?_
      refine V_iload_n 1 rfl rfl dX11_hearthsOf_23 ?_
      refine X_cV 11 [.int l3, .int l1] [] ma_X11_227 (by decide) rfl (by decide) (by decide) rfl (by simp [cat_i, cat_l, rf_cat]) rfl dX11_hearthsOf_24 hw (r_X11_isBelow _ _ _) (k_I (fun v4 h hw => ?_))
      refine V_if_eq (tgt := 39) dX11_hearthsOf_27 (by decide) hw (fun hw => ?_) (fun hw => ?_)
      · exact V.sub [0, 1, 2, 3] rfl (s_X11_hearthsOf_39 hK4 hw)
      · refine V_iload_n 2 rfl rfl dX11_hearthsOf_30 ?_
        refine V_aload_n 0 rfl rfl dX11_hearthsOf_31 ?_
        refine X_getR (c := 11) (k := 11) fa_X11_29 rfl dX11_hearthsOf_32 hw (fun v6 hw => ?_)
        refine V_iload_n 3 rfl rfl dX11_hearthsOf_35 ?_
        refine X_ldI dX11_hearthsOf_36 hw (fun v7 hw => ?_)
        refine V_iadd dX11_hearthsOf_37 ?_
        refine V_ltI hw (fun x8 hw => ?_)
        refine V_istore_n (i := 2) [(2, .int x8), (0, va_rf l0), (1, .int l1), (3, .int l3)] rfl (by decide) rfl dX11_hearthsOf_38 ?_
        exact V.sub [1, 2, 0, 3] rfl (s_X11_hearthsOf_39 hK4 hw)
    · exact V.sub [0, 1, 2, 3] rfl (s_X11_hearthsOf_39 hK4 hw)
theorem s_X11_hearthsOf_4 {l : Launch} {G : Gh} {l0 : Option Nat} {l1 : Int32} {l2 : Int32} {l3 : Int32} {h : Hp} {Q : Int32 → Hp → Prop}  (hw : l_X11_hearthsOf_4 l0 l1 l2 l3 h Q) : V l G 2 yX11_hearthsOf cX11_hearthsOf 4 (some .int) 4 [(0, va_rf l0), (1, .int l1), (2, .int l2), (3, .int l3)] [] h (qI Q) :=
  Lo.ind (P := fun (s : Int32 × Int32) h => V l G 2 yX11_hearthsOf cX11_hearthsOf 4 (some .int) 4 [(0, va_rf l0), (1, .int l1), (2, .int s.1), (3, .int s.2)] [] h (qI Q)) (fun K ih s h hw => sb_X11_hearthsOf_4 (fun l2 l3 h hk => ih (l2, l3) h hk) hw) hw
theorem s_X11_hearthsOf_0 {l : Launch} {G : Gh} {l0 : Option Nat} {l1 : Int32} {h : Hp} {Q : Int32 → Hp → Prop}  (hw : n_X11_hearthsOf_0 l0 l1 h Q) : V l G 2 yX11_hearthsOf cX11_hearthsOf 4 (some .int) 0 [(0, va_rf l0), (1, .int l1)] [] h (qI Q) := by
  unfold n_X11_hearthsOf_0 at hw
  refine V_iconst (v := 0) (by decide) dX11_hearthsOf_0 ?_
  refine V_istore_n (i := 2) [(2, .int 0), (0, va_rf l0), (1, .int l1)] rfl (by decide) rfl dX11_hearthsOf_1 ?_
  refine V_iconst (v := 0) (by decide) dX11_hearthsOf_2 ?_
  refine V_istore_n (i := 3) [(3, .int 0), (2, .int 0), (0, va_rf l0), (1, .int l1)] rfl (by decide) rfl dX11_hearthsOf_3 ?_
  exact V.sub [2, 3, 1, 0] rfl (s_X11_hearthsOf_4 hw)
theorem r_X11_hearthsOf {l : Launch} {G : Gh} (l0 : Option Nat) (l1 : Int32) {h : Hp} {Q : Int32 → Hp → Prop} (hw : w_X11_hearthsOf l0 l1 h Q) : RunQ l G 2 yX11_hearthsOf cX11_hearthsOf 4 (some .int) [va_rf l0, .int l1] h (qI Q) :=
  V_run rfl (sl_len _ _ (by simp [cat_i, cat_l, rf_cat])) (V.sub [0, 1] (by simp only [la_r, la_i, la_l, la_n]; rfl) (s_X11_hearthsOf_0 hw))
def n_X11_bookSize_25 (l0 : Option Nat) (l1 : Int32) (l2 : Int32) (l3 : Int32) (h : Hp) (Q : Int32 → Hp → Prop) (K4 : Int32 → Int32 → Hp → Prop) : Prop :=
  lt (l3 + 1) fun x5 =>
  K4 l2 x5 h
def b_X11_bookSize_4 (l0 : Option Nat) (l1 : Int32) (l2 : Int32) (l3 : Int32) (h : Hp) (Q : Int32 → Hp → Prop) (K4 : Int32 → Int32 → Hp → Prop) : Prop :=
  gI h l0 12 1410 fun v1 =>
  br (v1 ≤ l3) (
    Q l2 h) (
    gR h l0 12 1430 fun v2 =>
    ldI h v2 l3 fun v3 =>
    br (v3 = l1) (
      lt (l2 + 1) fun x4 =>
      n_X11_bookSize_25 l0 l1 x4 l3 h Q K4) (
      n_X11_bookSize_25 l0 l1 l2 l3 h Q K4))
def l_X11_bookSize_4 (l0 : Option Nat) (l1 : Int32) (l2 : Int32) (l3 : Int32) (h : Hp) (Q : Int32 → Hp → Prop) : Prop :=
  Lo (fun (K : Int32 × Int32 → Hp → Prop) s h => b_X11_bookSize_4 l0 l1 s.1 s.2 h Q (fun l2 l3 h => K (l2, l3) h)) (l2, l3) h
def n_X11_bookSize_0 (l0 : Option Nat) (l1 : Int32) (h : Hp) (Q : Int32 → Hp → Prop) : Prop :=
  l_X11_bookSize_4 l0 l1 0 0 h Q
def w_X11_bookSize (l0 : Option Nat) (l1 : Int32) (h : Hp) (Q : Int32 → Hp → Prop) : Prop := n_X11_bookSize_0 l0 l1 h Q
theorem s_X11_bookSize_25 {l : Launch} {G : Gh} {l0 : Option Nat} {l1 : Int32} {l2 : Int32} {l3 : Int32} {h : Hp} {Q : Int32 → Hp → Prop} {K4 : Int32 → Int32 → Hp → Prop} (hK4 : ∀ (l2 : Int32) (l3 : Int32) (h : Hp), K4 l2 l3 h → V l G 1 yX11_bookSize cX11_bookSize 4 (some .int) 4 [(0, va_rf l0), (1, .int l1), (2, .int l2), (3, .int l3)] [] h (qI Q)) (hw : n_X11_bookSize_25 l0 l1 l2 l3 h Q K4) : V l G 1 yX11_bookSize cX11_bookSize 4 (some .int) 25 [(0, va_rf l0), (1, .int l1), (2, .int l2), (3, .int l3)] [] h (qI Q) := by
  unfold n_X11_bookSize_25 at hw
  refine V_iincL (n := 1) 3 (fun z => [(3, .int z), (0, va_rf l0), (1, .int l1), (2, .int l2)]) rfl (by rfl) (by decide) (fun _ => rfl) dX11_bookSize_25 hw (fun x5 hw => ?_)
  refine V_goto (tgt := 4) dX11_bookSize_28 (by decide) ?_
  exact V.sub [1, 2, 3, 0] rfl (hK4 _ _ _ hw)
theorem sb_X11_bookSize_4 {l : Launch} {G : Gh} {l0 : Option Nat} {l1 : Int32} {l2 : Int32} {l3 : Int32} {h : Hp} {Q : Int32 → Hp → Prop} {K4 : Int32 → Int32 → Hp → Prop} (hK4 : ∀ (l2 : Int32) (l3 : Int32) (h : Hp), K4 l2 l3 h → V l G 1 yX11_bookSize cX11_bookSize 4 (some .int) 4 [(0, va_rf l0), (1, .int l1), (2, .int l2), (3, .int l3)] [] h (qI Q)) (hw : b_X11_bookSize_4 l0 l1 l2 l3 h Q K4) : V l G 1 yX11_bookSize cX11_bookSize 4 (some .int) 4 [(0, va_rf l0), (1, .int l1), (2, .int l2), (3, .int l3)] [] h (qI Q) := by
  unfold b_X11_bookSize_4 at hw
  refine V_iload_n 3 rfl rfl dX11_bookSize_4 ?_
  refine V_aload_n 0 rfl rfl dX11_bookSize_5 ?_
  refine X_getI (c := 11) (k := 2) fa_X11_205 rfl dX11_bookSize_6 hw (fun v1 hw => ?_)
  refine V_icmp_ge (tgt := 31) dX11_bookSize_9 (by decide) hw (fun hw => ?_) (fun hw => ?_)
  · refine V_iload_n 2 rfl rfl dX11_bookSize_31 ?_
    exact V_iret rfl dX11_bookSize_32 ⟨_, rfl, hw⟩
  · refine V_aload_n 0 rfl rfl dX11_bookSize_12 ?_
    refine X_getR (c := 11) (k := 22) fa_X11_64 rfl dX11_bookSize_13 hw (fun v2 hw => ?_)
    refine V_iload_n 3 rfl rfl dX11_bookSize_16 ?_
    refine X_ldI dX11_bookSize_17 hw (fun v3 hw => ?_)
    refine V_iload_n 1 rfl rfl dX11_bookSize_18 ?_
    refine V_icmp_ne (tgt := 25) dX11_bookSize_19 (by decide) hw (fun hw => ?_) (fun hw => ?_)
    · refine V_iincL (n := 1) 2 (fun z => [(2, .int z), (0, va_rf l0), (1, .int l1), (3, .int l3)]) rfl (by rfl) (by decide) (fun _ => rfl) dX11_bookSize_22 hw (fun x4 hw => ?_)
      exact V.sub [1, 2, 0, 3] rfl (s_X11_bookSize_25 hK4 hw)
    · exact V.sub [0, 1, 2, 3] rfl (s_X11_bookSize_25 hK4 hw)
theorem s_X11_bookSize_4 {l : Launch} {G : Gh} {l0 : Option Nat} {l1 : Int32} {l2 : Int32} {l3 : Int32} {h : Hp} {Q : Int32 → Hp → Prop}  (hw : l_X11_bookSize_4 l0 l1 l2 l3 h Q) : V l G 1 yX11_bookSize cX11_bookSize 4 (some .int) 4 [(0, va_rf l0), (1, .int l1), (2, .int l2), (3, .int l3)] [] h (qI Q) :=
  Lo.ind (P := fun (s : Int32 × Int32) h => V l G 1 yX11_bookSize cX11_bookSize 4 (some .int) 4 [(0, va_rf l0), (1, .int l1), (2, .int s.1), (3, .int s.2)] [] h (qI Q)) (fun K ih s h hw => sb_X11_bookSize_4 (fun l2 l3 h hk => ih (l2, l3) h hk) hw) hw
theorem s_X11_bookSize_0 {l : Launch} {G : Gh} {l0 : Option Nat} {l1 : Int32} {h : Hp} {Q : Int32 → Hp → Prop}  (hw : n_X11_bookSize_0 l0 l1 h Q) : V l G 1 yX11_bookSize cX11_bookSize 4 (some .int) 0 [(0, va_rf l0), (1, .int l1)] [] h (qI Q) := by
  unfold n_X11_bookSize_0 at hw
  refine V_iconst (v := 0) (by decide) dX11_bookSize_0 ?_
  refine V_istore_n (i := 2) [(2, .int 0), (0, va_rf l0), (1, .int l1)] rfl (by decide) rfl dX11_bookSize_1 ?_
  refine V_iconst (v := 0) (by decide) dX11_bookSize_2 ?_
  refine V_istore_n (i := 3) [(3, .int 0), (2, .int 0), (0, va_rf l0), (1, .int l1)] rfl (by decide) rfl dX11_bookSize_3 ?_
  exact V.sub [2, 3, 1, 0] rfl (s_X11_bookSize_4 hw)
theorem r_X11_bookSize {l : Launch} {G : Gh} (l0 : Option Nat) (l1 : Int32) {h : Hp} {Q : Int32 → Hp → Prop} (hw : w_X11_bookSize l0 l1 h Q) : RunQ l G 1 yX11_bookSize cX11_bookSize 4 (some .int) [va_rf l0, .int l1] h (qI Q) :=
  V_run rfl (sl_len _ _ (by simp [cat_i, cat_l, rf_cat])) (V.sub [0, 1] (by simp only [la_r, la_i, la_l, la_n]; rfl) (s_X11_bookSize_0 hw))
def n_X11_about_89 (s0 : Int32) (h : Hp) (Q : Int32 → Hp → Prop) : Prop :=
  Q s0 h
def n_X11_about_116 (s0 : Int32) (h : Hp) (Q : Int32 → Hp → Prop) : Prop :=
  Q s0 h
def n_X11_about_0 (l0 : Option Nat) (l1 : Int32) (l2 : Int32) (h : Hp) (Q : Int32 → Hp → Prop) : Prop :=
  oV h l0 12 <| w_X11_isPlace l0 l1 h <| fun v1 h =>
  br (v1 = 0) (
    Q (-1) h) (
    br (l2 = 0) (
      gR h l0 12 1415 fun v2 =>
      ldI h v2 l1 fun v3 =>
      Q v3 h) <|
    br (l2 = 1) (
      gR h l0 12 1416 fun v4 =>
      ldI h v4 l1 fun v5 =>
      Q v5 h) <|
    br (l2 = 2) (
      gR h l0 12 1415 fun v6 =>
      ldI h v6 l1 fun v7 =>
      br (v7 = 0) (
        gR h l0 12 1418 fun v8 =>
        ldI h v8 l1 fun v9 =>
        n_X11_about_89 v9 h Q) (
        n_X11_about_89 (-1) h Q)) <|
    br (l2 = 3) (
      oV h l0 12 <| w_X11_hearthsOf l0 l1 h <| fun v10 h =>
      Q v10 h) <|
    br (l2 = 4) (
      oV h l0 12 <| w_X11_bookSize l0 l1 h <| fun v11 h =>
      Q v11 h) <|
    br (l2 = 5) (
      gR h l0 12 1423 fun v12 =>
      ldZ h v12 l1 fun v13 =>
      br (v13 = 0) (
        n_X11_about_116 0 h Q) (
        n_X11_about_116 1 h Q)) <|
    br (l2 = 6) (
      gR h l0 12 1421 fun v14 =>
      ldI h v14 l1 fun v15 =>
      Q v15 h) <|
    br (l2 = 7) (
      gR h l0 12 1420 fun v16 =>
      ldI h v16 l1 fun v17 =>
      Q v17 h) <|
    Q (-1) h)
def w_X11_about (l0 : Option Nat) (l1 : Int32) (l2 : Int32) (h : Hp) (Q : Int32 → Hp → Prop) : Prop := n_X11_about_0 l0 l1 l2 h Q
theorem s_X11_about_89 {l : Launch} {G : Gh} {s0 : Int32} {h : Hp} {Q : Int32 → Hp → Prop}  (hw : n_X11_about_89 s0 h Q) : V l G 3 yX11_about cX11_about 3 (some .int) 89 [] [.int s0] h (qI Q) := by
  unfold n_X11_about_89 at hw
  exact V_iret rfl dX11_about_89 ⟨_, rfl, hw⟩
theorem s_X11_about_116 {l : Launch} {G : Gh} {s0 : Int32} {h : Hp} {Q : Int32 → Hp → Prop}  (hw : n_X11_about_116 s0 h Q) : V l G 3 yX11_about cX11_about 3 (some .int) 116 [] [.int s0] h (qI Q) := by
  unfold n_X11_about_116 at hw
  exact V_iret rfl dX11_about_116 ⟨_, rfl, hw⟩
set_option maxRecDepth 20000 in
theorem s_X11_about_0 {l : Launch} {G : Gh} {l0 : Option Nat} {l1 : Int32} {l2 : Int32} {h : Hp} {Q : Int32 → Hp → Prop}  (hw : n_X11_about_0 l0 l1 l2 h Q) : V l G 3 yX11_about cX11_about 3 (some .int) 0 [(0, va_rf l0), (1, .int l1), (2, .int l2)] [] h (qI Q) := by
  unfold n_X11_about_0 at hw
  refine V_aload_n 0 rfl rfl dX11_about_0 ?_
  refine V_iload_n 1 rfl rfl dX11_about_1 ?_
  refine X_cV 11 [.int l1] [] ma_X11_208 (by decide) rfl (by decide) (by decide) rfl (by simp [cat_i, cat_l, rf_cat]) rfl dX11_about_2 hw (r_X11_isPlace _ _) (k_I (fun v1 h hw => ?_))
  refine V_if_ne (tgt := 10) dX11_about_5 (by decide) hw (fun hw => ?_) (fun hw => ?_)
  · refine V_iconst (v := (-1)) (by decide) dX11_about_8 ?_
    exact V_iret rfl dX11_about_9 ⟨_, rfl, hw⟩
  · refine V_iload_n 2 rfl rfl dX11_about_10 ?_
    by_cases c0 : l2 = 0
    · replace hw := hw.1 c0
      refine V_tsw 56 dX11_about_11 (by rw [c0]; exact Or.inr ⟨by decide, by decide, _, rfl, by decide⟩) ?_
      refine V_aload_n 0 rfl rfl dX11_about_56 ?_
      refine X_getR (c := 11) (k := 7) fa_X11_16 rfl dX11_about_57 hw (fun v2 hw => ?_)
      refine V_iload_n 1 rfl rfl dX11_about_60 ?_
      refine X_ldI dX11_about_61 hw (fun v3 hw => ?_)
      exact V_iret rfl dX11_about_62 ⟨_, rfl, hw⟩
    replace hw := hw.2 c0
    by_cases c1 : l2 = 1
    · replace hw := hw.1 c1
      refine V_tsw 63 dX11_about_11 (by rw [c1]; exact Or.inr ⟨by decide, by decide, _, rfl, by decide⟩) ?_
      refine V_aload_n 0 rfl rfl dX11_about_63 ?_
      refine X_getR (c := 11) (k := 8) fa_X11_20 rfl dX11_about_64 hw (fun v4 hw => ?_)
      refine V_iload_n 1 rfl rfl dX11_about_67 ?_
      refine X_ldI dX11_about_68 hw (fun v5 hw => ?_)
      exact V_iret rfl dX11_about_69 ⟨_, rfl, hw⟩
    replace hw := hw.2 c1
    by_cases c2 : l2 = 2
    · replace hw := hw.1 c2
      refine V_tsw 70 dX11_about_11 (by rw [c2]; exact Or.inr ⟨by decide, by decide, _, rfl, by decide⟩) ?_
      refine V_aload_n 0 rfl rfl dX11_about_70 ?_
      refine X_getR (c := 11) (k := 7) fa_X11_16 rfl dX11_about_71 hw (fun v6 hw => ?_)
      refine V_iload_n 1 rfl rfl dX11_about_74 ?_
      refine X_ldI dX11_about_75 hw (fun v7 hw => ?_)
      refine V_if_ne (tgt := 88) dX11_about_76 (by decide) hw (fun hw => ?_) (fun hw => ?_)
      · refine V_aload_n 0 rfl rfl dX11_about_79 ?_
        refine X_getR (c := 11) (k := 10) fa_X11_26 rfl dX11_about_80 hw (fun v8 hw => ?_)
        refine V_iload_n 1 rfl rfl dX11_about_83 ?_
        refine X_ldI dX11_about_84 hw (fun v9 hw => ?_)
        refine V_goto (tgt := 89) dX11_about_85 (by decide) ?_
        exact V.sub [] rfl (s_X11_about_89 hw)
      · refine V_iconst (v := (-1)) (by decide) dX11_about_88 ?_
        exact V.sub [] rfl (s_X11_about_89 hw)
    replace hw := hw.2 c2
    by_cases c3 : l2 = 3
    · replace hw := hw.1 c3
      refine V_tsw 90 dX11_about_11 (by rw [c3]; exact Or.inr ⟨by decide, by decide, _, rfl, by decide⟩) ?_
      refine V_aload_n 0 rfl rfl dX11_about_90 ?_
      refine V_iload_n 1 rfl rfl dX11_about_91 ?_
      refine X_cV 11 [.int l1] [] ma_X11_231 (by decide) rfl (by decide) (by decide) rfl (by simp [cat_i, cat_l, rf_cat]) rfl dX11_about_92 hw (r_X11_hearthsOf _ _) (k_I (fun v10 h hw => ?_))
      exact V_iret rfl dX11_about_95 ⟨_, rfl, hw⟩
    replace hw := hw.2 c3
    by_cases c4 : l2 = 4
    · replace hw := hw.1 c4
      refine V_tsw 96 dX11_about_11 (by rw [c4]; exact Or.inr ⟨by decide, by decide, _, rfl, by decide⟩) ?_
      refine V_aload_n 0 rfl rfl dX11_about_96 ?_
      refine V_iload_n 1 rfl rfl dX11_about_97 ?_
      refine X_cV 11 [.int l1] [] ma_X11_234 (by decide) rfl (by decide) (by decide) rfl (by simp [cat_i, cat_l, rf_cat]) rfl dX11_about_98 hw (r_X11_bookSize _ _) (k_I (fun v11 h hw => ?_))
      exact V_iret rfl dX11_about_101 ⟨_, rfl, hw⟩
    replace hw := hw.2 c4
    by_cases c5 : l2 = 5
    · replace hw := hw.1 c5
      refine V_tsw 102 dX11_about_11 (by rw [c5]; exact Or.inr ⟨by decide, by decide, _, rfl, by decide⟩) ?_
      refine V_aload_n 0 rfl rfl dX11_about_102 ?_
      refine X_getR (c := 11) (k := 15) fa_X11_41 rfl dX11_about_103 hw (fun v12 hw => ?_)
      refine V_iload_n 1 rfl rfl dX11_about_106 ?_
      refine X_ldZ dX11_about_107 hw (fun v13 hw => ?_)
      refine V_if_eq (tgt := 115) dX11_about_108 (by decide) hw (fun hw => ?_) (fun hw => ?_)
      · refine V_iconst (v := 0) (by decide) dX11_about_115 ?_
        exact V.sub [] rfl (s_X11_about_116 hw)
      · refine V_iconst (v := 1) (by decide) dX11_about_111 ?_
        refine V_goto (tgt := 116) dX11_about_112 (by decide) ?_
        exact V.sub [] rfl (s_X11_about_116 hw)
    replace hw := hw.2 c5
    by_cases c6 : l2 = 6
    · replace hw := hw.1 c6
      refine V_tsw 117 dX11_about_11 (by rw [c6]; exact Or.inr ⟨by decide, by decide, _, rfl, by decide⟩) ?_
      refine V_aload_n 0 rfl rfl dX11_about_117 ?_
      refine X_getR (c := 11) (k := 13) fa_X11_35 rfl dX11_about_118 hw (fun v14 hw => ?_)
      refine V_iload_n 1 rfl rfl dX11_about_121 ?_
      refine X_ldI dX11_about_122 hw (fun v15 hw => ?_)
      exact V_iret rfl dX11_about_123 ⟨_, rfl, hw⟩
    replace hw := hw.2 c6
    by_cases c7 : l2 = 7
    · replace hw := hw.1 c7
      refine V_tsw 124 dX11_about_11 (by rw [c7]; exact Or.inr ⟨by decide, by decide, _, rfl, by decide⟩) ?_
      refine V_aload_n 0 rfl rfl dX11_about_124 ?_
      refine X_getR (c := 11) (k := 12) fa_X11_32 rfl dX11_about_125 hw (fun v16 hw => ?_)
      refine V_iload_n 1 rfl rfl dX11_about_128 ?_
      refine X_ldI dX11_about_129 hw (fun v17 hw => ?_)
      exact V_iret rfl dX11_about_130 ⟨_, rfl, hw⟩
    replace hw := hw.2 c7
    have hout : l2.toInt < 0 ∨ 7 < l2.toInt := by
      refine sw_out (fun v h1 h2 => ?_)
      rcases (show v = 0 ∨ v = 1 ∨ v = 2 ∨ v = 3 ∨ v = 4 ∨ v = 5 ∨ v = 6 ∨ v = 7 by omega) with rfl | rfl | rfl | rfl | rfl | rfl | rfl | rfl
      · exact c0
      · exact c1
      · exact c2
      · exact c3
      · exact c4
      · exact c5
      · exact c6
      · exact c7
    refine V_tsw 131 dX11_about_11 (Or.inl ⟨hout, by decide⟩) ?_
    refine V_iconst (v := (-1)) (by decide) dX11_about_131 ?_
    exact V_iret rfl dX11_about_132 ⟨_, rfl, hw⟩
theorem r_X11_about {l : Launch} {G : Gh} (l0 : Option Nat) (l1 : Int32) (l2 : Int32) {h : Hp} {Q : Int32 → Hp → Prop} (hw : w_X11_about l0 l1 l2 h Q) : RunQ l G 3 yX11_about cX11_about 3 (some .int) [va_rf l0, .int l1, .int l2] h (qI Q) :=
  V_run rfl (sl_len _ _ (by simp [cat_i, cat_l, rf_cat])) (V.sub [0, 1, 2] (by simp only [la_r, la_i, la_l, la_n]; rfl) (s_X11_about_0 hw))
def n_X11_isAsk_17 (s0 : Int32) (h : Hp) (Q : Int32 → Hp → Prop) : Prop :=
  rZ s0 h Q
def n_X11_isAsk_16 (h : Hp) (Q : Int32 → Hp → Prop) : Prop :=
  n_X11_isAsk_17 0 h Q
def n_X11_isAsk_0 (l0 : Option Nat) (l1 : Int32) (h : Hp) (Q : Int32 → Hp → Prop) : Prop :=
  br (l1 < 0) (
    n_X11_isAsk_16 h Q) (
    gI h l0 12 1410 fun v1 =>
    br (v1 ≤ l1) (
      n_X11_isAsk_16 h Q) (
      n_X11_isAsk_17 1 h Q))
def w_X11_isAsk (l0 : Option Nat) (l1 : Int32) (h : Hp) (Q : Int32 → Hp → Prop) : Prop := n_X11_isAsk_0 l0 l1 h Q
theorem s_X11_isAsk_17 {l : Launch} {G : Gh} {s0 : Int32} {h : Hp} {Q : Int32 → Hp → Prop}  (hw : n_X11_isAsk_17 s0 h Q) : V l G 1 yX11_isAsk cX11_isAsk 2 (some .boolean) 17 [] [.int s0] h (qI Q) := by
  unfold n_X11_isAsk_17 at hw
  exact V_zret rfl hw.1 dX11_isAsk_17 ⟨_, rfl, hw.2⟩
theorem s_X11_isAsk_16 {l : Launch} {G : Gh}  {h : Hp} {Q : Int32 → Hp → Prop}  (hw : n_X11_isAsk_16 h Q) : V l G 1 yX11_isAsk cX11_isAsk 2 (some .boolean) 16 [] [] h (qI Q) := by
  unfold n_X11_isAsk_16 at hw
  refine V_iconst (v := 0) (by decide) dX11_isAsk_16 ?_
  exact V.sub [] rfl (s_X11_isAsk_17 hw)
theorem s_X11_isAsk_0 {l : Launch} {G : Gh} {l0 : Option Nat} {l1 : Int32} {h : Hp} {Q : Int32 → Hp → Prop}  (hw : n_X11_isAsk_0 l0 l1 h Q) : V l G 1 yX11_isAsk cX11_isAsk 2 (some .boolean) 0 [(0, va_rf l0), (1, .int l1)] [] h (qI Q) := by
  unfold n_X11_isAsk_0 at hw
  refine V_iload_n 1 rfl rfl dX11_isAsk_0 ?_
  refine V_if_lt (tgt := 16) dX11_isAsk_1 (by decide) hw (fun hw => ?_) (fun hw => ?_)
  · exact V.sub [] rfl (s_X11_isAsk_16 hw)
  · refine V_iload_n 1 rfl rfl dX11_isAsk_4 ?_
    refine V_aload_n 0 rfl rfl dX11_isAsk_5 ?_
    refine X_getI (c := 11) (k := 2) fa_X11_205 rfl dX11_isAsk_6 hw (fun v1 hw => ?_)
    refine V_icmp_ge (tgt := 16) dX11_isAsk_9 (by decide) hw (fun hw => ?_) (fun hw => ?_)
    · exact V.sub [] rfl (s_X11_isAsk_16 hw)
    · refine V_iconst (v := 1) (by decide) dX11_isAsk_12 ?_
      refine V_goto (tgt := 17) dX11_isAsk_13 (by decide) ?_
      exact V.sub [] rfl (s_X11_isAsk_17 hw)
theorem r_X11_isAsk {l : Launch} {G : Gh} (l0 : Option Nat) (l1 : Int32) {h : Hp} {Q : Int32 → Hp → Prop} (hw : w_X11_isAsk l0 l1 h Q) : RunQ l G 1 yX11_isAsk cX11_isAsk 2 (some .boolean) [va_rf l0, .int l1] h (qI Q) :=
  V_run rfl (sl_len _ _ (by simp [cat_i, cat_l, rf_cat])) (V.sub [0, 1] (by simp only [la_r, la_i, la_l, la_n]; rfl) (s_X11_isAsk_0 hw))
def n_X11_hearthsBehind_76 (l0 : Option Nat) (l1 : Int32) (l2 : Int32) (l3 : Int32) (h : Hp) (Q : Int32 → Hp → Prop) (K4 : Int32 → Int32 → Hp → Prop) : Prop :=
  lt (l3 + 1) fun x11 =>
  K4 l2 x11 h
def n_X11_hearthsBehind_56 (l0 : Option Nat) (l1 : Int32) (l2 : Int32) (l3 : Int32) (l4 : Int32) (h : Hp) (Q : Int32 → Hp → Prop) (K4 : Int32 → Int32 → Hp → Prop) : Prop :=
  br (l4 = l1) (
    gR h l0 12 1419 fun v6 =>
    gR h l0 12 1430 fun v7 =>
    ldI h v7 l3 fun v8 =>
    ldI h v6 v8 fun v9 =>
    lt (l2 + v9) fun x10 =>
    n_X11_hearthsBehind_76 l0 l1 x10 l3 h Q K4) (
    n_X11_hearthsBehind_76 l0 l1 l2 l3 h Q K4)
def b_X11_hearthsBehind_32 (l0 : Option Nat) (l1 : Int32) (l2 : Int32) (l3 : Int32) (l4 : Int32) (h : Hp) (Q : Int32 → Hp → Prop) (K4 : Int32 → Int32 → Hp → Prop) (K32 : Int32 → Hp → Prop) : Prop :=
  br (l4 = (-1)) (
    n_X11_hearthsBehind_56 l0 l1 l2 l3 l4 h Q K4) (
    br (l4 = l1) (
      n_X11_hearthsBehind_56 l0 l1 l2 l3 l4 h Q K4) (
      gR h l0 12 1437 fun v12 =>
      ldI h v12 l4 fun v13 =>
      K32 v13 h))
def l_X11_hearthsBehind_32 (l0 : Option Nat) (l1 : Int32) (l2 : Int32) (l3 : Int32) (l4 : Int32) (h : Hp) (Q : Int32 → Hp → Prop) (K4 : Int32 → Int32 → Hp → Prop) : Prop :=
  Lo (fun (K : Int32 → Hp → Prop) s h => b_X11_hearthsBehind_32 l0 l1 l2 l3 s h Q K4 (fun l4 h => K (l4) h)) (l4) h
def b_X11_hearthsBehind_4 (l0 : Option Nat) (l1 : Int32) (l2 : Int32) (l3 : Int32) (h : Hp) (Q : Int32 → Hp → Prop) (K4 : Int32 → Int32 → Hp → Prop) : Prop :=
  gI h l0 12 1410 fun v1 =>
  br (v1 ≤ l3) (
    Q l2 h) (
    gR h l0 12 1415 fun v2 =>
    gR h l0 12 1430 fun v3 =>
    ldI h v3 l3 fun v4 =>
    ldI h v2 v4 fun v5 =>
    br (v5 = 0) (
      l_X11_hearthsBehind_32 l0 l1 l2 l3 l3 h Q K4) (
      n_X11_hearthsBehind_76 l0 l1 l2 l3 h Q K4))
def l_X11_hearthsBehind_4 (l0 : Option Nat) (l1 : Int32) (l2 : Int32) (l3 : Int32) (h : Hp) (Q : Int32 → Hp → Prop) : Prop :=
  Lo (fun (K : Int32 × Int32 → Hp → Prop) s h => b_X11_hearthsBehind_4 l0 l1 s.1 s.2 h Q (fun l2 l3 h => K (l2, l3) h)) (l2, l3) h
def n_X11_hearthsBehind_0 (l0 : Option Nat) (l1 : Int32) (h : Hp) (Q : Int32 → Hp → Prop) : Prop :=
  l_X11_hearthsBehind_4 l0 l1 0 0 h Q
def w_X11_hearthsBehind (l0 : Option Nat) (l1 : Int32) (h : Hp) (Q : Int32 → Hp → Prop) : Prop := n_X11_hearthsBehind_0 l0 l1 h Q
theorem s_X11_hearthsBehind_76 {l : Launch} {G : Gh} {l0 : Option Nat} {l1 : Int32} {l2 : Int32} {l3 : Int32} {h : Hp} {Q : Int32 → Hp → Prop} {K4 : Int32 → Int32 → Hp → Prop} (hK4 : ∀ (l2 : Int32) (l3 : Int32) (h : Hp), K4 l2 l3 h → V l G 1 yX11_hearthsBehind cX11_hearthsBehind 5 (some .int) 4 [(0, va_rf l0), (1, .int l1), (2, .int l2), (3, .int l3)] [] h (qI Q)) (hw : n_X11_hearthsBehind_76 l0 l1 l2 l3 h Q K4) : V l G 1 yX11_hearthsBehind cX11_hearthsBehind 5 (some .int) 76 [(0, va_rf l0), (1, .int l1), (2, .int l2), (3, .int l3)] [] h (qI Q) := by
  unfold n_X11_hearthsBehind_76 at hw
  refine V_iincL (n := 1) 3 (fun z => [(3, .int z), (0, va_rf l0), (1, .int l1), (2, .int l2)]) rfl (by rfl) (by decide) (fun _ => rfl) dX11_hearthsBehind_76 hw (fun x11 hw => ?_)
  refine V_goto (tgt := 4) dX11_hearthsBehind_79 (by decide) ?_
  exact V.sub [1, 2, 3, 0] rfl (hK4 _ _ _ hw)
theorem s_X11_hearthsBehind_56 {l : Launch} {G : Gh} {l0 : Option Nat} {l1 : Int32} {l2 : Int32} {l3 : Int32} {l4 : Int32} {h : Hp} {Q : Int32 → Hp → Prop} {K4 : Int32 → Int32 → Hp → Prop} (hK4 : ∀ (l2 : Int32) (l3 : Int32) (h : Hp), K4 l2 l3 h → V l G 1 yX11_hearthsBehind cX11_hearthsBehind 5 (some .int) 4 [(0, va_rf l0), (1, .int l1), (2, .int l2), (3, .int l3)] [] h (qI Q)) (hw : n_X11_hearthsBehind_56 l0 l1 l2 l3 l4 h Q K4) : V l G 1 yX11_hearthsBehind cX11_hearthsBehind 5 (some .int) 56 [(0, va_rf l0), (1, .int l1), (2, .int l2), (3, .int l3), (4, .int l4)] [] h (qI Q) := by
  unfold n_X11_hearthsBehind_56 at hw
  refine V_iload 4 rfl dX11_hearthsBehind_56 ?_
  refine V_iload_n 1 rfl rfl dX11_hearthsBehind_58 ?_
  refine V_icmp_ne (tgt := 76) dX11_hearthsBehind_59 (by decide) hw (fun hw => ?_) (fun hw => ?_)
  · refine V_iload_n 2 rfl rfl dX11_hearthsBehind_62 ?_
    refine V_aload_n 0 rfl rfl dX11_hearthsBehind_63 ?_
    refine X_getR (c := 11) (k := 11) fa_X11_29 rfl dX11_hearthsBehind_64 hw (fun v6 hw => ?_)
    refine V_aload_n 0 rfl rfl dX11_hearthsBehind_67 ?_
    refine X_getR (c := 11) (k := 22) fa_X11_64 rfl dX11_hearthsBehind_68 hw (fun v7 hw => ?_)
    refine V_iload_n 3 rfl rfl dX11_hearthsBehind_71 ?_
    refine X_ldI dX11_hearthsBehind_72 hw (fun v8 hw => ?_)
    refine X_ldI dX11_hearthsBehind_73 hw (fun v9 hw => ?_)
    refine V_iadd dX11_hearthsBehind_74 ?_
    refine V_ltI hw (fun x10 hw => ?_)
    refine V_istore_n (i := 2) [(2, .int x10), (0, va_rf l0), (1, .int l1), (3, .int l3), (4, .int l4)] rfl (by decide) rfl dX11_hearthsBehind_75 ?_
    exact V.sub [1, 2, 0, 3] rfl (s_X11_hearthsBehind_76 hK4 hw)
  · exact V.sub [0, 1, 2, 3] rfl (s_X11_hearthsBehind_76 hK4 hw)
theorem sb_X11_hearthsBehind_32 {l : Launch} {G : Gh} {l0 : Option Nat} {l1 : Int32} {l2 : Int32} {l3 : Int32} {l4 : Int32} {h : Hp} {Q : Int32 → Hp → Prop} {K4 : Int32 → Int32 → Hp → Prop} {K32 : Int32 → Hp → Prop} (hK4 : ∀ (l2 : Int32) (l3 : Int32) (h : Hp), K4 l2 l3 h → V l G 1 yX11_hearthsBehind cX11_hearthsBehind 5 (some .int) 4 [(0, va_rf l0), (1, .int l1), (2, .int l2), (3, .int l3)] [] h (qI Q)) (hK32 : ∀ (l4 : Int32) (h : Hp), K32 l4 h → V l G 1 yX11_hearthsBehind cX11_hearthsBehind 5 (some .int) 32 [(0, va_rf l0), (1, .int l1), (2, .int l2), (3, .int l3), (4, .int l4)] [] h (qI Q)) (hw : b_X11_hearthsBehind_32 l0 l1 l2 l3 l4 h Q K4 K32) : V l G 1 yX11_hearthsBehind cX11_hearthsBehind 5 (some .int) 32 [(0, va_rf l0), (1, .int l1), (2, .int l2), (3, .int l3), (4, .int l4)] [] h (qI Q) := by
  unfold b_X11_hearthsBehind_32 at hw
  refine V_iload 4 rfl dX11_hearthsBehind_32 ?_
  refine V_iconst (v := (-1)) (by decide) dX11_hearthsBehind_34 ?_
  refine V_icmp_eq (tgt := 56) dX11_hearthsBehind_35 (by decide) hw (fun hw => ?_) (fun hw => ?_)
  · exact V.sub [0, 1, 2, 3, 4] rfl (s_X11_hearthsBehind_56 hK4 hw)
  · refine V_iload 4 rfl dX11_hearthsBehind_38 ?_
    refine V_iload_n 1 rfl rfl dX11_hearthsBehind_40 ?_
    refine V_icmp_eq (tgt := 56) dX11_hearthsBehind_41 (by decide) hw (fun hw => ?_) (fun hw => ?_)
    · exact V.sub [0, 1, 2, 3, 4] rfl (s_X11_hearthsBehind_56 hK4 hw)
    · refine V_aload_n 0 rfl rfl dX11_hearthsBehind_44 ?_
      refine X_getR (c := 11) (k := 29) fa_X11_85 rfl dX11_hearthsBehind_45 hw (fun v12 hw => ?_)
      refine V_iload 4 rfl dX11_hearthsBehind_48 ?_
      refine X_ldI dX11_hearthsBehind_50 hw (fun v13 hw => ?_)
      refine V_istore (i := 4) [(4, .int v13), (0, va_rf l0), (1, .int l1), (2, .int l2), (3, .int l3)] (by decide) rfl dX11_hearthsBehind_51 ?_
      refine V_goto (tgt := 32) dX11_hearthsBehind_53 (by decide) ?_
      exact V.sub [1, 2, 3, 4, 0] rfl (hK32 _ _ hw)
theorem s_X11_hearthsBehind_32 {l : Launch} {G : Gh} {l0 : Option Nat} {l1 : Int32} {l2 : Int32} {l3 : Int32} {l4 : Int32} {h : Hp} {Q : Int32 → Hp → Prop} {K4 : Int32 → Int32 → Hp → Prop} (hK4 : ∀ (l2 : Int32) (l3 : Int32) (h : Hp), K4 l2 l3 h → V l G 1 yX11_hearthsBehind cX11_hearthsBehind 5 (some .int) 4 [(0, va_rf l0), (1, .int l1), (2, .int l2), (3, .int l3)] [] h (qI Q)) (hw : l_X11_hearthsBehind_32 l0 l1 l2 l3 l4 h Q K4) : V l G 1 yX11_hearthsBehind cX11_hearthsBehind 5 (some .int) 32 [(0, va_rf l0), (1, .int l1), (2, .int l2), (3, .int l3), (4, .int l4)] [] h (qI Q) :=
  Lo.ind (P := fun (s : Int32) h => V l G 1 yX11_hearthsBehind cX11_hearthsBehind 5 (some .int) 32 [(0, va_rf l0), (1, .int l1), (2, .int l2), (3, .int l3), (4, .int s)] [] h (qI Q)) (fun K ih s h hw => sb_X11_hearthsBehind_32 hK4 (fun l4 h hk => ih (l4) h hk) hw) hw
theorem sb_X11_hearthsBehind_4 {l : Launch} {G : Gh} {l0 : Option Nat} {l1 : Int32} {l2 : Int32} {l3 : Int32} {h : Hp} {Q : Int32 → Hp → Prop} {K4 : Int32 → Int32 → Hp → Prop} (hK4 : ∀ (l2 : Int32) (l3 : Int32) (h : Hp), K4 l2 l3 h → V l G 1 yX11_hearthsBehind cX11_hearthsBehind 5 (some .int) 4 [(0, va_rf l0), (1, .int l1), (2, .int l2), (3, .int l3)] [] h (qI Q)) (hw : b_X11_hearthsBehind_4 l0 l1 l2 l3 h Q K4) : V l G 1 yX11_hearthsBehind cX11_hearthsBehind 5 (some .int) 4 [(0, va_rf l0), (1, .int l1), (2, .int l2), (3, .int l3)] [] h (qI Q) := by
  unfold b_X11_hearthsBehind_4 at hw
  refine V_iload_n 3 rfl rfl dX11_hearthsBehind_4 ?_
  refine V_aload_n 0 rfl rfl dX11_hearthsBehind_5 ?_
  refine X_getI (c := 11) (k := 2) fa_X11_205 rfl dX11_hearthsBehind_6 hw (fun v1 hw => ?_)
  refine V_icmp_ge (tgt := 82) dX11_hearthsBehind_9 (by decide) hw (fun hw => ?_) (fun hw => ?_)
  · refine V_iload_n 2 rfl rfl dX11_hearthsBehind_82 ?_
    exact V_iret rfl dX11_hearthsBehind_83 ⟨_, rfl, hw⟩
  · refine V_aload_n 0 rfl rfl dX11_hearthsBehind_12 ?_
    refine X_getR (c := 11) (k := 7) fa_X11_16 rfl dX11_hearthsBehind_13 hw (fun v2 hw => ?_)
    refine V_aload_n 0 rfl rfl dX11_hearthsBehind_16 ?_
    refine X_getR (c := 11) (k := 22) fa_X11_64 rfl dX11_hearthsBehind_17 hw (fun v3 hw => ?_)
    refine V_iload_n 3 rfl rfl dX11_hearthsBehind_20 ?_
    refine X_ldI dX11_hearthsBehind_21 hw (fun v4 hw => ?_)
    refine X_ldI dX11_hearthsBehind_22 hw (fun v5 hw => ?_)
    refine V_if_eq (tgt := 29) dX11_hearthsBehind_23 (by decide) hw (fun hw => ?_) (fun hw => ?_)
    · refine V_iload_n 3 rfl rfl dX11_hearthsBehind_29 ?_
      refine V_istore (i := 4) [(4, .int l3), (0, va_rf l0), (1, .int l1), (2, .int l2), (3, .int l3)] (by decide) rfl dX11_hearthsBehind_30 ?_
      exact V.sub [1, 2, 3, 4, 0] rfl (s_X11_hearthsBehind_32 hK4 hw)
    · refine V_goto (tgt := 76) dX11_hearthsBehind_26 (by decide) ?_
      exact V.sub [0, 1, 2, 3] rfl (s_X11_hearthsBehind_76 hK4 hw)
theorem s_X11_hearthsBehind_4 {l : Launch} {G : Gh} {l0 : Option Nat} {l1 : Int32} {l2 : Int32} {l3 : Int32} {h : Hp} {Q : Int32 → Hp → Prop}  (hw : l_X11_hearthsBehind_4 l0 l1 l2 l3 h Q) : V l G 1 yX11_hearthsBehind cX11_hearthsBehind 5 (some .int) 4 [(0, va_rf l0), (1, .int l1), (2, .int l2), (3, .int l3)] [] h (qI Q) :=
  Lo.ind (P := fun (s : Int32 × Int32) h => V l G 1 yX11_hearthsBehind cX11_hearthsBehind 5 (some .int) 4 [(0, va_rf l0), (1, .int l1), (2, .int s.1), (3, .int s.2)] [] h (qI Q)) (fun K ih s h hw => sb_X11_hearthsBehind_4 (fun l2 l3 h hk => ih (l2, l3) h hk) hw) hw
theorem s_X11_hearthsBehind_0 {l : Launch} {G : Gh} {l0 : Option Nat} {l1 : Int32} {h : Hp} {Q : Int32 → Hp → Prop}  (hw : n_X11_hearthsBehind_0 l0 l1 h Q) : V l G 1 yX11_hearthsBehind cX11_hearthsBehind 5 (some .int) 0 [(0, va_rf l0), (1, .int l1)] [] h (qI Q) := by
  unfold n_X11_hearthsBehind_0 at hw
  refine V_iconst (v := 0) (by decide) dX11_hearthsBehind_0 ?_
  refine V_istore_n (i := 2) [(2, .int 0), (0, va_rf l0), (1, .int l1)] rfl (by decide) rfl dX11_hearthsBehind_1 ?_
  refine V_iconst (v := 0) (by decide) dX11_hearthsBehind_2 ?_
  refine V_istore_n (i := 3) [(3, .int 0), (2, .int 0), (0, va_rf l0), (1, .int l1)] rfl (by decide) rfl dX11_hearthsBehind_3 ?_
  exact V.sub [2, 3, 1, 0] rfl (s_X11_hearthsBehind_4 hw)
theorem r_X11_hearthsBehind {l : Launch} {G : Gh} (l0 : Option Nat) (l1 : Int32) {h : Hp} {Q : Int32 → Hp → Prop} (hw : w_X11_hearthsBehind l0 l1 h Q) : RunQ l G 1 yX11_hearthsBehind cX11_hearthsBehind 5 (some .int) [va_rf l0, .int l1] h (qI Q) :=
  V_run rfl (sl_len _ _ (by simp [cat_i, cat_l, rf_cat])) (V.sub [0, 1] (by simp only [la_r, la_i, la_l, la_n]; rfl) (s_X11_hearthsBehind_0 hw))
def n_X11_ask_136 (s0 : Int32) (h : Hp) (Q : Int32 → Hp → Prop) : Prop :=
  Q s0 h
def n_X11_ask_152 (s0 : Int32) (h : Hp) (Q : Int32 → Hp → Prop) : Prop :=
  Q s0 h
def n_X11_ask_167 (s0 : Int32) (h : Hp) (Q : Int32 → Hp → Prop) : Prop :=
  Q s0 h
def n_X11_ask_209 (s0 : Int32) (h : Hp) (Q : Int32 → Hp → Prop) : Prop :=
  Q s0 h
def n_X11_ask_0 (l0 : Option Nat) (l1 : Int32) (l2 : Int32) (h : Hp) (Q : Int32 → Hp → Prop) : Prop :=
  oV h l0 12 <| w_X11_isAsk l0 l1 h <| fun v1 h =>
  br (v1 = 0) (
    Q (-1) h) (
    br (l2 = 0) (
      gR h l0 12 1435 fun v2 =>
      ldI h v2 l1 fun v3 =>
      Q v3 h) <|
    br (l2 = 1) (
      gR h l0 12 1430 fun v4 =>
      ldI h v4 l1 fun v5 =>
      Q v5 h) <|
    br (l2 = 2) (
      gR h l0 12 1431 fun v6 =>
      ldI h v6 l1 fun v7 =>
      Q v7 h) <|
    br (l2 = 3) (
      gR h l0 12 1432 fun v8 =>
      ldI h v8 l1 fun v9 =>
      Q v9 h) <|
    br (l2 = 4) (
      gR h l0 12 1433 fun v10 =>
      ldI h v10 l1 fun v11 =>
      Q v11 h) <|
    br (l2 = 5) (
      gR h l0 12 1434 fun v12 =>
      ldI h v12 l1 fun v13 =>
      Q v13 h) <|
    br (l2 = 6) (
      gR h l0 12 1442 fun v14 =>
      ldZ h v14 l1 fun v15 =>
      br (v15 = 0) (
        n_X11_ask_136 0 h Q) (
        n_X11_ask_136 1 h Q)) <|
    br (l2 = 7) (
      gR h l0 12 1439 fun v16 =>
      ldI h v16 l1 fun v17 =>
      br (v17 = (-1)) (
        n_X11_ask_152 0 h Q) (
        n_X11_ask_152 1 h Q)) <|
    br (l2 = 8) (
      gR h l0 12 1443 fun v18 =>
      ldZ h v18 l1 fun v19 =>
      br (v19 = 0) (
        n_X11_ask_167 0 h Q) (
        n_X11_ask_167 1 h Q)) <|
    br (l2 = 9) (
      gR h l0 12 1437 fun v20 =>
      ldI h v20 l1 fun v21 =>
      Q v21 h) <|
    br (l2 = 10) (
      gR h l0 12 1438 fun v22 =>
      ldI h v22 l1 fun v23 =>
      Q v23 h) <|
    br (l2 = 11) (
      oV h l0 12 <| w_X11_hearthsBehind l0 l1 h <| fun v24 h =>
      Q v24 h) <|
    br (l2 = 12) (
      gR h l0 12 1436 fun v25 =>
      ldI h v25 l1 fun v26 =>
      Q v26 h) <|
    br (l2 = 13) (
      gR h l0 12 1444 fun v27 =>
      ldZ h v27 l1 fun v28 =>
      br (v28 = 0) (
        n_X11_ask_209 0 h Q) (
        n_X11_ask_209 1 h Q)) <|
    Q (-1) h)
def w_X11_ask (l0 : Option Nat) (l1 : Int32) (l2 : Int32) (h : Hp) (Q : Int32 → Hp → Prop) : Prop := n_X11_ask_0 l0 l1 l2 h Q
theorem s_X11_ask_136 {l : Launch} {G : Gh} {s0 : Int32} {h : Hp} {Q : Int32 → Hp → Prop}  (hw : n_X11_ask_136 s0 h Q) : V l G 2 yX11_ask cX11_ask 3 (some .int) 136 [] [.int s0] h (qI Q) := by
  unfold n_X11_ask_136 at hw
  exact V_iret rfl dX11_ask_136 ⟨_, rfl, hw⟩
theorem s_X11_ask_152 {l : Launch} {G : Gh} {s0 : Int32} {h : Hp} {Q : Int32 → Hp → Prop}  (hw : n_X11_ask_152 s0 h Q) : V l G 2 yX11_ask cX11_ask 3 (some .int) 152 [] [.int s0] h (qI Q) := by
  unfold n_X11_ask_152 at hw
  exact V_iret rfl dX11_ask_152 ⟨_, rfl, hw⟩
theorem s_X11_ask_167 {l : Launch} {G : Gh} {s0 : Int32} {h : Hp} {Q : Int32 → Hp → Prop}  (hw : n_X11_ask_167 s0 h Q) : V l G 2 yX11_ask cX11_ask 3 (some .int) 167 [] [.int s0] h (qI Q) := by
  unfold n_X11_ask_167 at hw
  exact V_iret rfl dX11_ask_167 ⟨_, rfl, hw⟩
theorem s_X11_ask_209 {l : Launch} {G : Gh} {s0 : Int32} {h : Hp} {Q : Int32 → Hp → Prop}  (hw : n_X11_ask_209 s0 h Q) : V l G 2 yX11_ask cX11_ask 3 (some .int) 209 [] [.int s0] h (qI Q) := by
  unfold n_X11_ask_209 at hw
  exact V_iret rfl dX11_ask_209 ⟨_, rfl, hw⟩
set_option maxRecDepth 20000 in
theorem s_X11_ask_0 {l : Launch} {G : Gh} {l0 : Option Nat} {l1 : Int32} {l2 : Int32} {h : Hp} {Q : Int32 → Hp → Prop}  (hw : n_X11_ask_0 l0 l1 l2 h Q) : V l G 2 yX11_ask cX11_ask 3 (some .int) 0 [(0, va_rf l0), (1, .int l1), (2, .int l2)] [] h (qI Q) := by
  unfold n_X11_ask_0 at hw
  refine V_aload_n 0 rfl rfl dX11_ask_0 ?_
  refine V_iload_n 1 rfl rfl dX11_ask_1 ?_
  refine X_cV 11 [.int l1] [] ma_X11_240 (by decide) rfl (by decide) (by decide) rfl (by simp [cat_i, cat_l, rf_cat]) rfl dX11_ask_2 hw (r_X11_isAsk _ _) (k_I (fun v1 h hw => ?_))
  refine V_if_ne (tgt := 10) dX11_ask_5 (by decide) hw (fun hw => ?_) (fun hw => ?_)
  · refine V_iconst (v := (-1)) (by decide) dX11_ask_8 ?_
    exact V_iret rfl dX11_ask_9 ⟨_, rfl, hw⟩
  · refine V_iload_n 2 rfl rfl dX11_ask_10 ?_
    by_cases c0 : l2 = 0
    · replace hw := hw.1 c0
      refine V_tsw 80 dX11_ask_11 (by rw [c0]; exact Or.inr ⟨by decide, by decide, _, rfl, by decide⟩) ?_
      refine V_aload_n 0 rfl rfl dX11_ask_80 ?_
      refine X_getR (c := 11) (k := 27) fa_X11_79 rfl dX11_ask_81 hw (fun v2 hw => ?_)
      refine V_iload_n 1 rfl rfl dX11_ask_84 ?_
      refine X_ldI dX11_ask_85 hw (fun v3 hw => ?_)
      exact V_iret rfl dX11_ask_86 ⟨_, rfl, hw⟩
    replace hw := hw.2 c0
    by_cases c1 : l2 = 1
    · replace hw := hw.1 c1
      refine V_tsw 87 dX11_ask_11 (by rw [c1]; exact Or.inr ⟨by decide, by decide, _, rfl, by decide⟩) ?_
      refine V_aload_n 0 rfl rfl dX11_ask_87 ?_
      refine X_getR (c := 11) (k := 22) fa_X11_64 rfl dX11_ask_88 hw (fun v4 hw => ?_)
      refine V_iload_n 1 rfl rfl dX11_ask_91 ?_
      refine X_ldI dX11_ask_92 hw (fun v5 hw => ?_)
      exact V_iret rfl dX11_ask_93 ⟨_, rfl, hw⟩
    replace hw := hw.2 c1
    by_cases c2 : l2 = 2
    · replace hw := hw.1 c2
      refine V_tsw 94 dX11_ask_11 (by rw [c2]; exact Or.inr ⟨by decide, by decide, _, rfl, by decide⟩) ?_
      refine V_aload_n 0 rfl rfl dX11_ask_94 ?_
      refine X_getR (c := 11) (k := 23) fa_X11_67 rfl dX11_ask_95 hw (fun v6 hw => ?_)
      refine V_iload_n 1 rfl rfl dX11_ask_98 ?_
      refine X_ldI dX11_ask_99 hw (fun v7 hw => ?_)
      exact V_iret rfl dX11_ask_100 ⟨_, rfl, hw⟩
    replace hw := hw.2 c2
    by_cases c3 : l2 = 3
    · replace hw := hw.1 c3
      refine V_tsw 101 dX11_ask_11 (by rw [c3]; exact Or.inr ⟨by decide, by decide, _, rfl, by decide⟩) ?_
      refine V_aload_n 0 rfl rfl dX11_ask_101 ?_
      refine X_getR (c := 11) (k := 24) fa_X11_70 rfl dX11_ask_102 hw (fun v8 hw => ?_)
      refine V_iload_n 1 rfl rfl dX11_ask_105 ?_
      refine X_ldI dX11_ask_106 hw (fun v9 hw => ?_)
      exact V_iret rfl dX11_ask_107 ⟨_, rfl, hw⟩
    replace hw := hw.2 c3
    by_cases c4 : l2 = 4
    · replace hw := hw.1 c4
      refine V_tsw 108 dX11_ask_11 (by rw [c4]; exact Or.inr ⟨by decide, by decide, _, rfl, by decide⟩) ?_
      refine V_aload_n 0 rfl rfl dX11_ask_108 ?_
      refine X_getR (c := 11) (k := 25) fa_X11_73 rfl dX11_ask_109 hw (fun v10 hw => ?_)
      refine V_iload_n 1 rfl rfl dX11_ask_112 ?_
      refine X_ldI dX11_ask_113 hw (fun v11 hw => ?_)
      exact V_iret rfl dX11_ask_114 ⟨_, rfl, hw⟩
    replace hw := hw.2 c4
    by_cases c5 : l2 = 5
    · replace hw := hw.1 c5
      refine V_tsw 115 dX11_ask_11 (by rw [c5]; exact Or.inr ⟨by decide, by decide, _, rfl, by decide⟩) ?_
      refine V_aload_n 0 rfl rfl dX11_ask_115 ?_
      refine X_getR (c := 11) (k := 26) fa_X11_76 rfl dX11_ask_116 hw (fun v12 hw => ?_)
      refine V_iload_n 1 rfl rfl dX11_ask_119 ?_
      refine X_ldI dX11_ask_120 hw (fun v13 hw => ?_)
      exact V_iret rfl dX11_ask_121 ⟨_, rfl, hw⟩
    replace hw := hw.2 c5
    by_cases c6 : l2 = 6
    · replace hw := hw.1 c6
      refine V_tsw 122 dX11_ask_11 (by rw [c6]; exact Or.inr ⟨by decide, by decide, _, rfl, by decide⟩) ?_
      refine V_aload_n 0 rfl rfl dX11_ask_122 ?_
      refine X_getR (c := 11) (k := 34) fa_X11_100 rfl dX11_ask_123 hw (fun v14 hw => ?_)
      refine V_iload_n 1 rfl rfl dX11_ask_126 ?_
      refine X_ldZ dX11_ask_127 hw (fun v15 hw => ?_)
      refine V_if_eq (tgt := 135) dX11_ask_128 (by decide) hw (fun hw => ?_) (fun hw => ?_)
      · refine V_iconst (v := 0) (by decide) dX11_ask_135 ?_
        exact V.sub [] rfl (s_X11_ask_136 hw)
      · refine V_iconst (v := 1) (by decide) dX11_ask_131 ?_
        refine V_goto (tgt := 136) dX11_ask_132 (by decide) ?_
        exact V.sub [] rfl (s_X11_ask_136 hw)
    replace hw := hw.2 c6
    by_cases c7 : l2 = 7
    · replace hw := hw.1 c7
      refine V_tsw 137 dX11_ask_11 (by rw [c7]; exact Or.inr ⟨by decide, by decide, _, rfl, by decide⟩) ?_
      refine V_aload_n 0 rfl rfl dX11_ask_137 ?_
      refine X_getR (c := 11) (k := 31) fa_X11_91 rfl dX11_ask_138 hw (fun v16 hw => ?_)
      refine V_iload_n 1 rfl rfl dX11_ask_141 ?_
      refine X_ldI dX11_ask_142 hw (fun v17 hw => ?_)
      refine V_iconst (v := (-1)) (by decide) dX11_ask_143 ?_
      refine V_icmp_eq (tgt := 151) dX11_ask_144 (by decide) hw (fun hw => ?_) (fun hw => ?_)
      · refine V_iconst (v := 0) (by decide) dX11_ask_151 ?_
        exact V.sub [] rfl (s_X11_ask_152 hw)
      · refine V_iconst (v := 1) (by decide) dX11_ask_147 ?_
        refine V_goto (tgt := 152) dX11_ask_148 (by decide) ?_
        exact V.sub [] rfl (s_X11_ask_152 hw)
    replace hw := hw.2 c7
    by_cases c8 : l2 = 8
    · replace hw := hw.1 c8
      refine V_tsw 153 dX11_ask_11 (by rw [c8]; exact Or.inr ⟨by decide, by decide, _, rfl, by decide⟩) ?_
      refine V_aload_n 0 rfl rfl dX11_ask_153 ?_
      refine X_getR (c := 11) (k := 35) fa_X11_103 rfl dX11_ask_154 hw (fun v18 hw => ?_)
      refine V_iload_n 1 rfl rfl dX11_ask_157 ?_
      refine X_ldZ dX11_ask_158 hw (fun v19 hw => ?_)
      refine V_if_eq (tgt := 166) dX11_ask_159 (by decide) hw (fun hw => ?_) (fun hw => ?_)
      · refine V_iconst (v := 0) (by decide) dX11_ask_166 ?_
        exact V.sub [] rfl (s_X11_ask_167 hw)
      · refine V_iconst (v := 1) (by decide) dX11_ask_162 ?_
        refine V_goto (tgt := 167) dX11_ask_163 (by decide) ?_
        exact V.sub [] rfl (s_X11_ask_167 hw)
    replace hw := hw.2 c8
    by_cases c9 : l2 = 9
    · replace hw := hw.1 c9
      refine V_tsw 168 dX11_ask_11 (by rw [c9]; exact Or.inr ⟨by decide, by decide, _, rfl, by decide⟩) ?_
      refine V_aload_n 0 rfl rfl dX11_ask_168 ?_
      refine X_getR (c := 11) (k := 29) fa_X11_85 rfl dX11_ask_169 hw (fun v20 hw => ?_)
      refine V_iload_n 1 rfl rfl dX11_ask_172 ?_
      refine X_ldI dX11_ask_173 hw (fun v21 hw => ?_)
      exact V_iret rfl dX11_ask_174 ⟨_, rfl, hw⟩
    replace hw := hw.2 c9
    by_cases c10 : l2 = 10
    · replace hw := hw.1 c10
      refine V_tsw 175 dX11_ask_11 (by rw [c10]; exact Or.inr ⟨by decide, by decide, _, rfl, by decide⟩) ?_
      refine V_aload_n 0 rfl rfl dX11_ask_175 ?_
      refine X_getR (c := 11) (k := 30) fa_X11_88 rfl dX11_ask_176 hw (fun v22 hw => ?_)
      refine V_iload_n 1 rfl rfl dX11_ask_179 ?_
      refine X_ldI dX11_ask_180 hw (fun v23 hw => ?_)
      exact V_iret rfl dX11_ask_181 ⟨_, rfl, hw⟩
    replace hw := hw.2 c10
    by_cases c11 : l2 = 11
    · replace hw := hw.1 c11
      refine V_tsw 182 dX11_ask_11 (by rw [c11]; exact Or.inr ⟨by decide, by decide, _, rfl, by decide⟩) ?_
      refine V_aload_n 0 rfl rfl dX11_ask_182 ?_
      refine V_iload_n 1 rfl rfl dX11_ask_183 ?_
      refine X_cV 11 [.int l1] [] ma_X11_264 (by decide) rfl (by decide) (by decide) rfl (by simp [cat_i, cat_l, rf_cat]) rfl dX11_ask_184 hw (r_X11_hearthsBehind _ _) (k_I (fun v24 h hw => ?_))
      exact V_iret rfl dX11_ask_187 ⟨_, rfl, hw⟩
    replace hw := hw.2 c11
    by_cases c12 : l2 = 12
    · replace hw := hw.1 c12
      refine V_tsw 188 dX11_ask_11 (by rw [c12]; exact Or.inr ⟨by decide, by decide, _, rfl, by decide⟩) ?_
      refine V_aload_n 0 rfl rfl dX11_ask_188 ?_
      refine X_getR (c := 11) (k := 28) fa_X11_82 rfl dX11_ask_189 hw (fun v25 hw => ?_)
      refine V_iload_n 1 rfl rfl dX11_ask_192 ?_
      refine X_ldI dX11_ask_193 hw (fun v26 hw => ?_)
      exact V_iret rfl dX11_ask_194 ⟨_, rfl, hw⟩
    replace hw := hw.2 c12
    by_cases c13 : l2 = 13
    · replace hw := hw.1 c13
      refine V_tsw 195 dX11_ask_11 (by rw [c13]; exact Or.inr ⟨by decide, by decide, _, rfl, by decide⟩) ?_
      refine V_aload_n 0 rfl rfl dX11_ask_195 ?_
      refine X_getR (c := 11) (k := 36) fa_X11_106 rfl dX11_ask_196 hw (fun v27 hw => ?_)
      refine V_iload_n 1 rfl rfl dX11_ask_199 ?_
      refine X_ldZ dX11_ask_200 hw (fun v28 hw => ?_)
      refine V_if_eq (tgt := 208) dX11_ask_201 (by decide) hw (fun hw => ?_) (fun hw => ?_)
      · refine V_iconst (v := 0) (by decide) dX11_ask_208 ?_
        exact V.sub [] rfl (s_X11_ask_209 hw)
      · refine V_iconst (v := 1) (by decide) dX11_ask_204 ?_
        refine V_goto (tgt := 209) dX11_ask_205 (by decide) ?_
        exact V.sub [] rfl (s_X11_ask_209 hw)
    replace hw := hw.2 c13
    have hout : l2.toInt < 0 ∨ 13 < l2.toInt := by
      refine sw_out (fun v h1 h2 => ?_)
      rcases (show v = 0 ∨ v = 1 ∨ v = 2 ∨ v = 3 ∨ v = 4 ∨ v = 5 ∨ v = 6 ∨ v = 7 ∨ v = 8 ∨ v = 9 ∨ v = 10 ∨ v = 11 ∨ v = 12 ∨ v = 13 by omega) with rfl | rfl | rfl | rfl | rfl | rfl | rfl | rfl | rfl | rfl | rfl | rfl | rfl | rfl
      · exact c0
      · exact c1
      · exact c2
      · exact c3
      · exact c4
      · exact c5
      · exact c6
      · exact c7
      · exact c8
      · exact c9
      · exact c10
      · exact c11
      · exact c12
      · exact c13
    refine V_tsw 210 dX11_ask_11 (Or.inl ⟨hout, by decide⟩) ?_
    refine V_iconst (v := (-1)) (by decide) dX11_ask_210 ?_
    exact V_iret rfl dX11_ask_211 ⟨_, rfl, hw⟩
theorem r_X11_ask {l : Launch} {G : Gh} (l0 : Option Nat) (l1 : Int32) (l2 : Int32) {h : Hp} {Q : Int32 → Hp → Prop} (hw : w_X11_ask l0 l1 l2 h Q) : RunQ l G 2 yX11_ask cX11_ask 3 (some .int) [va_rf l0, .int l1, .int l2] h (qI Q) :=
  V_run rfl (sl_len _ _ (by simp [cat_i, cat_l, rf_cat])) (V.sub [0, 1, 2] (by simp only [la_r, la_i, la_l, la_n]; rfl) (s_X11_ask_0 hw))
def n_X11_isAsked_25 (s0 : Int32) (h : Hp) (Q : Int32 → Hp → Prop) : Prop :=
  rZ s0 h Q
def n_X11_isAsked_24 (h : Hp) (Q : Int32 → Hp → Prop) : Prop :=
  n_X11_isAsked_25 0 h Q
def n_X11_isAsked_0 (l0 : Int32) (l1 : Int32) (h : Hp) (Q : Int32 → Hp → Prop) : Prop :=
  br (l0 < 0) (
    n_X11_isAsked_24 h Q) (
    br (16 ≤ l0) (
      n_X11_isAsked_24 h Q) (
      br (l1 < 0) (
        n_X11_isAsked_24 h Q) (
        br (8 ≤ l1) (
          n_X11_isAsked_24 h Q) (
          n_X11_isAsked_25 1 h Q))))
def w_X11_isAsked (l0 : Int32) (l1 : Int32) (h : Hp) (Q : Int32 → Hp → Prop) : Prop := n_X11_isAsked_0 l0 l1 h Q
theorem s_X11_isAsked_25 {l : Launch} {G : Gh} {s0 : Int32} {h : Hp} {Q : Int32 → Hp → Prop}  (hw : n_X11_isAsked_25 s0 h Q) : V l G 1 yX11_isAsked cX11_isAsked 2 (some .boolean) 25 [] [.int s0] h (qI Q) := by
  unfold n_X11_isAsked_25 at hw
  exact V_zret rfl hw.1 dX11_isAsked_25 ⟨_, rfl, hw.2⟩
theorem s_X11_isAsked_24 {l : Launch} {G : Gh}  {h : Hp} {Q : Int32 → Hp → Prop}  (hw : n_X11_isAsked_24 h Q) : V l G 1 yX11_isAsked cX11_isAsked 2 (some .boolean) 24 [] [] h (qI Q) := by
  unfold n_X11_isAsked_24 at hw
  refine V_iconst (v := 0) (by decide) dX11_isAsked_24 ?_
  exact V.sub [] rfl (s_X11_isAsked_25 hw)
theorem s_X11_isAsked_0 {l : Launch} {G : Gh} {l0 : Int32} {l1 : Int32} {h : Hp} {Q : Int32 → Hp → Prop}  (hw : n_X11_isAsked_0 l0 l1 h Q) : V l G 1 yX11_isAsked cX11_isAsked 2 (some .boolean) 0 [(0, .int l0), (1, .int l1)] [] h (qI Q) := by
  unfold n_X11_isAsked_0 at hw
  refine V_iload_n 0 rfl rfl dX11_isAsked_0 ?_
  refine V_if_lt (tgt := 24) dX11_isAsked_1 (by decide) hw (fun hw => ?_) (fun hw => ?_)
  · exact V.sub [] rfl (s_X11_isAsked_24 hw)
  · refine V_iload_n 0 rfl rfl dX11_isAsked_4 ?_
    refine V_bipush (v := 16) (by decide) dX11_isAsked_5 ?_
    refine V_icmp_ge (tgt := 24) dX11_isAsked_7 (by decide) hw (fun hw => ?_) (fun hw => ?_)
    · exact V.sub [] rfl (s_X11_isAsked_24 hw)
    · refine V_iload_n 1 rfl rfl dX11_isAsked_10 ?_
      refine V_if_lt (tgt := 24) dX11_isAsked_11 (by decide) hw (fun hw => ?_) (fun hw => ?_)
      · exact V.sub [] rfl (s_X11_isAsked_24 hw)
      · refine V_iload_n 1 rfl rfl dX11_isAsked_14 ?_
        refine V_bipush (v := 8) (by decide) dX11_isAsked_15 ?_
        refine V_icmp_ge (tgt := 24) dX11_isAsked_17 (by decide) hw (fun hw => ?_) (fun hw => ?_)
        · exact V.sub [] rfl (s_X11_isAsked_24 hw)
        · refine V_iconst (v := 1) (by decide) dX11_isAsked_20 ?_
          refine V_goto (tgt := 25) dX11_isAsked_21 (by decide) ?_
          exact V.sub [] rfl (s_X11_isAsked_25 hw)
theorem r_X11_isAsked {l : Launch} {G : Gh} (l0 : Int32) (l1 : Int32) {h : Hp} {Q : Int32 → Hp → Prop} (hw : w_X11_isAsked l0 l1 h Q) : RunQ l G 1 yX11_isAsked cX11_isAsked 2 (some .boolean) [.int l0, .int l1] h (qI Q) :=
  V_run rfl (sl_len _ _ (by simp [cat_i, cat_l, rf_cat])) (V.sub [0, 1] (by simp only [la_r, la_i, la_l, la_n]; rfl) (s_X11_isAsked_0 hw))
def n_X11_pathOf_52 (l0 : Option Nat) (l3 : Int32) (l4 : Int32) (l5 : Int32) (h : Hp) (Q : Int32 → Hp → Prop) (K8 : Int32 → Int32 → Int32 → Hp → Prop) : Prop :=
  gR h l0 12 1417 fun v5 =>
  ldI h v5 l3 fun v6 =>
  lt (l5 + v6) fun x7 =>
  gR h l0 12 1416 fun v8 =>
  ldI h v8 l3 fun v9 =>
  K8 v9 l4 x7 h
def n_X11_pathOf_73 (l0 : Option Nat) (l3 : Int32) (l4 : Int32) (l5 : Int32) (h : Hp) (Q : Int32 → Hp → Prop) (K8 : Int32 → Int32 → Int32 → Hp → Prop) : Prop :=
  gR h l0 12 1417 fun v14 =>
  ldI h v14 l4 fun v15 =>
  lt (l5 + v15) fun x16 =>
  gR h l0 12 1416 fun v17 =>
  ldI h v17 l4 fun v18 =>
  K8 l3 v18 x16 h
def b_X11_pathOf_8 (l0 : Option Nat) (l3 : Int32) (l4 : Int32) (l5 : Int32) (h : Hp) (Q : Int32 → Hp → Prop) (K8 : Int32 → Int32 → Int32 → Hp → Prop) : Prop :=
  br (l3 = l4) (
    Q l5 h) (
    gR h l0 12 1415 fun v1 =>
    ldI h v1 l3 fun v2 =>
    gR h l0 12 1415 fun v3 =>
    ldI h v3 l4 fun v4 =>
    br (v2 < v4) (
      n_X11_pathOf_52 l0 l3 l4 l5 h Q K8) (
      gR h l0 12 1415 fun v10 =>
      ldI h v10 l3 fun v11 =>
      gR h l0 12 1415 fun v12 =>
      ldI h v12 l4 fun v13 =>
      br (v11 = v13) (
        br (l3 ≤ l4) (
          n_X11_pathOf_73 l0 l3 l4 l5 h Q K8) (
          n_X11_pathOf_52 l0 l3 l4 l5 h Q K8)) (
        n_X11_pathOf_73 l0 l3 l4 l5 h Q K8)))
def l_X11_pathOf_8 (l0 : Option Nat) (l3 : Int32) (l4 : Int32) (l5 : Int32) (h : Hp) (Q : Int32 → Hp → Prop) : Prop :=
  Lo (fun (K : Int32 × Int32 × Int32 → Hp → Prop) s h => b_X11_pathOf_8 l0 s.1 s.2.1 s.2.2 h Q (fun l3 l4 l5 h => K (l3, l4, l5) h)) (l3, l4, l5) h
def n_X11_pathOf_0 (l0 : Option Nat) (l1 : Int32) (l2 : Int32) (h : Hp) (Q : Int32 → Hp → Prop) : Prop :=
  l_X11_pathOf_8 l0 l1 l2 0 h Q
def w_X11_pathOf (l0 : Option Nat) (l1 : Int32) (l2 : Int32) (h : Hp) (Q : Int32 → Hp → Prop) : Prop := n_X11_pathOf_0 l0 l1 l2 h Q
theorem s_X11_pathOf_52 {l : Launch} {G : Gh} {l0 : Option Nat} {l3 : Int32} {l4 : Int32} {l5 : Int32} {h : Hp} {Q : Int32 → Hp → Prop} {K8 : Int32 → Int32 → Int32 → Hp → Prop} (hK8 : ∀ (l3 : Int32) (l4 : Int32) (l5 : Int32) (h : Hp), K8 l3 l4 l5 h → V l G 1 yX11_pathOf cX11_pathOf 6 (some .int) 8 [(0, va_rf l0), (3, .int l3), (4, .int l4), (5, .int l5)] [] h (qI Q)) (hw : n_X11_pathOf_52 l0 l3 l4 l5 h Q K8) : V l G 1 yX11_pathOf cX11_pathOf 6 (some .int) 52 [(0, va_rf l0), (3, .int l3), (4, .int l4), (5, .int l5)] [] h (qI Q) := by
  unfold n_X11_pathOf_52 at hw
  refine V_iload 3 rfl dX11_pathOf_52 ?_
  refine V_aload_n 0 rfl rfl dX11_pathOf_54 ?_
  refine X_getR (c := 11) (k := 9) fa_X11_23 rfl dX11_pathOf_55 hw (fun v5 hw => ?_)
  refine V_iload_n 1 rfl rfl dX11_pathOf_58 ?_
  refine X_ldI dX11_pathOf_59 hw (fun v6 hw => ?_)
  refine V_iadd dX11_pathOf_60 ?_
  refine V_ltI hw (fun x7 hw => ?_)
  refine V_istore (i := 5) [(5, .int x7), (0, va_rf l0), (3, .int l3), (4, .int l4)] (by decide) rfl dX11_pathOf_61 ?_
  refine V_aload_n 1 rfl rfl dX11_pathOf_63 ?_
  refine X_getR (c := 11) (k := 8) fa_X11_20 rfl dX11_pathOf_64 hw (fun v8 hw => ?_)
  refine V_iload_n 2 rfl rfl dX11_pathOf_67 ?_
  refine X_ldI dX11_pathOf_68 hw (fun v9 hw => ?_)
  refine V_istore_n (i := 3) [(3, .int v9), (5, .int x7), (0, va_rf l0), (4, .int l4)] rfl (by decide) rfl dX11_pathOf_69 ?_
  refine V_goto (tgt := 8) dX11_pathOf_70 (by decide) ?_
  exact V.sub [2, 0, 3, 1] rfl (hK8 _ _ _ _ hw)
theorem s_X11_pathOf_73 {l : Launch} {G : Gh} {l0 : Option Nat} {l3 : Int32} {l4 : Int32} {l5 : Int32} {h : Hp} {Q : Int32 → Hp → Prop} {K8 : Int32 → Int32 → Int32 → Hp → Prop} (hK8 : ∀ (l3 : Int32) (l4 : Int32) (l5 : Int32) (h : Hp), K8 l3 l4 l5 h → V l G 1 yX11_pathOf cX11_pathOf 6 (some .int) 8 [(0, va_rf l0), (3, .int l3), (4, .int l4), (5, .int l5)] [] h (qI Q)) (hw : n_X11_pathOf_73 l0 l3 l4 l5 h Q K8) : V l G 1 yX11_pathOf cX11_pathOf 6 (some .int) 73 [(0, va_rf l0), (3, .int l3), (4, .int l4), (5, .int l5)] [] h (qI Q) := by
  unfold n_X11_pathOf_73 at hw
  refine V_iload 3 rfl dX11_pathOf_73 ?_
  refine V_aload_n 0 rfl rfl dX11_pathOf_75 ?_
  refine X_getR (c := 11) (k := 9) fa_X11_23 rfl dX11_pathOf_76 hw (fun v14 hw => ?_)
  refine V_iload 2 rfl dX11_pathOf_79 ?_
  refine X_ldI dX11_pathOf_81 hw (fun v15 hw => ?_)
  refine V_iadd dX11_pathOf_82 ?_
  refine V_ltI hw (fun x16 hw => ?_)
  refine V_istore (i := 5) [(5, .int x16), (0, va_rf l0), (3, .int l3), (4, .int l4)] (by decide) rfl dX11_pathOf_83 ?_
  refine V_aload_n 1 rfl rfl dX11_pathOf_85 ?_
  refine X_getR (c := 11) (k := 8) fa_X11_20 rfl dX11_pathOf_86 hw (fun v17 hw => ?_)
  refine V_iload 3 rfl dX11_pathOf_89 ?_
  refine X_ldI dX11_pathOf_91 hw (fun v18 hw => ?_)
  refine V_istore (i := 4) [(4, .int v18), (5, .int x16), (0, va_rf l0), (3, .int l3)] (by decide) rfl dX11_pathOf_92 ?_
  refine V_goto (tgt := 8) dX11_pathOf_94 (by decide) ?_
  exact V.sub [2, 3, 0, 1] rfl (hK8 _ _ _ _ hw)
theorem sb_X11_pathOf_8 {l : Launch} {G : Gh} {l0 : Option Nat} {l3 : Int32} {l4 : Int32} {l5 : Int32} {h : Hp} {Q : Int32 → Hp → Prop} {K8 : Int32 → Int32 → Int32 → Hp → Prop} (hK8 : ∀ (l3 : Int32) (l4 : Int32) (l5 : Int32) (h : Hp), K8 l3 l4 l5 h → V l G 1 yX11_pathOf cX11_pathOf 6 (some .int) 8 [(0, va_rf l0), (3, .int l3), (4, .int l4), (5, .int l5)] [] h (qI Q)) (hw : b_X11_pathOf_8 l0 l3 l4 l5 h Q K8) : V l G 1 yX11_pathOf cX11_pathOf 6 (some .int) 8 [(0, va_rf l0), (3, .int l3), (4, .int l4), (5, .int l5)] [] h (qI Q) := by
  unfold b_X11_pathOf_8 at hw
  refine V_iload_n 1 rfl rfl dX11_pathOf_8 ?_
  refine V_iload 2 rfl dX11_pathOf_9 ?_
  refine V_icmp_eq (tgt := 97) dX11_pathOf_11 (by decide) hw (fun hw => ?_) (fun hw => ?_)
  · refine V_iload 3 rfl dX11_pathOf_97 ?_
    exact V_iret rfl dX11_pathOf_99 ⟨_, rfl, hw⟩
  · refine V_aload_n 0 rfl rfl dX11_pathOf_14 ?_
    refine X_getR (c := 11) (k := 7) fa_X11_16 rfl dX11_pathOf_15 hw (fun v1 hw => ?_)
    refine V_iload_n 1 rfl rfl dX11_pathOf_18 ?_
    refine X_ldI dX11_pathOf_19 hw (fun v2 hw => ?_)
    refine V_aload_n 0 rfl rfl dX11_pathOf_20 ?_
    refine X_getR (c := 11) (k := 7) fa_X11_16 rfl dX11_pathOf_21 hw (fun v3 hw => ?_)
    refine V_iload 2 rfl dX11_pathOf_24 ?_
    refine X_ldI dX11_pathOf_26 hw (fun v4 hw => ?_)
    refine V_icmp_lt (tgt := 52) dX11_pathOf_27 (by decide) hw (fun hw => ?_) (fun hw => ?_)
    · exact V.sub [0, 1, 2, 3] rfl (s_X11_pathOf_52 hK8 hw)
    · refine V_aload_n 0 rfl rfl dX11_pathOf_30 ?_
      refine X_getR (c := 11) (k := 7) fa_X11_16 rfl dX11_pathOf_31 hw (fun v10 hw => ?_)
      refine V_iload_n 1 rfl rfl dX11_pathOf_34 ?_
      refine X_ldI dX11_pathOf_35 hw (fun v11 hw => ?_)
      refine V_aload_n 0 rfl rfl dX11_pathOf_36 ?_
      refine X_getR (c := 11) (k := 7) fa_X11_16 rfl dX11_pathOf_37 hw (fun v12 hw => ?_)
      refine V_iload 2 rfl dX11_pathOf_40 ?_
      refine X_ldI dX11_pathOf_42 hw (fun v13 hw => ?_)
      refine V_icmp_ne (tgt := 73) dX11_pathOf_43 (by decide) hw (fun hw => ?_) (fun hw => ?_)
      · refine V_iload_n 1 rfl rfl dX11_pathOf_46 ?_
        refine V_iload 2 rfl dX11_pathOf_47 ?_
        refine V_icmp_le (tgt := 73) dX11_pathOf_49 (by decide) hw (fun hw => ?_) (fun hw => ?_)
        · exact V.sub [0, 1, 2, 3] rfl (s_X11_pathOf_73 hK8 hw)
        · exact V.sub [0, 1, 2, 3] rfl (s_X11_pathOf_52 hK8 hw)
      · exact V.sub [0, 1, 2, 3] rfl (s_X11_pathOf_73 hK8 hw)
theorem s_X11_pathOf_8 {l : Launch} {G : Gh} {l0 : Option Nat} {l3 : Int32} {l4 : Int32} {l5 : Int32} {h : Hp} {Q : Int32 → Hp → Prop}  (hw : l_X11_pathOf_8 l0 l3 l4 l5 h Q) : V l G 1 yX11_pathOf cX11_pathOf 6 (some .int) 8 [(0, va_rf l0), (3, .int l3), (4, .int l4), (5, .int l5)] [] h (qI Q) :=
  Lo.ind (P := fun (s : Int32 × Int32 × Int32) h => V l G 1 yX11_pathOf cX11_pathOf 6 (some .int) 8 [(0, va_rf l0), (3, .int s.1), (4, .int s.2.1), (5, .int s.2.2)] [] h (qI Q)) (fun K ih s h hw => sb_X11_pathOf_8 (fun l3 l4 l5 h hk => ih (l3, l4, l5) h hk) hw) hw
theorem s_X11_pathOf_0 {l : Launch} {G : Gh} {l0 : Option Nat} {l1 : Int32} {l2 : Int32} {h : Hp} {Q : Int32 → Hp → Prop}  (hw : n_X11_pathOf_0 l0 l1 l2 h Q) : V l G 1 yX11_pathOf cX11_pathOf 6 (some .int) 0 [(0, va_rf l0), (1, .int l1), (2, .int l2)] [] h (qI Q) := by
  unfold n_X11_pathOf_0 at hw
  refine V_iload_n 1 rfl rfl dX11_pathOf_0 ?_
  refine V_istore_n (i := 3) [(3, .int l1), (0, va_rf l0), (1, .int l1), (2, .int l2)] rfl (by decide) rfl dX11_pathOf_1 ?_
  refine V_iload_n 3 rfl rfl dX11_pathOf_2 ?_
  refine V_istore (i := 4) [(4, .int l2), (3, .int l1), (0, va_rf l0), (1, .int l1), (2, .int l2)] (by decide) rfl dX11_pathOf_3 ?_
  refine V_iconst (v := 0) (by decide) dX11_pathOf_5 ?_
  refine V_istore (i := 5) [(5, .int 0), (4, .int l2), (3, .int l1), (0, va_rf l0), (1, .int l1), (2, .int l2)] (by decide) rfl dX11_pathOf_6 ?_
  exact V.sub [3, 2, 1, 0] rfl (s_X11_pathOf_8 hw)
theorem r_X11_pathOf {l : Launch} {G : Gh} (l0 : Option Nat) (l1 : Int32) (l2 : Int32) {h : Hp} {Q : Int32 → Hp → Prop} (hw : w_X11_pathOf l0 l1 l2 h Q) : RunQ l G 1 yX11_pathOf cX11_pathOf 6 (some .int) [va_rf l0, .int l1, .int l2] h (qI Q) :=
  V_run rfl (sl_len _ _ (by simp [cat_i, cat_l, rf_cat])) (V.sub [0, 1, 2] (by simp only [la_r, la_i, la_l, la_n]; rfl) (s_X11_pathOf_0 hw))
def n_X11_asked_17 (h : Hp) (Q : Int32 → Hp → Prop) : Prop :=
  Q (-1) h
def n_X11_asked_198 (l0 : Option Nat) (l1 : Int32) (l2 : Int32) (l3 : Int32) (l4 : Int32) (l5 : Int32) (l6 : Int32) (l7 : Int32) (h : Hp) (Q : Int32 → Hp → Prop) (K25 : Int32 → Int32 → Hp → Prop) : Prop :=
  lt (l7 + 1) fun x5 =>
  K25 l6 x5 h
def n_X11_asked_184 (l0 : Option Nat) (l1 : Int32) (l2 : Int32) (l3 : Int32) (l4 : Int32) (l5 : Int32) (l6 : Int32) (l7 : Int32) (l8 : Int32) (l9 : Int32) (h : Hp) (Q : Int32 → Hp → Prop) (K25 : Int32 → Int32 → Hp → Prop) (K40 : Int32 → Int32 → Hp → Prop) : Prop :=
  lt (l9 + 1) fun x20 =>
  K40 l8 x20 h
def n_X11_asked_148 (l0 : Option Nat) (l1 : Int32) (l2 : Int32) (l3 : Int32) (l4 : Int32) (l5 : Int32) (l6 : Int32) (l7 : Int32) (l8 : Int32) (l9 : Int32) (l10 : Int32) (s0 : Int32) (h : Hp) (Q : Int32 → Hp → Prop) (K25 : Int32 → Int32 → Hp → Prop) (K40 : Int32 → Int32 → Hp → Prop) : Prop :=
  gR h l0 12 1434 fun v18 =>
  ldI h v18 l9 fun v19 =>
  br (l3 < v19) (
    n_X11_asked_184 l0 l1 l2 l3 l4 l5 l6 l7 l8 l9 h Q K25 K40) (
    gR h l0 12 1434 fun v21 =>
    ldI h v21 l9 fun v22 =>
    br (l5 < (v22 + l10)) (
      n_X11_asked_184 l0 l1 l2 l3 l4 l5 l6 l7 l8 l9 h Q K25 K40) (
      br (s0 = 0) (
        n_X11_asked_184 l0 l1 l2 l3 l4 l5 l6 l7 1 l9 h Q K25 K40) (
        n_X11_asked_184 l0 l1 l2 l3 l4 l5 l6 l7 l8 l9 h Q K25 K40)))
def n_X11_asked_147 (l0 : Option Nat) (l1 : Int32) (l2 : Int32) (l3 : Int32) (l4 : Int32) (l5 : Int32) (l6 : Int32) (l7 : Int32) (l8 : Int32) (l9 : Int32) (l10 : Int32) (h : Hp) (Q : Int32 → Hp → Prop) (K25 : Int32 → Int32 → Hp → Prop) (K40 : Int32 → Int32 → Hp → Prop) : Prop :=
  n_X11_asked_148 l0 l1 l2 l3 l4 l5 l6 l7 l8 l9 l10 0 h Q K25 K40
def b_X11_asked_40 (l0 : Option Nat) (l1 : Int32) (l2 : Int32) (l3 : Int32) (l4 : Int32) (l5 : Int32) (l6 : Int32) (l7 : Int32) (l8 : Int32) (l9 : Int32) (h : Hp) (Q : Int32 → Hp → Prop) (K25 : Int32 → Int32 → Hp → Prop) (K40 : Int32 → Int32 → Hp → Prop) : Prop :=
  gI h l0 12 1410 fun v4 =>
  br (v4 ≤ l9) (
    br (l8 = 0) (
      n_X11_asked_198 l0 l1 l2 l3 l4 l5 l6 l7 h Q K25) (
      lt (l6 + 1) fun x6 =>
      n_X11_asked_198 l0 l1 l2 l3 l4 l5 x6 l7 h Q K25)) (
    gR h l0 12 1415 fun v7 =>
    ldI h v7 l7 fun v8 =>
    br (v8 = 0) (
      gR h l0 12 1430 fun v9 =>
      ldI h v9 l9 fun v10 =>
      br (v10 = l7) (
        gR h l0 12 1431 fun v11 =>
        ldI h v11 l9 fun v12 =>
        br (v12 = l1) (
          gR h l0 12 1432 fun v13 =>
          ldI h v13 l9 fun v14 =>
          br (v14 = l2) (
            oV h l0 12 <| w_X11_pathOf l0 l7 l4 h <| fun v15 h =>
            gR h l0 12 1439 fun v16 =>
            ldI h v16 l9 fun v17 =>
            br (v17 = (-1)) (
              n_X11_asked_147 l0 l1 l2 l3 l4 l5 l6 l7 l8 l9 v15 h Q K25 K40) (
              gR h l0 12 1439 fun v23 =>
              ldI h v23 l9 fun v24 =>
              br (l3 < v24) (
                n_X11_asked_147 l0 l1 l2 l3 l4 l5 l6 l7 l8 l9 v15 h Q K25 K40) (
                gR h l0 12 1439 fun v25 =>
                ldI h v25 l9 fun v26 =>
                br (l5 < (v26 + v15)) (
                  n_X11_asked_147 l0 l1 l2 l3 l4 l5 l6 l7 l8 l9 v15 h Q K25 K40) (
                  n_X11_asked_148 l0 l1 l2 l3 l4 l5 l6 l7 l8 l9 v15 1 h Q K25 K40)))) (
            n_X11_asked_184 l0 l1 l2 l3 l4 l5 l6 l7 l8 l9 h Q K25 K40)) (
          n_X11_asked_184 l0 l1 l2 l3 l4 l5 l6 l7 l8 l9 h Q K25 K40)) (
        n_X11_asked_184 l0 l1 l2 l3 l4 l5 l6 l7 l8 l9 h Q K25 K40)) (
      n_X11_asked_184 l0 l1 l2 l3 l4 l5 l6 l7 l8 l9 h Q K25 K40))
def l_X11_asked_40 (l0 : Option Nat) (l1 : Int32) (l2 : Int32) (l3 : Int32) (l4 : Int32) (l5 : Int32) (l6 : Int32) (l7 : Int32) (l8 : Int32) (l9 : Int32) (h : Hp) (Q : Int32 → Hp → Prop) (K25 : Int32 → Int32 → Hp → Prop) : Prop :=
  Lo (fun (K : Int32 × Int32 → Hp → Prop) s h => b_X11_asked_40 l0 l1 l2 l3 l4 l5 l6 l7 s.1 s.2 h Q K25 (fun l8 l9 h => K (l8, l9) h)) (l8, l9) h
def b_X11_asked_25 (l0 : Option Nat) (l1 : Int32) (l2 : Int32) (l3 : Int32) (l4 : Int32) (l5 : Int32) (l6 : Int32) (l7 : Int32) (h : Hp) (Q : Int32 → Hp → Prop) (K25 : Int32 → Int32 → Hp → Prop) : Prop :=
  gI h l0 12 1409 fun v3 =>
  br (v3 ≤ l7) (
    Q l6 h) (
    l_X11_asked_40 l0 l1 l2 l3 l4 l5 l6 l7 0 0 h Q K25)
def l_X11_asked_25 (l0 : Option Nat) (l1 : Int32) (l2 : Int32) (l3 : Int32) (l4 : Int32) (l5 : Int32) (l6 : Int32) (l7 : Int32) (h : Hp) (Q : Int32 → Hp → Prop) : Prop :=
  Lo (fun (K : Int32 × Int32 → Hp → Prop) s h => b_X11_asked_25 l0 l1 l2 l3 l4 l5 s.1 s.2 h Q (fun l6 l7 h => K (l6, l7) h)) (l6, l7) h
def n_X11_asked_0 (l0 : Option Nat) (l1 : Int32) (l2 : Int32) (l3 : Int32) (l4 : Int32) (l5 : Int32) (h : Hp) (Q : Int32 → Hp → Prop) : Prop :=
  w_X11_isAsked l1 l2 h <| fun v1 h =>
  br (v1 = 0) (
    n_X11_asked_17 h Q) (
    oV h l0 12 <| w_X11_isPlace l0 l4 h <| fun v2 h =>
    br (v2 = 0) (
      n_X11_asked_17 h Q) (
      l_X11_asked_25 l0 l1 l2 l3 l4 l5 0 0 h Q))
def w_X11_asked (l0 : Option Nat) (l1 : Int32) (l2 : Int32) (l3 : Int32) (l4 : Int32) (l5 : Int32) (h : Hp) (Q : Int32 → Hp → Prop) : Prop := n_X11_asked_0 l0 l1 l2 l3 l4 l5 h Q
theorem s_X11_asked_17 {l : Launch} {G : Gh}  {h : Hp} {Q : Int32 → Hp → Prop}  (hw : n_X11_asked_17 h Q) : V l G 2 yX11_asked cX11_asked 12 (some .int) 17 [] [] h (qI Q) := by
  unfold n_X11_asked_17 at hw
  refine V_iconst (v := (-1)) (by decide) dX11_asked_17 ?_
  exact V_iret rfl dX11_asked_18 ⟨_, rfl, hw⟩
theorem s_X11_asked_198 {l : Launch} {G : Gh} {l0 : Option Nat} {l1 : Int32} {l2 : Int32} {l3 : Int32} {l4 : Int32} {l5 : Int32} {l6 : Int32} {l7 : Int32} {h : Hp} {Q : Int32 → Hp → Prop} {K25 : Int32 → Int32 → Hp → Prop} (hK25 : ∀ (l6 : Int32) (l7 : Int32) (h : Hp), K25 l6 l7 h → V l G 2 yX11_asked cX11_asked 12 (some .int) 25 [(0, va_rf l0), (1, .int l1), (2, .int l2), (3, .int l3), (4, .int l4), (5, .int l5), (6, .int l6), (7, .int l7)] [] h (qI Q)) (hw : n_X11_asked_198 l0 l1 l2 l3 l4 l5 l6 l7 h Q K25) : V l G 2 yX11_asked cX11_asked 12 (some .int) 198 [(0, va_rf l0), (1, .int l1), (2, .int l2), (3, .int l3), (4, .int l4), (5, .int l5), (6, .int l6), (7, .int l7)] [] h (qI Q) := by
  unfold n_X11_asked_198 at hw
  refine V_iincL (n := 1) 7 (fun z => [(7, .int z), (0, va_rf l0), (1, .int l1), (2, .int l2), (3, .int l3), (4, .int l4), (5, .int l5), (6, .int l6)]) rfl (by rfl) (by decide) (fun _ => rfl) dX11_asked_198 hw (fun x5 hw => ?_)
  refine V_goto (tgt := 25) dX11_asked_201 (by decide) ?_
  exact V.sub [1, 2, 3, 4, 5, 6, 7, 0] rfl (hK25 _ _ _ hw)
theorem s_X11_asked_184 {l : Launch} {G : Gh} {l0 : Option Nat} {l1 : Int32} {l2 : Int32} {l3 : Int32} {l4 : Int32} {l5 : Int32} {l6 : Int32} {l7 : Int32} {l8 : Int32} {l9 : Int32} {h : Hp} {Q : Int32 → Hp → Prop} {K25 : Int32 → Int32 → Hp → Prop} {K40 : Int32 → Int32 → Hp → Prop} (hK25 : ∀ (l6 : Int32) (l7 : Int32) (h : Hp), K25 l6 l7 h → V l G 2 yX11_asked cX11_asked 12 (some .int) 25 [(0, va_rf l0), (1, .int l1), (2, .int l2), (3, .int l3), (4, .int l4), (5, .int l5), (6, .int l6), (7, .int l7)] [] h (qI Q)) (hK40 : ∀ (l8 : Int32) (l9 : Int32) (h : Hp), K40 l8 l9 h → V l G 2 yX11_asked cX11_asked 12 (some .int) 40 [(0, va_rf l0), (1, .int l1), (2, .int l2), (3, .int l3), (4, .int l4), (5, .int l5), (6, .int l6), (7, .int l7), (8, .int l8), (9, .int l9)] [] h (qI Q)) (hw : n_X11_asked_184 l0 l1 l2 l3 l4 l5 l6 l7 l8 l9 h Q K25 K40) : V l G 2 yX11_asked cX11_asked 12 (some .int) 184 [(0, va_rf l0), (1, .int l1), (2, .int l2), (3, .int l3), (4, .int l4), (5, .int l5), (6, .int l6), (7, .int l7), (8, .int l8), (9, .int l9)] [] h (qI Q) := by
  unfold n_X11_asked_184 at hw
  refine V_iincL (n := 1) 9 (fun z => [(9, .int z), (0, va_rf l0), (1, .int l1), (2, .int l2), (3, .int l3), (4, .int l4), (5, .int l5), (6, .int l6), (7, .int l7), (8, .int l8)]) rfl (by rfl) (by decide) (fun _ => rfl) dX11_asked_184 hw (fun x20 hw => ?_)
  refine V_goto (tgt := 40) dX11_asked_187 (by decide) ?_
  exact V.sub [1, 2, 3, 4, 5, 6, 7, 8, 9, 0] rfl (hK40 _ _ _ hw)
theorem s_X11_asked_148 {l : Launch} {G : Gh} {l0 : Option Nat} {l1 : Int32} {l2 : Int32} {l3 : Int32} {l4 : Int32} {l5 : Int32} {l6 : Int32} {l7 : Int32} {l8 : Int32} {l9 : Int32} {l10 : Int32} {s0 : Int32} {h : Hp} {Q : Int32 → Hp → Prop} {K25 : Int32 → Int32 → Hp → Prop} {K40 : Int32 → Int32 → Hp → Prop} (hK25 : ∀ (l6 : Int32) (l7 : Int32) (h : Hp), K25 l6 l7 h → V l G 2 yX11_asked cX11_asked 12 (some .int) 25 [(0, va_rf l0), (1, .int l1), (2, .int l2), (3, .int l3), (4, .int l4), (5, .int l5), (6, .int l6), (7, .int l7)] [] h (qI Q)) (hK40 : ∀ (l8 : Int32) (l9 : Int32) (h : Hp), K40 l8 l9 h → V l G 2 yX11_asked cX11_asked 12 (some .int) 40 [(0, va_rf l0), (1, .int l1), (2, .int l2), (3, .int l3), (4, .int l4), (5, .int l5), (6, .int l6), (7, .int l7), (8, .int l8), (9, .int l9)] [] h (qI Q)) (hw : n_X11_asked_148 l0 l1 l2 l3 l4 l5 l6 l7 l8 l9 l10 s0 h Q K25 K40) : V l G 2 yX11_asked cX11_asked 12 (some .int) 148 [(0, va_rf l0), (1, .int l1), (2, .int l2), (3, .int l3), (4, .int l4), (5, .int l5), (6, .int l6), (7, .int l7), (8, .int l8), (9, .int l9), (10, .int l10)] [.int s0] h (qI Q) := by
  unfold n_X11_asked_148 at hw
  refine V_istore (i := 11) [(11, .int s0), (0, va_rf l0), (1, .int l1), (2, .int l2), (3, .int l3), (4, .int l4), (5, .int l5), (6, .int l6), (7, .int l7), (8, .int l8), (9, .int l9), (10, .int l10)] (by decide) rfl dX11_asked_148 ?_
  refine V_aload_n 1 rfl rfl dX11_asked_150 ?_
  refine X_getR (c := 11) (k := 26) fa_X11_76 rfl dX11_asked_151 hw (fun v18 hw => ?_)
  refine V_iload 10 rfl dX11_asked_154 ?_
  refine X_ldI dX11_asked_156 hw (fun v19 hw => ?_)
  refine V_iload_n 4 rfl rfl dX11_asked_157 ?_
  refine V_icmp_gt (tgt := 184) dX11_asked_158 (by decide) hw (fun hw => ?_) (fun hw => ?_)
  · exact V.sub [1, 2, 3, 4, 5, 6, 7, 8, 9, 10] rfl (s_X11_asked_184 hK25 hK40 hw)
  · refine V_aload_n 1 rfl rfl dX11_asked_161 ?_
    refine X_getR (c := 11) (k := 26) fa_X11_76 rfl dX11_asked_162 hw (fun v21 hw => ?_)
    refine V_iload 10 rfl dX11_asked_165 ?_
    refine X_ldI dX11_asked_167 hw (fun v22 hw => ?_)
    refine V_iload 11 rfl dX11_asked_168 ?_
    refine V_iadd dX11_asked_170 ?_
    refine V_iload 6 rfl dX11_asked_171 ?_
    refine V_icmp_gt (tgt := 184) dX11_asked_173 (by decide) hw (fun hw => ?_) (fun hw => ?_)
    · exact V.sub [1, 2, 3, 4, 5, 6, 7, 8, 9, 10] rfl (s_X11_asked_184 hK25 hK40 hw)
    · refine V_iload 0 rfl dX11_asked_176 ?_
      refine V_if_ne (tgt := 184) dX11_asked_178 (by decide) hw (fun hw => ?_) (fun hw => ?_)
      · refine V_iconst (v := 1) (by decide) dX11_asked_181 ?_
        refine V_istore (i := 8) [(8, .int 1), (11, .int s0), (0, va_rf l0), (1, .int l1), (2, .int l2), (3, .int l3), (4, .int l4), (5, .int l5), (6, .int l6), (7, .int l7), (9, .int l9), (10, .int l10)] (by decide) rfl dX11_asked_182 ?_
        exact V.sub [2, 3, 4, 5, 6, 7, 8, 9, 0, 10] rfl (s_X11_asked_184 hK25 hK40 hw)
      · exact V.sub [1, 2, 3, 4, 5, 6, 7, 8, 9, 10] rfl (s_X11_asked_184 hK25 hK40 hw)
theorem s_X11_asked_147 {l : Launch} {G : Gh} {l0 : Option Nat} {l1 : Int32} {l2 : Int32} {l3 : Int32} {l4 : Int32} {l5 : Int32} {l6 : Int32} {l7 : Int32} {l8 : Int32} {l9 : Int32} {l10 : Int32} {h : Hp} {Q : Int32 → Hp → Prop} {K25 : Int32 → Int32 → Hp → Prop} {K40 : Int32 → Int32 → Hp → Prop} (hK25 : ∀ (l6 : Int32) (l7 : Int32) (h : Hp), K25 l6 l7 h → V l G 2 yX11_asked cX11_asked 12 (some .int) 25 [(0, va_rf l0), (1, .int l1), (2, .int l2), (3, .int l3), (4, .int l4), (5, .int l5), (6, .int l6), (7, .int l7)] [] h (qI Q)) (hK40 : ∀ (l8 : Int32) (l9 : Int32) (h : Hp), K40 l8 l9 h → V l G 2 yX11_asked cX11_asked 12 (some .int) 40 [(0, va_rf l0), (1, .int l1), (2, .int l2), (3, .int l3), (4, .int l4), (5, .int l5), (6, .int l6), (7, .int l7), (8, .int l8), (9, .int l9)] [] h (qI Q)) (hw : n_X11_asked_147 l0 l1 l2 l3 l4 l5 l6 l7 l8 l9 l10 h Q K25 K40) : V l G 2 yX11_asked cX11_asked 12 (some .int) 147 [(0, va_rf l0), (1, .int l1), (2, .int l2), (3, .int l3), (4, .int l4), (5, .int l5), (6, .int l6), (7, .int l7), (8, .int l8), (9, .int l9), (10, .int l10)] [] h (qI Q) := by
  unfold n_X11_asked_147 at hw
  refine V_iconst (v := 0) (by decide) dX11_asked_147 ?_
  exact V.sub [0, 1, 2, 3, 4, 5, 6, 7, 8, 9, 10] rfl (s_X11_asked_148 hK25 hK40 hw)
set_option maxRecDepth 20000 in
theorem sb_X11_asked_40 {l : Launch} {G : Gh} {l0 : Option Nat} {l1 : Int32} {l2 : Int32} {l3 : Int32} {l4 : Int32} {l5 : Int32} {l6 : Int32} {l7 : Int32} {l8 : Int32} {l9 : Int32} {h : Hp} {Q : Int32 → Hp → Prop} {K25 : Int32 → Int32 → Hp → Prop} {K40 : Int32 → Int32 → Hp → Prop} (hK25 : ∀ (l6 : Int32) (l7 : Int32) (h : Hp), K25 l6 l7 h → V l G 2 yX11_asked cX11_asked 12 (some .int) 25 [(0, va_rf l0), (1, .int l1), (2, .int l2), (3, .int l3), (4, .int l4), (5, .int l5), (6, .int l6), (7, .int l7)] [] h (qI Q)) (hK40 : ∀ (l8 : Int32) (l9 : Int32) (h : Hp), K40 l8 l9 h → V l G 2 yX11_asked cX11_asked 12 (some .int) 40 [(0, va_rf l0), (1, .int l1), (2, .int l2), (3, .int l3), (4, .int l4), (5, .int l5), (6, .int l6), (7, .int l7), (8, .int l8), (9, .int l9)] [] h (qI Q)) (hw : b_X11_asked_40 l0 l1 l2 l3 l4 l5 l6 l7 l8 l9 h Q K25 K40) : V l G 2 yX11_asked cX11_asked 12 (some .int) 40 [(0, va_rf l0), (1, .int l1), (2, .int l2), (3, .int l3), (4, .int l4), (5, .int l5), (6, .int l6), (7, .int l7), (8, .int l8), (9, .int l9)] [] h (qI Q) := by
  unfold b_X11_asked_40 at hw
  refine V_iload 9 rfl dX11_asked_40 ?_
  refine V_aload_n 0 rfl rfl dX11_asked_42 ?_
  refine X_getI (c := 11) (k := 2) fa_X11_205 rfl dX11_asked_43 hw (fun v4 hw => ?_)
  refine V_icmp_ge (tgt := 190) dX11_asked_46 (by decide) hw (fun hw => ?_) (fun hw => ?_)
  · refine V_iload 8 rfl dX11_asked_190 ?_
    refine V_if_eq (tgt := 198) dX11_asked_192 (by decide) hw (fun hw => ?_) (fun hw => ?_)
    · exact V.sub [0, 1, 2, 3, 4, 5, 6, 7] rfl (s_X11_asked_198 hK25 hw)
    · refine V_iincL (n := 1) 6 (fun z => [(6, .int z), (0, va_rf l0), (1, .int l1), (2, .int l2), (3, .int l3), (4, .int l4), (5, .int l5), (7, .int l7), (8, .int l8), (9, .int l9)]) rfl (by rfl) (by decide) (fun _ => rfl) dX11_asked_195 hw (fun x6 hw => ?_)
      exact V.sub [1, 2, 3, 4, 5, 6, 0, 7] rfl (s_X11_asked_198 hK25 hw)
  · refine V_aload_n 0 rfl rfl dX11_asked_49 ?_
    refine X_getR (c := 11) (k := 7) fa_X11_16 rfl dX11_asked_50 hw (fun v7 hw => ?_)
    refine V_iload 7 rfl dX11_asked_53 ?_
    refine X_ldI dX11_asked_55 hw (fun v8 hw => ?_)
    refine V_if_ne (tgt := 184) dX11_asked_56 (by decide) hw (fun hw => ?_) (fun hw => ?_)
    · refine V_aload_n 0 rfl rfl dX11_asked_59 ?_
      refine X_getR (c := 11) (k := 22) fa_X11_64 rfl dX11_asked_60 hw (fun v9 hw => ?_)
      refine V_iload 9 rfl dX11_asked_63 ?_
      refine X_ldI dX11_asked_65 hw (fun v10 hw => ?_)
      refine V_iload 7 rfl dX11_asked_66 ?_
      refine V_icmp_ne (tgt := 184) dX11_asked_68 (by decide) hw (fun hw => ?_) (fun hw => ?_)
      · refine V_aload_n 0 rfl rfl dX11_asked_71 ?_
        refine X_getR (c := 11) (k := 23) fa_X11_67 rfl dX11_asked_72 hw (fun v11 hw => ?_)
        refine V_iload 9 rfl dX11_asked_75 ?_
        refine X_ldI dX11_asked_77 hw (fun v12 hw => ?_)
        refine V_iload_n 1 rfl rfl dX11_asked_78 ?_
        refine V_icmp_ne (tgt := 184) dX11_asked_79 (by decide) hw (fun hw => ?_) (fun hw => ?_)
        · refine V_aload_n 0 rfl rfl dX11_asked_82 ?_
          refine X_getR (c := 11) (k := 24) fa_X11_70 rfl dX11_asked_83 hw (fun v13 hw => ?_)
          refine V_iload 9 rfl dX11_asked_86 ?_
          refine X_ldI dX11_asked_88 hw (fun v14 hw => ?_)
          refine V_iload_n 2 rfl rfl dX11_asked_89 ?_
          refine V_icmp_eq (tgt := 96) dX11_asked_90 (by decide) hw (fun hw => ?_) (fun hw => ?_)
          · refine V_aload_n 0 rfl rfl dX11_asked_96 ?_
            refine V_iload 7 rfl dX11_asked_97 ?_
            refine V_iload 4 rfl dX11_asked_99 ?_
            refine X_cV 11 [.int l7, .int l4] [] ma_X11_220 (by decide) rfl (by decide) (by decide) rfl (by simp [cat_i, cat_l, rf_cat]) rfl dX11_asked_101 hw (r_X11_pathOf _ _ _) (k_I (fun v15 h hw => ?_))
            refine V_istore (i := 10) [(10, .int v15), (0, va_rf l0), (1, .int l1), (2, .int l2), (3, .int l3), (4, .int l4), (5, .int l5), (6, .int l6), (7, .int l7), (8, .int l8), (9, .int l9)] (by decide) rfl dX11_asked_104 ?_
            refine V_aload_n 1 rfl rfl dX11_asked_106 ?_
            refine X_getR (c := 11) (k := 31) fa_X11_91 rfl dX11_asked_107 hw (fun v16 hw => ?_)
            refine V_iload 10 rfl dX11_asked_110 ?_
            refine X_ldI dX11_asked_112 hw (fun v17 hw => ?_)
            refine V_iconst (v := (-1)) (by decide) dX11_asked_113 ?_
            refine V_icmp_eq (tgt := 147) dX11_asked_114 (by decide) hw (fun hw => ?_) (fun hw => ?_)
            · exact V.sub [1, 2, 3, 4, 5, 6, 7, 8, 9, 10, 0] rfl (s_X11_asked_147 hK25 hK40 hw)
            · refine V_aload_n 1 rfl rfl dX11_asked_117 ?_
              refine X_getR (c := 11) (k := 31) fa_X11_91 rfl dX11_asked_118 hw (fun v23 hw => ?_)
              refine V_iload 10 rfl dX11_asked_121 ?_
              refine X_ldI dX11_asked_123 hw (fun v24 hw => ?_)
              refine V_iload_n 4 rfl rfl dX11_asked_124 ?_
              refine V_icmp_gt (tgt := 147) dX11_asked_125 (by decide) hw (fun hw => ?_) (fun hw => ?_)
              · exact V.sub [1, 2, 3, 4, 5, 6, 7, 8, 9, 10, 0] rfl (s_X11_asked_147 hK25 hK40 hw)
              · refine V_aload_n 1 rfl rfl dX11_asked_128 ?_
                refine X_getR (c := 11) (k := 31) fa_X11_91 rfl dX11_asked_129 hw (fun v25 hw => ?_)
                refine V_iload 10 rfl dX11_asked_132 ?_
                refine X_ldI dX11_asked_134 hw (fun v26 hw => ?_)
                refine V_iload 0 rfl dX11_asked_135 ?_
                refine V_iadd dX11_asked_137 ?_
                refine V_iload 6 rfl dX11_asked_138 ?_
                refine V_icmp_gt (tgt := 147) dX11_asked_140 (by decide) hw (fun hw => ?_) (fun hw => ?_)
                · exact V.sub [1, 2, 3, 4, 5, 6, 7, 8, 9, 10, 0] rfl (s_X11_asked_147 hK25 hK40 hw)
                · refine V_iconst (v := 1) (by decide) dX11_asked_143 ?_
                  refine V_goto (tgt := 148) dX11_asked_144 (by decide) ?_
                  exact V.sub [1, 2, 3, 4, 5, 6, 7, 8, 9, 10, 0] rfl (s_X11_asked_148 hK25 hK40 hw)
          · refine V_goto (tgt := 184) dX11_asked_93 (by decide) ?_
            exact V.sub [0, 1, 2, 3, 4, 5, 6, 7, 8, 9] rfl (s_X11_asked_184 hK25 hK40 hw)
        · exact V.sub [0, 1, 2, 3, 4, 5, 6, 7, 8, 9] rfl (s_X11_asked_184 hK25 hK40 hw)
      · exact V.sub [0, 1, 2, 3, 4, 5, 6, 7, 8, 9] rfl (s_X11_asked_184 hK25 hK40 hw)
    · exact V.sub [0, 1, 2, 3, 4, 5, 6, 7, 8, 9] rfl (s_X11_asked_184 hK25 hK40 hw)
theorem s_X11_asked_40 {l : Launch} {G : Gh} {l0 : Option Nat} {l1 : Int32} {l2 : Int32} {l3 : Int32} {l4 : Int32} {l5 : Int32} {l6 : Int32} {l7 : Int32} {l8 : Int32} {l9 : Int32} {h : Hp} {Q : Int32 → Hp → Prop} {K25 : Int32 → Int32 → Hp → Prop} (hK25 : ∀ (l6 : Int32) (l7 : Int32) (h : Hp), K25 l6 l7 h → V l G 2 yX11_asked cX11_asked 12 (some .int) 25 [(0, va_rf l0), (1, .int l1), (2, .int l2), (3, .int l3), (4, .int l4), (5, .int l5), (6, .int l6), (7, .int l7)] [] h (qI Q)) (hw : l_X11_asked_40 l0 l1 l2 l3 l4 l5 l6 l7 l8 l9 h Q K25) : V l G 2 yX11_asked cX11_asked 12 (some .int) 40 [(0, va_rf l0), (1, .int l1), (2, .int l2), (3, .int l3), (4, .int l4), (5, .int l5), (6, .int l6), (7, .int l7), (8, .int l8), (9, .int l9)] [] h (qI Q) :=
  Lo.ind (P := fun (s : Int32 × Int32) h => V l G 2 yX11_asked cX11_asked 12 (some .int) 40 [(0, va_rf l0), (1, .int l1), (2, .int l2), (3, .int l3), (4, .int l4), (5, .int l5), (6, .int l6), (7, .int l7), (8, .int s.1), (9, .int s.2)] [] h (qI Q)) (fun K ih s h hw => sb_X11_asked_40 hK25 (fun l8 l9 h hk => ih (l8, l9) h hk) hw) hw
theorem sb_X11_asked_25 {l : Launch} {G : Gh} {l0 : Option Nat} {l1 : Int32} {l2 : Int32} {l3 : Int32} {l4 : Int32} {l5 : Int32} {l6 : Int32} {l7 : Int32} {h : Hp} {Q : Int32 → Hp → Prop} {K25 : Int32 → Int32 → Hp → Prop} (hK25 : ∀ (l6 : Int32) (l7 : Int32) (h : Hp), K25 l6 l7 h → V l G 2 yX11_asked cX11_asked 12 (some .int) 25 [(0, va_rf l0), (1, .int l1), (2, .int l2), (3, .int l3), (4, .int l4), (5, .int l5), (6, .int l6), (7, .int l7)] [] h (qI Q)) (hw : b_X11_asked_25 l0 l1 l2 l3 l4 l5 l6 l7 h Q K25) : V l G 2 yX11_asked cX11_asked 12 (some .int) 25 [(0, va_rf l0), (1, .int l1), (2, .int l2), (3, .int l3), (4, .int l4), (5, .int l5), (6, .int l6), (7, .int l7)] [] h (qI Q) := by
  unfold b_X11_asked_25 at hw
  refine V_iload 7 rfl dX11_asked_25 ?_
  refine V_aload_n 0 rfl rfl dX11_asked_27 ?_
  refine X_getI (c := 11) (k := 1) fa_X11_7 rfl dX11_asked_28 hw (fun v3 hw => ?_)
  refine V_icmp_ge (tgt := 204) dX11_asked_31 (by decide) hw (fun hw => ?_) (fun hw => ?_)
  · refine V_iload 6 rfl dX11_asked_204 ?_
    exact V_iret rfl dX11_asked_206 ⟨_, rfl, hw⟩
  · refine V_iconst (v := 0) (by decide) dX11_asked_34 ?_
    refine V_istore (i := 8) [(8, .int 0), (0, va_rf l0), (1, .int l1), (2, .int l2), (3, .int l3), (4, .int l4), (5, .int l5), (6, .int l6), (7, .int l7)] (by decide) rfl dX11_asked_35 ?_
    refine V_iconst (v := 0) (by decide) dX11_asked_37 ?_
    refine V_istore (i := 9) [(9, .int 0), (8, .int 0), (0, va_rf l0), (1, .int l1), (2, .int l2), (3, .int l3), (4, .int l4), (5, .int l5), (6, .int l6), (7, .int l7)] (by decide) rfl dX11_asked_38 ?_
    exact V.sub [2, 3, 4, 5, 6, 7, 8, 9, 1, 0] rfl (s_X11_asked_40 hK25 hw)
theorem s_X11_asked_25 {l : Launch} {G : Gh} {l0 : Option Nat} {l1 : Int32} {l2 : Int32} {l3 : Int32} {l4 : Int32} {l5 : Int32} {l6 : Int32} {l7 : Int32} {h : Hp} {Q : Int32 → Hp → Prop}  (hw : l_X11_asked_25 l0 l1 l2 l3 l4 l5 l6 l7 h Q) : V l G 2 yX11_asked cX11_asked 12 (some .int) 25 [(0, va_rf l0), (1, .int l1), (2, .int l2), (3, .int l3), (4, .int l4), (5, .int l5), (6, .int l6), (7, .int l7)] [] h (qI Q) :=
  Lo.ind (P := fun (s : Int32 × Int32) h => V l G 2 yX11_asked cX11_asked 12 (some .int) 25 [(0, va_rf l0), (1, .int l1), (2, .int l2), (3, .int l3), (4, .int l4), (5, .int l5), (6, .int s.1), (7, .int s.2)] [] h (qI Q)) (fun K ih s h hw => sb_X11_asked_25 (fun l6 l7 h hk => ih (l6, l7) h hk) hw) hw
theorem s_X11_asked_0 {l : Launch} {G : Gh} {l0 : Option Nat} {l1 : Int32} {l2 : Int32} {l3 : Int32} {l4 : Int32} {l5 : Int32} {h : Hp} {Q : Int32 → Hp → Prop}  (hw : n_X11_asked_0 l0 l1 l2 l3 l4 l5 h Q) : V l G 2 yX11_asked cX11_asked 12 (some .int) 0 [(0, va_rf l0), (1, .int l1), (2, .int l2), (3, .int l3), (4, .int l4), (5, .int l5)] [] h (qI Q) := by
  unfold n_X11_asked_0 at hw
  refine V_iload_n 1 rfl rfl dX11_asked_0 ?_
  refine V_iload_n 2 rfl rfl dX11_asked_1 ?_
  refine X_cS [.int l1, .int l2] [] ma_X11_258 (by decide) (by decide) rfl (by simp [cat_i, cat_l, rf_cat]) rfl dX11_asked_2 (r_X11_isAsked _ _ hw) (k_I (fun v1 h hw => ?_))
  refine V_if_eq (tgt := 17) dX11_asked_5 (by decide) hw (fun hw => ?_) (fun hw => ?_)
  · exact V.sub [] rfl (s_X11_asked_17 hw)
  · refine V_aload_n 0 rfl rfl dX11_asked_8 ?_
    refine V_iload 4 rfl dX11_asked_9 ?_
    refine X_cV 11 [.int l4] [] ma_X11_208 (by decide) rfl (by decide) (by decide) rfl (by simp [cat_i, cat_l, rf_cat]) rfl dX11_asked_11 hw (r_X11_isPlace _ _) (k_I (fun v2 h hw => ?_))
    refine V_if_ne (tgt := 19) dX11_asked_14 (by decide) hw (fun hw => ?_) (fun hw => ?_)
    · exact V.sub [] rfl (s_X11_asked_17 hw)
    · refine V_iconst (v := 0) (by decide) dX11_asked_19 ?_
      refine V_istore (i := 6) [(6, .int 0), (0, va_rf l0), (1, .int l1), (2, .int l2), (3, .int l3), (4, .int l4), (5, .int l5)] (by decide) rfl dX11_asked_20 ?_
      refine V_iconst (v := 0) (by decide) dX11_asked_22 ?_
      refine V_istore (i := 7) [(7, .int 0), (6, .int 0), (0, va_rf l0), (1, .int l1), (2, .int l2), (3, .int l3), (4, .int l4), (5, .int l5)] (by decide) rfl dX11_asked_23 ?_
      exact V.sub [2, 3, 4, 5, 6, 7, 1, 0] rfl (s_X11_asked_25 hw)
theorem r_X11_asked {l : Launch} {G : Gh} (l0 : Option Nat) (l1 : Int32) (l2 : Int32) (l3 : Int32) (l4 : Int32) (l5 : Int32) {h : Hp} {Q : Int32 → Hp → Prop} (hw : w_X11_asked l0 l1 l2 l3 l4 l5 h Q) : RunQ l G 2 yX11_asked cX11_asked 12 (some .int) [va_rf l0, .int l1, .int l2, .int l3, .int l4, .int l5] h (qI Q) :=
  V_run rfl (sl_len _ _ (by simp [cat_i, cat_l, rf_cat])) (V.sub [0, 1, 2, 3, 4, 5] (by simp only [la_r, la_i, la_l, la_n]; rfl) (s_X11_asked_0 hw))
def n_X11_stands_24 (s0 : Int32) (h : Hp) (Q : Int32 → Hp → Prop) : Prop :=
  rZ s0 h Q
def n_X11_stands_23 (h : Hp) (Q : Int32 → Hp → Prop) : Prop :=
  n_X11_stands_24 0 h Q
def n_X11_stands_0 (l0 : Option Nat) (l1 : Int32) (h : Hp) (Q : Int32 → Hp → Prop) : Prop :=
  gR h l0 12 1439 fun v1 =>
  ldI h v1 l1 fun v2 =>
  br (v2 = (-1)) (
    gR h l0 12 1443 fun v3 =>
    ldZ h v3 l1 fun v4 =>
    br (v4 = 0) (
      n_X11_stands_24 1 h Q) (
      n_X11_stands_23 h Q)) (
    n_X11_stands_23 h Q)
def w_X11_stands (l0 : Option Nat) (l1 : Int32) (h : Hp) (Q : Int32 → Hp → Prop) : Prop := n_X11_stands_0 l0 l1 h Q
theorem s_X11_stands_24 {l : Launch} {G : Gh} {s0 : Int32} {h : Hp} {Q : Int32 → Hp → Prop}  (hw : n_X11_stands_24 s0 h Q) : V l G 1 yX11_stands cX11_stands 2 (some .boolean) 24 [] [.int s0] h (qI Q) := by
  unfold n_X11_stands_24 at hw
  exact V_zret rfl hw.1 dX11_stands_24 ⟨_, rfl, hw.2⟩
theorem s_X11_stands_23 {l : Launch} {G : Gh}  {h : Hp} {Q : Int32 → Hp → Prop}  (hw : n_X11_stands_23 h Q) : V l G 1 yX11_stands cX11_stands 2 (some .boolean) 23 [] [] h (qI Q) := by
  unfold n_X11_stands_23 at hw
  refine V_iconst (v := 0) (by decide) dX11_stands_23 ?_
  exact V.sub [] rfl (s_X11_stands_24 hw)
theorem s_X11_stands_0 {l : Launch} {G : Gh} {l0 : Option Nat} {l1 : Int32} {h : Hp} {Q : Int32 → Hp → Prop}  (hw : n_X11_stands_0 l0 l1 h Q) : V l G 1 yX11_stands cX11_stands 2 (some .boolean) 0 [(0, va_rf l0), (1, .int l1)] [] h (qI Q) := by
  unfold n_X11_stands_0 at hw
  refine V_aload_n 0 rfl rfl dX11_stands_0 ?_
  refine X_getR (c := 11) (k := 31) fa_X11_91 rfl dX11_stands_1 hw (fun v1 hw => ?_)
  refine V_iload_n 1 rfl rfl dX11_stands_4 ?_
  refine X_ldI dX11_stands_5 hw (fun v2 hw => ?_)
  refine V_iconst (v := (-1)) (by decide) dX11_stands_6 ?_
  refine V_icmp_ne (tgt := 23) dX11_stands_7 (by decide) hw (fun hw => ?_) (fun hw => ?_)
  · refine V_aload_n 0 rfl rfl dX11_stands_10 ?_
    refine X_getR (c := 11) (k := 35) fa_X11_103 rfl dX11_stands_11 hw (fun v3 hw => ?_)
    refine V_iload_n 1 rfl rfl dX11_stands_14 ?_
    refine X_ldZ dX11_stands_15 hw (fun v4 hw => ?_)
    refine V_if_ne (tgt := 23) dX11_stands_16 (by decide) hw (fun hw => ?_) (fun hw => ?_)
    · refine V_iconst (v := 1) (by decide) dX11_stands_19 ?_
      refine V_goto (tgt := 24) dX11_stands_20 (by decide) ?_
      exact V.sub [] rfl (s_X11_stands_24 hw)
    · exact V.sub [] rfl (s_X11_stands_23 hw)
  · exact V.sub [] rfl (s_X11_stands_23 hw)
theorem r_X11_stands {l : Launch} {G : Gh} (l0 : Option Nat) (l1 : Int32) {h : Hp} {Q : Int32 → Hp → Prop} (hw : w_X11_stands l0 l1 h Q) : RunQ l G 1 yX11_stands cX11_stands 2 (some .boolean) [va_rf l0, .int l1] h (qI Q) :=
  V_run rfl (sl_len _ _ (by simp [cat_i, cat_l, rf_cat])) (V.sub [0, 1] (by simp only [la_r, la_i, la_l, la_n]; rfl) (s_X11_stands_0 hw))
def n_X11_asksNow_50 (l0 : Option Nat) (l1 : Int32) (l2 : Int32) (l3 : Int32) (h : Hp) (Q : Int32 → Hp → Prop) (K2 : Int32 → Hp → Prop) : Prop :=
  lt (l3 + 1) fun x9 =>
  K2 x9 h
def b_X11_asksNow_2 (l0 : Option Nat) (l1 : Int32) (l2 : Int32) (l3 : Int32) (h : Hp) (Q : Int32 → Hp → Prop) (K2 : Int32 → Hp → Prop) : Prop :=
  gI h l0 12 1410 fun v1 =>
  br (v1 ≤ l3) (
    rZ 0 h Q) (
    gR h l0 12 1430 fun v2 =>
    ldI h v2 l3 fun v3 =>
    br (v3 = l1) (
      gR h l0 12 1431 fun v4 =>
      ldI h v4 l3 fun v5 =>
      gR h l0 12 1432 fun v6 =>
      ldI h v6 l3 fun v7 =>
      br ((8 * v5) + v7 = l2) (
        oV h l0 12 <| w_X11_stands l0 l3 h <| fun v8 h =>
        br (v8 = 0) (
          n_X11_asksNow_50 l0 l1 l2 l3 h Q K2) (
          rZ 1 h Q)) (
        n_X11_asksNow_50 l0 l1 l2 l3 h Q K2)) (
      n_X11_asksNow_50 l0 l1 l2 l3 h Q K2))
def l_X11_asksNow_2 (l0 : Option Nat) (l1 : Int32) (l2 : Int32) (l3 : Int32) (h : Hp) (Q : Int32 → Hp → Prop) : Prop :=
  Lo (fun (K : Int32 → Hp → Prop) s h => b_X11_asksNow_2 l0 l1 l2 s h Q (fun l3 h => K (l3) h)) (l3) h
def n_X11_asksNow_0 (l0 : Option Nat) (l1 : Int32) (l2 : Int32) (h : Hp) (Q : Int32 → Hp → Prop) : Prop :=
  l_X11_asksNow_2 l0 l1 l2 0 h Q
def w_X11_asksNow (l0 : Option Nat) (l1 : Int32) (l2 : Int32) (h : Hp) (Q : Int32 → Hp → Prop) : Prop := n_X11_asksNow_0 l0 l1 l2 h Q
theorem s_X11_asksNow_50 {l : Launch} {G : Gh} {l0 : Option Nat} {l1 : Int32} {l2 : Int32} {l3 : Int32} {h : Hp} {Q : Int32 → Hp → Prop} {K2 : Int32 → Hp → Prop} (hK2 : ∀ (l3 : Int32) (h : Hp), K2 l3 h → V l G 2 yX11_asksNow cX11_asksNow 4 (some .boolean) 2 [(0, va_rf l0), (1, .int l1), (2, .int l2), (3, .int l3)] [] h (qI Q)) (hw : n_X11_asksNow_50 l0 l1 l2 l3 h Q K2) : V l G 2 yX11_asksNow cX11_asksNow 4 (some .boolean) 50 [(0, va_rf l0), (1, .int l1), (2, .int l2), (3, .int l3)] [] h (qI Q) := by
  unfold n_X11_asksNow_50 at hw
  refine V_iincL (n := 1) 3 (fun z => [(3, .int z), (0, va_rf l0), (1, .int l1), (2, .int l2)]) rfl (by rfl) (by decide) (fun _ => rfl) dX11_asksNow_50 hw (fun x9 hw => ?_)
  refine V_goto (tgt := 2) dX11_asksNow_53 (by decide) ?_
  exact V.sub [1, 2, 3, 0] rfl (hK2 _ _ hw)
theorem sb_X11_asksNow_2 {l : Launch} {G : Gh} {l0 : Option Nat} {l1 : Int32} {l2 : Int32} {l3 : Int32} {h : Hp} {Q : Int32 → Hp → Prop} {K2 : Int32 → Hp → Prop} (hK2 : ∀ (l3 : Int32) (h : Hp), K2 l3 h → V l G 2 yX11_asksNow cX11_asksNow 4 (some .boolean) 2 [(0, va_rf l0), (1, .int l1), (2, .int l2), (3, .int l3)] [] h (qI Q)) (hw : b_X11_asksNow_2 l0 l1 l2 l3 h Q K2) : V l G 2 yX11_asksNow cX11_asksNow 4 (some .boolean) 2 [(0, va_rf l0), (1, .int l1), (2, .int l2), (3, .int l3)] [] h (qI Q) := by
  unfold b_X11_asksNow_2 at hw
  refine V_iload_n 3 rfl rfl dX11_asksNow_2 ?_
  refine V_aload_n 0 rfl rfl dX11_asksNow_3 ?_
  refine X_getI (c := 11) (k := 2) fa_X11_205 rfl dX11_asksNow_4 hw (fun v1 hw => ?_)
  refine V_icmp_ge (tgt := 56) dX11_asksNow_7 (by decide) hw (fun hw => ?_) (fun hw => ?_)
  · refine V_iconst (v := 0) (by decide) dX11_asksNow_56 ?_
    exact V_zret rfl hw.1 dX11_asksNow_57 ⟨_, rfl, hw.2⟩
  · refine V_aload_n 0 rfl rfl dX11_asksNow_10 ?_
    refine X_getR (c := 11) (k := 22) fa_X11_64 rfl dX11_asksNow_11 hw (fun v2 hw => ?_)
    refine V_iload_n 3 rfl rfl dX11_asksNow_14 ?_
    refine X_ldI dX11_asksNow_15 hw (fun v3 hw => ?_)
    refine V_iload_n 1 rfl rfl dX11_asksNow_16 ?_
    refine V_icmp_ne (tgt := 50) dX11_asksNow_17 (by decide) hw (fun hw => ?_) (fun hw => ?_)
    · refine V_bipush (v := 8) (by decide) dX11_asksNow_20 ?_
      refine V_aload_n 0 rfl rfl dX11_asksNow_22 ?_
      refine X_getR (c := 11) (k := 23) fa_X11_67 rfl dX11_asksNow_23 hw (fun v4 hw => ?_)
      refine V_iload_n 3 rfl rfl dX11_asksNow_26 ?_
      refine X_ldI dX11_asksNow_27 hw (fun v5 hw => ?_)
      refine V_imul dX11_asksNow_28 ?_
      refine V_aload_n 0 rfl rfl dX11_asksNow_29 ?_
      refine X_getR (c := 11) (k := 24) fa_X11_70 rfl dX11_asksNow_30 hw (fun v6 hw => ?_)
      refine V_iload_n 3 rfl rfl dX11_asksNow_33 ?_
      refine X_ldI dX11_asksNow_34 hw (fun v7 hw => ?_)
      refine V_iadd dX11_asksNow_35 ?_
      refine V_iload_n 2 rfl rfl dX11_asksNow_36 ?_
      refine V_icmp_ne (tgt := 50) dX11_asksNow_37 (by decide) hw (fun hw => ?_) (fun hw => ?_)
      · refine V_aload_n 0 rfl rfl dX11_asksNow_40 ?_
        refine V_iload_n 3 rfl rfl dX11_asksNow_41 ?_
        refine X_cV 11 [.int l3] [] ma_X11_338 (by decide) rfl (by decide) (by decide) rfl (by simp [cat_i, cat_l, rf_cat]) rfl dX11_asksNow_42 hw (r_X11_stands _ _) (k_I (fun v8 h hw => ?_))
        refine V_if_eq (tgt := 50) dX11_asksNow_45 (by decide) hw (fun hw => ?_) (fun hw => ?_)
        · exact V.sub [0, 1, 2, 3] rfl (s_X11_asksNow_50 hK2 hw)
        · refine V_iconst (v := 1) (by decide) dX11_asksNow_48 ?_
          exact V_zret rfl hw.1 dX11_asksNow_49 ⟨_, rfl, hw.2⟩
      · exact V.sub [0, 1, 2, 3] rfl (s_X11_asksNow_50 hK2 hw)
    · exact V.sub [0, 1, 2, 3] rfl (s_X11_asksNow_50 hK2 hw)
theorem s_X11_asksNow_2 {l : Launch} {G : Gh} {l0 : Option Nat} {l1 : Int32} {l2 : Int32} {l3 : Int32} {h : Hp} {Q : Int32 → Hp → Prop}  (hw : l_X11_asksNow_2 l0 l1 l2 l3 h Q) : V l G 2 yX11_asksNow cX11_asksNow 4 (some .boolean) 2 [(0, va_rf l0), (1, .int l1), (2, .int l2), (3, .int l3)] [] h (qI Q) :=
  Lo.ind (P := fun (s : Int32) h => V l G 2 yX11_asksNow cX11_asksNow 4 (some .boolean) 2 [(0, va_rf l0), (1, .int l1), (2, .int l2), (3, .int s)] [] h (qI Q)) (fun K ih s h hw => sb_X11_asksNow_2 (fun l3 h hk => ih (l3) h hk) hw) hw
theorem s_X11_asksNow_0 {l : Launch} {G : Gh} {l0 : Option Nat} {l1 : Int32} {l2 : Int32} {h : Hp} {Q : Int32 → Hp → Prop}  (hw : n_X11_asksNow_0 l0 l1 l2 h Q) : V l G 2 yX11_asksNow cX11_asksNow 4 (some .boolean) 0 [(0, va_rf l0), (1, .int l1), (2, .int l2)] [] h (qI Q) := by
  unfold n_X11_asksNow_0 at hw
  refine V_iconst (v := 0) (by decide) dX11_asksNow_0 ?_
  refine V_istore_n (i := 3) [(3, .int 0), (0, va_rf l0), (1, .int l1), (2, .int l2)] rfl (by decide) rfl dX11_asksNow_1 ?_
  exact V.sub [1, 2, 3, 0] rfl (s_X11_asksNow_2 hw)
theorem r_X11_asksNow {l : Launch} {G : Gh} (l0 : Option Nat) (l1 : Int32) (l2 : Int32) {h : Hp} {Q : Int32 → Hp → Prop} (hw : w_X11_asksNow l0 l1 l2 h Q) : RunQ l G 2 yX11_asksNow cX11_asksNow 4 (some .boolean) [va_rf l0, .int l1, .int l2] h (qI Q) :=
  V_run rfl (sl_len _ _ (by simp [cat_i, cat_l, rf_cat])) (V.sub [0, 1, 2] (by simp only [la_r, la_i, la_l, la_n]; rfl) (s_X11_asksNow_0 hw))
def n_X11_no_0 (l0 : Option Nat) (l1 : Int32) (h : Hp) (Q : Int32 → Hp → Prop) : Prop :=
  gR h l0 12 1465 fun v1 =>
  ldI h v1 (-l1) fun v2 =>
  stI h v1 (-l1) (v2 + 1) fun h =>
  Q l1 h
def w_X11_no (l0 : Option Nat) (l1 : Int32) (h : Hp) (Q : Int32 → Hp → Prop) : Prop := n_X11_no_0 l0 l1 h Q
theorem s_X11_no_0 {l : Launch} {G : Gh} {l0 : Option Nat} {l1 : Int32} {h : Hp} {Q : Int32 → Hp → Prop}  (hw : n_X11_no_0 l0 l1 h Q) : V l G 1 yX11_no cX11_no 2 (some .int) 0 [(0, va_rf l0), (1, .int l1)] [] h (qI Q) := by
  unfold n_X11_no_0 at hw
  refine V_aload_n 0 rfl rfl dX11_no_0 ?_
  refine X_getR (c := 11) (k := 57) fa_X11_169 rfl dX11_no_1 hw (fun v1 hw => ?_)
  refine V_iload_n 1 rfl rfl dX11_no_4 ?_
  refine V_ineg dX11_no_5 ?_
  refine V_dup2 rfl (rf_cat _) dX11_no_6 ?_
  refine X_ldI dX11_no_7 hw (fun v2 hw => ?_)
  refine V_iconst (v := 1) (by decide) dX11_no_8 ?_
  refine V_iadd dX11_no_9 ?_
  refine X_stI dX11_no_10 hw (fun h hw => ?_)
  refine V_iload_n 1 rfl rfl dX11_no_11 ?_
  exact V_iret rfl dX11_no_12 ⟨_, rfl, hw⟩
theorem r_X11_no {l : Launch} {G : Gh} (l0 : Option Nat) (l1 : Int32) {h : Hp} {Q : Int32 → Hp → Prop} (hw : w_X11_no l0 l1 h Q) : RunQ l G 1 yX11_no cX11_no 2 (some .int) [va_rf l0, .int l1] h (qI Q) :=
  V_run rfl (sl_len _ _ (by simp [cat_i, cat_l, rf_cat])) (V.sub [0, 1] (by simp only [la_r, la_i, la_l, la_n]; rfl) (s_X11_no_0 hw))
def n_X11_gathers_124 (l0 : Option Nat) (l1 : Int32) (l2 : Int32) (l3 : Int32) (h : Hp) (Q : Int32 → Hp → Prop) (K7 : Int32 → Hp → Prop) : Prop :=
  lt (l3 + 1) fun x8 =>
  K7 x8 h
def n_X11_gathers_118 (l0 : Option Nat) (l1 : Int32) (l2 : Int32) (l3 : Int32) (l4 : Int32) (h : Hp) (Q : Int32 → Hp → Prop) (K7 : Int32 → Hp → Prop) (K49 : Int32 → Hp → Prop) : Prop :=
  lt (l4 + 1) fun x16 =>
  K49 x16 h
def b_X11_gathers_49 (l0 : Option Nat) (l1 : Int32) (l2 : Int32) (l3 : Int32) (l4 : Int32) (h : Hp) (Q : Int32 → Hp → Prop) (K7 : Int32 → Hp → Prop) (K49 : Int32 → Hp → Prop) : Prop :=
  gI h l0 12 1410 fun v7 =>
  br (v7 ≤ l4) (
    n_X11_gathers_124 l0 l1 l2 l3 h Q K7) (
    gR h l0 12 1430 fun v9 =>
    ldI h v9 l4 fun v10 =>
    br (v10 = l3) (
      gR h l0 12 1431 fun v11 =>
      ldI h v11 l4 fun v12 =>
      gR h l0 12 1432 fun v13 =>
      ldI h v13 l4 fun v14 =>
      br ((8 * v12) + v14 = l2) (
        oV h l0 12 <| w_X11_stands l0 l4 h <| fun v15 h =>
        br (v15 = 0) (
          n_X11_gathers_118 l0 l1 l2 l3 l4 h Q K7 K49) (
          gR h l0 12 1477 fun v17 =>
          gI h l0 12 1479 fun v18 =>
          pI h l0 12 1479 (v18 + 1) fun h =>
          stI h v17 v18 l4 fun h =>
          n_X11_gathers_118 l0 l1 l2 l3 l4 h Q K7 K49)) (
        n_X11_gathers_118 l0 l1 l2 l3 l4 h Q K7 K49)) (
      n_X11_gathers_118 l0 l1 l2 l3 l4 h Q K7 K49))
def l_X11_gathers_49 (l0 : Option Nat) (l1 : Int32) (l2 : Int32) (l3 : Int32) (l4 : Int32) (h : Hp) (Q : Int32 → Hp → Prop) (K7 : Int32 → Hp → Prop) : Prop :=
  Lo (fun (K : Int32 → Hp → Prop) s h => b_X11_gathers_49 l0 l1 l2 l3 s h Q K7 (fun l4 h => K (l4) h)) (l4) h
def n_X11_gathers_46 (l0 : Option Nat) (l1 : Int32) (l2 : Int32) (l3 : Int32) (h : Hp) (Q : Int32 → Hp → Prop) (K7 : Int32 → Hp → Prop) : Prop :=
  l_X11_gathers_49 l0 l1 l2 l3 0 h Q K7
def b_X11_gathers_7 (l0 : Option Nat) (l1 : Int32) (l2 : Int32) (l3 : Int32) (h : Hp) (Q : Int32 → Hp → Prop) (K7 : Int32 → Hp → Prop) : Prop :=
  gI h l0 12 1409 fun v1 =>
  br (v1 ≤ l3) (
    gI h l0 12 1479 fun v2 =>
    Q v2 h) (
    gR h l0 12 1416 fun v3 =>
    ldI h v3 l3 fun v4 =>
    br (v4 = l1) (
      gR h l0 12 1415 fun v5 =>
      ldI h v5 l3 fun v6 =>
      br (v6 ≤ 0) (
        n_X11_gathers_46 l0 l1 l2 l3 h Q K7) (
        gR h l0 12 1423 fun v19 =>
        ldZ h v19 l3 fun v20 =>
        br (v20 = 0) (
          n_X11_gathers_124 l0 l1 l2 l3 h Q K7) (
          n_X11_gathers_46 l0 l1 l2 l3 h Q K7))) (
      n_X11_gathers_124 l0 l1 l2 l3 h Q K7))
def l_X11_gathers_7 (l0 : Option Nat) (l1 : Int32) (l2 : Int32) (l3 : Int32) (h : Hp) (Q : Int32 → Hp → Prop) : Prop :=
  Lo (fun (K : Int32 → Hp → Prop) s h => b_X11_gathers_7 l0 l1 l2 s h Q (fun l3 h => K (l3) h)) (l3) h
def n_X11_gathers_0 (l0 : Option Nat) (l1 : Int32) (l2 : Int32) (h : Hp) (Q : Int32 → Hp → Prop) : Prop :=
  pI h l0 12 1479 0 fun h =>
  l_X11_gathers_7 l0 l1 l2 0 h Q
def w_X11_gathers (l0 : Option Nat) (l1 : Int32) (l2 : Int32) (h : Hp) (Q : Int32 → Hp → Prop) : Prop := n_X11_gathers_0 l0 l1 l2 h Q
theorem s_X11_gathers_124 {l : Launch} {G : Gh} {l0 : Option Nat} {l1 : Int32} {l2 : Int32} {l3 : Int32} {h : Hp} {Q : Int32 → Hp → Prop} {K7 : Int32 → Hp → Prop} (hK7 : ∀ (l3 : Int32) (h : Hp), K7 l3 h → V l G 2 yX11_gathers cX11_gathers 5 (some .int) 7 [(0, va_rf l0), (1, .int l1), (2, .int l2), (3, .int l3)] [] h (qI Q)) (hw : n_X11_gathers_124 l0 l1 l2 l3 h Q K7) : V l G 2 yX11_gathers cX11_gathers 5 (some .int) 124 [(0, va_rf l0), (1, .int l1), (2, .int l2), (3, .int l3)] [] h (qI Q) := by
  unfold n_X11_gathers_124 at hw
  refine V_iincL (n := 1) 3 (fun z => [(3, .int z), (0, va_rf l0), (1, .int l1), (2, .int l2)]) rfl (by rfl) (by decide) (fun _ => rfl) dX11_gathers_124 hw (fun x8 hw => ?_)
  refine V_goto (tgt := 7) dX11_gathers_127 (by decide) ?_
  exact V.sub [1, 2, 3, 0] rfl (hK7 _ _ hw)
theorem s_X11_gathers_118 {l : Launch} {G : Gh} {l0 : Option Nat} {l1 : Int32} {l2 : Int32} {l3 : Int32} {l4 : Int32} {h : Hp} {Q : Int32 → Hp → Prop} {K7 : Int32 → Hp → Prop} {K49 : Int32 → Hp → Prop} (hK7 : ∀ (l3 : Int32) (h : Hp), K7 l3 h → V l G 2 yX11_gathers cX11_gathers 5 (some .int) 7 [(0, va_rf l0), (1, .int l1), (2, .int l2), (3, .int l3)] [] h (qI Q)) (hK49 : ∀ (l4 : Int32) (h : Hp), K49 l4 h → V l G 2 yX11_gathers cX11_gathers 5 (some .int) 49 [(0, va_rf l0), (1, .int l1), (2, .int l2), (3, .int l3), (4, .int l4)] [] h (qI Q)) (hw : n_X11_gathers_118 l0 l1 l2 l3 l4 h Q K7 K49) : V l G 2 yX11_gathers cX11_gathers 5 (some .int) 118 [(0, va_rf l0), (1, .int l1), (2, .int l2), (3, .int l3), (4, .int l4)] [] h (qI Q) := by
  unfold n_X11_gathers_118 at hw
  refine V_iincL (n := 1) 4 (fun z => [(4, .int z), (0, va_rf l0), (1, .int l1), (2, .int l2), (3, .int l3)]) rfl (by rfl) (by decide) (fun _ => rfl) dX11_gathers_118 hw (fun x16 hw => ?_)
  refine V_goto (tgt := 49) dX11_gathers_121 (by decide) ?_
  exact V.sub [1, 2, 3, 4, 0] rfl (hK49 _ _ hw)
set_option maxRecDepth 20000 in
theorem sb_X11_gathers_49 {l : Launch} {G : Gh} {l0 : Option Nat} {l1 : Int32} {l2 : Int32} {l3 : Int32} {l4 : Int32} {h : Hp} {Q : Int32 → Hp → Prop} {K7 : Int32 → Hp → Prop} {K49 : Int32 → Hp → Prop} (hK7 : ∀ (l3 : Int32) (h : Hp), K7 l3 h → V l G 2 yX11_gathers cX11_gathers 5 (some .int) 7 [(0, va_rf l0), (1, .int l1), (2, .int l2), (3, .int l3)] [] h (qI Q)) (hK49 : ∀ (l4 : Int32) (h : Hp), K49 l4 h → V l G 2 yX11_gathers cX11_gathers 5 (some .int) 49 [(0, va_rf l0), (1, .int l1), (2, .int l2), (3, .int l3), (4, .int l4)] [] h (qI Q)) (hw : b_X11_gathers_49 l0 l1 l2 l3 l4 h Q K7 K49) : V l G 2 yX11_gathers cX11_gathers 5 (some .int) 49 [(0, va_rf l0), (1, .int l1), (2, .int l2), (3, .int l3), (4, .int l4)] [] h (qI Q) := by
  unfold b_X11_gathers_49 at hw
  refine V_iload 4 rfl dX11_gathers_49 ?_
  refine V_aload_n 0 rfl rfl dX11_gathers_51 ?_
  refine X_getI (c := 11) (k := 2) fa_X11_205 rfl dX11_gathers_52 hw (fun v7 hw => ?_)
  refine V_icmp_ge (tgt := 124) dX11_gathers_55 (by decide) hw (fun hw => ?_) (fun hw => ?_)
  · exact V.sub [0, 1, 2, 3] rfl (s_X11_gathers_124 hK7 hw)
  · refine V_aload_n 0 rfl rfl dX11_gathers_58 ?_
    refine X_getR (c := 11) (k := 22) fa_X11_64 rfl dX11_gathers_59 hw (fun v9 hw => ?_)
    refine V_iload 4 rfl dX11_gathers_62 ?_
    refine X_ldI dX11_gathers_64 hw (fun v10 hw => ?_)
    refine V_iload_n 3 rfl rfl dX11_gathers_65 ?_
    refine V_icmp_ne (tgt := 118) dX11_gathers_66 (by decide) hw (fun hw => ?_) (fun hw => ?_)
    · refine V_bipush (v := 8) (by decide) dX11_gathers_69 ?_
      refine V_aload_n 0 rfl rfl dX11_gathers_71 ?_
      refine X_getR (c := 11) (k := 23) fa_X11_67 rfl dX11_gathers_72 hw (fun v11 hw => ?_)
      refine V_iload 4 rfl dX11_gathers_75 ?_
      refine X_ldI dX11_gathers_77 hw (fun v12 hw => ?_)
      refine V_imul dX11_gathers_78 ?_
      refine V_aload_n 0 rfl rfl dX11_gathers_79 ?_
      refine X_getR (c := 11) (k := 24) fa_X11_70 rfl dX11_gathers_80 hw (fun v13 hw => ?_)
      refine V_iload 4 rfl dX11_gathers_83 ?_
      refine X_ldI dX11_gathers_85 hw (fun v14 hw => ?_)
      refine V_iadd dX11_gathers_86 ?_
      refine V_iload_n 2 rfl rfl dX11_gathers_87 ?_
      refine V_icmp_ne (tgt := 118) dX11_gathers_88 (by decide) hw (fun hw => ?_) (fun hw => ?_)
      · refine V_aload_n 0 rfl rfl dX11_gathers_91 ?_
        refine V_iload 4 rfl dX11_gathers_92 ?_
        refine X_cV 11 [.int l4] [] ma_X11_338 (by decide) rfl (by decide) (by decide) rfl (by simp [cat_i, cat_l, rf_cat]) rfl dX11_gathers_94 hw (r_X11_stands _ _) (k_I (fun v15 h hw => ?_))
        refine V_if_eq (tgt := 118) dX11_gathers_97 (by decide) hw (fun hw => ?_) (fun hw => ?_)
        · exact V.sub [0, 1, 2, 3, 4] rfl (s_X11_gathers_118 hK7 hK49 hw)
        · refine V_aload_n 0 rfl rfl dX11_gathers_100 ?_
          refine X_getR (c := 11) (k := 69) fa_X11_178 rfl dX11_gathers_101 hw (fun v17 hw => ?_)
          refine V_aload_n 0 rfl rfl dX11_gathers_104 ?_
          refine V_dup (rf_cat _) dX11_gathers_105 ?_
          refine X_getI (c := 11) (k := 71) fa_X11_335 rfl dX11_gathers_106 hw (fun v18 hw => ?_)
          refine V_dup_x1 rfl (rf_cat _) dX11_gathers_109 ?_
          refine V_iconst (v := 1) (by decide) dX11_gathers_110 ?_
          refine V_iadd dX11_gathers_111 ?_
          refine X_putI (c := 11) (k := 71) fa_X11_335 (Or.inl rfl) rfl dX11_gathers_112 hw (fun h hw => ?_)
          refine V_iload 4 rfl dX11_gathers_115 ?_
          refine X_stI dX11_gathers_117 hw (fun h hw => ?_)
          exact V.sub [0, 1, 2, 3, 4] rfl (s_X11_gathers_118 hK7 hK49 hw)
      · exact V.sub [0, 1, 2, 3, 4] rfl (s_X11_gathers_118 hK7 hK49 hw)
    · exact V.sub [0, 1, 2, 3, 4] rfl (s_X11_gathers_118 hK7 hK49 hw)
theorem s_X11_gathers_49 {l : Launch} {G : Gh} {l0 : Option Nat} {l1 : Int32} {l2 : Int32} {l3 : Int32} {l4 : Int32} {h : Hp} {Q : Int32 → Hp → Prop} {K7 : Int32 → Hp → Prop} (hK7 : ∀ (l3 : Int32) (h : Hp), K7 l3 h → V l G 2 yX11_gathers cX11_gathers 5 (some .int) 7 [(0, va_rf l0), (1, .int l1), (2, .int l2), (3, .int l3)] [] h (qI Q)) (hw : l_X11_gathers_49 l0 l1 l2 l3 l4 h Q K7) : V l G 2 yX11_gathers cX11_gathers 5 (some .int) 49 [(0, va_rf l0), (1, .int l1), (2, .int l2), (3, .int l3), (4, .int l4)] [] h (qI Q) :=
  Lo.ind (P := fun (s : Int32) h => V l G 2 yX11_gathers cX11_gathers 5 (some .int) 49 [(0, va_rf l0), (1, .int l1), (2, .int l2), (3, .int l3), (4, .int s)] [] h (qI Q)) (fun K ih s h hw => sb_X11_gathers_49 hK7 (fun l4 h hk => ih (l4) h hk) hw) hw
theorem s_X11_gathers_46 {l : Launch} {G : Gh} {l0 : Option Nat} {l1 : Int32} {l2 : Int32} {l3 : Int32} {h : Hp} {Q : Int32 → Hp → Prop} {K7 : Int32 → Hp → Prop} (hK7 : ∀ (l3 : Int32) (h : Hp), K7 l3 h → V l G 2 yX11_gathers cX11_gathers 5 (some .int) 7 [(0, va_rf l0), (1, .int l1), (2, .int l2), (3, .int l3)] [] h (qI Q)) (hw : n_X11_gathers_46 l0 l1 l2 l3 h Q K7) : V l G 2 yX11_gathers cX11_gathers 5 (some .int) 46 [(0, va_rf l0), (1, .int l1), (2, .int l2), (3, .int l3)] [] h (qI Q) := by
  unfold n_X11_gathers_46 at hw
  refine V_iconst (v := 0) (by decide) dX11_gathers_46 ?_
  refine V_istore (i := 4) [(4, .int 0), (0, va_rf l0), (1, .int l1), (2, .int l2), (3, .int l3)] (by decide) rfl dX11_gathers_47 ?_
  exact V.sub [1, 2, 3, 4, 0] rfl (s_X11_gathers_49 hK7 hw)
theorem sb_X11_gathers_7 {l : Launch} {G : Gh} {l0 : Option Nat} {l1 : Int32} {l2 : Int32} {l3 : Int32} {h : Hp} {Q : Int32 → Hp → Prop} {K7 : Int32 → Hp → Prop} (hK7 : ∀ (l3 : Int32) (h : Hp), K7 l3 h → V l G 2 yX11_gathers cX11_gathers 5 (some .int) 7 [(0, va_rf l0), (1, .int l1), (2, .int l2), (3, .int l3)] [] h (qI Q)) (hw : b_X11_gathers_7 l0 l1 l2 l3 h Q K7) : V l G 2 yX11_gathers cX11_gathers 5 (some .int) 7 [(0, va_rf l0), (1, .int l1), (2, .int l2), (3, .int l3)] [] h (qI Q) := by
  unfold b_X11_gathers_7 at hw
  refine V_iload_n 3 rfl rfl dX11_gathers_7 ?_
  refine V_aload_n 0 rfl rfl dX11_gathers_8 ?_
  refine X_getI (c := 11) (k := 1) fa_X11_7 rfl dX11_gathers_9 hw (fun v1 hw => ?_)
  refine V_icmp_ge (tgt := 130) dX11_gathers_12 (by decide) hw (fun hw => ?_) (fun hw => ?_)
  · refine V_aload_n 0 rfl rfl dX11_gathers_130 ?_
    refine X_getI (c := 11) (k := 71) fa_X11_335 rfl dX11_gathers_131 hw (fun v2 hw => ?_)
    exact V_iret rfl dX11_gathers_134 ⟨_, rfl, hw⟩
  · refine V_aload_n 0 rfl rfl dX11_gathers_15 ?_
    refine X_getR (c := 11) (k := 8) fa_X11_20 rfl dX11_gathers_16 hw (fun v3 hw => ?_)
    refine V_iload_n 3 rfl rfl dX11_gathers_19 ?_
    refine X_ldI dX11_gathers_20 hw (fun v4 hw => ?_)
    refine V_iload_n 1 rfl rfl dX11_gathers_21 ?_
    refine V_icmp_ne (tgt := 124) dX11_gathers_22 (by decide) hw (fun hw => ?_) (fun hw => ?_)
    · refine V_aload_n 0 rfl rfl dX11_gathers_25 ?_
      refine X_getR (c := 11) (k := 7) fa_X11_16 rfl dX11_gathers_26 hw (fun v5 hw => ?_)
      refine V_iload_n 3 rfl rfl dX11_gathers_29 ?_
      refine X_ldI dX11_gathers_30 hw (fun v6 hw => ?_)
      refine V_if_le (tgt := 46) dX11_gathers_31 (by decide) hw (fun hw => ?_) (fun hw => ?_)
      · exact V.sub [0, 1, 2, 3] rfl (s_X11_gathers_46 hK7 hw)
      · refine V_aload_n 0 rfl rfl dX11_gathers_34 ?_
        refine X_getR (c := 11) (k := 15) fa_X11_41 rfl dX11_gathers_35 hw (fun v19 hw => ?_)
        refine V_iload_n 3 rfl rfl dX11_gathers_38 ?_
        refine X_ldZ dX11_gathers_39 hw (fun v20 hw => ?_)
        refine V_if_ne (tgt := 46) dX11_gathers_40 (by decide) hw (fun hw => ?_) (fun hw => ?_)
        · refine V_goto (tgt := 124) dX11_gathers_43 (by decide) ?_
          exact V.sub [0, 1, 2, 3] rfl (s_X11_gathers_124 hK7 hw)
        · exact V.sub [0, 1, 2, 3] rfl (s_X11_gathers_46 hK7 hw)
    · exact V.sub [0, 1, 2, 3] rfl (s_X11_gathers_124 hK7 hw)
theorem s_X11_gathers_7 {l : Launch} {G : Gh} {l0 : Option Nat} {l1 : Int32} {l2 : Int32} {l3 : Int32} {h : Hp} {Q : Int32 → Hp → Prop}  (hw : l_X11_gathers_7 l0 l1 l2 l3 h Q) : V l G 2 yX11_gathers cX11_gathers 5 (some .int) 7 [(0, va_rf l0), (1, .int l1), (2, .int l2), (3, .int l3)] [] h (qI Q) :=
  Lo.ind (P := fun (s : Int32) h => V l G 2 yX11_gathers cX11_gathers 5 (some .int) 7 [(0, va_rf l0), (1, .int l1), (2, .int l2), (3, .int s)] [] h (qI Q)) (fun K ih s h hw => sb_X11_gathers_7 (fun l3 h hk => ih (l3) h hk) hw) hw
theorem s_X11_gathers_0 {l : Launch} {G : Gh} {l0 : Option Nat} {l1 : Int32} {l2 : Int32} {h : Hp} {Q : Int32 → Hp → Prop}  (hw : n_X11_gathers_0 l0 l1 l2 h Q) : V l G 2 yX11_gathers cX11_gathers 5 (some .int) 0 [(0, va_rf l0), (1, .int l1), (2, .int l2)] [] h (qI Q) := by
  unfold n_X11_gathers_0 at hw
  refine V_aload_n 0 rfl rfl dX11_gathers_0 ?_
  refine V_iconst (v := 0) (by decide) dX11_gathers_1 ?_
  refine X_putI (c := 11) (k := 71) fa_X11_335 (Or.inl rfl) rfl dX11_gathers_2 hw (fun h hw => ?_)
  refine V_iconst (v := 0) (by decide) dX11_gathers_5 ?_
  refine V_istore_n (i := 3) [(3, .int 0), (0, va_rf l0), (1, .int l1), (2, .int l2)] rfl (by decide) rfl dX11_gathers_6 ?_
  exact V.sub [1, 2, 3, 0] rfl (s_X11_gathers_7 hw)
theorem r_X11_gathers {l : Launch} {G : Gh} (l0 : Option Nat) (l1 : Int32) (l2 : Int32) {h : Hp} {Q : Int32 → Hp → Prop} (hw : w_X11_gathers l0 l1 l2 h Q) : RunQ l G 2 yX11_gathers cX11_gathers 5 (some .int) [va_rf l0, .int l1, .int l2] h (qI Q) :=
  V_run rfl (sl_len _ _ (by simp [cat_i, cat_l, rf_cat])) (V.sub [0, 1, 2] (by simp only [la_r, la_i, la_l, la_n]; rfl) (s_X11_gathers_0 hw))
def n_X11_joined_132 (s0 : Int32) (h : Hp) (Q : Int32 → Hp → Prop) : Prop :=
  Q s0 h
def n_X11_joined_68 (l0 : Option Nat) (l1 : Int32) (l2 : Int32) (l3 : Int32) (l4 : Int32) (h : Hp) (Q : Int32 → Hp → Prop) (K4 : Int32 → Int32 → Hp → Prop) : Prop :=
  gR h l0 12 1478 fun v10 =>
  gR h l0 12 1433 fun v11 =>
  gR h l0 12 1477 fun v12 =>
  ldI h v12 l3 fun v13 =>
  ldI h v11 v13 fun v14 =>
  stI h v10 l4 v14 fun h =>
  lt (l3 + 1) fun x15 =>
  K4 l2 x15 h
def b_X11_joined_18 (l0 : Option Nat) (l1 : Int32) (l2 : Int32) (l3 : Int32) (l4 : Int32) (h : Hp) (Q : Int32 → Hp → Prop) (K4 : Int32 → Int32 → Hp → Prop) (K18 : Int32 → Hp → Prop) : Prop :=
  br (l4 ≤ 0) (
    n_X11_joined_68 l0 l1 l2 l3 l4 h Q K4) (
    gR h l0 12 1478 fun v16 =>
    ldI h v16 (l4 - 1) fun v17 =>
    gR h l0 12 1433 fun v18 =>
    gR h l0 12 1477 fun v19 =>
    ldI h v19 l3 fun v20 =>
    ldI h v18 v20 fun v21 =>
    br (v17 ≤ v21) (
      n_X11_joined_68 l0 l1 l2 l3 l4 h Q K4) (
      gR h l0 12 1478 fun v22 =>
      gR h l0 12 1478 fun v23 =>
      ldI h v23 (l4 - 1) fun v24 =>
      stI h v22 l4 v24 fun h =>
      lt (l4 + (-1)) fun x25 =>
      K18 x25 h))
def l_X11_joined_18 (l0 : Option Nat) (l1 : Int32) (l2 : Int32) (l3 : Int32) (l4 : Int32) (h : Hp) (Q : Int32 → Hp → Prop) (K4 : Int32 → Int32 → Hp → Prop) : Prop :=
  Lo (fun (K : Int32 → Hp → Prop) s h => b_X11_joined_18 l0 l1 l2 l3 s h Q K4 (fun l4 h => K (l4) h)) (l4) h
def b_X11_joined_4 (l0 : Option Nat) (l1 : Int32) (l2 : Int32) (l3 : Int32) (h : Hp) (Q : Int32 → Hp → Prop) (K4 : Int32 → Int32 → Hp → Prop) : Prop :=
  gI h l0 12 1479 fun v1 =>
  br (v1 ≤ l3) (
    br (l1 = 1) (
      gR h l0 12 1478 fun v2 =>
      ldI h v2 (l2 - 1) fun v3 =>
      n_X11_joined_132 v3 h Q) (
      br (l1 = 2) (
        gR h l0 12 1478 fun v4 =>
        ldI h v4 0 fun v5 =>
        n_X11_joined_132 v5 h Q) (
        gR h l0 12 1478 fun v6 =>
        dvI (l2 - 1) 2 fun v7 =>
        ldI h v6 v7 fun v8 =>
        n_X11_joined_132 v8 h Q))) (
    lt (l2 + 1) fun x9 =>
    l_X11_joined_18 l0 l1 x9 l3 l2 h Q K4)
def l_X11_joined_4 (l0 : Option Nat) (l1 : Int32) (l2 : Int32) (l3 : Int32) (h : Hp) (Q : Int32 → Hp → Prop) : Prop :=
  Lo (fun (K : Int32 × Int32 → Hp → Prop) s h => b_X11_joined_4 l0 l1 s.1 s.2 h Q (fun l2 l3 h => K (l2, l3) h)) (l2, l3) h
def n_X11_joined_0 (l0 : Option Nat) (l1 : Int32) (h : Hp) (Q : Int32 → Hp → Prop) : Prop :=
  l_X11_joined_4 l0 l1 0 0 h Q
def w_X11_joined (l0 : Option Nat) (l1 : Int32) (h : Hp) (Q : Int32 → Hp → Prop) : Prop := n_X11_joined_0 l0 l1 h Q
theorem s_X11_joined_132 {l : Launch} {G : Gh} {s0 : Int32} {h : Hp} {Q : Int32 → Hp → Prop}  (hw : n_X11_joined_132 s0 h Q) : V l G 1 yX11_joined cX11_joined 5 (some .int) 132 [] [.int s0] h (qI Q) := by
  unfold n_X11_joined_132 at hw
  exact V_iret rfl dX11_joined_132 ⟨_, rfl, hw⟩
theorem s_X11_joined_68 {l : Launch} {G : Gh} {l0 : Option Nat} {l1 : Int32} {l2 : Int32} {l3 : Int32} {l4 : Int32} {h : Hp} {Q : Int32 → Hp → Prop} {K4 : Int32 → Int32 → Hp → Prop} (hK4 : ∀ (l2 : Int32) (l3 : Int32) (h : Hp), K4 l2 l3 h → V l G 1 yX11_joined cX11_joined 5 (some .int) 4 [(0, va_rf l0), (1, .int l1), (2, .int l2), (3, .int l3)] [] h (qI Q)) (hw : n_X11_joined_68 l0 l1 l2 l3 l4 h Q K4) : V l G 1 yX11_joined cX11_joined 5 (some .int) 68 [(0, va_rf l0), (1, .int l1), (2, .int l2), (3, .int l3), (4, .int l4)] [] h (qI Q) := by
  unfold n_X11_joined_68 at hw
  refine V_aload_n 0 rfl rfl dX11_joined_68 ?_
  refine X_getR (c := 11) (k := 70) fa_X11_181 rfl dX11_joined_69 hw (fun v10 hw => ?_)
  refine V_iload 4 rfl dX11_joined_72 ?_
  refine V_aload_n 0 rfl rfl dX11_joined_74 ?_
  refine X_getR (c := 11) (k := 25) fa_X11_73 rfl dX11_joined_75 hw (fun v11 hw => ?_)
  refine V_aload_n 0 rfl rfl dX11_joined_78 ?_
  refine X_getR (c := 11) (k := 69) fa_X11_178 rfl dX11_joined_79 hw (fun v12 hw => ?_)
  refine V_iload_n 3 rfl rfl dX11_joined_82 ?_
  refine X_ldI dX11_joined_83 hw (fun v13 hw => ?_)
  refine X_ldI dX11_joined_84 hw (fun v14 hw => ?_)
  refine X_stI dX11_joined_85 hw (fun h hw => ?_)
  refine V_iincL (n := 1) 3 (fun z => [(3, .int z), (0, va_rf l0), (1, .int l1), (2, .int l2), (4, .int l4)]) rfl (by rfl) (by decide) (fun _ => rfl) dX11_joined_86 hw (fun x15 hw => ?_)
  refine V_goto (tgt := 4) dX11_joined_89 (by decide) ?_
  exact V.sub [1, 2, 3, 0] rfl (hK4 _ _ _ hw)
theorem sb_X11_joined_18 {l : Launch} {G : Gh} {l0 : Option Nat} {l1 : Int32} {l2 : Int32} {l3 : Int32} {l4 : Int32} {h : Hp} {Q : Int32 → Hp → Prop} {K4 : Int32 → Int32 → Hp → Prop} {K18 : Int32 → Hp → Prop} (hK4 : ∀ (l2 : Int32) (l3 : Int32) (h : Hp), K4 l2 l3 h → V l G 1 yX11_joined cX11_joined 5 (some .int) 4 [(0, va_rf l0), (1, .int l1), (2, .int l2), (3, .int l3)] [] h (qI Q)) (hK18 : ∀ (l4 : Int32) (h : Hp), K18 l4 h → V l G 1 yX11_joined cX11_joined 5 (some .int) 18 [(0, va_rf l0), (1, .int l1), (2, .int l2), (3, .int l3), (4, .int l4)] [] h (qI Q)) (hw : b_X11_joined_18 l0 l1 l2 l3 l4 h Q K4 K18) : V l G 1 yX11_joined cX11_joined 5 (some .int) 18 [(0, va_rf l0), (1, .int l1), (2, .int l2), (3, .int l3), (4, .int l4)] [] h (qI Q) := by
  unfold b_X11_joined_18 at hw
  refine V_iload 4 rfl dX11_joined_18 ?_
  refine V_if_le (tgt := 68) dX11_joined_20 (by decide) hw (fun hw => ?_) (fun hw => ?_)
  · exact V.sub [0, 1, 2, 3, 4] rfl (s_X11_joined_68 hK4 hw)
  · refine V_aload_n 0 rfl rfl dX11_joined_23 ?_
    refine X_getR (c := 11) (k := 70) fa_X11_181 rfl dX11_joined_24 hw (fun v16 hw => ?_)
    refine V_iload 4 rfl dX11_joined_27 ?_
    refine V_iconst (v := 1) (by decide) dX11_joined_29 ?_
    refine V_isub dX11_joined_30 ?_
    refine X_ldI dX11_joined_31 hw (fun v17 hw => ?_)
    refine V_aload_n 0 rfl rfl dX11_joined_32 ?_
    refine X_getR (c := 11) (k := 25) fa_X11_73 rfl dX11_joined_33 hw (fun v18 hw => ?_)
    refine V_aload_n 0 rfl rfl dX11_joined_36 ?_
    refine X_getR (c := 11) (k := 69) fa_X11_178 rfl dX11_joined_37 hw (fun v19 hw => ?_)
    refine V_iload_n 3 rfl rfl dX11_joined_40 ?_
    refine X_ldI dX11_joined_41 hw (fun v20 hw => ?_)
    refine X_ldI dX11_joined_42 hw (fun v21 hw => ?_)
    refine V_icmp_le (tgt := 68) dX11_joined_43 (by decide) hw (fun hw => ?_) (fun hw => ?_)
    · exact V.sub [0, 1, 2, 3, 4] rfl (s_X11_joined_68 hK4 hw)
    · refine V_aload_n 0 rfl rfl dX11_joined_46 ?_
      refine X_getR (c := 11) (k := 70) fa_X11_181 rfl dX11_joined_47 hw (fun v22 hw => ?_)
      refine V_iload 4 rfl dX11_joined_50 ?_
      refine V_aload_n 0 rfl rfl dX11_joined_52 ?_
      refine X_getR (c := 11) (k := 70) fa_X11_181 rfl dX11_joined_53 hw (fun v23 hw => ?_)
      refine V_iload 4 rfl dX11_joined_56 ?_
      refine V_iconst (v := 1) (by decide) dX11_joined_58 ?_
      refine V_isub dX11_joined_59 ?_
      refine X_ldI dX11_joined_60 hw (fun v24 hw => ?_)
      refine X_stI dX11_joined_61 hw (fun h hw => ?_)
      refine V_iincL (n := (-1)) 4 (fun z => [(4, .int z), (0, va_rf l0), (1, .int l1), (2, .int l2), (3, .int l3)]) rfl (by rfl) (by decide) (fun _ => rfl) dX11_joined_62 hw (fun x25 hw => ?_)
      refine V_goto (tgt := 18) dX11_joined_65 (by decide) ?_
      exact V.sub [1, 2, 3, 4, 0] rfl (hK18 _ _ hw)
theorem s_X11_joined_18 {l : Launch} {G : Gh} {l0 : Option Nat} {l1 : Int32} {l2 : Int32} {l3 : Int32} {l4 : Int32} {h : Hp} {Q : Int32 → Hp → Prop} {K4 : Int32 → Int32 → Hp → Prop} (hK4 : ∀ (l2 : Int32) (l3 : Int32) (h : Hp), K4 l2 l3 h → V l G 1 yX11_joined cX11_joined 5 (some .int) 4 [(0, va_rf l0), (1, .int l1), (2, .int l2), (3, .int l3)] [] h (qI Q)) (hw : l_X11_joined_18 l0 l1 l2 l3 l4 h Q K4) : V l G 1 yX11_joined cX11_joined 5 (some .int) 18 [(0, va_rf l0), (1, .int l1), (2, .int l2), (3, .int l3), (4, .int l4)] [] h (qI Q) :=
  Lo.ind (P := fun (s : Int32) h => V l G 1 yX11_joined cX11_joined 5 (some .int) 18 [(0, va_rf l0), (1, .int l1), (2, .int l2), (3, .int l3), (4, .int s)] [] h (qI Q)) (fun K ih s h hw => sb_X11_joined_18 hK4 (fun l4 h hk => ih (l4) h hk) hw) hw
theorem sb_X11_joined_4 {l : Launch} {G : Gh} {l0 : Option Nat} {l1 : Int32} {l2 : Int32} {l3 : Int32} {h : Hp} {Q : Int32 → Hp → Prop} {K4 : Int32 → Int32 → Hp → Prop} (hK4 : ∀ (l2 : Int32) (l3 : Int32) (h : Hp), K4 l2 l3 h → V l G 1 yX11_joined cX11_joined 5 (some .int) 4 [(0, va_rf l0), (1, .int l1), (2, .int l2), (3, .int l3)] [] h (qI Q)) (hw : b_X11_joined_4 l0 l1 l2 l3 h Q K4) : V l G 1 yX11_joined cX11_joined 5 (some .int) 4 [(0, va_rf l0), (1, .int l1), (2, .int l2), (3, .int l3)] [] h (qI Q) := by
  unfold b_X11_joined_4 at hw
  refine V_iload_n 3 rfl rfl dX11_joined_4 ?_
  refine V_aload_n 0 rfl rfl dX11_joined_5 ?_
  refine X_getI (c := 11) (k := 71) fa_X11_335 rfl dX11_joined_6 hw (fun v1 hw => ?_)
  refine V_icmp_ge (tgt := 92) dX11_joined_9 (by decide) hw (fun hw => ?_) (fun hw => ?_)
  · refine V_iload_n 1 rfl rfl dX11_joined_92 ?_
    refine V_iconst (v := 1) (by decide) dX11_joined_93 ?_
    refine V_icmp_ne (tgt := 108) dX11_joined_94 (by decide) hw (fun hw => ?_) (fun hw => ?_)
    · refine V_aload_n 0 rfl rfl dX11_joined_97 ?_
      refine X_getR (c := 11) (k := 70) fa_X11_181 rfl dX11_joined_98 hw (fun v2 hw => ?_)
      refine V_iload_n 2 rfl rfl dX11_joined_101 ?_
      refine V_iconst (v := 1) (by decide) dX11_joined_102 ?_
      refine V_isub dX11_joined_103 ?_
      refine X_ldI dX11_joined_104 hw (fun v3 hw => ?_)
      refine V_goto (tgt := 132) dX11_joined_105 (by decide) ?_
      exact V.sub [] rfl (s_X11_joined_132 hw)
    · refine V_iload_n 1 rfl rfl dX11_joined_108 ?_
      refine V_iconst (v := 2) (by decide) dX11_joined_109 ?_
      refine V_icmp_ne (tgt := 122) dX11_joined_110 (by decide) hw (fun hw => ?_) (fun hw => ?_)
      · refine V_aload_n 0 rfl rfl dX11_joined_113 ?_
        refine X_getR (c := 11) (k := 70) fa_X11_181 rfl dX11_joined_114 hw (fun v4 hw => ?_)
        refine V_iconst (v := 0) (by decide) dX11_joined_117 ?_
        refine X_ldI dX11_joined_118 hw (fun v5 hw => ?_)
        refine V_goto (tgt := 132) dX11_joined_119 (by decide) ?_
        exact V.sub [] rfl (s_X11_joined_132 hw)
      · refine V_aload_n 0 rfl rfl dX11_joined_122 ?_
        refine X_getR (c := 11) (k := 70) fa_X11_181 rfl dX11_joined_123 hw (fun v6 hw => ?_)
        refine V_iload_n 2 rfl rfl dX11_joined_126 ?_
        refine V_iconst (v := 1) (by decide) dX11_joined_127 ?_
        refine V_isub dX11_joined_128 ?_
        refine V_iconst (v := 2) (by decide) dX11_joined_129 ?_
        refine X_idiv dX11_joined_130 hw (fun v7 hw => ?_)
        refine X_ldI dX11_joined_131 hw (fun v8 hw => ?_)
        exact V.sub [] rfl (s_X11_joined_132 hw)
  · refine V_iload_n 2 rfl rfl dX11_joined_12 ?_
    refine V_iincL (n := 1) 2 (fun z => [(2, .int z), (0, va_rf l0), (1, .int l1), (3, .int l3)]) rfl (by rfl) (by decide) (fun _ => rfl) dX11_joined_13 hw (fun x9 hw => ?_)
    refine V_istore (i := 4) [(4, .int l2), (2, .int x9), (0, va_rf l0), (1, .int l1), (3, .int l3)] (by decide) rfl dX11_joined_16 ?_
    exact V.sub [2, 3, 1, 4, 0] rfl (s_X11_joined_18 hK4 hw)
theorem s_X11_joined_4 {l : Launch} {G : Gh} {l0 : Option Nat} {l1 : Int32} {l2 : Int32} {l3 : Int32} {h : Hp} {Q : Int32 → Hp → Prop}  (hw : l_X11_joined_4 l0 l1 l2 l3 h Q) : V l G 1 yX11_joined cX11_joined 5 (some .int) 4 [(0, va_rf l0), (1, .int l1), (2, .int l2), (3, .int l3)] [] h (qI Q) :=
  Lo.ind (P := fun (s : Int32 × Int32) h => V l G 1 yX11_joined cX11_joined 5 (some .int) 4 [(0, va_rf l0), (1, .int l1), (2, .int s.1), (3, .int s.2)] [] h (qI Q)) (fun K ih s h hw => sb_X11_joined_4 (fun l2 l3 h hk => ih (l2, l3) h hk) hw) hw
theorem s_X11_joined_0 {l : Launch} {G : Gh} {l0 : Option Nat} {l1 : Int32} {h : Hp} {Q : Int32 → Hp → Prop}  (hw : n_X11_joined_0 l0 l1 h Q) : V l G 1 yX11_joined cX11_joined 5 (some .int) 0 [(0, va_rf l0), (1, .int l1)] [] h (qI Q) := by
  unfold n_X11_joined_0 at hw
  refine V_iconst (v := 0) (by decide) dX11_joined_0 ?_
  refine V_istore_n (i := 2) [(2, .int 0), (0, va_rf l0), (1, .int l1)] rfl (by decide) rfl dX11_joined_1 ?_
  refine V_iconst (v := 0) (by decide) dX11_joined_2 ?_
  refine V_istore_n (i := 3) [(3, .int 0), (2, .int 0), (0, va_rf l0), (1, .int l1)] rfl (by decide) rfl dX11_joined_3 ?_
  exact V.sub [2, 3, 1, 0] rfl (s_X11_joined_4 hw)
theorem r_X11_joined {l : Launch} {G : Gh} (l0 : Option Nat) (l1 : Int32) {h : Hp} {Q : Int32 → Hp → Prop} (hw : w_X11_joined l0 l1 h Q) : RunQ l G 1 yX11_joined cX11_joined 5 (some .int) [va_rf l0, .int l1] h (qI Q) :=
  V_run rfl (sl_len _ _ (by simp [cat_i, cat_l, rf_cat])) (V.sub [0, 1] (by simp only [la_r, la_i, la_l, la_n]; rfl) (s_X11_joined_0 hw))
def n_X11_saidAt_53 (l0 : Option Nat) (l1 : Int32) (l3 : Int32) (s0 : Int32) (s1 : Int32) (s2 : Int32) (s3 : Int32) (h : Hp) (Q : Int32 → Hp → Prop) (K4 : Int32 → Int32 → Hp → Prop) : Prop :=
  lt (s3 + (s2 * (s1 - s0))) fun x10 =>
  lt (l3 + 1) fun x11 =>
  K4 x10 x11 h
def b_X11_saidAt_4 (l0 : Option Nat) (l1 : Int32) (l2 : Int32) (l3 : Int32) (h : Hp) (Q : Int32 → Hp → Prop) (K4 : Int32 → Int32 → Hp → Prop) : Prop :=
  gI h l0 12 1479 fun v1 =>
  br (v1 ≤ l3) (
    Q l2 h) (
    gR h l0 12 1433 fun v2 =>
    gR h l0 12 1477 fun v3 =>
    ldI h v3 l3 fun v4 =>
    ldI h v2 v4 fun v5 =>
    lt (v5 - l1) fun x6 =>
    gR h l0 12 1477 fun v7 =>
    ldI h v7 l3 fun v8 =>
    oV h l0 12 <| w_X11_hearthsBehind l0 v8 h <| fun v9 h =>
    br (0 ≤ x6) (
      n_X11_saidAt_53 l0 l1 l3 x6 100 v9 l2 h Q K4) (
      n_X11_saidAt_53 l0 l1 l3 (-x6) 100 v9 l2 h Q K4))
def l_X11_saidAt_4 (l0 : Option Nat) (l1 : Int32) (l2 : Int32) (l3 : Int32) (h : Hp) (Q : Int32 → Hp → Prop) : Prop :=
  Lo (fun (K : Int32 × Int32 → Hp → Prop) s h => b_X11_saidAt_4 l0 l1 s.1 s.2 h Q (fun l2 l3 h => K (l2, l3) h)) (l2, l3) h
def n_X11_saidAt_0 (l0 : Option Nat) (l1 : Int32) (h : Hp) (Q : Int32 → Hp → Prop) : Prop :=
  l_X11_saidAt_4 l0 l1 0 0 h Q
def w_X11_saidAt (l0 : Option Nat) (l1 : Int32) (h : Hp) (Q : Int32 → Hp → Prop) : Prop := n_X11_saidAt_0 l0 l1 h Q
theorem s_X11_saidAt_53 {l : Launch} {G : Gh} {l0 : Option Nat} {l1 : Int32} {l3 : Int32} {s0 : Int32} {s1 : Int32} {s2 : Int32} {s3 : Int32} {h : Hp} {Q : Int32 → Hp → Prop} {K4 : Int32 → Int32 → Hp → Prop} (hK4 : ∀ (l2 : Int32) (l3 : Int32) (h : Hp), K4 l2 l3 h → V l G 2 yX11_saidAt cX11_saidAt 5 (some .int) 4 [(0, va_rf l0), (1, .int l1), (2, .int l2), (3, .int l3)] [] h (qI Q)) (hw : n_X11_saidAt_53 l0 l1 l3 s0 s1 s2 s3 h Q K4) : V l G 2 yX11_saidAt cX11_saidAt 5 (some .int) 53 [(0, va_rf l0), (1, .int l1), (3, .int l3)] [.int s0, .int s1, .int s2, .int s3] h (qI Q) := by
  unfold n_X11_saidAt_53 at hw
  refine V_isub dX11_saidAt_53 ?_
  refine V_imul dX11_saidAt_54 ?_
  refine V_iadd dX11_saidAt_55 ?_
  refine V_ltI hw (fun x10 hw => ?_)
  refine V_istore_n (i := 2) [(2, .int x10), (0, va_rf l0), (1, .int l1), (3, .int l3)] rfl (by decide) rfl dX11_saidAt_56 ?_
  refine V_iincL (n := 1) 3 (fun z => [(3, .int z), (2, .int x10), (0, va_rf l0), (1, .int l1)]) rfl (by rfl) (by decide) (fun _ => rfl) dX11_saidAt_57 hw (fun x11 hw => ?_)
  refine V_goto (tgt := 4) dX11_saidAt_60 (by decide) ?_
  exact V.sub [2, 3, 1, 0] rfl (hK4 _ _ _ hw)
theorem sb_X11_saidAt_4 {l : Launch} {G : Gh} {l0 : Option Nat} {l1 : Int32} {l2 : Int32} {l3 : Int32} {h : Hp} {Q : Int32 → Hp → Prop} {K4 : Int32 → Int32 → Hp → Prop} (hK4 : ∀ (l2 : Int32) (l3 : Int32) (h : Hp), K4 l2 l3 h → V l G 2 yX11_saidAt cX11_saidAt 5 (some .int) 4 [(0, va_rf l0), (1, .int l1), (2, .int l2), (3, .int l3)] [] h (qI Q)) (hw : b_X11_saidAt_4 l0 l1 l2 l3 h Q K4) : V l G 2 yX11_saidAt cX11_saidAt 5 (some .int) 4 [(0, va_rf l0), (1, .int l1), (2, .int l2), (3, .int l3)] [] h (qI Q) := by
  unfold b_X11_saidAt_4 at hw
  refine V_iload_n 3 rfl rfl dX11_saidAt_4 ?_
  refine V_aload_n 0 rfl rfl dX11_saidAt_5 ?_
  refine X_getI (c := 11) (k := 71) fa_X11_335 rfl dX11_saidAt_6 hw (fun v1 hw => ?_)
  refine V_icmp_ge (tgt := 63) dX11_saidAt_9 (by decide) hw (fun hw => ?_) (fun hw => ?_)
  · refine V_iload_n 2 rfl rfl dX11_saidAt_63 ?_
    exact V_iret rfl dX11_saidAt_64 ⟨_, rfl, hw⟩
  · refine V_aload_n 0 rfl rfl dX11_saidAt_12 ?_
    refine X_getR (c := 11) (k := 25) fa_X11_73 rfl dX11_saidAt_13 hw (fun v2 hw => ?_)
    refine V_aload_n 0 rfl rfl dX11_saidAt_16 ?_
    refine X_getR (c := 11) (k := 69) fa_X11_178 rfl dX11_saidAt_17 hw (fun v3 hw => ?_)
    refine V_iload_n 3 rfl rfl dX11_saidAt_20 ?_
    refine X_ldI dX11_saidAt_21 hw (fun v4 hw => ?_)
    refine X_ldI dX11_saidAt_22 hw (fun v5 hw => ?_)
    refine V_iload_n 1 rfl rfl dX11_saidAt_23 ?_
    refine V_isub dX11_saidAt_24 ?_
    refine V_ltI hw (fun x6 hw => ?_)
    refine V_istore (i := 4) [(4, .int x6), (0, va_rf l0), (1, .int l1), (2, .int l2), (3, .int l3)] (by decide) rfl dX11_saidAt_25 ?_
    refine V_iload_n 3 rfl rfl dX11_saidAt_27 ?_
    refine V_aload_n 1 rfl rfl dX11_saidAt_28 ?_
    refine V_aload_n 1 rfl rfl dX11_saidAt_29 ?_
    refine X_getR (c := 11) (k := 69) fa_X11_178 rfl dX11_saidAt_30 hw (fun v7 hw => ?_)
    refine V_iload_n 4 rfl rfl dX11_saidAt_33 ?_
    refine X_ldI dX11_saidAt_34 hw (fun v8 hw => ?_)
    refine X_cV 11 [.int v8] [.int l2] ma_X11_264 (by decide) rfl (by decide) (by decide) rfl (by simp [cat_i, cat_l, rf_cat]) rfl dX11_saidAt_35 hw (r_X11_hearthsBehind _ _) (k_I (fun v9 h hw => ?_))
    refine V_bipush (v := 100) (by decide) dX11_saidAt_38 ?_
    refine V_iload 0 rfl dX11_saidAt_40 ?_
    refine V_if_ge (tgt := 51) dX11_saidAt_42 (by decide) hw (fun hw => ?_) (fun hw => ?_)
    · refine V_iload 0 rfl dX11_saidAt_51 ?_
      exact V.sub [1, 2, 4] rfl (s_X11_saidAt_53 hK4 hw)
    · refine V_iload 0 rfl dX11_saidAt_45 ?_
      refine V_ineg dX11_saidAt_47 ?_
      refine V_goto (tgt := 53) dX11_saidAt_48 (by decide) ?_
      exact V.sub [1, 2, 4] rfl (s_X11_saidAt_53 hK4 hw)
theorem s_X11_saidAt_4 {l : Launch} {G : Gh} {l0 : Option Nat} {l1 : Int32} {l2 : Int32} {l3 : Int32} {h : Hp} {Q : Int32 → Hp → Prop}  (hw : l_X11_saidAt_4 l0 l1 l2 l3 h Q) : V l G 2 yX11_saidAt cX11_saidAt 5 (some .int) 4 [(0, va_rf l0), (1, .int l1), (2, .int l2), (3, .int l3)] [] h (qI Q) :=
  Lo.ind (P := fun (s : Int32 × Int32) h => V l G 2 yX11_saidAt cX11_saidAt 5 (some .int) 4 [(0, va_rf l0), (1, .int l1), (2, .int s.1), (3, .int s.2)] [] h (qI Q)) (fun K ih s h hw => sb_X11_saidAt_4 (fun l2 l3 h hk => ih (l2, l3) h hk) hw) hw
theorem s_X11_saidAt_0 {l : Launch} {G : Gh} {l0 : Option Nat} {l1 : Int32} {h : Hp} {Q : Int32 → Hp → Prop}  (hw : n_X11_saidAt_0 l0 l1 h Q) : V l G 2 yX11_saidAt cX11_saidAt 5 (some .int) 0 [(0, va_rf l0), (1, .int l1)] [] h (qI Q) := by
  unfold n_X11_saidAt_0 at hw
  refine V_iconst (v := 0) (by decide) dX11_saidAt_0 ?_
  refine V_istore_n (i := 2) [(2, .int 0), (0, va_rf l0), (1, .int l1)] rfl (by decide) rfl dX11_saidAt_1 ?_
  refine V_iconst (v := 0) (by decide) dX11_saidAt_2 ?_
  refine V_istore_n (i := 3) [(3, .int 0), (2, .int 0), (0, va_rf l0), (1, .int l1)] rfl (by decide) rfl dX11_saidAt_3 ?_
  exact V.sub [2, 3, 1, 0] rfl (s_X11_saidAt_4 hw)
theorem r_X11_saidAt {l : Launch} {G : Gh} (l0 : Option Nat) (l1 : Int32) {h : Hp} {Q : Int32 → Hp → Prop} (hw : w_X11_saidAt l0 l1 h Q) : RunQ l G 2 yX11_saidAt cX11_saidAt 5 (some .int) [va_rf l0, .int l1] h (qI Q) :=
  V_run rfl (sl_len _ _ (by simp [cat_i, cat_l, rf_cat])) (V.sub [0, 1] (by simp only [la_r, la_i, la_l, la_n]; rfl) (s_X11_saidAt_0 hw))
def b_X11_bits_4 (l0 : Int32) (l1 : Int32) (l2 : Int32) (h : Hp) (Q : Int32 → Hp → Prop) (K4 : Int32 → Int32 → Hp → Prop) : Prop :=
  br (16 ≤ l2) (
    Q l1 h) (
    lt (l1 + ((l0 >>> (l2 &&& 31)) &&& 1)) fun x1 =>
    lt (l2 + 1) fun x2 =>
    K4 x1 x2 h)
def l_X11_bits_4 (l0 : Int32) (l1 : Int32) (l2 : Int32) (h : Hp) (Q : Int32 → Hp → Prop) : Prop :=
  Lo (fun (K : Int32 × Int32 → Hp → Prop) s h => b_X11_bits_4 l0 s.1 s.2 h Q (fun l1 l2 h => K (l1, l2) h)) (l1, l2) h
def n_X11_bits_0 (l0 : Int32) (h : Hp) (Q : Int32 → Hp → Prop) : Prop :=
  l_X11_bits_4 l0 0 0 h Q
def w_X11_bits (l0 : Int32) (h : Hp) (Q : Int32 → Hp → Prop) : Prop := n_X11_bits_0 l0 h Q
theorem sb_X11_bits_4 {l : Launch} {G : Gh} {l0 : Int32} {l1 : Int32} {l2 : Int32} {h : Hp} {Q : Int32 → Hp → Prop} {K4 : Int32 → Int32 → Hp → Prop} (hK4 : ∀ (l1 : Int32) (l2 : Int32) (h : Hp), K4 l1 l2 h → V l G 1 yX11_bits cX11_bits 3 (some .int) 4 [(0, .int l0), (1, .int l1), (2, .int l2)] [] h (qI Q)) (hw : b_X11_bits_4 l0 l1 l2 h Q K4) : V l G 1 yX11_bits cX11_bits 3 (some .int) 4 [(0, .int l0), (1, .int l1), (2, .int l2)] [] h (qI Q) := by
  unfold b_X11_bits_4 at hw
  refine V_iload_n 2 rfl rfl dX11_bits_4 ?_
  refine V_bipush (v := 16) (by decide) dX11_bits_5 ?_
  refine V_icmp_ge (tgt := 24) dX11_bits_7 (by decide) hw (fun hw => ?_) (fun hw => ?_)
  · refine V_iload_n 1 rfl rfl dX11_bits_24 ?_
    exact V_iret rfl dX11_bits_25 ⟨_, rfl, hw⟩
  · refine V_iload_n 1 rfl rfl dX11_bits_10 ?_
    refine V_iload_n 0 rfl rfl dX11_bits_11 ?_
    refine V_iload_n 2 rfl rfl dX11_bits_12 ?_
    refine V_ishr dX11_bits_13 ?_
    refine V_iconst (v := 1) (by decide) dX11_bits_14 ?_
    refine V_iand dX11_bits_15 ?_
    refine V_iadd dX11_bits_16 ?_
    refine V_ltI hw (fun x1 hw => ?_)
    refine V_istore_n (i := 1) [(1, .int x1), (0, .int l0), (2, .int l2)] rfl (by decide) rfl dX11_bits_17 ?_
    refine V_iincL (n := 1) 2 (fun z => [(2, .int z), (1, .int x1), (0, .int l0)]) rfl (by rfl) (by decide) (fun _ => rfl) dX11_bits_18 hw (fun x2 hw => ?_)
    refine V_goto (tgt := 4) dX11_bits_21 (by decide) ?_
    exact V.sub [2, 1, 0] rfl (hK4 _ _ _ hw)
theorem s_X11_bits_4 {l : Launch} {G : Gh} {l0 : Int32} {l1 : Int32} {l2 : Int32} {h : Hp} {Q : Int32 → Hp → Prop}  (hw : l_X11_bits_4 l0 l1 l2 h Q) : V l G 1 yX11_bits cX11_bits 3 (some .int) 4 [(0, .int l0), (1, .int l1), (2, .int l2)] [] h (qI Q) :=
  Lo.ind (P := fun (s : Int32 × Int32) h => V l G 1 yX11_bits cX11_bits 3 (some .int) 4 [(0, .int l0), (1, .int s.1), (2, .int s.2)] [] h (qI Q)) (fun K ih s h hw => sb_X11_bits_4 (fun l1 l2 h hk => ih (l1, l2) h hk) hw) hw
theorem s_X11_bits_0 {l : Launch} {G : Gh} {l0 : Int32} {h : Hp} {Q : Int32 → Hp → Prop}  (hw : n_X11_bits_0 l0 h Q) : V l G 1 yX11_bits cX11_bits 3 (some .int) 0 [(0, .int l0)] [] h (qI Q) := by
  unfold n_X11_bits_0 at hw
  refine V_iconst (v := 0) (by decide) dX11_bits_0 ?_
  refine V_istore_n (i := 1) [(1, .int 0), (0, .int l0)] rfl (by decide) rfl dX11_bits_1 ?_
  refine V_iconst (v := 0) (by decide) dX11_bits_2 ?_
  refine V_istore_n (i := 2) [(2, .int 0), (1, .int 0), (0, .int l0)] rfl (by decide) rfl dX11_bits_3 ?_
  exact V.sub [2, 1, 0] rfl (s_X11_bits_4 hw)
theorem r_X11_bits {l : Launch} {G : Gh} (l0 : Int32) {h : Hp} {Q : Int32 → Hp → Prop} (hw : w_X11_bits l0 h Q) : RunQ l G 1 yX11_bits cX11_bits 3 (some .int) [.int l0] h (qI Q) :=
  V_run rfl (sl_len _ _ (by simp [cat_i, cat_l, rf_cat])) (V.sub [0] (by simp only [la_r, la_i, la_l, la_n]; rfl) (s_X11_bits_0 hw))
def n_X11_best_33 (l0 : Option Nat) (h : Hp) (Q : Int32 → Hp → Prop) : Prop :=
  oV h l0 12 <| w_X11_no l0 (-6) h <| fun v3 h =>
  Q v3 h
def n_X11_best_409 (l0 : Option Nat) (l3 : Int32) (l4 : Int32) (l5 : Int32) (l6 : Int32) (s0 : Int32) (s1 : Int32) (s2 : Option Nat) (h : Hp) (Q : Int32 → Hp → Prop) (K375 : Int32 → Hp → Prop) : Prop :=
  stI h s2 s1 s0 fun h =>
  lt (l6 + 1) fun x9 =>
  K375 x9 h
def b_X11_best_375 (l0 : Option Nat) (l3 : Int32) (l4 : Int32) (l5 : Int32) (l6 : Int32) (h : Hp) (Q : Int32 → Hp → Prop) (K375 : Int32 → Hp → Prop) : Prop :=
  br (l3 ≤ l6) (
    Q l5 h) (
    gR h l0 12 1483 fun v6 =>
    br ((l4 >>> (l6 &&& 31)) &&& 1 = 1) (
      gR h l0 12 1485 fun v7 =>
      ldI h v7 l6 fun v8 =>
      n_X11_best_409 l0 l3 l4 l5 l6 v8 l6 v6 h Q K375) (
      n_X11_best_409 l0 l3 l4 l5 l6 0 l6 v6 h Q K375))
def l_X11_best_375 (l0 : Option Nat) (l3 : Int32) (l4 : Int32) (l5 : Int32) (l6 : Int32) (h : Hp) (Q : Int32 → Hp → Prop) : Prop :=
  Lo (fun (K : Int32 → Hp → Prop) s h => b_X11_best_375 l0 l3 l4 l5 s h Q (fun l6 h => K (l6) h)) (l6) h
def n_X11_best_361 (l0 : Option Nat) (l2 : Int32) (l3 : Int32) (l4 : Int32) (l5 : Int32) (l6 : Int32) (h : Hp) (Q : Int32 → Hp → Prop) (K213 : Int32 → Int32 → Int32 → Hp → Prop) : Prop :=
  lt (l6 + 1) fun x11 =>
  K213 l4 l5 x11 h
def n_X11_best_335 (l0 : Option Nat) (l2 : Int32) (l3 : Int32) (l4 : Int32) (l5 : Int32) (l6 : Int32) (l7 : Int32) (l8 : Int32) (l9 : Int32) (h : Hp) (Q : Int32 → Hp → Prop) (K213 : Int32 → Int32 → Int32 → Hp → Prop) (K242 : Int32 → Int32 → Int32 → Hp → Prop) : Prop :=
  lt (l9 + 1) fun x12 =>
  K242 l7 l8 x12 h
def n_X11_best_329 (l0 : Option Nat) (l2 : Int32) (l3 : Int32) (l4 : Int32) (l5 : Int32) (l6 : Int32) (l7 : Int32) (l8 : Int32) (l9 : Int32) (l10 : Int32) (h : Hp) (Q : Int32 → Hp → Prop) (K213 : Int32 → Int32 → Int32 → Hp → Prop) (K242 : Int32 → Int32 → Int32 → Hp → Prop) (K276 : Int32 → Int32 → Hp → Prop) : Prop :=
  lt (l10 + 1) fun x24 =>
  K276 l8 x24 h
def b_X11_best_276 (l0 : Option Nat) (l2 : Int32) (l3 : Int32) (l4 : Int32) (l5 : Int32) (l6 : Int32) (l7 : Int32) (l8 : Int32) (l9 : Int32) (l10 : Int32) (h : Hp) (Q : Int32 → Hp → Prop) (K213 : Int32 → Int32 → Int32 → Hp → Prop) (K242 : Int32 → Int32 → Int32 → Hp → Prop) (K276 : Int32 → Int32 → Hp → Prop) : Prop :=
  br (l9 ≤ l10) (
    n_X11_best_335 l0 l2 l3 l4 l5 l6 l7 l8 l9 h Q K213 K242) (
    br ((l6 >>> (l10 &&& 31)) &&& 1 = 1) (
      gR h l0 12 1464 fun v16 =>
      gR h l0 12 1486 fun v17 =>
      ldI h v17 l9 fun v18 =>
      dvI v18 8 fun v19 =>
      gR h l0 12 1486 fun v20 =>
      ldI h v20 l10 fun v21 =>
      dvI v21 8 fun v22 =>
      ldZ h v16 ((16 * v19) + v22) fun v23 =>
      br (v23 = 0) (
        n_X11_best_329 l0 l2 l3 l4 l5 l6 l7 l8 l9 l10 h Q K213 K242 K276) (
        n_X11_best_329 l0 l2 l3 l4 l5 l6 l7 0 l9 l10 h Q K213 K242 K276)) (
      n_X11_best_329 l0 l2 l3 l4 l5 l6 l7 l8 l9 l10 h Q K213 K242 K276))
def l_X11_best_276 (l0 : Option Nat) (l2 : Int32) (l3 : Int32) (l4 : Int32) (l5 : Int32) (l6 : Int32) (l7 : Int32) (l8 : Int32) (l9 : Int32) (l10 : Int32) (h : Hp) (Q : Int32 → Hp → Prop) (K213 : Int32 → Int32 → Int32 → Hp → Prop) (K242 : Int32 → Int32 → Int32 → Hp → Prop) : Prop :=
  Lo (fun (K : Int32 × Int32 → Hp → Prop) s h => b_X11_best_276 l0 l2 l3 l4 l5 l6 l7 s.1 l9 s.2 h Q K213 K242 (fun l8 l10 h => K (l8, l10) h)) (l8, l10) h
def b_X11_best_242 (l0 : Option Nat) (l2 : Int32) (l3 : Int32) (l4 : Int32) (l5 : Int32) (l6 : Int32) (l7 : Int32) (l8 : Int32) (l9 : Int32) (h : Hp) (Q : Int32 → Hp → Prop) (K213 : Int32 → Int32 → Int32 → Hp → Prop) (K242 : Int32 → Int32 → Int32 → Hp → Prop) : Prop :=
  br (l3 ≤ l9) (
    br (l8 = 0) (
      n_X11_best_361 l0 l2 l3 l4 l5 l6 h Q K213) (
      br (l7 ≤ l5) (
        n_X11_best_361 l0 l2 l3 l4 l5 l6 h Q K213) (
        n_X11_best_361 l0 l2 l3 l6 l7 l6 h Q K213))) (
    br ((l6 >>> (l9 &&& 31)) &&& 1 = 0) (
      n_X11_best_335 l0 l2 l3 l4 l5 l6 l7 l8 l9 h Q K213 K242) (
      gR h l0 12 1484 fun v13 =>
      ldI h v13 l9 fun v14 =>
      lt (l7 + v14) fun x15 =>
      l_X11_best_276 l0 l2 l3 l4 l5 l6 x15 l8 l9 0 h Q K213 K242))
def l_X11_best_242 (l0 : Option Nat) (l2 : Int32) (l3 : Int32) (l4 : Int32) (l5 : Int32) (l6 : Int32) (l7 : Int32) (l8 : Int32) (l9 : Int32) (h : Hp) (Q : Int32 → Hp → Prop) (K213 : Int32 → Int32 → Int32 → Hp → Prop) : Prop :=
  Lo (fun (K : Int32 × Int32 × Int32 → Hp → Prop) s h => b_X11_best_242 l0 l2 l3 l4 l5 l6 s.1 s.2.1 s.2.2 h Q K213 (fun l7 l8 l9 h => K (l7, l8, l9) h)) (l7, l8, l9) h
def b_X11_best_213 (l0 : Option Nat) (l2 : Int32) (l3 : Int32) (l4 : Int32) (l5 : Int32) (l6 : Int32) (h : Hp) (Q : Int32 → Hp → Prop) (K213 : Int32 → Int32 → Int32 → Hp → Prop) : Prop :=
  br ((1 <<< (l3 &&& 31)) ≤ l6) (
    pI h l0 12 1482 l3 fun h =>
    l_X11_best_375 l0 l3 l4 l5 0 h Q) (
    w_X11_bits l6 h <| fun v10 h =>
    br (v10 ≤ l2) (
      l_X11_best_242 l0 l2 l3 l4 l5 l6 0 1 0 h Q K213) (
      n_X11_best_361 l0 l2 l3 l4 l5 l6 h Q K213))
def l_X11_best_213 (l0 : Option Nat) (l2 : Int32) (l3 : Int32) (l4 : Int32) (l5 : Int32) (l6 : Int32) (h : Hp) (Q : Int32 → Hp → Prop) : Prop :=
  Lo (fun (K : Int32 × Int32 × Int32 → Hp → Prop) s h => b_X11_best_213 l0 l2 l3 s.1 s.2.1 s.2.2 h Q (fun l4 l5 l6 h => K (l4, l5, l6) h)) (l4, l5, l6) h
def n_X11_best_198 (l0 : Option Nat) (l1 : Int32) (l2 : Int32) (l3 : Int32) (l4 : Int32) (h : Hp) (Q : Int32 → Hp → Prop) (K90 : Int32 → Int32 → Hp → Prop) : Prop :=
  lt (l4 + 1) fun x26 =>
  K90 l3 x26 h
def n_X11_best_189 (l0 : Option Nat) (l1 : Int32) (l2 : Int32) (l3 : Int32) (l4 : Int32) (l5 : Int32) (h : Hp) (Q : Int32 → Hp → Prop) (K90 : Int32 → Int32 → Hp → Prop) (K144 : Int32 → Hp → Prop) : Prop :=
  lt (l5 + 1) fun x37 =>
  K144 x37 h
def b_X11_best_144 (l0 : Option Nat) (l1 : Int32) (l2 : Int32) (l3 : Int32) (l4 : Int32) (l5 : Int32) (h : Hp) (Q : Int32 → Hp → Prop) (K90 : Int32 → Int32 → Hp → Prop) (K144 : Int32 → Hp → Prop) : Prop :=
  br (4 ≤ l5) (
    lt (l3 + 1) fun x32 =>
    n_X11_best_198 l0 l1 l2 x32 l4 h Q K90) (
    oV h l0 12 <| w_X11_joined l0 l5 h <| fun v33 h =>
    oV h l0 12 <| w_X11_saidAt l0 v33 h <| fun v34 h =>
    gR h l0 12 1484 fun v35 =>
    ldI h v35 l3 fun v36 =>
    br (v34 ≤ v36) (
      n_X11_best_189 l0 l1 l2 l3 l4 l5 h Q K90 K144) (
      gR h l0 12 1484 fun v38 =>
      stI h v38 l3 v34 fun h =>
      gR h l0 12 1485 fun v39 =>
      stI h v39 l3 l5 fun h =>
      n_X11_best_189 l0 l1 l2 l3 l4 l5 h Q K90 K144))
def l_X11_best_144 (l0 : Option Nat) (l1 : Int32) (l2 : Int32) (l3 : Int32) (l4 : Int32) (l5 : Int32) (h : Hp) (Q : Int32 → Hp → Prop) (K90 : Int32 → Int32 → Hp → Prop) : Prop :=
  Lo (fun (K : Int32 → Hp → Prop) s h => b_X11_best_144 l0 l1 l2 l3 l4 s h Q K90 (fun l5 h => K (l5) h)) (l5) h
def b_X11_best_90 (l0 : Option Nat) (l1 : Int32) (l2 : Int32) (l3 : Int32) (l4 : Int32) (h : Hp) (Q : Int32 → Hp → Prop) (K90 : Int32 → Int32 → Hp → Prop) : Prop :=
  br (128 ≤ l4) (
    l_X11_best_213 l0 l2 l3 0 0 1 h Q) (
    oV h l0 12 <| w_X11_gathers l0 l1 l4 h <| fun v25 h =>
    br (v25 = 0) (
      n_X11_best_198 l0 l1 l2 l3 l4 h Q K90) (
      gR h l0 12 1486 fun v27 =>
      stI h v27 l3 l4 fun h =>
      gR h l0 12 1485 fun v28 =>
      stI h v28 l3 1 fun h =>
      gR h l0 12 1484 fun v29 =>
      oV h l0 12 <| w_X11_joined l0 1 h <| fun v30 h =>
      oV h l0 12 <| w_X11_saidAt l0 v30 h <| fun v31 h =>
      stI h v29 l3 v31 fun h =>
      l_X11_best_144 l0 l1 l2 l3 l4 2 h Q K90))
def l_X11_best_90 (l0 : Option Nat) (l1 : Int32) (l2 : Int32) (l3 : Int32) (l4 : Int32) (h : Hp) (Q : Int32 → Hp → Prop) : Prop :=
  Lo (fun (K : Int32 × Int32 → Hp → Prop) s h => b_X11_best_90 l0 l1 l2 s.1 s.2 h Q (fun l3 l4 h => K (l3, l4) h)) (l3, l4) h
def n_X11_best_66 (l0 : Option Nat) (l1 : Int32) (l2 : Int32) (l3 : Int32) (l4 : Int32) (h : Hp) (Q : Int32 → Hp → Prop) (K45 : Int32 → Int32 → Hp → Prop) : Prop :=
  lt (l4 + 1) fun x42 =>
  K45 l3 x42 h
def b_X11_best_45 (l0 : Option Nat) (l1 : Int32) (l2 : Int32) (l3 : Int32) (l4 : Int32) (h : Hp) (Q : Int32 → Hp → Prop) (K45 : Int32 → Int32 → Hp → Prop) : Prop :=
  br (128 ≤ l4) (
    br (l3 ≤ 10) (
      l_X11_best_90 l0 l1 l2 0 0 h Q) (
      oV h l0 12 <| w_X11_no l0 (-7) h <| fun v40 h =>
      Q v40 h)) (
    oV h l0 12 <| w_X11_gathers l0 l1 l4 h <| fun v41 h =>
    br (v41 ≤ 0) (
      n_X11_best_66 l0 l1 l2 l3 l4 h Q K45) (
      lt (l3 + 1) fun x43 =>
      n_X11_best_66 l0 l1 l2 x43 l4 h Q K45))
def l_X11_best_45 (l0 : Option Nat) (l1 : Int32) (l2 : Int32) (l3 : Int32) (l4 : Int32) (h : Hp) (Q : Int32 → Hp → Prop) : Prop :=
  Lo (fun (K : Int32 × Int32 → Hp → Prop) s h => b_X11_best_45 l0 l1 l2 s.1 s.2 h Q (fun l3 l4 h => K (l3, l4) h)) (l3, l4) h
def n_X11_best_0 (l0 : Option Nat) (l1 : Int32) (l2 : Int32) (h : Hp) (Q : Int32 → Hp → Prop) : Prop :=
  oV h l0 12 <| w_X11_isPlace l0 l1 h <| fun v1 h =>
  br (v1 = 0) (
    oV h l0 12 <| w_X11_no l0 (-1) h <| fun v2 h =>
    Q v2 h) (
    br (l2 < 0) (
      n_X11_best_33 l0 h Q) (
      br (12 < l2) (
        n_X11_best_33 l0 h Q) (
        gR h l0 12 1415 fun v4 =>
        ldI h v4 l1 fun v5 =>
        br (v5 = 0) (
          n_X11_best_33 l0 h Q) (
          l_X11_best_45 l0 l1 l2 0 0 h Q))))
def w_X11_best (l0 : Option Nat) (l1 : Int32) (l2 : Int32) (h : Hp) (Q : Int32 → Hp → Prop) : Prop := n_X11_best_0 l0 l1 l2 h Q
theorem s_X11_best_33 {l : Launch} {G : Gh} {l0 : Option Nat} {h : Hp} {Q : Int32 → Hp → Prop}  (hw : n_X11_best_33 l0 h Q) : V l G 3 yX11_best cX11_best 11 (some .int) 33 [(0, va_rf l0)] [] h (qI Q) := by
  unfold n_X11_best_33 at hw
  refine V_aload_n 0 rfl rfl dX11_best_33 ?_
  refine V_bipush (v := (-6)) (by decide) dX11_best_34 ?_
  refine X_cV 11 [.int (-6)] [] ma_X11_212 (by decide) rfl (by decide) (by decide) rfl (by simp [cat_i, cat_l, rf_cat]) rfl dX11_best_36 hw (r_X11_no _ _) (k_I (fun v3 h hw => ?_))
  exact V_iret rfl dX11_best_39 ⟨_, rfl, hw⟩
theorem s_X11_best_409 {l : Launch} {G : Gh} {l0 : Option Nat} {l3 : Int32} {l4 : Int32} {l5 : Int32} {l6 : Int32} {s0 : Int32} {s1 : Int32} {s2 : Option Nat} {h : Hp} {Q : Int32 → Hp → Prop} {K375 : Int32 → Hp → Prop} (hK375 : ∀ (l6 : Int32) (h : Hp), K375 l6 h → V l G 3 yX11_best cX11_best 11 (some .int) 375 [(0, va_rf l0), (3, .int l3), (4, .int l4), (5, .int l5), (6, .int l6)] [] h (qI Q)) (hw : n_X11_best_409 l0 l3 l4 l5 l6 s0 s1 s2 h Q K375) : V l G 3 yX11_best cX11_best 11 (some .int) 409 [(0, va_rf l0), (3, .int l3), (4, .int l4), (5, .int l5), (6, .int l6)] [.int s0, .int s1, va_rf s2] h (qI Q) := by
  unfold n_X11_best_409 at hw
  refine X_stI dX11_best_409 hw (fun h hw => ?_)
  refine V_iincL (n := 1) 4 (fun z => [(6, .int z), (0, va_rf l0), (3, .int l3), (4, .int l4), (5, .int l5)]) rfl (by rfl) (by decide) (fun _ => rfl) dX11_best_410 hw (fun x9 hw => ?_)
  refine V_goto (tgt := 375) dX11_best_413 (by decide) ?_
  exact V.sub [1, 2, 3, 4, 0] rfl (hK375 _ _ hw)
theorem sb_X11_best_375 {l : Launch} {G : Gh} {l0 : Option Nat} {l3 : Int32} {l4 : Int32} {l5 : Int32} {l6 : Int32} {h : Hp} {Q : Int32 → Hp → Prop} {K375 : Int32 → Hp → Prop} (hK375 : ∀ (l6 : Int32) (h : Hp), K375 l6 h → V l G 3 yX11_best cX11_best 11 (some .int) 375 [(0, va_rf l0), (3, .int l3), (4, .int l4), (5, .int l5), (6, .int l6)] [] h (qI Q)) (hw : b_X11_best_375 l0 l3 l4 l5 l6 h Q K375) : V l G 3 yX11_best cX11_best 11 (some .int) 375 [(0, va_rf l0), (3, .int l3), (4, .int l4), (5, .int l5), (6, .int l6)] [] h (qI Q) := by
  unfold b_X11_best_375 at hw
  refine V_iload 4 rfl dX11_best_375 ?_
  refine V_iload_n 1 rfl rfl dX11_best_377 ?_
  refine V_icmp_ge (tgt := 416) dX11_best_378 (by decide) hw (fun hw => ?_) (fun hw => ?_)
  · refine V_iload 3 rfl dX11_best_416 ?_
    exact V_iret rfl dX11_best_418 ⟨_, rfl, hw⟩
  · refine V_aload_n 0 rfl rfl dX11_best_381 ?_
    refine X_getR (c := 11) (k := 75) fa_X11_193 rfl dX11_best_382 hw (fun v6 hw => ?_)
    refine V_iload 4 rfl dX11_best_385 ?_
    refine V_iload 2 rfl dX11_best_387 ?_
    refine V_iload 4 rfl dX11_best_389 ?_
    refine V_ishr dX11_best_391 ?_
    refine V_iconst (v := 1) (by decide) dX11_best_392 ?_
    refine V_iand dX11_best_393 ?_
    refine V_iconst (v := 1) (by decide) dX11_best_394 ?_
    refine V_icmp_ne (tgt := 408) dX11_best_395 (by decide) hw (fun hw => ?_) (fun hw => ?_)
    · refine V_aload_n 0 rfl rfl dX11_best_398 ?_
      refine X_getR (c := 11) (k := 77) fa_X11_199 rfl dX11_best_399 hw (fun v7 hw => ?_)
      refine V_iload 4 rfl dX11_best_402 ?_
      refine X_ldI dX11_best_404 hw (fun v8 hw => ?_)
      refine V_goto (tgt := 409) dX11_best_405 (by decide) ?_
      exact V.sub [0, 1, 2, 3, 4] rfl (s_X11_best_409 hK375 hw)
    · refine V_iconst (v := 0) (by decide) dX11_best_408 ?_
      exact V.sub [0, 1, 2, 3, 4] rfl (s_X11_best_409 hK375 hw)
theorem s_X11_best_375 {l : Launch} {G : Gh} {l0 : Option Nat} {l3 : Int32} {l4 : Int32} {l5 : Int32} {l6 : Int32} {h : Hp} {Q : Int32 → Hp → Prop}  (hw : l_X11_best_375 l0 l3 l4 l5 l6 h Q) : V l G 3 yX11_best cX11_best 11 (some .int) 375 [(0, va_rf l0), (3, .int l3), (4, .int l4), (5, .int l5), (6, .int l6)] [] h (qI Q) :=
  Lo.ind (P := fun (s : Int32) h => V l G 3 yX11_best cX11_best 11 (some .int) 375 [(0, va_rf l0), (3, .int l3), (4, .int l4), (5, .int l5), (6, .int s)] [] h (qI Q)) (fun K ih s h hw => sb_X11_best_375 (fun l6 h hk => ih (l6) h hk) hw) hw
theorem s_X11_best_361 {l : Launch} {G : Gh} {l0 : Option Nat} {l2 : Int32} {l3 : Int32} {l4 : Int32} {l5 : Int32} {l6 : Int32} {h : Hp} {Q : Int32 → Hp → Prop} {K213 : Int32 → Int32 → Int32 → Hp → Prop} (hK213 : ∀ (l4 : Int32) (l5 : Int32) (l6 : Int32) (h : Hp), K213 l4 l5 l6 h → V l G 3 yX11_best cX11_best 11 (some .int) 213 [(0, va_rf l0), (2, .int l2), (3, .int l3), (4, .int l4), (5, .int l5), (6, .int l6)] [] h (qI Q)) (hw : n_X11_best_361 l0 l2 l3 l4 l5 l6 h Q K213) : V l G 3 yX11_best cX11_best 11 (some .int) 361 [(0, va_rf l0), (2, .int l2), (3, .int l3), (4, .int l4), (5, .int l5), (6, .int l6)] [] h (qI Q) := by
  unfold n_X11_best_361 at hw
  refine V_iincL (n := 1) 5 (fun z => [(6, .int z), (0, va_rf l0), (2, .int l2), (3, .int l3), (4, .int l4), (5, .int l5)]) rfl (by rfl) (by decide) (fun _ => rfl) dX11_best_361 hw (fun x11 hw => ?_)
  refine V_goto (tgt := 213) dX11_best_364 (by decide) ?_
  exact V.sub [1, 2, 3, 4, 5, 0] rfl (hK213 _ _ _ _ hw)
theorem s_X11_best_335 {l : Launch} {G : Gh} {l0 : Option Nat} {l2 : Int32} {l3 : Int32} {l4 : Int32} {l5 : Int32} {l6 : Int32} {l7 : Int32} {l8 : Int32} {l9 : Int32} {h : Hp} {Q : Int32 → Hp → Prop} {K213 : Int32 → Int32 → Int32 → Hp → Prop} {K242 : Int32 → Int32 → Int32 → Hp → Prop} (hK213 : ∀ (l4 : Int32) (l5 : Int32) (l6 : Int32) (h : Hp), K213 l4 l5 l6 h → V l G 3 yX11_best cX11_best 11 (some .int) 213 [(0, va_rf l0), (2, .int l2), (3, .int l3), (4, .int l4), (5, .int l5), (6, .int l6)] [] h (qI Q)) (hK242 : ∀ (l7 : Int32) (l8 : Int32) (l9 : Int32) (h : Hp), K242 l7 l8 l9 h → V l G 3 yX11_best cX11_best 11 (some .int) 242 [(0, va_rf l0), (2, .int l2), (3, .int l3), (4, .int l4), (5, .int l5), (6, .int l6), (7, .int l7), (8, .int l8), (9, .int l9)] [] h (qI Q)) (hw : n_X11_best_335 l0 l2 l3 l4 l5 l6 l7 l8 l9 h Q K213 K242) : V l G 3 yX11_best cX11_best 11 (some .int) 335 [(0, va_rf l0), (2, .int l2), (3, .int l3), (4, .int l4), (5, .int l5), (6, .int l6), (7, .int l7), (8, .int l8), (9, .int l9)] [] h (qI Q) := by
  unfold n_X11_best_335 at hw
  refine V_iincL (n := 1) 8 (fun z => [(9, .int z), (0, va_rf l0), (2, .int l2), (3, .int l3), (4, .int l4), (5, .int l5), (6, .int l6), (7, .int l7), (8, .int l8)]) rfl (by rfl) (by decide) (fun _ => rfl) dX11_best_335 hw (fun x12 hw => ?_)
  refine V_goto (tgt := 242) dX11_best_338 (by decide) ?_
  exact V.sub [1, 2, 3, 4, 5, 6, 7, 8, 0] rfl (hK242 _ _ _ _ hw)
theorem s_X11_best_329 {l : Launch} {G : Gh} {l0 : Option Nat} {l2 : Int32} {l3 : Int32} {l4 : Int32} {l5 : Int32} {l6 : Int32} {l7 : Int32} {l8 : Int32} {l9 : Int32} {l10 : Int32} {h : Hp} {Q : Int32 → Hp → Prop} {K213 : Int32 → Int32 → Int32 → Hp → Prop} {K242 : Int32 → Int32 → Int32 → Hp → Prop} {K276 : Int32 → Int32 → Hp → Prop} (hK213 : ∀ (l4 : Int32) (l5 : Int32) (l6 : Int32) (h : Hp), K213 l4 l5 l6 h → V l G 3 yX11_best cX11_best 11 (some .int) 213 [(0, va_rf l0), (2, .int l2), (3, .int l3), (4, .int l4), (5, .int l5), (6, .int l6)] [] h (qI Q)) (hK242 : ∀ (l7 : Int32) (l8 : Int32) (l9 : Int32) (h : Hp), K242 l7 l8 l9 h → V l G 3 yX11_best cX11_best 11 (some .int) 242 [(0, va_rf l0), (2, .int l2), (3, .int l3), (4, .int l4), (5, .int l5), (6, .int l6), (7, .int l7), (8, .int l8), (9, .int l9)] [] h (qI Q)) (hK276 : ∀ (l8 : Int32) (l10 : Int32) (h : Hp), K276 l8 l10 h → V l G 3 yX11_best cX11_best 11 (some .int) 276 [(0, va_rf l0), (2, .int l2), (3, .int l3), (4, .int l4), (5, .int l5), (6, .int l6), (7, .int l7), (8, .int l8), (9, .int l9), (10, .int l10)] [] h (qI Q)) (hw : n_X11_best_329 l0 l2 l3 l4 l5 l6 l7 l8 l9 l10 h Q K213 K242 K276) : V l G 3 yX11_best cX11_best 11 (some .int) 329 [(0, va_rf l0), (2, .int l2), (3, .int l3), (4, .int l4), (5, .int l5), (6, .int l6), (7, .int l7), (8, .int l8), (9, .int l9), (10, .int l10)] [] h (qI Q) := by
  unfold n_X11_best_329 at hw
  refine V_iincL (n := 1) 9 (fun z => [(10, .int z), (0, va_rf l0), (2, .int l2), (3, .int l3), (4, .int l4), (5, .int l5), (6, .int l6), (7, .int l7), (8, .int l8), (9, .int l9)]) rfl (by rfl) (by decide) (fun _ => rfl) dX11_best_329 hw (fun x24 hw => ?_)
  refine V_goto (tgt := 276) dX11_best_332 (by decide) ?_
  exact V.sub [1, 2, 3, 4, 5, 6, 7, 8, 9, 0] rfl (hK276 _ _ _ hw)
theorem sb_X11_best_276 {l : Launch} {G : Gh} {l0 : Option Nat} {l2 : Int32} {l3 : Int32} {l4 : Int32} {l5 : Int32} {l6 : Int32} {l7 : Int32} {l8 : Int32} {l9 : Int32} {l10 : Int32} {h : Hp} {Q : Int32 → Hp → Prop} {K213 : Int32 → Int32 → Int32 → Hp → Prop} {K242 : Int32 → Int32 → Int32 → Hp → Prop} {K276 : Int32 → Int32 → Hp → Prop} (hK213 : ∀ (l4 : Int32) (l5 : Int32) (l6 : Int32) (h : Hp), K213 l4 l5 l6 h → V l G 3 yX11_best cX11_best 11 (some .int) 213 [(0, va_rf l0), (2, .int l2), (3, .int l3), (4, .int l4), (5, .int l5), (6, .int l6)] [] h (qI Q)) (hK242 : ∀ (l7 : Int32) (l8 : Int32) (l9 : Int32) (h : Hp), K242 l7 l8 l9 h → V l G 3 yX11_best cX11_best 11 (some .int) 242 [(0, va_rf l0), (2, .int l2), (3, .int l3), (4, .int l4), (5, .int l5), (6, .int l6), (7, .int l7), (8, .int l8), (9, .int l9)] [] h (qI Q)) (hK276 : ∀ (l8 : Int32) (l10 : Int32) (h : Hp), K276 l8 l10 h → V l G 3 yX11_best cX11_best 11 (some .int) 276 [(0, va_rf l0), (2, .int l2), (3, .int l3), (4, .int l4), (5, .int l5), (6, .int l6), (7, .int l7), (8, .int l8), (9, .int l9), (10, .int l10)] [] h (qI Q)) (hw : b_X11_best_276 l0 l2 l3 l4 l5 l6 l7 l8 l9 l10 h Q K213 K242 K276) : V l G 3 yX11_best cX11_best 11 (some .int) 276 [(0, va_rf l0), (2, .int l2), (3, .int l3), (4, .int l4), (5, .int l5), (6, .int l6), (7, .int l7), (8, .int l8), (9, .int l9), (10, .int l10)] [] h (qI Q) := by
  unfold b_X11_best_276 at hw
  refine V_iload 9 rfl dX11_best_276 ?_
  refine V_iload 8 rfl dX11_best_278 ?_
  refine V_icmp_ge (tgt := 335) dX11_best_280 (by decide) hw (fun hw => ?_) (fun hw => ?_)
  · exact V.sub [0, 1, 2, 3, 4, 5, 6, 7, 8] rfl (s_X11_best_335 hK213 hK242 hw)
  · refine V_iload 5 rfl dX11_best_283 ?_
    refine V_iload 9 rfl dX11_best_285 ?_
    refine V_ishr dX11_best_287 ?_
    refine V_iconst (v := 1) (by decide) dX11_best_288 ?_
    refine V_iand dX11_best_289 ?_
    refine V_iconst (v := 1) (by decide) dX11_best_290 ?_
    refine V_icmp_ne (tgt := 329) dX11_best_291 (by decide) hw (fun hw => ?_) (fun hw => ?_)
    · refine V_aload_n 0 rfl rfl dX11_best_294 ?_
      refine X_getR (c := 11) (k := 56) fa_X11_166 rfl dX11_best_295 hw (fun v16 hw => ?_)
      refine V_bipush (v := 16) (by decide) dX11_best_298 ?_
      refine V_aload_n 0 rfl rfl dX11_best_300 ?_
      refine X_getR (c := 11) (k := 78) fa_X11_202 rfl dX11_best_301 hw (fun v17 hw => ?_)
      refine V_iload 8 rfl dX11_best_304 ?_
      refine X_ldI dX11_best_306 hw (fun v18 hw => ?_)
      refine V_bipush (v := 8) (by decide) dX11_best_307 ?_
      refine X_idiv dX11_best_309 hw (fun v19 hw => ?_)
      refine V_imul dX11_best_310 ?_
      refine V_aload_n 0 rfl rfl dX11_best_311 ?_
      refine X_getR (c := 11) (k := 78) fa_X11_202 rfl dX11_best_312 hw (fun v20 hw => ?_)
      refine V_iload 9 rfl dX11_best_315 ?_
      refine X_ldI dX11_best_317 hw (fun v21 hw => ?_)
      refine V_bipush (v := 8) (by decide) dX11_best_318 ?_
      refine X_idiv dX11_best_320 hw (fun v22 hw => ?_)
      refine V_iadd dX11_best_321 ?_
      refine X_ldZ dX11_best_322 hw (fun v23 hw => ?_)
      refine V_if_eq (tgt := 329) dX11_best_323 (by decide) hw (fun hw => ?_) (fun hw => ?_)
      · exact V.sub [0, 1, 2, 3, 4, 5, 6, 7, 8, 9] rfl (s_X11_best_329 hK213 hK242 hK276 hw)
      · refine V_iconst (v := 0) (by decide) dX11_best_326 ?_
        refine V_istore (i := 8) [(8, .int 0), (0, va_rf l0), (2, .int l2), (3, .int l3), (4, .int l4), (5, .int l5), (6, .int l6), (7, .int l7), (9, .int l9), (10, .int l10)] (by decide) rfl dX11_best_327 ?_
        exact V.sub [1, 2, 3, 4, 5, 6, 7, 0, 8, 9] rfl (s_X11_best_329 hK213 hK242 hK276 hw)
    · exact V.sub [0, 1, 2, 3, 4, 5, 6, 7, 8, 9] rfl (s_X11_best_329 hK213 hK242 hK276 hw)
theorem s_X11_best_276 {l : Launch} {G : Gh} {l0 : Option Nat} {l2 : Int32} {l3 : Int32} {l4 : Int32} {l5 : Int32} {l6 : Int32} {l7 : Int32} {l8 : Int32} {l9 : Int32} {l10 : Int32} {h : Hp} {Q : Int32 → Hp → Prop} {K213 : Int32 → Int32 → Int32 → Hp → Prop} {K242 : Int32 → Int32 → Int32 → Hp → Prop} (hK213 : ∀ (l4 : Int32) (l5 : Int32) (l6 : Int32) (h : Hp), K213 l4 l5 l6 h → V l G 3 yX11_best cX11_best 11 (some .int) 213 [(0, va_rf l0), (2, .int l2), (3, .int l3), (4, .int l4), (5, .int l5), (6, .int l6)] [] h (qI Q)) (hK242 : ∀ (l7 : Int32) (l8 : Int32) (l9 : Int32) (h : Hp), K242 l7 l8 l9 h → V l G 3 yX11_best cX11_best 11 (some .int) 242 [(0, va_rf l0), (2, .int l2), (3, .int l3), (4, .int l4), (5, .int l5), (6, .int l6), (7, .int l7), (8, .int l8), (9, .int l9)] [] h (qI Q)) (hw : l_X11_best_276 l0 l2 l3 l4 l5 l6 l7 l8 l9 l10 h Q K213 K242) : V l G 3 yX11_best cX11_best 11 (some .int) 276 [(0, va_rf l0), (2, .int l2), (3, .int l3), (4, .int l4), (5, .int l5), (6, .int l6), (7, .int l7), (8, .int l8), (9, .int l9), (10, .int l10)] [] h (qI Q) :=
  Lo.ind (P := fun (s : Int32 × Int32) h => V l G 3 yX11_best cX11_best 11 (some .int) 276 [(0, va_rf l0), (2, .int l2), (3, .int l3), (4, .int l4), (5, .int l5), (6, .int l6), (7, .int l7), (8, .int s.1), (9, .int l9), (10, .int s.2)] [] h (qI Q)) (fun K ih s h hw => sb_X11_best_276 hK213 hK242 (fun l8 l10 h hk => ih (l8, l10) h hk) hw) hw
theorem sb_X11_best_242 {l : Launch} {G : Gh} {l0 : Option Nat} {l2 : Int32} {l3 : Int32} {l4 : Int32} {l5 : Int32} {l6 : Int32} {l7 : Int32} {l8 : Int32} {l9 : Int32} {h : Hp} {Q : Int32 → Hp → Prop} {K213 : Int32 → Int32 → Int32 → Hp → Prop} {K242 : Int32 → Int32 → Int32 → Hp → Prop} (hK213 : ∀ (l4 : Int32) (l5 : Int32) (l6 : Int32) (h : Hp), K213 l4 l5 l6 h → V l G 3 yX11_best cX11_best 11 (some .int) 213 [(0, va_rf l0), (2, .int l2), (3, .int l3), (4, .int l4), (5, .int l5), (6, .int l6)] [] h (qI Q)) (hK242 : ∀ (l7 : Int32) (l8 : Int32) (l9 : Int32) (h : Hp), K242 l7 l8 l9 h → V l G 3 yX11_best cX11_best 11 (some .int) 242 [(0, va_rf l0), (2, .int l2), (3, .int l3), (4, .int l4), (5, .int l5), (6, .int l6), (7, .int l7), (8, .int l8), (9, .int l9)] [] h (qI Q)) (hw : b_X11_best_242 l0 l2 l3 l4 l5 l6 l7 l8 l9 h Q K213 K242) : V l G 3 yX11_best cX11_best 11 (some .int) 242 [(0, va_rf l0), (2, .int l2), (3, .int l3), (4, .int l4), (5, .int l5), (6, .int l6), (7, .int l7), (8, .int l8), (9, .int l9)] [] h (qI Q) := by
  unfold b_X11_best_242 at hw
  refine V_iload 8 rfl dX11_best_242 ?_
  refine V_iload_n 2 rfl rfl dX11_best_244 ?_
  refine V_icmp_ge (tgt := 341) dX11_best_245 (by decide) hw (fun hw => ?_) (fun hw => ?_)
  · refine V_iload 7 rfl dX11_best_341 ?_
    refine V_if_eq (tgt := 361) dX11_best_343 (by decide) hw (fun hw => ?_) (fun hw => ?_)
    · exact V.sub [0, 1, 2, 3, 4, 5] rfl (s_X11_best_361 hK213 hw)
    · refine V_iload 6 rfl dX11_best_346 ?_
      refine V_iload 4 rfl dX11_best_348 ?_
      refine V_icmp_le (tgt := 361) dX11_best_350 (by decide) hw (fun hw => ?_) (fun hw => ?_)
      · exact V.sub [0, 1, 2, 3, 4, 5] rfl (s_X11_best_361 hK213 hw)
      · refine V_iload 5 rfl dX11_best_353 ?_
        refine V_istore (i := 4) [(4, .int l6), (0, va_rf l0), (2, .int l2), (3, .int l3), (5, .int l5), (6, .int l6), (7, .int l7), (8, .int l8), (9, .int l9)] (by decide) rfl dX11_best_355 ?_
        refine V_iload 6 rfl dX11_best_357 ?_
        refine V_istore (i := 5) [(5, .int l7), (4, .int l6), (0, va_rf l0), (2, .int l2), (3, .int l3), (6, .int l6), (7, .int l7), (8, .int l8), (9, .int l9)] (by decide) rfl dX11_best_359 ?_
        exact V.sub [2, 3, 4, 1, 0, 5] rfl (s_X11_best_361 hK213 hw)
  · refine V_iload 5 rfl dX11_best_248 ?_
    refine V_iload 8 rfl dX11_best_250 ?_
    refine V_ishr dX11_best_252 ?_
    refine V_iconst (v := 1) (by decide) dX11_best_253 ?_
    refine V_iand dX11_best_254 ?_
    refine V_if_ne (tgt := 261) dX11_best_255 (by decide) hw (fun hw => ?_) (fun hw => ?_)
    · refine V_goto (tgt := 335) dX11_best_258 (by decide) ?_
      exact V.sub [0, 1, 2, 3, 4, 5, 6, 7, 8] rfl (s_X11_best_335 hK213 hK242 hw)
    · refine V_iload 6 rfl dX11_best_261 ?_
      refine V_aload_n 0 rfl rfl dX11_best_263 ?_
      refine X_getR (c := 11) (k := 76) fa_X11_196 rfl dX11_best_264 hw (fun v13 hw => ?_)
      refine V_iload 8 rfl dX11_best_267 ?_
      refine X_ldI dX11_best_269 hw (fun v14 hw => ?_)
      refine V_iadd dX11_best_270 ?_
      refine V_ltI hw (fun x15 hw => ?_)
      refine V_istore (i := 7) [(7, .int x15), (0, va_rf l0), (2, .int l2), (3, .int l3), (4, .int l4), (5, .int l5), (6, .int l6), (8, .int l8), (9, .int l9)] (by decide) rfl dX11_best_271 ?_
      refine V_iconst (v := 0) (by decide) dX11_best_273 ?_
      refine V_istore (i := 10) [(10, .int 0), (7, .int x15), (0, va_rf l0), (2, .int l2), (3, .int l3), (4, .int l4), (5, .int l5), (6, .int l6), (8, .int l8), (9, .int l9)] (by decide) rfl dX11_best_274 ?_
      exact V.sub [2, 3, 4, 5, 6, 7, 1, 8, 9, 0] rfl (s_X11_best_276 hK213 hK242 hw)
theorem s_X11_best_242 {l : Launch} {G : Gh} {l0 : Option Nat} {l2 : Int32} {l3 : Int32} {l4 : Int32} {l5 : Int32} {l6 : Int32} {l7 : Int32} {l8 : Int32} {l9 : Int32} {h : Hp} {Q : Int32 → Hp → Prop} {K213 : Int32 → Int32 → Int32 → Hp → Prop} (hK213 : ∀ (l4 : Int32) (l5 : Int32) (l6 : Int32) (h : Hp), K213 l4 l5 l6 h → V l G 3 yX11_best cX11_best 11 (some .int) 213 [(0, va_rf l0), (2, .int l2), (3, .int l3), (4, .int l4), (5, .int l5), (6, .int l6)] [] h (qI Q)) (hw : l_X11_best_242 l0 l2 l3 l4 l5 l6 l7 l8 l9 h Q K213) : V l G 3 yX11_best cX11_best 11 (some .int) 242 [(0, va_rf l0), (2, .int l2), (3, .int l3), (4, .int l4), (5, .int l5), (6, .int l6), (7, .int l7), (8, .int l8), (9, .int l9)] [] h (qI Q) :=
  Lo.ind (P := fun (s : Int32 × Int32 × Int32) h => V l G 3 yX11_best cX11_best 11 (some .int) 242 [(0, va_rf l0), (2, .int l2), (3, .int l3), (4, .int l4), (5, .int l5), (6, .int l6), (7, .int s.1), (8, .int s.2.1), (9, .int s.2.2)] [] h (qI Q)) (fun K ih s h hw => sb_X11_best_242 hK213 (fun l7 l8 l9 h hk => ih (l7, l8, l9) h hk) hw) hw
theorem sb_X11_best_213 {l : Launch} {G : Gh} {l0 : Option Nat} {l2 : Int32} {l3 : Int32} {l4 : Int32} {l5 : Int32} {l6 : Int32} {h : Hp} {Q : Int32 → Hp → Prop} {K213 : Int32 → Int32 → Int32 → Hp → Prop} (hK213 : ∀ (l4 : Int32) (l5 : Int32) (l6 : Int32) (h : Hp), K213 l4 l5 l6 h → V l G 3 yX11_best cX11_best 11 (some .int) 213 [(0, va_rf l0), (2, .int l2), (3, .int l3), (4, .int l4), (5, .int l5), (6, .int l6)] [] h (qI Q)) (hw : b_X11_best_213 l0 l2 l3 l4 l5 l6 h Q K213) : V l G 3 yX11_best cX11_best 11 (some .int) 213 [(0, va_rf l0), (2, .int l2), (3, .int l3), (4, .int l4), (5, .int l5), (6, .int l6)] [] h (qI Q) := by
  unfold b_X11_best_213 at hw
  refine V_iload 5 rfl dX11_best_213 ?_
  refine V_iconst (v := 1) (by decide) dX11_best_215 ?_
  refine V_iload_n 2 rfl rfl dX11_best_216 ?_
  refine V_ishl dX11_best_217 ?_
  refine V_icmp_ge (tgt := 367) dX11_best_218 (by decide) hw (fun hw => ?_) (fun hw => ?_)
  · refine V_aload_n 0 rfl rfl dX11_best_367 ?_
    refine V_iload_n 2 rfl rfl dX11_best_368 ?_
    refine X_putI (c := 11) (k := 74) fa_X11_190 (Or.inl rfl) rfl dX11_best_369 hw (fun h hw => ?_)
    refine V_iconst (v := 0) (by decide) dX11_best_372 ?_
    refine V_istore (i := 6) [(6, .int 0), (0, va_rf l0), (2, .int l2), (3, .int l3), (4, .int l4), (5, .int l5)] (by decide) rfl dX11_best_373 ?_
    exact V.sub [1, 3, 4, 5, 0] rfl (s_X11_best_375 hw)
  · refine V_iload 5 rfl dX11_best_221 ?_
    refine X_cS [.int l6] [] ma_X11_376 (by decide) (by decide) rfl (by simp [cat_i, cat_l, rf_cat]) rfl dX11_best_223 (r_X11_bits _ hw) (k_I (fun v10 h hw => ?_))
    refine V_iload_n 1 rfl rfl dX11_best_226 ?_
    refine V_icmp_le (tgt := 233) dX11_best_227 (by decide) hw (fun hw => ?_) (fun hw => ?_)
    · refine V_iconst (v := 0) (by decide) dX11_best_233 ?_
      refine V_istore (i := 7) [(7, .int 0), (0, va_rf l0), (2, .int l2), (3, .int l3), (4, .int l4), (5, .int l5), (6, .int l6)] (by decide) rfl dX11_best_234 ?_
      refine V_iconst (v := 1) (by decide) dX11_best_236 ?_
      refine V_istore (i := 8) [(8, .int 1), (7, .int 0), (0, va_rf l0), (2, .int l2), (3, .int l3), (4, .int l4), (5, .int l5), (6, .int l6)] (by decide) rfl dX11_best_237 ?_
      refine V_iconst (v := 0) (by decide) dX11_best_239 ?_
      refine V_istore (i := 9) [(9, .int 0), (8, .int 1), (7, .int 0), (0, va_rf l0), (2, .int l2), (3, .int l3), (4, .int l4), (5, .int l5), (6, .int l6)] (by decide) rfl dX11_best_240 ?_
      exact V.sub [3, 4, 5, 6, 7, 8, 2, 1, 0] rfl (s_X11_best_242 hK213 hw)
    · refine V_goto (tgt := 361) dX11_best_230 (by decide) ?_
      exact V.sub [0, 1, 2, 3, 4, 5] rfl (s_X11_best_361 hK213 hw)
theorem s_X11_best_213 {l : Launch} {G : Gh} {l0 : Option Nat} {l2 : Int32} {l3 : Int32} {l4 : Int32} {l5 : Int32} {l6 : Int32} {h : Hp} {Q : Int32 → Hp → Prop}  (hw : l_X11_best_213 l0 l2 l3 l4 l5 l6 h Q) : V l G 3 yX11_best cX11_best 11 (some .int) 213 [(0, va_rf l0), (2, .int l2), (3, .int l3), (4, .int l4), (5, .int l5), (6, .int l6)] [] h (qI Q) :=
  Lo.ind (P := fun (s : Int32 × Int32 × Int32) h => V l G 3 yX11_best cX11_best 11 (some .int) 213 [(0, va_rf l0), (2, .int l2), (3, .int l3), (4, .int s.1), (5, .int s.2.1), (6, .int s.2.2)] [] h (qI Q)) (fun K ih s h hw => sb_X11_best_213 (fun l4 l5 l6 h hk => ih (l4, l5, l6) h hk) hw) hw
theorem s_X11_best_198 {l : Launch} {G : Gh} {l0 : Option Nat} {l1 : Int32} {l2 : Int32} {l3 : Int32} {l4 : Int32} {h : Hp} {Q : Int32 → Hp → Prop} {K90 : Int32 → Int32 → Hp → Prop} (hK90 : ∀ (l3 : Int32) (l4 : Int32) (h : Hp), K90 l3 l4 h → V l G 3 yX11_best cX11_best 11 (some .int) 90 [(0, va_rf l0), (1, .int l1), (2, .int l2), (3, .int l3), (4, .int l4)] [] h (qI Q)) (hw : n_X11_best_198 l0 l1 l2 l3 l4 h Q K90) : V l G 3 yX11_best cX11_best 11 (some .int) 198 [(0, va_rf l0), (1, .int l1), (2, .int l2), (3, .int l3), (4, .int l4)] [] h (qI Q) := by
  unfold n_X11_best_198 at hw
  refine V_iincL (n := 1) 4 (fun z => [(4, .int z), (0, va_rf l0), (1, .int l1), (2, .int l2), (3, .int l3)]) rfl (by rfl) (by decide) (fun _ => rfl) dX11_best_198 hw (fun x26 hw => ?_)
  refine V_goto (tgt := 90) dX11_best_201 (by decide) ?_
  exact V.sub [1, 2, 3, 4, 0] rfl (hK90 _ _ _ hw)
theorem s_X11_best_189 {l : Launch} {G : Gh} {l0 : Option Nat} {l1 : Int32} {l2 : Int32} {l3 : Int32} {l4 : Int32} {l5 : Int32} {h : Hp} {Q : Int32 → Hp → Prop} {K90 : Int32 → Int32 → Hp → Prop} {K144 : Int32 → Hp → Prop} (hK90 : ∀ (l3 : Int32) (l4 : Int32) (h : Hp), K90 l3 l4 h → V l G 3 yX11_best cX11_best 11 (some .int) 90 [(0, va_rf l0), (1, .int l1), (2, .int l2), (3, .int l3), (4, .int l4)] [] h (qI Q)) (hK144 : ∀ (l5 : Int32) (h : Hp), K144 l5 h → V l G 3 yX11_best cX11_best 11 (some .int) 144 [(0, va_rf l0), (1, .int l1), (2, .int l2), (3, .int l3), (4, .int l4), (5, .int l5)] [] h (qI Q)) (hw : n_X11_best_189 l0 l1 l2 l3 l4 l5 h Q K90 K144) : V l G 3 yX11_best cX11_best 11 (some .int) 189 [(0, va_rf l0), (1, .int l1), (2, .int l2), (3, .int l3), (4, .int l4), (5, .int l5)] [] h (qI Q) := by
  unfold n_X11_best_189 at hw
  refine V_iincL (n := 1) 5 (fun z => [(5, .int z), (0, va_rf l0), (1, .int l1), (2, .int l2), (3, .int l3), (4, .int l4)]) rfl (by rfl) (by decide) (fun _ => rfl) dX11_best_189 hw (fun x37 hw => ?_)
  refine V_goto (tgt := 144) dX11_best_192 (by decide) ?_
  exact V.sub [1, 2, 3, 4, 5, 0] rfl (hK144 _ _ hw)
theorem sb_X11_best_144 {l : Launch} {G : Gh} {l0 : Option Nat} {l1 : Int32} {l2 : Int32} {l3 : Int32} {l4 : Int32} {l5 : Int32} {h : Hp} {Q : Int32 → Hp → Prop} {K90 : Int32 → Int32 → Hp → Prop} {K144 : Int32 → Hp → Prop} (hK90 : ∀ (l3 : Int32) (l4 : Int32) (h : Hp), K90 l3 l4 h → V l G 3 yX11_best cX11_best 11 (some .int) 90 [(0, va_rf l0), (1, .int l1), (2, .int l2), (3, .int l3), (4, .int l4)] [] h (qI Q)) (hK144 : ∀ (l5 : Int32) (h : Hp), K144 l5 h → V l G 3 yX11_best cX11_best 11 (some .int) 144 [(0, va_rf l0), (1, .int l1), (2, .int l2), (3, .int l3), (4, .int l4), (5, .int l5)] [] h (qI Q)) (hw : b_X11_best_144 l0 l1 l2 l3 l4 l5 h Q K90 K144) : V l G 3 yX11_best cX11_best 11 (some .int) 144 [(0, va_rf l0), (1, .int l1), (2, .int l2), (3, .int l3), (4, .int l4), (5, .int l5)] [] h (qI Q) := by
  unfold b_X11_best_144 at hw
  refine V_iload 5 rfl dX11_best_144 ?_
  refine V_iconst (v := 4) (by decide) dX11_best_146 ?_
  refine V_icmp_ge (tgt := 195) dX11_best_147 (by decide) hw (fun hw => ?_) (fun hw => ?_)
  · refine V_iincL (n := 1) 3 (fun z => [(3, .int z), (0, va_rf l0), (1, .int l1), (2, .int l2), (4, .int l4), (5, .int l5)]) rfl (by rfl) (by decide) (fun _ => rfl) dX11_best_195 hw (fun x32 hw => ?_)
    exact V.sub [1, 2, 3, 0, 4] rfl (s_X11_best_198 hK90 hw)
  · refine V_aload_n 0 rfl rfl dX11_best_150 ?_
    refine V_aload_n 0 rfl rfl dX11_best_151 ?_
    refine V_iload 5 rfl dX11_best_152 ?_
    refine X_cV 11 [.int l5] [va_rf l0] ma_X11_344 (by decide) rfl (by decide) (by decide) rfl (by simp [cat_i, cat_l, rf_cat]) rfl dX11_best_154 hw (r_X11_joined _ _) (k_I (fun v33 h hw => ?_))
    refine X_cV 11 [.int v33] [] ma_X11_379 (by decide) rfl (by decide) (by decide) rfl (by simp [cat_i, cat_l, rf_cat]) rfl dX11_best_157 hw (r_X11_saidAt _ _) (k_I (fun v34 h hw => ?_))
    refine V_istore (i := 6) [(6, .int v34), (0, va_rf l0), (1, .int l1), (2, .int l2), (3, .int l3), (4, .int l4), (5, .int l5)] (by decide) rfl dX11_best_160 ?_
    refine V_iload 0 rfl dX11_best_162 ?_
    refine V_aload_n 1 rfl rfl dX11_best_164 ?_
    refine X_getR (c := 11) (k := 76) fa_X11_196 rfl dX11_best_165 hw (fun v35 hw => ?_)
    refine V_iload_n 4 rfl rfl dX11_best_168 ?_
    refine X_ldI dX11_best_169 hw (fun v36 hw => ?_)
    refine V_icmp_le (tgt := 189) dX11_best_170 (by decide) hw (fun hw => ?_) (fun hw => ?_)
    · exact V.sub [1, 2, 3, 4, 5, 6] rfl (s_X11_best_189 hK90 hK144 hw)
    · refine V_aload_n 1 rfl rfl dX11_best_173 ?_
      refine X_getR (c := 11) (k := 76) fa_X11_196 rfl dX11_best_174 hw (fun v38 hw => ?_)
      refine V_iload_n 4 rfl rfl dX11_best_177 ?_
      refine V_iload 0 rfl dX11_best_178 ?_
      refine X_stI dX11_best_180 hw (fun h hw => ?_)
      refine V_aload_n 1 rfl rfl dX11_best_181 ?_
      refine X_getR (c := 11) (k := 77) fa_X11_199 rfl dX11_best_182 hw (fun v39 hw => ?_)
      refine V_iload_n 4 rfl rfl dX11_best_185 ?_
      refine V_iload 6 rfl dX11_best_186 ?_
      refine X_stI dX11_best_188 hw (fun h hw => ?_)
      exact V.sub [1, 2, 3, 4, 5, 6] rfl (s_X11_best_189 hK90 hK144 hw)
theorem s_X11_best_144 {l : Launch} {G : Gh} {l0 : Option Nat} {l1 : Int32} {l2 : Int32} {l3 : Int32} {l4 : Int32} {l5 : Int32} {h : Hp} {Q : Int32 → Hp → Prop} {K90 : Int32 → Int32 → Hp → Prop} (hK90 : ∀ (l3 : Int32) (l4 : Int32) (h : Hp), K90 l3 l4 h → V l G 3 yX11_best cX11_best 11 (some .int) 90 [(0, va_rf l0), (1, .int l1), (2, .int l2), (3, .int l3), (4, .int l4)] [] h (qI Q)) (hw : l_X11_best_144 l0 l1 l2 l3 l4 l5 h Q K90) : V l G 3 yX11_best cX11_best 11 (some .int) 144 [(0, va_rf l0), (1, .int l1), (2, .int l2), (3, .int l3), (4, .int l4), (5, .int l5)] [] h (qI Q) :=
  Lo.ind (P := fun (s : Int32) h => V l G 3 yX11_best cX11_best 11 (some .int) 144 [(0, va_rf l0), (1, .int l1), (2, .int l2), (3, .int l3), (4, .int l4), (5, .int s)] [] h (qI Q)) (fun K ih s h hw => sb_X11_best_144 hK90 (fun l5 h hk => ih (l5) h hk) hw) hw
theorem sb_X11_best_90 {l : Launch} {G : Gh} {l0 : Option Nat} {l1 : Int32} {l2 : Int32} {l3 : Int32} {l4 : Int32} {h : Hp} {Q : Int32 → Hp → Prop} {K90 : Int32 → Int32 → Hp → Prop} (hK90 : ∀ (l3 : Int32) (l4 : Int32) (h : Hp), K90 l3 l4 h → V l G 3 yX11_best cX11_best 11 (some .int) 90 [(0, va_rf l0), (1, .int l1), (2, .int l2), (3, .int l3), (4, .int l4)] [] h (qI Q)) (hw : b_X11_best_90 l0 l1 l2 l3 l4 h Q K90) : V l G 3 yX11_best cX11_best 11 (some .int) 90 [(0, va_rf l0), (1, .int l1), (2, .int l2), (3, .int l3), (4, .int l4)] [] h (qI Q) := by
  unfold b_X11_best_90 at hw
  refine V_iload 4 rfl dX11_best_90 ?_
  refine V_sipush (v := 128) (by decide) dX11_best_92 ?_
  refine V_icmp_ge (tgt := 204) dX11_best_95 (by decide) hw (fun hw => ?_) (fun hw => ?_)
  · refine V_iconst (v := 0) (by decide) dX11_best_204 ?_
    refine V_istore (i := 4) [(4, .int 0), (0, va_rf l0), (1, .int l1), (2, .int l2), (3, .int l3)] (by decide) rfl dX11_best_205 ?_
    refine V_iconst (v := 0) (by decide) dX11_best_207 ?_
    refine V_istore (i := 5) [(5, .int 0), (4, .int 0), (0, va_rf l0), (1, .int l1), (2, .int l2), (3, .int l3)] (by decide) rfl dX11_best_208 ?_
    refine V_iconst (v := 1) (by decide) dX11_best_210 ?_
    refine V_istore (i := 6) [(6, .int 1), (5, .int 0), (4, .int 0), (0, va_rf l0), (1, .int l1), (2, .int l2), (3, .int l3)] (by decide) rfl dX11_best_211 ?_
    exact V.sub [3, 5, 6, 2, 1, 0] rfl (s_X11_best_213 hw)
  · refine V_aload_n 0 rfl rfl dX11_best_98 ?_
    refine V_iload_n 1 rfl rfl dX11_best_99 ?_
    refine V_iload 4 rfl dX11_best_100 ?_
    refine X_cV 11 [.int l1, .int l4] [] ma_X11_354 (by decide) rfl (by decide) (by decide) rfl (by simp [cat_i, cat_l, rf_cat]) rfl dX11_best_102 hw (r_X11_gathers _ _ _) (k_I (fun v25 h hw => ?_))
    refine V_if_ne (tgt := 111) dX11_best_105 (by decide) hw (fun hw => ?_) (fun hw => ?_)
    · refine V_goto (tgt := 198) dX11_best_108 (by decide) ?_
      exact V.sub [0, 1, 2, 3, 4] rfl (s_X11_best_198 hK90 hw)
    · refine V_aload_n 0 rfl rfl dX11_best_111 ?_
      refine X_getR (c := 11) (k := 78) fa_X11_202 rfl dX11_best_112 hw (fun v27 hw => ?_)
      refine V_iload_n 3 rfl rfl dX11_best_115 ?_
      refine V_iload 4 rfl dX11_best_116 ?_
      refine X_stI dX11_best_118 hw (fun h hw => ?_)
      refine V_aload_n 0 rfl rfl dX11_best_119 ?_
      refine X_getR (c := 11) (k := 77) fa_X11_199 rfl dX11_best_120 hw (fun v28 hw => ?_)
      refine V_iload_n 3 rfl rfl dX11_best_123 ?_
      refine V_iconst (v := 1) (by decide) dX11_best_124 ?_
      refine X_stI dX11_best_125 hw (fun h hw => ?_)
      refine V_aload_n 0 rfl rfl dX11_best_126 ?_
      refine X_getR (c := 11) (k := 76) fa_X11_196 rfl dX11_best_127 hw (fun v29 hw => ?_)
      refine V_iload_n 3 rfl rfl dX11_best_130 ?_
      refine V_aload_n 0 rfl rfl dX11_best_131 ?_
      refine V_aload_n 0 rfl rfl dX11_best_132 ?_
      refine V_iconst (v := 1) (by decide) dX11_best_133 ?_
      refine X_cV 11 [.int 1] [va_rf l0, .int l3, va_rf v29] ma_X11_344 (by decide) rfl (by decide) (by decide) rfl (by simp [cat_i, cat_l, rf_cat]) rfl dX11_best_134 hw (r_X11_joined _ _) (k_I (fun v30 h hw => ?_))
      refine X_cV 11 [.int v30] [.int l3, va_rf v29] ma_X11_379 (by decide) rfl (by decide) (by decide) rfl (by simp [cat_i, cat_l, rf_cat]) rfl dX11_best_137 hw (r_X11_saidAt _ _) (k_I (fun v31 h hw => ?_))
      refine X_stI dX11_best_140 hw (fun h hw => ?_)
      refine V_iconst (v := 2) (by decide) dX11_best_141 ?_
      refine V_istore (i := 5) [(5, .int 2), (0, va_rf l0), (1, .int l1), (2, .int l2), (3, .int l3), (4, .int l4)] (by decide) rfl dX11_best_142 ?_
      exact V.sub [1, 2, 3, 4, 5, 0] rfl (s_X11_best_144 hK90 hw)
theorem s_X11_best_90 {l : Launch} {G : Gh} {l0 : Option Nat} {l1 : Int32} {l2 : Int32} {l3 : Int32} {l4 : Int32} {h : Hp} {Q : Int32 → Hp → Prop}  (hw : l_X11_best_90 l0 l1 l2 l3 l4 h Q) : V l G 3 yX11_best cX11_best 11 (some .int) 90 [(0, va_rf l0), (1, .int l1), (2, .int l2), (3, .int l3), (4, .int l4)] [] h (qI Q) :=
  Lo.ind (P := fun (s : Int32 × Int32) h => V l G 3 yX11_best cX11_best 11 (some .int) 90 [(0, va_rf l0), (1, .int l1), (2, .int l2), (3, .int s.1), (4, .int s.2)] [] h (qI Q)) (fun K ih s h hw => sb_X11_best_90 (fun l3 l4 h hk => ih (l3, l4) h hk) hw) hw
theorem s_X11_best_66 {l : Launch} {G : Gh} {l0 : Option Nat} {l1 : Int32} {l2 : Int32} {l3 : Int32} {l4 : Int32} {h : Hp} {Q : Int32 → Hp → Prop} {K45 : Int32 → Int32 → Hp → Prop} (hK45 : ∀ (l3 : Int32) (l4 : Int32) (h : Hp), K45 l3 l4 h → V l G 3 yX11_best cX11_best 11 (some .int) 45 [(0, va_rf l0), (1, .int l1), (2, .int l2), (3, .int l3), (4, .int l4)] [] h (qI Q)) (hw : n_X11_best_66 l0 l1 l2 l3 l4 h Q K45) : V l G 3 yX11_best cX11_best 11 (some .int) 66 [(0, va_rf l0), (1, .int l1), (2, .int l2), (3, .int l3), (4, .int l4)] [] h (qI Q) := by
  unfold n_X11_best_66 at hw
  refine V_iincL (n := 1) 4 (fun z => [(4, .int z), (0, va_rf l0), (1, .int l1), (2, .int l2), (3, .int l3)]) rfl (by rfl) (by decide) (fun _ => rfl) dX11_best_66 hw (fun x42 hw => ?_)
  refine V_goto (tgt := 45) dX11_best_69 (by decide) ?_
  exact V.sub [1, 2, 3, 4, 0] rfl (hK45 _ _ _ hw)
theorem sb_X11_best_45 {l : Launch} {G : Gh} {l0 : Option Nat} {l1 : Int32} {l2 : Int32} {l3 : Int32} {l4 : Int32} {h : Hp} {Q : Int32 → Hp → Prop} {K45 : Int32 → Int32 → Hp → Prop} (hK45 : ∀ (l3 : Int32) (l4 : Int32) (h : Hp), K45 l3 l4 h → V l G 3 yX11_best cX11_best 11 (some .int) 45 [(0, va_rf l0), (1, .int l1), (2, .int l2), (3, .int l3), (4, .int l4)] [] h (qI Q)) (hw : b_X11_best_45 l0 l1 l2 l3 l4 h Q K45) : V l G 3 yX11_best cX11_best 11 (some .int) 45 [(0, va_rf l0), (1, .int l1), (2, .int l2), (3, .int l3), (4, .int l4)] [] h (qI Q) := by
  unfold b_X11_best_45 at hw
  refine V_iload 4 rfl dX11_best_45 ?_
  refine V_sipush (v := 128) (by decide) dX11_best_47 ?_
  refine V_icmp_ge (tgt := 72) dX11_best_50 (by decide) hw (fun hw => ?_) (fun hw => ?_)
  · refine V_iload_n 3 rfl rfl dX11_best_72 ?_
    refine V_bipush (v := 10) (by decide) dX11_best_73 ?_
    refine V_icmp_le (tgt := 85) dX11_best_75 (by decide) hw (fun hw => ?_) (fun hw => ?_)
    · refine V_iconst (v := 0) (by decide) dX11_best_85 ?_
      refine V_istore_n (i := 3) [(3, .int 0), (0, va_rf l0), (1, .int l1), (2, .int l2), (4, .int l4)] rfl (by decide) rfl dX11_best_86 ?_
      refine V_iconst (v := 0) (by decide) dX11_best_87 ?_
      refine V_istore (i := 4) [(4, .int 0), (3, .int 0), (0, va_rf l0), (1, .int l1), (2, .int l2)] (by decide) rfl dX11_best_88 ?_
      exact V.sub [2, 3, 4, 1, 0] rfl (s_X11_best_90 hw)
    · refine V_aload_n 0 rfl rfl dX11_best_78 ?_
      refine V_bipush (v := (-7)) (by decide) dX11_best_79 ?_
      refine X_cV 11 [.int (-7)] [] ma_X11_212 (by decide) rfl (by decide) (by decide) rfl (by simp [cat_i, cat_l, rf_cat]) rfl dX11_best_81 hw (r_X11_no _ _) (k_I (fun v40 h hw => ?_))
      exact V_iret rfl dX11_best_84 ⟨_, rfl, hw⟩
  · refine V_aload_n 0 rfl rfl dX11_best_53 ?_
    refine V_iload_n 1 rfl rfl dX11_best_54 ?_
    refine V_iload 4 rfl dX11_best_55 ?_
    refine X_cV 11 [.int l1, .int l4] [] ma_X11_354 (by decide) rfl (by decide) (by decide) rfl (by simp [cat_i, cat_l, rf_cat]) rfl dX11_best_57 hw (r_X11_gathers _ _ _) (k_I (fun v41 h hw => ?_))
    refine V_if_le (tgt := 66) dX11_best_60 (by decide) hw (fun hw => ?_) (fun hw => ?_)
    · exact V.sub [0, 1, 2, 3, 4] rfl (s_X11_best_66 hK45 hw)
    · refine V_iincL (n := 1) 3 (fun z => [(3, .int z), (0, va_rf l0), (1, .int l1), (2, .int l2), (4, .int l4)]) rfl (by rfl) (by decide) (fun _ => rfl) dX11_best_63 hw (fun x43 hw => ?_)
      exact V.sub [1, 2, 3, 0, 4] rfl (s_X11_best_66 hK45 hw)
theorem s_X11_best_45 {l : Launch} {G : Gh} {l0 : Option Nat} {l1 : Int32} {l2 : Int32} {l3 : Int32} {l4 : Int32} {h : Hp} {Q : Int32 → Hp → Prop}  (hw : l_X11_best_45 l0 l1 l2 l3 l4 h Q) : V l G 3 yX11_best cX11_best 11 (some .int) 45 [(0, va_rf l0), (1, .int l1), (2, .int l2), (3, .int l3), (4, .int l4)] [] h (qI Q) :=
  Lo.ind (P := fun (s : Int32 × Int32) h => V l G 3 yX11_best cX11_best 11 (some .int) 45 [(0, va_rf l0), (1, .int l1), (2, .int l2), (3, .int s.1), (4, .int s.2)] [] h (qI Q)) (fun K ih s h hw => sb_X11_best_45 (fun l3 l4 h hk => ih (l3, l4) h hk) hw) hw
theorem s_X11_best_0 {l : Launch} {G : Gh} {l0 : Option Nat} {l1 : Int32} {l2 : Int32} {h : Hp} {Q : Int32 → Hp → Prop}  (hw : n_X11_best_0 l0 l1 l2 h Q) : V l G 3 yX11_best cX11_best 11 (some .int) 0 [(0, va_rf l0), (1, .int l1), (2, .int l2)] [] h (qI Q) := by
  unfold n_X11_best_0 at hw
  refine V_aload_n 0 rfl rfl dX11_best_0 ?_
  refine V_iload_n 1 rfl rfl dX11_best_1 ?_
  refine X_cV 11 [.int l1] [] ma_X11_208 (by decide) rfl (by decide) (by decide) rfl (by simp [cat_i, cat_l, rf_cat]) rfl dX11_best_2 hw (r_X11_isPlace _ _) (k_I (fun v1 h hw => ?_))
  refine V_if_ne (tgt := 14) dX11_best_5 (by decide) hw (fun hw => ?_) (fun hw => ?_)
  · refine V_aload_n 0 rfl rfl dX11_best_8 ?_
    refine V_iconst (v := (-1)) (by decide) dX11_best_9 ?_
    refine X_cV 11 [.int (-1)] [] ma_X11_212 (by decide) rfl (by decide) (by decide) rfl (by simp [cat_i, cat_l, rf_cat]) rfl dX11_best_10 hw (r_X11_no _ _) (k_I (fun v2 h hw => ?_))
    exact V_iret rfl dX11_best_13 ⟨_, rfl, hw⟩
  · refine V_iload_n 2 rfl rfl dX11_best_14 ?_
    refine V_if_lt (tgt := 33) dX11_best_15 (by decide) hw (fun hw => ?_) (fun hw => ?_)
    · exact V.sub [0] rfl (s_X11_best_33 hw)
    · refine V_iload_n 2 rfl rfl dX11_best_18 ?_
      refine V_bipush (v := 12) (by decide) dX11_best_19 ?_
      refine V_icmp_gt (tgt := 33) dX11_best_21 (by decide) hw (fun hw => ?_) (fun hw => ?_)
      · exact V.sub [0] rfl (s_X11_best_33 hw)
      · refine V_aload_n 0 rfl rfl dX11_best_24 ?_
        refine X_getR (c := 11) (k := 7) fa_X11_16 rfl dX11_best_25 hw (fun v4 hw => ?_)
        refine V_iload_n 1 rfl rfl dX11_best_28 ?_
        refine X_ldI dX11_best_29 hw (fun v5 hw => ?_)
        refine V_if_ne (tgt := 40) dX11_best_30 (by decide) hw (fun hw => ?_) (fun hw => ?_)
        · exact V.sub [0] rfl (s_X11_best_33 hw)
        · refine V_iconst (v := 0) (by decide) dX11_best_40 ?_
          refine V_istore_n (i := 3) [(3, .int 0), (0, va_rf l0), (1, .int l1), (2, .int l2)] rfl (by decide) rfl dX11_best_41 ?_
          refine V_iconst (v := 0) (by decide) dX11_best_42 ?_
          refine V_istore (i := 4) [(4, .int 0), (3, .int 0), (0, va_rf l0), (1, .int l1), (2, .int l2)] (by decide) rfl dX11_best_43 ?_
          exact V.sub [2, 3, 4, 1, 0] rfl (s_X11_best_45 hw)
theorem r_X11_best {l : Launch} {G : Gh} (l0 : Option Nat) (l1 : Int32) (l2 : Int32) {h : Hp} {Q : Int32 → Hp → Prop} (hw : w_X11_best l0 l1 l2 h Q) : RunQ l G 3 yX11_best cX11_best 11 (some .int) [va_rf l0, .int l1, .int l2] h (qI Q) :=
  V_run rfl (sl_len _ _ (by simp [cat_i, cat_l, rf_cat])) (V.sub [0, 1, 2] (by simp only [la_r, la_i, la_l, la_n]; rfl) (s_X11_best_0 hw))
def n_X11_bestOf_22 (s0 : Int32) (h : Hp) (Q : Int32 → Hp → Prop) : Prop :=
  Q s0 h
def n_X11_bestOf_21 (h : Hp) (Q : Int32 → Hp → Prop) : Prop :=
  n_X11_bestOf_22 (-1) h Q
def n_X11_bestOf_0 (l0 : Option Nat) (l1 : Int32) (h : Hp) (Q : Int32 → Hp → Prop) : Prop :=
  br (l1 < 0) (
    n_X11_bestOf_21 h Q) (
    gI h l0 12 1482 fun v1 =>
    br (v1 ≤ l1) (
      n_X11_bestOf_21 h Q) (
      gR h l0 12 1483 fun v2 =>
      ldI h v2 l1 fun v3 =>
      n_X11_bestOf_22 v3 h Q))
def w_X11_bestOf (l0 : Option Nat) (l1 : Int32) (h : Hp) (Q : Int32 → Hp → Prop) : Prop := n_X11_bestOf_0 l0 l1 h Q
theorem s_X11_bestOf_22 {l : Launch} {G : Gh} {s0 : Int32} {h : Hp} {Q : Int32 → Hp → Prop}  (hw : n_X11_bestOf_22 s0 h Q) : V l G 1 yX11_bestOf cX11_bestOf 2 (some .int) 22 [] [.int s0] h (qI Q) := by
  unfold n_X11_bestOf_22 at hw
  exact V_iret rfl dX11_bestOf_22 ⟨_, rfl, hw⟩
theorem s_X11_bestOf_21 {l : Launch} {G : Gh}  {h : Hp} {Q : Int32 → Hp → Prop}  (hw : n_X11_bestOf_21 h Q) : V l G 1 yX11_bestOf cX11_bestOf 2 (some .int) 21 [] [] h (qI Q) := by
  unfold n_X11_bestOf_21 at hw
  refine V_iconst (v := (-1)) (by decide) dX11_bestOf_21 ?_
  exact V.sub [] rfl (s_X11_bestOf_22 hw)
theorem s_X11_bestOf_0 {l : Launch} {G : Gh} {l0 : Option Nat} {l1 : Int32} {h : Hp} {Q : Int32 → Hp → Prop}  (hw : n_X11_bestOf_0 l0 l1 h Q) : V l G 1 yX11_bestOf cX11_bestOf 2 (some .int) 0 [(0, va_rf l0), (1, .int l1)] [] h (qI Q) := by
  unfold n_X11_bestOf_0 at hw
  refine V_iload_n 1 rfl rfl dX11_bestOf_0 ?_
  refine V_if_lt (tgt := 21) dX11_bestOf_1 (by decide) hw (fun hw => ?_) (fun hw => ?_)
  · exact V.sub [] rfl (s_X11_bestOf_21 hw)
  · refine V_iload_n 1 rfl rfl dX11_bestOf_4 ?_
    refine V_aload_n 0 rfl rfl dX11_bestOf_5 ?_
    refine X_getI (c := 11) (k := 74) fa_X11_190 rfl dX11_bestOf_6 hw (fun v1 hw => ?_)
    refine V_icmp_ge (tgt := 21) dX11_bestOf_9 (by decide) hw (fun hw => ?_) (fun hw => ?_)
    · exact V.sub [] rfl (s_X11_bestOf_21 hw)
    · refine V_aload_n 0 rfl rfl dX11_bestOf_12 ?_
      refine X_getR (c := 11) (k := 75) fa_X11_193 rfl dX11_bestOf_13 hw (fun v2 hw => ?_)
      refine V_iload_n 1 rfl rfl dX11_bestOf_16 ?_
      refine X_ldI dX11_bestOf_17 hw (fun v3 hw => ?_)
      refine V_goto (tgt := 22) dX11_bestOf_18 (by decide) ?_
      exact V.sub [] rfl (s_X11_bestOf_22 hw)
theorem r_X11_bestOf {l : Launch} {G : Gh} (l0 : Option Nat) (l1 : Int32) {h : Hp} {Q : Int32 → Hp → Prop} (hw : w_X11_bestOf l0 l1 h Q) : RunQ l G 1 yX11_bestOf cX11_bestOf 2 (some .int) [va_rf l0, .int l1] h (qI Q) :=
  V_run rfl (sl_len _ _ (by simp [cat_i, cat_l, rf_cat])) (V.sub [0, 1] (by simp only [la_r, la_i, la_l, la_n]; rfl) (s_X11_bestOf_0 hw))
def n_X11_bind_57 (l0 : Option Nat) (h : Hp) (Q : Int32 → Hp → Prop) : Prop :=
  oV h l0 12 <| w_X11_no l0 (-6) h <| fun v7 h =>
  Q v7 h
def n_X11_bind_0 (l0 : Option Nat) (l1 : Int32) (h : Hp) (Q : Int32 → Hp → Prop) : Prop :=
  oV h l0 12 <| w_X11_isAsk l0 l1 h <| fun v1 h =>
  br (v1 = 0) (
    oV h l0 12 <| w_X11_no l0 (-1) h <| fun v2 h =>
    Q v2 h) (
    gR h l0 12 1435 fun v3 =>
    ldI h v3 l1 fun v4 =>
    br (v4 = 2) (
      gR h l0 12 1430 fun v5 =>
      ldI h v5 l1 fun v6 =>
      br (v6 = 0) (
        n_X11_bind_57 l0 h Q) (
        gR h l0 12 1421 fun v8 =>
        gR h l0 12 1430 fun v9 =>
        ldI h v9 l1 fun v10 =>
        ldI h v8 v10 fun v11 =>
        br (v11 = (-1)) (
          n_X11_bind_57 l0 h Q) (
          gR h l0 12 1444 fun v12 =>
          ldZ h v12 l1 fun v13 =>
          br (v13 = 0) (
            gR h l0 12 1435 fun v14 =>
            stI h v14 l1 3 fun h =>
            gR h l0 12 1421 fun v15 =>
            gR h l0 12 1430 fun v16 =>
            ldI h v16 l1 fun v17 =>
            ldI h v15 v17 fun v18 =>
            Q v18 h) (
            n_X11_bind_57 l0 h Q)))) (
      n_X11_bind_57 l0 h Q))
def w_X11_bind (l0 : Option Nat) (l1 : Int32) (h : Hp) (Q : Int32 → Hp → Prop) : Prop := n_X11_bind_0 l0 l1 h Q
theorem s_X11_bind_57 {l : Launch} {G : Gh} {l0 : Option Nat} {h : Hp} {Q : Int32 → Hp → Prop}  (hw : n_X11_bind_57 l0 h Q) : V l G 2 yX11_bind cX11_bind 2 (some .int) 57 [(0, va_rf l0)] [] h (qI Q) := by
  unfold n_X11_bind_57 at hw
  refine V_aload_n 0 rfl rfl dX11_bind_57 ?_
  refine V_bipush (v := (-6)) (by decide) dX11_bind_58 ?_
  refine X_cV 11 [.int (-6)] [] ma_X11_212 (by decide) rfl (by decide) (by decide) rfl (by simp [cat_i, cat_l, rf_cat]) rfl dX11_bind_60 hw (r_X11_no _ _) (k_I (fun v7 h hw => ?_))
  exact V_iret rfl dX11_bind_63 ⟨_, rfl, hw⟩
set_option maxRecDepth 20000 in
theorem s_X11_bind_0 {l : Launch} {G : Gh} {l0 : Option Nat} {l1 : Int32} {h : Hp} {Q : Int32 → Hp → Prop}  (hw : n_X11_bind_0 l0 l1 h Q) : V l G 2 yX11_bind cX11_bind 2 (some .int) 0 [(0, va_rf l0), (1, .int l1)] [] h (qI Q) := by
  unfold n_X11_bind_0 at hw
  refine V_aload_n 0 rfl rfl dX11_bind_0 ?_
  refine V_iload_n 1 rfl rfl dX11_bind_1 ?_
  refine X_cV 11 [.int l1] [] ma_X11_240 (by decide) rfl (by decide) (by decide) rfl (by simp [cat_i, cat_l, rf_cat]) rfl dX11_bind_2 hw (r_X11_isAsk _ _) (k_I (fun v1 h hw => ?_))
  refine V_if_ne (tgt := 14) dX11_bind_5 (by decide) hw (fun hw => ?_) (fun hw => ?_)
  · refine V_aload_n 0 rfl rfl dX11_bind_8 ?_
    refine V_iconst (v := (-1)) (by decide) dX11_bind_9 ?_
    refine X_cV 11 [.int (-1)] [] ma_X11_212 (by decide) rfl (by decide) (by decide) rfl (by simp [cat_i, cat_l, rf_cat]) rfl dX11_bind_10 hw (r_X11_no _ _) (k_I (fun v2 h hw => ?_))
    exact V_iret rfl dX11_bind_13 ⟨_, rfl, hw⟩
  · refine V_aload_n 0 rfl rfl dX11_bind_14 ?_
    refine X_getR (c := 11) (k := 27) fa_X11_79 rfl dX11_bind_15 hw (fun v3 hw => ?_)
    refine V_iload_n 1 rfl rfl dX11_bind_18 ?_
    refine X_ldI dX11_bind_19 hw (fun v4 hw => ?_)
    refine V_iconst (v := 2) (by decide) dX11_bind_20 ?_
    refine V_icmp_ne (tgt := 57) dX11_bind_21 (by decide) hw (fun hw => ?_) (fun hw => ?_)
    · refine V_aload_n 0 rfl rfl dX11_bind_24 ?_
      refine X_getR (c := 11) (k := 22) fa_X11_64 rfl dX11_bind_25 hw (fun v5 hw => ?_)
      refine V_iload_n 1 rfl rfl dX11_bind_28 ?_
      refine X_ldI dX11_bind_29 hw (fun v6 hw => ?_)
      refine V_if_eq (tgt := 57) dX11_bind_30 (by decide) hw (fun hw => ?_) (fun hw => ?_)
      · exact V.sub [0] rfl (s_X11_bind_57 hw)
      · refine V_aload_n 0 rfl rfl dX11_bind_33 ?_
        refine X_getR (c := 11) (k := 13) fa_X11_35 rfl dX11_bind_34 hw (fun v8 hw => ?_)
        refine V_aload_n 0 rfl rfl dX11_bind_37 ?_
        refine X_getR (c := 11) (k := 22) fa_X11_64 rfl dX11_bind_38 hw (fun v9 hw => ?_)
        refine V_iload_n 1 rfl rfl dX11_bind_41 ?_
        refine X_ldI dX11_bind_42 hw (fun v10 hw => ?_)
        refine X_ldI dX11_bind_43 hw (fun v11 hw => ?_)
        refine V_iconst (v := (-1)) (by decide) dX11_bind_44 ?_
        refine V_icmp_eq (tgt := 57) dX11_bind_45 (by decide) hw (fun hw => ?_) (fun hw => ?_)
        · exact V.sub [0] rfl (s_X11_bind_57 hw)
        · refine V_aload_n 0 rfl rfl dX11_bind_48 ?_
          refine X_getR (c := 11) (k := 36) fa_X11_106 rfl dX11_bind_49 hw (fun v12 hw => ?_)
          refine V_iload_n 1 rfl rfl dX11_bind_52 ?_
          refine X_ldZ dX11_bind_53 hw (fun v13 hw => ?_)
          refine V_if_eq (tgt := 64) dX11_bind_54 (by decide) hw (fun hw => ?_) (fun hw => ?_)
          · refine V_aload_n 0 rfl rfl dX11_bind_64 ?_
            refine X_getR (c := 11) (k := 27) fa_X11_79 rfl dX11_bind_65 hw (fun v14 hw => ?_)
            refine V_iload_n 1 rfl rfl dX11_bind_68 ?_
            refine V_iconst (v := 3) (by decide) dX11_bind_69 ?_
            refine X_stI dX11_bind_70 hw (fun h hw => ?_)
            refine V_aload_n 0 rfl rfl dX11_bind_71 ?_
            refine X_getR (c := 11) (k := 13) fa_X11_35 rfl dX11_bind_72 hw (fun v15 hw => ?_)
            refine V_aload_n 0 rfl rfl dX11_bind_75 ?_
            refine X_getR (c := 11) (k := 22) fa_X11_64 rfl dX11_bind_76 hw (fun v16 hw => ?_)
            refine V_iload_n 1 rfl rfl dX11_bind_79 ?_
            refine X_ldI dX11_bind_80 hw (fun v17 hw => ?_)
            refine X_ldI dX11_bind_81 hw (fun v18 hw => ?_)
            exact V_iret rfl dX11_bind_82 ⟨_, rfl, hw⟩
          · exact V.sub [0] rfl (s_X11_bind_57 hw)
    · exact V.sub [0] rfl (s_X11_bind_57 hw)
theorem r_X11_bind {l : Launch} {G : Gh} (l0 : Option Nat) (l1 : Int32) {h : Hp} {Q : Int32 → Hp → Prop} (hw : w_X11_bind l0 l1 h Q) : RunQ l G 2 yX11_bind cX11_bind 2 (some .int) [va_rf l0, .int l1] h (qI Q) :=
  V_run rfl (sl_len _ _ (by simp [cat_i, cat_l, rf_cat])) (V.sub [0, 1] (by simp only [la_r, la_i, la_l, la_n]; rfl) (s_X11_bind_0 hw))
def n_X11_book_55 (h : Hp) (Q : Int32 → Hp → Prop) : Prop :=
  Q (-1) h
def n_X11_book_49 (l0 : Option Nat) (l1 : Int32) (l3 : Int32) (l4 : Int32) (h : Hp) (Q : Int32 → Hp → Prop) (K15 : Int32 → Int32 → Hp → Prop) : Prop :=
  lt (l4 + 1) fun x6 =>
  K15 l3 x6 h
def b_X11_book_15 (l0 : Option Nat) (l1 : Int32) (l3 : Int32) (l4 : Int32) (h : Hp) (Q : Int32 → Hp → Prop) (K15 : Int32 → Int32 → Hp → Prop) : Prop :=
  gI h l0 12 1410 fun v2 =>
  br (v2 ≤ l4) (
    n_X11_book_55 h Q) (
    br (l3 < 0) (
      n_X11_book_55 h Q) (
      gR h l0 12 1430 fun v3 =>
      ldI h v3 l4 fun v4 =>
      br (v4 = l1) (
        lt (l3 + (-1)) fun x5 =>
        br (l3 = 0) (
          Q l4 h) (
          n_X11_book_49 l0 l1 x5 l4 h Q K15)) (
        n_X11_book_49 l0 l1 l3 l4 h Q K15)))
def l_X11_book_15 (l0 : Option Nat) (l1 : Int32) (l3 : Int32) (l4 : Int32) (h : Hp) (Q : Int32 → Hp → Prop) : Prop :=
  Lo (fun (K : Int32 × Int32 → Hp → Prop) s h => b_X11_book_15 l0 l1 s.1 s.2 h Q (fun l3 l4 h => K (l3, l4) h)) (l3, l4) h
def n_X11_book_0 (l0 : Option Nat) (l1 : Int32) (l2 : Int32) (h : Hp) (Q : Int32 → Hp → Prop) : Prop :=
  oV h l0 12 <| w_X11_isPlace l0 l1 h <| fun v1 h =>
  br (v1 = 0) (
    Q (-1) h) (
    l_X11_book_15 l0 l1 l2 0 h Q)
def w_X11_book (l0 : Option Nat) (l1 : Int32) (l2 : Int32) (h : Hp) (Q : Int32 → Hp → Prop) : Prop := n_X11_book_0 l0 l1 l2 h Q
theorem s_X11_book_55 {l : Launch} {G : Gh}  {h : Hp} {Q : Int32 → Hp → Prop}  (hw : n_X11_book_55 h Q) : V l G 2 yX11_book cX11_book 5 (some .int) 55 [] [] h (qI Q) := by
  unfold n_X11_book_55 at hw
  refine V_iconst (v := (-1)) (by decide) dX11_book_55 ?_
  exact V_iret rfl dX11_book_56 ⟨_, rfl, hw⟩
theorem s_X11_book_49 {l : Launch} {G : Gh} {l0 : Option Nat} {l1 : Int32} {l3 : Int32} {l4 : Int32} {h : Hp} {Q : Int32 → Hp → Prop} {K15 : Int32 → Int32 → Hp → Prop} (hK15 : ∀ (l3 : Int32) (l4 : Int32) (h : Hp), K15 l3 l4 h → V l G 2 yX11_book cX11_book 5 (some .int) 15 [(0, va_rf l0), (1, .int l1), (3, .int l3), (4, .int l4)] [] h (qI Q)) (hw : n_X11_book_49 l0 l1 l3 l4 h Q K15) : V l G 2 yX11_book cX11_book 5 (some .int) 49 [(0, va_rf l0), (1, .int l1), (3, .int l3), (4, .int l4)] [] h (qI Q) := by
  unfold n_X11_book_49 at hw
  refine V_iincL (n := 1) 3 (fun z => [(4, .int z), (0, va_rf l0), (1, .int l1), (3, .int l3)]) rfl (by rfl) (by decide) (fun _ => rfl) dX11_book_49 hw (fun x6 hw => ?_)
  refine V_goto (tgt := 15) dX11_book_52 (by decide) ?_
  exact V.sub [1, 2, 3, 0] rfl (hK15 _ _ _ hw)
theorem sb_X11_book_15 {l : Launch} {G : Gh} {l0 : Option Nat} {l1 : Int32} {l3 : Int32} {l4 : Int32} {h : Hp} {Q : Int32 → Hp → Prop} {K15 : Int32 → Int32 → Hp → Prop} (hK15 : ∀ (l3 : Int32) (l4 : Int32) (h : Hp), K15 l3 l4 h → V l G 2 yX11_book cX11_book 5 (some .int) 15 [(0, va_rf l0), (1, .int l1), (3, .int l3), (4, .int l4)] [] h (qI Q)) (hw : b_X11_book_15 l0 l1 l3 l4 h Q K15) : V l G 2 yX11_book cX11_book 5 (some .int) 15 [(0, va_rf l0), (1, .int l1), (3, .int l3), (4, .int l4)] [] h (qI Q) := by
  unfold b_X11_book_15 at hw
  refine V_iload 3 rfl dX11_book_15 ?_
  refine V_aload_n 0 rfl rfl dX11_book_17 ?_
  refine X_getI (c := 11) (k := 2) fa_X11_205 rfl dX11_book_18 hw (fun v2 hw => ?_)
  refine V_icmp_ge (tgt := 55) dX11_book_21 (by decide) hw (fun hw => ?_) (fun hw => ?_)
  · exact V.sub [] rfl (s_X11_book_55 hw)
  · refine V_iload_n 2 rfl rfl dX11_book_24 ?_
    refine V_if_lt (tgt := 55) dX11_book_25 (by decide) hw (fun hw => ?_) (fun hw => ?_)
    · exact V.sub [] rfl (s_X11_book_55 hw)
    · refine V_aload_n 0 rfl rfl dX11_book_28 ?_
      refine X_getR (c := 11) (k := 22) fa_X11_64 rfl dX11_book_29 hw (fun v3 hw => ?_)
      refine V_iload 3 rfl dX11_book_32 ?_
      refine X_ldI dX11_book_34 hw (fun v4 hw => ?_)
      refine V_iload_n 1 rfl rfl dX11_book_35 ?_
      refine V_icmp_ne (tgt := 49) dX11_book_36 (by decide) hw (fun hw => ?_) (fun hw => ?_)
      · refine V_iload_n 2 rfl rfl dX11_book_39 ?_
        refine V_iincL (n := (-1)) 2 (fun z => [(3, .int z), (0, va_rf l0), (1, .int l1), (4, .int l4)]) rfl (by rfl) (by decide) (fun _ => rfl) dX11_book_40 hw (fun x5 hw => ?_)
        refine V_if_ne (tgt := 49) dX11_book_43 (by decide) hw (fun hw => ?_) (fun hw => ?_)
        · refine V_iload 3 rfl dX11_book_46 ?_
          exact V_iret rfl dX11_book_48 ⟨_, rfl, hw⟩
        · exact V.sub [1, 2, 0, 3] rfl (s_X11_book_49 hK15 hw)
      · exact V.sub [0, 1, 2, 3] rfl (s_X11_book_49 hK15 hw)
theorem s_X11_book_15 {l : Launch} {G : Gh} {l0 : Option Nat} {l1 : Int32} {l3 : Int32} {l4 : Int32} {h : Hp} {Q : Int32 → Hp → Prop}  (hw : l_X11_book_15 l0 l1 l3 l4 h Q) : V l G 2 yX11_book cX11_book 5 (some .int) 15 [(0, va_rf l0), (1, .int l1), (3, .int l3), (4, .int l4)] [] h (qI Q) :=
  Lo.ind (P := fun (s : Int32 × Int32) h => V l G 2 yX11_book cX11_book 5 (some .int) 15 [(0, va_rf l0), (1, .int l1), (3, .int s.1), (4, .int s.2)] [] h (qI Q)) (fun K ih s h hw => sb_X11_book_15 (fun l3 l4 h hk => ih (l3, l4) h hk) hw) hw
theorem s_X11_book_0 {l : Launch} {G : Gh} {l0 : Option Nat} {l1 : Int32} {l2 : Int32} {h : Hp} {Q : Int32 → Hp → Prop}  (hw : n_X11_book_0 l0 l1 l2 h Q) : V l G 2 yX11_book cX11_book 5 (some .int) 0 [(0, va_rf l0), (1, .int l1), (2, .int l2)] [] h (qI Q) := by
  unfold n_X11_book_0 at hw
  refine V_aload_n 0 rfl rfl dX11_book_0 ?_
  refine V_iload_n 1 rfl rfl dX11_book_1 ?_
  refine X_cV 11 [.int l1] [] ma_X11_208 (by decide) rfl (by decide) (by decide) rfl (by simp [cat_i, cat_l, rf_cat]) rfl dX11_book_2 hw (r_X11_isPlace _ _) (k_I (fun v1 h hw => ?_))
  refine V_if_ne (tgt := 10) dX11_book_5 (by decide) hw (fun hw => ?_) (fun hw => ?_)
  · refine V_iconst (v := (-1)) (by decide) dX11_book_8 ?_
    exact V_iret rfl dX11_book_9 ⟨_, rfl, hw⟩
  · refine V_iload_n 2 rfl rfl dX11_book_10 ?_
    refine V_istore_n (i := 3) [(3, .int l2), (0, va_rf l0), (1, .int l1), (2, .int l2)] rfl (by decide) rfl dX11_book_11 ?_
    refine V_iconst (v := 0) (by decide) dX11_book_12 ?_
    refine V_istore (i := 4) [(4, .int 0), (3, .int l2), (0, va_rf l0), (1, .int l1), (2, .int l2)] (by decide) rfl dX11_book_13 ?_
    exact V.sub [2, 3, 1, 0] rfl (s_X11_book_15 hw)
theorem r_X11_book {l : Launch} {G : Gh} (l0 : Option Nat) (l1 : Int32) (l2 : Int32) {h : Hp} {Q : Int32 → Hp → Prop} (hw : w_X11_book l0 l1 l2 h Q) : RunQ l G 2 yX11_book cX11_book 5 (some .int) [va_rf l0, .int l1, .int l2] h (qI Q) :=
  V_run rfl (sl_len _ _ (by simp [cat_i, cat_l, rf_cat])) (V.sub [0, 1, 2] (by simp only [la_r, la_i, la_l, la_n]; rfl) (s_X11_book_0 hw))
def n_X11_likenessOf_182 (l0 : Option Nat) (l1 : Int32) (l2 : Int32) (l3 : Int32) (l4 : Int32) (l5 : Int32) (h : Hp) (Q : Int32 → Hp → Prop) (K7 : Int32 → Hp → Prop) (K19 : Int32 → Hp → Prop) : Prop :=
  gR h l0 12 1466 fun v10 =>
  stI h v10 ((21 * l3) + l4) l5 fun h =>
  lt (l4 + (-1)) fun x11 =>
  K19 x11 h
def n_X11_likenessOf_110 (l0 : Option Nat) (l1 : Int32) (l2 : Int32) (l3 : Int32) (l4 : Int32) (s0 : Int32) (h : Hp) (Q : Int32 → Hp → Prop) (K7 : Int32 → Hp → Prop) (K19 : Int32 → Hp → Prop) : Prop :=
  gR h l0 12 1445 fun v20 =>
  ldL h v20 ((20 * l1) + l3) fun v21 =>
  gR h l0 12 1450 fun v22 =>
  ldL h v22 ((60 * l2) + l4) fun v23 =>
  br ((lg_cmp v21 v23) = 0) (
    gR h l0 12 1466 fun v24 =>
    ldI h v24 (((21 * (l3 + 1)) + l4) + 1) fun v25 =>
    br ((v25 + 1) ≤ s0) (
      n_X11_likenessOf_182 l0 l1 l2 l3 l4 s0 h Q K7 K19) (
      gR h l0 12 1466 fun v26 =>
      ldI h v26 (((21 * (l3 + 1)) + l4) + 1) fun v27 =>
      lt (v27 + 1) fun x28 =>
      n_X11_likenessOf_182 l0 l1 l2 l3 l4 x28 h Q K7 K19)) (
    n_X11_likenessOf_182 l0 l1 l2 l3 l4 s0 h Q K7 K19)
def b_X11_likenessOf_19 (l0 : Option Nat) (l1 : Int32) (l2 : Int32) (l3 : Int32) (l4 : Int32) (h : Hp) (Q : Int32 → Hp → Prop) (K7 : Int32 → Hp → Prop) (K19 : Int32 → Hp → Prop) : Prop :=
  br (l4 < 0) (
    lt (l3 + (-1)) fun x7 =>
    K7 x7 h) (
    gR h l0 12 1441 fun v8 =>
    ldI h v8 l1 fun v9 =>
    br (v9 ≤ l3) (
      n_X11_likenessOf_182 l0 l1 l2 l3 l4 0 h Q K7 K19) (
      gR h l0 12 1449 fun v12 =>
      ldI h v12 l2 fun v13 =>
      br (v13 ≤ l4) (
        n_X11_likenessOf_182 l0 l1 l2 l3 l4 0 h Q K7 K19) (
        gR h l0 12 1466 fun v14 =>
        ldI h v14 ((21 * (l3 + 1)) + l4) fun v15 =>
        gR h l0 12 1466 fun v16 =>
        ldI h v16 (((21 * l3) + l4) + 1) fun v17 =>
        br (v15 ≤ v17) (
          gR h l0 12 1466 fun v18 =>
          ldI h v18 (((21 * l3) + l4) + 1) fun v19 =>
          n_X11_likenessOf_110 l0 l1 l2 l3 l4 v19 h Q K7 K19) (
          gR h l0 12 1466 fun v29 =>
          ldI h v29 ((21 * (l3 + 1)) + l4) fun v30 =>
          n_X11_likenessOf_110 l0 l1 l2 l3 l4 v30 h Q K7 K19))))
def l_X11_likenessOf_19 (l0 : Option Nat) (l1 : Int32) (l2 : Int32) (l3 : Int32) (l4 : Int32) (h : Hp) (Q : Int32 → Hp → Prop) (K7 : Int32 → Hp → Prop) : Prop :=
  Lo (fun (K : Int32 → Hp → Prop) s h => b_X11_likenessOf_19 l0 l1 l2 l3 s h Q K7 (fun l4 h => K (l4) h)) (l4) h
def b_X11_likenessOf_7 (l0 : Option Nat) (l1 : Int32) (l2 : Int32) (l3 : Int32) (h : Hp) (Q : Int32 → Hp → Prop) (K7 : Int32 → Hp → Prop) : Prop :=
  br (l3 < 0) (
    gR h l0 12 1466 fun v3 =>
    ldI h v3 0 fun v4 =>
    Q v4 h) (
    gR h l0 12 1449 fun v5 =>
    ldI h v5 l2 fun v6 =>
    l_X11_likenessOf_19 l0 l1 l2 l3 v6 h Q K7)
def l_X11_likenessOf_7 (l0 : Option Nat) (l1 : Int32) (l2 : Int32) (l3 : Int32) (h : Hp) (Q : Int32 → Hp → Prop) : Prop :=
  Lo (fun (K : Int32 → Hp → Prop) s h => b_X11_likenessOf_7 l0 l1 l2 s h Q (fun l3 h => K (l3) h)) (l3) h
def n_X11_likenessOf_0 (l0 : Option Nat) (l1 : Int32) (l2 : Int32) (h : Hp) (Q : Int32 → Hp → Prop) : Prop :=
  gR h l0 12 1441 fun v1 =>
  ldI h v1 l1 fun v2 =>
  l_X11_likenessOf_7 l0 l1 l2 v2 h Q
def w_X11_likenessOf (l0 : Option Nat) (l1 : Int32) (l2 : Int32) (h : Hp) (Q : Int32 → Hp → Prop) : Prop := n_X11_likenessOf_0 l0 l1 l2 h Q
theorem s_X11_likenessOf_182 {l : Launch} {G : Gh} {l0 : Option Nat} {l1 : Int32} {l2 : Int32} {l3 : Int32} {l4 : Int32} {l5 : Int32} {h : Hp} {Q : Int32 → Hp → Prop} {K7 : Int32 → Hp → Prop} {K19 : Int32 → Hp → Prop} (hK7 : ∀ (l3 : Int32) (h : Hp), K7 l3 h → V l G 1 yX11_likenessOf cX11_likenessOf 6 (some .int) 7 [(0, va_rf l0), (1, .int l1), (2, .int l2), (3, .int l3)] [] h (qI Q)) (hK19 : ∀ (l4 : Int32) (h : Hp), K19 l4 h → V l G 1 yX11_likenessOf cX11_likenessOf 6 (some .int) 19 [(0, va_rf l0), (1, .int l1), (2, .int l2), (3, .int l3), (4, .int l4)] [] h (qI Q)) (hw : n_X11_likenessOf_182 l0 l1 l2 l3 l4 l5 h Q K7 K19) : V l G 1 yX11_likenessOf cX11_likenessOf 6 (some .int) 182 [(0, va_rf l0), (1, .int l1), (2, .int l2), (3, .int l3), (4, .int l4), (5, .int l5)] [] h (qI Q) := by
  unfold n_X11_likenessOf_182 at hw
  refine V_aload_n 0 rfl rfl dX11_likenessOf_182 ?_
  refine X_getR (c := 11) (k := 58) fa_X11_172 rfl dX11_likenessOf_183 hw (fun v10 hw => ?_)
  refine V_bipush (v := 21) (by decide) dX11_likenessOf_186 ?_
  refine V_iload_n 3 rfl rfl dX11_likenessOf_188 ?_
  refine V_imul dX11_likenessOf_189 ?_
  refine V_iload 4 rfl dX11_likenessOf_190 ?_
  refine V_iadd dX11_likenessOf_192 ?_
  refine V_iload 5 rfl dX11_likenessOf_193 ?_
  refine X_stI dX11_likenessOf_195 hw (fun h hw => ?_)
  refine V_iincL (n := (-1)) 4 (fun z => [(4, .int z), (0, va_rf l0), (1, .int l1), (2, .int l2), (3, .int l3), (5, .int l5)]) rfl (by rfl) (by decide) (fun _ => rfl) dX11_likenessOf_196 hw (fun x11 hw => ?_)
  refine V_goto (tgt := 19) dX11_likenessOf_199 (by decide) ?_
  exact V.sub [1, 2, 3, 4, 0] rfl (hK19 _ _ hw)
set_option maxRecDepth 20000 in
theorem s_X11_likenessOf_110 {l : Launch} {G : Gh} {l0 : Option Nat} {l1 : Int32} {l2 : Int32} {l3 : Int32} {l4 : Int32} {s0 : Int32} {h : Hp} {Q : Int32 → Hp → Prop} {K7 : Int32 → Hp → Prop} {K19 : Int32 → Hp → Prop} (hK7 : ∀ (l3 : Int32) (h : Hp), K7 l3 h → V l G 1 yX11_likenessOf cX11_likenessOf 6 (some .int) 7 [(0, va_rf l0), (1, .int l1), (2, .int l2), (3, .int l3)] [] h (qI Q)) (hK19 : ∀ (l4 : Int32) (h : Hp), K19 l4 h → V l G 1 yX11_likenessOf cX11_likenessOf 6 (some .int) 19 [(0, va_rf l0), (1, .int l1), (2, .int l2), (3, .int l3), (4, .int l4)] [] h (qI Q)) (hw : n_X11_likenessOf_110 l0 l1 l2 l3 l4 s0 h Q K7 K19) : V l G 1 yX11_likenessOf cX11_likenessOf 6 (some .int) 110 [(0, va_rf l0), (1, .int l1), (2, .int l2), (3, .int l3), (4, .int l4)] [.int s0] h (qI Q) := by
  unfold n_X11_likenessOf_110 at hw
  refine V_istore (i := 5) [(5, .int s0), (0, va_rf l0), (1, .int l1), (2, .int l2), (3, .int l3), (4, .int l4)] (by decide) rfl dX11_likenessOf_110 ?_
  refine V_aload_n 1 rfl rfl dX11_likenessOf_112 ?_
  refine X_getR (c := 11) (k := 37) fa_X11_109 rfl dX11_likenessOf_113 hw (fun v20 hw => ?_)
  refine V_bipush (v := 20) (by decide) dX11_likenessOf_116 ?_
  refine V_iload_n 2 rfl rfl dX11_likenessOf_118 ?_
  refine V_imul dX11_likenessOf_119 ?_
  refine V_iload_n 4 rfl rfl dX11_likenessOf_120 ?_
  refine V_iadd dX11_likenessOf_121 ?_
  refine X_ldL dX11_likenessOf_122 hw (fun v21 hw => ?_)
  refine V_aload_n 1 rfl rfl dX11_likenessOf_123 ?_
  refine X_getR (c := 11) (k := 42) fa_X11_124 rfl dX11_likenessOf_124 hw (fun v22 hw => ?_)
  refine V_bipush (v := 60) (by decide) dX11_likenessOf_127 ?_
  refine V_iload_n 3 rfl rfl dX11_likenessOf_129 ?_
  refine V_imul dX11_likenessOf_130 ?_
  refine V_iload 5 rfl dX11_likenessOf_131 ?_
  refine V_iadd dX11_likenessOf_133 ?_
  refine X_ldL dX11_likenessOf_134 hw (fun v23 hw => ?_)
  refine V_lcmp dX11_likenessOf_135 ?_
  refine V_if_ne (tgt := 182) dX11_likenessOf_136 (by decide) hw (fun hw => ?_) (fun hw => ?_)
  · refine V_aload_n 1 rfl rfl dX11_likenessOf_139 ?_
    refine X_getR (c := 11) (k := 58) fa_X11_172 rfl dX11_likenessOf_140 hw (fun v24 hw => ?_)
    refine V_bipush (v := 21) (by decide) dX11_likenessOf_143 ?_
    refine V_iload_n 4 rfl rfl dX11_likenessOf_145 ?_
    refine V_iconst (v := 1) (by decide) dX11_likenessOf_146 ?_
    refine V_iadd dX11_likenessOf_147 ?_
    refine V_imul dX11_likenessOf_148 ?_
    refine V_iload 5 rfl dX11_likenessOf_149 ?_
    refine V_iadd dX11_likenessOf_151 ?_
    refine V_iconst (v := 1) (by decide) dX11_likenessOf_152 ?_
    refine V_iadd dX11_likenessOf_153 ?_
    refine X_ldI dX11_likenessOf_154 hw (fun v25 hw => ?_)
    refine V_iconst (v := 1) (by decide) dX11_likenessOf_155 ?_
    refine V_iadd dX11_likenessOf_156 ?_
    refine V_iload 0 rfl dX11_likenessOf_157 ?_
    refine V_icmp_le (tgt := 182) dX11_likenessOf_159 (by decide) hw (fun hw => ?_) (fun hw => ?_)
    · exact V.sub [1, 2, 3, 4, 5, 0] rfl (s_X11_likenessOf_182 hK7 hK19 hw)
    · refine V_aload_n 1 rfl rfl dX11_likenessOf_162 ?_
      refine X_getR (c := 11) (k := 58) fa_X11_172 rfl dX11_likenessOf_163 hw (fun v26 hw => ?_)
      refine V_bipush (v := 21) (by decide) dX11_likenessOf_166 ?_
      refine V_iload_n 4 rfl rfl dX11_likenessOf_168 ?_
      refine V_iconst (v := 1) (by decide) dX11_likenessOf_169 ?_
      refine V_iadd dX11_likenessOf_170 ?_
      refine V_imul dX11_likenessOf_171 ?_
      refine V_iload 5 rfl dX11_likenessOf_172 ?_
      refine V_iadd dX11_likenessOf_174 ?_
      refine V_iconst (v := 1) (by decide) dX11_likenessOf_175 ?_
      refine V_iadd dX11_likenessOf_176 ?_
      refine X_ldI dX11_likenessOf_177 hw (fun v27 hw => ?_)
      refine V_iconst (v := 1) (by decide) dX11_likenessOf_178 ?_
      refine V_iadd dX11_likenessOf_179 ?_
      refine V_ltI hw (fun x28 hw => ?_)
      refine V_istore (i := 5) [(5, .int x28), (0, va_rf l0), (1, .int l1), (2, .int l2), (3, .int l3), (4, .int l4)] (by decide) rfl dX11_likenessOf_180 ?_
      exact V.sub [1, 2, 3, 4, 5, 0] rfl (s_X11_likenessOf_182 hK7 hK19 hw)
  · exact V.sub [1, 2, 3, 4, 5, 0] rfl (s_X11_likenessOf_182 hK7 hK19 hw)
