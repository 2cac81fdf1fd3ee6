/-! mixes -/
def up3 (f : Nat → Nat → Int32) (p : Nat) (c : Int32 × Int32 × Int32) : Nat → Nat → Int32 := va_up (va_up (va_up f 0 (upd (f 0) p c.1)) 1 (upd (f 1) p c.2.1)) 2 (upd (f 2) p c.2.2)
theorem upd_upd (f : Nat → Int32) (p : Nat) (x y : Int32) : upd (upd f p x) p y = upd f p y := by
  funext j
  by_cases h : j = p
  · subst h; rw [pk_us, pk_us]
  · rw [pk_un h, pk_un h, pk_un h]
theorem up3_at (f : Nat → Nat → Int32) (p : Nat) (c : Int32 × Int32 × Int32) : up3 f p c 0 p = c.1 ∧ up3 f p c 1 p = c.2.1 ∧ up3 f p c 2 p = c.2.2 ∧ up3 f p c 3 = f 3 := ⟨pk_us, pk_us, pk_us, rfl⟩
theorem up3_up3 (f : Nat → Nat → Int32) (p : Nat) (c d : Int32 × Int32 × Int32) : up3 (up3 f p c) p d = up3 f p d := by
  funext k
  show va_up (va_up (va_up (up3 f p c) 0 (upd (upd (f 0) p c.1) p d.1)) 1 (upd (upd (f 1) p c.2.1) p d.2.1)) 2 (upd (upd (f 2) p c.2.2) p d.2.2) k = _
  rw [upd_upd, upd_upd, upd_upd]
  unfold up3 va_up
  by_cases h2 : k = 2
  · simp [h2]
  · by_cases h1 : k = 1
    · simp [h1]
    · by_cases h0 : k = 0
      · simp [h0]
      · simp [h0, h1, h2]
def sh16 (v : Int32) : Int32 := v >>> ((16 : Int32) &&& 31)
def opC (a b c : Int32) : Int32 × Int32 × Int32 := (lim (a + sh16 (91881 * (c - 128) + 32768)), lim (a + sh16 (-22554 * (b - 128) - 46802 * (c - 128) + 32768)), lim (a + sh16 (116130 * (b - 128) + 32768)))
def clC (a b c : Int32) : Int32 × Int32 × Int32 := (bri a b c, sh16 (-11059 * a - 21709 * b + 32768 * c + 8421375), sh16 (32768 * a - 27439 * b - 5329 * c + 8421375))
def inC (a b c : Int32) : Int32 × Int32 × Int32 := (255 - a, 255 - b, 255 - c)
def daC (a b c d : Int32) : Int32 × Int32 × Int32 := ((a * (255 - d) + 127) / 255, (b * (255 - d) + 127) / 255, (c * (255 - d) + 127) / 255)
def gyC (a b c : Int32) : Int32 × Int32 × Int32 := (bri a b c, bri a b c, bri a b c)
def mxP (v : Nat) (a b c d : Int32) : Int32 × Int32 × Int32 := if v = 0 then opC a b c else if v = 1 then clC a b c else if v = 2 then inC a b c else if v = 3 then daC a b c d else if v = 4 then gyC a b c else if v = 5 then inC (opC a b c).1 (opC a b c).2.1 (opC a b c).2.2 else clC (inC a b c).1 (inC a b c).2.1 (inC a b c).2.2
set_option maxRecDepth 100000 in
set_option maxHeartbeats 4000000 in
theorem c_setColours (l : Launch) (D : va_G) (ca : Nat → ClassId) (ad : Nat → Nat) (f g : Nat → Nat → Int32) (w h : Nat → Nat) (p : Nat) (hp : p < 1024) (a b c : Int32) : zMet l yT_setColours wT_setColours (rmk 0 0 0) zE0 (gG D ca ad) (twn ca f g w h) [.ref 0, .int (nI p), .int a, .int b, .int c] (fun r aw => r = none ∧ aw = twn ca (up3 f p (a, b, c)) g w h) := by
  refine zMet.of (cc := cT_setColours) (maxL := 5) (ret := none) (lv := [some (.ref 0), some (.int (nI p)), some (.int a), some (.int b), some (.int c)]) (by decide) rfl (Nat.le_of_ble_eq_true rfl) rfl (fun M hl0 hR hC hS hE hret => ?_)
  refine z_aload_n dT_setColours_0 rfl ?_
  refine z_get (C := RT) (T := TT) (N := 1) (ref := "ToneMixer") 0 dT_setColours_1 rfl rfl rfl (by decide) (fun w h => bwT (hbT w h)) (bwT b_44) rfl ?_
  refine z_iconst (v := 0) dT_setColours_4 (by decide) ?_
  refine z_aaldN (t0 := 2) (k := 0) dT_setColours_5 rfl rfl (rfl) (by decide) (by decide) rfl ?_
  refine z_get (C := RP) (T := TP) (N := 4) (ref := "ToneMixer$Plane") 0 dT_setColours_6 rfl rfl rfl (by decide) (fun w h => bwT (hbP w h)) (bwT b_28) rfl ?_
  refine z_iload_n dT_setColours_9 rfl ?_
  refine z_iload_n dT_setColours_10 rfl ?_
  refine z_iastN (t0 := 0) (k := p) dT_setColours_11 rfl rfl (rfl) (hp) (by decide) ?_
  rw [show ∀ X, (twn ca f g w h).set 3 (.inl (ca 0, 1024, .inl X)) = twn ca (va_up f 0 X) g w h from fun _ => rfl]
  refine z_aload_n dT_setColours_12 rfl ?_
  refine z_get (C := RT) (T := TT) (N := 1) (ref := "ToneMixer") 0 dT_setColours_13 rfl rfl rfl (by decide) (fun w h => bwT (hbT w h)) (bwT b_44) rfl ?_
  refine z_iconst (v := 1) dT_setColours_16 (by decide) ?_
  refine z_aaldN (t0 := 2) (k := 1) dT_setColours_17 rfl rfl (rfl) (by decide) (by decide) rfl ?_
  refine z_get (C := RP) (T := TP) (N := 4) (ref := "ToneMixer$Plane") 0 dT_setColours_18 rfl rfl rfl (by decide) (fun w h => bwT (hbP w h)) (bwT b_28) rfl ?_
  refine z_iload_n dT_setColours_21 rfl ?_
  refine z_iload_n dT_setColours_22 rfl ?_
  refine z_iastN (t0 := 0) (k := p) dT_setColours_23 rfl rfl (rfl) (hp) (by decide) ?_
  rw [show ∀ F X, (twn ca F g w h).set 6 (.inl (ca 0, 1024, .inl X)) = twn ca (va_up F 1 X) g w h from fun _ _ => rfl]
  refine z_aload_n dT_setColours_24 rfl ?_
  refine z_get (C := RT) (T := TT) (N := 1) (ref := "ToneMixer") 0 dT_setColours_25 rfl rfl rfl (by decide) (fun w h => bwT (hbT w h)) (bwT b_44) rfl ?_
  refine z_iconst (v := 2) dT_setColours_28 (by decide) ?_
  refine z_aaldN (t0 := 2) (k := 2) dT_setColours_29 rfl rfl (rfl) (by decide) (by decide) rfl ?_
  refine z_get (C := RP) (T := TP) (N := 4) (ref := "ToneMixer$Plane") 0 dT_setColours_30 rfl rfl rfl (by decide) (fun w h => bwT (hbP w h)) (bwT b_28) rfl ?_
  refine z_iload_n dT_setColours_33 rfl ?_
  refine z_iload dT_setColours_34 rfl ?_
  refine z_iastN (t0 := 0) (k := p) dT_setColours_36 rfl rfl (rfl) (hp) (by decide) ?_
  rw [show ∀ F X, (twn ca F g w h).set 9 (.inl (ca 0, 1024, .inl X)) = twn ca (va_up F 2 X) g w h from fun _ _ => rfl]
  exact z_return dT_setColours_37 hret ⟨Nat.le_of_eq hC, Nat.le_of_eq hS⟩ rfl ⟨rfl, rfl⟩
set_option maxRecDepth 100000 in
set_option maxHeartbeats 4000000 in
theorem c_open (l : Launch) (D : va_G) (ca : Nat → ClassId) (ad : Nat → Nat) (f g : Nat → Nat → Int32) (w h : Nat → Nat) (p : Nat) (hp : p < 1024) : zMet l yT_open wT_open (rmk 2 0 0) zE0 (gG D ca ad) (twn ca f g w h) [.ref 0, .int (nI p)] (fun r aw => r = none ∧ aw = twn ca (up3 f p (opC (f 0 p) (f 1 p) (f 2 p))) g w h) := by
  refine zMet.of (cc := cT_open) (maxL := 5) (ret := none) (lv := [some (.ref 0), some (.int (nI p)), none, none, none]) (by decide) rfl (Nat.le_of_ble_eq_true rfl) rfl (fun M hl0 hR hC hS hE hret => ?_)
  refine z_aload_n dT_open_0 rfl ?_
  refine z_get (C := RT) (T := TT) (N := 1) (ref := "ToneMixer") 0 dT_open_1 rfl rfl rfl (by decide) (fun w h => bwT (hbT w h)) (bwT b_44) rfl ?_
  refine z_iconst (v := 0) dT_open_4 (by decide) ?_
  refine z_aaldN (t0 := 2) (k := 0) dT_open_5 rfl rfl (rfl) (by decide) (by decide) rfl ?_
  refine z_get (C := RP) (T := TP) (N := 4) (ref := "ToneMixer$Plane") 0 dT_open_6 rfl rfl rfl (by decide) (fun w h => bwT (hbP w h)) (bwT b_28) rfl ?_
  refine z_iload_n dT_open_9 rfl ?_
  refine z_ialdN (t0 := 0) (k := p) dT_open_10 rfl rfl (rfl) (hp) (by decide) ?_
  refine z_istore_n dT_open_11 (by decide) rfl ?_
  try simp only [List.set_cons_succ, List.set_cons_zero]
  refine z_aload_n dT_open_12 rfl ?_
  refine z_get (C := RT) (T := TT) (N := 1) (ref := "ToneMixer") 0 dT_open_13 rfl rfl rfl (by decide) (fun w h => bwT (hbT w h)) (bwT b_44) rfl ?_
  refine z_iconst (v := 1) dT_open_16 (by decide) ?_
  refine z_aaldN (t0 := 2) (k := 1) dT_open_17 rfl rfl (rfl) (by decide) (by decide) rfl ?_
  refine z_get (C := RP) (T := TP) (N := 4) (ref := "ToneMixer$Plane") 0 dT_open_18 rfl rfl rfl (by decide) (fun w h => bwT (hbP w h)) (bwT b_28) rfl ?_
  refine z_iload_n dT_open_21 rfl ?_
  refine z_ialdN (t0 := 0) (k := p) dT_open_22 rfl rfl (rfl) (hp) (by decide) ?_
  refine z_sipush (v := 128) dT_open_23 (by decide) ?_
  refine z_isub dT_open_26 ?_
  refine z_istore_n dT_open_27 (by decide) rfl ?_
  try simp only [List.set_cons_succ, List.set_cons_zero]
  refine z_aload_n dT_open_28 rfl ?_
  refine z_get (C := RT) (T := TT) (N := 1) (ref := "ToneMixer") 0 dT_open_29 rfl rfl rfl (by decide) (fun w h => bwT (hbT w h)) (bwT b_44) rfl ?_
  refine z_iconst (v := 2) dT_open_32 (by decide) ?_
  refine z_aaldN (t0 := 2) (k := 2) dT_open_33 rfl rfl (rfl) (by decide) (by decide) rfl ?_
  refine z_get (C := RP) (T := TP) (N := 4) (ref := "ToneMixer$Plane") 0 dT_open_34 rfl rfl rfl (by decide) (fun w h => bwT (hbP w h)) (bwT b_28) rfl ?_
  refine z_iload_n dT_open_37 rfl ?_
  refine z_ialdN (t0 := 0) (k := p) dT_open_38 rfl rfl (rfl) (hp) (by decide) ?_
  refine z_sipush (v := 128) dT_open_39 (by decide) ?_
  refine z_isub dT_open_42 ?_
  refine z_istore dT_open_43 (by decide) rfl ?_
  try simp only [List.set_cons_succ, List.set_cons_zero]
  refine z_aload_n dT_open_45 rfl ?_
  refine z_iload_n dT_open_46 rfl ?_
  refine z_iload_n dT_open_47 rfl ?_
  refine z_ldc (v := 91881) dT_open_48 (bwT b_71) ?_
  refine z_iload dT_open_50 rfl ?_
  refine z_imul dT_open_52 ?_
  refine z_ldc (v := 32768) dT_open_53 (bwT b_72) ?_
  refine z_iadd dT_open_55 ?_
  refine z_pure (z_S hE zEok_0 (c_shifted _ _ _) dT_open_56 (gd_S b_73 b_74 b_1 b_75) rfl qT_shifted.2 ⟨rfl, rfl⟩ (by rw [hR]; decide) (by rw [hR, hC, hS]; decide) rfl (Nat.le_of_ble_eq_true rfl)) (fun r hr => ?_)
  subst hr
  simp only [zpush, zv]
  refine z_iadd dT_open_59 ?_
  refine z_pure (z_S hE zEok_0 (c_limit _ _ _) dT_open_60 (gd_S b_76 b_77 b_1 b_78) rfl qT_limit.2 ⟨rfl, rfl⟩ (by rw [hR]; decide) (by rw [hR, hC, hS]; decide) rfl (Nat.le_of_ble_eq_true rfl)) (fun r hr => ?_)
  subst hr
  simp only [zpush, zv]
  refine z_iload_n dT_open_63 rfl ?_
  refine z_sipush (v := -22554) dT_open_64 (by decide) ?_
  refine z_iload_n dT_open_67 rfl ?_
  refine z_imul dT_open_68 ?_
  refine z_ldc (v := 46802) dT_open_69 (bwT b_85) ?_
  refine z_iload dT_open_71 rfl ?_
  refine z_imul dT_open_73 ?_
  refine z_isub dT_open_74 ?_
  refine z_ldc (v := 32768) dT_open_75 (bwT b_72) ?_
  refine z_iadd dT_open_77 ?_
  refine z_pure (z_S hE zEok_0 (c_shifted _ _ _) dT_open_78 (gd_S b_73 b_74 b_1 b_75) rfl qT_shifted.2 ⟨rfl, rfl⟩ (by rw [hR]; decide) (by rw [hR, hC, hS]; decide) rfl (Nat.le_of_ble_eq_true rfl)) (fun r hr => ?_)
  subst hr
  simp only [zpush, zv]
  refine z_iadd dT_open_81 ?_
  refine z_pure (z_S hE zEok_0 (c_limit _ _ _) dT_open_82 (gd_S b_76 b_77 b_1 b_78) rfl qT_limit.2 ⟨rfl, rfl⟩ (by rw [hR]; decide) (by rw [hR, hC, hS]; decide) rfl (Nat.le_of_ble_eq_true rfl)) (fun r hr => ?_)
  subst hr
  simp only [zpush, zv]
  refine z_iload_n dT_open_85 rfl ?_
  refine z_ldc (v := 116130) dT_open_86 (bwT b_86) ?_
  refine z_iload_n dT_open_88 rfl ?_
  refine z_imul dT_open_89 ?_
  refine z_ldc (v := 32768) dT_open_90 (bwT b_72) ?_
  refine z_iadd dT_open_92 ?_
  refine z_pure (z_S hE zEok_0 (c_shifted _ _ _) dT_open_93 (gd_S b_73 b_74 b_1 b_75) rfl qT_shifted.2 ⟨rfl, rfl⟩ (by rw [hR]; decide) (by rw [hR, hC, hS]; decide) rfl (Nat.le_of_ble_eq_true rfl)) (fun r hr => ?_)
  subst hr
  simp only [zpush, zv]
  refine z_iadd dT_open_96 ?_
  refine z_pure (z_S hE zEok_0 (c_limit _ _ _) dT_open_97 (gd_S b_76 b_77 b_1 b_78) rfl qT_limit.2 ⟨rfl, rfl⟩ (by rw [hR]; decide) (by rw [hR, hC, hS]; decide) rfl (Nat.le_of_ble_eq_true rfl)) (fun r hr => ?_)
  subst hr
  simp only [zpush, zv]
  refine z_same (z_V (C := RT) (b := 0) hE zEok_0 (c_setColours _ D ca ad f g w h p hp _ _ _) dT_open_100 (gd_V b_87 b_89 bs_3 b_1 b_90) rfl qT_setColours ⟨rfl, rfl⟩ (by rw [hR]; decide) (by rw [hR, hC, hS]; decide) rfl (Nat.le_of_ble_eq_true rfl) rfl rfl) (fun r aw1 hlen hr => ?_)
  obtain ⟨rfl, rfl⟩ := hr
  simp only [zpush]
  exact z_return dT_open_103 hret ⟨Nat.le_of_eq hC, Nat.le_of_eq hS⟩ rfl ⟨rfl, rfl⟩
set_option maxRecDepth 100000 in
set_option maxHeartbeats 4000000 in
theorem c_close (l : Launch) (D : va_G) (ca : Nat → ClassId) (ad : Nat → Nat) (f g : Nat → Nat → Int32) (w h : Nat → Nat) (p : Nat) (hp : p < 1024) : zMet l yT_close wT_close (rmk 2 0 0) zE0 (gG D ca ad) (twn ca f g w h) [.ref 0, .int (nI p)] (fun r aw => r = none ∧ aw = twn ca (up3 f p (clC (f 0 p) (f 1 p) (f 2 p))) g w h) := by
  refine zMet.of (cc := cT_close) (maxL := 5) (ret := none) (lv := [some (.ref 0), some (.int (nI p)), none, none, none]) (by decide) rfl (Nat.le_of_ble_eq_true rfl) rfl (fun M hl0 hR hC hS hE hret => ?_)
  refine z_aload_n dT_close_0 rfl ?_
  refine z_get (C := RT) (T := TT) (N := 1) (ref := "ToneMixer") 0 dT_close_1 rfl rfl rfl (by decide) (fun w h => bwT (hbT w h)) (bwT b_44) rfl ?_
  refine z_iconst (v := 0) dT_close_4 (by decide) ?_
  refine z_aaldN (t0 := 2) (k := 0) dT_close_5 rfl rfl (rfl) (by decide) (by decide) rfl ?_
  refine z_get (C := RP) (T := TP) (N := 4) (ref := "ToneMixer$Plane") 0 dT_close_6 rfl rfl rfl (by decide) (fun w h => bwT (hbP w h)) (bwT b_28) rfl ?_
  refine z_iload_n dT_close_9 rfl ?_
  refine z_ialdN (t0 := 0) (k := p) dT_close_10 rfl rfl (rfl) (hp) (by decide) ?_
  refine z_istore_n dT_close_11 (by decide) rfl ?_
  try simp only [List.set_cons_succ, List.set_cons_zero]
  refine z_aload_n dT_close_12 rfl ?_
  refine z_get (C := RT) (T := TT) (N := 1) (ref := "ToneMixer") 0 dT_close_13 rfl rfl rfl (by decide) (fun w h => bwT (hbT w h)) (bwT b_44) rfl ?_
  refine z_iconst (v := 1) dT_close_16 (by decide) ?_
  refine z_aaldN (t0 := 2) (k := 1) dT_close_17 rfl rfl (rfl) (by decide) (by decide) rfl ?_
  refine z_get (C := RP) (T := TP) (N := 4) (ref := "ToneMixer$Plane") 0 dT_close_18 rfl rfl rfl (by decide) (fun w h => bwT (hbP w h)) (bwT b_28) rfl ?_
  refine z_iload_n dT_close_21 rfl ?_
  refine z_ialdN (t0 := 0) (k := p) dT_close_22 rfl rfl (rfl) (hp) (by decide) ?_
  refine z_istore_n dT_close_23 (by decide) rfl ?_
  try simp only [List.set_cons_succ, List.set_cons_zero]
  refine z_aload_n dT_close_24 rfl ?_
  refine z_get (C := RT) (T := TT) (N := 1) (ref := "ToneMixer") 0 dT_close_25 rfl rfl rfl (by decide) (fun w h => bwT (hbT w h)) (bwT b_44) rfl ?_
  refine z_iconst (v := 2) dT_close_28 (by decide) ?_
  refine z_aaldN (t0 := 2) (k := 2) dT_close_29 rfl rfl (rfl) (by decide) (by decide) rfl ?_
  refine z_get (C := RP) (T := TP) (N := 4) (ref := "ToneMixer$Plane") 0 dT_close_30 rfl rfl rfl (by decide) (fun w h => bwT (hbP w h)) (bwT b_28) rfl ?_
  refine z_iload_n dT_close_33 rfl ?_
  refine z_ialdN (t0 := 0) (k := p) dT_close_34 rfl rfl (rfl) (hp) (by decide) ?_
  refine z_istore dT_close_35 (by decide) rfl ?_
  try simp only [List.set_cons_succ, List.set_cons_zero]
  refine z_aload_n dT_close_37 rfl ?_
  refine z_iload_n dT_close_38 rfl ?_
  refine z_iload_n dT_close_39 rfl ?_
  refine z_iload_n dT_close_40 rfl ?_
  refine z_iload dT_close_41 rfl ?_
  refine z_pure (z_S hE zEok_0 (c_brightness _ _ _ _ _) dT_close_43 (gd_S b_95 b_96 b_1 b_97) rfl qT_brightness.2 ⟨rfl, rfl⟩ (by rw [hR]; decide) (by rw [hR, hC, hS]; decide) rfl (Nat.le_of_ble_eq_true rfl)) (fun r hr => ?_)
  subst hr
  simp only [zpush, zv]
  refine z_sipush (v := -11059) dT_close_46 (by decide) ?_
  refine z_iload_n dT_close_49 rfl ?_
  refine z_imul dT_close_50 ?_
  refine z_sipush (v := 21709) dT_close_51 (by decide) ?_
  refine z_iload_n dT_close_54 rfl ?_
  refine z_imul dT_close_55 ?_
  refine z_isub dT_close_56 ?_
  refine z_ldc (v := 32768) dT_close_57 (bwT b_72) ?_
  refine z_iload dT_close_59 rfl ?_
  refine z_imul dT_close_61 ?_
  refine z_iadd dT_close_62 ?_
  refine z_ldc (v := 8421375) dT_close_63 (bwT b_99) ?_
  refine z_iadd dT_close_65 ?_
  refine z_pure (z_S hE zEok_0 (c_shifted _ _ _) dT_close_66 (gd_S b_73 b_74 b_1 b_75) rfl qT_shifted.2 ⟨rfl, rfl⟩ (by rw [hR]; decide) (by rw [hR, hC, hS]; decide) rfl (Nat.le_of_ble_eq_true rfl)) (fun r hr => ?_)
  subst hr
  simp only [zpush, zv]
  refine z_ldc (v := 32768) dT_close_69 (bwT b_72) ?_
  refine z_iload_n dT_close_71 rfl ?_
  refine z_imul dT_close_72 ?_
  refine z_sipush (v := 27439) dT_close_73 (by decide) ?_
  refine z_iload_n dT_close_76 rfl ?_
  refine z_imul dT_close_77 ?_
  refine z_isub dT_close_78 ?_
  refine z_sipush (v := 5329) dT_close_79 (by decide) ?_
  refine z_iload dT_close_82 rfl ?_
  refine z_imul dT_close_84 ?_
  refine z_isub dT_close_85 ?_
  refine z_ldc (v := 8421375) dT_close_86 (bwT b_99) ?_
  refine z_iadd dT_close_88 ?_
  refine z_pure (z_S hE zEok_0 (c_shifted _ _ _) dT_close_89 (gd_S b_73 b_74 b_1 b_75) rfl qT_shifted.2 ⟨rfl, rfl⟩ (by rw [hR]; decide) (by rw [hR, hC, hS]; decide) rfl (Nat.le_of_ble_eq_true rfl)) (fun r hr => ?_)
  subst hr
  simp only [zpush, zv]
  refine z_same (z_V (C := RT) (b := 0) hE zEok_0 (c_setColours _ D ca ad f g w h p hp _ _ _) dT_close_92 (gd_V b_87 b_89 bs_3 b_1 b_90) rfl qT_setColours ⟨rfl, rfl⟩ (by rw [hR]; decide) (by rw [hR, hC, hS]; decide) rfl (Nat.le_of_ble_eq_true rfl) rfl rfl) (fun r aw1 hlen hr => ?_)
  obtain ⟨rfl, rfl⟩ := hr
  simp only [zpush]
  exact z_return dT_close_95 hret ⟨Nat.le_of_eq hC, Nat.le_of_eq hS⟩ rfl ⟨rfl, rfl⟩
set_option maxRecDepth 100000 in
set_option maxHeartbeats 4000000 in
theorem c_invert (l : Launch) (D : va_G) (ca : Nat → ClassId) (ad : Nat → Nat) (f g : Nat → Nat → Int32) (w h : Nat → Nat) (p : Nat) (hp : p < 1024) : zMet l yT_invert wT_invert (rmk 1 0 0) zE0 (gG D ca ad) (twn ca f g w h) [.ref 0, .int (nI p)] (fun r aw => r = none ∧ aw = twn ca (up3 f p (inC (f 0 p) (f 1 p) (f 2 p))) g w h) := by
  refine zMet.of (cc := cT_invert) (maxL := 2) (ret := none) (lv := [some (.ref 0), some (.int (nI p))]) (by decide) rfl (Nat.le_of_ble_eq_true rfl) rfl (fun M hl0 hR hC hS hE hret => ?_)
  refine z_aload_n dT_invert_0 rfl ?_
  refine z_iload_n dT_invert_1 rfl ?_
  refine z_sipush (v := 255) dT_invert_2 (by decide) ?_
  refine z_aload_n dT_invert_5 rfl ?_
  refine z_get (C := RT) (T := TT) (N := 1) (ref := "ToneMixer") 0 dT_invert_6 rfl rfl rfl (by decide) (fun w h => bwT (hbT w h)) (bwT b_44) rfl ?_
  refine z_iconst (v := 0) dT_invert_9 (by decide) ?_
  refine z_aaldN (t0 := 2) (k := 0) dT_invert_10 rfl rfl (rfl) (by decide) (by decide) rfl ?_
  refine z_get (C := RP) (T := TP) (N := 4) (ref := "ToneMixer$Plane") 0 dT_invert_11 rfl rfl rfl (by decide) (fun w h => bwT (hbP w h)) (bwT b_28) rfl ?_
  refine z_iload_n dT_invert_14 rfl ?_
  refine z_ialdN (t0 := 0) (k := p) dT_invert_15 rfl rfl (rfl) (hp) (by decide) ?_
  refine z_isub dT_invert_16 ?_
  refine z_sipush (v := 255) dT_invert_17 (by decide) ?_
  refine z_aload_n dT_invert_20 rfl ?_
  refine z_get (C := RT) (T := TT) (N := 1) (ref := "ToneMixer") 0 dT_invert_21 rfl rfl rfl (by decide) (fun w h => bwT (hbT w h)) (bwT b_44) rfl ?_
  refine z_iconst (v := 1) dT_invert_24 (by decide) ?_
  refine z_aaldN (t0 := 2) (k := 1) dT_invert_25 rfl rfl (rfl) (by decide) (by decide) rfl ?_
  refine z_get (C := RP) (T := TP) (N := 4) (ref := "ToneMixer$Plane") 0 dT_invert_26 rfl rfl rfl (by decide) (fun w h => bwT (hbP w h)) (bwT b_28) rfl ?_
  refine z_iload_n dT_invert_29 rfl ?_
  refine z_ialdN (t0 := 0) (k := p) dT_invert_30 rfl rfl (rfl) (hp) (by decide) ?_
  refine z_isub dT_invert_31 ?_
  refine z_sipush (v := 255) dT_invert_32 (by decide) ?_
  refine z_aload_n dT_invert_35 rfl ?_
  refine z_get (C := RT) (T := TT) (N := 1) (ref := "ToneMixer") 0 dT_invert_36 rfl rfl rfl (by decide) (fun w h => bwT (hbT w h)) (bwT b_44) rfl ?_
  refine z_iconst (v := 2) dT_invert_39 (by decide) ?_
  refine z_aaldN (t0 := 2) (k := 2) dT_invert_40 rfl rfl (rfl) (by decide) (by decide) rfl ?_
  refine z_get (C := RP) (T := TP) (N := 4) (ref := "ToneMixer$Plane") 0 dT_invert_41 rfl rfl rfl (by decide) (fun w h => bwT (hbP w h)) (bwT b_28) rfl ?_
  refine z_iload_n dT_invert_44 rfl ?_
  refine z_ialdN (t0 := 0) (k := p) dT_invert_45 rfl rfl (rfl) (hp) (by decide) ?_
  refine z_isub dT_invert_46 ?_
  refine z_same (z_V (C := RT) (b := 0) hE zEok_0 (c_setColours _ D ca ad f g w h p hp _ _ _) dT_invert_47 (gd_V b_87 b_89 bs_3 b_1 b_90) rfl qT_setColours ⟨rfl, rfl⟩ (by rw [hR]; decide) (by rw [hR, hC, hS]; decide) rfl (Nat.le_of_ble_eq_true rfl) rfl rfl) (fun r aw1 hlen hr => ?_)
  obtain ⟨rfl, rfl⟩ := hr
  simp only [zpush]
  exact z_return dT_invert_50 hret ⟨Nat.le_of_eq hC, Nat.le_of_eq hS⟩ rfl ⟨rfl, rfl⟩
set_option maxRecDepth 100000 in
set_option maxHeartbeats 4000000 in
theorem c_darken (l : Launch) (D : va_G) (ca : Nat → ClassId) (ad : Nat → Nat) (f g : Nat → Nat → Int32) (w h : Nat → Nat) (p : Nat) (hp : p < 1024) : zMet l yT_darken wT_darken (rmk 1 0 0) zE0 (gG D ca ad) (twn ca f g w h) [.ref 0, .int (nI p)] (fun r aw => r = none ∧ aw = twn ca (up3 f p (daC (f 0 p) (f 1 p) (f 2 p) (f 3 p))) g w h) := by
  refine zMet.of (cc := cT_darken) (maxL := 3) (ret := none) (lv := [some (.ref 0), some (.int (nI p)), none]) (by decide) rfl (Nat.le_of_ble_eq_true rfl) rfl (fun M hl0 hR hC hS hE hret => ?_)
  refine z_sipush (v := 255) dT_darken_0 (by decide) ?_
  refine z_aload_n dT_darken_3 rfl ?_
  refine z_get (C := RT) (T := TT) (N := 1) (ref := "ToneMixer") 0 dT_darken_4 rfl rfl rfl (by decide) (fun w h => bwT (hbT w h)) (bwT b_44) rfl ?_
  refine z_iconst (v := 3) dT_darken_7 (by decide) ?_
  refine z_aaldN (t0 := 2) (k := 3) dT_darken_8 rfl rfl (rfl) (by decide) (by decide) rfl ?_
  refine z_get (C := RP) (T := TP) (N := 4) (ref := "ToneMixer$Plane") 0 dT_darken_9 rfl rfl rfl (by decide) (fun w h => bwT (hbP w h)) (bwT b_28) rfl ?_
  refine z_iload_n dT_darken_12 rfl ?_
  refine z_ialdN (t0 := 0) (k := p) dT_darken_13 rfl rfl (rfl) (hp) (by decide) ?_
  refine z_isub dT_darken_14 ?_
  refine z_istore_n dT_darken_15 (by decide) rfl ?_
  try simp only [List.set_cons_succ, List.set_cons_zero]
  refine z_aload_n dT_darken_16 rfl ?_
  refine z_iload_n dT_darken_17 rfl ?_
  refine z_aload_n dT_darken_18 rfl ?_
  refine z_get (C := RT) (T := TT) (N := 1) (ref := "ToneMixer") 0 dT_darken_19 rfl rfl rfl (by decide) (fun w h => bwT (hbT w h)) (bwT b_44) rfl ?_
  refine z_iconst (v := 0) dT_darken_22 (by decide) ?_
  refine z_aaldN (t0 := 2) (k := 0) dT_darken_23 rfl rfl (rfl) (by decide) (by decide) rfl ?_
  refine z_get (C := RP) (T := TP) (N := 4) (ref := "ToneMixer$Plane") 0 dT_darken_24 rfl rfl rfl (by decide) (fun w h => bwT (hbP w h)) (bwT b_28) rfl ?_
  refine z_iload_n dT_darken_27 rfl ?_
  refine z_ialdN (t0 := 0) (k := p) dT_darken_28 rfl rfl (rfl) (hp) (by decide) ?_
  refine z_iload_n dT_darken_29 rfl ?_
  refine z_pure (z_S hE zEok_0 (c_darkened _ _ _ _) dT_darken_30 (gd_S b_108 b_109 b_1 b_110) rfl qT_darkened.2 ⟨rfl, rfl⟩ (by rw [hR]; decide) (by rw [hR, hC, hS]; decide) rfl (Nat.le_of_ble_eq_true rfl)) (fun r hr => ?_)
  subst hr
  simp only [zpush, zv]
  refine z_aload_n dT_darken_33 rfl ?_
  refine z_get (C := RT) (T := TT) (N := 1) (ref := "ToneMixer") 0 dT_darken_34 rfl rfl rfl (by decide) (fun w h => bwT (hbT w h)) (bwT b_44) rfl ?_
  refine z_iconst (v := 1) dT_darken_37 (by decide) ?_
  refine z_aaldN (t0 := 2) (k := 1) dT_darken_38 rfl rfl (rfl) (by decide) (by decide) rfl ?_
  refine z_get (C := RP) (T := TP) (N := 4) (ref := "ToneMixer$Plane") 0 dT_darken_39 rfl rfl rfl (by decide) (fun w h => bwT (hbP w h)) (bwT b_28) rfl ?_
  refine z_iload_n dT_darken_42 rfl ?_
  refine z_ialdN (t0 := 0) (k := p) dT_darken_43 rfl rfl (rfl) (hp) (by decide) ?_
  refine z_iload_n dT_darken_44 rfl ?_
  refine z_pure (z_S hE zEok_0 (c_darkened _ _ _ _) dT_darken_45 (gd_S b_108 b_109 b_1 b_110) rfl qT_darkened.2 ⟨rfl, rfl⟩ (by rw [hR]; decide) (by rw [hR, hC, hS]; decide) rfl (Nat.le_of_ble_eq_true rfl)) (fun r hr => ?_)
  subst hr
  simp only [zpush, zv]
  refine z_aload_n dT_darken_48 rfl ?_
  refine z_get (C := RT) (T := TT) (N := 1) (ref := "ToneMixer") 0 dT_darken_49 rfl rfl rfl (by decide) (fun w h => bwT (hbT w h)) (bwT b_44) rfl ?_
  refine z_iconst (v := 2) dT_darken_52 (by decide) ?_
  refine z_aaldN (t0 := 2) (k := 2) dT_darken_53 rfl rfl (rfl) (by decide) (by decide) rfl ?_
  refine z_get (C := RP) (T := TP) (N := 4) (ref := "ToneMixer$Plane") 0 dT_darken_54 rfl rfl rfl (by decide) (fun w h => bwT (hbP w h)) (bwT b_28) rfl ?_
  refine z_iload_n dT_darken_57 rfl ?_
  refine z_ialdN (t0 := 0) (k := p) dT_darken_58 rfl rfl (rfl) (hp) (by decide) ?_
  refine z_iload_n dT_darken_59 rfl ?_
  refine z_pure (z_S hE zEok_0 (c_darkened _ _ _ _) dT_darken_60 (gd_S b_108 b_109 b_1 b_110) rfl qT_darkened.2 ⟨rfl, rfl⟩ (by rw [hR]; decide) (by rw [hR, hC, hS]; decide) rfl (Nat.le_of_ble_eq_true rfl)) (fun r hr => ?_)
  subst hr
  simp only [zpush, zv]
  refine z_same (z_V (C := RT) (b := 0) hE zEok_0 (c_setColours _ D ca ad f g w h p hp _ _ _) dT_darken_63 (gd_V b_87 b_89 bs_3 b_1 b_90) rfl qT_setColours ⟨rfl, rfl⟩ (by rw [hR]; decide) (by rw [hR, hC, hS]; decide) rfl (Nat.le_of_ble_eq_true rfl) rfl rfl) (fun r aw1 hlen hr => ?_)
  obtain ⟨rfl, rfl⟩ := hr
  simp only [zpush]
  exact z_return dT_darken_66 hret ⟨Nat.le_of_eq hC, Nat.le_of_eq hS⟩ rfl ⟨rfl, rfl⟩
set_option maxRecDepth 100000 in
set_option maxHeartbeats 4000000 in
theorem c_grey (l : Launch) (D : va_G) (ca : Nat → ClassId) (ad : Nat → Nat) (f g : Nat → Nat → Int32) (w h : Nat → Nat) (p : Nat) (hp : p < 1024) : zMet l yT_grey wT_grey (rmk 2 0 0) zE0 (gG D ca ad) (twn ca f g w h) [.ref 0, .int (nI p)] (fun r aw => r = none ∧ aw = twn ca (up3 f p (gyC (f 0 p) (f 1 p) (f 2 p))) g w h) := by
  refine zMet.of (cc := cT_grey) (maxL := 3) (ret := none) (lv := [some (.ref 0), some (.int (nI p)), none]) (by decide) rfl (Nat.le_of_ble_eq_true rfl) rfl (fun M hl0 hR hC hS hE hret => ?_)
  refine z_aload_n dT_grey_0 rfl ?_
  refine z_get (C := RT) (T := TT) (N := 1) (ref := "ToneMixer") 0 dT_grey_1 rfl rfl rfl (by decide) (fun w h => bwT (hbT w h)) (bwT b_44) rfl ?_
  refine z_iconst (v := 0) dT_grey_4 (by decide) ?_
  refine z_aaldN (t0 := 2) (k := 0) dT_grey_5 rfl rfl (rfl) (by decide) (by decide) rfl ?_
  refine z_get (C := RP) (T := TP) (N := 4) (ref := "ToneMixer$Plane") 0 dT_grey_6 rfl rfl rfl (by decide) (fun w h => bwT (hbP w h)) (bwT b_28) rfl ?_
  refine z_iload_n dT_grey_9 rfl ?_
  refine z_ialdN (t0 := 0) (k := p) dT_grey_10 rfl rfl (rfl) (hp) (by decide) ?_
  refine z_aload_n dT_grey_11 rfl ?_
  refine z_get (C := RT) (T := TT) (N := 1) (ref := "ToneMixer") 0 dT_grey_12 rfl rfl rfl (by decide) (fun w h => bwT (hbT w h)) (bwT b_44) rfl ?_
  refine z_iconst (v := 1) dT_grey_15 (by decide) ?_
  refine z_aaldN (t0 := 2) (k := 1) dT_grey_16 rfl rfl (rfl) (by decide) (by decide) rfl ?_
  refine z_get (C := RP) (T := TP) (N := 4) (ref := "ToneMixer$Plane") 0 dT_grey_17 rfl rfl rfl (by decide) (fun w h => bwT (hbP w h)) (bwT b_28) rfl ?_
  refine z_iload_n dT_grey_20 rfl ?_
  refine z_ialdN (t0 := 0) (k := p) dT_grey_21 rfl rfl (rfl) (hp) (by decide) ?_
  refine z_aload_n dT_grey_22 rfl ?_
  refine z_get (C := RT) (T := TT) (N := 1) (ref := "ToneMixer") 0 dT_grey_23 rfl rfl rfl (by decide) (fun w h => bwT (hbT w h)) (bwT b_44) rfl ?_
  refine z_iconst (v := 2) dT_grey_26 (by decide) ?_
  refine z_aaldN (t0 := 2) (k := 2) dT_grey_27 rfl rfl (rfl) (by decide) (by decide) rfl ?_
  refine z_get (C := RP) (T := TP) (N := 4) (ref := "ToneMixer$Plane") 0 dT_grey_28 rfl rfl rfl (by decide) (fun w h => bwT (hbP w h)) (bwT b_28) rfl ?_
  refine z_iload_n dT_grey_31 rfl ?_
  refine z_ialdN (t0 := 0) (k := p) dT_grey_32 rfl rfl (rfl) (hp) (by decide) ?_
  refine z_pure (z_S hE zEok_0 (c_brightness _ _ _ _ _) dT_grey_33 (gd_S b_95 b_96 b_1 b_97) rfl qT_brightness.2 ⟨rfl, rfl⟩ (by rw [hR]; decide) (by rw [hR, hC, hS]; decide) rfl (Nat.le_of_ble_eq_true rfl)) (fun r hr => ?_)
  subst hr
  simp only [zpush, zv]
  refine z_istore_n dT_grey_36 (by decide) rfl ?_
  try simp only [List.set_cons_succ, List.set_cons_zero]
  refine z_aload_n dT_grey_37 rfl ?_
  refine z_iload_n dT_grey_38 rfl ?_
  refine z_iload_n dT_grey_39 rfl ?_
  refine z_iload_n dT_grey_40 rfl ?_
  refine z_iload_n dT_grey_41 rfl ?_
  refine z_same (z_V (C := RT) (b := 0) hE zEok_0 (c_setColours _ D ca ad f g w h p hp _ _ _) dT_grey_42 (gd_V b_87 b_89 bs_3 b_1 b_90) rfl qT_setColours ⟨rfl, rfl⟩ (by rw [hR]; decide) (by rw [hR, hC, hS]; decide) rfl (Nat.le_of_ble_eq_true rfl) rfl rfl) (fun r aw1 hlen hr => ?_)
  obtain ⟨rfl, rfl⟩ := hr
  simp only [zpush]
  exact z_return dT_grey_45 hret ⟨Nat.le_of_eq hC, Nat.le_of_eq hS⟩ rfl ⟨rfl, rfl⟩
set_option maxRecDepth 100000 in
set_option maxHeartbeats 4000000 in
theorem c_mixPlace (l : Launch) (D : va_G) (ca : Nat → ClassId) (ad : Nat → Nat) (f g : Nat → Nat → Int32) (w h : Nat → Nat) (v p : Nat) (hv : v ≤ 6) (hp : p < 1024) : zMet l yT_mixPlace wT_mixPlace (rmk 3 0 0) zE0 (gG D ca ad) (twn ca f g w h) [.ref 0, .int (nI v), .int (nI p)] (fun r aw => r = none ∧ aw = twn ca (up3 f p (mxP v (f 0 p) (f 1 p) (f 2 p) (f 3 p))) g w h) := by
  refine zMet.of (cc := cT_mixPlace) (maxL := 3) (ret := none) (lv := [some (.ref 0), some (.int (nI v)), some (.int (nI p))]) (by decide) rfl (Nat.le_of_ble_eq_true rfl) rfl (fun M hl0 hR hC hS hE hret => ?_)
  refine z_iload_n dT_mixPlace_0 rfl ?_
  rcases (show v = 0 ∨ v = 1 ∨ v = 2 ∨ v = 3 ∨ v = 4 ∨ v = 5 ∨ v = 6 by omega) with rfl | rfl | rfl | rfl | rfl | rfl | rfl
  · refine z_tableIn (off := 43) (tgt := 44) dT_mixPlace_1 (by decide) (by decide) rfl (by decide) ?_
    refine z_aload_n dT_mixPlace_44 rfl ?_
    refine z_iload_n dT_mixPlace_45 rfl ?_
    refine z_same (z_V (C := RT) (b := 0) hE zEok_0 (c_open _ D ca ad f g w h p hp) dT_mixPlace_46 (gd_V b_67 b_69 bs_2 b_1 b_70) rfl qT_open ⟨rfl, rfl⟩ (by rw [hR]; decide) (by rw [hR, hC, hS]; decide) rfl (Nat.le_of_ble_eq_true rfl) rfl rfl) (fun r aw1 hlen hr => ?_)
    obtain ⟨rfl, rfl⟩ := hr
    simp only [zpush]
    refine z_goto (tgt := 110) dT_mixPlace_49 (by decide) ?_
    exact z_return dT_mixPlace_110 hret ⟨Nat.le_of_eq hC, Nat.le_of_eq hS⟩ rfl ⟨rfl, rfl⟩
  · refine z_tableIn (off := 51) (tgt := 52) dT_mixPlace_1 (by decide) (by decide) rfl (by decide) ?_
    refine z_aload_n dT_mixPlace_52 rfl ?_
    refine z_iload_n dT_mixPlace_53 rfl ?_
    refine z_same (z_V (C := RT) (b := 0) hE zEok_0 (c_close _ D ca ad f g w h p hp) dT_mixPlace_54 (gd_V b_91 b_93 bs_4 b_1 b_94) rfl qT_close ⟨rfl, rfl⟩ (by rw [hR]; decide) (by rw [hR, hC, hS]; decide) rfl (Nat.le_of_ble_eq_true rfl) rfl rfl) (fun r aw1 hlen hr => ?_)
    obtain ⟨rfl, rfl⟩ := hr
    simp only [zpush]
    refine z_goto (tgt := 110) dT_mixPlace_57 (by decide) ?_
    exact z_return dT_mixPlace_110 hret ⟨Nat.le_of_eq hC, Nat.le_of_eq hS⟩ rfl ⟨rfl, rfl⟩
  · refine z_tableIn (off := 59) (tgt := 60) dT_mixPlace_1 (by decide) (by decide) rfl (by decide) ?_
    refine z_aload_n dT_mixPlace_60 rfl ?_
    refine z_iload_n dT_mixPlace_61 rfl ?_
    refine z_same (z_V (C := RT) (b := 0) hE zEok_0 (c_invert _ D ca ad f g w h p hp) dT_mixPlace_62 (gd_V b_100 b_102 bs_5 b_1 b_103) rfl qT_invert ⟨rfl, rfl⟩ (by rw [hR]; decide) (by rw [hR, hC, hS]; decide) rfl (Nat.le_of_ble_eq_true rfl) rfl rfl) (fun r aw1 hlen hr => ?_)
    obtain ⟨rfl, rfl⟩ := hr
    simp only [zpush]
    refine z_goto (tgt := 110) dT_mixPlace_65 (by decide) ?_
    exact z_return dT_mixPlace_110 hret ⟨Nat.le_of_eq hC, Nat.le_of_eq hS⟩ rfl ⟨rfl, rfl⟩
  · refine z_tableIn (off := 67) (tgt := 68) dT_mixPlace_1 (by decide) (by decide) rfl (by decide) ?_
    refine z_aload_n dT_mixPlace_68 rfl ?_
    refine z_iload_n dT_mixPlace_69 rfl ?_
    refine z_same (z_V (C := RT) (b := 0) hE zEok_0 (c_darken _ D ca ad f g w h p hp) dT_mixPlace_70 (gd_V b_104 b_106 bs_6 b_1 b_107) rfl qT_darken ⟨rfl, rfl⟩ (by rw [hR]; decide) (by rw [hR, hC, hS]; decide) rfl (Nat.le_of_ble_eq_true rfl) rfl rfl) (fun r aw1 hlen hr => ?_)
    obtain ⟨rfl, rfl⟩ := hr
    simp only [zpush]
    refine z_goto (tgt := 110) dT_mixPlace_73 (by decide) ?_
    exact z_return dT_mixPlace_110 hret ⟨Nat.le_of_eq hC, Nat.le_of_eq hS⟩ rfl ⟨rfl, rfl⟩
  · refine z_tableIn (off := 75) (tgt := 76) dT_mixPlace_1 (by decide) (by decide) rfl (by decide) ?_
    refine z_aload_n dT_mixPlace_76 rfl ?_
    refine z_iload_n dT_mixPlace_77 rfl ?_
    refine z_same (z_V (C := RT) (b := 0) hE zEok_0 (c_grey _ D ca ad f g w h p hp) dT_mixPlace_78 (gd_V b_111 b_113 bs_7 b_1 b_114) rfl qT_grey ⟨rfl, rfl⟩ (by rw [hR]; decide) (by rw [hR, hC, hS]; decide) rfl (Nat.le_of_ble_eq_true rfl) rfl rfl) (fun r aw1 hlen hr => ?_)
    obtain ⟨rfl, rfl⟩ := hr
    simp only [zpush]
    refine z_goto (tgt := 110) dT_mixPlace_81 (by decide) ?_
    exact z_return dT_mixPlace_110 hret ⟨Nat.le_of_eq hC, Nat.le_of_eq hS⟩ rfl ⟨rfl, rfl⟩
  · refine z_tableIn (off := 83) (tgt := 84) dT_mixPlace_1 (by decide) (by decide) rfl (by decide) ?_
    refine z_aload_n dT_mixPlace_84 rfl ?_
    refine z_iload_n dT_mixPlace_85 rfl ?_
    refine z_same (z_V (C := RT) (b := 0) hE zEok_0 (c_open _ D ca ad f g w h p hp) dT_mixPlace_86 (gd_V b_67 b_69 bs_2 b_1 b_70) rfl qT_open ⟨rfl, rfl⟩ (by rw [hR]; decide) (by rw [hR, hC, hS]; decide) rfl (Nat.le_of_ble_eq_true rfl) rfl rfl) (fun r aw1 hlen hr => ?_)
    obtain ⟨rfl, rfl⟩ := hr
    simp only [zpush]
    refine z_aload_n dT_mixPlace_89 rfl ?_
    refine z_iload_n dT_mixPlace_90 rfl ?_
    refine z_same (z_V (C := RT) (b := 0) hE zEok_0 (c_invert _ D ca ad (up3 f p (opC (f 0 p) (f 1 p) (f 2 p))) g w h p hp) dT_mixPlace_91 (gd_V b_100 b_102 bs_5 b_1 b_103) rfl qT_invert ⟨rfl, rfl⟩ (by rw [hR]; decide) (by rw [hR, hC, hS]; decide) rfl (Nat.le_of_ble_eq_true rfl) rfl rfl) (fun r aw1 hlen hr => ?_)
    obtain ⟨rfl, rfl⟩ := hr
    simp only [zpush]
    rw [up3_up3, (up3_at _ _ _).1, (up3_at _ _ _).2.1, (up3_at _ _ _).2.2.1]
    refine z_goto (tgt := 110) dT_mixPlace_94 (by decide) ?_
    exact z_return dT_mixPlace_110 hret ⟨Nat.le_of_eq hC, Nat.le_of_eq hS⟩ rfl ⟨rfl, rfl⟩
  · refine z_tableIn (off := 96) (tgt := 97) dT_mixPlace_1 (by decide) (by decide) rfl (by decide) ?_
    refine z_aload_n dT_mixPlace_97 rfl ?_
    refine z_iload_n dT_mixPlace_98 rfl ?_
    refine z_same (z_V (C := RT) (b := 0) hE zEok_0 (c_invert _ D ca ad f g w h p hp) dT_mixPlace_99 (gd_V b_100 b_102 bs_5 b_1 b_103) rfl qT_invert ⟨rfl, rfl⟩ (by rw [hR]; decide) (by rw [hR, hC, hS]; decide) rfl (Nat.le_of_ble_eq_true rfl) rfl rfl) (fun r aw1 hlen hr => ?_)
    obtain ⟨rfl, rfl⟩ := hr
    simp only [zpush]
    refine z_aload_n dT_mixPlace_102 rfl ?_
    refine z_iload_n dT_mixPlace_103 rfl ?_
    refine z_same (z_V (C := RT) (b := 0) hE zEok_0 (c_close _ D ca ad (up3 f p (inC (f 0 p) (f 1 p) (f 2 p))) g w h p hp) dT_mixPlace_104 (gd_V b_91 b_93 bs_4 b_1 b_94) rfl qT_close ⟨rfl, rfl⟩ (by rw [hR]; decide) (by rw [hR, hC, hS]; decide) rfl (Nat.le_of_ble_eq_true rfl) rfl rfl) (fun r aw1 hlen hr => ?_)
    obtain ⟨rfl, rfl⟩ := hr
    simp only [zpush]
    rw [up3_up3, (up3_at _ _ _).1, (up3_at _ _ _).2.1, (up3_at _ _ _).2.2.1]
    refine z_goto (tgt := 110) dT_mixPlace_107 (by decide) ?_
    exact z_return dT_mixPlace_110 hret ⟨Nat.le_of_eq hC, Nat.le_of_eq hS⟩ rfl ⟨rfl, rfl⟩
def sameS (c : Nat) (w h : Nat → Nat) : Prop := ∀ i, 1 ≤ i → i < c → w i = w 0 ∧ h i = h 0
set_option maxRecDepth 100000 in
set_option maxHeartbeats 4000000 in
theorem c_first3 (l : Launch) (D : va_G) (ca : Nat → ClassId) (ad : Nat → Nat) (f g : Nat → Nat → Int32) (w h : Nat → Nat) (hwh : okW w h) : zMet l yT_firstAreOfOneSize wT_firstAreOfOneSize (rmk 1 0 0) zE0 (gG D ca ad) (twn ca f g w h) [.ref 0, .int 3] (fun r aw => aw = twn ca f g w h ∧ ((sameS 3 w h ∧ r = some (.int 1)) ∨ (¬ sameS 3 w h ∧ r = some (.int 0)))) := by
  refine zMet.of (cc := cT_firstAreOfOneSize) (maxL := 3) (ret := (some .boolean)) (lv := [some (.ref 0), some (.int 3), none]) (by decide) rfl (Nat.le_of_ble_eq_true rfl) rfl (fun M hl0 hR hC hS hE hret => ?_)
  have b0 := hwh 0 (by omega)
  refine z_iconst (v := 1) dT_firstAreOfOneSize_0 (by decide) ?_
  refine z_istore_n dT_firstAreOfOneSize_1 (by decide) rfl ?_
  try simp only [List.set_cons_succ, List.set_cons_zero]
  have b1 := hwh 1 (by omega)
  refine z_iload_n dT_firstAreOfOneSize_2 rfl ?_
  refine z_iload_n dT_firstAreOfOneSize_3 rfl ?_
  refine z_icmp_ge (tgt := 33) dT_firstAreOfOneSize_4 (by decide) (fun hc9 => absurd hc9 (by decide)) (fun _ => ?_)
  refine z_aload_n dT_firstAreOfOneSize_7 rfl ?_
  refine z_get (C := RT) (T := TT) (N := 1) (ref := "ToneMixer") 0 dT_firstAreOfOneSize_8 rfl rfl rfl (by decide) (fun w h => bwT (hbT w h)) (bwT b_44) rfl ?_
  refine z_iload_n dT_firstAreOfOneSize_11 rfl ?_
  refine z_aaldN (t0 := 2) (k := 1) dT_firstAreOfOneSize_12 rfl rfl (rfl) (by decide) (by decide) rfl ?_
  refine z_aload_n dT_firstAreOfOneSize_13 rfl ?_
  refine z_get (C := RT) (T := TT) (N := 1) (ref := "ToneMixer") 0 dT_firstAreOfOneSize_14 rfl rfl rfl (by decide) (fun w h => bwT (hbT w h)) (bwT b_44) rfl ?_
  refine z_iconst (v := 0) dT_firstAreOfOneSize_17 (by decide) ?_
  refine z_aaldN (t0 := 2) (k := 0) dT_firstAreOfOneSize_18 rfl rfl (rfl) (by decide) (by decide) rfl ?_
  refine z_part (plx 1 ++ plx 0) (z_V (C := RP) (b := 0) hE zEok_0 (c_isOfSizeOf _ D ca _ (f 1) (g 1) (nI (w 1)) (nI (h 1)) (f 0) (g 0) (nI (w 0)) (nI (h 0))) dT_firstAreOfOneSize_19 (gd_V b_56 b_57 b_58 b_2 b_59) rfl qP_isOfSizeOf ⟨rfl, rfl⟩ (by rw [hR]; decide) (by rw [hR, hC, hS]; decide) rfl (Nat.le_of_ble_eq_true rfl) rfl rfl) (by decide) rfl (fun r aw1 hlen hr => ?_)
  obtain ⟨rfl, rfl⟩ := hr
  rw [tw_put6 (i := 1) (j := 0) (by decide) (by decide) (by decide), va_upk f, va_upk f, va_upk g, va_upk g, va_upk (fun k => nI (w k)), va_upk (fun k => nI (w k)), va_upk (fun k => nI (h k)), va_upk (fun k => nI (h k))]
  simp only [zpush, zv]
  by_cases s1 : w 1 = w 0 ∧ h 1 = h 0
  rotate_left
  · rw [if_neg (fun q : nI (w 1) = nI (w 0) ∧ nI (h 1) = nI (h 0) => s1 ⟨(nI_eq (by omega) (by omega)).mp q.1, (nI_eq (by omega) (by omega)).mp q.2⟩)]
    refine z_if_ne (tgt := 27) dT_firstAreOfOneSize_22 (by decide) (fun hc9 => absurd hc9 (by decide)) (fun _ => ?_)
    refine z_iconst (v := 0) dT_firstAreOfOneSize_25 (by decide) ?_
    exact z_ireturn dT_firstAreOfOneSize_26 rfl hret ⟨Nat.le_of_eq hC, Nat.le_of_eq hS⟩ rfl ⟨rfl, Or.inr ⟨fun q => s1 (q 1 (by omega) (by omega)), rfl⟩⟩
  rw [if_pos (show nI (w 1) = nI (w 0) ∧ nI (h 1) = nI (h 0) from ⟨by rw [s1.1], by rw [s1.2]⟩)]
  refine z_if_ne (tgt := 27) dT_firstAreOfOneSize_22 (by decide) (fun _ => ?_) (fun hc9 => absurd hc9 (by decide))
  refine z_iinc1 dT_firstAreOfOneSize_27 (by decide) rfl rfl ?_
  try simp only [List.set_cons_succ, List.set_cons_zero]
  refine z_goto (tgt := 2) dT_firstAreOfOneSize_30 (by decide) ?_
  rw [show ((1 : Int32) + 1) = 2 from rfl]
  have b2 := hwh 2 (by omega)
  refine z_iload_n dT_firstAreOfOneSize_2 rfl ?_
  refine z_iload_n dT_firstAreOfOneSize_3 rfl ?_
  refine z_icmp_ge (tgt := 33) dT_firstAreOfOneSize_4 (by decide) (fun hc9 => absurd hc9 (by decide)) (fun _ => ?_)
  refine z_aload_n dT_firstAreOfOneSize_7 rfl ?_
  refine z_get (C := RT) (T := TT) (N := 1) (ref := "ToneMixer") 0 dT_firstAreOfOneSize_8 rfl rfl rfl (by decide) (fun w h => bwT (hbT w h)) (bwT b_44) rfl ?_
  refine z_iload_n dT_firstAreOfOneSize_11 rfl ?_
  refine z_aaldN (t0 := 2) (k := 2) dT_firstAreOfOneSize_12 rfl rfl (rfl) (by decide) (by decide) rfl ?_
  refine z_aload_n dT_firstAreOfOneSize_13 rfl ?_
  refine z_get (C := RT) (T := TT) (N := 1) (ref := "ToneMixer") 0 dT_firstAreOfOneSize_14 rfl rfl rfl (by decide) (fun w h => bwT (hbT w h)) (bwT b_44) rfl ?_
  refine z_iconst (v := 0) dT_firstAreOfOneSize_17 (by decide) ?_
  refine z_aaldN (t0 := 2) (k := 0) dT_firstAreOfOneSize_18 rfl rfl (rfl) (by decide) (by decide) rfl ?_
  refine z_part (plx 2 ++ plx 0) (z_V (C := RP) (b := 0) hE zEok_0 (c_isOfSizeOf _ D ca _ (f 2) (g 2) (nI (w 2)) (nI (h 2)) (f 0) (g 0) (nI (w 0)) (nI (h 0))) dT_firstAreOfOneSize_19 (gd_V b_56 b_57 b_58 b_2 b_59) rfl qP_isOfSizeOf ⟨rfl, rfl⟩ (by rw [hR]; decide) (by rw [hR, hC, hS]; decide) rfl (Nat.le_of_ble_eq_true rfl) rfl rfl) (by decide) rfl (fun r aw1 hlen hr => ?_)
  obtain ⟨rfl, rfl⟩ := hr
  rw [tw_put6 (i := 2) (j := 0) (by decide) (by decide) (by decide), va_upk f, va_upk f, va_upk g, va_upk g, va_upk (fun k => nI (w k)), va_upk (fun k => nI (w k)), va_upk (fun k => nI (h k)), va_upk (fun k => nI (h k))]
  simp only [zpush, zv]
  by_cases s2 : w 2 = w 0 ∧ h 2 = h 0
  rotate_left
  · rw [if_neg (fun q : nI (w 2) = nI (w 0) ∧ nI (h 2) = nI (h 0) => s2 ⟨(nI_eq (by omega) (by omega)).mp q.1, (nI_eq (by omega) (by omega)).mp q.2⟩)]
    refine z_if_ne (tgt := 27) dT_firstAreOfOneSize_22 (by decide) (fun hc9 => absurd hc9 (by decide)) (fun _ => ?_)
    refine z_iconst (v := 0) dT_firstAreOfOneSize_25 (by decide) ?_
    exact z_ireturn dT_firstAreOfOneSize_26 rfl hret ⟨Nat.le_of_eq hC, Nat.le_of_eq hS⟩ rfl ⟨rfl, Or.inr ⟨fun q => s2 (q 2 (by omega) (by omega)), rfl⟩⟩
  rw [if_pos (show nI (w 2) = nI (w 0) ∧ nI (h 2) = nI (h 0) from ⟨by rw [s2.1], by rw [s2.2]⟩)]
  refine z_if_ne (tgt := 27) dT_firstAreOfOneSize_22 (by decide) (fun _ => ?_) (fun hc9 => absurd hc9 (by decide))
  refine z_iinc1 dT_firstAreOfOneSize_27 (by decide) rfl rfl ?_
  try simp only [List.set_cons_succ, List.set_cons_zero]
  refine z_goto (tgt := 2) dT_firstAreOfOneSize_30 (by decide) ?_
  rw [show ((2 : Int32) + 1) = 3 from rfl]
  refine z_iload_n dT_firstAreOfOneSize_2 rfl ?_
  refine z_iload_n dT_firstAreOfOneSize_3 rfl ?_
  refine z_icmp_ge (tgt := 33) dT_firstAreOfOneSize_4 (by decide) (fun _ => ?_) (fun hc9 => absurd hc9 (by decide))
  refine z_iconst (v := 1) dT_firstAreOfOneSize_33 (by decide) ?_
  refine z_ireturn dT_firstAreOfOneSize_34 rfl hret ⟨Nat.le_of_eq hC, Nat.le_of_eq hS⟩ rfl ⟨rfl, Or.inl ⟨fun i h1 h2 => ?_, rfl⟩⟩
  rcases (show i = 1 ∨ i = 2 by omega) with rfl | rfl
  · exact s1
  · exact s2
set_option maxRecDepth 100000 in
set_option maxHeartbeats 4000000 in
theorem c_first4 (l : Launch) (D : va_G) (ca : Nat → ClassId) (ad : Nat → Nat) (f g : Nat → Nat → Int32) (w h : Nat → Nat) (hwh : okW w h) : zMet l yT_firstAreOfOneSize wT_firstAreOfOneSize (rmk 1 0 0) zE0 (gG D ca ad) (twn ca f g w h) [.ref 0, .int 4] (fun r aw => aw = twn ca f g w h ∧ ((sameS 4 w h ∧ r = some (.int 1)) ∨ (¬ sameS 4 w h ∧ r = some (.int 0)))) := by
  refine zMet.of (cc := cT_firstAreOfOneSize) (maxL := 3) (ret := (some .boolean)) (lv := [some (.ref 0), some (.int 4), none]) (by decide) rfl (Nat.le_of_ble_eq_true rfl) rfl (fun M hl0 hR hC hS hE hret => ?_)
  have b0 := hwh 0 (by omega)
  refine z_iconst (v := 1) dT_firstAreOfOneSize_0 (by decide) ?_
  refine z_istore_n dT_firstAreOfOneSize_1 (by decide) rfl ?_
  try simp only [List.set_cons_succ, List.set_cons_zero]
  have b1 := hwh 1 (by omega)
  refine z_iload_n dT_firstAreOfOneSize_2 rfl ?_
  refine z_iload_n dT_firstAreOfOneSize_3 rfl ?_
  refine z_icmp_ge (tgt := 33) dT_firstAreOfOneSize_4 (by decide) (fun hc9 => absurd hc9 (by decide)) (fun _ => ?_)
  refine z_aload_n dT_firstAreOfOneSize_7 rfl ?_
  refine z_get (C := RT) (T := TT) (N := 1) (ref := "ToneMixer") 0 dT_firstAreOfOneSize_8 rfl rfl rfl (by decide) (fun w h => bwT (hbT w h)) (bwT b_44) rfl ?_
  refine z_iload_n dT_firstAreOfOneSize_11 rfl ?_
  refine z_aaldN (t0 := 2) (k := 1) dT_firstAreOfOneSize_12 rfl rfl (rfl) (by decide) (by decide) rfl ?_
  refine z_aload_n dT_firstAreOfOneSize_13 rfl ?_
  refine z_get (C := RT) (T := TT) (N := 1) (ref := "ToneMixer") 0 dT_firstAreOfOneSize_14 rfl rfl rfl (by decide) (fun w h => bwT (hbT w h)) (bwT b_44) rfl ?_
  refine z_iconst (v := 0) dT_firstAreOfOneSize_17 (by decide) ?_
  refine z_aaldN (t0 := 2) (k := 0) dT_firstAreOfOneSize_18 rfl rfl (rfl) (by decide) (by decide) rfl ?_
  refine z_part (plx 1 ++ plx 0) (z_V (C := RP) (b := 0) hE zEok_0 (c_isOfSizeOf _ D ca _ (f 1) (g 1) (nI (w 1)) (nI (h 1)) (f 0) (g 0) (nI (w 0)) (nI (h 0))) dT_firstAreOfOneSize_19 (gd_V b_56 b_57 b_58 b_2 b_59) rfl qP_isOfSizeOf ⟨rfl, rfl⟩ (by rw [hR]; decide) (by rw [hR, hC, hS]; decide) rfl (Nat.le_of_ble_eq_true rfl) rfl rfl) (by decide) rfl (fun r aw1 hlen hr => ?_)
  obtain ⟨rfl, rfl⟩ := hr
  rw [tw_put6 (i := 1) (j := 0) (by decide) (by decide) (by decide), va_upk f, va_upk f, va_upk g, va_upk g, va_upk (fun k => nI (w k)), va_upk (fun k => nI (w k)), va_upk (fun k => nI (h k)), va_upk (fun k => nI (h k))]
  simp only [zpush, zv]
  by_cases s1 : w 1 = w 0 ∧ h 1 = h 0
  rotate_left
  · rw [if_neg (fun q : nI (w 1) = nI (w 0) ∧ nI (h 1) = nI (h 0) => s1 ⟨(nI_eq (by omega) (by omega)).mp q.1, (nI_eq (by omega) (by omega)).mp q.2⟩)]
    refine z_if_ne (tgt := 27) dT_firstAreOfOneSize_22 (by decide) (fun hc9 => absurd hc9 (by decide)) (fun _ => ?_)
    refine z_iconst (v := 0) dT_firstAreOfOneSize_25 (by decide) ?_
    exact z_ireturn dT_firstAreOfOneSize_26 rfl hret ⟨Nat.le_of_eq hC, Nat.le_of_eq hS⟩ rfl ⟨rfl, Or.inr ⟨fun q => s1 (q 1 (by omega) (by omega)), rfl⟩⟩
  rw [if_pos (show nI (w 1) = nI (w 0) ∧ nI (h 1) = nI (h 0) from ⟨by rw [s1.1], by rw [s1.2]⟩)]
  refine z_if_ne (tgt := 27) dT_firstAreOfOneSize_22 (by decide) (fun _ => ?_) (fun hc9 => absurd hc9 (by decide))
  refine z_iinc1 dT_firstAreOfOneSize_27 (by decide) rfl rfl ?_
  try simp only [List.set_cons_succ, List.set_cons_zero]
  refine z_goto (tgt := 2) dT_firstAreOfOneSize_30 (by decide) ?_
  rw [show ((1 : Int32) + 1) = 2 from rfl]
  have b2 := hwh 2 (by omega)
  refine z_iload_n dT_firstAreOfOneSize_2 rfl ?_
  refine z_iload_n dT_firstAreOfOneSize_3 rfl ?_
  refine z_icmp_ge (tgt := 33) dT_firstAreOfOneSize_4 (by decide) (fun hc9 => absurd hc9 (by decide)) (fun _ => ?_)
  refine z_aload_n dT_firstAreOfOneSize_7 rfl ?_
  refine z_get (C := RT) (T := TT) (N := 1) (ref := "ToneMixer") 0 dT_firstAreOfOneSize_8 rfl rfl rfl (by decide) (fun w h => bwT (hbT w h)) (bwT b_44) rfl ?_
  refine z_iload_n dT_firstAreOfOneSize_11 rfl ?_
  refine z_aaldN (t0 := 2) (k := 2) dT_firstAreOfOneSize_12 rfl rfl (rfl) (by decide) (by decide) rfl ?_
  refine z_aload_n dT_firstAreOfOneSize_13 rfl ?_
  refine z_get (C := RT) (T := TT) (N := 1) (ref := "ToneMixer") 0 dT_firstAreOfOneSize_14 rfl rfl rfl (by decide) (fun w h => bwT (hbT w h)) (bwT b_44) rfl ?_
  refine z_iconst (v := 0) dT_firstAreOfOneSize_17 (by decide) ?_
  refine z_aaldN (t0 := 2) (k := 0) dT_firstAreOfOneSize_18 rfl rfl (rfl) (by decide) (by decide) rfl ?_
  refine z_part (plx 2 ++ plx 0) (z_V (C := RP) (b := 0) hE zEok_0 (c_isOfSizeOf _ D ca _ (f 2) (g 2) (nI (w 2)) (nI (h 2)) (f 0) (g 0) (nI (w 0)) (nI (h 0))) dT_firstAreOfOneSize_19 (gd_V b_56 b_57 b_58 b_2 b_59) rfl qP_isOfSizeOf ⟨rfl, rfl⟩ (by rw [hR]; decide) (by rw [hR, hC, hS]; decide) rfl (Nat.le_of_ble_eq_true rfl) rfl rfl) (by decide) rfl (fun r aw1 hlen hr => ?_)
  obtain ⟨rfl, rfl⟩ := hr
  rw [tw_put6 (i := 2) (j := 0) (by decide) (by decide) (by decide), va_upk f, va_upk f, va_upk g, va_upk g, va_upk (fun k => nI (w k)), va_upk (fun k => nI (w k)), va_upk (fun k => nI (h k)), va_upk (fun k => nI (h k))]
  simp only [zpush, zv]
  by_cases s2 : w 2 = w 0 ∧ h 2 = h 0
  rotate_left
  · rw [if_neg (fun q : nI (w 2) = nI (w 0) ∧ nI (h 2) = nI (h 0) => s2 ⟨(nI_eq (by omega) (by omega)).mp q.1, (nI_eq (by omega) (by omega)).mp q.2⟩)]
    refine z_if_ne (tgt := 27) dT_firstAreOfOneSize_22 (by decide) (fun hc9 => absurd hc9 (by decide)) (fun _ => ?_)
    refine z_iconst (v := 0) dT_firstAreOfOneSize_25 (by decide) ?_
    exact z_ireturn dT_firstAreOfOneSize_26 rfl hret ⟨Nat.le_of_eq hC, Nat.le_of_eq hS⟩ rfl ⟨rfl, Or.inr ⟨fun q => s2 (q 2 (by omega) (by omega)), rfl⟩⟩
  rw [if_pos (show nI (w 2) = nI (w 0) ∧ nI (h 2) = nI (h 0) from ⟨by rw [s2.1], by rw [s2.2]⟩)]
  refine z_if_ne (tgt := 27) dT_firstAreOfOneSize_22 (by decide) (fun _ => ?_) (fun hc9 => absurd hc9 (by decide))
  refine z_iinc1 dT_firstAreOfOneSize_27 (by decide) rfl rfl ?_
  try simp only [List.set_cons_succ, List.set_cons_zero]
  refine z_goto (tgt := 2) dT_firstAreOfOneSize_30 (by decide) ?_
  rw [show ((2 : Int32) + 1) = 3 from rfl]
  have b3 := hwh 3 (by omega)
  refine z_iload_n dT_firstAreOfOneSize_2 rfl ?_
  refine z_iload_n dT_firstAreOfOneSize_3 rfl ?_
  refine z_icmp_ge (tgt := 33) dT_firstAreOfOneSize_4 (by decide) (fun hc9 => absurd hc9 (by decide)) (fun _ => ?_)
  refine z_aload_n dT_firstAreOfOneSize_7 rfl ?_
  refine z_get (C := RT) (T := TT) (N := 1) (ref := "ToneMixer") 0 dT_firstAreOfOneSize_8 rfl rfl rfl (by decide) (fun w h => bwT (hbT w h)) (bwT b_44) rfl ?_
  refine z_iload_n dT_firstAreOfOneSize_11 rfl ?_
  refine z_aaldN (t0 := 2) (k := 3) dT_firstAreOfOneSize_12 rfl rfl (rfl) (by decide) (by decide) rfl ?_
  refine z_aload_n dT_firstAreOfOneSize_13 rfl ?_
  refine z_get (C := RT) (T := TT) (N := 1) (ref := "ToneMixer") 0 dT_firstAreOfOneSize_14 rfl rfl rfl (by decide) (fun w h => bwT (hbT w h)) (bwT b_44) rfl ?_
  refine z_iconst (v := 0) dT_firstAreOfOneSize_17 (by decide) ?_
  refine z_aaldN (t0 := 2) (k := 0) dT_firstAreOfOneSize_18 rfl rfl (rfl) (by decide) (by decide) rfl ?_
  refine z_part (plx 3 ++ plx 0) (z_V (C := RP) (b := 0) hE zEok_0 (c_isOfSizeOf _ D ca _ (f 3) (g 3) (nI (w 3)) (nI (h 3)) (f 0) (g 0) (nI (w 0)) (nI (h 0))) dT_firstAreOfOneSize_19 (gd_V b_56 b_57 b_58 b_2 b_59) rfl qP_isOfSizeOf ⟨rfl, rfl⟩ (by rw [hR]; decide) (by rw [hR, hC, hS]; decide) rfl (Nat.le_of_ble_eq_true rfl) rfl rfl) (by decide) rfl (fun r aw1 hlen hr => ?_)
  obtain ⟨rfl, rfl⟩ := hr
  rw [tw_put6 (i := 3) (j := 0) (by decide) (by decide) (by decide), va_upk f, va_upk f, va_upk g, va_upk g, va_upk (fun k => nI (w k)), va_upk (fun k => nI (w k)), va_upk (fun k => nI (h k)), va_upk (fun k => nI (h k))]
  simp only [zpush, zv]
  by_cases s3 : w 3 = w 0 ∧ h 3 = h 0
  rotate_left
  · rw [if_neg (fun q : nI (w 3) = nI (w 0) ∧ nI (h 3) = nI (h 0) => s3 ⟨(nI_eq (by omega) (by omega)).mp q.1, (nI_eq (by omega) (by omega)).mp q.2⟩)]
    refine z_if_ne (tgt := 27) dT_firstAreOfOneSize_22 (by decide) (fun hc9 => absurd hc9 (by decide)) (fun _ => ?_)
    refine z_iconst (v := 0) dT_firstAreOfOneSize_25 (by decide) ?_
    exact z_ireturn dT_firstAreOfOneSize_26 rfl hret ⟨Nat.le_of_eq hC, Nat.le_of_eq hS⟩ rfl ⟨rfl, Or.inr ⟨fun q => s3 (q 3 (by omega) (by omega)), rfl⟩⟩
  rw [if_pos (show nI (w 3) = nI (w 0) ∧ nI (h 3) = nI (h 0) from ⟨by rw [s3.1], by rw [s3.2]⟩)]
  refine z_if_ne (tgt := 27) dT_firstAreOfOneSize_22 (by decide) (fun _ => ?_) (fun hc9 => absurd hc9 (by decide))
  refine z_iinc1 dT_firstAreOfOneSize_27 (by decide) rfl rfl ?_
  try simp only [List.set_cons_succ, List.set_cons_zero]
  refine z_goto (tgt := 2) dT_firstAreOfOneSize_30 (by decide) ?_
  rw [show ((3 : Int32) + 1) = 4 from rfl]
  refine z_iload_n dT_firstAreOfOneSize_2 rfl ?_
  refine z_iload_n dT_firstAreOfOneSize_3 rfl ?_
  refine z_icmp_ge (tgt := 33) dT_firstAreOfOneSize_4 (by decide) (fun _ => ?_) (fun hc9 => absurd hc9 (by decide))
  refine z_iconst (v := 1) dT_firstAreOfOneSize_33 (by decide) ?_
  refine z_ireturn dT_firstAreOfOneSize_34 rfl hret ⟨Nat.le_of_eq hC, Nat.le_of_eq hS⟩ rfl ⟨rfl, Or.inl ⟨fun i h1 h2 => ?_, rfl⟩⟩
  rcases (show i = 1 ∨ i = 2 ∨ i = 3 by omega) with rfl | rfl | rfl
  · exact s1
  · exact s2
  · exact s3
def mxX (v y : Nat) (f : Nat → Nat → Int32) : Nat → (Nat → Nat → Int32)
  | 0 => f
  | x + 1 => up3 (mxX v y f x) (y * 32 + x) (mxP v (mxX v y f x 0 (y * 32 + x)) (mxX v y f x 1 (y * 32 + x)) (mxX v y f x 2 (y * 32 + x)) (mxX v y f x 3 (y * 32 + x)))
def mxA (v w : Nat) (f : Nat → Nat → Int32) : Nat → (Nat → Nat → Int32)
  | 0 => f
  | y + 1 => mxX v y (mxA v w f y) w
section
variable {M : zM} {D : va_G} {ca : Nat → ClassId} {ad : Nat → Nat} {f g : Nat → Nat → Int32} {w h : Nat → Nat} {v : Nat}
set_option maxRecDepth 100000 in
set_option maxHeartbeats 4000000 in
theorem l_mix_x (hwh : okW w h) (hv : v ≤ 6) (hR : zroom M = rmk 4 0 0) (hC : zcells M = 0) (hS : zslots M = 0) (hE : zEn M zE0) {y : Nat} (hy : y < h 0)
    (k : Zj M (gG D ca ad) cT_mix 4 RT wT_mix (some .boolean) (twn ca (mxX v y f (w 0)) g w h) [some (.ref 0), some (.int (nI v)), some (.int (nI y)), some (.int (nI (w 0)))] [] 77) :
    ∀ n x, x + n = w 0 → Zj M (gG D ca ad) cT_mix 4 RT wT_mix (some .boolean) (twn ca (mxX v y f x) g w h) [some (.ref 0), some (.int (nI v)), some (.int (nI y)), some (.int (nI x))] [] 48 := by
  obtain ⟨b1, b2, b3, b4⟩ := hwh 0 (by omega)
  intro n
  induction n with
  | zero =>
    intro x hx
    obtain rfl : x = w 0 := by omega
    refine z_iload_n dT_mix_48 rfl ?_
    refine z_aload_n dT_mix_49 rfl ?_
    refine z_get (C := RT) (T := TT) (N := 1) (ref := "ToneMixer") 0 dT_mix_50 rfl rfl rfl (by decide) (fun w h => bwT (hbT w h)) (bwT b_44) rfl ?_
    refine z_iconst (v := 0) dT_mix_53 (by decide) ?_
    refine z_aaldN (t0 := 2) (k := 0) dT_mix_54 rfl rfl (rfl) (by decide) (by decide) rfl ?_
    refine z_get (C := RP) (T := TP) (N := 4) (ref := "ToneMixer$Plane") 1 dT_mix_55 rfl rfl rfl (by decide) (fun w h => bwT (hbP w h)) (bwT b_30) rfl ?_
    exact z_icmp_ge (tgt := 77) dT_mix_58 (by decide) (fun _ => k) (fun hc => absurd (nI_le (Nat.le_refl _) (by omega)) hc)
  | succ n ih =>
    intro x hx
    refine z_iload_n dT_mix_48 rfl ?_
    refine z_aload_n dT_mix_49 rfl ?_
    refine z_get (C := RT) (T := TT) (N := 1) (ref := "ToneMixer") 0 dT_mix_50 rfl rfl rfl (by decide) (fun w h => bwT (hbT w h)) (bwT b_44) rfl ?_
    refine z_iconst (v := 0) dT_mix_53 (by decide) ?_
    refine z_aaldN (t0 := 2) (k := 0) dT_mix_54 rfl rfl (rfl) (by decide) (by decide) rfl ?_
    refine z_get (C := RP) (T := TP) (N := 4) (ref := "ToneMixer$Plane") 1 dT_mix_55 rfl rfl rfl (by decide) (fun w h => bwT (hbP w h)) (bwT b_30) rfl ?_
    refine z_icmp_ge (tgt := 77) dT_mix_58 (by decide) (fun hc => absurd hc (nI_ge (by omega) (by omega))) (fun _ => ?_)
    refine z_aload_n dT_mix_61 rfl ?_
    refine z_iload_n dT_mix_62 rfl ?_
    refine z_iload_n dT_mix_63 rfl ?_
    refine z_iload_n dT_mix_64 rfl ?_
    refine z_pure (z_S hE zEok_0 (c_placeOf _ _ _ _) dT_mix_65 (gd_S b_60 b_61 b_1 b_62) rfl qT_placeOf.2 ⟨rfl, rfl⟩ (by rw [hR]; decide) (by rw [hR, hC, hS]; decide) rfl (Nat.le_of_ble_eq_true rfl)) (fun r hr => ?_)
    subst hr
    simp only [zpush, zv]
    rw [z_pl]
    refine z_same (z_V (C := RT) (b := 0) hE zEok_0 (c_mixPlace _ D ca ad (mxX v y f x) g w h v (y * 32 + x) hv (by omega)) dT_mix_68 (gd_V b_63 b_65 bs_1 b_1 b_66) rfl qT_mixPlace ⟨rfl, rfl⟩ (by rw [hR]; decide) (by rw [hR, hC, hS]; decide) rfl (Nat.le_of_ble_eq_true rfl) rfl rfl) (fun r aw1 hlen hr => ?_)
    obtain ⟨rfl, rfl⟩ := hr
    simp only [zpush]
    refine z_iinc1 dT_mix_71 (by decide) rfl rfl ?_
    try simp only [List.set_cons_succ, List.set_cons_zero]
    refine z_goto (tgt := 48) dT_mix_74 (by decide) ?_
    rw [nI_1]
    exact ih (x + 1) (by omega)
set_option maxRecDepth 100000 in
set_option maxHeartbeats 4000000 in
theorem l_mix_y (hwh : okW w h) (hv : v ≤ 6) (hR : zroom M = rmk 4 0 0) (hC : zcells M = 0) (hS : zslots M = 0) (hE : zEn M zE0)
    (k : ∀ o, Zj M (gG D ca ad) cT_mix 4 RT wT_mix (some .boolean) (twn ca (mxA v (w 0) f (h 0)) g w h) [some (.ref 0), some (.int (nI v)), some (.int (nI (h 0))), o] [] 83) :
    ∀ n y, y + n = h 0 → ∀ o, Zj M (gG D ca ad) cT_mix 4 RT wT_mix (some .boolean) (twn ca (mxA v (w 0) f y) g w h) [some (.ref 0), some (.int (nI v)), some (.int (nI y)), o] [] 33 := by
  obtain ⟨b1, b2, b3, b4⟩ := hwh 0 (by omega)
  intro n
  induction n with
  | zero =>
    intro y hy o
    obtain rfl : y = h 0 := by omega
    refine z_iload_n dT_mix_33 rfl ?_
    refine z_aload_n dT_mix_34 rfl ?_
    refine z_get (C := RT) (T := TT) (N := 1) (ref := "ToneMixer") 0 dT_mix_35 rfl rfl rfl (by decide) (fun w h => bwT (hbT w h)) (bwT b_44) rfl ?_
    refine z_iconst (v := 0) dT_mix_38 (by decide) ?_
    refine z_aaldN (t0 := 2) (k := 0) dT_mix_39 rfl rfl (rfl) (by decide) (by decide) rfl ?_
    refine z_get (C := RP) (T := TP) (N := 4) (ref := "ToneMixer$Plane") 2 dT_mix_40 rfl rfl rfl (by decide) (fun w h => bwT (hbP w h)) (bwT b_32) rfl ?_
    exact z_icmp_ge (tgt := 83) dT_mix_43 (by decide) (fun _ => k o) (fun hc => absurd (nI_le (Nat.le_refl _) (by omega)) hc)
  | succ n ih =>
    intro y hy o
    refine z_iload_n dT_mix_33 rfl ?_
    refine z_aload_n dT_mix_34 rfl ?_
    refine z_get (C := RT) (T := TT) (N := 1) (ref := "ToneMixer") 0 dT_mix_35 rfl rfl rfl (by decide) (fun w h => bwT (hbT w h)) (bwT b_44) rfl ?_
    refine z_iconst (v := 0) dT_mix_38 (by decide) ?_
    refine z_aaldN (t0 := 2) (k := 0) dT_mix_39 rfl rfl (rfl) (by decide) (by decide) rfl ?_
    refine z_get (C := RP) (T := TP) (N := 4) (ref := "ToneMixer$Plane") 2 dT_mix_40 rfl rfl rfl (by decide) (fun w h => bwT (hbP w h)) (bwT b_32) rfl ?_
    refine z_icmp_ge (tgt := 83) dT_mix_43 (by decide) (fun hc => absurd hc (nI_ge (by omega) (by omega))) (fun _ => ?_)
    refine z_iconst (v := 0) dT_mix_46 (by decide) ?_
    refine z_istore_n dT_mix_47 (by decide) rfl ?_
    try simp only [List.set_cons_succ, List.set_cons_zero]
    refine l_mix_x (f := mxA v (w 0) f y) hwh hv hR hC hS hE (y := y) (by omega) ?_ (w 0) 0 (by omega)
    refine z_iinc1 dT_mix_77 (by decide) rfl rfl ?_
    try simp only [List.set_cons_succ, List.set_cons_zero]
    refine z_goto (tgt := 33) dT_mix_80 (by decide) ?_
    rw [nI_1]
    exact ih (y + 1) (by omega) _
end
def mix0 (n : Int32) (w h : Nat → Nat) : Prop := n < 0 ∨ 6 < n ∨ ¬ sameS (if n = 3 then 4 else 3) w h
set_option maxRecDepth 100000 in
set_option maxHeartbeats 4000000 in
theorem c_mix (l : Launch) (D : va_G) (ca : Nat → ClassId) (ad : Nat → Nat) (f g : Nat → Nat → Int32) (w h : Nat → Nat) (hwh : okW w h) (n : Int32) : zMet l yT_mix wT_mix (rmk 4 0 0) zE0 (gG D ca ad) (twn ca f g w h) [.ref 0, .int n] (fun r aw => (mix0 n w h ∧ r = some (.int 0) ∧ aw = twn ca f g w h) ∨ ∃ v : Nat, v ≤ 6 ∧ n = nI v ∧ sameS (if n = 3 then 4 else 3) w h ∧ r = some (.int 1) ∧ aw = twn ca (mxA v (w 0) f (h 0)) g w h) := by
  refine zMet.of (cc := cT_mix) (maxL := 4) (ret := (some .boolean)) (lv := [some (.ref 0), some (.int n), none, none]) (by decide) rfl (Nat.le_of_ble_eq_true rfl) rfl (fun M hl0 hR hC hS hE hret => ?_)
  have k10 : (n < 0 ∨ 6 < n) → Zj M (gG D ca ad) cT_mix 4 RT wT_mix (some .boolean) (twn ca f g w h) [some (.ref 0), some (.int n), none, none] [] 10 := fun hb => by
    refine z_iconst (v := 0) dT_mix_10 (by decide) ?_
    exact z_ireturn dT_mix_11 rfl hret ⟨Nat.le_of_eq hC, Nat.le_of_eq hS⟩ rfl (Or.inl ⟨hb.elim Or.inl (fun q => Or.inr (Or.inl q)), rfl, rfl⟩)
  refine z_iload_n dT_mix_0 rfl ?_
  refine z_if_lt (tgt := 10) dT_mix_1 (by decide) (fun c1 => k10 (Or.inl c1)) (fun c1 => ?_)
  refine z_iload_n dT_mix_4 rfl ?_
  refine z_bipush (v := 6) dT_mix_5 (by decide) ?_
  refine z_icmp_le (tgt := 12) dT_mix_7 (by decide) (fun c2 => ?_) (fun c2 => k10 (Or.inr (Int32.not_le.mp c2)))
  obtain ⟨v, hv, rfl⟩ := nI_of2 (M := 6) (n := 6) (by decide) c1 c2
  have k31 : sameS (if nI v = 3 then 4 else 3) w h → Zj M (gG D ca ad) cT_mix 4 RT wT_mix (some .boolean) (twn ca f g w h) [some (.ref 0), some (.int (nI v)), none, none] [] 31 := fun hs => by
    refine z_iconst (v := 0) dT_mix_31 (by decide) ?_
    refine z_istore_n dT_mix_32 (by decide) rfl ?_
    try simp only [List.set_cons_succ, List.set_cons_zero]
    refine l_mix_y hwh hv hR hC hS hE (fun o => ?_) (h 0) 0 (by omega) none
    refine z_iconst (v := 1) dT_mix_83 (by decide) ?_
    exact z_ireturn dT_mix_84 rfl hret ⟨Nat.le_of_eq hC, Nat.le_of_eq hS⟩ rfl (Or.inr ⟨v, hv, rfl, hs, rfl, rfl⟩)
  have k29 : ¬ sameS (if nI v = 3 then 4 else 3) w h → Zj M (gG D ca ad) cT_mix 4 RT wT_mix (some .boolean) (twn ca f g w h) [some (.ref 0), some (.int (nI v)), none, none] [] 29 := fun hs => by
    refine z_iconst (v := 0) dT_mix_29 (by decide) ?_
    exact z_ireturn dT_mix_30 rfl hret ⟨Nat.le_of_eq hC, Nat.le_of_eq hS⟩ rfl (Or.inl ⟨Or.inr (Or.inr hs), rfl, rfl⟩)
  refine z_aload_n dT_mix_12 rfl ?_
  refine z_iload_n dT_mix_13 rfl ?_
  refine z_iconst (v := 3) dT_mix_14 (by decide) ?_
  refine z_icmp_ne (tgt := 22) dT_mix_15 (by decide) (fun c => ?_) (fun c => ?_)
  · rw [if_neg c] at k31 k29
    refine z_iconst (v := 3) dT_mix_22 (by decide) ?_
    refine z_same (z_V (C := RT) (b := 0) hE zEok_0 (c_first3 _ D ca ad f g w h hwh) dT_mix_23 (gd_V b_52 b_54 bs_0 b_1 b_55) rfl qT_firstAreOfOneSize ⟨rfl, rfl⟩ (by rw [hR]; decide) (by rw [hR, hC, hS]; decide) rfl (Nat.le_of_ble_eq_true rfl) rfl rfl) (fun r aw1 hlen hr => ?_)
    obtain ⟨rfl, ⟨hs, rfl⟩ | ⟨hs, rfl⟩⟩ := hr
    · simp only [zpush, zv]
      exact z_if_ne (tgt := 31) dT_mix_26 (by decide) (fun _ => k31 hs) (fun hc => absurd hc (by decide))
    · simp only [zpush, zv]
      exact z_if_ne (tgt := 31) dT_mix_26 (by decide) (fun hc => absurd rfl hc) (fun _ => k29 hs)
  · rw [if_pos c] at k31 k29
    refine z_iconst (v := 4) dT_mix_18 (by decide) ?_
    refine z_goto (tgt := 23) dT_mix_19 (by decide) ?_
    refine z_same (z_V (C := RT) (b := 0) hE zEok_0 (c_first4 _ D ca ad f g w h hwh) dT_mix_23 (gd_V b_52 b_54 bs_0 b_1 b_55) rfl qT_firstAreOfOneSize ⟨rfl, rfl⟩ (by rw [hR]; decide) (by rw [hR, hC, hS]; decide) rfl (Nat.le_of_ble_eq_true rfl) rfl rfl) (fun r aw1 hlen hr => ?_)
    obtain ⟨rfl, ⟨hs, rfl⟩ | ⟨hs, rfl⟩⟩ := hr
    · simp only [zpush, zv]
      exact z_if_ne (tgt := 31) dT_mix_26 (by decide) (fun _ => k31 hs) (fun hc => absurd hc (by decide))
    · simp only [zpush, zv]
      exact z_if_ne (tgt := 31) dT_mix_26 (by decide) (fun hc => absurd rfl hc) (fun _ => k29 hs)
