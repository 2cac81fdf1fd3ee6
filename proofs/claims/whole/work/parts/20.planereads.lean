/-! a plane alone: its object, its samples, its line -/
abbrev pw3 (ca : Nat → ClassId) (f g : Nat → Int32) (w h : Int32) : List va_E := [.inr (1, [.ref 1, .int w, .int h, .ref 2]), .inl (ca 0, 1024, .inl f), .inl (ca 0, 32, .inl g)]
/-- there is a sample (x, y) -/
def hasB (w h x y : Int32) : Bool := decide (¬ x < 0 ∧ ¬ w ≤ x ∧ ¬ y < 0 ∧ ¬ h ≤ y)
set_option maxRecDepth 100000 in
set_option maxHeartbeats 4000000 in
theorem c_has (l : Launch) (D : va_G) (ca : Nat → ClassId) (ad : Nat → Nat) (f g : Nat → Int32) (w h x y : Int32) : zMet l yP_has wP_has (rmk 0 0 0) zE0 (gG D ca ad) (pw3 ca f g w h) [.ref 0, .int x, .int y] (fun r aw => r = some (.int (if hasB w h x y then 1 else 0)) ∧ aw = pw3 ca f g w h) := by
  refine zMet.of (cc := cP_has) (maxL := 3) (ret := some .boolean) (lv := [some (.ref 0), some (.int x), some (.int y)]) (by decide) rfl (Nat.le_of_ble_eq_true rfl) rfl (fun M hl0 hR hC hS hE hret => ?_)
  have k0 : hasB w h x y = false → Zj M (gG D ca ad) cP_has 3 RP wP_has (some .boolean) (pw3 ca f g w h) [some (.ref 0), some (.int x), some (.int y)] [] 28 := fun hb => by
    refine z_iconst (v := 0) dP_has_28 (by decide) ?_
    refine z_ireturn dP_has_29 rfl hret ⟨Nat.le_of_eq hC, Nat.le_of_eq hS⟩ rfl ⟨?_, rfl⟩
    rw [hb]; rfl
  refine z_iload_n dP_has_0 rfl ?_
  refine z_if_lt (tgt := 28) dP_has_1 (by decide) (fun c1 => k0 (by simp [hasB, c1])) (fun c1 => ?_)
  refine z_iload_n dP_has_4 rfl ?_
  refine z_aload_n dP_has_5 rfl ?_
  refine z_get (C := RP) (T := TP) (N := 4) (ref := "ToneMixer$Plane") 1 dP_has_6 rfl rfl rfl (by decide) (fun w h => bwT (hbP w h)) (bwT b_29) rfl ?_
  refine z_icmp_ge (tgt := 28) dP_has_9 (by decide) (fun c2 => k0 (by simp [hasB, c2])) (fun c2 => ?_)
  refine z_iload_n dP_has_12 rfl ?_
  refine z_if_lt (tgt := 28) dP_has_13 (by decide) (fun c3 => k0 (by simp [hasB, c3])) (fun c3 => ?_)
  refine z_iload_n dP_has_16 rfl ?_
  refine z_aload_n dP_has_17 rfl ?_
  refine z_get (C := RP) (T := TP) (N := 4) (ref := "ToneMixer$Plane") 2 dP_has_18 rfl rfl rfl (by decide) (fun w h => bwT (hbP w h)) (bwT b_31) rfl ?_
  refine z_icmp_ge (tgt := 28) dP_has_21 (by decide) (fun c4 => k0 (by simp [hasB, c4])) (fun c4 => ?_)
  refine z_iconst (v := 1) dP_has_24 (by decide) ?_
  refine z_goto (tgt := 29) dP_has_25 (by decide) ?_
  refine z_ireturn dP_has_29 rfl hret ⟨Nat.le_of_eq hC, Nat.le_of_eq hS⟩ rfl ⟨?_, rfl⟩
  rw [show hasB w h x y = true by simp [hasB, c1, c2, c3, c4]]; rfl
abbrev pw6 (ca : Nat → ClassId) (f g f2 g2 : Nat → Int32) (w h w2 h2 : Int32) : List va_E := [.inr (1, [.ref 1, .int w, .int h, .ref 2]), .inl (ca 0, 1024, .inl f), .inl (ca 0, 32, .inl g), .inr (1, [.ref 4, .int w2, .int h2, .ref 5]), .inl (ca 0, 1024, .inl f2), .inl (ca 0, 32, .inl g2)]
set_option maxRecDepth 100000 in
set_option maxHeartbeats 4000000 in
theorem c_isOfSizeOf (l : Launch) (D : va_G) (ca : Nat → ClassId) (ad : Nat → Nat) (f g : Nat → Int32) (w h : Int32) (f2 g2 : Nat → Int32) (w2 h2 : Int32) : zMet l yP_isOfSizeOf wP_isOfSizeOf (rmk 0 0 0) zE0 (gG D ca ad) (pw6 ca f g f2 g2 w h w2 h2) [.ref 0, .ref 3] (fun r aw => r = some (.int (if w = w2 ∧ h = h2 then 1 else 0)) ∧ aw = pw6 ca f g f2 g2 w h w2 h2) := by
  refine zMet.of (cc := cP_isOfSizeOf) (maxL := 2) (ret := some .boolean) (lv := [some (.ref 0), some (.ref 3)]) (by decide) rfl (Nat.le_of_ble_eq_true rfl) rfl (fun M hl0 hR hC hS hE hret => ?_)
  have k0 : ¬ (w = w2 ∧ h = h2) → Zj M (gG D ca ad) cP_isOfSizeOf 2 RP wP_isOfSizeOf (some .boolean) (pw6 ca f g f2 g2 w h w2 h2) [some (.ref 0), some (.ref 3)] [] 26 := fun hb => by
    refine z_iconst (v := 0) dP_isOfSizeOf_26 (by decide) ?_
    refine z_ireturn dP_isOfSizeOf_27 rfl hret ⟨Nat.le_of_eq hC, Nat.le_of_eq hS⟩ rfl ⟨?_, rfl⟩
    rw [if_neg hb]
  refine z_aload_n dP_isOfSizeOf_0 rfl ?_
  refine z_get (C := RP) (T := TP) (N := 4) (ref := "ToneMixer$Plane") 1 dP_isOfSizeOf_1 rfl rfl rfl (by decide) (fun w h => bwT (hbP w h)) (bwT b_29) rfl ?_
  refine z_aload_n dP_isOfSizeOf_4 rfl ?_
  refine z_get (C := RP) (T := TP) (N := 4) (ref := "ToneMixer$Plane") 1 dP_isOfSizeOf_5 rfl rfl rfl (by decide) (fun w h => bwT (hbP w h)) (bwT b_29) rfl ?_
  refine z_icmp_ne (tgt := 26) dP_isOfSizeOf_8 (by decide) (fun c1 => k0 (fun q => c1 q.1)) (fun c1 => ?_)
  refine z_aload_n dP_isOfSizeOf_11 rfl ?_
  refine z_get (C := RP) (T := TP) (N := 4) (ref := "ToneMixer$Plane") 2 dP_isOfSizeOf_12 rfl rfl rfl (by decide) (fun w h => bwT (hbP w h)) (bwT b_31) rfl ?_
  refine z_aload_n dP_isOfSizeOf_15 rfl ?_
  refine z_get (C := RP) (T := TP) (N := 4) (ref := "ToneMixer$Plane") 2 dP_isOfSizeOf_16 rfl rfl rfl (by decide) (fun w h => bwT (hbP w h)) (bwT b_31) rfl ?_
  refine z_icmp_ne (tgt := 26) dP_isOfSizeOf_19 (by decide) (fun c2 => k0 (fun q => c2 q.2)) (fun c2 => ?_)
  refine z_iconst (v := 1) dP_isOfSizeOf_22 (by decide) ?_
  refine z_goto (tgt := 27) dP_isOfSizeOf_23 (by decide) ?_
  refine z_ireturn dP_isOfSizeOf_27 rfl hret ⟨Nat.le_of_eq hC, Nat.le_of_eq hS⟩ rfl ⟨?_, rfl⟩
  first | rw [if_pos ⟨c1, c2⟩] | simp
set_option maxRecDepth 100000 in
set_option maxHeartbeats 4000000 in
theorem c_isOfSizeOf_self (l : Launch) (D : va_G) (ca : Nat → ClassId) (ad : Nat → Nat) (f g : Nat → Int32) (w h : Int32) : zMet l yP_isOfSizeOf wP_isOfSizeOf (rmk 0 0 0) zE0 (gG D ca ad) (pw3 ca f g w h) [.ref 0, .ref 0] (fun r aw => r = some (.int (if w = w ∧ h = h then 1 else 0)) ∧ aw = pw3 ca f g w h) := by
  refine zMet.of (cc := cP_isOfSizeOf) (maxL := 2) (ret := some .boolean) (lv := [some (.ref 0), some (.ref 0)]) (by decide) rfl (Nat.le_of_ble_eq_true rfl) rfl (fun M hl0 hR hC hS hE hret => ?_)
  have k0 : ¬ (w = w ∧ h = h) → Zj M (gG D ca ad) cP_isOfSizeOf 2 RP wP_isOfSizeOf (some .boolean) (pw3 ca f g w h) [some (.ref 0), some (.ref 0)] [] 26 := fun hb => by
    refine z_iconst (v := 0) dP_isOfSizeOf_26 (by decide) ?_
    refine z_ireturn dP_isOfSizeOf_27 rfl hret ⟨Nat.le_of_eq hC, Nat.le_of_eq hS⟩ rfl ⟨?_, rfl⟩
    rw [if_neg hb]
  refine z_aload_n dP_isOfSizeOf_0 rfl ?_
  refine z_get (C := RP) (T := TP) (N := 4) (ref := "ToneMixer$Plane") 1 dP_isOfSizeOf_1 rfl rfl rfl (by decide) (fun w h => bwT (hbP w h)) (bwT b_29) rfl ?_
  refine z_aload_n dP_isOfSizeOf_4 rfl ?_
  refine z_get (C := RP) (T := TP) (N := 4) (ref := "ToneMixer$Plane") 1 dP_isOfSizeOf_5 rfl rfl rfl (by decide) (fun w h => bwT (hbP w h)) (bwT b_29) rfl ?_
  refine z_icmp_ne (tgt := 26) dP_isOfSizeOf_8 (by decide) (fun c1 => k0 (fun q => c1 q.1)) (fun c1 => ?_)
  refine z_aload_n dP_isOfSizeOf_11 rfl ?_
  refine z_get (C := RP) (T := TP) (N := 4) (ref := "ToneMixer$Plane") 2 dP_isOfSizeOf_12 rfl rfl rfl (by decide) (fun w h => bwT (hbP w h)) (bwT b_31) rfl ?_
  refine z_aload_n dP_isOfSizeOf_15 rfl ?_
  refine z_get (C := RP) (T := TP) (N := 4) (ref := "ToneMixer$Plane") 2 dP_isOfSizeOf_16 rfl rfl rfl (by decide) (fun w h => bwT (hbP w h)) (bwT b_31) rfl ?_
  refine z_icmp_ne (tgt := 26) dP_isOfSizeOf_19 (by decide) (fun c2 => k0 (fun q => c2 q.2)) (fun c2 => ?_)
  refine z_iconst (v := 1) dP_isOfSizeOf_22 (by decide) ?_
  refine z_goto (tgt := 27) dP_isOfSizeOf_23 (by decide) ?_
  refine z_ireturn dP_isOfSizeOf_27 rfl hret ⟨Nat.le_of_eq hC, Nat.le_of_eq hS⟩ rfl ⟨?_, rfl⟩
  first | rw [if_pos ⟨c1, c2⟩] | simp
section
variable {M : zM} {D : va_G} {ca : Nat → ClassId} {ad : Nat → Nat} {f g : Nat → Int32} {w h : Nat} {sa : Nat → Nat}
set_option maxRecDepth 100000 in
set_option maxHeartbeats 4000000 in
theorem l_sum_x (hw : w ≤ 32) (hh : h ≤ 32) (hR : zroom M = rmk 1 0 0) (hC : zcells M = 0) (hS : zslots M = 0) (hE : zEn M (zEx sa)) {y : Nat} (hy : y < h) (acc : Int32)
    (k : Zj M (gG D ca ad) cP_sum 4 RP wP_sum (some .int) (pw3 ca f g (nI w) (nI h)) [some (.ref 0), some (.int (rowF (fun a b => a + b) f y w acc)), some (.int (nI y)), some (.int (nI w))] [] 41) :
    ∀ n x, x + n = w → Zj M (gG D ca ad) cP_sum 4 RP wP_sum (some .int) (pw3 ca f g (nI w) (nI h)) [some (.ref 0), some (.int (rowF (fun a b => a + b) f y x acc)), some (.int (nI y)), some (.int (nI x))] [] 14 := by
  intro n
  induction n with
  | zero =>
    intro x hx
    obtain rfl : x = w := by omega
    refine z_iload_n dP_sum_14 rfl ?_
    refine z_aload_n dP_sum_15 rfl ?_
    refine z_get (C := RP) (T := TP) (N := 4) (ref := "ToneMixer$Plane") 1 dP_sum_16 rfl rfl rfl (by decide) (fun w h => bwT (hbP w h)) (bwT b_29) rfl ?_
    exact z_icmp_ge (tgt := 41) dP_sum_19 (by decide) (fun _ => k) (fun hc => absurd (nI_le (Nat.le_refl _) (by omega)) hc)
  | succ n ih =>
    intro x hx
    refine z_iload_n dP_sum_14 rfl ?_
    refine z_aload_n dP_sum_15 rfl ?_
    refine z_get (C := RP) (T := TP) (N := 4) (ref := "ToneMixer$Plane") 1 dP_sum_16 rfl rfl rfl (by decide) (fun w h => bwT (hbP w h)) (bwT b_29) rfl ?_
    refine z_icmp_ge (tgt := 41) dP_sum_19 (by decide) (fun hc => absurd hc (nI_ge (by omega) (by omega))) (fun _ => ?_)
    refine z_iload_n dP_sum_22 rfl ?_
    refine z_aload_n dP_sum_23 rfl ?_
    refine z_get (C := RP) (T := TP) (N := 4) (ref := "ToneMixer$Plane") 0 dP_sum_24 rfl rfl rfl (by decide) (fun w h => bwT (hbP w h)) (bwT b_27) rfl ?_
    refine z_iload_n dP_sum_27 rfl ?_
    refine z_iload_n dP_sum_28 rfl ?_
    refine z_pure (z_SN (host := "ToneMixer") hE zEok_0 (hE.2.2.1 _ (List.mem_of_getElem? (i := 0) rfl)) (c_placeOf _ _ _ _) dP_sum_29 (gd_0 b_62) (bwT b_61) (bwT b_1) rfl qT_placeOf.2 ⟨rfl, rfl⟩ (by rw [hR]; decide) (by rw [hR, hC, hS]; decide) rfl (Nat.le_of_ble_eq_true rfl)) (fun r hr => ?_)
    subst hr
    simp only [zpush, zv]
    refine z_ialdN (t0 := 0) (k := y * 32 + x) dP_sum_32 rfl rfl (by rw [za, zm]; rfl) (by omega) (by decide) ?_
    refine z_iadd dP_sum_33 ?_
    refine z_istore_n dP_sum_34 (by decide) rfl ?_
    try simp only [List.set_cons_succ, List.set_cons_zero]
    refine z_iinc1 dP_sum_35 (by decide) rfl rfl ?_
    try simp only [List.set_cons_succ, List.set_cons_zero]
    refine z_goto (tgt := 14) dP_sum_38 (by decide) ?_
    rw [nI_1]
    exact ih (x + 1) (by omega)
set_option maxRecDepth 100000 in
set_option maxHeartbeats 4000000 in
theorem l_sum_y (hw : w ≤ 32) (hh : h ≤ 32) (hR : zroom M = rmk 1 0 0) (hC : zcells M = 0) (hS : zslots M = 0) (hE : zEn M (zEx sa)) (acc : Int32)
    (k : ∀ o, Zj M (gG D ca ad) cP_sum 4 RP wP_sum (some .int) (pw3 ca f g (nI w) (nI h)) [some (.ref 0), some (.int (allF (fun a b => a + b) f w h acc)), some (.int (nI h)), o] [] 47) :
    ∀ n y, y + n = h → ∀ o, Zj M (gG D ca ad) cP_sum 4 RP wP_sum (some .int) (pw3 ca f g (nI w) (nI h)) [some (.ref 0), some (.int (allF (fun a b => a + b) f w y acc)), some (.int (nI y)), o] [] 4 := by
  intro n
  induction n with
  | zero =>
    intro y hy o
    obtain rfl : y = h := by omega
    refine z_iload_n dP_sum_4 rfl ?_
    refine z_aload_n dP_sum_5 rfl ?_
    refine z_get (C := RP) (T := TP) (N := 4) (ref := "ToneMixer$Plane") 2 dP_sum_6 rfl rfl rfl (by decide) (fun w h => bwT (hbP w h)) (bwT b_31) rfl ?_
    exact z_icmp_ge (tgt := 47) dP_sum_9 (by decide) (fun _ => k o) (fun hc => absurd (nI_le (Nat.le_refl _) (by omega)) hc)
  | succ n ih =>
    intro y hy o
    refine z_iload_n dP_sum_4 rfl ?_
    refine z_aload_n dP_sum_5 rfl ?_
    refine z_get (C := RP) (T := TP) (N := 4) (ref := "ToneMixer$Plane") 2 dP_sum_6 rfl rfl rfl (by decide) (fun w h => bwT (hbP w h)) (bwT b_31) rfl ?_
    refine z_icmp_ge (tgt := 47) dP_sum_9 (by decide) (fun hc => absurd hc (nI_ge (by omega) (by omega))) (fun _ => ?_)
    refine z_iconst (v := 0) dP_sum_12 (by decide) ?_
    refine z_istore_n dP_sum_13 (by decide) rfl ?_
    try simp only [List.set_cons_succ, List.set_cons_zero]
    refine l_sum_x hw hh hR hC hS hE (y := y) (by omega) (allF (fun a b => a + b) f w y acc) ?_ w 0 (by omega)
    refine z_iinc1 dP_sum_41 (by decide) rfl rfl ?_
    try simp only [List.set_cons_succ, List.set_cons_zero]
    refine z_goto (tgt := 4) dP_sum_44 (by decide) ?_
    rw [nI_1]
    exact ih (y + 1) (by omega) _
end
set_option maxRecDepth 100000 in
set_option maxHeartbeats 4000000 in
theorem c_sum (l : Launch) (D : va_G) (ca : Nat → ClassId) (ad : Nat → Nat) (f g : Nat → Int32) (sa : Nat → Nat) (w h : Nat) (hw : w ≤ 32) (hh : h ≤ 32) : zMet l yP_sum wP_sum (rmk 1 0 0) (zEx sa) (gG D ca ad) (pw3 ca f g (nI w) (nI h)) [.ref 0] (fun r aw => r = some (.int (allF (fun a b => a + b) f w h 0)) ∧ aw = pw3 ca f g (nI w) (nI h)) := by
  refine zMet.of (cc := cP_sum) (maxL := 4) (ret := some .int) (lv := [some (.ref 0), none, none, none]) (by decide) rfl (Nat.le_of_ble_eq_true rfl) rfl (fun M hl0 hR hC hS hE hret => ?_)
  refine z_iconst (v := 0) dP_sum_0 (by decide) ?_
  refine z_istore_n dP_sum_1 (by decide) rfl ?_
  try simp only [List.set_cons_succ, List.set_cons_zero]
  refine z_iconst (v := 0) dP_sum_2 (by decide) ?_
  refine z_istore_n dP_sum_3 (by decide) rfl ?_
  try simp only [List.set_cons_succ, List.set_cons_zero]
  refine l_sum_y hw hh hR hC hS hE 0 (fun o => ?_) h 0 (by omega) _
  refine z_iload_n dP_sum_47 rfl ?_
  exact z_ireturn dP_sum_48 rfl hret ⟨Nat.le_of_eq hC, Nat.le_of_eq hS⟩ rfl ⟨rfl, rfl⟩
section
variable {M : zM} {D : va_G} {ca : Nat → ClassId} {ad : Nat → Nat} {f g : Nat → Int32} {w h : Nat} {sa : Nat → Nat}
set_option maxRecDepth 100000 in
set_option maxHeartbeats 4000000 in
theorem l_least_x (hw : w ≤ 32) (hh : h ≤ 32) (hR : zroom M = rmk 1 0 0) (hC : zcells M = 0) (hS : zslots M = 0) (hE : zEn M (zEx sa)) {y : Nat} (hy : y < h) (acc : Int32)
    (k : Zj M (gG D ca ad) cP_least 4 RP wP_least (some .int) (pw3 ca f g (nI w) (nI h)) [some (.ref 0), some (.int (rowF (fun a b => if b < a then b else a) f y w acc)), some (.int (nI y)), some (.int (nI w))] [] 45) :
    ∀ n x, x + n = w → Zj M (gG D ca ad) cP_least 4 RP wP_least (some .int) (pw3 ca f g (nI w) (nI h)) [some (.ref 0), some (.int (rowF (fun a b => if b < a then b else a) f y x acc)), some (.int (nI y)), some (.int (nI x))] [] 16 := by
  intro n
  induction n with
  | zero =>
    intro x hx
    obtain rfl : x = w := by omega
    refine z_iload_n dP_least_16 rfl ?_
    refine z_aload_n dP_least_17 rfl ?_
    refine z_get (C := RP) (T := TP) (N := 4) (ref := "ToneMixer$Plane") 1 dP_least_18 rfl rfl rfl (by decide) (fun w h => bwT (hbP w h)) (bwT b_29) rfl ?_
    exact z_icmp_ge (tgt := 45) dP_least_21 (by decide) (fun _ => k) (fun hc => absurd (nI_le (Nat.le_refl _) (by omega)) hc)
  | succ n ih =>
    intro x hx
    refine z_iload_n dP_least_16 rfl ?_
    refine z_aload_n dP_least_17 rfl ?_
    refine z_get (C := RP) (T := TP) (N := 4) (ref := "ToneMixer$Plane") 1 dP_least_18 rfl rfl rfl (by decide) (fun w h => bwT (hbP w h)) (bwT b_29) rfl ?_
    refine z_icmp_ge (tgt := 45) dP_least_21 (by decide) (fun hc => absurd hc (nI_ge (by omega) (by omega))) (fun _ => ?_)
    refine z_iload_n dP_least_24 rfl ?_
    refine z_aload_n dP_least_25 rfl ?_
    refine z_get (C := RP) (T := TP) (N := 4) (ref := "ToneMixer$Plane") 0 dP_least_26 rfl rfl rfl (by decide) (fun w h => bwT (hbP w h)) (bwT b_27) rfl ?_
    refine z_iload_n dP_least_29 rfl ?_
    refine z_iload_n dP_least_30 rfl ?_
    refine z_pure (z_SN (host := "ToneMixer") hE zEok_0 (hE.2.2.1 _ (List.mem_of_getElem? (i := 0) rfl)) (c_placeOf _ _ _ _) dP_least_31 (gd_0 b_62) (bwT b_61) (bwT b_1) rfl qT_placeOf.2 ⟨rfl, rfl⟩ (by rw [hR]; decide) (by rw [hR, hC, hS]; decide) rfl (Nat.le_of_ble_eq_true rfl)) (fun r hr => ?_)
    subst hr
    simp only [zpush, zv]
    refine z_ialdN (t0 := 0) (k := y * 32 + x) dP_least_34 rfl rfl (by rw [za, zm]; rfl) (by omega) (by decide) ?_
    refine z_mmin dP_least_35 (bwT b_283) (bwT b_80) (bwT b_10) (bwT b_81) (zmR hR ⟨Nat.le_of_ble_eq_true rfl, Nat.le_of_ble_eq_true rfl⟩) (zmC hR hC hS (by decide)) ?_
    refine z_istore_n dP_least_38 (by decide) rfl ?_
    try simp only [List.set_cons_succ, List.set_cons_zero]
    refine z_iinc1 dP_least_39 (by decide) rfl rfl ?_
    try simp only [List.set_cons_succ, List.set_cons_zero]
    refine z_goto (tgt := 16) dP_least_42 (by decide) ?_
    rw [nI_1]
    exact ih (x + 1) (by omega)
set_option maxRecDepth 100000 in
set_option maxHeartbeats 4000000 in
theorem l_least_y (hw : w ≤ 32) (hh : h ≤ 32) (hR : zroom M = rmk 1 0 0) (hC : zcells M = 0) (hS : zslots M = 0) (hE : zEn M (zEx sa)) (acc : Int32)
    (k : ∀ o, Zj M (gG D ca ad) cP_least 4 RP wP_least (some .int) (pw3 ca f g (nI w) (nI h)) [some (.ref 0), some (.int (allF (fun a b => if b < a then b else a) f w h acc)), some (.int (nI h)), o] [] 51) :
    ∀ n y, y + n = h → ∀ o, Zj M (gG D ca ad) cP_least 4 RP wP_least (some .int) (pw3 ca f g (nI w) (nI h)) [some (.ref 0), some (.int (allF (fun a b => if b < a then b else a) f w y acc)), some (.int (nI y)), o] [] 6 := by
  intro n
  induction n with
  | zero =>
    intro y hy o
    obtain rfl : y = h := by omega
    refine z_iload_n dP_least_6 rfl ?_
    refine z_aload_n dP_least_7 rfl ?_
    refine z_get (C := RP) (T := TP) (N := 4) (ref := "ToneMixer$Plane") 2 dP_least_8 rfl rfl rfl (by decide) (fun w h => bwT (hbP w h)) (bwT b_31) rfl ?_
    exact z_icmp_ge (tgt := 51) dP_least_11 (by decide) (fun _ => k o) (fun hc => absurd (nI_le (Nat.le_refl _) (by omega)) hc)
  | succ n ih =>
    intro y hy o
    refine z_iload_n dP_least_6 rfl ?_
    refine z_aload_n dP_least_7 rfl ?_
    refine z_get (C := RP) (T := TP) (N := 4) (ref := "ToneMixer$Plane") 2 dP_least_8 rfl rfl rfl (by decide) (fun w h => bwT (hbP w h)) (bwT b_31) rfl ?_
    refine z_icmp_ge (tgt := 51) dP_least_11 (by decide) (fun hc => absurd hc (nI_ge (by omega) (by omega))) (fun _ => ?_)
    refine z_iconst (v := 0) dP_least_14 (by decide) ?_
    refine z_istore_n dP_least_15 (by decide) rfl ?_
    try simp only [List.set_cons_succ, List.set_cons_zero]
    refine l_least_x hw hh hR hC hS hE (y := y) (by omega) (allF (fun a b => if b < a then b else a) f w y acc) ?_ w 0 (by omega)
    refine z_iinc1 dP_least_45 (by decide) rfl rfl ?_
    try simp only [List.set_cons_succ, List.set_cons_zero]
    refine z_goto (tgt := 6) dP_least_48 (by decide) ?_
    rw [nI_1]
    exact ih (y + 1) (by omega) _
end
set_option maxRecDepth 100000 in
set_option maxHeartbeats 4000000 in
theorem c_least (l : Launch) (D : va_G) (ca : Nat → ClassId) (ad : Nat → Nat) (f g : Nat → Int32) (sa : Nat → Nat) (w h : Nat) (hw : w ≤ 32) (hh : h ≤ 32) : zMet l yP_least wP_least (rmk 1 0 0) (zEx sa) (gG D ca ad) (pw3 ca f g (nI w) (nI h)) [.ref 0] (fun r aw => r = some (.int (allF (fun a b => if b < a then b else a) f w h 255)) ∧ aw = pw3 ca f g (nI w) (nI h)) := by
  refine zMet.of (cc := cP_least) (maxL := 4) (ret := some .int) (lv := [some (.ref 0), none, none, none]) (by decide) rfl (Nat.le_of_ble_eq_true rfl) rfl (fun M hl0 hR hC hS hE hret => ?_)
  refine z_sipush (v := 255) dP_least_0 (by decide) ?_
  refine z_istore_n dP_least_3 (by decide) rfl ?_
  try simp only [List.set_cons_succ, List.set_cons_zero]
  refine z_iconst (v := 0) dP_least_4 (by decide) ?_
  refine z_istore_n dP_least_5 (by decide) rfl ?_
  try simp only [List.set_cons_succ, List.set_cons_zero]
  refine l_least_y hw hh hR hC hS hE 255 (fun o => ?_) h 0 (by omega) _
  refine z_iload_n dP_least_51 rfl ?_
  exact z_ireturn dP_least_52 rfl hret ⟨Nat.le_of_eq hC, Nat.le_of_eq hS⟩ rfl ⟨rfl, rfl⟩
section
variable {M : zM} {D : va_G} {ca : Nat → ClassId} {ad : Nat → Nat} {f g : Nat → Int32} {w h : Nat} {sa : Nat → Nat}
set_option maxRecDepth 100000 in
set_option maxHeartbeats 4000000 in
theorem l_greatest_x (hw : w ≤ 32) (hh : h ≤ 32) (hR : zroom M = rmk 1 0 0) (hC : zcells M = 0) (hS : zslots M = 0) (hE : zEn M (zEx sa)) {y : Nat} (hy : y < h) (acc : Int32)
    (k : Zj M (gG D ca ad) cP_greatest 4 RP wP_greatest (some .int) (pw3 ca f g (nI w) (nI h)) [some (.ref 0), some (.int (rowF (fun a b => if a < b then b else a) f y w acc)), some (.int (nI y)), some (.int (nI w))] [] 43) :
    ∀ n x, x + n = w → Zj M (gG D ca ad) cP_greatest 4 RP wP_greatest (some .int) (pw3 ca f g (nI w) (nI h)) [some (.ref 0), some (.int (rowF (fun a b => if a < b then b else a) f y x acc)), some (.int (nI y)), some (.int (nI x))] [] 14 := by
  intro n
  induction n with
  | zero =>
    intro x hx
    obtain rfl : x = w := by omega
    refine z_iload_n dP_greatest_14 rfl ?_
    refine z_aload_n dP_greatest_15 rfl ?_
    refine z_get (C := RP) (T := TP) (N := 4) (ref := "ToneMixer$Plane") 1 dP_greatest_16 rfl rfl rfl (by decide) (fun w h => bwT (hbP w h)) (bwT b_29) rfl ?_
    exact z_icmp_ge (tgt := 43) dP_greatest_19 (by decide) (fun _ => k) (fun hc => absurd (nI_le (Nat.le_refl _) (by omega)) hc)
  | succ n ih =>
    intro x hx
    refine z_iload_n dP_greatest_14 rfl ?_
    refine z_aload_n dP_greatest_15 rfl ?_
    refine z_get (C := RP) (T := TP) (N := 4) (ref := "ToneMixer$Plane") 1 dP_greatest_16 rfl rfl rfl (by decide) (fun w h => bwT (hbP w h)) (bwT b_29) rfl ?_
    refine z_icmp_ge (tgt := 43) dP_greatest_19 (by decide) (fun hc => absurd hc (nI_ge (by omega) (by omega))) (fun _ => ?_)
    refine z_iload_n dP_greatest_22 rfl ?_
    refine z_aload_n dP_greatest_23 rfl ?_
    refine z_get (C := RP) (T := TP) (N := 4) (ref := "ToneMixer$Plane") 0 dP_greatest_24 rfl rfl rfl (by decide) (fun w h => bwT (hbP w h)) (bwT b_27) rfl ?_
    refine z_iload_n dP_greatest_27 rfl ?_
    refine z_iload_n dP_greatest_28 rfl ?_
    refine z_pure (z_SN (host := "ToneMixer") hE zEok_0 (hE.2.2.1 _ (List.mem_of_getElem? (i := 0) rfl)) (c_placeOf _ _ _ _) dP_greatest_29 (gd_0 b_62) (bwT b_61) (bwT b_1) rfl qT_placeOf.2 ⟨rfl, rfl⟩ (by rw [hR]; decide) (by rw [hR, hC, hS]; decide) rfl (Nat.le_of_ble_eq_true rfl)) (fun r hr => ?_)
    subst hr
    simp only [zpush, zv]
    refine z_ialdN (t0 := 0) (k := y * 32 + x) dP_greatest_32 rfl rfl (by rw [za, zm]; rfl) (by omega) (by decide) ?_
    refine z_mmax dP_greatest_33 (bwT b_360) (bwT b_83) (bwT b_10) (bwT b_84) (zmR hR ⟨Nat.le_of_ble_eq_true rfl, Nat.le_of_ble_eq_true rfl⟩) (zmC hR hC hS (by decide)) ?_
    refine z_istore_n dP_greatest_36 (by decide) rfl ?_
    try simp only [List.set_cons_succ, List.set_cons_zero]
    refine z_iinc1 dP_greatest_37 (by decide) rfl rfl ?_
    try simp only [List.set_cons_succ, List.set_cons_zero]
    refine z_goto (tgt := 14) dP_greatest_40 (by decide) ?_
    rw [nI_1]
    exact ih (x + 1) (by omega)
set_option maxRecDepth 100000 in
set_option maxHeartbeats 4000000 in
theorem l_greatest_y (hw : w ≤ 32) (hh : h ≤ 32) (hR : zroom M = rmk 1 0 0) (hC : zcells M = 0) (hS : zslots M = 0) (hE : zEn M (zEx sa)) (acc : Int32)
    (k : ∀ o, Zj M (gG D ca ad) cP_greatest 4 RP wP_greatest (some .int) (pw3 ca f g (nI w) (nI h)) [some (.ref 0), some (.int (allF (fun a b => if a < b then b else a) f w h acc)), some (.int (nI h)), o] [] 49) :
    ∀ n y, y + n = h → ∀ o, Zj M (gG D ca ad) cP_greatest 4 RP wP_greatest (some .int) (pw3 ca f g (nI w) (nI h)) [some (.ref 0), some (.int (allF (fun a b => if a < b then b else a) f w y acc)), some (.int (nI y)), o] [] 4 := by
  intro n
  induction n with
  | zero =>
    intro y hy o
    obtain rfl : y = h := by omega
    refine z_iload_n dP_greatest_4 rfl ?_
    refine z_aload_n dP_greatest_5 rfl ?_
    refine z_get (C := RP) (T := TP) (N := 4) (ref := "ToneMixer$Plane") 2 dP_greatest_6 rfl rfl rfl (by decide) (fun w h => bwT (hbP w h)) (bwT b_31) rfl ?_
    exact z_icmp_ge (tgt := 49) dP_greatest_9 (by decide) (fun _ => k o) (fun hc => absurd (nI_le (Nat.le_refl _) (by omega)) hc)
  | succ n ih =>
    intro y hy o
    refine z_iload_n dP_greatest_4 rfl ?_
    refine z_aload_n dP_greatest_5 rfl ?_
    refine z_get (C := RP) (T := TP) (N := 4) (ref := "ToneMixer$Plane") 2 dP_greatest_6 rfl rfl rfl (by decide) (fun w h => bwT (hbP w h)) (bwT b_31) rfl ?_
    refine z_icmp_ge (tgt := 49) dP_greatest_9 (by decide) (fun hc => absurd hc (nI_ge (by omega) (by omega))) (fun _ => ?_)
    refine z_iconst (v := 0) dP_greatest_12 (by decide) ?_
    refine z_istore_n dP_greatest_13 (by decide) rfl ?_
    try simp only [List.set_cons_succ, List.set_cons_zero]
    refine l_greatest_x hw hh hR hC hS hE (y := y) (by omega) (allF (fun a b => if a < b then b else a) f w y acc) ?_ w 0 (by omega)
    refine z_iinc1 dP_greatest_43 (by decide) rfl rfl ?_
    try simp only [List.set_cons_succ, List.set_cons_zero]
    refine z_goto (tgt := 4) dP_greatest_46 (by decide) ?_
    rw [nI_1]
    exact ih (y + 1) (by omega) _
end
set_option maxRecDepth 100000 in
set_option maxHeartbeats 4000000 in
theorem c_greatest (l : Launch) (D : va_G) (ca : Nat → ClassId) (ad : Nat → Nat) (f g : Nat → Int32) (sa : Nat → Nat) (w h : Nat) (hw : w ≤ 32) (hh : h ≤ 32) : zMet l yP_greatest wP_greatest (rmk 1 0 0) (zEx sa) (gG D ca ad) (pw3 ca f g (nI w) (nI h)) [.ref 0] (fun r aw => r = some (.int (allF (fun a b => if a < b then b else a) f w h 0)) ∧ aw = pw3 ca f g (nI w) (nI h)) := by
  refine zMet.of (cc := cP_greatest) (maxL := 4) (ret := some .int) (lv := [some (.ref 0), none, none, none]) (by decide) rfl (Nat.le_of_ble_eq_true rfl) rfl (fun M hl0 hR hC hS hE hret => ?_)
  refine z_iconst (v := 0) dP_greatest_0 (by decide) ?_
  refine z_istore_n dP_greatest_1 (by decide) rfl ?_
  try simp only [List.set_cons_succ, List.set_cons_zero]
  refine z_iconst (v := 0) dP_greatest_2 (by decide) ?_
  refine z_istore_n dP_greatest_3 (by decide) rfl ?_
  try simp only [List.set_cons_succ, List.set_cons_zero]
  refine l_greatest_y hw hh hR hC hS hE 0 (fun o => ?_) h 0 (by omega) _
  refine z_iload_n dP_greatest_49 rfl ?_
  exact z_ireturn dP_greatest_50 rfl hret ⟨Nat.le_of_eq hC, Nat.le_of_eq hS⟩ rfl ⟨rfl, rfl⟩
