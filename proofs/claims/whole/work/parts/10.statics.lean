def rmk (k c s : Nat) : Room := { frames := k, cells := c, slots := s, locals := 40 * k }
abbrev tyl (ca : Nat → ClassId) : List (ClassId × FieldType) := [(ca 0, .int), (ca 1, .long), (ca 2, .object "ToneMixer$Plane")]
abbrev gG (D : va_G) (ca : Nat → ClassId) (ad : Nat → Nat) : zG := (D, vwCl, tyl ca, ad)
set_option maxRecDepth 100000 in
set_option maxHeartbeats 4000000 in
theorem c_placeOf (l : Launch) (G : zG) (x y : Int32) : zMet l yT_placeOf wT_placeOf (rmk 0 0 0) zE0 G [] [.int x, .int y] (fun r _ => r = some (.int (y * 32 + x))) := by
  refine zMet.of (cc := cT_placeOf) (maxL := 2) (ret := some .int) (lv := [some (.int x), some (.int y)]) (by decide) rfl (Nat.le_of_ble_eq_true rfl) rfl (fun M hl0 hR hC hS hE hret => ?_)
  refine z_iload_n dT_placeOf_0 rfl ?_
  refine z_bipush (v := 32) dT_placeOf_1 (by decide) ?_
  refine z_imul dT_placeOf_3 ?_
  refine z_iload_n dT_placeOf_4 rfl ?_
  refine z_iadd dT_placeOf_5 ?_
  exact z_ireturn dT_placeOf_6 rfl hret ⟨Nat.le_of_eq hC, Nat.le_of_eq hS⟩ rfl rfl
set_option maxRecDepth 100000 in
set_option maxHeartbeats 4000000 in
theorem c_shiftOfByte (l : Launch) (G : zG) (i : Int32) : zMet l yT_shiftOfByte wT_shiftOfByte (rmk 0 0 0) zE0 G [] [.int i] (fun r _ => r = some (.int (8 * (7 - i)))) := by
  refine zMet.of (cc := cT_shiftOfByte) (maxL := 1) (ret := some .int) (lv := [some (.int i)]) (by decide) rfl (Nat.le_of_ble_eq_true rfl) rfl (fun M hl0 hR hC hS hE hret => ?_)
  refine z_bipush (v := 8) dT_shiftOfByte_0 (by decide) ?_
  refine z_bipush (v := 7) dT_shiftOfByte_2 (by decide) ?_
  refine z_iload_n dT_shiftOfByte_4 rfl ?_
  refine z_isub dT_shiftOfByte_5 ?_
  refine z_imul dT_shiftOfByte_6 ?_
  exact z_ireturn dT_shiftOfByte_7 rfl hret ⟨Nat.le_of_eq hC, Nat.le_of_eq hS⟩ rfl rfl
set_option maxRecDepth 100000 in
set_option maxHeartbeats 4000000 in
theorem c_shifted (l : Launch) (G : zG) (v : Int32) : zMet l yT_shifted wT_shifted (rmk 0 0 0) zE0 G [] [.int v] (fun r _ => r = some (.int (v >>> ((16 : Int32) &&& 31)))) := by
  refine zMet.of (cc := cT_shifted) (maxL := 1) (ret := some .int) (lv := [some (.int v)]) (by decide) rfl (Nat.le_of_ble_eq_true rfl) rfl (fun M hl0 hR hC hS hE hret => ?_)
  refine z_iload_n dT_shifted_0 rfl ?_
  refine z_bipush (v := 16) dT_shifted_1 (by decide) ?_
  refine z_ishr dT_shifted_3 ?_
  exact z_ireturn dT_shifted_4 rfl hret ⟨Nat.le_of_eq hC, Nat.le_of_eq hS⟩ rfl rfl
set_option maxRecDepth 100000 in
set_option maxHeartbeats 4000000 in
theorem c_darkened (l : Launch) (G : zG) (a b : Int32) : zMet l yT_darkened wT_darkened (rmk 0 0 0) zE0 G [] [.int a, .int b] (fun r _ => r = some (.int ((a * b + 127) / 255))) := by
  refine zMet.of (cc := cT_darkened) (maxL := 2) (ret := some .int) (lv := [some (.int a), some (.int b)]) (by decide) rfl (Nat.le_of_ble_eq_true rfl) rfl (fun M hl0 hR hC hS hE hret => ?_)
  refine z_iload_n dT_darkened_0 rfl ?_
  refine z_iload_n dT_darkened_1 rfl ?_
  refine z_imul dT_darkened_2 ?_
  refine z_bipush (v := 127) dT_darkened_3 (by decide) ?_
  refine z_iadd dT_darkened_5 ?_
  refine z_sipush (v := 255) dT_darkened_6 (by decide) ?_
  refine z_idiv dT_darkened_9 (by decide) ?_
  exact z_ireturn dT_darkened_10 rfl hret ⟨Nat.le_of_eq hC, Nat.le_of_eq hS⟩ rfl rfl
/-- Math.max(0, Math.min(255, v)) -/
def lim (v : Int32) : Int32 := if (0 : Int32) < (if v < (255 : Int32) then v else 255) then (if v < (255 : Int32) then v else 255) else 0
set_option maxRecDepth 100000 in
set_option maxHeartbeats 4000000 in
theorem c_limit (l : Launch) (G : zG) (v : Int32) : zMet l yT_limit wT_limit (rmk 1 0 0) zE0 G [] [.int v] (fun r _ => r = some (.int (lim v))) := by
  refine zMet.of (cc := cT_limit) (maxL := 1) (ret := some .int) (lv := [some (.int v)]) (by decide) rfl (Nat.le_of_ble_eq_true rfl) rfl (fun M hl0 hR hC hS hE hret => ?_)
  refine z_iconst (v := 0) dT_limit_0 (by decide) ?_
  refine z_sipush (v := 255) dT_limit_1 (by decide) ?_
  refine z_iload_n dT_limit_4 rfl ?_
  refine z_mmin dT_limit_5 (bwT b_79) (bwT b_80) (bwT b_10) (bwT b_81) (zmR hR ⟨Nat.le_of_ble_eq_true rfl, Nat.le_of_ble_eq_true rfl⟩) (zmC hR hC hS (by decide)) ?_
  refine z_mmax dT_limit_8 (bwT b_82) (bwT b_83) (bwT b_10) (bwT b_84) (zmR hR ⟨Nat.le_of_ble_eq_true rfl, Nat.le_of_ble_eq_true rfl⟩) (zmC hR hC hS (by decide)) ?_
  exact z_ireturn dT_limit_11 rfl hret ⟨Nat.le_of_eq hC, Nat.le_of_eq hS⟩ rfl rfl
/-- the brightness of a colour -/
def bri (a b c : Int32) : Int32 := (19595 * a + 38470 * b + 7471 * c + 32768) >>> ((16 : Int32) &&& 31)
set_option maxRecDepth 100000 in
set_option maxHeartbeats 4000000 in
theorem c_brightness (l : Launch) (G : zG) (a b c : Int32) : zMet l yT_brightness wT_brightness (rmk 1 0 0) zE0 G [] [.int a, .int b, .int c] (fun r _ => r = some (.int (bri a b c))) := by
  refine zMet.of (cc := cT_brightness) (maxL := 3) (ret := some .int) (lv := [some (.int a), some (.int b), some (.int c)]) (by decide) rfl (Nat.le_of_ble_eq_true rfl) rfl (fun M hl0 hR hC hS hE hret => ?_)
  refine z_sipush (v := 19595) dT_brightness_0 (by decide) ?_
  refine z_iload_n dT_brightness_3 rfl ?_
  refine z_imul dT_brightness_4 ?_
  refine z_ldc (v := 38470) dT_brightness_5 (bwT b_98) ?_
  refine z_iload_n dT_brightness_7 rfl ?_
  refine z_imul dT_brightness_8 ?_
  refine z_iadd dT_brightness_9 ?_
  refine z_sipush (v := 7471) dT_brightness_10 (by decide) ?_
  refine z_iload_n dT_brightness_13 rfl ?_
  refine z_imul dT_brightness_14 ?_
  refine z_iadd dT_brightness_15 ?_
  refine z_ldc (v := 32768) dT_brightness_16 (bwT b_72) ?_
  refine z_iadd dT_brightness_18 ?_
  refine z_pure (z_S hE zEok_0 (c_shifted _ _ _) dT_brightness_19 (gd_S b_73 b_74 b_1 b_75) rfl qT_shifted.2 ⟨rfl, rfl⟩ (by rw [hR]; decide) (by rw [hR, hC, hS]; decide) rfl (Nat.le_of_ble_eq_true rfl)) (fun r hr => ?_)
  subst hr
  simp only [zpush, zv]
  exact z_ireturn dT_brightness_22 rfl hret ⟨Nat.le_of_eq hC, Nat.le_of_eq hS⟩ rfl rfl
set_option maxRecDepth 100000 in
set_option maxHeartbeats 4000000 in
theorem c_half (l : Launch) (G : zG) (n : Nat) (hn : n < 2 ^ 30) : zMet l yP_half wP_half (rmk 0 0 0) zE0 G [] [.int (nI n)] (fun r _ => r = some (.int (nI ((n + 1) / 2)))) := by
  refine zMet.of (cc := cP_half) (maxL := 1) (ret := some .int) (lv := [some (.int (nI n))]) (by decide) rfl (Nat.le_of_ble_eq_true rfl) rfl (fun M hl0 hR hC hS hE hret => ?_)
  refine z_iload_n dP_half_0 rfl ?_
  refine z_iconst (v := 1) dP_half_1 (by decide) ?_
  refine z_iadd dP_half_2 ?_
  refine z_iconst (v := 2) dP_half_3 (by decide) ?_
  refine z_idiv dP_half_4 (by decide) ?_
  refine z_ireturn dP_half_5 rfl hret ⟨Nat.le_of_eq hC, Nat.le_of_eq hS⟩ rfl ?_
  rw [nI_1, show (2 : Int32) = nI 2 from rfl, pk_div (by omega) (by omega) (by omega)]
