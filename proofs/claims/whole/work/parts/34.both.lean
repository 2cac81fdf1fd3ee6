/-! both ways; wider and deeper; the difference of two planes; emptied; copied -/
def mn (a b : Nat) : Nat := if a ≤ b then a else b
def s4 (f : Nat → Int32) (w h x y : Nat) : Int32 := f (y * 32 + x) + f (y * 32 + mn (x + 1) (w - 1)) + f (mn (y + 1) (h - 1) * 32 + x) + f (mn (y + 1) (h - 1) * 32 + mn (x + 1) (w - 1))
def shBx (w h y : Nat) (f : Nat → Int32) : Nat → (Nat → Int32)
  | 0 => f
  | x + 1 => upd (shBx w h y f x) (y * 32 + x) ((s4 (shBx w h y f x) w h (2 * x) (2 * y) + 1 + nI (x % 2)) >>> ((2 : Int32) &&& 31))
def shB (w h : Nat) (f : Nat → Int32) : Nat → (Nat → Int32)
  | 0 => f
  | y + 1 => shBx w h y (shB w h f y) ((w + 1) / 2)
def wdx (v : Int32) (w y : Nat) (f : Nat → Int32) : Nat → (Nat → Int32)
  | 0 => f
  | n + 1 => upd (wdx v w y f n) (y * 32 + (w + n)) v
def wdn (w nw : Nat) (f : Nat → Int32) : Nat → (Nat → Int32)
  | 0 => f
  | y + 1 => wdx (wdn w nw f y (y * 32 + (w - 1))) w y (wdn w nw f y) (nw - w)
def dpx (v : Int32) (h x : Nat) (f : Nat → Int32) : Nat → (Nat → Int32)
  | 0 => f
  | n + 1 => upd (dpx v h x f n) ((h + n) * 32 + x) v
def dpn (h nh : Nat) (f : Nat → Int32) : Nat → (Nat → Int32)
  | 0 => f
  | x + 1 => dpx (dpn h nh f x ((h - 1) * 32 + x)) h x (dpn h nh f x) (nh - h)
def zab (x : Int32) : Int32 := if 0 ≤ x then x else 0 - x
theorem z_mnI {a b : Nat} (ha : a < 2 ^ 31) (hb : b < 2 ^ 31) : (if nI b < nI a then nI b else nI a) = nI (mn a b) := z_min ha hb
theorem mn_le (a b : Nat) : mn a b ≤ b := by unfold mn; split <;> omega
theorem z_pl (x y : Nat) : nI y * 32 + nI x = nI (y * 32 + x) := by rw [za, zm]; rfl
theorem z_m1 {n : Nat} (h : 1 ≤ n) : nI n - (1 : Int32) = nI (n - 1) := by rw [show (1 : Int32) = nI 1 from rfl, pk_sub h]
theorem z_2 (n : Nat) : (2 : Int32) * nI n = nI (2 * n) := (zm 2 n).symm
theorem z_r2 {n : Nat} (h : n < 2 ^ 31) : nI n - nI n / 2 * 2 = nI (n % 2) := by rw [show (2 : Int32) = nI 2 from rfl, pk_rem h (by omega) (by omega)]
set_option maxRecDepth 100000 in
set_option maxHeartbeats 4000000 in
theorem c_sumOfFour (l : Launch) (D : va_G) (ca : Nat → ClassId) (ad : Nat → Nat) (f g : Nat → Int32) (sa : Nat → Nat) (w h x y : Nat) (hw1 : 1 ≤ w) (hh1 : 1 ≤ h) (hw : w ≤ 32) (hh : h ≤ 32) (hx : x < w) (hy : y < h) : zMet l yP_sumOfFour wP_sumOfFour (rmk 1 0 0) (zEx sa) (gG D ca ad) (pw3 ca f g (nI w) (nI h)) [.ref 0, .int (nI x), .int (nI y)] (fun r aw => r = some (.int (s4 f w h x y)) ∧ aw = pw3 ca f g (nI w) (nI h)) := by
  refine zMet.of (cc := cP_sumOfFour) (maxL := 5) (ret := some .int) (lv := [some (.ref 0), some (.int (nI x)), some (.int (nI y)), none, none]) (by decide) rfl (Nat.le_of_ble_eq_true rfl) rfl (fun M hl0 hR hC hS hE hret => ?_)
  have b1 := mn_le (x + 1) (w - 1)
  have b2 := mn_le (y + 1) (h - 1)
  refine z_iload_n dP_sumOfFour_0 rfl ?_
  refine z_iconst (v := 1) dP_sumOfFour_1 (by decide) ?_
  refine z_iadd dP_sumOfFour_2 ?_
  refine z_aload_n dP_sumOfFour_3 rfl ?_
  refine z_get (C := RP) (T := TP) (N := 4) (ref := "ToneMixer$Plane") 1 dP_sumOfFour_4 rfl rfl rfl (by decide) (fun w h => bwT (hbP w h)) (bwT b_29) rfl ?_
  refine z_iconst (v := 1) dP_sumOfFour_7 (by decide) ?_
  refine z_isub dP_sumOfFour_8 ?_
  rw [nI_1, z_m1 hw1]
  refine z_mmin dP_sumOfFour_9 (bwT b_283) (bwT b_80) (bwT b_10) (bwT b_81) (zmR hR ⟨Nat.le_of_ble_eq_true rfl, Nat.le_of_ble_eq_true rfl⟩) (zmC hR hC hS (by decide)) ?_
  rw [z_mnI (by omega) (by omega)]
  refine z_istore_n dP_sumOfFour_12 (by decide) rfl ?_
  try simp only [List.set_cons_succ, List.set_cons_zero]
  refine z_iload_n dP_sumOfFour_13 rfl ?_
  refine z_iconst (v := 1) dP_sumOfFour_14 (by decide) ?_
  refine z_iadd dP_sumOfFour_15 ?_
  refine z_aload_n dP_sumOfFour_16 rfl ?_
  refine z_get (C := RP) (T := TP) (N := 4) (ref := "ToneMixer$Plane") 2 dP_sumOfFour_17 rfl rfl rfl (by decide) (fun w h => bwT (hbP w h)) (bwT b_31) rfl ?_
  refine z_iconst (v := 1) dP_sumOfFour_20 (by decide) ?_
  refine z_isub dP_sumOfFour_21 ?_
  rw [nI_1, z_m1 hh1]
  refine z_mmin dP_sumOfFour_22 (bwT b_283) (bwT b_80) (bwT b_10) (bwT b_81) (zmR hR ⟨Nat.le_of_ble_eq_true rfl, Nat.le_of_ble_eq_true rfl⟩) (zmC hR hC hS (by decide)) ?_
  rw [z_mnI (by omega) (by omega)]
  refine z_istore dP_sumOfFour_25 (by decide) rfl ?_
  try simp only [List.set_cons_succ, List.set_cons_zero]
  refine z_aload_n dP_sumOfFour_27 rfl ?_
  refine z_get (C := RP) (T := TP) (N := 4) (ref := "ToneMixer$Plane") 0 dP_sumOfFour_28 rfl rfl rfl (by decide) (fun w h => bwT (hbP w h)) (bwT b_27) rfl ?_
  refine z_iload_n dP_sumOfFour_31 rfl ?_
  refine z_iload_n dP_sumOfFour_32 rfl ?_
  refine z_pure (z_SN (host := "ToneMixer") hE zEok_0 (hE.2.2.1 _ (List.mem_of_getElem? (i := 0) rfl)) (c_placeOf _ _ _ _) dP_sumOfFour_33 (gd_0 b_62) (bwT b_61) (bwT b_1) rfl qT_placeOf.2 ⟨rfl, rfl⟩ (by rw [hR]; decide) (by rw [hR, hC, hS]; decide) rfl (Nat.le_of_ble_eq_true rfl)) (fun r hr => ?_)
  subst hr
  simp only [zpush, zv]
  refine z_ialdN (t0 := 0) (k := y * 32 + x) dP_sumOfFour_36 rfl rfl (z_pl _ _) (by omega) (by decide) ?_
  refine z_aload_n dP_sumOfFour_37 rfl ?_
  refine z_get (C := RP) (T := TP) (N := 4) (ref := "ToneMixer$Plane") 0 dP_sumOfFour_38 rfl rfl rfl (by decide) (fun w h => bwT (hbP w h)) (bwT b_27) rfl ?_
  refine z_iload_n dP_sumOfFour_41 rfl ?_
  refine z_iload_n dP_sumOfFour_42 rfl ?_
  refine z_pure (z_SN (host := "ToneMixer") hE zEok_0 (hE.2.2.1 _ (List.mem_of_getElem? (i := 0) rfl)) (c_placeOf _ _ _ _) dP_sumOfFour_43 (gd_0 b_62) (bwT b_61) (bwT b_1) rfl qT_placeOf.2 ⟨rfl, rfl⟩ (by rw [hR]; decide) (by rw [hR, hC, hS]; decide) rfl (Nat.le_of_ble_eq_true rfl)) (fun r hr => ?_)
  subst hr
  simp only [zpush, zv]
  refine z_ialdN (t0 := 0) (k := y * 32 + mn (x + 1) (w - 1)) dP_sumOfFour_46 rfl rfl (z_pl _ _) (by omega) (by decide) ?_
  refine z_iadd dP_sumOfFour_47 ?_
  refine z_aload_n dP_sumOfFour_48 rfl ?_
  refine z_get (C := RP) (T := TP) (N := 4) (ref := "ToneMixer$Plane") 0 dP_sumOfFour_49 rfl rfl rfl (by decide) (fun w h => bwT (hbP w h)) (bwT b_27) rfl ?_
  refine z_iload_n dP_sumOfFour_52 rfl ?_
  refine z_iload dP_sumOfFour_53 rfl ?_
  refine z_pure (z_SN (host := "ToneMixer") hE zEok_0 (hE.2.2.1 _ (List.mem_of_getElem? (i := 0) rfl)) (c_placeOf _ _ _ _) dP_sumOfFour_55 (gd_0 b_62) (bwT b_61) (bwT b_1) rfl qT_placeOf.2 ⟨rfl, rfl⟩ (by rw [hR]; decide) (by rw [hR, hC, hS]; decide) rfl (Nat.le_of_ble_eq_true rfl)) (fun r hr => ?_)
  subst hr
  simp only [zpush, zv]
  refine z_ialdN (t0 := 0) (k := mn (y + 1) (h - 1) * 32 + x) dP_sumOfFour_58 rfl rfl (z_pl _ _) (by omega) (by decide) ?_
  refine z_iadd dP_sumOfFour_59 ?_
  refine z_aload_n dP_sumOfFour_60 rfl ?_
  refine z_get (C := RP) (T := TP) (N := 4) (ref := "ToneMixer$Plane") 0 dP_sumOfFour_61 rfl rfl rfl (by decide) (fun w h => bwT (hbP w h)) (bwT b_27) rfl ?_
  refine z_iload_n dP_sumOfFour_64 rfl ?_
  refine z_iload dP_sumOfFour_65 rfl ?_
  refine z_pure (z_SN (host := "ToneMixer") hE zEok_0 (hE.2.2.1 _ (List.mem_of_getElem? (i := 0) rfl)) (c_placeOf _ _ _ _) dP_sumOfFour_67 (gd_0 b_62) (bwT b_61) (bwT b_1) rfl qT_placeOf.2 ⟨rfl, rfl⟩ (by rw [hR]; decide) (by rw [hR, hC, hS]; decide) rfl (Nat.le_of_ble_eq_true rfl)) (fun r hr => ?_)
  subst hr
  simp only [zpush, zv]
  refine z_ialdN (t0 := 0) (k := mn (y + 1) (h - 1) * 32 + mn (x + 1) (w - 1)) dP_sumOfFour_70 rfl rfl (z_pl _ _) (by omega) (by decide) ?_
  refine z_iadd dP_sumOfFour_71 ?_
  exact z_ireturn dP_sumOfFour_72 rfl hret ⟨Nat.le_of_eq hC, Nat.le_of_eq hS⟩ rfl ⟨rfl, rfl⟩
section
variable {M : zM} {D : va_G} {ca : Nat → ClassId} {ad : Nat → Nat} {f g : Nat → Int32} {w h : Nat} {sa : Nat → Nat}
set_option maxRecDepth 100000 in
set_option maxHeartbeats 4000000 in
theorem l_shrinkBoth_x (hw1 : 1 ≤ w) (hh1 : 1 ≤ h) (hw : w ≤ 32) (hh : h ≤ 32) (hR : zroom M = rmk 2 0 0) (hC : zcells M = 0) (hS : zslots M = 0) (hE : zEn M (zEx sa)) {y : Nat} (hy : y < (h + 1) / 2)
    (k : Zj M (gG D ca ad) cP_shrinkBoth 3 RP wP_shrinkBoth none (pw3 ca (shBx w h y f ((w + 1) / 2)) g (nI w) (nI h)) [some (.ref 0), some (.int (nI y)), some (.int (nI ((w + 1) / 2)))] [] 60) :
    ∀ n x, x + n = (w + 1) / 2 → Zj M (gG D ca ad) cP_shrinkBoth 3 RP wP_shrinkBoth none (pw3 ca (shBx w h y f x) g (nI w) (nI h)) [some (.ref 0), some (.int (nI y)), some (.int (nI x))] [] 15 := by
  intro n
  induction n with
  | zero =>
    intro x hx
    obtain rfl : x = (w + 1) / 2 := by omega
    refine z_iload_n dP_shrinkBoth_15 rfl ?_
    refine z_aload_n dP_shrinkBoth_16 rfl ?_
    refine z_get (C := RP) (T := TP) (N := 4) (ref := "ToneMixer$Plane") 1 dP_shrinkBoth_17 rfl rfl rfl (by decide) (fun w h => bwT (hbP w h)) (bwT b_29) rfl ?_
    refine z_pure (z_S hE zEok_0 (c_half _ _ w (by omega)) dP_shrinkBoth_20 (gd_S b_280 b_281 b_2 b_282) rfl qP_half.2 ⟨rfl, rfl⟩ (by rw [hR]; decide) (by rw [hR, hC, hS]; decide) rfl (Nat.le_of_ble_eq_true rfl)) (fun r hr => ?_)
    subst hr
    simp only [zpush, zv]
    exact z_icmp_ge (tgt := 60) dP_shrinkBoth_23 (by decide) (fun _ => k) (fun hc => absurd (nI_le (Nat.le_refl _) (by omega)) hc)
  | succ n ih =>
    intro x hx
    refine z_iload_n dP_shrinkBoth_15 rfl ?_
    refine z_aload_n dP_shrinkBoth_16 rfl ?_
    refine z_get (C := RP) (T := TP) (N := 4) (ref := "ToneMixer$Plane") 1 dP_shrinkBoth_17 rfl rfl rfl (by decide) (fun w h => bwT (hbP w h)) (bwT b_29) rfl ?_
    refine z_pure (z_S hE zEok_0 (c_half _ _ w (by omega)) dP_shrinkBoth_20 (gd_S b_280 b_281 b_2 b_282) rfl qP_half.2 ⟨rfl, rfl⟩ (by rw [hR]; decide) (by rw [hR, hC, hS]; decide) rfl (Nat.le_of_ble_eq_true rfl)) (fun r hr => ?_)
    subst hr
    simp only [zpush, zv]
    refine z_icmp_ge (tgt := 60) dP_shrinkBoth_23 (by decide) (fun hc => absurd hc (nI_ge (by omega) (by omega))) (fun _ => ?_)
    refine z_aload_n dP_shrinkBoth_26 rfl ?_
    refine z_get (C := RP) (T := TP) (N := 4) (ref := "ToneMixer$Plane") 0 dP_shrinkBoth_27 rfl rfl rfl (by decide) (fun w h => bwT (hbP w h)) (bwT b_27) rfl ?_
    refine z_iload_n dP_shrinkBoth_30 rfl ?_
    refine z_iload_n dP_shrinkBoth_31 rfl ?_
    refine z_pure (z_SN (host := "ToneMixer") hE zEok_0 (hE.2.2.1 _ (List.mem_of_getElem? (i := 0) rfl)) (c_placeOf _ _ _ _) dP_shrinkBoth_32 (gd_0 b_62) (bwT b_61) (bwT b_1) rfl qT_placeOf.2 ⟨rfl, rfl⟩ (by rw [hR]; decide) (by rw [hR, hC, hS]; decide) rfl (Nat.le_of_ble_eq_true rfl)) (fun r hr => ?_)
    subst hr
    simp only [zpush, zv]
    refine z_aload_n dP_shrinkBoth_35 rfl ?_
    refine z_iconst (v := 2) dP_shrinkBoth_36 (by decide) ?_
    refine z_iload_n dP_shrinkBoth_37 rfl ?_
    refine z_imul dP_shrinkBoth_38 ?_
    refine z_iconst (v := 2) dP_shrinkBoth_39 (by decide) ?_
    refine z_iload_n dP_shrinkBoth_40 rfl ?_
    refine z_imul dP_shrinkBoth_41 ?_
    rw [z_2, z_2]
    refine z_same (z_V (C := RP) (b := 0) hE (zEok_ev _ _ _ _) (c_sumOfFour _ D ca ad _ g sa w h (2 * x) (2 * y) hw1 hh1 hw hh (by omega) (by omega)) dP_shrinkBoth_42 (gd_V b_292 b_294 bs_13 b_2 b_295) rfl qP_sumOfFour ⟨rfl, rfl⟩ (by rw [hR]; decide) (by rw [hR, hC, hS]; decide) rfl (Nat.le_of_ble_eq_true rfl) rfl rfl) (fun r aw1 hlen hr => ?_)
    obtain ⟨rfl, rfl⟩ := hr
    simp only [zpush, zv]
    refine z_iconst (v := 1) dP_shrinkBoth_45 (by decide) ?_
    refine z_iadd dP_shrinkBoth_46 ?_
    refine z_iload_n dP_shrinkBoth_47 rfl ?_
    refine z_iconst (v := 2) dP_shrinkBoth_48 (by decide) ?_
    refine z_irem dP_shrinkBoth_49 (by decide) ?_
    rw [z_r2 (by omega)]
    refine z_iadd dP_shrinkBoth_50 ?_
    refine z_iconst (v := 2) dP_shrinkBoth_51 (by decide) ?_
    refine z_ishr dP_shrinkBoth_52 ?_
    refine z_iastN (t0 := 0) (k := y * 32 + x) dP_shrinkBoth_53 rfl rfl (z_pl _ _) (by omega) (by decide) ?_
    try simp only [List.set_cons_succ, List.set_cons_zero]
    refine z_iinc1 dP_shrinkBoth_54 (by decide) rfl rfl ?_
    try simp only [List.set_cons_succ, List.set_cons_zero]
    refine z_goto (tgt := 15) dP_shrinkBoth_57 (by decide) ?_
    rw [nI_1]
    exact ih (x + 1) (by omega)
set_option maxRecDepth 100000 in
set_option maxHeartbeats 4000000 in
theorem l_shrinkBoth_y (hw1 : 1 ≤ w) (hh1 : 1 ≤ h) (hw : w ≤ 32) (hh : h ≤ 32) (hR : zroom M = rmk 2 0 0) (hC : zcells M = 0) (hS : zslots M = 0) (hE : zEn M (zEx sa))
    (k : ∀ o, Zj M (gG D ca ad) cP_shrinkBoth 3 RP wP_shrinkBoth none (pw3 ca (shB w h f ((h + 1) / 2)) g (nI w) (nI h)) [some (.ref 0), some (.int (nI ((h + 1) / 2))), o] [] 66) :
    ∀ n y, y + n = (h + 1) / 2 → ∀ o, Zj M (gG D ca ad) cP_shrinkBoth 3 RP wP_shrinkBoth none (pw3 ca (shB w h f y) g (nI w) (nI h)) [some (.ref 0), some (.int (nI y)), o] [] 2 := by
  intro n
  induction n with
  | zero =>
    intro y hy o
    obtain rfl : y = (h + 1) / 2 := by omega
    refine z_iload_n dP_shrinkBoth_2 rfl ?_
    refine z_aload_n dP_shrinkBoth_3 rfl ?_
    refine z_get (C := RP) (T := TP) (N := 4) (ref := "ToneMixer$Plane") 2 dP_shrinkBoth_4 rfl rfl rfl (by decide) (fun w h => bwT (hbP w h)) (bwT b_31) rfl ?_
    refine z_pure (z_S hE zEok_0 (c_half _ _ h (by omega)) dP_shrinkBoth_7 (gd_S b_280 b_281 b_2 b_282) rfl qP_half.2 ⟨rfl, rfl⟩ (by rw [hR]; decide) (by rw [hR, hC, hS]; decide) rfl (Nat.le_of_ble_eq_true rfl)) (fun r hr => ?_)
    subst hr
    simp only [zpush, zv]
    exact z_icmp_ge (tgt := 66) dP_shrinkBoth_10 (by decide) (fun _ => k o) (fun hc => absurd (nI_le (Nat.le_refl _) (by omega)) hc)
  | succ n ih =>
    intro y hy o
    refine z_iload_n dP_shrinkBoth_2 rfl ?_
    refine z_aload_n dP_shrinkBoth_3 rfl ?_
    refine z_get (C := RP) (T := TP) (N := 4) (ref := "ToneMixer$Plane") 2 dP_shrinkBoth_4 rfl rfl rfl (by decide) (fun w h => bwT (hbP w h)) (bwT b_31) rfl ?_
    refine z_pure (z_S hE zEok_0 (c_half _ _ h (by omega)) dP_shrinkBoth_7 (gd_S b_280 b_281 b_2 b_282) rfl qP_half.2 ⟨rfl, rfl⟩ (by rw [hR]; decide) (by rw [hR, hC, hS]; decide) rfl (Nat.le_of_ble_eq_true rfl)) (fun r hr => ?_)
    subst hr
    simp only [zpush, zv]
    refine z_icmp_ge (tgt := 66) dP_shrinkBoth_10 (by decide) (fun hc => absurd hc (nI_ge (by omega) (by omega))) (fun _ => ?_)
    refine z_iconst (v := 0) dP_shrinkBoth_13 (by decide) ?_
    refine z_istore_n dP_shrinkBoth_14 (by decide) rfl ?_
    try simp only [List.set_cons_succ, List.set_cons_zero]
    refine l_shrinkBoth_x (f := shB w h f y) hw1 hh1 hw hh hR hC hS hE (y := y) (by omega) ?_ ((w + 1) / 2) 0 (by omega)
    refine z_iinc1 dP_shrinkBoth_60 (by decide) rfl rfl ?_
    try simp only [List.set_cons_succ, List.set_cons_zero]
    refine z_goto (tgt := 2) dP_shrinkBoth_63 (by decide) ?_
    rw [nI_1]
    exact ih (y + 1) (by omega) _
end
set_option maxRecDepth 100000 in
set_option maxHeartbeats 4000000 in
theorem c_shrinkBoth (l : Launch) (D : va_G) (ca : Nat → ClassId) (ad : Nat → Nat) (f g : Nat → Int32) (sa : Nat → Nat) (w h : Nat) (hw1 : 1 ≤ w) (hh1 : 1 ≤ h) (hw : w ≤ 32) (hh : h ≤ 32) : zMet l yP_shrinkBoth wP_shrinkBoth (rmk 2 0 0) (zEx sa) (gG D ca ad) (pw3 ca f g (nI w) (nI h)) [.ref 0] (fun r aw => r = none ∧ aw = pw3 ca (shB w h f ((h + 1) / 2)) g (nI ((w + 1) / 2)) (nI ((h + 1) / 2))) := by
  refine zMet.of (cc := cP_shrinkBoth) (maxL := 3) (ret := none) (lv := [some (.ref 0), none, none]) (by decide) rfl (Nat.le_of_ble_eq_true rfl) rfl (fun M hl0 hR hC hS hE hret => ?_)
  refine z_iconst (v := 0) dP_shrinkBoth_0 (by decide) ?_
  refine z_istore_n dP_shrinkBoth_1 (by decide) rfl ?_
  try simp only [List.set_cons_succ, List.set_cons_zero]
  refine l_shrinkBoth_y (f := f) hw1 hh1 hw hh hR hC hS hE (fun o => ?_) ((h + 1) / 2) 0 (by omega) none
  refine z_aload_n dP_shrinkBoth_66 rfl ?_
  refine z_aload_n dP_shrinkBoth_67 rfl ?_
  refine z_get (C := RP) (T := TP) (N := 4) (ref := "ToneMixer$Plane") 1 dP_shrinkBoth_68 rfl rfl rfl (by decide) (fun w h => bwT (hbP w h)) (bwT b_29) rfl ?_
  refine z_pure (z_S hE zEok_0 (c_half _ _ w (by omega)) dP_shrinkBoth_71 (gd_S b_280 b_281 b_2 b_282) rfl qP_half.2 ⟨rfl, rfl⟩ (by rw [hR]; decide) (by rw [hR, hC, hS]; decide) rfl (Nat.le_of_ble_eq_true rfl)) (fun r hr => ?_)
  subst hr
  simp only [zpush, zv]
  refine z_put (C := RP) (T := TP) (N := 4) (ref := "ToneMixer$Plane") (ty := .int) 1 tyP dP_shrinkBoth_74 rfl rfl (by decide) (fun w h => bwT (hbP w h)) (bwT b_29) rfl tyP_ok nmP rfl (by decide +kernel) (fun _ => ⟨rfl, rfl⟩) (Nat.le_of_ble_eq_true rfl) ?_
  try simp only [List.set_cons_succ, List.set_cons_zero]
  refine z_aload_n dP_shrinkBoth_77 rfl ?_
  refine z_aload_n dP_shrinkBoth_78 rfl ?_
  refine z_get (C := RP) (T := TP) (N := 4) (ref := "ToneMixer$Plane") 2 dP_shrinkBoth_79 rfl rfl rfl (by decide) (fun w h => bwT (hbP w h)) (bwT b_31) rfl ?_
  refine z_pure (z_S hE zEok_0 (c_half _ _ h (by omega)) dP_shrinkBoth_82 (gd_S b_280 b_281 b_2 b_282) rfl qP_half.2 ⟨rfl, rfl⟩ (by rw [hR]; decide) (by rw [hR, hC, hS]; decide) rfl (Nat.le_of_ble_eq_true rfl)) (fun r hr => ?_)
  subst hr
  simp only [zpush, zv]
  refine z_put (C := RP) (T := TP) (N := 4) (ref := "ToneMixer$Plane") (ty := .int) 2 tyP dP_shrinkBoth_85 rfl rfl (by decide) (fun w h => bwT (hbP w h)) (bwT b_31) rfl tyP_ok nmP rfl (by decide +kernel) (fun _ => ⟨rfl, rfl⟩) (Nat.le_of_ble_eq_true rfl) ?_
  try simp only [List.set_cons_succ, List.set_cons_zero]
  exact z_return dP_shrinkBoth_88 hret ⟨Nat.le_of_eq hC, Nat.le_of_eq hS⟩ rfl ⟨rfl, rfl⟩
section
variable {M : zM} {D : va_G} {ca : Nat → ClassId} {ad : Nat → Nat} {f g : Nat → Int32} {w h nw : Nat} {sa : Nat → Nat}
set_option maxRecDepth 100000 in
set_option maxHeartbeats 4000000 in
theorem l_widen_i (hw1 : 1 ≤ w) (hh1 : 1 ≤ h) (hw : w ≤ 32) (hh : h ≤ 32) (hn : w ≤ nw) (hn2 : nw ≤ 32) (hR : zroom M = rmk 1 0 0) (hC : zcells M = 0) (hS : zslots M = 0) (hE : zEn M (zEx sa)) {i : Nat} (hi : i < h) (v : Int32)
    (k : Zj M (gG D ca ad) cP_widen 5 RP wP_widen none (pw3 ca (wdx v w i f (nw - w)) g (nI w) (nI h)) [some (.ref 0), some (.int (nI nw)), some (.int (nI i)), some (.int v), some (.int (nI nw))] [] 56) :
    ∀ r n, w + n + r = nw → Zj M (gG D ca ad) cP_widen 5 RP wP_widen none (pw3 ca (wdx v w i f n) g (nI w) (nI h)) [some (.ref 0), some (.int (nI nw)), some (.int (nI i)), some (.int v), some (.int (nI (w + n)))] [] 32 := by
  intro r
  induction r with
  | zero =>
    intro n hx
    obtain rfl : n = nw - w := by omega
    refine z_iload dP_widen_32 rfl ?_
    refine z_iload_n dP_widen_34 rfl ?_
    rw [show w + (nw - w) = nw by omega]
    exact z_icmp_ge (tgt := 56) dP_widen_35 (by decide) (fun _ => k) (fun hc => absurd (nI_le (Nat.le_refl _) (by omega)) hc)
  | succ r ih =>
    intro n hx
    refine z_iload dP_widen_32 rfl ?_
    refine z_iload_n dP_widen_34 rfl ?_
    refine z_icmp_ge (tgt := 56) dP_widen_35 (by decide) (fun hc => absurd hc (nI_ge (by omega) (by omega))) (fun _ => ?_)
    refine z_aload_n dP_widen_38 rfl ?_
    refine z_get (C := RP) (T := TP) (N := 4) (ref := "ToneMixer$Plane") 0 dP_widen_39 rfl rfl rfl (by decide) (fun w h => bwT (hbP w h)) (bwT b_27) rfl ?_
    refine z_iload dP_widen_42 rfl ?_
    refine z_iload_n dP_widen_44 rfl ?_
    refine z_pure (z_SN (host := "ToneMixer") hE zEok_0 (hE.2.2.1 _ (List.mem_of_getElem? (i := 0) rfl)) (c_placeOf _ _ _ _) dP_widen_45 (gd_0 b_62) (bwT b_61) (bwT b_1) rfl qT_placeOf.2 ⟨rfl, rfl⟩ (by rw [hR]; decide) (by rw [hR, hC, hS]; decide) rfl (Nat.le_of_ble_eq_true rfl)) (fun r hr => ?_)
    subst hr
    simp only [zpush, zv]
    refine z_iload_n dP_widen_48 rfl ?_
    refine z_iastN (t0 := 0) (k := i * 32 + (w + n)) dP_widen_49 rfl rfl (z_pl _ _) (by omega) (by decide) ?_
    try simp only [List.set_cons_succ, List.set_cons_zero]
    refine z_iinc1 dP_widen_50 (by decide) rfl rfl ?_
    try simp only [List.set_cons_succ, List.set_cons_zero]
    refine z_goto (tgt := 32) dP_widen_53 (by decide) ?_
    rw [nI_1]
    exact ih (n + 1) (by omega)
set_option maxRecDepth 100000 in
set_option maxHeartbeats 4000000 in
theorem l_widen_o (hw1 : 1 ≤ w) (hh1 : 1 ≤ h) (hw : w ≤ 32) (hh : h ≤ 32) (hn : w ≤ nw) (hn2 : nw ≤ 32) (hR : zroom M = rmk 1 0 0) (hC : zcells M = 0) (hS : zslots M = 0) (hE : zEn M (zEx sa))
    (k : ∀ o3 o4, Zj M (gG D ca ad) cP_widen 5 RP wP_widen none (pw3 ca (wdn w nw f h) g (nI w) (nI h)) [some (.ref 0), some (.int (nI nw)), some (.int (nI h)), o3, o4] [] 62) :
    ∀ n i, i + n = h → ∀ o3 o4, Zj M (gG D ca ad) cP_widen 5 RP wP_widen none (pw3 ca (wdn w nw f i) g (nI w) (nI h)) [some (.ref 0), some (.int (nI nw)), some (.int (nI i)), o3, o4] [] 2 := by
  intro n
  induction n with
  | zero =>
    intro i hy o3 o4
    obtain rfl : i = h := by omega
    refine z_iload_n dP_widen_2 rfl ?_
    refine z_aload_n dP_widen_3 rfl ?_
    refine z_get (C := RP) (T := TP) (N := 4) (ref := "ToneMixer$Plane") 2 dP_widen_4 rfl rfl rfl (by decide) (fun w h => bwT (hbP w h)) (bwT b_31) rfl ?_
    exact z_icmp_ge (tgt := 62) dP_widen_7 (by decide) (fun _ => k o3 o4) (fun hc => absurd (nI_le (Nat.le_refl _) (by omega)) hc)
  | succ n ih =>
    intro i hy o3 o4
    refine z_iload_n dP_widen_2 rfl ?_
    refine z_aload_n dP_widen_3 rfl ?_
    refine z_get (C := RP) (T := TP) (N := 4) (ref := "ToneMixer$Plane") 2 dP_widen_4 rfl rfl rfl (by decide) (fun w h => bwT (hbP w h)) (bwT b_31) rfl ?_
    refine z_icmp_ge (tgt := 62) dP_widen_7 (by decide) (fun hc => absurd hc (nI_ge (by omega) (by omega))) (fun _ => ?_)
    refine z_aload_n dP_widen_10 rfl ?_
    refine z_get (C := RP) (T := TP) (N := 4) (ref := "ToneMixer$Plane") 0 dP_widen_11 rfl rfl rfl (by decide) (fun w h => bwT (hbP w h)) (bwT b_27) rfl ?_
    refine z_aload_n dP_widen_14 rfl ?_
    refine z_get (C := RP) (T := TP) (N := 4) (ref := "ToneMixer$Plane") 1 dP_widen_15 rfl rfl rfl (by decide) (fun w h => bwT (hbP w h)) (bwT b_29) rfl ?_
    refine z_iconst (v := 1) dP_widen_18 (by decide) ?_
    refine z_isub dP_widen_19 ?_
    refine z_iload_n dP_widen_20 rfl ?_
    rw [z_m1 (by omega)]
    refine z_pure (z_SN (host := "ToneMixer") hE zEok_0 (hE.2.2.1 _ (List.mem_of_getElem? (i := 0) rfl)) (c_placeOf _ _ _ _) dP_widen_21 (gd_0 b_62) (bwT b_61) (bwT b_1) rfl qT_placeOf.2 ⟨rfl, rfl⟩ (by rw [hR]; decide) (by rw [hR, hC, hS]; decide) rfl (Nat.le_of_ble_eq_true rfl)) (fun r hr => ?_)
    subst hr
    simp only [zpush, zv]
    refine z_ialdN (t0 := 0) (k := i * 32 + (w - 1)) dP_widen_24 rfl rfl (z_pl _ _) (by omega) (by decide) ?_
    refine z_istore_n dP_widen_25 (by decide) rfl ?_
    try simp only [List.set_cons_succ, List.set_cons_zero]
    refine z_aload_n dP_widen_26 rfl ?_
    refine z_get (C := RP) (T := TP) (N := 4) (ref := "ToneMixer$Plane") 1 dP_widen_27 rfl rfl rfl (by decide) (fun w h => bwT (hbP w h)) (bwT b_29) rfl ?_
    refine z_istore dP_widen_30 (by decide) rfl ?_
    try simp only [List.set_cons_succ, List.set_cons_zero]
    refine l_widen_i (f := wdn w nw f i) hw1 hh1 hw hh hn hn2 hR hC hS hE (i := i) (by omega) _ ?_ (nw - w) 0 (by omega)
    refine z_iinc1 dP_widen_56 (by decide) rfl rfl ?_
    try simp only [List.set_cons_succ, List.set_cons_zero]
    refine z_goto (tgt := 2) dP_widen_59 (by decide) ?_
    rw [nI_1]
    exact ih (i + 1) (by omega) _ _
end
set_option maxRecDepth 100000 in
set_option maxHeartbeats 4000000 in
theorem c_widen (l : Launch) (D : va_G) (ca : Nat → ClassId) (ad : Nat → Nat) (f g : Nat → Int32) (sa : Nat → Nat) (w h nw : Nat) (hw1 : 1 ≤ w) (hh1 : 1 ≤ h) (hw : w ≤ 32) (hh : h ≤ 32) (hn : w ≤ nw) (hn2 : nw ≤ 32) : zMet l yP_widen wP_widen (rmk 1 0 0) (zEx sa) (gG D ca ad) (pw3 ca f g (nI w) (nI h)) [.ref 0, .int (nI nw)] (fun r aw => r = none ∧ aw = pw3 ca (wdn w nw f h) g (nI nw) (nI h)) := by
  refine zMet.of (cc := cP_widen) (maxL := 5) (ret := none) (lv := [some (.ref 0), some (.int (nI nw)), none, none, none]) (by decide) rfl (Nat.le_of_ble_eq_true rfl) rfl (fun M hl0 hR hC hS hE hret => ?_)
  refine z_iconst (v := 0) dP_widen_0 (by decide) ?_
  refine z_istore_n dP_widen_1 (by decide) rfl ?_
  try simp only [List.set_cons_succ, List.set_cons_zero]
  refine l_widen_o (f := f) hw1 hh1 hw hh hn hn2 hR hC hS hE (fun o3 o4 => ?_) h 0 (by omega) none none
  refine z_aload_n dP_widen_62 rfl ?_
  refine z_iload_n dP_widen_63 rfl ?_
  refine z_put (C := RP) (T := TP) (N := 4) (ref := "ToneMixer$Plane") (ty := .int) 1 tyP dP_widen_64 rfl rfl (by decide) (fun w h => bwT (hbP w h)) (bwT b_29) rfl tyP_ok nmP rfl (by decide +kernel) (fun _ => ⟨rfl, rfl⟩) (Nat.le_of_ble_eq_true rfl) ?_
  try simp only [List.set_cons_succ, List.set_cons_zero]
  exact z_return dP_widen_67 hret ⟨Nat.le_of_eq hC, Nat.le_of_eq hS⟩ rfl ⟨rfl, rfl⟩
section
variable {M : zM} {D : va_G} {ca : Nat → ClassId} {ad : Nat → Nat} {f g : Nat → Int32} {w h nh : Nat} {sa : Nat → Nat}
set_option maxRecDepth 100000 in
set_option maxHeartbeats 4000000 in
theorem l_deepen_i (hw1 : 1 ≤ w) (hh1 : 1 ≤ h) (hw : w ≤ 32) (hh : h ≤ 32) (hn : h ≤ nh) (hn2 : nh ≤ 32) (hR : zroom M = rmk 1 0 0) (hC : zcells M = 0) (hS : zslots M = 0) (hE : zEn M (zEx sa)) {i : Nat} (hi : i < w) (v : Int32)
    (k : Zj M (gG D ca ad) cP_deepen 5 RP wP_deepen none (pw3 ca (dpx v h i f (nh - h)) g (nI w) (nI h)) [some (.ref 0), some (.int (nI nh)), some (.int (nI i)), some (.int v), some (.int (nI nh))] [] 56) :
    ∀ r n, h + n + r = nh → Zj M (gG D ca ad) cP_deepen 5 RP wP_deepen none (pw3 ca (dpx v h i f n) g (nI w) (nI h)) [some (.ref 0), some (.int (nI nh)), some (.int (nI i)), some (.int v), some (.int (nI (h + n)))] [] 32 := by
  intro r
  induction r with
  | zero =>
    intro n hx
    obtain rfl : n = nh - h := by omega
    refine z_iload dP_deepen_32 rfl ?_
    refine z_iload_n dP_deepen_34 rfl ?_
    rw [show h + (nh - h) = nh by omega]
    exact z_icmp_ge (tgt := 56) dP_deepen_35 (by decide) (fun _ => k) (fun hc => absurd (nI_le (Nat.le_refl _) (by omega)) hc)
  | succ r ih =>
    intro n hx
    refine z_iload dP_deepen_32 rfl ?_
    refine z_iload_n dP_deepen_34 rfl ?_
    refine z_icmp_ge (tgt := 56) dP_deepen_35 (by decide) (fun hc => absurd hc (nI_ge (by omega) (by omega))) (fun _ => ?_)
    refine z_aload_n dP_deepen_38 rfl ?_
    refine z_get (C := RP) (T := TP) (N := 4) (ref := "ToneMixer$Plane") 0 dP_deepen_39 rfl rfl rfl (by decide) (fun w h => bwT (hbP w h)) (bwT b_27) rfl ?_
    refine z_iload_n dP_deepen_42 rfl ?_
    refine z_iload dP_deepen_43 rfl ?_
    refine z_pure (z_SN (host := "ToneMixer") hE zEok_0 (hE.2.2.1 _ (List.mem_of_getElem? (i := 0) rfl)) (c_placeOf _ _ _ _) dP_deepen_45 (gd_0 b_62) (bwT b_61) (bwT b_1) rfl qT_placeOf.2 ⟨rfl, rfl⟩ (by rw [hR]; decide) (by rw [hR, hC, hS]; decide) rfl (Nat.le_of_ble_eq_true rfl)) (fun r hr => ?_)
    subst hr
    simp only [zpush, zv]
    refine z_iload_n dP_deepen_48 rfl ?_
    refine z_iastN (t0 := 0) (k := (h + n) * 32 + i) dP_deepen_49 rfl rfl (z_pl _ _) (by omega) (by decide) ?_
    try simp only [List.set_cons_succ, List.set_cons_zero]
    refine z_iinc1 dP_deepen_50 (by decide) rfl rfl ?_
    try simp only [List.set_cons_succ, List.set_cons_zero]
    refine z_goto (tgt := 32) dP_deepen_53 (by decide) ?_
    rw [nI_1]
    exact ih (n + 1) (by omega)
set_option maxRecDepth 100000 in
set_option maxHeartbeats 4000000 in
theorem l_deepen_o (hw1 : 1 ≤ w) (hh1 : 1 ≤ h) (hw : w ≤ 32) (hh : h ≤ 32) (hn : h ≤ nh) (hn2 : nh ≤ 32) (hR : zroom M = rmk 1 0 0) (hC : zcells M = 0) (hS : zslots M = 0) (hE : zEn M (zEx sa))
    (k : ∀ o3 o4, Zj M (gG D ca ad) cP_deepen 5 RP wP_deepen none (pw3 ca (dpn h nh f w) g (nI w) (nI h)) [some (.ref 0), some (.int (nI nh)), some (.int (nI w)), o3, o4] [] 62) :
    ∀ n i, i + n = w → ∀ o3 o4, Zj M (gG D ca ad) cP_deepen 5 RP wP_deepen none (pw3 ca (dpn h nh f i) g (nI w) (nI h)) [some (.ref 0), some (.int (nI nh)), some (.int (nI i)), o3, o4] [] 2 := by
  intro n
  induction n with
  | zero =>
    intro i hy o3 o4
    obtain rfl : i = w := by omega
    refine z_iload_n dP_deepen_2 rfl ?_
    refine z_aload_n dP_deepen_3 rfl ?_
    refine z_get (C := RP) (T := TP) (N := 4) (ref := "ToneMixer$Plane") 1 dP_deepen_4 rfl rfl rfl (by decide) (fun w h => bwT (hbP w h)) (bwT b_29) rfl ?_
    exact z_icmp_ge (tgt := 62) dP_deepen_7 (by decide) (fun _ => k o3 o4) (fun hc => absurd (nI_le (Nat.le_refl _) (by omega)) hc)
  | succ n ih =>
    intro i hy o3 o4
    refine z_iload_n dP_deepen_2 rfl ?_
    refine z_aload_n dP_deepen_3 rfl ?_
    refine z_get (C := RP) (T := TP) (N := 4) (ref := "ToneMixer$Plane") 1 dP_deepen_4 rfl rfl rfl (by decide) (fun w h => bwT (hbP w h)) (bwT b_29) rfl ?_
    refine z_icmp_ge (tgt := 62) dP_deepen_7 (by decide) (fun hc => absurd hc (nI_ge (by omega) (by omega))) (fun _ => ?_)
    refine z_aload_n dP_deepen_10 rfl ?_
    refine z_get (C := RP) (T := TP) (N := 4) (ref := "ToneMixer$Plane") 0 dP_deepen_11 rfl rfl rfl (by decide) (fun w h => bwT (hbP w h)) (bwT b_27) rfl ?_
    refine z_iload_n dP_deepen_14 rfl ?_
    refine z_aload_n dP_deepen_15 rfl ?_
    refine z_get (C := RP) (T := TP) (N := 4) (ref := "ToneMixer$Plane") 2 dP_deepen_16 rfl rfl rfl (by decide) (fun w h => bwT (hbP w h)) (bwT b_31) rfl ?_
    refine z_iconst (v := 1) dP_deepen_19 (by decide) ?_
    refine z_isub dP_deepen_20 ?_
    rw [z_m1 (by omega)]
    refine z_pure (z_SN (host := "ToneMixer") hE zEok_0 (hE.2.2.1 _ (List.mem_of_getElem? (i := 0) rfl)) (c_placeOf _ _ _ _) dP_deepen_21 (gd_0 b_62) (bwT b_61) (bwT b_1) rfl qT_placeOf.2 ⟨rfl, rfl⟩ (by rw [hR]; decide) (by rw [hR, hC, hS]; decide) rfl (Nat.le_of_ble_eq_true rfl)) (fun r hr => ?_)
    subst hr
    simp only [zpush, zv]
    refine z_ialdN (t0 := 0) (k := (h - 1) * 32 + i) dP_deepen_24 rfl rfl (z_pl _ _) (by omega) (by decide) ?_
    refine z_istore_n dP_deepen_25 (by decide) rfl ?_
    try simp only [List.set_cons_succ, List.set_cons_zero]
    refine z_aload_n dP_deepen_26 rfl ?_
    refine z_get (C := RP) (T := TP) (N := 4) (ref := "ToneMixer$Plane") 2 dP_deepen_27 rfl rfl rfl (by decide) (fun w h => bwT (hbP w h)) (bwT b_31) rfl ?_
    refine z_istore dP_deepen_30 (by decide) rfl ?_
    try simp only [List.set_cons_succ, List.set_cons_zero]
    refine l_deepen_i (f := dpn h nh f i) hw1 hh1 hw hh hn hn2 hR hC hS hE (i := i) (by omega) _ ?_ (nh - h) 0 (by omega)
    refine z_iinc1 dP_deepen_56 (by decide) rfl rfl ?_
    try simp only [List.set_cons_succ, List.set_cons_zero]
    refine z_goto (tgt := 2) dP_deepen_59 (by decide) ?_
    rw [nI_1]
    exact ih (i + 1) (by omega) _ _
end
set_option maxRecDepth 100000 in
set_option maxHeartbeats 4000000 in
theorem c_deepen (l : Launch) (D : va_G) (ca : Nat → ClassId) (ad : Nat → Nat) (f g : Nat → Int32) (sa : Nat → Nat) (w h nh : Nat) (hw1 : 1 ≤ w) (hh1 : 1 ≤ h) (hw : w ≤ 32) (hh : h ≤ 32) (hn : h ≤ nh) (hn2 : nh ≤ 32) : zMet l yP_deepen wP_deepen (rmk 1 0 0) (zEx sa) (gG D ca ad) (pw3 ca f g (nI w) (nI h)) [.ref 0, .int (nI nh)] (fun r aw => r = none ∧ aw = pw3 ca (dpn h nh f w) g (nI w) (nI nh)) := by
  refine zMet.of (cc := cP_deepen) (maxL := 5) (ret := none) (lv := [some (.ref 0), some (.int (nI nh)), none, none, none]) (by decide) rfl (Nat.le_of_ble_eq_true rfl) rfl (fun M hl0 hR hC hS hE hret => ?_)
  refine z_iconst (v := 0) dP_deepen_0 (by decide) ?_
  refine z_istore_n dP_deepen_1 (by decide) rfl ?_
  try simp only [List.set_cons_succ, List.set_cons_zero]
  refine l_deepen_o (f := f) hw1 hh1 hw hh hn hn2 hR hC hS hE (fun o3 o4 => ?_) w 0 (by omega) none none
  refine z_aload_n dP_deepen_62 rfl ?_
  refine z_iload_n dP_deepen_63 rfl ?_
  refine z_put (C := RP) (T := TP) (N := 4) (ref := "ToneMixer$Plane") (ty := .int) 2 tyP dP_deepen_64 rfl rfl (by decide) (fun w h => bwT (hbP w h)) (bwT b_31) rfl tyP_ok nmP rfl (by decide +kernel) (fun _ => ⟨rfl, rfl⟩) (Nat.le_of_ble_eq_true rfl) ?_
  try simp only [List.set_cons_succ, List.set_cons_zero]
  exact z_return dP_deepen_67 hret ⟨Nat.le_of_eq hC, Nat.le_of_eq hS⟩ rfl ⟨rfl, rfl⟩
section
variable {M : zM} {D : va_G} {ca : Nat → ClassId} {ad : Nat → Nat} {f g : Nat → Int32} {w h : Nat} {sa : Nat → Nat} {f2 g2 : Nat → Int32} {w2 h2 : Nat}
set_option maxRecDepth 100000 in
set_option maxHeartbeats 4000000 in
theorem l_greatestDifference_x (hw : w ≤ 32) (hh : h ≤ 32) (hR : zroom M = rmk 1 0 0) (hC : zcells M = 0) (hS : zslots M = 0) (hE : zEn M (zEx sa)) {y : Nat} (hy : y < h) (acc : Int32)
    (k : ∀ p, Zj M (gG D ca ad) cP_greatestDifference 6 RP wP_greatestDifference (some .int) (pw6 ca f g f2 g2 (nI w) (nI h) (nI w2) (nI h2)) [some (.ref 0), some (.ref 3), some (.int (rowF (fun a b => if a < b then b else a) (fun j => zab (f j - f2 j)) y w acc)), some (.int (nI y)), some (.int (nI w)), p] [] 61) :
    ∀ n x, x + n = w → ∀ p, Zj M (gG D ca ad) cP_greatestDifference 6 RP wP_greatestDifference (some .int) (pw6 ca f g f2 g2 (nI w) (nI h) (nI w2) (nI h2)) [some (.ref 0), some (.ref 3), some (.int (rowF (fun a b => if a < b then b else a) (fun j => zab (f j - f2 j)) y x acc)), some (.int (nI y)), some (.int (nI x)), p] [] 15 := by
  intro n
  induction n with
  | zero =>
    intro x hx p
    obtain rfl : x = w := by omega
    refine z_iload dP_greatestDifference_15 rfl ?_
    refine z_aload_n dP_greatestDifference_17 rfl ?_
    refine z_get (C := RP) (T := TP) (N := 4) (ref := "ToneMixer$Plane") 1 dP_greatestDifference_18 rfl rfl rfl (by decide) (fun w h => bwT (hbP w h)) (bwT b_29) rfl ?_
    exact z_icmp_ge (tgt := 61) dP_greatestDifference_21 (by decide) (fun _ => k p) (fun hc => absurd (nI_le (Nat.le_refl _) (by omega)) hc)
  | succ n ih =>
    intro x hx p
    refine z_iload dP_greatestDifference_15 rfl ?_
    refine z_aload_n dP_greatestDifference_17 rfl ?_
    refine z_get (C := RP) (T := TP) (N := 4) (ref := "ToneMixer$Plane") 1 dP_greatestDifference_18 rfl rfl rfl (by decide) (fun w h => bwT (hbP w h)) (bwT b_29) rfl ?_
    refine z_icmp_ge (tgt := 61) dP_greatestDifference_21 (by decide) (fun hc => absurd hc (nI_ge (by omega) (by omega))) (fun _ => ?_)
    refine z_iload dP_greatestDifference_24 rfl ?_
    refine z_iload_n dP_greatestDifference_26 rfl ?_
    refine z_pure (z_SN (host := "ToneMixer") hE zEok_0 (hE.2.2.1 _ (List.mem_of_getElem? (i := 0) rfl)) (c_placeOf _ _ _ _) dP_greatestDifference_27 (gd_0 b_62) (bwT b_61) (bwT b_1) rfl qT_placeOf.2 ⟨rfl, rfl⟩ (by rw [hR]; decide) (by rw [hR, hC, hS]; decide) rfl (Nat.le_of_ble_eq_true rfl)) (fun r hr => ?_)
    subst hr
    simp only [zpush, zv]
    rw [z_pl]
    refine z_istore dP_greatestDifference_30 (by decide) rfl ?_
    try simp only [List.set_cons_succ, List.set_cons_zero]
    refine z_iload_n dP_greatestDifference_32 rfl ?_
    refine z_aload_n dP_greatestDifference_33 rfl ?_
    refine z_get (C := RP) (T := TP) (N := 4) (ref := "ToneMixer$Plane") 0 dP_greatestDifference_34 rfl rfl rfl (by decide) (fun w h => bwT (hbP w h)) (bwT b_27) rfl ?_
    refine z_iload dP_greatestDifference_37 rfl ?_
    refine z_ialdN (t0 := 0) (k := y * 32 + x) dP_greatestDifference_39 rfl rfl (rfl) (by omega) (by decide) ?_
    refine z_aload_n dP_greatestDifference_40 rfl ?_
    refine z_get (C := RP) (T := TP) (N := 4) (ref := "ToneMixer$Plane") 0 dP_greatestDifference_41 rfl rfl rfl (by decide) (fun w h => bwT (hbP w h)) (bwT b_27) rfl ?_
    refine z_iload dP_greatestDifference_44 rfl ?_
    refine z_ialdN (t0 := 0) (k := y * 32 + x) dP_greatestDifference_46 rfl rfl (rfl) (by omega) (by decide) ?_
    refine z_isub dP_greatestDifference_47 ?_
    refine z_mabs dP_greatestDifference_48 (bwT b_357) (bwT b_358) (bwT b_10) (bwT b_359) (zmR hR ⟨Nat.le_of_ble_eq_true rfl, Nat.le_of_ble_eq_true rfl⟩) (zmC hR hC hS (by decide)) ?_
    refine z_mmax dP_greatestDifference_51 (bwT b_360) (bwT b_83) (bwT b_10) (bwT b_84) (zmR hR ⟨Nat.le_of_ble_eq_true rfl, Nat.le_of_ble_eq_true rfl⟩) (zmC hR hC hS (by decide)) ?_
    refine z_istore_n dP_greatestDifference_54 (by decide) rfl ?_
    try simp only [List.set_cons_succ, List.set_cons_zero]
    refine z_iinc1 dP_greatestDifference_55 (by decide) rfl rfl ?_
    try simp only [List.set_cons_succ, List.set_cons_zero]
    refine z_goto (tgt := 15) dP_greatestDifference_58 (by decide) ?_
    rw [nI_1]
    exact ih (x + 1) (by omega) _
set_option maxRecDepth 100000 in
set_option maxHeartbeats 4000000 in
theorem l_greatestDifference_y (hw : w ≤ 32) (hh : h ≤ 32) (hR : zroom M = rmk 1 0 0) (hC : zcells M = 0) (hS : zslots M = 0) (hE : zEn M (zEx sa)) (acc : Int32)
    (k : ∀ o p, Zj M (gG D ca ad) cP_greatestDifference 6 RP wP_greatestDifference (some .int) (pw6 ca f g f2 g2 (nI w) (nI h) (nI w2) (nI h2)) [some (.ref 0), some (.ref 3), some (.int (allF (fun a b => if a < b then b else a) (fun j => zab (f j - f2 j)) w h acc)), some (.int (nI h)), o, p] [] 67) :
    ∀ n y, y + n = h → ∀ o p, Zj M (gG D ca ad) cP_greatestDifference 6 RP wP_greatestDifference (some .int) (pw6 ca f g f2 g2 (nI w) (nI h) (nI w2) (nI h2)) [some (.ref 0), some (.ref 3), some (.int (allF (fun a b => if a < b then b else a) (fun j => zab (f j - f2 j)) w y acc)), some (.int (nI y)), o, p] [] 4 := by
  intro n
  induction n with
  | zero =>
    intro y hy o p
    obtain rfl : y = h := by omega
    refine z_iload_n dP_greatestDifference_4 rfl ?_
    refine z_aload_n dP_greatestDifference_5 rfl ?_
    refine z_get (C := RP) (T := TP) (N := 4) (ref := "ToneMixer$Plane") 2 dP_greatestDifference_6 rfl rfl rfl (by decide) (fun w h => bwT (hbP w h)) (bwT b_31) rfl ?_
    exact z_icmp_ge (tgt := 67) dP_greatestDifference_9 (by decide) (fun _ => k o p) (fun hc => absurd (nI_le (Nat.le_refl _) (by omega)) hc)
  | succ n ih =>
    intro y hy o p
    refine z_iload_n dP_greatestDifference_4 rfl ?_
    refine z_aload_n dP_greatestDifference_5 rfl ?_
    refine z_get (C := RP) (T := TP) (N := 4) (ref := "ToneMixer$Plane") 2 dP_greatestDifference_6 rfl rfl rfl (by decide) (fun w h => bwT (hbP w h)) (bwT b_31) rfl ?_
    refine z_icmp_ge (tgt := 67) dP_greatestDifference_9 (by decide) (fun hc => absurd hc (nI_ge (by omega) (by omega))) (fun _ => ?_)
    refine z_iconst (v := 0) dP_greatestDifference_12 (by decide) ?_
    refine z_istore dP_greatestDifference_13 (by decide) rfl ?_
    try simp only [List.set_cons_succ, List.set_cons_zero]
    refine l_greatestDifference_x hw hh hR hC hS hE (y := y) (by omega) (allF (fun a b => if a < b then b else a) (fun j => zab (f j - f2 j)) w y acc) (fun p => ?_) w 0 (by omega) _
    refine z_iinc1 dP_greatestDifference_61 (by decide) rfl rfl ?_
    try simp only [List.set_cons_succ, List.set_cons_zero]
    refine z_goto (tgt := 4) dP_greatestDifference_64 (by decide) ?_
    rw [nI_1]
    exact ih (y + 1) (by omega) _ _
end
set_option maxRecDepth 100000 in
set_option maxHeartbeats 4000000 in
theorem c_greatestDifference (l : Launch) (D : va_G) (ca : Nat → ClassId) (ad : Nat → Nat) (f g : Nat → Int32) (sa : Nat → Nat) (w h : Nat) (f2 g2 : Nat → Int32) (w2 h2 : Nat) (hw : w ≤ 32) (hh : h ≤ 32) : zMet l yP_greatestDifference wP_greatestDifference (rmk 1 0 0) (zEx sa) (gG D ca ad) (pw6 ca f g f2 g2 (nI w) (nI h) (nI w2) (nI h2)) [.ref 0, .ref 3] (fun r aw => r = some (.int (allF (fun a b => if a < b then b else a) (fun j => zab (f j - f2 j)) w h 0)) ∧ aw = pw6 ca f g f2 g2 (nI w) (nI h) (nI w2) (nI h2)) := by
  refine zMet.of (cc := cP_greatestDifference) (maxL := 6) (ret := some .int) (lv := [some (.ref 0), some (.ref 3), none, none, none, none]) (by decide) rfl (Nat.le_of_ble_eq_true rfl) rfl (fun M hl0 hR hC hS hE hret => ?_)
  refine z_iconst (v := 0) dP_greatestDifference_0 (by decide) ?_
  refine z_istore_n dP_greatestDifference_1 (by decide) rfl ?_
  try simp only [List.set_cons_succ, List.set_cons_zero]
  refine z_iconst (v := 0) dP_greatestDifference_2 (by decide) ?_
  refine z_istore_n dP_greatestDifference_3 (by decide) rfl ?_
  try simp only [List.set_cons_succ, List.set_cons_zero]
  refine l_greatestDifference_y hw hh hR hC hS hE 0 (fun o p => ?_) h 0 (by omega) _ _
  refine z_iload_n dP_greatestDifference_67 rfl ?_
  exact z_ireturn dP_greatestDifference_68 rfl hret ⟨Nat.le_of_eq hC, Nat.le_of_eq hS⟩ rfl ⟨rfl, rfl⟩
section
variable {M : zM} {D : va_G} {ca : Nat → ClassId} {ad : Nat → Nat} {f g : Nat → Int32} {w h : Nat} {sa : Nat → Nat} 
set_option maxRecDepth 100000 in
set_option maxHeartbeats 4000000 in
theorem l_greatestDifference_self_x (hw : w ≤ 32) (hh : h ≤ 32) (hR : zroom M = rmk 1 0 0) (hC : zcells M = 0) (hS : zslots M = 0) (hE : zEn M (zEx sa)) {y : Nat} (hy : y < h) (acc : Int32)
    (k : ∀ p, Zj M (gG D ca ad) cP_greatestDifference 6 RP wP_greatestDifference (some .int) (pw3 ca f g (nI w) (nI h)) [some (.ref 0), some (.ref 0), some (.int (rowF (fun a b => if a < b then b else a) (fun j => zab (f j - f j)) y w acc)), some (.int (nI y)), some (.int (nI w)), p] [] 61) :
    ∀ n x, x + n = w → ∀ p, Zj M (gG D ca ad) cP_greatestDifference 6 RP wP_greatestDifference (some .int) (pw3 ca f g (nI w) (nI h)) [some (.ref 0), some (.ref 0), some (.int (rowF (fun a b => if a < b then b else a) (fun j => zab (f j - f j)) y x acc)), some (.int (nI y)), some (.int (nI x)), p] [] 15 := by
  intro n
  induction n with
  | zero =>
    intro x hx p
    obtain rfl : x = w := by omega
    refine z_iload dP_greatestDifference_15 rfl ?_
    refine z_aload_n dP_greatestDifference_17 rfl ?_
    refine z_get (C := RP) (T := TP) (N := 4) (ref := "ToneMixer$Plane") 1 dP_greatestDifference_18 rfl rfl rfl (by decide) (fun w h => bwT (hbP w h)) (bwT b_29) rfl ?_
    exact z_icmp_ge (tgt := 61) dP_greatestDifference_21 (by decide) (fun _ => k p) (fun hc => absurd (nI_le (Nat.le_refl _) (by omega)) hc)
  | succ n ih =>
    intro x hx p
    refine z_iload dP_greatestDifference_15 rfl ?_
    refine z_aload_n dP_greatestDifference_17 rfl ?_
    refine z_get (C := RP) (T := TP) (N := 4) (ref := "ToneMixer$Plane") 1 dP_greatestDifference_18 rfl rfl rfl (by decide) (fun w h => bwT (hbP w h)) (bwT b_29) rfl ?_
    refine z_icmp_ge (tgt := 61) dP_greatestDifference_21 (by decide) (fun hc => absurd hc (nI_ge (by omega) (by omega))) (fun _ => ?_)
    refine z_iload dP_greatestDifference_24 rfl ?_
    refine z_iload_n dP_greatestDifference_26 rfl ?_
    refine z_pure (z_SN (host := "ToneMixer") hE zEok_0 (hE.2.2.1 _ (List.mem_of_getElem? (i := 0) rfl)) (c_placeOf _ _ _ _) dP_greatestDifference_27 (gd_0 b_62) (bwT b_61) (bwT b_1) rfl qT_placeOf.2 ⟨rfl, rfl⟩ (by rw [hR]; decide) (by rw [hR, hC, hS]; decide) rfl (Nat.le_of_ble_eq_true rfl)) (fun r hr => ?_)
    subst hr
    simp only [zpush, zv]
    rw [z_pl]
    refine z_istore dP_greatestDifference_30 (by decide) rfl ?_
    try simp only [List.set_cons_succ, List.set_cons_zero]
    refine z_iload_n dP_greatestDifference_32 rfl ?_
    refine z_aload_n dP_greatestDifference_33 rfl ?_
    refine z_get (C := RP) (T := TP) (N := 4) (ref := "ToneMixer$Plane") 0 dP_greatestDifference_34 rfl rfl rfl (by decide) (fun w h => bwT (hbP w h)) (bwT b_27) rfl ?_
    refine z_iload dP_greatestDifference_37 rfl ?_
    refine z_ialdN (t0 := 0) (k := y * 32 + x) dP_greatestDifference_39 rfl rfl (rfl) (by omega) (by decide) ?_
    refine z_aload_n dP_greatestDifference_40 rfl ?_
    refine z_get (C := RP) (T := TP) (N := 4) (ref := "ToneMixer$Plane") 0 dP_greatestDifference_41 rfl rfl rfl (by decide) (fun w h => bwT (hbP w h)) (bwT b_27) rfl ?_
    refine z_iload dP_greatestDifference_44 rfl ?_
    refine z_ialdN (t0 := 0) (k := y * 32 + x) dP_greatestDifference_46 rfl rfl (rfl) (by omega) (by decide) ?_
    refine z_isub dP_greatestDifference_47 ?_
    refine z_mabs dP_greatestDifference_48 (bwT b_357) (bwT b_358) (bwT b_10) (bwT b_359) (zmR hR ⟨Nat.le_of_ble_eq_true rfl, Nat.le_of_ble_eq_true rfl⟩) (zmC hR hC hS (by decide)) ?_
    refine z_mmax dP_greatestDifference_51 (bwT b_360) (bwT b_83) (bwT b_10) (bwT b_84) (zmR hR ⟨Nat.le_of_ble_eq_true rfl, Nat.le_of_ble_eq_true rfl⟩) (zmC hR hC hS (by decide)) ?_
    refine z_istore_n dP_greatestDifference_54 (by decide) rfl ?_
    try simp only [List.set_cons_succ, List.set_cons_zero]
    refine z_iinc1 dP_greatestDifference_55 (by decide) rfl rfl ?_
    try simp only [List.set_cons_succ, List.set_cons_zero]
    refine z_goto (tgt := 15) dP_greatestDifference_58 (by decide) ?_
    rw [nI_1]
    exact ih (x + 1) (by omega) _
set_option maxRecDepth 100000 in
set_option maxHeartbeats 4000000 in
theorem l_greatestDifference_self_y (hw : w ≤ 32) (hh : h ≤ 32) (hR : zroom M = rmk 1 0 0) (hC : zcells M = 0) (hS : zslots M = 0) (hE : zEn M (zEx sa)) (acc : Int32)
    (k : ∀ o p, Zj M (gG D ca ad) cP_greatestDifference 6 RP wP_greatestDifference (some .int) (pw3 ca f g (nI w) (nI h)) [some (.ref 0), some (.ref 0), some (.int (allF (fun a b => if a < b then b else a) (fun j => zab (f j - f j)) w h acc)), some (.int (nI h)), o, p] [] 67) :
    ∀ n y, y + n = h → ∀ o p, Zj M (gG D ca ad) cP_greatestDifference 6 RP wP_greatestDifference (some .int) (pw3 ca f g (nI w) (nI h)) [some (.ref 0), some (.ref 0), some (.int (allF (fun a b => if a < b then b else a) (fun j => zab (f j - f j)) w y acc)), some (.int (nI y)), o, p] [] 4 := by
  intro n
  induction n with
  | zero =>
    intro y hy o p
    obtain rfl : y = h := by omega
    refine z_iload_n dP_greatestDifference_4 rfl ?_
    refine z_aload_n dP_greatestDifference_5 rfl ?_
    refine z_get (C := RP) (T := TP) (N := 4) (ref := "ToneMixer$Plane") 2 dP_greatestDifference_6 rfl rfl rfl (by decide) (fun w h => bwT (hbP w h)) (bwT b_31) rfl ?_
    exact z_icmp_ge (tgt := 67) dP_greatestDifference_9 (by decide) (fun _ => k o p) (fun hc => absurd (nI_le (Nat.le_refl _) (by omega)) hc)
  | succ n ih =>
    intro y hy o p
    refine z_iload_n dP_greatestDifference_4 rfl ?_
    refine z_aload_n dP_greatestDifference_5 rfl ?_
    refine z_get (C := RP) (T := TP) (N := 4) (ref := "ToneMixer$Plane") 2 dP_greatestDifference_6 rfl rfl rfl (by decide) (fun w h => bwT (hbP w h)) (bwT b_31) rfl ?_
    refine z_icmp_ge (tgt := 67) dP_greatestDifference_9 (by decide) (fun hc => absurd hc (nI_ge (by omega) (by omega))) (fun _ => ?_)
    refine z_iconst (v := 0) dP_greatestDifference_12 (by decide) ?_
    refine z_istore dP_greatestDifference_13 (by decide) rfl ?_
    try simp only [List.set_cons_succ, List.set_cons_zero]
    refine l_greatestDifference_self_x hw hh hR hC hS hE (y := y) (by omega) (allF (fun a b => if a < b then b else a) (fun j => zab (f j - f j)) w y acc) (fun p => ?_) w 0 (by omega) _
    refine z_iinc1 dP_greatestDifference_61 (by decide) rfl rfl ?_
    try simp only [List.set_cons_succ, List.set_cons_zero]
    refine z_goto (tgt := 4) dP_greatestDifference_64 (by decide) ?_
    rw [nI_1]
    exact ih (y + 1) (by omega) _ _
end
set_option maxRecDepth 100000 in
set_option maxHeartbeats 4000000 in
theorem c_greatestDifference_self (l : Launch) (D : va_G) (ca : Nat → ClassId) (ad : Nat → Nat) (f g : Nat → Int32) (sa : Nat → Nat) (w h : Nat)  (hw : w ≤ 32) (hh : h ≤ 32) : zMet l yP_greatestDifference wP_greatestDifference (rmk 1 0 0) (zEx sa) (gG D ca ad) (pw3 ca f g (nI w) (nI h)) [.ref 0, .ref 0] (fun r aw => r = some (.int (allF (fun a b => if a < b then b else a) (fun j => zab (f j - f j)) w h 0)) ∧ aw = pw3 ca f g (nI w) (nI h)) := by
  refine zMet.of (cc := cP_greatestDifference) (maxL := 6) (ret := some .int) (lv := [some (.ref 0), some (.ref 0), none, none, none, none]) (by decide) rfl (Nat.le_of_ble_eq_true rfl) rfl (fun M hl0 hR hC hS hE hret => ?_)
  refine z_iconst (v := 0) dP_greatestDifference_0 (by decide) ?_
  refine z_istore_n dP_greatestDifference_1 (by decide) rfl ?_
  try simp only [List.set_cons_succ, List.set_cons_zero]
  refine z_iconst (v := 0) dP_greatestDifference_2 (by decide) ?_
  refine z_istore_n dP_greatestDifference_3 (by decide) rfl ?_
  try simp only [List.set_cons_succ, List.set_cons_zero]
  refine l_greatestDifference_self_y hw hh hR hC hS hE 0 (fun o p => ?_) h 0 (by omega) _ _
  refine z_iload_n dP_greatestDifference_67 rfl ?_
  exact z_ireturn dP_greatestDifference_68 rfl hret ⟨Nat.le_of_eq hC, Nat.le_of_eq hS⟩ rfl ⟨rfl, rfl⟩
