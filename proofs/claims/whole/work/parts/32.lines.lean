/-! the line loops of a plane: across (rows) and down (columns) -/
def grA (t : Bool) (w : Nat) (f g : Nat → Int32) : Nat → (Nat → Int32) × (Nat → Int32)
  | 0 => (f, g)
  | y + 1 => (grw t (cpyL (grA t w f g y).1 (grA t w f g y).2 (y * 32) 1 w) w (y * 32) 1 (grA t w f g y).1 w, cpyL (grA t w f g y).1 (grA t w f g y).2 (y * 32) 1 w)
def grD (t : Bool) (h : Nat) (f g : Nat → Int32) : Nat → (Nat → Int32) × (Nat → Int32)
  | 0 => (f, g)
  | x + 1 => (grw t (cpyL (grD t h f g x).1 (grD t h f g x).2 x 32 h) h x 32 (grD t h f g x).1 h, cpyL (grD t h f g x).1 (grD t h f g x).2 x 32 h)
def shv (f : Nat → Int32) (len st sp i : Nat) : Int32 := (f (st + 2 * i * sp) + f (st + (if 2 * i + 1 ≤ len - 1 then 2 * i + 1 else len - 1) * sp) + nI (i % 2)) >>> ((1 : Int32) &&& 31)
/-- the samples after i of a line have shrunk -/
def shL (len st sp : Nat) (f : Nat → Int32) : Nat → (Nat → Int32)
  | 0 => f
  | i + 1 => upd (shL len st sp f i) (st + i * sp) (shv (shL len st sp f i) len st sp i)
def shA (w : Nat) (f : Nat → Int32) : Nat → (Nat → Int32)
  | 0 => f
  | y + 1 => shL w (y * 32) 1 (shA w f y) ((w + 1) / 2)
def shD (h : Nat) (f : Nat → Int32) : Nat → (Nat → Int32)
  | 0 => f
  | x + 1 => shL h x 32 (shD h f x) ((h + 1) / 2)
theorem z_min {a b : Nat} (ha : a < 2 ^ 31) (hb : b < 2 ^ 31) : (if nI b < nI a then nI b else nI a) = nI (if a ≤ b then a else b) := by
  by_cases h : a ≤ b
  · rw [if_neg (nI_nlt h hb), if_pos h]
  · rw [if_pos (nI_lt (by omega) ha), if_neg h]
theorem z_max {a b : Nat} (ha : a < 2 ^ 31) (hb : b < 2 ^ 31) : (if nI a < nI b then nI b else nI a) = nI (if a < b then b else a) := by
  by_cases h : a < b
  · rw [if_pos (nI_lt h hb), if_pos h]
  · rw [if_neg (nI_nlt (by omega) ha), if_neg h]
section
variable {M : zM} {D : va_G} {ca : Nat → ClassId} {ad : Nat → Nat} {f g : Nat → Int32} {w h : Nat} {sa : Nat → Nat} {t : Bool}
set_option maxRecDepth 100000 in
set_option maxHeartbeats 4000000 in
theorem l_growAcross (hw : w ≤ 32) (hh : h ≤ 32) (h2 : 2 * w ≤ 32) (hR : zroom M = rmk 1 0 0) (hC : zcells M = 0) (hS : zslots M = 0) (hE : zEn M (zEx sa))
    (k : Zj M (gG D ca ad) cP_growAcross 3 RP wP_growAcross none (pw3 ca (grA t w f g h).1 (grA t w f g h).2 (nI w) (nI h)) [some (.ref 0), some (.int (tv t)), some (.int (nI h))] [] 31) : ∀ n i, i + n = h → Zj M (gG D ca ad) cP_growAcross 3 RP wP_growAcross none (pw3 ca (grA t w f g i).1 (grA t w f g i).2 (nI w) (nI h)) [some (.ref 0), some (.int (tv t)), some (.int (nI i))] [] 2 := by
  intro n
  induction n with
  | zero =>
    intro i hi
    obtain rfl : i = h := by omega
    refine z_iload_n dP_growAcross_2 rfl ?_
    refine z_aload_n dP_growAcross_3 rfl ?_
    refine z_get (C := RP) (T := TP) (N := 4) (ref := "ToneMixer$Plane") 2 dP_growAcross_4 rfl rfl rfl (by decide) (fun w h => bwT (hbP w h)) (bwT b_31) rfl ?_
    exact z_icmp_ge (tgt := 31) dP_growAcross_7 (by decide) (fun _ => k) (fun hc => absurd (nI_le (Nat.le_refl _) (by omega)) hc)
  | succ n ih =>
    intro i hi
    refine z_iload_n dP_growAcross_2 rfl ?_
    refine z_aload_n dP_growAcross_3 rfl ?_
    refine z_get (C := RP) (T := TP) (N := 4) (ref := "ToneMixer$Plane") 2 dP_growAcross_4 rfl rfl rfl (by decide) (fun w h => bwT (hbP w h)) (bwT b_31) rfl ?_
    refine z_icmp_ge (tgt := 31) dP_growAcross_7 (by decide) (fun hc => absurd hc (nI_ge (by omega) (by omega))) (fun _ => ?_)
    refine z_aload_n dP_growAcross_10 rfl ?_
    refine z_iconst (v := 0) dP_growAcross_11 (by decide) ?_
    refine z_iload_n dP_growAcross_12 rfl ?_
    refine z_pure (z_SN (host := "ToneMixer") hE zEok_0 (hE.2.2.1 _ (List.mem_of_getElem? (i := 0) rfl)) (c_placeOf _ _ _ _) dP_growAcross_13 (gd_0 b_62) (bwT b_61) (bwT b_1) rfl qT_placeOf.2 ⟨rfl, rfl⟩ (by rw [hR]; decide) (by rw [hR, hC, hS]; decide) rfl (Nat.le_of_ble_eq_true rfl)) (fun r hr => ?_)
    subst hr
    simp only [zpush, zv]
    rw [show nI i * 32 + 0 = nI (i * 32) by rw [zm]; simp [nI]]
    refine z_iconst (v := 1) dP_growAcross_16 (by decide) ?_
    refine z_aload_n dP_growAcross_17 rfl ?_
    refine z_get (C := RP) (T := TP) (N := 4) (ref := "ToneMixer$Plane") 1 dP_growAcross_18 rfl rfl rfl (by decide) (fun w h => bwT (hbP w h)) (bwT b_29) rfl ?_
    refine z_iload_n dP_growAcross_21 rfl ?_
    refine z_same (z_V (C := RP) (b := 0) hE zEok_0 (c_growLine _ D ca ad _ _ _ _ (i * 32) 1 w t (by omega) (fun j hj => by omega)) dP_growAcross_22 (gd_V b_257 b_259 bs_11 b_2 b_260) rfl qP_growLine ⟨rfl, rfl⟩ (by rw [hR]; decide) (by rw [hR, hC, hS]; decide) rfl (Nat.le_of_ble_eq_true rfl) rfl rfl) (fun r aw1 hlen hr => ?_)
    obtain ⟨rfl, rfl⟩ := hr
    simp only [zpush]
    refine z_iinc1 dP_growAcross_25 (by decide) rfl rfl ?_
    try simp only [List.set_cons_succ, List.set_cons_zero]
    refine z_goto (tgt := 2) dP_growAcross_28 (by decide) ?_
    rw [nI_1]
    exact ih (i + 1) (by omega)
end
set_option maxRecDepth 100000 in
set_option maxHeartbeats 4000000 in
theorem c_growAcross (l : Launch) (D : va_G) (ca : Nat → ClassId) (ad : Nat → Nat) (f g : Nat → Int32) (sa : Nat → Nat) (w h : Nat) (t : Bool) (hw : w ≤ 32) (hh : h ≤ 32) (h2 : 2 * w ≤ 32) : zMet l yP_growAcross wP_growAcross (rmk 1 0 0) (zEx sa) (gG D ca ad) (pw3 ca f g (nI w) (nI h)) [.ref 0, .int (tv t)] (fun r aw => r = none ∧ aw = pw3 ca (grA t w f g h).1 (grA t w f g h).2 (nI (2 * w)) (nI h)) := by
  refine zMet.of (cc := cP_growAcross) (maxL := 3) (ret := none) (lv := [some (.ref 0), some (.int (tv t)), none]) (by decide) rfl (Nat.le_of_ble_eq_true rfl) rfl (fun M hl0 hR hC hS hE hret => ?_)
  refine z_iconst (v := 0) dP_growAcross_0 (by decide) ?_
  refine z_istore_n dP_growAcross_1 (by decide) rfl ?_
  try simp only [List.set_cons_succ, List.set_cons_zero]
  refine l_growAcross (f := f) (g := g) hw hh h2 hR hC hS hE ?_ h 0 (by omega)
  refine z_aload_n dP_growAcross_31 rfl ?_
  refine z_iconst (v := 2) dP_growAcross_32 (by decide) ?_
  refine z_aload_n dP_growAcross_33 rfl ?_
  refine z_get (C := RP) (T := TP) (N := 4) (ref := "ToneMixer$Plane") 1 dP_growAcross_34 rfl rfl rfl (by decide) (fun w h => bwT (hbP w h)) (bwT b_29) rfl ?_
  refine z_imul dP_growAcross_37 ?_
  refine z_put (C := RP) (T := TP) (N := 4) (ref := "ToneMixer$Plane") (ty := .int) 1 tyP dP_growAcross_38 rfl rfl (by decide) (fun w h => bwT (hbP w h)) (bwT b_29) rfl tyP_ok nmP rfl (by decide +kernel) (fun _ => ⟨rfl, rfl⟩) (Nat.le_of_ble_eq_true rfl) ?_
  try simp only [List.set_cons_succ, List.set_cons_zero]
  rw [show (2 : Int32) * nI w = nI (2 * w) from (zm 2 w).symm]
  exact z_return dP_growAcross_41 hret ⟨Nat.le_of_eq hC, Nat.le_of_eq hS⟩ rfl ⟨rfl, rfl⟩
section
variable {M : zM} {D : va_G} {ca : Nat → ClassId} {ad : Nat → Nat} {f g : Nat → Int32} {w h : Nat} {sa : Nat → Nat} {t : Bool}
set_option maxRecDepth 100000 in
set_option maxHeartbeats 4000000 in
theorem l_growDown (hw : w ≤ 32) (hh : h ≤ 32) (h2 : 2 * h ≤ 32) (hR : zroom M = rmk 1 0 0) (hC : zcells M = 0) (hS : zslots M = 0) (hE : zEn M (zEx sa))
    (k : Zj M (gG D ca ad) cP_growDown 3 RP wP_growDown none (pw3 ca (grD t h f g w).1 (grD t h f g w).2 (nI w) (nI h)) [some (.ref 0), some (.int (tv t)), some (.int (nI w))] [] 32) : ∀ n i, i + n = w → Zj M (gG D ca ad) cP_growDown 3 RP wP_growDown none (pw3 ca (grD t h f g i).1 (grD t h f g i).2 (nI w) (nI h)) [some (.ref 0), some (.int (tv t)), some (.int (nI i))] [] 2 := by
  intro n
  induction n with
  | zero =>
    intro i hi
    obtain rfl : i = w := by omega
    refine z_iload_n dP_growDown_2 rfl ?_
    refine z_aload_n dP_growDown_3 rfl ?_
    refine z_get (C := RP) (T := TP) (N := 4) (ref := "ToneMixer$Plane") 1 dP_growDown_4 rfl rfl rfl (by decide) (fun w h => bwT (hbP w h)) (bwT b_29) rfl ?_
    exact z_icmp_ge (tgt := 32) dP_growDown_7 (by decide) (fun _ => k) (fun hc => absurd (nI_le (Nat.le_refl _) (by omega)) hc)
  | succ n ih =>
    intro i hi
    refine z_iload_n dP_growDown_2 rfl ?_
    refine z_aload_n dP_growDown_3 rfl ?_
    refine z_get (C := RP) (T := TP) (N := 4) (ref := "ToneMixer$Plane") 1 dP_growDown_4 rfl rfl rfl (by decide) (fun w h => bwT (hbP w h)) (bwT b_29) rfl ?_
    refine z_icmp_ge (tgt := 32) dP_growDown_7 (by decide) (fun hc => absurd hc (nI_ge (by omega) (by omega))) (fun _ => ?_)
    refine z_aload_n dP_growDown_10 rfl ?_
    refine z_iload_n dP_growDown_11 rfl ?_
    refine z_iconst (v := 0) dP_growDown_12 (by decide) ?_
    refine z_pure (z_SN (host := "ToneMixer") hE zEok_0 (hE.2.2.1 _ (List.mem_of_getElem? (i := 0) rfl)) (c_placeOf _ _ _ _) dP_growDown_13 (gd_0 b_62) (bwT b_61) (bwT b_1) rfl qT_placeOf.2 ⟨rfl, rfl⟩ (by rw [hR]; decide) (by rw [hR, hC, hS]; decide) rfl (Nat.le_of_ble_eq_true rfl)) (fun r hr => ?_)
    subst hr
    simp only [zpush, zv]
    rw [show (0 : Int32) * 32 + nI i = nI i by simp]
    refine z_bipush (v := 32) dP_growDown_16 (by decide) ?_
    refine z_aload_n dP_growDown_18 rfl ?_
    refine z_get (C := RP) (T := TP) (N := 4) (ref := "ToneMixer$Plane") 2 dP_growDown_19 rfl rfl rfl (by decide) (fun w h => bwT (hbP w h)) (bwT b_31) rfl ?_
    refine z_iload_n dP_growDown_22 rfl ?_
    refine z_same (z_V (C := RP) (b := 0) hE zEok_0 (c_growLine _ D ca ad _ _ _ _ (i) 32 h t (by omega) (fun j hj => by omega)) dP_growDown_23 (gd_V b_257 b_259 bs_11 b_2 b_260) rfl qP_growLine ⟨rfl, rfl⟩ (by rw [hR]; decide) (by rw [hR, hC, hS]; decide) rfl (Nat.le_of_ble_eq_true rfl) rfl rfl) (fun r aw1 hlen hr => ?_)
    obtain ⟨rfl, rfl⟩ := hr
    simp only [zpush]
    refine z_iinc1 dP_growDown_26 (by decide) rfl rfl ?_
    try simp only [List.set_cons_succ, List.set_cons_zero]
    refine z_goto (tgt := 2) dP_growDown_29 (by decide) ?_
    rw [nI_1]
    exact ih (i + 1) (by omega)
end
set_option maxRecDepth 100000 in
set_option maxHeartbeats 4000000 in
theorem c_growDown (l : Launch) (D : va_G) (ca : Nat → ClassId) (ad : Nat → Nat) (f g : Nat → Int32) (sa : Nat → Nat) (w h : Nat) (t : Bool) (hw : w ≤ 32) (hh : h ≤ 32) (h2 : 2 * h ≤ 32) : zMet l yP_growDown wP_growDown (rmk 1 0 0) (zEx sa) (gG D ca ad) (pw3 ca f g (nI w) (nI h)) [.ref 0, .int (tv t)] (fun r aw => r = none ∧ aw = pw3 ca (grD t h f g w).1 (grD t h f g w).2 (nI w) (nI (2 * h))) := by
  refine zMet.of (cc := cP_growDown) (maxL := 3) (ret := none) (lv := [some (.ref 0), some (.int (tv t)), none]) (by decide) rfl (Nat.le_of_ble_eq_true rfl) rfl (fun M hl0 hR hC hS hE hret => ?_)
  refine z_iconst (v := 0) dP_growDown_0 (by decide) ?_
  refine z_istore_n dP_growDown_1 (by decide) rfl ?_
  try simp only [List.set_cons_succ, List.set_cons_zero]
  refine l_growDown (f := f) (g := g) hw hh h2 hR hC hS hE ?_ w 0 (by omega)
  refine z_aload_n dP_growDown_32 rfl ?_
  refine z_iconst (v := 2) dP_growDown_33 (by decide) ?_
  refine z_aload_n dP_growDown_34 rfl ?_
  refine z_get (C := RP) (T := TP) (N := 4) (ref := "ToneMixer$Plane") 2 dP_growDown_35 rfl rfl rfl (by decide) (fun w h => bwT (hbP w h)) (bwT b_31) rfl ?_
  refine z_imul dP_growDown_38 ?_
  refine z_put (C := RP) (T := TP) (N := 4) (ref := "ToneMixer$Plane") (ty := .int) 2 tyP dP_growDown_39 rfl rfl (by decide) (fun w h => bwT (hbP w h)) (bwT b_31) rfl tyP_ok nmP rfl (by decide +kernel) (fun _ => ⟨rfl, rfl⟩) (Nat.le_of_ble_eq_true rfl) ?_
  try simp only [List.set_cons_succ, List.set_cons_zero]
  rw [show (2 : Int32) * nI h = nI (2 * h) from (zm 2 h).symm]
  exact z_return dP_growDown_42 hret ⟨Nat.le_of_eq hC, Nat.le_of_eq hS⟩ rfl ⟨rfl, rfl⟩
section
variable {M : zM} {D : va_G} {ca : Nat → ClassId} {ad : Nat → Nat} {f g : Nat → Int32} {w h : Int32} {st sp len : Nat}
set_option maxRecDepth 100000 in
set_option maxHeartbeats 4000000 in
theorem l_shrinkLine (h1 : 1 ≤ len) (hlen : len ≤ 32) (hb : ∀ i, i < len → st + i * sp < 1024) (hR : zroom M = rmk 1 0 0) (hC : zcells M = 0) (hS : zslots M = 0) (hE : zEn M zE0)
    (k : ∀ o5 o6, Zj M (gG D ca ad) cP_shrinkLine 7 RP wP_shrinkLine none (pw3 ca (shL len st sp f ((len + 1) / 2)) g w h) [some (.ref 0), some (.int (nI st)), some (.int (nI sp)), some (.int (nI len)), some (.int (nI ((len + 1) / 2))), o5, o6] [] 79) :
    ∀ n i, i + n = (len + 1) / 2 → ∀ o5 o6, Zj M (gG D ca ad) cP_shrinkLine 7 RP wP_shrinkLine none (pw3 ca (shL len st sp f i) g w h) [some (.ref 0), some (.int (nI st)), some (.int (nI sp)), some (.int (nI len)), some (.int (nI i)), o5, o6] [] 3 := by
  intro n
  induction n with
  | zero =>
    intro i hi o5 o6
    obtain rfl : i = (len + 1) / 2 := by omega
    refine z_iload dP_shrinkLine_3 rfl ?_
    refine z_iload_n dP_shrinkLine_5 rfl ?_
    refine z_pure (z_S hE zEok_0 (c_half _ _ len (by omega)) dP_shrinkLine_6 (gd_S b_280 b_281 b_2 b_282) rfl qP_half.2 ⟨rfl, rfl⟩ (by rw [hR]; decide) (by rw [hR, hC, hS]; decide) rfl (Nat.le_of_ble_eq_true rfl)) (fun r hr => ?_)
    subst hr
    simp only [zpush, zv]
    exact z_icmp_ge (tgt := 79) dP_shrinkLine_9 (by decide) (fun _ => k o5 o6) (fun hc => absurd (nI_le (Nat.le_refl _) (by omega)) hc)
  | succ n ih =>
    intro i hi o5 o6
    refine z_iload dP_shrinkLine_3 rfl ?_
    refine z_iload_n dP_shrinkLine_5 rfl ?_
    refine z_pure (z_S hE zEok_0 (c_half _ _ len (by omega)) dP_shrinkLine_6 (gd_S b_280 b_281 b_2 b_282) rfl qP_half.2 ⟨rfl, rfl⟩ (by rw [hR]; decide) (by rw [hR, hC, hS]; decide) rfl (Nat.le_of_ble_eq_true rfl)) (fun r hr => ?_)
    subst hr
    simp only [zpush, zv]
    refine z_icmp_ge (tgt := 79) dP_shrinkLine_9 (by decide) (fun hc => absurd hc (nI_ge (by omega) (by omega))) (fun _ => ?_)
    refine z_aload_n dP_shrinkLine_12 rfl ?_
    refine z_get (C := RP) (T := TP) (N := 4) (ref := "ToneMixer$Plane") 0 dP_shrinkLine_13 rfl rfl rfl (by decide) (fun w h => bwT (hbP w h)) (bwT b_27) rfl ?_
    refine z_iload_n dP_shrinkLine_16 rfl ?_
    refine z_iconst (v := 2) dP_shrinkLine_17 (by decide) ?_
    refine z_iload dP_shrinkLine_18 rfl ?_
    refine z_imul dP_shrinkLine_20 ?_
    refine z_iload_n dP_shrinkLine_21 rfl ?_
    refine z_imul dP_shrinkLine_22 ?_
    refine z_iadd dP_shrinkLine_23 ?_
    refine z_ialdN (t0 := 0) (k := st + 2 * i * sp) dP_shrinkLine_24 rfl rfl (by rw [za, zm, zm]; rfl) (by have := hb (2 * i) (by omega); exact this) (by decide) ?_
    refine z_istore dP_shrinkLine_25 (by decide) rfl ?_
    try simp only [List.set_cons_succ, List.set_cons_zero]
    refine z_aload_n dP_shrinkLine_27 rfl ?_
    refine z_get (C := RP) (T := TP) (N := 4) (ref := "ToneMixer$Plane") 0 dP_shrinkLine_28 rfl rfl rfl (by decide) (fun w h => bwT (hbP w h)) (bwT b_27) rfl ?_
    refine z_iload_n dP_shrinkLine_31 rfl ?_
    refine z_iconst (v := 2) dP_shrinkLine_32 (by decide) ?_
    refine z_iload dP_shrinkLine_33 rfl ?_
    refine z_imul dP_shrinkLine_35 ?_
    refine z_iconst (v := 1) dP_shrinkLine_36 (by decide) ?_
    refine z_iadd dP_shrinkLine_37 ?_
    refine z_iload_n dP_shrinkLine_38 rfl ?_
    refine z_iconst (v := 1) dP_shrinkLine_39 (by decide) ?_
    refine z_isub dP_shrinkLine_40 ?_
    rw [show (2 : Int32) * nI i + 1 = nI (2 * i + 1) by rw [za, zm]; rfl, show nI len - (1 : Int32) = nI (len - 1) by rw [show (1 : Int32) = nI 1 from rfl, pk_sub h1]]
    refine z_mmin dP_shrinkLine_41 (bwT b_283) (bwT b_80) (bwT b_10) (bwT b_81) (zmR hR ⟨Nat.le_of_ble_eq_true rfl, Nat.le_of_ble_eq_true rfl⟩) (zmC hR hC hS (by decide)) ?_
    rw [z_min (by omega) (by omega)]
    refine z_iload_n dP_shrinkLine_44 rfl ?_
    refine z_imul dP_shrinkLine_45 ?_
    refine z_iadd dP_shrinkLine_46 ?_
    refine z_ialdN (t0 := 0) (k := st + (if 2 * i + 1 ≤ len - 1 then 2 * i + 1 else len - 1) * sp) dP_shrinkLine_47 rfl rfl (by rw [za, zm]) (hb _ (by split <;> omega)) (by decide) ?_
    refine z_istore dP_shrinkLine_48 (by decide) rfl ?_
    try simp only [List.set_cons_succ, List.set_cons_zero]
    refine z_aload_n dP_shrinkLine_50 rfl ?_
    refine z_get (C := RP) (T := TP) (N := 4) (ref := "ToneMixer$Plane") 0 dP_shrinkLine_51 rfl rfl rfl (by decide) (fun w h => bwT (hbP w h)) (bwT b_27) rfl ?_
    refine z_iload_n dP_shrinkLine_54 rfl ?_
    refine z_iload dP_shrinkLine_55 rfl ?_
    refine z_iload_n dP_shrinkLine_57 rfl ?_
    refine z_imul dP_shrinkLine_58 ?_
    refine z_iadd dP_shrinkLine_59 ?_
    refine z_iload dP_shrinkLine_60 rfl ?_
    refine z_iload dP_shrinkLine_62 rfl ?_
    refine z_iadd dP_shrinkLine_64 ?_
    refine z_iload dP_shrinkLine_65 rfl ?_
    refine z_iconst (v := 2) dP_shrinkLine_67 (by decide) ?_
    refine z_irem dP_shrinkLine_68 (by decide) ?_
    rw [show (2 : Int32) = nI 2 from rfl, pk_rem (by omega) (by omega) (by omega)]
    refine z_iadd dP_shrinkLine_69 ?_
    refine z_iconst (v := 1) dP_shrinkLine_70 (by decide) ?_
    refine z_ishr dP_shrinkLine_71 ?_
    refine z_iastN (t0 := 0) (k := st + i * sp) dP_shrinkLine_72 rfl rfl (by rw [za, zm]) (hb i (by omega)) (by decide) ?_
    try simp only [List.set_cons_succ, List.set_cons_zero]
    refine z_iinc1 dP_shrinkLine_73 (by decide) rfl rfl ?_
    try simp only [List.set_cons_succ, List.set_cons_zero]
    refine z_goto (tgt := 3) dP_shrinkLine_76 (by decide) ?_
    rw [nI_1]
    exact ih (i + 1) (by omega) _ _
end
set_option maxRecDepth 100000 in
set_option maxHeartbeats 4000000 in
theorem c_shrinkLine (l : Launch) (D : va_G) (ca : Nat → ClassId) (ad : Nat → Nat) (f g : Nat → Int32) (w h : Int32) (st sp len : Nat) (h1 : 1 ≤ len) (hlen : len ≤ 32) (hb : ∀ i, i < len → st + i * sp < 1024) : zMet l yP_shrinkLine wP_shrinkLine (rmk 1 0 0) zE0 (gG D ca ad) (pw3 ca f g w h) [.ref 0, .int (nI st), .int (nI sp), .int (nI len)] (fun r aw => r = none ∧ aw = pw3 ca (shL len st sp f ((len + 1) / 2)) g w h) := by
  refine zMet.of (cc := cP_shrinkLine) (maxL := 7) (ret := none) (lv := [some (.ref 0), some (.int (nI st)), some (.int (nI sp)), some (.int (nI len)), none, none, none]) (by decide) rfl (Nat.le_of_ble_eq_true rfl) rfl (fun M hl0 hR hC hS hE hret => ?_)
  refine z_iconst (v := 0) dP_shrinkLine_0 (by decide) ?_
  refine z_istore dP_shrinkLine_1 (by decide) rfl ?_
  try simp only [List.set_cons_succ, List.set_cons_zero]
  refine l_shrinkLine (f := f) h1 hlen hb hR hC hS hE (fun o5 o6 => ?_) ((len + 1) / 2) 0 (by omega) none none
  exact z_return dP_shrinkLine_79 hret ⟨Nat.le_of_eq hC, Nat.le_of_eq hS⟩ rfl ⟨rfl, rfl⟩
section
variable {M : zM} {D : va_G} {ca : Nat → ClassId} {ad : Nat → Nat} {f g : Nat → Int32} {w h : Nat} {sa : Nat → Nat}
set_option maxRecDepth 100000 in
set_option maxHeartbeats 4000000 in
theorem l_shrinkAcross (hw1 : 1 ≤ w) (hh1 : 1 ≤ h) (hw : w ≤ 32) (hh : h ≤ 32) (hR : zroom M = rmk 2 0 0) (hC : zcells M = 0) (hS : zslots M = 0) (hE : zEn M (zEx sa))
    (k : Zj M (gG D ca ad) cP_shrinkAcross 2 RP wP_shrinkAcross none (pw3 ca (shA w f h) g (nI w) (nI h)) [some (.ref 0), some (.int (nI h))] [] 30) : ∀ n i, i + n = h → Zj M (gG D ca ad) cP_shrinkAcross 2 RP wP_shrinkAcross none (pw3 ca (shA w f i) g (nI w) (nI h)) [some (.ref 0), some (.int (nI i))] [] 2 := by
  intro n
  induction n with
  | zero =>
    intro i hi
    obtain rfl : i = h := by omega
    refine z_iload_n dP_shrinkAcross_2 rfl ?_
    refine z_aload_n dP_shrinkAcross_3 rfl ?_
    refine z_get (C := RP) (T := TP) (N := 4) (ref := "ToneMixer$Plane") 2 dP_shrinkAcross_4 rfl rfl rfl (by decide) (fun w h => bwT (hbP w h)) (bwT b_31) rfl ?_
    exact z_icmp_ge (tgt := 30) dP_shrinkAcross_7 (by decide) (fun _ => k) (fun hc => absurd (nI_le (Nat.le_refl _) (by omega)) hc)
  | succ n ih =>
    intro i hi
    refine z_iload_n dP_shrinkAcross_2 rfl ?_
    refine z_aload_n dP_shrinkAcross_3 rfl ?_
    refine z_get (C := RP) (T := TP) (N := 4) (ref := "ToneMixer$Plane") 2 dP_shrinkAcross_4 rfl rfl rfl (by decide) (fun w h => bwT (hbP w h)) (bwT b_31) rfl ?_
    refine z_icmp_ge (tgt := 30) dP_shrinkAcross_7 (by decide) (fun hc => absurd hc (nI_ge (by omega) (by omega))) (fun _ => ?_)
    refine z_aload_n dP_shrinkAcross_10 rfl ?_
    refine z_iconst (v := 0) dP_shrinkAcross_11 (by decide) ?_
    refine z_iload_n dP_shrinkAcross_12 rfl ?_
    refine z_pure (z_SN (host := "ToneMixer") hE zEok_0 (hE.2.2.1 _ (List.mem_of_getElem? (i := 0) rfl)) (c_placeOf _ _ _ _) dP_shrinkAcross_13 (gd_0 b_62) (bwT b_61) (bwT b_1) rfl qT_placeOf.2 ⟨rfl, rfl⟩ (by rw [hR]; decide) (by rw [hR, hC, hS]; decide) rfl (Nat.le_of_ble_eq_true rfl)) (fun r hr => ?_)
    subst hr
    simp only [zpush, zv]
    rw [show nI i * 32 + 0 = nI (i * 32) by rw [zm]; simp [nI]]
    refine z_iconst (v := 1) dP_shrinkAcross_16 (by decide) ?_
    refine z_aload_n dP_shrinkAcross_17 rfl ?_
    refine z_get (C := RP) (T := TP) (N := 4) (ref := "ToneMixer$Plane") 1 dP_shrinkAcross_18 rfl rfl rfl (by decide) (fun w h => bwT (hbP w h)) (bwT b_29) rfl ?_
    refine z_same (z_V (C := RP) (b := 0) hE zEok_0 (c_shrinkLine _ D ca ad _ _ _ _ (i * 32) 1 w (by omega) (by omega) (fun j hj => by omega)) dP_shrinkAcross_21 (gd_V b_276 b_278 bs_12 b_2 b_279) rfl qP_shrinkLine ⟨rfl, rfl⟩ (by rw [hR]; decide) (by rw [hR, hC, hS]; decide) rfl (Nat.le_of_ble_eq_true rfl) rfl rfl) (fun r aw1 hlen hr => ?_)
    obtain ⟨rfl, rfl⟩ := hr
    simp only [zpush]
    refine z_iinc1 dP_shrinkAcross_24 (by decide) rfl rfl ?_
    try simp only [List.set_cons_succ, List.set_cons_zero]
    refine z_goto (tgt := 2) dP_shrinkAcross_27 (by decide) ?_
    rw [nI_1]
    exact ih (i + 1) (by omega)
end
set_option maxRecDepth 100000 in
set_option maxHeartbeats 4000000 in
theorem c_shrinkAcross (l : Launch) (D : va_G) (ca : Nat → ClassId) (ad : Nat → Nat) (f g : Nat → Int32) (sa : Nat → Nat) (w h : Nat) (hw1 : 1 ≤ w) (hh1 : 1 ≤ h) (hw : w ≤ 32) (hh : h ≤ 32) : zMet l yP_shrinkAcross wP_shrinkAcross (rmk 2 0 0) (zEx sa) (gG D ca ad) (pw3 ca f g (nI w) (nI h)) [.ref 0] (fun r aw => r = none ∧ aw = pw3 ca (shA w f h) g (nI ((w + 1) / 2)) (nI h)) := by
  refine zMet.of (cc := cP_shrinkAcross) (maxL := 2) (ret := none) (lv := [some (.ref 0), none]) (by decide) rfl (Nat.le_of_ble_eq_true rfl) rfl (fun M hl0 hR hC hS hE hret => ?_)
  refine z_iconst (v := 0) dP_shrinkAcross_0 (by decide) ?_
  refine z_istore_n dP_shrinkAcross_1 (by decide) rfl ?_
  try simp only [List.set_cons_succ, List.set_cons_zero]
  refine l_shrinkAcross (f := f) (g := g) hw1 hh1 hw hh hR hC hS hE ?_ h 0 (by omega)
  refine z_aload_n dP_shrinkAcross_30 rfl ?_
  refine z_aload_n dP_shrinkAcross_31 rfl ?_
  refine z_get (C := RP) (T := TP) (N := 4) (ref := "ToneMixer$Plane") 1 dP_shrinkAcross_32 rfl rfl rfl (by decide) (fun w h => bwT (hbP w h)) (bwT b_29) rfl ?_
  refine z_pure (z_S hE zEok_0 (c_half _ _ w (by omega)) dP_shrinkAcross_35 (gd_S b_280 b_281 b_2 b_282) rfl qP_half.2 ⟨rfl, rfl⟩ (by rw [hR]; decide) (by rw [hR, hC, hS]; decide) rfl (Nat.le_of_ble_eq_true rfl)) (fun r hr => ?_)
  subst hr
  simp only [zpush, zv]
  refine z_put (C := RP) (T := TP) (N := 4) (ref := "ToneMixer$Plane") (ty := .int) 1 tyP dP_shrinkAcross_38 rfl rfl (by decide) (fun w h => bwT (hbP w h)) (bwT b_29) rfl tyP_ok nmP rfl (by decide +kernel) (fun _ => ⟨rfl, rfl⟩) (Nat.le_of_ble_eq_true rfl) ?_
  try simp only [List.set_cons_succ, List.set_cons_zero]
  exact z_return dP_shrinkAcross_41 hret ⟨Nat.le_of_eq hC, Nat.le_of_eq hS⟩ rfl ⟨rfl, rfl⟩
section
variable {M : zM} {D : va_G} {ca : Nat → ClassId} {ad : Nat → Nat} {f g : Nat → Int32} {w h : Nat} {sa : Nat → Nat}
set_option maxRecDepth 100000 in
set_option maxHeartbeats 4000000 in
theorem l_shrinkDown (hw1 : 1 ≤ w) (hh1 : 1 ≤ h) (hw : w ≤ 32) (hh : h ≤ 32) (hR : zroom M = rmk 2 0 0) (hC : zcells M = 0) (hS : zslots M = 0) (hE : zEn M (zEx sa))
    (k : Zj M (gG D ca ad) cP_shrinkDown 2 RP wP_shrinkDown none (pw3 ca (shD h f w) g (nI w) (nI h)) [some (.ref 0), some (.int (nI w))] [] 31) : ∀ n i, i + n = w → Zj M (gG D ca ad) cP_shrinkDown 2 RP wP_shrinkDown none (pw3 ca (shD h f i) g (nI w) (nI h)) [some (.ref 0), some (.int (nI i))] [] 2 := by
  intro n
  induction n with
  | zero =>
    intro i hi
    obtain rfl : i = w := by omega
    refine z_iload_n dP_shrinkDown_2 rfl ?_
    refine z_aload_n dP_shrinkDown_3 rfl ?_
    refine z_get (C := RP) (T := TP) (N := 4) (ref := "ToneMixer$Plane") 1 dP_shrinkDown_4 rfl rfl rfl (by decide) (fun w h => bwT (hbP w h)) (bwT b_29) rfl ?_
    exact z_icmp_ge (tgt := 31) dP_shrinkDown_7 (by decide) (fun _ => k) (fun hc => absurd (nI_le (Nat.le_refl _) (by omega)) hc)
  | succ n ih =>
    intro i hi
    refine z_iload_n dP_shrinkDown_2 rfl ?_
    refine z_aload_n dP_shrinkDown_3 rfl ?_
    refine z_get (C := RP) (T := TP) (N := 4) (ref := "ToneMixer$Plane") 1 dP_shrinkDown_4 rfl rfl rfl (by decide) (fun w h => bwT (hbP w h)) (bwT b_29) rfl ?_
    refine z_icmp_ge (tgt := 31) dP_shrinkDown_7 (by decide) (fun hc => absurd hc (nI_ge (by omega) (by omega))) (fun _ => ?_)
    refine z_aload_n dP_shrinkDown_10 rfl ?_
    refine z_iload_n dP_shrinkDown_11 rfl ?_
    refine z_iconst (v := 0) dP_shrinkDown_12 (by decide) ?_
    refine z_pure (z_SN (host := "ToneMixer") hE zEok_0 (hE.2.2.1 _ (List.mem_of_getElem? (i := 0) rfl)) (c_placeOf _ _ _ _) dP_shrinkDown_13 (gd_0 b_62) (bwT b_61) (bwT b_1) rfl qT_placeOf.2 ⟨rfl, rfl⟩ (by rw [hR]; decide) (by rw [hR, hC, hS]; decide) rfl (Nat.le_of_ble_eq_true rfl)) (fun r hr => ?_)
    subst hr
    simp only [zpush, zv]
    rw [show (0 : Int32) * 32 + nI i = nI i by simp]
    refine z_bipush (v := 32) dP_shrinkDown_16 (by decide) ?_
    refine z_aload_n dP_shrinkDown_18 rfl ?_
    refine z_get (C := RP) (T := TP) (N := 4) (ref := "ToneMixer$Plane") 2 dP_shrinkDown_19 rfl rfl rfl (by decide) (fun w h => bwT (hbP w h)) (bwT b_31) rfl ?_
    refine z_same (z_V (C := RP) (b := 0) hE zEok_0 (c_shrinkLine _ D ca ad _ _ _ _ (i) 32 h (by omega) (by omega) (fun j hj => by omega)) dP_shrinkDown_22 (gd_V b_276 b_278 bs_12 b_2 b_279) rfl qP_shrinkLine ⟨rfl, rfl⟩ (by rw [hR]; decide) (by rw [hR, hC, hS]; decide) rfl (Nat.le_of_ble_eq_true rfl) rfl rfl) (fun r aw1 hlen hr => ?_)
    obtain ⟨rfl, rfl⟩ := hr
    simp only [zpush]
    refine z_iinc1 dP_shrinkDown_25 (by decide) rfl rfl ?_
    try simp only [List.set_cons_succ, List.set_cons_zero]
    refine z_goto (tgt := 2) dP_shrinkDown_28 (by decide) ?_
    rw [nI_1]
    exact ih (i + 1) (by omega)
end
set_option maxRecDepth 100000 in
set_option maxHeartbeats 4000000 in
theorem c_shrinkDown (l : Launch) (D : va_G) (ca : Nat → ClassId) (ad : Nat → Nat) (f g : Nat → Int32) (sa : Nat → Nat) (w h : Nat) (hw1 : 1 ≤ w) (hh1 : 1 ≤ h) (hw : w ≤ 32) (hh : h ≤ 32) : zMet l yP_shrinkDown wP_shrinkDown (rmk 2 0 0) (zEx sa) (gG D ca ad) (pw3 ca f g (nI w) (nI h)) [.ref 0] (fun r aw => r = none ∧ aw = pw3 ca (shD h f w) g (nI w) (nI ((h + 1) / 2))) := by
  refine zMet.of (cc := cP_shrinkDown) (maxL := 2) (ret := none) (lv := [some (.ref 0), none]) (by decide) rfl (Nat.le_of_ble_eq_true rfl) rfl (fun M hl0 hR hC hS hE hret => ?_)
  refine z_iconst (v := 0) dP_shrinkDown_0 (by decide) ?_
  refine z_istore_n dP_shrinkDown_1 (by decide) rfl ?_
  try simp only [List.set_cons_succ, List.set_cons_zero]
  refine l_shrinkDown (f := f) (g := g) hw1 hh1 hw hh hR hC hS hE ?_ w 0 (by omega)
  refine z_aload_n dP_shrinkDown_31 rfl ?_
  refine z_aload_n dP_shrinkDown_32 rfl ?_
  refine z_get (C := RP) (T := TP) (N := 4) (ref := "ToneMixer$Plane") 2 dP_shrinkDown_33 rfl rfl rfl (by decide) (fun w h => bwT (hbP w h)) (bwT b_31) rfl ?_
  refine z_pure (z_S hE zEok_0 (c_half _ _ h (by omega)) dP_shrinkDown_36 (gd_S b_280 b_281 b_2 b_282) rfl qP_half.2 ⟨rfl, rfl⟩ (by rw [hR]; decide) (by rw [hR, hC, hS]; decide) rfl (Nat.le_of_ble_eq_true rfl)) (fun r hr => ?_)
  subst hr
  simp only [zpush, zv]
  refine z_put (C := RP) (T := TP) (N := 4) (ref := "ToneMixer$Plane") (ty := .int) 2 tyP dP_shrinkDown_39 rfl rfl (by decide) (fun w h => bwT (hbP w h)) (bwT b_31) rfl tyP_ok nmP rfl (by decide +kernel) (fun _ => ⟨rfl, rfl⟩) (Nat.le_of_ble_eq_true rfl) ?_
  try simp only [List.set_cons_succ, List.set_cons_zero]
  exact z_return dP_shrinkDown_42 hret ⟨Nat.le_of_eq hC, Nat.le_of_eq hS⟩ rfl ⟨rfl, rfl⟩
