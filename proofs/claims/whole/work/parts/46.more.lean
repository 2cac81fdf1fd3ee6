/-- byte i of a long -/
def rwv (e : Int64) (i : Nat) : Int32 := ((e.toUInt64 >>> (((8 : Int32) * (7 - nI i)).toInt64.toUInt64 &&& Int64.toUInt64 63)).toInt64).toInt32 &&& 255
def rwL (e : Int64) (f : Nat → Int32) (a b : Nat) : Nat → (Nat → Int32)
  | 0 => f
  | i + 1 => upd (rwL e f a b i) (b * 32 + (a + i)) (rwv e i)
section
variable {M : zM} {D : va_G} {ca : Nat → ClassId} {ad : Nat → Nat} {f g : Nat → Nat → Int32} {w h : Nat → Nat} {sa : Nat → Nat} {k a b : Nat} {e : Int64} {E : (Nat → Prop) → State → Prop}
set_option maxRecDepth 100000 in
set_option maxHeartbeats 4000000 in
theorem l_row (hwh : okW w h) (hk : k < 4) (ha : a < w k) (hb : b < h k) (hR : zroom M = rmk 8 2 12) (hC : zcells M = 2) (hS : zslots M = 12) (hE : zEn M E)
    (kx : Zj M (gG D ca ad) cT_row 8 RT wT_row none (twn ca (va_up f k (rwL e (f k) a b (mn 8 (w k - a)))) g w h) [some (.ref 0), some (.int (nI k)), some (.int (nI a)), some (.int (nI b)), some (.long e), none, some (.ref (2 + 3 * k)), some (.int (nI (mn 8 (w k - a))))] [] 64) :
    ∀ n i, i + n = mn 8 (w k - a) → Zj M (gG D ca ad) cT_row 8 RT wT_row none (twn ca (va_up f k (rwL e (f k) a b i)) g w h) [some (.ref 0), some (.int (nI k)), some (.int (nI a)), some (.int (nI b)), some (.long e), none, some (.ref (2 + 3 * k)), some (.int (nI i))] [] 12 := by
  obtain ⟨hk1, hk2, hk3, hk4⟩ := hwh k hk
  have hm : mn 8 (w k - a) ≤ 8 ∧ mn 8 (w k - a) ≤ w k - a ∧ (mn 8 (w k - a) = 8 ∨ mn 8 (w k - a) = w k - a) := by
    unfold mn; split <;> omega
  obtain ⟨hm1, hm2, hm3⟩ := hm
  intro n
  induction n with
  | zero =>
    intro i hi
    obtain rfl : i = mn 8 (w k - a) := by omega
    refine z_iload dT_row_12 rfl ?_
    refine z_bipush (v := 8) dT_row_14 (by decide) ?_
    rw [show (8 : Int32) = nI 8 from rfl]
    refine z_icmp_ge (tgt := 64) dT_row_16 (by decide) (fun _ => kx) (fun hc => ?_)
    have h8 : mn 8 (w k - a) < 8 := by
      rcases Nat.lt_or_ge (mn 8 (w k - a)) 8 with q | q
      · exact q
      · exact absurd (nI_le q (by omega)) hc
    refine z_iload_n dT_row_19 rfl ?_
    refine z_iload dT_row_20 rfl ?_
    refine z_iadd dT_row_22 ?_
    refine z_aload dT_row_23 rfl ?_
    refine z_get (C := RP) (T := TP) (N := 4) (ref := "ToneMixer$Plane") 1 dT_row_25 (tw_pl hk) rfl rfl (by decide) (fun w h => bwT (hbP w h)) (bwT b_30) rfl ?_
    rw [nI_add]
    exact z_icmp_ge (tgt := 64) dT_row_28 (by decide) (fun _ => kx) (fun hc => absurd (nI_le (by omega) (by omega)) hc)
  | succ n ih =>
    intro i hi
    refine z_iload dT_row_12 rfl ?_
    refine z_bipush (v := 8) dT_row_14 (by decide) ?_
    rw [show (8 : Int32) = nI 8 from rfl]
    refine z_icmp_ge (tgt := 64) dT_row_16 (by decide) (fun hc => absurd hc (nI_ge (by omega) (by omega))) (fun _ => ?_)
    refine z_iload_n dT_row_19 rfl ?_
    refine z_iload dT_row_20 rfl ?_
    refine z_iadd dT_row_22 ?_
    refine z_aload dT_row_23 rfl ?_
    refine z_get (C := RP) (T := TP) (N := 4) (ref := "ToneMixer$Plane") 1 dT_row_25 (tw_pl hk) rfl rfl (by decide) (fun w h => bwT (hbP w h)) (bwT b_30) rfl ?_
    rw [nI_add]
    refine z_icmp_ge (tgt := 64) dT_row_28 (by decide) (fun hc => absurd hc (nI_ge (by omega) (by omega))) (fun _ => ?_)
    refine z_aload dT_row_31 rfl ?_
    refine z_get (C := RP) (T := TP) (N := 4) (ref := "ToneMixer$Plane") 0 dT_row_33 (tw_pl hk) rfl rfl (by decide) (fun w h => bwT (hbP w h)) (bwT b_28) rfl ?_
    refine z_iload_n dT_row_36 rfl ?_
    refine z_iload dT_row_37 rfl ?_
    refine z_iadd dT_row_39 ?_
    refine z_iload_n dT_row_40 rfl ?_
    rw [nI_add]
    refine z_pure (z_S hE zEok_0 (c_placeOf _ _ _ _) dT_row_41 (gd_S b_60 b_61 b_1 b_62) rfl qT_placeOf.2 ⟨rfl, rfl⟩ (by rw [hR]; decide) (by rw [hR, hC, hS]; decide) rfl (Nat.le_of_ble_eq_true rfl)) (fun r hr => ?_)
    subst hr
    simp only [zpush, zv]
    rw [z_pl]
    refine z_lload dT_row_44 rfl ?_
    refine z_iload dT_row_46 rfl ?_
    refine z_pure (z_S hE zEok_0 (c_shiftOfByte _ _ _) dT_row_48 (gd_S b_242 b_243 b_1 b_244) rfl qT_shiftOfByte.2 ⟨rfl, rfl⟩ (by rw [hR]; decide) (by rw [hR, hC, hS]; decide) rfl (Nat.le_of_ble_eq_true rfl)) (fun r hr => ?_)
    subst hr
    simp only [zpush, zv]
    refine z_lushr dT_row_51 ?_
    refine z_l2i dT_row_52 ?_
    refine z_sipush (v := 255) dT_row_53 (by decide) ?_
    refine z_iand dT_row_56 ?_
    refine z_iastN (t0 := 0) (k := b * 32 + (a + i)) dT_row_57 (tw_sm hk) rfl (rfl) (by omega) (by decide) ?_
    rw [tw_setf hk]
    refine z_iinc1 dT_row_58 (by decide) rfl rfl ?_
    try simp only [List.set_cons_succ, List.set_cons_zero]
    refine z_goto (tgt := 12) dT_row_61 (by decide) ?_
    rw [nI_1, va_up_self, bx_uu]
    exact ih (i + 1) (by omega)
end
set_option maxRecDepth 100000 in
set_option maxHeartbeats 4000000 in
theorem c_row (l : Launch) (hl9 : l.stackTraces = false) (D : va_G) (ca : Nat → ClassId) (ad : Nat → Nat) (sa : Nat → Nat) (f g : Nat → Nat → Int32) (w h : Nat → Nat) (hwh : okW w h) (n x y : Int32) (e : Int64) : zXet l yT_row wT_row (rmk 8 2 12) 2 12 (zEx sa) (gG D ca ad) (twn ca f g w h) [.ref 0, .int n, .int x, .int y, .long e] (fun r aw => ∃ k a b : Nat, k < 4 ∧ n = nI k ∧ a < w k ∧ b < h k ∧ x = nI a ∧ y = nI b ∧ r = none ∧ aw = twn ca (va_up f k (rwL e (f k) a b (mn 8 (w k - a)))) g w h) (fun E => E = IOB ∧ (noP n ∨ ∃ k : Nat, k < 4 ∧ n = nI k ∧ hasB (nI (w k)) (nI (h k)) x y = false)) := by
  refine zXet.of (cc := cT_row) (maxL := 8) (ret := none) (lv := [some (.ref 0), some (.int n), some (.int x), some (.int y), some (.long e), none, none, none]) (by decide) rfl (Nat.le_of_ble_eq_true rfl) rfl (fun M hl0 hR hC hS hE hX => ?_)
  refine z_aload_n dT_row_0 rfl ?_
  refine z_iload_n dT_row_1 rfl ?_
  refine z_iload_n dT_row_2 rfl ?_
  refine z_iload_n dT_row_3 rfl ?_
  refine zx_same (zx_V (C := RT) (b := 0) hE (zEok_ev _ _ _ _) (c_planeWith _ (by rw [hl0]; exact hl9) D ca ad sa f g w h hwh n x y) dT_row_4 (gd_V b_225 b_227 bs_10 b_1 b_228) rfl qT_planeWith ⟨rfl, rfl⟩ (by rw [hR]; decide) (by rw [hR, hC, hS]; decide) rfl (Nat.le_of_ble_eq_true rfl) rfl rfl) hX (fun E h => h) (by rw [hC, hS]; decide) (fun r aw1 hlen hr => ?_)
  obtain ⟨N, hN⟩ : ∃ N, N = zup M 2 12 := ⟨_, rfl⟩
  rw [← hN]
  replace hl0 := (by rw [hN, zup_l0]; exact hl0 : zl0 N = l)
  replace hR := (show zroom N = zroom M by rw [hN, zup_room]).trans hR
  replace hC := (by rw [hN, zup_cells, hC] : zcells N = 2)
  replace hS := (by rw [hN, zup_slots, hS] : zslots N = 12)
  replace hE := (by rw [hN]; exact zup_En hE : zEn N (zEx sa))
  replace hX := (by rw [hN]; exact zup_RetX hX : zRetX N _ _ _ _ _ _)
  clear hN
  obtain ⟨rfl, k, a, b, hk, rfl, ha, hb, rfl, rfl, rfl⟩ := hr
  simp only [zpush, zv]
  obtain ⟨hk1, hk2, hk3, hk4⟩ := hwh k hk
  refine z_astore dT_row_7 (by decide) rfl ?_
  try simp only [List.set_cons_succ, List.set_cons_zero]
  refine z_iconst (v := 0) dT_row_9 (by decide) ?_
  refine z_istore dT_row_10 (by decide) rfl ?_
  try simp only [List.set_cons_succ, List.set_cons_zero]
  have h1 := l_row (M := N) (D := D) (ca := ca) (ad := ad) (f := f) (g := g) (e := e) hwh hk ha hb hR hC hS hE ?_ (mn 8 (w k - a)) 0 (by omega)
  · simp only [rwL, va_upk] at h1
    exact h1
  exact z_return dT_row_64 hX.ret (by rw [hC, hS]; decide) rfl ⟨k, a, b, hk, rfl, ha, hb, rfl, rfl, rfl, rfl⟩
def eiL (f : Nat → Int32) (w h : Nat) (x y : Int32) : Nat → Int64
  | 0 => 0
  | i + 1 => if hasB (nI w) (nI h) (x + nI i) y = true then eiL f w h x y i ||| ((f (y * 32 + (x + nI i)).toNatClampNeg).toInt64 <<< (((8 : Int32) * (7 - nI i)).toInt64 &&& 63)) else eiL f w h x y i
section
variable {M : zM} {D : va_G} {ca : Nat → ClassId} {ad : Nat → Nat} {f g : Nat → Nat → Int32} {w h : Nat → Nat} {sa : Nat → Nat} {k : Nat} {x y : Int32} {E : (Nat → Prop) → State → Prop}
set_option maxRecDepth 100000 in
set_option maxHeartbeats 4000000 in
theorem l_eight (hwh : okW w h) (hk : k < 4) (hR : zroom M = rmk 7 1 6) (hC : zcells M = 1) (hS : zslots M = 6) (hE : zEn M E)
    (kx : Zj M (gG D ca ad) cT_eight 8 RT wT_eight (some .long) (twn ca f g w h) [some (.ref 0), some (.int (nI k)), some (.int x), some (.int y), some (.ref (2 + 3 * k)), some (.long (eiL (f k) (w k) (h k) x y 8)), none, some (.int (nI 8))] [] 65) :
    ∀ n i, i + n = 8 → Zj M (gG D ca ad) cT_eight 8 RT wT_eight (some .long) (twn ca f g w h) [some (.ref 0), some (.int (nI k)), some (.int x), some (.int y), some (.ref (2 + 3 * k)), some (.long (eiL (f k) (w k) (h k) x y i)), none, some (.int (nI i))] [] 13 := by
  obtain ⟨hk1, hk2, hk3, hk4⟩ := hwh k hk
  intro n
  induction n with
  | zero =>
    intro i hi
    obtain rfl : i = 8 := by omega
    refine z_iload dT_eight_13 rfl ?_
    refine z_bipush (v := 8) dT_eight_15 (by decide) ?_
    exact z_icmp_ge (tgt := 65) dT_eight_17 (by decide) (fun _ => kx) (fun hc => absurd (by decide) hc)
  | succ n ih =>
    intro i hi
    refine z_iload dT_eight_13 rfl ?_
    refine z_bipush (v := 8) dT_eight_15 (by decide) ?_
    rw [show (8 : Int32) = nI 8 from rfl]
    refine z_icmp_ge (tgt := 65) dT_eight_17 (by decide) (fun hc => absurd hc (nI_ge (by omega) (by omega))) (fun _ => ?_)
    refine z_aload dT_eight_20 rfl ?_
    refine z_iload_n dT_eight_22 rfl ?_
    refine z_iload dT_eight_23 rfl ?_
    refine z_iadd dT_eight_25 ?_
    refine z_iload_n dT_eight_26 rfl ?_
    refine z_part (plx k) (z_V (C := RP) (b := 0) hE zEok_0 (c_has _ D ca _ (f k) (g k) (nI (w k)) (nI (h k)) (x + nI i) y) dT_eight_27 (gd_V b_229 b_230 b_231 b_2 b_232) rfl qP_has ⟨rfl, rfl⟩ (by rw [hR]; decide) (by rw [hR, hC, hS]; decide) rfl (Nat.le_of_ble_eq_true rfl) rfl rfl) (plx_nd k) (tw_in hk) (fun r aw1 hlen hr => ?_)
    obtain ⟨rfl, rfl⟩ := hr
    rw [tw_put0 hk]
    simp only [zpush, zv]
    have k59 : Zj M (gG D ca ad) cT_eight 8 RT wT_eight (some .long) (twn ca f g w h) ([some (.ref 0), some (.int (nI k)), some (.int x), some (.int y), some (.ref (2 + 3 * k)), some (.long (eiL (f k) (w k) (h k) x y i)), none, some (.int (nI i))].set 5 (some (.long (eiL (f k) (w k) (h k) x y (i + 1))))) [] 59 := by
      simp only [List.set_cons_succ, List.set_cons_zero]
      refine z_iinc1 dT_eight_59 (by decide) rfl rfl ?_
      try simp only [List.set_cons_succ, List.set_cons_zero]
      refine z_goto (tgt := 13) dT_eight_62 (by decide) ?_
      rw [nI_1]
      exact ih (i + 1) (by omega)
    simp only [List.set_cons_succ, List.set_cons_zero] at k59
    by_cases hb : hasB (nI (w k)) (nI (h k)) (x + nI i) y = true
    · rw [if_pos hb]
      refine z_if_eq (tgt := 59) dT_eight_30 (by decide) (fun hc => absurd hc (by decide)) (fun _ => ?_)
      refine z_lload dT_eight_33 rfl ?_
      refine z_aload dT_eight_35 rfl ?_
      refine z_get (C := RP) (T := TP) (N := 4) (ref := "ToneMixer$Plane") 0 dT_eight_37 (tw_pl hk) rfl rfl (by decide) (fun w h => bwT (hbP w h)) (bwT b_28) rfl ?_
      refine z_iload_n dT_eight_40 rfl ?_
      refine z_iload dT_eight_41 rfl ?_
      refine z_iadd dT_eight_43 ?_
      refine z_iload_n dT_eight_44 rfl ?_
      refine z_pure (z_S hE zEok_0 (c_placeOf _ _ _ _) dT_eight_45 (gd_S b_60 b_61 b_1 b_62) rfl qT_placeOf.2 ⟨rfl, rfl⟩ (by rw [hR]; decide) (by rw [hR, hC, hS]; decide) rfl (Nat.le_of_ble_eq_true rfl)) (fun r hr => ?_)
      subst hr
      simp only [zpush, zv]
      obtain ⟨a, b, ha, hb2, e1, e2⟩ := hasB_of hk2 hk4 hb
      refine z_ialdN (t0 := 0) (k := (y * 32 + (x + nI i)).toNatClampNeg) dT_eight_48 (tw_sm hk) rfl (by rw [e1, e2, z_pl, nI_clamp (by omega)]) (by rw [e1, e2, z_pl, nI_clamp (by omega)]; omega) (by decide) ?_
      refine z_i2l dT_eight_49 ?_
      refine z_iload dT_eight_50 rfl ?_
      refine z_pure (z_S hE zEok_0 (c_shiftOfByte _ _ _) dT_eight_52 (gd_S b_242 b_243 b_1 b_244) rfl qT_shiftOfByte.2 ⟨rfl, rfl⟩ (by rw [hR]; decide) (by rw [hR, hC, hS]; decide) rfl (Nat.le_of_ble_eq_true rfl)) (fun r hr => ?_)
      subst hr
      simp only [zpush, zv]
      refine z_lshl dT_eight_55 ?_
      refine z_lor dT_eight_56 ?_
      refine z_lstore dT_eight_57 (by decide) rfl ?_
      try simp only [List.set_cons_succ, List.set_cons_zero]
      rw [show eiL (f k) (w k) (h k) x y (i + 1) = eiL (f k) (w k) (h k) x y i ||| ((f k (y * 32 + (x + nI i)).toNatClampNeg).toInt64 <<< (((8 : Int32) * (7 - nI i)).toInt64 &&& 63)) by rw [eiL, if_pos hb]] at k59
      exact k59
    · rw [if_neg hb]
      refine z_if_eq (tgt := 59) dT_eight_30 (by decide) (fun _ => ?_) (fun hc => absurd rfl hc)
      rw [show eiL (f k) (w k) (h k) x y (i + 1) = eiL (f k) (w k) (h k) x y i by rw [eiL, if_neg hb]] at k59
      exact k59
end
set_option maxRecDepth 100000 in
set_option maxHeartbeats 4000000 in
theorem c_eight (l : Launch) (hl9 : l.stackTraces = false) (D : va_G) (ca : Nat → ClassId) (ad : Nat → Nat) (sa : Nat → Nat) (f g : Nat → Nat → Int32) (w h : Nat → Nat) (hwh : okW w h) (n x y : Int32) : zXet l yT_eight wT_eight (rmk 7 1 6) 1 6 (zEx sa) (gG D ca ad) (twn ca f g w h) [.ref 0, .int n, .int x, .int y] (fun r aw => ∃ k : Nat, k < 4 ∧ n = nI k ∧ r = some (.long (eiL (f k) (w k) (h k) x y 8)) ∧ aw = twn ca f g w h) (fun E => E = IOB ∧ noP n) := by
  refine zXet.of (cc := cT_eight) (maxL := 8) (ret := (some .long)) (lv := [some (.ref 0), some (.int n), some (.int x), some (.int y), none, none, none, none]) (by decide) rfl (Nat.le_of_ble_eq_true rfl) rfl (fun M hl0 hR hC hS hE hX => ?_)
  refine z_aload_n dT_eight_0 rfl ?_
  refine z_iload_n dT_eight_1 rfl ?_
  refine zx_same (zx_V (C := RT) (b := 0) hE (zEok_ev _ _ _ _) (c_planeOf _ (by rw [hl0]; exact hl9) D ca ad sa f g _ _ n) dT_eight_2 (gd_V b_124 b_126 bs_8 b_1 b_127) rfl qT_planeOf ⟨rfl, rfl⟩ (by rw [hR]; decide) (by rw [hR, hC, hS]; decide) rfl (Nat.le_of_ble_eq_true rfl) rfl rfl) hX (fun E h => h) (by rw [hC, hS]; decide) (fun r aw1 hlen hr => ?_)
  obtain ⟨N, hN⟩ : ∃ N, N = zup M 1 6 := ⟨_, rfl⟩
  rw [← hN]
  replace hl0 := (by rw [hN, zup_l0]; exact hl0 : zl0 N = l)
  replace hR := (show zroom N = zroom M by rw [hN, zup_room]).trans hR
  replace hC := (by rw [hN, zup_cells, hC] : zcells N = 1)
  replace hS := (by rw [hN, zup_slots, hS] : zslots N = 6)
  replace hE := (by rw [hN]; exact zup_En hE : zEn N (zEx sa))
  replace hX := (by rw [hN]; exact zup_RetX hX : zRetX N _ _ _ _ _ _)
  clear hN
  obtain ⟨rfl, k, hk, rfl, rfl⟩ := hr
  simp only [zpush, zv]
  refine z_astore dT_eight_5 (by decide) rfl ?_
  try simp only [List.set_cons_succ, List.set_cons_zero]
  refine z_lconst (v := 0) dT_eight_7 (by decide) ?_
  refine z_lstore dT_eight_8 (by decide) rfl ?_
  try simp only [List.set_cons_succ, List.set_cons_zero]
  refine z_iconst (v := 0) dT_eight_10 (by decide) ?_
  refine z_istore dT_eight_11 (by decide) rfl ?_
  try simp only [List.set_cons_succ, List.set_cons_zero]
  refine l_eight hwh hk hR hC hS hE ?_ 8 0 (by omega)
  refine z_lload dT_eight_65 rfl ?_
  exact z_lreturn dT_eight_67 hX.ret (by rw [hC, hS]; decide) rfl ⟨k, hk, rfl, rfl, rfl⟩
def badE (w h : Nat) (p q : Int32) : Prop := p < nI w ∨ 32 < p ∨ q < nI h ∨ 32 < q
theorem geN {x : Int32} {n : Nat} (hn : n < 2 ^ 31) (h1 : ¬ x < nI n) (h2 : ¬ 32 < x) : ∃ a : Nat, x = nI a ∧ n ≤ a ∧ a ≤ 32 := by
  have h0 : ¬ x < 0 := fun q => h1 (by
    have := nI_toInt hn
    rw [Int32.lt_iff_toInt_lt] at q ⊢
    rw [show (0 : Int32).toInt = 0 by decide] at q
    omega)
  obtain ⟨a, ha, rfl⟩ := nI_of h0
  refine ⟨a, rfl, ?_, ?_⟩
  · rcases Nat.lt_or_ge a n with q | q
    · exact absurd (nI_lt q hn) h1
    · exact q
  · rcases Nat.lt_or_ge 32 a with q | q
    · exact absurd (nI_lt (a := 32) q ha) h2
    · exact q
set_option maxRecDepth 100000 in
set_option maxHeartbeats 4000000 in
theorem c_extend (l : Launch) (hl9 : l.stackTraces = false) (D : va_G) (ca : Nat → ClassId) (ad : Nat → Nat) (sa : Nat → Nat) (f g : Nat → Nat → Int32) (w h : Nat → Nat) (hwh : okW w h) (n p q : Int32) : zXet l yT_extend wT_extend (rmk 7 1 6) 1 6 (zEx sa) (gG D ca ad) (twn ca f g w h) [.ref 0, .int n, .int p, .int q] (fun r aw => ∃ k : Nat, k < 4 ∧ n = nI k ∧ ((badE (w k) (h k) p q ∧ r = some (.int 0) ∧ aw = twn ca f g w h) ∨ ∃ w2 h2 : Nat, ¬ badE (w k) (h k) p q ∧ p = nI w2 ∧ q = nI h2 ∧ w k ≤ w2 ∧ w2 ≤ 32 ∧ h k ≤ h2 ∧ h2 ≤ 32 ∧ r = some (.int 1) ∧ aw = twn ca (va_up f k (dpn (h k) h2 (wdn (w k) w2 (f k) (h k)) w2)) g (va_up w k w2) (va_up h k h2))) (fun E => E = IOB ∧ noP n) := by
  refine zXet.of (cc := cT_extend) (maxL := 5) (ret := (some .boolean)) (lv := [some (.ref 0), some (.int n), some (.int p), some (.int q), none]) (by decide) rfl (Nat.le_of_ble_eq_true rfl) rfl (fun M hl0 hR hC hS hE hX => ?_)
  refine z_aload_n dT_extend_0 rfl ?_
  refine z_iload_n dT_extend_1 rfl ?_
  refine zx_same (zx_V (C := RT) (b := 0) hE (zEok_ev _ _ _ _) (c_planeOf _ (by rw [hl0]; exact hl9) D ca ad sa f g _ _ n) dT_extend_2 (gd_V b_124 b_126 bs_8 b_1 b_127) rfl qT_planeOf ⟨rfl, rfl⟩ (by rw [hR]; decide) (by rw [hR, hC, hS]; decide) rfl (Nat.le_of_ble_eq_true rfl) rfl rfl) hX (fun E h => h) (by rw [hC, hS]; decide) (fun r aw1 hlen hr => ?_)
  obtain ⟨N, hN⟩ : ∃ N, N = zup M 1 6 := ⟨_, rfl⟩
  rw [← hN]
  replace hl0 := (by rw [hN, zup_l0]; exact hl0 : zl0 N = l)
  replace hR := (show zroom N = zroom M by rw [hN, zup_room]).trans hR
  replace hC := (by rw [hN, zup_cells, hC] : zcells N = 1)
  replace hS := (by rw [hN, zup_slots, hS] : zslots N = 6)
  replace hE := (by rw [hN]; exact zup_En hE : zEn N (zEx sa))
  replace hX := (by rw [hN]; exact zup_RetX hX : zRetX N _ _ _ _ _ _)
  clear hN
  obtain ⟨rfl, k, hk, rfl, rfl⟩ := hr
  simp only [zpush, zv]
  obtain ⟨hk1, hk2, hk3, hk4⟩ := hwh k hk
  refine z_astore dT_extend_5 (by decide) rfl ?_
  try simp only [List.set_cons_succ, List.set_cons_zero]
  have k37 : badE (w k) (h k) p q → Zj N (gG D ca ad) cT_extend 5 RT wT_extend (some .boolean) (twn ca f g w h) [some (.ref 0), some (.int (nI k)), some (.int p), some (.int q), some (.ref (2 + 3 * k))] [] 37 := fun hb => by
    refine z_iconst (v := 0) dT_extend_37 (by decide) ?_
    exact z_ireturn dT_extend_38 rfl hX.ret (by rw [hC, hS]; decide) rfl ⟨k, hk, rfl, Or.inl ⟨hb, rfl, rfl⟩⟩
  refine z_iload_n dT_extend_7 rfl ?_
  refine z_aload dT_extend_8 rfl ?_
  refine z_get (C := RP) (T := TP) (N := 4) (ref := "ToneMixer$Plane") 1 dT_extend_10 (tw_pl hk) rfl rfl (by decide) (fun w h => bwT (hbP w h)) (bwT b_30) rfl ?_
  refine z_icmp_lt (tgt := 37) dT_extend_13 (by decide) (fun c1 => k37 (Or.inl c1)) (fun c1 => ?_)
  refine z_iload_n dT_extend_16 rfl ?_
  refine z_bipush (v := 32) dT_extend_17 (by decide) ?_
  refine z_icmp_gt (tgt := 37) dT_extend_19 (by decide) (fun c2 => k37 (Or.inr (Or.inl c2))) (fun c2 => ?_)
  refine z_iload_n dT_extend_22 rfl ?_
  refine z_aload dT_extend_23 rfl ?_
  refine z_get (C := RP) (T := TP) (N := 4) (ref := "ToneMixer$Plane") 2 dT_extend_25 (tw_pl hk) rfl rfl (by decide) (fun w h => bwT (hbP w h)) (bwT b_32) rfl ?_
  refine z_icmp_lt (tgt := 37) dT_extend_28 (by decide) (fun c3 => k37 (Or.inr (Or.inr (Or.inl c3)))) (fun c3 => ?_)
  refine z_iload_n dT_extend_31 rfl ?_
  refine z_bipush (v := 32) dT_extend_32 (by decide) ?_
  refine z_icmp_le (tgt := 39) dT_extend_34 (by decide) (fun c4 => ?_) (fun c4 => k37 (Or.inr (Or.inr (Or.inr (Int32.not_le.mp c4)))))
  obtain ⟨w2, rfl, b1, b2⟩ := geN (by omega : w k < 2 ^ 31) c1 c2
  obtain ⟨h2, rfl, b3, b4⟩ := geN (by omega : h k < 2 ^ 31) c3 (Int32.not_lt.mpr c4)
  have hnb : ¬ badE (w k) (h k) (nI w2) (nI h2) := by
    rintro (q | q | q | q)
    · exact c1 q
    · exact c2 q
    · exact c3 q
    · exact Int32.not_lt.mpr c4 q
  refine z_aload dT_extend_39 rfl ?_
  refine z_iload_n dT_extend_41 rfl ?_
  refine z_part (plx k) (z_V (C := RP) (b := 0) hE (zEok_ev _ _ _ _) (c_widen _ D ca _ (f k) (g k) sa (w k) (h k) w2 hk1 hk3 hk2 hk4 b1 b2) dT_extend_42 (gd_V b_317 b_318 b_319 b_2 b_320) rfl qP_widen ⟨rfl, rfl⟩ (by rw [hR]; decide) (by rw [hR, hC, hS]; decide) rfl (Nat.le_of_ble_eq_true rfl) rfl rfl) (plx_nd k) (tw_in hk) (fun r aw1 hlen hr => ?_)
  obtain ⟨rfl, rfl⟩ := hr
  rw [tw_put hk, va_upk, va_upn, va_upn0]
  simp only [zpush]
  refine z_aload dT_extend_45 rfl ?_
  refine z_iload_n dT_extend_47 rfl ?_
  refine z_part (plx k) (z_V (C := RP) (b := 0) hE (zEok_ev _ _ _ _) (c_deepen _ D ca _ (wdn (w k) w2 (f k) (h k)) (g k) sa w2 (h k) h2 (by omega) hk3 b2 hk4 b3 b4) dT_extend_48 (gd_V b_321 b_322 b_323 b_2 b_324) rfl qP_deepen ⟨rfl, rfl⟩ (by rw [hR]; decide) (by rw [hR, hC, hS]; decide) rfl (Nat.le_of_ble_eq_true rfl) rfl rfl) (plx_nd k) (by have h9 := tw_in (ca := ca) (f := va_up f k (wdn (w k) w2 (f k) (h k))) (g := g) (w := fun j => nI (va_up w k w2 j)) (h := fun k => nI (h k)) hk; rw [va_up_self, va_up_self] at h9; exact h9) (fun r aw1 hlen hr => ?_)
  obtain ⟨rfl, rfl⟩ := hr
  rw [tw_put hk, bx_uu, va_upk, va_upn, va_upn, bx_uu]
  simp only [zpush]
  refine z_iconst (v := 1) dT_extend_51 (by decide) ?_
  exact z_ireturn dT_extend_52 rfl hX.ret (by rw [hC, hS]; decide) rfl ⟨k, hk, rfl, Or.inr ⟨w2, h2, hnb, rfl, rfl, b1, b2, b3, b4, rfl, rfl⟩⟩
