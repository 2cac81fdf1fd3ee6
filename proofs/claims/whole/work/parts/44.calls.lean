theorem inN {x : Int32} {n : Nat} (hn : n < 2 ^ 31) (h1 : ¬ x < 1) (h2 : ¬ nI n < x) : ∃ a : Nat, x = nI a ∧ 1 ≤ a ∧ a ≤ n := by
  have h0 : ¬ x < 0 := fun q => h1 (by rw [Int32.lt_iff_toInt_lt] at q ⊢; rw [show (0 : Int32).toInt = 0 by decide] at q; rw [show (1 : Int32).toInt = 1 by decide]; omega)
  obtain ⟨a, ha, rfl⟩ := nI_of h0
  refine ⟨a, rfl, ?_, ?_⟩
  · rcases Nat.eq_zero_or_pos a with q | q
    · subst q; exact absurd (by decide) h1
    · exact q
  · rcases Nat.lt_or_ge n a with q | q
    · exact absurd (nI_lt q ha) h2
    · exact q
theorem in32 {x : Int32} (h1 : ¬ x < 1) (h2 : ¬ 32 < x) : ∃ a : Nat, x = nI a ∧ 1 ≤ a ∧ a ≤ 32 := inN (n := 32) (by decide) h1 h2
theorem hasB_nI {a b w h : Nat} (ha : a < w) (hb : b < h) (hw : w < 2 ^ 31) (hh : h < 2 ^ 31) : hasB (nI w) (nI h) (nI a) (nI b) = true := by
  simp only [hasB, decide_eq_true_eq]
  exact ⟨nI_pos (by omega), nI_ge ha hw, nI_pos (by omega), nI_ge hb hh⟩
def badS (w h : Int32) : Prop := w < 1 ∨ 32 < w ∨ h < 1 ∨ 32 < h
set_option maxRecDepth 100000 in
set_option maxHeartbeats 4000000 in
theorem c_size (l : Launch) (hl9 : l.stackTraces = false) (D : va_G) (ca : Nat → ClassId) (ad : Nat → Nat) (sa : Nat → Nat) (f g : Nat → Nat → Int32) (w h : Nat → Nat) (hwh : okW w h) (n p q : Int32) : zXet l yT_size wT_size (rmk 7 2 12) 2 12 (zEx sa) (gG D ca ad) (twn ca f g w h) [.ref 0, .int n, .int p, .int q] (fun r aw => ∃ k w2 h2 : Nat, k < 4 ∧ n = nI k ∧ p = nI w2 ∧ q = nI h2 ∧ 1 ≤ w2 ∧ w2 ≤ 32 ∧ 1 ≤ h2 ∧ h2 ≤ 32 ∧ r = none ∧ aw = twn ca (va_up f k (fil 0 (f k) 1024)) g (va_up w k w2) (va_up h k h2)) (fun E => (E = IOB ∧ noP n) ∨ (E = IAE ∧ ¬ noP n ∧ badS p q)) := by
  refine zXet.of (cc := cT_size) (maxL := 5) (ret := none) (lv := [some (.ref 0), some (.int n), some (.int p), some (.int q), none]) (by decide) rfl (Nat.le_of_ble_eq_true rfl) rfl (fun M hl0 hR hC hS hE hX => ?_)
  refine z_aload_n dT_size_0 rfl ?_
  refine z_iload_n dT_size_1 rfl ?_
  refine zx_same (zx_V (C := RT) (b := 0) hE (zEok_ev _ _ _ _) (c_planeOf _ (by rw [hl0]; exact hl9) D ca ad sa f g _ _ n) dT_size_2 (gd_V b_124 b_126 bs_8 b_1 b_127) rfl qT_planeOf ⟨rfl, rfl⟩ (by rw [hR]; decide) (by rw [hR, hC, hS]; decide) rfl (Nat.le_of_ble_eq_true rfl) rfl rfl) hX (fun E h => Or.inl h) (by rw [hC, hS]; decide) (fun r aw1 hlen hr => ?_)
  obtain ⟨N, hN⟩ : ∃ N, N = zup M 1 6 := ⟨_, rfl⟩
  rw [← hN]
  replace hl0 := (by rw [hN, zup_l0]; exact hl0 : zl0 N = l)
  replace hR := (show zroom N = zroom M by rw [hN, zup_room]).trans hR
  replace hC := (by rw [hN, zup_cells, hC] : zcells N = 1)
  replace hS := (by rw [hN, zup_slots, hS] : zslots N = 6)
  replace hE := (by rw [hN]; exact zup_En hE : zEn N (zEx sa))
  replace hX := (by rw [hN]; exact zup_RetX hX : zRetX N _ _ _ _ _ _)
  clear hN
  obtain ⟨rfl, k, hk, rfl, rfl⟩ := hr
  simp only [zpush, zv]
  refine z_astore dT_size_5 (by decide) rfl ?_
  try simp only [List.set_cons_succ, List.set_cons_zero]
  have k29 : badS p q → Zj N (gG D ca ad) cT_size 5 RT wT_size none (twn ca f g w h) [some (.ref 0), some (.int (nI k)), some (.int p), some (.int q), some (.ref (2 + 3 * k))] [] 29 := fun hb => by
    exact z_throw (cls := IAE) (names := EXN) (text := "a side is not 1 .. 32") (sa := sa 0) (by rw [hl0]; exact hl9) hX hE (Or.inr ⟨rfl, noP_k hk, hb⟩) dT_size_29 dT_size_32 dT_size_33 dT_size_35 dT_size_38 (List.mem_of_getElem? (i := 0) rfl) af_A af_N (bwT b_195) (bwT b_8) (fun w h => bwT (at_A w h)) an_A ag_A (by rw [hR]; decide) (by rw [hR, hC, hS]; decide) (by rw [hC, hS]; decide)
  refine z_iload_n dT_size_7 rfl ?_
  refine z_iconst (v := 1) dT_size_8 (by decide) ?_
  refine z_icmp_lt (tgt := 29) dT_size_9 (by decide) (fun c1 => k29 (Or.inl c1)) (fun c1 => ?_)
  refine z_iload_n dT_size_12 rfl ?_
  refine z_bipush (v := 32) dT_size_13 (by decide) ?_
  refine z_icmp_gt (tgt := 29) dT_size_15 (by decide) (fun c2 => k29 (Or.inr (Or.inl c2))) (fun c2 => ?_)
  refine z_iload_n dT_size_18 rfl ?_
  refine z_iconst (v := 1) dT_size_19 (by decide) ?_
  refine z_icmp_lt (tgt := 29) dT_size_20 (by decide) (fun c3 => k29 (Or.inr (Or.inr (Or.inl c3)))) (fun c3 => ?_)
  refine z_iload_n dT_size_23 rfl ?_
  refine z_bipush (v := 32) dT_size_24 (by decide) ?_
  refine z_icmp_le (tgt := 39) dT_size_26 (by decide) (fun c4 => ?_) (fun c4 => k29 (Or.inr (Or.inr (Or.inr (Int32.not_le.mp c4)))))
  obtain ⟨w2, rfl, b1, b2⟩ := in32 c1 c2
  obtain ⟨h2, rfl, b3, b4⟩ := in32 c3 (Int32.not_lt.mpr c4)
  refine z_aload dT_size_39 rfl ?_
  refine z_iload_n dT_size_41 rfl ?_
  refine z_iload_n dT_size_42 rfl ?_
  refine z_part (plx k) (z_V (C := RP) (b := 0) hE zEok_0 (c_empty _ D ca _ (f k) (g k) (nI (w k)) (nI (h k)) (nI w2) (nI h2)) dT_size_43 (gd_V b_211 b_212 b_213 b_2 b_214) rfl qP_empty ⟨rfl, rfl⟩ (by rw [hR]; decide) (by rw [hR, hC, hS]; decide) rfl (Nat.le_of_ble_eq_true rfl) rfl rfl) (plx_nd k) (tw_in hk) (fun r aw1 hlen hr => ?_)
  obtain ⟨rfl, rfl⟩ := hr
  rw [tw_put hk, va_upk, va_upn, va_upn]
  simp only [zpush]
  exact z_return dT_size_46 hX.ret (by rw [hC, hS]; decide) rfl ⟨k, w2, h2, hk, rfl, rfl, rfl, b1, b2, b3, b4, rfl, rfl⟩
set_option maxRecDepth 100000 in
set_option maxHeartbeats 4000000 in
theorem c_put (l : Launch) (hl9 : l.stackTraces = false) (D : va_G) (ca : Nat → ClassId) (ad : Nat → Nat) (sa : Nat → Nat) (f g : Nat → Nat → Int32) (w h : Nat → Nat) (hwh : okW w h) (n x y v : Int32) : zXet l yT_put wT_put (rmk 8 3 18) 3 18 (zEx sa) (gG D ca ad) (twn ca f g w h) [.ref 0, .int n, .int x, .int y, .int v] (fun r aw => ∃ k a b c : Nat, k < 4 ∧ n = nI k ∧ a < w k ∧ b < h k ∧ x = nI a ∧ y = nI b ∧ v = nI c ∧ c ≤ 255 ∧ r = none ∧ aw = twn ca (va_up f k (upd (f k) (b * 32 + a) v)) g w h) (fun E => (E = IOB ∧ (noP n ∨ ∃ k : Nat, k < 4 ∧ n = nI k ∧ hasB (nI (w k)) (nI (h k)) x y = false)) ∨ (E = IAE ∧ ¬ (noP n ∨ ∃ k : Nat, k < 4 ∧ n = nI k ∧ hasB (nI (w k)) (nI (h k)) x y = false) ∧ (v < 0 ∨ 255 < v))) := by
  refine zXet.of (cc := cT_put) (maxL := 6) (ret := none) (lv := [some (.ref 0), some (.int n), some (.int x), some (.int y), some (.int v), none]) (by decide) rfl (Nat.le_of_ble_eq_true rfl) rfl (fun M hl0 hR hC hS hE hX => ?_)
  refine z_aload_n dT_put_0 rfl ?_
  refine z_iload_n dT_put_1 rfl ?_
  refine z_iload_n dT_put_2 rfl ?_
  refine z_iload_n dT_put_3 rfl ?_
  refine zx_same (zx_V (C := RT) (b := 0) hE (zEok_ev _ _ _ _) (c_planeWith _ (by rw [hl0]; exact hl9) D ca ad sa f g w h hwh n x y) dT_put_4 (gd_V b_225 b_227 bs_10 b_1 b_228) rfl qT_planeWith ⟨rfl, rfl⟩ (by rw [hR]; decide) (by rw [hR, hC, hS]; decide) rfl (Nat.le_of_ble_eq_true rfl) rfl rfl) hX (fun E h => Or.inl h) (by rw [hC, hS]; decide) (fun r aw1 hlen hr => ?_)
  obtain ⟨N, hN⟩ : ∃ N, N = zup M 2 12 := ⟨_, rfl⟩
  rw [← hN]
  replace hl0 := (by rw [hN, zup_l0]; exact hl0 : zl0 N = l)
  replace hR := (show zroom N = zroom M by rw [hN, zup_room]).trans hR
  replace hC := (by rw [hN, zup_cells, hC] : zcells N = 2)
  replace hS := (by rw [hN, zup_slots, hS] : zslots N = 12)
  replace hE := (by rw [hN]; exact zup_En hE : zEn N (zEx sa))
  replace hX := (by rw [hN]; exact zup_RetX hX : zRetX N _ _ _ _ _ _)
  clear hN
  obtain ⟨rfl, k, a, b, hk, rfl, ha, hb, rfl, rfl, rfl⟩ := hr
  simp only [zpush, zv]
  obtain ⟨hk1, hk2, hk3, hk4⟩ := hwh k hk
  refine z_astore dT_put_7 (by decide) rfl ?_
  try simp only [List.set_cons_succ, List.set_cons_zero]
  have hno : ¬ (noP (nI k) ∨ ∃ k' : Nat, k' < 4 ∧ nI k = nI k' ∧ hasB (nI (w k')) (nI (h k')) (nI a) (nI b) = false) := by
    rintro (q | ⟨k', hk', e1, e2⟩)
    · exact noP_k hk q
    · obtain rfl : k = k' := (nI_eq (by omega) (by omega)).mp e1
      rw [hasB_nI ha hb (by omega) (by omega)] at e2
      cases e2
  have k22 : (v < 0 ∨ 255 < v) → Zj N (gG D ca ad) cT_put 6 RT wT_put none (twn ca f g w h) [some (.ref 0), some (.int (nI k)), some (.int (nI a)), some (.int (nI b)), some (.int v), some (.ref (2 + 3 * k))] [] 22 := fun hv => by
    exact z_throw (cls := IAE) (names := EXN) (text := "a sample is not 0 .. 255") (sa := sa 1) (by rw [hl0]; exact hl9) hX hE (Or.inr ⟨rfl, hno, hv⟩) dT_put_22 dT_put_25 dT_put_26 dT_put_28 dT_put_31 (List.mem_of_getElem? (i := 1) rfl) af_A af_N (bwT b_195) (bwT b_8) (fun w h => bwT (at_A w h)) an_A ag_A (by rw [hR]; decide) (by rw [hR, hC, hS]; decide) (by rw [hC, hS]; decide)
  refine z_iload dT_put_9 rfl ?_
  refine z_if_lt (tgt := 22) dT_put_11 (by decide) (fun c1 => k22 (Or.inl c1)) (fun c1 => ?_)
  refine z_iload dT_put_14 rfl ?_
  refine z_sipush (v := 255) dT_put_16 (by decide) ?_
  refine z_icmp_le (tgt := 32) dT_put_19 (by decide) (fun c2 => ?_) (fun c2 => k22 (Or.inr (Int32.not_le.mp c2)))
  obtain ⟨c, hc, rfl⟩ := nI_of2 (M := 255) (n := 255) (by decide) c1 c2
  refine z_aload dT_put_32 rfl ?_
  refine z_get (C := RP) (T := TP) (N := 4) (ref := "ToneMixer$Plane") 0 dT_put_34 (tw_pl hk) rfl rfl (by decide) (fun w h => bwT (hbP w h)) (bwT b_28) rfl ?_
  refine z_iload_n dT_put_37 rfl ?_
  refine z_iload_n dT_put_38 rfl ?_
  refine z_pure (z_S hE zEok_0 (c_placeOf _ _ _ _) dT_put_39 (gd_S b_60 b_61 b_1 b_62) rfl qT_placeOf.2 ⟨rfl, rfl⟩ (by rw [hR]; decide) (by rw [hR, hC, hS]; decide) rfl (Nat.le_of_ble_eq_true rfl)) (fun r hr => ?_)
  subst hr
  simp only [zpush, zv]
  rw [z_pl]
  refine z_iload dT_put_42 rfl ?_
  refine z_iastN (t0 := 0) (k := b * 32 + a) dT_put_44 (tw_sm hk) rfl (rfl) (by omega) (by decide) ?_
  rw [tw_setf hk]
  exact z_return dT_put_45 hX.ret (by rw [hC, hS]; decide) rfl ⟨k, a, b, c, hk, rfl, ha, hb, rfl, rfl, rfl, hc, rfl, rfl⟩
set_option maxRecDepth 100000 in
set_option maxHeartbeats 4000000 in
theorem c_at (l : Launch) (hl9 : l.stackTraces = false) (D : va_G) (ca : Nat → ClassId) (ad : Nat → Nat) (sa : Nat → Nat) (f g : Nat → Nat → Int32) (w h : Nat → Nat) (hwh : okW w h) (n x y : Int32) : zXet l yT_at wT_at (rmk 8 2 12) 2 12 (zEx sa) (gG D ca ad) (twn ca f g w h) [.ref 0, .int n, .int x, .int y] (fun r aw => ∃ k a b : Nat, k < 4 ∧ n = nI k ∧ a < w k ∧ b < h k ∧ x = nI a ∧ y = nI b ∧ r = some (.int (f k (b * 32 + a))) ∧ aw = twn ca f g w h) (fun E => E = IOB ∧ (noP n ∨ ∃ k : Nat, k < 4 ∧ n = nI k ∧ hasB (nI (w k)) (nI (h k)) x y = false)) := by
  refine zXet.of (cc := cT_at) (maxL := 4) (ret := some .int) (lv := [some (.ref 0), some (.int n), some (.int x), some (.int y)]) (by decide) rfl (Nat.le_of_ble_eq_true rfl) rfl (fun M hl0 hR hC hS hE hX => ?_)
  refine z_aload_n dT_at_0 rfl ?_
  refine z_iload_n dT_at_1 rfl ?_
  refine z_iload_n dT_at_2 rfl ?_
  refine z_iload_n dT_at_3 rfl ?_
  refine zx_same (zx_V (C := RT) (b := 0) hE (zEok_ev _ _ _ _) (c_planeWith _ (by rw [hl0]; exact hl9) D ca ad sa f g w h hwh n x y) dT_at_4 (gd_V b_225 b_227 bs_10 b_1 b_228) rfl qT_planeWith ⟨rfl, rfl⟩ (by rw [hR]; decide) (by rw [hR, hC, hS]; decide) rfl (Nat.le_of_ble_eq_true rfl) rfl rfl) hX (fun E h => h) (by rw [hC, hS]; decide) (fun r aw1 hlen hr => ?_)
  obtain ⟨N, hN⟩ : ∃ N, N = zup M 2 12 := ⟨_, rfl⟩
  rw [← hN]
  replace hl0 := (by rw [hN, zup_l0]; exact hl0 : zl0 N = l)
  replace hR := (show zroom N = zroom M by rw [hN, zup_room]).trans hR
  replace hC := (by rw [hN, zup_cells, hC] : zcells N = 2)
  replace hS := (by rw [hN, zup_slots, hS] : zslots N = 12)
  replace hE := (by rw [hN]; exact zup_En hE : zEn N (zEx sa))
  replace hX := (by rw [hN]; exact zup_RetX hX : zRetX N _ _ _ _ _ _)
  clear hN
  obtain ⟨rfl, k, a, b, hk, rfl, ha, hb, rfl, rfl, rfl⟩ := hr
  simp only [zpush, zv]
  obtain ⟨hk1, hk2, hk3, hk4⟩ := hwh k hk
  refine z_get (C := RP) (T := TP) (N := 4) (ref := "ToneMixer$Plane") 0 dT_at_7 (tw_pl hk) rfl rfl (by decide) (fun w h => bwT (hbP w h)) (bwT b_28) rfl ?_
  refine z_iload_n dT_at_10 rfl ?_
  refine z_iload_n dT_at_11 rfl ?_
  refine z_pure (z_S hE zEok_0 (c_placeOf _ _ _ _) dT_at_12 (gd_S b_60 b_61 b_1 b_62) rfl qT_placeOf.2 ⟨rfl, rfl⟩ (by rw [hR]; decide) (by rw [hR, hC, hS]; decide) rfl (Nat.le_of_ble_eq_true rfl)) (fun r hr => ?_)
  subst hr
  simp only [zpush, zv]
  rw [z_pl]
  refine z_ialdN (t0 := 0) (k := b * 32 + a) dT_at_15 (tw_sm hk) rfl (rfl) (by omega) (by decide) ?_
  exact z_ireturn dT_at_16 rfl hX.ret (by rw [hC, hS]; decide) rfl ⟨k, a, b, hk, rfl, ha, hb, rfl, rfl, rfl, rfl⟩
def badC (w h : Nat) (p q : Int32) : Prop := p < 1 ∨ nI w < p ∨ q < 1 ∨ nI h < q
set_option maxRecDepth 100000 in
set_option maxHeartbeats 4000000 in
theorem c_cut (l : Launch) (hl9 : l.stackTraces = false) (D : va_G) (ca : Nat → ClassId) (ad : Nat → Nat) (sa : Nat → Nat) (f g : Nat → Nat → Int32) (w h : Nat → Nat) (hwh : okW w h) (n p q : Int32) : zXet l yT_cut wT_cut (rmk 7 1 6) 1 6 (zEx sa) (gG D ca ad) (twn ca f g w h) [.ref 0, .int n, .int p, .int q] (fun r aw => ∃ k : Nat, k < 4 ∧ n = nI k ∧ ((badC (w k) (h k) p q ∧ r = some (.int 0) ∧ aw = twn ca f g w h) ∨ ∃ w2 h2 : Nat, ¬ badC (w k) (h k) p q ∧ p = nI w2 ∧ q = nI h2 ∧ 1 ≤ w2 ∧ w2 ≤ w k ∧ 1 ≤ h2 ∧ h2 ≤ h k ∧ r = some (.int 1) ∧ aw = twn ca f g (va_up w k w2) (va_up h k h2))) (fun E => E = IOB ∧ noP n) := by
  refine zXet.of (cc := cT_cut) (maxL := 5) (ret := some .boolean) (lv := [some (.ref 0), some (.int n), some (.int p), some (.int q), none]) (by decide) rfl (Nat.le_of_ble_eq_true rfl) rfl (fun M hl0 hR hC hS hE hX => ?_)
  refine z_aload_n dT_cut_0 rfl ?_
  refine z_iload_n dT_cut_1 rfl ?_
  refine zx_same (zx_V (C := RT) (b := 0) hE (zEok_ev _ _ _ _) (c_planeOf _ (by rw [hl0]; exact hl9) D ca ad sa f g _ _ n) dT_cut_2 (gd_V b_124 b_126 bs_8 b_1 b_127) rfl qT_planeOf ⟨rfl, rfl⟩ (by rw [hR]; decide) (by rw [hR, hC, hS]; decide) rfl (Nat.le_of_ble_eq_true rfl) rfl rfl) hX (fun E h => h) (by rw [hC, hS]; decide) (fun r aw1 hlen hr => ?_)
  obtain ⟨N, hN⟩ : ∃ N, N = zup M 1 6 := ⟨_, rfl⟩
  rw [← hN]
  replace hl0 := (by rw [hN, zup_l0]; exact hl0 : zl0 N = l)
  replace hR := (show zroom N = zroom M by rw [hN, zup_room]).trans hR
  replace hC := (by rw [hN, zup_cells, hC] : zcells N = 1)
  replace hS := (by rw [hN, zup_slots, hS] : zslots N = 6)
  replace hE := (by rw [hN]; exact zup_En hE : zEn N (zEx sa))
  replace hX := (by rw [hN]; exact zup_RetX hX : zRetX N _ _ _ _ _ _)
  clear hN
  obtain ⟨rfl, k, hk, rfl, rfl⟩ := hr
  simp only [zpush, zv]
  obtain ⟨hk1, hk2, hk3, hk4⟩ := hwh k hk
  refine z_astore dT_cut_5 (by decide) rfl ?_
  try simp only [List.set_cons_succ, List.set_cons_zero]
  have k35 : badC (w k) (h k) p q → Zj N (gG D ca ad) cT_cut 5 RT wT_cut (some .boolean) (twn ca f g w h) [some (.ref 0), some (.int (nI k)), some (.int p), some (.int q), some (.ref (2 + 3 * k))] [] 35 := fun hb => by
    refine z_iconst (v := 0) dT_cut_35 (by decide) ?_
    exact z_ireturn dT_cut_36 rfl hX.ret (by rw [hC, hS]; decide) rfl ⟨k, hk, rfl, Or.inl ⟨hb, rfl, rfl⟩⟩
  refine z_iload_n dT_cut_7 rfl ?_
  refine z_iconst (v := 1) dT_cut_8 (by decide) ?_
  refine z_icmp_lt (tgt := 35) dT_cut_9 (by decide) (fun c1 => k35 (Or.inl c1)) (fun c1 => ?_)
  refine z_iload_n dT_cut_12 rfl ?_
  refine z_aload dT_cut_13 rfl ?_
  refine z_get (C := RP) (T := TP) (N := 4) (ref := "ToneMixer$Plane") 1 dT_cut_15 (tw_pl hk) rfl rfl (by decide) (fun w h => bwT (hbP w h)) (bwT b_30) rfl ?_
  refine z_icmp_gt (tgt := 35) dT_cut_18 (by decide) (fun c2 => k35 (Or.inr (Or.inl c2))) (fun c2 => ?_)
  refine z_iload_n dT_cut_21 rfl ?_
  refine z_iconst (v := 1) dT_cut_22 (by decide) ?_
  refine z_icmp_lt (tgt := 35) dT_cut_23 (by decide) (fun c3 => k35 (Or.inr (Or.inr (Or.inl c3)))) (fun c3 => ?_)
  refine z_iload_n dT_cut_26 rfl ?_
  refine z_aload dT_cut_27 rfl ?_
  refine z_get (C := RP) (T := TP) (N := 4) (ref := "ToneMixer$Plane") 2 dT_cut_29 (tw_pl hk) rfl rfl (by decide) (fun w h => bwT (hbP w h)) (bwT b_32) rfl ?_
  refine z_icmp_le (tgt := 37) dT_cut_32 (by decide) (fun c4 => ?_) (fun c4 => k35 (Or.inr (Or.inr (Or.inr (Int32.not_le.mp c4)))))
  obtain ⟨w2, rfl, b1, b2⟩ := inN (by omega : w k < 2 ^ 31) c1 c2
  obtain ⟨h2, rfl, b3, b4⟩ := inN (by omega : h k < 2 ^ 31) c3 (Int32.not_lt.mpr c4)
  have hnb : ¬ badC (w k) (h k) (nI w2) (nI h2) := by
    rintro (q | q | q | q)
    · exact c1 q
    · exact c2 q
    · exact c3 q
    · exact Int32.not_lt.mpr c4 q
  refine z_aload dT_cut_37 rfl ?_
  refine z_iload_n dT_cut_39 rfl ?_
  refine z_put (C := RP) (T := TP) (N := 4) (ref := "ToneMixer$Plane") (ty := .int) 1 tyP dT_cut_40 (tw_pl hk) rfl (by decide) (fun w h => bwT (hbP w h)) (bwT b_30) rfl tyP_ok nmP rfl (by decide +kernel) (fun _ => ⟨rfl, rfl⟩) (Nat.le_of_ble_eq_true rfl) ?_
  rw [show ([Value.ref (3 + 3 * k), .int (nI (w k)), .int (nI (h k)), .ref (4 + 3 * k)].set 1 (.int (nI w2))) = [.ref (3 + 3 * k), .int (nI w2), .int (nI (h k)), .ref (4 + 3 * k)] from rfl, tw_setp hk, va_upn, va_upn0]
  refine z_aload dT_cut_43 rfl ?_
  refine z_iload_n dT_cut_45 rfl ?_
  refine z_put (C := RP) (T := TP) (N := 4) (ref := "ToneMixer$Plane") (ty := .int) 2 tyP dT_cut_46 (tw_pl (w := fun j => nI (va_up w k w2 j)) hk) rfl (by decide) (fun w h => bwT (hbP w h)) (bwT b_32) rfl tyP_ok nmP rfl (by decide +kernel) (fun _ => ⟨rfl, rfl⟩) (Nat.le_of_ble_eq_true rfl) ?_
  rw [show ([Value.ref (3 + 3 * k), .int (nI (va_up w k w2 k)), .int (nI (h k)), .ref (4 + 3 * k)].set 2 (.int (nI h2))) = [.ref (3 + 3 * k), .int (nI (va_up w k w2 k)), .int (nI h2), .ref (4 + 3 * k)] from rfl, tw_setp (w := fun j => nI (va_up w k w2 j)) hk, va_upn0 (va_up w k w2) k, va_upn]
  refine z_iconst (v := 1) dT_cut_49 (by decide) ?_
  exact z_ireturn dT_cut_50 rfl hX.ret (by rw [hC, hS]; decide) rfl ⟨k, hk, rfl, Or.inr ⟨w2, h2, hnb, rfl, rfl, b1, b2, b3, b4, rfl, rfl⟩⟩
