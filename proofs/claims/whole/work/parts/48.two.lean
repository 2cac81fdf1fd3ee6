section
variable {ca : Nat → ClassId} {f g : Nat → Nat → Int32} {w h : Nat → Int32} {i j : Nat}
theorem tw_in6 (hi : i < 4) (hj : j < 4) (hij : i ≠ j) : (plx i ++ plx j).map (fun q => (tw ca f g w h)[q]?) = (pw6 ca (f i) (g i) (f j) (g j) (w i) (h i) (w j) (h j)).map (fun e => some (zc (zix (plx i ++ plx j)) e)) := by
  rcases k4 hi with rfl | rfl | rfl | rfl <;> rcases k4 hj with rfl | rfl | rfl | rfl <;> first | exact absurd rfl hij | rfl
theorem plx2_nd (hi : i < 4) (hj : j < 4) (hij : i ≠ j) : (plx i ++ plx j).Nodup := by
  rcases k4 hi with rfl | rfl | rfl | rfl <;> rcases k4 hj with rfl | rfl | rfl | rfl <;> first | exact absurd rfl hij | decide
theorem tw_put6 (hi : i < 4) (hj : j < 4) (hij : i ≠ j) (f1 g1 f2 g2 : Nat → Int32) (w1 h1 w2 h2 : Int32) : zput (zix (plx i ++ plx j)) (plx i ++ plx j) (tw ca f g w h) (pw6 ca f1 g1 f2 g2 w1 h1 w2 h2) = tw ca (va_up (va_up f i f1) j f2) (va_up (va_up g i g1) j g2) (va_up (va_up w i w1) j w2) (va_up (va_up h i h1) j h2) := by
  rcases k4 hi with rfl | rfl | rfl | rfl <;> rcases k4 hj with rfl | rfl | rfl | rfl <;> first | exact absurd rfl hij | rfl
end
theorem va_upo {α : Type} (f : Nat → α) {i j : Nat} (x : α) (h : i ≠ j) : va_up (va_up f i x) j (f j) = va_up f i x := by
  funext q; unfold va_up
  by_cases h1 : q = j
  · subst h1; rw [if_pos rfl, if_neg (Ne.symm h)]
  · rw [if_neg h1]
set_option maxRecDepth 100000 in
set_option maxHeartbeats 4000000 in
theorem c_copy (l : Launch) (hl9 : l.stackTraces = false) (D : va_G) (ca : Nat → ClassId) (ad : Nat → Nat) (sa : Nat → Nat) (f g : Nat → Nat → Int32) (w h : Nat → Nat) (hwh : okW w h) (n m : Int32) : zXet l yT_copy wT_copy (rmk 7 2 12) 2 12 (zEx sa) (gG D ca ad) (twn ca f g w h) [.ref 0, .int n, .int m] (fun r aw => ∃ k k2 : Nat, k < 4 ∧ k2 < 4 ∧ n = nI k ∧ m = nI k2 ∧ r = none ∧ aw = twn ca (va_up f k2 (va_cpy (f k) (f k2) 0 0 1024)) g (va_up w k2 (w k)) (va_up h k2 (h k))) (fun E => E = IOB ∧ (noP n ∨ noP m)) := by
  refine zXet.of (cc := cT_copy) (maxL := 5) (ret := none) (lv := [some (.ref 0), some (.int n), some (.int m), none, none]) (by decide) rfl (Nat.le_of_ble_eq_true rfl) rfl (fun M hl0 hR hC hS hE hX => ?_)
  refine z_aload_n dT_copy_0 rfl ?_
  refine z_iload_n dT_copy_1 rfl ?_
  refine zx_same (zx_V (C := RT) (b := 0) hE (zEok_ev _ _ _ _) (c_planeOf _ (by rw [hl0]; exact hl9) D ca ad sa f g _ _ n) dT_copy_2 (gd_V b_124 b_126 bs_8 b_1 b_127) rfl qT_planeOf ⟨rfl, rfl⟩ (by rw [hR]; decide) (by rw [hR, hC, hS]; decide) rfl (Nat.le_of_ble_eq_true rfl) rfl rfl) hX (fun E h => ⟨h.1, Or.inl h.2⟩) (by rw [hC, hS]; decide) (fun r aw1 hlen hr => ?_)
  obtain ⟨N, hN⟩ : ∃ N, N = zup M 1 6 := ⟨_, rfl⟩
  rw [← hN]
  replace hl0 := (by rw [hN, zup_l0]; exact hl0 : zl0 N = l)
  replace hR := (show zroom N = zroom M by rw [hN, zup_room]).trans hR
  replace hC := (by rw [hN, zup_cells, hC] : zcells N = 1)
  replace hS := (by rw [hN, zup_slots, hS] : zslots N = 6)
  replace hE := (by rw [hN]; exact zup_En hE : zEn N (zEx sa))
  replace hX := (by rw [hN]; exact zup_RetX hX : zRetX N _ _ _ _ _ _)
  clear hN
  obtain ⟨rfl, k, hk, rfl, rfl⟩ := hr
  simp only [zpush, zv]
  refine z_astore_n dT_copy_5 (by decide) rfl ?_
  try simp only [List.set_cons_succ, List.set_cons_zero]
  refine z_aload_n dT_copy_6 rfl ?_
  refine z_iload_n dT_copy_7 rfl ?_
  refine zx_same (zx_V (C := RT) (b := 0) hE (zEok_ev _ _ _ _) (c_planeOf _ (by rw [hl0]; exact hl9) D ca ad sa f g _ _ m) dT_copy_8 (gd_V b_124 b_126 bs_8 b_1 b_127) rfl qT_planeOf ⟨rfl, rfl⟩ (by rw [hR]; decide) (by rw [hR, hC, hS]; decide) rfl (Nat.le_of_ble_eq_true rfl) rfl rfl) hX (fun E h => ⟨h.1, Or.inr h.2⟩) (by rw [hC, hS]; decide) (fun r aw1 hlen hr => ?_)
  obtain ⟨N2, hN⟩ : ∃ N2, N2 = zup N 1 6 := ⟨_, rfl⟩
  rw [← hN]
  replace hl0 := (by rw [hN, zup_l0]; exact hl0 : zl0 N2 = l)
  replace hR := (show zroom N2 = zroom N by rw [hN, zup_room]).trans hR
  replace hC := (by rw [hN, zup_cells, hC] : zcells N2 = 2)
  replace hS := (by rw [hN, zup_slots, hS] : zslots N2 = 12)
  replace hE := (by rw [hN]; exact zup_En hE : zEn N2 (zEx sa))
  replace hX := (by rw [hN]; exact zup_RetX hX : zRetX N2 _ _ _ _ _ _)
  clear hN
  obtain ⟨rfl, k2, hk2, rfl, rfl⟩ := hr
  simp only [zpush, zv]
  refine z_astore dT_copy_11 (by decide) rfl ?_
  try simp only [List.set_cons_succ, List.set_cons_zero]
  refine z_aload dT_copy_13 rfl ?_
  refine z_aload_n dT_copy_15 rfl ?_
  by_cases hkk : k2 = k
  · have hkk' := hkk.symm
    subst hkk'
    refine z_part (plx k) (z_V (C := RP) (b := 0) hE zEok_0 (c_becomeLike_self _ D ca _ (f k) (g k) (nI (w k)) (nI (h k))) dT_copy_16 (gd_V b_303 b_304 b_305 b_2 b_306) rfl qP_becomeLike ⟨rfl, rfl⟩ (by rw [hR]; decide) (by rw [hR, hC, hS]; decide) rfl (Nat.le_of_ble_eq_true rfl) rfl rfl) (plx_nd k) (tw_in hk) (fun r aw1 hlen hr => ?_)
    obtain ⟨rfl, rfl⟩ := hr
    rw [tw_put hk, va_upk, va_upk, va_upk]
    simp only [zpush]
    exact z_return dT_copy_19 hX.ret (by rw [hC, hS]; decide) rfl ⟨k, k, hk, hk, rfl, rfl, rfl, by rw [va_upk, va_upk]⟩
  · refine z_part (plx k2 ++ plx k) (z_V (C := RP) (b := 0) hE zEok_0 (c_becomeLike _ D ca _ (f k2) (g k2) (nI (w k2)) (nI (h k2)) (f k) (g k) (nI (w k)) (nI (h k))) dT_copy_16 (gd_V b_303 b_304 b_305 b_2 b_306) rfl qP_becomeLike ⟨rfl, rfl⟩ (by rw [hR]; decide) (by rw [hR, hC, hS]; decide) rfl (Nat.le_of_ble_eq_true rfl) rfl rfl) (plx2_nd hk2 hk hkk) (tw_in6 hk2 hk hkk) (fun r aw1 hlen hr => ?_)
    obtain ⟨rfl, rfl⟩ := hr
    rw [tw_put6 hk2 hk hkk, va_upk, va_upk, va_upo f _ hkk, va_upo (fun k => nI (w k)) _ hkk, va_upo (fun k => nI (h k)) _ hkk, va_upn, va_upn]
    simp only [zpush]
    exact z_return dT_copy_19 hX.ret (by rw [hC, hS]; decide) rfl ⟨k, k2, hk, hk2, rfl, rfl, rfl, rfl⟩
set_option maxRecDepth 100000 in
set_option maxHeartbeats 4000000 in
theorem c_apart (l : Launch) (hl9 : l.stackTraces = false) (D : va_G) (ca : Nat → ClassId) (ad : Nat → Nat) (sa : Nat → Nat) (f g : Nat → Nat → Int32) (w h : Nat → Nat) (hwh : okW w h) (n m : Int32) : zXet l yT_apart wT_apart (rmk 7 2 12) 2 12 (zEx sa) (gG D ca ad) (twn ca f g w h) [.ref 0, .int n, .int m] (fun r aw => ∃ k k2 : Nat, k < 4 ∧ k2 < 4 ∧ n = nI k ∧ m = nI k2 ∧ aw = twn ca f g w h ∧ r = some (.int (if w k = w k2 ∧ h k = h k2 then allF (fun a b => if a < b then b else a) (fun j => zab (f k j - f k2 j)) (w k) (h k) 0 else -1))) (fun E => E = IOB ∧ (noP n ∨ noP m)) := by
  refine zXet.of (cc := cT_apart) (maxL := 5) (ret := (some .int)) (lv := [some (.ref 0), some (.int n), some (.int m), none, none]) (by decide) rfl (Nat.le_of_ble_eq_true rfl) rfl (fun M hl0 hR hC hS hE hX => ?_)
  refine z_aload_n dT_apart_0 rfl ?_
  refine z_iload_n dT_apart_1 rfl ?_
  refine zx_same (zx_V (C := RT) (b := 0) hE (zEok_ev _ _ _ _) (c_planeOf _ (by rw [hl0]; exact hl9) D ca ad sa f g _ _ n) dT_apart_2 (gd_V b_124 b_126 bs_8 b_1 b_127) rfl qT_planeOf ⟨rfl, rfl⟩ (by rw [hR]; decide) (by rw [hR, hC, hS]; decide) rfl (Nat.le_of_ble_eq_true rfl) rfl rfl) hX (fun E h => ⟨h.1, Or.inl h.2⟩) (by rw [hC, hS]; decide) (fun r aw1 hlen hr => ?_)
  obtain ⟨N, hN⟩ : ∃ N, N = zup M 1 6 := ⟨_, rfl⟩
  rw [← hN]
  replace hl0 := (by rw [hN, zup_l0]; exact hl0 : zl0 N = l)
  replace hR := (show zroom N = zroom M by rw [hN, zup_room]).trans hR
  replace hC := (by rw [hN, zup_cells, hC] : zcells N = 1)
  replace hS := (by rw [hN, zup_slots, hS] : zslots N = 6)
  replace hE := (by rw [hN]; exact zup_En hE : zEn N (zEx sa))
  replace hX := (by rw [hN]; exact zup_RetX hX : zRetX N _ _ _ _ _ _)
  clear hN
  obtain ⟨rfl, k, hk, rfl, rfl⟩ := hr
  simp only [zpush, zv]
  refine z_astore_n dT_apart_5 (by decide) rfl ?_
  try simp only [List.set_cons_succ, List.set_cons_zero]
  refine z_aload_n dT_apart_6 rfl ?_
  refine z_iload_n dT_apart_7 rfl ?_
  refine zx_same (zx_V (C := RT) (b := 0) hE (zEok_ev _ _ _ _) (c_planeOf _ (by rw [hl0]; exact hl9) D ca ad sa f g _ _ m) dT_apart_8 (gd_V b_124 b_126 bs_8 b_1 b_127) rfl qT_planeOf ⟨rfl, rfl⟩ (by rw [hR]; decide) (by rw [hR, hC, hS]; decide) rfl (Nat.le_of_ble_eq_true rfl) rfl rfl) hX (fun E h => ⟨h.1, Or.inr h.2⟩) (by rw [hC, hS]; decide) (fun r aw1 hlen hr => ?_)
  obtain ⟨N2, hN⟩ : ∃ N2, N2 = zup N 1 6 := ⟨_, rfl⟩
  rw [← hN]
  replace hl0 := (by rw [hN, zup_l0]; exact hl0 : zl0 N2 = l)
  replace hR := (show zroom N2 = zroom N by rw [hN, zup_room]).trans hR
  replace hC := (by rw [hN, zup_cells, hC] : zcells N2 = 2)
  replace hS := (by rw [hN, zup_slots, hS] : zslots N2 = 12)
  replace hE := (by rw [hN]; exact zup_En hE : zEn N2 (zEx sa))
  replace hX := (by rw [hN]; exact zup_RetX hX : zRetX N2 _ _ _ _ _ _)
  clear hN
  obtain ⟨rfl, k2, hk2, rfl, rfl⟩ := hr
  simp only [zpush, zv]
  obtain ⟨hw1, hw2, hw3, hw4⟩ := hwh k hk
  obtain ⟨hv1, hv2, hv3, hv4⟩ := hwh k2 hk2
  refine z_astore dT_apart_11 (by decide) rfl ?_
  try simp only [List.set_cons_succ, List.set_cons_zero]
  refine z_aload_n dT_apart_13 rfl ?_
  refine z_aload dT_apart_14 rfl ?_
  by_cases hkk : k = k2
  · subst hkk
    refine z_part (plx k) (z_V (C := RP) (b := 0) hE zEok_0 (c_isOfSizeOf_self _ D ca _ (f k) (g k) (nI (w k)) (nI (h k))) dT_apart_16 (gd_V b_56 b_57 b_58 b_2 b_59) rfl qP_isOfSizeOf ⟨rfl, rfl⟩ (by rw [hR]; decide) (by rw [hR, hC, hS]; decide) rfl (Nat.le_of_ble_eq_true rfl) rfl rfl) (plx_nd k) (tw_in hk) (fun r aw1 hlen hr => ?_)
    obtain ⟨rfl, rfl⟩ := hr
    rw [tw_put0 hk, if_pos ⟨rfl, rfl⟩]
    simp only [zpush, zv]
    refine z_if_eq (tgt := 31) dT_apart_19 (by decide) (fun hc => absurd hc (by decide)) (fun _ => ?_)
    refine z_aload_n dT_apart_22 rfl ?_
    refine z_aload dT_apart_23 rfl ?_
    refine z_part (plx k) (z_V (C := RP) (b := 0) hE (zEok_ev _ _ _ _) (c_greatestDifference_self _ D ca _ (f k) (g k) sa (w k) (h k) hw2 hw4) dT_apart_25 (gd_V b_353 b_354 b_355 b_2 b_356) rfl qP_greatestDifference ⟨rfl, rfl⟩ (by rw [hR]; decide) (by rw [hR, hC, hS]; decide) rfl (Nat.le_of_ble_eq_true rfl) rfl rfl) (plx_nd k) (tw_in hk) (fun r aw1 hlen hr => ?_)
    obtain ⟨rfl, rfl⟩ := hr
    rw [tw_put0 hk]
    simp only [zpush, zv]
    refine z_goto (tgt := 32) dT_apart_28 (by decide) ?_
    exact z_ireturn dT_apart_32 rfl hX.ret (by rw [hC, hS]; decide) rfl ⟨k, k, hk, hk, rfl, rfl, rfl, by rw [if_pos ⟨rfl, rfl⟩]⟩
  · refine z_part (plx k ++ plx k2) (z_V (C := RP) (b := 0) hE zEok_0 (c_isOfSizeOf _ D ca _ (f k) (g k) (nI (w k)) (nI (h k)) (f k2) (g k2) (nI (w k2)) (nI (h k2))) dT_apart_16 (gd_V b_56 b_57 b_58 b_2 b_59) rfl qP_isOfSizeOf ⟨rfl, rfl⟩ (by rw [hR]; decide) (by rw [hR, hC, hS]; decide) rfl (Nat.le_of_ble_eq_true rfl) rfl rfl) (plx2_nd hk hk2 hkk) (tw_in6 hk hk2 hkk) (fun r aw1 hlen hr => ?_)
    obtain ⟨rfl, rfl⟩ := hr
    rw [tw_put6 hk hk2 hkk, va_upk, va_upk, va_upk, va_upk, va_upk, va_upk, va_upk, va_upk]
    simp only [zpush, zv]
    by_cases hs : w k = w k2 ∧ h k = h k2
    · rw [if_pos (show nI (w k) = nI (w k2) ∧ nI (h k) = nI (h k2) from ⟨by rw [hs.1], by rw [hs.2]⟩)]
      refine z_if_eq (tgt := 31) dT_apart_19 (by decide) (fun hc => absurd hc (by decide)) (fun _ => ?_)
      refine z_aload_n dT_apart_22 rfl ?_
      refine z_aload dT_apart_23 rfl ?_
      refine z_part (plx k ++ plx k2) (z_V (C := RP) (b := 0) hE (zEok_ev _ _ _ _) (c_greatestDifference _ D ca _ (f k) (g k) sa (w k) (h k) (f k2) (g k2) (w k2) (h k2) hw2 hw4) dT_apart_25 (gd_V b_353 b_354 b_355 b_2 b_356) rfl qP_greatestDifference ⟨rfl, rfl⟩ (by rw [hR]; decide) (by rw [hR, hC, hS]; decide) rfl (Nat.le_of_ble_eq_true rfl) rfl rfl) (plx2_nd hk hk2 hkk) (tw_in6 hk hk2 hkk) (fun r aw1 hlen hr => ?_)
      obtain ⟨rfl, rfl⟩ := hr
      rw [tw_put6 hk hk2 hkk, va_upk, va_upk, va_upk, va_upk, va_upk, va_upk, va_upk, va_upk]
      simp only [zpush, zv]
      refine z_goto (tgt := 32) dT_apart_28 (by decide) ?_
      exact z_ireturn dT_apart_32 rfl hX.ret (by rw [hC, hS]; decide) rfl ⟨k, k2, hk, hk2, rfl, rfl, rfl, by rw [if_pos hs]⟩
    · rw [if_neg (fun q : nI (w k) = nI (w k2) ∧ nI (h k) = nI (h k2) => hs ⟨(nI_eq (by omega) (by omega)).mp q.1, (nI_eq (by omega) (by omega)).mp q.2⟩)]
      refine z_if_eq (tgt := 31) dT_apart_19 (by decide) (fun _ => ?_) (fun hc => absurd rfl hc)
      refine z_iconst (v := -1) dT_apart_31 (by decide) ?_
      exact z_ireturn dT_apart_32 rfl hX.ret (by rw [hC, hS]; decide) rfl ⟨k, k2, hk, hk2, rfl, rfl, rfl, by rw [if_neg hs]⟩
