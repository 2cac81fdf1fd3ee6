/-! the mixer's calls, over the four planes' contents f, their lines g, their sides w and h -/
abbrev twn (ca : Nat → ClassId) (f g : Nat → Nat → Int32) (w h : Nat → Nat) : List va_E := tw ca f g (fun k => nI (w k)) (fun k => nI (h k))
def okW (w h : Nat → Nat) : Prop := ∀ k, k < 4 → 1 ≤ w k ∧ w k ≤ 32 ∧ 1 ≤ h k ∧ h k ≤ 32
theorem va_upn (w : Nat → Nat) (k n : Nat) : va_up (fun k => nI (w k)) k (nI n) = fun j => nI (va_up w k n j) := by
  funext j; unfold va_up; split <;> rfl
theorem va_upn0 (w : Nat → Nat) (k : Nat) : va_up (fun k => nI (w k)) k (nI (w k)) = fun j => nI (w j) := va_upk (fun k => nI (w k)) k
/-- there is no plane n -/
def noP (n : Int32) : Prop := n < 0 ∨ 4 ≤ n
theorem noP_k {k : Nat} (hk : k < 4) : ¬ noP (nI k) := by
  rintro (q | q)
  · exact nI_pos (by omega) q
  · exact nI_ge hk (by omega) q
theorem hasB_of {w h : Nat} {x y : Int32} (hw : w ≤ 32) (hh : h ≤ 32) (hb : hasB (nI w) (nI h) x y = true) : ∃ a b : Nat, a < w ∧ b < h ∧ x = nI a ∧ y = nI b := by
  simp only [hasB, decide_eq_true_eq] at hb
  obtain ⟨h1, h2, h3, h4⟩ := hb
  obtain ⟨a, ha, rfl⟩ := nI_of h1
  obtain ⟨b, hb, rfl⟩ := nI_of h3
  refine ⟨a, b, ?_, ?_, rfl, rfl⟩
  · rcases Nat.lt_or_ge a w with q | q
    · exact q
    · exact absurd (nI_le q ha) h2
  · rcases Nat.lt_or_ge b h with q | q
    · exact q
    · exact absurd (nI_le q hb) h4
set_option maxRecDepth 100000 in
set_option maxHeartbeats 4000000 in
theorem c_planeWith (l : Launch) (hl9 : l.stackTraces = false) (D : va_G) (ca : Nat → ClassId) (ad : Nat → Nat) (sa : Nat → Nat) (f g : Nat → Nat → Int32) (w h : Nat → Nat) (hwh : okW w h) (n x y : Int32) : zXet l yT_planeWith wT_planeWith (rmk 7 2 12) 2 12 (zEx sa) (gG D ca ad) (twn ca f g w h) [.ref 0, .int n, .int x, .int y] (fun r aw => aw = twn ca f g w h ∧ ∃ k a b : Nat, k < 4 ∧ n = nI k ∧ a < w k ∧ b < h k ∧ x = nI a ∧ y = nI b ∧ r = some (.ref (2 + 3 * k))) (fun E => E = IOB ∧ (noP n ∨ ∃ k : Nat, k < 4 ∧ n = nI k ∧ hasB (nI (w k)) (nI (h k)) x y = false)) := by
  refine zXet.of (cc := cT_planeWith) (maxL := 5) (ret := some (.object RP)) (lv := [some (.ref 0), some (.int n), some (.int x), some (.int y), none]) (by decide) rfl (Nat.le_of_ble_eq_true rfl) rfl (fun M hl0 hR hC hS hE hX => ?_)
  refine z_aload_n dT_planeWith_0 rfl ?_
  refine z_iload_n dT_planeWith_1 rfl ?_
  refine zx_same (zx_V (C := RT) (b := 0) hE (zEok_ev _ _ _ _) (c_planeOf _ (by rw [hl0]; exact hl9) D ca ad sa f g _ _ n) dT_planeWith_2 (gd_V b_124 b_126 bs_8 b_1 b_127) rfl qT_planeOf ⟨rfl, rfl⟩ (by rw [hR]; decide) (by rw [hR, hC, hS]; decide) rfl (Nat.le_of_ble_eq_true rfl) rfl rfl) hX (fun E h => ⟨h.1, Or.inl h.2⟩) (by rw [hC, hS]; decide) (fun r aw1 hlen hr => ?_)
  obtain ⟨N, hN⟩ : ∃ N, N = zup M 1 6 := ⟨_, rfl⟩
  rw [← hN]
  replace hl0 := (by rw [hN, zup_l0]; exact hl0 : zl0 N = l)
  replace hR := (show zroom N = zroom M by rw [hN, zup_room]).trans hR
  replace hC := (by rw [hN, zup_cells, hC] : zcells N = 1)
  replace hS := (by rw [hN, zup_slots, hS] : zslots N = 6)
  replace hE := (by rw [hN]; exact zup_En hE : zEn N (zEx sa))
  replace hX := (by rw [hN]; exact zup_RetX hX : zRetX N _ _ _ _ _ _)
  clear hN
  obtain ⟨rfl, k, hk, rfl, rfl⟩ := hr
  simp only [zpush, zv]
  refine z_astore dT_planeWith_5 (by decide) rfl ?_
  try simp only [List.set_cons_succ, List.set_cons_zero]
  refine z_aload dT_planeWith_7 rfl ?_
  refine z_iload_n dT_planeWith_9 rfl ?_
  refine z_iload_n dT_planeWith_10 rfl ?_
  refine z_part (plx k) (z_V (C := RP) (b := 0) hE zEok_0 (c_has _ D ca _ (f k) (g k) (nI (w k)) (nI (h k)) x y) dT_planeWith_11 (gd_V b_229 b_230 b_231 b_2 b_232) rfl qP_has ⟨rfl, rfl⟩ (by rw [hR]; decide) (by rw [hR, hC, hS]; decide) rfl (Nat.le_of_ble_eq_true rfl) rfl rfl) (plx_nd k) (tw_in hk) (fun r aw1 hlen hr => ?_)
  obtain ⟨rfl, rfl⟩ := hr
  rw [tw_put0 hk]
  simp only [zpush, zv]
  by_cases hb : hasB (nI (w k)) (nI (h k)) x y = true
  · rw [if_pos hb]
    refine z_if_ne (tgt := 27) dT_planeWith_14 (by decide) (fun _ => ?_) (fun hc => absurd hc (by decide))
    refine z_aload dT_planeWith_27 rfl ?_
    obtain ⟨a, b, ha, hb2, rfl, rfl⟩ := hasB_of (hwh k hk).2.1 (hwh k hk).2.2.2 hb
    exact z_areturn dT_planeWith_29 hX.ret (by rw [hC, hS]; decide) rfl ⟨rfl, k, a, b, hk, rfl, ha, hb2, rfl, rfl, rfl⟩
  · rw [if_neg hb]
    refine z_if_ne (tgt := 27) dT_planeWith_14 (by decide) (fun hc => absurd rfl hc) (fun _ => ?_)
    exact z_throw (cls := IOB) (names := EXN) (text := "no such sample") (sa := sa 3) (by rw [hl0]; exact hl9) hX hE (⟨rfl, Or.inr ⟨k, hk, rfl, by simpa using hb⟩⟩) dT_planeWith_17 dT_planeWith_20 dT_planeWith_21 dT_planeWith_23 dT_planeWith_26 (List.mem_of_getElem? (i := 3) rfl) af_O af_N (bwT b_128) (bwT b_7) (fun w h => bwT (at_O w h)) an_O ag_O (by rw [hR]; decide) (by rw [hR, hC, hS]; decide) (by rw [hC, hS]; decide)
