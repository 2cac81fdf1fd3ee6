def groA (v : Nat) : Bool := v < 2 || 3 < v
def groD (v : Nat) : Bool := 1 < v
def groT (v : Nat) : Bool := v % 2 == 1
/-- a grown plane: samples, line, sides -/
def gro (v : Nat) (f g : Nat → Int32) (w h : Nat) : (Nat → Int32) × (Nat → Int32) × Nat × Nat :=
  let s1 : (Nat → Int32) × (Nat → Int32) × Nat := if groA v = true then ((grA (groT v) w f g h).1, (grA (groT v) w f g h).2, 2 * w) else (f, g, w)
  if groD v = true then ((grD (groT v) h s1.1 s1.2.1 s1.2.2).1, (grD (groT v) h s1.1 s1.2.1 s1.2.2).2, s1.2.2, 2 * h) else (s1.1, s1.2.1, s1.2.2, h)
def tooL (v w h : Nat) : Prop := (groA v = true ∧ 32 < 2 * w) ∨ (groD v = true ∧ 32 < 2 * h)
def grow0 (how : Int32) (w h : Nat) : Prop := how < 0 ∨ 5 < how ∨ ∃ v : Nat, v < 6 ∧ how = nI v ∧ tooL v w h
theorem how_of {x : Int32} {n : Nat} (M : Int32) (hM : M.toInt = n) (h1 : ¬ x < 0) (h2 : x ≤ M) : ∃ v : Nat, v ≤ n ∧ x = nI v := nI_of2 hM h1 h2
set_option maxRecDepth 100000 in
set_option maxHeartbeats 4000000 in
theorem c_grow (l : Launch) (hl9 : l.stackTraces = false) (D : va_G) (ca : Nat → ClassId) (ad : Nat → Nat) (sa : Nat → Nat) (f g : Nat → Nat → Int32) (w h : Nat → Nat) (hwh : okW w h) (n how : Int32) : zXet l yT_grow wT_grow (rmk 7 1 6) 1 6 (zEx sa) (gG D ca ad) (twn ca f g w h) [.ref 0, .int n, .int how] (fun r aw => ∃ k : Nat, k < 4 ∧ n = nI k ∧ ((grow0 how (w k) (h k) ∧ r = some (.int 0) ∧ aw = twn ca f g w h) ∨ ∃ v : Nat, v < 6 ∧ how = nI v ∧ ¬ tooL v (w k) (h k) ∧ r = some (.int 1) ∧ aw = twn ca (va_up f k (gro v (f k) (g k) (w k) (h k)).1) (va_up g k (gro v (f k) (g k) (w k) (h k)).2.1) (va_up w k (gro v (f k) (g k) (w k) (h k)).2.2.1) (va_up h k (gro v (f k) (g k) (w k) (h k)).2.2.2))) (fun E => E = IOB ∧ noP n) := by
  refine zXet.of (cc := cT_grow) (maxL := 7) (ret := (some .boolean)) (lv := [some (.ref 0), some (.int n), some (.int how), none, none, none, none]) (by decide) rfl (Nat.le_of_ble_eq_true rfl) rfl (fun M hl0 hR hC hS hE hX => ?_)
  refine z_aload_n dT_grow_0 rfl ?_
  refine z_iload_n dT_grow_1 rfl ?_
  refine zx_same (zx_V (C := RT) (b := 0) hE (zEok_ev _ _ _ _) (c_planeOf _ (by rw [hl0]; exact hl9) D ca ad sa f g _ _ n) dT_grow_2 (gd_V b_124 b_126 bs_8 b_1 b_127) rfl qT_planeOf ⟨rfl, rfl⟩ (by rw [hR]; decide) (by rw [hR, hC, hS]; decide) rfl (Nat.le_of_ble_eq_true rfl) rfl rfl) hX (fun E h => h) (by rw [hC, hS]; decide) (fun r aw1 hlen hr => ?_)
  obtain ⟨N, hN⟩ : ∃ N, N = zup M 1 6 := ⟨_, rfl⟩
  rw [← hN]
  replace hl0 := (by rw [hN, zup_l0]; exact hl0 : zl0 N = l)
  replace hR := (show zroom N = zroom M by rw [hN, zup_room]).trans hR
  replace hC := (by rw [hN, zup_cells, hC] : zcells N = 1)
  replace hS := (by rw [hN, zup_slots, hS] : zslots N = 6)
  replace hE := (by rw [hN]; exact zup_En hE : zEn N (zEx sa))
  replace hX := (by rw [hN]; exact zup_RetX hX : zRetX N _ _ _ _ _ _)
  clear hN
  obtain ⟨rfl, k, hk, rfl, rfl⟩ := hr
  simp only [zpush, zv]
  obtain ⟨hk1, hk2, hk3, hk4⟩ := hwh k hk
  refine z_astore_n dT_grow_5 (by decide) rfl ?_
  try simp only [List.set_cons_succ, List.set_cons_zero]
  refine z_iload_n dT_grow_6 rfl ?_
  have k15 : (how < 0 ∨ 5 < how) → Zj N (gG D ca ad) cT_grow 7 RT wT_grow (some .boolean) (twn ca f g w h) [some (.ref 0), some (.int (nI k)), some (.int how), some (.ref (2 + 3 * k)), none, none, none] [] 15 := fun hb => by
    refine z_iconst (v := 0) dT_grow_15 (by decide) ?_
    exact z_ireturn dT_grow_16 rfl hX.ret (by rw [hC, hS]; decide) rfl ⟨k, hk, rfl, Or.inl ⟨hb.elim Or.inl (fun q => Or.inr (Or.inl q)), rfl, rfl⟩⟩
  refine z_if_lt (tgt := 15) dT_grow_7 (by decide) (fun c1 => k15 (Or.inl c1)) (fun c1 => ?_)
  refine z_iload_n dT_grow_10 rfl ?_
  refine z_iconst (v := 5) dT_grow_11 (by decide) ?_
  refine z_icmp_le (tgt := 17) dT_grow_12 (by decide) (fun c2 => ?_) (fun c2 => k15 (Or.inr (Int32.not_le.mp c2)))
  obtain ⟨v, hv, rfl⟩ := how_of (n := 5) 5 (by decide) c1 c2
  have k78 : ∀ o4 o5 : Option Value, tooL v (w k) (h k) → Zj N (gG D ca ad) cT_grow 7 RT wT_grow (some .boolean) (twn ca f g w h) [some (.ref 0), some (.int (nI k)), some (.int (nI v)), some (.ref (2 + 3 * k)), o4, o5, none] [] 78 := fun o4 o5 hb => by
    refine z_iconst (v := 0) dT_grow_78 (by decide) ?_
    exact z_ireturn dT_grow_79 rfl hX.ret (by rw [hC, hS]; decide) rfl ⟨k, hk, rfl, Or.inl ⟨Or.inr (Or.inr ⟨v, by omega, rfl, hb⟩), rfl, rfl⟩⟩
  rcases (show v = 0 ∨ v = 1 ∨ v = 2 ∨ v = 3 ∨ v = 4 ∨ v = 5 by omega) with rfl | rfl | rfl | rfl | rfl | rfl
  · clear c1 c2 hv
    rw [show nI 0 = (0 : Int32) from rfl] at k78 ⊢
    refine z_iload_n dT_grow_17 rfl ?_
    refine z_iconst (v := 2) dT_grow_18 (by decide) ?_
    refine z_icmp_lt (tgt := 27) dT_grow_19 (by decide) (fun _ => ?_) (fun hc9 => absurd hc9 (by decide))
    refine z_iconst (v := 1) dT_grow_27 (by decide) ?_
    refine z_goto (tgt := 32) dT_grow_28 (by decide) ?_
    refine z_istore dT_grow_32 (by decide) rfl ?_
    try simp only [List.set_cons_succ, List.set_cons_zero]
    refine z_iload_n dT_grow_34 rfl ?_
    refine z_iconst (v := 1) dT_grow_35 (by decide) ?_
    refine z_icmp_le (tgt := 43) dT_grow_36 (by decide) (fun _ => ?_) (fun hc9 => absurd hc9 (by decide))
    refine z_iconst (v := 0) dT_grow_43 (by decide) ?_
    refine z_istore dT_grow_44 (by decide) rfl ?_
    try simp only [List.set_cons_succ, List.set_cons_zero]
    refine z_iload dT_grow_46 rfl ?_
    refine z_if_eq (tgt := 62) dT_grow_48 (by decide) (fun hc9 => absurd hc9 (by decide)) (fun _ => ?_)
    refine z_iconst (v := 2) dT_grow_51 (by decide) ?_
    refine z_aload_n dT_grow_52 rfl ?_
    refine z_get (C := RP) (T := TP) (N := 4) (ref := "ToneMixer$Plane") 1 dT_grow_53 (tw_pl hk) rfl rfl (by decide) (fun w h => bwT (hbP w h)) (bwT b_30) rfl ?_
    refine z_imul dT_grow_56 ?_
    refine z_bipush (v := 32) dT_grow_57 (by decide) ?_
    rw [z_2, show (32 : Int32) = nI 32 from rfl]
    refine z_icmp_gt (tgt := 78) dT_grow_59 (by decide) (fun c => k78 _ _ (Or.inl ⟨rfl, (nI_ltI (by omega) (by omega)).mp c⟩)) (fun c => ?_)
    have hA : 2 * w k ≤ 32 := Nat.not_lt.mp (fun q => c (nI_lt q (by omega)))
    refine z_iload dT_grow_62 rfl ?_
    refine z_if_eq (tgt := 80) dT_grow_64 (by decide) (fun _ => ?_) (fun hc9 => absurd hc9 (by decide))
    have hno : ¬ tooL 0 (w k) (h k) := by
      rintro (⟨q1, q2⟩ | ⟨q1, q2⟩)
      · omega
      · cases q1
    refine z_iload_n dT_grow_80 rfl ?_
    refine z_iconst (v := 2) dT_grow_81 (by decide) ?_
    refine z_irem dT_grow_82 (by decide) ?_
    refine z_iconst (v := 1) dT_grow_83 (by decide) ?_
    refine z_icmp_ne (tgt := 91) dT_grow_84 (by decide) (fun _ => ?_) (fun hc9 => absurd hc9 (by decide))
    refine z_iconst (v := 0) dT_grow_91 (by decide) ?_
    refine z_istore dT_grow_92 (by decide) rfl ?_
    try simp only [List.set_cons_succ, List.set_cons_zero]
    refine z_iload dT_grow_94 rfl ?_
    refine z_if_eq (tgt := 105) dT_grow_96 (by decide) (fun hc9 => absurd hc9 (by decide)) (fun _ => ?_)
    refine z_aload_n dT_grow_99 rfl ?_
    refine z_iload dT_grow_100 rfl ?_
    refine z_part (plx k) (z_V (C := RP) (b := 0) hE (zEok_ev _ _ _ _) (c_growAcross _ D ca _ (f k) (g k) sa (w k) (h k) false hk2 hk4 hA) dT_grow_102 (gd_V b_252 b_253 b_254 b_2 b_255) rfl qP_growAcross ⟨rfl, rfl⟩ (by rw [hR]; decide) (by rw [hR, hC, hS]; decide) rfl (Nat.le_of_ble_eq_true rfl) rfl rfl) (plx_nd k) (tw_in hk) (fun r aw1 hlen hr => ?_)
    obtain ⟨rfl, rfl⟩ := hr
    rw [tw_put hk, va_upn, va_upn0]
    simp only [zpush]
    refine z_iload dT_grow_105 rfl ?_
    refine z_if_eq (tgt := 116) dT_grow_107 (by decide) (fun _ => ?_) (fun hc9 => absurd hc9 (by decide))
    refine z_iconst (v := 1) dT_grow_116 (by decide) ?_
    refine z_ireturn dT_grow_117 rfl hX.ret (by rw [hC, hS]; decide) rfl ⟨k, hk, rfl, Or.inr ⟨0, by omega, rfl, hno, rfl, ?_⟩⟩
    show _ = twn ca (va_up f k _) (va_up g k _) (va_up w k _) (va_up h k (h k)); rw [va_upk]; rfl
  · clear c1 c2 hv
    rw [show nI 1 = (1 : Int32) from rfl] at k78 ⊢
    refine z_iload_n dT_grow_17 rfl ?_
    refine z_iconst (v := 2) dT_grow_18 (by decide) ?_
    refine z_icmp_lt (tgt := 27) dT_grow_19 (by decide) (fun _ => ?_) (fun hc9 => absurd hc9 (by decide))
    refine z_iconst (v := 1) dT_grow_27 (by decide) ?_
    refine z_goto (tgt := 32) dT_grow_28 (by decide) ?_
    refine z_istore dT_grow_32 (by decide) rfl ?_
    try simp only [List.set_cons_succ, List.set_cons_zero]
    refine z_iload_n dT_grow_34 rfl ?_
    refine z_iconst (v := 1) dT_grow_35 (by decide) ?_
    refine z_icmp_le (tgt := 43) dT_grow_36 (by decide) (fun _ => ?_) (fun hc9 => absurd hc9 (by decide))
    refine z_iconst (v := 0) dT_grow_43 (by decide) ?_
    refine z_istore dT_grow_44 (by decide) rfl ?_
    try simp only [List.set_cons_succ, List.set_cons_zero]
    refine z_iload dT_grow_46 rfl ?_
    refine z_if_eq (tgt := 62) dT_grow_48 (by decide) (fun hc9 => absurd hc9 (by decide)) (fun _ => ?_)
    refine z_iconst (v := 2) dT_grow_51 (by decide) ?_
    refine z_aload_n dT_grow_52 rfl ?_
    refine z_get (C := RP) (T := TP) (N := 4) (ref := "ToneMixer$Plane") 1 dT_grow_53 (tw_pl hk) rfl rfl (by decide) (fun w h => bwT (hbP w h)) (bwT b_30) rfl ?_
    refine z_imul dT_grow_56 ?_
    refine z_bipush (v := 32) dT_grow_57 (by decide) ?_
    rw [z_2, show (32 : Int32) = nI 32 from rfl]
    refine z_icmp_gt (tgt := 78) dT_grow_59 (by decide) (fun c => k78 _ _ (Or.inl ⟨rfl, (nI_ltI (by omega) (by omega)).mp c⟩)) (fun c => ?_)
    have hA : 2 * w k ≤ 32 := Nat.not_lt.mp (fun q => c (nI_lt q (by omega)))
    refine z_iload dT_grow_62 rfl ?_
    refine z_if_eq (tgt := 80) dT_grow_64 (by decide) (fun _ => ?_) (fun hc9 => absurd hc9 (by decide))
    have hno : ¬ tooL 1 (w k) (h k) := by
      rintro (⟨q1, q2⟩ | ⟨q1, q2⟩)
      · omega
      · cases q1
    refine z_iload_n dT_grow_80 rfl ?_
    refine z_iconst (v := 2) dT_grow_81 (by decide) ?_
    refine z_irem dT_grow_82 (by decide) ?_
    refine z_iconst (v := 1) dT_grow_83 (by decide) ?_
    refine z_icmp_ne (tgt := 91) dT_grow_84 (by decide) (fun hc9 => absurd hc9 (by decide)) (fun _ => ?_)
    refine z_iconst (v := 1) dT_grow_87 (by decide) ?_
    refine z_goto (tgt := 92) dT_grow_88 (by decide) ?_
    refine z_istore dT_grow_92 (by decide) rfl ?_
    try simp only [List.set_cons_succ, List.set_cons_zero]
    refine z_iload dT_grow_94 rfl ?_
    refine z_if_eq (tgt := 105) dT_grow_96 (by decide) (fun hc9 => absurd hc9 (by decide)) (fun _ => ?_)
    refine z_aload_n dT_grow_99 rfl ?_
    refine z_iload dT_grow_100 rfl ?_
    refine z_part (plx k) (z_V (C := RP) (b := 0) hE (zEok_ev _ _ _ _) (c_growAcross _ D ca _ (f k) (g k) sa (w k) (h k) true hk2 hk4 hA) dT_grow_102 (gd_V b_252 b_253 b_254 b_2 b_255) rfl qP_growAcross ⟨rfl, rfl⟩ (by rw [hR]; decide) (by rw [hR, hC, hS]; decide) rfl (Nat.le_of_ble_eq_true rfl) rfl rfl) (plx_nd k) (tw_in hk) (fun r aw1 hlen hr => ?_)
    obtain ⟨rfl, rfl⟩ := hr
    rw [tw_put hk, va_upn, va_upn0]
    simp only [zpush]
    refine z_iload dT_grow_105 rfl ?_
    refine z_if_eq (tgt := 116) dT_grow_107 (by decide) (fun _ => ?_) (fun hc9 => absurd hc9 (by decide))
    refine z_iconst (v := 1) dT_grow_116 (by decide) ?_
    refine z_ireturn dT_grow_117 rfl hX.ret (by rw [hC, hS]; decide) rfl ⟨k, hk, rfl, Or.inr ⟨1, by omega, rfl, hno, rfl, ?_⟩⟩
    show _ = twn ca (va_up f k _) (va_up g k _) (va_up w k _) (va_up h k (h k)); rw [va_upk]; rfl
  · clear c1 c2 hv
    rw [show nI 2 = (2 : Int32) from rfl] at k78 ⊢
    refine z_iload_n dT_grow_17 rfl ?_
    refine z_iconst (v := 2) dT_grow_18 (by decide) ?_
    refine z_icmp_lt (tgt := 27) dT_grow_19 (by decide) (fun hc9 => absurd hc9 (by decide)) (fun _ => ?_)
    refine z_iload_n dT_grow_22 rfl ?_
    refine z_iconst (v := 3) dT_grow_23 (by decide) ?_
    refine z_icmp_le (tgt := 31) dT_grow_24 (by decide) (fun _ => ?_) (fun hc9 => absurd hc9 (by decide))
    refine z_iconst (v := 0) dT_grow_31 (by decide) ?_
    refine z_istore dT_grow_32 (by decide) rfl ?_
    try simp only [List.set_cons_succ, List.set_cons_zero]
    refine z_iload_n dT_grow_34 rfl ?_
    refine z_iconst (v := 1) dT_grow_35 (by decide) ?_
    refine z_icmp_le (tgt := 43) dT_grow_36 (by decide) (fun hc9 => absurd hc9 (by decide)) (fun _ => ?_)
    refine z_iconst (v := 1) dT_grow_39 (by decide) ?_
    refine z_goto (tgt := 44) dT_grow_40 (by decide) ?_
    refine z_istore dT_grow_44 (by decide) rfl ?_
    try simp only [List.set_cons_succ, List.set_cons_zero]
    refine z_iload dT_grow_46 rfl ?_
    refine z_if_eq (tgt := 62) dT_grow_48 (by decide) (fun _ => ?_) (fun hc9 => absurd hc9 (by decide))
    refine z_iload dT_grow_62 rfl ?_
    refine z_if_eq (tgt := 80) dT_grow_64 (by decide) (fun hc9 => absurd hc9 (by decide)) (fun _ => ?_)
    refine z_iconst (v := 2) dT_grow_67 (by decide) ?_
    refine z_aload_n dT_grow_68 rfl ?_
    refine z_get (C := RP) (T := TP) (N := 4) (ref := "ToneMixer$Plane") 2 dT_grow_69 (tw_pl hk) rfl rfl (by decide) (fun w h => bwT (hbP w h)) (bwT b_32) rfl ?_
    refine z_imul dT_grow_72 ?_
    refine z_bipush (v := 32) dT_grow_73 (by decide) ?_
    rw [z_2, show (32 : Int32) = nI 32 from rfl]
    refine z_icmp_le (tgt := 80) dT_grow_75 (by decide) (fun c => ?_) (fun c => k78 _ _ (Or.inr ⟨rfl, Nat.not_le.mp (fun q => c (nI_le q (by omega)))⟩))
    have hD : 2 * h k ≤ 32 := (nI_leI (by omega) (by omega)).mp c
    have hno : ¬ tooL 2 (w k) (h k) := by
      rintro (⟨q1, q2⟩ | ⟨q1, q2⟩)
      · cases q1
      · omega
    refine z_iload_n dT_grow_80 rfl ?_
    refine z_iconst (v := 2) dT_grow_81 (by decide) ?_
    refine z_irem dT_grow_82 (by decide) ?_
    refine z_iconst (v := 1) dT_grow_83 (by decide) ?_
    refine z_icmp_ne (tgt := 91) dT_grow_84 (by decide) (fun _ => ?_) (fun hc9 => absurd hc9 (by decide))
    refine z_iconst (v := 0) dT_grow_91 (by decide) ?_
    refine z_istore dT_grow_92 (by decide) rfl ?_
    try simp only [List.set_cons_succ, List.set_cons_zero]
    refine z_iload dT_grow_94 rfl ?_
    refine z_if_eq (tgt := 105) dT_grow_96 (by decide) (fun _ => ?_) (fun hc9 => absurd hc9 (by decide))
    refine z_iload dT_grow_105 rfl ?_
    refine z_if_eq (tgt := 116) dT_grow_107 (by decide) (fun hc9 => absurd hc9 (by decide)) (fun _ => ?_)
    refine z_aload_n dT_grow_110 rfl ?_
    refine z_iload dT_grow_111 rfl ?_
    refine z_part (plx k) (z_V (C := RP) (b := 0) hE (zEok_ev _ _ _ _) (c_growDown _ D ca _ (f k) (g k) sa (w k) (h k) false (by omega) hk4 hD) dT_grow_113 (gd_V b_261 b_262 b_263 b_2 b_264) rfl qP_growDown ⟨rfl, rfl⟩ (by rw [hR]; decide) (by rw [hR, hC, hS]; decide) rfl (Nat.le_of_ble_eq_true rfl) rfl rfl) (plx_nd k) (tw_in hk) (fun r aw1 hlen hr => ?_)
    obtain ⟨rfl, rfl⟩ := hr
    rw [tw_put hk, va_upn0 w, va_upn]
    simp only [zpush]
    refine z_iconst (v := 1) dT_grow_116 (by decide) ?_
    refine z_ireturn dT_grow_117 rfl hX.ret (by rw [hC, hS]; decide) rfl ⟨k, hk, rfl, Or.inr ⟨2, by omega, rfl, hno, rfl, ?_⟩⟩
    show _ = twn ca (va_up f k _) (va_up g k _) (va_up w k (w k)) (va_up h k _); rw [va_upk]; rfl
  · clear c1 c2 hv
    rw [show nI 3 = (3 : Int32) from rfl] at k78 ⊢
    refine z_iload_n dT_grow_17 rfl ?_
    refine z_iconst (v := 2) dT_grow_18 (by decide) ?_
    refine z_icmp_lt (tgt := 27) dT_grow_19 (by decide) (fun hc9 => absurd hc9 (by decide)) (fun _ => ?_)
    refine z_iload_n dT_grow_22 rfl ?_
    refine z_iconst (v := 3) dT_grow_23 (by decide) ?_
    refine z_icmp_le (tgt := 31) dT_grow_24 (by decide) (fun _ => ?_) (fun hc9 => absurd hc9 (by decide))
    refine z_iconst (v := 0) dT_grow_31 (by decide) ?_
    refine z_istore dT_grow_32 (by decide) rfl ?_
    try simp only [List.set_cons_succ, List.set_cons_zero]
    refine z_iload_n dT_grow_34 rfl ?_
    refine z_iconst (v := 1) dT_grow_35 (by decide) ?_
    refine z_icmp_le (tgt := 43) dT_grow_36 (by decide) (fun hc9 => absurd hc9 (by decide)) (fun _ => ?_)
    refine z_iconst (v := 1) dT_grow_39 (by decide) ?_
    refine z_goto (tgt := 44) dT_grow_40 (by decide) ?_
    refine z_istore dT_grow_44 (by decide) rfl ?_
    try simp only [List.set_cons_succ, List.set_cons_zero]
    refine z_iload dT_grow_46 rfl ?_
    refine z_if_eq (tgt := 62) dT_grow_48 (by decide) (fun _ => ?_) (fun hc9 => absurd hc9 (by decide))
    refine z_iload dT_grow_62 rfl ?_
    refine z_if_eq (tgt := 80) dT_grow_64 (by decide) (fun hc9 => absurd hc9 (by decide)) (fun _ => ?_)
    refine z_iconst (v := 2) dT_grow_67 (by decide) ?_
    refine z_aload_n dT_grow_68 rfl ?_
    refine z_get (C := RP) (T := TP) (N := 4) (ref := "ToneMixer$Plane") 2 dT_grow_69 (tw_pl hk) rfl rfl (by decide) (fun w h => bwT (hbP w h)) (bwT b_32) rfl ?_
    refine z_imul dT_grow_72 ?_
    refine z_bipush (v := 32) dT_grow_73 (by decide) ?_
    rw [z_2, show (32 : Int32) = nI 32 from rfl]
    refine z_icmp_le (tgt := 80) dT_grow_75 (by decide) (fun c => ?_) (fun c => k78 _ _ (Or.inr ⟨rfl, Nat.not_le.mp (fun q => c (nI_le q (by omega)))⟩))
    have hD : 2 * h k ≤ 32 := (nI_leI (by omega) (by omega)).mp c
    have hno : ¬ tooL 3 (w k) (h k) := by
      rintro (⟨q1, q2⟩ | ⟨q1, q2⟩)
      · cases q1
      · omega
    refine z_iload_n dT_grow_80 rfl ?_
    refine z_iconst (v := 2) dT_grow_81 (by decide) ?_
    refine z_irem dT_grow_82 (by decide) ?_
    refine z_iconst (v := 1) dT_grow_83 (by decide) ?_
    refine z_icmp_ne (tgt := 91) dT_grow_84 (by decide) (fun hc9 => absurd hc9 (by decide)) (fun _ => ?_)
    refine z_iconst (v := 1) dT_grow_87 (by decide) ?_
    refine z_goto (tgt := 92) dT_grow_88 (by decide) ?_
    refine z_istore dT_grow_92 (by decide) rfl ?_
    try simp only [List.set_cons_succ, List.set_cons_zero]
    refine z_iload dT_grow_94 rfl ?_
    refine z_if_eq (tgt := 105) dT_grow_96 (by decide) (fun _ => ?_) (fun hc9 => absurd hc9 (by decide))
    refine z_iload dT_grow_105 rfl ?_
    refine z_if_eq (tgt := 116) dT_grow_107 (by decide) (fun hc9 => absurd hc9 (by decide)) (fun _ => ?_)
    refine z_aload_n dT_grow_110 rfl ?_
    refine z_iload dT_grow_111 rfl ?_
    refine z_part (plx k) (z_V (C := RP) (b := 0) hE (zEok_ev _ _ _ _) (c_growDown _ D ca _ (f k) (g k) sa (w k) (h k) true (by omega) hk4 hD) dT_grow_113 (gd_V b_261 b_262 b_263 b_2 b_264) rfl qP_growDown ⟨rfl, rfl⟩ (by rw [hR]; decide) (by rw [hR, hC, hS]; decide) rfl (Nat.le_of_ble_eq_true rfl) rfl rfl) (plx_nd k) (tw_in hk) (fun r aw1 hlen hr => ?_)
    obtain ⟨rfl, rfl⟩ := hr
    rw [tw_put hk, va_upn0 w, va_upn]
    simp only [zpush]
    refine z_iconst (v := 1) dT_grow_116 (by decide) ?_
    refine z_ireturn dT_grow_117 rfl hX.ret (by rw [hC, hS]; decide) rfl ⟨k, hk, rfl, Or.inr ⟨3, by omega, rfl, hno, rfl, ?_⟩⟩
    show _ = twn ca (va_up f k _) (va_up g k _) (va_up w k (w k)) (va_up h k _); rw [va_upk]; rfl
  · clear c1 c2 hv
    rw [show nI 4 = (4 : Int32) from rfl] at k78 ⊢
    refine z_iload_n dT_grow_17 rfl ?_
    refine z_iconst (v := 2) dT_grow_18 (by decide) ?_
    refine z_icmp_lt (tgt := 27) dT_grow_19 (by decide) (fun hc9 => absurd hc9 (by decide)) (fun _ => ?_)
    refine z_iload_n dT_grow_22 rfl ?_
    refine z_iconst (v := 3) dT_grow_23 (by decide) ?_
    refine z_icmp_le (tgt := 31) dT_grow_24 (by decide) (fun hc9 => absurd hc9 (by decide)) (fun _ => ?_)
    refine z_iconst (v := 1) dT_grow_27 (by decide) ?_
    refine z_goto (tgt := 32) dT_grow_28 (by decide) ?_
    refine z_istore dT_grow_32 (by decide) rfl ?_
    try simp only [List.set_cons_succ, List.set_cons_zero]
    refine z_iload_n dT_grow_34 rfl ?_
    refine z_iconst (v := 1) dT_grow_35 (by decide) ?_
    refine z_icmp_le (tgt := 43) dT_grow_36 (by decide) (fun hc9 => absurd hc9 (by decide)) (fun _ => ?_)
    refine z_iconst (v := 1) dT_grow_39 (by decide) ?_
    refine z_goto (tgt := 44) dT_grow_40 (by decide) ?_
    refine z_istore dT_grow_44 (by decide) rfl ?_
    try simp only [List.set_cons_succ, List.set_cons_zero]
    refine z_iload dT_grow_46 rfl ?_
    refine z_if_eq (tgt := 62) dT_grow_48 (by decide) (fun hc9 => absurd hc9 (by decide)) (fun _ => ?_)
    refine z_iconst (v := 2) dT_grow_51 (by decide) ?_
    refine z_aload_n dT_grow_52 rfl ?_
    refine z_get (C := RP) (T := TP) (N := 4) (ref := "ToneMixer$Plane") 1 dT_grow_53 (tw_pl hk) rfl rfl (by decide) (fun w h => bwT (hbP w h)) (bwT b_30) rfl ?_
    refine z_imul dT_grow_56 ?_
    refine z_bipush (v := 32) dT_grow_57 (by decide) ?_
    rw [z_2, show (32 : Int32) = nI 32 from rfl]
    refine z_icmp_gt (tgt := 78) dT_grow_59 (by decide) (fun c => k78 _ _ (Or.inl ⟨rfl, (nI_ltI (by omega) (by omega)).mp c⟩)) (fun c => ?_)
    have hA : 2 * w k ≤ 32 := Nat.not_lt.mp (fun q => c (nI_lt q (by omega)))
    refine z_iload dT_grow_62 rfl ?_
    refine z_if_eq (tgt := 80) dT_grow_64 (by decide) (fun hc9 => absurd hc9 (by decide)) (fun _ => ?_)
    refine z_iconst (v := 2) dT_grow_67 (by decide) ?_
    refine z_aload_n dT_grow_68 rfl ?_
    refine z_get (C := RP) (T := TP) (N := 4) (ref := "ToneMixer$Plane") 2 dT_grow_69 (tw_pl hk) rfl rfl (by decide) (fun w h => bwT (hbP w h)) (bwT b_32) rfl ?_
    refine z_imul dT_grow_72 ?_
    refine z_bipush (v := 32) dT_grow_73 (by decide) ?_
    rw [z_2, show (32 : Int32) = nI 32 from rfl]
    refine z_icmp_le (tgt := 80) dT_grow_75 (by decide) (fun c => ?_) (fun c => k78 _ _ (Or.inr ⟨rfl, Nat.not_le.mp (fun q => c (nI_le q (by omega)))⟩))
    have hD : 2 * h k ≤ 32 := (nI_leI (by omega) (by omega)).mp c
    have hno : ¬ tooL 4 (w k) (h k) := by
      rintro (⟨q1, q2⟩ | ⟨q1, q2⟩)
      · omega
      · omega
    refine z_iload_n dT_grow_80 rfl ?_
    refine z_iconst (v := 2) dT_grow_81 (by decide) ?_
    refine z_irem dT_grow_82 (by decide) ?_
    refine z_iconst (v := 1) dT_grow_83 (by decide) ?_
    refine z_icmp_ne (tgt := 91) dT_grow_84 (by decide) (fun _ => ?_) (fun hc9 => absurd hc9 (by decide))
    refine z_iconst (v := 0) dT_grow_91 (by decide) ?_
    refine z_istore dT_grow_92 (by decide) rfl ?_
    try simp only [List.set_cons_succ, List.set_cons_zero]
    refine z_iload dT_grow_94 rfl ?_
    refine z_if_eq (tgt := 105) dT_grow_96 (by decide) (fun hc9 => absurd hc9 (by decide)) (fun _ => ?_)
    refine z_aload_n dT_grow_99 rfl ?_
    refine z_iload dT_grow_100 rfl ?_
    refine z_part (plx k) (z_V (C := RP) (b := 0) hE (zEok_ev _ _ _ _) (c_growAcross _ D ca _ (f k) (g k) sa (w k) (h k) false hk2 hk4 hA) dT_grow_102 (gd_V b_252 b_253 b_254 b_2 b_255) rfl qP_growAcross ⟨rfl, rfl⟩ (by rw [hR]; decide) (by rw [hR, hC, hS]; decide) rfl (Nat.le_of_ble_eq_true rfl) rfl rfl) (plx_nd k) (tw_in hk) (fun r aw1 hlen hr => ?_)
    obtain ⟨rfl, rfl⟩ := hr
    rw [tw_put hk, va_upn, va_upn0]
    simp only [zpush]
    refine z_iload dT_grow_105 rfl ?_
    refine z_if_eq (tgt := 116) dT_grow_107 (by decide) (fun hc9 => absurd hc9 (by decide)) (fun _ => ?_)
    refine z_aload_n dT_grow_110 rfl ?_
    refine z_iload dT_grow_111 rfl ?_
    refine z_part (plx k) (z_V (C := RP) (b := 0) hE (zEok_ev _ _ _ _) (c_growDown _ D ca _ (grA false (w k) (f k) (g k) (h k)).1 (grA false (w k) (f k) (g k) (h k)).2 sa (2 * w k) (h k) false (by omega) hk4 hD) dT_grow_113 (gd_V b_261 b_262 b_263 b_2 b_264) rfl qP_growDown ⟨rfl, rfl⟩ (by rw [hR]; decide) (by rw [hR, hC, hS]; decide) rfl (Nat.le_of_ble_eq_true rfl) rfl rfl) (plx_nd k) (by have h9 := tw_in (ca := ca) (f := va_up f k (grA false (w k) (f k) (g k) (h k)).1) (g := va_up g k (grA false (w k) (f k) (g k) (h k)).2) (w := fun j => nI (va_up w k (2 * w k) j)) (h := fun k => nI (h k)) hk; rw [va_up_self, va_up_self, va_up_self] at h9; exact h9) (fun r aw1 hlen hr => ?_)
    obtain ⟨rfl, rfl⟩ := hr
    rw [tw_put hk, bx_uu, bx_uu, va_upn, va_upn, bx_uu]
    simp only [zpush]
    refine z_iconst (v := 1) dT_grow_116 (by decide) ?_
    refine z_ireturn dT_grow_117 rfl hX.ret (by rw [hC, hS]; decide) rfl ⟨k, hk, rfl, Or.inr ⟨4, by omega, rfl, hno, rfl, ?_⟩⟩
    rfl
  · clear c1 c2 hv
    rw [show nI 5 = (5 : Int32) from rfl] at k78 ⊢
    refine z_iload_n dT_grow_17 rfl ?_
    refine z_iconst (v := 2) dT_grow_18 (by decide) ?_
    refine z_icmp_lt (tgt := 27) dT_grow_19 (by decide) (fun hc9 => absurd hc9 (by decide)) (fun _ => ?_)
    refine z_iload_n dT_grow_22 rfl ?_
    refine z_iconst (v := 3) dT_grow_23 (by decide) ?_
    refine z_icmp_le (tgt := 31) dT_grow_24 (by decide) (fun hc9 => absurd hc9 (by decide)) (fun _ => ?_)
    refine z_iconst (v := 1) dT_grow_27 (by decide) ?_
    refine z_goto (tgt := 32) dT_grow_28 (by decide) ?_
    refine z_istore dT_grow_32 (by decide) rfl ?_
    try simp only [List.set_cons_succ, List.set_cons_zero]
    refine z_iload_n dT_grow_34 rfl ?_
    refine z_iconst (v := 1) dT_grow_35 (by decide) ?_
    refine z_icmp_le (tgt := 43) dT_grow_36 (by decide) (fun hc9 => absurd hc9 (by decide)) (fun _ => ?_)
    refine z_iconst (v := 1) dT_grow_39 (by decide) ?_
    refine z_goto (tgt := 44) dT_grow_40 (by decide) ?_
    refine z_istore dT_grow_44 (by decide) rfl ?_
    try simp only [List.set_cons_succ, List.set_cons_zero]
    refine z_iload dT_grow_46 rfl ?_
    refine z_if_eq (tgt := 62) dT_grow_48 (by decide) (fun hc9 => absurd hc9 (by decide)) (fun _ => ?_)
    refine z_iconst (v := 2) dT_grow_51 (by decide) ?_
    refine z_aload_n dT_grow_52 rfl ?_
    refine z_get (C := RP) (T := TP) (N := 4) (ref := "ToneMixer$Plane") 1 dT_grow_53 (tw_pl hk) rfl rfl (by decide) (fun w h => bwT (hbP w h)) (bwT b_30) rfl ?_
    refine z_imul dT_grow_56 ?_
    refine z_bipush (v := 32) dT_grow_57 (by decide) ?_
    rw [z_2, show (32 : Int32) = nI 32 from rfl]
    refine z_icmp_gt (tgt := 78) dT_grow_59 (by decide) (fun c => k78 _ _ (Or.inl ⟨rfl, (nI_ltI (by omega) (by omega)).mp c⟩)) (fun c => ?_)
    have hA : 2 * w k ≤ 32 := Nat.not_lt.mp (fun q => c (nI_lt q (by omega)))
    refine z_iload dT_grow_62 rfl ?_
    refine z_if_eq (tgt := 80) dT_grow_64 (by decide) (fun hc9 => absurd hc9 (by decide)) (fun _ => ?_)
    refine z_iconst (v := 2) dT_grow_67 (by decide) ?_
    refine z_aload_n dT_grow_68 rfl ?_
    refine z_get (C := RP) (T := TP) (N := 4) (ref := "ToneMixer$Plane") 2 dT_grow_69 (tw_pl hk) rfl rfl (by decide) (fun w h => bwT (hbP w h)) (bwT b_32) rfl ?_
    refine z_imul dT_grow_72 ?_
    refine z_bipush (v := 32) dT_grow_73 (by decide) ?_
    rw [z_2, show (32 : Int32) = nI 32 from rfl]
    refine z_icmp_le (tgt := 80) dT_grow_75 (by decide) (fun c => ?_) (fun c => k78 _ _ (Or.inr ⟨rfl, Nat.not_le.mp (fun q => c (nI_le q (by omega)))⟩))
    have hD : 2 * h k ≤ 32 := (nI_leI (by omega) (by omega)).mp c
    have hno : ¬ tooL 5 (w k) (h k) := by
      rintro (⟨q1, q2⟩ | ⟨q1, q2⟩)
      · omega
      · omega
    refine z_iload_n dT_grow_80 rfl ?_
    refine z_iconst (v := 2) dT_grow_81 (by decide) ?_
    refine z_irem dT_grow_82 (by decide) ?_
    refine z_iconst (v := 1) dT_grow_83 (by decide) ?_
    refine z_icmp_ne (tgt := 91) dT_grow_84 (by decide) (fun hc9 => absurd hc9 (by decide)) (fun _ => ?_)
    refine z_iconst (v := 1) dT_grow_87 (by decide) ?_
    refine z_goto (tgt := 92) dT_grow_88 (by decide) ?_
    refine z_istore dT_grow_92 (by decide) rfl ?_
    try simp only [List.set_cons_succ, List.set_cons_zero]
    refine z_iload dT_grow_94 rfl ?_
    refine z_if_eq (tgt := 105) dT_grow_96 (by decide) (fun hc9 => absurd hc9 (by decide)) (fun _ => ?_)
    refine z_aload_n dT_grow_99 rfl ?_
    refine z_iload dT_grow_100 rfl ?_
    refine z_part (plx k) (z_V (C := RP) (b := 0) hE (zEok_ev _ _ _ _) (c_growAcross _ D ca _ (f k) (g k) sa (w k) (h k) true hk2 hk4 hA) dT_grow_102 (gd_V b_252 b_253 b_254 b_2 b_255) rfl qP_growAcross ⟨rfl, rfl⟩ (by rw [hR]; decide) (by rw [hR, hC, hS]; decide) rfl (Nat.le_of_ble_eq_true rfl) rfl rfl) (plx_nd k) (tw_in hk) (fun r aw1 hlen hr => ?_)
    obtain ⟨rfl, rfl⟩ := hr
    rw [tw_put hk, va_upn, va_upn0]
    simp only [zpush]
    refine z_iload dT_grow_105 rfl ?_
    refine z_if_eq (tgt := 116) dT_grow_107 (by decide) (fun hc9 => absurd hc9 (by decide)) (fun _ => ?_)
    refine z_aload_n dT_grow_110 rfl ?_
    refine z_iload dT_grow_111 rfl ?_
    refine z_part (plx k) (z_V (C := RP) (b := 0) hE (zEok_ev _ _ _ _) (c_growDown _ D ca _ (grA true (w k) (f k) (g k) (h k)).1 (grA true (w k) (f k) (g k) (h k)).2 sa (2 * w k) (h k) true (by omega) hk4 hD) dT_grow_113 (gd_V b_261 b_262 b_263 b_2 b_264) rfl qP_growDown ⟨rfl, rfl⟩ (by rw [hR]; decide) (by rw [hR, hC, hS]; decide) rfl (Nat.le_of_ble_eq_true rfl) rfl rfl) (plx_nd k) (by have h9 := tw_in (ca := ca) (f := va_up f k (grA true (w k) (f k) (g k) (h k)).1) (g := va_up g k (grA true (w k) (f k) (g k) (h k)).2) (w := fun j => nI (va_up w k (2 * w k) j)) (h := fun k => nI (h k)) hk; rw [va_up_self, va_up_self, va_up_self] at h9; exact h9) (fun r aw1 hlen hr => ?_)
    obtain ⟨rfl, rfl⟩ := hr
    rw [tw_put hk, bx_uu, bx_uu, va_upn, va_upn, bx_uu]
    simp only [zpush]
    refine z_iconst (v := 1) dT_grow_116 (by decide) ?_
    refine z_ireturn dT_grow_117 rfl hX.ret (by rw [hC, hS]; decide) rfl ⟨k, hk, rfl, Or.inr ⟨5, by omega, rfl, hno, rfl, ?_⟩⟩
    rfl
theorem sw_of {x : Int32} (n : Nat) (hn : n < 2 ^ 31) (h1 : ¬ x.toInt < 0) (h2 : ¬ (n : Int) < x.toInt) : ∃ v : Nat, v ≤ n ∧ x = nI v := by
  have h0 : ¬ x < 0 := fun q => h1 (by rw [Int32.lt_iff_toInt_lt] at q; rw [show (0 : Int32).toInt = 0 by decide] at q; exact q)
  obtain ⟨v, hv, rfl⟩ := nI_of h0
  rw [nI_toInt hv] at h2
  exact ⟨v, by omega, rfl⟩
def shr (v : Nat) (f : Nat → Int32) (w h : Nat) : (Nat → Int32) × Nat × Nat :=
  if v = 0 then (shA w f h, (w + 1) / 2, h) else if v = 1 then (shD h f w, w, (h + 1) / 2) else (shB w h f ((h + 1) / 2), (w + 1) / 2, (h + 1) / 2)
set_option maxRecDepth 100000 in
set_option maxHeartbeats 4000000 in
theorem c_shrink (l : Launch) (hl9 : l.stackTraces = false) (D : va_G) (ca : Nat → ClassId) (ad : Nat → Nat) (sa : Nat → Nat) (f g : Nat → Nat → Int32) (w h : Nat → Nat) (hwh : okW w h) (n how : Int32) : zXet l yT_shrink wT_shrink (rmk 7 1 6) 1 6 (zEx sa) (gG D ca ad) (twn ca f g w h) [.ref 0, .int n, .int how] (fun r aw => ∃ k : Nat, k < 4 ∧ n = nI k ∧ (((how.toInt < 0 ∨ 2 < how.toInt) ∧ r = some (.int 0) ∧ aw = twn ca f g w h) ∨ ∃ v : Nat, v < 3 ∧ how = nI v ∧ r = some (.int 1) ∧ aw = twn ca (va_up f k (shr v (f k) (w k) (h k)).1) g (va_up w k (shr v (f k) (w k) (h k)).2.1) (va_up h k (shr v (f k) (w k) (h k)).2.2))) (fun E => E = IOB ∧ noP n) := by
  refine zXet.of (cc := cT_shrink) (maxL := 4) (ret := (some .boolean)) (lv := [some (.ref 0), some (.int n), some (.int how), none]) (by decide) rfl (Nat.le_of_ble_eq_true rfl) rfl (fun M hl0 hR hC hS hE hX => ?_)
  refine z_aload_n dT_shrink_0 rfl ?_
  refine z_iload_n dT_shrink_1 rfl ?_
  refine zx_same (zx_V (C := RT) (b := 0) hE (zEok_ev _ _ _ _) (c_planeOf _ (by rw [hl0]; exact hl9) D ca ad sa f g _ _ n) dT_shrink_2 (gd_V b_124 b_126 bs_8 b_1 b_127) rfl qT_planeOf ⟨rfl, rfl⟩ (by rw [hR]; decide) (by rw [hR, hC, hS]; decide) rfl (Nat.le_of_ble_eq_true rfl) rfl rfl) hX (fun E h => h) (by rw [hC, hS]; decide) (fun r aw1 hlen hr => ?_)
  obtain ⟨N, hN⟩ : ∃ N, N = zup M 1 6 := ⟨_, rfl⟩
  rw [← hN]
  replace hl0 := (by rw [hN, zup_l0]; exact hl0 : zl0 N = l)
  replace hR := (show zroom N = zroom M by rw [hN, zup_room]).trans hR
  replace hC := (by rw [hN, zup_cells, hC] : zcells N = 1)
  replace hS := (by rw [hN, zup_slots, hS] : zslots N = 6)
  replace hE := (by rw [hN]; exact zup_En hE : zEn N (zEx sa))
  replace hX := (by rw [hN]; exact zup_RetX hX : zRetX N _ _ _ _ _ _)
  clear hN
  obtain ⟨rfl, k, hk, rfl, rfl⟩ := hr
  simp only [zpush, zv]
  obtain ⟨hk1, hk2, hk3, hk4⟩ := hwh k hk
  refine z_astore_n dT_shrink_5 (by decide) rfl ?_
  try simp only [List.set_cons_succ, List.set_cons_zero]
  refine z_iload_n dT_shrink_6 rfl ?_
  by_cases hb : how.toInt < 0 ∨ 2 < how.toInt
  · refine z_tableOut (tgt := 50) dT_shrink_7 hb (by decide) ?_
    refine z_iconst (v := 0) dT_shrink_50 (by decide) ?_
    exact z_ireturn dT_shrink_51 rfl hX.ret (by rw [hC, hS]; decide) rfl ⟨k, hk, rfl, Or.inl ⟨hb, rfl, rfl⟩⟩
  · obtain ⟨v, hv, rfl⟩ := sw_of 2 (by decide) (fun q => hb (Or.inl q)) (fun q => hb (Or.inr q))
    clear hb
    rcases (show v = 0 ∨ v = 1 ∨ v = 2 by omega) with rfl | rfl | rfl
    · refine z_tableIn (off := 25) (tgt := 32) dT_shrink_7 (by decide) (by decide) rfl (by decide) ?_
      refine z_aload_n dT_shrink_32 rfl ?_
      refine z_part (plx k) (z_V (C := RP) (b := 0) hE (zEok_ev _ _ _ _) (c_shrinkAcross _ D ca _ (f k) (g k) sa (w k) (h k) hk1 hk3 hk2 hk4) dT_shrink_33 (gd_V b_272 b_273 b_274 b_2 b_275) rfl qP_shrinkAcross ⟨rfl, rfl⟩ (by rw [hR]; decide) (by rw [hR, hC, hS]; decide) rfl (Nat.le_of_ble_eq_true rfl) rfl rfl) (plx_nd k) (tw_in hk) (fun r aw1 hlen hr => ?_)
      obtain ⟨rfl, rfl⟩ := hr
      rw [tw_put hk, va_upn, va_upn0, va_upk]
      simp only [zpush]
      refine z_iconst (v := 1) dT_shrink_36 (by decide) ?_
      refine z_ireturn dT_shrink_37 rfl hX.ret (by rw [hC, hS]; decide) rfl ⟨k, hk, rfl, Or.inr ⟨0, by omega, rfl, rfl, ?_⟩⟩
      show _ = twn ca (va_up f k _) g (va_up w k _) (va_up h k (h k))
      rw [va_upk]; rfl
    · refine z_tableIn (off := 31) (tgt := 38) dT_shrink_7 (by decide) (by decide) rfl (by decide) ?_
      refine z_aload_n dT_shrink_38 rfl ?_
      refine z_part (plx k) (z_V (C := RP) (b := 0) hE (zEok_ev _ _ _ _) (c_shrinkDown _ D ca _ (f k) (g k) sa (w k) (h k) hk1 hk3 hk2 hk4) dT_shrink_39 (gd_V b_284 b_285 b_286 b_2 b_287) rfl qP_shrinkDown ⟨rfl, rfl⟩ (by rw [hR]; decide) (by rw [hR, hC, hS]; decide) rfl (Nat.le_of_ble_eq_true rfl) rfl rfl) (plx_nd k) (tw_in hk) (fun r aw1 hlen hr => ?_)
      obtain ⟨rfl, rfl⟩ := hr
      rw [tw_put hk, va_upn0 w, va_upn, va_upk]
      simp only [zpush]
      refine z_iconst (v := 1) dT_shrink_42 (by decide) ?_
      refine z_ireturn dT_shrink_43 rfl hX.ret (by rw [hC, hS]; decide) rfl ⟨k, hk, rfl, Or.inr ⟨1, by omega, rfl, rfl, ?_⟩⟩
      show _ = twn ca (va_up f k _) g (va_up w k (w k)) (va_up h k _)
      rw [va_upk]; rfl
    · refine z_tableIn (off := 37) (tgt := 44) dT_shrink_7 (by decide) (by decide) rfl (by decide) ?_
      refine z_aload_n dT_shrink_44 rfl ?_
      refine z_part (plx k) (z_V (C := RP) (b := 0) hE (zEok_ev _ _ _ _) (c_shrinkBoth _ D ca _ (f k) (g k) sa (w k) (h k) hk1 hk3 hk2 hk4) dT_shrink_45 (gd_V b_288 b_289 b_290 b_2 b_291) rfl qP_shrinkBoth ⟨rfl, rfl⟩ (by rw [hR]; decide) (by rw [hR, hC, hS]; decide) rfl (Nat.le_of_ble_eq_true rfl) rfl rfl) (plx_nd k) (tw_in hk) (fun r aw1 hlen hr => ?_)
      obtain ⟨rfl, rfl⟩ := hr
      rw [tw_put hk, va_upn, va_upn, va_upk]
      simp only [zpush]
      refine z_iconst (v := 1) dT_shrink_48 (by decide) ?_
      exact z_ireturn dT_shrink_49 rfl hX.ret (by rw [hC, hS]; decide) rfl ⟨k, hk, rfl, Or.inr ⟨2, by omega, rfl, rfl, rfl⟩⟩
def lkv (v : Nat) (f : Nat → Int32) (w h : Nat) : Int32 := if v = 0 then nI w else if v = 1 then nI h else if v = 2 then allF (fun a b => a + b) f w h 0 else if v = 3 then allF (fun a b => if b < a then b else a) f w h 255 else allF (fun a b => if a < b then b else a) f w h 0
set_option maxRecDepth 100000 in
set_option maxHeartbeats 4000000 in
theorem c_look (l : Launch) (hl9 : l.stackTraces = false) (D : va_G) (ca : Nat → ClassId) (ad : Nat → Nat) (sa : Nat → Nat) (f g : Nat → Nat → Int32) (w h : Nat → Nat) (hwh : okW w h) (n how : Int32) : zXet l yT_look wT_look (rmk 7 1 6) 1 6 (zEx sa) (gG D ca ad) (twn ca f g w h) [.ref 0, .int n, .int how] (fun r aw => ∃ k : Nat, k < 4 ∧ n = nI k ∧ aw = twn ca f g w h ∧ (((how.toInt < 0 ∨ 4 < how.toInt) ∧ r = some (.int (-1))) ∨ ∃ v : Nat, v < 5 ∧ how = nI v ∧ r = some (.int (lkv v (f k) (w k) (h k))))) (fun E => E = IOB ∧ noP n) := by
  refine zXet.of (cc := cT_look) (maxL := 4) (ret := (some .int)) (lv := [some (.ref 0), some (.int n), some (.int how), none]) (by decide) rfl (Nat.le_of_ble_eq_true rfl) rfl (fun M hl0 hR hC hS hE hX => ?_)
  refine z_aload_n dT_look_0 rfl ?_
  refine z_iload_n dT_look_1 rfl ?_
  refine zx_same (zx_V (C := RT) (b := 0) hE (zEok_ev _ _ _ _) (c_planeOf _ (by rw [hl0]; exact hl9) D ca ad sa f g _ _ n) dT_look_2 (gd_V b_124 b_126 bs_8 b_1 b_127) rfl qT_planeOf ⟨rfl, rfl⟩ (by rw [hR]; decide) (by rw [hR, hC, hS]; decide) rfl (Nat.le_of_ble_eq_true rfl) rfl rfl) hX (fun E h => h) (by rw [hC, hS]; decide) (fun r aw1 hlen hr => ?_)
  obtain ⟨N, hN⟩ : ∃ N, N = zup M 1 6 := ⟨_, rfl⟩
  rw [← hN]
  replace hl0 := (by rw [hN, zup_l0]; exact hl0 : zl0 N = l)
  replace hR := (show zroom N = zroom M by rw [hN, zup_room]).trans hR
  replace hC := (by rw [hN, zup_cells, hC] : zcells N = 1)
  replace hS := (by rw [hN, zup_slots, hS] : zslots N = 6)
  replace hE := (by rw [hN]; exact zup_En hE : zEn N (zEx sa))
  replace hX := (by rw [hN]; exact zup_RetX hX : zRetX N _ _ _ _ _ _)
  clear hN
  obtain ⟨rfl, k, hk, rfl, rfl⟩ := hr
  simp only [zpush, zv]
  obtain ⟨hk1, hk2, hk3, hk4⟩ := hwh k hk
  refine z_astore_n dT_look_5 (by decide) rfl ?_
  try simp only [List.set_cons_succ, List.set_cons_zero]
  refine z_iload_n dT_look_6 rfl ?_
  by_cases hb : how.toInt < 0 ∨ 4 < how.toInt
  · refine z_tableOut (tgt := 65) dT_look_7 hb (by decide) ?_
    refine z_iconst (v := -1) dT_look_65 (by decide) ?_
    exact z_ireturn dT_look_66 rfl hX.ret (by rw [hC, hS]; decide) rfl ⟨k, hk, rfl, rfl, Or.inl ⟨hb, rfl⟩⟩
  · obtain ⟨v, hv, rfl⟩ := sw_of 4 (by decide) (fun q => hb (Or.inl q)) (fun q => hb (Or.inr q))
    clear hb
    rcases (show v = 0 ∨ v = 1 ∨ v = 2 ∨ v = 3 ∨ v = 4 by omega) with rfl | rfl | rfl | rfl | rfl
    · refine z_tableIn (off := 33) (tgt := 40) dT_look_7 (by decide) (by decide) rfl (by decide) ?_
      refine z_aload_n dT_look_40 rfl ?_
      refine z_get (C := RP) (T := TP) (N := 4) (ref := "ToneMixer$Plane") 1 dT_look_41 (tw_pl hk) rfl rfl (by decide) (fun w h => bwT (hbP w h)) (bwT b_30) rfl ?_
      exact z_ireturn dT_look_44 rfl hX.ret (by rw [hC, hS]; decide) rfl ⟨k, hk, rfl, rfl, Or.inr ⟨0, by omega, rfl, rfl⟩⟩
    · refine z_tableIn (off := 38) (tgt := 45) dT_look_7 (by decide) (by decide) rfl (by decide) ?_
      refine z_aload_n dT_look_45 rfl ?_
      refine z_get (C := RP) (T := TP) (N := 4) (ref := "ToneMixer$Plane") 2 dT_look_46 (tw_pl hk) rfl rfl (by decide) (fun w h => bwT (hbP w h)) (bwT b_32) rfl ?_
      exact z_ireturn dT_look_49 rfl hX.ret (by rw [hC, hS]; decide) rfl ⟨k, hk, rfl, rfl, Or.inr ⟨1, by omega, rfl, rfl⟩⟩
    · refine z_tableIn (off := 43) (tgt := 50) dT_look_7 (by decide) (by decide) rfl (by decide) ?_
      refine z_aload_n dT_look_50 rfl ?_
      refine z_part (plx k) (z_V (C := RP) (b := 0) hE (zEok_ev _ _ _ _) (c_sum _ D ca _ (f k) (g k) sa (w k) (h k) hk2 hk4) dT_look_51 (gd_V b_368 b_369 b_370 b_2 b_371) rfl qP_sum ⟨rfl, rfl⟩ (by rw [hR]; decide) (by rw [hR, hC, hS]; decide) rfl (Nat.le_of_ble_eq_true rfl) rfl rfl) (plx_nd k) (tw_in hk) (fun r aw1 hlen hr => ?_)
      obtain ⟨rfl, rfl⟩ := hr
      rw [tw_put0 hk]
      simp only [zpush, zv]
      exact z_ireturn dT_look_54 rfl hX.ret (by rw [hC, hS]; decide) rfl ⟨k, hk, rfl, rfl, Or.inr ⟨2, by omega, rfl, rfl⟩⟩
    · refine z_tableIn (off := 48) (tgt := 55) dT_look_7 (by decide) (by decide) rfl (by decide) ?_
      refine z_aload_n dT_look_55 rfl ?_
      refine z_part (plx k) (z_V (C := RP) (b := 0) hE (zEok_ev _ _ _ _) (c_least _ D ca _ (f k) (g k) sa (w k) (h k) hk2 hk4) dT_look_56 (gd_V b_372 b_373 b_374 b_2 b_375) rfl qP_least ⟨rfl, rfl⟩ (by rw [hR]; decide) (by rw [hR, hC, hS]; decide) rfl (Nat.le_of_ble_eq_true rfl) rfl rfl) (plx_nd k) (tw_in hk) (fun r aw1 hlen hr => ?_)
      obtain ⟨rfl, rfl⟩ := hr
      rw [tw_put0 hk]
      simp only [zpush, zv]
      exact z_ireturn dT_look_59 rfl hX.ret (by rw [hC, hS]; decide) rfl ⟨k, hk, rfl, rfl, Or.inr ⟨3, by omega, rfl, rfl⟩⟩
    · refine z_tableIn (off := 53) (tgt := 60) dT_look_7 (by decide) (by decide) rfl (by decide) ?_
      refine z_aload_n dT_look_60 rfl ?_
      refine z_part (plx k) (z_V (C := RP) (b := 0) hE (zEok_ev _ _ _ _) (c_greatest _ D ca _ (f k) (g k) sa (w k) (h k) hk2 hk4) dT_look_61 (gd_V b_376 b_377 b_378 b_2 b_379) rfl qP_greatest ⟨rfl, rfl⟩ (by rw [hR]; decide) (by rw [hR, hC, hS]; decide) rfl (Nat.le_of_ble_eq_true rfl) rfl rfl) (plx_nd k) (tw_in hk) (fun r aw1 hlen hr => ?_)
      obtain ⟨rfl, rfl⟩ := hr
      rw [tw_put0 hk]
      simp only [zpush, zv]
      exact z_ireturn dT_look_64 rfl hX.ret (by rw [hC, hS]; decide) rfl ⟨k, hk, rfl, rfl, Or.inr ⟨4, by omega, rfl, rfl⟩⟩
