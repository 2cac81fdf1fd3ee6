/-- after a call that isn't done nothing but 'thrown' is other -/
def mfil (S : Nat → Int32) (k : Nat) : Nat → (Nat → Int32)
  | 0 => S
  | i + 1 => upd (mfil S k i) (1024 * k + i) 0
theorem inS (p q : Int32) : (inB p 1 32 && inB q 1 32) = true ∧ ¬ badS p q ∨ (inB p 1 32 && inB q 1 32) = false ∧ badS p q := by
  by_cases h : badS p q
  · right
    refine ⟨?_, h⟩
    rcases h with h | h | h | h <;> simp [inB, h]
  · left
    refine ⟨?_, h⟩
    have h1 : ¬ p < 1 := fun q => h (Or.inl q)
    have h2 : ¬ 32 < p := fun q => h (Or.inr (Or.inl q))
    have h3 : ¬ q < 1 := fun q => h (Or.inr (Or.inr (Or.inl q)))
    have h4 : ¬ 32 < q := fun q => h (Or.inr (Or.inr (Or.inr q)))
    simp [inB, h1, h2, h3, h4]
section
variable {M : zM} {D : va_G} {ca : Nat → ClassId} {ad : Nat → Nat} {th : Int32} {w h : Nat → Nat} {S O : Nat → Int32} {ow oh : Int32} {k : Nat} {p q : Int32}
set_option maxRecDepth 100000 in
set_option maxHeartbeats 4000000 in
theorem n_size (hk : k < 4) (kx : Zj M (gG D ca ad) cM_size 5 RM wM_size none (mwn ca th w h (mfil S k 1024) O ow oh) [some (.ref 0), some (.int (nI k)), some (.int p), some (.int q), some (.int (nI 1024))] [] 82) :
    ∀ n i, i + n = 1024 → Zj M (gG D ca ad) cM_size 5 RM wM_size none (mwn ca th w h (mfil S k i) O ow oh) [some (.ref 0), some (.int (nI k)), some (.int p), some (.int q), some (.int (nI i))] [] 54 := by
  intro n
  induction n with
  | zero =>
    intro i hi
    obtain rfl : i = 1024 := by omega
    refine z_iload dM_size_54 rfl ?_
    refine z_sipush (v := 1024) dM_size_56 (by decide) ?_
    exact z_icmp_ge (tgt := 82) dM_size_59 (by decide) (fun _ => kx) (fun hc => absurd (by decide) hc)
  | succ n ih =>
    intro i hi
    refine z_iload dM_size_54 rfl ?_
    refine z_sipush (v := 1024) dM_size_56 (by decide) ?_
    rw [show (1024 : Int32) = nI 1024 from rfl]
    refine z_icmp_ge (tgt := 82) dM_size_59 (by decide) (fun hc => absurd hc (nI_ge (by omega) (by omega))) (fun _ => ?_)
    refine z_aload_n dM_size_62 rfl ?_
    refine z_get (C := RM) (T := TM) (N := 7) (ref := "ToneMixerModel") 3 dM_size_63 rfl rfl rfl (by decide) (fun w h => bwT (hbM w h)) (bwT b_389) rfl ?_
    refine z_sipush (v := 1024) dM_size_66 (by decide) ?_
    refine z_iload_n dM_size_69 rfl ?_
    refine z_imul dM_size_70 ?_
    refine z_iload dM_size_71 rfl ?_
    refine z_iadd dM_size_73 ?_
    refine z_iconst (v := 0) dM_size_74 (by decide) ?_
    refine z_iastN (t0 := 0) (k := 1024 * k + i) dM_size_75 rfl rfl (z_1k _ _) (by omega) (by decide) ?_
    try simp only [List.set_cons_succ, List.set_cons_zero]
    refine z_iinc1 dM_size_76 (by decide) rfl rfl ?_
    try simp only [List.set_cons_succ, List.set_cons_zero]
    refine z_goto (tgt := 54) dM_size_79 (by decide) ?_
    rw [nI_1]
    exact ih (i + 1) (by omega)
end
set_option maxRecDepth 100000 in
set_option maxHeartbeats 4000000 in
theorem m_size (l : Launch) (D : va_G) (ca : Nat → ClassId) (ad : Nat → Nat) (th : Int32) (w h : Nat → Nat) (S O : Nat → Int32) (ow oh : Int32) (n p q : Int32) : zMet l yM_size wM_size (rmk 3 0 0) zE0 (gG D ca ad) (mwn ca th w h S O ow oh) [.ref 0, .int n, .int p, .int q] (fun r aw => r = none ∧ ((noP n ∧ aw = (mwn ca 1 w h S O ow oh)) ∨ (¬ noP n ∧ badS p q ∧ aw = (mwn ca 2 w h S O ow oh)) ∨ ∃ k w2 h2 : Nat, k < 4 ∧ n = nI k ∧ p = nI w2 ∧ q = nI h2 ∧ 1 ≤ w2 ∧ w2 ≤ 32 ∧ 1 ≤ h2 ∧ h2 ≤ 32 ∧ aw = (mwn ca 0 (va_up w k w2) (va_up h k h2) (mfil S k 1024) O ow oh))) := by
  refine zMet.of (cc := cM_size) (maxL := 5) (ret := none) (lv := [some (.ref 0), some (.int n), some (.int p), some (.int q), none]) (by decide) rfl (Nat.le_of_ble_eq_true rfl) rfl (fun M hl0 hR hC hS hE hret => ?_)
  have k30 : Zj M (gG D ca ad) cM_size 5 RM wM_size none (mwn ca th w h S O ow oh) [some (.ref 0), some (.int n), some (.int p), some (.int q), none] [.int (bI (inB p 1 32 && inB q 1 32)), .int (bI (inB n 0 3)), .ref 0] 30 := by
    refine z_same (z_V (C := RM) (b := 0) hE zEok_0 (m_goes _ D ca ad th w h S O ow oh (inB n 0 3) (inB p 1 32 && inB q 1 32)) dM_size_30 (gd_V b_422 b_424 bs_14 b_3 b_425) rfl qM_goes ⟨rfl, rfl⟩ (by rw [hR]; decide) (by rw [hR, hC, hS]; decide) rfl (Nat.le_of_ble_eq_true rfl) rfl rfl) (fun r aw1 hlen hr => ?_)
    obtain ⟨rfl, rfl⟩ := hr
    simp only [zpush, zv]
    rcases inP n with ⟨e1, h1⟩ | ⟨e1, k, hk, rfl⟩
    · rw [e1]
      refine z_if_ne (tgt := 37) dM_size_33 (by decide) (fun hc9 => absurd hc9 (fun q => q rfl)) (fun _ => ?_)
      exact z_return dM_size_36 hret ⟨Nat.le_of_eq hC, Nat.le_of_eq hS⟩ rfl ⟨rfl, Or.inl ⟨h1, rfl⟩⟩
    · rw [e1]
      rcases inS p q with ⟨e2, h2⟩ | ⟨e2, h2⟩
      · rw [e2]
        obtain ⟨w2, rfl, b1, b2⟩ := in32 (fun q => h2 (Or.inl q)) (fun q => h2 (Or.inr (Or.inl q)))
        obtain ⟨h2', rfl, b3, b4⟩ := in32 (fun q => h2 (Or.inr (Or.inr (Or.inl q)))) (fun q => h2 (Or.inr (Or.inr (Or.inr q))))
        refine z_if_ne (tgt := 37) dM_size_33 (by decide) (fun _ => ?_) (fun hc9 => absurd hc9 (by decide))
        refine z_aload_n dM_size_37 rfl ?_
        refine z_get (C := RM) (T := TM) (N := 7) (ref := "ToneMixerModel") 1 dM_size_38 rfl rfl rfl (by decide) (fun w h => bwT (hbM w h)) (bwT b_387) rfl ?_
        refine z_iload_n dM_size_41 rfl ?_
        refine z_iload_n dM_size_42 rfl ?_
        refine z_iastN (t0 := 0) (k := k) dM_size_43 rfl rfl (rfl) (hk) (by decide) ?_
        try simp only [List.set_cons_succ, List.set_cons_zero]
        refine z_aload_n dM_size_44 rfl ?_
        refine z_get (C := RM) (T := TM) (N := 7) (ref := "ToneMixerModel") 2 dM_size_45 rfl rfl rfl (by decide) (fun w h => bwT (hbM w h)) (bwT b_388) rfl ?_
        refine z_iload_n dM_size_48 rfl ?_
        refine z_iload_n dM_size_49 rfl ?_
        refine z_iastN (t0 := 0) (k := k) dM_size_50 rfl rfl (rfl) (hk) (by decide) ?_
        try simp only [List.set_cons_succ, List.set_cons_zero]
        refine z_iconst (v := 0) dM_size_51 (by decide) ?_
        refine z_istore dM_size_52 (by decide) rfl ?_
        try simp only [List.set_cons_succ, List.set_cons_zero]
        rw [updn, updn]
        refine n_size hk ?_ 1024 0 (by omega)
        exact z_return dM_size_82 hret ⟨Nat.le_of_eq hC, Nat.le_of_eq hS⟩ rfl ⟨rfl, Or.inr (Or.inr ⟨k, w2, h2', hk, rfl, rfl, rfl, b1, b2, b3, b4, rfl⟩)⟩
      · rw [e2]
        refine z_if_ne (tgt := 37) dM_size_33 (by decide) (fun hc9 => absurd hc9 (by decide)) (fun _ => ?_)
        exact z_return dM_size_36 hret ⟨Nat.le_of_eq hC, Nat.le_of_eq hS⟩ rfl ⟨rfl, Or.inr (Or.inl ⟨noP_k hk, h2, rfl⟩)⟩
  refine z_aload_n dM_size_0 rfl ?_
  refine z_iload_n dM_size_1 rfl ?_
  refine z_pure (z_S hE zEok_0 (m_isPlane _ _ _) dM_size_2 (gd_S b_416 b_417 b_3 b_418) rfl qM_isPlane.2 ⟨rfl, rfl⟩ (by rw [hR]; decide) (by rw [hR, hC, hS]; decide) rfl (Nat.le_of_ble_eq_true rfl)) (fun r hr => ?_)
  subst hr
  simp only [zpush, zv]
  refine z_iload_n dM_size_5 rfl ?_
  refine z_iconst (v := 1) dM_size_6 (by decide) ?_
  refine z_bipush (v := 32) dM_size_7 (by decide) ?_
  refine z_pure (z_S hE zEok_0 (m_in _ _ _ _ _) dM_size_9 (gd_S b_419 b_420 b_3 b_421) rfl qM_in.2 ⟨rfl, rfl⟩ (by rw [hR]; decide) (by rw [hR, hC, hS]; decide) rfl (Nat.le_of_ble_eq_true rfl)) (fun r hr => ?_)
  subst hr
  simp only [zpush, zv]
  cases e1 : inB p 1 32 with
  | false =>
    refine z_if_eq (tgt := 29) dM_size_12 (by decide) (fun _ => ?_) (fun hc9 => absurd hc9 (by decide))
    refine z_iconst (v := 0) dM_size_29 (by decide) ?_
    rw [e1] at k30
    exact k30
  | true =>
    refine z_if_eq (tgt := 29) dM_size_12 (by decide) (fun hc9 => absurd hc9 (by decide)) (fun _ => ?_)
    refine z_iload_n dM_size_15 rfl ?_
    refine z_iconst (v := 1) dM_size_16 (by decide) ?_
    refine z_bipush (v := 32) dM_size_17 (by decide) ?_
    refine z_pure (z_S hE zEok_0 (m_in _ _ _ _ _) dM_size_19 (gd_S b_419 b_420 b_3 b_421) rfl qM_in.2 ⟨rfl, rfl⟩ (by rw [hR]; decide) (by rw [hR, hC, hS]; decide) rfl (Nat.le_of_ble_eq_true rfl)) (fun r hr => ?_)
    subst hr
    simp only [zpush, zv]
    rw [e1] at k30
    cases e2 : inB q 1 32 with
    | false =>
      refine z_if_eq (tgt := 29) dM_size_22 (by decide) (fun _ => ?_) (fun hc9 => absurd hc9 (by decide))
      refine z_iconst (v := 0) dM_size_29 (by decide) ?_
      rw [e2] at k30
      exact k30
    | true =>
      refine z_if_eq (tgt := 29) dM_size_22 (by decide) (fun hc9 => absurd hc9 (by decide)) (fun _ => ?_)
      refine z_iconst (v := 1) dM_size_25 (by decide) ?_
      refine z_goto (tgt := 30) dM_size_26 (by decide) ?_
      rw [e2] at k30
      exact k30
theorem in255 (v : Int32) : (inB v 0 255 = true ∧ ∃ c : Nat, c ≤ 255 ∧ v = nI c) ∨ (inB v 0 255 = false ∧ (v < 0 ∨ 255 < v)) := by
  by_cases h1 : v < 0
  · exact Or.inr ⟨by simp [inB, h1], Or.inl h1⟩
  · by_cases h2 : 255 < v
    · exact Or.inr ⟨by simp [inB, h2], Or.inr h2⟩
    · obtain ⟨c, hc, rfl⟩ := nI_of2 (M := 255) (n := 255) (by decide) h1 (Int32.not_lt.mp h2)
      exact Or.inl ⟨by simp [inB, h1, h2], c, hc, rfl⟩
/-- no such sample, or the plane and the place -/
theorem isS_of {w h : Nat → Nat} (hwh : okW w h) {p x y : Int32} {b : Bool} (hs : isS w h p x y b) : (b = false ∧ (noP p ∨ ∃ k : Nat, k < 4 ∧ p = nI k ∧ hasB (nI (w k)) (nI (h k)) x y = false)) ∨ (b = true ∧ ∃ k a c : Nat, k < 4 ∧ p = nI k ∧ a < w k ∧ c < h k ∧ x = nI a ∧ y = nI c) := by
  rcases hs with ⟨h1, rfl⟩ | ⟨k, hk, rfl, rfl⟩
  · exact Or.inl ⟨rfl, Or.inl h1⟩
  · cases e : hasB (nI (w k)) (nI (h k)) x y with
    | false => exact Or.inl ⟨rfl, Or.inr ⟨k, hk, rfl, e⟩⟩
    | true =>
      obtain ⟨a, c, ha, hc, rfl, rfl⟩ := hasB_of (hwh k hk).2.1 (hwh k hk).2.2.2 e
      exact Or.inr ⟨rfl, k, a, c, hk, rfl, ha, hc, rfl, rfl⟩
set_option maxRecDepth 100000 in
set_option maxHeartbeats 4000000 in
theorem m_put (l : Launch) (D : va_G) (ca : Nat → ClassId) (ad : Nat → Nat) (th : Int32) (w h : Nat → Nat) (S O : Nat → Int32) (ow oh : Int32) (hwh : okW w h) (n x y v : Int32) : zMet l yM_put wM_put (rmk 3 0 0) zE0 (gG D ca ad) (mwn ca th w h S O ow oh) [.ref 0, .int n, .int x, .int y, .int v] (fun r aw => r = none ∧ (((noP n ∨ ∃ k : Nat, k < 4 ∧ n = nI k ∧ hasB (nI (w k)) (nI (h k)) x y = false) ∧ aw = (mwn ca 1 w h S O ow oh)) ∨ ∃ k a b : Nat, k < 4 ∧ n = nI k ∧ a < w k ∧ b < h k ∧ x = nI a ∧ y = nI b ∧ (((v < 0 ∨ 255 < v) ∧ aw = (mwn ca 2 w h S O ow oh)) ∨ ∃ c : Nat, c ≤ 255 ∧ v = nI c ∧ aw = (mwn ca 0 w h (upd S (1024 * k + 32 * b + a) v) O ow oh)))) := by
  refine zMet.of (cc := cM_put) (maxL := 5) (ret := none) (lv := [some (.ref 0), some (.int n), some (.int x), some (.int y), some (.int v)]) (by decide) rfl (Nat.le_of_ble_eq_true rfl) rfl (fun M hl0 hR hC hS hE hret => ?_)
  refine z_aload_n dM_put_0 rfl ?_
  refine z_aload_n dM_put_1 rfl ?_
  refine z_iload_n dM_put_2 rfl ?_
  refine z_iload_n dM_put_3 rfl ?_
  refine z_iload_n dM_put_4 rfl ?_
  refine z_same (z_V (C := RM) (b := 0) hE zEok_0 (m_isSample _ D ca ad th w h S O ow oh hwh n x y) dM_put_5 (gd_V b_430 b_432 bs_15 b_3 b_433) rfl qM_isSample ⟨rfl, rfl⟩ (by rw [hR]; decide) (by rw [hR, hC, hS]; decide) rfl (Nat.le_of_ble_eq_true rfl) rfl rfl) (fun r aw1 hlen hr => ?_)
  obtain ⟨rfl, bb, rfl, hbb⟩ := hr
  simp only [zpush, zv]
  refine z_iload dM_put_8 rfl ?_
  refine z_iconst (v := 0) dM_put_10 (by decide) ?_
  refine z_sipush (v := 255) dM_put_11 (by decide) ?_
  refine z_pure (z_S hE zEok_0 (m_in _ _ _ _ _) dM_put_14 (gd_S b_419 b_420 b_3 b_421) rfl qM_in.2 ⟨rfl, rfl⟩ (by rw [hR]; decide) (by rw [hR, hC, hS]; decide) rfl (Nat.le_of_ble_eq_true rfl)) (fun r hr => ?_)
  subst hr
  simp only [zpush, zv]
  refine z_same (z_V (C := RM) (b := 0) hE zEok_0 (m_goes _ D ca ad th w h S O ow oh (bb) (inB v 0 255)) dM_put_17 (gd_V b_422 b_424 bs_14 b_3 b_425) rfl qM_goes ⟨rfl, rfl⟩ (by rw [hR]; decide) (by rw [hR, hC, hS]; decide) rfl (Nat.le_of_ble_eq_true rfl) rfl rfl) (fun r aw1 hlen hr => ?_)
  obtain ⟨rfl, rfl⟩ := hr
  simp only [zpush, zv]
  rcases isS_of hwh hbb with ⟨rfl, hno⟩ | ⟨rfl, k, a, b, hk, rfl, ha, hb, rfl, rfl⟩
  · skip
    refine z_if_eq (tgt := 36) dM_put_20 (by decide) (fun _ => ?_) (fun hc9 => absurd hc9 (fun q => q rfl))
    exact z_return dM_put_36 hret ⟨Nat.le_of_eq hC, Nat.le_of_eq hS⟩ rfl ⟨rfl, Or.inl ⟨hno, rfl⟩⟩
  · obtain ⟨hk1, hk2, hk3, hk4⟩ := hwh k hk
    rcases in255 v with ⟨e, c, hc, rfl⟩ | ⟨e, hv⟩
    · rw [e]
      refine z_if_eq (tgt := 36) dM_put_20 (by decide) (fun hc9 => absurd hc9 (by decide)) (fun _ => ?_)
      refine z_aload_n dM_put_23 rfl ?_
      refine z_get (C := RM) (T := TM) (N := 7) (ref := "ToneMixerModel") 3 dM_put_24 rfl rfl rfl (by decide) (fun w h => bwT (hbM w h)) (bwT b_389) rfl ?_
      refine z_iload_n dM_put_27 rfl ?_
      refine z_iload_n dM_put_28 rfl ?_
      refine z_iload_n dM_put_29 rfl ?_
      refine z_pure (z_S hE zEok_0 (m_cell _ _ _ _ _) dM_put_30 (gd_S b_434 b_435 b_3 b_436) rfl qM_cell.2 ⟨rfl, rfl⟩ (by rw [hR]; decide) (by rw [hR, hC, hS]; decide) rfl (Nat.le_of_ble_eq_true rfl)) (fun r hr => ?_)
      subst hr
      simp only [zpush, zv]
      rw [z_cell]
      refine z_iload dM_put_33 rfl ?_
      refine z_iastN (t0 := 0) (k := 1024 * k + 32 * b + a) dM_put_35 rfl rfl (rfl) (by omega) (by decide) ?_
      try simp only [List.set_cons_succ, List.set_cons_zero]
      exact z_return dM_put_36 hret ⟨Nat.le_of_eq hC, Nat.le_of_eq hS⟩ rfl ⟨rfl, Or.inr ⟨k, a, b, hk, rfl, ha, hb, rfl, rfl, Or.inr ⟨c, hc, rfl, rfl⟩⟩⟩
    · rw [e]
      refine z_if_eq (tgt := 36) dM_put_20 (by decide) (fun _ => ?_) (fun hc9 => absurd hc9 (by decide))
      exact z_return dM_put_36 hret ⟨Nat.le_of_eq hC, Nat.le_of_eq hS⟩ rfl ⟨rfl, Or.inr ⟨k, a, b, hk, rfl, ha, hb, rfl, rfl, Or.inl ⟨hv, rfl⟩⟩⟩
set_option maxRecDepth 100000 in
set_option maxHeartbeats 4000000 in
theorem m_at (l : Launch) (D : va_G) (ca : Nat → ClassId) (ad : Nat → Nat) (th : Int32) (w h : Nat → Nat) (S O : Nat → Int32) (ow oh : Int32) (hwh : okW w h) (n x y : Int32) : zMet l yM_at wM_at (rmk 3 0 0) zE0 (gG D ca ad) (mwn ca th w h S O ow oh) [.ref 0, .int n, .int x, .int y] (fun r aw => (((noP n ∨ ∃ k : Nat, k < 4 ∧ n = nI k ∧ hasB (nI (w k)) (nI (h k)) x y = false) ∧ r = some (.int 0) ∧ aw = (mwn ca 1 w h S O ow oh)) ∨ ∃ k a b : Nat, k < 4 ∧ n = nI k ∧ a < w k ∧ b < h k ∧ x = nI a ∧ y = nI b ∧ r = some (.int (S (1024 * k + 32 * b + a))) ∧ aw = (mwn ca 0 w h S O ow oh))) := by
  refine zMet.of (cc := cM_at) (maxL := 4) (ret := (some .int)) (lv := [some (.ref 0), some (.int n), some (.int x), some (.int y)]) (by decide) rfl (Nat.le_of_ble_eq_true rfl) rfl (fun M hl0 hR hC hS hE hret => ?_)
  refine z_aload_n dM_at_0 rfl ?_
  refine z_aload_n dM_at_1 rfl ?_
  refine z_iload_n dM_at_2 rfl ?_
  refine z_iload_n dM_at_3 rfl ?_
  refine z_iload_n dM_at_4 rfl ?_
  refine z_same (z_V (C := RM) (b := 0) hE zEok_0 (m_isSample _ D ca ad th w h S O ow oh hwh n x y) dM_at_5 (gd_V b_430 b_432 bs_15 b_3 b_433) rfl qM_isSample ⟨rfl, rfl⟩ (by rw [hR]; decide) (by rw [hR, hC, hS]; decide) rfl (Nat.le_of_ble_eq_true rfl) rfl rfl) (fun r aw1 hlen hr => ?_)
  obtain ⟨rfl, bb, rfl, hbb⟩ := hr
  simp only [zpush, zv]
  refine z_iconst (v := 1) dM_at_8 (by decide) ?_
  refine z_same (z_V (C := RM) (b := 0) hE zEok_0 (m_goes _ D ca ad th w h S O ow oh (bb) (true)) dM_at_9 (gd_V b_422 b_424 bs_14 b_3 b_425) rfl qM_goes ⟨rfl, rfl⟩ (by rw [hR]; decide) (by rw [hR, hC, hS]; decide) rfl (Nat.le_of_ble_eq_true rfl) rfl rfl) (fun r aw1 hlen hr => ?_)
  obtain ⟨rfl, rfl⟩ := hr
  simp only [zpush, zv]
  rcases isS_of hwh hbb with ⟨rfl, hno⟩ | ⟨rfl, k, a, b, hk, rfl, ha, hb, rfl, rfl⟩
  · skip
    refine z_if_eq (tgt := 29) dM_at_12 (by decide) (fun _ => ?_) (fun hc9 => absurd hc9 (by decide))
    refine z_iconst (v := 0) dM_at_29 (by decide) ?_
    exact z_ireturn dM_at_30 rfl hret ⟨Nat.le_of_eq hC, Nat.le_of_eq hS⟩ rfl (Or.inl ⟨hno, rfl, rfl⟩)
  · obtain ⟨hk1, hk2, hk3, hk4⟩ := hwh k hk
    refine z_if_eq (tgt := 29) dM_at_12 (by decide) (fun hc9 => absurd hc9 (by decide)) (fun _ => ?_)
    refine z_aload_n dM_at_15 rfl ?_
    refine z_get (C := RM) (T := TM) (N := 7) (ref := "ToneMixerModel") 3 dM_at_16 rfl rfl rfl (by decide) (fun w h => bwT (hbM w h)) (bwT b_389) rfl ?_
    refine z_iload_n dM_at_19 rfl ?_
    refine z_iload_n dM_at_20 rfl ?_
    refine z_iload_n dM_at_21 rfl ?_
    refine z_pure (z_S hE zEok_0 (m_cell _ _ _ _ _) dM_at_22 (gd_S b_434 b_435 b_3 b_436) rfl qM_cell.2 ⟨rfl, rfl⟩ (by rw [hR]; decide) (by rw [hR, hC, hS]; decide) rfl (Nat.le_of_ble_eq_true rfl)) (fun r hr => ?_)
    subst hr
    simp only [zpush, zv]
    rw [z_cell]
    refine z_ialdN (t0 := 0) (k := 1024 * k + 32 * b + a) dM_at_25 rfl rfl (rfl) (by omega) (by decide) ?_
    refine z_goto (tgt := 30) dM_at_26 (by decide) ?_
    exact z_ireturn dM_at_30 rfl hret ⟨Nat.le_of_eq hC, Nat.le_of_eq hS⟩ rfl (Or.inr ⟨k, a, b, hk, rfl, ha, hb, rfl, rfl, rfl, rfl⟩)
def mrv (e : Int64) (i : Nat) : Int32 := ((e >>> (((56 : Int32) - 8 * nI i).toInt64 &&& 63)) &&& 255).toInt32
def mrw (e : Int64) (S : Nat → Int32) (k a b : Nat) : Nat → (Nat → Int32)
  | 0 => S
  | i + 1 => upd (mrw e S k a b i) (1024 * k + 32 * b + (a + i)) (mrv e i)
section
variable {M : zM} {D : va_G} {ca : Nat → ClassId} {ad : Nat → Nat} {th : Int32} {w h : Nat → Nat} {S O : Nat → Int32} {ow oh : Int32} {k : Nat} {a b : Nat} {e : Int64}
set_option maxRecDepth 100000 in
set_option maxHeartbeats 4000000 in
theorem n_row (hwh : okW w h) (hk : k < 4) (ha : a < w k) (hb : b < h k) (hR : zroom M = rmk 3 0 0) (hC : zcells M = 0) (hS : zslots M = 0) (hE : zEn M zE0) (kx : Zj M (gG D ca ad) cM_row 7 RM wM_row none (mwn ca th w h (mrw e S k a b (mn 8 (w k - a))) O ow oh) [some (.ref 0), some (.int (nI k)), some (.int (nI a)), some (.int (nI b)), some (.long e), none, some (.int (nI (mn 8 (w k - a))))] [] 75) :
    ∀ n i, i + n = (mn 8 (w k - a)) → Zj M (gG D ca ad) cM_row 7 RM wM_row none (mwn ca th w h (mrw e S k a b i) O ow oh) [some (.ref 0), some (.int (nI k)), some (.int (nI a)), some (.int (nI b)), some (.long e), none, some (.int (nI i))] [] 19 := by
  obtain ⟨hk1, hk2, hk3, hk4⟩ := hwh k hk
  have hm : mn 8 (w k - a) ≤ 8 ∧ mn 8 (w k - a) ≤ w k - a ∧ (mn 8 (w k - a) = 8 ∨ mn 8 (w k - a) = w k - a) := by
    unfold mn; split <;> omega
  obtain ⟨hm1, hm2, hm3⟩ := hm
  intro n
  induction n with
  | zero =>
    intro i hi
    obtain rfl : i = (mn 8 (w k - a)) := by omega
    refine z_iload dM_row_19 rfl ?_
    refine z_bipush (v := 8) dM_row_21 (by decide) ?_
    rw [show (8 : Int32) = nI 8 from rfl]
    refine z_icmp_ge (tgt := 75) dM_row_23 (by decide) (fun _ => kx) (fun hc => ?_)
    have h8 : mn 8 (w k - a) < 8 := by
      rcases Nat.lt_or_ge (mn 8 (w k - a)) 8 with q | q
      · exact q
      · exact absurd (nI_le q (by omega)) hc
    refine z_iload_n dM_row_26 rfl ?_
    refine z_iload dM_row_27 rfl ?_
    refine z_iadd dM_row_29 ?_
    refine z_aload_n dM_row_30 rfl ?_
    refine z_get (C := RM) (T := TM) (N := 7) (ref := "ToneMixerModel") 1 dM_row_31 rfl rfl rfl (by decide) (fun w h => bwT (hbM w h)) (bwT b_387) rfl ?_
    refine z_iload_n dM_row_34 rfl ?_
    refine z_ialdN (t0 := 0) (k := k) dM_row_35 rfl rfl (rfl) (hk) (by decide) ?_
    rw [nI_add]
    exact z_icmp_ge (tgt := 75) dM_row_36 (by decide) (fun _ => kx) (fun hc => absurd (nI_le (by omega) (by omega)) hc)
  | succ n ih =>
    intro i hi
    refine z_iload dM_row_19 rfl ?_
    refine z_bipush (v := 8) dM_row_21 (by decide) ?_
    rw [show (8 : Int32) = nI 8 from rfl]
    refine z_icmp_ge (tgt := 75) dM_row_23 (by decide) (fun hc => absurd hc (nI_ge (by omega) (by omega))) (fun _ => ?_)
    refine z_iload_n dM_row_26 rfl ?_
    refine z_iload dM_row_27 rfl ?_
    refine z_iadd dM_row_29 ?_
    refine z_aload_n dM_row_30 rfl ?_
    refine z_get (C := RM) (T := TM) (N := 7) (ref := "ToneMixerModel") 1 dM_row_31 rfl rfl rfl (by decide) (fun w h => bwT (hbM w h)) (bwT b_387) rfl ?_
    refine z_iload_n dM_row_34 rfl ?_
    refine z_ialdN (t0 := 0) (k := k) dM_row_35 rfl rfl (rfl) (hk) (by decide) ?_
    rw [nI_add]
    refine z_icmp_ge (tgt := 75) dM_row_36 (by decide) (fun hc => absurd hc (nI_ge (by omega) (by omega))) (fun _ => ?_)
    refine z_aload_n dM_row_39 rfl ?_
    refine z_get (C := RM) (T := TM) (N := 7) (ref := "ToneMixerModel") 3 dM_row_40 rfl rfl rfl (by decide) (fun w h => bwT (hbM w h)) (bwT b_389) rfl ?_
    refine z_iload_n dM_row_43 rfl ?_
    refine z_iload_n dM_row_44 rfl ?_
    refine z_iload dM_row_45 rfl ?_
    refine z_iadd dM_row_47 ?_
    refine z_iload_n dM_row_48 rfl ?_
    rw [nI_add]
    refine z_pure (z_S hE zEok_0 (m_cell _ _ _ _ _) dM_row_49 (gd_S b_434 b_435 b_3 b_436) rfl qM_cell.2 ⟨rfl, rfl⟩ (by rw [hR]; decide) (by rw [hR, hC, hS]; decide) rfl (Nat.le_of_ble_eq_true rfl)) (fun r hr => ?_)
    subst hr
    simp only [zpush, zv]
    rw [z_cell]
    refine z_lload dM_row_52 rfl ?_
    refine z_bipush (v := 56) dM_row_54 (by decide) ?_
    refine z_bipush (v := 8) dM_row_56 (by decide) ?_
    refine z_iload dM_row_58 rfl ?_
    refine z_imul dM_row_60 ?_
    refine z_isub dM_row_61 ?_
    refine z_lshr dM_row_62 ?_
    refine z_ldc2 (v := 255) dM_row_63 (bwT b_441) ?_
    refine z_land dM_row_66 ?_
    refine z_l2i dM_row_67 ?_
    refine z_iastN (t0 := 0) (k := 1024 * k + 32 * b + (a + i)) dM_row_68 rfl rfl (rfl) (by omega) (by decide) ?_
    try simp only [List.set_cons_succ, List.set_cons_zero]
    refine z_iinc1 dM_row_69 (by decide) rfl rfl ?_
    try simp only [List.set_cons_succ, List.set_cons_zero]
    refine z_goto (tgt := 19) dM_row_72 (by decide) ?_
    rw [nI_1]
    exact ih (i + 1) (by omega)
end
set_option maxRecDepth 100000 in
set_option maxHeartbeats 4000000 in
theorem m_row (l : Launch) (D : va_G) (ca : Nat → ClassId) (ad : Nat → Nat) (th : Int32) (w h : Nat → Nat) (S O : Nat → Int32) (ow oh : Int32) (hwh : okW w h) (n x y : Int32) (e : Int64) : zMet l yM_row wM_row (rmk 3 0 0) zE0 (gG D ca ad) (mwn ca th w h S O ow oh) [.ref 0, .int n, .int x, .int y, .long e] (fun r aw => r = none ∧ (((noP n ∨ ∃ k : Nat, k < 4 ∧ n = nI k ∧ hasB (nI (w k)) (nI (h k)) x y = false) ∧ aw = (mwn ca 1 w h S O ow oh)) ∨ ∃ k a b : Nat, k < 4 ∧ n = nI k ∧ a < w k ∧ b < h k ∧ x = nI a ∧ y = nI b ∧ aw = (mwn ca 0 w h (mrw e S k a b (mn 8 (w k - a))) O ow oh))) := by
  refine zMet.of (cc := cM_row) (maxL := 7) (ret := none) (lv := [some (.ref 0), some (.int n), some (.int x), some (.int y), some (.long e), none, none]) (by decide) rfl (Nat.le_of_ble_eq_true rfl) rfl (fun M hl0 hR hC hS hE hret => ?_)
  refine z_aload_n dM_row_0 rfl ?_
  refine z_aload_n dM_row_1 rfl ?_
  refine z_iload_n dM_row_2 rfl ?_
  refine z_iload_n dM_row_3 rfl ?_
  refine z_iload_n dM_row_4 rfl ?_
  refine z_same (z_V (C := RM) (b := 0) hE zEok_0 (m_isSample _ D ca ad th w h S O ow oh hwh n x y) dM_row_5 (gd_V b_430 b_432 bs_15 b_3 b_433) rfl qM_isSample ⟨rfl, rfl⟩ (by rw [hR]; decide) (by rw [hR, hC, hS]; decide) rfl (Nat.le_of_ble_eq_true rfl) rfl rfl) (fun r aw1 hlen hr => ?_)
  obtain ⟨rfl, bb, rfl, hbb⟩ := hr
  simp only [zpush, zv]
  refine z_iconst (v := 1) dM_row_8 (by decide) ?_
  refine z_same (z_V (C := RM) (b := 0) hE zEok_0 (m_goes _ D ca ad th w h S O ow oh (bb) (true)) dM_row_9 (gd_V b_422 b_424 bs_14 b_3 b_425) rfl qM_goes ⟨rfl, rfl⟩ (by rw [hR]; decide) (by rw [hR, hC, hS]; decide) rfl (Nat.le_of_ble_eq_true rfl) rfl rfl) (fun r aw1 hlen hr => ?_)
  obtain ⟨rfl, rfl⟩ := hr
  simp only [zpush, zv]
  rcases isS_of hwh hbb with ⟨rfl, hno⟩ | ⟨rfl, k, a, b, hk, rfl, ha, hb, rfl, rfl⟩
  · skip
    refine z_if_ne (tgt := 16) dM_row_12 (by decide) (fun hc9 => absurd hc9 (by decide)) (fun _ => ?_)
    exact z_return dM_row_15 hret ⟨Nat.le_of_eq hC, Nat.le_of_eq hS⟩ rfl ⟨rfl, Or.inl ⟨hno, rfl⟩⟩
  · skip
    refine z_if_ne (tgt := 16) dM_row_12 (by decide) (fun _ => ?_) (fun hc9 => absurd hc9 (by decide))
    refine z_iconst (v := 0) dM_row_16 (by decide) ?_
    refine z_istore dM_row_17 (by decide) rfl ?_
    try simp only [List.set_cons_succ, List.set_cons_zero]
    refine n_row hwh hk ha hb hR hC hS hE ?_ (mn 8 (w k - a)) 0 (by omega)
    exact z_return dM_row_75 hret ⟨Nat.le_of_eq hC, Nat.le_of_eq hS⟩ rfl ⟨rfl, Or.inr ⟨k, a, b, hk, rfl, ha, hb, rfl, rfl, rfl⟩⟩
theorem inC2 (w h : Nat) (p q : Int32) : (inB p 1 (nI w) = true ∧ inB q 1 (nI h) = true ∧ ¬ badC w h p q) ∨ (badC w h p q ∧ (inB p 1 (nI w) = false ∨ (inB p 1 (nI w) = true ∧ inB q 1 (nI h) = false))) := by
  by_cases c1 : p < 1
  · exact Or.inr ⟨Or.inl c1, Or.inl (by simp [inB, c1])⟩
  by_cases c2 : nI w < p
  · exact Or.inr ⟨Or.inr (Or.inl c2), Or.inl (by simp [inB, c2])⟩
  by_cases c3 : q < 1
  · exact Or.inr ⟨Or.inr (Or.inr (Or.inl c3)), Or.inr ⟨by simp [inB, c1, c2], by simp [inB, c3]⟩⟩
  by_cases c4 : nI h < q
  · exact Or.inr ⟨Or.inr (Or.inr (Or.inr c4)), Or.inr ⟨by simp [inB, c1, c2], by simp [inB, c4]⟩⟩
  refine Or.inl ⟨by simp [inB, c1, c2], by simp [inB, c3, c4], ?_⟩
  rintro (r | r | r | r)
  · exact c1 r
  · exact c2 r
  · exact c3 r
  · exact c4 r
set_option maxRecDepth 100000 in
set_option maxHeartbeats 4000000 in
theorem m_cut (l : Launch) (D : va_G) (ca : Nat → ClassId) (ad : Nat → Nat) (th : Int32) (w h : Nat → Nat) (S O : Nat → Int32) (ow oh : Int32) (hwh : okW w h) (n p q : Int32) : zMet l yM_cut wM_cut (rmk 3 0 0) zE0 (gG D ca ad) (mwn ca th w h S O ow oh) [.ref 0, .int n, .int p, .int q] (fun r aw => ((noP n ∧ r = some (.int 0) ∧ aw = (mwn ca 1 w h S O ow oh)) ∨ ∃ k : Nat, k < 4 ∧ n = nI k ∧ ((badC (w k) (h k) p q ∧ r = some (.int 0) ∧ aw = (mwn ca 0 w h S O ow oh)) ∨ ∃ w2 h2 : Nat, ¬ badC (w k) (h k) p q ∧ p = nI w2 ∧ q = nI h2 ∧ r = some (.int 1) ∧ aw = (mwn ca 0 (va_up w k w2) (va_up h k h2) S O ow oh)))) := by
  refine zMet.of (cc := cM_cut) (maxL := 4) (ret := (some .boolean)) (lv := [some (.ref 0), some (.int n), some (.int p), some (.int q)]) (by decide) rfl (Nat.le_of_ble_eq_true rfl) rfl (fun M hl0 hR hC hS hE hret => ?_)
  refine z_aload_n dM_cut_0 rfl ?_
  refine z_iload_n dM_cut_1 rfl ?_
  refine z_pure (z_S hE zEok_0 (m_isPlane _ _ _) dM_cut_2 (gd_S b_416 b_417 b_3 b_418) rfl qM_isPlane.2 ⟨rfl, rfl⟩ (by rw [hR]; decide) (by rw [hR, hC, hS]; decide) rfl (Nat.le_of_ble_eq_true rfl)) (fun r hr => ?_)
  subst hr
  simp only [zpush, zv]
  refine z_iconst (v := 1) dM_cut_5 (by decide) ?_
  refine z_same (z_V (C := RM) (b := 0) hE zEok_0 (m_goes _ D ca ad th w h S O ow oh (inB n 0 3) (true)) dM_cut_6 (gd_V b_422 b_424 bs_14 b_3 b_425) rfl qM_goes ⟨rfl, rfl⟩ (by rw [hR]; decide) (by rw [hR, hC, hS]; decide) rfl (Nat.le_of_ble_eq_true rfl) rfl rfl) (fun r aw1 hlen hr => ?_)
  obtain ⟨rfl, rfl⟩ := hr
  simp only [zpush, zv]
  rcases inP n with ⟨e1, h1⟩ | ⟨e1, k, hk, rfl⟩
  · rw [e1]
    refine z_if_eq (tgt := 40) dM_cut_9 (by decide) (fun _ => ?_) (fun hc9 => absurd hc9 (by decide))
    refine z_iconst (v := 0) dM_cut_40 (by decide) ?_
    exact z_ireturn dM_cut_41 rfl hret ⟨Nat.le_of_eq hC, Nat.le_of_eq hS⟩ rfl (Or.inl ⟨h1, rfl, rfl⟩)
  rw [e1]
  obtain ⟨hk1, hk2, hk3, hk4⟩ := hwh k hk
  have k40 : badC (w k) (h k) p q → Zj M (gG D ca ad) cM_cut 4 RM wM_cut (some .boolean) (mwn ca 0 w h S O ow oh) [some (.ref 0), some (.int (nI k)), some (.int p), some (.int q)] [] 40 := fun hb => by
    refine z_iconst (v := 0) dM_cut_40 (by decide) ?_
    exact z_ireturn dM_cut_41 rfl hret ⟨Nat.le_of_eq hC, Nat.le_of_eq hS⟩ rfl (Or.inr ⟨k, hk, rfl, Or.inl ⟨hb, rfl, rfl⟩⟩)
  refine z_if_eq (tgt := 40) dM_cut_9 (by decide) (fun hc9 => absurd hc9 (by decide)) (fun _ => ?_)
  refine z_iload_n dM_cut_12 rfl ?_
  refine z_iconst (v := 1) dM_cut_13 (by decide) ?_
  refine z_aload_n dM_cut_14 rfl ?_
  refine z_get (C := RM) (T := TM) (N := 7) (ref := "ToneMixerModel") 1 dM_cut_15 rfl rfl rfl (by decide) (fun w h => bwT (hbM w h)) (bwT b_387) rfl ?_
  refine z_iload_n dM_cut_18 rfl ?_
  refine z_ialdN (t0 := 0) (k := k) dM_cut_19 rfl rfl (rfl) (hk) (by decide) ?_
  refine z_pure (z_S hE zEok_0 (m_in _ _ _ _ _) dM_cut_20 (gd_S b_419 b_420 b_3 b_421) rfl qM_in.2 ⟨rfl, rfl⟩ (by rw [hR]; decide) (by rw [hR, hC, hS]; decide) rfl (Nat.le_of_ble_eq_true rfl)) (fun r hr => ?_)
  subst hr
  simp only [zpush, zv]
  rcases inC2 (w k) (h k) p q with ⟨e2, e3, hb⟩ | ⟨hb, e2 | ⟨e2, e3⟩⟩
  · rw [e2]
    refine z_if_eq (tgt := 40) dM_cut_23 (by decide) (fun hc9 => absurd hc9 (by decide)) (fun _ => ?_)
    refine z_iload_n dM_cut_26 rfl ?_
    refine z_iconst (v := 1) dM_cut_27 (by decide) ?_
    refine z_aload_n dM_cut_28 rfl ?_
    refine z_get (C := RM) (T := TM) (N := 7) (ref := "ToneMixerModel") 2 dM_cut_29 rfl rfl rfl (by decide) (fun w h => bwT (hbM w h)) (bwT b_388) rfl ?_
    refine z_iload_n dM_cut_32 rfl ?_
    refine z_ialdN (t0 := 0) (k := k) dM_cut_33 rfl rfl (rfl) (hk) (by decide) ?_
    refine z_pure (z_S hE zEok_0 (m_in _ _ _ _ _) dM_cut_34 (gd_S b_419 b_420 b_3 b_421) rfl qM_in.2 ⟨rfl, rfl⟩ (by rw [hR]; decide) (by rw [hR, hC, hS]; decide) rfl (Nat.le_of_ble_eq_true rfl)) (fun r hr => ?_)
    subst hr
    simp only [zpush, zv]
    rw [e3]
    obtain ⟨w2, rfl, b1, b2⟩ := inN (by omega : w k < 2 ^ 31) (fun q => hb (Or.inl q)) (fun q => hb (Or.inr (Or.inl q)))
    obtain ⟨h2, rfl, b3, b4⟩ := inN (by omega : h k < 2 ^ 31) (fun q => hb (Or.inr (Or.inr (Or.inl q)))) (fun q => hb (Or.inr (Or.inr (Or.inr q))))
    refine z_if_ne (tgt := 42) dM_cut_37 (by decide) (fun _ => ?_) (fun hc9 => absurd hc9 (by decide))
    refine z_aload_n dM_cut_42 rfl ?_
    refine z_get (C := RM) (T := TM) (N := 7) (ref := "ToneMixerModel") 1 dM_cut_43 rfl rfl rfl (by decide) (fun w h => bwT (hbM w h)) (bwT b_387) rfl ?_
    refine z_iload_n dM_cut_46 rfl ?_
    refine z_iload_n dM_cut_47 rfl ?_
    refine z_iastN (t0 := 0) (k := k) dM_cut_48 rfl rfl (rfl) (hk) (by decide) ?_
    try simp only [List.set_cons_succ, List.set_cons_zero]
    refine z_aload_n dM_cut_49 rfl ?_
    refine z_get (C := RM) (T := TM) (N := 7) (ref := "ToneMixerModel") 2 dM_cut_50 rfl rfl rfl (by decide) (fun w h => bwT (hbM w h)) (bwT b_388) rfl ?_
    refine z_iload_n dM_cut_53 rfl ?_
    refine z_iload_n dM_cut_54 rfl ?_
    refine z_iastN (t0 := 0) (k := k) dM_cut_55 rfl rfl (rfl) (hk) (by decide) ?_
    try simp only [List.set_cons_succ, List.set_cons_zero]
    refine z_iconst (v := 1) dM_cut_56 (by decide) ?_
    rw [updn, updn]
    exact z_ireturn dM_cut_57 rfl hret ⟨Nat.le_of_eq hC, Nat.le_of_eq hS⟩ rfl (Or.inr ⟨k, hk, rfl, Or.inr ⟨w2, h2, hb, rfl, rfl, rfl, rfl⟩⟩)
  · rw [e2]
    refine z_if_eq (tgt := 40) dM_cut_23 (by decide) (fun _ => ?_) (fun hc9 => absurd hc9 (by decide))
    exact k40 hb
  · rw [e2]
    refine z_if_eq (tgt := 40) dM_cut_23 (by decide) (fun hc9 => absurd hc9 (by decide)) (fun _ => ?_)
    refine z_iload_n dM_cut_26 rfl ?_
    refine z_iconst (v := 1) dM_cut_27 (by decide) ?_
    refine z_aload_n dM_cut_28 rfl ?_
    refine z_get (C := RM) (T := TM) (N := 7) (ref := "ToneMixerModel") 2 dM_cut_29 rfl rfl rfl (by decide) (fun w h => bwT (hbM w h)) (bwT b_388) rfl ?_
    refine z_iload_n dM_cut_32 rfl ?_
    refine z_ialdN (t0 := 0) (k := k) dM_cut_33 rfl rfl (rfl) (hk) (by decide) ?_
    refine z_pure (z_S hE zEok_0 (m_in _ _ _ _ _) dM_cut_34 (gd_S b_419 b_420 b_3 b_421) rfl qM_in.2 ⟨rfl, rfl⟩ (by rw [hR]; decide) (by rw [hR, hC, hS]; decide) rfl (Nat.le_of_ble_eq_true rfl)) (fun r hr => ?_)
    subst hr
    simp only [zpush, zv]
    rw [e3]
    refine z_if_ne (tgt := 42) dM_cut_37 (by decide) (fun hc9 => absurd hc9 (by decide)) (fun _ => ?_)
    exact k40 hb
