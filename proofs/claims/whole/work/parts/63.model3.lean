theorem z_cell2 (k x y : Nat) : (1024 : Int32) * nI k + 32 * nI y + nI x = nI (1024 * k + (y * 32 + x)) := by
  rw [z_cell]; congr 1; omega
def mcp (S : Nat → Int32) (k k2 : Nat) : Nat → (Nat → Int32)
  | 0 => S
  | i + 1 => upd (mcp S k k2 i) (1024 * k2 + i) (mcp S k k2 i (1024 * k + i))
theorem inPP (n m : Int32) : (inB n 0 3 = false ∧ noP n) ∨ (inB n 0 3 = true ∧ inB m 0 3 = false ∧ noP m) ∨ (inB n 0 3 = true ∧ inB m 0 3 = true ∧ ∃ k k2 : Nat, k < 4 ∧ k2 < 4 ∧ n = nI k ∧ m = nI k2) := by
  rcases inP n with ⟨e1, h1⟩ | ⟨e1, k, hk, rfl⟩
  · exact Or.inl ⟨e1, h1⟩
  · rcases inP m with ⟨e2, h2⟩ | ⟨e2, k2, hk2, rfl⟩
    · exact Or.inr (Or.inl ⟨e1, e2, h2⟩)
    · exact Or.inr (Or.inr ⟨e1, e2, k, k2, hk, hk2, rfl, rfl⟩)
section
variable {M : zM} {D : va_G} {ca : Nat → ClassId} {ad : Nat → Nat} {th : Int32} {w h : Nat → Nat} {S O : Nat → Int32} {ow oh : Int32} {k : Nat} {k2 : Nat}
set_option maxRecDepth 100000 in
set_option maxHeartbeats 4000000 in
theorem n_copy (hk : k < 4) (hk2 : k2 < 4) (kx : Zj M (gG D ca ad) cM_copy 4 RM wM_copy none (mwn ca th w h (mcp S k k2 1024) O ow oh) [some (.ref 0), some (.int (nI k)), some (.int (nI k2)), some (.int (nI 1024))] [] 91) :
    ∀ n i, i + n = 1024 → Zj M (gG D ca ad) cM_copy 4 RM wM_copy none (mwn ca th w h (mcp S k k2 i) O ow oh) [some (.ref 0), some (.int (nI k)), some (.int (nI k2)), some (.int (nI i))] [] 54 := by
  intro n
  induction n with
  | zero =>
    intro i hi
    obtain rfl : i = 1024 := by omega
    refine z_iload_n dM_copy_54 rfl ?_
    refine z_sipush (v := 1024) dM_copy_55 (by decide) ?_
    exact z_icmp_ge (tgt := 91) dM_copy_58 (by decide) (fun _ => kx) (fun hc => absurd (by decide) hc)
  | succ n ih =>
    intro i hi
    refine z_iload_n dM_copy_54 rfl ?_
    refine z_sipush (v := 1024) dM_copy_55 (by decide) ?_
    rw [show (1024 : Int32) = nI 1024 from rfl]
    refine z_icmp_ge (tgt := 91) dM_copy_58 (by decide) (fun hc => absurd hc (nI_ge (by omega) (by omega))) (fun _ => ?_)
    refine z_aload_n dM_copy_61 rfl ?_
    refine z_get (C := RM) (T := TM) (N := 7) (ref := "ToneMixerModel") 3 dM_copy_62 rfl rfl rfl (by decide) (fun w h => bwT (hbM w h)) (bwT b_389) rfl ?_
    refine z_sipush (v := 1024) dM_copy_65 (by decide) ?_
    refine z_iload_n dM_copy_68 rfl ?_
    refine z_imul dM_copy_69 ?_
    refine z_iload_n dM_copy_70 rfl ?_
    refine z_iadd dM_copy_71 ?_
    refine z_aload_n dM_copy_72 rfl ?_
    refine z_get (C := RM) (T := TM) (N := 7) (ref := "ToneMixerModel") 3 dM_copy_73 rfl rfl rfl (by decide) (fun w h => bwT (hbM w h)) (bwT b_389) rfl ?_
    refine z_sipush (v := 1024) dM_copy_76 (by decide) ?_
    refine z_iload_n dM_copy_79 rfl ?_
    refine z_imul dM_copy_80 ?_
    refine z_iload_n dM_copy_81 rfl ?_
    refine z_iadd dM_copy_82 ?_
    refine z_ialdN (t0 := 0) (k := 1024 * k + i) dM_copy_83 rfl rfl (z_1k _ _) (by omega) (by decide) ?_
    refine z_iastN (t0 := 0) (k := 1024 * k2 + i) dM_copy_84 rfl rfl (z_1k _ _) (by omega) (by decide) ?_
    try simp only [List.set_cons_succ, List.set_cons_zero]
    refine z_iinc1 dM_copy_85 (by decide) rfl rfl ?_
    try simp only [List.set_cons_succ, List.set_cons_zero]
    refine z_goto (tgt := 54) dM_copy_88 (by decide) ?_
    rw [nI_1]
    exact ih (i + 1) (by omega)
end
set_option maxRecDepth 100000 in
set_option maxHeartbeats 4000000 in
theorem m_copy (l : Launch) (D : va_G) (ca : Nat → ClassId) (ad : Nat → Nat) (th : Int32) (w h : Nat → Nat) (S O : Nat → Int32) (ow oh : Int32) (n m : Int32) : zMet l yM_copy wM_copy (rmk 3 0 0) zE0 (gG D ca ad) (mwn ca th w h S O ow oh) [.ref 0, .int n, .int m] (fun r aw => r = none ∧ (((noP n ∨ noP m) ∧ aw = (mwn ca 1 w h S O ow oh)) ∨ ∃ k k2 : Nat, k < 4 ∧ k2 < 4 ∧ n = nI k ∧ m = nI k2 ∧ aw = (mwn ca 0 (va_up w k2 (w k)) (va_up h k2 (h k)) (mcp S k k2 1024) O ow oh))) := by
  refine zMet.of (cc := cM_copy) (maxL := 4) (ret := none) (lv := [some (.ref 0), some (.int n), some (.int m), none]) (by decide) rfl (Nat.le_of_ble_eq_true rfl) rfl (fun M hl0 hR hC hS hE hret => ?_)
  refine z_aload_n dM_copy_0 rfl ?_
  refine z_iload_n dM_copy_1 rfl ?_
  refine z_pure (z_S hE zEok_0 (m_isPlane _ _ _) dM_copy_2 (gd_S b_416 b_417 b_3 b_418) rfl qM_isPlane.2 ⟨rfl, rfl⟩ (by rw [hR]; decide) (by rw [hR, hC, hS]; decide) rfl (Nat.le_of_ble_eq_true rfl)) (fun r hr => ?_)
  subst hr
  simp only [zpush, zv]
  have k20 : ∀ b : Bool, b = (inB n 0 3 && inB m 0 3) → Zj M (gG D ca ad) cM_copy 4 RM wM_copy none (mwn ca th w h S O ow oh) [some (.ref 0), some (.int n), some (.int m), none] [.int (bI b), .ref 0] 20 := fun b hb => by
    refine z_iconst (v := 1) dM_copy_20 (by decide) ?_
    refine z_same (z_V (C := RM) (b := 0) hE zEok_0 (m_goes _ D ca ad th w h S O ow oh (b) (true)) dM_copy_21 (gd_V b_422 b_424 bs_14 b_3 b_425) rfl qM_goes ⟨rfl, rfl⟩ (by rw [hR]; decide) (by rw [hR, hC, hS]; decide) rfl (Nat.le_of_ble_eq_true rfl) rfl rfl) (fun r aw1 hlen hr => ?_)
    obtain ⟨rfl, rfl⟩ := hr
    simp only [zpush, zv]
    rcases inPP n m with ⟨e1, h1⟩ | ⟨e1, e2, h1⟩ | ⟨e1, e2, k, k2, hk, hk2, rfl, rfl⟩
    · obtain rfl : b = false := by rw [hb, e1]; rfl
      refine z_if_ne (tgt := 28) dM_copy_24 (by decide) (fun hc9 => absurd hc9 (by decide)) (fun _ => ?_)
      exact z_return dM_copy_27 hret ⟨Nat.le_of_eq hC, Nat.le_of_eq hS⟩ rfl ⟨rfl, Or.inl ⟨Or.inl h1, rfl⟩⟩
    · obtain rfl : b = false := by rw [hb, e1, e2]; rfl
      refine z_if_ne (tgt := 28) dM_copy_24 (by decide) (fun hc9 => absurd hc9 (by decide)) (fun _ => ?_)
      exact z_return dM_copy_27 hret ⟨Nat.le_of_eq hC, Nat.le_of_eq hS⟩ rfl ⟨rfl, Or.inl ⟨Or.inr h1, rfl⟩⟩
    · obtain rfl : b = true := by rw [hb, e1, e2]; rfl
      refine z_if_ne (tgt := 28) dM_copy_24 (by decide) (fun _ => ?_) (fun hc9 => absurd hc9 (by decide))
      refine z_aload_n dM_copy_28 rfl ?_
      refine z_get (C := RM) (T := TM) (N := 7) (ref := "ToneMixerModel") 1 dM_copy_29 rfl rfl rfl (by decide) (fun w h => bwT (hbM w h)) (bwT b_387) rfl ?_
      refine z_iload_n dM_copy_32 rfl ?_
      refine z_aload_n dM_copy_33 rfl ?_
      refine z_get (C := RM) (T := TM) (N := 7) (ref := "ToneMixerModel") 1 dM_copy_34 rfl rfl rfl (by decide) (fun w h => bwT (hbM w h)) (bwT b_387) rfl ?_
      refine z_iload_n dM_copy_37 rfl ?_
      refine z_ialdN (t0 := 0) (k := k) dM_copy_38 rfl rfl (rfl) (hk) (by decide) ?_
      refine z_iastN (t0 := 0) (k := k2) dM_copy_39 rfl rfl (rfl) (hk2) (by decide) ?_
      try simp only [List.set_cons_succ, List.set_cons_zero]
      refine z_aload_n dM_copy_40 rfl ?_
      refine z_get (C := RM) (T := TM) (N := 7) (ref := "ToneMixerModel") 2 dM_copy_41 rfl rfl rfl (by decide) (fun w h => bwT (hbM w h)) (bwT b_388) rfl ?_
      refine z_iload_n dM_copy_44 rfl ?_
      refine z_aload_n dM_copy_45 rfl ?_
      refine z_get (C := RM) (T := TM) (N := 7) (ref := "ToneMixerModel") 2 dM_copy_46 rfl rfl rfl (by decide) (fun w h => bwT (hbM w h)) (bwT b_388) rfl ?_
      refine z_iload_n dM_copy_49 rfl ?_
      refine z_ialdN (t0 := 0) (k := k) dM_copy_50 rfl rfl (rfl) (hk) (by decide) ?_
      refine z_iastN (t0 := 0) (k := k2) dM_copy_51 rfl rfl (rfl) (hk2) (by decide) ?_
      try simp only [List.set_cons_succ, List.set_cons_zero]
      refine z_iconst (v := 0) dM_copy_52 (by decide) ?_
      refine z_istore_n dM_copy_53 (by decide) rfl ?_
      try simp only [List.set_cons_succ, List.set_cons_zero]
      rw [updn, updn]
      refine n_copy hk hk2 ?_ 1024 0 (by omega)
      exact z_return dM_copy_91 hret ⟨Nat.le_of_eq hC, Nat.le_of_eq hS⟩ rfl ⟨rfl, Or.inr ⟨k, k2, hk, hk2, rfl, rfl, rfl⟩⟩
  rcases inPP n m with ⟨e1, h1⟩ | ⟨e1, e2, h1⟩ | ⟨e1, e2, k, k2, hk, hk2, rfl, rfl⟩
  · rw [e1] at k20 ⊢
    refine z_if_eq (tgt := 19) dM_copy_5 (by decide) (fun _ => ?_) (fun hc9 => absurd hc9 (by decide))
    refine z_iconst (v := 0) dM_copy_19 (by decide) ?_
    exact k20 false rfl
  · rw [e1, e2] at k20
    rw [e1]
    refine z_if_eq (tgt := 19) dM_copy_5 (by decide) (fun hc9 => absurd hc9 (by decide)) (fun _ => ?_)
    refine z_iload_n dM_copy_8 rfl ?_
    refine z_pure (z_S hE zEok_0 (m_isPlane _ _ _) dM_copy_9 (gd_S b_416 b_417 b_3 b_418) rfl qM_isPlane.2 ⟨rfl, rfl⟩ (by rw [hR]; decide) (by rw [hR, hC, hS]; decide) rfl (Nat.le_of_ble_eq_true rfl)) (fun r hr => ?_)
    subst hr
    simp only [zpush, zv]
    rw [e2]
    refine z_if_eq (tgt := 19) dM_copy_12 (by decide) (fun _ => ?_) (fun hc9 => absurd hc9 (by decide))
    refine z_iconst (v := 0) dM_copy_19 (by decide) ?_
    exact k20 false rfl
  · rw [e1, e2] at k20
    rw [e1]
    refine z_if_eq (tgt := 19) dM_copy_5 (by decide) (fun hc9 => absurd hc9 (by decide)) (fun _ => ?_)
    refine z_iload_n dM_copy_8 rfl ?_
    refine z_pure (z_S hE zEok_0 (m_isPlane _ _ _) dM_copy_9 (gd_S b_416 b_417 b_3 b_418) rfl qM_isPlane.2 ⟨rfl, rfl⟩ (by rw [hR]; decide) (by rw [hR, hC, hS]; decide) rfl (Nat.le_of_ble_eq_true rfl)) (fun r hr => ?_)
    subst hr
    simp only [zpush, zv]
    rw [e2]
    refine z_if_eq (tgt := 19) dM_copy_12 (by decide) (fun hc9 => absurd hc9 (by decide)) (fun _ => ?_)
    refine z_iconst (v := 1) dM_copy_15 (by decide) ?_
    refine z_goto (tgt := 20) dM_copy_16 (by decide) ?_
    exact k20 true rfl
set_option maxRecDepth 100000 in
set_option maxHeartbeats 4000000 in
theorem m_isSame (l : Launch) (D : va_G) (ca : Nat → ClassId) (ad : Nat → Nat) (th : Int32) (w h : Nat → Nat) (S O : Nat → Int32) (ow oh : Int32) (hwh : okW w h) (a b : Nat) (ha : a < 4) (hb : b < 4) : zMet l yM_isSame wM_isSame (rmk 0 0 0) zE0 (gG D ca ad) (mwn ca th w h S O ow oh) [.ref 0, .int (nI a), .int (nI b)] (fun r aw => aw = (mwn ca th w h S O ow oh) ∧ ((w a = w b ∧ h a = h b ∧ r = some (.int 1)) ∨ (¬ (w a = w b ∧ h a = h b) ∧ r = some (.int 0)))) := by
  refine zMet.of (cc := cM_isSame) (maxL := 3) (ret := (some .boolean)) (lv := [some (.ref 0), some (.int (nI a)), some (.int (nI b))]) (by decide) rfl (Nat.le_of_ble_eq_true rfl) rfl (fun M hl0 hR hC hS hE hret => ?_)
  have b1 := hwh a ha
  have b2 := hwh b hb
  have k34 : ¬ (w a = w b ∧ h a = h b) → Zj M (gG D ca ad) cM_isSame 3 RM wM_isSame (some .boolean) (mwn ca th w h S O ow oh) [some (.ref 0), some (.int (nI a)), some (.int (nI b))] [] 34 := fun hn => by
    refine z_iconst (v := 0) dM_isSame_34 (by decide) ?_
    exact z_ireturn dM_isSame_35 rfl hret ⟨Nat.le_of_eq hC, Nat.le_of_eq hS⟩ rfl ⟨rfl, Or.inr ⟨hn, rfl⟩⟩
  refine z_aload_n dM_isSame_0 rfl ?_
  refine z_get (C := RM) (T := TM) (N := 7) (ref := "ToneMixerModel") 1 dM_isSame_1 rfl rfl rfl (by decide) (fun w h => bwT (hbM w h)) (bwT b_387) rfl ?_
  refine z_iload_n dM_isSame_4 rfl ?_
  refine z_ialdN (t0 := 0) (k := a) dM_isSame_5 rfl rfl (rfl) (ha) (by decide) ?_
  refine z_aload_n dM_isSame_6 rfl ?_
  refine z_get (C := RM) (T := TM) (N := 7) (ref := "ToneMixerModel") 1 dM_isSame_7 rfl rfl rfl (by decide) (fun w h => bwT (hbM w h)) (bwT b_387) rfl ?_
  refine z_iload_n dM_isSame_10 rfl ?_
  refine z_ialdN (t0 := 0) (k := b) dM_isSame_11 rfl rfl (rfl) (hb) (by decide) ?_
  refine z_icmp_ne (tgt := 34) dM_isSame_12 (by decide) (fun c => k34 (fun q => c (by rw [q.1]))) (fun c1 => ?_)
  refine z_aload_n dM_isSame_15 rfl ?_
  refine z_get (C := RM) (T := TM) (N := 7) (ref := "ToneMixerModel") 2 dM_isSame_16 rfl rfl rfl (by decide) (fun w h => bwT (hbM w h)) (bwT b_388) rfl ?_
  refine z_iload_n dM_isSame_19 rfl ?_
  refine z_ialdN (t0 := 0) (k := a) dM_isSame_20 rfl rfl (rfl) (ha) (by decide) ?_
  refine z_aload_n dM_isSame_21 rfl ?_
  refine z_get (C := RM) (T := TM) (N := 7) (ref := "ToneMixerModel") 2 dM_isSame_22 rfl rfl rfl (by decide) (fun w h => bwT (hbM w h)) (bwT b_388) rfl ?_
  refine z_iload_n dM_isSame_25 rfl ?_
  refine z_ialdN (t0 := 0) (k := b) dM_isSame_26 rfl rfl (rfl) (hb) (by decide) ?_
  refine z_icmp_ne (tgt := 34) dM_isSame_27 (by decide) (fun c => k34 (fun q => c (by rw [q.2]))) (fun c2 => ?_)
  refine z_iconst (v := 1) dM_isSame_30 (by decide) ?_
  refine z_goto (tgt := 35) dM_isSame_31 (by decide) ?_
  exact z_ireturn dM_isSame_35 rfl hret ⟨Nat.le_of_eq hC, Nat.le_of_eq hS⟩ rfl ⟨rfl, Or.inl ⟨(nI_eq (by omega) (by omega)).mp c1, (nI_eq (by omega) (by omega)).mp c2, rfl⟩⟩
theorem z_neg (x : Int32) : -x = 0 - x := by simp
section
variable {M : zM} {D : va_G} {ca : Nat → ClassId} {ad : Nat → Nat} {th : Int32} {w h : Nat → Nat} {S O : Nat → Int32} {ow oh : Int32} {k : Nat} {k2 : Nat}
set_option maxRecDepth 100000 in
set_option maxHeartbeats 4000000 in
theorem n_apart_x (hwh : okW w h) (hk : k < 4) (hk2 : k2 < 4) (hR : zroom M = rmk 3 0 0) (hC : zcells M = 0) (hS : zslots M = 0) (hE : zEn M zE0) {y : Nat} (hy : y < h k) (acc : Int32) (kx : ∀ d, Zj M (gG D ca ad) cM_apart 7 RM wM_apart (some .int) (mwn ca th w h S O ow oh) [some (.ref 0), some (.int (nI k)), some (.int (nI k2)), some (.int (rowF (fun a b => if a < b then b else a) (fun j => zab (S (1024 * k + j) - S (1024 * k2 + j))) y (w k) acc)), some (.int (nI y)), some (.int (nI (w k))), d] [] 133) :
    ∀ n x, x + n = w k → ∀ d, Zj M (gG D ca ad) cM_apart 7 RM wM_apart (some .int) (mwn ca th w h S O ow oh) [some (.ref 0), some (.int (nI k)), some (.int (nI k2)), some (.int (rowF (fun a b => if a < b then b else a) (fun j => zab (S (1024 * k + j) - S (1024 * k2 + j))) y x acc)), some (.int (nI y)), some (.int (nI x)), d] [] 59 := by
  obtain ⟨hk1, hk2', hk3, hk4⟩ := hwh k hk
  intro n
  induction n with
  | zero =>
    intro x hx d
    obtain rfl : x = w k := by omega
    refine z_iload dM_apart_59 rfl ?_
    refine z_aload_n dM_apart_61 rfl ?_
    refine z_get (C := RM) (T := TM) (N := 7) (ref := "ToneMixerModel") 1 dM_apart_62 rfl rfl rfl (by decide) (fun w h => bwT (hbM w h)) (bwT b_387) rfl ?_
    refine z_iload_n dM_apart_65 rfl ?_
    refine z_ialdN (t0 := 0) (k := k) dM_apart_66 rfl rfl (rfl) (hk) (by decide) ?_
    exact z_icmp_ge (tgt := 133) dM_apart_67 (by decide) (fun _ => kx d) (fun hc => absurd (nI_le (Nat.le_refl _) (by omega)) hc)
  | succ n ih =>
    intro x hx d
    refine z_iload dM_apart_59 rfl ?_
    refine z_aload_n dM_apart_61 rfl ?_
    refine z_get (C := RM) (T := TM) (N := 7) (ref := "ToneMixerModel") 1 dM_apart_62 rfl rfl rfl (by decide) (fun w h => bwT (hbM w h)) (bwT b_387) rfl ?_
    refine z_iload_n dM_apart_65 rfl ?_
    refine z_ialdN (t0 := 0) (k := k) dM_apart_66 rfl rfl (rfl) (hk) (by decide) ?_
    refine z_icmp_ge (tgt := 133) dM_apart_67 (by decide) (fun hc => absurd hc (nI_ge (by omega) (by omega))) (fun _ => ?_)
    refine z_aload_n dM_apart_70 rfl ?_
    refine z_get (C := RM) (T := TM) (N := 7) (ref := "ToneMixerModel") 3 dM_apart_71 rfl rfl rfl (by decide) (fun w h => bwT (hbM w h)) (bwT b_389) rfl ?_
    refine z_iload_n dM_apart_74 rfl ?_
    refine z_iload dM_apart_75 rfl ?_
    refine z_iload dM_apart_77 rfl ?_
    refine z_pure (z_S hE zEok_0 (m_cell _ _ _ _ _) dM_apart_79 (gd_S b_434 b_435 b_3 b_436) rfl qM_cell.2 ⟨rfl, rfl⟩ (by rw [hR]; decide) (by rw [hR, hC, hS]; decide) rfl (Nat.le_of_ble_eq_true rfl)) (fun r hr => ?_)
    subst hr
    simp only [zpush, zv]
    refine z_ialdN (t0 := 0) (k := 1024 * k + (y * 32 + x)) dM_apart_82 rfl rfl (z_cell2 _ _ _) (by omega) (by decide) ?_
    refine z_aload_n dM_apart_83 rfl ?_
    refine z_get (C := RM) (T := TM) (N := 7) (ref := "ToneMixerModel") 3 dM_apart_84 rfl rfl rfl (by decide) (fun w h => bwT (hbM w h)) (bwT b_389) rfl ?_
    refine z_iload_n dM_apart_87 rfl ?_
    refine z_iload dM_apart_88 rfl ?_
    refine z_iload dM_apart_90 rfl ?_
    refine z_pure (z_S hE zEok_0 (m_cell _ _ _ _ _) dM_apart_92 (gd_S b_434 b_435 b_3 b_436) rfl qM_cell.2 ⟨rfl, rfl⟩ (by rw [hR]; decide) (by rw [hR, hC, hS]; decide) rfl (Nat.le_of_ble_eq_true rfl)) (fun r hr => ?_)
    subst hr
    simp only [zpush, zv]
    refine z_ialdN (t0 := 0) (k := 1024 * k2 + (y * 32 + x)) dM_apart_95 rfl rfl (z_cell2 _ _ _) (by omega) (by decide) ?_
    refine z_isub dM_apart_96 ?_
    refine z_istore dM_apart_97 (by decide) rfl ?_
    try simp only [List.set_cons_succ, List.set_cons_zero]
    have k112 : ∀ v, v = zab (S (1024 * k + (y * 32 + x)) - S (1024 * k2 + (y * 32 + x))) → ∀ d, Zj M (gG D ca ad) cM_apart 7 RM wM_apart (some .int) (mwn ca th w h S O ow oh) [some (.ref 0), some (.int (nI k)), some (.int (nI k2)), some (.int (rowF (fun a b => if a < b then b else a) (fun j => zab (S (1024 * k + j) - S (1024 * k2 + j))) y x acc)), some (.int (nI y)), some (.int (nI x)), d] [.int v] 112 := fun v hv d => by
      refine z_istore dM_apart_112 (by decide) rfl ?_
      try simp only [List.set_cons_succ, List.set_cons_zero]
      refine z_iload dM_apart_114 rfl ?_
      refine z_iload_n dM_apart_116 rfl ?_
      have k126 : Zj M (gG D ca ad) cM_apart 7 RM wM_apart (some .int) (mwn ca th w h S O ow oh) [some (.ref 0), some (.int (nI k)), some (.int (nI k2)), some (.int (rowF (fun a b => if a < b then b else a) (fun j => zab (S (1024 * k + j) - S (1024 * k2 + j))) y x acc)), some (.int (nI y)), some (.int (nI x)), some (.int v)] [.int (rowF (fun a b => if a < b then b else a) (fun j => zab (S (1024 * k + j) - S (1024 * k2 + j))) y (x + 1) acc)] 126 := by
        refine z_istore_n dM_apart_126 (by decide) rfl ?_
        try simp only [List.set_cons_succ, List.set_cons_zero]
        refine z_iinc1 dM_apart_127 (by decide) rfl rfl ?_
        try simp only [List.set_cons_succ, List.set_cons_zero]
        refine z_goto (tgt := 59) dM_apart_130 (by decide) ?_
        rw [nI_1]
        exact ih (x + 1) (by omega) _
      refine z_icmp_le (tgt := 125) dM_apart_117 (by decide) (fun c => ?_) (fun c => ?_)
      · rw [show rowF (fun a b => if a < b then b else a) (fun j => zab (S (1024 * k + j) - S (1024 * k2 + j))) y (x + 1) acc = rowF (fun a b => if a < b then b else a) (fun j => zab (S (1024 * k + j) - S (1024 * k2 + j))) y x acc by rw [rowF, ← hv, if_neg (Int32.not_lt.mpr c)]] at k126
        refine z_iload_n dM_apart_125 rfl ?_
        exact k126
      · rw [show rowF (fun a b => if a < b then b else a) (fun j => zab (S (1024 * k + j) - S (1024 * k2 + j))) y (x + 1) acc = v by rw [rowF, ← hv, if_pos (Int32.not_le.mp c)]] at k126
        refine z_iload dM_apart_120 rfl ?_
        refine z_goto (tgt := 126) dM_apart_122 (by decide) ?_
        exact k126
    refine z_iload dM_apart_99 rfl ?_
    refine z_if_ge (tgt := 110) dM_apart_101 (by decide) (fun c => ?_) (fun c => ?_)
    · skip
      refine z_iload dM_apart_110 rfl ?_
      exact k112 _ (by rw [zab, if_pos c]) _
    · skip
      refine z_iload dM_apart_104 rfl ?_
      refine z_ineg dM_apart_106 ?_
      refine z_goto (tgt := 112) dM_apart_107 (by decide) ?_
      exact k112 _ (by rw [zab, if_neg c, z_neg]) _
set_option maxRecDepth 100000 in
set_option maxHeartbeats 4000000 in
theorem n_apart_y (hwh : okW w h) (hk : k < 4) (hk2 : k2 < 4) (hR : zroom M = rmk 3 0 0) (hC : zcells M = 0) (hS : zslots M = 0) (hE : zEn M zE0) (acc : Int32) (kx : ∀ o d, Zj M (gG D ca ad) cM_apart 7 RM wM_apart (some .int) (mwn ca th w h S O ow oh) [some (.ref 0), some (.int (nI k)), some (.int (nI k2)), some (.int (allF (fun a b => if a < b then b else a) (fun j => zab (S (1024 * k + j) - S (1024 * k2 + j))) (w k) (h k) acc)), some (.int (nI (h k))), o, d] [] 139) :
    ∀ n y, y + n = h k → ∀ o d, Zj M (gG D ca ad) cM_apart 7 RM wM_apart (some .int) (mwn ca th w h S O ow oh) [some (.ref 0), some (.int (nI k)), some (.int (nI k2)), some (.int (allF (fun a b => if a < b then b else a) (fun j => zab (S (1024 * k + j) - S (1024 * k2 + j))) (w k) y acc)), some (.int (nI y)), o, d] [] 45 := by
  obtain ⟨hk1, hk2', hk3, hk4⟩ := hwh k hk
  intro n
  induction n with
  | zero =>
    intro y hy o d
    obtain rfl : y = h k := by omega
    refine z_iload dM_apart_45 rfl ?_
    refine z_aload_n dM_apart_47 rfl ?_
    refine z_get (C := RM) (T := TM) (N := 7) (ref := "ToneMixerModel") 2 dM_apart_48 rfl rfl rfl (by decide) (fun w h => bwT (hbM w h)) (bwT b_388) rfl ?_
    refine z_iload_n dM_apart_51 rfl ?_
    refine z_ialdN (t0 := 0) (k := k) dM_apart_52 rfl rfl (rfl) (hk) (by decide) ?_
    exact z_icmp_ge (tgt := 139) dM_apart_53 (by decide) (fun _ => kx o d) (fun hc => absurd (nI_le (Nat.le_refl _) (by omega)) hc)
  | succ n ih =>
    intro y hy o d
    refine z_iload dM_apart_45 rfl ?_
    refine z_aload_n dM_apart_47 rfl ?_
    refine z_get (C := RM) (T := TM) (N := 7) (ref := "ToneMixerModel") 2 dM_apart_48 rfl rfl rfl (by decide) (fun w h => bwT (hbM w h)) (bwT b_388) rfl ?_
    refine z_iload_n dM_apart_51 rfl ?_
    refine z_ialdN (t0 := 0) (k := k) dM_apart_52 rfl rfl (rfl) (hk) (by decide) ?_
    refine z_icmp_ge (tgt := 139) dM_apart_53 (by decide) (fun hc => absurd hc (nI_ge (by omega) (by omega))) (fun _ => ?_)
    refine z_iconst (v := 0) dM_apart_56 (by decide) ?_
    refine z_istore dM_apart_57 (by decide) rfl ?_
    try simp only [List.set_cons_succ, List.set_cons_zero]
    refine n_apart_x hwh hk hk2 hR hC hS hE (y := y) (by omega) (allF (fun a b => if a < b then b else a) (fun j => zab (S (1024 * k + j) - S (1024 * k2 + j))) (w k) y acc) (fun d => ?_) (w k) 0 (by omega) _
    refine z_iinc1 dM_apart_133 (by decide) rfl rfl ?_
    try simp only [List.set_cons_succ, List.set_cons_zero]
    refine z_goto (tgt := 45) dM_apart_136 (by decide) ?_
    rw [nI_1]
    exact ih (y + 1) (by omega) _ _
end
set_option maxRecDepth 100000 in
set_option maxHeartbeats 4000000 in
theorem m_apart (l : Launch) (D : va_G) (ca : Nat → ClassId) (ad : Nat → Nat) (th : Int32) (w h : Nat → Nat) (S O : Nat → Int32) (ow oh : Int32) (hwh : okW w h) (n m : Int32) : zMet l yM_apart wM_apart (rmk 3 0 0) zE0 (gG D ca ad) (mwn ca th w h S O ow oh) [.ref 0, .int n, .int m] (fun r aw => (((noP n ∨ noP m) ∧ r = some (.int 0) ∧ aw = (mwn ca 1 w h S O ow oh)) ∨ ∃ k k2 : Nat, k < 4 ∧ k2 < 4 ∧ n = nI k ∧ m = nI k2 ∧ aw = (mwn ca 0 w h S O ow oh) ∧ r = some (.int (if w k = w k2 ∧ h k = h k2 then allF (fun a b => if a < b then b else a) (fun j => zab (S (1024 * k + j) - S (1024 * k2 + j))) (w k) (h k) 0 else -1)))) := by
  refine zMet.of (cc := cM_apart) (maxL := 7) (ret := (some .int)) (lv := [some (.ref 0), some (.int n), some (.int m), none, none, none, none]) (by decide) rfl (Nat.le_of_ble_eq_true rfl) rfl (fun M hl0 hR hC hS hE hret => ?_)
  refine z_aload_n dM_apart_0 rfl ?_
  refine z_iload_n dM_apart_1 rfl ?_
  refine z_pure (z_S hE zEok_0 (m_isPlane _ _ _) dM_apart_2 (gd_S b_416 b_417 b_3 b_418) rfl qM_isPlane.2 ⟨rfl, rfl⟩ (by rw [hR]; decide) (by rw [hR, hC, hS]; decide) rfl (Nat.le_of_ble_eq_true rfl)) (fun r hr => ?_)
  subst hr
  simp only [zpush, zv]
  have k20 : ∀ b : Bool, b = (inB n 0 3 && inB m 0 3) → Zj M (gG D ca ad) cM_apart 7 RM wM_apart (some .int) (mwn ca th w h S O ow oh) [some (.ref 0), some (.int n), some (.int m), none, none, none, none] [.int (bI b), .ref 0] 20 := fun b hb => by
    refine z_iconst (v := 1) dM_apart_20 (by decide) ?_
    refine z_same (z_V (C := RM) (b := 0) hE zEok_0 (m_goes _ D ca ad th w h S O ow oh (b) (true)) dM_apart_21 (gd_V b_422 b_424 bs_14 b_3 b_425) rfl qM_goes ⟨rfl, rfl⟩ (by rw [hR]; decide) (by rw [hR, hC, hS]; decide) rfl (Nat.le_of_ble_eq_true rfl) rfl rfl) (fun r aw1 hlen hr => ?_)
    obtain ⟨rfl, rfl⟩ := hr
    simp only [zpush, zv]
    rcases inPP n m with ⟨e1, h1⟩ | ⟨e1, e2, h1⟩ | ⟨e1, e2, k, k2, hk, hk2, rfl, rfl⟩
    · obtain rfl : b = false := by rw [hb, e1]; rfl
      refine z_if_ne (tgt := 29) dM_apart_24 (by decide) (fun hc9 => absurd hc9 (by decide)) (fun _ => ?_)
      refine z_iconst (v := 0) dM_apart_27 (by decide) ?_
      exact z_ireturn dM_apart_28 rfl hret ⟨Nat.le_of_eq hC, Nat.le_of_eq hS⟩ rfl (Or.inl ⟨Or.inl h1, rfl, rfl⟩)
    · obtain rfl : b = false := by rw [hb, e1, e2]; rfl
      refine z_if_ne (tgt := 29) dM_apart_24 (by decide) (fun hc9 => absurd hc9 (by decide)) (fun _ => ?_)
      refine z_iconst (v := 0) dM_apart_27 (by decide) ?_
      exact z_ireturn dM_apart_28 rfl hret ⟨Nat.le_of_eq hC, Nat.le_of_eq hS⟩ rfl (Or.inl ⟨Or.inr h1, rfl, rfl⟩)
    · obtain rfl : b = true := by rw [hb, e1, e2]; rfl
      refine z_if_ne (tgt := 29) dM_apart_24 (by decide) (fun _ => ?_) (fun hc9 => absurd hc9 (by decide))
      refine z_aload_n dM_apart_29 rfl ?_
      refine z_iload_n dM_apart_30 rfl ?_
      refine z_iload_n dM_apart_31 rfl ?_
      refine z_same (z_V (C := RM) (b := 0) hE zEok_0 (m_isSame _ D ca ad (thv true true) w h S O ow oh hwh k k2 hk hk2) dM_apart_32 (gd_V b_470 b_472 bs_20 b_3 b_473) rfl qM_isSame ⟨rfl, rfl⟩ (by rw [hR]; decide) (by rw [hR, hC, hS]; decide) rfl (Nat.le_of_ble_eq_true rfl) rfl rfl) (fun r aw1 hlen hr => ?_)
      obtain ⟨rfl, ⟨s1, s2, rfl⟩ | ⟨hn, rfl⟩⟩ := hr
      · simp only [zpush, zv]
        refine z_if_ne (tgt := 40) dM_apart_35 (by decide) (fun _ => ?_) (fun hc9 => absurd hc9 (by decide))
        refine z_iconst (v := 0) dM_apart_40 (by decide) ?_
        refine z_istore_n dM_apart_41 (by decide) rfl ?_
        try simp only [List.set_cons_succ, List.set_cons_zero]
        refine z_iconst (v := 0) dM_apart_42 (by decide) ?_
        refine z_istore dM_apart_43 (by decide) rfl ?_
        try simp only [List.set_cons_succ, List.set_cons_zero]
        refine n_apart_y hwh hk hk2 hR hC hS hE 0 (fun o d => ?_) (h k) 0 (by omega) none none
        refine z_iload_n dM_apart_139 rfl ?_
        exact z_ireturn dM_apart_140 rfl hret ⟨Nat.le_of_eq hC, Nat.le_of_eq hS⟩ rfl (Or.inr ⟨k, k2, hk, hk2, rfl, rfl, rfl, by rw [if_pos ⟨s1, s2⟩]⟩)
      · simp only [zpush, zv]
        refine z_if_ne (tgt := 40) dM_apart_35 (by decide) (fun hc9 => absurd hc9 (by decide)) (fun _ => ?_)
        refine z_iconst (v := -1) dM_apart_38 (by decide) ?_
        exact z_ireturn dM_apart_39 rfl hret ⟨Nat.le_of_eq hC, Nat.le_of_eq hS⟩ rfl (Or.inr ⟨k, k2, hk, hk2, rfl, rfl, rfl, by rw [if_neg hn]⟩)
  rcases inPP n m with ⟨e1, h1⟩ | ⟨e1, e2, h1⟩ | ⟨e1, e2, k, k2, hk, hk2, rfl, rfl⟩
  · rw [e1] at k20 ⊢
    refine z_if_eq (tgt := 19) dM_apart_5 (by decide) (fun _ => ?_) (fun hc9 => absurd hc9 (by decide))
    refine z_iconst (v := 0) dM_apart_19 (by decide) ?_
    exact k20 false rfl
  · rw [e1, e2] at k20
    rw [e1]
    refine z_if_eq (tgt := 19) dM_apart_5 (by decide) (fun hc9 => absurd hc9 (by decide)) (fun _ => ?_)
    refine z_iload_n dM_apart_8 rfl ?_
    refine z_pure (z_S hE zEok_0 (m_isPlane _ _ _) dM_apart_9 (gd_S b_416 b_417 b_3 b_418) rfl qM_isPlane.2 ⟨rfl, rfl⟩ (by rw [hR]; decide) (by rw [hR, hC, hS]; decide) rfl (Nat.le_of_ble_eq_true rfl)) (fun r hr => ?_)
    subst hr
    simp only [zpush, zv]
    rw [e2]
    refine z_if_eq (tgt := 19) dM_apart_12 (by decide) (fun _ => ?_) (fun hc9 => absurd hc9 (by decide))
    refine z_iconst (v := 0) dM_apart_19 (by decide) ?_
    exact k20 false rfl
  · rw [e1, e2] at k20
    rw [e1]
    refine z_if_eq (tgt := 19) dM_apart_5 (by decide) (fun hc9 => absurd hc9 (by decide)) (fun _ => ?_)
    refine z_iload_n dM_apart_8 rfl ?_
    refine z_pure (z_S hE zEok_0 (m_isPlane _ _ _) dM_apart_9 (gd_S b_416 b_417 b_3 b_418) rfl qM_isPlane.2 ⟨rfl, rfl⟩ (by rw [hR]; decide) (by rw [hR, hC, hS]; decide) rfl (Nat.le_of_ble_eq_true rfl)) (fun r hr => ?_)
    subst hr
    simp only [zpush, zv]
    rw [e2]
    refine z_if_eq (tgt := 19) dM_apart_12 (by decide) (fun hc9 => absurd hc9 (by decide)) (fun _ => ?_)
    refine z_iconst (v := 1) dM_apart_15 (by decide) ?_
    refine z_goto (tgt := 20) dM_apart_16 (by decide) ?_
    exact k20 true rfl
section
variable {M : zM} {D : va_G} {ca : Nat → ClassId} {ad : Nat → Nat} {th : Int32} {w h : Nat → Nat} {S O : Nat → Int32} {ow oh : Int32} {k : Nat} {how : Int32}
set_option maxRecDepth 100000 in
set_option maxHeartbeats 4000000 in
theorem n_look_x (hwh : okW w h) (hk : k < 4) (hR : zroom M = rmk 3 0 0) (hC : zcells M = 0) (hS : zslots M = 0) (hE : zEn M zE0) {y : Nat} (hy : y < h k) (s0 l0 m0 : Int32) (kx : ∀ v, Zj M (gG D ca ad) cM_look 9 RM wM_look (some .int) (mwn ca th w h S O ow oh) [some (.ref 0), some (.int (nI k)), some (.int how), some (.int (rowF (fun a b => a + b) (fun j => S (1024 * k + j)) y (w k) s0)), some (.int (rowF (fun a b => if b < a then b else a) (fun j => S (1024 * k + j)) y (w k) l0)), some (.int (rowF (fun a b => if a < b then b else a) (fun j => S (1024 * k + j)) y (w k) m0)), some (.int (nI y)), some (.int (nI (w k))), v] [] 110) :
    ∀ n x, x + n = w k → ∀ v, Zj M (gG D ca ad) cM_look 9 RM wM_look (some .int) (mwn ca th w h S O ow oh) [some (.ref 0), some (.int (nI k)), some (.int how), some (.int (rowF (fun a b => a + b) (fun j => S (1024 * k + j)) y x s0)), some (.int (rowF (fun a b => if b < a then b else a) (fun j => S (1024 * k + j)) y x l0)), some (.int (rowF (fun a b => if a < b then b else a) (fun j => S (1024 * k + j)) y x m0)), some (.int (nI y)), some (.int (nI x)), v] [] 41 := by
  obtain ⟨hk1, hk2', hk3, hk4⟩ := hwh k hk
  intro n
  induction n with
  | zero =>
    intro x hx v
    obtain rfl : x = w k := by omega
    refine z_iload dM_look_41 rfl ?_
    refine z_aload_n dM_look_43 rfl ?_
    refine z_get (C := RM) (T := TM) (N := 7) (ref := "ToneMixerModel") 1 dM_look_44 rfl rfl rfl (by decide) (fun w h => bwT (hbM w h)) (bwT b_387) rfl ?_
    refine z_iload_n dM_look_47 rfl ?_
    refine z_ialdN (t0 := 0) (k := k) dM_look_48 rfl rfl (rfl) (hk) (by decide) ?_
    exact z_icmp_ge (tgt := 110) dM_look_49 (by decide) (fun _ => kx v) (fun hc => absurd (nI_le (Nat.le_refl _) (by omega)) hc)
  | succ n ih =>
    intro x hx v
    refine z_iload dM_look_41 rfl ?_
    refine z_aload_n dM_look_43 rfl ?_
    refine z_get (C := RM) (T := TM) (N := 7) (ref := "ToneMixerModel") 1 dM_look_44 rfl rfl rfl (by decide) (fun w h => bwT (hbM w h)) (bwT b_387) rfl ?_
    refine z_iload_n dM_look_47 rfl ?_
    refine z_ialdN (t0 := 0) (k := k) dM_look_48 rfl rfl (rfl) (hk) (by decide) ?_
    refine z_icmp_ge (tgt := 110) dM_look_49 (by decide) (fun hc => absurd hc (nI_ge (by omega) (by omega))) (fun _ => ?_)
    refine z_aload_n dM_look_52 rfl ?_
    refine z_get (C := RM) (T := TM) (N := 7) (ref := "ToneMixerModel") 3 dM_look_53 rfl rfl rfl (by decide) (fun w h => bwT (hbM w h)) (bwT b_389) rfl ?_
    refine z_iload_n dM_look_56 rfl ?_
    refine z_iload dM_look_57 rfl ?_
    refine z_iload dM_look_59 rfl ?_
    refine z_pure (z_S hE zEok_0 (m_cell _ _ _ _ _) dM_look_61 (gd_S b_434 b_435 b_3 b_436) rfl qM_cell.2 ⟨rfl, rfl⟩ (by rw [hR]; decide) (by rw [hR, hC, hS]; decide) rfl (Nat.le_of_ble_eq_true rfl)) (fun r hr => ?_)
    subst hr
    simp only [zpush, zv]
    refine z_ialdN (t0 := 0) (k := 1024 * k + (y * 32 + x)) dM_look_64 rfl rfl (z_cell2 _ _ _) (by omega) (by decide) ?_
    refine z_istore dM_look_65 (by decide) rfl ?_
    try simp only [List.set_cons_succ, List.set_cons_zero]
    refine z_iload_n dM_look_67 rfl ?_
    refine z_iload dM_look_68 rfl ?_
    refine z_iadd dM_look_70 ?_
    refine z_istore_n dM_look_71 (by decide) rfl ?_
    try simp only [List.set_cons_succ, List.set_cons_zero]
    obtain ⟨u, hu⟩ : ∃ u, u = S (1024 * k + (y * 32 + x)) := ⟨_, rfl⟩
    rw [← hu]
    have k102 : ∀ l1 m1, l1 = rowF (fun a b => if b < a then b else a) (fun j => S (1024 * k + j)) y (x + 1) l0 → m1 = rowF (fun a b => if a < b then b else a) (fun j => S (1024 * k + j)) y (x + 1) m0 → Zj M (gG D ca ad) cM_look 9 RM wM_look (some .int) (mwn ca th w h S O ow oh) [some (.ref 0), some (.int (nI k)), some (.int how), some (.int (rowF (fun a b => a + b) (fun j => S (1024 * k + j)) y x s0 + u)), some (.int (l1)), some (.int (rowF (fun a b => if a < b then b else a) (fun j => S (1024 * k + j)) y x m0)), some (.int (nI y)), some (.int (nI x)), some (.int u)] [.int m1] 102 := fun l1 m1 h1 h2 => by
      refine z_istore dM_look_102 (by decide) rfl ?_
      try simp only [List.set_cons_succ, List.set_cons_zero]
      refine z_iinc1 dM_look_104 (by decide) rfl rfl ?_
      try simp only [List.set_cons_succ, List.set_cons_zero]
      refine z_goto (tgt := 41) dM_look_107 (by decide) ?_
      rw [nI_1, h1, h2, hu]
      exact ih (x + 1) (by omega) _
    have k86 : ∀ l1, l1 = rowF (fun a b => if b < a then b else a) (fun j => S (1024 * k + j)) y (x + 1) l0 → Zj M (gG D ca ad) cM_look 9 RM wM_look (some .int) (mwn ca th w h S O ow oh) [some (.ref 0), some (.int (nI k)), some (.int how), some (.int (rowF (fun a b => a + b) (fun j => S (1024 * k + j)) y x s0 + u)), some (.int (rowF (fun a b => if b < a then b else a) (fun j => S (1024 * k + j)) y x l0)), some (.int (rowF (fun a b => if a < b then b else a) (fun j => S (1024 * k + j)) y x m0)), some (.int (nI y)), some (.int (nI x)), some (.int u)] [.int l1] 86 := fun l1 h1 => by
      refine z_istore dM_look_86 (by decide) rfl ?_
      try simp only [List.set_cons_succ, List.set_cons_zero]
      refine z_iload dM_look_88 rfl ?_
      refine z_iload dM_look_90 rfl ?_
      refine z_icmp_le (tgt := 100) dM_look_92 (by decide) (fun c => ?_) (fun c => ?_)
      · skip
        refine z_iload dM_look_100 rfl ?_
        exact k102 l1 _ h1 (by rw [rowF, ← hu, if_neg (Int32.not_lt.mpr c)])
      · skip
        refine z_iload dM_look_95 rfl ?_
        refine z_goto (tgt := 102) dM_look_97 (by decide) ?_
        exact k102 l1 _ h1 (by rw [rowF, ← hu, if_pos (Int32.not_le.mp c)])
    refine z_iload dM_look_72 rfl ?_
    refine z_iload dM_look_74 rfl ?_
    refine z_icmp_ge (tgt := 84) dM_look_76 (by decide) (fun c => ?_) (fun c => ?_)
    · skip
      refine z_iload dM_look_84 rfl ?_
      exact k86 _ (by rw [rowF, ← hu, if_neg (Int32.not_lt.mpr c)])
    · skip
      refine z_iload dM_look_79 rfl ?_
      refine z_goto (tgt := 86) dM_look_81 (by decide) ?_
      exact k86 _ (by rw [rowF, ← hu, if_pos (Int32.not_le.mp c)])
set_option maxRecDepth 100000 in
set_option maxHeartbeats 4000000 in
theorem n_look_y (hwh : okW w h) (hk : k < 4) (hR : zroom M = rmk 3 0 0) (hC : zcells M = 0) (hS : zslots M = 0) (hE : zEn M zE0) (s0 l0 m0 : Int32) (kx : ∀ x v, Zj M (gG D ca ad) cM_look 9 RM wM_look (some .int) (mwn ca th w h S O ow oh) [some (.ref 0), some (.int (nI k)), some (.int how), some (.int (allF (fun a b => a + b) (fun j => S (1024 * k + j)) (w k) (h k) s0)), some (.int (allF (fun a b => if b < a then b else a) (fun j => S (1024 * k + j)) (w k) (h k) l0)), some (.int (allF (fun a b => if a < b then b else a) (fun j => S (1024 * k + j)) (w k) (h k) m0)), some (.int (nI (h k))), x, v] [] 116) :
    ∀ n y, y + n = h k → ∀ x v, Zj M (gG D ca ad) cM_look 9 RM wM_look (some .int) (mwn ca th w h S O ow oh) [some (.ref 0), some (.int (nI k)), some (.int how), some (.int (allF (fun a b => a + b) (fun j => S (1024 * k + j)) (w k) y s0)), some (.int (allF (fun a b => if b < a then b else a) (fun j => S (1024 * k + j)) (w k) y l0)), some (.int (allF (fun a b => if a < b then b else a) (fun j => S (1024 * k + j)) (w k) y m0)), some (.int (nI y)), x, v] [] 27 := by
  obtain ⟨hk1, hk2', hk3, hk4⟩ := hwh k hk
  intro n
  induction n with
  | zero =>
    intro y hy x v
    obtain rfl : y = h k := by omega
    refine z_iload dM_look_27 rfl ?_
    refine z_aload_n dM_look_29 rfl ?_
    refine z_get (C := RM) (T := TM) (N := 7) (ref := "ToneMixerModel") 2 dM_look_30 rfl rfl rfl (by decide) (fun w h => bwT (hbM w h)) (bwT b_388) rfl ?_
    refine z_iload_n dM_look_33 rfl ?_
    refine z_ialdN (t0 := 0) (k := k) dM_look_34 rfl rfl (rfl) (hk) (by decide) ?_
    exact z_icmp_ge (tgt := 116) dM_look_35 (by decide) (fun _ => kx x v) (fun hc => absurd (nI_le (Nat.le_refl _) (by omega)) hc)
  | succ n ih =>
    intro y hy x v
    refine z_iload dM_look_27 rfl ?_
    refine z_aload_n dM_look_29 rfl ?_
    refine z_get (C := RM) (T := TM) (N := 7) (ref := "ToneMixerModel") 2 dM_look_30 rfl rfl rfl (by decide) (fun w h => bwT (hbM w h)) (bwT b_388) rfl ?_
    refine z_iload_n dM_look_33 rfl ?_
    refine z_ialdN (t0 := 0) (k := k) dM_look_34 rfl rfl (rfl) (hk) (by decide) ?_
    refine z_icmp_ge (tgt := 116) dM_look_35 (by decide) (fun hc => absurd hc (nI_ge (by omega) (by omega))) (fun _ => ?_)
    refine z_iconst (v := 0) dM_look_38 (by decide) ?_
    refine z_istore dM_look_39 (by decide) rfl ?_
    try simp only [List.set_cons_succ, List.set_cons_zero]
    refine n_look_x hwh hk hR hC hS hE (y := y) (by omega) _ _ _ (fun v => ?_) (w k) 0 (by omega) _
    refine z_iinc1 dM_look_110 (by decide) rfl rfl ?_
    try simp only [List.set_cons_succ, List.set_cons_zero]
    refine z_goto (tgt := 27) dM_look_113 (by decide) ?_
    rw [nI_1]
    exact ih (y + 1) (by omega) _ _
end
set_option maxRecDepth 100000 in
set_option maxHeartbeats 4000000 in
theorem m_look (l : Launch) (D : va_G) (ca : Nat → ClassId) (ad : Nat → Nat) (th : Int32) (w h : Nat → Nat) (S O : Nat → Int32) (ow oh : Int32) (hwh : okW w h) (n how : Int32) : zMet l yM_look wM_look (rmk 3 0 0) zE0 (gG D ca ad) (mwn ca th w h S O ow oh) [.ref 0, .int n, .int how] (fun r aw => ((noP n ∧ r = some (.int 0) ∧ aw = (mwn ca 1 w h S O ow oh)) ∨ ∃ k : Nat, k < 4 ∧ n = nI k ∧ aw = (mwn ca 0 w h S O ow oh) ∧ (((how.toInt < 0 ∨ 4 < how.toInt) ∧ r = some (.int (-1))) ∨ ∃ v : Nat, v < 5 ∧ how = nI v ∧ r = some (.int (lkv v (fun j => S (1024 * k + j)) (w k) (h k)))))) := by
  refine zMet.of (cc := cM_look) (maxL := 9) (ret := (some .int)) (lv := [some (.ref 0), some (.int n), some (.int how), none, none, none, none, none, none]) (by decide) rfl (Nat.le_of_ble_eq_true rfl) rfl (fun M hl0 hR hC hS hE hret => ?_)
  refine z_aload_n dM_look_0 rfl ?_
  refine z_iload_n dM_look_1 rfl ?_
  refine z_pure (z_S hE zEok_0 (m_isPlane _ _ _) dM_look_2 (gd_S b_416 b_417 b_3 b_418) rfl qM_isPlane.2 ⟨rfl, rfl⟩ (by rw [hR]; decide) (by rw [hR, hC, hS]; decide) rfl (Nat.le_of_ble_eq_true rfl)) (fun r hr => ?_)
  subst hr
  simp only [zpush, zv]
  refine z_iconst (v := 1) dM_look_5 (by decide) ?_
  refine z_same (z_V (C := RM) (b := 0) hE zEok_0 (m_goes _ D ca ad th w h S O ow oh (inB n 0 3) (true)) dM_look_6 (gd_V b_422 b_424 bs_14 b_3 b_425) rfl qM_goes ⟨rfl, rfl⟩ (by rw [hR]; decide) (by rw [hR, hC, hS]; decide) rfl (Nat.le_of_ble_eq_true rfl) rfl rfl) (fun r aw1 hlen hr => ?_)
  obtain ⟨rfl, rfl⟩ := hr
  simp only [zpush, zv]
  rcases inP n with ⟨e1, h1⟩ | ⟨e1, k, hk, rfl⟩
  · rw [e1]
    refine z_if_ne (tgt := 14) dM_look_9 (by decide) (fun hc9 => absurd hc9 (by decide)) (fun _ => ?_)
    refine z_iconst (v := 0) dM_look_12 (by decide) ?_
    exact z_ireturn dM_look_13 rfl hret ⟨Nat.le_of_eq hC, Nat.le_of_eq hS⟩ rfl (Or.inl ⟨h1, rfl, rfl⟩)
  rw [e1]
  refine z_if_ne (tgt := 14) dM_look_9 (by decide) (fun _ => ?_) (fun hc9 => absurd hc9 (by decide))
  refine z_iconst (v := 0) dM_look_14 (by decide) ?_
  refine z_istore_n dM_look_15 (by decide) rfl ?_
  try simp only [List.set_cons_succ, List.set_cons_zero]
  refine z_sipush (v := 255) dM_look_16 (by decide) ?_
  refine z_istore dM_look_19 (by decide) rfl ?_
  try simp only [List.set_cons_succ, List.set_cons_zero]
  refine z_iconst (v := 0) dM_look_21 (by decide) ?_
  refine z_istore dM_look_22 (by decide) rfl ?_
  try simp only [List.set_cons_succ, List.set_cons_zero]
  refine z_iconst (v := 0) dM_look_24 (by decide) ?_
  refine z_istore dM_look_25 (by decide) rfl ?_
  try simp only [List.set_cons_succ, List.set_cons_zero]
  refine n_look_y hwh hk hR hC hS hE 0 255 0 (fun x v => ?_) (h k) 0 (by omega) none none
  refine z_iload_n dM_look_116 rfl ?_
  by_cases hb : how.toInt < 0 ∨ 4 < how.toInt
  · refine z_tableOut (tgt := 174) dM_look_117 hb (by decide) ?_
    refine z_iconst (v := -1) dM_look_174 (by decide) ?_
    exact z_ireturn dM_look_175 rfl hret ⟨Nat.le_of_eq hC, Nat.le_of_eq hS⟩ rfl (Or.inr ⟨k, hk, rfl, rfl, Or.inl ⟨hb, rfl⟩⟩)
  · obtain ⟨v9, hv, rfl⟩ := sw_of 4 (by decide) (fun q => hb (Or.inl q)) (fun q => hb (Or.inr q))
    clear hb
    rcases (show v9 = 0 ∨ v9 = 1 ∨ v9 = 2 ∨ v9 = 3 ∨ v9 = 4 by omega) with rfl | rfl | rfl | rfl | rfl
    · refine z_tableIn (off := 35) (tgt := 152) dM_look_117 (by decide) (by decide) rfl (by decide) ?_
      refine z_aload_n dM_look_152 rfl ?_
      refine z_get (C := RM) (T := TM) (N := 7) (ref := "ToneMixerModel") 1 dM_look_153 rfl rfl rfl (by decide) (fun w h => bwT (hbM w h)) (bwT b_387) rfl ?_
      refine z_iload_n dM_look_156 rfl ?_
      refine z_ialdN (t0 := 0) (k := k) dM_look_157 rfl rfl (rfl) (hk) (by decide) ?_
      exact z_ireturn dM_look_158 rfl hret ⟨Nat.le_of_eq hC, Nat.le_of_eq hS⟩ rfl (Or.inr ⟨k, hk, rfl, rfl, Or.inr ⟨0, by omega, rfl, rfl⟩⟩)
    · refine z_tableIn (off := 42) (tgt := 159) dM_look_117 (by decide) (by decide) rfl (by decide) ?_
      refine z_aload_n dM_look_159 rfl ?_
      refine z_get (C := RM) (T := TM) (N := 7) (ref := "ToneMixerModel") 2 dM_look_160 rfl rfl rfl (by decide) (fun w h => bwT (hbM w h)) (bwT b_388) rfl ?_
      refine z_iload_n dM_look_163 rfl ?_
      refine z_ialdN (t0 := 0) (k := k) dM_look_164 rfl rfl (rfl) (hk) (by decide) ?_
      exact z_ireturn dM_look_165 rfl hret ⟨Nat.le_of_eq hC, Nat.le_of_eq hS⟩ rfl (Or.inr ⟨k, hk, rfl, rfl, Or.inr ⟨1, by omega, rfl, rfl⟩⟩)
    · refine z_tableIn (off := 49) (tgt := 166) dM_look_117 (by decide) (by decide) rfl (by decide) ?_
      refine z_iload_n dM_look_166 rfl ?_
      exact z_ireturn dM_look_167 rfl hret ⟨Nat.le_of_eq hC, Nat.le_of_eq hS⟩ rfl (Or.inr ⟨k, hk, rfl, rfl, Or.inr ⟨2, by omega, rfl, rfl⟩⟩)
    · refine z_tableIn (off := 51) (tgt := 168) dM_look_117 (by decide) (by decide) rfl (by decide) ?_
      refine z_iload dM_look_168 rfl ?_
      exact z_ireturn dM_look_170 rfl hret ⟨Nat.le_of_eq hC, Nat.le_of_eq hS⟩ rfl (Or.inr ⟨k, hk, rfl, rfl, Or.inr ⟨3, by omega, rfl, rfl⟩⟩)
    · refine z_tableIn (off := 54) (tgt := 171) dM_look_117 (by decide) (by decide) rfl (by decide) ?_
      refine z_iload dM_look_171 rfl ?_
      exact z_ireturn dM_look_173 rfl hret ⟨Nat.le_of_eq hC, Nat.le_of_eq hS⟩ rfl (Or.inr ⟨k, hk, rfl, rfl, Or.inr ⟨4, by omega, rfl, rfl⟩⟩)
def meL (S : Nat → Int32) (k w h : Nat) (x y : Int32) : Nat → Int64
  | 0 => 0
  | i + 1 => (meL S k w h x y i <<< ((8 : Int32).toInt64 &&& 63)) ||| (if hasB (nI w) (nI h) (x + nI i) y = true then S (1024 * k + (y * 32 + (x + nI i)).toNatClampNeg) else 0).toInt64
section
variable {M : zM} {D : va_G} {ca : Nat → ClassId} {ad : Nat → Nat} {th : Int32} {w h : Nat → Nat} {S O : Nat → Int32} {ow oh : Int32} {k : Nat} {x y : Int32}
set_option maxRecDepth 100000 in
set_option maxHeartbeats 4000000 in
theorem n_eight (hwh : okW w h) (hk : k < 4) (hR : zroom M = rmk 3 0 0) (hC : zcells M = 0) (hS : zslots M = 0) (hE : zEn M zE0) (kx : ∀ s, Zj M (gG D ca ad) cM_eight 8 RM wM_eight (some .long) (mwn ca th w h S O ow oh) [some (.ref 0), some (.int (nI k)), some (.int x), some (.int y), some (.long (meL S k (w k) (h k) x y 8)), none, some (.int (nI 8)), s] [] 77) :
    ∀ n i, i + n = 8 → ∀ s, Zj M (gG D ca ad) cM_eight 8 RM wM_eight (some .long) (mwn ca th w h S O ow oh) [some (.ref 0), some (.int (nI k)), some (.int x), some (.int y), some (.long (meL S k (w k) (h k) x y i)), none, some (.int (nI i)), s] [] 20 := by
  obtain ⟨hk1, hk2', hk3, hk4⟩ := hwh k hk
  intro n
  induction n with
  | zero =>
    intro i hi s
    obtain rfl : i = 8 := by omega
    refine z_iload dM_eight_20 rfl ?_
    refine z_bipush (v := 8) dM_eight_22 (by decide) ?_
    exact z_icmp_ge (tgt := 77) dM_eight_24 (by decide) (fun _ => kx s) (fun hc => absurd (by decide) hc)
  | succ n ih =>
    intro i hi s
    refine z_iload dM_eight_20 rfl ?_
    refine z_bipush (v := 8) dM_eight_22 (by decide) ?_
    rw [show (8 : Int32) = nI 8 from rfl]
    refine z_icmp_ge (tgt := 77) dM_eight_24 (by decide) (fun hc => absurd hc (nI_ge (by omega) (by omega))) (fun _ => ?_)
    refine z_aload_n dM_eight_27 rfl ?_
    refine z_iload_n dM_eight_28 rfl ?_
    refine z_iload_n dM_eight_29 rfl ?_
    refine z_iload dM_eight_30 rfl ?_
    refine z_iadd dM_eight_32 ?_
    refine z_iload_n dM_eight_33 rfl ?_
    refine z_same (z_V (C := RM) (b := 0) hE zEok_0 (m_isSample _ D ca ad th w h S O ow oh hwh (nI k) (x + nI i) y) dM_eight_34 (gd_V b_430 b_432 bs_15 b_3 b_433) rfl qM_isSample ⟨rfl, rfl⟩ (by rw [hR]; decide) (by rw [hR, hC, hS]; decide) rfl (Nat.le_of_ble_eq_true rfl) rfl rfl) (fun r aw1 hlen hr => ?_)
    obtain ⟨rfl, bb, rfl, hbb⟩ := hr
    simp only [zpush, zv]
    have hbe : bb = hasB (nI (w k)) (nI (h k)) (x + nI i) y := by
      rcases hbb with ⟨q, -⟩ | ⟨k', hk', e1, e2⟩
      · exact absurd q (noP_k hk)
      · obtain rfl : k = k' := (nI_eq (by omega) (by omega)).mp e1
        exact e2
    subst hbe
    refine z_istore dM_eight_37 (by decide) rfl ?_
    try simp only [List.set_cons_succ, List.set_cons_zero]
    refine z_lload dM_eight_39 rfl ?_
    refine z_bipush (v := 8) dM_eight_41 (by decide) ?_
    refine z_lshl dM_eight_43 ?_
    refine z_iload dM_eight_44 rfl ?_
    have k67 : ∀ v, v = (if hasB (nI (w k)) (nI (h k)) (x + nI i) y = true then S (1024 * k + (y * 32 + (x + nI i)).toNatClampNeg) else 0) → Zj M (gG D ca ad) cM_eight 8 RM wM_eight (some .long) (mwn ca th w h S O ow oh) [some (.ref 0), some (.int (nI k)), some (.int x), some (.int y), some (.long (meL S k (w k) (h k) x y i)), none, some (.int (nI i)), some (.int (bI (hasB (nI (w k)) (nI (h k)) (x + nI i) y)))] [.int v, .long (meL S k (w k) (h k) x y i <<< ((8 : Int32).toInt64 &&& 63))] 67 := fun v hv => by
      refine z_i2l dM_eight_67 ?_
      refine z_lor dM_eight_68 ?_
      refine z_lstore dM_eight_69 (by decide) rfl ?_
      try simp only [List.set_cons_succ, List.set_cons_zero]
      refine z_iinc1 dM_eight_71 (by decide) rfl rfl ?_
      try simp only [List.set_cons_succ, List.set_cons_zero]
      refine z_goto (tgt := 20) dM_eight_74 (by decide) ?_
      rw [nI_1, hv]
      exact ih (i + 1) (by omega) _
    cases hb : hasB (nI (w k)) (nI (h k)) (x + nI i) y with
    | false =>
      rw [hb] at k67
      refine z_if_eq (tgt := 66) dM_eight_46 (by decide) (fun _ => ?_) (fun hc9 => absurd hc9 (by decide))
      refine z_iconst (v := 0) dM_eight_66 (by decide) ?_
      exact k67 0 rfl
    | true =>
      rw [hb] at k67
      obtain ⟨a, b, ha, hb2, e1, e2⟩ := hasB_of hk2' hk4 hb
      refine z_if_eq (tgt := 66) dM_eight_46 (by decide) (fun hc9 => absurd hc9 (by decide)) (fun _ => ?_)
      refine z_aload_n dM_eight_49 rfl ?_
      refine z_get (C := RM) (T := TM) (N := 7) (ref := "ToneMixerModel") 3 dM_eight_50 rfl rfl rfl (by decide) (fun w h => bwT (hbM w h)) (bwT b_389) rfl ?_
      refine z_iload_n dM_eight_53 rfl ?_
      refine z_iload_n dM_eight_54 rfl ?_
      refine z_iload dM_eight_55 rfl ?_
      refine z_iadd dM_eight_57 ?_
      refine z_iload_n dM_eight_58 rfl ?_
      refine z_pure (z_S hE zEok_0 (m_cell _ _ _ _ _) dM_eight_59 (gd_S b_434 b_435 b_3 b_436) rfl qM_cell.2 ⟨rfl, rfl⟩ (by rw [hR]; decide) (by rw [hR, hC, hS]; decide) rfl (Nat.le_of_ble_eq_true rfl)) (fun r hr => ?_)
      subst hr
      simp only [zpush, zv]
      refine z_ialdN (t0 := 0) (k := 1024 * k + (y * 32 + (x + nI i)).toNatClampNeg) dM_eight_62 rfl rfl (by rw [e1, e2, z_cell2, z_pl, nI_clamp (by omega)]) (by rw [e1, e2, z_pl, nI_clamp (by omega)]; omega) (by decide) ?_
      refine z_goto (tgt := 67) dM_eight_63 (by decide) ?_
      exact k67 _ rfl
end
set_option maxRecDepth 100000 in
set_option maxHeartbeats 4000000 in
theorem m_eight (l : Launch) (D : va_G) (ca : Nat → ClassId) (ad : Nat → Nat) (th : Int32) (w h : Nat → Nat) (S O : Nat → Int32) (ow oh : Int32) (hwh : okW w h) (n x y : Int32) : zMet l yM_eight wM_eight (rmk 3 0 0) zE0 (gG D ca ad) (mwn ca th w h S O ow oh) [.ref 0, .int n, .int x, .int y] (fun r aw => ((noP n ∧ r = some (.long 0) ∧ aw = (mwn ca 1 w h S O ow oh)) ∨ ∃ k : Nat, k < 4 ∧ n = nI k ∧ r = some (.long (meL S k (w k) (h k) x y 8)) ∧ aw = (mwn ca 0 w h S O ow oh))) := by
  refine zMet.of (cc := cM_eight) (maxL := 8) (ret := (some .long)) (lv := [some (.ref 0), some (.int n), some (.int x), some (.int y), none, none, none, none]) (by decide) rfl (Nat.le_of_ble_eq_true rfl) rfl (fun M hl0 hR hC hS hE hret => ?_)
  refine z_aload_n dM_eight_0 rfl ?_
  refine z_iload_n dM_eight_1 rfl ?_
  refine z_pure (z_S hE zEok_0 (m_isPlane _ _ _) dM_eight_2 (gd_S b_416 b_417 b_3 b_418) rfl qM_isPlane.2 ⟨rfl, rfl⟩ (by rw [hR]; decide) (by rw [hR, hC, hS]; decide) rfl (Nat.le_of_ble_eq_true rfl)) (fun r hr => ?_)
  subst hr
  simp only [zpush, zv]
  refine z_iconst (v := 1) dM_eight_5 (by decide) ?_
  refine z_same (z_V (C := RM) (b := 0) hE zEok_0 (m_goes _ D ca ad th w h S O ow oh (inB n 0 3) (true)) dM_eight_6 (gd_V b_422 b_424 bs_14 b_3 b_425) rfl qM_goes ⟨rfl, rfl⟩ (by rw [hR]; decide) (by rw [hR, hC, hS]; decide) rfl (Nat.le_of_ble_eq_true rfl) rfl rfl) (fun r aw1 hlen hr => ?_)
  obtain ⟨rfl, rfl⟩ := hr
  simp only [zpush, zv]
  rcases inP n with ⟨e1, h1⟩ | ⟨e1, k, hk, rfl⟩
  · rw [e1]
    refine z_if_ne (tgt := 14) dM_eight_9 (by decide) (fun hc9 => absurd hc9 (by decide)) (fun _ => ?_)
    refine z_lconst (v := 0) dM_eight_12 (by decide) ?_
    exact z_lreturn dM_eight_13 hret ⟨Nat.le_of_eq hC, Nat.le_of_eq hS⟩ rfl (Or.inl ⟨h1, rfl, rfl⟩)
  rw [e1]
  refine z_if_ne (tgt := 14) dM_eight_9 (by decide) (fun _ => ?_) (fun hc9 => absurd hc9 (by decide))
  refine z_lconst (v := 0) dM_eight_14 (by decide) ?_
  refine z_lstore dM_eight_15 (by decide) rfl ?_
  try simp only [List.set_cons_succ, List.set_cons_zero]
  refine z_iconst (v := 0) dM_eight_17 (by decide) ?_
  refine z_istore dM_eight_18 (by decide) rfl ?_
  try simp only [List.set_cons_succ, List.set_cons_zero]
  refine n_eight hwh hk hR hC hS hE (fun s => ?_) 8 0 (by omega) none
  refine z_lload dM_eight_77 rfl ?_
  exact z_lreturn dM_eight_79 hret ⟨Nat.le_of_eq hC, Nat.le_of_eq hS⟩ rfl (Or.inr ⟨k, hk, rfl, rfl, rfl⟩)
