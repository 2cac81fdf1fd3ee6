/-! the reference: its object, its sides, its samples, what it keeps of a plane -/
abbrev mw (ca : Nat → ClassId) (th : Int32) (W H S O : Nat → Int32) (ow oh : Int32) : List va_E := [.inr (2, [.int th, .ref 1, .ref 2, .ref 3, .ref 4, .int ow, .int oh]), .inl (ca 0, 4, .inl W), .inl (ca 0, 4, .inl H), .inl (ca 0, 4096, .inl S), .inl (ca 0, 1024, .inl O)]
abbrev mwn (ca : Nat → ClassId) (th : Int32) (w h : Nat → Nat) (S O : Nat → Int32) (ow oh : Int32) : List va_E := mw ca th (fun j => nI (w j)) (fun j => nI (h j)) S O ow oh
theorem updn (w : Nat → Nat) (k n : Nat) : upd (fun j => nI (w j)) k (nI n) = fun j => nI (va_up w k n j) := by
  funext j
  by_cases h : j = k
  · subst h; rw [pk_us, va_up_self]
  · rw [pk_un h, va_up_ne _ _ h]
def bI (b : Bool) : Int32 := if b = true then 1 else 0
def inB (v lo hi : Int32) : Bool := decide (¬ v < lo ∧ ¬ hi < v)
set_option maxRecDepth 100000 in
set_option maxHeartbeats 4000000 in
theorem m_in (l : Launch) (G : zG) (v a b : Int32) : zMet l yM_in wM_in (rmk 0 0 0) zE0 G [] [.int v, .int a, .int b] (fun r _ => r = some (.int (bI (inB v a b)))) := by
  refine zMet.of (cc := cM_in) (maxL := 3) (ret := (some .boolean)) (lv := [some (.int v), some (.int a), some (.int b)]) (by decide) rfl (Nat.le_of_ble_eq_true rfl) rfl (fun M hl0 hR hC hS hE hret => ?_)
  have k14 : inB v a b = false → Zj M G cM_in 3 RM wM_in (some .boolean) [] [some (.int v), some (.int a), some (.int b)] [] 14 := fun hb => by
    refine z_iconst (v := 0) dM_in_14 (by decide) ?_
    refine z_ireturn dM_in_15 rfl hret ⟨Nat.le_of_eq hC, Nat.le_of_eq hS⟩ rfl ?_
    rw [hb]; rfl
  refine z_iload_n dM_in_0 rfl ?_
  refine z_iload_n dM_in_1 rfl ?_
  refine z_icmp_lt (tgt := 14) dM_in_2 (by decide) (fun c1 => k14 (by simp [inB, c1])) (fun c1 => ?_)
  refine z_iload_n dM_in_5 rfl ?_
  refine z_iload_n dM_in_6 rfl ?_
  refine z_icmp_gt (tgt := 14) dM_in_7 (by decide) (fun c2 => k14 (by simp [inB, c2])) (fun c2 => ?_)
  refine z_iconst (v := 1) dM_in_10 (by decide) ?_
  refine z_goto (tgt := 15) dM_in_11 (by decide) ?_
  refine z_ireturn dM_in_15 rfl hret ⟨Nat.le_of_eq hC, Nat.le_of_eq hS⟩ rfl ?_
  rw [show inB v a b = true by simp [inB, c1, c2]]; rfl
set_option maxRecDepth 100000 in
set_option maxHeartbeats 4000000 in
theorem m_isPlane (l : Launch) (G : zG) (p : Int32) : zMet l yM_isPlane wM_isPlane (rmk 1 0 0) zE0 G [] [.int p] (fun r _ => r = some (.int (bI (inB p 0 3)))) := by
  refine zMet.of (cc := cM_isPlane) (maxL := 1) (ret := (some .boolean)) (lv := [some (.int p)]) (by decide) rfl (Nat.le_of_ble_eq_true rfl) rfl (fun M hl0 hR hC hS hE hret => ?_)
  refine z_iload_n dM_isPlane_0 rfl ?_
  refine z_iconst (v := 0) dM_isPlane_1 (by decide) ?_
  refine z_iconst (v := 3) dM_isPlane_2 (by decide) ?_
  refine z_pure (z_S hE zEok_0 (m_in _ _ _ _ _) dM_isPlane_3 (gd_S b_419 b_420 b_3 b_421) rfl qM_in.2 ⟨rfl, rfl⟩ (by rw [hR]; decide) (by rw [hR, hC, hS]; decide) rfl (Nat.le_of_ble_eq_true rfl)) (fun r hr => ?_)
  subst hr
  simp only [zpush, zv]
  exact z_ireturn dM_isPlane_6 (by unfold bI; split <;> rfl) hret ⟨Nat.le_of_eq hC, Nat.le_of_eq hS⟩ rfl rfl
set_option maxRecDepth 100000 in
set_option maxHeartbeats 4000000 in
theorem m_cell (l : Launch) (G : zG) (p x y : Int32) : zMet l yM_cell wM_cell (rmk 0 0 0) zE0 G [] [.int p, .int x, .int y] (fun r _ => r = some (.int (1024 * p + 32 * y + x))) := by
  refine zMet.of (cc := cM_cell) (maxL := 3) (ret := (some .int)) (lv := [some (.int p), some (.int x), some (.int y)]) (by decide) rfl (Nat.le_of_ble_eq_true rfl) rfl (fun M hl0 hR hC hS hE hret => ?_)
  refine z_sipush (v := 1024) dM_cell_0 (by decide) ?_
  refine z_iload_n dM_cell_3 rfl ?_
  refine z_imul dM_cell_4 ?_
  refine z_bipush (v := 32) dM_cell_5 (by decide) ?_
  refine z_iload_n dM_cell_7 rfl ?_
  refine z_imul dM_cell_8 ?_
  refine z_iadd dM_cell_9 ?_
  refine z_iload_n dM_cell_10 rfl ?_
  refine z_iadd dM_cell_11 ?_
  exact z_ireturn dM_cell_12 rfl hret ⟨Nat.le_of_eq hC, Nat.le_of_eq hS⟩ rfl rfl
def mlim (v : Int32) : Int32 := if v < 0 then 0 else if 255 < v then 255 else v
set_option maxRecDepth 100000 in
set_option maxHeartbeats 4000000 in
theorem m_limit (l : Launch) (G : zG) (v : Int32) : zMet l yM_limit wM_limit (rmk 0 0 0) zE0 G [] [.int v] (fun r _ => r = some (.int (mlim v))) := by
  refine zMet.of (cc := cM_limit) (maxL := 1) (ret := (some .int)) (lv := [some (.int v)]) (by decide) rfl (Nat.le_of_ble_eq_true rfl) rfl (fun M hl0 hR hC hS hE hret => ?_)
  refine z_iload_n dM_limit_0 rfl ?_
  refine z_if_ge (tgt := 8) dM_limit_1 (by decide) (fun c1 => ?_) (fun c1 => ?_)
  · have c1' : ¬ v < 0 := Int32.not_lt.mpr c1
    refine z_iload_n dM_limit_8 rfl ?_
    refine z_sipush (v := 255) dM_limit_9 (by decide) ?_
    refine z_icmp_le (tgt := 21) dM_limit_12 (by decide) (fun c2 => ?_) (fun c2 => ?_)
    · skip
      refine z_iload_n dM_limit_21 rfl ?_
      exact z_ireturn dM_limit_22 rfl hret ⟨Nat.le_of_eq hC, Nat.le_of_eq hS⟩ rfl (by rw [mlim, if_neg c1', if_neg (Int32.not_lt.mpr c2)])
    · skip
      refine z_sipush (v := 255) dM_limit_15 (by decide) ?_
      refine z_goto (tgt := 22) dM_limit_18 (by decide) ?_
      exact z_ireturn dM_limit_22 rfl hret ⟨Nat.le_of_eq hC, Nat.le_of_eq hS⟩ rfl (by rw [mlim, if_neg c1', if_pos (Int32.not_le.mp c2)])
  · skip
    refine z_iconst (v := 0) dM_limit_4 (by decide) ?_
    refine z_goto (tgt := 22) dM_limit_5 (by decide) ?_
    exact z_ireturn dM_limit_22 rfl hret ⟨Nat.le_of_eq hC, Nat.le_of_eq hS⟩ rfl (by rw [mlim, if_pos (Int32.not_le.mp c1)])
set_option maxRecDepth 100000 in
set_option maxHeartbeats 4000000 in
theorem m_grey (l : Launch) (G : zG) (a b c : Int32) : zMet l yM_grey wM_grey (rmk 0 0 0) zE0 G [] [.int a, .int b, .int c] (fun r _ => r = some (.int (bri a b c))) := by
  refine zMet.of (cc := cM_grey) (maxL := 3) (ret := (some .int)) (lv := [some (.int a), some (.int b), some (.int c)]) (by decide) rfl (Nat.le_of_ble_eq_true rfl) rfl (fun M hl0 hR hC hS hE hret => ?_)
  refine z_sipush (v := 19595) dM_grey_0 (by decide) ?_
  refine z_iload_n dM_grey_3 rfl ?_
  refine z_imul dM_grey_4 ?_
  refine z_ldc (v := 38470) dM_grey_5 (bwT b_491) ?_
  refine z_iload_n dM_grey_7 rfl ?_
  refine z_imul dM_grey_8 ?_
  refine z_iadd dM_grey_9 ?_
  refine z_sipush (v := 7471) dM_grey_10 (by decide) ?_
  refine z_iload_n dM_grey_13 rfl ?_
  refine z_imul dM_grey_14 ?_
  refine z_iadd dM_grey_15 ?_
  refine z_ldc (v := 32768) dM_grey_16 (bwT b_484) ?_
  refine z_iadd dM_grey_18 ?_
  refine z_bipush (v := 16) dM_grey_19 (by decide) ?_
  refine z_ishr dM_grey_21 ?_
  exact z_ireturn dM_grey_22 rfl hret ⟨Nat.le_of_eq hC, Nat.le_of_eq hS⟩ rfl rfl
set_option maxRecDepth 100000 in
set_option maxHeartbeats 4000000 in
theorem m_thrown (l : Launch) (D : va_G) (ca : Nat → ClassId) (ad : Nat → Nat) (th : Int32) (w h : Nat → Nat) (S O : Nat → Int32) (ow oh : Int32)  : zMet l yM_thrown wM_thrown (rmk 0 0 0) zE0 (gG D ca ad) (mwn ca th w h S O ow oh) [.ref 0] (fun r aw => r = some (.int th) ∧ aw = mwn ca th w h S O ow oh) := by
  refine zMet.of (cc := cM_thrown) (maxL := 1) (ret := (some .int)) (lv := [some (.ref 0)]) (by decide) rfl (Nat.le_of_ble_eq_true rfl) rfl (fun M hl0 hR hC hS hE hret => ?_)
  refine z_aload_n dM_thrown_0 rfl ?_
  refine z_get (C := RM) (T := TM) (N := 7) (ref := "ToneMixerModel") 0 dM_thrown_1 rfl rfl rfl (by decide) (fun w h => bwT (hbM w h)) (bwT b_386) rfl ?_
  exact z_ireturn dM_thrown_4 rfl hret ⟨Nat.le_of_eq hC, Nat.le_of_eq hS⟩ rfl ⟨rfl, rfl⟩
def thv (a b : Bool) : Int32 := if a = true then (if b = true then 0 else 2) else 1
set_option maxRecDepth 100000 in
set_option maxHeartbeats 4000000 in
theorem m_goes (l : Launch) (D : va_G) (ca : Nat → ClassId) (ad : Nat → Nat) (th : Int32) (w h : Nat → Nat) (S O : Nat → Int32) (ow oh : Int32) (a b : Bool) : zMet l yM_goes wM_goes (rmk 0 0 0) zE0 (gG D ca ad) (mwn ca th w h S O ow oh) [.ref 0, .int (bI a), .int (bI b)] (fun r aw => r = some (.int (bI (a && b))) ∧ aw = mwn ca (thv a b) w h S O ow oh) := by
  refine zMet.of (cc := cM_goes) (maxL := 3) (ret := (some .boolean)) (lv := [some (.ref 0), some (.int (bI a)), some (.int (bI b))]) (by decide) rfl (Nat.le_of_ble_eq_true rfl) rfl (fun M hl0 hR hC hS hE hret => ?_)
  cases a <;> cases b
  · skip
    refine z_aload_n dM_goes_0 rfl ?_
    refine z_iload_n dM_goes_1 rfl ?_
    refine z_if_ne (tgt := 9) dM_goes_2 (by decide) (fun hc9 => absurd hc9 (by decide)) (fun _ => ?_)
    refine z_iconst (v := 1) dM_goes_5 (by decide) ?_
    refine z_goto (tgt := 18) dM_goes_6 (by decide) ?_
    refine z_put (C := RM) (T := TM) (N := 7) (ref := "ToneMixerModel") (ty := .int) 0 tyM dM_goes_18 rfl rfl (by decide) (fun w h => bwT (hbM w h)) (bwT b_386) rfl tyM_ok nmM rfl (by decide +kernel) (fun _ => ⟨rfl, rfl⟩) (Nat.le_of_ble_eq_true rfl) ?_
    try simp only [List.set_cons_succ, List.set_cons_zero]
    refine z_aload_n dM_goes_21 rfl ?_
    refine z_get (C := RM) (T := TM) (N := 7) (ref := "ToneMixerModel") 0 dM_goes_22 rfl rfl rfl (by decide) (fun w h => bwT (hbM w h)) (bwT b_386) rfl ?_
    refine z_if_ne (tgt := 32) dM_goes_25 (by decide) (fun _ => ?_) (fun hc9 => absurd hc9 (by decide))
    refine z_iconst (v := 0) dM_goes_32 (by decide) ?_
    exact z_ireturn dM_goes_33 rfl hret ⟨Nat.le_of_eq hC, Nat.le_of_eq hS⟩ rfl ⟨rfl, rfl⟩
  · skip
    refine z_aload_n dM_goes_0 rfl ?_
    refine z_iload_n dM_goes_1 rfl ?_
    refine z_if_ne (tgt := 9) dM_goes_2 (by decide) (fun hc9 => absurd hc9 (by decide)) (fun _ => ?_)
    refine z_iconst (v := 1) dM_goes_5 (by decide) ?_
    refine z_goto (tgt := 18) dM_goes_6 (by decide) ?_
    refine z_put (C := RM) (T := TM) (N := 7) (ref := "ToneMixerModel") (ty := .int) 0 tyM dM_goes_18 rfl rfl (by decide) (fun w h => bwT (hbM w h)) (bwT b_386) rfl tyM_ok nmM rfl (by decide +kernel) (fun _ => ⟨rfl, rfl⟩) (Nat.le_of_ble_eq_true rfl) ?_
    try simp only [List.set_cons_succ, List.set_cons_zero]
    refine z_aload_n dM_goes_21 rfl ?_
    refine z_get (C := RM) (T := TM) (N := 7) (ref := "ToneMixerModel") 0 dM_goes_22 rfl rfl rfl (by decide) (fun w h => bwT (hbM w h)) (bwT b_386) rfl ?_
    refine z_if_ne (tgt := 32) dM_goes_25 (by decide) (fun _ => ?_) (fun hc9 => absurd hc9 (by decide))
    refine z_iconst (v := 0) dM_goes_32 (by decide) ?_
    exact z_ireturn dM_goes_33 rfl hret ⟨Nat.le_of_eq hC, Nat.le_of_eq hS⟩ rfl ⟨rfl, rfl⟩
  · skip
    refine z_aload_n dM_goes_0 rfl ?_
    refine z_iload_n dM_goes_1 rfl ?_
    refine z_if_ne (tgt := 9) dM_goes_2 (by decide) (fun _ => ?_) (fun hc9 => absurd hc9 (by decide))
    refine z_iload_n dM_goes_9 rfl ?_
    refine z_if_ne (tgt := 17) dM_goes_10 (by decide) (fun hc9 => absurd hc9 (by decide)) (fun _ => ?_)
    refine z_iconst (v := 2) dM_goes_13 (by decide) ?_
    refine z_goto (tgt := 18) dM_goes_14 (by decide) ?_
    refine z_put (C := RM) (T := TM) (N := 7) (ref := "ToneMixerModel") (ty := .int) 0 tyM dM_goes_18 rfl rfl (by decide) (fun w h => bwT (hbM w h)) (bwT b_386) rfl tyM_ok nmM rfl (by decide +kernel) (fun _ => ⟨rfl, rfl⟩) (Nat.le_of_ble_eq_true rfl) ?_
    try simp only [List.set_cons_succ, List.set_cons_zero]
    refine z_aload_n dM_goes_21 rfl ?_
    refine z_get (C := RM) (T := TM) (N := 7) (ref := "ToneMixerModel") 0 dM_goes_22 rfl rfl rfl (by decide) (fun w h => bwT (hbM w h)) (bwT b_386) rfl ?_
    refine z_if_ne (tgt := 32) dM_goes_25 (by decide) (fun _ => ?_) (fun hc9 => absurd hc9 (by decide))
    refine z_iconst (v := 0) dM_goes_32 (by decide) ?_
    exact z_ireturn dM_goes_33 rfl hret ⟨Nat.le_of_eq hC, Nat.le_of_eq hS⟩ rfl ⟨rfl, rfl⟩
  · skip
    refine z_aload_n dM_goes_0 rfl ?_
    refine z_iload_n dM_goes_1 rfl ?_
    refine z_if_ne (tgt := 9) dM_goes_2 (by decide) (fun _ => ?_) (fun hc9 => absurd hc9 (by decide))
    refine z_iload_n dM_goes_9 rfl ?_
    refine z_if_ne (tgt := 17) dM_goes_10 (by decide) (fun _ => ?_) (fun hc9 => absurd hc9 (by decide))
    refine z_iconst (v := 0) dM_goes_17 (by decide) ?_
    refine z_put (C := RM) (T := TM) (N := 7) (ref := "ToneMixerModel") (ty := .int) 0 tyM dM_goes_18 rfl rfl (by decide) (fun w h => bwT (hbM w h)) (bwT b_386) rfl tyM_ok nmM rfl (by decide +kernel) (fun _ => ⟨rfl, rfl⟩) (Nat.le_of_ble_eq_true rfl) ?_
    try simp only [List.set_cons_succ, List.set_cons_zero]
    refine z_aload_n dM_goes_21 rfl ?_
    refine z_get (C := RM) (T := TM) (N := 7) (ref := "ToneMixerModel") 0 dM_goes_22 rfl rfl rfl (by decide) (fun w h => bwT (hbM w h)) (bwT b_386) rfl ?_
    refine z_if_ne (tgt := 32) dM_goes_25 (by decide) (fun hc9 => absurd hc9 (by decide)) (fun _ => ?_)
    refine z_iconst (v := 1) dM_goes_28 (by decide) ?_
    refine z_goto (tgt := 33) dM_goes_29 (by decide) ?_
    exact z_ireturn dM_goes_33 rfl hret ⟨Nat.le_of_eq hC, Nat.le_of_eq hS⟩ rfl ⟨rfl, rfl⟩
theorem inP (p : Int32) : (inB p 0 3 = false ∧ noP p) ∨ (inB p 0 3 = true ∧ ∃ k : Nat, k < 4 ∧ p = nI k) := by
  by_cases h1 : p < 0
  · exact Or.inl ⟨by simp [inB, h1], Or.inl h1⟩
  · by_cases h2 : 3 < p
    · refine Or.inl ⟨by simp [inB, h2], Or.inr ?_⟩
      rw [Int32.le_iff_toInt_le]
      rw [Int32.lt_iff_toInt_lt] at h2
      rw [show (3 : Int32).toInt = 3 by decide] at h2
      rw [show (4 : Int32).toInt = 4 by decide]
      omega
    · obtain ⟨k, hk, rfl⟩ := nI_of2 (M := 3) (n := 3) (by decide) h1 (Int32.not_lt.mp h2)
      exact Or.inr ⟨by simp [inB, h1, h2], k, by omega, rfl⟩
theorem inB_has {w : Nat} (h1 : 1 ≤ w) (h2 : w ≤ 32) (x : Int32) : inB x 0 (nI w - 1) = decide (¬ x < 0 ∧ ¬ nI w ≤ x) := by
  rw [z_m1 h1]
  unfold inB
  have e : (nI (w - 1) < x) ↔ (nI w ≤ x) := by
    rw [Int32.lt_iff_toInt_lt, Int32.le_iff_toInt_le, nI_toInt (by omega), nI_toInt (by omega)]
    omega
  simp only [e]
/-- is (x, y) a sample of plane p -/
def isS (w h : Nat → Nat) (p x y : Int32) (b : Bool) : Prop := (noP p ∧ b = false) ∨ ∃ k : Nat, k < 4 ∧ p = nI k ∧ b = hasB (nI (w k)) (nI (h k)) x y
set_option maxRecDepth 100000 in
set_option maxHeartbeats 4000000 in
theorem m_isSample (l : Launch) (D : va_G) (ca : Nat → ClassId) (ad : Nat → Nat) (th : Int32) (w h : Nat → Nat) (S O : Nat → Int32) (ow oh : Int32) (hwh : okW w h) (p x y : Int32) : zMet l yM_isSample wM_isSample (rmk 2 0 0) zE0 (gG D ca ad) (mwn ca th w h S O ow oh) [.ref 0, .int p, .int x, .int y] (fun r aw => aw = mwn ca th w h S O ow oh ∧ ∃ b : Bool, r = some (.int (bI b)) ∧ isS w h p x y b) := by
  refine zMet.of (cc := cM_isSample) (maxL := 4) (ret := (some .boolean)) (lv := [some (.ref 0), some (.int p), some (.int x), some (.int y)]) (by decide) rfl (Nat.le_of_ble_eq_true rfl) rfl (fun M hl0 hR hC hS hE hret => ?_)
  have k43 : isS w h p x y false → Zj M (gG D ca ad) cM_isSample 4 RM wM_isSample (some .boolean) (mwn ca th w h S O ow oh) [some (.ref 0), some (.int p), some (.int x), some (.int y)] [] 43 := fun hb => by
    refine z_iconst (v := 0) dM_isSample_43 (by decide) ?_
    exact z_ireturn dM_isSample_44 rfl hret ⟨Nat.le_of_eq hC, Nat.le_of_eq hS⟩ rfl ⟨rfl, false, rfl, hb⟩
  refine z_iload_n dM_isSample_0 rfl ?_
  refine z_pure (z_S hE zEok_0 (m_isPlane _ _ _) dM_isSample_1 (gd_S b_416 b_417 b_3 b_418) rfl qM_isPlane.2 ⟨rfl, rfl⟩ (by rw [hR]; decide) (by rw [hR, hC, hS]; decide) rfl (Nat.le_of_ble_eq_true rfl)) (fun r hr => ?_)
  subst hr
  simp only [zpush, zv]
  rcases inP p with ⟨e1, h1⟩ | ⟨e1, k, hk, rfl⟩
  · rw [e1]
    exact z_if_eq (tgt := 43) dM_isSample_4 (by decide) (fun _ => k43 (Or.inl ⟨h1, rfl⟩)) (fun hc => absurd rfl hc)
  rw [e1]
  obtain ⟨b1, b2, b3, b4⟩ := hwh k hk
  refine z_if_eq (tgt := 43) dM_isSample_4 (by decide) (fun hc => absurd hc (by decide)) (fun _ => ?_)
  refine z_iload_n dM_isSample_7 rfl ?_
  refine z_iconst (v := 0) dM_isSample_8 (by decide) ?_
  refine z_aload_n dM_isSample_9 rfl ?_
  refine z_get (C := RM) (T := TM) (N := 7) (ref := "ToneMixerModel") 1 dM_isSample_10 rfl rfl rfl (by decide) (fun w h => bwT (hbM w h)) (bwT b_387) rfl ?_
  refine z_iload_n dM_isSample_13 rfl ?_
  refine z_ialdN (t0 := 0) (k := k) dM_isSample_14 rfl rfl (rfl) (hk) (by decide) ?_
  refine z_iconst (v := 1) dM_isSample_15 (by decide) ?_
  refine z_isub dM_isSample_16 ?_
  refine z_pure (z_S hE zEok_0 (m_in _ _ _ _ _) dM_isSample_17 (gd_S b_419 b_420 b_3 b_421) rfl qM_in.2 ⟨rfl, rfl⟩ (by rw [hR]; decide) (by rw [hR, hC, hS]; decide) rfl (Nat.le_of_ble_eq_true rfl)) (fun r hr => ?_)
  subst hr
  simp only [zpush, zv]
  rw [inB_has b1 b2]
  by_cases hx : ¬ x < 0 ∧ ¬ nI (w k) ≤ x
  rotate_left
  · rw [decide_eq_false hx]
    exact z_if_eq (tgt := 43) dM_isSample_20 (by decide) (fun _ => k43 (Or.inr ⟨k, hk, rfl, (by rw [hasB]; exact (decide_eq_false (fun q => hx ⟨q.1, q.2.1⟩)).symm)⟩)) (fun hc => absurd rfl hc)
  rw [decide_eq_true hx]
  refine z_if_eq (tgt := 43) dM_isSample_20 (by decide) (fun hc => absurd hc (by decide)) (fun _ => ?_)
  refine z_iload_n dM_isSample_23 rfl ?_
  refine z_iconst (v := 0) dM_isSample_24 (by decide) ?_
  refine z_aload_n dM_isSample_25 rfl ?_
  refine z_get (C := RM) (T := TM) (N := 7) (ref := "ToneMixerModel") 2 dM_isSample_26 rfl rfl rfl (by decide) (fun w h => bwT (hbM w h)) (bwT b_388) rfl ?_
  refine z_iload_n dM_isSample_29 rfl ?_
  refine z_ialdN (t0 := 0) (k := k) dM_isSample_30 rfl rfl (rfl) (hk) (by decide) ?_
  refine z_iconst (v := 1) dM_isSample_31 (by decide) ?_
  refine z_isub dM_isSample_32 ?_
  refine z_pure (z_S hE zEok_0 (m_in _ _ _ _ _) dM_isSample_33 (gd_S b_419 b_420 b_3 b_421) rfl qM_in.2 ⟨rfl, rfl⟩ (by rw [hR]; decide) (by rw [hR, hC, hS]; decide) rfl (Nat.le_of_ble_eq_true rfl)) (fun r hr => ?_)
  subst hr
  simp only [zpush, zv]
  rw [inB_has b3 b4]
  by_cases hy : ¬ y < 0 ∧ ¬ nI (h k) ≤ y
  rotate_left
  · rw [decide_eq_false hy]
    exact z_if_eq (tgt := 43) dM_isSample_36 (by decide) (fun _ => k43 (Or.inr ⟨k, hk, rfl, (by rw [hasB]; exact (decide_eq_false (fun q => hy ⟨q.2.2.1, q.2.2.2⟩)).symm)⟩)) (fun hc => absurd rfl hc)
  rw [decide_eq_true hy]
  refine z_if_eq (tgt := 43) dM_isSample_36 (by decide) (fun hc => absurd hc (by decide)) (fun _ => ?_)
  refine z_iconst (v := 1) dM_isSample_39 (by decide) ?_
  refine z_goto (tgt := 44) dM_isSample_40 (by decide) ?_
  exact z_ireturn dM_isSample_44 rfl hret ⟨Nat.le_of_eq hC, Nat.le_of_eq hS⟩ rfl ⟨rfl, true, rfl, Or.inr ⟨k, hk, rfl, (by rw [hasB]; exact (decide_eq_true ⟨hx.1, hx.2, hy.1, hy.2⟩).symm)⟩⟩
def mkp (S O : Nat → Int32) (k : Nat) : Nat → (Nat → Int32)
  | 0 => O
  | i + 1 => upd (mkp S O k i) i (S (1024 * k + i))
theorem z_cell (k x y : Nat) : (1024 : Int32) * nI k + 32 * nI y + nI x = nI (1024 * k + 32 * y + x) := by
  rw [za, za, zm, zm]; rfl
theorem z_1k (k i : Nat) : (1024 : Int32) * nI k + nI i = nI (1024 * k + i) := by
  rw [za, zm]; rfl
section
variable {M : zM} {D : va_G} {ca : Nat → ClassId} {ad : Nat → Nat} {th : Int32} {w h : Nat → Nat} {S O : Nat → Int32} {ow oh : Int32} {k : Nat}
set_option maxRecDepth 100000 in
set_option maxHeartbeats 4000000 in
theorem n_keep (hk : k < 4) (kx : Zj M (gG D ca ad) cM_keep 3 RM wM_keep none (mwn ca th w h S (mkp S O k 1024) ow oh) [some (.ref 0), some (.int (nI k)), some (.int (nI 1024))] [] 53) :
    ∀ n i, i + n = 1024 → Zj M (gG D ca ad) cM_keep 3 RM wM_keep none (mwn ca th w h S (mkp S O k i) ow oh) [some (.ref 0), some (.int (nI k)), some (.int (nI i))] [] 22 := by
  intro n
  induction n with
  | zero =>
    intro i hi
    obtain rfl : i = 1024 := by omega
    refine z_iload_n dM_keep_22 rfl ?_
    refine z_sipush (v := 1024) dM_keep_23 (by decide) ?_
    exact z_icmp_ge (tgt := 53) dM_keep_26 (by decide) (fun _ => kx) (fun hc => absurd (by decide) hc)
  | succ n ih =>
    intro i hi
    refine z_iload_n dM_keep_22 rfl ?_
    refine z_sipush (v := 1024) dM_keep_23 (by decide) ?_
    rw [show (1024 : Int32) = nI 1024 from rfl]
    refine z_icmp_ge (tgt := 53) dM_keep_26 (by decide) (fun hc => absurd hc (nI_ge (by omega) (by omega))) (fun _ => ?_)
    refine z_aload_n dM_keep_29 rfl ?_
    refine z_get (C := RM) (T := TM) (N := 7) (ref := "ToneMixerModel") 4 dM_keep_30 rfl rfl rfl (by decide) (fun w h => bwT (hbM w h)) (bwT b_390) rfl ?_
    refine z_iload_n dM_keep_33 rfl ?_
    refine z_aload_n dM_keep_34 rfl ?_
    refine z_get (C := RM) (T := TM) (N := 7) (ref := "ToneMixerModel") 3 dM_keep_35 rfl rfl rfl (by decide) (fun w h => bwT (hbM w h)) (bwT b_389) rfl ?_
    refine z_sipush (v := 1024) dM_keep_38 (by decide) ?_
    refine z_iload_n dM_keep_41 rfl ?_
    refine z_imul dM_keep_42 ?_
    refine z_iload_n dM_keep_43 rfl ?_
    refine z_iadd dM_keep_44 ?_
    refine z_ialdN (t0 := 0) (k := 1024 * k + i) dM_keep_45 rfl rfl (z_1k _ _) (by omega) (by decide) ?_
    refine z_iastN (t0 := 0) (k := i) dM_keep_46 rfl rfl (rfl) (by omega) (by decide) ?_
    try simp only [List.set_cons_succ, List.set_cons_zero]
    refine z_iinc1 dM_keep_47 (by decide) rfl rfl ?_
    try simp only [List.set_cons_succ, List.set_cons_zero]
    refine z_goto (tgt := 22) dM_keep_50 (by decide) ?_
    rw [nI_1]
    exact ih (i + 1) (by omega)
end
set_option maxRecDepth 100000 in
set_option maxHeartbeats 4000000 in
theorem m_keep (l : Launch) (D : va_G) (ca : Nat → ClassId) (ad : Nat → Nat) (th : Int32) (w h : Nat → Nat) (S O : Nat → Int32) (ow oh : Int32) (k : Nat) (hk : k < 4) : zMet l yM_keep wM_keep (rmk 0 0 0) zE0 (gG D ca ad) (mwn ca th w h S O ow oh) [.ref 0, .int (nI k)] (fun r aw => r = none ∧ aw = mwn ca th w h S (mkp S O k 1024) (nI (w k)) (nI (h k))) := by
  refine zMet.of (cc := cM_keep) (maxL := 3) (ret := none) (lv := [some (.ref 0), some (.int (nI k)), none]) (by decide) rfl (Nat.le_of_ble_eq_true rfl) rfl (fun M hl0 hR hC hS hE hret => ?_)
  refine z_aload_n dM_keep_0 rfl ?_
  refine z_aload_n dM_keep_1 rfl ?_
  refine z_get (C := RM) (T := TM) (N := 7) (ref := "ToneMixerModel") 1 dM_keep_2 rfl rfl rfl (by decide) (fun w h => bwT (hbM w h)) (bwT b_387) rfl ?_
  refine z_iload_n dM_keep_5 rfl ?_
  refine z_ialdN (t0 := 0) (k := k) dM_keep_6 rfl rfl (rfl) (hk) (by decide) ?_
  refine z_put (C := RM) (T := TM) (N := 7) (ref := "ToneMixerModel") (ty := .int) 5 tyM dM_keep_7 rfl rfl (by decide) (fun w h => bwT (hbM w h)) (bwT b_391) rfl tyM_ok nmM rfl (by decide +kernel) (fun _ => ⟨rfl, rfl⟩) (Nat.le_of_ble_eq_true rfl) ?_
  try simp only [List.set_cons_succ, List.set_cons_zero]
  refine z_aload_n dM_keep_10 rfl ?_
  refine z_aload_n dM_keep_11 rfl ?_
  refine z_get (C := RM) (T := TM) (N := 7) (ref := "ToneMixerModel") 2 dM_keep_12 rfl rfl rfl (by decide) (fun w h => bwT (hbM w h)) (bwT b_388) rfl ?_
  refine z_iload_n dM_keep_15 rfl ?_
  refine z_ialdN (t0 := 0) (k := k) dM_keep_16 rfl rfl (rfl) (hk) (by decide) ?_
  refine z_put (C := RM) (T := TM) (N := 7) (ref := "ToneMixerModel") (ty := .int) 6 tyM dM_keep_17 rfl rfl (by decide) (fun w h => bwT (hbM w h)) (bwT b_392) rfl tyM_ok nmM rfl (by decide +kernel) (fun _ => ⟨rfl, rfl⟩) (Nat.le_of_ble_eq_true rfl) ?_
  try simp only [List.set_cons_succ, List.set_cons_zero]
  refine z_iconst (v := 0) dM_keep_20 (by decide) ?_
  refine z_istore_n dM_keep_21 (by decide) rfl ?_
  try simp only [List.set_cons_succ, List.set_cons_zero]
  refine n_keep hk ?_ 1024 0 (by omega)
  exact z_return dM_keep_53 hret ⟨Nat.le_of_eq hC, Nat.le_of_eq hS⟩ rfl ⟨rfl, rfl⟩
/-- a place within 0 .. n - 1 -/
def clI (x : Int32) (n : Nat) : Nat := if x < 0 then 0 else if x < nI n then x.toNatClampNeg else n - 1
theorem clI_lt {x : Int32} {n : Nat} (h1 : 1 ≤ n) (h2 : n ≤ 32) : clI x n < n := by
  unfold clI
  by_cases c1 : x < 0
  · rw [if_pos c1]; omega
  · rw [if_neg c1]
    by_cases c2 : x < nI n
    · rw [if_pos c2]
      obtain ⟨a, ha, rfl⟩ := nI_of c1
      rw [nI_clamp ha]
      exact (nI_ltI ha (by omega)).mp c2
    · rw [if_neg c2]; omega
theorem clI_nI {a n : Nat} (ha : a < 2 ^ 31) (h2 : n ≤ 32) : clI (nI a) n = if a < n then a else n - 1 := by
  unfold clI
  rw [if_neg (nI_pos ha)]
  by_cases c : a < n
  · rw [if_pos (nI_lt c (by omega)), if_pos c, nI_clamp ha]
  · rw [if_neg (nI_nlt (by omega) ha), if_neg c]
theorem clI_m1 {a n : Nat} (ha : a ≤ n) (h1 : 1 ≤ n) (h2 : n ≤ 32) : clI (nI a - 1) n = a - 1 := by
  rcases Nat.eq_zero_or_pos a with rfl | q
  · unfold clI; rw [if_pos (by decide)]
  · rw [z_m1 q, clI_nI (by omega) h2, if_pos (by omega)]
set_option maxRecDepth 100000 in
set_option maxHeartbeats 4000000 in
theorem m_was (l : Launch) (D : va_G) (ca : Nat → ClassId) (ad : Nat → Nat) (th : Int32) (w h : Nat → Nat) (S O : Nat → Int32) (a b : Nat) (a1 : 1 ≤ a) (a2 : a ≤ 32) (b1 : 1 ≤ b) (b2 : b ≤ 32) (x y : Int32) : zMet l yM_was wM_was (rmk 0 0 0) zE0 (gG D ca ad) (mwn ca th w h S O (nI a) (nI b)) [.ref 0, .int x, .int y] (fun r aw => r = some (.int (O (32 * clI y b + clI x a))) ∧ aw = mwn ca th w h S O (nI a) (nI b)) := by
  refine zMet.of (cc := cM_was) (maxL := 5) (ret := (some .int)) (lv := [some (.ref 0), some (.int x), some (.int y), none, none]) (by decide) rfl (Nat.le_of_ble_eq_true rfl) rfl (fun M hl0 hR hC hS hE hret => ?_)
  have la := clI_lt (x := x) a1 a2
  have lb := clI_lt (x := y) b1 b2
  have k26 : Zj M (gG D ca ad) cM_was 5 RM wM_was (some .int) (mwn ca th w h S O (nI a) (nI b)) [some (.ref 0), some (.int x), some (.int y), none, none] [.int (nI (clI x a))] 26 := by
    refine z_istore_n dM_was_26 (by decide) rfl ?_
    try simp only [List.set_cons_succ, List.set_cons_zero]
    have k53 : Zj M (gG D ca ad) cM_was 5 RM wM_was (some .int) (mwn ca th w h S O (nI a) (nI b)) [some (.ref 0), some (.int x), some (.int y), some (.int (nI (clI x a))), none] [.int (nI (clI y b))] 53 := by
      refine z_istore dM_was_53 (by decide) rfl ?_
      try simp only [List.set_cons_succ, List.set_cons_zero]
      refine z_aload_n dM_was_55 rfl ?_
      refine z_get (C := RM) (T := TM) (N := 7) (ref := "ToneMixerModel") 4 dM_was_56 rfl rfl rfl (by decide) (fun w h => bwT (hbM w h)) (bwT b_390) rfl ?_
      refine z_bipush (v := 32) dM_was_59 (by decide) ?_
      refine z_iload dM_was_61 rfl ?_
      refine z_imul dM_was_63 ?_
      refine z_iload_n dM_was_64 rfl ?_
      refine z_iadd dM_was_65 ?_
      refine z_ialdN (t0 := 0) (k := 32 * clI y b + clI x a) dM_was_66 rfl rfl (by rw [za, zm]; rfl) (by omega) (by decide) ?_
      exact z_ireturn dM_was_67 rfl hret ⟨Nat.le_of_eq hC, Nat.le_of_eq hS⟩ rfl ⟨rfl, rfl⟩
    refine z_iload_n dM_was_27 rfl ?_
    refine z_if_ge (tgt := 35) dM_was_28 (by decide) (fun c1 => ?_) (fun c1 => ?_)
    · have c1' : ¬ y < 0 := Int32.not_lt.mpr c1
      refine z_iload_n dM_was_35 rfl ?_
      refine z_aload_n dM_was_36 rfl ?_
      refine z_get (C := RM) (T := TM) (N := 7) (ref := "ToneMixerModel") 6 dM_was_37 rfl rfl rfl (by decide) (fun w h => bwT (hbM w h)) (bwT b_392) rfl ?_
      refine z_icmp_lt (tgt := 52) dM_was_40 (by decide) (fun c2 => ?_) (fun c2 => ?_)
      · skip
        refine z_iload_n dM_was_52 rfl ?_
        rw [show nI (clI y b) = y by rw [clI, if_neg c1', if_pos c2]; obtain ⟨q, hq, rfl⟩ := nI_of c1'; rw [nI_clamp hq]] at k53
        exact k53
      · skip
        refine z_aload_n dM_was_43 rfl ?_
        refine z_get (C := RM) (T := TM) (N := 7) (ref := "ToneMixerModel") 6 dM_was_44 rfl rfl rfl (by decide) (fun w h => bwT (hbM w h)) (bwT b_392) rfl ?_
        refine z_iconst (v := 1) dM_was_47 (by decide) ?_
        refine z_isub dM_was_48 ?_
        refine z_goto (tgt := 53) dM_was_49 (by decide) ?_
        rw [z_m1 b1]
        rw [show clI y b = b - 1 by rw [clI, if_neg c1', if_neg c2]] at k53
        exact k53
    · skip
      refine z_iconst (v := 0) dM_was_31 (by decide) ?_
      refine z_goto (tgt := 53) dM_was_32 (by decide) ?_
      rw [show clI y b = 0 by rw [clI, if_pos (Int32.not_le.mp c1)]] at k53
      exact k53
  refine z_iload_n dM_was_0 rfl ?_
  refine z_if_ge (tgt := 8) dM_was_1 (by decide) (fun c1 => ?_) (fun c1 => ?_)
  · have c1' : ¬ x < 0 := Int32.not_lt.mpr c1
    refine z_iload_n dM_was_8 rfl ?_
    refine z_aload_n dM_was_9 rfl ?_
    refine z_get (C := RM) (T := TM) (N := 7) (ref := "ToneMixerModel") 5 dM_was_10 rfl rfl rfl (by decide) (fun w h => bwT (hbM w h)) (bwT b_391) rfl ?_
    refine z_icmp_lt (tgt := 25) dM_was_13 (by decide) (fun c2 => ?_) (fun c2 => ?_)
    · skip
      refine z_iload_n dM_was_25 rfl ?_
      rw [show nI (clI x a) = x by rw [clI, if_neg c1', if_pos c2]; obtain ⟨q, hq, rfl⟩ := nI_of c1'; rw [nI_clamp hq]] at k26
      exact k26
    · skip
      refine z_aload_n dM_was_16 rfl ?_
      refine z_get (C := RM) (T := TM) (N := 7) (ref := "ToneMixerModel") 5 dM_was_17 rfl rfl rfl (by decide) (fun w h => bwT (hbM w h)) (bwT b_391) rfl ?_
      refine z_iconst (v := 1) dM_was_20 (by decide) ?_
      refine z_isub dM_was_21 ?_
      refine z_goto (tgt := 26) dM_was_22 (by decide) ?_
      rw [z_m1 a1]
      rw [show clI x a = a - 1 by rw [clI, if_neg c1', if_neg c2]] at k26
      exact k26
  · skip
    refine z_iconst (v := 0) dM_was_4 (by decide) ?_
    refine z_goto (tgt := 26) dM_was_5 (by decide) ?_
    rw [show clI x a = 0 by rw [clI, if_pos (Int32.not_le.mp c1)]] at k26
    exact k26
