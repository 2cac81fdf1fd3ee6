theorem ap_get {aw : List va_E} {x : va_E} (h : aw.length = 14) : (aw ++ [x])[14]? = some x := by
  rw [List.getElem?_append_right (by omega), h]; rfl
theorem ap_set {aw : List va_E} {x y : va_E} (h : aw.length = 14) : (aw ++ [x]).set 14 y = aw ++ [y] := by
  rw [List.set_append_right _ _ (by omega), h]; rfl
abbrev oc (ca : Nat → ClassId) (u : Nat → Int64) : va_E := .inl (ca 1, 1, .inr (.inl u))
/-- what the law keeps of an answer -/
def o64 (bool : Bool) (r : Option Value) : Int64 := match r with
  | some (.int b) => if bool = true then (if b = 0 then 0 else 1) else b.toInt64
  | some (.long e) => e
  | _ => 0
set_option maxRecDepth 100000 in
set_option maxHeartbeats 4000000 in
theorem k_size (l : Launch) (hl9 : l.stackTraces = false) (D : va_G) (ca : Nat → ClassId) (ad : Nat → Nat) (sa : Nat → Nat) (f g : Nat → Nat → Int32) (w h : Nat → Nat) (hwh : okW w h) (u : Nat → Int64) (n p q : Int32) : zHet l yL_size wL_size (rmk 9 2 12) 2 12 (zEl sa) (gG D ca ad) (twn ca f g w h ++ [oc ca u]) [.ref 0, .int n, .int p, .int q] (fun r aw => (r = some (.int 0) ∧ ∃ (r1 : Option Value) (aw1 : List va_E), (fun (r : Option Value) (aw : List va_E) => ∃ k w2 h2 : Nat, k < 4 ∧ n = nI k ∧ p = nI w2 ∧ q = nI h2 ∧ 1 ≤ w2 ∧ w2 ≤ 32 ∧ 1 ≤ h2 ∧ h2 ≤ 32 ∧ r = none ∧ aw = twn ca (va_up f k (fil 0 (f k) 1024)) g (va_up w k w2) (va_up h k h2)) r1 aw1 ∧ aw = aw1 ++ [oc ca u]) ∨ (∃ E : String, (fun E : String => (E = IOB ∧ noP n) ∨ (E = IAE ∧ ¬ noP n ∧ badS p q)) E ∧ r = some (.int (if E = IOB then 1 else 2)) ∧ aw = twn ca f g w h ++ [oc ca u])) := by
  refine zHet.of (cc := cL_size) (maxL := 5) (ret := (some .int)) (lv := [some (.ref 0), some (.int n), some (.int p), some (.int q), none]) (by decide) rfl (Nat.le_of_ble_eq_true rfl) rfl (fun M hl0 hR hC hS hE htab hret => ?_)
  refine z_aload_n dL_size_0 rfl ?_
  refine z_iload_n dL_size_1 rfl ?_
  refine z_iload_n dL_size_2 rfl ?_
  refine z_iload_n dL_size_3 rfl ?_
  refine zx_catchL (rest := [oc ca u]) (zx_V (C := RT) (b := 0) hE (zEok_lx sa) (c_size _ (by rw [hl0]; exact hl9) D ca ad sa f g w h hwh n p q) dL_size_4 (gd_V b_120 b_121 b_122 b_1 b_123) rfl qT_size ⟨rfl, rfl⟩ (by rw [hR]; decide) (by rw [hR, hC, hS]; decide) rfl (Nat.le_of_ble_eq_true rfl) rfl rfl) (fun E hpE => ?_) (fun r aw1 hlen hr => ?_)
  · rcases id hpE with ⟨rfl, -⟩ | ⟨rfl, -⟩
    · exact zH_c (E := IOB) (nm := IOB) (pre := []) (x := ⟨0, 7, 10, 13⟩) (k := 4) (v := 1) (zup_Tab htab) rfl (fun z hz => nomatch hz) rfl (by decide) (bwT b_118) ((zup_En (a := 2) (b := 12) hE).1.2.2.2.2 _ (List.mem_of_getElem? (i := 0) rfl)) (Or.inl ⟨dL_size_10, dL_size_12, dL_size_13⟩) (by decide) (by decide) (zup_Ret hret) (by rw [zup_cells, zup_slots, hC, hS]; decide) rfl (Or.inr ⟨IOB, hpE, rfl, rfl⟩)
    · exact zH_c (E := IAE) (nm := IAE) (pre := [⟨0, 7, 10, 13⟩]) (x := ⟨0, 7, 14, 15⟩) (k := 4) (v := 2) (zup_Tab htab) rfl (fun z hz => by obtain rfl := List.mem_singleton.mp hz; exact Or.inr ⟨by decide, IOB, bwT b_118, (zup_En (a := 2) (b := 12) hE).2⟩) rfl (by decide) (bwT b_119) ((zup_En (a := 2) (b := 12) hE).1.2.2.2.2 _ (List.mem_of_getElem? (i := 1) rfl)) (Or.inl ⟨dL_size_14, dL_size_16, dL_size_17⟩) (by decide) (by decide) (zup_Ret hret) (by rw [zup_cells, zup_slots, hC, hS]; decide) rfl (Or.inr ⟨IAE, hpE, rfl, rfl⟩)
  have hlen : aw1.length = 14 := hlen
  have hret := zup_Ret (a := 2) (b := 12) hret
  have hcs : zcells (zup M 2 12) ≤ 2 ∧ zslots (zup M 2 12) ≤ 12 := by rw [zup_cells, zup_slots, hC, hS]; decide
  obtain ⟨k9, w9, h9, -, -, -, -, -, -, -, -, rfl, -⟩ := id hr
  simp only [zpush]
  refine z_goto (tgt := 18) dL_size_7 (by decide) ?_
  refine z_iconst (v := 0) dL_size_18 (by decide) ?_
  exact z_ireturn dL_size_19 rfl hret hcs (by simp [hlen]; rfl) (Or.inl ⟨rfl, _, aw1, hr, rfl⟩)
set_option maxRecDepth 100000 in
set_option maxHeartbeats 4000000 in
theorem k_put (l : Launch) (hl9 : l.stackTraces = false) (D : va_G) (ca : Nat → ClassId) (ad : Nat → Nat) (sa : Nat → Nat) (f g : Nat → Nat → Int32) (w h : Nat → Nat) (hwh : okW w h) (u : Nat → Int64) (n x y v : Int32) : zHet l yL_put wL_put (rmk 9 3 18) 3 18 (zEl sa) (gG D ca ad) (twn ca f g w h ++ [oc ca u]) [.ref 0, .int n, .int x, .int y, .int v] (fun r aw => (r = some (.int 0) ∧ ∃ (r1 : Option Value) (aw1 : List va_E), (fun (r : Option Value) (aw : List va_E) => ∃ k a b c : Nat, k < 4 ∧ n = nI k ∧ a < w k ∧ b < h k ∧ x = nI a ∧ y = nI b ∧ v = nI c ∧ c ≤ 255 ∧ r = none ∧ aw = twn ca (va_up f k (upd (f k) (b * 32 + a) v)) g w h) r1 aw1 ∧ aw = aw1 ++ [oc ca u]) ∨ (∃ E : String, (fun E : String => (E = IOB ∧ (noP n ∨ ∃ k : Nat, k < 4 ∧ n = nI k ∧ hasB (nI (w k)) (nI (h k)) x y = false)) ∨ (E = IAE ∧ ¬ (noP n ∨ ∃ k : Nat, k < 4 ∧ n = nI k ∧ hasB (nI (w k)) (nI (h k)) x y = false) ∧ (v < 0 ∨ 255 < v))) E ∧ r = some (.int (if E = IOB then 1 else 2)) ∧ aw = twn ca f g w h ++ [oc ca u])) := by
  refine zHet.of (cc := cL_put) (maxL := 6) (ret := (some .int)) (lv := [some (.ref 0), some (.int n), some (.int x), some (.int y), some (.int v), none]) (by decide) rfl (Nat.le_of_ble_eq_true rfl) rfl (fun M hl0 hR hC hS hE htab hret => ?_)
  refine z_aload_n dL_put_0 rfl ?_
  refine z_iload_n dL_put_1 rfl ?_
  refine z_iload_n dL_put_2 rfl ?_
  refine z_iload_n dL_put_3 rfl ?_
  refine z_iload dL_put_4 rfl ?_
  refine zx_catchL (rest := [oc ca u]) (zx_V (C := RT) (b := 0) hE (zEok_lx sa) (c_put _ (by rw [hl0]; exact hl9) D ca ad sa f g w h hwh n x y v) dL_put_6 (gd_V b_221 b_222 b_223 b_1 b_224) rfl qT_put ⟨rfl, rfl⟩ (by rw [hR]; decide) (by rw [hR, hC, hS]; decide) rfl (Nat.le_of_ble_eq_true rfl) rfl rfl) (fun E hpE => ?_) (fun r aw1 hlen hr => ?_)
  · rcases id hpE with ⟨rfl, -⟩ | ⟨rfl, -⟩
    · exact zH_c (E := IOB) (nm := IOB) (pre := []) (x := ⟨0, 9, 12, 13⟩) (k := 5) (v := 1) (zup_Tab htab) rfl (fun z hz => nomatch hz) rfl (by decide) (bwT b_118) ((zup_En (a := 3) (b := 18) hE).1.2.2.2.2 _ (List.mem_of_getElem? (i := 0) rfl)) (Or.inl ⟨dL_put_12, dL_put_14, dL_put_15⟩) (by decide) (by decide) (zup_Ret hret) (by rw [zup_cells, zup_slots, hC, hS]; decide) rfl (Or.inr ⟨IOB, hpE, rfl, rfl⟩)
    · exact zH_c (E := IAE) (nm := IAE) (pre := [⟨0, 9, 12, 13⟩]) (x := ⟨0, 9, 16, 15⟩) (k := 5) (v := 2) (zup_Tab htab) rfl (fun z hz => by obtain rfl := List.mem_singleton.mp hz; exact Or.inr ⟨by decide, IOB, bwT b_118, (zup_En (a := 3) (b := 18) hE).2⟩) rfl (by decide) (bwT b_119) ((zup_En (a := 3) (b := 18) hE).1.2.2.2.2 _ (List.mem_of_getElem? (i := 1) rfl)) (Or.inl ⟨dL_put_16, dL_put_18, dL_put_19⟩) (by decide) (by decide) (zup_Ret hret) (by rw [zup_cells, zup_slots, hC, hS]; decide) rfl (Or.inr ⟨IAE, hpE, rfl, rfl⟩)
  have hlen : aw1.length = 14 := hlen
  have hret := zup_Ret (a := 3) (b := 18) hret
  have hcs : zcells (zup M 3 18) ≤ 3 ∧ zslots (zup M 3 18) ≤ 18 := by rw [zup_cells, zup_slots, hC, hS]; decide
  obtain ⟨k9, a9, b9, c9, -, -, -, -, -, -, -, -, rfl, -⟩ := id hr
  simp only [zpush]
  refine z_goto (tgt := 20) dL_put_9 (by decide) ?_
  refine z_iconst (v := 0) dL_put_20 (by decide) ?_
  exact z_ireturn dL_put_21 rfl hret hcs (by simp [hlen]; rfl) (Or.inl ⟨rfl, _, aw1, hr, rfl⟩)
set_option maxRecDepth 100000 in
set_option maxHeartbeats 4000000 in
theorem k_row (l : Launch) (hl9 : l.stackTraces = false) (D : va_G) (ca : Nat → ClassId) (ad : Nat → Nat) (sa : Nat → Nat) (f g : Nat → Nat → Int32) (w h : Nat → Nat) (hwh : okW w h) (u : Nat → Int64) (n x y : Int32) (e : Int64) : zHet l yL_row wL_row (rmk 9 2 12) 2 12 (zEl sa) (gG D ca ad) (twn ca f g w h ++ [oc ca u]) [.ref 0, .int n, .int x, .int y, .long e] (fun r aw => (r = some (.int 0) ∧ ∃ (r1 : Option Value) (aw1 : List va_E), (fun (r : Option Value) (aw : List va_E) => ∃ k a b : Nat, k < 4 ∧ n = nI k ∧ a < w k ∧ b < h k ∧ x = nI a ∧ y = nI b ∧ r = none ∧ aw = twn ca (va_up f k (rwL e (f k) a b (mn 8 (w k - a)))) g w h) r1 aw1 ∧ aw = aw1 ++ [oc ca u]) ∨ (∃ E : String, (fun E : String => E = IOB ∧ (noP n ∨ ∃ k : Nat, k < 4 ∧ n = nI k ∧ hasB (nI (w k)) (nI (h k)) x y = false)) E ∧ r = some (.int (if E = IOB then 1 else 2)) ∧ aw = twn ca f g w h ++ [oc ca u])) := by
  refine zHet.of (cc := cL_row) (maxL := 7) (ret := (some .int)) (lv := [some (.ref 0), some (.int n), some (.int x), some (.int y), some (.long e), none, none]) (by decide) rfl (Nat.le_of_ble_eq_true rfl) rfl (fun M hl0 hR hC hS hE htab hret => ?_)
  refine z_aload_n dL_row_0 rfl ?_
  refine z_iload_n dL_row_1 rfl ?_
  refine z_iload_n dL_row_2 rfl ?_
  refine z_iload_n dL_row_3 rfl ?_
  refine z_lload dL_row_4 rfl ?_
  refine zx_catchL (rest := [oc ca u]) (zx_V (C := RT) (b := 0) hE (zEok_lx sa) (c_row _ (by rw [hl0]; exact hl9) D ca ad sa f g w h hwh n x y e) dL_row_6 (gd_V b_238 b_239 b_240 b_1 b_241) rfl qT_row ⟨rfl, rfl⟩ (by rw [hR]; decide) (by rw [hR, hC, hS]; decide) rfl (Nat.le_of_ble_eq_true rfl) rfl rfl) (fun E hpE => ?_) (fun r aw1 hlen hr => ?_)
  · obtain ⟨rfl, -⟩ := id hpE
    exact zH_c (E := IOB) (nm := IOB) (pre := []) (x := ⟨0, 9, 12, 13⟩) (k := 6) (v := 1) (zup_Tab htab) rfl (fun z hz => nomatch hz) rfl (by decide) (bwT b_118) ((zup_En (a := 2) (b := 12) hE).1.2.2.2.2 _ (List.mem_of_getElem? (i := 0) rfl)) (Or.inl ⟨dL_row_12, dL_row_14, dL_row_15⟩) (by decide) (by decide) (zup_Ret hret) (by rw [zup_cells, zup_slots, hC, hS]; decide) rfl (Or.inr ⟨IOB, hpE, rfl, rfl⟩)
  have hlen : aw1.length = 14 := hlen
  have hret := zup_Ret (a := 2) (b := 12) hret
  have hcs : zcells (zup M 2 12) ≤ 2 ∧ zslots (zup M 2 12) ≤ 12 := by rw [zup_cells, zup_slots, hC, hS]; decide
  obtain ⟨k9, a9, b9, -, -, -, -, -, -, rfl, -⟩ := id hr
  simp only [zpush]
  refine z_goto (tgt := 16) dL_row_9 (by decide) ?_
  refine z_iconst (v := 0) dL_row_16 (by decide) ?_
  exact z_ireturn dL_row_17 rfl hret hcs (by simp [hlen]; rfl) (Or.inl ⟨rfl, _, aw1, hr, rfl⟩)
set_option maxRecDepth 100000 in
set_option maxHeartbeats 4000000 in
theorem k_copy (l : Launch) (hl9 : l.stackTraces = false) (D : va_G) (ca : Nat → ClassId) (ad : Nat → Nat) (sa : Nat → Nat) (f g : Nat → Nat → Int32) (w h : Nat → Nat) (hwh : okW w h) (u : Nat → Int64) (n m : Int32) : zHet l yL_copy wL_copy (rmk 9 2 12) 2 12 (zEl sa) (gG D ca ad) (twn ca f g w h ++ [oc ca u]) [.ref 0, .int n, .int m] (fun r aw => (r = some (.int 0) ∧ ∃ (r1 : Option Value) (aw1 : List va_E), (fun (r : Option Value) (aw : List va_E) => ∃ k k2 : Nat, k < 4 ∧ k2 < 4 ∧ n = nI k ∧ m = nI k2 ∧ r = none ∧ aw = twn ca (va_up f k2 (va_cpy (f k) (f k2) 0 0 1024)) g (va_up w k2 (w k)) (va_up h k2 (h k))) r1 aw1 ∧ aw = aw1 ++ [oc ca u]) ∨ (∃ E : String, (fun E : String => E = IOB ∧ (noP n ∨ noP m)) E ∧ r = some (.int (if E = IOB then 1 else 2)) ∧ aw = twn ca f g w h ++ [oc ca u])) := by
  refine zHet.of (cc := cL_copy) (maxL := 4) (ret := (some .int)) (lv := [some (.ref 0), some (.int n), some (.int m), none]) (by decide) rfl (Nat.le_of_ble_eq_true rfl) rfl (fun M hl0 hR hC hS hE htab hret => ?_)
  refine z_aload_n dL_copy_0 rfl ?_
  refine z_iload_n dL_copy_1 rfl ?_
  refine z_iload_n dL_copy_2 rfl ?_
  refine zx_catchL (rest := [oc ca u]) (zx_V (C := RT) (b := 0) hE (zEok_lx sa) (c_copy _ (by rw [hl0]; exact hl9) D ca ad sa f g w h hwh n m) dL_copy_3 (gd_V b_299 b_300 b_301 b_1 b_302) rfl qT_copy ⟨rfl, rfl⟩ (by rw [hR]; decide) (by rw [hR, hC, hS]; decide) rfl (Nat.le_of_ble_eq_true rfl) rfl rfl) (fun E hpE => ?_) (fun r aw1 hlen hr => ?_)
  · obtain ⟨rfl, -⟩ := id hpE
    exact zH_c (E := IOB) (nm := IOB) (pre := []) (x := ⟨0, 6, 9, 13⟩) (k := 3) (v := 1) (zup_Tab htab) rfl (fun z hz => nomatch hz) rfl (by decide) (bwT b_118) ((zup_En (a := 2) (b := 12) hE).1.2.2.2.2 _ (List.mem_of_getElem? (i := 0) rfl)) (Or.inr ⟨3, rfl, dL_copy_9, dL_copy_10, dL_copy_11⟩) (by decide) (by decide) (zup_Ret hret) (by rw [zup_cells, zup_slots, hC, hS]; decide) rfl (Or.inr ⟨IOB, hpE, rfl, rfl⟩)
  have hlen : aw1.length = 14 := hlen
  have hret := zup_Ret (a := 2) (b := 12) hret
  have hcs : zcells (zup M 2 12) ≤ 2 ∧ zslots (zup M 2 12) ≤ 12 := by rw [zup_cells, zup_slots, hC, hS]; decide
  obtain ⟨k9, k8, -, -, -, -, rfl, -⟩ := id hr
  simp only [zpush]
  refine z_goto (tgt := 12) dL_copy_6 (by decide) ?_
  refine z_iconst (v := 0) dL_copy_12 (by decide) ?_
  exact z_ireturn dL_copy_13 rfl hret hcs (by simp [hlen]; rfl) (Or.inl ⟨rfl, _, aw1, hr, rfl⟩)
set_option maxRecDepth 100000 in
set_option maxHeartbeats 4000000 in
theorem k_grow (l : Launch) (hl9 : l.stackTraces = false) (D : va_G) (ca : Nat → ClassId) (ad : Nat → Nat) (sa : Nat → Nat) (f g : Nat → Nat → Int32) (w h : Nat → Nat) (hwh : okW w h) (u : Nat → Int64) (n how : Int32) : zHet l yL_grow wL_grow (rmk 9 1 6) 1 6 (zEl sa) (gG D ca ad) (twn ca f g w h ++ [oc ca u]) [.ref 0, .int n, .int how, .ref 14] (fun r aw => (r = some (.int 0) ∧ ∃ (r1 : Option Value) (aw1 : List va_E), (fun (r : Option Value) (aw : List va_E) => ∃ k : Nat, k < 4 ∧ n = nI k ∧ ((grow0 how (w k) (h k) ∧ r = some (.int 0) ∧ aw = twn ca f g w h) ∨ ∃ v : Nat, v < 6 ∧ how = nI v ∧ ¬ tooL v (w k) (h k) ∧ r = some (.int 1) ∧ aw = twn ca (va_up f k (gro v (f k) (g k) (w k) (h k)).1) (va_up g k (gro v (f k) (g k) (w k) (h k)).2.1) (va_up w k (gro v (f k) (g k) (w k) (h k)).2.2.1) (va_up h k (gro v (f k) (g k) (w k) (h k)).2.2.2))) r1 aw1 ∧ aw = aw1 ++ [oc ca (vp_updL u 0 (o64 true r1))]) ∨ (∃ E : String, (fun E : String => E = IOB ∧ noP n) E ∧ r = some (.int (if E = IOB then 1 else 2)) ∧ aw = twn ca f g w h ++ [oc ca u])) := by
  refine zHet.of (cc := cL_grow) (maxL := 5) (ret := (some .int)) (lv := [some (.ref 0), some (.int n), some (.int how), some (.ref 14), none]) (by decide) rfl (Nat.le_of_ble_eq_true rfl) rfl (fun M hl0 hR hC hS hE htab hret => ?_)
  refine z_aload_n dL_grow_0 rfl ?_
  refine z_iconst (v := 0) dL_grow_1 (by decide) ?_
  refine z_aload_n dL_grow_2 rfl ?_
  refine z_iload_n dL_grow_3 rfl ?_
  refine z_iload_n dL_grow_4 rfl ?_
  refine zx_catchL (rest := [oc ca u]) (zx_V (C := RT) (b := 0) hE (zEok_lx sa) (c_grow _ (by rw [hl0]; exact hl9) D ca ad sa f g w h hwh n how) dL_grow_5 (gd_V b_248 b_249 b_250 b_1 b_251) rfl qT_grow ⟨rfl, rfl⟩ (by rw [hR]; decide) (by rw [hR, hC, hS]; decide) rfl (Nat.le_of_ble_eq_true rfl) rfl rfl) (fun E hpE => ?_) (fun r aw1 hlen hr => ?_)
  · obtain ⟨rfl, -⟩ := id hpE
    exact zH_c (E := IOB) (nm := IOB) (pre := []) (x := ⟨0, 17, 20, 13⟩) (k := 4) (v := 1) (zup_Tab htab) rfl (fun z hz => nomatch hz) rfl (by decide) (bwT b_118) ((zup_En (a := 1) (b := 6) hE).1.2.2.2.2 _ (List.mem_of_getElem? (i := 0) rfl)) (Or.inl ⟨dL_grow_20, dL_grow_22, dL_grow_23⟩) (by decide) (by decide) (zup_Ret hret) (by rw [zup_cells, zup_slots, hC, hS]; decide) rfl (Or.inr ⟨IOB, hpE, rfl, rfl⟩)
  have hlen : aw1.length = 14 := hlen
  have hret := zup_Ret (a := 1) (b := 6) hret
  have hcs : zcells (zup M 1 6) ≤ 1 ∧ zslots (zup M 1 6) ≤ 6 := by rw [zup_cells, zup_slots, hC, hS]; decide
  obtain ⟨k9, -, -, ⟨-, rfl, -⟩ | ⟨v9, -, -, -, rfl, -⟩⟩ := id hr
  · simp only [zpush, zv]
    refine z_if_eq (tgt := 15) dL_grow_8 (by decide) (fun _ => ?_) (fun hc9 => absurd hc9 (by decide))
    refine z_lconst (v := 0) dL_grow_15 (by decide) ?_
    refine z_lastN (t0 := 1) (k := 0) dL_grow_16 (ap_get hlen) rfl (rfl) (by decide) (by decide) ?_
    rw [ap_set hlen]
    refine z_goto (tgt := 24) dL_grow_17 (by decide) ?_
    refine z_iconst (v := 0) dL_grow_24 (by decide) ?_
    exact z_ireturn dL_grow_25 rfl hret hcs (by simp [hlen]; rfl) (Or.inl ⟨rfl, _, aw1, hr, rfl⟩)
  · simp only [zpush, zv]
    refine z_if_eq (tgt := 15) dL_grow_8 (by decide) (fun hc9 => absurd hc9 (by decide)) (fun _ => ?_)
    refine z_lconst (v := 1) dL_grow_11 (by decide) ?_
    refine z_goto (tgt := 16) dL_grow_12 (by decide) ?_
    refine z_lastN (t0 := 1) (k := 0) dL_grow_16 (ap_get hlen) rfl (rfl) (by decide) (by decide) ?_
    rw [ap_set hlen]
    refine z_goto (tgt := 24) dL_grow_17 (by decide) ?_
    refine z_iconst (v := 0) dL_grow_24 (by decide) ?_
    exact z_ireturn dL_grow_25 rfl hret hcs (by simp [hlen]; rfl) (Or.inl ⟨rfl, _, aw1, hr, rfl⟩)
set_option maxRecDepth 100000 in
set_option maxHeartbeats 4000000 in
theorem k_shrink (l : Launch) (hl9 : l.stackTraces = false) (D : va_G) (ca : Nat → ClassId) (ad : Nat → Nat) (sa : Nat → Nat) (f g : Nat → Nat → Int32) (w h : Nat → Nat) (hwh : okW w h) (u : Nat → Int64) (n how : Int32) : zHet l yL_shrink wL_shrink (rmk 9 1 6) 1 6 (zEl sa) (gG D ca ad) (twn ca f g w h ++ [oc ca u]) [.ref 0, .int n, .int how, .ref 14] (fun r aw => (r = some (.int 0) ∧ ∃ (r1 : Option Value) (aw1 : List va_E), (fun (r : Option Value) (aw : List va_E) => ∃ k : Nat, k < 4 ∧ n = nI k ∧ (((how.toInt < 0 ∨ 2 < how.toInt) ∧ r = some (.int 0) ∧ aw = twn ca f g w h) ∨ ∃ v : Nat, v < 3 ∧ how = nI v ∧ r = some (.int 1) ∧ aw = twn ca (va_up f k (shr v (f k) (w k) (h k)).1) g (va_up w k (shr v (f k) (w k) (h k)).2.1) (va_up h k (shr v (f k) (w k) (h k)).2.2))) r1 aw1 ∧ aw = aw1 ++ [oc ca (vp_updL u 0 (o64 true r1))]) ∨ (∃ E : String, (fun E : String => E = IOB ∧ noP n) E ∧ r = some (.int (if E = IOB then 1 else 2)) ∧ aw = twn ca f g w h ++ [oc ca u])) := by
  refine zHet.of (cc := cL_shrink) (maxL := 5) (ret := (some .int)) (lv := [some (.ref 0), some (.int n), some (.int how), some (.ref 14), none]) (by decide) rfl (Nat.le_of_ble_eq_true rfl) rfl (fun M hl0 hR hC hS hE htab hret => ?_)
  refine z_aload_n dL_shrink_0 rfl ?_
  refine z_iconst (v := 0) dL_shrink_1 (by decide) ?_
  refine z_aload_n dL_shrink_2 rfl ?_
  refine z_iload_n dL_shrink_3 rfl ?_
  refine z_iload_n dL_shrink_4 rfl ?_
  refine zx_catchL (rest := [oc ca u]) (zx_V (C := RT) (b := 0) hE (zEok_lx sa) (c_shrink _ (by rw [hl0]; exact hl9) D ca ad sa f g w h hwh n how) dL_shrink_5 (gd_V b_268 b_269 b_270 b_1 b_271) rfl qT_shrink ⟨rfl, rfl⟩ (by rw [hR]; decide) (by rw [hR, hC, hS]; decide) rfl (Nat.le_of_ble_eq_true rfl) rfl rfl) (fun E hpE => ?_) (fun r aw1 hlen hr => ?_)
  · obtain ⟨rfl, -⟩ := id hpE
    exact zH_c (E := IOB) (nm := IOB) (pre := []) (x := ⟨0, 17, 20, 13⟩) (k := 4) (v := 1) (zup_Tab htab) rfl (fun z hz => nomatch hz) rfl (by decide) (bwT b_118) ((zup_En (a := 1) (b := 6) hE).1.2.2.2.2 _ (List.mem_of_getElem? (i := 0) rfl)) (Or.inl ⟨dL_shrink_20, dL_shrink_22, dL_shrink_23⟩) (by decide) (by decide) (zup_Ret hret) (by rw [zup_cells, zup_slots, hC, hS]; decide) rfl (Or.inr ⟨IOB, hpE, rfl, rfl⟩)
  have hlen : aw1.length = 14 := hlen
  have hret := zup_Ret (a := 1) (b := 6) hret
  have hcs : zcells (zup M 1 6) ≤ 1 ∧ zslots (zup M 1 6) ≤ 6 := by rw [zup_cells, zup_slots, hC, hS]; decide
  obtain ⟨k9, -, -, ⟨-, rfl, -⟩ | ⟨v9, -, -, rfl, -⟩⟩ := id hr
  · simp only [zpush, zv]
    refine z_if_eq (tgt := 15) dL_shrink_8 (by decide) (fun _ => ?_) (fun hc9 => absurd hc9 (by decide))
    refine z_lconst (v := 0) dL_shrink_15 (by decide) ?_
    refine z_lastN (t0 := 1) (k := 0) dL_shrink_16 (ap_get hlen) rfl (rfl) (by decide) (by decide) ?_
    rw [ap_set hlen]
    refine z_goto (tgt := 24) dL_shrink_17 (by decide) ?_
    refine z_iconst (v := 0) dL_shrink_24 (by decide) ?_
    exact z_ireturn dL_shrink_25 rfl hret hcs (by simp [hlen]; rfl) (Or.inl ⟨rfl, _, aw1, hr, rfl⟩)
  · simp only [zpush, zv]
    refine z_if_eq (tgt := 15) dL_shrink_8 (by decide) (fun hc9 => absurd hc9 (by decide)) (fun _ => ?_)
    refine z_lconst (v := 1) dL_shrink_11 (by decide) ?_
    refine z_goto (tgt := 16) dL_shrink_12 (by decide) ?_
    refine z_lastN (t0 := 1) (k := 0) dL_shrink_16 (ap_get hlen) rfl (rfl) (by decide) (by decide) ?_
    rw [ap_set hlen]
    refine z_goto (tgt := 24) dL_shrink_17 (by decide) ?_
    refine z_iconst (v := 0) dL_shrink_24 (by decide) ?_
    exact z_ireturn dL_shrink_25 rfl hret hcs (by simp [hlen]; rfl) (Or.inl ⟨rfl, _, aw1, hr, rfl⟩)
set_option maxRecDepth 100000 in
set_option maxHeartbeats 4000000 in
theorem k_extend (l : Launch) (hl9 : l.stackTraces = false) (D : va_G) (ca : Nat → ClassId) (ad : Nat → Nat) (sa : Nat → Nat) (f g : Nat → Nat → Int32) (w h : Nat → Nat) (hwh : okW w h) (u : Nat → Int64) (n p q : Int32) : zHet l yL_extend wL_extend (rmk 9 1 6) 1 6 (zEl sa) (gG D ca ad) (twn ca f g w h ++ [oc ca u]) [.ref 0, .int n, .int p, .int q, .ref 14] (fun r aw => (r = some (.int 0) ∧ ∃ (r1 : Option Value) (aw1 : List va_E), (fun (r : Option Value) (aw : List va_E) => ∃ k : Nat, k < 4 ∧ n = nI k ∧ ((badE (w k) (h k) p q ∧ r = some (.int 0) ∧ aw = twn ca f g w h) ∨ ∃ w2 h2 : Nat, ¬ badE (w k) (h k) p q ∧ p = nI w2 ∧ q = nI h2 ∧ w k ≤ w2 ∧ w2 ≤ 32 ∧ h k ≤ h2 ∧ h2 ≤ 32 ∧ r = some (.int 1) ∧ aw = twn ca (va_up f k (dpn (h k) h2 (wdn (w k) w2 (f k) (h k)) w2)) g (va_up w k w2) (va_up h k h2))) r1 aw1 ∧ aw = aw1 ++ [oc ca (vp_updL u 0 (o64 true r1))]) ∨ (∃ E : String, (fun E : String => E = IOB ∧ noP n) E ∧ r = some (.int (if E = IOB then 1 else 2)) ∧ aw = twn ca f g w h ++ [oc ca u])) := by
  refine zHet.of (cc := cL_extend) (maxL := 6) (ret := (some .int)) (lv := [some (.ref 0), some (.int n), some (.int p), some (.int q), some (.ref 14), none]) (by decide) rfl (Nat.le_of_ble_eq_true rfl) rfl (fun M hl0 hR hC hS hE htab hret => ?_)
  refine z_aload dL_extend_0 rfl ?_
  refine z_iconst (v := 0) dL_extend_2 (by decide) ?_
  refine z_aload_n dL_extend_3 rfl ?_
  refine z_iload_n dL_extend_4 rfl ?_
  refine z_iload_n dL_extend_5 rfl ?_
  refine z_iload_n dL_extend_6 rfl ?_
  refine zx_catchL (rest := [oc ca u]) (zx_V (C := RT) (b := 0) hE (zEok_lx sa) (c_extend _ (by rw [hl0]; exact hl9) D ca ad sa f g w h hwh n p q) dL_extend_7 (gd_V b_313 b_314 b_315 b_1 b_316) rfl qT_extend ⟨rfl, rfl⟩ (by rw [hR]; decide) (by rw [hR, hC, hS]; decide) rfl (Nat.le_of_ble_eq_true rfl) rfl rfl) (fun E hpE => ?_) (fun r aw1 hlen hr => ?_)
  · obtain ⟨rfl, -⟩ := id hpE
    exact zH_c (E := IOB) (nm := IOB) (pre := []) (x := ⟨0, 19, 22, 13⟩) (k := 5) (v := 1) (zup_Tab htab) rfl (fun z hz => nomatch hz) rfl (by decide) (bwT b_118) ((zup_En (a := 1) (b := 6) hE).1.2.2.2.2 _ (List.mem_of_getElem? (i := 0) rfl)) (Or.inl ⟨dL_extend_22, dL_extend_24, dL_extend_25⟩) (by decide) (by decide) (zup_Ret hret) (by rw [zup_cells, zup_slots, hC, hS]; decide) rfl (Or.inr ⟨IOB, hpE, rfl, rfl⟩)
  have hlen : aw1.length = 14 := hlen
  have hret := zup_Ret (a := 1) (b := 6) hret
  have hcs : zcells (zup M 1 6) ≤ 1 ∧ zslots (zup M 1 6) ≤ 6 := by rw [zup_cells, zup_slots, hC, hS]; decide
  obtain ⟨k9, -, -, ⟨-, rfl, -⟩ | ⟨w9, h9, -, -, -, -, -, -, -, rfl, -⟩⟩ := id hr
  · simp only [zpush, zv]
    refine z_if_eq (tgt := 17) dL_extend_10 (by decide) (fun _ => ?_) (fun hc9 => absurd hc9 (by decide))
    refine z_lconst (v := 0) dL_extend_17 (by decide) ?_
    refine z_lastN (t0 := 1) (k := 0) dL_extend_18 (ap_get hlen) rfl (rfl) (by decide) (by decide) ?_
    rw [ap_set hlen]
    refine z_goto (tgt := 26) dL_extend_19 (by decide) ?_
    refine z_iconst (v := 0) dL_extend_26 (by decide) ?_
    exact z_ireturn dL_extend_27 rfl hret hcs (by simp [hlen]; rfl) (Or.inl ⟨rfl, _, aw1, hr, rfl⟩)
  · simp only [zpush, zv]
    refine z_if_eq (tgt := 17) dL_extend_10 (by decide) (fun hc9 => absurd hc9 (by decide)) (fun _ => ?_)
    refine z_lconst (v := 1) dL_extend_13 (by decide) ?_
    refine z_goto (tgt := 18) dL_extend_14 (by decide) ?_
    refine z_lastN (t0 := 1) (k := 0) dL_extend_18 (ap_get hlen) rfl (rfl) (by decide) (by decide) ?_
    rw [ap_set hlen]
    refine z_goto (tgt := 26) dL_extend_19 (by decide) ?_
    refine z_iconst (v := 0) dL_extend_26 (by decide) ?_
    exact z_ireturn dL_extend_27 rfl hret hcs (by simp [hlen]; rfl) (Or.inl ⟨rfl, _, aw1, hr, rfl⟩)
set_option maxRecDepth 100000 in
set_option maxHeartbeats 4000000 in
theorem k_cut (l : Launch) (hl9 : l.stackTraces = false) (D : va_G) (ca : Nat → ClassId) (ad : Nat → Nat) (sa : Nat → Nat) (f g : Nat → Nat → Int32) (w h : Nat → Nat) (hwh : okW w h) (u : Nat → Int64) (n p q : Int32) : zHet l yL_cut wL_cut (rmk 9 1 6) 1 6 (zEl sa) (gG D ca ad) (twn ca f g w h ++ [oc ca u]) [.ref 0, .int n, .int p, .int q, .ref 14] (fun r aw => (r = some (.int 0) ∧ ∃ (r1 : Option Value) (aw1 : List va_E), (fun (r : Option Value) (aw : List va_E) => ∃ k : Nat, k < 4 ∧ n = nI k ∧ ((badC (w k) (h k) p q ∧ r = some (.int 0) ∧ aw = twn ca f g w h) ∨ ∃ w2 h2 : Nat, ¬ badC (w k) (h k) p q ∧ p = nI w2 ∧ q = nI h2 ∧ 1 ≤ w2 ∧ w2 ≤ w k ∧ 1 ≤ h2 ∧ h2 ≤ h k ∧ r = some (.int 1) ∧ aw = twn ca f g (va_up w k w2) (va_up h k h2))) r1 aw1 ∧ aw = aw1 ++ [oc ca (vp_updL u 0 (o64 true r1))]) ∨ (∃ E : String, (fun E : String => E = IOB ∧ noP n) E ∧ r = some (.int (if E = IOB then 1 else 2)) ∧ aw = twn ca f g w h ++ [oc ca u])) := by
  refine zHet.of (cc := cL_cut) (maxL := 6) (ret := (some .int)) (lv := [some (.ref 0), some (.int n), some (.int p), some (.int q), some (.ref 14), none]) (by decide) rfl (Nat.le_of_ble_eq_true rfl) rfl (fun M hl0 hR hC hS hE htab hret => ?_)
  refine z_aload dL_cut_0 rfl ?_
  refine z_iconst (v := 0) dL_cut_2 (by decide) ?_
  refine z_aload_n dL_cut_3 rfl ?_
  refine z_iload_n dL_cut_4 rfl ?_
  refine z_iload_n dL_cut_5 rfl ?_
  refine z_iload_n dL_cut_6 rfl ?_
  refine zx_catchL (rest := [oc ca u]) (zx_V (C := RT) (b := 0) hE (zEok_lx sa) (c_cut _ (by rw [hl0]; exact hl9) D ca ad sa f g w h hwh n p q) dL_cut_7 (gd_V b_328 b_329 b_330 b_1 b_331) rfl qT_cut ⟨rfl, rfl⟩ (by rw [hR]; decide) (by rw [hR, hC, hS]; decide) rfl (Nat.le_of_ble_eq_true rfl) rfl rfl) (fun E hpE => ?_) (fun r aw1 hlen hr => ?_)
  · obtain ⟨rfl, -⟩ := id hpE
    exact zH_c (E := IOB) (nm := IOB) (pre := []) (x := ⟨0, 19, 22, 13⟩) (k := 5) (v := 1) (zup_Tab htab) rfl (fun z hz => nomatch hz) rfl (by decide) (bwT b_118) ((zup_En (a := 1) (b := 6) hE).1.2.2.2.2 _ (List.mem_of_getElem? (i := 0) rfl)) (Or.inl ⟨dL_cut_22, dL_cut_24, dL_cut_25⟩) (by decide) (by decide) (zup_Ret hret) (by rw [zup_cells, zup_slots, hC, hS]; decide) rfl (Or.inr ⟨IOB, hpE, rfl, rfl⟩)
  have hlen : aw1.length = 14 := hlen
  have hret := zup_Ret (a := 1) (b := 6) hret
  have hcs : zcells (zup M 1 6) ≤ 1 ∧ zslots (zup M 1 6) ≤ 6 := by rw [zup_cells, zup_slots, hC, hS]; decide
  obtain ⟨k9, -, -, ⟨-, rfl, -⟩ | ⟨w9, h9, -, -, -, -, -, -, -, rfl, -⟩⟩ := id hr
  · simp only [zpush, zv]
    refine z_if_eq (tgt := 17) dL_cut_10 (by decide) (fun _ => ?_) (fun hc9 => absurd hc9 (by decide))
    refine z_lconst (v := 0) dL_cut_17 (by decide) ?_
    refine z_lastN (t0 := 1) (k := 0) dL_cut_18 (ap_get hlen) rfl (rfl) (by decide) (by decide) ?_
    rw [ap_set hlen]
    refine z_goto (tgt := 26) dL_cut_19 (by decide) ?_
    refine z_iconst (v := 0) dL_cut_26 (by decide) ?_
    exact z_ireturn dL_cut_27 rfl hret hcs (by simp [hlen]; rfl) (Or.inl ⟨rfl, _, aw1, hr, rfl⟩)
  · simp only [zpush, zv]
    refine z_if_eq (tgt := 17) dL_cut_10 (by decide) (fun hc9 => absurd hc9 (by decide)) (fun _ => ?_)
    refine z_lconst (v := 1) dL_cut_13 (by decide) ?_
    refine z_goto (tgt := 18) dL_cut_14 (by decide) ?_
    refine z_lastN (t0 := 1) (k := 0) dL_cut_18 (ap_get hlen) rfl (rfl) (by decide) (by decide) ?_
    rw [ap_set hlen]
    refine z_goto (tgt := 26) dL_cut_19 (by decide) ?_
    refine z_iconst (v := 0) dL_cut_26 (by decide) ?_
    exact z_ireturn dL_cut_27 rfl hret hcs (by simp [hlen]; rfl) (Or.inl ⟨rfl, _, aw1, hr, rfl⟩)
set_option maxRecDepth 100000 in
set_option maxHeartbeats 4000000 in
theorem k_at (l : Launch) (hl9 : l.stackTraces = false) (D : va_G) (ca : Nat → ClassId) (ad : Nat → Nat) (sa : Nat → Nat) (f g : Nat → Nat → Int32) (w h : Nat → Nat) (hwh : okW w h) (u : Nat → Int64) (n x y : Int32) : zHet l yL_at wL_at (rmk 9 2 12) 2 12 (zEl sa) (gG D ca ad) (twn ca f g w h ++ [oc ca u]) [.ref 0, .int n, .int x, .int y, .ref 14] (fun r aw => (r = some (.int 0) ∧ ∃ (r1 : Option Value) (aw1 : List va_E), (fun (r : Option Value) (aw : List va_E) => ∃ k a b : Nat, k < 4 ∧ n = nI k ∧ a < w k ∧ b < h k ∧ x = nI a ∧ y = nI b ∧ r = some (.int (f k (b * 32 + a))) ∧ aw = twn ca f g w h) r1 aw1 ∧ aw = aw1 ++ [oc ca (vp_updL u 0 (o64 false r1))]) ∨ (∃ E : String, (fun E : String => E = IOB ∧ (noP n ∨ ∃ k : Nat, k < 4 ∧ n = nI k ∧ hasB (nI (w k)) (nI (h k)) x y = false)) E ∧ r = some (.int (if E = IOB then 1 else 2)) ∧ aw = twn ca f g w h ++ [oc ca u])) := by
  refine zHet.of (cc := cL_at) (maxL := 6) (ret := (some .int)) (lv := [some (.ref 0), some (.int n), some (.int x), some (.int y), some (.ref 14), none]) (by decide) rfl (Nat.le_of_ble_eq_true rfl) rfl (fun M hl0 hR hC hS hE htab hret => ?_)
  refine z_aload dL_at_0 rfl ?_
  refine z_iconst (v := 0) dL_at_2 (by decide) ?_
  refine z_aload_n dL_at_3 rfl ?_
  refine z_iload_n dL_at_4 rfl ?_
  refine z_iload_n dL_at_5 rfl ?_
  refine z_iload_n dL_at_6 rfl ?_
  refine zx_catchL (rest := [oc ca u]) (zx_V (C := RT) (b := 0) hE (zEok_lx sa) (c_at _ (by rw [hl0]; exact hl9) D ca ad sa f g w h hwh n x y) dL_at_7 (gd_V b_335 b_336 b_337 b_1 b_338) rfl qT_at ⟨rfl, rfl⟩ (by rw [hR]; decide) (by rw [hR, hC, hS]; decide) rfl (Nat.le_of_ble_eq_true rfl) rfl rfl) (fun E hpE => ?_) (fun r aw1 hlen hr => ?_)
  · obtain ⟨rfl, -⟩ := id hpE
    exact zH_c (E := IOB) (nm := IOB) (pre := []) (x := ⟨0, 12, 15, 13⟩) (k := 5) (v := 1) (zup_Tab htab) rfl (fun z hz => nomatch hz) rfl (by decide) (bwT b_118) ((zup_En (a := 2) (b := 12) hE).1.2.2.2.2 _ (List.mem_of_getElem? (i := 0) rfl)) (Or.inl ⟨dL_at_15, dL_at_17, dL_at_18⟩) (by decide) (by decide) (zup_Ret hret) (by rw [zup_cells, zup_slots, hC, hS]; decide) rfl (Or.inr ⟨IOB, hpE, rfl, rfl⟩)
  have hlen : aw1.length = 14 := hlen
  have hret := zup_Ret (a := 2) (b := 12) hret
  have hcs : zcells (zup M 2 12) ≤ 2 ∧ zslots (zup M 2 12) ≤ 12 := by rw [zup_cells, zup_slots, hC, hS]; decide
  obtain ⟨k9, a9, b9, -, -, -, -, -, -, rfl, -⟩ := id hr
  simp only [zpush, zv]
  refine z_i2l dL_at_10 ?_
  refine z_lastN (t0 := 1) (k := 0) dL_at_11 (ap_get hlen) rfl (rfl) (by decide) (by decide) ?_
  rw [ap_set hlen]
  refine z_goto (tgt := 19) dL_at_12 (by decide) ?_
  refine z_iconst (v := 0) dL_at_19 (by decide) ?_
  exact z_ireturn dL_at_20 rfl hret hcs (by simp [hlen]; rfl) (Or.inl ⟨rfl, _, aw1, hr, rfl⟩)
set_option maxRecDepth 100000 in
set_option maxHeartbeats 4000000 in
theorem k_eight (l : Launch) (hl9 : l.stackTraces = false) (D : va_G) (ca : Nat → ClassId) (ad : Nat → Nat) (sa : Nat → Nat) (f g : Nat → Nat → Int32) (w h : Nat → Nat) (hwh : okW w h) (u : Nat → Int64) (n x y : Int32) : zHet l yL_eight wL_eight (rmk 9 1 6) 1 6 (zEl sa) (gG D ca ad) (twn ca f g w h ++ [oc ca u]) [.ref 0, .int n, .int x, .int y, .ref 14] (fun r aw => (r = some (.int 0) ∧ ∃ (r1 : Option Value) (aw1 : List va_E), (fun (r : Option Value) (aw : List va_E) => ∃ k : Nat, k < 4 ∧ n = nI k ∧ r = some (.long (eiL (f k) (w k) (h k) x y 8)) ∧ aw = twn ca f g w h) r1 aw1 ∧ aw = aw1 ++ [oc ca (vp_updL u 0 (o64 false r1))]) ∨ (∃ E : String, (fun E : String => E = IOB ∧ noP n) E ∧ r = some (.int (if E = IOB then 1 else 2)) ∧ aw = twn ca f g w h ++ [oc ca u])) := by
  refine zHet.of (cc := cL_eight) (maxL := 6) (ret := (some .int)) (lv := [some (.ref 0), some (.int n), some (.int x), some (.int y), some (.ref 14), none]) (by decide) rfl (Nat.le_of_ble_eq_true rfl) rfl (fun M hl0 hR hC hS hE htab hret => ?_)
  refine z_aload dL_eight_0 rfl ?_
  refine z_iconst (v := 0) dL_eight_2 (by decide) ?_
  refine z_aload_n dL_eight_3 rfl ?_
  refine z_iload_n dL_eight_4 rfl ?_
  refine z_iload_n dL_eight_5 rfl ?_
  refine z_iload_n dL_eight_6 rfl ?_
  refine zx_catchL (rest := [oc ca u]) (zx_V (C := RT) (b := 0) hE (zEok_lx sa) (c_eight _ (by rw [hl0]; exact hl9) D ca ad sa f g w h hwh n x y) dL_eight_7 (gd_V b_342 b_343 b_344 b_1 b_345) rfl qT_eight ⟨rfl, rfl⟩ (by rw [hR]; decide) (by rw [hR, hC, hS]; decide) rfl (Nat.le_of_ble_eq_true rfl) rfl rfl) (fun E hpE => ?_) (fun r aw1 hlen hr => ?_)
  · obtain ⟨rfl, -⟩ := id hpE
    exact zH_c (E := IOB) (nm := IOB) (pre := []) (x := ⟨0, 11, 14, 13⟩) (k := 5) (v := 1) (zup_Tab htab) rfl (fun z hz => nomatch hz) rfl (by decide) (bwT b_118) ((zup_En (a := 1) (b := 6) hE).1.2.2.2.2 _ (List.mem_of_getElem? (i := 0) rfl)) (Or.inl ⟨dL_eight_14, dL_eight_16, dL_eight_17⟩) (by decide) (by decide) (zup_Ret hret) (by rw [zup_cells, zup_slots, hC, hS]; decide) rfl (Or.inr ⟨IOB, hpE, rfl, rfl⟩)
  have hlen : aw1.length = 14 := hlen
  have hret := zup_Ret (a := 1) (b := 6) hret
  have hcs : zcells (zup M 1 6) ≤ 1 ∧ zslots (zup M 1 6) ≤ 6 := by rw [zup_cells, zup_slots, hC, hS]; decide
  obtain ⟨k9, -, -, rfl, -⟩ := id hr
  simp only [zpush, zv]
  refine z_lastN (t0 := 1) (k := 0) dL_eight_10 (ap_get hlen) rfl (rfl) (by decide) (by decide) ?_
  rw [ap_set hlen]
  refine z_goto (tgt := 18) dL_eight_11 (by decide) ?_
  refine z_iconst (v := 0) dL_eight_18 (by decide) ?_
  exact z_ireturn dL_eight_19 rfl hret hcs (by simp [hlen]; rfl) (Or.inl ⟨rfl, _, aw1, hr, rfl⟩)
set_option maxRecDepth 100000 in
set_option maxHeartbeats 4000000 in
theorem k_apart (l : Launch) (hl9 : l.stackTraces = false) (D : va_G) (ca : Nat → ClassId) (ad : Nat → Nat) (sa : Nat → Nat) (f g : Nat → Nat → Int32) (w h : Nat → Nat) (hwh : okW w h) (u : Nat → Int64) (n m : Int32) : zHet l yL_apart wL_apart (rmk 9 2 12) 2 12 (zEl sa) (gG D ca ad) (twn ca f g w h ++ [oc ca u]) [.ref 0, .int n, .int m, .ref 14] (fun r aw => (r = some (.int 0) ∧ ∃ (r1 : Option Value) (aw1 : List va_E), (fun (r : Option Value) (aw : List va_E) => ∃ k k2 : Nat, k < 4 ∧ k2 < 4 ∧ n = nI k ∧ m = nI k2 ∧ aw = twn ca f g w h ∧ r = some (.int (if w k = w k2 ∧ h k = h k2 then allF (fun a b => if a < b then b else a) (fun j => zab (f k j - f k2 j)) (w k) (h k) 0 else -1))) r1 aw1 ∧ aw = aw1 ++ [oc ca (vp_updL u 0 (o64 false r1))]) ∨ (∃ E : String, (fun E : String => E = IOB ∧ (noP n ∨ noP m)) E ∧ r = some (.int (if E = IOB then 1 else 2)) ∧ aw = twn ca f g w h ++ [oc ca u])) := by
  refine zHet.of (cc := cL_apart) (maxL := 5) (ret := (some .int)) (lv := [some (.ref 0), some (.int n), some (.int m), some (.ref 14), none]) (by decide) rfl (Nat.le_of_ble_eq_true rfl) rfl (fun M hl0 hR hC hS hE htab hret => ?_)
  refine z_aload_n dL_apart_0 rfl ?_
  refine z_iconst (v := 0) dL_apart_1 (by decide) ?_
  refine z_aload_n dL_apart_2 rfl ?_
  refine z_iload_n dL_apart_3 rfl ?_
  refine z_iload_n dL_apart_4 rfl ?_
  refine zx_catchL (rest := [oc ca u]) (zx_V (C := RT) (b := 0) hE (zEok_lx sa) (c_apart _ (by rw [hl0]; exact hl9) D ca ad sa f g w h hwh n m) dL_apart_5 (gd_V b_349 b_350 b_351 b_1 b_352) rfl qT_apart ⟨rfl, rfl⟩ (by rw [hR]; decide) (by rw [hR, hC, hS]; decide) rfl (Nat.le_of_ble_eq_true rfl) rfl rfl) (fun E hpE => ?_) (fun r aw1 hlen hr => ?_)
  · obtain ⟨rfl, -⟩ := id hpE
    exact zH_c (E := IOB) (nm := IOB) (pre := []) (x := ⟨0, 10, 13, 13⟩) (k := 4) (v := 1) (zup_Tab htab) rfl (fun z hz => nomatch hz) rfl (by decide) (bwT b_118) ((zup_En (a := 2) (b := 12) hE).1.2.2.2.2 _ (List.mem_of_getElem? (i := 0) rfl)) (Or.inl ⟨dL_apart_13, dL_apart_15, dL_apart_16⟩) (by decide) (by decide) (zup_Ret hret) (by rw [zup_cells, zup_slots, hC, hS]; decide) rfl (Or.inr ⟨IOB, hpE, rfl, rfl⟩)
  have hlen : aw1.length = 14 := hlen
  have hret := zup_Ret (a := 2) (b := 12) hret
  have hcs : zcells (zup M 2 12) ≤ 2 ∧ zslots (zup M 2 12) ≤ 12 := by rw [zup_cells, zup_slots, hC, hS]; decide
  obtain ⟨k9, k8, -, -, -, -, -, rfl⟩ := id hr
  simp only [zpush, zv]
  refine z_i2l dL_apart_8 ?_
  refine z_lastN (t0 := 1) (k := 0) dL_apart_9 (ap_get hlen) rfl (rfl) (by decide) (by decide) ?_
  rw [ap_set hlen]
  refine z_goto (tgt := 17) dL_apart_10 (by decide) ?_
  refine z_iconst (v := 0) dL_apart_17 (by decide) ?_
  exact z_ireturn dL_apart_18 rfl hret hcs (by simp [hlen]; rfl) (Or.inl ⟨rfl, _, aw1, hr, rfl⟩)
set_option maxRecDepth 100000 in
set_option maxHeartbeats 4000000 in
theorem k_look (l : Launch) (hl9 : l.stackTraces = false) (D : va_G) (ca : Nat → ClassId) (ad : Nat → Nat) (sa : Nat → Nat) (f g : Nat → Nat → Int32) (w h : Nat → Nat) (hwh : okW w h) (u : Nat → Int64) (n how : Int32) : zHet l yL_look wL_look (rmk 9 1 6) 1 6 (zEl sa) (gG D ca ad) (twn ca f g w h ++ [oc ca u]) [.ref 0, .int n, .int how, .ref 14] (fun r aw => (r = some (.int 0) ∧ ∃ (r1 : Option Value) (aw1 : List va_E), (fun (r : Option Value) (aw : List va_E) => ∃ k : Nat, k < 4 ∧ n = nI k ∧ aw = twn ca f g w h ∧ (((how.toInt < 0 ∨ 4 < how.toInt) ∧ r = some (.int (-1))) ∨ ∃ v : Nat, v < 5 ∧ how = nI v ∧ r = some (.int (lkv v (f k) (w k) (h k))))) r1 aw1 ∧ aw = aw1 ++ [oc ca (vp_updL u 0 (o64 false r1))]) ∨ (∃ E : String, (fun E : String => E = IOB ∧ noP n) E ∧ r = some (.int (if E = IOB then 1 else 2)) ∧ aw = twn ca f g w h ++ [oc ca u])) := by
  refine zHet.of (cc := cL_look) (maxL := 5) (ret := (some .int)) (lv := [some (.ref 0), some (.int n), some (.int how), some (.ref 14), none]) (by decide) rfl (Nat.le_of_ble_eq_true rfl) rfl (fun M hl0 hR hC hS hE htab hret => ?_)
  refine z_aload_n dL_look_0 rfl ?_
  refine z_iconst (v := 0) dL_look_1 (by decide) ?_
  refine z_aload_n dL_look_2 rfl ?_
  refine z_iload_n dL_look_3 rfl ?_
  refine z_iload_n dL_look_4 rfl ?_
  refine zx_catchL (rest := [oc ca u]) (zx_V (C := RT) (b := 0) hE (zEok_lx sa) (c_look _ (by rw [hl0]; exact hl9) D ca ad sa f g w h hwh n how) dL_look_5 (gd_V b_364 b_365 b_366 b_1 b_367) rfl qT_look ⟨rfl, rfl⟩ (by rw [hR]; decide) (by rw [hR, hC, hS]; decide) rfl (Nat.le_of_ble_eq_true rfl) rfl rfl) (fun E hpE => ?_) (fun r aw1 hlen hr => ?_)
  · obtain ⟨rfl, -⟩ := id hpE
    exact zH_c (E := IOB) (nm := IOB) (pre := []) (x := ⟨0, 10, 13, 13⟩) (k := 4) (v := 1) (zup_Tab htab) rfl (fun z hz => nomatch hz) rfl (by decide) (bwT b_118) ((zup_En (a := 1) (b := 6) hE).1.2.2.2.2 _ (List.mem_of_getElem? (i := 0) rfl)) (Or.inl ⟨dL_look_13, dL_look_15, dL_look_16⟩) (by decide) (by decide) (zup_Ret hret) (by rw [zup_cells, zup_slots, hC, hS]; decide) rfl (Or.inr ⟨IOB, hpE, rfl, rfl⟩)
  have hlen : aw1.length = 14 := hlen
  have hret := zup_Ret (a := 1) (b := 6) hret
  have hcs : zcells (zup M 1 6) ≤ 1 ∧ zslots (zup M 1 6) ≤ 6 := by rw [zup_cells, zup_slots, hC, hS]; decide
  obtain ⟨k9, -, -, -, ⟨-, rfl⟩ | ⟨v9, -, -, rfl⟩⟩ := id hr
  · simp only [zpush, zv]
    refine z_i2l dL_look_8 ?_
    refine z_lastN (t0 := 1) (k := 0) dL_look_9 (ap_get hlen) rfl (rfl) (by decide) (by decide) ?_
    rw [ap_set hlen]
    refine z_goto (tgt := 17) dL_look_10 (by decide) ?_
    refine z_iconst (v := 0) dL_look_17 (by decide) ?_
    exact z_ireturn dL_look_18 rfl hret hcs (by simp [hlen]; rfl) (Or.inl ⟨rfl, _, aw1, hr, rfl⟩)
  · simp only [zpush, zv]
    refine z_i2l dL_look_8 ?_
    refine z_lastN (t0 := 1) (k := 0) dL_look_9 (ap_get hlen) rfl (rfl) (by decide) (by decide) ?_
    rw [ap_set hlen]
    refine z_goto (tgt := 17) dL_look_10 (by decide) ?_
    refine z_iconst (v := 0) dL_look_17 (by decide) ?_
    exact z_ireturn dL_look_18 rfl hret hcs (by simp [hlen]; rfl) (Or.inl ⟨rfl, _, aw1, hr, rfl⟩)
