/-! the three constructors -/
theorem zag.tr {n m : Nat} {ad ad2 ad3 : Nat → Nat} (h : zag n ad ad2) (h2 : zag m ad2 ad3) (hm : n ≤ m) : zag n ad ad3 := fun j hj => (h2 j (hj.imp (fun q => Nat.lt_of_lt_of_le q hm) id)).trans (h j hj)
theorem zag.rf (n : Nat) (ad : Nat → Nat) : zag n ad ad := fun _ _ => rfl
theorem z_iext {M : zM} {D : va_G} {cl : List vw_C} {tys : List (ClassId × FieldType)} {ad : Nat → Nat} {cc : ByteArray} {nL : Nat} {own : String} {Ts : List Cond} {rt : Option FieldType} {aw : List va_E} {lv : List (Option Value)} {st : List Value} {pc : Nat} {cA : ClassId} {n a : Nat} {f : Nat → Int32} (f' : Nat → Int32) (ha : aw[a]? = some (.inl (cA, n, .inl f))) (hf : ∀ j, j < n → f j = f' j) (kk : Zj M (D, cl, tys, ad) cc nL own Ts rt (aw.set a (.inl (cA, n, .inl f'))) lv st pc) : Zj M (D, cl, tys, ad) cc nL own Ts rt aw lv st pc := by
  obtain ⟨p, l, e, R, s, m, args, below, meth, c, Q, A, cells, slots⟩ := M
  intro hF H locs ls hP hD hS hl
  refine kk hF H locs ls (fun k q hq => ?_) (zD_len hD (by rw [List.length_set])) hS hl
  rw [zw_set, List.getElem?_set] at hq
  split at hq
  · next h =>
    subst h
    split at hq
    · cases hq
      have h1 : H[ad a]? = some (arrV cA n (fun j => .int (f j))) := hP a _ (zw_get ha)
      show H[ad a]? = some (arrV cA n (fun j => .int (f' j)))
      rw [h1]
      have e : (Array.ofFn (n := n) fun j => Value.int (f j.val)) = (Array.ofFn (n := n) fun j => Value.int (f' j.val)) := by
        congr 1
        funext j
        rw [hf j.val j.isLt]
      simp only [arrV, e]
    · cases hq
  · exact hP k q hq
/-- the law's environment: its methods', and that an array of planes is one -/
def zEi (sa : Nat → Nat) : (Nat → Prop) → State → Prop := fun A U => zEl sa A U ∧ va_AO RP U
theorem zEok_il (sa : Nat → Nat) : zEok (zEi sa) (zEl sa) := ⟨fun A A' s U locs h hS hA hW => (zEok_ll sa).1 A A' s U locs h.1 hS hA hW, (zEok_ll sa).2⟩
theorem zEok_ix (sa : Nat → Nat) : zEok (zEi sa) (zEx sa) := ⟨fun A A' s U locs h hS hA hW => (zEok_lx sa).1 A A' s U locs h.1 hS hA hW, (zEok_lx sa).2⟩
theorem zEok_ii (sa : Nat → Nat) : zEok (zEi sa) (zEi sa) := ⟨fun A A' s U locs h hS hA hW => ⟨(zEok_ll sa).1 A A' s U locs h.1 hS hA hW, va_AO.moved hW.alike h.2⟩, fun A a U g mk h => ⟨(zEok_ll sa).2 A a U g mk h.1, va_AO.moved (Vm.Alike.refl U.vm) h.2⟩⟩
theorem zup_in (M : zM) (a b : Nat) : (zup M a b).2.2.2.2.2.2.2.2.1 = M.2.2.2.2.2.2.2.2.1 := by obtain ⟨p, l, e, R, s, m, args, below, meth, c, Q, A, cells, slots⟩ := M; rfl
theorem zup_s (M : zM) (a b : Nat) : (zup M a b).2.2.2.2.1 = M.2.2.2.2.1 := by obtain ⟨p, l, e, R, s, m, args, below, meth, c, Q, A, cells, slots⟩ := M; rfl
abbrev p0 : va_E := .inr (1, [.null, .int 0, .int 0, .null])
abbrev t0x : va_E := .inr (0, [.null])
abbrev m0x : va_E := .inr (2, [.int 0, .null, .null, .null, .null, .int 0, .int 0])
set_option maxRecDepth 100000 in
set_option maxHeartbeats 1000000 in
theorem i_P (l : Launch) (D : va_G) (ca : Nat → ClassId) (ad : Nat → Nat) : zCet l yP_init wP_init (rmk 1 2 1056) 2 1056 zE0 (gG D ca ad) [p0] [.ref 0] (fun aw => aw = pw3 ca (fun _ => 0) (fun _ => 0) 1 1) := by
  refine zCet.of (cc := cP_init) (maxL := 1) (ret := none) (lv := [some (.ref 0)]) (by decide) rfl rfl (Nat.le_of_ble_eq_true rfl) rfl (fun M hl0 hR hC hS hI hE hret => ?_)
  refine z_aload_n dP_init_0 rfl ?_
  refine z_obj dP_init_1 (bwT b_26) (bwT b_18) (bwT b_19) (by rw [hR]; decide) ?_
  refine z_aload_n dP_init_4 rfl ?_
  refine z_sipush (v := 1024) dP_init_5 (by decide) ?_
  refine z_newa (ty := .int) (f := .inl (fun _ => 0)) (N' := 1024) 0 dP_init_8 (bwT b_43) rfl rfl (Or.inl ⟨rfl, rfl⟩) (by decide) (by decide) (by decide) (by simp only [zup_room, zup_cells, zup_slots, hR, hC, hS]; decide) rfl (fun ad8 ha8 => ?_)
  simp only [List.cons_append, List.nil_append, zpr]
  refine z_putF (C := RP) (T := TP) (N := 4) (ref := "ToneMixer$Plane") (ty := .array .int) 0 tyP (by simp only [zup_in]; exact hI) dP_init_10 rfl rfl (by decide) (fun w h => bwT (hbP w h)) (bwT b_27) rfl tyP_ok nmP rfl rfl (by decide +kernel) (fun f => ⟨rfl, rfl⟩) (Nat.le_of_ble_eq_true rfl) ?_
  try simp only [List.set_cons_succ, List.set_cons_zero]
  refine z_aload_n dP_init_13 rfl ?_
  refine z_iconst (v := 1) dP_init_14 (by decide) ?_
  refine z_put (C := RP) (T := TP) (N := 4) (ref := "ToneMixer$Plane") (ty := .int) 1 tyP dP_init_15 rfl rfl (by decide) (fun w h => bwT (hbP w h)) (bwT b_29) rfl tyP_ok nmP rfl (by decide +kernel) (fun f => ⟨rfl, rfl⟩) (Nat.le_of_ble_eq_true rfl) ?_
  try simp only [List.set_cons_succ, List.set_cons_zero]
  refine z_aload_n dP_init_18 rfl ?_
  refine z_iconst (v := 1) dP_init_19 (by decide) ?_
  refine z_put (C := RP) (T := TP) (N := 4) (ref := "ToneMixer$Plane") (ty := .int) 2 tyP dP_init_20 rfl rfl (by decide) (fun w h => bwT (hbP w h)) (bwT b_31) rfl tyP_ok nmP rfl (by decide +kernel) (fun f => ⟨rfl, rfl⟩) (Nat.le_of_ble_eq_true rfl) ?_
  try simp only [List.set_cons_succ, List.set_cons_zero]
  refine z_aload_n dP_init_23 rfl ?_
  refine z_bipush (v := 32) dP_init_24 (by decide) ?_
  refine z_newa (ty := .int) (f := .inl (fun _ => 0)) (N' := 32) 0 dP_init_26 (bwT b_43) rfl rfl (Or.inl ⟨rfl, rfl⟩) (by decide) (by decide) (by decide) (by simp only [zup_room, zup_cells, zup_slots, hR, hC, hS]; decide) rfl (fun ad26 ha26 => ?_)
  simp only [List.cons_append, List.nil_append, zpr]
  refine z_putF (C := RP) (T := TP) (N := 4) (ref := "ToneMixer$Plane") (ty := .array .int) 3 tyP (by simp only [zup_in]; exact hI) dP_init_28 rfl rfl (by decide) (fun w h => bwT (hbP w h)) (bwT b_33) rfl tyP_ok nmP rfl rfl (by decide +kernel) (fun f => ⟨rfl, rfl⟩) (Nat.le_of_ble_eq_true rfl) ?_
  try simp only [List.set_cons_succ, List.set_cons_zero]
  exact z_returnC dP_init_31 (zup_RetC (zup_RetC hret)) (by simp only [zup_cells, zup_slots, hC, hS]; decide) (ha8.tr ha26 (Nat.le_of_ble_eq_true rfl)) rfl
set_option maxRecDepth 100000 in
set_option maxHeartbeats 1000000 in
theorem i_M (l : Launch) (D : va_G) (ca : Nat → ClassId) (ad : Nat → Nat) : zCet l yM_init wM_init (rmk 1 4 5128) 4 5128 zE0 (gG D ca ad) [m0x] [.ref 0] (fun aw => aw = mwn ca 0 (fun _ => 1) (fun _ => 1) (fun _ => 0) (fun _ => 0) 0 0) := by
  refine zCet.of (cc := cM_init) (maxL := 2) (ret := none) (lv := [some (.ref 0), none]) (by decide) rfl rfl (Nat.le_of_ble_eq_true rfl) rfl (fun M hl0 hR hC hS hI hE hret => ?_)
  refine z_aload_n dM_init_0 rfl ?_
  refine z_obj dM_init_1 (bwT b_385) (bwT b_18) (bwT b_19) (by rw [hR]; decide) ?_
  refine z_aload_n dM_init_4 rfl ?_
  refine z_iconst (v := 4) dM_init_5 (by decide) ?_
  refine z_newa (ty := .int) (f := .inl (fun _ => 0)) (N' := 4) 0 dM_init_6 (bwT b_43) rfl rfl (Or.inl ⟨rfl, rfl⟩) (by decide) (by decide) (by decide) (by simp only [zup_room, zup_cells, zup_slots, hR, hC, hS]; decide) rfl (fun ad6 ha6 => ?_)
  simp only [List.cons_append, List.nil_append, zpr]
  refine z_putF (C := RM) (T := TM) (N := 7) (ref := "ToneMixerModel") (ty := .array .int) 1 tyM (by simp only [zup_in]; exact hI) dM_init_8 rfl rfl (by decide) (fun w h => bwT (hbM w h)) (bwT b_387) rfl tyM_ok nmM rfl rfl (by decide +kernel) (fun f => ⟨rfl, rfl⟩) (Nat.le_of_ble_eq_true rfl) ?_
  try simp only [List.set_cons_succ, List.set_cons_zero]
  refine z_aload_n dM_init_11 rfl ?_
  refine z_iconst (v := 4) dM_init_12 (by decide) ?_
  refine z_newa (ty := .int) (f := .inl (fun _ => 0)) (N' := 4) 0 dM_init_13 (bwT b_43) rfl rfl (Or.inl ⟨rfl, rfl⟩) (by decide) (by decide) (by decide) (by simp only [zup_room, zup_cells, zup_slots, hR, hC, hS]; decide) rfl (fun ad13 ha13 => ?_)
  simp only [List.cons_append, List.nil_append, zpr]
  refine z_putF (C := RM) (T := TM) (N := 7) (ref := "ToneMixerModel") (ty := .array .int) 2 tyM (by simp only [zup_in]; exact hI) dM_init_15 rfl rfl (by decide) (fun w h => bwT (hbM w h)) (bwT b_388) rfl tyM_ok nmM rfl rfl (by decide +kernel) (fun f => ⟨rfl, rfl⟩) (Nat.le_of_ble_eq_true rfl) ?_
  try simp only [List.set_cons_succ, List.set_cons_zero]
  refine z_aload_n dM_init_18 rfl ?_
  refine z_sipush (v := 4096) dM_init_19 (by decide) ?_
  refine z_newa (ty := .int) (f := .inl (fun _ => 0)) (N' := 4096) 0 dM_init_22 (bwT b_43) rfl rfl (Or.inl ⟨rfl, rfl⟩) (by decide) (by decide) (by decide) (by simp only [zup_room, zup_cells, zup_slots, hR, hC, hS]; decide) rfl (fun ad22 ha22 => ?_)
  simp only [List.cons_append, List.nil_append, zpr]
  refine z_putF (C := RM) (T := TM) (N := 7) (ref := "ToneMixerModel") (ty := .array .int) 3 tyM (by simp only [zup_in]; exact hI) dM_init_24 rfl rfl (by decide) (fun w h => bwT (hbM w h)) (bwT b_389) rfl tyM_ok nmM rfl rfl (by decide +kernel) (fun f => ⟨rfl, rfl⟩) (Nat.le_of_ble_eq_true rfl) ?_
  try simp only [List.set_cons_succ, List.set_cons_zero]
  refine z_aload_n dM_init_27 rfl ?_
  refine z_sipush (v := 1024) dM_init_28 (by decide) ?_
  refine z_newa (ty := .int) (f := .inl (fun _ => 0)) (N' := 1024) 0 dM_init_31 (bwT b_43) rfl rfl (Or.inl ⟨rfl, rfl⟩) (by decide) (by decide) (by decide) (by simp only [zup_room, zup_cells, zup_slots, hR, hC, hS]; decide) rfl (fun ad31 ha31 => ?_)
  simp only [List.cons_append, List.nil_append, zpr]
  refine z_putF (C := RM) (T := TM) (N := 7) (ref := "ToneMixerModel") (ty := .array .int) 4 tyM (by simp only [zup_in]; exact hI) dM_init_33 rfl rfl (by decide) (fun w h => bwT (hbM w h)) (bwT b_390) rfl tyM_ok nmM rfl rfl (by decide +kernel) (fun f => ⟨rfl, rfl⟩) (Nat.le_of_ble_eq_true rfl) ?_
  try simp only [List.set_cons_succ, List.set_cons_zero]
  refine z_iconst (v := 0) dM_init_36 (by decide) ?_
  refine z_istore_n dM_init_37 (by decide) rfl ?_
  try simp only [List.set_cons_succ, List.set_cons_zero]
  refine z_iload_n dM_init_38 rfl ?_
  refine z_iconst (v := 4) dM_init_39 (by decide) ?_
  refine z_icmp_ge (tgt := 63) dM_init_40 (by decide) (fun c9 => absurd c9 (by decide)) (fun _ => ?_)
  refine z_aload_n dM_init_43 rfl ?_
  refine z_get (C := RM) (T := TM) (N := 7) (ref := "ToneMixerModel") 1 dM_init_44 rfl rfl rfl (by decide) (fun w h => bwT (hbM w h)) (bwT b_387) rfl ?_
  refine z_iload_n dM_init_47 rfl ?_
  refine z_iconst (v := 1) dM_init_48 (by decide) ?_
  refine z_iastN (t0 := 0) (k := 0) dM_init_49 rfl rfl (by decide) (by decide) (by decide) ?_
  try simp only [List.set_cons_succ, List.set_cons_zero]
  refine z_aload_n dM_init_50 rfl ?_
  refine z_get (C := RM) (T := TM) (N := 7) (ref := "ToneMixerModel") 2 dM_init_51 rfl rfl rfl (by decide) (fun w h => bwT (hbM w h)) (bwT b_388) rfl ?_
  refine z_iload_n dM_init_54 rfl ?_
  refine z_iconst (v := 1) dM_init_55 (by decide) ?_
  refine z_iastN (t0 := 0) (k := 0) dM_init_56 rfl rfl (by decide) (by decide) (by decide) ?_
  try simp only [List.set_cons_succ, List.set_cons_zero]
  refine z_iinc (v := 1) dM_init_57 (by decide) rfl rfl (by decide) ?_
  try simp only [List.set_cons_succ, List.set_cons_zero]
  refine z_goto (tgt := 38) dM_init_60 (by decide) ?_
  refine z_iload_n dM_init_38 rfl ?_
  refine z_iconst (v := 4) dM_init_39 (by decide) ?_
  refine z_icmp_ge (tgt := 63) dM_init_40 (by decide) (fun c9 => absurd c9 (by decide)) (fun _ => ?_)
  refine z_aload_n dM_init_43 rfl ?_
  refine z_get (C := RM) (T := TM) (N := 7) (ref := "ToneMixerModel") 1 dM_init_44 rfl rfl rfl (by decide) (fun w h => bwT (hbM w h)) (bwT b_387) rfl ?_
  refine z_iload_n dM_init_47 rfl ?_
  refine z_iconst (v := 1) dM_init_48 (by decide) ?_
  refine z_iastN (t0 := 0) (k := 1) dM_init_49 rfl rfl (by decide) (by decide) (by decide) ?_
  try simp only [List.set_cons_succ, List.set_cons_zero]
  refine z_aload_n dM_init_50 rfl ?_
  refine z_get (C := RM) (T := TM) (N := 7) (ref := "ToneMixerModel") 2 dM_init_51 rfl rfl rfl (by decide) (fun w h => bwT (hbM w h)) (bwT b_388) rfl ?_
  refine z_iload_n dM_init_54 rfl ?_
  refine z_iconst (v := 1) dM_init_55 (by decide) ?_
  refine z_iastN (t0 := 0) (k := 1) dM_init_56 rfl rfl (by decide) (by decide) (by decide) ?_
  try simp only [List.set_cons_succ, List.set_cons_zero]
  refine z_iinc (v := 2) dM_init_57 (by decide) rfl rfl (by decide) ?_
  try simp only [List.set_cons_succ, List.set_cons_zero]
  refine z_goto (tgt := 38) dM_init_60 (by decide) ?_
  refine z_iload_n dM_init_38 rfl ?_
  refine z_iconst (v := 4) dM_init_39 (by decide) ?_
  refine z_icmp_ge (tgt := 63) dM_init_40 (by decide) (fun c9 => absurd c9 (by decide)) (fun _ => ?_)
  refine z_aload_n dM_init_43 rfl ?_
  refine z_get (C := RM) (T := TM) (N := 7) (ref := "ToneMixerModel") 1 dM_init_44 rfl rfl rfl (by decide) (fun w h => bwT (hbM w h)) (bwT b_387) rfl ?_
  refine z_iload_n dM_init_47 rfl ?_
  refine z_iconst (v := 1) dM_init_48 (by decide) ?_
  refine z_iastN (t0 := 0) (k := 2) dM_init_49 rfl rfl (by decide) (by decide) (by decide) ?_
  try simp only [List.set_cons_succ, List.set_cons_zero]
  refine z_aload_n dM_init_50 rfl ?_
  refine z_get (C := RM) (T := TM) (N := 7) (ref := "ToneMixerModel") 2 dM_init_51 rfl rfl rfl (by decide) (fun w h => bwT (hbM w h)) (bwT b_388) rfl ?_
  refine z_iload_n dM_init_54 rfl ?_
  refine z_iconst (v := 1) dM_init_55 (by decide) ?_
  refine z_iastN (t0 := 0) (k := 2) dM_init_56 rfl rfl (by decide) (by decide) (by decide) ?_
  try simp only [List.set_cons_succ, List.set_cons_zero]
  refine z_iinc (v := 3) dM_init_57 (by decide) rfl rfl (by decide) ?_
  try simp only [List.set_cons_succ, List.set_cons_zero]
  refine z_goto (tgt := 38) dM_init_60 (by decide) ?_
  refine z_iload_n dM_init_38 rfl ?_
  refine z_iconst (v := 4) dM_init_39 (by decide) ?_
  refine z_icmp_ge (tgt := 63) dM_init_40 (by decide) (fun c9 => absurd c9 (by decide)) (fun _ => ?_)
  refine z_aload_n dM_init_43 rfl ?_
  refine z_get (C := RM) (T := TM) (N := 7) (ref := "ToneMixerModel") 1 dM_init_44 rfl rfl rfl (by decide) (fun w h => bwT (hbM w h)) (bwT b_387) rfl ?_
  refine z_iload_n dM_init_47 rfl ?_
  refine z_iconst (v := 1) dM_init_48 (by decide) ?_
  refine z_iastN (t0 := 0) (k := 3) dM_init_49 rfl rfl (by decide) (by decide) (by decide) ?_
  try simp only [List.set_cons_succ, List.set_cons_zero]
  refine z_aload_n dM_init_50 rfl ?_
  refine z_get (C := RM) (T := TM) (N := 7) (ref := "ToneMixerModel") 2 dM_init_51 rfl rfl rfl (by decide) (fun w h => bwT (hbM w h)) (bwT b_388) rfl ?_
  refine z_iload_n dM_init_54 rfl ?_
  refine z_iconst (v := 1) dM_init_55 (by decide) ?_
  refine z_iastN (t0 := 0) (k := 3) dM_init_56 rfl rfl (by decide) (by decide) (by decide) ?_
  try simp only [List.set_cons_succ, List.set_cons_zero]
  refine z_iinc (v := 4) dM_init_57 (by decide) rfl rfl (by decide) ?_
  try simp only [List.set_cons_succ, List.set_cons_zero]
  refine z_goto (tgt := 38) dM_init_60 (by decide) ?_
  refine z_iload_n dM_init_38 rfl ?_
  refine z_iconst (v := 4) dM_init_39 (by decide) ?_
  refine z_icmp_ge (tgt := 63) dM_init_40 (by decide) (fun _ => ?_) (fun c9 => absurd (by decide) c9)
  refine z_iext (a := 1) (fun _ => nI 1) rfl (fun j hj => by rcases k4 hj with rfl | rfl | rfl | rfl <;> decide) ?_
  refine z_iext (a := 2) (fun _ => nI 1) rfl (fun j hj => by rcases k4 hj with rfl | rfl | rfl | rfl <;> decide) ?_
  try simp only [List.set_cons_succ, List.set_cons_zero]
  exact z_returnC dM_init_63 (zup_RetC (zup_RetC (zup_RetC (zup_RetC hret)))) (by simp only [zup_cells, zup_slots, hC, hS]; decide) (((ha6.tr ha13 (Nat.le_of_ble_eq_true rfl)).tr ha22 (Nat.le_of_ble_eq_true rfl)).tr ha31 (Nat.le_of_ble_eq_true rfl)) rfl
set_option maxRecDepth 100000 in
set_option maxHeartbeats 1000000 in
theorem i_T (l : Launch) (D : va_G) (ca : Nat → ClassId) (ad : Nat → Nat) (sa : Nat → Nat) : zCet l yT_init wT_init (rmk 2 13 4244) 13 4244 (zEi sa) (gG D ca ad) [t0x] [.ref 0] (fun aw => aw = twn ca (fun _ _ => 0) (fun _ _ => 0) (fun _ => 1) (fun _ => 1)) := by
  refine zCet.of (cc := cT_init) (maxL := 2) (ret := none) (lv := [some (.ref 0), none]) (by decide) rfl rfl (Nat.le_of_ble_eq_true rfl) rfl (fun M hl0 hR hC hS hI hE hret => ?_)
  have hnest : va_Nw (.methodLinkNest RT 15 yP_init "ToneMixer") M.2.2.2.2.1 := hE.1.1.2.2.1 _ (List.mem_of_getElem? (i := 1) rfl)
  refine z_aload_n dT_init_0 rfl ?_
  refine z_obj dT_init_1 (bwT b_17) (bwT b_18) (bwT b_19) (by rw [hR]; decide) ?_
  refine z_aload_n dT_init_4 rfl ?_
  refine z_iconst (v := 4) dT_init_5 (by decide) ?_
  refine z_newq (C := RP) (N' := 4) 2 dT_init_6 (bwT b_20) hE.2 rfl (by decide) (by decide) (by decide) (by simp only [zup_room, zup_cells, zup_slots, hR, hC, hS]; decide) rfl (fun ad6 ha6 => ?_)
  simp only [List.cons_append, List.nil_append]
  refine z_putF (C := RT) (T := TT) (N := 1) (ref := "ToneMixer") (ty := .array (.object "ToneMixer$Plane")) 0 tyT (by simp only [zup_in]; exact hI) dT_init_9 rfl rfl (by decide) (fun w h => bwT (hbT w h)) (bwT b_44) rfl tyT_ok nmT rfl rfl (by decide +kernel) (fun f => ⟨rfl, rfl⟩) (Nat.le_of_ble_eq_true rfl) ?_
  try simp only [List.set_cons_succ, List.set_cons_zero]
  refine z_iconst (v := 0) dT_init_12 (by decide) ?_
  refine z_istore_n dT_init_13 (by decide) rfl ?_
  try simp only [List.set_cons_succ, List.set_cons_zero]
  refine z_iload_n dT_init_14 rfl ?_
  refine z_iconst (v := 4) dT_init_15 (by decide) ?_
  refine z_icmp_ge (tgt := 38) dT_init_16 (by decide) (fun c9 => absurd c9 (by decide)) (fun _ => ?_)
  refine z_aload_n dT_init_19 rfl ?_
  refine z_get (C := RT) (T := TT) (N := 1) (ref := "ToneMixer") 0 dT_init_20 rfl rfl rfl (by decide) (fun w h => bwT (hbT w h)) (bwT b_44) rfl ?_
  refine z_iload_n dT_init_23 rfl ?_
  refine z_new (C := RP) (T := TP) (N := 4) (ci := 1) (fs := [.null, .int 0, .int 0, .null]) tyP tyP_ok dT_init_24 rfl (fun w h => bwT (hbP w h)) (bwT b_20) (bwT b_22) (bwT b_2) (fun j hj => by rcases k4 hj with rfl | rfl | rfl | rfl <;> rfl) rfl (by simp only [zup_room, zup_cells, zup_slots, hR, hC, hS]; decide) rfl (fun ad24 ha24 => ?_)
  refine z_dup dT_init_27 rfl ?_
  refine z_I (e0 := p0) (E := zEi sa) (E' := zE0) (by (repeat refine zup_En ?_); exact hE) zEok_0 (fun a0 => by simp only [zup_l0]; exact i_P _ D ca a0) dT_init_28 (gd_0 b_25) rfl (Or.inr ⟨"ToneMixer", by simp only [zup_s]; exact hnest⟩) (bwT b_2) (bwT b_24) rfl qP_init.2 ⟨rfl, rfl⟩ (by simp only [zup_room, hR]; decide) (by simp only [zup_room, zup_cells, zup_slots, hR, hC, hS]; decide) (Nat.le_of_ble_eq_true rfl) (fun a => rfl) rfl (fun aw1 h9 => by subst h9; rfl) (fun ad28 aw0 ha28 he0 => ?_)
  subst he0
  simp only [List.map_cons, List.map_nil, List.cons_append, List.nil_append, zc, zv, List.length_cons, List.length_nil, Nat.reduceAdd]
  refine z_aastN (t0 := 2) (k := 0) (ci := 1) (b := 2) dT_init_31 rfl rfl rfl rfl (by decide) (by decide) (by decide) ?_
  try simp only [List.set_cons_succ, List.set_cons_zero]
  refine z_iinc (v := 1) dT_init_32 (by decide) rfl rfl (by decide) ?_
  try simp only [List.set_cons_succ, List.set_cons_zero]
  refine z_goto (tgt := 14) dT_init_35 (by decide) ?_
  refine z_iload_n dT_init_14 rfl ?_
  refine z_iconst (v := 4) dT_init_15 (by decide) ?_
  refine z_icmp_ge (tgt := 38) dT_init_16 (by decide) (fun c9 => absurd c9 (by decide)) (fun _ => ?_)
  refine z_aload_n dT_init_19 rfl ?_
  refine z_get (C := RT) (T := TT) (N := 1) (ref := "ToneMixer") 0 dT_init_20 rfl rfl rfl (by decide) (fun w h => bwT (hbT w h)) (bwT b_44) rfl ?_
  refine z_iload_n dT_init_23 rfl ?_
  refine z_new (C := RP) (T := TP) (N := 4) (ci := 1) (fs := [.null, .int 0, .int 0, .null]) tyP tyP_ok dT_init_24 rfl (fun w h => bwT (hbP w h)) (bwT b_20) (bwT b_22) (bwT b_2) (fun j hj => by rcases k4 hj with rfl | rfl | rfl | rfl <;> rfl) rfl (by simp only [zup_room, zup_cells, zup_slots, hR, hC, hS]; decide) rfl (fun ad124 ha124 => ?_)
  refine z_dup dT_init_27 rfl ?_
  refine z_I (e0 := p0) (E := zEi sa) (E' := zE0) (by (repeat refine zup_En ?_); exact hE) zEok_0 (fun a0 => by simp only [zup_l0]; exact i_P _ D ca a0) dT_init_28 (gd_0 b_25) rfl (Or.inr ⟨"ToneMixer", by simp only [zup_s]; exact hnest⟩) (bwT b_2) (bwT b_24) rfl qP_init.2 ⟨rfl, rfl⟩ (by simp only [zup_room, hR]; decide) (by simp only [zup_room, zup_cells, zup_slots, hR, hC, hS]; decide) (Nat.le_of_ble_eq_true rfl) (fun a => rfl) rfl (fun aw1 h9 => by subst h9; rfl) (fun ad128 aw1 ha128 he1 => ?_)
  subst he1
  simp only [List.map_cons, List.map_nil, List.cons_append, List.nil_append, zc, zv, List.length_cons, List.length_nil, Nat.reduceAdd]
  refine z_aastN (t0 := 2) (k := 1) (ci := 1) (b := 5) dT_init_31 rfl rfl rfl rfl (by decide) (by decide) (by decide) ?_
  try simp only [List.set_cons_succ, List.set_cons_zero]
  refine z_iinc (v := 2) dT_init_32 (by decide) rfl rfl (by decide) ?_
  try simp only [List.set_cons_succ, List.set_cons_zero]
  refine z_goto (tgt := 14) dT_init_35 (by decide) ?_
  refine z_iload_n dT_init_14 rfl ?_
  refine z_iconst (v := 4) dT_init_15 (by decide) ?_
  refine z_icmp_ge (tgt := 38) dT_init_16 (by decide) (fun c9 => absurd c9 (by decide)) (fun _ => ?_)
  refine z_aload_n dT_init_19 rfl ?_
  refine z_get (C := RT) (T := TT) (N := 1) (ref := "ToneMixer") 0 dT_init_20 rfl rfl rfl (by decide) (fun w h => bwT (hbT w h)) (bwT b_44) rfl ?_
  refine z_iload_n dT_init_23 rfl ?_
  refine z_new (C := RP) (T := TP) (N := 4) (ci := 1) (fs := [.null, .int 0, .int 0, .null]) tyP tyP_ok dT_init_24 rfl (fun w h => bwT (hbP w h)) (bwT b_20) (bwT b_22) (bwT b_2) (fun j hj => by rcases k4 hj with rfl | rfl | rfl | rfl <;> rfl) rfl (by simp only [zup_room, zup_cells, zup_slots, hR, hC, hS]; decide) rfl (fun ad224 ha224 => ?_)
  refine z_dup dT_init_27 rfl ?_
  refine z_I (e0 := p0) (E := zEi sa) (E' := zE0) (by (repeat refine zup_En ?_); exact hE) zEok_0 (fun a0 => by simp only [zup_l0]; exact i_P _ D ca a0) dT_init_28 (gd_0 b_25) rfl (Or.inr ⟨"ToneMixer", by simp only [zup_s]; exact hnest⟩) (bwT b_2) (bwT b_24) rfl qP_init.2 ⟨rfl, rfl⟩ (by simp only [zup_room, hR]; decide) (by simp only [zup_room, zup_cells, zup_slots, hR, hC, hS]; decide) (Nat.le_of_ble_eq_true rfl) (fun a => rfl) rfl (fun aw1 h9 => by subst h9; rfl) (fun ad228 aw2 ha228 he2 => ?_)
  subst he2
  simp only [List.map_cons, List.map_nil, List.cons_append, List.nil_append, zc, zv, List.length_cons, List.length_nil, Nat.reduceAdd]
  refine z_aastN (t0 := 2) (k := 2) (ci := 1) (b := 8) dT_init_31 rfl rfl rfl rfl (by decide) (by decide) (by decide) ?_
  try simp only [List.set_cons_succ, List.set_cons_zero]
  refine z_iinc (v := 3) dT_init_32 (by decide) rfl rfl (by decide) ?_
  try simp only [List.set_cons_succ, List.set_cons_zero]
  refine z_goto (tgt := 14) dT_init_35 (by decide) ?_
  refine z_iload_n dT_init_14 rfl ?_
  refine z_iconst (v := 4) dT_init_15 (by decide) ?_
  refine z_icmp_ge (tgt := 38) dT_init_16 (by decide) (fun c9 => absurd c9 (by decide)) (fun _ => ?_)
  refine z_aload_n dT_init_19 rfl ?_
  refine z_get (C := RT) (T := TT) (N := 1) (ref := "ToneMixer") 0 dT_init_20 rfl rfl rfl (by decide) (fun w h => bwT (hbT w h)) (bwT b_44) rfl ?_
  refine z_iload_n dT_init_23 rfl ?_
  refine z_new (C := RP) (T := TP) (N := 4) (ci := 1) (fs := [.null, .int 0, .int 0, .null]) tyP tyP_ok dT_init_24 rfl (fun w h => bwT (hbP w h)) (bwT b_20) (bwT b_22) (bwT b_2) (fun j hj => by rcases k4 hj with rfl | rfl | rfl | rfl <;> rfl) rfl (by simp only [zup_room, zup_cells, zup_slots, hR, hC, hS]; decide) rfl (fun ad324 ha324 => ?_)
  refine z_dup dT_init_27 rfl ?_
  refine z_I (e0 := p0) (E := zEi sa) (E' := zE0) (by (repeat refine zup_En ?_); exact hE) zEok_0 (fun a0 => by simp only [zup_l0]; exact i_P _ D ca a0) dT_init_28 (gd_0 b_25) rfl (Or.inr ⟨"ToneMixer", by simp only [zup_s]; exact hnest⟩) (bwT b_2) (bwT b_24) rfl qP_init.2 ⟨rfl, rfl⟩ (by simp only [zup_room, hR]; decide) (by simp only [zup_room, zup_cells, zup_slots, hR, hC, hS]; decide) (Nat.le_of_ble_eq_true rfl) (fun a => rfl) rfl (fun aw1 h9 => by subst h9; rfl) (fun ad328 aw3 ha328 he3 => ?_)
  subst he3
  simp only [List.map_cons, List.map_nil, List.cons_append, List.nil_append, zc, zv, List.length_cons, List.length_nil, Nat.reduceAdd]
  refine z_aastN (t0 := 2) (k := 3) (ci := 1) (b := 11) dT_init_31 rfl rfl rfl rfl (by decide) (by decide) (by decide) ?_
  try simp only [List.set_cons_succ, List.set_cons_zero]
  refine z_iinc (v := 4) dT_init_32 (by decide) rfl rfl (by decide) ?_
  try simp only [List.set_cons_succ, List.set_cons_zero]
  refine z_goto (tgt := 14) dT_init_35 (by decide) ?_
  refine z_iload_n dT_init_14 rfl ?_
  refine z_iconst (v := 4) dT_init_15 (by decide) ?_
  refine z_icmp_ge (tgt := 38) dT_init_16 (by decide) (fun _ => ?_) (fun c9 => absurd (by decide) c9)
  refine z_qext (a := 1) (fun j => some (2 + 3 * j)) rfl (fun j hj => by rcases k4 hj with rfl | rfl | rfl | rfl <;> rfl) ?_
  try simp only [List.set_cons_succ, List.set_cons_zero]
  exact z_returnC (mc := 13) (ms := 4244) dT_init_38 ((zup_RetC (zup_RetC (zup_RetC (zup_RetC (zup_RetC (zup_RetC (zup_RetC (zup_RetC (zup_RetC hret)))))))))) (by simp only [zup_cells, zup_slots, hC, hS]; decide) (((((((((ha6).tr ha24 (Nat.le_of_ble_eq_true rfl)).tr ha28 (Nat.le_of_ble_eq_true rfl)).tr ha124 (Nat.le_of_ble_eq_true rfl)).tr ha128 (Nat.le_of_ble_eq_true rfl)).tr ha224 (Nat.le_of_ble_eq_true rfl)).tr ha228 (Nat.le_of_ble_eq_true rfl)).tr ha324 (Nat.le_of_ble_eq_true rfl)).tr ha328 (Nat.le_of_ble_eq_true rfl)) rfl
