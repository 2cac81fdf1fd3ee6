/-- the array after i places are filled -/
def fil (v : Int32) (f : Nat → Int32) : Nat → (Nat → Int32)
  | 0 => f
  | i + 1 => upd (fil v f i) i v
section
variable {M : zM} {D : va_G} {ca : Nat → ClassId} {ad : Nat → Nat} {f : Nat → Int32} {v : Int32} {n : Nat}
set_option maxRecDepth 100000 in
set_option maxHeartbeats 4000000 in
theorem l_fill (hn : n < 2 ^ 31) (k : Zj M (gG D ca ad) cA_fill 4 RA wA_fill none [.inl (ca 0, n, .inl (fil v f n))] [some (.ref 0), some (.int v), some (.int (nI n)), some (.int (nI n))] [] 20) :
    ∀ r i, i + r = n → Zj M (gG D ca ad) cA_fill 4 RA wA_fill none [.inl (ca 0, n, .inl (fil v f i))] [some (.ref 0), some (.int v), some (.int (nI i)), some (.int (nI n))] [] 5 := by
  intro r
  induction r with
  | zero =>
    intro i hi
    obtain rfl : i = n := by omega
    refine z_iload_n dA_fill_5 rfl ?_
    refine z_iload_n dA_fill_6 rfl ?_
    exact z_icmp_ge (tgt := 20) dA_fill_7 (by decide) (fun _ => k) (fun hc => absurd (nI_le (Nat.le_refl _) (by omega)) hc)
  | succ r ih =>
    intro i hi
    refine z_iload_n dA_fill_5 rfl ?_
    refine z_iload_n dA_fill_6 rfl ?_
    refine z_icmp_ge (tgt := 20) dA_fill_7 (by decide) (fun hc => absurd hc (nI_ge (by omega) (by omega))) (fun _ => ?_)
    refine z_aload_n dA_fill_10 rfl ?_
    refine z_iload_n dA_fill_11 rfl ?_
    refine z_iload_n dA_fill_12 rfl ?_
    refine z_iastN (t0 := 0) (k := i) dA_fill_13 rfl rfl rfl (by omega) hn ?_
    try simp only [List.set_cons_succ, List.set_cons_zero]
    refine z_iinc1 dA_fill_14 (by decide) rfl rfl ?_
    try simp only [List.set_cons_succ, List.set_cons_zero]
    refine z_goto (tgt := 5) dA_fill_17 (by decide) ?_
    rw [nI_1]
    exact ih (i + 1) (by omega)
end
set_option maxRecDepth 100000 in
set_option maxHeartbeats 4000000 in
theorem c_fill (l : Launch) (D : va_G) (ca : Nat → ClassId) (ad : Nat → Nat) (f : Nat → Int32) (v : Int32) (n : Nat) (hn : n < 2 ^ 31) : zMet l yA_fill wA_fill (rmk 0 0 0) zE0 (gG D ca ad) [.inl (ca 0, n, .inl f)] [.ref 0, .int v] (fun r aw => r = none ∧ aw = [.inl (ca 0, n, .inl (fil v f n))]) := by
  refine zMet.of (cc := cA_fill) (maxL := 4) (ret := none) (lv := [some (.ref 0), some (.int v), none, none]) (by decide) rfl (Nat.le_of_ble_eq_true rfl) rfl (fun M hl0 hR hC hS hE hret => ?_)
  refine z_iconst (v := 0) dA_fill_0 (by decide) ?_
  refine z_istore_n dA_fill_1 (by decide) rfl ?_
  try simp only [List.set_cons_succ, List.set_cons_zero]
  refine z_aload_n dA_fill_2 rfl ?_
  refine z_alen (t0 := 0) (v := nI n) dA_fill_3 rfl rfl rfl ?_
  refine z_istore_n dA_fill_4 (by decide) rfl ?_
  try simp only [List.set_cons_succ, List.set_cons_zero]
  refine l_fill (f := f) hn ?_ n 0 (by omega)
  exact z_return dA_fill_20 hret ⟨Nat.le_of_eq hC, Nat.le_of_eq hS⟩ rfl ⟨rfl, rfl⟩
set_option maxRecDepth 100000 in
set_option maxHeartbeats 4000000 in
theorem c_empty (l : Launch) (D : va_G) (ca : Nat → ClassId) (ad : Nat → Nat) (f g : Nat → Int32) (w h w2 h2 : Int32) : zMet l yP_empty wP_empty (rmk 1 0 0) zE0 (gG D ca ad) (pw3 ca f g w h) [.ref 0, .int w2, .int h2] (fun r aw => r = none ∧ aw = pw3 ca (fil 0 f 1024) g w2 h2) := by
  refine zMet.of (cc := cP_empty) (maxL := 3) (ret := none) (lv := [some (.ref 0), some (.int w2), some (.int h2)]) (by decide) rfl (Nat.le_of_ble_eq_true rfl) rfl (fun M hl0 hR hC hS hE hret => ?_)
  refine z_aload_n dP_empty_0 rfl ?_
  refine z_get (C := RP) (T := TP) (N := 4) (ref := "ToneMixer$Plane") 0 dP_empty_1 rfl rfl rfl (by decide) (fun w h => bwT (hbP w h)) (bwT b_27) rfl ?_
  refine z_iconst (v := 0) dP_empty_4 (by decide) ?_
  refine z_part [1] (z_S hE zEok_0 (c_fill _ D ca _ f 0 1024 (by decide)) dP_empty_5 (gd_S b_215 b_216 b_9 b_217) rfl qA_fill.2 ⟨rfl, rfl⟩ (by rw [hR]; decide) (by rw [hR, hC, hS]; decide) rfl (Nat.le_of_ble_eq_true rfl)) (by decide) rfl (fun r aw1 hlen hr => ?_)
  obtain ⟨rfl, rfl⟩ := hr
  simp only [zpush, zput, zc, List.set_cons_succ, List.set_cons_zero]
  refine z_aload_n dP_empty_8 rfl ?_
  refine z_iload_n dP_empty_9 rfl ?_
  refine z_put (C := RP) (T := TP) (N := 4) (ref := "ToneMixer$Plane") (ty := .int) 1 tyP dP_empty_10 rfl rfl (by decide) (fun w h => bwT (hbP w h)) (bwT b_29) rfl tyP_ok nmP rfl (by decide +kernel) (fun _ => ⟨rfl, rfl⟩) (Nat.le_of_ble_eq_true rfl) ?_
  try simp only [List.set_cons_succ, List.set_cons_zero]
  refine z_aload_n dP_empty_13 rfl ?_
  refine z_iload_n dP_empty_14 rfl ?_
  refine z_put (C := RP) (T := TP) (N := 4) (ref := "ToneMixer$Plane") (ty := .int) 2 tyP dP_empty_15 rfl rfl (by decide) (fun w h => bwT (hbP w h)) (bwT b_31) rfl tyP_ok nmP rfl (by decide +kernel) (fun _ => ⟨rfl, rfl⟩) (Nat.le_of_ble_eq_true rfl) ?_
  try simp only [List.set_cons_succ, List.set_cons_zero]
  exact z_return dP_empty_18 hret ⟨Nat.le_of_eq hC, Nat.le_of_eq hS⟩ rfl ⟨rfl, rfl⟩
set_option maxRecDepth 100000 in
set_option maxHeartbeats 4000000 in
theorem c_becomeLike (l : Launch) (D : va_G) (ca : Nat → ClassId) (ad : Nat → Nat) (f g : Nat → Int32) (w h : Int32) (f2 g2 : Nat → Int32) (w2 h2 : Int32) : zMet l yP_becomeLike wP_becomeLike (rmk 1 0 0) zE0 (gG D ca ad) (pw6 ca f g f2 g2 w h w2 h2) [.ref 0, .ref 3] (fun r aw => r = none ∧ aw = pw6 ca (va_cpy f2 f 0 0 1024) g f2 g2 w2 h2 w2 h2) := by
  refine zMet.of (cc := cP_becomeLike) (maxL := 2) (ret := none) (lv := [some (.ref 0), some (.ref 3)]) (by decide) rfl (Nat.le_of_ble_eq_true rfl) rfl (fun M hl0 hR hC hS hE hret => ?_)
  refine z_aload_n dP_becomeLike_0 rfl ?_
  refine z_get (C := RP) (T := TP) (N := 4) (ref := "ToneMixer$Plane") 0 dP_becomeLike_1 rfl rfl rfl (by decide) (fun w h => bwT (hbP w h)) (bwT b_27) rfl ?_
  refine z_iconst (v := 0) dP_becomeLike_4 (by decide) ?_
  refine z_aload_n dP_becomeLike_5 rfl ?_
  refine z_get (C := RP) (T := TP) (N := 4) (ref := "ToneMixer$Plane") 0 dP_becomeLike_6 rfl rfl rfl (by decide) (fun w h => bwT (hbP w h)) (bwT b_27) rfl ?_
  refine z_iconst (v := 0) dP_becomeLike_9 (by decide) ?_
  refine z_aload_n dP_becomeLike_10 rfl ?_
  refine z_get (C := RP) (T := TP) (N := 4) (ref := "ToneMixer$Plane") 0 dP_becomeLike_11 rfl rfl rfl (by decide) (fun w h => bwT (hbP w h)) (bwT b_27) rfl ?_
  refine z_alen (t0 := 0) (v := 1024) dP_becomeLike_14 rfl rfl rfl ?_
  refine z_copyi (s9 := 0) (d9 := 0) (k9 := 1024) dP_becomeLike_15 (bwT b_307) (bwT b_309) (bwT b_308) (bwT b_11) rfl rfl (t0 := 0) rfl rfl rfl rfl (by decide) (by decide) (by decide) (by decide) (zmR hR ⟨Nat.le_of_ble_eq_true rfl, Nat.le_of_ble_eq_true rfl⟩) ?_
  try simp only [List.set_cons_succ, List.set_cons_zero]
  refine z_aload_n dP_becomeLike_18 rfl ?_
  refine z_aload_n dP_becomeLike_19 rfl ?_
  refine z_get (C := RP) (T := TP) (N := 4) (ref := "ToneMixer$Plane") 1 dP_becomeLike_20 rfl rfl rfl (by decide) (fun w h => bwT (hbP w h)) (bwT b_29) rfl ?_
  refine z_put (C := RP) (T := TP) (N := 4) (ref := "ToneMixer$Plane") (ty := .int) 1 tyP dP_becomeLike_23 rfl rfl (by decide) (fun w h => bwT (hbP w h)) (bwT b_29) rfl tyP_ok nmP rfl (by decide +kernel) (fun _ => ⟨rfl, rfl⟩) (Nat.le_of_ble_eq_true rfl) ?_
  try simp only [List.set_cons_succ, List.set_cons_zero]
  refine z_aload_n dP_becomeLike_26 rfl ?_
  refine z_aload_n dP_becomeLike_27 rfl ?_
  refine z_get (C := RP) (T := TP) (N := 4) (ref := "ToneMixer$Plane") 2 dP_becomeLike_28 rfl rfl rfl (by decide) (fun w h => bwT (hbP w h)) (bwT b_31) rfl ?_
  refine z_put (C := RP) (T := TP) (N := 4) (ref := "ToneMixer$Plane") (ty := .int) 2 tyP dP_becomeLike_31 rfl rfl (by decide) (fun w h => bwT (hbP w h)) (bwT b_31) rfl tyP_ok nmP rfl (by decide +kernel) (fun _ => ⟨rfl, rfl⟩) (Nat.le_of_ble_eq_true rfl) ?_
  try simp only [List.set_cons_succ, List.set_cons_zero]
  exact z_return dP_becomeLike_34 hret ⟨Nat.le_of_eq hC, Nat.le_of_eq hS⟩ rfl ⟨rfl, rfl⟩
set_option maxRecDepth 100000 in
set_option maxHeartbeats 4000000 in
theorem c_becomeLike_self (l : Launch) (D : va_G) (ca : Nat → ClassId) (ad : Nat → Nat) (f g : Nat → Int32) (w h : Int32)  : zMet l yP_becomeLike wP_becomeLike (rmk 1 0 0) zE0 (gG D ca ad) (pw3 ca f g w h) [.ref 0, .ref 0] (fun r aw => r = none ∧ aw = pw3 ca (va_cpy f f 0 0 1024) g w h) := by
  refine zMet.of (cc := cP_becomeLike) (maxL := 2) (ret := none) (lv := [some (.ref 0), some (.ref 0)]) (by decide) rfl (Nat.le_of_ble_eq_true rfl) rfl (fun M hl0 hR hC hS hE hret => ?_)
  refine z_aload_n dP_becomeLike_0 rfl ?_
  refine z_get (C := RP) (T := TP) (N := 4) (ref := "ToneMixer$Plane") 0 dP_becomeLike_1 rfl rfl rfl (by decide) (fun w h => bwT (hbP w h)) (bwT b_27) rfl ?_
  refine z_iconst (v := 0) dP_becomeLike_4 (by decide) ?_
  refine z_aload_n dP_becomeLike_5 rfl ?_
  refine z_get (C := RP) (T := TP) (N := 4) (ref := "ToneMixer$Plane") 0 dP_becomeLike_6 rfl rfl rfl (by decide) (fun w h => bwT (hbP w h)) (bwT b_27) rfl ?_
  refine z_iconst (v := 0) dP_becomeLike_9 (by decide) ?_
  refine z_aload_n dP_becomeLike_10 rfl ?_
  refine z_get (C := RP) (T := TP) (N := 4) (ref := "ToneMixer$Plane") 0 dP_becomeLike_11 rfl rfl rfl (by decide) (fun w h => bwT (hbP w h)) (bwT b_27) rfl ?_
  refine z_alen (t0 := 0) (v := 1024) dP_becomeLike_14 rfl rfl rfl ?_
  refine z_copyi (s9 := 0) (d9 := 0) (k9 := 1024) dP_becomeLike_15 (bwT b_307) (bwT b_309) (bwT b_308) (bwT b_11) rfl rfl (t0 := 0) rfl rfl rfl rfl (by decide) (by decide) (by decide) (by decide) (zmR hR ⟨Nat.le_of_ble_eq_true rfl, Nat.le_of_ble_eq_true rfl⟩) ?_
  try simp only [List.set_cons_succ, List.set_cons_zero]
  refine z_aload_n dP_becomeLike_18 rfl ?_
  refine z_aload_n dP_becomeLike_19 rfl ?_
  refine z_get (C := RP) (T := TP) (N := 4) (ref := "ToneMixer$Plane") 1 dP_becomeLike_20 rfl rfl rfl (by decide) (fun w h => bwT (hbP w h)) (bwT b_29) rfl ?_
  refine z_put (C := RP) (T := TP) (N := 4) (ref := "ToneMixer$Plane") (ty := .int) 1 tyP dP_becomeLike_23 rfl rfl (by decide) (fun w h => bwT (hbP w h)) (bwT b_29) rfl tyP_ok nmP rfl (by decide +kernel) (fun _ => ⟨rfl, rfl⟩) (Nat.le_of_ble_eq_true rfl) ?_
  try simp only [List.set_cons_succ, List.set_cons_zero]
  refine z_aload_n dP_becomeLike_26 rfl ?_
  refine z_aload_n dP_becomeLike_27 rfl ?_
  refine z_get (C := RP) (T := TP) (N := 4) (ref := "ToneMixer$Plane") 2 dP_becomeLike_28 rfl rfl rfl (by decide) (fun w h => bwT (hbP w h)) (bwT b_31) rfl ?_
  refine z_put (C := RP) (T := TP) (N := 4) (ref := "ToneMixer$Plane") (ty := .int) 2 tyP dP_becomeLike_31 rfl rfl (by decide) (fun w h => bwT (hbP w h)) (bwT b_31) rfl tyP_ok nmP rfl (by decide +kernel) (fun _ => ⟨rfl, rfl⟩) (Nat.le_of_ble_eq_true rfl) ?_
  try simp only [List.set_cons_succ, List.set_cons_zero]
  exact z_return dP_becomeLike_34 hret ⟨Nat.le_of_eq hC, Nat.le_of_eq hS⟩ rfl ⟨rfl, rfl⟩
