/-! the law from its entry -/
def lix : Nat → Nat := fun j => if j = 14 then 19 else if 15 ≤ j ∧ j ≤ 19 then j - 1 else j
theorem lix_inj {i j : Nat} (h : lix i = lix j) (hi : i < 20) (hj : j < 20) : i = j := by
  unfold lix at h
  split at h <;> (try split at h) <;> (try split at h) <;> (try split at h) <;> omega
theorem zIn_r {ix : Nat → Nat} {aw aw' : List va_E} (n : Nat) (hn : aw'.length = n) (h : (List.range n).map (fun j => aw[ix j]?) = aw'.map (fun e => some (zc ix e))) (hi : ∀ i j, i < n → j < n → ix i = ix j → i = j) : zIn ix aw aw' := by
  refine ⟨fun j e he => ?_, fun i j h1 h2 h3 => hi i j (by omega) (by omega) h3⟩
  have hj : j < aw'.length := (List.getElem?_eq_some_iff.mp he).1
  have h2 := congrArg (fun l : List (Option va_E) => l[j]?) h
  simp only [List.getElem?_map, he, Option.map_some, List.getElem?_range (show j < n by omega)] at h2
  exact Option.some.inj h2
theorem lix_lv (i : Nat) (v : Value) (h : (lwL 0 none none none)[i]? = some (some v)) : ([some (.ref 1000), some (.ref 0), some (.ref 14), some (.ref 19), some (.int 0), none, none, none] : List (Option Value))[i]? = some (some (zv lix v)) := by
  match i, h with
  | 0, h => cases h; rfl
  | 1, h => cases h; rfl
  | 2, h => cases h; rfl
  | 3, h => cases h; rfl
  | 4, h => cases h; rfl
  | 5, h => cases h
  | 6, h => cases h
  | 7, h => cases h
  | n + 8, h => cases h
theorem rel0 : Rel (fun _ _ => 0) (fun _ => 1) (fun _ => 1) (fun _ => 0) := by
  refine ⟨fun k hk => ?_, fun k hk => ?_⟩
  · exact ⟨Nat.le_refl 1, Nat.le_of_ble_eq_true rfl, Nat.le_refl 1, Nat.le_of_ble_eq_true rfl⟩
  · intro y hy x hx
    exact ⟨rfl, sm_0⟩
abbrev tw0 (ca : Nat → ClassId) : List va_E := twn ca (fun _ _ => 0) (fun _ _ => 0) (fun _ => 1) (fun _ => 1)
abbrev mw0 (ca : Nat → ClassId) : List va_E := mwn ca 0 (fun _ => 1) (fun _ => 1) (fun _ => 0) (fun _ => 0) 0 0
theorem ok_T (ca : Nat → ClassId) : (tw0 ca).all (zokb 14) = true := rfl
theorem ok_M (ca : Nat → ClassId) : (mw0 ca).all (zokb 5) = true := rfl
theorem ok_T14 (ca : Nat → ClassId) : (tw0 ca).all (zokb (tw0 ca).length) = true := ok_T ca
theorem zokb_up {n m : Nat} (h : n ≤ m) {e : va_E} (he : zokb n e = true) : zokb m e = true := by
  match e, he with
  | .inl (_, k, .inr (.inr (.inr (.inr f)))), he =>
    simp only [zokb, List.all_eq_true] at he ⊢
    intro j hj
    have h1 := he j hj
    cases hf : f j with
    | none => rfl
    | some i => rw [hf] at h1; simp only [decide_eq_true_eq] at h1 ⊢; omega
  | .inl (_, _, .inl _), _ => rfl
  | .inl (_, _, .inr (.inl _)), _ => rfl
  | .inl (_, _, .inr (.inr (.inl _))), _ => rfl
  | .inl (_, _, .inr (.inr (.inr (.inl _)))), _ => rfl
  | .inr (_, fs), he =>
    simp only [zokb, List.all_eq_true] at he ⊢
    intro v hv
    have h1 := he v hv
    cases v with
    | ref i => simp only [zvb, Bool.or_eq_true, decide_eq_true_eq] at h1 ⊢; exact h1.imp (fun q => Nat.lt_of_lt_of_le q h) id
    | _ => rfl
theorem ok_up {n m : Nat} (h : n ≤ m) {aw : List va_E} (he : aw.all (zokb n) = true) : aw.all (zokb m) = true := by
  rw [List.all_eq_true] at he ⊢
  exact fun e h9 => zokb_up h (he e h9)
theorem ok_M14 (ca : Nat → ClassId) : ((mw0 ca).map (zc (fun j => 14 + j))).all (zokb 19) = true := rfl
abbrev wTM (ca : Nat → ClassId) : List va_E := tw0 ca ++ (mw0 ca).map (zc (fun j => 14 + j))
theorem ok_TM (ca : Nat → ClassId) : (wTM ca).all (zokb 19) = true := by
  rw [List.all_append, ok_up (by omega) (ok_T ca), ok_M14]
  rfl
set_option maxRecDepth 100000 in
set_option maxHeartbeats 800000 in
theorem lw_go1 {l : Launch} {sa : Nat → Nat} {b L : Nat} {xs : Nat → Int32} {D : va_G} {ca : Nat → ClassId} (M : zM) (hW : zLw M l sa b L xs) (hC : zcells M = 0) (hS : zslots M = 0) (ad0 : Nat → Nat) (had : ad0 1000 = b) (kk : ∀ (N : zM) (ad : Nat → Nat), zLw N l sa b L xs → zcells N = 14 → zslots N = 4245 → ad 1000 = b → Zj N (gG D ca ad) cL_law 8 RL (kT_init :: bw) ret (tw0 ca) [some (.ref 1000), some (.ref 0), none, none, none, none, none, none] [] 8) : Zj M (gG D ca ad0) cL_law 8 RL (kT_init :: bw) ret [] [some (.ref 1000), none, none, none, none, none, none, none] [] 0 := by
  obtain ⟨hRo, hl0, hX, hE, hEnd⟩ := id hW
  refine z_new (C := RT) (T := TT) (N := 1) (ci := 0) (fs := [.null]) tyT tyT_ok dL_law_0 rfl (fun w h => bwT (hbT w h)) (bwT b_12) (bwT b_13) (bwT b_1) (fun j hj => by obtain rfl : j = 0 := (by omega); rfl) rfl (by simp only [zup_room, zup_cells, zup_slots, hRo, hC, hS]; decide) rfl (fun ad1 ha1 => ?_)
  refine z_dup dL_law_3 rfl ?_
  refine z_I (awp := []) (e0 := t0x) (E := zEi sa) (E' := zEi sa) (by (repeat refine zup_En ?_); exact hE) (zEok_ii sa) (fun a0 => i_T _ D ca a0 sa) dL_law_4 (gd_0 b_16) rfl (Or.inl (bwT b_14)) (bwT b_1) (bwT b_15) rfl qT_init.2 ⟨rfl, rfl⟩ (by simp only [zup_room, hRo]; decide) (by simp only [zup_room, zup_cells, zup_slots, hRo, hC, hS]; decide) (Nat.le_of_ble_eq_true rfl) (fun a => rfl) rfl (fun aw1 h9 => by subst h9; show ((tw0 ca).all (zokb 14) && true && true) = true; rw [ok_T]; rfl) (fun ad2 aw1 ha2 he => ?_)
  subst he
  refine z_qext (cA := ca 2) (n := 4) (a := 1) (fun j => some (2 + 3 * j)) rfl (fun j hj => by rcases k4 hj with rfl | rfl | rfl | rfl <;> rfl) ?_
  show Zj _ (gG D ca ad2) cL_law 8 RL (kT_init :: bw) ret (tw0 ca) _ [.ref 0] _
  refine z_astore_n (x := 0) dL_law_7 (by decide) rfl ?_
  exact kk _ ad2 (zLw.up (zLw.up hW)) (by simp only [zup_cells, hC]) (by simp only [zup_slots, hS]) (by rw [ha2 1000 (Or.inr (by omega)), ha1 1000 (Or.inr (by omega))]; exact had)
set_option maxRecDepth 100000 in
set_option maxHeartbeats 800000 in
theorem lw_go2 {l : Launch} {sa : Nat → Nat} {b L : Nat} {xs : Nat → Int32} {D : va_G} {ca : Nat → ClassId} (M : zM) (hW : zLw M l sa b L xs) (hC : zcells M = 14) (hS : zslots M = 4245) (ad0 : Nat → Nat) (had : ad0 1000 = b) (kk : ∀ (N : zM) (ad : Nat → Nat), zLw N l sa b L xs → zcells N = 19 → zslots N = 9380 → ad 1000 = b → Zj N (gG D ca ad) cL_law 8 RL (kT_init :: bw) ret (wTM ca) [some (.ref 1000), some (.ref 0), some (.ref 14), none, none, none, none, none] [] 16) : Zj M (gG D ca ad0) cL_law 8 RL (kT_init :: bw) ret (tw0 ca) [some (.ref 1000), some (.ref 0), none, none, none, none, none, none] [] 8 := by
  obtain ⟨hRo, hl0, hX, hE, hEnd⟩ := id hW
  refine z_new (C := RM) (T := TM) (N := 7) (ci := 2) (fs := [.int 0, .null, .null, .null, .null, .int 0, .int 0]) tyM tyM_ok dL_law_8 rfl (fun w h => bwT (hbM w h)) (bwT b_380) (bwT b_381) (bwT b_3) (fun j hj => by rcases (show j = 0 ∨ j = 1 ∨ j = 2 ∨ j = 3 ∨ j = 4 ∨ j = 5 ∨ j = 6 by omega) with rfl | rfl | rfl | rfl | rfl | rfl | rfl <;> rfl) rfl (by simp only [zup_room, zup_cells, zup_slots, hRo, hC, hS]; decide) (by rw [ok_T14]; rfl) (fun ad3 ha3 => ?_)
  refine z_dup dL_law_11 rfl ?_
  refine z_I (awp := tw0 ca) (e0 := m0x) (E := zEi sa) (E' := zE0) (by (repeat refine zup_En ?_); exact hE) zEok_0 (fun a0 => i_M _ D ca a0) dL_law_12 (gd_0 b_384) rfl (Or.inl (bwT b_382)) (bwT b_3) (bwT b_383) rfl qM_init.2 ⟨rfl, rfl⟩ (by simp only [zup_room, hRo]; decide) (by simp only [zup_room, zup_cells, zup_slots, hRo, hC, hS]; decide) (Nat.le_of_ble_eq_true rfl) (fun a => rfl) (by rw [ok_T14]; rfl) (fun aw1 h9 => by subst h9; show ((mw0 ca).all (zokb 5) && true && true) = true; rw [ok_M]; rfl) (fun ad4 aw1 ha4 he => ?_)
  subst he
  show Zj _ (gG D ca ad4) cL_law 8 RL (kT_init :: bw) ret (wTM ca) _ [.ref 14] _
  refine z_astore_n (x := 14) dL_law_15 (by decide) rfl ?_
  exact kk _ ad4 (zLw.up (zLw.up hW)) (by simp only [zup_cells, hC]) (by simp only [zup_slots, hS]) (by rw [ha4 1000 (Or.inr (by omega)), ha3 1000 (Or.inr (by omega))]; exact had)
abbrev wTMO (ca : Nat → ClassId) : List va_E := [.inr (0, [.ref 1]), .inl (ca 2, 4, .inr (.inr (.inr (.inr (fun j => some (lix (2 + 3 * j))))))),
  .inr (1, [.ref 3, .int (nI 1), .int (nI 1), .ref 4]), .inl (ca 0, 1024, .inl (fun _ => 0)), .inl (ca 0, 32, .inl (fun _ => 0)),
  .inr (1, [.ref 6, .int (nI 1), .int (nI 1), .ref 7]), .inl (ca 0, 1024, .inl (fun _ => 0)), .inl (ca 0, 32, .inl (fun _ => 0)),
  .inr (1, [.ref 9, .int (nI 1), .int (nI 1), .ref 10]), .inl (ca 0, 1024, .inl (fun _ => 0)), .inl (ca 0, 32, .inl (fun _ => 0)),
  .inr (1, [.ref 12, .int (nI 1), .int (nI 1), .ref 13]), .inl (ca 0, 1024, .inl (fun _ => 0)), .inl (ca 0, 32, .inl (fun _ => 0)),
  .inr (2, [.int 0, .ref 15, .ref 16, .ref 17, .ref 18, .int 0, .int 0]), .inl (ca 0, 4, .inl (fun _ => nI 1)), .inl (ca 0, 4, .inl (fun _ => nI 1)), .inl (ca 0, 4096, .inl (fun _ => 0)), .inl (ca 0, 1024, .inl (fun _ => 0)), .inl (ca 1, 1, .inr (.inl (fun _ => 0)))]
abbrev lw0 (ca : Nat → ClassId) : List va_E := lwW ca (fun _ _ => 0) (fun _ _ => 0) (fun _ => 1) (fun _ => 1) (fun _ => 0) 0 (fun _ => 0) (fun _ => 0) 0 0
set_option maxHeartbeats 800000 in
theorem wTMO_in (ca : Nat → ClassId) : zIn lix (wTMO ca) (lw0 ca) := by
  refine ⟨fun j e he => ?_, fun i j h1 h2 h3 => lix_inj h3 h1 h2⟩
  match j, he with
  | 0, he => cases he; rfl
  | 1, he => cases he; rfl
  | 2, he => cases he; rfl
  | 3, he => cases he; rfl
  | 4, he => cases he; rfl
  | 5, he => cases he; rfl
  | 6, he => cases he; rfl
  | 7, he => cases he; rfl
  | 8, he => cases he; rfl
  | 9, he => cases he; rfl
  | 10, he => cases he; rfl
  | 11, he => cases he; rfl
  | 12, he => cases he; rfl
  | 13, he => cases he; rfl
  | 14, he => cases he; rfl
  | 15, he => cases he; rfl
  | 16, he => cases he; rfl
  | 17, he => cases he; rfl
  | 18, he => cases he; rfl
  | 19, he => cases he; rfl
  | n + 20, he => cases he
set_option maxRecDepth 100000 in
set_option maxHeartbeats 800000 in
theorem lw_go3 {l : Launch} {sa : Nat → Nat} {b L : Nat} {xs : Nat → Int32} {D : va_G} {ca : Nat → ClassId} (M : zM) (hW : zLw M l sa b L xs) (hC : zcells M = 19) (hS : zslots M = 9380) (ad0 : Nat → Nat) (had : ad0 1000 = b) (kk : ∀ (N : zM) (ad : Nat → Nat), zLw N l sa b L xs → zcells N = 20 → zslots N = 9381 → ad 1000 = b → Zj N (gG D ca ad) cL_law 8 RL (kT_init :: bw) ret (wTM ca ++ [.inl (ca 1, 1, .inr (.inl (fun _ => 0)))]) [some (.ref 1000), some (.ref 0), some (.ref 14), some (.ref 19), some (.int 0), none, none, none] [] 23) : Zj M (gG D ca ad0) cL_law 8 RL (kT_init :: bw) ret (wTM ca) [some (.ref 1000), some (.ref 0), some (.ref 14), none, none, none, none, none] [] 16 := by
  obtain ⟨hRo, hl0, hX, hE, hEnd⟩ := id hW
  refine z_iconst (v := 1) dL_law_16 (by decide) ?_
  refine z_newa (ty := .long) (N' := 1) (f := .inr (fun _ => 0)) 1 dL_law_17 (bwT b_522) rfl rfl (Or.inr ⟨rfl, rfl⟩) (by decide) (by decide) (by decide) (by simp only [zup_room, zup_cells, zup_slots, hRo, hC, hS]; decide) (by show ((wTM ca).all (zokb 19) && zlb 19 _ && true && true) = true; rw [ok_TM]; rfl) (fun ad5 ha5 => ?_)
  refine z_astore_n (x := 19) dL_law_19 (by decide) rfl ?_
  refine z_iconst (v := 0) dL_law_20 (by decide) ?_
  refine z_istore dL_law_21 (by decide) rfl ?_
  exact kk _ ad5 (zLw.up hW) (by simp only [zup_cells, hC]) (by simp only [zup_slots, hS]) (by rw [ha5 1000 (Or.inr (by omega))]; exact had)
set_option maxRecDepth 100000 in
set_option maxHeartbeats 800000 in
theorem lw_go4 {l : Launch} {sa : Nat → Nat} {b L : Nat} {xs : Nat → Int32} {D : va_G} {ca : Nat → ClassId} (hl9 : l.stackTraces = false) (hL : L ≤ 3072) (M : zM) (hW : zLw M l sa b L xs) (hC : zcells M = 20) (hS : zslots M = 9381) (ad0 : Nat → Nat) (had : ad0 1000 = b) : Zj M (gG D ca ad0) cL_law 8 RL (kT_init :: bw) ret (wTM ca ++ [.inl (ca 1, 1, .inr (.inl (fun _ => 0)))]) [some (.ref 1000), some (.ref 0), some (.ref 14), some (.ref 19), some (.int 0), none, none, none] [] 23 := by
  refine z_qext (cA := ca 2) (n := 4) (a := 1) (fun j => some (lix (2 + 3 * j))) rfl (fun j hj => by rcases k4 hj with rfl | rfl | rfl | rfl <;> rfl) ?_
  show Zj _ _ _ _ _ _ _ (wTMO ca) _ _ _
  refine z_view lix (aw' := lw0 ca) (lv' := lwL 0 none none none) (st' := []) (wTMO_in ca) lix_lv rfl ?_
  have h1000 : (fun j => ad0 (lix j)) 1000 = b := had
  have h9 := lw_loop (sa := sa) (xs := xs) (D := D) (ca := ca) (ad := fun j => ad0 (lix j)) (a := kT_init) hl9 h1000 hL L 0 M (fun _ _ => 0) (fun _ _ => 0) (fun _ => 1) (fun _ => 1) (fun _ => 0) 0 (fun _ => 0) (fun _ => 0) 0 0 none none none (by omega) (by omega) hW (by omega) (by omega) rel0
  exact h9
set_option maxRecDepth 100000 in
set_option maxHeartbeats 800000 in
theorem lw_go {l : Launch} {sa : Nat → Nat} {b L : Nat} {xs : Nat → Int32} {D : va_G} {ca : Nat → ClassId} (hl9 : l.stackTraces = false) (hL : L ≤ 3072) (M : zM) (hW : zLw M l sa b L xs) (hC : zcells M = 0) (hS : zslots M = 0) (ad0 : Nat → Nat) (had : ad0 1000 = b) : Zj M (gG D ca ad0) cL_law 8 RL (kT_init :: bw) ret [] [some (.ref 1000), none, none, none, none, none, none, none] [] 0 :=
  lw_go1 M hW hC hS ad0 had (fun N1 ad1 w1 c1 s1 a1 => lw_go2 N1 w1 c1 s1 ad1 a1 (fun N2 ad2 w2 c2 s2 a2 => lw_go3 N2 w2 c2 s2 ad2 a2 (fun N3 ad3 w3 c3 s3 a3 => lw_go4 hl9 hL N3 w3 c3 s3 ad3 a3)))
set_option maxRecDepth 100000 in
set_option maxHeartbeats 4000000 in
theorem whole_start {p : Program} {e : Env} {s : State} {m : MethodId} {below : List Frame} {meth : Method} {c : Code} (l : Launch) (hl9 : l.stackTraces = false) {b L : Nat} {xs : Nat → Int32} (hL : L ≤ 3072) (C0 : lw_At p s m meth c b L xs) : W p l e room_1 s m #[Value.ref b] below meth c s.heap [] 0 0 (lw_Z below #[Value.ref b] s) (entryFrame m ([Value.ref b] : List Value).toArray 8) := by
  obtain ⟨hx, hb, hr, hml, hown, hts, hX, hbl, hlocks, hgv⟩ := id C0
  have hgf := flat_of_before _ hgv
  obtain ⟨c0, iS0, hKn0⟩ := u_known (C := RT) (T := TT) (N := 1) (n := 1) hts (fun w h => bw_in (hbT w h)) (hts (.instantiable RT 1) (bw_in b_13))
  obtain ⟨c1, iS1, hKn1⟩ := u_known (C := RP) (T := TP) (N := 4) (n := 4) hts (fun w h => bw_in (hbP w h)) (hts (.instantiable RP 4) (bw_in b_22))
  obtain ⟨c2, iS2, hKn2⟩ := u_known (C := RM) (T := TM) (N := 7) (n := 7) hts (fun w h => bw_in (hbM w h)) (hts (.instantiable RM 7) (bw_in b_381))
  obtain ⟨D, hKc⟩ : ∃ D : va_G, ∀ (k : Nat) (q : vw_C), vwCl[k]? = some q → u_Kn s q.1 q.2.1 q.2.2 (D.1 k) (D.2 k) := by
    refine ⟨(fun k => if k = 0 then c0 else if k = 1 then c1 else c2, fun k => if k = 0 then iS0 else if k = 1 then iS1 else iS2), ?_⟩
    intro k q hq
    match k, hq with
    | 0, hq => cases hq; exact hKn0
    | 1, hq => cases hq; exact hKn1
    | 2, hq => cases hq; exact hKn2
    | k + 3, hq => cases hq
  obtain ⟨cI, kI, compI, hI1, hI2, hI3⟩ := Cond.arrayClass_spec (hts (.arrayClass .int) (bw_in b_43))
  obtain ⟨cJ, kJ, compJ, hJ1, hJ2, hJ3⟩ := Cond.arrayClass_spec (hts (.arrayClass .long) (bw_in b_522))
  have hAO := hts (.arrayOver (.object RP)) (by decide +kernel)
  obtain ⟨compP, cP, kP, hP1, hP2, hP3, hP4, hP5⟩ := Cond.arrayOver_spec hAO
  obtain ⟨ca, hca0, hca1, hca2⟩ : ∃ ca : Nat → ClassId, ca 0 = cI ∧ ca 1 = cJ ∧ ca 2 = cP := ⟨fun k => if k = 0 then cI else if k = 1 then cJ else cP, rfl, rfl, rfl⟩
  have hK : va_K D vwCl (tyl ca) s := by
    refine ⟨hKc, ?_⟩
    intro k q hq
    match k, hq with
    | 0, hq => cases hq; rw [hca0]; exact ⟨fun n z => ⟨fun k h => (by cases h), kI, hI2, compI, hI3⟩, hI1⟩
    | 1, hq => cases hq; rw [hca1]; exact ⟨fun n z => ⟨fun k h => (by cases h), kJ, hJ2, compJ, hJ3⟩, hJ1⟩
    | 2, hq => cases hq; rw [hca2]; exact ⟨fun n z => ⟨fun k h => (by cases h), kP, hP3, compP, hP4⟩, kP, compP, hP3, hP4, hP1, hP5⟩
    | k + 3, hq => cases hq
  obtain ⟨cur, hcur⟩ : ∃ cur, s.vm.findClass RT = some cur := ⟨_, hKn0.2.1⟩
  obtain ⟨-, -, -, a0, -, -, -, -, -, e0⟩ := Cond.stringRef_spec hcur (hts (.stringRef RT 22 "a side is not 1 .. 32") (by decide +kernel))
  obtain ⟨-, -, -, a1, -, -, -, -, -, e1⟩ := Cond.stringRef_spec hcur (hts (.stringRef RT 35 "a sample is not 0 .. 255") (by decide +kernel))
  obtain ⟨-, -, -, a2, -, -, -, -, -, e2⟩ := Cond.stringRef_spec hcur (hts (.stringRef RT 114 "no such plane") (by decide +kernel))
  obtain ⟨-, -, -, a3, -, -, -, -, -, e3⟩ := Cond.stringRef_spec hcur (hts (.stringRef RT 117 "no such sample") (by decide +kernel))
  obtain ⟨sa, hs0, hs1, hs2, hs3⟩ : ∃ sa : Nat → Nat, sa 0 = a0 ∧ sa 1 = a1 ∧ sa 2 = a2 ∧ sa 3 = a3 := ⟨fun k => if k = 0 then a0 else if k = 1 then a1 else if k = 2 then a2 else a3, rfl, rfl, rfl, rfl⟩
  have hss : ∀ q ∈ ssX sa, vk_R q.1 q.2.1 q.2.2.1 q.2.2.2 s := by
    refine List.forall_mem_cons.mpr ⟨?_, List.forall_mem_cons.mpr ⟨?_, List.forall_mem_cons.mpr ⟨?_, List.forall_mem_cons.mpr ⟨?_, fun _ h => absurd h List.not_mem_nil⟩⟩⟩⟩
    · exact vk_R.of (hts (.stringRef RT 22 "a side is not 1 .. 32") (by decide +kernel)) (by rw [hs0]; exact e0)
    · exact vk_R.of (hts (.stringRef RT 35 "a sample is not 0 .. 255") (by decide +kernel)) (by rw [hs1]; exact e1)
    · exact vk_R.of (hts (.stringRef RT 114 "no such plane") (by decide +kernel)) (by rw [hs2]; exact e2)
    · exact vk_R.of (hts (.stringRef RT 117 "no such sample") (by decide +kernel)) (by rw [hs3]; exact e3)
  have hnn : ∀ q ∈ nnX, va_Nw (.methodLinkNest q.1 q.2.1 q.2.2.1 q.2.2.2) s := by
    refine List.forall_mem_cons.mpr ⟨?_, List.forall_mem_cons.mpr ⟨?_, fun _ h => absurd h List.not_mem_nil⟩⟩
    · exact va_Nw.of rfl (hts (.methodLinkNest RP 37 yT_placeOf "ToneMixer") (by decide +kernel))
    · exact va_Nw.of rfl (hts (.methodLinkNest RT 15 yP_init "ToneMixer") (by decide +kernel))
  have hdd0 : ∀ x ∈ ddX, Cond.declares x ∈ lw_tbl := by decide +kernel
  have hcs0 : ∀ q ∈ csX, Cond.castable q.1 q.2 ∈ lw_tbl := by decide +kernel
  have hnA : ∀ a : Nat, a < s.heap.size → ¬ (fun q : Nat => s.heap.size ≤ q) a := fun a h => Nat.not_le.mpr h
  have hE : zEi sa (fun q : Nat => s.heap.size ≤ q) s := ⟨⟨⟨⟨vx_Zqof (hts (.laysStatic Bundle.tN "UNASSIGNED_STACK" Bundle.steD) (by decide +kernel)) (hts (.initialized Bundle.tN) (by decide +kernel)) (hgf (.isRef (.static Bundle.tN "UNASSIGNED_STACK" Bundle.steD)) (by decide +kernel)) hnA, vx_Zqof (hts (.laysStatic Bundle.tN "SUPPRESSED_SENTINEL" Bundle.listD) (by decide +kernel)) (hts (.initialized Bundle.tN) (by decide +kernel)) (hgf (.isRef (.static Bundle.tN "SUPPRESSED_SENTINEL" Bundle.listD)) (by decide +kernel)) hnA⟩, hss, hnn, fun x hx => va_Nw.of rfl (hts _ (hdd0 x hx)), fun q hq => va_Nw.of rfl (hts _ (hcs0 q hq))⟩, va_Nc.of (hgf (.not (.castable IAE IOB)) (by decide +kernel))⟩, va_AO.of hAO⟩
  have hTs : ∀ w ∈ kT_init :: bw, w.before #[Value.ref b] s = true := List.forall_mem_cons.mpr ⟨hts _ (bw_in b_16), fun w hw => hts _ (bw_in hw)⟩
  have hW : zLw (p, l, e, room_1, s, m, #[Value.ref b], below, meth, c, lw_Z below #[Value.ref b] s, fun q : Nat => s.heap.size ≤ q, 0, 0) l sa b L xs := ⟨rfl, rfl, ⟨hX, hbl, Nat.not_le.mpr hbl⟩, hE, ⟨rfl, rfl, rfl, rfl⟩⟩
  rw [lg_entry_eq]
  exact lw_go (D := D) (ca := ca) hl9 hL _ hW rfl rfl (fun _ => b) rfl ⟨⟨hx, hb, hml, hown, hTs⟩, hr, hlocks, hK, fun _ h => h⟩ s.heap [] _ (fun k q h => by simp [zw] at h) ⟨fun i j p q h => by simp [zw] at h, fun k q h => by simp [zw] at h⟩ va_S.rf (zh_entry (As := [.ref 1000]) rfl (Nat.le_of_ble_eq_true rfl))
