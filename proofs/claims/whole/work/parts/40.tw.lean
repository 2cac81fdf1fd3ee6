/-! the whole mixer's world: the object, its row of planes, four planes of three cells -/
def tw (ca : Nat → ClassId) (f g : Nat → Nat → Int32) (w h : Nat → Int32) : List va_E := [.inr (0, [.ref 1]), .inl (ca 2, 4, .inr (.inr (.inr (.inr (fun j => some (2 + 3 * j)))))),
  .inr (1, [.ref 3, .int (w 0), .int (h 0), .ref 4]), .inl (ca 0, 1024, .inl (f 0)), .inl (ca 0, 32, .inl (g 0)),
  .inr (1, [.ref 6, .int (w 1), .int (h 1), .ref 7]), .inl (ca 0, 1024, .inl (f 1)), .inl (ca 0, 32, .inl (g 1)),
  .inr (1, [.ref 9, .int (w 2), .int (h 2), .ref 10]), .inl (ca 0, 1024, .inl (f 2)), .inl (ca 0, 32, .inl (g 2)),
  .inr (1, [.ref 12, .int (w 3), .int (h 3), .ref 13]), .inl (ca 0, 1024, .inl (f 3)), .inl (ca 0, 32, .inl (g 3))]
def plx (k : Nat) : List Nat := [2 + 3 * k, 3 + 3 * k, 4 + 3 * k]
section
variable {ca : Nat → ClassId} {f g : Nat → Nat → Int32} {w h : Nat → Int32} {k : Nat}
theorem k4 (hk : k < 4) : k = 0 ∨ k = 1 ∨ k = 2 ∨ k = 3 := by omega
theorem tw_pl (hk : k < 4) : (tw ca f g w h)[2 + 3 * k]? = some (.inr (1, [.ref (3 + 3 * k), .int (w k), .int (h k), .ref (4 + 3 * k)])) := by
  rcases k4 hk with rfl | rfl | rfl | rfl <;> rfl
theorem tw_sm (hk : k < 4) : (tw ca f g w h)[3 + 3 * k]? = some (.inl (ca 0, 1024, .inl (f k))) := by
  rcases k4 hk with rfl | rfl | rfl | rfl <;> rfl
theorem tw_in (hk : k < 4) : (plx k).map (fun i => (tw ca f g w h)[i]?) = (pw3 ca (f k) (g k) (w k) (h k)).map (fun e => some (zc (zix (plx k)) e)) := by
  rcases k4 hk with rfl | rfl | rfl | rfl <;> rfl
theorem plx_nd (k : Nat) : (plx k).Nodup := by simp [plx]
theorem tw_put (hk : k < 4) (f' g' : Nat → Int32) (w' h' : Int32) : zput (zix (plx k)) (plx k) (tw ca f g w h) (pw3 ca f' g' w' h') = tw ca (va_up f k f') (va_up g k g') (va_up w k w') (va_up h k h') := by
  rcases k4 hk with rfl | rfl | rfl | rfl <;> rfl
theorem va_upk {α : Type} (f : Nat → α) (k : Nat) : va_up f k (f k) = f := by
  funext j; unfold va_up; split
  · next h => rw [h]
  · rfl
theorem tw_put0 (hk : k < 4) : zput (zix (plx k)) (plx k) (tw ca f g w h) (pw3 ca (f k) (g k) (w k) (h k)) = tw ca f g w h := by
  rw [tw_put hk, va_upk, va_upk, va_upk, va_upk]
theorem tw_setf (hk : k < 4) (f' : Nat → Int32) : (tw ca f g w h).set (3 + 3 * k) (.inl (ca 0, 1024, .inl f')) = tw ca (va_up f k f') g w h := by
  rcases k4 hk with rfl | rfl | rfl | rfl <;> rfl
theorem tw_setp (hk : k < 4) (w' h' : Int32) : (tw ca f g w h).set (2 + 3 * k) (.inr (1, [.ref (3 + 3 * k), .int w', .int h', .ref (4 + 3 * k)])) = tw ca f g (va_up w k w') (va_up h k h') := by
  rcases k4 hk with rfl | rfl | rfl | rfl <;> rfl
end

set_option maxRecDepth 100000 in
set_option maxHeartbeats 4000000 in
theorem c_planeOf (l : Launch) (hl9 : l.stackTraces = false) (D : va_G) (ca : Nat → ClassId) (ad : Nat → Nat) (sa : Nat → Nat) (f g : Nat → Nat → Int32) (w h : Nat → Int32) (n : Int32) : zXet l yT_planeOf wT_planeOf (rmk 6 1 6) 1 6 (zEx sa) (gG D ca ad) (tw ca f g w h) [.ref 0, .int n] (fun r aw => aw = tw ca f g w h ∧ ∃ k : Nat, k < 4 ∧ n = nI k ∧ r = some (.ref (2 + 3 * k))) (fun E => E = IOB ∧ (n < 0 ∨ 4 ≤ n)) := by
  refine zXet.of (cc := cT_planeOf) (maxL := 2) (ret := some (.object RP)) (lv := [some (.ref 0), some (.int n)]) (by decide) rfl (Nat.le_of_ble_eq_true rfl) rfl (fun M hl0 hR hC hS hE hX => ?_)
  have k9 : (n < 0 ∨ 4 ≤ n) → Zj M (gG D ca ad) cT_planeOf 2 RT wT_planeOf (some (.object RP)) (tw ca f g w h) [some (.ref 0), some (.int n)] [] 9 := fun hb => by
    exact z_throw (cls := IOB) (names := EXN) (text := "no such plane") (sa := sa 2) (by rw [hl0]; exact hl9) hX hE (⟨rfl, hb⟩) dT_planeOf_9 dT_planeOf_12 dT_planeOf_13 dT_planeOf_15 dT_planeOf_18 (List.mem_of_getElem? (i := 2) rfl) af_O af_N (bwT b_128) (bwT b_7) (fun w h => bwT (at_O w h)) an_O ag_O (by rw [hR]; decide) (by rw [hR, hC, hS]; decide) (by rw [hC, hS]; decide)
  refine z_iload_n dT_planeOf_0 rfl ?_
  refine z_if_lt (tgt := 9) dT_planeOf_1 (by decide) (fun c1 => k9 (Or.inl c1)) (fun c1 => ?_)
  refine z_iload_n dT_planeOf_4 rfl ?_
  refine z_iconst (v := 4) dT_planeOf_5 (by decide) ?_
  refine z_icmp_lt (tgt := 19) dT_planeOf_6 (by decide) (fun c2 => ?_) (fun c2 => k9 (Or.inr (Int32.not_lt.mp c2)))
  obtain ⟨k, hk, rfl⟩ : ∃ k : Nat, k < 4 ∧ n = nI k := by
    obtain ⟨k, h1, rfl⟩ := nI_of c1
    refine ⟨k, ?_, rfl⟩
    rcases Nat.lt_or_ge k 4 with q | q
    · exact q
    · exact absurd c2 (nI_nlt q h1)
  refine z_aload_n dT_planeOf_19 rfl ?_
  refine z_get (C := RT) (T := TT) (N := 1) (ref := "ToneMixer") 0 dT_planeOf_20 rfl rfl rfl (by decide) (fun w h => bwT (hbT w h)) (bwT b_44) rfl ?_
  refine z_iload_n dT_planeOf_23 rfl ?_
  refine z_aaldN (t0 := 2) (k := k) dT_planeOf_24 rfl rfl (rfl) (hk) (by decide) rfl ?_
  exact z_areturn dT_planeOf_25 hX.ret (by rw [hC, hS]; decide) rfl ⟨rfl, k, hk, rfl, rfl⟩
