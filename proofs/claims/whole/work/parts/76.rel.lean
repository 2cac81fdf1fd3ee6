/-! both sides hold the same samples -/
def PR (F S : Nat → Int32) (k W H : Nat) : Prop := ∀ y, y < H → ∀ x, x < W → F (y * 32 + x) = S (1024 * k + 32 * y + x) ∧ sm (F (y * 32 + x))
def outK (k : Nat) (S S' : Nat → Int32) : Prop := ∀ j, (j < 1024 * k ∨ 1024 * k + 1024 ≤ j) → S' j = S j
def Rel (f : Nat → Nat → Int32) (w h : Nat → Nat) (S : Nat → Int32) : Prop := okW w h ∧ ∀ k, k < 4 → PR (f k) S k (w k) (h k)
theorem Rel.up {f : Nat → Nat → Int32} {w h : Nat → Nat} {S S' F : Nat → Int32} {k W H : Nat} (hR : Rel f w h S) (hW : 1 ≤ W ∧ W ≤ 32 ∧ 1 ≤ H ∧ H ≤ 32) (hin : PR F S' k W H) (hout : outK k S S') : Rel (va_up f k F) (va_up w k W) (va_up h k H) S' := by
  refine ⟨fun j hj => ?_, fun j hj => ?_⟩
  · by_cases e : j = k
    · subst e; rw [va_up_self, va_up_self]; exact hW
    · rw [va_up_ne _ _ e, va_up_ne _ _ e]; exact hR.1 j hj
  · by_cases e : j = k
    · subst e; rw [va_up_self, va_up_self, va_up_self]; exact hin
    · rw [va_up_ne _ _ e, va_up_ne _ _ e, va_up_ne _ _ e]
      intro y hy x hx
      obtain ⟨h1, h2⟩ := hR.2 j hj y hy x hx
      have := hR.1 j hj
      refine ⟨h1.trans (hout _ ?_).symm, h2⟩
      omega
theorem Rel.up0 {f : Nat → Nat → Int32} {w h : Nat → Nat} {S S' F : Nat → Int32} {k : Nat} (hR : Rel f w h S) (hk : k < 4) (hin : PR F S' k (w k) (h k)) (hout : outK k S S') : Rel (va_up f k F) w h S' := by
  have h9 := hR.up (hR.1 k hk) hin hout
  rw [va_upk, va_upk] at h9
  exact h9
theorem upd_at (f : Nat → Int32) (k : Nat) (x : Int32) (j : Nat) : upd f k x j = if j = k then x else f j := rfl
/-- size -/
theorem fil_at (v : Int32) (f : Nat → Int32) (n j : Nat) : fil v f n j = if j < n then v else f j := by
  induction n with
  | zero => rw [if_neg (by omega)]; rfl
  | succ n ih =>
    simp only [fil, upd_at]
    by_cases h : j = n
    · rw [if_pos h, if_pos (by omega)]
    · rw [if_neg h, ih]
      by_cases h2 : j < n
      · rw [if_pos h2, if_pos (by omega)]
      · rw [if_neg h2, if_neg (by omega)]
theorem mfil_at (S : Nat → Int32) (k n j : Nat) : mfil S k n j = if 1024 * k ≤ j ∧ j < 1024 * k + n then 0 else S j := by
  induction n with
  | zero => rw [if_neg (by omega)]; rfl
  | succ n ih =>
    simp only [mfil, upd_at]
    by_cases h : j = 1024 * k + n
    · rw [if_pos h, if_pos (by omega)]
    · rw [if_neg h, ih]
      by_cases h2 : 1024 * k ≤ j ∧ j < 1024 * k + n
      · rw [if_pos h2, if_pos (by omega)]
      · rw [if_neg h2, if_neg (by omega)]
theorem sm_0 : sm 0 := ⟨0, by omega, by decide⟩
theorem r_size {f : Nat → Nat → Int32} {w h : Nat → Nat} {S : Nat → Int32} {k w2 h2 : Nat} (hR : Rel f w h S) (h1 : 1 ≤ w2) (h3 : w2 ≤ 32) (h4 : 1 ≤ h2) (h5 : h2 ≤ 32) : Rel (va_up f k (fil 0 (f k) 1024)) (va_up w k w2) (va_up h k h2) (mfil S k 1024) := by
  refine hR.up ⟨h1, h3, h4, h5⟩ (fun y hy x hx => ?_) (fun j hj => ?_)
  · rw [fil_at, if_pos (by omega), mfil_at, if_pos (by omega)]
    exact ⟨rfl, sm_0⟩
  · rw [mfil_at, if_neg (by omega)]
/-- put -/
theorem r_put {f : Nat → Nat → Int32} {w h : Nat → Nat} {S : Nat → Int32} {k a b c : Nat} (hR : Rel f w h S) (hk : k < 4) (ha : a < w k) (hb : b < h k) (hc : c ≤ 255) : Rel (va_up f k (upd (f k) (b * 32 + a) (nI c))) w h (upd S (1024 * k + 32 * b + a) (nI c)) := by
  have hW := hR.1 k hk
  refine hR.up0 hk (fun y hy x hx => ?_) (fun j hj => ?_)
  · rw [upd_at, upd_at]
    by_cases e : y * 32 + x = b * 32 + a
    · rw [if_pos e, if_pos (by omega)]; exact ⟨rfl, c, hc, rfl⟩
    · rw [if_neg e, if_neg (by omega)]; exact hR.2 k hk y hy x hx
  · rw [upd_at, if_neg (by omega)]
/-- row -/
theorem rwL_at (e : Int64) (f : Nat → Int32) (a b n j : Nat) : rwL e f a b n j = if b * 32 + a ≤ j ∧ j < b * 32 + a + n then rwv e (j - (b * 32 + a)) else f j := by
  induction n with
  | zero => rw [if_neg (by omega)]; rfl
  | succ n ih =>
    simp only [rwL, upd_at]
    by_cases h : j = b * 32 + (a + n)
    · rw [if_pos h, if_pos (by omega)]; congr 1; omega
    · rw [if_neg h, ih]
      by_cases h2 : b * 32 + a ≤ j ∧ j < b * 32 + a + n
      · rw [if_pos h2, if_pos (by omega)]
      · rw [if_neg h2, if_neg (by omega)]
theorem mrw_at (e : Int64) (S : Nat → Int32) (k a b n j : Nat) : mrw e S k a b n j = if 1024 * k + 32 * b + a ≤ j ∧ j < 1024 * k + 32 * b + a + n then mrv e (j - (1024 * k + 32 * b + a)) else S j := by
  induction n with
  | zero => rw [if_neg (by omega)]; rfl
  | succ n ih =>
    simp only [mrw, upd_at]
    by_cases h : j = 1024 * k + 32 * b + (a + n)
    · rw [if_pos h, if_pos (by omega)]; congr 1; omega
    · rw [if_neg h, ih]
      by_cases h2 : 1024 * k + 32 * b + a ≤ j ∧ j < 1024 * k + 32 * b + a + n
      · rw [if_pos h2, if_pos (by omega)]
      · rw [if_neg h2, if_neg (by omega)]
theorem rw_c : ∀ i, i < 8 → (((8 : Int32) * (7 - nI i)).toInt64.toUInt64 &&& Int64.toUInt64 63).toBitVec % 64 = BitVec.ofNat 64 (8 * (7 - i)) := by decide +kernel
theorem mr_c : ∀ i, i < 8 → (((56 : Int32) - 8 * nI i).toInt64 &&& 63).toBitVec.smod 64 = BitVec.ofNat 64 (8 * (7 - i)) := by decide +kernel
theorem b255_32 : ∀ j, j < 32 → (255#32).getLsbD j = decide (j < 8) := by decide +kernel
theorem b255_64 : ∀ j, j < 64 → (255#64).getLsbD j = decide (j < 8) := by decide +kernel
theorem rwv_eq (e : Int64) {i : Nat} (hi : i < 8) : rwv e i = mrv e i := by
  apply Int32.toBitVec_inj.mp
  apply BitVec.eq_of_getLsbD_eq
  intro j hj
  have h1 : (rwv e i).toBitVec = (e.toBitVec >>> (8 * (7 - i))).setWidth 32 &&& 255#32 := by
    unfold rwv
    rw [Int32.toBitVec_and]
    congr 1
    rw [Int64.toBitVec_toInt32, BitVec.signExtend_eq_setWidth_of_le _ (by omega), UInt64.toBitVec_toInt64, UInt64.toBitVec_shiftRight, rw_c i hi]
    congr 1
    rw [BitVec.ushiftRight_eq']
    congr 1
    rw [BitVec.toNat_ofNat, Nat.mod_eq_of_lt (by omega)]
  have h2 : (mrv e i).toBitVec = (e.toBitVec.sshiftRight (8 * (7 - i)) &&& 255#64).setWidth 32 := by
    unfold mrv
    rw [Int64.toBitVec_toInt32, BitVec.signExtend_eq_setWidth_of_le _ (by omega), Int64.toBitVec_and, Int64.toBitVec_shiftRight, mr_c i hi]
    congr 1
    congr 1
    rw [BitVec.sshiftRight_eq']
    congr 1
    rw [BitVec.toNat_ofNat, Nat.mod_eq_of_lt (by omega)]
  rw [h1, h2, BitVec.getLsbD_and, b255_32 j hj, BitVec.getLsbD_setWidth, BitVec.getLsbD_setWidth, BitVec.getLsbD_and, b255_64 j (by omega), BitVec.getLsbD_ushiftRight, BitVec.getLsbD_sshiftRight]
  by_cases h8 : j < 8
  · rw [if_pos (by omega), decide_eq_true h8, decide_eq_true hj, decide_eq_false (by omega)]
    simp
  · simp [h8]
theorem sm_and (x : Int32) : sm (x &&& 255) := by
  refine ⟨x.toBitVec.toNat % 256, by omega, ?_⟩
  apply Int32.toBitVec_inj.mp
  rw [Int32.toBitVec_and]
  apply BitVec.eq_of_toNat_eq
  show (x.toBitVec &&& 255#32).toNat = (BitVec.ofNat 32 (x.toBitVec.toNat % 256)).toNat
  rw [BitVec.toNat_and, BitVec.toNat_ofNat, BitVec.toNat_ofNat]
  have := Nat.and_two_pow_sub_one_eq_mod x.toBitVec.toNat 8
  simp only [Nat.reducePow, Nat.reduceSub] at this
  show x.toBitVec.toNat &&& 255 = _
  rw [this]; omega
theorem r_row {f : Nat → Nat → Int32} {w h : Nat → Nat} {S : Nat → Int32} {k a b : Nat} {e : Int64} (hR : Rel f w h S) (hk : k < 4) (ha : a < w k) (hb : b < h k) : Rel (va_up f k (rwL e (f k) a b (mn 8 (w k - a)))) w h (mrw e S k a b (mn 8 (w k - a))) := by
  have hW := hR.1 k hk
  have hn : mn 8 (w k - a) ≤ 8 ∧ mn 8 (w k - a) ≤ w k - a := by unfold mn; split <;> omega
  refine hR.up0 hk (fun y hy x hx => ?_) (fun j hj => ?_)
  · rw [rwL_at, mrw_at]
    by_cases c : b * 32 + a ≤ y * 32 + x ∧ y * 32 + x < b * 32 + a + mn 8 (w k - a)
    · rw [if_pos c, if_pos (by omega)]
      refine ⟨?_, sm_and _⟩
      rw [show 1024 * k + 32 * y + x - (1024 * k + 32 * b + a) = y * 32 + x - (b * 32 + a) by omega]
      exact rwv_eq e (by omega)
    · rw [if_neg c, if_neg (by omega)]; exact hR.2 k hk y hy x hx
  · rw [mrw_at, if_neg (by omega)]
/-- copy -/
theorem mcp_at (S : Nat → Int32) {k k2 : Nat} : ∀ (n : Nat), n ≤ 1024 → ∀ j, mcp S k k2 n j = if 1024 * k2 ≤ j ∧ j < 1024 * k2 + n then S (1024 * k + (j - 1024 * k2)) else S j := by
  intro n
  induction n with
  | zero => intro _ j; rw [if_neg (by omega)]; rfl
  | succ n ih =>
    intro hn j
    simp only [mcp, upd_at]
    by_cases h : j = 1024 * k2 + n
    · rw [if_pos h, if_pos (by omega), ih (by omega), if_neg (by omega)]; congr 1; omega
    · rw [if_neg h, ih (by omega)]
      by_cases h2 : 1024 * k2 ≤ j ∧ j < 1024 * k2 + n
      · rw [if_pos h2, if_pos (by omega)]
      · rw [if_neg h2, if_neg (by omega)]
theorem r_copy {f : Nat → Nat → Int32} {w h : Nat → Nat} {S : Nat → Int32} {k k2 : Nat} (hR : Rel f w h S) (hk : k < 4) : Rel (va_up f k2 (va_cpy (f k) (f k2) 0 0 1024)) (va_up w k2 (w k)) (va_up h k2 (h k)) (mcp S k k2 1024) := by
  have hW := hR.1 k hk
  refine hR.up hW (fun y hy x hx => ?_) (fun j hj => ?_)
  · rw [mcp_at S 1024 (Nat.le_refl _), if_pos (by omega)]
    unfold va_cpy
    rw [if_pos (by omega)]
    have := hR.2 k hk y hy x hx
    rw [show 0 + (y * 32 + x - 0) = y * 32 + x by omega, show 1024 * k + (1024 * k2 + 32 * y + x - 1024 * k2) = 1024 * k + 32 * y + x by omega]
    exact this
  · rw [mcp_at S 1024 (Nat.le_refl _), if_neg (by omega)]
/-- cut -/
theorem r_cut {f : Nat → Nat → Int32} {w h : Nat → Nat} {S : Nat → Int32} {k w2 h2 : Nat} (hR : Rel f w h S) (hk : k < 4) (h1 : 1 ≤ w2) (h3 : w2 ≤ w k) (h4 : 1 ≤ h2) (h5 : h2 ≤ h k) : Rel f (va_up w k w2) (va_up h k h2) S := by
  have hW := hR.1 k hk
  have h9 := hR.up (F := f k) (k := k) (W := w2) (H := h2) (S' := S) (by omega) (fun y hy x hx => hR.2 k hk y (by omega) x (by omega)) (fun _ _ => rfl)
  rw [va_upk] at h9
  exact h9
theorem mkp_at (S O : Nat → Int32) (k n j : Nat) : mkp S O k n j = if j < n then S (1024 * k + j) else O j := by
  induction n with
  | zero => rw [if_neg (by omega)]; rfl
  | succ n ih =>
    simp only [mkp, upd_at]
    by_cases h : j = n
    · rw [if_pos h, if_pos (by omega), h]
    · rw [if_neg h, ih]
      by_cases h2 : j < n
      · rw [if_pos h2, if_pos (by omega)]
      · rw [if_neg h2, if_neg (by omega)]
/-- .. and what a rewritten plane of the reference holds -/
theorem ndw_at (F : Nat → Nat → Int32) (k y : Nat) (S : Nat → Int32) (n j : Nat) : ndw F k y S n j = if 1024 * k + 32 * y ≤ j ∧ j < 1024 * k + 32 * y + n then F y (j - (1024 * k + 32 * y)) else S j := by
  induction n with
  | zero => rw [if_neg (by omega)]; rfl
  | succ n ih =>
    simp only [ndw, upd_at]
    by_cases h : j = 1024 * k + 32 * y + n
    · rw [if_pos h, if_pos (by omega)]; congr 1; omega
    · rw [if_neg h, ih]
      by_cases h2 : 1024 * k + 32 * y ≤ j ∧ j < 1024 * k + 32 * y + n
      · rw [if_pos h2, if_pos (by omega)]
      · rw [if_neg h2, if_neg (by omega)]
theorem ndY_at (F : Nat → Nat → Int32) {k w : Nat} (S : Nat → Int32) (hw : w ≤ 32) (n : Nat) : ∀ y x, x < 32 → ndY F k w S n (1024 * k + 32 * y + x) = if y < n ∧ x < w then F y x else S (1024 * k + 32 * y + x) := by
  induction n with
  | zero => intro y x hx; rw [if_neg (by omega)]; rfl
  | succ n ih =>
    intro y x hx
    simp only [ndY]
    rw [ndw_at, ih y x hx]
    by_cases h : y = n ∧ x < w
    · rw [if_pos (by omega), if_pos (by omega), h.1]; congr 1; omega
    · rw [if_neg (by omega)]
      by_cases h2 : y < n ∧ x < w
      · rw [if_pos h2, if_pos (by omega)]
      · rw [if_neg h2, if_neg (by omega)]
theorem ndY_out (F : Nat → Nat → Int32) {k w : Nat} (S : Nat → Int32) (hw : w ≤ 32) (n : Nat) : n ≤ 32 → outK k S (ndY F k w S n) := by
  induction n with
  | zero => intro _ j _; rfl
  | succ n ih =>
    intro hn j hj
    simp only [ndY]
    rw [ndw_at, if_neg (by omega)]
    exact ih (by omega) j hj
/-- extend -/
theorem wdx_at (v : Int32) (w y : Nat) (f : Nat → Int32) (n j : Nat) : wdx v w y f n j = if y * 32 + w ≤ j ∧ j < y * 32 + w + n then v else f j := by
  induction n with
  | zero => rw [if_neg (by omega)]; rfl
  | succ n ih =>
    simp only [wdx, upd_at]
    by_cases h : j = y * 32 + (w + n)
    · rw [if_pos h, if_pos (by omega)]
    · rw [if_neg h, ih]
      by_cases h2 : y * 32 + w ≤ j ∧ j < y * 32 + w + n
      · rw [if_pos h2, if_pos (by omega)]
      · rw [if_neg h2, if_neg (by omega)]
theorem wdn_at {w nw : Nat} (f : Nat → Int32) (hw : 1 ≤ w) (h2 : w ≤ nw) (h3 : nw ≤ 32) (n : Nat) : ∀ y x, x < 32 → wdn w nw f n (y * 32 + x) = if y < n ∧ w ≤ x ∧ x < nw then f (y * 32 + (w - 1)) else f (y * 32 + x) := by
  induction n with
  | zero => intro y x hx; rw [if_neg (by omega)]; rfl
  | succ n ih =>
    intro y x hx
    simp only [wdn]
    rw [wdx_at, ih y x hx, ih n (w - 1) (by omega)]
    by_cases h : y = n ∧ w ≤ x ∧ x < nw
    · rw [if_pos (by omega), if_neg (by omega), if_pos (by omega), h.1]
    · rw [if_neg (by omega)]
      by_cases h4 : y < n ∧ w ≤ x ∧ x < nw
      · rw [if_pos h4, if_pos (by omega)]
      · rw [if_neg h4, if_neg (by omega)]
theorem dpx_at (v : Int32) {h x : Nat} (hx : x < 32) (f : Nat → Int32) (n : Nat) : ∀ y x', x' < 32 → dpx v h x f n (y * 32 + x') = if x' = x ∧ h ≤ y ∧ y < h + n then v else f (y * 32 + x') := by
  induction n with
  | zero => intro y x' _; rw [if_neg (by omega)]; rfl
  | succ n ih =>
    intro y x' hx'
    simp only [dpx, upd_at]
    by_cases e : y * 32 + x' = (h + n) * 32 + x
    · rw [if_pos e, if_pos (by omega)]
    · rw [if_neg e, ih y x' hx']
      by_cases h2 : x' = x ∧ h ≤ y ∧ y < h + n
      · rw [if_pos h2, if_pos (by omega)]
      · rw [if_neg h2, if_neg (by omega)]
theorem dpn_at {h nh : Nat} (f : Nat → Int32) (hw : 1 ≤ h) (h2 : h ≤ nh) (n : Nat) : n ≤ 32 → ∀ y x, x < 32 → dpn h nh f n (y * 32 + x) = if x < n ∧ h ≤ y ∧ y < nh then f ((h - 1) * 32 + x) else f (y * 32 + x) := by
  induction n with
  | zero => intro _ y x hx; rw [if_neg (by omega)]; rfl
  | succ n ih =>
    intro hn y x hx
    simp only [dpn]
    rw [dpx_at _ (by omega) _ _ y x hx, ih (by omega) y x hx, ih (by omega) (h - 1) n (by omega)]
    by_cases e : x = n ∧ h ≤ y ∧ y < nh
    · rw [if_pos (by omega), if_neg (by omega), if_pos (by omega), e.1]
    · rw [if_neg (by omega)]
      by_cases h4 : x < n ∧ h ≤ y ∧ y < nh
      · rw [if_pos h4, if_pos (by omega)]
      · rw [if_neg h4, if_neg (by omega)]
theorem r_extend {f : Nat → Nat → Int32} {w h : Nat → Nat} {S O : Nat → Int32} {k w2 h2 : Nat} (hR : Rel f w h S) (hk : k < 4) (h1 : w k ≤ w2) (h3 : w2 ≤ 32) (h4 : h k ≤ h2) (h5 : h2 ≤ 32) : Rel (va_up f k (dpn (h k) h2 (wdn (w k) w2 (f k) (h k)) w2)) (va_up w k w2) (va_up h k h2) (ndY (mev (mkp S O k 1024) (w k) (h k)) k w2 S h2) := by
  have hW := hR.1 k hk
  refine hR.up (by omega) (fun y hy x hx => ?_) (ndY_out _ _ h3 _ h5)
  rw [ndY_at _ _ h3 _ y x (by omega), if_pos ⟨hy, hx⟩]
  have hc1 := cl1_lt (x := y) (n := h k) (by omega)
  have hc2 := cl1_lt (x := x) (n := w k) (by omega)
  have key : dpn (h k) h2 (wdn (w k) w2 (f k) (h k)) w2 (y * 32 + x) = f k (cl1 y (h k) * 32 + cl1 x (w k)) := by
    rw [dpn_at _ (by omega) h4 _ h3 y x (by omega)]
    unfold cl1
    by_cases c1 : y < h k
    · rw [if_neg (by omega), if_pos c1, wdn_at _ (by omega) h1 h3 _ y x (by omega)]
      by_cases c2 : x < w k
      · rw [if_neg (by omega), if_pos c2]
      · rw [if_pos (by omega), if_neg c2]
    · rw [if_pos (by omega), if_neg c1, wdn_at _ (by omega) h1 h3 _ (h k - 1) x (by omega)]
      by_cases c2 : x < w k
      · rw [if_neg (by omega), if_pos c2]
      · rw [if_pos (by omega), if_neg c2]
  rw [key]
  unfold mev
  rw [mkp_at, if_pos (by omega)]
  have := hR.2 k hk _ hc1 _ hc2
  rw [show 1024 * k + (32 * cl1 y (h k) + cl1 x (w k)) = 1024 * k + 32 * cl1 y (h k) + cl1 x (w k) by omega]
  exact this
