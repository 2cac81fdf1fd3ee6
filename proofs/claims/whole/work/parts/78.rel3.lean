/-! mixing -/
theorem sm_lim (v : Int32) : sm (lim v) := by
  rw [lim_eq]
  unfold mlim
  by_cases h : v < 0
  · rw [if_pos h]; exact sm_0
  · rw [if_neg h]
    by_cases h2 : 255 < v
    · rw [if_pos h2]; exact ⟨255, by omega, rfl⟩
    · rw [if_neg h2]
      exact nI_of2 (M := 255) (n := 255) (by decide) h (Int32.not_lt.mp h2)
theorem sh16_n {n : Nat} (h : n < 2 ^ 31) : sh16 (nI n) = nI (n / 65536) := pk_shrN h _ 16 (by decide)
theorem nIm (a b : Nat) : nI a * nI b = nI (a * b) := pk_mul a b
theorem bri_n (a b c : Nat) (ha : a ≤ 255) (hb : b ≤ 255) (hc : c ≤ 255) : bri (nI a) (nI b) (nI c) = nI ((19595 * a + 38470 * b + 7471 * c + 32768) / 65536) := by
  have e : (19595 * nI a + 38470 * nI b + 7471 * nI c + 32768 : Int32) = nI (19595 * a + 38470 * b + 7471 * c + 32768) := by
    rw [za, za, za, zm, zm, zm]; rfl
  unfold bri
  rw [e]
  exact pk_shrN (by omega) _ 16 (by decide)
theorem neg3 (a b c k : Int32) : -a - b + c + k = (c + k) - (a + b) := by
  rw [Int32.sub_eq_add_neg, Int32.sub_eq_add_neg, Int32.neg_add, Int32.sub_eq_add_neg]; ac_rfl
theorem pos3 (a b c k : Int32) : a - b - c + k = (a + k) - (b + c) := by
  rw [Int32.sub_eq_add_neg, Int32.sub_eq_add_neg, Int32.sub_eq_add_neg, Int32.neg_add, Int32.sub_eq_add_neg]; ac_rfl
theorem cl2_n (a b c : Nat) (ha : a ≤ 255) (hb : b ≤ 255) (hc : c ≤ 255) : sm (sh16 (-11059 * nI a - 21709 * nI b + 32768 * nI c + 8421375)) := by
  have e : (-11059 * nI a - 21709 * nI b + 32768 * nI c + 8421375 : Int32) = nI (32768 * c + 8421375 - (11059 * a + 21709 * b)) := by
    rw [show (-11059 : Int32) * nI a = -(11059 * nI a) from Int32.neg_mul _ _, neg3, ← pk_sub (by omega), za, za, zm, zm, zm]; rfl
  rw [e, sh16_n (by omega)]
  exact ⟨_, by omega, rfl⟩
theorem cl3_n (a b c : Nat) (ha : a ≤ 255) (hb : b ≤ 255) (hc : c ≤ 255) : sm (sh16 (32768 * nI a - 27439 * nI b - 5329 * nI c + 8421375)) := by
  have e : (32768 * nI a - 27439 * nI b - 5329 * nI c + 8421375 : Int32) = nI (32768 * a + 8421375 - (27439 * b + 5329 * c)) := by
    rw [pos3, ← pk_sub (by omega), za, za, zm, zm, zm]; rfl
  rw [e, sh16_n (by omega)]
  exact ⟨_, by omega, rfl⟩
theorem sm_bri {a b c : Int32} (ha : sm a) (hb : sm b) (hc : sm c) : sm (bri a b c) := by
  obtain ⟨a, h1, rfl⟩ := ha
  obtain ⟨b, h2, rfl⟩ := hb
  obtain ⟨c, h3, rfl⟩ := hc
  rw [bri_n a b c h1 h2 h3]
  exact ⟨_, by omega, rfl⟩
def sm3 (c : Int32 × Int32 × Int32) : Prop := sm c.1 ∧ sm c.2.1 ∧ sm c.2.2
theorem sm_op (a b c : Int32) : sm3 (opC a b c) := by
  unfold sm3 opC
  refine ⟨?_, ?_, ?_⟩
  · dsimp only; exact sm_lim _
  · dsimp only; exact sm_lim _
  · dsimp only; exact sm_lim _
theorem sm_cl {a b c : Int32} (ha : sm a) (hb : sm b) (hc : sm c) : sm3 (clC a b c) := by
  refine ⟨sm_bri ha hb hc, ?_, ?_⟩
  · obtain ⟨a, h1, rfl⟩ := ha
    obtain ⟨b, h2, rfl⟩ := hb
    obtain ⟨c, h3, rfl⟩ := hc
    exact cl2_n a b c h1 h2 h3
  · obtain ⟨a, h1, rfl⟩ := ha
    obtain ⟨b, h2, rfl⟩ := hb
    obtain ⟨c, h3, rfl⟩ := hc
    exact cl3_n a b c h1 h2 h3
theorem sm_inv {a : Int32} (ha : sm a) : sm (255 - a) := by
  obtain ⟨a, h1, rfl⟩ := ha
  exact ⟨255 - a, by omega, pk_sub (a := 255) h1⟩
theorem sm_in {a b c : Int32} (ha : sm a) (hb : sm b) (hc : sm c) : sm3 (inC a b c) := ⟨sm_inv ha, sm_inv hb, sm_inv hc⟩
theorem sm_dk {a d : Int32} (ha : sm a) (hd : sm d) : sm ((a * (255 - d) + 127) / 255) := by
  obtain ⟨a, h1, rfl⟩ := ha
  obtain ⟨d, h2, rfl⟩ := hd
  have hm : a * (255 - d) ≤ 65025 := Nat.mul_le_mul h1 (show 255 - d ≤ 255 by omega)
  have e : (nI a * (255 - nI d) + 127 : Int32) = nI (a * (255 - d) + 127) := by
    rw [za, zm, ← pk_sub h2]; rfl
  rw [e]
  refine ⟨(a * (255 - d) + 127) / 255, by omega, ?_⟩
  exact pk_div (a := a * (255 - d) + 127) (d := 255) (by omega) (by omega) (by omega)
theorem sm_mx {v : Nat} {a b c d : Int32} (ha : sm a) (hb : sm b) (hc : sm c) (hd : v = 3 → sm d) : sm3 (mxP v a b c d) := by
  unfold mxP
  split
  · exact sm_op a b c
  split
  · exact sm_cl ha hb hc
  split
  · exact sm_in ha hb hc
  split
  · next h => exact ⟨sm_dk ha (hd h), sm_dk hb (hd h), sm_dk hc (hd h)⟩
  split
  · exact ⟨sm_bri ha hb hc, sm_bri ha hb hc, sm_bri ha hb hc⟩
  split
  · exact sm_in (sm_op a b c).1 (sm_op a b c).2.1 (sm_op a b c).2.2
  · exact sm_cl (sm_in ha hb hc).1 (sm_in ha hb hc).2.1 (sm_in ha hb hc).2.2
theorem mx_d {v : Nat} (hv : v ≠ 3) (a b c d d' : Int32) : mxP v a b c d = mxP v a b c d' := by
  unfold mxP
  rw [if_neg hv, if_neg hv]
theorem r_set {f : Nat → Nat → Int32} {w h : Nat → Nat} {S : Nat → Int32} {k a b : Nat} {v : Int32} (hR : Rel f w h S) (hk : k < 4) (ha : a < w k) (hb : b < h k) (hv : sm v) : Rel (va_up f k (upd (f k) (b * 32 + a) v)) w h (upd S (1024 * k + (32 * b + a)) v) := by
  obtain ⟨c, hc, rfl⟩ := hv
  rw [← Nat.add_assoc]
  exact r_put hR hk ha hb hc
theorem r_up3 {f : Nat → Nat → Int32} {w h : Nat → Nat} {S : Nat → Int32} {x y : Nat} {c : Int32 × Int32 × Int32} (hR : Rel f w h S) (hs : sameS 3 w h) (hx : x < w 0) (hy : y < h 0) (hc : sm3 c) : Rel (up3 f (y * 32 + x) c) w h (uS S (32 * y + x) c) := by
  have h1 := hs 1 (by omega) (by omega)
  have h2 := hs 2 (by omega) (by omega)
  have r0 := r_set hR (k := 0) (by omega) hx hy hc.1
  have r1 := r_set r0 (k := 1) (by omega) (by rw [h1.1]; exact hx) (by rw [h1.2]; exact hy) hc.2.1
  exact r_set r1 (k := 2) (by omega) (by rw [h2.1]; exact hx) (by rw [h2.2]; exact hy) hc.2.2
theorem s3_4 {w h : Nat → Nat} (hs : sameS 4 w h) : sameS 3 w h := fun i h1 h2 => hs i h1 (by omega)
theorem mc_eq {f : Nat → Nat → Int32} {w h : Nat → Nat} {S : Nat → Int32} {v x y : Nat} (hR : Rel f w h S) (hs : sameS 3 w h) (h3 : v = 3 → sameS 4 w h) (hx : x < w 0) (hy : y < h 0) : mcl v S (32 * y + x) = mxP v (f 0 (y * 32 + x)) (f 1 (y * 32 + x)) (f 2 (y * 32 + x)) (f 3 (y * 32 + x)) ∧ sm3 (mxP v (f 0 (y * 32 + x)) (f 1 (y * 32 + x)) (f 2 (y * 32 + x)) (f 3 (y * 32 + x))) := by
  have h1 := hs 1 (by omega) (by omega)
  have h2 := hs 2 (by omega) (by omega)
  have e0 := hR.2 0 (by omega) y hy x hx
  have e1 := hR.2 1 (by omega) y (by rw [h1.2]; exact hy) x (by rw [h1.1]; exact hx)
  have e2 := hR.2 2 (by omega) y (by rw [h2.2]; exact hy) x (by rw [h2.1]; exact hx)
  have a0 : S (32 * y + x) = f 0 (y * 32 + x) := by rw [e0.1]; congr 1; omega
  have a1 : S (1024 + (32 * y + x)) = f 1 (y * 32 + x) := by rw [e1.1]; congr 1; omega
  have a2 : S (2048 + (32 * y + x)) = f 2 (y * 32 + x) := by rw [e2.1]; congr 1; omega
  unfold mcl
  rw [a0, a1, a2]
  by_cases hv : v = 3
  · have h4 := h3 hv 3 (by omega) (by omega)
    have e3 := hR.2 3 (by omega) y (by rw [h4.2]; exact hy) x (by rw [h4.1]; exact hx)
    have a3 : S (3072 + (32 * y + x)) = f 3 (y * 32 + x) := by rw [e3.1]; congr 1; omega
    rw [a3]
    exact ⟨rfl, sm_mx e0.2 e1.2 e2.2 (fun _ => e3.2)⟩
  · exact ⟨mx_d hv _ _ _ _ _, sm_mx e0.2 e1.2 e2.2 (fun q => absurd q hv)⟩
theorem r_mxX {f : Nat → Nat → Int32} {w h : Nat → Nat} {S : Nat → Int32} {v y : Nat} (hR : Rel f w h S) (hs : sameS 3 w h) (h3 : v = 3 → sameS 4 w h) (hy : y < h 0) (n : Nat) : n ≤ w 0 → Rel (mxX v y f n) w h (maX v y S n) := by
  induction n with
  | zero => intro _; exact hR
  | succ n ih =>
    intro hn
    have h1 := ih (by omega)
    obtain ⟨e, hc⟩ := mc_eq h1 hs h3 (x := n) (by omega) hy
    simp only [mxX, maX]
    rw [e]
    exact r_up3 h1 hs (by omega) hy hc
theorem r_mxA {f : Nat → Nat → Int32} {w h : Nat → Nat} {S : Nat → Int32} {v : Nat} (hR : Rel f w h S) (hs : sameS 3 w h) (h3 : v = 3 → sameS 4 w h) (n : Nat) : n ≤ h 0 → Rel (mxA v (w 0) f n) w h (maY v (w 0) S n) := by
  induction n with
  | zero => intro _; exact hR
  | succ n ih =>
    intro hn
    exact r_mxX (ih (by omega)) hs h3 (by omega) _ (Nat.le_refl _)
theorem cmp_at (f : Nat → Nat → Int32) (p : Nat) (c : Int32 × Int32 × Int32) (q j : Nat) : up3 f p c q j = if q < 3 ∧ j = p then cmp3 q c else f q j := by
  by_cases hj : j = p
  · subst hj
    by_cases hq : q < 3
    · rw [if_pos ⟨hq, rfl⟩]
      obtain rfl | rfl | rfl : q = 0 ∨ q = 1 ∨ q = 2 := by omega
      · exact (up3_at f j c).1
      · exact (up3_at f j c).2.1
      · exact (up3_at f j c).2.2.1
    · rw [if_neg (fun z => hq z.1)]
      unfold up3
      rw [va_up_ne _ _ (by omega), va_up_ne _ _ (by omega), va_up_ne _ _ (by omega)]
  · rw [if_neg (fun z => hj z.2)]
    unfold up3
    by_cases h2 : q = 2
    · subst h2; rw [va_up_self, pk_un hj]
    · rw [va_up_ne _ _ h2]
      by_cases h1 : q = 1
      · subst h1; rw [va_up_self, pk_un hj]
      · rw [va_up_ne _ _ h1]
        by_cases h0 : q = 0
        · subst h0; rw [va_up_self, pk_un hj]
        · rw [va_up_ne _ _ h0]
def mq (v : Nat) (f : Nat → Nat → Int32) (p : Nat) : Int32 × Int32 × Int32 := mxP v (f 0 p) (f 1 p) (f 2 p) (f 3 p)
theorem mxX_at (v y : Nat) (f : Nat → Nat → Int32) (n : Nat) : n ≤ 32 → ∀ q Y X, X < 32 → mxX v y f n q (Y * 32 + X) = if q < 3 ∧ Y = y ∧ X < n then cmp3 q (mq v f (Y * 32 + X)) else f q (Y * 32 + X) := by
  induction n with
  | zero => intro _ q Y X _; rw [if_neg (by omega)]; rfl
  | succ n ih =>
    intro hn q Y X hX
    simp only [mxX]
    rw [cmp_at]
    by_cases h : q < 3 ∧ Y * 32 + X = y * 32 + n
    · obtain ⟨hq, h⟩ := h
      have e1 : Y = y := by omega
      have e2 : X = n := by omega
      subst e1; subst e2
      rw [if_pos ⟨hq, rfl⟩, if_pos (by omega)]
      unfold mq
      rw [ih (by omega) 0 Y X hX, ih (by omega) 1 Y X hX, ih (by omega) 2 Y X hX, ih (by omega) 3 Y X hX, if_neg (by omega), if_neg (by omega), if_neg (by omega), if_neg (by omega)]
    · rw [if_neg h, ih (by omega) q Y X hX]
      by_cases h2 : q < 3 ∧ Y = y ∧ X < n
      · rw [if_pos h2, if_pos (by omega)]
      · rw [if_neg h2, if_neg (by omega)]
theorem mxA_at (v : Nat) {w : Nat} (hw : w ≤ 32) (f : Nat → Nat → Int32) (n : Nat) : ∀ q Y X, X < 32 → mxA v w f n q (Y * 32 + X) = if q < 3 ∧ Y < n ∧ X < w then cmp3 q (mq v f (Y * 32 + X)) else f q (Y * 32 + X) := by
  induction n with
  | zero => intro q Y X _; rw [if_neg (by omega)]; rfl
  | succ n ih =>
    intro q Y X hX
    simp only [mxA]
    rw [mxX_at _ _ _ _ hw q Y X hX]
    by_cases h : q < 3 ∧ Y = n ∧ X < w
    · rw [if_pos h, if_pos (by omega)]
      unfold mq
      rw [ih 0 Y X hX, ih 1 Y X hX, ih 2 Y X hX, ih 3 Y X hX, if_neg (by omega), if_neg (by omega), if_neg (by omega), if_neg (by omega)]
    · rw [if_neg h, ih q Y X hX]
      by_cases h2 : q < 3 ∧ Y < n ∧ X < w
      · rw [if_pos h2, if_pos (by omega)]
      · rw [if_neg h2, if_neg (by omega)]
theorem mx_two {a b v : Nat} (hc : ∀ x y z d, mxP v x y z d = mxP b (mxP a x y z d).1 (mxP a x y z d).2.1 (mxP a x y z d).2.2 d) {w h : Nat} (hw : w ≤ 32) (f : Nat → Nat → Int32) (q Y X : Nat) (hX : X < 32) : mxA v w f h q (Y * 32 + X) = mxA b w (mxA a w f h) h q (Y * 32 + X) := by
  rw [mxA_at v hw f h q Y X hX, mxA_at b hw _ h q Y X hX]
  by_cases c : q < 3 ∧ Y < h ∧ X < w
  · rw [if_pos c, if_pos c]
    congr 1
    unfold mq
    rw [mxA_at a hw f h 0 Y X hX, mxA_at a hw f h 1 Y X hX, mxA_at a hw f h 2 Y X hX, mxA_at a hw f h 3 Y X hX, if_pos (by omega), if_pos (by omega), if_pos (by omega), if_neg (by omega)]
    exact hc _ _ _ _
  · rw [if_neg c, if_neg c, mxA_at a hw f h q Y X hX, if_neg c]
theorem Rel.cg {f f' : Nat → Nat → Int32} {w h : Nat → Nat} {S : Nat → Int32} (hR : Rel f w h S) (he : ∀ q Y X, X < 32 → f' q (Y * 32 + X) = f q (Y * 32 + X)) : Rel f' w h S := by
  refine ⟨hR.1, fun k hk y hy x hx => ?_⟩
  have := hR.1 k hk
  rw [he k y x (by omega)]
  exact hR.2 k hk y hy x hx
theorem mxP_0 (a b c d : Int32) : mxP 0 a b c d = opC a b c := by
  unfold mxP; rw [if_pos rfl]
theorem mxP_1 (a b c d : Int32) : mxP 1 a b c d = clC a b c := by
  unfold mxP; rw [if_neg (by decide), if_pos rfl]
theorem mxP_2 (a b c d : Int32) : mxP 2 a b c d = inC a b c := by
  unfold mxP; rw [if_neg (by decide), if_neg (by decide), if_pos rfl]
theorem mxP_5 (a b c d : Int32) : mxP 5 a b c d = inC (opC a b c).1 (opC a b c).2.1 (opC a b c).2.2 := by
  unfold mxP; rw [if_neg (by decide), if_neg (by decide), if_neg (by decide), if_neg (by decide), if_neg (by decide), if_pos rfl]
theorem mxP_6 (a b c d : Int32) : mxP 6 a b c d = clC (inC a b c).1 (inC a b c).2.1 (inC a b c).2.2 := by
  unfold mxP; rw [if_neg (by decide), if_neg (by decide), if_neg (by decide), if_neg (by decide), if_neg (by decide), if_neg (by decide)]
theorem mx5 (x y z d : Int32) : mxP 5 x y z d = mxP 2 (mxP 0 x y z d).1 (mxP 0 x y z d).2.1 (mxP 0 x y z d).2.2 d := by
  rw [mxP_5, mxP_2, mxP_0]
theorem mx6 (x y z d : Int32) : mxP 6 x y z d = mxP 1 (mxP 2 x y z d).1 (mxP 2 x y z d).2.1 (mxP 2 x y z d).2.2 d := by
  rw [mxP_6, mxP_1, mxP_2]
theorem r_mix {f : Nat → Nat → Int32} {w h : Nat → Nat} {S : Nat → Int32} {v : Nat} (hv : v ≤ 6) (hR : Rel f w h S) (hs : sameS (if (nI v : Int32) = 3 then 4 else 3) w h) : Rel (mxA v (w 0) f (h 0)) w h (mmA v (w 0) (h 0) S) := by
  have h3 : v = 3 → sameS 4 w h := fun e => by subst e; exact hs
  have hs3 : sameS 3 w h := by
    by_cases e : v = 3
    · exact s3_4 (h3 e)
    · have : ¬ (nI v : Int32) = 3 := fun q => e ((nI_eq (a := v) (b := 3) (by omega) (by omega)).mp q)
      rw [if_neg this] at hs
      exact hs
  have hW := (hR.1 0 (by omega)).2.1
  unfold mmA
  by_cases e5 : v = 5
  · subst e5
    rw [if_pos rfl]
    exact (r_mxA (r_mxA hR hs3 (fun q => absurd q (by decide)) _ (Nat.le_refl _)) hs3 (fun q => absurd q (by decide)) _ (Nat.le_refl _)).cg (mx_two (a := 0) (b := 2) (v := 5) mx5 hW f)
  · rw [if_neg e5]
    by_cases e6 : v = 6
    · subst e6
      rw [if_pos rfl]
      exact (r_mxA (r_mxA hR hs3 (fun q => absurd q (by decide)) _ (Nat.le_refl _)) hs3 (fun q => absurd q (by decide)) _ (Nat.le_refl _)).cg (mx_two (a := 2) (b := 1) (v := 6) mx6 hW f)
    · rw [if_neg e6]
      exact r_mxA hR hs3 h3 _ (Nat.le_refl _)
/-! reading -/
theorem rowF_c (op : Int32 → Int32 → Int32) {f f' : Nat → Int32} {y : Nat} (n : Nat) (acc : Int32) (h : ∀ x, x < n → f (y * 32 + x) = f' (y * 32 + x)) : rowF op f y n acc = rowF op f' y n acc := by
  induction n with
  | zero => rfl
  | succ n ih => simp only [rowF]; rw [ih (fun x hx => h x (by omega)), h n (by omega)]
theorem allF_c (op : Int32 → Int32 → Int32) {f f' : Nat → Int32} {w : Nat} (n : Nat) (acc : Int32) (h : ∀ y, y < n → ∀ x, x < w → f (y * 32 + x) = f' (y * 32 + x)) : allF op f w n acc = allF op f' w n acc := by
  induction n with
  | zero => rfl
  | succ n ih => simp only [allF]; rw [ih (fun y hy => h y (by omega)), rowF_c op w _ (h n (by omega))]
theorem r_at {f : Nat → Nat → Int32} {w h : Nat → Nat} {S : Nat → Int32} {k : Nat} (hR : Rel f w h S) (hk : k < 4) {y x : Nat} (hy : y < h k) (hx : x < w k) : f k (y * 32 + x) = S (1024 * k + (y * 32 + x)) := by
  rw [(hR.2 k hk y hy x hx).1]; congr 1; omega
theorem r_look {f : Nat → Nat → Int32} {w h : Nat → Nat} {S : Nat → Int32} {k v : Nat} (hR : Rel f w h S) (hk : k < 4) : lkv v (f k) (w k) (h k) = lkv v (fun j => S (1024 * k + j)) (w k) (h k) := by
  unfold lkv
  rw [allF_c (f' := fun j => S (1024 * k + j)) (fun a b => a + b) (h k) 0 (fun y hy x hx => r_at hR hk hy hx), allF_c (f' := fun j => S (1024 * k + j)) (fun a b => if b < a then b else a) (h k) 255 (fun y hy x hx => r_at hR hk hy hx), allF_c (f' := fun j => S (1024 * k + j)) (fun a b => if a < b then b else a) (h k) 0 (fun y hy x hx => r_at hR hk hy hx)]
theorem r_apart {f : Nat → Nat → Int32} {w h : Nat → Nat} {S : Nat → Int32} {k k2 : Nat} (hR : Rel f w h S) (hk : k < 4) (hk2 : k2 < 4) : (if w k = w k2 ∧ h k = h k2 then allF (fun a b => if a < b then b else a) (fun j => zab (f k j - f k2 j)) (w k) (h k) 0 else -1) = if w k = w k2 ∧ h k = h k2 then allF (fun a b => if a < b then b else a) (fun j => zab (S (1024 * k + j) - S (1024 * k2 + j))) (w k) (h k) 0 else -1 := by
  by_cases c : w k = w k2 ∧ h k = h k2
  · rw [if_pos c, if_pos c]
    refine allF_c _ (h k) 0 (fun y hy x hx => ?_)
    rw [r_at hR hk hy hx, r_at hR hk2 (by omega) (by omega)]
  · rw [if_neg c, if_neg c]
/-! eight samples as one number -/
theorem ei_c : ∀ i, i < 8 → (((8 : Int32) * (7 - nI i)).toInt64 &&& 63).toBitVec.smod 64 = BitVec.ofNat 64 (8 * (7 - i)) := by decide +kernel
theorem e8_c : ((8 : Int32).toInt64 &&& 63).toBitVec.smod 64 = BitVec.ofNat 64 8 := by decide +kernel
def eig (g : Nat → Int64) : Nat → Int64
  | 0 => 0
  | i + 1 => eig g i ||| (g i <<< (((8 : Int32) * (7 - nI i)).toInt64 &&& 63))
def eim (g : Nat → Int64) : Nat → Int64
  | 0 => 0
  | i + 1 => (eim g i <<< ((8 : Int32).toInt64 &&& 63)) ||| g i
theorem shl_or (x y : BitVec 64) (n : Nat) : (x ||| y) <<< n = x <<< n ||| y <<< n := BitVec.shiftLeft_or_distrib x y n
theorem ei_eq (g : Nat → Int64) (n : Nat) : n ≤ 8 → (eig g n).toBitVec = (eim g n).toBitVec <<< (8 * (8 - n)) := by
  induction n with
  | zero => intro _; simp [eig, eim]
  | succ n ih =>
    intro hn
    simp only [eig, eim]
    rw [Int64.toBitVec_or, Int64.toBitVec_or, Int64.toBitVec_shiftLeft, Int64.toBitVec_shiftLeft, ei_c n (by omega), e8_c, ih (by omega), shl_or, BitVec.shiftLeft_eq', BitVec.shiftLeft_eq', ← BitVec.shiftLeft_add, BitVec.toNat_ofNat, BitVec.toNat_ofNat, Nat.mod_eq_of_lt (by omega : 8 * (7 - n) < 2 ^ 64), Nat.mod_eq_of_lt (by omega : 8 < 2 ^ 64), show 8 + 8 * (8 - (n + 1)) = 8 * (8 - n) by omega, show 8 * (8 - (n + 1)) = 8 * (7 - n) by omega]
theorem ei_eq8 (g : Nat → Int64) : eig g 8 = eim g 8 := by
  apply Int64.toBitVec_inj.mp
  rw [ei_eq g 8 (Nat.le_refl _)]
  exact BitVec.shiftLeft_zero _
theorem r_eight {f : Nat → Nat → Int32} {w h : Nat → Nat} {S : Nat → Int32} {k : Nat} {x y : Int32} (hR : Rel f w h S) (hk : k < 4) : eiL (f k) (w k) (h k) x y 8 = meL S k (w k) (h k) x y 8 := by
  have hW := hR.1 k hk
  have e1 : ∀ n, eiL (f k) (w k) (h k) x y n = eig (fun i => (if hasB (nI (w k)) (nI (h k)) (x + nI i) y = true then f k (y * 32 + (x + nI i)).toNatClampNeg else 0).toInt64) n := by
    intro n
    induction n with
    | zero => rfl
    | succ n ih =>
      simp only [eiL, eig]
      by_cases c : hasB (nI (w k)) (nI (h k)) (x + nI n) y = true
      · rw [if_pos c, if_pos c, ih]
      · rw [if_neg c, if_neg c, ih]
        apply Int64.toBitVec_inj.mp
        rw [Int64.toBitVec_or, Int64.toBitVec_shiftLeft]
        have : ((0 : Int32).toInt64).toBitVec = 0#64 := by decide
        rw [this]
        simp
  have e2 : ∀ n, meL S k (w k) (h k) x y n = eim (fun i => (if hasB (nI (w k)) (nI (h k)) (x + nI i) y = true then f k (y * 32 + (x + nI i)).toNatClampNeg else 0).toInt64) n := by
    intro n
    induction n with
    | zero => rfl
    | succ n ih =>
      simp only [meL, eim]
      rw [ih]
      by_cases c : hasB (nI (w k)) (nI (h k)) (x + nI n) y = true
      · rw [if_pos c, if_pos c]
        obtain ⟨a, b, ha, hb, ea, eb⟩ := hasB_of hW.2.1 hW.2.2.2 c
        have ei : (y * 32 + (x + nI n)).toNatClampNeg = b * 32 + a := by
          rw [ea, eb, show (32 : Int32) = nI 32 from rfl, nIm, nI_add]
          exact nI_clamp (by omega)
        rw [ei, r_at hR hk hb ha]
      · rw [if_neg c, if_neg c]
  rw [e1, e2]
  exact ei_eq8 _
