/-! growing -/
theorem gA_c {t : Bool} {L L' : Nat → Int32} {w i : Nat} (h : ∀ j, j < w → L j = L' j) (hi : i < w) : gA t L i = gA t L' i := by
  unfold gA gBe
  rw [h i hi, h (i - 1) (by omega)]
theorem gB_c {t : Bool} {L L' : Nat → Int32} {w i : Nat} (h : ∀ j, j < w → L j = L' j) (hi : i < w) : gB t L w i = gB t L' w i := by
  unfold gB gAf
  by_cases c : i + 1 < w
  · rw [h i hi, h (i + 1) c]
  · rw [if_neg (by omega), if_neg (by omega), h i hi]
def GA (t : Bool) (L : Nat → Int32) (w x : Nat) : Int32 := if x % 2 = 0 then gA t L (x / 2) else gB t L w (x / 2)
theorem GA_c {t : Bool} {L L' : Nat → Int32} {w x : Nat} (h : ∀ j, j < w → L j = L' j) (hx : x < 2 * w) : GA t L w x = GA t L' w x := by
  unfold GA
  split
  · exact gA_c h (by omega)
  · exact gB_c h (by omega)
theorem GA_0 (t : Bool) (L : Nat → Int32) (w : Nat) {x n : Nat} (h : x = 2 * n) : GA t L w x = gA t L n := by
  unfold GA; rw [if_pos (by omega), show x / 2 = n by omega]
theorem GA_1 (t : Bool) (L : Nat → Int32) (w : Nat) {x n : Nat} (h : x = 2 * n + 1) : GA t L w x = gB t L w n := by
  unfold GA; rw [if_neg (by omega), show x / 2 = n by omega]
def AC (t : Bool) (O : Nat → Int32) (a y x : Nat) : Int32 := if x % 2 = 0 then acA t O y (x / 2) else acB t O a y (x / 2)
theorem AC_0 (t : Bool) (O : Nat → Int32) (a y : Nat) {x n : Nat} (h : x = 2 * n) : AC t O a y x = acA t O y n := by
  unfold AC; rw [if_pos (by omega), show x / 2 = n by omega]
theorem AC_1 (t : Bool) (O : Nat → Int32) (a y : Nat) {x n : Nat} (h : x = 2 * n + 1) : AC t O a y x = acB t O a y n := by
  unfold AC; rw [if_neg (by omega), show x / 2 = n by omega]
def DO (t : Bool) (O : Nat → Int32) (b y x : Nat) : Int32 := if y % 2 = 0 then doA t O (y / 2) x else doB t O b (y / 2) x
theorem DO_0 (t : Bool) (O : Nat → Int32) (b x : Nat) {y n : Nat} (h : y = 2 * n) : DO t O b y x = doA t O n x := by
  unfold DO; rw [if_pos (by omega), show y / 2 = n by omega]
theorem DO_1 (t : Bool) (O : Nat → Int32) (b x : Nat) {y n : Nat} (h : y = 2 * n + 1) : DO t O b y x = doB t O b n x := by
  unfold DO; rw [if_neg (by omega), show y / 2 = n by omega]
theorem grw_r (t : Bool) (L : Nat → Int32) (len st : Nat) (f : Nat → Int32) (n j : Nat) : grw t L len st 1 f n j = if st ≤ j ∧ j < st + 2 * n then GA t L len (j - st) else f j := by
  induction n with
  | zero => rw [if_neg (by omega)]; rfl
  | succ n ih =>
    simp only [grw, upd_at]
    by_cases h : j = st + (2 * n + 1) * 1
    · rw [if_pos h, if_pos (by omega), GA_1 t L len (n := n) (by omega)]
    · rw [if_neg h]
      by_cases h2 : j = st + 2 * n * 1
      · rw [if_pos h2, if_pos (by omega), GA_0 t L len (n := n) (by omega)]
      · rw [if_neg h2, ih]
        by_cases h3 : st ≤ j ∧ j < st + 2 * n
        · rw [if_pos h3, if_pos (by omega)]
        · rw [if_neg h3, if_neg (by omega)]
theorem grw_c (t : Bool) (L : Nat → Int32) (len : Nat) {x : Nat} (hx : x < 32) (f : Nat → Int32) (n : Nat) : ∀ y x', x' < 32 → grw t L len x 32 f n (y * 32 + x') = if x' = x ∧ y < 2 * n then GA t L len y else f (y * 32 + x') := by
  induction n with
  | zero => intro y x' _; rw [if_neg (by omega)]; rfl
  | succ n ih =>
    intro y x' hx'
    simp only [grw, upd_at]
    by_cases h : y * 32 + x' = x + (2 * n + 1) * 32
    · rw [if_pos h, if_pos (by omega), GA_1 t L len (n := n) (by omega)]
    · rw [if_neg h]
      by_cases h2 : y * 32 + x' = x + 2 * n * 32
      · rw [if_pos h2, if_pos (by omega), GA_0 t L len (n := n) (by omega)]
      · rw [if_neg h2, ih y x' hx']
        by_cases h3 : x' = x ∧ y < 2 * n
        · rw [if_pos h3, if_pos (by omega)]
        · rw [if_neg h3, if_neg (by omega)]
theorem grA_at (t : Bool) {w : Nat} (f g : Nat → Int32) (hw : 2 * w ≤ 32) (n : Nat) : ∀ y x, x < 32 → (grA t w f g n).1 (y * 32 + x) = if y < n ∧ x < 2 * w then GA t (fun j => f (y * 32 + j)) w x else f (y * 32 + x) := by
  induction n with
  | zero => intro y x _; rw [if_neg (by omega)]; rfl
  | succ n ih =>
    intro y x hx
    simp only [grA]
    rw [grw_r]
    by_cases h : y = n ∧ x < 2 * w
    · obtain ⟨rfl, h⟩ := h
      rw [if_pos (by omega), if_pos (by omega), show y * 32 + x - y * 32 = x by omega]
      refine GA_c (fun j hj => ?_) h
      unfold cpyL
      rw [if_pos hj, show y * 32 + j * 1 = y * 32 + j by omega, ih y j (by omega), if_neg (by omega)]
    · rw [if_neg (by omega), ih y x hx]
      by_cases h2 : y < n ∧ x < 2 * w
      · rw [if_pos h2, if_pos (by omega)]
      · rw [if_neg h2, if_neg (by omega)]
theorem grD_at (t : Bool) {h : Nat} (f g : Nat → Int32) (n : Nat) : n ≤ 32 → ∀ y x, x < 32 → (grD t h f g n).1 (y * 32 + x) = if x < n ∧ y < 2 * h then GA t (fun j => f (j * 32 + x)) h y else f (y * 32 + x) := by
  induction n with
  | zero => intro _ y x _; rw [if_neg (by omega)]; rfl
  | succ n ih =>
    intro hn y x hx
    simp only [grD]
    rw [grw_c _ _ _ (by omega) _ _ y x hx]
    by_cases c : x = n ∧ y < 2 * h
    · obtain ⟨rfl, c⟩ := c
      rw [if_pos (by omega), if_pos (by omega)]
      refine GA_c (fun j hj => ?_) c
      unfold cpyL
      rw [if_pos hj, show x + j * 32 = j * 32 + x by omega, ih (by omega) j x (by omega), if_neg (by omega)]
    · rw [if_neg (by omega), ih (by omega) y x hx]
      by_cases h2 : x < n ∧ y < 2 * h
      · rw [if_pos h2, if_pos (by omega)]
      · rw [if_neg h2, if_neg (by omega)]
theorem acX_at (t : Bool) (O : Nat → Int32) (a k y : Nat) (S : Nat → Int32) (n j : Nat) : acX t O a k y S n j = if 1024 * k + 32 * y ≤ j ∧ j < 1024 * k + 32 * y + 2 * n then AC t O a y (j - (1024 * k + 32 * y)) else S j := by
  induction n with
  | zero => rw [if_neg (by omega)]; rfl
  | succ n ih =>
    simp only [acX, upd_at]
    by_cases h : j = 1024 * k + 32 * y + (2 * n + 1)
    · rw [if_pos h, if_pos (by omega), AC_1 t O a y (n := n) (by omega)]
    · rw [if_neg h]
      by_cases h2 : j = 1024 * k + 32 * y + 2 * n
      · rw [if_pos h2, if_pos (by omega), AC_0 t O a y (n := n) (by omega)]
      · rw [if_neg h2, ih]
        by_cases h3 : 1024 * k + 32 * y ≤ j ∧ j < 1024 * k + 32 * y + 2 * n
        · rw [if_pos h3, if_pos (by omega)]
        · rw [if_neg h3, if_neg (by omega)]
theorem acY_at (t : Bool) (O : Nat → Int32) {a k : Nat} (S : Nat → Int32) (ha : 2 * a ≤ 32) (n : Nat) : ∀ y x, x < 32 → acY t O a k S n (1024 * k + 32 * y + x) = if y < n ∧ x < 2 * a then AC t O a y x else S (1024 * k + 32 * y + x) := by
  induction n with
  | zero => intro y x _; rw [if_neg (by omega)]; rfl
  | succ n ih =>
    intro y x hx
    simp only [acY]
    rw [acX_at]
    by_cases h : y = n ∧ x < 2 * a
    · obtain ⟨rfl, h⟩ := h
      rw [if_pos (by omega), if_pos (by omega), show 1024 * k + 32 * y + x - (1024 * k + 32 * y) = x by omega]
    · rw [if_neg (by omega), ih y x hx]
      by_cases h2 : y < n ∧ x < 2 * a
      · rw [if_pos h2, if_pos (by omega)]
      · rw [if_neg h2, if_neg (by omega)]
theorem acY_out (t : Bool) (O : Nat → Int32) {a k : Nat} (S : Nat → Int32) (ha : 2 * a ≤ 32) (n : Nat) : n ≤ 32 → outK k S (acY t O a k S n) := by
  induction n with
  | zero => intro _ j _; rfl
  | succ n ih =>
    intro hn j hj
    simp only [acY]
    rw [acX_at, if_neg (by omega)]
    exact ih (by omega) j hj
theorem doX_at (t : Bool) (O : Nat → Int32) (b k y : Nat) (S : Nat → Int32) (n : Nat) : n ≤ 32 → ∀ j, doX t O b k y S n j = if 1024 * k + 32 * (2 * y) ≤ j ∧ j < 1024 * k + 32 * (2 * y) + n then doA t O y (j - (1024 * k + 32 * (2 * y))) else if 1024 * k + 32 * (2 * y + 1) ≤ j ∧ j < 1024 * k + 32 * (2 * y + 1) + n then doB t O b y (j - (1024 * k + 32 * (2 * y + 1))) else S j := by
  induction n with
  | zero => intro _ j; rw [if_neg (by omega), if_neg (by omega)]; rfl
  | succ n ih =>
    intro hn j
    simp only [doX, upd_at]
    by_cases h : j = 1024 * k + 32 * (2 * y + 1) + n
    · rw [if_pos h, if_neg (by omega), if_pos (by omega)]; congr 1; omega
    · rw [if_neg h]
      by_cases h2 : j = 1024 * k + 32 * (2 * y) + n
      · rw [if_pos h2, if_pos (by omega)]; congr 1; omega
      · rw [if_neg h2, ih (by omega)]
        by_cases h3 : 1024 * k + 32 * (2 * y) ≤ j ∧ j < 1024 * k + 32 * (2 * y) + n
        · rw [if_pos h3, if_pos (by omega)]
        · rw [if_neg h3, if_neg (c := 1024 * k + 32 * (2 * y) ≤ j ∧ j < 1024 * k + 32 * (2 * y) + (n + 1)) (by omega)]
          by_cases h4 : 1024 * k + 32 * (2 * y + 1) ≤ j ∧ j < 1024 * k + 32 * (2 * y + 1) + n
          · rw [if_pos h4, if_pos (by omega)]
          · rw [if_neg h4, if_neg (by omega)]
theorem doY_at (t : Bool) (O : Nat → Int32) {a b k : Nat} (S : Nat → Int32) (ha : a ≤ 32) (n : Nat) : ∀ y x, x < 32 → doY t O a b k S n (1024 * k + 32 * y + x) = if y < 2 * n ∧ x < a then DO t O b y x else S (1024 * k + 32 * y + x) := by
  induction n with
  | zero => intro y x _; rw [if_neg (by omega)]; rfl
  | succ n ih =>
    intro y x hx
    simp only [doY]
    rw [doX_at _ _ _ _ _ _ _ ha]
    by_cases h : y = 2 * n ∧ x < a
    · rw [if_pos (by omega), if_pos (by omega), DO_0 t O b x (n := n) (by omega)]; congr 1; omega
    · rw [if_neg (by omega)]
      by_cases h2 : y = 2 * n + 1 ∧ x < a
      · rw [if_pos (by omega), if_pos (by omega), DO_1 t O b x (n := n) (by omega)]; congr 1; omega
      · rw [if_neg (by omega), ih y x hx]
        by_cases h3 : y < 2 * n ∧ x < a
        · rw [if_pos h3, if_pos (by omega)]
        · rw [if_neg h3, if_neg (by omega)]
theorem doY_out (t : Bool) (O : Nat → Int32) {a b k : Nat} (S : Nat → Int32) (ha : a ≤ 32) (n : Nat) : 2 * n ≤ 32 → outK k S (doY t O a b k S n) := by
  induction n with
  | zero => intro _ j _; rfl
  | succ n ih =>
    intro hn j hj
    simp only [doY]
    rw [doX_at _ _ _ _ _ _ _ ha, if_neg (by omega), if_neg (by omega)]
    exact ih (by omega) j hj
theorem av3 (a b c : Nat) : 3 * nI a + nI b + nI c = nI (3 * a + b + c) := by
  rw [za, za, zm]; rfl
theorem gA_sm {t : Bool} {L : Nat → Int32} {i : Nat} (h : sm (L i)) (h2 : sm (L (i - 1))) : sm (gA t L i) ∧ (t = false → gA t L i = L i) ∧ (t = true → gA t L i = (3 * L i + L (i - 1) + 1) >>> ((2 : Int32) &&& 31)) := by
  obtain ⟨a, ha, e1⟩ := h
  obtain ⟨b, hb, e2⟩ := h2
  unfold gA gBe
  refine ⟨?_, fun ht => ?_, fun ht => ?_⟩
  · split
    · rw [e1, e2, show (1 : Int32) = nI 1 from rfl, av3, z_sh (by omega)]; exact ⟨_, by omega, rfl⟩
    · rw [e1, show (1 : Int32) = nI 1 from rfl, av3, z_sh (by omega)]; exact ⟨_, by omega, rfl⟩
  · rw [if_neg (by rw [ht]; simp), e1, show (1 : Int32) = nI 1 from rfl, av3, z_sh (by omega)]; congr 1; omega
  · by_cases c : 0 < i
    · rw [if_pos ⟨ht, c⟩]
    · rw [if_neg (fun q => c q.2), show i - 1 = i by omega]
theorem gB_sm {t : Bool} {L : Nat → Int32} {w i : Nat} (hi : i < w) (h : sm (L i)) (h2 : sm (L (cl1 (i + 1) w))) : sm (gB t L w i) ∧ (t = false → gB t L w i = L i) ∧ (t = true → gB t L w i = (3 * L i + L (cl1 (i + 1) w) + 2) >>> ((2 : Int32) &&& 31)) := by
  have hc : (i + 1 < w → cl1 (i + 1) w = i + 1) ∧ (¬ i + 1 < w → cl1 (i + 1) w = i) := by
    unfold cl1
    refine ⟨fun c => if_pos c, fun c => ?_⟩
    rw [if_neg c]; omega
  obtain ⟨a, ha, e1⟩ := h
  obtain ⟨b, hb, e2⟩ := h2
  unfold gB gAf
  refine ⟨?_, fun ht => ?_, fun ht => ?_⟩
  · split
    · next q => rw [hc.1 q.2] at e2; rw [e1, e2, show (2 : Int32) = nI 2 from rfl, av3]; exact ⟨_, by omega, z_sh (by omega)⟩
    · rw [e1, show (2 : Int32) = nI 2 from rfl, av3]; exact ⟨_, by omega, z_sh (by omega)⟩
  · rw [if_neg (by rw [ht]; simp), e1]
    refine Eq.trans ?_ (congrArg nI (show (3 * a + a + 2) / 4 = a by omega))
    rw [show 3 * nI a + nI a + 2 = nI (3 * a + a + 2) from av3 a a 2]
    exact z_sh (by omega)
  · by_cases c : i + 1 < w
    · rw [if_pos ⟨ht, c⟩, hc.1 c]
    · rw [if_neg (fun q => c q.2), hc.2 c]
theorem pr_A {t : Bool} {F S O g : Nat → Int32} {k w h : Nat} (hP : PR F S k w h) (hw : 1 ≤ w) (hw2 : 2 * w ≤ 32) (hh : h ≤ 32) : PR (grA t w F g h).1 (acY t (mkp S O k 1024) w k S h) k (2 * w) h := by
  intro y hy x hx
  have hO : ∀ j, j < w → mkp S O k 1024 (32 * y + j) = F (y * 32 + j) := fun j hj => by
    rw [mkp_at, if_pos (by omega), (hP y hy j hj).1]; congr 1; omega
  rw [grA_at t F g hw2 h y x (by omega), if_pos ⟨hy, hx⟩, acY_at t _ S hw2 h y x (by omega), if_pos ⟨hy, hx⟩]
  unfold GA AC
  by_cases cx : x % 2 = 0
  · rw [if_pos cx, if_pos cx]
    obtain ⟨h1, h2, h3⟩ := gA_sm (t := t) (L := fun j => F (y * 32 + j)) (i := x / 2) (hP y hy _ (by omega)).2 (hP y hy _ (by omega)).2
    refine ⟨?_, h1⟩
    unfold acA
    cases t with
    | false => rw [h2 rfl, if_neg (by decide), hO _ (by omega)]
    | true => rw [h3 rfl, if_pos rfl, hO _ (by omega), hO _ (by omega)]
  · rw [if_neg cx, if_neg cx]
    have hc := cl1_lt (x := x / 2 + 1) (n := w) hw
    obtain ⟨h1, h2, h3⟩ := gB_sm (t := t) (L := fun j => F (y * 32 + j)) (w := w) (i := x / 2) (by omega) (hP y hy _ (by omega)).2 (hP y hy _ hc).2
    refine ⟨?_, h1⟩
    unfold acB
    cases t with
    | false => rw [h2 rfl, if_neg (by decide), hO _ (by omega)]
    | true => rw [h3 rfl, if_pos rfl, hO _ (by omega), hO _ hc]
theorem pr_D {t : Bool} {F S O g : Nat → Int32} {k w h : Nat} (hP : PR F S k w h) (hh : 1 ≤ h) (hh2 : 2 * h ≤ 32) (hw : w ≤ 32) : PR (grD t h F g w).1 (doY t (mkp S O k 1024) w h k S h) k w (2 * h) := by
  intro y hy x hx
  have hO : ∀ j, j < h → mkp S O k 1024 (32 * j + x) = F (j * 32 + x) := fun j hj => by
    rw [mkp_at, if_pos (by omega), (hP j hj x hx).1]; congr 1; omega
  rw [grD_at t F g w hw y x (by omega), if_pos ⟨hx, hy⟩, doY_at t _ S hw h y x (by omega), if_pos ⟨hy, hx⟩]
  unfold GA DO
  by_cases cx : y % 2 = 0
  · rw [if_pos cx, if_pos cx]
    obtain ⟨h1, h2, h3⟩ := gA_sm (t := t) (L := fun j => F (j * 32 + x)) (i := y / 2) (hP _ (by omega) x hx).2 (hP _ (by omega) x hx).2
    refine ⟨?_, h1⟩
    unfold doA
    cases t with
    | false => rw [h2 rfl, if_neg (by decide), hO _ (by omega)]
    | true => rw [h3 rfl, if_pos rfl, hO _ (by omega), hO _ (by omega)]
  · rw [if_neg cx, if_neg cx]
    have hc := cl1_lt (x := y / 2 + 1) (n := h) hh
    obtain ⟨h1, h2, h3⟩ := gB_sm (t := t) (L := fun j => F (j * 32 + x)) (w := h) (i := y / 2) (by omega) (hP _ (by omega) x hx).2 (hP _ hc x hx).2
    refine ⟨?_, h1⟩
    unfold doB
    cases t with
    | false => rw [h2 rfl, if_neg (by decide), hO _ (by omega)]
    | true => rw [h3 rfl, if_pos rfl, hO _ (by omega), hO _ hc]
theorem r_grow {f g : Nat → Nat → Int32} {w h : Nat → Nat} {S O : Nat → Int32} {k v : Nat} (hR : Rel f w h S) (hk : k < 4) (hT : ¬ tooL v (w k) (h k)) : (mgro v S O (w k) (h k) k).2.1 = (gro v (f k) (g k) (w k) (h k)).2.2.1 ∧ (mgro v S O (w k) (h k) k).2.2 = (gro v (f k) (g k) (w k) (h k)).2.2.2 ∧ Rel (va_up f k (gro v (f k) (g k) (w k) (h k)).1) (va_up w k (gro v (f k) (g k) (w k) (h k)).2.2.1) (va_up h k (gro v (f k) (g k) (w k) (h k)).2.2.2) (mgro v S O (w k) (h k) k).1 := by
  have hW := hR.1 k hk
  have hP := hR.2 k hk
  unfold gro mgro
  unfold tooL at hT
  by_cases cA : groA v = true
  · have hA : 2 * w k ≤ 32 := by
      by_cases q : 32 < 2 * w k
      · exact absurd (Or.inl ⟨cA, q⟩) hT
      · omega
    have h1 := pr_A (t := groT v) (O := O) (g := g k) hP hW.1 hA hW.2.2.2
    have o1 := acY_out (groT v) (mkp S O k 1024) (k := k) S hA (h k) hW.2.2.2
    by_cases cD : groD v = true
    · have hD : 2 * h k ≤ 32 := by
        by_cases q : 32 < 2 * h k
        · exact absurd (Or.inr ⟨cD, q⟩) hT
        · omega
      simp only [cA, cD, if_true, if_false]
      refine ⟨by first | rfl | trivial, by first | rfl | trivial, hR.up (W := 2 * w k) (H := 2 * h k) (by omega) (pr_D h1 hW.2.2.1 hD hA) (fun j hj => ?_)⟩
      rw [doY_out _ _ _ hA _ hD j hj]
      exact o1 j hj
    · simp only [cA, cD, if_true, if_false]
      exact ⟨by first | rfl | trivial, by first | rfl | trivial, hR.up (W := 2 * w k) (H := h k) (by omega) h1 o1⟩
  · by_cases cD : groD v = true
    · have hD : 2 * h k ≤ 32 := by
        by_cases q : 32 < 2 * h k
        · exact absurd (Or.inr ⟨cD, q⟩) hT
        · omega
      simp only [cA, cD, if_true, if_false]
      exact ⟨by first | rfl | trivial, by first | rfl | trivial, hR.up (W := w k) (H := 2 * h k) (by omega) (pr_D hP hW.2.2.1 hD hW.2.1) (doY_out _ _ _ hW.2.1 _ hD)⟩
    · simp only [cA, cD, if_false]
      refine ⟨by first | rfl | trivial, by first | rfl | trivial, hR.up hW hP (fun _ _ => rfl)⟩
/-! shrinking -/
theorem shv_c {f f' : Nat → Int32} {len st sp i : Nat} (h : ∀ j, i ≤ j → j < len → f (st + j * sp) = f' (st + j * sp)) (hi : 2 * i < len) : shv f len st sp i = shv f' len st sp i := by
  unfold shv
  rw [h (2 * i) (by omega) hi]
  split
  · rw [h (2 * i + 1) (by omega) (by omega)]
  · rw [h (len - 1) (by omega) (by omega)]
theorem shL_r (len st : Nat) (f : Nat → Int32) (n : Nat) : n ≤ (len + 1) / 2 → ∀ j, shL len st 1 f n j = if st ≤ j ∧ j < st + n then shv f len st 1 (j - st) else f j := by
  induction n with
  | zero => intro _ j; rw [if_neg (by omega)]; rfl
  | succ n ih =>
    intro hn j
    simp only [shL, upd_at]
    by_cases h : j = st + n * 1
    · rw [if_pos h, if_pos (by omega), show j - st = n by omega]
      refine shv_c (fun i h1 h2 => ?_) (by omega)
      rw [ih (by omega), if_neg (by omega)]
    · rw [if_neg h, ih (by omega)]
      by_cases h2 : st ≤ j ∧ j < st + n
      · rw [if_pos h2, if_pos (by omega)]
      · rw [if_neg h2, if_neg (by omega)]
theorem shL_c (len : Nat) {x : Nat} (hx : x < 32) (f : Nat → Int32) (n : Nat) : n ≤ (len + 1) / 2 → ∀ y x', x' < 32 → shL len x 32 f n (y * 32 + x') = if x' = x ∧ y < n then shv f len x 32 y else f (y * 32 + x') := by
  induction n with
  | zero => intro _ y x' _; rw [if_neg (by omega)]; rfl
  | succ n ih =>
    intro hn y x' hx'
    simp only [shL, upd_at]
    by_cases h : y * 32 + x' = x + n * 32
    · rw [if_pos h, if_pos (by omega), show y = n by omega]
      refine shv_c (fun i h1 h2 => ?_) (by omega)
      rw [show x + i * 32 = i * 32 + x by omega, ih (by omega) i x hx, if_neg (by omega)]
    · rw [if_neg h, ih (by omega) y x' hx']
      by_cases h2 : x' = x ∧ y < n
      · rw [if_pos h2, if_pos (by omega)]
      · rw [if_neg h2, if_neg (by omega)]
theorem shA_at {w : Nat} (f : Nat → Int32) (hw : w ≤ 32) (n : Nat) : ∀ y x, x < 32 → shA w f n (y * 32 + x) = if y < n ∧ x < (w + 1) / 2 then shv f w (y * 32) 1 x else f (y * 32 + x) := by
  induction n with
  | zero => intro y x _; rw [if_neg (by omega)]; rfl
  | succ n ih =>
    intro y x hx
    simp only [shA]
    rw [shL_r _ _ _ _ (Nat.le_refl _)]
    by_cases h : y = n ∧ x < (w + 1) / 2
    · obtain ⟨rfl, h⟩ := h
      rw [if_pos (by omega), if_pos (by omega), show y * 32 + x - y * 32 = x by omega]
      refine shv_c (fun i h1 h2 => ?_) (by omega)
      rw [show y * 32 + i * 1 = y * 32 + i by omega, ih y i (by omega), if_neg (by omega)]
    · rw [if_neg (by omega), ih y x hx]
      by_cases h2 : y < n ∧ x < (w + 1) / 2
      · rw [if_pos h2, if_pos (by omega)]
      · rw [if_neg h2, if_neg (by omega)]
theorem shD_at {h : Nat} (f : Nat → Int32) (n : Nat) : n ≤ 32 → ∀ y x, x < 32 → shD h f n (y * 32 + x) = if x < n ∧ y < (h + 1) / 2 then shv f h x 32 y else f (y * 32 + x) := by
  induction n with
  | zero => intro _ y x _; rw [if_neg (by omega)]; rfl
  | succ n ih =>
    intro hn y x hx
    simp only [shD]
    rw [shL_c _ (by omega) _ _ (Nat.le_refl _) y x hx]
    by_cases c : x = n ∧ y < (h + 1) / 2
    · obtain ⟨rfl, c⟩ := c
      rw [if_pos (by omega), if_pos (by omega)]
      refine shv_c (fun i h1 h2 => ?_) (by omega)
      rw [show x + i * 32 = i * 32 + x by omega, ih (by omega) i x hx, if_neg (by omega)]
    · rw [if_neg (by omega), ih (by omega) y x hx]
      by_cases h2 : x < n ∧ y < (h + 1) / 2
      · rw [if_pos h2, if_pos (by omega)]
      · rw [if_neg h2, if_neg (by omega)]
def SB (f : Nat → Int32) (w h y x : Nat) : Int32 := (s4 f w h (2 * x) (2 * y) + 1 + nI (x % 2)) >>> ((2 : Int32) &&& 31)
theorem s4_c {f f' : Nat → Int32} {w h y x : Nat} (hx : 2 * x < w) (hy : 2 * y < h) (c : ∀ Y X, Y < h → X < w → (y < Y ∨ (y ≤ Y ∧ x ≤ X)) → f (Y * 32 + X) = f' (Y * 32 + X)) : s4 f w h (2 * x) (2 * y) = s4 f' w h (2 * x) (2 * y) := by
  have hX : mn (2 * x + 1) (w - 1) < w ∧ x ≤ mn (2 * x + 1) (w - 1) := by unfold mn; split <;> omega
  have hY : mn (2 * y + 1) (h - 1) < h ∧ y ≤ mn (2 * y + 1) (h - 1) := by unfold mn; split <;> omega
  unfold s4
  rw [c (2 * y) (2 * x) hy hx (by omega), c (2 * y) _ hy hX.1 (by omega), c _ (2 * x) hY.1 hx (by omega), c _ _ hY.1 hX.1 (by omega)]
theorem shBx_at {w h y : Nat} (f : Nat → Int32) (hw : w ≤ 32) (hy : 2 * y < h) (n : Nat) : n ≤ (w + 1) / 2 → ∀ Y X, X < 32 → shBx w h y f n (Y * 32 + X) = if Y = y ∧ X < n then SB f w h y X else f (Y * 32 + X) := by
  induction n with
  | zero => intro _ Y X _; rw [if_neg (by omega)]; rfl
  | succ n ih =>
    intro hn Y X hX
    simp only [shBx, upd_at]
    by_cases e : Y * 32 + X = y * 32 + n
    · rw [if_pos e, if_pos (by omega), show X = n by omega]
      unfold SB
      rw [s4_c (f' := f) (by omega) hy (fun Y' X' h1 h2 h3 => by rw [ih (by omega) Y' X' (by omega), if_neg (by omega)])]
    · rw [if_neg e, ih (by omega) Y X hX]
      by_cases h2 : Y = y ∧ X < n
      · rw [if_pos h2, if_pos (by omega)]
      · rw [if_neg h2, if_neg (by omega)]
theorem shB_at {w h : Nat} (f : Nat → Int32) (hw : w ≤ 32) (n : Nat) : n ≤ (h + 1) / 2 → ∀ Y X, X < 32 → shB w h f n (Y * 32 + X) = if Y < n ∧ X < (w + 1) / 2 then SB f w h Y X else f (Y * 32 + X) := by
  induction n with
  | zero => intro _ Y X _; rw [if_neg (by omega)]; rfl
  | succ n ih =>
    intro hn Y X hX
    simp only [shB]
    rw [shBx_at _ hw (by omega) _ (Nat.le_refl _) Y X hX]
    by_cases e : Y = n ∧ X < (w + 1) / 2
    · obtain ⟨rfl, e⟩ := e
      rw [if_pos (by omega), if_pos (by omega)]
      unfold SB
      rw [s4_c (f' := f) (by omega) (by omega) (fun Y' X' h1 h2 h3 => by rw [ih (by omega) Y' X' (by omega), if_neg (by omega)])]
    · rw [if_neg (by omega), ih (by omega) Y X hX]
      by_cases h2 : Y < n ∧ X < (w + 1) / 2
      · rw [if_pos h2, if_pos (by omega)]
      · rw [if_neg h2, if_neg (by omega)]
theorem sm_h {a b : Int32} (ha : sm a) (hb : sm b) (i : Nat) : sm ((a + b + nI (i % 2)) >>> ((1 : Int32) &&& 31)) := by
  obtain ⟨x, hx, rfl⟩ := ha
  obtain ⟨y, hy, rfl⟩ := hb
  rw [nI_add, nI_add, z_sh1 (by omega)]
  exact ⟨_, by omega, rfl⟩
theorem sm_q {a b c d : Int32} (ha : sm a) (hb : sm b) (hc : sm c) (hd : sm d) (i : Nat) : sm ((a + b + c + d + 1 + nI (i % 2)) >>> ((2 : Int32) &&& 31)) := by
  obtain ⟨x, hx, rfl⟩ := ha
  obtain ⟨y, hy, rfl⟩ := hb
  obtain ⟨u, hu, rfl⟩ := hc
  obtain ⟨v, hv, rfl⟩ := hd
  rw [nI_add, nI_add, nI_add, nI_1, nI_add, z_sh (by omega)]
  exact ⟨_, by omega, rfl⟩
theorem cl1_eq {x n : Nat} (h : 1 ≤ n) : cl1 x n = if x ≤ n - 1 then x else n - 1 := by
  unfold cl1
  by_cases c : x < n
  · rw [if_pos c, if_pos (by omega)]
  · rw [if_neg c, if_neg (by omega)]
theorem mn_cl {x n : Nat} (h : 1 ≤ n) : mn x (n - 1) = cl1 x n := (cl1_eq h).symm
theorem r_shrink {f : Nat → Nat → Int32} {w h : Nat → Nat} {S O : Nat → Int32} {k v : Nat} (hR : Rel f w h S) (hk : k < 4) (hv : v < 3) : (shr v (f k) (w k) (h k)).2.1 = shw v (w k) ∧ (shr v (f k) (w k) (h k)).2.2 = shh v (h k) ∧ Rel (va_up f k (shr v (f k) (w k) (h k)).1) (va_up w k (shw v (w k))) (va_up h k (shh v (h k))) (ndY (msv v (mkp S O k 1024) (w k) (h k)) k (shw v (w k)) S (shh v (h k))) := by
  have hW := hR.1 k hk
  have hP := hR.2 k hk
  have hO : ∀ y x, y < h k → x < w k → mkp S O k 1024 (32 * y + x) = f k (y * 32 + x) := fun y x hy hx => by
    rw [mkp_at, if_pos (by omega), (hP y hy x hx).1]; congr 1; omega
  have hs1 : 1 ≤ shw v (w k) ∧ shw v (w k) ≤ 32 := by unfold shw; split <;> omega
  have hs2 : 1 ≤ shh v (h k) ∧ shh v (h k) ≤ 32 := by unfold shh; split <;> omega
  have fin : (shr v (f k) (w k) (h k)).2.1 = shw v (w k) → (shr v (f k) (w k) (h k)).2.2 = shh v (h k) → (∀ y, y < shh v (h k) → ∀ x, x < shw v (w k) → (shr v (f k) (w k) (h k)).1 (y * 32 + x) = msv v (mkp S O k 1024) (w k) (h k) y x ∧ sm ((shr v (f k) (w k) (h k)).1 (y * 32 + x))) → (shr v (f k) (w k) (h k)).2.1 = shw v (w k) ∧ (shr v (f k) (w k) (h k)).2.2 = shh v (h k) ∧ Rel (va_up f k (shr v (f k) (w k) (h k)).1) (va_up w k (shw v (w k))) (va_up h k (shh v (h k))) (ndY (msv v (mkp S O k 1024) (w k) (h k)) k (shw v (w k)) S (shh v (h k))) := fun h1 h2 h3 => by
    refine ⟨h1, h2, hR.up ⟨hs1.1, hs1.2, hs2.1, hs2.2⟩ (fun y hy x hx => ?_) (ndY_out _ _ hs1.2 _ hs2.2)⟩
    rw [ndY_at _ _ hs1.2 _ y x (by omega), if_pos ⟨hy, hx⟩]
    exact h3 y hy x hx
  obtain rfl | rfl | rfl : v = 0 ∨ v = 1 ∨ v = 2 := by omega
  · refine fin rfl rfl (fun y hy x hx => ?_)
    have hy : y < h k := hy
    have hx : x < (w k + 1) / 2 := hx
    have e1 : (shr 0 (f k) (w k) (h k)).1 (y * 32 + x) = shv (f k) (w k) (y * 32) 1 x := by
      show shA (w k) (f k) (h k) (y * 32 + x) = _
      rw [shA_at _ hW.2.1 _ y x (by omega), if_pos ⟨hy, hx⟩]
    have hc := cl1_lt (x := 2 * x + 1) (n := w k) hW.1
    have e2 : shv (f k) (w k) (y * 32) 1 x = (f k (y * 32 + 2 * x) + f k (y * 32 + cl1 (2 * x + 1) (w k)) + nI (x % 2)) >>> ((1 : Int32) &&& 31) := by
      unfold shv
      rw [← cl1_eq hW.1, Nat.mul_one, Nat.mul_one]
    rw [e1, e2]
    refine ⟨?_, sm_h (hP y hy _ (by omega)).2 (hP y hy _ hc).2 x⟩
    show _ = (mkp S O k 1024 (32 * y + 2 * x) + mkp S O k 1024 (32 * y + cl1 (2 * x + 1) (w k)) + nI (x % 2)) >>> ((1 : Int32) &&& 31)
    rw [hO y (2 * x) hy (by omega), hO y _ hy hc]
  · refine fin rfl rfl (fun y hy x hx => ?_)
    have hy : y < (h k + 1) / 2 := hy
    have hx : x < w k := hx
    have e1 : (shr 1 (f k) (w k) (h k)).1 (y * 32 + x) = shv (f k) (h k) x 32 y := by
      show shD (h k) (f k) (w k) (y * 32 + x) = _
      rw [shD_at _ _ hW.2.1 y x (by omega), if_pos ⟨hx, hy⟩]
    have hc := cl1_lt (x := 2 * y + 1) (n := h k) hW.2.2.1
    have e2 : shv (f k) (h k) x 32 y = (f k ((2 * y) * 32 + x) + f k (cl1 (2 * y + 1) (h k) * 32 + x) + nI (y % 2)) >>> ((1 : Int32) &&& 31) := by
      unfold shv
      rw [← cl1_eq hW.2.2.1, Nat.add_comm x, Nat.add_comm x]
    rw [e1, e2]
    refine ⟨?_, sm_h (hP _ (by omega) x hx).2 (hP _ hc x hx).2 y⟩
    show _ = (mkp S O k 1024 (32 * (2 * y) + x) + mkp S O k 1024 (32 * cl1 (2 * y + 1) (h k) + x) + nI (y % 2)) >>> ((1 : Int32) &&& 31)
    rw [hO (2 * y) x (by omega) hx, hO _ x hc hx]
  · refine fin rfl rfl (fun y hy x hx => ?_)
    have hy : y < (h k + 1) / 2 := hy
    have hx : x < (w k + 1) / 2 := hx
    have e1 : (shr 2 (f k) (w k) (h k)).1 (y * 32 + x) = SB (f k) (w k) (h k) y x := by
      show shB (w k) (h k) (f k) ((h k + 1) / 2) (y * 32 + x) = _
      rw [shB_at _ hW.2.1 _ (Nat.le_refl _) y x (by omega), if_pos ⟨hy, hx⟩]
    have hc := cl1_lt (x := 2 * x + 1) (n := w k) hW.1
    have hd := cl1_lt (x := 2 * y + 1) (n := h k) hW.2.2.1
    rw [e1]
    unfold SB s4
    rw [mn_cl hW.1, mn_cl hW.2.2.1]
    refine ⟨?_, sm_q (hP _ (by omega) _ (by omega)).2 (hP _ (by omega) _ hc).2 (hP _ hd _ (by omega)).2 (hP _ hd _ hc).2 x⟩
    show _ = (mkp S O k 1024 (32 * (2 * y) + 2 * x) + mkp S O k 1024 (32 * (2 * y) + cl1 (2 * x + 1) (w k)) + mkp S O k 1024 (32 * cl1 (2 * y + 1) (h k) + 2 * x) + mkp S O k 1024 (32 * cl1 (2 * y + 1) (h k) + cl1 (2 * x + 1) (w k)) + 1 + nI (x % 2)) >>> ((2 : Int32) &&& 31)
    rw [hO (2 * y) (2 * x) (by omega) (by omega), hO (2 * y) _ (by omega) hc, hO _ (2 * x) hd (by omega), hO _ _ hd hc]
