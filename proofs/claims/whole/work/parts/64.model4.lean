/-! the reference's grow, shrink, extend -/
def cl1 (x n : Nat) : Nat := if x < n then x else n - 1
theorem cl1_lt {x n : Nat} (h : 1 ≤ n) : cl1 x n < n := by unfold cl1; split <;> omega
def acA (t : Bool) (O : Nat → Int32) (y x : Nat) : Int32 := if t = true then (3 * O (32 * y + x) + O (32 * y + (x - 1)) + 1) >>> ((2 : Int32) &&& 31) else O (32 * y + x)
def acB (t : Bool) (O : Nat → Int32) (a y x : Nat) : Int32 := if t = true then (3 * O (32 * y + x) + O (32 * y + cl1 (x + 1) a) + 2) >>> ((2 : Int32) &&& 31) else O (32 * y + x)
def acX (t : Bool) (O : Nat → Int32) (a k y : Nat) (S : Nat → Int32) : Nat → (Nat → Int32)
  | 0 => S
  | x + 1 => upd (upd (acX t O a k y S x) (1024 * k + 32 * y + 2 * x) (acA t O y x)) (1024 * k + 32 * y + (2 * x + 1)) (acB t O a y x)
def acY (t : Bool) (O : Nat → Int32) (a k : Nat) (S : Nat → Int32) : Nat → (Nat → Int32)
  | 0 => S
  | y + 1 => acX t O a k y (acY t O a k S y) a
def doA (t : Bool) (O : Nat → Int32) (y x : Nat) : Int32 := if t = true then (3 * O (32 * y + x) + O (32 * (y - 1) + x) + 1) >>> ((2 : Int32) &&& 31) else O (32 * y + x)
def doB (t : Bool) (O : Nat → Int32) (b y x : Nat) : Int32 := if t = true then (3 * O (32 * y + x) + O (32 * cl1 (y + 1) b + x) + 2) >>> ((2 : Int32) &&& 31) else O (32 * y + x)
def doX (t : Bool) (O : Nat → Int32) (b k y : Nat) (S : Nat → Int32) : Nat → (Nat → Int32)
  | 0 => S
  | x + 1 => upd (upd (doX t O b k y S x) (1024 * k + 32 * (2 * y) + x) (doA t O y x)) (1024 * k + 32 * (2 * y + 1) + x) (doB t O b y x)
def doY (t : Bool) (O : Nat → Int32) (a b k : Nat) (S : Nat → Int32) : Nat → (Nat → Int32)
  | 0 => S
  | y + 1 => doX t O b k y (doY t O a b k S y) a
theorem clN {x n : Nat} (hx : x < 2 ^ 31) (hn : n ≤ 32) : clI (nI x) n = cl1 x n := clI_nI hx hn
theorem clS {x n : Nat} (hx : x < n) (hn : n ≤ 32) : clI (nI x) n = x := by rw [clI_nI (by omega) hn, if_pos hx]
section
variable {M : zM} {D : va_G} {ca : Nat → ClassId} {ad : Nat → Nat} {th : Int32} {w h : Nat → Nat} {S O : Nat → Int32} {ow oh : Int32} {k : Nat} {a b : Nat} {t : Bool}
set_option maxRecDepth 100000 in
set_option maxHeartbeats 4000000 in
theorem n_across_x (hk : k < 4) (a1 : 1 ≤ a) (a2 : a ≤ 32) (b1 : 1 ≤ b) (b2 : b ≤ 32) (hh2 : 2 * a ≤ 32) (hR : zroom M = rmk 1 0 0) (hC : zcells M = 0) (hS : zslots M = 0) (hE : zEn M zE0) {y : Nat} (hy : y < b) (kx : ∀ v, Zj M (gG D ca ad) cM_across 6 RM wM_across none (mwn ca th w h (acX t O a k y S a) O (nI a) (nI b)) [some (.ref 0), some (.int (nI k)), some (.int (tv t)), some (.int (nI y)), some (.int (nI a)), v] [] 138) :
    ∀ n x, x + n = a → ∀ v, Zj M (gG D ca ad) cM_across 6 RM wM_across none (mwn ca th w h (acX t O a k y S x) O (nI a) (nI b)) [some (.ref 0), some (.int (nI k)), some (.int (tv t)), some (.int (nI y)), some (.int (nI x)), v] [] 30 := by
  intro n
  induction n with
  | zero =>
    intro x hx v
    obtain rfl : x = a := by omega
    refine z_iload dM_across_30 rfl ?_
    refine z_aload_n dM_across_32 rfl ?_
    refine z_get (C := RM) (T := TM) (N := 7) (ref := "ToneMixerModel") 5 dM_across_33 rfl rfl rfl (by decide) (fun w h => bwT (hbM w h)) (bwT b_391) rfl ?_
    exact z_icmp_ge (tgt := 138) dM_across_36 (by decide) (fun _ => kx v) (fun hc => absurd (nI_le (Nat.le_refl _) (by omega)) hc)
  | succ n ih =>
    intro x hx v
    refine z_iload dM_across_30 rfl ?_
    refine z_aload_n dM_across_32 rfl ?_
    refine z_get (C := RM) (T := TM) (N := 7) (ref := "ToneMixerModel") 5 dM_across_33 rfl rfl rfl (by decide) (fun w h => bwT (hbM w h)) (bwT b_391) rfl ?_
    refine z_icmp_ge (tgt := 138) dM_across_36 (by decide) (fun hc => absurd hc (nI_ge (by omega) (by omega))) (fun _ => ?_)
    refine z_aload_n dM_across_39 rfl ?_
    refine z_iload dM_across_40 rfl ?_
    refine z_iload_n dM_across_42 rfl ?_
    refine z_same (z_V (C := RM) (b := 0) hE zEok_0 (m_was _ D ca ad th w h (acX t O a k y S x) O a b a1 a2 b1 b2 (nI x) (nI y)) dM_across_43 (gd_V b_454 b_456 bs_18 b_3 b_457) rfl qM_was ⟨rfl, rfl⟩ (by rw [hR]; decide) (by rw [hR, hC, hS]; decide) rfl (Nat.le_of_ble_eq_true rfl) rfl rfl) (fun r aw1 hlen hr => ?_)
    obtain ⟨rfl, rfl⟩ := hr
    rw [clS (by omega : x < a) a2, clS (by omega : y < b) b2]
    simp only [zpush, zv]
    refine z_istore dM_across_46 (by decide) rfl ?_
    try simp only [List.set_cons_succ, List.set_cons_zero]
    refine z_aload_n dM_across_48 rfl ?_
    refine z_get (C := RM) (T := TM) (N := 7) (ref := "ToneMixerModel") 3 dM_across_49 rfl rfl rfl (by decide) (fun w h => bwT (hbM w h)) (bwT b_389) rfl ?_
    refine z_iload_n dM_across_52 rfl ?_
    refine z_iconst (v := 2) dM_across_53 (by decide) ?_
    refine z_iload dM_across_54 rfl ?_
    refine z_imul dM_across_56 ?_
    refine z_iload_n dM_across_57 rfl ?_
    refine z_pure (z_S hE zEok_0 (m_cell _ _ _ _ _) dM_across_58 (gd_S b_434 b_435 b_3 b_436) rfl qM_cell.2 ⟨rfl, rfl⟩ (by rw [hR]; decide) (by rw [hR, hC, hS]; decide) rfl (Nat.le_of_ble_eq_true rfl)) (fun r hr => ?_)
    subst hr
    simp only [zpush, zv]
    rw [z_2, z_cell]
    have k131 : Zj M (gG D ca ad) cM_across 6 RM wM_across none (mwn ca th w h (upd (acX t O a k y S x) (1024 * k + 32 * y + 2 * x) (acA t O y x)) O (nI a) (nI b)) [some (.ref 0), some (.int (nI k)), some (.int (tv t)), some (.int (nI y)), some (.int (nI x)), some (.int (O (32 * y + x)))] [.int (acB t O a y x), .int (nI (1024 * k + 32 * y + (2 * x + 1))), .ref 3] 131 := by
      refine z_iastN (t0 := 0) (k := 1024 * k + 32 * y + (2 * x + 1)) dM_across_131 rfl rfl (rfl) (by omega) (by decide) ?_
      try simp only [List.set_cons_succ, List.set_cons_zero]
      refine z_iinc1 dM_across_132 (by decide) rfl rfl ?_
      try simp only [List.set_cons_succ, List.set_cons_zero]
      refine z_goto (tgt := 30) dM_across_135 (by decide) ?_
      rw [nI_1]
      exact ih (x + 1) (by omega) _
    have k88 : Zj M (gG D ca ad) cM_across 6 RM wM_across none (mwn ca th w h (acX t O a k y S x) O (nI a) (nI b)) [some (.ref 0), some (.int (nI k)), some (.int (tv t)), some (.int (nI y)), some (.int (nI x)), some (.int (O (32 * y + x)))] [.int (acA t O y x), .int (nI (1024 * k + 32 * y + 2 * x)), .ref 3] 88 := by
      refine z_iastN (t0 := 0) (k := 1024 * k + 32 * y + 2 * x) dM_across_88 rfl rfl (rfl) (by omega) (by decide) ?_
      try simp only [List.set_cons_succ, List.set_cons_zero]
      refine z_aload_n dM_across_89 rfl ?_
      refine z_get (C := RM) (T := TM) (N := 7) (ref := "ToneMixerModel") 3 dM_across_90 rfl rfl rfl (by decide) (fun w h => bwT (hbM w h)) (bwT b_389) rfl ?_
      refine z_iload_n dM_across_93 rfl ?_
      refine z_iconst (v := 2) dM_across_94 (by decide) ?_
      refine z_iload dM_across_95 rfl ?_
      refine z_imul dM_across_97 ?_
      refine z_iconst (v := 1) dM_across_98 (by decide) ?_
      refine z_iadd dM_across_99 ?_
      refine z_iload_n dM_across_100 rfl ?_
      refine z_pure (z_S hE zEok_0 (m_cell _ _ _ _ _) dM_across_101 (gd_S b_434 b_435 b_3 b_436) rfl qM_cell.2 ⟨rfl, rfl⟩ (by rw [hR]; decide) (by rw [hR, hC, hS]; decide) rfl (Nat.le_of_ble_eq_true rfl)) (fun r hr => ?_)
      subst hr
      simp only [zpush, zv]
      rw [z_2, nI_1, z_cell]
      refine z_iload_n dM_across_104 rfl ?_
      cases t with
      | true =>
        refine z_if_eq (tgt := 129) dM_across_105 (by decide) (fun hc9 => absurd hc9 (by decide)) (fun _ => ?_)
        refine z_iconst (v := 3) dM_across_108 (by decide) ?_
        refine z_iload dM_across_109 rfl ?_
        refine z_imul dM_across_111 ?_
        refine z_aload_n dM_across_112 rfl ?_
        refine z_iload dM_across_113 rfl ?_
        refine z_iconst (v := 1) dM_across_115 (by decide) ?_
        refine z_iadd dM_across_116 ?_
        refine z_iload_n dM_across_117 rfl ?_
        rw [nI_1]
        refine z_same (z_V (C := RM) (b := 0) hE zEok_0 (m_was _ D ca ad th w h (upd (acX true O a k y S x) (1024 * k + 32 * y + 2 * x) (acA true O y x)) O a b a1 a2 b1 b2 (nI (x + 1)) (nI y)) dM_across_118 (gd_V b_454 b_456 bs_18 b_3 b_457) rfl qM_was ⟨rfl, rfl⟩ (by rw [hR]; decide) (by rw [hR, hC, hS]; decide) rfl (Nat.le_of_ble_eq_true rfl) rfl rfl) (fun r aw1 hlen hr => ?_)
        obtain ⟨rfl, rfl⟩ := hr
        rw [clS (by omega : y < b) b2, clN (by omega) a2]
        simp only [zpush, zv]
        refine z_iadd dM_across_121 ?_
        refine z_iconst (v := 2) dM_across_122 (by decide) ?_
        refine z_iadd dM_across_123 ?_
        refine z_iconst (v := 2) dM_across_124 (by decide) ?_
        refine z_ishr dM_across_125 ?_
        refine z_goto (tgt := 131) dM_across_126 (by decide) ?_
        exact k131
      | false =>
        refine z_if_eq (tgt := 129) dM_across_105 (by decide) (fun _ => ?_) (fun hc9 => absurd hc9 (by decide))
        refine z_iload dM_across_129 rfl ?_
        exact k131
    refine z_iload_n dM_across_61 rfl ?_
    cases t with
    | true =>
      refine z_if_eq (tgt := 86) dM_across_62 (by decide) (fun hc9 => absurd hc9 (by decide)) (fun _ => ?_)
      refine z_iconst (v := 3) dM_across_65 (by decide) ?_
      refine z_iload dM_across_66 rfl ?_
      refine z_imul dM_across_68 ?_
      refine z_aload_n dM_across_69 rfl ?_
      refine z_iload dM_across_70 rfl ?_
      refine z_iconst (v := 1) dM_across_72 (by decide) ?_
      refine z_isub dM_across_73 ?_
      refine z_iload_n dM_across_74 rfl ?_
      refine z_same (z_V (C := RM) (b := 0) hE zEok_0 (m_was _ D ca ad th w h (acX true O a k y S x) O a b a1 a2 b1 b2 (nI x - 1) (nI y)) dM_across_75 (gd_V b_454 b_456 bs_18 b_3 b_457) rfl qM_was ⟨rfl, rfl⟩ (by rw [hR]; decide) (by rw [hR, hC, hS]; decide) rfl (Nat.le_of_ble_eq_true rfl) rfl rfl) (fun r aw1 hlen hr => ?_)
      obtain ⟨rfl, rfl⟩ := hr
      rw [clS (by omega : y < b) b2, clI_m1 (by omega) a1 a2]
      simp only [zpush, zv]
      refine z_iadd dM_across_78 ?_
      refine z_iconst (v := 1) dM_across_79 (by decide) ?_
      refine z_iadd dM_across_80 ?_
      refine z_iconst (v := 2) dM_across_81 (by decide) ?_
      refine z_ishr dM_across_82 ?_
      refine z_goto (tgt := 88) dM_across_83 (by decide) ?_
      exact k88
    | false =>
      refine z_if_eq (tgt := 86) dM_across_62 (by decide) (fun _ => ?_) (fun hc9 => absurd hc9 (by decide))
      refine z_iload dM_across_86 rfl ?_
      exact k88
set_option maxRecDepth 100000 in
set_option maxHeartbeats 4000000 in
theorem n_across_y (hk : k < 4) (a1 : 1 ≤ a) (a2 : a ≤ 32) (b1 : 1 ≤ b) (b2 : b ≤ 32) (hh2 : 2 * a ≤ 32) (hR : zroom M = rmk 1 0 0) (hC : zcells M = 0) (hS : zslots M = 0) (hE : zEn M zE0) (kx : ∀ x v, Zj M (gG D ca ad) cM_across 6 RM wM_across none (mwn ca th w h (acY t O a k S b) O (nI a) (nI b)) [some (.ref 0), some (.int (nI k)), some (.int (tv t)), some (.int (nI b)), x, v] [] 144) :
    ∀ n y, y + n = b → ∀ x v, Zj M (gG D ca ad) cM_across 6 RM wM_across none (mwn ca th w h (acY t O a k S y) O (nI a) (nI b)) [some (.ref 0), some (.int (nI k)), some (.int (tv t)), some (.int (nI y)), x, v] [] 19 := by
  intro n
  induction n with
  | zero =>
    intro y hy x v
    obtain rfl : y = b := by omega
    refine z_iload_n dM_across_19 rfl ?_
    refine z_aload_n dM_across_20 rfl ?_
    refine z_get (C := RM) (T := TM) (N := 7) (ref := "ToneMixerModel") 6 dM_across_21 rfl rfl rfl (by decide) (fun w h => bwT (hbM w h)) (bwT b_392) rfl ?_
    exact z_icmp_ge (tgt := 144) dM_across_24 (by decide) (fun _ => kx x v) (fun hc => absurd (nI_le (Nat.le_refl _) (by omega)) hc)
  | succ n ih =>
    intro y hy x v
    refine z_iload_n dM_across_19 rfl ?_
    refine z_aload_n dM_across_20 rfl ?_
    refine z_get (C := RM) (T := TM) (N := 7) (ref := "ToneMixerModel") 6 dM_across_21 rfl rfl rfl (by decide) (fun w h => bwT (hbM w h)) (bwT b_392) rfl ?_
    refine z_icmp_ge (tgt := 144) dM_across_24 (by decide) (fun hc => absurd hc (nI_ge (by omega) (by omega))) (fun _ => ?_)
    refine z_iconst (v := 0) dM_across_27 (by decide) ?_
    refine z_istore dM_across_28 (by decide) rfl ?_
    try simp only [List.set_cons_succ, List.set_cons_zero]
    refine n_across_x (S := (acY t O a k S y)) hk a1 a2 b1 b2 hh2 hR hC hS hE (y := y) (by omega) (fun v => ?_) a 0 (by omega) _
    refine z_iinc1 dM_across_138 (by decide) rfl rfl ?_
    try simp only [List.set_cons_succ, List.set_cons_zero]
    refine z_goto (tgt := 19) dM_across_141 (by decide) ?_
    rw [nI_1]
    exact ih (y + 1) (by omega) _ _
end
set_option maxRecDepth 100000 in
set_option maxHeartbeats 4000000 in
theorem m_across (l : Launch) (D : va_G) (ca : Nat → ClassId) (ad : Nat → Nat) (th : Int32) (w h : Nat → Nat) (S O : Nat → Int32) (ow oh : Int32) (hwh : okW w h) (k : Nat) (hk : k < 4) (t : Bool) (hh2 : 2 * w k ≤ 32) : zMet l yM_across wM_across (rmk 1 0 0) zE0 (gG D ca ad) (mwn ca th w h S O ow oh) [.ref 0, .int (nI k), .int (tv t)] (fun r aw => r = none ∧ aw = (mwn ca th (va_up w k (2 * w k)) h (acY t (mkp S O k 1024) (w k) k S (h k)) (mkp S O k 1024) (nI (w k)) (nI (h k)))) := by
  refine zMet.of (cc := cM_across) (maxL := 6) (ret := none) (lv := [some (.ref 0), some (.int (nI k)), some (.int (tv t)), none, none, none]) (by decide) rfl (Nat.le_of_ble_eq_true rfl) rfl (fun M hl0 hR hC hS hE hret => ?_)
  obtain ⟨a1, a2, b1, b2⟩ := hwh k hk
  refine z_aload_n dM_across_0 rfl ?_
  refine z_iload_n dM_across_1 rfl ?_
  refine z_same (z_V (C := RM) (b := 0) hE zEok_0 (m_keep _ D ca ad th w h S O ow oh k hk) dM_across_2 (gd_V b_450 b_452 bs_17 b_3 b_453) rfl qM_keep ⟨rfl, rfl⟩ (by rw [hR]; decide) (by rw [hR, hC, hS]; decide) rfl (Nat.le_of_ble_eq_true rfl) rfl rfl) (fun r aw1 hlen hr => ?_)
  obtain ⟨rfl, rfl⟩ := hr
  simp only [zpush]
  refine z_aload_n dM_across_5 rfl ?_
  refine z_get (C := RM) (T := TM) (N := 7) (ref := "ToneMixerModel") 1 dM_across_6 rfl rfl rfl (by decide) (fun w h => bwT (hbM w h)) (bwT b_387) rfl ?_
  refine z_iload_n dM_across_9 rfl ?_
  refine z_iconst (v := 2) dM_across_10 (by decide) ?_
  refine z_aload_n dM_across_11 rfl ?_
  refine z_get (C := RM) (T := TM) (N := 7) (ref := "ToneMixerModel") 5 dM_across_12 rfl rfl rfl (by decide) (fun w h => bwT (hbM w h)) (bwT b_391) rfl ?_
  refine z_imul dM_across_15 ?_
  refine z_iastN (t0 := 0) (k := k) dM_across_16 rfl rfl (rfl) (hk) (by decide) ?_
  try simp only [List.set_cons_succ, List.set_cons_zero]
  refine z_iconst (v := 0) dM_across_17 (by decide) ?_
  refine z_istore_n dM_across_18 (by decide) rfl ?_
  try simp only [List.set_cons_succ, List.set_cons_zero]
  rw [z_2, updn]
  refine n_across_y hk a1 a2 b1 b2 hh2 hR hC hS hE (fun x v => ?_) (h k) 0 (by omega) none none
  exact z_return dM_across_144 hret ⟨Nat.le_of_eq hC, Nat.le_of_eq hS⟩ rfl ⟨rfl, rfl⟩
section
variable {M : zM} {D : va_G} {ca : Nat → ClassId} {ad : Nat → Nat} {th : Int32} {w h : Nat → Nat} {S O : Nat → Int32} {ow oh : Int32} {k : Nat} {a b : Nat} {t : Bool}
set_option maxRecDepth 100000 in
set_option maxHeartbeats 4000000 in
theorem n_down_x (hk : k < 4) (a1 : 1 ≤ a) (a2 : a ≤ 32) (b1 : 1 ≤ b) (b2 : b ≤ 32) (hh2 : 2 * b ≤ 32) (hR : zroom M = rmk 1 0 0) (hC : zcells M = 0) (hS : zslots M = 0) (hE : zEn M zE0) {y : Nat} (hy : y < b) (kx : ∀ v, Zj M (gG D ca ad) cM_down 6 RM wM_down none (mwn ca th w h (doX t O b k y S a) O (nI a) (nI b)) [some (.ref 0), some (.int (nI k)), some (.int (tv t)), some (.int (nI y)), some (.int (nI a)), v] [] 138) :
    ∀ n x, x + n = a → ∀ v, Zj M (gG D ca ad) cM_down 6 RM wM_down none (mwn ca th w h (doX t O b k y S x) O (nI a) (nI b)) [some (.ref 0), some (.int (nI k)), some (.int (tv t)), some (.int (nI y)), some (.int (nI x)), v] [] 30 := by
  intro n
  induction n with
  | zero =>
    intro x hx v
    obtain rfl : x = a := by omega
    refine z_iload dM_down_30 rfl ?_
    refine z_aload_n dM_down_32 rfl ?_
    refine z_get (C := RM) (T := TM) (N := 7) (ref := "ToneMixerModel") 5 dM_down_33 rfl rfl rfl (by decide) (fun w h => bwT (hbM w h)) (bwT b_391) rfl ?_
    exact z_icmp_ge (tgt := 138) dM_down_36 (by decide) (fun _ => kx v) (fun hc => absurd (nI_le (Nat.le_refl _) (by omega)) hc)
  | succ n ih =>
    intro x hx v
    refine z_iload dM_down_30 rfl ?_
    refine z_aload_n dM_down_32 rfl ?_
    refine z_get (C := RM) (T := TM) (N := 7) (ref := "ToneMixerModel") 5 dM_down_33 rfl rfl rfl (by decide) (fun w h => bwT (hbM w h)) (bwT b_391) rfl ?_
    refine z_icmp_ge (tgt := 138) dM_down_36 (by decide) (fun hc => absurd hc (nI_ge (by omega) (by omega))) (fun _ => ?_)
    refine z_aload_n dM_down_39 rfl ?_
    refine z_iload dM_down_40 rfl ?_
    refine z_iload_n dM_down_42 rfl ?_
    refine z_same (z_V (C := RM) (b := 0) hE zEok_0 (m_was _ D ca ad th w h (doX t O b k y S x) O a b a1 a2 b1 b2 (nI x) (nI y)) dM_down_43 (gd_V b_454 b_456 bs_18 b_3 b_457) rfl qM_was ⟨rfl, rfl⟩ (by rw [hR]; decide) (by rw [hR, hC, hS]; decide) rfl (Nat.le_of_ble_eq_true rfl) rfl rfl) (fun r aw1 hlen hr => ?_)
    obtain ⟨rfl, rfl⟩ := hr
    rw [clS (by omega : x < a) a2, clS (by omega : y < b) b2]
    simp only [zpush, zv]
    refine z_istore dM_down_46 (by decide) rfl ?_
    try simp only [List.set_cons_succ, List.set_cons_zero]
    refine z_aload_n dM_down_48 rfl ?_
    refine z_get (C := RM) (T := TM) (N := 7) (ref := "ToneMixerModel") 3 dM_down_49 rfl rfl rfl (by decide) (fun w h => bwT (hbM w h)) (bwT b_389) rfl ?_
    refine z_iload_n dM_down_52 rfl ?_
    refine z_iload dM_down_53 rfl ?_
    refine z_iconst (v := 2) dM_down_55 (by decide) ?_
    refine z_iload_n dM_down_56 rfl ?_
    refine z_imul dM_down_57 ?_
    refine z_pure (z_S hE zEok_0 (m_cell _ _ _ _ _) dM_down_58 (gd_S b_434 b_435 b_3 b_436) rfl qM_cell.2 ⟨rfl, rfl⟩ (by rw [hR]; decide) (by rw [hR, hC, hS]; decide) rfl (Nat.le_of_ble_eq_true rfl)) (fun r hr => ?_)
    subst hr
    simp only [zpush, zv]
    rw [z_2, z_cell]
    have k131 : Zj M (gG D ca ad) cM_down 6 RM wM_down none (mwn ca th w h (upd (doX t O b k y S x) (1024 * k + 32 * (2 * y) + x) (doA t O y x)) O (nI a) (nI b)) [some (.ref 0), some (.int (nI k)), some (.int (tv t)), some (.int (nI y)), some (.int (nI x)), some (.int (O (32 * y + x)))] [.int (doB t O b y x), .int (nI (1024 * k + 32 * (2 * y + 1) + x)), .ref 3] 131 := by
      refine z_iastN (t0 := 0) (k := 1024 * k + 32 * (2 * y + 1) + x) dM_down_131 rfl rfl (rfl) (by omega) (by decide) ?_
      try simp only [List.set_cons_succ, List.set_cons_zero]
      refine z_iinc1 dM_down_132 (by decide) rfl rfl ?_
      try simp only [List.set_cons_succ, List.set_cons_zero]
      refine z_goto (tgt := 30) dM_down_135 (by decide) ?_
      rw [nI_1]
      exact ih (x + 1) (by omega) _
    have k88 : Zj M (gG D ca ad) cM_down 6 RM wM_down none (mwn ca th w h (doX t O b k y S x) O (nI a) (nI b)) [some (.ref 0), some (.int (nI k)), some (.int (tv t)), some (.int (nI y)), some (.int (nI x)), some (.int (O (32 * y + x)))] [.int (doA t O y x), .int (nI (1024 * k + 32 * (2 * y) + x)), .ref 3] 88 := by
      refine z_iastN (t0 := 0) (k := 1024 * k + 32 * (2 * y) + x) dM_down_88 rfl rfl (rfl) (by omega) (by decide) ?_
      try simp only [List.set_cons_succ, List.set_cons_zero]
      refine z_aload_n dM_down_89 rfl ?_
      refine z_get (C := RM) (T := TM) (N := 7) (ref := "ToneMixerModel") 3 dM_down_90 rfl rfl rfl (by decide) (fun w h => bwT (hbM w h)) (bwT b_389) rfl ?_
      refine z_iload_n dM_down_93 rfl ?_
      refine z_iload dM_down_94 rfl ?_
      refine z_iconst (v := 2) dM_down_96 (by decide) ?_
      refine z_iload_n dM_down_97 rfl ?_
      refine z_imul dM_down_98 ?_
      refine z_iconst (v := 1) dM_down_99 (by decide) ?_
      refine z_iadd dM_down_100 ?_
      refine z_pure (z_S hE zEok_0 (m_cell _ _ _ _ _) dM_down_101 (gd_S b_434 b_435 b_3 b_436) rfl qM_cell.2 ⟨rfl, rfl⟩ (by rw [hR]; decide) (by rw [hR, hC, hS]; decide) rfl (Nat.le_of_ble_eq_true rfl)) (fun r hr => ?_)
      subst hr
      simp only [zpush, zv]
      rw [z_2, nI_1, z_cell]
      refine z_iload_n dM_down_104 rfl ?_
      cases t with
      | true =>
        refine z_if_eq (tgt := 129) dM_down_105 (by decide) (fun hc9 => absurd hc9 (by decide)) (fun _ => ?_)
        refine z_iconst (v := 3) dM_down_108 (by decide) ?_
        refine z_iload dM_down_109 rfl ?_
        refine z_imul dM_down_111 ?_
        refine z_aload_n dM_down_112 rfl ?_
        refine z_iload dM_down_113 rfl ?_
        refine z_iload_n dM_down_115 rfl ?_
        refine z_iconst (v := 1) dM_down_116 (by decide) ?_
        refine z_iadd dM_down_117 ?_
        rw [nI_1]
        refine z_same (z_V (C := RM) (b := 0) hE zEok_0 (m_was _ D ca ad th w h (upd (doX true O b k y S x) (1024 * k + 32 * (2 * y) + x) (doA true O y x)) O a b a1 a2 b1 b2 (nI x) (nI (y + 1))) dM_down_118 (gd_V b_454 b_456 bs_18 b_3 b_457) rfl qM_was ⟨rfl, rfl⟩ (by rw [hR]; decide) (by rw [hR, hC, hS]; decide) rfl (Nat.le_of_ble_eq_true rfl) rfl rfl) (fun r aw1 hlen hr => ?_)
        obtain ⟨rfl, rfl⟩ := hr
        rw [clN (by omega) b2, clS (by omega : x < a) a2]
        simp only [zpush, zv]
        refine z_iadd dM_down_121 ?_
        refine z_iconst (v := 2) dM_down_122 (by decide) ?_
        refine z_iadd dM_down_123 ?_
        refine z_iconst (v := 2) dM_down_124 (by decide) ?_
        refine z_ishr dM_down_125 ?_
        refine z_goto (tgt := 131) dM_down_126 (by decide) ?_
        exact k131
      | false =>
        refine z_if_eq (tgt := 129) dM_down_105 (by decide) (fun _ => ?_) (fun hc9 => absurd hc9 (by decide))
        refine z_iload dM_down_129 rfl ?_
        exact k131
    refine z_iload_n dM_down_61 rfl ?_
    cases t with
    | true =>
      refine z_if_eq (tgt := 86) dM_down_62 (by decide) (fun hc9 => absurd hc9 (by decide)) (fun _ => ?_)
      refine z_iconst (v := 3) dM_down_65 (by decide) ?_
      refine z_iload dM_down_66 rfl ?_
      refine z_imul dM_down_68 ?_
      refine z_aload_n dM_down_69 rfl ?_
      refine z_iload dM_down_70 rfl ?_
      refine z_iload_n dM_down_72 rfl ?_
      refine z_iconst (v := 1) dM_down_73 (by decide) ?_
      refine z_isub dM_down_74 ?_
      refine z_same (z_V (C := RM) (b := 0) hE zEok_0 (m_was _ D ca ad th w h (doX true O b k y S x) O a b a1 a2 b1 b2 (nI x) (nI y - 1)) dM_down_75 (gd_V b_454 b_456 bs_18 b_3 b_457) rfl qM_was ⟨rfl, rfl⟩ (by rw [hR]; decide) (by rw [hR, hC, hS]; decide) rfl (Nat.le_of_ble_eq_true rfl) rfl rfl) (fun r aw1 hlen hr => ?_)
      obtain ⟨rfl, rfl⟩ := hr
      rw [clI_m1 (by omega) b1 b2, clS (by omega : x < a) a2]
      simp only [zpush, zv]
      refine z_iadd dM_down_78 ?_
      refine z_iconst (v := 1) dM_down_79 (by decide) ?_
      refine z_iadd dM_down_80 ?_
      refine z_iconst (v := 2) dM_down_81 (by decide) ?_
      refine z_ishr dM_down_82 ?_
      refine z_goto (tgt := 88) dM_down_83 (by decide) ?_
      exact k88
    | false =>
      refine z_if_eq (tgt := 86) dM_down_62 (by decide) (fun _ => ?_) (fun hc9 => absurd hc9 (by decide))
      refine z_iload dM_down_86 rfl ?_
      exact k88
set_option maxRecDepth 100000 in
set_option maxHeartbeats 4000000 in
theorem n_down_y (hk : k < 4) (a1 : 1 ≤ a) (a2 : a ≤ 32) (b1 : 1 ≤ b) (b2 : b ≤ 32) (hh2 : 2 * b ≤ 32) (hR : zroom M = rmk 1 0 0) (hC : zcells M = 0) (hS : zslots M = 0) (hE : zEn M zE0) (kx : ∀ x v, Zj M (gG D ca ad) cM_down 6 RM wM_down none (mwn ca th w h (doY t O a b k S b) O (nI a) (nI b)) [some (.ref 0), some (.int (nI k)), some (.int (tv t)), some (.int (nI b)), x, v] [] 144) :
    ∀ n y, y + n = b → ∀ x v, Zj M (gG D ca ad) cM_down 6 RM wM_down none (mwn ca th w h (doY t O a b k S y) O (nI a) (nI b)) [some (.ref 0), some (.int (nI k)), some (.int (tv t)), some (.int (nI y)), x, v] [] 19 := by
  intro n
  induction n with
  | zero =>
    intro y hy x v
    obtain rfl : y = b := by omega
    refine z_iload_n dM_down_19 rfl ?_
    refine z_aload_n dM_down_20 rfl ?_
    refine z_get (C := RM) (T := TM) (N := 7) (ref := "ToneMixerModel") 6 dM_down_21 rfl rfl rfl (by decide) (fun w h => bwT (hbM w h)) (bwT b_392) rfl ?_
    exact z_icmp_ge (tgt := 144) dM_down_24 (by decide) (fun _ => kx x v) (fun hc => absurd (nI_le (Nat.le_refl _) (by omega)) hc)
  | succ n ih =>
    intro y hy x v
    refine z_iload_n dM_down_19 rfl ?_
    refine z_aload_n dM_down_20 rfl ?_
    refine z_get (C := RM) (T := TM) (N := 7) (ref := "ToneMixerModel") 6 dM_down_21 rfl rfl rfl (by decide) (fun w h => bwT (hbM w h)) (bwT b_392) rfl ?_
    refine z_icmp_ge (tgt := 144) dM_down_24 (by decide) (fun hc => absurd hc (nI_ge (by omega) (by omega))) (fun _ => ?_)
    refine z_iconst (v := 0) dM_down_27 (by decide) ?_
    refine z_istore dM_down_28 (by decide) rfl ?_
    try simp only [List.set_cons_succ, List.set_cons_zero]
    refine n_down_x (S := (doY t O a b k S y)) hk a1 a2 b1 b2 hh2 hR hC hS hE (y := y) (by omega) (fun v => ?_) a 0 (by omega) _
    refine z_iinc1 dM_down_138 (by decide) rfl rfl ?_
    try simp only [List.set_cons_succ, List.set_cons_zero]
    refine z_goto (tgt := 19) dM_down_141 (by decide) ?_
    rw [nI_1]
    exact ih (y + 1) (by omega) _ _
end
set_option maxRecDepth 100000 in
set_option maxHeartbeats 4000000 in
theorem m_down (l : Launch) (D : va_G) (ca : Nat → ClassId) (ad : Nat → Nat) (th : Int32) (w h : Nat → Nat) (S O : Nat → Int32) (ow oh : Int32) (hwh : okW w h) (k : Nat) (hk : k < 4) (t : Bool) (hh2 : 2 * h k ≤ 32) : zMet l yM_down wM_down (rmk 1 0 0) zE0 (gG D ca ad) (mwn ca th w h S O ow oh) [.ref 0, .int (nI k), .int (tv t)] (fun r aw => r = none ∧ aw = (mwn ca th w (va_up h k (2 * h k)) (doY t (mkp S O k 1024) (w k) (h k) k S (h k)) (mkp S O k 1024) (nI (w k)) (nI (h k)))) := by
  refine zMet.of (cc := cM_down) (maxL := 6) (ret := none) (lv := [some (.ref 0), some (.int (nI k)), some (.int (tv t)), none, none, none]) (by decide) rfl (Nat.le_of_ble_eq_true rfl) rfl (fun M hl0 hR hC hS hE hret => ?_)
  obtain ⟨a1, a2, b1, b2⟩ := hwh k hk
  refine z_aload_n dM_down_0 rfl ?_
  refine z_iload_n dM_down_1 rfl ?_
  refine z_same (z_V (C := RM) (b := 0) hE zEok_0 (m_keep _ D ca ad th w h S O ow oh k hk) dM_down_2 (gd_V b_450 b_452 bs_17 b_3 b_453) rfl qM_keep ⟨rfl, rfl⟩ (by rw [hR]; decide) (by rw [hR, hC, hS]; decide) rfl (Nat.le_of_ble_eq_true rfl) rfl rfl) (fun r aw1 hlen hr => ?_)
  obtain ⟨rfl, rfl⟩ := hr
  simp only [zpush]
  refine z_aload_n dM_down_5 rfl ?_
  refine z_get (C := RM) (T := TM) (N := 7) (ref := "ToneMixerModel") 2 dM_down_6 rfl rfl rfl (by decide) (fun w h => bwT (hbM w h)) (bwT b_388) rfl ?_
  refine z_iload_n dM_down_9 rfl ?_
  refine z_iconst (v := 2) dM_down_10 (by decide) ?_
  refine z_aload_n dM_down_11 rfl ?_
  refine z_get (C := RM) (T := TM) (N := 7) (ref := "ToneMixerModel") 6 dM_down_12 rfl rfl rfl (by decide) (fun w h => bwT (hbM w h)) (bwT b_392) rfl ?_
  refine z_imul dM_down_15 ?_
  refine z_iastN (t0 := 0) (k := k) dM_down_16 rfl rfl (rfl) (hk) (by decide) ?_
  try simp only [List.set_cons_succ, List.set_cons_zero]
  refine z_iconst (v := 0) dM_down_17 (by decide) ?_
  refine z_istore_n dM_down_18 (by decide) rfl ?_
  try simp only [List.set_cons_succ, List.set_cons_zero]
  rw [z_2, updn]
  refine n_down_y hk a1 a2 b1 b2 hh2 hR hC hS hE (fun x v => ?_) (h k) 0 (by omega) none none
  exact z_return dM_down_144 hret ⟨Nat.le_of_eq hC, Nat.le_of_eq hS⟩ rfl ⟨rfl, rfl⟩
/-- the reference's samples and sides after a grow -/
def mgro (v : Nat) (S O : Nat → Int32) (w h k : Nat) : (Nat → Int32) × Nat × Nat :=
  let s1 : (Nat → Int32) × (Nat → Int32) × Nat := if groA v = true then (acY (groT v) (mkp S O k 1024) w k S h, mkp S O k 1024, 2 * w) else (S, O, w)
  if groD v = true then (doY (groT v) (mkp s1.1 s1.2.1 k 1024) s1.2.2 h k s1.1 h, s1.2.2, 2 * h) else (s1.1, s1.2.2, h)
theorem inH (n : Nat) (hn : n < 2 ^ 31) (M : Int32) (hM : M.toInt = n) (v : Int32) : (inB v 0 M = false ∧ (v < 0 ∨ M < v)) ∨ (inB v 0 M = true ∧ ∃ c : Nat, c ≤ n ∧ v = nI c) := by
  by_cases h1 : v < 0
  · exact Or.inl ⟨by simp [inB, h1], Or.inl h1⟩
  · by_cases h2 : M < v
    · exact Or.inl ⟨by simp [inB, h2], Or.inr h2⟩
    · obtain ⟨c, hc, rfl⟩ := nI_of2 hM h1 (Int32.not_lt.mp h2)
      exact Or.inr ⟨by simp [inB, h1, h2], c, hc, rfl⟩
theorem okW_w {w h : Nat → Nat} (hwh : okW w h) {k a b : Nat} (a1 : 1 ≤ a) (a2 : a ≤ 32) (b1 : 1 ≤ b) (b2 : b ≤ 32) : okW (va_up w k a) (va_up h k b) := by
  intro j hj
  by_cases e : j = k
  · subst e; rw [va_up_self, va_up_self]; exact ⟨a1, a2, b1, b2⟩
  · rw [va_up_ne _ _ e, va_up_ne _ _ e]; exact hwh j hj
theorem okW_w1 {w h : Nat → Nat} (hwh : okW w h) {k a : Nat} (hk : k < 4) (a1 : 1 ≤ a) (a2 : a ≤ 32) : okW (va_up w k a) h := by
  have q := okW_w hwh (k := k) (b := h k) a1 a2 (hwh k hk).2.2.1 (hwh k hk).2.2.2
  rwa [va_upk] at q
set_option maxRecDepth 100000 in
set_option maxHeartbeats 4000000 in
theorem m_grow (l : Launch) (D : va_G) (ca : Nat → ClassId) (ad : Nat → Nat) (th : Int32) (w h : Nat → Nat) (S O : Nat → Int32) (ow oh : Int32) (hwh : okW w h) (n how : Int32) : zMet l yM_grow wM_grow (rmk 3 0 0) zE0 (gG D ca ad) (mwn ca th w h S O ow oh) [.ref 0, .int n, .int how] (fun r aw => ((noP n ∧ r = some (.int 0) ∧ aw = (mwn ca 1 w h S O ow oh)) ∨ ∃ k : Nat, k < 4 ∧ n = nI k ∧ ((grow0 how (w k) (h k) ∧ r = some (.int 0) ∧ aw = (mwn ca 0 w h S O ow oh)) ∨ ∃ v : Nat, v < 6 ∧ how = nI v ∧ ¬ tooL v (w k) (h k) ∧ r = some (.int 1) ∧ ∃ O2 ow2 oh2, aw = mwn ca 0 (va_up w k (mgro v S O (w k) (h k) k).2.1) (va_up h k (mgro v S O (w k) (h k) k).2.2) (mgro v S O (w k) (h k) k).1 O2 ow2 oh2))) := by
  refine zMet.of (cc := cM_grow) (maxL := 5) (ret := (some .boolean)) (lv := [some (.ref 0), some (.int n), some (.int how), none, none]) (by decide) rfl (Nat.le_of_ble_eq_true rfl) rfl (fun M hl0 hR hC hS hE hret => ?_)
  refine z_aload_n dM_grow_0 rfl ?_
  refine z_iload_n dM_grow_1 rfl ?_
  refine z_pure (z_S hE zEok_0 (m_isPlane _ _ _) dM_grow_2 (gd_S b_416 b_417 b_3 b_418) rfl qM_isPlane.2 ⟨rfl, rfl⟩ (by rw [hR]; decide) (by rw [hR, hC, hS]; decide) rfl (Nat.le_of_ble_eq_true rfl)) (fun r hr => ?_)
  subst hr
  simp only [zpush, zv]
  refine z_iconst (v := 1) dM_grow_5 (by decide) ?_
  refine z_same (z_V (C := RM) (b := 0) hE zEok_0 (m_goes _ D ca ad th w h S O ow oh (inB n 0 3) (true)) dM_grow_6 (gd_V b_422 b_424 bs_14 b_3 b_425) rfl qM_goes ⟨rfl, rfl⟩ (by rw [hR]; decide) (by rw [hR, hC, hS]; decide) rfl (Nat.le_of_ble_eq_true rfl) rfl rfl) (fun r aw1 hlen hr => ?_)
  obtain ⟨rfl, rfl⟩ := hr
  simp only [zpush, zv]
  rcases inP n with ⟨e1, h1⟩ | ⟨e1, k, hk, rfl⟩
  · rw [e1]
    refine z_if_eq (tgt := 21) dM_grow_9 (by decide) (fun _ => ?_) (fun hc9 => absurd hc9 (by decide))
    refine z_iconst (v := 0) dM_grow_21 (by decide) ?_
    exact z_ireturn dM_grow_22 rfl hret ⟨Nat.le_of_eq hC, Nat.le_of_eq hS⟩ rfl (Or.inl ⟨h1, rfl, rfl⟩)
  rw [e1]
  obtain ⟨a1, a2, b1, b2⟩ := hwh k hk
  refine z_if_eq (tgt := 21) dM_grow_9 (by decide) (fun hc9 => absurd hc9 (by decide)) (fun _ => ?_)
  refine z_iload_n dM_grow_12 rfl ?_
  refine z_iconst (v := 0) dM_grow_13 (by decide) ?_
  refine z_iconst (v := 5) dM_grow_14 (by decide) ?_
  refine z_pure (z_S hE zEok_0 (m_in _ _ _ _ _) dM_grow_15 (gd_S b_419 b_420 b_3 b_421) rfl qM_in.2 ⟨rfl, rfl⟩ (by rw [hR]; decide) (by rw [hR, hC, hS]; decide) rfl (Nat.le_of_ble_eq_true rfl)) (fun r hr => ?_)
  subst hr
  simp only [zpush, zv]
  rcases inH 5 (by decide) 5 (by decide) how with ⟨e2, hb⟩ | ⟨e2, v, hv, rfl⟩
  · rw [e2]
    refine z_if_ne (tgt := 23) dM_grow_18 (by decide) (fun hc9 => absurd hc9 (by decide)) (fun _ => ?_)
    refine z_iconst (v := 0) dM_grow_21 (by decide) ?_
    exact z_ireturn dM_grow_22 rfl hret ⟨Nat.le_of_eq hC, Nat.le_of_eq hS⟩ rfl (Or.inr ⟨k, hk, rfl, Or.inl ⟨hb.elim Or.inl (fun q => Or.inr (Or.inl q)), rfl, rfl⟩⟩)
  rw [e2]
  have k86 : ∀ o3 o4 : Option Value, tooL v (w k) (h k) → Zj M (gG D ca ad) cM_grow 5 RM wM_grow (some .boolean) (mwn ca 0 w h S O ow oh) [some (.ref 0), some (.int (nI k)), some (.int (nI v)), o3, o4] [] 86 := fun o3 o4 hb => by
    refine z_iconst (v := 0) dM_grow_86 (by decide) ?_
    exact z_ireturn dM_grow_87 rfl hret ⟨Nat.le_of_eq hC, Nat.le_of_eq hS⟩ rfl (Or.inr ⟨k, hk, rfl, Or.inl ⟨Or.inr (Or.inr ⟨v, by omega, rfl, hb⟩), rfl, rfl⟩⟩)
  refine z_if_ne (tgt := 23) dM_grow_18 (by decide) (fun _ => ?_) (fun hc9 => absurd hc9 (by decide))
  clear e2
  rcases (show v = 0 ∨ v = 1 ∨ v = 2 ∨ v = 3 ∨ v = 4 ∨ v = 5 by omega) with rfl | rfl | rfl | rfl | rfl | rfl
  · clear hv
    rw [show nI 0 = (0 : Int32) from rfl] at k86 ⊢
    refine z_iload_n dM_grow_23 rfl ?_
    refine z_iconst (v := 2) dM_grow_24 (by decide) ?_
    refine z_icmp_lt (tgt := 33) dM_grow_25 (by decide) (fun _ => ?_) (fun hc9 => absurd hc9 (by decide))
    refine z_iconst (v := 1) dM_grow_33 (by decide) ?_
    refine z_goto (tgt := 38) dM_grow_34 (by decide) ?_
    refine z_istore_n dM_grow_38 (by decide) rfl ?_
    try simp only [List.set_cons_succ, List.set_cons_zero]
    refine z_iload_n dM_grow_39 rfl ?_
    refine z_iconst (v := 1) dM_grow_40 (by decide) ?_
    refine z_icmp_le (tgt := 48) dM_grow_41 (by decide) (fun _ => ?_) (fun hc9 => absurd hc9 (by decide))
    refine z_iconst (v := 0) dM_grow_48 (by decide) ?_
    refine z_istore dM_grow_49 (by decide) rfl ?_
    try simp only [List.set_cons_succ, List.set_cons_zero]
    refine z_iload_n dM_grow_51 rfl ?_
    refine z_if_eq (tgt := 68) dM_grow_52 (by decide) (fun hc9 => absurd hc9 (by decide)) (fun _ => ?_)
    refine z_iconst (v := 2) dM_grow_55 (by decide) ?_
    refine z_aload_n dM_grow_56 rfl ?_
    refine z_get (C := RM) (T := TM) (N := 7) (ref := "ToneMixerModel") 1 dM_grow_57 rfl rfl rfl (by decide) (fun w h => bwT (hbM w h)) (bwT b_387) rfl ?_
    refine z_iload_n dM_grow_60 rfl ?_
    refine z_ialdN (t0 := 0) (k := k) dM_grow_61 rfl rfl (rfl) (hk) (by decide) ?_
    refine z_imul dM_grow_62 ?_
    refine z_bipush (v := 32) dM_grow_63 (by decide) ?_
    rw [z_2, show (32 : Int32) = nI 32 from rfl]
    refine z_icmp_gt (tgt := 86) dM_grow_65 (by decide) (fun c => k86 _ _ (Or.inl ⟨rfl, (nI_ltI (by omega) (by omega)).mp c⟩)) (fun c => ?_)
    have hA : 2 * w k ≤ 32 := Nat.not_lt.mp (fun q => c (nI_lt q (by omega)))
    refine z_iload dM_grow_68 rfl ?_
    refine z_if_eq (tgt := 88) dM_grow_70 (by decide) (fun _ => ?_) (fun hc9 => absurd hc9 (by decide))
    have hno : ¬ tooL 0 (w k) (h k) := by
      rintro (⟨q1, q2⟩ | ⟨q1, q2⟩)
      · omega
      · cases q1
    refine z_iload_n dM_grow_88 rfl ?_
    refine z_if_eq (tgt := 109) dM_grow_89 (by decide) (fun hc9 => absurd hc9 (by decide)) (fun _ => ?_)
    refine z_aload_n dM_grow_92 rfl ?_
    refine z_iload_n dM_grow_93 rfl ?_
    refine z_iload_n dM_grow_94 rfl ?_
    refine z_iconst (v := 2) dM_grow_95 (by decide) ?_
    refine z_irem dM_grow_96 (by decide) ?_
    refine z_iconst (v := 1) dM_grow_97 (by decide) ?_
    refine z_icmp_ne (tgt := 105) dM_grow_98 (by decide) (fun _ => ?_) (fun hc9 => absurd hc9 (by decide))
    refine z_iconst (v := 0) dM_grow_105 (by decide) ?_
    refine z_same (z_V (C := RM) (b := 0) hE zEok_0 (m_across _ D ca ad (thv true true) w h S O ow oh hwh k hk false hA) dM_grow_106 (gd_V b_446 b_448 bs_16 b_3 b_449) rfl qM_across ⟨rfl, rfl⟩ (by rw [hR]; decide) (by rw [hR, hC, hS]; decide) rfl (Nat.le_of_ble_eq_true rfl) rfl rfl) (fun r aw1 hlen hr => ?_)
    obtain ⟨rfl, rfl⟩ := hr
    simp only [zpush]
    refine z_iload dM_grow_109 rfl ?_
    refine z_if_eq (tgt := 131) dM_grow_111 (by decide) (fun _ => ?_) (fun hc9 => absurd hc9 (by decide))
    refine z_iconst (v := 1) dM_grow_131 (by decide) ?_
    refine z_ireturn dM_grow_132 rfl hret ⟨Nat.le_of_eq hC, Nat.le_of_eq hS⟩ rfl (Or.inr ⟨k, hk, rfl, Or.inr ⟨0, by omega, rfl, hno, rfl, mkp S O k 1024, nI (w k), nI (h k), ?_⟩⟩)
    show _ = mwn ca 0 (va_up w k _) (va_up h k (h k)) _ _ _ _
    rw [va_upk]; rfl
  · clear hv
    rw [show nI 1 = (1 : Int32) from rfl] at k86 ⊢
    refine z_iload_n dM_grow_23 rfl ?_
    refine z_iconst (v := 2) dM_grow_24 (by decide) ?_
    refine z_icmp_lt (tgt := 33) dM_grow_25 (by decide) (fun _ => ?_) (fun hc9 => absurd hc9 (by decide))
    refine z_iconst (v := 1) dM_grow_33 (by decide) ?_
    refine z_goto (tgt := 38) dM_grow_34 (by decide) ?_
    refine z_istore_n dM_grow_38 (by decide) rfl ?_
    try simp only [List.set_cons_succ, List.set_cons_zero]
    refine z_iload_n dM_grow_39 rfl ?_
    refine z_iconst (v := 1) dM_grow_40 (by decide) ?_
    refine z_icmp_le (tgt := 48) dM_grow_41 (by decide) (fun _ => ?_) (fun hc9 => absurd hc9 (by decide))
    refine z_iconst (v := 0) dM_grow_48 (by decide) ?_
    refine z_istore dM_grow_49 (by decide) rfl ?_
    try simp only [List.set_cons_succ, List.set_cons_zero]
    refine z_iload_n dM_grow_51 rfl ?_
    refine z_if_eq (tgt := 68) dM_grow_52 (by decide) (fun hc9 => absurd hc9 (by decide)) (fun _ => ?_)
    refine z_iconst (v := 2) dM_grow_55 (by decide) ?_
    refine z_aload_n dM_grow_56 rfl ?_
    refine z_get (C := RM) (T := TM) (N := 7) (ref := "ToneMixerModel") 1 dM_grow_57 rfl rfl rfl (by decide) (fun w h => bwT (hbM w h)) (bwT b_387) rfl ?_
    refine z_iload_n dM_grow_60 rfl ?_
    refine z_ialdN (t0 := 0) (k := k) dM_grow_61 rfl rfl (rfl) (hk) (by decide) ?_
    refine z_imul dM_grow_62 ?_
    refine z_bipush (v := 32) dM_grow_63 (by decide) ?_
    rw [z_2, show (32 : Int32) = nI 32 from rfl]
    refine z_icmp_gt (tgt := 86) dM_grow_65 (by decide) (fun c => k86 _ _ (Or.inl ⟨rfl, (nI_ltI (by omega) (by omega)).mp c⟩)) (fun c => ?_)
    have hA : 2 * w k ≤ 32 := Nat.not_lt.mp (fun q => c (nI_lt q (by omega)))
    refine z_iload dM_grow_68 rfl ?_
    refine z_if_eq (tgt := 88) dM_grow_70 (by decide) (fun _ => ?_) (fun hc9 => absurd hc9 (by decide))
    have hno : ¬ tooL 1 (w k) (h k) := by
      rintro (⟨q1, q2⟩ | ⟨q1, q2⟩)
      · omega
      · cases q1
    refine z_iload_n dM_grow_88 rfl ?_
    refine z_if_eq (tgt := 109) dM_grow_89 (by decide) (fun hc9 => absurd hc9 (by decide)) (fun _ => ?_)
    refine z_aload_n dM_grow_92 rfl ?_
    refine z_iload_n dM_grow_93 rfl ?_
    refine z_iload_n dM_grow_94 rfl ?_
    refine z_iconst (v := 2) dM_grow_95 (by decide) ?_
    refine z_irem dM_grow_96 (by decide) ?_
    refine z_iconst (v := 1) dM_grow_97 (by decide) ?_
    refine z_icmp_ne (tgt := 105) dM_grow_98 (by decide) (fun hc9 => absurd hc9 (by decide)) (fun _ => ?_)
    refine z_iconst (v := 1) dM_grow_101 (by decide) ?_
    refine z_goto (tgt := 106) dM_grow_102 (by decide) ?_
    refine z_same (z_V (C := RM) (b := 0) hE zEok_0 (m_across _ D ca ad (thv true true) w h S O ow oh hwh k hk true hA) dM_grow_106 (gd_V b_446 b_448 bs_16 b_3 b_449) rfl qM_across ⟨rfl, rfl⟩ (by rw [hR]; decide) (by rw [hR, hC, hS]; decide) rfl (Nat.le_of_ble_eq_true rfl) rfl rfl) (fun r aw1 hlen hr => ?_)
    obtain ⟨rfl, rfl⟩ := hr
    simp only [zpush]
    refine z_iload dM_grow_109 rfl ?_
    refine z_if_eq (tgt := 131) dM_grow_111 (by decide) (fun _ => ?_) (fun hc9 => absurd hc9 (by decide))
    refine z_iconst (v := 1) dM_grow_131 (by decide) ?_
    refine z_ireturn dM_grow_132 rfl hret ⟨Nat.le_of_eq hC, Nat.le_of_eq hS⟩ rfl (Or.inr ⟨k, hk, rfl, Or.inr ⟨1, by omega, rfl, hno, rfl, mkp S O k 1024, nI (w k), nI (h k), ?_⟩⟩)
    show _ = mwn ca 0 (va_up w k _) (va_up h k (h k)) _ _ _ _
    rw [va_upk]; rfl
  · clear hv
    rw [show nI 2 = (2 : Int32) from rfl] at k86 ⊢
    refine z_iload_n dM_grow_23 rfl ?_
    refine z_iconst (v := 2) dM_grow_24 (by decide) ?_
    refine z_icmp_lt (tgt := 33) dM_grow_25 (by decide) (fun hc9 => absurd hc9 (by decide)) (fun _ => ?_)
    refine z_iload_n dM_grow_28 rfl ?_
    refine z_iconst (v := 3) dM_grow_29 (by decide) ?_
    refine z_icmp_le (tgt := 37) dM_grow_30 (by decide) (fun _ => ?_) (fun hc9 => absurd hc9 (by decide))
    refine z_iconst (v := 0) dM_grow_37 (by decide) ?_
    refine z_istore_n dM_grow_38 (by decide) rfl ?_
    try simp only [List.set_cons_succ, List.set_cons_zero]
    refine z_iload_n dM_grow_39 rfl ?_
    refine z_iconst (v := 1) dM_grow_40 (by decide) ?_
    refine z_icmp_le (tgt := 48) dM_grow_41 (by decide) (fun hc9 => absurd hc9 (by decide)) (fun _ => ?_)
    refine z_iconst (v := 1) dM_grow_44 (by decide) ?_
    refine z_goto (tgt := 49) dM_grow_45 (by decide) ?_
    refine z_istore dM_grow_49 (by decide) rfl ?_
    try simp only [List.set_cons_succ, List.set_cons_zero]
    refine z_iload_n dM_grow_51 rfl ?_
    refine z_if_eq (tgt := 68) dM_grow_52 (by decide) (fun _ => ?_) (fun hc9 => absurd hc9 (by decide))
    refine z_iload dM_grow_68 rfl ?_
    refine z_if_eq (tgt := 88) dM_grow_70 (by decide) (fun hc9 => absurd hc9 (by decide)) (fun _ => ?_)
    refine z_iconst (v := 2) dM_grow_73 (by decide) ?_
    refine z_aload_n dM_grow_74 rfl ?_
    refine z_get (C := RM) (T := TM) (N := 7) (ref := "ToneMixerModel") 2 dM_grow_75 rfl rfl rfl (by decide) (fun w h => bwT (hbM w h)) (bwT b_388) rfl ?_
    refine z_iload_n dM_grow_78 rfl ?_
    refine z_ialdN (t0 := 0) (k := k) dM_grow_79 rfl rfl (rfl) (hk) (by decide) ?_
    refine z_imul dM_grow_80 ?_
    refine z_bipush (v := 32) dM_grow_81 (by decide) ?_
    rw [z_2, show (32 : Int32) = nI 32 from rfl]
    refine z_icmp_le (tgt := 88) dM_grow_83 (by decide) (fun c => ?_) (fun c => k86 _ _ (Or.inr ⟨rfl, Nat.not_le.mp (fun q => c (nI_le q (by omega)))⟩))
    have hD : 2 * h k ≤ 32 := (nI_leI (by omega) (by omega)).mp c
    have hno : ¬ tooL 2 (w k) (h k) := by
      rintro (⟨q1, q2⟩ | ⟨q1, q2⟩)
      · cases q1
      · omega
    refine z_iload_n dM_grow_88 rfl ?_
    refine z_if_eq (tgt := 109) dM_grow_89 (by decide) (fun _ => ?_) (fun hc9 => absurd hc9 (by decide))
    refine z_iload dM_grow_109 rfl ?_
    refine z_if_eq (tgt := 131) dM_grow_111 (by decide) (fun hc9 => absurd hc9 (by decide)) (fun _ => ?_)
    refine z_aload_n dM_grow_114 rfl ?_
    refine z_iload_n dM_grow_115 rfl ?_
    refine z_iload_n dM_grow_116 rfl ?_
    refine z_iconst (v := 2) dM_grow_117 (by decide) ?_
    refine z_irem dM_grow_118 (by decide) ?_
    refine z_iconst (v := 1) dM_grow_119 (by decide) ?_
    refine z_icmp_ne (tgt := 127) dM_grow_120 (by decide) (fun _ => ?_) (fun hc9 => absurd hc9 (by decide))
    refine z_iconst (v := 0) dM_grow_127 (by decide) ?_
    refine z_same (z_V (C := RM) (b := 0) hE zEok_0 (m_down _ D ca ad (thv true true) w h S O ow oh hwh k hk false hD) dM_grow_128 (gd_V b_458 b_460 bs_19 b_3 b_461) rfl qM_down ⟨rfl, rfl⟩ (by rw [hR]; decide) (by rw [hR, hC, hS]; decide) rfl (Nat.le_of_ble_eq_true rfl) rfl rfl) (fun r aw1 hlen hr => ?_)
    obtain ⟨rfl, rfl⟩ := hr
    simp only [zpush]
    refine z_iconst (v := 1) dM_grow_131 (by decide) ?_
    refine z_ireturn dM_grow_132 rfl hret ⟨Nat.le_of_eq hC, Nat.le_of_eq hS⟩ rfl (Or.inr ⟨k, hk, rfl, Or.inr ⟨2, by omega, rfl, hno, rfl, mkp S O k 1024, nI (w k), nI (h k), ?_⟩⟩)
    show _ = mwn ca 0 (va_up w k (w k)) (va_up h k _) _ _ _ _
    rw [va_upk]; rfl
  · clear hv
    rw [show nI 3 = (3 : Int32) from rfl] at k86 ⊢
    refine z_iload_n dM_grow_23 rfl ?_
    refine z_iconst (v := 2) dM_grow_24 (by decide) ?_
    refine z_icmp_lt (tgt := 33) dM_grow_25 (by decide) (fun hc9 => absurd hc9 (by decide)) (fun _ => ?_)
    refine z_iload_n dM_grow_28 rfl ?_
    refine z_iconst (v := 3) dM_grow_29 (by decide) ?_
    refine z_icmp_le (tgt := 37) dM_grow_30 (by decide) (fun _ => ?_) (fun hc9 => absurd hc9 (by decide))
    refine z_iconst (v := 0) dM_grow_37 (by decide) ?_
    refine z_istore_n dM_grow_38 (by decide) rfl ?_
    try simp only [List.set_cons_succ, List.set_cons_zero]
    refine z_iload_n dM_grow_39 rfl ?_
    refine z_iconst (v := 1) dM_grow_40 (by decide) ?_
    refine z_icmp_le (tgt := 48) dM_grow_41 (by decide) (fun hc9 => absurd hc9 (by decide)) (fun _ => ?_)
    refine z_iconst (v := 1) dM_grow_44 (by decide) ?_
    refine z_goto (tgt := 49) dM_grow_45 (by decide) ?_
    refine z_istore dM_grow_49 (by decide) rfl ?_
    try simp only [List.set_cons_succ, List.set_cons_zero]
    refine z_iload_n dM_grow_51 rfl ?_
    refine z_if_eq (tgt := 68) dM_grow_52 (by decide) (fun _ => ?_) (fun hc9 => absurd hc9 (by decide))
    refine z_iload dM_grow_68 rfl ?_
    refine z_if_eq (tgt := 88) dM_grow_70 (by decide) (fun hc9 => absurd hc9 (by decide)) (fun _ => ?_)
    refine z_iconst (v := 2) dM_grow_73 (by decide) ?_
    refine z_aload_n dM_grow_74 rfl ?_
    refine z_get (C := RM) (T := TM) (N := 7) (ref := "ToneMixerModel") 2 dM_grow_75 rfl rfl rfl (by decide) (fun w h => bwT (hbM w h)) (bwT b_388) rfl ?_
    refine z_iload_n dM_grow_78 rfl ?_
    refine z_ialdN (t0 := 0) (k := k) dM_grow_79 rfl rfl (rfl) (hk) (by decide) ?_
    refine z_imul dM_grow_80 ?_
    refine z_bipush (v := 32) dM_grow_81 (by decide) ?_
    rw [z_2, show (32 : Int32) = nI 32 from rfl]
    refine z_icmp_le (tgt := 88) dM_grow_83 (by decide) (fun c => ?_) (fun c => k86 _ _ (Or.inr ⟨rfl, Nat.not_le.mp (fun q => c (nI_le q (by omega)))⟩))
    have hD : 2 * h k ≤ 32 := (nI_leI (by omega) (by omega)).mp c
    have hno : ¬ tooL 3 (w k) (h k) := by
      rintro (⟨q1, q2⟩ | ⟨q1, q2⟩)
      · cases q1
      · omega
    refine z_iload_n dM_grow_88 rfl ?_
    refine z_if_eq (tgt := 109) dM_grow_89 (by decide) (fun _ => ?_) (fun hc9 => absurd hc9 (by decide))
    refine z_iload dM_grow_109 rfl ?_
    refine z_if_eq (tgt := 131) dM_grow_111 (by decide) (fun hc9 => absurd hc9 (by decide)) (fun _ => ?_)
    refine z_aload_n dM_grow_114 rfl ?_
    refine z_iload_n dM_grow_115 rfl ?_
    refine z_iload_n dM_grow_116 rfl ?_
    refine z_iconst (v := 2) dM_grow_117 (by decide) ?_
    refine z_irem dM_grow_118 (by decide) ?_
    refine z_iconst (v := 1) dM_grow_119 (by decide) ?_
    refine z_icmp_ne (tgt := 127) dM_grow_120 (by decide) (fun hc9 => absurd hc9 (by decide)) (fun _ => ?_)
    refine z_iconst (v := 1) dM_grow_123 (by decide) ?_
    refine z_goto (tgt := 128) dM_grow_124 (by decide) ?_
    refine z_same (z_V (C := RM) (b := 0) hE zEok_0 (m_down _ D ca ad (thv true true) w h S O ow oh hwh k hk true hD) dM_grow_128 (gd_V b_458 b_460 bs_19 b_3 b_461) rfl qM_down ⟨rfl, rfl⟩ (by rw [hR]; decide) (by rw [hR, hC, hS]; decide) rfl (Nat.le_of_ble_eq_true rfl) rfl rfl) (fun r aw1 hlen hr => ?_)
    obtain ⟨rfl, rfl⟩ := hr
    simp only [zpush]
    refine z_iconst (v := 1) dM_grow_131 (by decide) ?_
    refine z_ireturn dM_grow_132 rfl hret ⟨Nat.le_of_eq hC, Nat.le_of_eq hS⟩ rfl (Or.inr ⟨k, hk, rfl, Or.inr ⟨3, by omega, rfl, hno, rfl, mkp S O k 1024, nI (w k), nI (h k), ?_⟩⟩)
    show _ = mwn ca 0 (va_up w k (w k)) (va_up h k _) _ _ _ _
    rw [va_upk]; rfl
  · clear hv
    rw [show nI 4 = (4 : Int32) from rfl] at k86 ⊢
    refine z_iload_n dM_grow_23 rfl ?_
    refine z_iconst (v := 2) dM_grow_24 (by decide) ?_
    refine z_icmp_lt (tgt := 33) dM_grow_25 (by decide) (fun hc9 => absurd hc9 (by decide)) (fun _ => ?_)
    refine z_iload_n dM_grow_28 rfl ?_
    refine z_iconst (v := 3) dM_grow_29 (by decide) ?_
    refine z_icmp_le (tgt := 37) dM_grow_30 (by decide) (fun hc9 => absurd hc9 (by decide)) (fun _ => ?_)
    refine z_iconst (v := 1) dM_grow_33 (by decide) ?_
    refine z_goto (tgt := 38) dM_grow_34 (by decide) ?_
    refine z_istore_n dM_grow_38 (by decide) rfl ?_
    try simp only [List.set_cons_succ, List.set_cons_zero]
    refine z_iload_n dM_grow_39 rfl ?_
    refine z_iconst (v := 1) dM_grow_40 (by decide) ?_
    refine z_icmp_le (tgt := 48) dM_grow_41 (by decide) (fun hc9 => absurd hc9 (by decide)) (fun _ => ?_)
    refine z_iconst (v := 1) dM_grow_44 (by decide) ?_
    refine z_goto (tgt := 49) dM_grow_45 (by decide) ?_
    refine z_istore dM_grow_49 (by decide) rfl ?_
    try simp only [List.set_cons_succ, List.set_cons_zero]
    refine z_iload_n dM_grow_51 rfl ?_
    refine z_if_eq (tgt := 68) dM_grow_52 (by decide) (fun hc9 => absurd hc9 (by decide)) (fun _ => ?_)
    refine z_iconst (v := 2) dM_grow_55 (by decide) ?_
    refine z_aload_n dM_grow_56 rfl ?_
    refine z_get (C := RM) (T := TM) (N := 7) (ref := "ToneMixerModel") 1 dM_grow_57 rfl rfl rfl (by decide) (fun w h => bwT (hbM w h)) (bwT b_387) rfl ?_
    refine z_iload_n dM_grow_60 rfl ?_
    refine z_ialdN (t0 := 0) (k := k) dM_grow_61 rfl rfl (rfl) (hk) (by decide) ?_
    refine z_imul dM_grow_62 ?_
    refine z_bipush (v := 32) dM_grow_63 (by decide) ?_
    rw [z_2, show (32 : Int32) = nI 32 from rfl]
    refine z_icmp_gt (tgt := 86) dM_grow_65 (by decide) (fun c => k86 _ _ (Or.inl ⟨rfl, (nI_ltI (by omega) (by omega)).mp c⟩)) (fun c => ?_)
    have hA : 2 * w k ≤ 32 := Nat.not_lt.mp (fun q => c (nI_lt q (by omega)))
    refine z_iload dM_grow_68 rfl ?_
    refine z_if_eq (tgt := 88) dM_grow_70 (by decide) (fun hc9 => absurd hc9 (by decide)) (fun _ => ?_)
    refine z_iconst (v := 2) dM_grow_73 (by decide) ?_
    refine z_aload_n dM_grow_74 rfl ?_
    refine z_get (C := RM) (T := TM) (N := 7) (ref := "ToneMixerModel") 2 dM_grow_75 rfl rfl rfl (by decide) (fun w h => bwT (hbM w h)) (bwT b_388) rfl ?_
    refine z_iload_n dM_grow_78 rfl ?_
    refine z_ialdN (t0 := 0) (k := k) dM_grow_79 rfl rfl (rfl) (hk) (by decide) ?_
    refine z_imul dM_grow_80 ?_
    refine z_bipush (v := 32) dM_grow_81 (by decide) ?_
    rw [z_2, show (32 : Int32) = nI 32 from rfl]
    refine z_icmp_le (tgt := 88) dM_grow_83 (by decide) (fun c => ?_) (fun c => k86 _ _ (Or.inr ⟨rfl, Nat.not_le.mp (fun q => c (nI_le q (by omega)))⟩))
    have hD : 2 * h k ≤ 32 := (nI_leI (by omega) (by omega)).mp c
    have hno : ¬ tooL 4 (w k) (h k) := by
      rintro (⟨q1, q2⟩ | ⟨q1, q2⟩)
      · omega
      · omega
    refine z_iload_n dM_grow_88 rfl ?_
    refine z_if_eq (tgt := 109) dM_grow_89 (by decide) (fun hc9 => absurd hc9 (by decide)) (fun _ => ?_)
    refine z_aload_n dM_grow_92 rfl ?_
    refine z_iload_n dM_grow_93 rfl ?_
    refine z_iload_n dM_grow_94 rfl ?_
    refine z_iconst (v := 2) dM_grow_95 (by decide) ?_
    refine z_irem dM_grow_96 (by decide) ?_
    refine z_iconst (v := 1) dM_grow_97 (by decide) ?_
    refine z_icmp_ne (tgt := 105) dM_grow_98 (by decide) (fun _ => ?_) (fun hc9 => absurd hc9 (by decide))
    refine z_iconst (v := 0) dM_grow_105 (by decide) ?_
    refine z_same (z_V (C := RM) (b := 0) hE zEok_0 (m_across _ D ca ad (thv true true) w h S O ow oh hwh k hk false hA) dM_grow_106 (gd_V b_446 b_448 bs_16 b_3 b_449) rfl qM_across ⟨rfl, rfl⟩ (by rw [hR]; decide) (by rw [hR, hC, hS]; decide) rfl (Nat.le_of_ble_eq_true rfl) rfl rfl) (fun r aw1 hlen hr => ?_)
    obtain ⟨rfl, rfl⟩ := hr
    simp only [zpush]
    refine z_iload dM_grow_109 rfl ?_
    refine z_if_eq (tgt := 131) dM_grow_111 (by decide) (fun hc9 => absurd hc9 (by decide)) (fun _ => ?_)
    refine z_aload_n dM_grow_114 rfl ?_
    refine z_iload_n dM_grow_115 rfl ?_
    refine z_iload_n dM_grow_116 rfl ?_
    refine z_iconst (v := 2) dM_grow_117 (by decide) ?_
    refine z_irem dM_grow_118 (by decide) ?_
    refine z_iconst (v := 1) dM_grow_119 (by decide) ?_
    refine z_icmp_ne (tgt := 127) dM_grow_120 (by decide) (fun _ => ?_) (fun hc9 => absurd hc9 (by decide))
    refine z_iconst (v := 0) dM_grow_127 (by decide) ?_
    refine z_same (z_V (C := RM) (b := 0) hE zEok_0 (m_down _ D ca ad (thv true true) (va_up w k (2 * w k)) h (acY false (mkp S O k 1024) (w k) k S (h k)) (mkp S O k 1024) (nI (w k)) (nI (h k)) (okW_w1 hwh hk (by omega) hA) k hk false hD) dM_grow_128 (gd_V b_458 b_460 bs_19 b_3 b_461) rfl qM_down ⟨rfl, rfl⟩ (by rw [hR]; decide) (by rw [hR, hC, hS]; decide) rfl (Nat.le_of_ble_eq_true rfl) rfl rfl) (fun r aw1 hlen hr => ?_)
    obtain ⟨rfl, rfl⟩ := hr
    rw [va_up_self]
    simp only [zpush]
    refine z_iconst (v := 1) dM_grow_131 (by decide) ?_
    refine z_ireturn dM_grow_132 rfl hret ⟨Nat.le_of_eq hC, Nat.le_of_eq hS⟩ rfl (Or.inr ⟨k, hk, rfl, Or.inr ⟨4, by omega, rfl, hno, rfl, mkp (acY false (mkp S O k 1024) (w k) k S (h k)) (mkp S O k 1024) k 1024, nI (2 * w k), nI (h k), ?_⟩⟩)
    rfl
  · clear hv
    rw [show nI 5 = (5 : Int32) from rfl] at k86 ⊢
    refine z_iload_n dM_grow_23 rfl ?_
    refine z_iconst (v := 2) dM_grow_24 (by decide) ?_
    refine z_icmp_lt (tgt := 33) dM_grow_25 (by decide) (fun hc9 => absurd hc9 (by decide)) (fun _ => ?_)
    refine z_iload_n dM_grow_28 rfl ?_
    refine z_iconst (v := 3) dM_grow_29 (by decide) ?_
    refine z_icmp_le (tgt := 37) dM_grow_30 (by decide) (fun hc9 => absurd hc9 (by decide)) (fun _ => ?_)
    refine z_iconst (v := 1) dM_grow_33 (by decide) ?_
    refine z_goto (tgt := 38) dM_grow_34 (by decide) ?_
    refine z_istore_n dM_grow_38 (by decide) rfl ?_
    try simp only [List.set_cons_succ, List.set_cons_zero]
    refine z_iload_n dM_grow_39 rfl ?_
    refine z_iconst (v := 1) dM_grow_40 (by decide) ?_
    refine z_icmp_le (tgt := 48) dM_grow_41 (by decide) (fun hc9 => absurd hc9 (by decide)) (fun _ => ?_)
    refine z_iconst (v := 1) dM_grow_44 (by decide) ?_
    refine z_goto (tgt := 49) dM_grow_45 (by decide) ?_
    refine z_istore dM_grow_49 (by decide) rfl ?_
    try simp only [List.set_cons_succ, List.set_cons_zero]
    refine z_iload_n dM_grow_51 rfl ?_
    refine z_if_eq (tgt := 68) dM_grow_52 (by decide) (fun hc9 => absurd hc9 (by decide)) (fun _ => ?_)
    refine z_iconst (v := 2) dM_grow_55 (by decide) ?_
    refine z_aload_n dM_grow_56 rfl ?_
    refine z_get (C := RM) (T := TM) (N := 7) (ref := "ToneMixerModel") 1 dM_grow_57 rfl rfl rfl (by decide) (fun w h => bwT (hbM w h)) (bwT b_387) rfl ?_
    refine z_iload_n dM_grow_60 rfl ?_
    refine z_ialdN (t0 := 0) (k := k) dM_grow_61 rfl rfl (rfl) (hk) (by decide) ?_
    refine z_imul dM_grow_62 ?_
    refine z_bipush (v := 32) dM_grow_63 (by decide) ?_
    rw [z_2, show (32 : Int32) = nI 32 from rfl]
    refine z_icmp_gt (tgt := 86) dM_grow_65 (by decide) (fun c => k86 _ _ (Or.inl ⟨rfl, (nI_ltI (by omega) (by omega)).mp c⟩)) (fun c => ?_)
    have hA : 2 * w k ≤ 32 := Nat.not_lt.mp (fun q => c (nI_lt q (by omega)))
    refine z_iload dM_grow_68 rfl ?_
    refine z_if_eq (tgt := 88) dM_grow_70 (by decide) (fun hc9 => absurd hc9 (by decide)) (fun _ => ?_)
    refine z_iconst (v := 2) dM_grow_73 (by decide) ?_
    refine z_aload_n dM_grow_74 rfl ?_
    refine z_get (C := RM) (T := TM) (N := 7) (ref := "ToneMixerModel") 2 dM_grow_75 rfl rfl rfl (by decide) (fun w h => bwT (hbM w h)) (bwT b_388) rfl ?_
    refine z_iload_n dM_grow_78 rfl ?_
    refine z_ialdN (t0 := 0) (k := k) dM_grow_79 rfl rfl (rfl) (hk) (by decide) ?_
    refine z_imul dM_grow_80 ?_
    refine z_bipush (v := 32) dM_grow_81 (by decide) ?_
    rw [z_2, show (32 : Int32) = nI 32 from rfl]
    refine z_icmp_le (tgt := 88) dM_grow_83 (by decide) (fun c => ?_) (fun c => k86 _ _ (Or.inr ⟨rfl, Nat.not_le.mp (fun q => c (nI_le q (by omega)))⟩))
    have hD : 2 * h k ≤ 32 := (nI_leI (by omega) (by omega)).mp c
    have hno : ¬ tooL 5 (w k) (h k) := by
      rintro (⟨q1, q2⟩ | ⟨q1, q2⟩)
      · omega
      · omega
    refine z_iload_n dM_grow_88 rfl ?_
    refine z_if_eq (tgt := 109) dM_grow_89 (by decide) (fun hc9 => absurd hc9 (by decide)) (fun _ => ?_)
    refine z_aload_n dM_grow_92 rfl ?_
    refine z_iload_n dM_grow_93 rfl ?_
    refine z_iload_n dM_grow_94 rfl ?_
    refine z_iconst (v := 2) dM_grow_95 (by decide) ?_
    refine z_irem dM_grow_96 (by decide) ?_
    refine z_iconst (v := 1) dM_grow_97 (by decide) ?_
    refine z_icmp_ne (tgt := 105) dM_grow_98 (by decide) (fun hc9 => absurd hc9 (by decide)) (fun _ => ?_)
    refine z_iconst (v := 1) dM_grow_101 (by decide) ?_
    refine z_goto (tgt := 106) dM_grow_102 (by decide) ?_
    refine z_same (z_V (C := RM) (b := 0) hE zEok_0 (m_across _ D ca ad (thv true true) w h S O ow oh hwh k hk true hA) dM_grow_106 (gd_V b_446 b_448 bs_16 b_3 b_449) rfl qM_across ⟨rfl, rfl⟩ (by rw [hR]; decide) (by rw [hR, hC, hS]; decide) rfl (Nat.le_of_ble_eq_true rfl) rfl rfl) (fun r aw1 hlen hr => ?_)
    obtain ⟨rfl, rfl⟩ := hr
    simp only [zpush]
    refine z_iload dM_grow_109 rfl ?_
    refine z_if_eq (tgt := 131) dM_grow_111 (by decide) (fun hc9 => absurd hc9 (by decide)) (fun _ => ?_)
    refine z_aload_n dM_grow_114 rfl ?_
    refine z_iload_n dM_grow_115 rfl ?_
    refine z_iload_n dM_grow_116 rfl ?_
    refine z_iconst (v := 2) dM_grow_117 (by decide) ?_
    refine z_irem dM_grow_118 (by decide) ?_
    refine z_iconst (v := 1) dM_grow_119 (by decide) ?_
    refine z_icmp_ne (tgt := 127) dM_grow_120 (by decide) (fun hc9 => absurd hc9 (by decide)) (fun _ => ?_)
    refine z_iconst (v := 1) dM_grow_123 (by decide) ?_
    refine z_goto (tgt := 128) dM_grow_124 (by decide) ?_
    refine z_same (z_V (C := RM) (b := 0) hE zEok_0 (m_down _ D ca ad (thv true true) (va_up w k (2 * w k)) h (acY true (mkp S O k 1024) (w k) k S (h k)) (mkp S O k 1024) (nI (w k)) (nI (h k)) (okW_w1 hwh hk (by omega) hA) k hk true hD) dM_grow_128 (gd_V b_458 b_460 bs_19 b_3 b_461) rfl qM_down ⟨rfl, rfl⟩ (by rw [hR]; decide) (by rw [hR, hC, hS]; decide) rfl (Nat.le_of_ble_eq_true rfl) rfl rfl) (fun r aw1 hlen hr => ?_)
    obtain ⟨rfl, rfl⟩ := hr
    rw [va_up_self]
    simp only [zpush]
    refine z_iconst (v := 1) dM_grow_131 (by decide) ?_
    refine z_ireturn dM_grow_132 rfl hret ⟨Nat.le_of_eq hC, Nat.le_of_eq hS⟩ rfl (Or.inr ⟨k, hk, rfl, Or.inr ⟨5, by omega, rfl, hno, rfl, mkp (acY true (mkp S O k 1024) (w k) k S (h k)) (mkp S O k 1024) k 1024, nI (2 * w k), nI (h k), ?_⟩⟩)
    rfl
