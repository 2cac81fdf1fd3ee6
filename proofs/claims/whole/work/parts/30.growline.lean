/-! loops that write, mirrored as recursions -/
/-- the line after i samples have been copied -/
def cpyL (f g : Nat → Int32) (st sp i : Nat) : Nat → Int32 := fun j => if j < i then f (st + j * sp) else g j
theorem cpyL_0 (f g : Nat → Int32) (st sp : Nat) : cpyL f g st sp 0 = g := by funext j; simp [cpyL]
theorem cpyL_s (f g : Nat → Int32) (st sp i : Nat) : upd (cpyL f g st sp i) i (f (st + i * sp)) = cpyL f g st sp (i + 1) := by
  funext j
  by_cases h : j = i
  · subst h; rw [pk_us]; simp [cpyL]
  · rw [pk_un h]
    simp only [cpyL]
    by_cases h2 : j < i
    · rw [if_pos h2, if_pos (by omega)]
    · rw [if_neg h2, if_neg (by omega)]
def gBe (t : Bool) (L : Nat → Int32) (i : Nat) : Int32 := if t = true ∧ 0 < i then L (i - 1) else L i
def gAf (t : Bool) (L : Nat → Int32) (len i : Nat) : Int32 := if t = true ∧ i + 1 < len then L (i + 1) else L i
def gA (t : Bool) (L : Nat → Int32) (i : Nat) : Int32 := (3 * L i + gBe t L i + 1) >>> ((2 : Int32) &&& 31)
def gB (t : Bool) (L : Nat → Int32) (len i : Nat) : Int32 := (3 * L i + gAf t L len i + 2) >>> ((2 : Int32) &&& 31)
/-- the samples after i of the line have grown -/
def grw (t : Bool) (L : Nat → Int32) (len st sp : Nat) (f : Nat → Int32) : Nat → (Nat → Int32)
  | 0 => f
  | i + 1 => upd (upd (grw t L len st sp f i) (st + 2 * i * sp) (gA t L i)) (st + (2 * i + 1) * sp) (gB t L len i)
def tv (t : Bool) : Int32 := if t = true then 1 else 0
section
variable {M : zM} {D : va_G} {ca : Nat → ClassId} {ad : Nat → Nat} {f g : Nat → Int32} {w h : Int32} {st sp len : Nat} {t : Bool}
set_option maxRecDepth 100000 in
set_option maxHeartbeats 4000000 in
theorem l_growLine_1 (hlen : len ≤ 16) (hb : ∀ i, i < 2 * len → st + i * sp < 1024) (o6 o7 o8 : Option Value)
    (k : Zj M (gG D ca ad) cP_growLine 9 RP wP_growLine none (pw3 ca (f) (cpyL f g st sp len) w h) [some (.ref 0), some (.int (nI st)), some (.int (nI sp)), some (.int (nI len)), some (.int (tv t)), some (.int (nI len)), o6, o7, o8] [] 33) :
    ∀ n i, i + n = len → Zj M (gG D ca ad) cP_growLine 9 RP wP_growLine none (pw3 ca (f) (cpyL f g st sp i) w h) [some (.ref 0), some (.int (nI st)), some (.int (nI sp)), some (.int (nI len)), some (.int (tv t)), some (.int (nI i)), o6, o7, o8] [] 3 := by
  intro n
  induction n with
  | zero =>
    intro i hi
    obtain rfl : i = len := by omega
    refine z_iload dP_growLine_3 rfl ?_
    refine z_iload_n dP_growLine_5 rfl ?_
    exact z_icmp_ge (tgt := 33) dP_growLine_6 (by decide) (fun _ => k) (fun hc => absurd (nI_le (Nat.le_refl _) (by omega)) hc)
  | succ n ih =>
    intro i hi
    refine z_iload dP_growLine_3 rfl ?_
    refine z_iload_n dP_growLine_5 rfl ?_
    refine z_icmp_ge (tgt := 33) dP_growLine_6 (by decide) (fun hc => absurd hc (nI_ge (by omega) (by omega))) (fun _ => ?_)
    refine z_aload_n dP_growLine_9 rfl ?_
    refine z_get (C := RP) (T := TP) (N := 4) (ref := "ToneMixer$Plane") 3 dP_growLine_10 rfl rfl rfl (by decide) (fun w h => bwT (hbP w h)) (bwT b_33) rfl ?_
    refine z_iload dP_growLine_13 rfl ?_
    refine z_aload_n dP_growLine_15 rfl ?_
    refine z_get (C := RP) (T := TP) (N := 4) (ref := "ToneMixer$Plane") 0 dP_growLine_16 rfl rfl rfl (by decide) (fun w h => bwT (hbP w h)) (bwT b_27) rfl ?_
    refine z_iload_n dP_growLine_19 rfl ?_
    refine z_iload dP_growLine_20 rfl ?_
    refine z_iload_n dP_growLine_22 rfl ?_
    refine z_imul dP_growLine_23 ?_
    refine z_iadd dP_growLine_24 ?_
    refine z_ialdN (t0 := 0) (k := st + i * sp) dP_growLine_25 rfl rfl (by rw [za, zm]) (hb i (by omega)) (by decide) ?_
    refine z_iastN (t0 := 0) (k := i) dP_growLine_26 rfl rfl (rfl) (by omega) (by decide) ?_
    try simp only [List.set_cons_succ, List.set_cons_zero]
    refine z_iinc1 dP_growLine_27 (by decide) rfl rfl ?_
    try simp only [List.set_cons_succ, List.set_cons_zero]
    refine z_goto (tgt := 3) dP_growLine_30 (by decide) ?_
    rw [cpyL_s, nI_1]
    exact ih (i + 1) (by omega)
set_option maxRecDepth 100000 in
set_option maxHeartbeats 4000000 in
theorem l_growLine_2 (hlen : len ≤ 16) (hb : ∀ i, i < 2 * len → st + i * sp < 1024) (L : Nat → Int32)
    (k : ∀ o6 o7 o8, Zj M (gG D ca ad) cP_growLine 9 RP wP_growLine none (pw3 ca (grw t L len st sp f len) (L) w h) [some (.ref 0), some (.int (nI st)), some (.int (nI sp)), some (.int (nI len)), some (.int (tv t)), some (.int (nI len)), o6, o7, o8] [] 162) :
    ∀ n i, i + n = len → ∀ o6 o7 o8, Zj M (gG D ca ad) cP_growLine 9 RP wP_growLine none (pw3 ca (grw t L len st sp f i) (L) w h) [some (.ref 0), some (.int (nI st)), some (.int (nI sp)), some (.int (nI len)), some (.int (tv t)), some (.int (nI i)), o6, o7, o8] [] 36 := by
  intro n
  induction n with
  | zero =>
    intro i hi o6 o7 o8
    obtain rfl : i = len := by omega
    refine z_iload dP_growLine_36 rfl ?_
    refine z_iload_n dP_growLine_38 rfl ?_
    exact z_icmp_ge (tgt := 162) dP_growLine_39 (by decide) (fun _ => k o6 o7 o8) (fun hc => absurd (nI_le (Nat.le_refl _) (by omega)) hc)
  | succ n ih =>
    intro i hi o6 o7 o8
    refine z_iload dP_growLine_36 rfl ?_
    refine z_iload_n dP_growLine_38 rfl ?_
    refine z_icmp_ge (tgt := 162) dP_growLine_39 (by decide) (fun hc => absurd hc (nI_ge (by omega) (by omega))) (fun _ => ?_)
    refine z_aload_n dP_growLine_42 rfl ?_
    refine z_get (C := RP) (T := TP) (N := 4) (ref := "ToneMixer$Plane") 3 dP_growLine_43 rfl rfl rfl (by decide) (fun w h => bwT (hbP w h)) (bwT b_33) rfl ?_
    refine z_iload dP_growLine_46 rfl ?_
    refine z_ialdN (t0 := 0) (k := i) dP_growLine_48 rfl rfl (rfl) (by omega) (by decide) ?_
    refine z_istore dP_growLine_49 (by decide) rfl ?_
    try simp only [List.set_cons_succ, List.set_cons_zero]
    have k106 : Zj M (gG D ca ad) cP_growLine 9 RP wP_growLine none (pw3 ca (grw t L len st sp f i) (L) w h) [some (.ref 0), some (.int (nI st)), some (.int (nI sp)), some (.int (nI len)), some (.int (tv t)), some (.int (nI i)), some (.int (L i)), some (.int (gBe t L i)), some (.int (gAf t L len i))] [] 106 := by
      refine z_aload_n dP_growLine_106 rfl ?_
      refine z_get (C := RP) (T := TP) (N := 4) (ref := "ToneMixer$Plane") 0 dP_growLine_107 rfl rfl rfl (by decide) (fun w h => bwT (hbP w h)) (bwT b_27) rfl ?_
      refine z_iload_n dP_growLine_110 rfl ?_
      refine z_iconst (v := 2) dP_growLine_111 (by decide) ?_
      refine z_iload dP_growLine_112 rfl ?_
      refine z_imul dP_growLine_114 ?_
      refine z_iload_n dP_growLine_115 rfl ?_
      refine z_imul dP_growLine_116 ?_
      refine z_iadd dP_growLine_117 ?_
      refine z_iconst (v := 3) dP_growLine_118 (by decide) ?_
      refine z_iload dP_growLine_119 rfl ?_
      refine z_imul dP_growLine_121 ?_
      refine z_iload dP_growLine_122 rfl ?_
      refine z_iadd dP_growLine_124 ?_
      refine z_iconst (v := 1) dP_growLine_125 (by decide) ?_
      refine z_iadd dP_growLine_126 ?_
      refine z_iconst (v := 2) dP_growLine_127 (by decide) ?_
      refine z_ishr dP_growLine_128 ?_
      refine z_iastN (t0 := 0) (k := st + 2 * i * sp) dP_growLine_129 rfl rfl (by rw [za, zm, zm]; rfl) (by have := hb (2 * i) (by omega); rw [Nat.mul_assoc] at this ⊢; exact this) (by decide) ?_
      try simp only [List.set_cons_succ, List.set_cons_zero]
      refine z_aload_n dP_growLine_130 rfl ?_
      refine z_get (C := RP) (T := TP) (N := 4) (ref := "ToneMixer$Plane") 0 dP_growLine_131 rfl rfl rfl (by decide) (fun w h => bwT (hbP w h)) (bwT b_27) rfl ?_
      refine z_iload_n dP_growLine_134 rfl ?_
      refine z_iconst (v := 2) dP_growLine_135 (by decide) ?_
      refine z_iload dP_growLine_136 rfl ?_
      refine z_imul dP_growLine_138 ?_
      refine z_iconst (v := 1) dP_growLine_139 (by decide) ?_
      refine z_iadd dP_growLine_140 ?_
      refine z_iload_n dP_growLine_141 rfl ?_
      refine z_imul dP_growLine_142 ?_
      refine z_iadd dP_growLine_143 ?_
      refine z_iconst (v := 3) dP_growLine_144 (by decide) ?_
      refine z_iload dP_growLine_145 rfl ?_
      refine z_imul dP_growLine_147 ?_
      refine z_iload dP_growLine_148 rfl ?_
      refine z_iadd dP_growLine_150 ?_
      refine z_iconst (v := 2) dP_growLine_151 (by decide) ?_
      refine z_iadd dP_growLine_152 ?_
      refine z_iconst (v := 2) dP_growLine_153 (by decide) ?_
      refine z_ishr dP_growLine_154 ?_
      refine z_iastN (t0 := 0) (k := st + (2 * i + 1) * sp) dP_growLine_155 rfl rfl (by rw [za, zm, za, zm]; rfl) (hb (2 * i + 1) (by omega)) (by decide) ?_
      try simp only [List.set_cons_succ, List.set_cons_zero]
      refine z_iinc1 dP_growLine_156 (by decide) rfl rfl ?_
      try simp only [List.set_cons_succ, List.set_cons_zero]
      refine z_goto (tgt := 36) dP_growLine_159 (by decide) ?_
      rw [nI_1]
      exact ih (i + 1) (by omega) _ _ _
    have k75 : Zj M (gG D ca ad) cP_growLine 9 RP wP_growLine none (pw3 ca (grw t L len st sp f i) (L) w h) [some (.ref 0), some (.int (nI st)), some (.int (nI sp)), some (.int (nI len)), some (.int (tv t)), some (.int (nI i)), some (.int (L i)), o7, o8] [.int (gBe t L i)] 75 := by
      refine z_istore dP_growLine_75 (by decide) rfl ?_
      try simp only [List.set_cons_succ, List.set_cons_zero]
      have k104 : Zj M (gG D ca ad) cP_growLine 9 RP wP_growLine none (pw3 ca (grw t L len st sp f i) (L) w h) [some (.ref 0), some (.int (nI st)), some (.int (nI sp)), some (.int (nI len)), some (.int (tv t)), some (.int (nI i)), some (.int (L i)), some (.int (gBe t L i)), o8] [.int (gAf t L len i)] 104 := by
        refine z_istore dP_growLine_104 (by decide) rfl ?_
        try simp only [List.set_cons_succ, List.set_cons_zero]
        exact k106
      refine z_iload dP_growLine_77 rfl ?_
      have k102 : ¬ (t = true ∧ i + 1 < len) → Zj M (gG D ca ad) cP_growLine 9 RP wP_growLine none (pw3 ca (grw t L len st sp f i) (L) w h) [some (.ref 0), some (.int (nI st)), some (.int (nI sp)), some (.int (nI len)), some (.int (tv t)), some (.int (nI i)), some (.int (L i)), some (.int (gBe t L i)), o8] [] 102 := fun q => by
        refine z_iload dP_growLine_102 rfl ?_
        rw [show gAf t L len i = L i by rw [gAf, if_neg q]] at k104
        exact k104
      refine z_if_eq (tgt := 102) dP_growLine_79 (by decide) (fun c => k102 (fun q => by rw [tv, if_pos q.1] at c; exact absurd c (by decide))) (fun c => ?_)
      have ht : t = true := by cases t with
        | true => rfl
        | false => exact absurd rfl c
      refine z_iload dP_growLine_82 rfl ?_
      refine z_iconst (v := 1) dP_growLine_84 (by decide) ?_
      refine z_iadd dP_growLine_85 ?_
      refine z_iload_n dP_growLine_86 rfl ?_
      rw [nI_1]
      refine z_icmp_ge (tgt := 102) dP_growLine_87 (by decide) (fun c => k102 (fun q => nI_ge q.2 (by omega) c)) (fun c => ?_)
      have hl : i + 1 < len := by
        rcases Nat.lt_or_ge (i + 1) len with q | q
        · exact q
        · exact absurd (nI_le q (by omega)) c
      refine z_aload_n dP_growLine_90 rfl ?_
      refine z_get (C := RP) (T := TP) (N := 4) (ref := "ToneMixer$Plane") 3 dP_growLine_91 rfl rfl rfl (by decide) (fun w h => bwT (hbP w h)) (bwT b_33) rfl ?_
      refine z_iload dP_growLine_94 rfl ?_
      refine z_iconst (v := 1) dP_growLine_96 (by decide) ?_
      refine z_iadd dP_growLine_97 ?_
      refine z_ialdN (t0 := 0) (k := i + 1) dP_growLine_98 rfl rfl (nI_1 i) (by omega) (by decide) ?_
      refine z_goto (tgt := 104) dP_growLine_99 (by decide) ?_
      rw [show L (i + 1) = gAf t L len i by rw [gAf, if_pos ⟨ht, hl⟩]]
      exact k104
    have k73 : ¬ (t = true ∧ 0 < i) → Zj M (gG D ca ad) cP_growLine 9 RP wP_growLine none (pw3 ca (grw t L len st sp f i) (L) w h) [some (.ref 0), some (.int (nI st)), some (.int (nI sp)), some (.int (nI len)), some (.int (tv t)), some (.int (nI i)), some (.int (L i)), o7, o8] [] 73 := fun q => by
      refine z_iload dP_growLine_73 rfl ?_
      rw [show gBe t L i = L i by rw [gBe, if_neg q]] at k75
      exact k75
    refine z_iload dP_growLine_51 rfl ?_
    refine z_if_eq (tgt := 73) dP_growLine_53 (by decide) (fun c => k73 (fun q => by rw [tv, if_pos q.1] at c; exact absurd c (by decide))) (fun c => ?_)
    have ht : t = true := by cases t with
      | true => rfl
      | false => exact absurd rfl c
    refine z_iload dP_growLine_56 rfl ?_
    refine z_if_le (tgt := 73) dP_growLine_58 (by decide) (fun c => k73 (fun q => nI_nle q.2 (by omega) c)) (fun c => ?_)
    have hl : 0 < i := by
      rcases Nat.eq_zero_or_pos i with q | q
      · subst q; exact absurd (by decide) c
      · exact q
    refine z_aload_n dP_growLine_61 rfl ?_
    refine z_get (C := RP) (T := TP) (N := 4) (ref := "ToneMixer$Plane") 3 dP_growLine_62 rfl rfl rfl (by decide) (fun w h => bwT (hbP w h)) (bwT b_33) rfl ?_
    refine z_iload dP_growLine_65 rfl ?_
    refine z_iconst (v := 1) dP_growLine_67 (by decide) ?_
    refine z_isub dP_growLine_68 ?_
    refine z_ialdN (t0 := 0) (k := i - 1) dP_growLine_69 rfl rfl (by rw [show (1 : Int32) = nI 1 from rfl, pk_sub hl]) (by omega) (by decide) ?_
    refine z_goto (tgt := 75) dP_growLine_70 (by decide) ?_
    rw [show L (i - 1) = gBe t L i by rw [gBe, if_pos ⟨ht, hl⟩]]
    exact k75
end
set_option maxRecDepth 100000 in
set_option maxHeartbeats 4000000 in
theorem c_growLine (l : Launch) (D : va_G) (ca : Nat → ClassId) (ad : Nat → Nat) (f g : Nat → Int32) (w h : Int32) (st sp len : Nat) (t : Bool) (hlen : len ≤ 16) (hb : ∀ i, i < 2 * len → st + i * sp < 1024) : zMet l yP_growLine wP_growLine (rmk 0 0 0) zE0 (gG D ca ad) (pw3 ca f g w h) [.ref 0, .int (nI st), .int (nI sp), .int (nI len), .int (tv t)] (fun r aw => r = none ∧ aw = pw3 ca (grw t (cpyL f g st sp len) len st sp f len) (cpyL f g st sp len) w h) := by
  refine zMet.of (cc := cP_growLine) (maxL := 9) (ret := none) (lv := [some (.ref 0), some (.int (nI st)), some (.int (nI sp)), some (.int (nI len)), some (.int (tv t)), none, none, none, none]) (by decide) rfl (Nat.le_of_ble_eq_true rfl) rfl (fun M hl0 hR hC hS hE hret => ?_)
  refine z_iconst (v := 0) dP_growLine_0 (by decide) ?_
  refine z_istore dP_growLine_1 (by decide) rfl ?_
  try simp only [List.set_cons_succ, List.set_cons_zero]
  have h1 := l_growLine_1 (M := M) (D := D) (ca := ca) (ad := ad) (f := f) (g := g) (w := w) (h := h) (st := st) (sp := sp) (len := len) (t := t) hlen hb none none none ?_ len 0 (by omega)
  · rw [cpyL_0] at h1
    exact h1
  refine z_iconst (v := 0) dP_growLine_33 (by decide) ?_
  refine z_istore dP_growLine_34 (by decide) rfl ?_
  try simp only [List.set_cons_succ, List.set_cons_zero]
  refine l_growLine_2 hlen hb (cpyL f g st sp len) (fun o6 o7 o8 => ?_) len 0 (by omega) none none none
  exact z_return dP_growLine_162 hret ⟨Nat.le_of_eq hC, Nat.le_of_eq hS⟩ rfl ⟨rfl, rfl⟩
