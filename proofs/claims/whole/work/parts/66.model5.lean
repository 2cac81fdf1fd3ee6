/-- the reference's shrunk sample -/
def msv (v : Nat) (O : Nat → Int32) (a b y x : Nat) : Int32 :=
  if v = 0 then (O (32 * y + 2 * x) + O (32 * y + cl1 (2 * x + 1) a) + nI (x % 2)) >>> ((1 : Int32) &&& 31)
  else if v = 1 then (O (32 * (2 * y) + x) + O (32 * cl1 (2 * y + 1) b + x) + nI (y % 2)) >>> ((1 : Int32) &&& 31)
  else (O (32 * (2 * y) + 2 * x) + O (32 * (2 * y) + cl1 (2 * x + 1) a) + O (32 * cl1 (2 * y + 1) b + 2 * x) + O (32 * cl1 (2 * y + 1) b + cl1 (2 * x + 1) a) + 1 + nI (x % 2)) >>> ((2 : Int32) &&& 31)
def ndw (F : Nat → Nat → Int32) (k y : Nat) (S : Nat → Int32) : Nat → (Nat → Int32)
  | 0 => S
  | x + 1 => upd (ndw F k y S x) (1024 * k + 32 * y + x) (F y x)
def ndY (F : Nat → Nat → Int32) (k w : Nat) (S : Nat → Int32) : Nat → (Nat → Int32)
  | 0 => S
  | y + 1 => ndw F k y (ndY F k w S y) w
def shw (v w : Nat) : Nat := if v = 1 then w else (w + 1) / 2
def shh (v h : Nat) : Nat := if v = 0 then h else (h + 1) / 2
section
variable {M : zM} {D : va_G} {ca : Nat → ClassId} {ad : Nat → Nat} {th : Int32} {w h : Nat → Nat} {S O : Nat → Int32} {ow oh : Int32} {k : Nat} {a b v : Nat}
set_option maxRecDepth 100000 in
set_option maxHeartbeats 400000 in
theorem n_shrink_x (hk : k < 4) (hw : w k = shw v a) (hh : h k = shh v b) (hv : v < 3) (a1 : 1 ≤ a) (a2 : a ≤ 32) (b1 : 1 ≤ b) (b2 : b ≤ 32) (hR : zroom M = rmk 3 0 0) (hC : zcells M = 0) (hS : zslots M = 0) (hE : zEn M zE0) {y : Nat} (hy : y < h k) (kx : ∀ q, Zj M (gG D ca ad) cM_shrink 6 RM wM_shrink (some .boolean) (mwn ca th w h (ndw (msv v O a b) k y S (w k)) O (nI a) (nI b)) [some (.ref 0), some (.int (nI k)), some (.int (nI v)), some (.int (nI y)), some (.int (nI (w k))), q] [] 268) :
    ∀ n x, x + n = w k → ∀ q, Zj M (gG D ca ad) cM_shrink 6 RM wM_shrink (some .boolean) (mwn ca th w h (ndw (msv v O a b) k y S x) O (nI a) (nI b)) [some (.ref 0), some (.int (nI k)), some (.int (nI v)), some (.int (nI y)), some (.int (nI x)), q] [] 94 := by
  have hw2 : w k ≤ 32 := by rw [hw]; unfold shw; split <;> omega
  have hh2 : h k ≤ 32 := by rw [hh]; unfold shh; split <;> omega
  intro n
  induction n with
  | zero =>
    intro x hx q
    obtain rfl : x = w k := by omega
    refine z_iload dM_shrink_94 rfl ?_
    refine z_aload_n dM_shrink_96 rfl ?_
    refine z_get (C := RM) (T := TM) (N := 7) (ref := "ToneMixerModel") 1 dM_shrink_97 rfl rfl rfl (by decide) (fun w h => bwT (hbM w h)) (bwT b_387) rfl ?_
    refine z_iload_n dM_shrink_100 rfl ?_
    refine z_ialdN (t0 := 0) (k := k) dM_shrink_101 rfl rfl (rfl) (hk) (by decide) ?_
    exact z_icmp_ge (tgt := 268) dM_shrink_102 (by decide) (fun _ => kx q) (fun hc => absurd (nI_le (Nat.le_refl _) (by omega)) hc)
  | succ n ih =>
    intro x hx q
    have k248 : Zj M (gG D ca ad) cM_shrink 6 RM wM_shrink (some .boolean) (mwn ca th w h (ndw (msv v O a b) k y S x) O (nI a) (nI b)) [some (.ref 0), some (.int (nI k)), some (.int (nI v)), some (.int (nI y)), some (.int (nI x)), some (.int (msv v O a b y x))] [] 248 := by
      refine z_aload_n dM_shrink_248 rfl ?_
      refine z_get (C := RM) (T := TM) (N := 7) (ref := "ToneMixerModel") 3 dM_shrink_249 rfl rfl rfl (by decide) (fun w h => bwT (hbM w h)) (bwT b_389) rfl ?_
      refine z_iload_n dM_shrink_252 rfl ?_
      refine z_iload dM_shrink_253 rfl ?_
      refine z_iload_n dM_shrink_255 rfl ?_
      refine z_pure (z_S hE zEok_0 (m_cell _ _ _ _ _) dM_shrink_256 (gd_S b_434 b_435 b_3 b_436) rfl qM_cell.2 ⟨rfl, rfl⟩ (by rw [hR]; decide) (by rw [hR, hC, hS]; decide) rfl (Nat.le_of_ble_eq_true rfl)) (fun r hr => ?_)
      subst hr
      simp only [zpush, zv]
      rw [z_cell]
      refine z_iload dM_shrink_259 rfl ?_
      refine z_iastN (t0 := 0) (k := 1024 * k + 32 * y + x) dM_shrink_261 rfl rfl (rfl) (by omega) (by decide) ?_
      try simp only [List.set_cons_succ, List.set_cons_zero]
      refine z_iinc1 dM_shrink_262 (by decide) rfl rfl ?_
      try simp only [List.set_cons_succ, List.set_cons_zero]
      refine z_goto (tgt := 94) dM_shrink_265 (by decide) ?_
      rw [nI_1]
      exact ih (x + 1) (by omega) _
    have c0 : ¬ nI (w k) ≤ nI x := nI_ge (by omega) (by omega)
    rcases (show v = 0 ∨ v = 1 ∨ v = 2 by omega) with rfl | rfl | rfl
    all_goals (simp [shw, shh] at hw hh)
    · clear hv
      refine z_iload dM_shrink_94 rfl ?_
      refine z_aload_n dM_shrink_96 rfl ?_
      refine z_get (C := RM) (T := TM) (N := 7) (ref := "ToneMixerModel") 1 dM_shrink_97 rfl rfl rfl (by decide) (fun w h => bwT (hbM w h)) (bwT b_387) rfl ?_
      refine z_iload_n dM_shrink_100 rfl ?_
      refine z_ialdN (t0 := 0) (k := k) dM_shrink_101 rfl rfl (rfl) (hk) (by decide) ?_
      refine z_icmp_ge (tgt := 268) dM_shrink_102 (by decide) (fun hc9 => absurd hc9 (c0)) (fun _ => ?_)
      refine z_iconst (v := 0) dM_shrink_105 (by decide) ?_
      refine z_istore dM_shrink_106 (by decide) rfl ?_
      try simp only [List.set_cons_succ, List.set_cons_zero]
      refine z_iload_n dM_shrink_108 rfl ?_
      refine z_if_ne (tgt := 145) dM_shrink_109 (by decide) (fun hc9 => absurd hc9 (by decide)) (fun _ => ?_)
      refine z_aload_n dM_shrink_112 rfl ?_
      refine z_iconst (v := 2) dM_shrink_113 (by decide) ?_
      refine z_iload dM_shrink_114 rfl ?_
      refine z_imul dM_shrink_116 ?_
      refine z_iload_n dM_shrink_117 rfl ?_
      rw [z_2]
      refine z_same (z_V (C := RM) (b := 0) hE zEok_0 (m_was _ D ca ad th w h (ndw (msv 0 O a b) k y S x) O a b a1 a2 b1 b2 (nI (2 * x)) (nI y)) dM_shrink_118 (gd_V b_454 b_456 bs_18 b_3 b_457) rfl qM_was ⟨rfl, rfl⟩ (by rw [hR]; decide) (by rw [hR, hC, hS]; decide) rfl (Nat.le_of_ble_eq_true rfl) rfl rfl) (fun r aw1 hlen hr => ?_)
      obtain ⟨rfl, rfl⟩ := hr
      rw [clS (by omega : y < b) b2, clS (by omega : 2 * x < a) a2]
      simp only [zpush, zv]
      refine z_aload_n dM_shrink_121 rfl ?_
      refine z_iconst (v := 2) dM_shrink_122 (by decide) ?_
      refine z_iload dM_shrink_123 rfl ?_
      refine z_imul dM_shrink_125 ?_
      refine z_iconst (v := 1) dM_shrink_126 (by decide) ?_
      refine z_iadd dM_shrink_127 ?_
      refine z_iload_n dM_shrink_128 rfl ?_
      rw [z_2, nI_1]
      refine z_same (z_V (C := RM) (b := 0) hE zEok_0 (m_was _ D ca ad th w h (ndw (msv 0 O a b) k y S x) O a b a1 a2 b1 b2 (nI (2 * x + 1)) (nI y)) dM_shrink_129 (gd_V b_454 b_456 bs_18 b_3 b_457) rfl qM_was ⟨rfl, rfl⟩ (by rw [hR]; decide) (by rw [hR, hC, hS]; decide) rfl (Nat.le_of_ble_eq_true rfl) rfl rfl) (fun r aw1 hlen hr => ?_)
      obtain ⟨rfl, rfl⟩ := hr
      rw [clS (by omega : y < b) b2, clN (by omega) a2]
      simp only [zpush, zv]
      refine z_iadd dM_shrink_132 ?_
      refine z_iload dM_shrink_133 rfl ?_
      refine z_iconst (v := 2) dM_shrink_135 (by decide) ?_
      refine z_irem dM_shrink_136 (by decide) ?_
      rw [z_r2 (by omega)]
      refine z_iadd dM_shrink_137 ?_
      refine z_iconst (v := 1) dM_shrink_138 (by decide) ?_
      refine z_ishr dM_shrink_139 ?_
      refine z_istore dM_shrink_140 (by decide) rfl ?_
      try simp only [List.set_cons_succ, List.set_cons_zero]
      refine z_goto (tgt := 248) dM_shrink_142 (by decide) ?_
      exact k248
    · clear hv
      refine z_iload dM_shrink_94 rfl ?_
      refine z_aload_n dM_shrink_96 rfl ?_
      refine z_get (C := RM) (T := TM) (N := 7) (ref := "ToneMixerModel") 1 dM_shrink_97 rfl rfl rfl (by decide) (fun w h => bwT (hbM w h)) (bwT b_387) rfl ?_
      refine z_iload_n dM_shrink_100 rfl ?_
      refine z_ialdN (t0 := 0) (k := k) dM_shrink_101 rfl rfl (rfl) (hk) (by decide) ?_
      refine z_icmp_ge (tgt := 268) dM_shrink_102 (by decide) (fun hc9 => absurd hc9 (c0)) (fun _ => ?_)
      refine z_iconst (v := 0) dM_shrink_105 (by decide) ?_
      refine z_istore dM_shrink_106 (by decide) rfl ?_
      try simp only [List.set_cons_succ, List.set_cons_zero]
      refine z_iload_n dM_shrink_108 rfl ?_
      refine z_if_ne (tgt := 145) dM_shrink_109 (by decide) (fun _ => ?_) (fun hc9 => absurd hc9 (by decide))
      refine z_iload_n dM_shrink_145 rfl ?_
      refine z_iconst (v := 1) dM_shrink_146 (by decide) ?_
      refine z_icmp_ne (tgt := 182) dM_shrink_147 (by decide) (fun hc9 => absurd hc9 (by decide)) (fun _ => ?_)
      refine z_aload_n dM_shrink_150 rfl ?_
      refine z_iload dM_shrink_151 rfl ?_
      refine z_iconst (v := 2) dM_shrink_153 (by decide) ?_
      refine z_iload_n dM_shrink_154 rfl ?_
      refine z_imul dM_shrink_155 ?_
      rw [z_2]
      refine z_same (z_V (C := RM) (b := 0) hE zEok_0 (m_was _ D ca ad th w h (ndw (msv 1 O a b) k y S x) O a b a1 a2 b1 b2 (nI x) (nI (2 * y))) dM_shrink_156 (gd_V b_454 b_456 bs_18 b_3 b_457) rfl qM_was ⟨rfl, rfl⟩ (by rw [hR]; decide) (by rw [hR, hC, hS]; decide) rfl (Nat.le_of_ble_eq_true rfl) rfl rfl) (fun r aw1 hlen hr => ?_)
      obtain ⟨rfl, rfl⟩ := hr
      rw [clS (by omega : 2 * y < b) b2, clS (by omega : x < a) a2]
      simp only [zpush, zv]
      refine z_aload_n dM_shrink_159 rfl ?_
      refine z_iload dM_shrink_160 rfl ?_
      refine z_iconst (v := 2) dM_shrink_162 (by decide) ?_
      refine z_iload_n dM_shrink_163 rfl ?_
      refine z_imul dM_shrink_164 ?_
      refine z_iconst (v := 1) dM_shrink_165 (by decide) ?_
      refine z_iadd dM_shrink_166 ?_
      rw [z_2, nI_1]
      refine z_same (z_V (C := RM) (b := 0) hE zEok_0 (m_was _ D ca ad th w h (ndw (msv 1 O a b) k y S x) O a b a1 a2 b1 b2 (nI x) (nI (2 * y + 1))) dM_shrink_167 (gd_V b_454 b_456 bs_18 b_3 b_457) rfl qM_was ⟨rfl, rfl⟩ (by rw [hR]; decide) (by rw [hR, hC, hS]; decide) rfl (Nat.le_of_ble_eq_true rfl) rfl rfl) (fun r aw1 hlen hr => ?_)
      obtain ⟨rfl, rfl⟩ := hr
      rw [clN (by omega) b2, clS (by omega : x < a) a2]
      simp only [zpush, zv]
      refine z_iadd dM_shrink_170 ?_
      refine z_iload_n dM_shrink_171 rfl ?_
      refine z_iconst (v := 2) dM_shrink_172 (by decide) ?_
      refine z_irem dM_shrink_173 (by decide) ?_
      rw [z_r2 (by omega)]
      refine z_iadd dM_shrink_174 ?_
      refine z_iconst (v := 1) dM_shrink_175 (by decide) ?_
      refine z_ishr dM_shrink_176 ?_
      refine z_istore dM_shrink_177 (by decide) rfl ?_
      try simp only [List.set_cons_succ, List.set_cons_zero]
      refine z_goto (tgt := 248) dM_shrink_179 (by decide) ?_
      exact k248
    · clear hv
      refine z_iload dM_shrink_94 rfl ?_
      refine z_aload_n dM_shrink_96 rfl ?_
      refine z_get (C := RM) (T := TM) (N := 7) (ref := "ToneMixerModel") 1 dM_shrink_97 rfl rfl rfl (by decide) (fun w h => bwT (hbM w h)) (bwT b_387) rfl ?_
      refine z_iload_n dM_shrink_100 rfl ?_
      refine z_ialdN (t0 := 0) (k := k) dM_shrink_101 rfl rfl (rfl) (hk) (by decide) ?_
      refine z_icmp_ge (tgt := 268) dM_shrink_102 (by decide) (fun hc9 => absurd hc9 (c0)) (fun _ => ?_)
      refine z_iconst (v := 0) dM_shrink_105 (by decide) ?_
      refine z_istore dM_shrink_106 (by decide) rfl ?_
      try simp only [List.set_cons_succ, List.set_cons_zero]
      refine z_iload_n dM_shrink_108 rfl ?_
      refine z_if_ne (tgt := 145) dM_shrink_109 (by decide) (fun _ => ?_) (fun hc9 => absurd hc9 (by decide))
      refine z_iload_n dM_shrink_145 rfl ?_
      refine z_iconst (v := 1) dM_shrink_146 (by decide) ?_
      refine z_icmp_ne (tgt := 182) dM_shrink_147 (by decide) (fun _ => ?_) (fun hc9 => absurd hc9 (by decide))
      refine z_aload_n dM_shrink_182 rfl ?_
      refine z_iconst (v := 2) dM_shrink_183 (by decide) ?_
      refine z_iload dM_shrink_184 rfl ?_
      refine z_imul dM_shrink_186 ?_
      refine z_iconst (v := 2) dM_shrink_187 (by decide) ?_
      refine z_iload_n dM_shrink_188 rfl ?_
      refine z_imul dM_shrink_189 ?_
      rw [z_2, z_2]
      refine z_same (z_V (C := RM) (b := 0) hE zEok_0 (m_was _ D ca ad th w h (ndw (msv 2 O a b) k y S x) O a b a1 a2 b1 b2 (nI (2 * x)) (nI (2 * y))) dM_shrink_190 (gd_V b_454 b_456 bs_18 b_3 b_457) rfl qM_was ⟨rfl, rfl⟩ (by rw [hR]; decide) (by rw [hR, hC, hS]; decide) rfl (Nat.le_of_ble_eq_true rfl) rfl rfl) (fun r aw1 hlen hr => ?_)
      obtain ⟨rfl, rfl⟩ := hr
      rw [clS (by omega : 2 * y < b) b2, clS (by omega : 2 * x < a) a2]
      simp only [zpush, zv]
      refine z_aload_n dM_shrink_193 rfl ?_
      refine z_iconst (v := 2) dM_shrink_194 (by decide) ?_
      refine z_iload dM_shrink_195 rfl ?_
      refine z_imul dM_shrink_197 ?_
      refine z_iconst (v := 1) dM_shrink_198 (by decide) ?_
      refine z_iadd dM_shrink_199 ?_
      refine z_iconst (v := 2) dM_shrink_200 (by decide) ?_
      refine z_iload_n dM_shrink_201 rfl ?_
      refine z_imul dM_shrink_202 ?_
      rw [z_2, z_2, nI_1]
      refine z_same (z_V (C := RM) (b := 0) hE zEok_0 (m_was _ D ca ad th w h (ndw (msv 2 O a b) k y S x) O a b a1 a2 b1 b2 (nI (2 * x + 1)) (nI (2 * y))) dM_shrink_203 (gd_V b_454 b_456 bs_18 b_3 b_457) rfl qM_was ⟨rfl, rfl⟩ (by rw [hR]; decide) (by rw [hR, hC, hS]; decide) rfl (Nat.le_of_ble_eq_true rfl) rfl rfl) (fun r aw1 hlen hr => ?_)
      obtain ⟨rfl, rfl⟩ := hr
      rw [clS (by omega : 2 * y < b) b2, clN (by omega) a2]
      simp only [zpush, zv]
      refine z_iadd dM_shrink_206 ?_
      refine z_aload_n dM_shrink_207 rfl ?_
      refine z_iconst (v := 2) dM_shrink_208 (by decide) ?_
      refine z_iload dM_shrink_209 rfl ?_
      refine z_imul dM_shrink_211 ?_
      refine z_iconst (v := 2) dM_shrink_212 (by decide) ?_
      refine z_iload_n dM_shrink_213 rfl ?_
      refine z_imul dM_shrink_214 ?_
      refine z_iconst (v := 1) dM_shrink_215 (by decide) ?_
      refine z_iadd dM_shrink_216 ?_
      rw [z_2, z_2, nI_1]
      refine z_same (z_V (C := RM) (b := 0) hE zEok_0 (m_was _ D ca ad th w h (ndw (msv 2 O a b) k y S x) O a b a1 a2 b1 b2 (nI (2 * x)) (nI (2 * y + 1))) dM_shrink_217 (gd_V b_454 b_456 bs_18 b_3 b_457) rfl qM_was ⟨rfl, rfl⟩ (by rw [hR]; decide) (by rw [hR, hC, hS]; decide) rfl (Nat.le_of_ble_eq_true rfl) rfl rfl) (fun r aw1 hlen hr => ?_)
      obtain ⟨rfl, rfl⟩ := hr
      rw [clN (by omega) b2, clS (by omega : 2 * x < a) a2]
      simp only [zpush, zv]
      refine z_iadd dM_shrink_220 ?_
      refine z_aload_n dM_shrink_221 rfl ?_
      refine z_iconst (v := 2) dM_shrink_222 (by decide) ?_
      refine z_iload dM_shrink_223 rfl ?_
      refine z_imul dM_shrink_225 ?_
      refine z_iconst (v := 1) dM_shrink_226 (by decide) ?_
      refine z_iadd dM_shrink_227 ?_
      refine z_iconst (v := 2) dM_shrink_228 (by decide) ?_
      refine z_iload_n dM_shrink_229 rfl ?_
      refine z_imul dM_shrink_230 ?_
      refine z_iconst (v := 1) dM_shrink_231 (by decide) ?_
      refine z_iadd dM_shrink_232 ?_
      rw [z_2, z_2, nI_1, nI_1]
      refine z_same (z_V (C := RM) (b := 0) hE zEok_0 (m_was _ D ca ad th w h (ndw (msv 2 O a b) k y S x) O a b a1 a2 b1 b2 (nI (2 * x + 1)) (nI (2 * y + 1))) dM_shrink_233 (gd_V b_454 b_456 bs_18 b_3 b_457) rfl qM_was ⟨rfl, rfl⟩ (by rw [hR]; decide) (by rw [hR, hC, hS]; decide) rfl (Nat.le_of_ble_eq_true rfl) rfl rfl) (fun r aw1 hlen hr => ?_)
      obtain ⟨rfl, rfl⟩ := hr
      rw [clN (by omega) b2, clN (by omega) a2]
      simp only [zpush, zv]
      refine z_iadd dM_shrink_236 ?_
      refine z_iconst (v := 1) dM_shrink_237 (by decide) ?_
      refine z_iadd dM_shrink_238 ?_
      refine z_iload dM_shrink_239 rfl ?_
      refine z_iconst (v := 2) dM_shrink_241 (by decide) ?_
      refine z_irem dM_shrink_242 (by decide) ?_
      rw [z_r2 (by omega)]
      refine z_iadd dM_shrink_243 ?_
      refine z_iconst (v := 2) dM_shrink_244 (by decide) ?_
      refine z_ishr dM_shrink_245 ?_
      refine z_istore dM_shrink_246 (by decide) rfl ?_
      try simp only [List.set_cons_succ, List.set_cons_zero]
      exact k248
set_option maxRecDepth 100000 in
set_option maxHeartbeats 400000 in
theorem n_shrink_y (hk : k < 4) (hw : w k = shw v a) (hh : h k = shh v b) (hv : v < 3) (a1 : 1 ≤ a) (a2 : a ≤ 32) (b1 : 1 ≤ b) (b2 : b ≤ 32) (hR : zroom M = rmk 3 0 0) (hC : zcells M = 0) (hS : zslots M = 0) (hE : zEn M zE0) (kx : ∀ x q, Zj M (gG D ca ad) cM_shrink 6 RM wM_shrink (some .boolean) (mwn ca th w h (ndY (msv v O a b) k (w k) S (h k)) O (nI a) (nI b)) [some (.ref 0), some (.int (nI k)), some (.int (nI v)), some (.int (nI (h k))), x, q] [] 274) :
    ∀ n y, y + n = h k → ∀ x q, Zj M (gG D ca ad) cM_shrink 6 RM wM_shrink (some .boolean) (mwn ca th w h (ndY (msv v O a b) k (w k) S y) O (nI a) (nI b)) [some (.ref 0), some (.int (nI k)), some (.int (nI v)), some (.int (nI y)), x, q] [] 81 := by
  have hh2 : h k ≤ 32 := by rw [hh]; unfold shh; split <;> omega
  intro n
  induction n with
  | zero =>
    intro y hy x q
    obtain rfl : y = h k := by omega
    refine z_iload_n dM_shrink_81 rfl ?_
    refine z_aload_n dM_shrink_82 rfl ?_
    refine z_get (C := RM) (T := TM) (N := 7) (ref := "ToneMixerModel") 2 dM_shrink_83 rfl rfl rfl (by decide) (fun w h => bwT (hbM w h)) (bwT b_388) rfl ?_
    refine z_iload_n dM_shrink_86 rfl ?_
    refine z_ialdN (t0 := 0) (k := k) dM_shrink_87 rfl rfl (rfl) (hk) (by decide) ?_
    exact z_icmp_ge (tgt := 274) dM_shrink_88 (by decide) (fun _ => kx x q) (fun hc => absurd (nI_le (Nat.le_refl _) (by omega)) hc)
  | succ n ih =>
    intro y hy x q
    refine z_iload_n dM_shrink_81 rfl ?_
    refine z_aload_n dM_shrink_82 rfl ?_
    refine z_get (C := RM) (T := TM) (N := 7) (ref := "ToneMixerModel") 2 dM_shrink_83 rfl rfl rfl (by decide) (fun w h => bwT (hbM w h)) (bwT b_388) rfl ?_
    refine z_iload_n dM_shrink_86 rfl ?_
    refine z_ialdN (t0 := 0) (k := k) dM_shrink_87 rfl rfl (rfl) (hk) (by decide) ?_
    refine z_icmp_ge (tgt := 274) dM_shrink_88 (by decide) (fun hc => absurd hc (nI_ge (by omega) (by omega))) (fun _ => ?_)
    refine z_iconst (v := 0) dM_shrink_91 (by decide) ?_
    refine z_istore dM_shrink_92 (by decide) rfl ?_
    try simp only [List.set_cons_succ, List.set_cons_zero]
    refine n_shrink_x (S := (ndY (msv v O a b) k (w k) S y)) hk hw hh hv a1 a2 b1 b2 hR hC hS hE (y := y) (by omega) (fun q => ?_) (w k) 0 (by omega) _
    refine z_iinc1 dM_shrink_268 (by decide) rfl rfl ?_
    try simp only [List.set_cons_succ, List.set_cons_zero]
    refine z_goto (tgt := 81) dM_shrink_271 (by decide) ?_
    rw [nI_1]
    exact ih (y + 1) (by omega) _ _
end
theorem z_hf {n : Nat} (h : n ≤ 32) : (nI n + 1) / 2 = nI ((n + 1) / 2) := by
  rw [nI_1, show (2 : Int32) = nI 2 from rfl, pk_div (by omega) (by omega) (by omega)]
set_option maxRecDepth 100000 in
set_option maxHeartbeats 400000 in
theorem m_shrink (l : Launch) (D : va_G) (ca : Nat → ClassId) (ad : Nat → Nat) (th : Int32) (w h : Nat → Nat) (S O : Nat → Int32) (ow oh : Int32) (hwh : okW w h) (n how : Int32) : zMet l yM_shrink wM_shrink (rmk 3 0 0) zE0 (gG D ca ad) (mwn ca th w h S O ow oh) [.ref 0, .int n, .int how] (fun r aw => ((noP n ∧ r = some (.int 0) ∧ aw = (mwn ca 1 w h S O ow oh)) ∨ ∃ k : Nat, k < 4 ∧ n = nI k ∧ (((how < 0 ∨ 2 < how) ∧ r = some (.int 0) ∧ aw = (mwn ca 0 w h S O ow oh)) ∨ ∃ v : Nat, v < 3 ∧ how = nI v ∧ r = some (.int 1) ∧ ∃ O2 ow2 oh2, aw = mwn ca 0 (va_up w k (shw v (w k))) (va_up h k (shh v (h k))) (ndY (msv v (mkp S O k 1024) (w k) (h k)) k (shw v (w k)) S (shh v (h k))) O2 ow2 oh2))) := by
  refine zMet.of (cc := cM_shrink) (maxL := 6) (ret := (some .boolean)) (lv := [some (.ref 0), some (.int n), some (.int how), none, none, none]) (by decide) rfl (Nat.le_of_ble_eq_true rfl) rfl (fun M hl0 hR hC hS hE hret => ?_)
  refine z_aload_n dM_shrink_0 rfl ?_
  refine z_iload_n dM_shrink_1 rfl ?_
  refine z_pure (z_S hE zEok_0 (m_isPlane _ _ _) dM_shrink_2 (gd_S b_416 b_417 b_3 b_418) rfl qM_isPlane.2 ⟨rfl, rfl⟩ (by rw [hR]; decide) (by rw [hR, hC, hS]; decide) rfl (Nat.le_of_ble_eq_true rfl)) (fun r hr => ?_)
  subst hr
  simp only [zpush, zv]
  refine z_iconst (v := 1) dM_shrink_5 (by decide) ?_
  refine z_same (z_V (C := RM) (b := 0) hE zEok_0 (m_goes _ D ca ad th w h S O ow oh (inB n 0 3) (true)) dM_shrink_6 (gd_V b_422 b_424 bs_14 b_3 b_425) rfl qM_goes ⟨rfl, rfl⟩ (by rw [hR]; decide) (by rw [hR, hC, hS]; decide) rfl (Nat.le_of_ble_eq_true rfl) rfl rfl) (fun r aw1 hlen hr => ?_)
  obtain ⟨rfl, rfl⟩ := hr
  simp only [zpush, zv]
  rcases inP n with ⟨e1, h1⟩ | ⟨e1, k, hk, rfl⟩
  · rw [e1]
    refine z_if_eq (tgt := 21) dM_shrink_9 (by decide) (fun _ => ?_) (fun hc9 => absurd hc9 (by decide))
    refine z_iconst (v := 0) dM_shrink_21 (by decide) ?_
    exact z_ireturn dM_shrink_22 rfl hret ⟨Nat.le_of_eq hC, Nat.le_of_eq hS⟩ rfl (Or.inl ⟨h1, rfl, rfl⟩)
  rw [e1]
  obtain ⟨a1, a2, b1, b2⟩ := hwh k hk
  refine z_if_eq (tgt := 21) dM_shrink_9 (by decide) (fun hc9 => absurd hc9 (by decide)) (fun _ => ?_)
  refine z_iload_n dM_shrink_12 rfl ?_
  refine z_iconst (v := 0) dM_shrink_13 (by decide) ?_
  refine z_iconst (v := 2) dM_shrink_14 (by decide) ?_
  refine z_pure (z_S hE zEok_0 (m_in _ _ _ _ _) dM_shrink_15 (gd_S b_419 b_420 b_3 b_421) rfl qM_in.2 ⟨rfl, rfl⟩ (by rw [hR]; decide) (by rw [hR, hC, hS]; decide) rfl (Nat.le_of_ble_eq_true rfl)) (fun r hr => ?_)
  subst hr
  simp only [zpush, zv]
  rcases inH 2 (by decide) 2 (by decide) how with ⟨e2, hb⟩ | ⟨e2, v, hv, rfl⟩
  · rw [e2]
    refine z_if_ne (tgt := 23) dM_shrink_18 (by decide) (fun hc9 => absurd hc9 (by decide)) (fun _ => ?_)
    refine z_iconst (v := 0) dM_shrink_21 (by decide) ?_
    exact z_ireturn dM_shrink_22 rfl hret ⟨Nat.le_of_eq hC, Nat.le_of_eq hS⟩ rfl (Or.inr ⟨k, hk, rfl, Or.inl ⟨hb, rfl, rfl⟩⟩)
  rw [e2]
  refine z_if_ne (tgt := 23) dM_shrink_18 (by decide) (fun _ => ?_) (fun hc9 => absurd hc9 (by decide))
  refine z_aload_n dM_shrink_23 rfl ?_
  refine z_iload_n dM_shrink_24 rfl ?_
  refine z_same (z_V (C := RM) (b := 0) hE zEok_0 (m_keep _ D ca ad (thv true true) w h S O ow oh k hk) dM_shrink_25 (gd_V b_450 b_452 bs_17 b_3 b_453) rfl qM_keep ⟨rfl, rfl⟩ (by rw [hR]; decide) (by rw [hR, hC, hS]; decide) rfl (Nat.le_of_ble_eq_true rfl) rfl rfl) (fun r aw1 hlen hr => ?_)
  obtain ⟨rfl, rfl⟩ := hr
  simp only [zpush]
  clear e2
  have k79 : Zj M (gG D ca ad) cM_shrink 6 RM wM_shrink (some .boolean) (mwn ca (thv true true) (va_up w k (shw v (w k))) (va_up h k (shh v (h k))) S (mkp S O k 1024) (nI (w k)) (nI (h k))) [some (.ref 0), some (.int (nI k)), some (.int (nI v)), none, none, none] [] 79 := by
    refine z_iconst (v := 0) dM_shrink_79 (by decide) ?_
    refine z_istore_n dM_shrink_80 (by decide) rfl ?_
    try simp only [List.set_cons_succ, List.set_cons_zero]
    have h9 := n_shrink_y (M := M) (D := D) (ca := ca) (ad := ad) (th := thv true true) (w := va_up w k (shw v (w k))) (h := va_up h k (shh v (h k))) (S := S) (O := (mkp S O k 1024)) (a := w k) (b := h k) (v := v) hk (by rw [va_up_self]) (by rw [va_up_self]) (by omega) a1 a2 b1 b2 hR hC hS hE (fun x q => ?_) (va_up h k (shh v (h k)) k) 0 (by omega) none none
    · exact h9
    refine z_iconst (v := 1) dM_shrink_274 (by decide) ?_
    rw [va_up_self, va_up_self]
    exact z_ireturn dM_shrink_275 rfl hret ⟨Nat.le_of_eq hC, Nat.le_of_eq hS⟩ rfl (Or.inr ⟨k, hk, rfl, Or.inr ⟨v, by omega, rfl, rfl, (mkp S O k 1024), nI (w k), nI (h k), rfl⟩⟩)
  rcases (show v = 0 ∨ v = 1 ∨ v = 2 by omega) with rfl | rfl | rfl
  · simp only [shw, shh] at k79
    refine z_aload_n dM_shrink_28 rfl ?_
    refine z_get (C := RM) (T := TM) (N := 7) (ref := "ToneMixerModel") 1 dM_shrink_29 rfl rfl rfl (by decide) (fun w h => bwT (hbM w h)) (bwT b_387) rfl ?_
    refine z_iload_n dM_shrink_32 rfl ?_
    refine z_iload_n dM_shrink_33 rfl ?_
    refine z_iconst (v := 1) dM_shrink_34 (by decide) ?_
    refine z_icmp_ne (tgt := 45) dM_shrink_35 (by decide) (fun _ => ?_) (fun hc9 => absurd hc9 (by decide))
    refine z_aload_n dM_shrink_45 rfl ?_
    refine z_get (C := RM) (T := TM) (N := 7) (ref := "ToneMixerModel") 5 dM_shrink_46 rfl rfl rfl (by decide) (fun w h => bwT (hbM w h)) (bwT b_391) rfl ?_
    refine z_iconst (v := 1) dM_shrink_49 (by decide) ?_
    refine z_iadd dM_shrink_50 ?_
    refine z_iconst (v := 2) dM_shrink_51 (by decide) ?_
    refine z_idiv dM_shrink_52 (by decide) ?_
    rw [z_hf a2]
    refine z_iastN (t0 := 0) (k := k) dM_shrink_53 rfl rfl (rfl) (hk) (by decide) ?_
    try simp only [List.set_cons_succ, List.set_cons_zero]
    refine z_aload_n dM_shrink_54 rfl ?_
    refine z_get (C := RM) (T := TM) (N := 7) (ref := "ToneMixerModel") 2 dM_shrink_55 rfl rfl rfl (by decide) (fun w h => bwT (hbM w h)) (bwT b_388) rfl ?_
    refine z_iload_n dM_shrink_58 rfl ?_
    refine z_iload_n dM_shrink_59 rfl ?_
    refine z_if_ne (tgt := 70) dM_shrink_60 (by decide) (fun hc9 => absurd hc9 (by decide)) (fun _ => ?_)
    refine z_aload_n dM_shrink_63 rfl ?_
    refine z_get (C := RM) (T := TM) (N := 7) (ref := "ToneMixerModel") 6 dM_shrink_64 rfl rfl rfl (by decide) (fun w h => bwT (hbM w h)) (bwT b_392) rfl ?_
    refine z_goto (tgt := 78) dM_shrink_67 (by decide) ?_
    refine z_iastN (t0 := 0) (k := k) dM_shrink_78 rfl rfl (rfl) (hk) (by decide) ?_
    try simp only [List.set_cons_succ, List.set_cons_zero]
    rw [updn, updn]
    exact k79
  · simp only [shw, shh] at k79
    refine z_aload_n dM_shrink_28 rfl ?_
    refine z_get (C := RM) (T := TM) (N := 7) (ref := "ToneMixerModel") 1 dM_shrink_29 rfl rfl rfl (by decide) (fun w h => bwT (hbM w h)) (bwT b_387) rfl ?_
    refine z_iload_n dM_shrink_32 rfl ?_
    refine z_iload_n dM_shrink_33 rfl ?_
    refine z_iconst (v := 1) dM_shrink_34 (by decide) ?_
    refine z_icmp_ne (tgt := 45) dM_shrink_35 (by decide) (fun hc9 => absurd hc9 (by decide)) (fun _ => ?_)
    refine z_aload_n dM_shrink_38 rfl ?_
    refine z_get (C := RM) (T := TM) (N := 7) (ref := "ToneMixerModel") 5 dM_shrink_39 rfl rfl rfl (by decide) (fun w h => bwT (hbM w h)) (bwT b_391) rfl ?_
    refine z_goto (tgt := 53) dM_shrink_42 (by decide) ?_
    refine z_iastN (t0 := 0) (k := k) dM_shrink_53 rfl rfl (rfl) (hk) (by decide) ?_
    try simp only [List.set_cons_succ, List.set_cons_zero]
    refine z_aload_n dM_shrink_54 rfl ?_
    refine z_get (C := RM) (T := TM) (N := 7) (ref := "ToneMixerModel") 2 dM_shrink_55 rfl rfl rfl (by decide) (fun w h => bwT (hbM w h)) (bwT b_388) rfl ?_
    refine z_iload_n dM_shrink_58 rfl ?_
    refine z_iload_n dM_shrink_59 rfl ?_
    refine z_if_ne (tgt := 70) dM_shrink_60 (by decide) (fun _ => ?_) (fun hc9 => absurd hc9 (by decide))
    refine z_aload_n dM_shrink_70 rfl ?_
    refine z_get (C := RM) (T := TM) (N := 7) (ref := "ToneMixerModel") 6 dM_shrink_71 rfl rfl rfl (by decide) (fun w h => bwT (hbM w h)) (bwT b_392) rfl ?_
    refine z_iconst (v := 1) dM_shrink_74 (by decide) ?_
    refine z_iadd dM_shrink_75 ?_
    refine z_iconst (v := 2) dM_shrink_76 (by decide) ?_
    refine z_idiv dM_shrink_77 (by decide) ?_
    rw [z_hf b2]
    refine z_iastN (t0 := 0) (k := k) dM_shrink_78 rfl rfl (rfl) (hk) (by decide) ?_
    try simp only [List.set_cons_succ, List.set_cons_zero]
    rw [updn, updn]
    exact k79
  · simp only [shw, shh] at k79
    refine z_aload_n dM_shrink_28 rfl ?_
    refine z_get (C := RM) (T := TM) (N := 7) (ref := "ToneMixerModel") 1 dM_shrink_29 rfl rfl rfl (by decide) (fun w h => bwT (hbM w h)) (bwT b_387) rfl ?_
    refine z_iload_n dM_shrink_32 rfl ?_
    refine z_iload_n dM_shrink_33 rfl ?_
    refine z_iconst (v := 1) dM_shrink_34 (by decide) ?_
    refine z_icmp_ne (tgt := 45) dM_shrink_35 (by decide) (fun _ => ?_) (fun hc9 => absurd hc9 (by decide))
    refine z_aload_n dM_shrink_45 rfl ?_
    refine z_get (C := RM) (T := TM) (N := 7) (ref := "ToneMixerModel") 5 dM_shrink_46 rfl rfl rfl (by decide) (fun w h => bwT (hbM w h)) (bwT b_391) rfl ?_
    refine z_iconst (v := 1) dM_shrink_49 (by decide) ?_
    refine z_iadd dM_shrink_50 ?_
    refine z_iconst (v := 2) dM_shrink_51 (by decide) ?_
    refine z_idiv dM_shrink_52 (by decide) ?_
    rw [z_hf a2]
    refine z_iastN (t0 := 0) (k := k) dM_shrink_53 rfl rfl (rfl) (hk) (by decide) ?_
    try simp only [List.set_cons_succ, List.set_cons_zero]
    refine z_aload_n dM_shrink_54 rfl ?_
    refine z_get (C := RM) (T := TM) (N := 7) (ref := "ToneMixerModel") 2 dM_shrink_55 rfl rfl rfl (by decide) (fun w h => bwT (hbM w h)) (bwT b_388) rfl ?_
    refine z_iload_n dM_shrink_58 rfl ?_
    refine z_iload_n dM_shrink_59 rfl ?_
    refine z_if_ne (tgt := 70) dM_shrink_60 (by decide) (fun _ => ?_) (fun hc9 => absurd hc9 (by decide))
    refine z_aload_n dM_shrink_70 rfl ?_
    refine z_get (C := RM) (T := TM) (N := 7) (ref := "ToneMixerModel") 6 dM_shrink_71 rfl rfl rfl (by decide) (fun w h => bwT (hbM w h)) (bwT b_392) rfl ?_
    refine z_iconst (v := 1) dM_shrink_74 (by decide) ?_
    refine z_iadd dM_shrink_75 ?_
    refine z_iconst (v := 2) dM_shrink_76 (by decide) ?_
    refine z_idiv dM_shrink_77 (by decide) ?_
    rw [z_hf b2]
    refine z_iastN (t0 := 0) (k := k) dM_shrink_78 rfl rfl (rfl) (hk) (by decide) ?_
    try simp only [List.set_cons_succ, List.set_cons_zero]
    rw [updn, updn]
    exact k79
theorem inE2 (w h : Nat) (p q : Int32) : (inB p (nI w) 32 = true ∧ inB q (nI h) 32 = true ∧ ¬ badE w h p q) ∨ (badE w h p q ∧ (inB p (nI w) 32 = false ∨ (inB p (nI w) 32 = true ∧ inB q (nI h) 32 = false))) := by
  by_cases c1 : p < nI w
  · exact Or.inr ⟨Or.inl c1, Or.inl (by simp [inB, c1])⟩
  by_cases c2 : 32 < p
  · exact Or.inr ⟨Or.inr (Or.inl c2), Or.inl (by simp [inB, c2])⟩
  by_cases c3 : q < nI h
  · exact Or.inr ⟨Or.inr (Or.inr (Or.inl c3)), Or.inr ⟨by simp [inB, c1, c2], by simp [inB, c3]⟩⟩
  by_cases c4 : 32 < q
  · exact Or.inr ⟨Or.inr (Or.inr (Or.inr c4)), Or.inr ⟨by simp [inB, c1, c2], by simp [inB, c4]⟩⟩
  refine Or.inl ⟨by simp [inB, c1, c2], by simp [inB, c3, c4], ?_⟩
  rintro (r | r | r | r)
  · exact c1 r
  · exact c2 r
  · exact c3 r
  · exact c4 r
def mev (O : Nat → Int32) (a b y x : Nat) : Int32 := O (32 * cl1 y b + cl1 x a)
section
variable {M : zM} {D : va_G} {ca : Nat → ClassId} {ad : Nat → Nat} {th : Int32} {w h : Nat → Nat} {S O : Nat → Int32} {ow oh : Int32} {k : Nat} {a b w2 h2 : Nat}
set_option maxRecDepth 100000 in
set_option maxHeartbeats 400000 in
theorem n_extend_x (hk : k < 4) (hw2 : w2 ≤ 32) (hh2 : h2 ≤ 32) (a1 : 1 ≤ a) (a2 : a ≤ 32) (b1 : 1 ≤ b) (b2 : b ≤ 32) (hR : zroom M = rmk 3 0 0) (hC : zcells M = 0) (hS : zslots M = 0) (hE : zEn M zE0) {y : Nat} (hy : y < h2) (kx : Zj M (gG D ca ad) cM_extend 6 RM wM_extend (some .boolean) (mwn ca th w h (ndw (mev O a b) k y S w2) O (nI a) (nI b)) [some (.ref 0), some (.int (nI k)), some (.int (nI w2)), some (.int (nI h2)), some (.int (nI y)), some (.int (nI w2))] [] 108) :
    ∀ n x, x + n = w2 → Zj M (gG D ca ad) cM_extend 6 RM wM_extend (some .boolean) (mwn ca th w h (ndw (mev O a b) k y S x) O (nI a) (nI b)) [some (.ref 0), some (.int (nI k)), some (.int (nI w2)), some (.int (nI h2)), some (.int (nI y)), some (.int (nI x))] [] 75 := by
  intro n
  induction n with
  | zero =>
    intro x hx
    obtain rfl : x = w2 := by omega
    refine z_iload dM_extend_75 rfl ?_
    refine z_iload_n dM_extend_77 rfl ?_
    exact z_icmp_ge (tgt := 108) dM_extend_78 (by decide) (fun _ => kx) (fun hc => absurd (nI_le (Nat.le_refl _) (by omega)) hc)
  | succ n ih =>
    intro x hx
    refine z_iload dM_extend_75 rfl ?_
    refine z_iload_n dM_extend_77 rfl ?_
    refine z_icmp_ge (tgt := 108) dM_extend_78 (by decide) (fun hc => absurd hc (nI_ge (by omega) (by omega))) (fun _ => ?_)
    refine z_aload_n dM_extend_81 rfl ?_
    refine z_get (C := RM) (T := TM) (N := 7) (ref := "ToneMixerModel") 3 dM_extend_82 rfl rfl rfl (by decide) (fun w h => bwT (hbM w h)) (bwT b_389) rfl ?_
    refine z_iload_n dM_extend_85 rfl ?_
    refine z_iload dM_extend_86 rfl ?_
    refine z_iload dM_extend_88 rfl ?_
    refine z_pure (z_S hE zEok_0 (m_cell _ _ _ _ _) dM_extend_90 (gd_S b_434 b_435 b_3 b_436) rfl qM_cell.2 ⟨rfl, rfl⟩ (by rw [hR]; decide) (by rw [hR, hC, hS]; decide) rfl (Nat.le_of_ble_eq_true rfl)) (fun r hr => ?_)
    subst hr
    simp only [zpush, zv]
    rw [z_cell]
    refine z_aload_n dM_extend_93 rfl ?_
    refine z_iload dM_extend_94 rfl ?_
    refine z_iload dM_extend_96 rfl ?_
    refine z_same (z_V (C := RM) (b := 0) hE zEok_0 (m_was _ D ca ad th w h (ndw (mev O a b) k y S x) O a b a1 a2 b1 b2 (nI x) (nI y)) dM_extend_98 (gd_V b_454 b_456 bs_18 b_3 b_457) rfl qM_was ⟨rfl, rfl⟩ (by rw [hR]; decide) (by rw [hR, hC, hS]; decide) rfl (Nat.le_of_ble_eq_true rfl) rfl rfl) (fun r aw1 hlen hr => ?_)
    obtain ⟨rfl, rfl⟩ := hr
    rw [clN (by omega) b2, clN (by omega) a2]
    simp only [zpush, zv]
    refine z_iastN (t0 := 0) (k := 1024 * k + 32 * y + x) dM_extend_101 rfl rfl (rfl) (by omega) (by decide) ?_
    try simp only [List.set_cons_succ, List.set_cons_zero]
    refine z_iinc1 dM_extend_102 (by decide) rfl rfl ?_
    try simp only [List.set_cons_succ, List.set_cons_zero]
    refine z_goto (tgt := 75) dM_extend_105 (by decide) ?_
    rw [nI_1]
    exact ih (x + 1) (by omega)
set_option maxRecDepth 100000 in
set_option maxHeartbeats 400000 in
theorem n_extend_y (hk : k < 4) (hw2 : w2 ≤ 32) (hh2 : h2 ≤ 32) (a1 : 1 ≤ a) (a2 : a ≤ 32) (b1 : 1 ≤ b) (b2 : b ≤ 32) (hR : zroom M = rmk 3 0 0) (hC : zcells M = 0) (hS : zslots M = 0) (hE : zEn M zE0) (kx : ∀ x, Zj M (gG D ca ad) cM_extend 6 RM wM_extend (some .boolean) (mwn ca th w h (ndY (mev O a b) k w2 S h2) O (nI a) (nI b)) [some (.ref 0), some (.int (nI k)), some (.int (nI w2)), some (.int (nI h2)), some (.int (nI h2)), x] [] 114) :
    ∀ n y, y + n = h2 → ∀ x, Zj M (gG D ca ad) cM_extend 6 RM wM_extend (some .boolean) (mwn ca th w h (ndY (mev O a b) k w2 S y) O (nI a) (nI b)) [some (.ref 0), some (.int (nI k)), some (.int (nI w2)), some (.int (nI h2)), some (.int (nI y)), x] [] 66 := by
  intro n
  induction n with
  | zero =>
    intro y hy x
    obtain rfl : y = h2 := by omega
    refine z_iload dM_extend_66 rfl ?_
    refine z_iload_n dM_extend_68 rfl ?_
    exact z_icmp_ge (tgt := 114) dM_extend_69 (by decide) (fun _ => kx x) (fun hc => absurd (nI_le (Nat.le_refl _) (by omega)) hc)
  | succ n ih =>
    intro y hy x
    refine z_iload dM_extend_66 rfl ?_
    refine z_iload_n dM_extend_68 rfl ?_
    refine z_icmp_ge (tgt := 114) dM_extend_69 (by decide) (fun hc => absurd hc (nI_ge (by omega) (by omega))) (fun _ => ?_)
    refine z_iconst (v := 0) dM_extend_72 (by decide) ?_
    refine z_istore dM_extend_73 (by decide) rfl ?_
    try simp only [List.set_cons_succ, List.set_cons_zero]
    refine n_extend_x (S := (ndY (mev O a b) k w2 S y)) hk hw2 hh2 a1 a2 b1 b2 hR hC hS hE (y := y) (by omega) ?_ w2 0 (by omega)
    refine z_iinc1 dM_extend_108 (by decide) rfl rfl ?_
    try simp only [List.set_cons_succ, List.set_cons_zero]
    refine z_goto (tgt := 66) dM_extend_111 (by decide) ?_
    rw [nI_1]
    exact ih (y + 1) (by omega) _
end
set_option maxRecDepth 100000 in
set_option maxHeartbeats 400000 in
theorem m_extend (l : Launch) (D : va_G) (ca : Nat → ClassId) (ad : Nat → Nat) (th : Int32) (w h : Nat → Nat) (S O : Nat → Int32) (ow oh : Int32) (hwh : okW w h) (n p q : Int32) : zMet l yM_extend wM_extend (rmk 3 0 0) zE0 (gG D ca ad) (mwn ca th w h S O ow oh) [.ref 0, .int n, .int p, .int q] (fun r aw => ((noP n ∧ r = some (.int 0) ∧ aw = (mwn ca 1 w h S O ow oh)) ∨ ∃ k : Nat, k < 4 ∧ n = nI k ∧ ((badE (w k) (h k) p q ∧ r = some (.int 0) ∧ aw = (mwn ca 0 w h S O ow oh)) ∨ ∃ w2 h2 : Nat, ¬ badE (w k) (h k) p q ∧ p = nI w2 ∧ q = nI h2 ∧ w2 ≤ 32 ∧ h2 ≤ 32 ∧ r = some (.int 1) ∧ ∃ O2 ow2 oh2, aw = mwn ca 0 (va_up w k w2) (va_up h k h2) (ndY (mev (mkp S O k 1024) (w k) (h k)) k w2 S h2) O2 ow2 oh2))) := by
  refine zMet.of (cc := cM_extend) (maxL := 6) (ret := (some .boolean)) (lv := [some (.ref 0), some (.int n), some (.int p), some (.int q), none, none]) (by decide) rfl (Nat.le_of_ble_eq_true rfl) rfl (fun M hl0 hR hC hS hE hret => ?_)
  refine z_aload_n dM_extend_0 rfl ?_
  refine z_iload_n dM_extend_1 rfl ?_
  refine z_pure (z_S hE zEok_0 (m_isPlane _ _ _) dM_extend_2 (gd_S b_416 b_417 b_3 b_418) rfl qM_isPlane.2 ⟨rfl, rfl⟩ (by rw [hR]; decide) (by rw [hR, hC, hS]; decide) rfl (Nat.le_of_ble_eq_true rfl)) (fun r hr => ?_)
  subst hr
  simp only [zpush, zv]
  refine z_iconst (v := 1) dM_extend_5 (by decide) ?_
  refine z_same (z_V (C := RM) (b := 0) hE zEok_0 (m_goes _ D ca ad th w h S O ow oh (inB n 0 3) (true)) dM_extend_6 (gd_V b_422 b_424 bs_14 b_3 b_425) rfl qM_goes ⟨rfl, rfl⟩ (by rw [hR]; decide) (by rw [hR, hC, hS]; decide) rfl (Nat.le_of_ble_eq_true rfl) rfl rfl) (fun r aw1 hlen hr => ?_)
  obtain ⟨rfl, rfl⟩ := hr
  simp only [zpush, zv]
  rcases inP n with ⟨e1, h1⟩ | ⟨e1, k, hk, rfl⟩
  · rw [e1]
    refine z_if_eq (tgt := 42) dM_extend_9 (by decide) (fun _ => ?_) (fun hc9 => absurd hc9 (by decide))
    refine z_iconst (v := 0) dM_extend_42 (by decide) ?_
    exact z_ireturn dM_extend_43 rfl hret ⟨Nat.le_of_eq hC, Nat.le_of_eq hS⟩ rfl (Or.inl ⟨h1, rfl, rfl⟩)
  rw [e1]
  obtain ⟨a1, a2, b1, b2⟩ := hwh k hk
  have k42 : badE (w k) (h k) p q → Zj M (gG D ca ad) cM_extend 6 RM wM_extend (some .boolean) (mwn ca 0 w h S O ow oh) [some (.ref 0), some (.int (nI k)), some (.int p), some (.int q), none, none] [] 42 := fun hb => by
    refine z_iconst (v := 0) dM_extend_42 (by decide) ?_
    exact z_ireturn dM_extend_43 rfl hret ⟨Nat.le_of_eq hC, Nat.le_of_eq hS⟩ rfl (Or.inr ⟨k, hk, rfl, Or.inl ⟨hb, rfl, rfl⟩⟩)
  refine z_if_eq (tgt := 42) dM_extend_9 (by decide) (fun hc9 => absurd hc9 (by decide)) (fun _ => ?_)
  refine z_iload_n dM_extend_12 rfl ?_
  refine z_aload_n dM_extend_13 rfl ?_
  refine z_get (C := RM) (T := TM) (N := 7) (ref := "ToneMixerModel") 1 dM_extend_14 rfl rfl rfl (by decide) (fun w h => bwT (hbM w h)) (bwT b_387) rfl ?_
  refine z_iload_n dM_extend_17 rfl ?_
  refine z_ialdN (t0 := 0) (k := k) dM_extend_18 rfl rfl (rfl) (hk) (by decide) ?_
  refine z_bipush (v := 32) dM_extend_19 (by decide) ?_
  refine z_pure (z_S hE zEok_0 (m_in _ _ _ _ _) dM_extend_21 (gd_S b_419 b_420 b_3 b_421) rfl qM_in.2 ⟨rfl, rfl⟩ (by rw [hR]; decide) (by rw [hR, hC, hS]; decide) rfl (Nat.le_of_ble_eq_true rfl)) (fun r hr => ?_)
  subst hr
  simp only [zpush, zv]
  rcases inE2 (w k) (h k) p q with ⟨e2, e3, hb⟩ | ⟨hb, e2 | ⟨e2, e3⟩⟩
  · rw [e2]
    refine z_if_eq (tgt := 42) dM_extend_24 (by decide) (fun hc9 => absurd hc9 (by decide)) (fun _ => ?_)
    refine z_iload_n dM_extend_27 rfl ?_
    refine z_aload_n dM_extend_28 rfl ?_
    refine z_get (C := RM) (T := TM) (N := 7) (ref := "ToneMixerModel") 2 dM_extend_29 rfl rfl rfl (by decide) (fun w h => bwT (hbM w h)) (bwT b_388) rfl ?_
    refine z_iload_n dM_extend_32 rfl ?_
    refine z_ialdN (t0 := 0) (k := k) dM_extend_33 rfl rfl (rfl) (hk) (by decide) ?_
    refine z_bipush (v := 32) dM_extend_34 (by decide) ?_
    refine z_pure (z_S hE zEok_0 (m_in _ _ _ _ _) dM_extend_36 (gd_S b_419 b_420 b_3 b_421) rfl qM_in.2 ⟨rfl, rfl⟩ (by rw [hR]; decide) (by rw [hR, hC, hS]; decide) rfl (Nat.le_of_ble_eq_true rfl)) (fun r hr => ?_)
    subst hr
    simp only [zpush, zv]
    rw [e3]
    obtain ⟨w2, rfl, c1, c2⟩ := geN (by omega : w k < 2 ^ 31) (fun q => hb (Or.inl q)) (fun q => hb (Or.inr (Or.inl q)))
    obtain ⟨h2, rfl, c3, c4⟩ := geN (by omega : h k < 2 ^ 31) (fun q => hb (Or.inr (Or.inr (Or.inl q)))) (fun q => hb (Or.inr (Or.inr (Or.inr q))))
    refine z_if_ne (tgt := 44) dM_extend_39 (by decide) (fun _ => ?_) (fun hc9 => absurd hc9 (by decide))
    refine z_aload_n dM_extend_44 rfl ?_
    refine z_iload_n dM_extend_45 rfl ?_
    refine z_same (z_V (C := RM) (b := 0) hE zEok_0 (m_keep _ D ca ad (thv true true) w h S O ow oh k hk) dM_extend_46 (gd_V b_450 b_452 bs_17 b_3 b_453) rfl qM_keep ⟨rfl, rfl⟩ (by rw [hR]; decide) (by rw [hR, hC, hS]; decide) rfl (Nat.le_of_ble_eq_true rfl) rfl rfl) (fun r aw1 hlen hr => ?_)
    obtain ⟨rfl, rfl⟩ := hr
    simp only [zpush]
    refine z_aload_n dM_extend_49 rfl ?_
    refine z_get (C := RM) (T := TM) (N := 7) (ref := "ToneMixerModel") 1 dM_extend_50 rfl rfl rfl (by decide) (fun w h => bwT (hbM w h)) (bwT b_387) rfl ?_
    refine z_iload_n dM_extend_53 rfl ?_
    refine z_iload_n dM_extend_54 rfl ?_
    refine z_iastN (t0 := 0) (k := k) dM_extend_55 rfl rfl (rfl) (hk) (by decide) ?_
    try simp only [List.set_cons_succ, List.set_cons_zero]
    refine z_aload_n dM_extend_56 rfl ?_
    refine z_get (C := RM) (T := TM) (N := 7) (ref := "ToneMixerModel") 2 dM_extend_57 rfl rfl rfl (by decide) (fun w h => bwT (hbM w h)) (bwT b_388) rfl ?_
    refine z_iload_n dM_extend_60 rfl ?_
    refine z_iload_n dM_extend_61 rfl ?_
    refine z_iastN (t0 := 0) (k := k) dM_extend_62 rfl rfl (rfl) (hk) (by decide) ?_
    try simp only [List.set_cons_succ, List.set_cons_zero]
    refine z_iconst (v := 0) dM_extend_63 (by decide) ?_
    refine z_istore dM_extend_64 (by decide) rfl ?_
    try simp only [List.set_cons_succ, List.set_cons_zero]
    rw [updn, updn]
    refine n_extend_y hk c2 c4 a1 a2 b1 b2 hR hC hS hE (fun x => ?_) h2 0 (by omega) none
    refine z_iconst (v := 1) dM_extend_114 (by decide) ?_
    exact z_ireturn dM_extend_115 rfl hret ⟨Nat.le_of_eq hC, Nat.le_of_eq hS⟩ rfl (Or.inr ⟨k, hk, rfl, Or.inr ⟨w2, h2, hb, rfl, rfl, c2, c4, rfl, (mkp S O k 1024), nI (w k), nI (h k), rfl⟩⟩)
  · rw [e2]
    refine z_if_eq (tgt := 42) dM_extend_24 (by decide) (fun _ => ?_) (fun hc9 => absurd hc9 (by decide))
    exact k42 hb
  · rw [e2]
    refine z_if_eq (tgt := 42) dM_extend_24 (by decide) (fun hc9 => absurd hc9 (by decide)) (fun _ => ?_)
    refine z_iload_n dM_extend_27 rfl ?_
    refine z_aload_n dM_extend_28 rfl ?_
    refine z_get (C := RM) (T := TM) (N := 7) (ref := "ToneMixerModel") 2 dM_extend_29 rfl rfl rfl (by decide) (fun w h => bwT (hbM w h)) (bwT b_388) rfl ?_
    refine z_iload_n dM_extend_32 rfl ?_
    refine z_ialdN (t0 := 0) (k := k) dM_extend_33 rfl rfl (rfl) (hk) (by decide) ?_
    refine z_bipush (v := 32) dM_extend_34 (by decide) ?_
    refine z_pure (z_S hE zEok_0 (m_in _ _ _ _ _) dM_extend_36 (gd_S b_419 b_420 b_3 b_421) rfl qM_in.2 ⟨rfl, rfl⟩ (by rw [hR]; decide) (by rw [hR, hC, hS]; decide) rfl (Nat.le_of_ble_eq_true rfl)) (fun r hr => ?_)
    subst hr
    simp only [zpush, zv]
    rw [e3]
    refine z_if_ne (tgt := 44) dM_extend_39 (by decide) (fun hc9 => absurd hc9 (by decide)) (fun _ => ?_)
    exact k42 hb
