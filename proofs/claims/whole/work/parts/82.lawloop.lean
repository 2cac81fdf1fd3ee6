/-! the law's loop -/
abbrev lwW (ca : Nat → ClassId) (f g : Nat → Nat → Int32) (w h : Nat → Nat) (u : Nat → Int64) (th : Int32) (S O : Nat → Int32) (ow oh : Int32) : List va_E := (twn ca f g w h ++ [oc ca u]) ++ (mwn ca th w h S O ow oh).map (zc (fun j => 15 + j))
abbrev lwL (i : Nat) (o5 o6 o7 : Option Value) : List (Option Value) := [some (.ref 1000), some (.ref 0), some (.ref 15), some (.ref 14), some (.int (nI i)), o5, o6, o7]
def lwNx (l : Launch) (sa : Nat → Nat) (b L : Nat) (xs : Nat → Int32) (D : va_G) (ca : Nat → ClassId) (ad : Nat → Nat) (a : Cond) (i C0 S0 : Nat) : Prop := ∀ (N : zM) (f g : Nat → Nat → Int32) (w h : Nat → Nat) (u : Nat → Int64) (th : Int32) (S O : Nat → Int32) (ow oh : Int32) (o5 o6 o7 : Option Value), zLw N l sa b L xs → zcells N ≤ C0 + 3 → zslots N ≤ S0 + 18 → Rel f w h S → Zj N (gG D ca ad) cL_law 8 RL (a :: bw) ret (lwW ca f g w h u th S O ow oh) (lwL i o5 o6 o7) [] 1036
theorem zup_lw {M N : zM} {l : Launch} {sa : Nat → Nat} {b L x y : Nat} {xs : Nat → Int32} (h : zLw M l sa b L xs) (hN : N = zup M x y) : zLw N l sa b L xs ∧ zcells N = zcells M + x ∧ zslots N = zslots M + y := by
  subst hN
  exact ⟨h.up, zup_cells M x y, zup_slots M x y⟩
theorem lw_cs {M : zM} (hR : zroom M = room_1) {a b : Nat} (h : a ≤ 601024 ∧ b ≤ 7293034) : a ≤ (zroom M).cells ∧ b ≤ (zroom M).slots := by
  rw [hR]
  exact h
theorem and15 (x : Int32) : ∃ c : Nat, c < 16 ∧ x &&& 15 = nI c := by
  refine ⟨(x &&& 15).toBitVec.toNat, ?_, ?_⟩
  · have h : (x &&& 15).toBitVec = x.toBitVec &&& 15#32 := rfl
    rw [h, BitVec.toNat_and]
    exact Nat.lt_of_le_of_lt Nat.and_le_right (by decide)
  · apply Int32.toBitVec_inj.mp
    show _ = BitVec.ofNat 32 _
    rw [BitVec.ofNat_toNat, BitVec.setWidth_eq]
/-- the two sides agree on mix -/
theorem a_mix {ca : Nat → ClassId} {f g : Nat → Nat → Int32} {w h : Nat → Nat} {S O : Nat → Int32} {ow oh : Int32} {rk rm : Option Value} {awk awm : List va_E} {n : Int32} (hR : Rel f w h S) (hk : (mix0 n w h ∧ rk = some (.int 0) ∧ awk = twn ca f g w h) ∨ ∃ v : Nat, v ≤ 6 ∧ n = nI v ∧ sameS (if n = 3 then 4 else 3) w h ∧ rk = some (.int 1) ∧ awk = twn ca (mxA v (w 0) f (h 0)) g w h)
    (hm : (mix0 n w h ∧ rm = some (.int 0) ∧ awm = (mwn ca 0 w h S O ow oh)) ∨ ∃ v : Nat, v ≤ 6 ∧ n = nI v ∧ sameS (if n = 3 then 4 else 3) w h ∧ rm = some (.int 1) ∧ awm = (mwn ca 0 w h (mmA v (w 0) (h 0) S) O ow oh)) : ∃ (x : Int32) (f2 : Nat → Nat → Int32) (S2 : Nat → Int32), rk = some (.int x) ∧ rm = some (.int x) ∧ awk = twn ca f2 g w h ∧ awm = mwn ca 0 w h S2 O ow oh ∧ Rel f2 w h S2 := by
  have key : ∀ v : Nat, v ≤ 6 → n = nI v → sameS (if n = 3 then 4 else 3) w h → ¬ mix0 n w h := by
    rintro v hv rfl hs (q | q | q)
    · exact nI_pos (by omega) q
    · exact nI_nlt (a := 6) hv (by omega) q
    · exact q hs
  rcases hk with ⟨h0, rfl, rfl⟩ | ⟨v, hv, e, hs, rfl, rfl⟩
  · rcases hm with ⟨-, rfl, rfl⟩ | ⟨v, hv, e, hs, -, -⟩
    · exact ⟨0, f, S, rfl, rfl, rfl, rfl, hR⟩
    · exact absurd h0 (key v hv e hs)
  · rcases hm with ⟨h0, -, -⟩ | ⟨v', hv', e', -, rfl, rfl⟩
    · exact absurd h0 (key v hv e hs)
    · subst e
      obtain rfl := nIj e'
      exact ⟨1, _, _, rfl, rfl, rfl, rfl, r_mix hv hR hs⟩
set_option maxRecDepth 100000 in
set_option maxHeartbeats 2000000 in
theorem lc_size {M : zM} {l : Launch} {sa : Nat → Nat} {b L : Nat} {xs : Nat → Int32} {D : va_G} {ca : Nat → ClassId} {ad : Nat → Nat} {a : Cond} {i : Nat} {f g : Nat → Nat → Int32} {w h : Nat → Nat} {u : Nat → Int64} {th : Int32} {S O : Nat → Int32} {ow oh : Int32} {o5 o6 o7 : Option Value} (hl9 : l.stackTraces = false) (hW : zLw M l sa b L xs) (had : ad 1000 = b) (hL : L < 2 ^ 31) (hi : i + 6 ≤ L) (hR : Rel f w h S) (hc : zcells M + 3 ≤ 601024 ∧ zslots M + 18 ≤ 7293034) (nx : lwNx l sa b L xs D ca ad a i (zcells M) (zslots M)) : Zj M (gG D ca ad) cL_law 8 RL (a :: bw) ret (lwW ca f g w h u th S O ow oh) (lwL i o5 o6 o7) [] 108 := by
  obtain ⟨hRo, hl0, hX, hE, hEnd⟩ := id hW
  refine z_aload_n dL_law_108 rfl ?_
  refine z_aload_n dL_law_109 rfl ?_
  refine z_iload dL_law_110 rfl ?_
  refine z_iconst (v := 1) dL_law_112 (by decide) ?_
  refine z_iadd dL_law_113 ?_
  refine z_sld (k := i + 1) hX had dL_law_114 (nI_add i 1) (by omega) hL ?_
  refine z_aload_n dL_law_115 rfl ?_
  refine z_iload dL_law_116 rfl ?_
  refine z_iconst (v := 2) dL_law_118 (by decide) ?_
  refine z_iadd dL_law_119 ?_
  refine z_sld (k := i + 2) hX had dL_law_120 (nI_add i 2) (by omega) hL ?_
  refine z_aload_n dL_law_121 rfl ?_
  refine z_iload dL_law_122 rfl ?_
  refine z_iconst (v := 3) dL_law_124 (by decide) ?_
  refine z_iadd dL_law_125 ?_
  refine z_sld (k := i + 3) hX had dL_law_126 (nI_add i 3) (by omega) hL ?_
  refine zx_catchL (rest := (mwn ca th w h S O ow oh).map (zc (fun j => 15 + j))) (zx_SW hE (zEok_il sa) (k_size _ (by rw [hl0]; exact hl9) D ca ad sa f g w h hR.1 u (xs (i + 1)) (xs (i + 2)) (xs (i + 3))) dL_law_127 (gd_S b_115 b_116 b_0 b_117) rfl qL_size.2 ⟨rfl, rfl⟩ (by rw [hRo]; decide) (lw_cs hRo (by omega)) rfl (Nat.le_of_ble_eq_true rfl)) (fun E h => h.elim) (fun rk awk hlen hk => ?_)
  obtain ⟨v, rfl⟩ : ∃ v, rk = some (.int v) := by
    rcases hk with ⟨h, -⟩ | ⟨E, -, h, -⟩ <;> exact ⟨_, h⟩
  have hlen : awk.length = 15 := hlen
  obtain ⟨N, hN⟩ : ∃ N, N = zup M 2 12 := ⟨_, rfl⟩
  rw [← hN]
  obtain ⟨hW2, hc1, hc2⟩ := zup_lw hW hN
  clear hN
  obtain ⟨hRo, hl0, hX, hE, hEnd⟩ := id hW2
  have hcs : zcells N ≤ 601024 ∧ zslots N ≤ 7293034 := by omega
  simp only [zpush, zv]
  refine z_istore dL_law_130 (by decide) rfl ?_
  try simp only [List.set_cons_succ, List.set_cons_zero]
  refine z_aload_n dL_law_132 rfl ?_
  refine z_aload_n dL_law_133 rfl ?_
  refine z_iload dL_law_134 rfl ?_
  refine z_iconst (v := 1) dL_law_136 (by decide) ?_
  refine z_iadd dL_law_137 ?_
  refine z_sld (k := i + 1) hX had dL_law_138 (nI_add i 1) (by omega) hL ?_
  refine z_aload_n dL_law_139 rfl ?_
  refine z_iload dL_law_140 rfl ?_
  refine z_iconst (v := 2) dL_law_142 (by decide) ?_
  refine z_iadd dL_law_143 ?_
  refine z_sld (k := i + 2) hX had dL_law_144 (nI_add i 2) (by omega) hL ?_
  refine z_aload_n dL_law_145 rfl ?_
  refine z_iload dL_law_146 rfl ?_
  refine z_iconst (v := 3) dL_law_148 (by decide) ?_
  refine z_iadd dL_law_149 ?_
  refine z_sld (k := i + 3) hX had dL_law_150 (nI_add i 3) (by omega) hL ?_
  refine z_suffix 15 hlen (z_V (C := RM) (b := 0) hE zEok_0 (m_size _ D ca (fun j => ad (15 + j)) th w h S O ow oh (xs (i + 1)) (xs (i + 2)) (xs (i + 3))) dL_law_151 (gd_V b_412 b_413 b_414 b_3 b_415) rfl qM_size ⟨rfl, rfl⟩ (by rw [hRo]; decide) (lw_cs hRo hcs) rfl (Nat.le_of_ble_eq_true rfl) rfl rfl) (fun rm awm hlen2 hm => ?_)
  have hrm : rm = none := hm.1
  obtain ⟨f2, g2, w2, h2, S2, O2, ow2, oh2, th2, u2, rfl, rfl, hR2, hv, hch⟩ := a_size hR hk hm
  obtain rfl : v = th2 := by
    injection hv with q
    injection q
  subst hrm
  clear hk hm hv
  simp only [zpush, zv]
  refine z_aload_n dL_law_154 rfl ?_
  refine z_suffix 15 rfl (z_V (C := RM) (b := 0) hE zEok_0 (m_thrown _ D ca (fun j => ad (15 + j)) v w2 h2 S2 O2 ow2 oh2) dL_law_155 (gd_V b_408 b_409 b_410 b_3 b_411) rfl qM_thrown ⟨rfl, rfl⟩ (by rw [hRo]; decide) (lw_cs hRo hcs) rfl (Nat.le_of_ble_eq_true rfl) rfl rfl) (fun r3 aw3 _ h3 => ?_)
  obtain ⟨rfl, rfl⟩ := h3
  simp only [zpush, zv]
  refine z_iload dL_law_158 rfl ?_
  refine z_icmp_eq (tgt := 165) dL_law_160 (by decide) (fun _ => ?_) (fun q => absurd rfl q)
  refine z_goto (tgt := 1036) dL_law_165 (by decide) ?_
  exact nx N f2 g2 w2 h2 u2 v S2 O2 ow2 oh2 _ _ _ hW2 (by omega) (by omega) hR2
set_option maxRecDepth 100000 in
set_option maxHeartbeats 2000000 in
theorem lc_put {M : zM} {l : Launch} {sa : Nat → Nat} {b L : Nat} {xs : Nat → Int32} {D : va_G} {ca : Nat → ClassId} {ad : Nat → Nat} {a : Cond} {i : Nat} {f g : Nat → Nat → Int32} {w h : Nat → Nat} {u : Nat → Int64} {th : Int32} {S O : Nat → Int32} {ow oh : Int32} {o5 o6 o7 : Option Value} (hl9 : l.stackTraces = false) (hW : zLw M l sa b L xs) (had : ad 1000 = b) (hL : L < 2 ^ 31) (hi : i + 6 ≤ L) (hR : Rel f w h S) (hc : zcells M + 3 ≤ 601024 ∧ zslots M + 18 ≤ 7293034) (nx : lwNx l sa b L xs D ca ad a i (zcells M) (zslots M)) : Zj M (gG D ca ad) cL_law 8 RL (a :: bw) ret (lwW ca f g w h u th S O ow oh) (lwL i o5 o6 o7) [] 168 := by
  obtain ⟨hRo, hl0, hX, hE, hEnd⟩ := id hW
  refine z_aload_n dL_law_168 rfl ?_
  refine z_aload_n dL_law_169 rfl ?_
  refine z_iload dL_law_170 rfl ?_
  refine z_iconst (v := 1) dL_law_172 (by decide) ?_
  refine z_iadd dL_law_173 ?_
  refine z_sld (k := i + 1) hX had dL_law_174 (nI_add i 1) (by omega) hL ?_
  refine z_aload_n dL_law_175 rfl ?_
  refine z_iload dL_law_176 rfl ?_
  refine z_iconst (v := 2) dL_law_178 (by decide) ?_
  refine z_iadd dL_law_179 ?_
  refine z_sld (k := i + 2) hX had dL_law_180 (nI_add i 2) (by omega) hL ?_
  refine z_aload_n dL_law_181 rfl ?_
  refine z_iload dL_law_182 rfl ?_
  refine z_iconst (v := 3) dL_law_184 (by decide) ?_
  refine z_iadd dL_law_185 ?_
  refine z_sld (k := i + 3) hX had dL_law_186 (nI_add i 3) (by omega) hL ?_
  refine z_aload_n dL_law_187 rfl ?_
  refine z_iload dL_law_188 rfl ?_
  refine z_iconst (v := 4) dL_law_190 (by decide) ?_
  refine z_iadd dL_law_191 ?_
  refine z_sld (k := i + 4) hX had dL_law_192 (nI_add i 4) (by omega) hL ?_
  refine zx_catchL (rest := (mwn ca th w h S O ow oh).map (zc (fun j => 15 + j))) (zx_SW hE (zEok_il sa) (k_put _ (by rw [hl0]; exact hl9) D ca ad sa f g w h hR.1 u (xs (i + 1)) (xs (i + 2)) (xs (i + 3)) (xs (i + 4))) dL_law_193 (gd_S b_218 b_219 b_0 b_220) rfl qL_put.2 ⟨rfl, rfl⟩ (by rw [hRo]; decide) (lw_cs hRo (by omega)) rfl (Nat.le_of_ble_eq_true rfl)) (fun E h => h.elim) (fun rk awk hlen hk => ?_)
  obtain ⟨v, rfl⟩ : ∃ v, rk = some (.int v) := by
    rcases hk with ⟨h, -⟩ | ⟨E, -, h, -⟩ <;> exact ⟨_, h⟩
  have hlen : awk.length = 15 := hlen
  obtain ⟨N, hN⟩ : ∃ N, N = zup M 3 18 := ⟨_, rfl⟩
  rw [← hN]
  obtain ⟨hW2, hc1, hc2⟩ := zup_lw hW hN
  clear hN
  obtain ⟨hRo, hl0, hX, hE, hEnd⟩ := id hW2
  have hcs : zcells N ≤ 601024 ∧ zslots N ≤ 7293034 := by omega
  simp only [zpush, zv]
  refine z_istore dL_law_196 (by decide) rfl ?_
  try simp only [List.set_cons_succ, List.set_cons_zero]
  refine z_aload_n dL_law_198 rfl ?_
  refine z_aload_n dL_law_199 rfl ?_
  refine z_iload dL_law_200 rfl ?_
  refine z_iconst (v := 1) dL_law_202 (by decide) ?_
  refine z_iadd dL_law_203 ?_
  refine z_sld (k := i + 1) hX had dL_law_204 (nI_add i 1) (by omega) hL ?_
  refine z_aload_n dL_law_205 rfl ?_
  refine z_iload dL_law_206 rfl ?_
  refine z_iconst (v := 2) dL_law_208 (by decide) ?_
  refine z_iadd dL_law_209 ?_
  refine z_sld (k := i + 2) hX had dL_law_210 (nI_add i 2) (by omega) hL ?_
  refine z_aload_n dL_law_211 rfl ?_
  refine z_iload dL_law_212 rfl ?_
  refine z_iconst (v := 3) dL_law_214 (by decide) ?_
  refine z_iadd dL_law_215 ?_
  refine z_sld (k := i + 3) hX had dL_law_216 (nI_add i 3) (by omega) hL ?_
  refine z_aload_n dL_law_217 rfl ?_
  refine z_iload dL_law_218 rfl ?_
  refine z_iconst (v := 4) dL_law_220 (by decide) ?_
  refine z_iadd dL_law_221 ?_
  refine z_sld (k := i + 4) hX had dL_law_222 (nI_add i 4) (by omega) hL ?_
  refine z_suffix 15 hlen (z_V (C := RM) (b := 0) hE zEok_0 (m_put _ D ca (fun j => ad (15 + j)) th w h S O ow oh hR.1 (xs (i + 1)) (xs (i + 2)) (xs (i + 3)) (xs (i + 4))) dL_law_223 (gd_V b_426 b_427 b_428 b_3 b_429) rfl qM_put ⟨rfl, rfl⟩ (by rw [hRo]; decide) (lw_cs hRo hcs) rfl (Nat.le_of_ble_eq_true rfl) rfl rfl) (fun rm awm hlen2 hm => ?_)
  have hrm : rm = none := hm.1
  obtain ⟨f2, g2, w2, h2, S2, O2, ow2, oh2, th2, u2, rfl, rfl, hR2, hv, hch⟩ := a_put hR hk hm
  obtain rfl : v = th2 := by
    injection hv with q
    injection q
  subst hrm
  clear hk hm hv
  simp only [zpush, zv]
  refine z_aload_n dL_law_226 rfl ?_
  refine z_suffix 15 rfl (z_V (C := RM) (b := 0) hE zEok_0 (m_thrown _ D ca (fun j => ad (15 + j)) v w2 h2 S2 O2 ow2 oh2) dL_law_227 (gd_V b_408 b_409 b_410 b_3 b_411) rfl qM_thrown ⟨rfl, rfl⟩ (by rw [hRo]; decide) (lw_cs hRo hcs) rfl (Nat.le_of_ble_eq_true rfl) rfl rfl) (fun r3 aw3 _ h3 => ?_)
  obtain ⟨rfl, rfl⟩ := h3
  simp only [zpush, zv]
  refine z_iload dL_law_230 rfl ?_
  refine z_icmp_eq (tgt := 237) dL_law_232 (by decide) (fun _ => ?_) (fun q => absurd rfl q)
  refine z_goto (tgt := 1036) dL_law_237 (by decide) ?_
  exact nx N f2 g2 w2 h2 u2 v S2 O2 ow2 oh2 _ _ _ hW2 (by omega) (by omega) hR2
set_option maxRecDepth 100000 in
set_option maxHeartbeats 2000000 in
theorem lc_row {M : zM} {l : Launch} {sa : Nat → Nat} {b L : Nat} {xs : Nat → Int32} {D : va_G} {ca : Nat → ClassId} {ad : Nat → Nat} {a : Cond} {i : Nat} {f g : Nat → Nat → Int32} {w h : Nat → Nat} {u : Nat → Int64} {th : Int32} {S O : Nat → Int32} {ow oh : Int32} {o5 o6 o7 : Option Value} (hl9 : l.stackTraces = false) (hW : zLw M l sa b L xs) (had : ad 1000 = b) (hL : L < 2 ^ 31) (hi : i + 6 ≤ L) (hR : Rel f w h S) (hc : zcells M + 3 ≤ 601024 ∧ zslots M + 18 ≤ 7293034) (nx : lwNx l sa b L xs D ca ad a i (zcells M) (zslots M)) : Zj M (gG D ca ad) cL_law 8 RL (a :: bw) ret (lwW ca f g w h u th S O ow oh) (lwL i o5 o6 o7) [] 240 := by
  obtain ⟨hRo, hl0, hX, hE, hEnd⟩ := id hW
  refine z_aload_n dL_law_240 rfl ?_
  refine z_aload_n dL_law_241 rfl ?_
  refine z_iload dL_law_242 rfl ?_
  refine z_iconst (v := 1) dL_law_244 (by decide) ?_
  refine z_iadd dL_law_245 ?_
  refine z_sld (k := i + 1) hX had dL_law_246 (nI_add i 1) (by omega) hL ?_
  refine z_aload_n dL_law_247 rfl ?_
  refine z_iload dL_law_248 rfl ?_
  refine z_iconst (v := 2) dL_law_250 (by decide) ?_
  refine z_iadd dL_law_251 ?_
  refine z_sld (k := i + 2) hX had dL_law_252 (nI_add i 2) (by omega) hL ?_
  refine z_aload_n dL_law_253 rfl ?_
  refine z_iload dL_law_254 rfl ?_
  refine z_iconst (v := 3) dL_law_256 (by decide) ?_
  refine z_iadd dL_law_257 ?_
  refine z_sld (k := i + 3) hX had dL_law_258 (nI_add i 3) (by omega) hL ?_
  refine z_aload_n dL_law_259 rfl ?_
  refine z_iload dL_law_260 rfl ?_
  refine z_iconst (v := 4) dL_law_262 (by decide) ?_
  refine z_iadd dL_law_263 ?_
  refine z_sld (k := i + 4) hX had dL_law_264 (nI_add i 4) (by omega) hL ?_
  refine z_i2l dL_law_265 ?_
  refine z_bipush (v := 32) dL_law_266 (by decide) ?_
  refine z_lshl dL_law_268 ?_
  refine z_aload_n dL_law_269 rfl ?_
  refine z_iload dL_law_270 rfl ?_
  refine z_iconst (v := 5) dL_law_272 (by decide) ?_
  refine z_iadd dL_law_273 ?_
  refine z_sld (k := i + 5) hX had dL_law_274 (nI_add i 5) (by omega) hL ?_
  refine z_i2l dL_law_275 ?_
  refine z_ldc2 (v := 4294967295) dL_law_276 (bwT b_521) ?_
  refine z_land dL_law_279 ?_
  refine z_lor dL_law_280 ?_
  refine z_topl (fun e9 he9 => ?_)
  refine zx_catchL (rest := (mwn ca th w h S O ow oh).map (zc (fun j => 15 + j))) (zx_SW hE (zEok_il sa) (k_row _ (by rw [hl0]; exact hl9) D ca ad sa f g w h hR.1 u (xs (i + 1)) (xs (i + 2)) (xs (i + 3)) e9) dL_law_281 (gd_S b_235 b_236 b_0 b_237) rfl qL_row.2 ⟨rfl, rfl⟩ (by rw [hRo]; decide) (lw_cs hRo (by omega)) rfl (Nat.le_of_ble_eq_true rfl)) (fun E h => h.elim) (fun rk awk hlen hk => ?_)
  obtain ⟨v, rfl⟩ : ∃ v, rk = some (.int v) := by
    rcases hk with ⟨h, -⟩ | ⟨E, -, h, -⟩ <;> exact ⟨_, h⟩
  have hlen : awk.length = 15 := hlen
  obtain ⟨N, hN⟩ : ∃ N, N = zup M 2 12 := ⟨_, rfl⟩
  rw [← hN]
  obtain ⟨hW2, hc1, hc2⟩ := zup_lw hW hN
  clear hN
  obtain ⟨hRo, hl0, hX, hE, hEnd⟩ := id hW2
  have hcs : zcells N ≤ 601024 ∧ zslots N ≤ 7293034 := by omega
  simp only [zpush, zv]
  refine z_istore dL_law_284 (by decide) rfl ?_
  try simp only [List.set_cons_succ, List.set_cons_zero]
  refine z_aload_n dL_law_286 rfl ?_
  refine z_aload_n dL_law_287 rfl ?_
  refine z_iload dL_law_288 rfl ?_
  refine z_iconst (v := 1) dL_law_290 (by decide) ?_
  refine z_iadd dL_law_291 ?_
  refine z_sld (k := i + 1) hX had dL_law_292 (nI_add i 1) (by omega) hL ?_
  refine z_aload_n dL_law_293 rfl ?_
  refine z_iload dL_law_294 rfl ?_
  refine z_iconst (v := 2) dL_law_296 (by decide) ?_
  refine z_iadd dL_law_297 ?_
  refine z_sld (k := i + 2) hX had dL_law_298 (nI_add i 2) (by omega) hL ?_
  refine z_aload_n dL_law_299 rfl ?_
  refine z_iload dL_law_300 rfl ?_
  refine z_iconst (v := 3) dL_law_302 (by decide) ?_
  refine z_iadd dL_law_303 ?_
  refine z_sld (k := i + 3) hX had dL_law_304 (nI_add i 3) (by omega) hL ?_
  refine z_aload_n dL_law_305 rfl ?_
  refine z_iload dL_law_306 rfl ?_
  refine z_iconst (v := 4) dL_law_308 (by decide) ?_
  refine z_iadd dL_law_309 ?_
  refine z_sld (k := i + 4) hX had dL_law_310 (nI_add i 4) (by omega) hL ?_
  refine z_i2l dL_law_311 ?_
  refine z_bipush (v := 32) dL_law_312 (by decide) ?_
  refine z_lshl dL_law_314 ?_
  refine z_aload_n dL_law_315 rfl ?_
  refine z_iload dL_law_316 rfl ?_
  refine z_iconst (v := 5) dL_law_318 (by decide) ?_
  refine z_iadd dL_law_319 ?_
  refine z_sld (k := i + 5) hX had dL_law_320 (nI_add i 5) (by omega) hL ?_
  refine z_i2l dL_law_321 ?_
  refine z_ldc2 (v := 4294967295) dL_law_322 (bwT b_521) ?_
  refine z_land dL_law_325 ?_
  refine z_lor dL_law_326 ?_
  refine z_topl (fun e8 he8 => ?_)
  obtain rfl : e8 = e9 := he8.trans he9.symm
  refine z_suffix 15 hlen (z_V (C := RM) (b := 0) hE zEok_0 (m_row _ D ca (fun j => ad (15 + j)) th w h S O ow oh hR.1 (xs (i + 1)) (xs (i + 2)) (xs (i + 3)) e8) dL_law_327 (gd_V b_437 b_438 b_439 b_3 b_440) rfl qM_row ⟨rfl, rfl⟩ (by rw [hRo]; decide) (lw_cs hRo hcs) rfl (Nat.le_of_ble_eq_true rfl) rfl rfl) (fun rm awm hlen2 hm => ?_)
  have hrm : rm = none := hm.1
  obtain ⟨f2, g2, w2, h2, S2, O2, ow2, oh2, th2, u2, rfl, rfl, hR2, hv, hch⟩ := a_row hR hk hm
  obtain rfl : v = th2 := by
    injection hv with q
    injection q
  subst hrm
  clear hk hm hv
  simp only [zpush, zv]
  refine z_aload_n dL_law_330 rfl ?_
  refine z_suffix 15 rfl (z_V (C := RM) (b := 0) hE zEok_0 (m_thrown _ D ca (fun j => ad (15 + j)) v w2 h2 S2 O2 ow2 oh2) dL_law_331 (gd_V b_408 b_409 b_410 b_3 b_411) rfl qM_thrown ⟨rfl, rfl⟩ (by rw [hRo]; decide) (lw_cs hRo hcs) rfl (Nat.le_of_ble_eq_true rfl) rfl rfl) (fun r3 aw3 _ h3 => ?_)
  obtain ⟨rfl, rfl⟩ := h3
  simp only [zpush, zv]
  refine z_iload dL_law_334 rfl ?_
  refine z_icmp_eq (tgt := 341) dL_law_336 (by decide) (fun _ => ?_) (fun q => absurd rfl q)
  refine z_goto (tgt := 1036) dL_law_341 (by decide) ?_
  exact nx N f2 g2 w2 h2 u2 v S2 O2 ow2 oh2 _ _ _ hW2 (by omega) (by omega) hR2
set_option maxRecDepth 100000 in
set_option maxHeartbeats 2000000 in
theorem lc_grow {M : zM} {l : Launch} {sa : Nat → Nat} {b L : Nat} {xs : Nat → Int32} {D : va_G} {ca : Nat → ClassId} {ad : Nat → Nat} {a : Cond} {i : Nat} {f g : Nat → Nat → Int32} {w h : Nat → Nat} {u : Nat → Int64} {th : Int32} {S O : Nat → Int32} {ow oh : Int32} {o5 o6 o7 : Option Value} (hl9 : l.stackTraces = false) (hW : zLw M l sa b L xs) (had : ad 1000 = b) (hL : L < 2 ^ 31) (hi : i + 6 ≤ L) (hR : Rel f w h S) (hc : zcells M + 3 ≤ 601024 ∧ zslots M + 18 ≤ 7293034) (nx : lwNx l sa b L xs D ca ad a i (zcells M) (zslots M)) : Zj M (gG D ca ad) cL_law 8 RL (a :: bw) ret (lwW ca f g w h u th S O ow oh) (lwL i o5 o6 o7) [] 344 := by
  obtain ⟨hRo, hl0, hX, hE, hEnd⟩ := id hW
  refine z_aload_n dL_law_344 rfl ?_
  refine z_aload_n dL_law_345 rfl ?_
  refine z_iload dL_law_346 rfl ?_
  refine z_iconst (v := 1) dL_law_348 (by decide) ?_
  refine z_iadd dL_law_349 ?_
  refine z_sld (k := i + 1) hX had dL_law_350 (nI_add i 1) (by omega) hL ?_
  refine z_aload_n dL_law_351 rfl ?_
  refine z_iload dL_law_352 rfl ?_
  refine z_iconst (v := 2) dL_law_354 (by decide) ?_
  refine z_iadd dL_law_355 ?_
  refine z_sld (k := i + 2) hX had dL_law_356 (nI_add i 2) (by omega) hL ?_
  refine z_aload_n dL_law_357 rfl ?_
  refine zx_catchL (rest := (mwn ca th w h S O ow oh).map (zc (fun j => 15 + j))) (zx_SW hE (zEok_il sa) (k_grow _ (by rw [hl0]; exact hl9) D ca ad sa f g w h hR.1 u (xs (i + 1)) (xs (i + 2))) dL_law_358 (gd_S b_245 b_246 b_0 b_247) rfl qL_grow.2 ⟨rfl, rfl⟩ (by rw [hRo]; decide) (lw_cs hRo (by omega)) rfl (Nat.le_of_ble_eq_true rfl)) (fun E h => h.elim) (fun rk awk hlen hk => ?_)
  obtain ⟨v, rfl⟩ : ∃ v, rk = some (.int v) := by
    rcases hk with ⟨h, -⟩ | ⟨E, -, h, -⟩ <;> exact ⟨_, h⟩
  have hlen : awk.length = 15 := hlen
  obtain ⟨N, hN⟩ : ∃ N, N = zup M 1 6 := ⟨_, rfl⟩
  rw [← hN]
  obtain ⟨hW2, hc1, hc2⟩ := zup_lw hW hN
  clear hN
  obtain ⟨hRo, hl0, hX, hE, hEnd⟩ := id hW2
  have hcs : zcells N ≤ 601024 ∧ zslots N ≤ 7293034 := by omega
  simp only [zpush, zv]
  refine z_istore dL_law_361 (by decide) rfl ?_
  try simp only [List.set_cons_succ, List.set_cons_zero]
  refine z_aload_n dL_law_363 rfl ?_
  refine z_aload_n dL_law_364 rfl ?_
  refine z_iload dL_law_365 rfl ?_
  refine z_iconst (v := 1) dL_law_367 (by decide) ?_
  refine z_iadd dL_law_368 ?_
  refine z_sld (k := i + 1) hX had dL_law_369 (nI_add i 1) (by omega) hL ?_
  refine z_aload_n dL_law_370 rfl ?_
  refine z_iload dL_law_371 rfl ?_
  refine z_iconst (v := 2) dL_law_373 (by decide) ?_
  refine z_iadd dL_law_374 ?_
  refine z_sld (k := i + 2) hX had dL_law_375 (nI_add i 2) (by omega) hL ?_
  refine z_suffix 15 hlen (z_V (C := RM) (b := 0) hE zEok_0 (m_grow _ D ca (fun j => ad (15 + j)) th w h S O ow oh hR.1 (xs (i + 1)) (xs (i + 2))) dL_law_376 (gd_V b_442 b_443 b_444 b_3 b_445) rfl qM_grow ⟨rfl, rfl⟩ (by rw [hRo]; decide) (lw_cs hRo hcs) rfl (Nat.le_of_ble_eq_true rfl) rfl rfl) (fun rm awm hlen2 hm => ?_)
  obtain ⟨rb, hrm⟩ : ∃ rb, rm = some (.int rb) := by
    rcases hm with ⟨-, h, -⟩ | ⟨k, -, -, ⟨-, h, -⟩ | ⟨v, -, -, -, h, -⟩⟩ <;> exact ⟨_, h⟩
  obtain ⟨f2, g2, w2, h2, S2, O2, ow2, oh2, th2, u2, rfl, rfl, hR2, hv, hch⟩ := a_grow hR hk hm
  obtain rfl : v = th2 := by
    injection hv with q
    injection q
  subst hrm
  clear hk hm hv
  simp only [zpush, zv]
  refine z_istore dL_law_379 (by decide) rfl ?_
  try simp only [List.set_cons_succ, List.set_cons_zero]
  refine z_aload_n dL_law_381 rfl ?_
  refine z_suffix 15 rfl (z_V (C := RM) (b := 0) hE zEok_0 (m_thrown _ D ca (fun j => ad (15 + j)) v w2 h2 S2 O2 ow2 oh2) dL_law_382 (gd_V b_408 b_409 b_410 b_3 b_411) rfl qM_thrown ⟨rfl, rfl⟩ (by rw [hRo]; decide) (lw_cs hRo hcs) rfl (Nat.le_of_ble_eq_true rfl) rfl rfl) (fun r3 aw3 _ h3 => ?_)
  obtain ⟨rfl, rfl⟩ := h3
  simp only [zpush, zv]
  refine z_iload dL_law_385 rfl ?_
  refine z_icmp_eq (tgt := 392) dL_law_387 (by decide) (fun _ => ?_) (fun q => absurd rfl q)
  refine z_iload dL_law_392 rfl ?_
  refine z_if_ne (tgt := 416) dL_law_394 (by decide) (fun _ => ?_) (fun q0 => ?_)
  · skip
    refine z_goto (tgt := 1036) dL_law_416 (by decide) ?_
    exact nx N f2 g2 w2 h2 u2 v S2 O2 ow2 oh2 _ _ _ hW2 (by omega) (by omega) hR2
  have hch := hch q0
  refine z_aload_n dL_law_397 rfl ?_
  refine z_iconst (v := 0) dL_law_398 (by decide) ?_
  refine z_laldN (t0 := 1) (k := 0) dL_law_399 rfl rfl rfl (by decide) (by decide) ?_
  refine z_iload dL_law_400 rfl ?_
  refine z_if_eq (tgt := 409) dL_law_402 (by decide) (fun qb => ?_) (fun qb => ?_)
  · have hch : u2 0 = 0 := hch.trans (by simp only [o64]; rw [if_pos trivial, if_pos qb])
    refine z_lconst (v := 0) dL_law_409 (by decide) ?_
    refine z_lcmp dL_law_410 ?_
    refine z_if_eq (tgt := 416) dL_law_411 (by decide) (fun _ => ?_) (fun q => absurd ((lg_cmp_eq _ _).mpr (hch)) q)
    refine z_goto (tgt := 1036) dL_law_416 (by decide) ?_
    exact nx N f2 g2 w2 h2 u2 v S2 O2 ow2 oh2 _ _ _ hW2 (by omega) (by omega) hR2
  · have hch : u2 0 = 1 := hch.trans (by simp only [o64]; rw [if_pos trivial, if_neg qb])
    refine z_lconst (v := 1) dL_law_405 (by decide) ?_
    refine z_goto (tgt := 410) dL_law_406 (by decide) ?_
    refine z_lcmp dL_law_410 ?_
    refine z_if_eq (tgt := 416) dL_law_411 (by decide) (fun _ => ?_) (fun q => absurd ((lg_cmp_eq _ _).mpr (hch)) q)
    refine z_goto (tgt := 1036) dL_law_416 (by decide) ?_
    exact nx N f2 g2 w2 h2 u2 v S2 O2 ow2 oh2 _ _ _ hW2 (by omega) (by omega) hR2
set_option maxRecDepth 100000 in
set_option maxHeartbeats 2000000 in
theorem lc_shrink {M : zM} {l : Launch} {sa : Nat → Nat} {b L : Nat} {xs : Nat → Int32} {D : va_G} {ca : Nat → ClassId} {ad : Nat → Nat} {a : Cond} {i : Nat} {f g : Nat → Nat → Int32} {w h : Nat → Nat} {u : Nat → Int64} {th : Int32} {S O : Nat → Int32} {ow oh : Int32} {o5 o6 o7 : Option Value} (hl9 : l.stackTraces = false) (hW : zLw M l sa b L xs) (had : ad 1000 = b) (hL : L < 2 ^ 31) (hi : i + 6 ≤ L) (hR : Rel f w h S) (hc : zcells M + 3 ≤ 601024 ∧ zslots M + 18 ≤ 7293034) (nx : lwNx l sa b L xs D ca ad a i (zcells M) (zslots M)) : Zj M (gG D ca ad) cL_law 8 RL (a :: bw) ret (lwW ca f g w h u th S O ow oh) (lwL i o5 o6 o7) [] 419 := by
  obtain ⟨hRo, hl0, hX, hE, hEnd⟩ := id hW
  refine z_aload_n dL_law_419 rfl ?_
  refine z_aload_n dL_law_420 rfl ?_
  refine z_iload dL_law_421 rfl ?_
  refine z_iconst (v := 1) dL_law_423 (by decide) ?_
  refine z_iadd dL_law_424 ?_
  refine z_sld (k := i + 1) hX had dL_law_425 (nI_add i 1) (by omega) hL ?_
  refine z_aload_n dL_law_426 rfl ?_
  refine z_iload dL_law_427 rfl ?_
  refine z_iconst (v := 2) dL_law_429 (by decide) ?_
  refine z_iadd dL_law_430 ?_
  refine z_sld (k := i + 2) hX had dL_law_431 (nI_add i 2) (by omega) hL ?_
  refine z_aload_n dL_law_432 rfl ?_
  refine zx_catchL (rest := (mwn ca th w h S O ow oh).map (zc (fun j => 15 + j))) (zx_SW hE (zEok_il sa) (k_shrink _ (by rw [hl0]; exact hl9) D ca ad sa f g w h hR.1 u (xs (i + 1)) (xs (i + 2))) dL_law_433 (gd_S b_265 b_266 b_0 b_267) rfl qL_shrink.2 ⟨rfl, rfl⟩ (by rw [hRo]; decide) (lw_cs hRo (by omega)) rfl (Nat.le_of_ble_eq_true rfl)) (fun E h => h.elim) (fun rk awk hlen hk => ?_)
  obtain ⟨v, rfl⟩ : ∃ v, rk = some (.int v) := by
    rcases hk with ⟨h, -⟩ | ⟨E, -, h, -⟩ <;> exact ⟨_, h⟩
  have hlen : awk.length = 15 := hlen
  obtain ⟨N, hN⟩ : ∃ N, N = zup M 1 6 := ⟨_, rfl⟩
  rw [← hN]
  obtain ⟨hW2, hc1, hc2⟩ := zup_lw hW hN
  clear hN
  obtain ⟨hRo, hl0, hX, hE, hEnd⟩ := id hW2
  have hcs : zcells N ≤ 601024 ∧ zslots N ≤ 7293034 := by omega
  simp only [zpush, zv]
  refine z_istore dL_law_436 (by decide) rfl ?_
  try simp only [List.set_cons_succ, List.set_cons_zero]
  refine z_aload_n dL_law_438 rfl ?_
  refine z_aload_n dL_law_439 rfl ?_
  refine z_iload dL_law_440 rfl ?_
  refine z_iconst (v := 1) dL_law_442 (by decide) ?_
  refine z_iadd dL_law_443 ?_
  refine z_sld (k := i + 1) hX had dL_law_444 (nI_add i 1) (by omega) hL ?_
  refine z_aload_n dL_law_445 rfl ?_
  refine z_iload dL_law_446 rfl ?_
  refine z_iconst (v := 2) dL_law_448 (by decide) ?_
  refine z_iadd dL_law_449 ?_
  refine z_sld (k := i + 2) hX had dL_law_450 (nI_add i 2) (by omega) hL ?_
  refine z_suffix 15 hlen (z_V (C := RM) (b := 0) hE zEok_0 (m_shrink _ D ca (fun j => ad (15 + j)) th w h S O ow oh hR.1 (xs (i + 1)) (xs (i + 2))) dL_law_451 (gd_V b_462 b_463 b_464 b_3 b_465) rfl qM_shrink ⟨rfl, rfl⟩ (by rw [hRo]; decide) (lw_cs hRo hcs) rfl (Nat.le_of_ble_eq_true rfl) rfl rfl) (fun rm awm hlen2 hm => ?_)
  obtain ⟨rb, hrm⟩ : ∃ rb, rm = some (.int rb) := by
    rcases hm with ⟨-, h, -⟩ | ⟨k, -, -, ⟨-, h, -⟩ | ⟨v, -, -, h, -⟩⟩ <;> exact ⟨_, h⟩
  obtain ⟨f2, g2, w2, h2, S2, O2, ow2, oh2, th2, u2, rfl, rfl, hR2, hv, hch⟩ := a_shrink hR hk hm
  obtain rfl : v = th2 := by
    injection hv with q
    injection q
  subst hrm
  clear hk hm hv
  simp only [zpush, zv]
  refine z_istore dL_law_454 (by decide) rfl ?_
  try simp only [List.set_cons_succ, List.set_cons_zero]
  refine z_aload_n dL_law_456 rfl ?_
  refine z_suffix 15 rfl (z_V (C := RM) (b := 0) hE zEok_0 (m_thrown _ D ca (fun j => ad (15 + j)) v w2 h2 S2 O2 ow2 oh2) dL_law_457 (gd_V b_408 b_409 b_410 b_3 b_411) rfl qM_thrown ⟨rfl, rfl⟩ (by rw [hRo]; decide) (lw_cs hRo hcs) rfl (Nat.le_of_ble_eq_true rfl) rfl rfl) (fun r3 aw3 _ h3 => ?_)
  obtain ⟨rfl, rfl⟩ := h3
  simp only [zpush, zv]
  refine z_iload dL_law_460 rfl ?_
  refine z_icmp_eq (tgt := 467) dL_law_462 (by decide) (fun _ => ?_) (fun q => absurd rfl q)
  refine z_iload dL_law_467 rfl ?_
  refine z_if_ne (tgt := 491) dL_law_469 (by decide) (fun _ => ?_) (fun q0 => ?_)
  · skip
    refine z_goto (tgt := 1036) dL_law_491 (by decide) ?_
    exact nx N f2 g2 w2 h2 u2 v S2 O2 ow2 oh2 _ _ _ hW2 (by omega) (by omega) hR2
  have hch := hch q0
  refine z_aload_n dL_law_472 rfl ?_
  refine z_iconst (v := 0) dL_law_473 (by decide) ?_
  refine z_laldN (t0 := 1) (k := 0) dL_law_474 rfl rfl rfl (by decide) (by decide) ?_
  refine z_iload dL_law_475 rfl ?_
  refine z_if_eq (tgt := 484) dL_law_477 (by decide) (fun qb => ?_) (fun qb => ?_)
  · have hch : u2 0 = 0 := hch.trans (by simp only [o64]; rw [if_pos trivial, if_pos qb])
    refine z_lconst (v := 0) dL_law_484 (by decide) ?_
    refine z_lcmp dL_law_485 ?_
    refine z_if_eq (tgt := 491) dL_law_486 (by decide) (fun _ => ?_) (fun q => absurd ((lg_cmp_eq _ _).mpr (hch)) q)
    refine z_goto (tgt := 1036) dL_law_491 (by decide) ?_
    exact nx N f2 g2 w2 h2 u2 v S2 O2 ow2 oh2 _ _ _ hW2 (by omega) (by omega) hR2
  · have hch : u2 0 = 1 := hch.trans (by simp only [o64]; rw [if_pos trivial, if_neg qb])
    refine z_lconst (v := 1) dL_law_480 (by decide) ?_
    refine z_goto (tgt := 485) dL_law_481 (by decide) ?_
    refine z_lcmp dL_law_485 ?_
    refine z_if_eq (tgt := 491) dL_law_486 (by decide) (fun _ => ?_) (fun q => absurd ((lg_cmp_eq _ _).mpr (hch)) q)
    refine z_goto (tgt := 1036) dL_law_491 (by decide) ?_
    exact nx N f2 g2 w2 h2 u2 v S2 O2 ow2 oh2 _ _ _ hW2 (by omega) (by omega) hR2
set_option maxRecDepth 100000 in
set_option maxHeartbeats 2000000 in
theorem lc_copy {M : zM} {l : Launch} {sa : Nat → Nat} {b L : Nat} {xs : Nat → Int32} {D : va_G} {ca : Nat → ClassId} {ad : Nat → Nat} {a : Cond} {i : Nat} {f g : Nat → Nat → Int32} {w h : Nat → Nat} {u : Nat → Int64} {th : Int32} {S O : Nat → Int32} {ow oh : Int32} {o5 o6 o7 : Option Value} (hl9 : l.stackTraces = false) (hW : zLw M l sa b L xs) (had : ad 1000 = b) (hL : L < 2 ^ 31) (hi : i + 6 ≤ L) (hR : Rel f w h S) (hc : zcells M + 3 ≤ 601024 ∧ zslots M + 18 ≤ 7293034) (nx : lwNx l sa b L xs D ca ad a i (zcells M) (zslots M)) : Zj M (gG D ca ad) cL_law 8 RL (a :: bw) ret (lwW ca f g w h u th S O ow oh) (lwL i o5 o6 o7) [] 519 := by
  obtain ⟨hRo, hl0, hX, hE, hEnd⟩ := id hW
  refine z_aload_n dL_law_519 rfl ?_
  refine z_aload_n dL_law_520 rfl ?_
  refine z_iload dL_law_521 rfl ?_
  refine z_iconst (v := 1) dL_law_523 (by decide) ?_
  refine z_iadd dL_law_524 ?_
  refine z_sld (k := i + 1) hX had dL_law_525 (nI_add i 1) (by omega) hL ?_
  refine z_aload_n dL_law_526 rfl ?_
  refine z_iload dL_law_527 rfl ?_
  refine z_iconst (v := 2) dL_law_529 (by decide) ?_
  refine z_iadd dL_law_530 ?_
  refine z_sld (k := i + 2) hX had dL_law_531 (nI_add i 2) (by omega) hL ?_
  refine zx_catchL (rest := (mwn ca th w h S O ow oh).map (zc (fun j => 15 + j))) (zx_SW hE (zEok_il sa) (k_copy _ (by rw [hl0]; exact hl9) D ca ad sa f g w h hR.1 u (xs (i + 1)) (xs (i + 2))) dL_law_532 (gd_S b_296 b_297 b_0 b_298) rfl qL_copy.2 ⟨rfl, rfl⟩ (by rw [hRo]; decide) (lw_cs hRo (by omega)) rfl (Nat.le_of_ble_eq_true rfl)) (fun E h => h.elim) (fun rk awk hlen hk => ?_)
  obtain ⟨v, rfl⟩ : ∃ v, rk = some (.int v) := by
    rcases hk with ⟨h, -⟩ | ⟨E, -, h, -⟩ <;> exact ⟨_, h⟩
  have hlen : awk.length = 15 := hlen
  obtain ⟨N, hN⟩ : ∃ N, N = zup M 2 12 := ⟨_, rfl⟩
  rw [← hN]
  obtain ⟨hW2, hc1, hc2⟩ := zup_lw hW hN
  clear hN
  obtain ⟨hRo, hl0, hX, hE, hEnd⟩ := id hW2
  have hcs : zcells N ≤ 601024 ∧ zslots N ≤ 7293034 := by omega
  simp only [zpush, zv]
  refine z_istore dL_law_535 (by decide) rfl ?_
  try simp only [List.set_cons_succ, List.set_cons_zero]
  refine z_aload_n dL_law_537 rfl ?_
  refine z_aload_n dL_law_538 rfl ?_
  refine z_iload dL_law_539 rfl ?_
  refine z_iconst (v := 1) dL_law_541 (by decide) ?_
  refine z_iadd dL_law_542 ?_
  refine z_sld (k := i + 1) hX had dL_law_543 (nI_add i 1) (by omega) hL ?_
  refine z_aload_n dL_law_544 rfl ?_
  refine z_iload dL_law_545 rfl ?_
  refine z_iconst (v := 2) dL_law_547 (by decide) ?_
  refine z_iadd dL_law_548 ?_
  refine z_sld (k := i + 2) hX had dL_law_549 (nI_add i 2) (by omega) hL ?_
  refine z_suffix 15 hlen (z_V (C := RM) (b := 0) hE zEok_0 (m_copy _ D ca (fun j => ad (15 + j)) th w h S O ow oh (xs (i + 1)) (xs (i + 2))) dL_law_550 (gd_V b_493 b_494 b_495 b_3 b_496) rfl qM_copy ⟨rfl, rfl⟩ (by rw [hRo]; decide) (lw_cs hRo hcs) rfl (Nat.le_of_ble_eq_true rfl) rfl rfl) (fun rm awm hlen2 hm => ?_)
  have hrm : rm = none := hm.1
  obtain ⟨f2, g2, w2, h2, S2, O2, ow2, oh2, th2, u2, rfl, rfl, hR2, hv, hch⟩ := a_copy hR hk hm
  obtain rfl : v = th2 := by
    injection hv with q
    injection q
  subst hrm
  clear hk hm hv
  simp only [zpush, zv]
  refine z_aload_n dL_law_553 rfl ?_
  refine z_suffix 15 rfl (z_V (C := RM) (b := 0) hE zEok_0 (m_thrown _ D ca (fun j => ad (15 + j)) v w2 h2 S2 O2 ow2 oh2) dL_law_554 (gd_V b_408 b_409 b_410 b_3 b_411) rfl qM_thrown ⟨rfl, rfl⟩ (by rw [hRo]; decide) (lw_cs hRo hcs) rfl (Nat.le_of_ble_eq_true rfl) rfl rfl) (fun r3 aw3 _ h3 => ?_)
  obtain ⟨rfl, rfl⟩ := h3
  simp only [zpush, zv]
  refine z_iload dL_law_557 rfl ?_
  refine z_icmp_eq (tgt := 564) dL_law_559 (by decide) (fun _ => ?_) (fun q => absurd rfl q)
  refine z_goto (tgt := 1036) dL_law_564 (by decide) ?_
  exact nx N f2 g2 w2 h2 u2 v S2 O2 ow2 oh2 _ _ _ hW2 (by omega) (by omega) hR2
set_option maxRecDepth 100000 in
set_option maxHeartbeats 2000000 in
theorem lc_extend {M : zM} {l : Launch} {sa : Nat → Nat} {b L : Nat} {xs : Nat → Int32} {D : va_G} {ca : Nat → ClassId} {ad : Nat → Nat} {a : Cond} {i : Nat} {f g : Nat → Nat → Int32} {w h : Nat → Nat} {u : Nat → Int64} {th : Int32} {S O : Nat → Int32} {ow oh : Int32} {o5 o6 o7 : Option Value} (hl9 : l.stackTraces = false) (hW : zLw M l sa b L xs) (had : ad 1000 = b) (hL : L < 2 ^ 31) (hi : i + 6 ≤ L) (hR : Rel f w h S) (hc : zcells M + 3 ≤ 601024 ∧ zslots M + 18 ≤ 7293034) (nx : lwNx l sa b L xs D ca ad a i (zcells M) (zslots M)) : Zj M (gG D ca ad) cL_law 8 RL (a :: bw) ret (lwW ca f g w h u th S O ow oh) (lwL i o5 o6 o7) [] 567 := by
  obtain ⟨hRo, hl0, hX, hE, hEnd⟩ := id hW
  refine z_aload_n dL_law_567 rfl ?_
  refine z_aload_n dL_law_568 rfl ?_
  refine z_iload dL_law_569 rfl ?_
  refine z_iconst (v := 1) dL_law_571 (by decide) ?_
  refine z_iadd dL_law_572 ?_
  refine z_sld (k := i + 1) hX had dL_law_573 (nI_add i 1) (by omega) hL ?_
  refine z_aload_n dL_law_574 rfl ?_
  refine z_iload dL_law_575 rfl ?_
  refine z_iconst (v := 2) dL_law_577 (by decide) ?_
  refine z_iadd dL_law_578 ?_
  refine z_sld (k := i + 2) hX had dL_law_579 (nI_add i 2) (by omega) hL ?_
  refine z_aload_n dL_law_580 rfl ?_
  refine z_iload dL_law_581 rfl ?_
  refine z_iconst (v := 3) dL_law_583 (by decide) ?_
  refine z_iadd dL_law_584 ?_
  refine z_sld (k := i + 3) hX had dL_law_585 (nI_add i 3) (by omega) hL ?_
  refine z_aload_n dL_law_586 rfl ?_
  refine zx_catchL (rest := (mwn ca th w h S O ow oh).map (zc (fun j => 15 + j))) (zx_SW hE (zEok_il sa) (k_extend _ (by rw [hl0]; exact hl9) D ca ad sa f g w h hR.1 u (xs (i + 1)) (xs (i + 2)) (xs (i + 3))) dL_law_587 (gd_S b_310 b_311 b_0 b_312) rfl qL_extend.2 ⟨rfl, rfl⟩ (by rw [hRo]; decide) (lw_cs hRo (by omega)) rfl (Nat.le_of_ble_eq_true rfl)) (fun E h => h.elim) (fun rk awk hlen hk => ?_)
  obtain ⟨v, rfl⟩ : ∃ v, rk = some (.int v) := by
    rcases hk with ⟨h, -⟩ | ⟨E, -, h, -⟩ <;> exact ⟨_, h⟩
  have hlen : awk.length = 15 := hlen
  obtain ⟨N, hN⟩ : ∃ N, N = zup M 1 6 := ⟨_, rfl⟩
  rw [← hN]
  obtain ⟨hW2, hc1, hc2⟩ := zup_lw hW hN
  clear hN
  obtain ⟨hRo, hl0, hX, hE, hEnd⟩ := id hW2
  have hcs : zcells N ≤ 601024 ∧ zslots N ≤ 7293034 := by omega
  simp only [zpush, zv]
  refine z_istore dL_law_590 (by decide) rfl ?_
  try simp only [List.set_cons_succ, List.set_cons_zero]
  refine z_aload_n dL_law_592 rfl ?_
  refine z_aload_n dL_law_593 rfl ?_
  refine z_iload dL_law_594 rfl ?_
  refine z_iconst (v := 1) dL_law_596 (by decide) ?_
  refine z_iadd dL_law_597 ?_
  refine z_sld (k := i + 1) hX had dL_law_598 (nI_add i 1) (by omega) hL ?_
  refine z_aload_n dL_law_599 rfl ?_
  refine z_iload dL_law_600 rfl ?_
  refine z_iconst (v := 2) dL_law_602 (by decide) ?_
  refine z_iadd dL_law_603 ?_
  refine z_sld (k := i + 2) hX had dL_law_604 (nI_add i 2) (by omega) hL ?_
  refine z_aload_n dL_law_605 rfl ?_
  refine z_iload dL_law_606 rfl ?_
  refine z_iconst (v := 3) dL_law_608 (by decide) ?_
  refine z_iadd dL_law_609 ?_
  refine z_sld (k := i + 3) hX had dL_law_610 (nI_add i 3) (by omega) hL ?_
  refine z_suffix 15 hlen (z_V (C := RM) (b := 0) hE zEok_0 (m_extend _ D ca (fun j => ad (15 + j)) th w h S O ow oh hR.1 (xs (i + 1)) (xs (i + 2)) (xs (i + 3))) dL_law_611 (gd_V b_497 b_498 b_499 b_3 b_500) rfl qM_extend ⟨rfl, rfl⟩ (by rw [hRo]; decide) (lw_cs hRo hcs) rfl (Nat.le_of_ble_eq_true rfl) rfl rfl) (fun rm awm hlen2 hm => ?_)
  obtain ⟨rb, hrm⟩ : ∃ rb, rm = some (.int rb) := by
    rcases hm with ⟨-, h, -⟩ | ⟨k, -, -, ⟨-, h, -⟩ | ⟨w2, h2, -, -, -, -, -, h, -⟩⟩ <;> exact ⟨_, h⟩
  obtain ⟨f2, g2, w2, h2, S2, O2, ow2, oh2, th2, u2, rfl, rfl, hR2, hv, hch⟩ := a_extend hR hk hm
  obtain rfl : v = th2 := by
    injection hv with q
    injection q
  subst hrm
  clear hk hm hv
  simp only [zpush, zv]
  refine z_istore dL_law_614 (by decide) rfl ?_
  try simp only [List.set_cons_succ, List.set_cons_zero]
  refine z_aload_n dL_law_616 rfl ?_
  refine z_suffix 15 rfl (z_V (C := RM) (b := 0) hE zEok_0 (m_thrown _ D ca (fun j => ad (15 + j)) v w2 h2 S2 O2 ow2 oh2) dL_law_617 (gd_V b_408 b_409 b_410 b_3 b_411) rfl qM_thrown ⟨rfl, rfl⟩ (by rw [hRo]; decide) (lw_cs hRo hcs) rfl (Nat.le_of_ble_eq_true rfl) rfl rfl) (fun r3 aw3 _ h3 => ?_)
  obtain ⟨rfl, rfl⟩ := h3
  simp only [zpush, zv]
  refine z_iload dL_law_620 rfl ?_
  refine z_icmp_eq (tgt := 627) dL_law_622 (by decide) (fun _ => ?_) (fun q => absurd rfl q)
  refine z_iload dL_law_627 rfl ?_
  refine z_if_ne (tgt := 651) dL_law_629 (by decide) (fun _ => ?_) (fun q0 => ?_)
  · skip
    refine z_goto (tgt := 1036) dL_law_651 (by decide) ?_
    exact nx N f2 g2 w2 h2 u2 v S2 O2 ow2 oh2 _ _ _ hW2 (by omega) (by omega) hR2
  have hch := hch q0
  refine z_aload_n dL_law_632 rfl ?_
  refine z_iconst (v := 0) dL_law_633 (by decide) ?_
  refine z_laldN (t0 := 1) (k := 0) dL_law_634 rfl rfl rfl (by decide) (by decide) ?_
  refine z_iload dL_law_635 rfl ?_
  refine z_if_eq (tgt := 644) dL_law_637 (by decide) (fun qb => ?_) (fun qb => ?_)
  · have hch : u2 0 = 0 := hch.trans (by simp only [o64]; rw [if_pos trivial, if_pos qb])
    refine z_lconst (v := 0) dL_law_644 (by decide) ?_
    refine z_lcmp dL_law_645 ?_
    refine z_if_eq (tgt := 651) dL_law_646 (by decide) (fun _ => ?_) (fun q => absurd ((lg_cmp_eq _ _).mpr (hch)) q)
    refine z_goto (tgt := 1036) dL_law_651 (by decide) ?_
    exact nx N f2 g2 w2 h2 u2 v S2 O2 ow2 oh2 _ _ _ hW2 (by omega) (by omega) hR2
  · have hch : u2 0 = 1 := hch.trans (by simp only [o64]; rw [if_pos trivial, if_neg qb])
    refine z_lconst (v := 1) dL_law_640 (by decide) ?_
    refine z_goto (tgt := 645) dL_law_641 (by decide) ?_
    refine z_lcmp dL_law_645 ?_
    refine z_if_eq (tgt := 651) dL_law_646 (by decide) (fun _ => ?_) (fun q => absurd ((lg_cmp_eq _ _).mpr (hch)) q)
    refine z_goto (tgt := 1036) dL_law_651 (by decide) ?_
    exact nx N f2 g2 w2 h2 u2 v S2 O2 ow2 oh2 _ _ _ hW2 (by omega) (by omega) hR2
set_option maxRecDepth 100000 in
set_option maxHeartbeats 2000000 in
theorem lc_cut {M : zM} {l : Launch} {sa : Nat → Nat} {b L : Nat} {xs : Nat → Int32} {D : va_G} {ca : Nat → ClassId} {ad : Nat → Nat} {a : Cond} {i : Nat} {f g : Nat → Nat → Int32} {w h : Nat → Nat} {u : Nat → Int64} {th : Int32} {S O : Nat → Int32} {ow oh : Int32} {o5 o6 o7 : Option Value} (hl9 : l.stackTraces = false) (hW : zLw M l sa b L xs) (had : ad 1000 = b) (hL : L < 2 ^ 31) (hi : i + 6 ≤ L) (hR : Rel f w h S) (hc : zcells M + 3 ≤ 601024 ∧ zslots M + 18 ≤ 7293034) (nx : lwNx l sa b L xs D ca ad a i (zcells M) (zslots M)) : Zj M (gG D ca ad) cL_law 8 RL (a :: bw) ret (lwW ca f g w h u th S O ow oh) (lwL i o5 o6 o7) [] 654 := by
  obtain ⟨hRo, hl0, hX, hE, hEnd⟩ := id hW
  refine z_aload_n dL_law_654 rfl ?_
  refine z_aload_n dL_law_655 rfl ?_
  refine z_iload dL_law_656 rfl ?_
  refine z_iconst (v := 1) dL_law_658 (by decide) ?_
  refine z_iadd dL_law_659 ?_
  refine z_sld (k := i + 1) hX had dL_law_660 (nI_add i 1) (by omega) hL ?_
  refine z_aload_n dL_law_661 rfl ?_
  refine z_iload dL_law_662 rfl ?_
  refine z_iconst (v := 2) dL_law_664 (by decide) ?_
  refine z_iadd dL_law_665 ?_
  refine z_sld (k := i + 2) hX had dL_law_666 (nI_add i 2) (by omega) hL ?_
  refine z_aload_n dL_law_667 rfl ?_
  refine z_iload dL_law_668 rfl ?_
  refine z_iconst (v := 3) dL_law_670 (by decide) ?_
  refine z_iadd dL_law_671 ?_
  refine z_sld (k := i + 3) hX had dL_law_672 (nI_add i 3) (by omega) hL ?_
  refine z_aload_n dL_law_673 rfl ?_
  refine zx_catchL (rest := (mwn ca th w h S O ow oh).map (zc (fun j => 15 + j))) (zx_SW hE (zEok_il sa) (k_cut _ (by rw [hl0]; exact hl9) D ca ad sa f g w h hR.1 u (xs (i + 1)) (xs (i + 2)) (xs (i + 3))) dL_law_674 (gd_S b_325 b_326 b_0 b_327) rfl qL_cut.2 ⟨rfl, rfl⟩ (by rw [hRo]; decide) (lw_cs hRo (by omega)) rfl (Nat.le_of_ble_eq_true rfl)) (fun E h => h.elim) (fun rk awk hlen hk => ?_)
  obtain ⟨v, rfl⟩ : ∃ v, rk = some (.int v) := by
    rcases hk with ⟨h, -⟩ | ⟨E, -, h, -⟩ <;> exact ⟨_, h⟩
  have hlen : awk.length = 15 := hlen
  obtain ⟨N, hN⟩ : ∃ N, N = zup M 1 6 := ⟨_, rfl⟩
  rw [← hN]
  obtain ⟨hW2, hc1, hc2⟩ := zup_lw hW hN
  clear hN
  obtain ⟨hRo, hl0, hX, hE, hEnd⟩ := id hW2
  have hcs : zcells N ≤ 601024 ∧ zslots N ≤ 7293034 := by omega
  simp only [zpush, zv]
  refine z_istore dL_law_677 (by decide) rfl ?_
  try simp only [List.set_cons_succ, List.set_cons_zero]
  refine z_aload_n dL_law_679 rfl ?_
  refine z_aload_n dL_law_680 rfl ?_
  refine z_iload dL_law_681 rfl ?_
  refine z_iconst (v := 1) dL_law_683 (by decide) ?_
  refine z_iadd dL_law_684 ?_
  refine z_sld (k := i + 1) hX had dL_law_685 (nI_add i 1) (by omega) hL ?_
  refine z_aload_n dL_law_686 rfl ?_
  refine z_iload dL_law_687 rfl ?_
  refine z_iconst (v := 2) dL_law_689 (by decide) ?_
  refine z_iadd dL_law_690 ?_
  refine z_sld (k := i + 2) hX had dL_law_691 (nI_add i 2) (by omega) hL ?_
  refine z_aload_n dL_law_692 rfl ?_
  refine z_iload dL_law_693 rfl ?_
  refine z_iconst (v := 3) dL_law_695 (by decide) ?_
  refine z_iadd dL_law_696 ?_
  refine z_sld (k := i + 3) hX had dL_law_697 (nI_add i 3) (by omega) hL ?_
  refine z_suffix 15 hlen (z_V (C := RM) (b := 0) hE zEok_0 (m_cut _ D ca (fun j => ad (15 + j)) th w h S O ow oh hR.1 (xs (i + 1)) (xs (i + 2)) (xs (i + 3))) dL_law_698 (gd_V b_501 b_502 b_503 b_3 b_504) rfl qM_cut ⟨rfl, rfl⟩ (by rw [hRo]; decide) (lw_cs hRo hcs) rfl (Nat.le_of_ble_eq_true rfl) rfl rfl) (fun rm awm hlen2 hm => ?_)
  obtain ⟨rb, hrm⟩ : ∃ rb, rm = some (.int rb) := by
    rcases hm with ⟨-, h, -⟩ | ⟨k, -, -, ⟨-, h, -⟩ | ⟨w2, h2, -, -, -, h, -⟩⟩ <;> exact ⟨_, h⟩
  obtain ⟨f2, g2, w2, h2, S2, O2, ow2, oh2, th2, u2, rfl, rfl, hR2, hv, hch⟩ := a_cut hR hk hm
  obtain rfl : v = th2 := by
    injection hv with q
    injection q
  subst hrm
  clear hk hm hv
  simp only [zpush, zv]
  refine z_istore dL_law_701 (by decide) rfl ?_
  try simp only [List.set_cons_succ, List.set_cons_zero]
  refine z_aload_n dL_law_703 rfl ?_
  refine z_suffix 15 rfl (z_V (C := RM) (b := 0) hE zEok_0 (m_thrown _ D ca (fun j => ad (15 + j)) v w2 h2 S2 O2 ow2 oh2) dL_law_704 (gd_V b_408 b_409 b_410 b_3 b_411) rfl qM_thrown ⟨rfl, rfl⟩ (by rw [hRo]; decide) (lw_cs hRo hcs) rfl (Nat.le_of_ble_eq_true rfl) rfl rfl) (fun r3 aw3 _ h3 => ?_)
  obtain ⟨rfl, rfl⟩ := h3
  simp only [zpush, zv]
  refine z_iload dL_law_707 rfl ?_
  refine z_icmp_eq (tgt := 714) dL_law_709 (by decide) (fun _ => ?_) (fun q => absurd rfl q)
  refine z_iload dL_law_714 rfl ?_
  refine z_if_ne (tgt := 738) dL_law_716 (by decide) (fun _ => ?_) (fun q0 => ?_)
  · skip
    refine z_goto (tgt := 1036) dL_law_738 (by decide) ?_
    exact nx N f2 g2 w2 h2 u2 v S2 O2 ow2 oh2 _ _ _ hW2 (by omega) (by omega) hR2
  have hch := hch q0
  refine z_aload_n dL_law_719 rfl ?_
  refine z_iconst (v := 0) dL_law_720 (by decide) ?_
  refine z_laldN (t0 := 1) (k := 0) dL_law_721 rfl rfl rfl (by decide) (by decide) ?_
  refine z_iload dL_law_722 rfl ?_
  refine z_if_eq (tgt := 731) dL_law_724 (by decide) (fun qb => ?_) (fun qb => ?_)
  · have hch : u2 0 = 0 := hch.trans (by simp only [o64]; rw [if_pos trivial, if_pos qb])
    refine z_lconst (v := 0) dL_law_731 (by decide) ?_
    refine z_lcmp dL_law_732 ?_
    refine z_if_eq (tgt := 738) dL_law_733 (by decide) (fun _ => ?_) (fun q => absurd ((lg_cmp_eq _ _).mpr (hch)) q)
    refine z_goto (tgt := 1036) dL_law_738 (by decide) ?_
    exact nx N f2 g2 w2 h2 u2 v S2 O2 ow2 oh2 _ _ _ hW2 (by omega) (by omega) hR2
  · have hch : u2 0 = 1 := hch.trans (by simp only [o64]; rw [if_pos trivial, if_neg qb])
    refine z_lconst (v := 1) dL_law_727 (by decide) ?_
    refine z_goto (tgt := 732) dL_law_728 (by decide) ?_
    refine z_lcmp dL_law_732 ?_
    refine z_if_eq (tgt := 738) dL_law_733 (by decide) (fun _ => ?_) (fun q => absurd ((lg_cmp_eq _ _).mpr (hch)) q)
    refine z_goto (tgt := 1036) dL_law_738 (by decide) ?_
    exact nx N f2 g2 w2 h2 u2 v S2 O2 ow2 oh2 _ _ _ hW2 (by omega) (by omega) hR2
set_option maxRecDepth 100000 in
set_option maxHeartbeats 2000000 in
theorem lc_at {M : zM} {l : Launch} {sa : Nat → Nat} {b L : Nat} {xs : Nat → Int32} {D : va_G} {ca : Nat → ClassId} {ad : Nat → Nat} {a : Cond} {i : Nat} {f g : Nat → Nat → Int32} {w h : Nat → Nat} {u : Nat → Int64} {th : Int32} {S O : Nat → Int32} {ow oh : Int32} {o5 o6 o7 : Option Value} (hl9 : l.stackTraces = false) (hW : zLw M l sa b L xs) (had : ad 1000 = b) (hL : L < 2 ^ 31) (hi : i + 6 ≤ L) (hR : Rel f w h S) (hc : zcells M + 3 ≤ 601024 ∧ zslots M + 18 ≤ 7293034) (nx : lwNx l sa b L xs D ca ad a i (zcells M) (zslots M)) : Zj M (gG D ca ad) cL_law 8 RL (a :: bw) ret (lwW ca f g w h u th S O ow oh) (lwL i o5 o6 o7) [] 741 := by
  obtain ⟨hRo, hl0, hX, hE, hEnd⟩ := id hW
  refine z_aload_n dL_law_741 rfl ?_
  refine z_aload_n dL_law_742 rfl ?_
  refine z_iload dL_law_743 rfl ?_
  refine z_iconst (v := 1) dL_law_745 (by decide) ?_
  refine z_iadd dL_law_746 ?_
  refine z_sld (k := i + 1) hX had dL_law_747 (nI_add i 1) (by omega) hL ?_
  refine z_aload_n dL_law_748 rfl ?_
  refine z_iload dL_law_749 rfl ?_
  refine z_iconst (v := 2) dL_law_751 (by decide) ?_
  refine z_iadd dL_law_752 ?_
  refine z_sld (k := i + 2) hX had dL_law_753 (nI_add i 2) (by omega) hL ?_
  refine z_aload_n dL_law_754 rfl ?_
  refine z_iload dL_law_755 rfl ?_
  refine z_iconst (v := 3) dL_law_757 (by decide) ?_
  refine z_iadd dL_law_758 ?_
  refine z_sld (k := i + 3) hX had dL_law_759 (nI_add i 3) (by omega) hL ?_
  refine z_aload_n dL_law_760 rfl ?_
  refine zx_catchL (rest := (mwn ca th w h S O ow oh).map (zc (fun j => 15 + j))) (zx_SW hE (zEok_il sa) (k_at _ (by rw [hl0]; exact hl9) D ca ad sa f g w h hR.1 u (xs (i + 1)) (xs (i + 2)) (xs (i + 3))) dL_law_761 (gd_S b_332 b_333 b_0 b_334) rfl qL_at.2 ⟨rfl, rfl⟩ (by rw [hRo]; decide) (lw_cs hRo (by omega)) rfl (Nat.le_of_ble_eq_true rfl)) (fun E h => h.elim) (fun rk awk hlen hk => ?_)
  obtain ⟨v, rfl⟩ : ∃ v, rk = some (.int v) := by
    rcases hk with ⟨h, -⟩ | ⟨E, -, h, -⟩ <;> exact ⟨_, h⟩
  have hlen : awk.length = 15 := hlen
  obtain ⟨N, hN⟩ : ∃ N, N = zup M 2 12 := ⟨_, rfl⟩
  rw [← hN]
  obtain ⟨hW2, hc1, hc2⟩ := zup_lw hW hN
  clear hN
  obtain ⟨hRo, hl0, hX, hE, hEnd⟩ := id hW2
  have hcs : zcells N ≤ 601024 ∧ zslots N ≤ 7293034 := by omega
  simp only [zpush, zv]
  refine z_istore dL_law_764 (by decide) rfl ?_
  try simp only [List.set_cons_succ, List.set_cons_zero]
  refine z_aload_n dL_law_766 rfl ?_
  refine z_aload_n dL_law_767 rfl ?_
  refine z_iload dL_law_768 rfl ?_
  refine z_iconst (v := 1) dL_law_770 (by decide) ?_
  refine z_iadd dL_law_771 ?_
  refine z_sld (k := i + 1) hX had dL_law_772 (nI_add i 1) (by omega) hL ?_
  refine z_aload_n dL_law_773 rfl ?_
  refine z_iload dL_law_774 rfl ?_
  refine z_iconst (v := 2) dL_law_776 (by decide) ?_
  refine z_iadd dL_law_777 ?_
  refine z_sld (k := i + 2) hX had dL_law_778 (nI_add i 2) (by omega) hL ?_
  refine z_aload_n dL_law_779 rfl ?_
  refine z_iload dL_law_780 rfl ?_
  refine z_iconst (v := 3) dL_law_782 (by decide) ?_
  refine z_iadd dL_law_783 ?_
  refine z_sld (k := i + 3) hX had dL_law_784 (nI_add i 3) (by omega) hL ?_
  refine z_suffix 15 hlen (z_V (C := RM) (b := 0) hE zEok_0 (m_at _ D ca (fun j => ad (15 + j)) th w h S O ow oh hR.1 (xs (i + 1)) (xs (i + 2)) (xs (i + 3))) dL_law_785 (gd_V b_505 b_506 b_507 b_3 b_508) rfl qM_at ⟨rfl, rfl⟩ (by rw [hRo]; decide) (lw_cs hRo hcs) rfl (Nat.le_of_ble_eq_true rfl) rfl rfl) (fun rm awm hlen2 hm => ?_)
  obtain ⟨rb, hrm⟩ : ∃ rb, rm = some (.int rb) := by
    rcases hm with ⟨-, h, -⟩ | ⟨k, a, b, -, -, -, -, -, -, h, -⟩ <;> exact ⟨_, h⟩
  obtain ⟨f2, g2, w2, h2, S2, O2, ow2, oh2, th2, u2, rfl, rfl, hR2, hv, hch⟩ := a_at hR hk hm
  obtain rfl : v = th2 := by
    injection hv with q
    injection q
  subst hrm
  clear hk hm hv
  simp only [zpush, zv]
  refine z_istore dL_law_788 (by decide) rfl ?_
  try simp only [List.set_cons_succ, List.set_cons_zero]
  refine z_aload_n dL_law_790 rfl ?_
  refine z_suffix 15 rfl (z_V (C := RM) (b := 0) hE zEok_0 (m_thrown _ D ca (fun j => ad (15 + j)) v w2 h2 S2 O2 ow2 oh2) dL_law_791 (gd_V b_408 b_409 b_410 b_3 b_411) rfl qM_thrown ⟨rfl, rfl⟩ (by rw [hRo]; decide) (lw_cs hRo hcs) rfl (Nat.le_of_ble_eq_true rfl) rfl rfl) (fun r3 aw3 _ h3 => ?_)
  obtain ⟨rfl, rfl⟩ := h3
  simp only [zpush, zv]
  refine z_iload dL_law_794 rfl ?_
  refine z_icmp_eq (tgt := 801) dL_law_796 (by decide) (fun _ => ?_) (fun q => absurd rfl q)
  refine z_iload dL_law_801 rfl ?_
  refine z_if_ne (tgt := 818) dL_law_803 (by decide) (fun _ => ?_) (fun q0 => ?_)
  · skip
    refine z_goto (tgt := 1036) dL_law_818 (by decide) ?_
    exact nx N f2 g2 w2 h2 u2 v S2 O2 ow2 oh2 _ _ _ hW2 (by omega) (by omega) hR2
  have hch := hch q0
  refine z_aload_n dL_law_806 rfl ?_
  refine z_iconst (v := 0) dL_law_807 (by decide) ?_
  refine z_laldN (t0 := 1) (k := 0) dL_law_808 rfl rfl rfl (by decide) (by decide) ?_
  refine z_iload dL_law_809 rfl ?_
  refine z_i2l dL_law_811 ?_
  refine z_lcmp dL_law_812 ?_
  refine z_if_eq (tgt := 818) dL_law_813 (by decide) (fun _ => ?_) (fun q => absurd ((lg_cmp_eq _ _).mpr (hch)) q)
  refine z_goto (tgt := 1036) dL_law_818 (by decide) ?_
  exact nx N f2 g2 w2 h2 u2 v S2 O2 ow2 oh2 _ _ _ hW2 (by omega) (by omega) hR2
set_option maxRecDepth 100000 in
set_option maxHeartbeats 2000000 in
theorem lc_eight {M : zM} {l : Launch} {sa : Nat → Nat} {b L : Nat} {xs : Nat → Int32} {D : va_G} {ca : Nat → ClassId} {ad : Nat → Nat} {a : Cond} {i : Nat} {f g : Nat → Nat → Int32} {w h : Nat → Nat} {u : Nat → Int64} {th : Int32} {S O : Nat → Int32} {ow oh : Int32} {o5 o6 o7 : Option Value} (hl9 : l.stackTraces = false) (hW : zLw M l sa b L xs) (had : ad 1000 = b) (hL : L < 2 ^ 31) (hi : i + 6 ≤ L) (hR : Rel f w h S) (hc : zcells M + 3 ≤ 601024 ∧ zslots M + 18 ≤ 7293034) (nx : lwNx l sa b L xs D ca ad a i (zcells M) (zslots M)) : Zj M (gG D ca ad) cL_law 8 RL (a :: bw) ret (lwW ca f g w h u th S O ow oh) (lwL i o5 o6 o7) [] 821 := by
  obtain ⟨hRo, hl0, hX, hE, hEnd⟩ := id hW
  refine z_aload_n dL_law_821 rfl ?_
  refine z_aload_n dL_law_822 rfl ?_
  refine z_iload dL_law_823 rfl ?_
  refine z_iconst (v := 1) dL_law_825 (by decide) ?_
  refine z_iadd dL_law_826 ?_
  refine z_sld (k := i + 1) hX had dL_law_827 (nI_add i 1) (by omega) hL ?_
  refine z_aload_n dL_law_828 rfl ?_
  refine z_iload dL_law_829 rfl ?_
  refine z_iconst (v := 2) dL_law_831 (by decide) ?_
  refine z_iadd dL_law_832 ?_
  refine z_sld (k := i + 2) hX had dL_law_833 (nI_add i 2) (by omega) hL ?_
  refine z_aload_n dL_law_834 rfl ?_
  refine z_iload dL_law_835 rfl ?_
  refine z_iconst (v := 3) dL_law_837 (by decide) ?_
  refine z_iadd dL_law_838 ?_
  refine z_sld (k := i + 3) hX had dL_law_839 (nI_add i 3) (by omega) hL ?_
  refine z_aload_n dL_law_840 rfl ?_
  refine zx_catchL (rest := (mwn ca th w h S O ow oh).map (zc (fun j => 15 + j))) (zx_SW hE (zEok_il sa) (k_eight _ (by rw [hl0]; exact hl9) D ca ad sa f g w h hR.1 u (xs (i + 1)) (xs (i + 2)) (xs (i + 3))) dL_law_841 (gd_S b_339 b_340 b_0 b_341) rfl qL_eight.2 ⟨rfl, rfl⟩ (by rw [hRo]; decide) (lw_cs hRo (by omega)) rfl (Nat.le_of_ble_eq_true rfl)) (fun E h => h.elim) (fun rk awk hlen hk => ?_)
  obtain ⟨v, rfl⟩ : ∃ v, rk = some (.int v) := by
    rcases hk with ⟨h, -⟩ | ⟨E, -, h, -⟩ <;> exact ⟨_, h⟩
  have hlen : awk.length = 15 := hlen
  obtain ⟨N, hN⟩ : ∃ N, N = zup M 1 6 := ⟨_, rfl⟩
  rw [← hN]
  obtain ⟨hW2, hc1, hc2⟩ := zup_lw hW hN
  clear hN
  obtain ⟨hRo, hl0, hX, hE, hEnd⟩ := id hW2
  have hcs : zcells N ≤ 601024 ∧ zslots N ≤ 7293034 := by omega
  simp only [zpush, zv]
  refine z_istore dL_law_844 (by decide) rfl ?_
  try simp only [List.set_cons_succ, List.set_cons_zero]
  refine z_aload_n dL_law_846 rfl ?_
  refine z_aload_n dL_law_847 rfl ?_
  refine z_iload dL_law_848 rfl ?_
  refine z_iconst (v := 1) dL_law_850 (by decide) ?_
  refine z_iadd dL_law_851 ?_
  refine z_sld (k := i + 1) hX had dL_law_852 (nI_add i 1) (by omega) hL ?_
  refine z_aload_n dL_law_853 rfl ?_
  refine z_iload dL_law_854 rfl ?_
  refine z_iconst (v := 2) dL_law_856 (by decide) ?_
  refine z_iadd dL_law_857 ?_
  refine z_sld (k := i + 2) hX had dL_law_858 (nI_add i 2) (by omega) hL ?_
  refine z_aload_n dL_law_859 rfl ?_
  refine z_iload dL_law_860 rfl ?_
  refine z_iconst (v := 3) dL_law_862 (by decide) ?_
  refine z_iadd dL_law_863 ?_
  refine z_sld (k := i + 3) hX had dL_law_864 (nI_add i 3) (by omega) hL ?_
  refine z_suffix 15 hlen (z_V (C := RM) (b := 0) hE zEok_0 (m_eight _ D ca (fun j => ad (15 + j)) th w h S O ow oh hR.1 (xs (i + 1)) (xs (i + 2)) (xs (i + 3))) dL_law_865 (gd_V b_509 b_510 b_511 b_3 b_512) rfl qM_eight ⟨rfl, rfl⟩ (by rw [hRo]; decide) (lw_cs hRo hcs) rfl (Nat.le_of_ble_eq_true rfl) rfl rfl) (fun rm awm hlen2 hm => ?_)
  obtain ⟨rb, hrm⟩ : ∃ rb, rm = some (.long rb) := by
    rcases hm with ⟨-, h, -⟩ | ⟨k, -, -, h, -⟩ <;> exact ⟨_, h⟩
  obtain ⟨f2, g2, w2, h2, S2, O2, ow2, oh2, th2, u2, rfl, rfl, hR2, hv, hch⟩ := a_eight hR hk hm
  obtain rfl : v = th2 := by
    injection hv with q
    injection q
  subst hrm
  clear hk hm hv
  simp only [zpush, zv]
  refine z_lstore dL_law_868 (by decide) rfl ?_
  try simp only [List.set_cons_succ, List.set_cons_zero]
  refine z_aload_n dL_law_870 rfl ?_
  refine z_suffix 15 rfl (z_V (C := RM) (b := 0) hE zEok_0 (m_thrown _ D ca (fun j => ad (15 + j)) v w2 h2 S2 O2 ow2 oh2) dL_law_871 (gd_V b_408 b_409 b_410 b_3 b_411) rfl qM_thrown ⟨rfl, rfl⟩ (by rw [hRo]; decide) (lw_cs hRo hcs) rfl (Nat.le_of_ble_eq_true rfl) rfl rfl) (fun r3 aw3 _ h3 => ?_)
  obtain ⟨rfl, rfl⟩ := h3
  simp only [zpush, zv]
  refine z_iload dL_law_874 rfl ?_
  refine z_icmp_eq (tgt := 881) dL_law_876 (by decide) (fun _ => ?_) (fun q => absurd rfl q)
  refine z_iload dL_law_881 rfl ?_
  refine z_if_ne (tgt := 897) dL_law_883 (by decide) (fun _ => ?_) (fun q0 => ?_)
  · skip
    refine z_goto (tgt := 1036) dL_law_897 (by decide) ?_
    exact nx N f2 g2 w2 h2 u2 v S2 O2 ow2 oh2 _ _ _ hW2 (by omega) (by omega) hR2
  have hch := hch q0
  refine z_aload_n dL_law_886 rfl ?_
  refine z_iconst (v := 0) dL_law_887 (by decide) ?_
  refine z_laldN (t0 := 1) (k := 0) dL_law_888 rfl rfl rfl (by decide) (by decide) ?_
  refine z_lload dL_law_889 rfl ?_
  refine z_lcmp dL_law_891 ?_
  refine z_if_eq (tgt := 897) dL_law_892 (by decide) (fun _ => ?_) (fun q => absurd ((lg_cmp_eq _ _).mpr (hch)) q)
  refine z_goto (tgt := 1036) dL_law_897 (by decide) ?_
  exact nx N f2 g2 w2 h2 u2 v S2 O2 ow2 oh2 _ _ _ hW2 (by omega) (by omega) hR2
set_option maxRecDepth 100000 in
set_option maxHeartbeats 2000000 in
theorem lc_apart {M : zM} {l : Launch} {sa : Nat → Nat} {b L : Nat} {xs : Nat → Int32} {D : va_G} {ca : Nat → ClassId} {ad : Nat → Nat} {a : Cond} {i : Nat} {f g : Nat → Nat → Int32} {w h : Nat → Nat} {u : Nat → Int64} {th : Int32} {S O : Nat → Int32} {ow oh : Int32} {o5 o6 o7 : Option Value} (hl9 : l.stackTraces = false) (hW : zLw M l sa b L xs) (had : ad 1000 = b) (hL : L < 2 ^ 31) (hi : i + 6 ≤ L) (hR : Rel f w h S) (hc : zcells M + 3 ≤ 601024 ∧ zslots M + 18 ≤ 7293034) (nx : lwNx l sa b L xs D ca ad a i (zcells M) (zslots M)) : Zj M (gG D ca ad) cL_law 8 RL (a :: bw) ret (lwW ca f g w h u th S O ow oh) (lwL i o5 o6 o7) [] 900 := by
  obtain ⟨hRo, hl0, hX, hE, hEnd⟩ := id hW
  refine z_aload_n dL_law_900 rfl ?_
  refine z_aload_n dL_law_901 rfl ?_
  refine z_iload dL_law_902 rfl ?_
  refine z_iconst (v := 1) dL_law_904 (by decide) ?_
  refine z_iadd dL_law_905 ?_
  refine z_sld (k := i + 1) hX had dL_law_906 (nI_add i 1) (by omega) hL ?_
  refine z_aload_n dL_law_907 rfl ?_
  refine z_iload dL_law_908 rfl ?_
  refine z_iconst (v := 2) dL_law_910 (by decide) ?_
  refine z_iadd dL_law_911 ?_
  refine z_sld (k := i + 2) hX had dL_law_912 (nI_add i 2) (by omega) hL ?_
  refine z_aload_n dL_law_913 rfl ?_
  refine zx_catchL (rest := (mwn ca th w h S O ow oh).map (zc (fun j => 15 + j))) (zx_SW hE (zEok_il sa) (k_apart _ (by rw [hl0]; exact hl9) D ca ad sa f g w h hR.1 u (xs (i + 1)) (xs (i + 2))) dL_law_914 (gd_S b_346 b_347 b_0 b_348) rfl qL_apart.2 ⟨rfl, rfl⟩ (by rw [hRo]; decide) (lw_cs hRo (by omega)) rfl (Nat.le_of_ble_eq_true rfl)) (fun E h => h.elim) (fun rk awk hlen hk => ?_)
  obtain ⟨v, rfl⟩ : ∃ v, rk = some (.int v) := by
    rcases hk with ⟨h, -⟩ | ⟨E, -, h, -⟩ <;> exact ⟨_, h⟩
  have hlen : awk.length = 15 := hlen
  obtain ⟨N, hN⟩ : ∃ N, N = zup M 2 12 := ⟨_, rfl⟩
  rw [← hN]
  obtain ⟨hW2, hc1, hc2⟩ := zup_lw hW hN
  clear hN
  obtain ⟨hRo, hl0, hX, hE, hEnd⟩ := id hW2
  have hcs : zcells N ≤ 601024 ∧ zslots N ≤ 7293034 := by omega
  simp only [zpush, zv]
  refine z_istore dL_law_917 (by decide) rfl ?_
  try simp only [List.set_cons_succ, List.set_cons_zero]
  refine z_aload_n dL_law_919 rfl ?_
  refine z_aload_n dL_law_920 rfl ?_
  refine z_iload dL_law_921 rfl ?_
  refine z_iconst (v := 1) dL_law_923 (by decide) ?_
  refine z_iadd dL_law_924 ?_
  refine z_sld (k := i + 1) hX had dL_law_925 (nI_add i 1) (by omega) hL ?_
  refine z_aload_n dL_law_926 rfl ?_
  refine z_iload dL_law_927 rfl ?_
  refine z_iconst (v := 2) dL_law_929 (by decide) ?_
  refine z_iadd dL_law_930 ?_
  refine z_sld (k := i + 2) hX had dL_law_931 (nI_add i 2) (by omega) hL ?_
  refine z_suffix 15 hlen (z_V (C := RM) (b := 0) hE zEok_0 (m_apart _ D ca (fun j => ad (15 + j)) th w h S O ow oh hR.1 (xs (i + 1)) (xs (i + 2))) dL_law_932 (gd_V b_513 b_514 b_515 b_3 b_516) rfl qM_apart ⟨rfl, rfl⟩ (by rw [hRo]; decide) (lw_cs hRo hcs) rfl (Nat.le_of_ble_eq_true rfl) rfl rfl) (fun rm awm hlen2 hm => ?_)
  obtain ⟨rb, hrm⟩ : ∃ rb, rm = some (.int rb) := by
    rcases hm with ⟨-, h, -⟩ | ⟨k, k2, -, -, -, -, -, h⟩ <;> exact ⟨_, h⟩
  obtain ⟨f2, g2, w2, h2, S2, O2, ow2, oh2, th2, u2, rfl, rfl, hR2, hv, hch⟩ := a_apart hR hk hm
  obtain rfl : v = th2 := by
    injection hv with q
    injection q
  subst hrm
  clear hk hm hv
  simp only [zpush, zv]
  refine z_istore dL_law_935 (by decide) rfl ?_
  try simp only [List.set_cons_succ, List.set_cons_zero]
  refine z_aload_n dL_law_937 rfl ?_
  refine z_suffix 15 rfl (z_V (C := RM) (b := 0) hE zEok_0 (m_thrown _ D ca (fun j => ad (15 + j)) v w2 h2 S2 O2 ow2 oh2) dL_law_938 (gd_V b_408 b_409 b_410 b_3 b_411) rfl qM_thrown ⟨rfl, rfl⟩ (by rw [hRo]; decide) (lw_cs hRo hcs) rfl (Nat.le_of_ble_eq_true rfl) rfl rfl) (fun r3 aw3 _ h3 => ?_)
  obtain ⟨rfl, rfl⟩ := h3
  simp only [zpush, zv]
  refine z_iload dL_law_941 rfl ?_
  refine z_icmp_eq (tgt := 948) dL_law_943 (by decide) (fun _ => ?_) (fun q => absurd rfl q)
  refine z_iload dL_law_948 rfl ?_
  refine z_if_ne (tgt := 965) dL_law_950 (by decide) (fun _ => ?_) (fun q0 => ?_)
  · skip
    refine z_goto (tgt := 1036) dL_law_965 (by decide) ?_
    exact nx N f2 g2 w2 h2 u2 v S2 O2 ow2 oh2 _ _ _ hW2 (by omega) (by omega) hR2
  have hch := hch q0
  refine z_aload_n dL_law_953 rfl ?_
  refine z_iconst (v := 0) dL_law_954 (by decide) ?_
  refine z_laldN (t0 := 1) (k := 0) dL_law_955 rfl rfl rfl (by decide) (by decide) ?_
  refine z_iload dL_law_956 rfl ?_
  refine z_i2l dL_law_958 ?_
  refine z_lcmp dL_law_959 ?_
  refine z_if_eq (tgt := 965) dL_law_960 (by decide) (fun _ => ?_) (fun q => absurd ((lg_cmp_eq _ _).mpr (hch)) q)
  refine z_goto (tgt := 1036) dL_law_965 (by decide) ?_
  exact nx N f2 g2 w2 h2 u2 v S2 O2 ow2 oh2 _ _ _ hW2 (by omega) (by omega) hR2
set_option maxRecDepth 100000 in
set_option maxHeartbeats 2000000 in
theorem lc_look {M : zM} {l : Launch} {sa : Nat → Nat} {b L : Nat} {xs : Nat → Int32} {D : va_G} {ca : Nat → ClassId} {ad : Nat → Nat} {a : Cond} {i : Nat} {f g : Nat → Nat → Int32} {w h : Nat → Nat} {u : Nat → Int64} {th : Int32} {S O : Nat → Int32} {ow oh : Int32} {o5 o6 o7 : Option Value} (hl9 : l.stackTraces = false) (hW : zLw M l sa b L xs) (had : ad 1000 = b) (hL : L < 2 ^ 31) (hi : i + 6 ≤ L) (hR : Rel f w h S) (hc : zcells M + 3 ≤ 601024 ∧ zslots M + 18 ≤ 7293034) (nx : lwNx l sa b L xs D ca ad a i (zcells M) (zslots M)) : Zj M (gG D ca ad) cL_law 8 RL (a :: bw) ret (lwW ca f g w h u th S O ow oh) (lwL i o5 o6 o7) [] 968 := by
  obtain ⟨hRo, hl0, hX, hE, hEnd⟩ := id hW
  refine z_aload_n dL_law_968 rfl ?_
  refine z_aload_n dL_law_969 rfl ?_
  refine z_iload dL_law_970 rfl ?_
  refine z_iconst (v := 1) dL_law_972 (by decide) ?_
  refine z_iadd dL_law_973 ?_
  refine z_sld (k := i + 1) hX had dL_law_974 (nI_add i 1) (by omega) hL ?_
  refine z_aload_n dL_law_975 rfl ?_
  refine z_iload dL_law_976 rfl ?_
  refine z_iconst (v := 2) dL_law_978 (by decide) ?_
  refine z_iadd dL_law_979 ?_
  refine z_sld (k := i + 2) hX had dL_law_980 (nI_add i 2) (by omega) hL ?_
  refine z_aload_n dL_law_981 rfl ?_
  refine zx_catchL (rest := (mwn ca th w h S O ow oh).map (zc (fun j => 15 + j))) (zx_SW hE (zEok_il sa) (k_look _ (by rw [hl0]; exact hl9) D ca ad sa f g w h hR.1 u (xs (i + 1)) (xs (i + 2))) dL_law_982 (gd_S b_361 b_362 b_0 b_363) rfl qL_look.2 ⟨rfl, rfl⟩ (by rw [hRo]; decide) (lw_cs hRo (by omega)) rfl (Nat.le_of_ble_eq_true rfl)) (fun E h => h.elim) (fun rk awk hlen hk => ?_)
  obtain ⟨v, rfl⟩ : ∃ v, rk = some (.int v) := by
    rcases hk with ⟨h, -⟩ | ⟨E, -, h, -⟩ <;> exact ⟨_, h⟩
  have hlen : awk.length = 15 := hlen
  obtain ⟨N, hN⟩ : ∃ N, N = zup M 1 6 := ⟨_, rfl⟩
  rw [← hN]
  obtain ⟨hW2, hc1, hc2⟩ := zup_lw hW hN
  clear hN
  obtain ⟨hRo, hl0, hX, hE, hEnd⟩ := id hW2
  have hcs : zcells N ≤ 601024 ∧ zslots N ≤ 7293034 := by omega
  simp only [zpush, zv]
  refine z_istore dL_law_985 (by decide) rfl ?_
  try simp only [List.set_cons_succ, List.set_cons_zero]
  refine z_aload_n dL_law_987 rfl ?_
  refine z_aload_n dL_law_988 rfl ?_
  refine z_iload dL_law_989 rfl ?_
  refine z_iconst (v := 1) dL_law_991 (by decide) ?_
  refine z_iadd dL_law_992 ?_
  refine z_sld (k := i + 1) hX had dL_law_993 (nI_add i 1) (by omega) hL ?_
  refine z_aload_n dL_law_994 rfl ?_
  refine z_iload dL_law_995 rfl ?_
  refine z_iconst (v := 2) dL_law_997 (by decide) ?_
  refine z_iadd dL_law_998 ?_
  refine z_sld (k := i + 2) hX had dL_law_999 (nI_add i 2) (by omega) hL ?_
  refine z_suffix 15 hlen (z_V (C := RM) (b := 0) hE zEok_0 (m_look _ D ca (fun j => ad (15 + j)) th w h S O ow oh hR.1 (xs (i + 1)) (xs (i + 2))) dL_law_1000 (gd_V b_517 b_518 b_519 b_3 b_520) rfl qM_look ⟨rfl, rfl⟩ (by rw [hRo]; decide) (lw_cs hRo hcs) rfl (Nat.le_of_ble_eq_true rfl) rfl rfl) (fun rm awm hlen2 hm => ?_)
  obtain ⟨rb, hrm⟩ : ∃ rb, rm = some (.int rb) := by
    rcases hm with ⟨-, h, -⟩ | ⟨k, -, -, -, ⟨-, h⟩ | ⟨v, -, -, h⟩⟩ <;> exact ⟨_, h⟩
  obtain ⟨f2, g2, w2, h2, S2, O2, ow2, oh2, th2, u2, rfl, rfl, hR2, hv, hch⟩ := a_look hR hk hm
  obtain rfl : v = th2 := by
    injection hv with q
    injection q
  subst hrm
  clear hk hm hv
  simp only [zpush, zv]
  refine z_istore dL_law_1003 (by decide) rfl ?_
  try simp only [List.set_cons_succ, List.set_cons_zero]
  refine z_aload_n dL_law_1005 rfl ?_
  refine z_suffix 15 rfl (z_V (C := RM) (b := 0) hE zEok_0 (m_thrown _ D ca (fun j => ad (15 + j)) v w2 h2 S2 O2 ow2 oh2) dL_law_1006 (gd_V b_408 b_409 b_410 b_3 b_411) rfl qM_thrown ⟨rfl, rfl⟩ (by rw [hRo]; decide) (lw_cs hRo hcs) rfl (Nat.le_of_ble_eq_true rfl) rfl rfl) (fun r3 aw3 _ h3 => ?_)
  obtain ⟨rfl, rfl⟩ := h3
  simp only [zpush, zv]
  refine z_iload dL_law_1009 rfl ?_
  refine z_icmp_eq (tgt := 1016) dL_law_1011 (by decide) (fun _ => ?_) (fun q => absurd rfl q)
  refine z_iload dL_law_1016 rfl ?_
  refine z_if_ne (tgt := 1033) dL_law_1018 (by decide) (fun _ => ?_) (fun q0 => ?_)
  · skip
    refine z_goto (tgt := 1036) dL_law_1033 (by decide) ?_
    exact nx N f2 g2 w2 h2 u2 v S2 O2 ow2 oh2 _ _ _ hW2 (by omega) (by omega) hR2
  have hch := hch q0
  refine z_aload_n dL_law_1021 rfl ?_
  refine z_iconst (v := 0) dL_law_1022 (by decide) ?_
  refine z_laldN (t0 := 1) (k := 0) dL_law_1023 rfl rfl rfl (by decide) (by decide) ?_
  refine z_iload dL_law_1024 rfl ?_
  refine z_i2l dL_law_1026 ?_
  refine z_lcmp dL_law_1027 ?_
  refine z_if_eq (tgt := 1033) dL_law_1028 (by decide) (fun _ => ?_) (fun q => absurd ((lg_cmp_eq _ _).mpr (hch)) q)
  refine z_goto (tgt := 1036) dL_law_1033 (by decide) ?_
  exact nx N f2 g2 w2 h2 u2 v S2 O2 ow2 oh2 _ _ _ hW2 (by omega) (by omega) hR2
set_option maxRecDepth 100000 in
set_option maxHeartbeats 2000000 in
theorem lc_mix {M : zM} {l : Launch} {sa : Nat → Nat} {b L : Nat} {xs : Nat → Int32} {D : va_G} {ca : Nat → ClassId} {ad : Nat → Nat} {a : Cond} {i : Nat} {f g : Nat → Nat → Int32} {w h : Nat → Nat} {u : Nat → Int64} {th : Int32} {S O : Nat → Int32} {ow oh : Int32} {o5 o6 o7 : Option Value} (hl9 : l.stackTraces = false) (hW : zLw M l sa b L xs) (had : ad 1000 = b) (hL : L < 2 ^ 31) (hi : i + 6 ≤ L) (hR : Rel f w h S) (hc : zcells M + 3 ≤ 601024 ∧ zslots M + 18 ≤ 7293034) (nx : lwNx l sa b L xs D ca ad a i (zcells M) (zslots M)) : Zj M (gG D ca ad) cL_law 8 RL (a :: bw) ret (lwW ca f g w h u th S O ow oh) (lwL i o5 o6 o7) [] 494 := by
  obtain ⟨hRo, hl0, hX, hE, hEnd⟩ := id hW
  have hcs : zcells M ≤ 601024 ∧ zslots M ≤ 7293034 := by omega
  refine z_aload_n dL_law_494 rfl ?_
  refine z_aload_n dL_law_495 rfl ?_
  refine z_iload dL_law_496 rfl ?_
  refine z_iconst (v := 1) dL_law_498 (by decide) ?_
  refine z_iadd dL_law_499 ?_
  refine z_sld (k := i + 1) hX had dL_law_500 (nI_add i 1) (by omega) hL ?_
  rw [show lwW ca f g w h u th S O ow oh = twn ca f g w h ++ ([oc ca u] ++ (mwn ca th w h S O ow oh).map (zc (fun j => 15 + j))) from List.append_assoc _ _ _]
  refine z_prefix (z_V (C := RT) (b := 0) hE zEok_0 (c_mix _ D ca ad f g w h hR.1 (xs (i + 1))) dL_law_501 (gd_V b_48 b_49 b_50 b_1 b_51) rfl qT_mix ⟨rfl, rfl⟩ (by rw [hRo]; decide) (lw_cs hRo hcs) rfl (Nat.le_of_ble_eq_true rfl) rfl rfl) (fun rk awk hlen hk => ?_)
  obtain ⟨v, hrk⟩ : ∃ v, rk = some (.int v) := by
    rcases hk with ⟨-, h, -⟩ | ⟨k, -, -, -, h, -⟩ <;> exact ⟨_, h⟩
  subst hrk
  have hlen : (awk ++ [oc ca u]).length = 15 := by rw [List.length_append, hlen]; rfl
  simp only [zpush, zv]
  rw [← List.append_assoc]
  refine z_aload_n dL_law_504 rfl ?_
  refine z_aload_n dL_law_505 rfl ?_
  refine z_iload dL_law_506 rfl ?_
  refine z_iconst (v := 1) dL_law_508 (by decide) ?_
  refine z_iadd dL_law_509 ?_
  refine z_sld (k := i + 1) hX had dL_law_510 (nI_add i 1) (by omega) hL ?_
  refine z_suffix 15 hlen (z_V (C := RM) (b := 0) hE zEok_0 (m_mix _ D ca (fun j => ad (15 + j)) th w h S O ow oh hR.1 (xs (i + 1))) dL_law_511 (gd_V b_466 b_467 b_468 b_3 b_469) rfl qM_mix ⟨rfl, rfl⟩ (by rw [hRo]; decide) (lw_cs hRo hcs) rfl (Nat.le_of_ble_eq_true rfl) rfl rfl) (fun rm awm hlen2 hm => ?_)
  obtain ⟨x, f2, S2, hv, rfl, rfl, rfl, hR2⟩ := a_mix hR hk hm
  obtain rfl : v = x := by
    injection hv with q
    injection q
  clear hk hm hv
  simp only [zpush, zv]
  refine z_icmp_eq (tgt := 1036) dL_law_514 (by decide) (fun _ => ?_) (fun q => absurd rfl q)
  exact nx M f2 g w h u 0 S2 O ow oh _ _ _ hW (by omega) (by omega) hR2
theorem lw_m6 {L : Nat} (h : L ≤ 3072) : (nI L - 6 : Int32).toInt = (L : Int) - 6 := by
  have q := pk_sub_toInt (a := L) (b := 6) (by omega) (by omega)
  exact q
set_option maxRecDepth 100000 in
set_option maxHeartbeats 2000000 in
theorem lw_loop {l : Launch} {sa : Nat → Nat} {b L : Nat} {xs : Nat → Int32} {D : va_G} {ca : Nat → ClassId} {ad : Nat → Nat} {a : Cond} (hl9 : l.stackTraces = false) (had : ad 1000 = b) (hL : L ≤ 3072) : ∀ (n i : Nat) (M : zM) (f g : Nat → Nat → Int32) (w h : Nat → Nat) (u : Nat → Int64) (th : Int32) (S O : Nat → Int32) (ow oh : Int32) (o5 o6 o7 : Option Value), L ≤ i + 6 * n → i ≤ 3072 → zLw M l sa b L xs → zcells M ≤ 20 + i → zslots M ≤ 9400 + 3 * i → Rel f w h S → Zj M (gG D ca ad) cL_law 8 RL (a :: bw) ret (lwW ca f g w h u th S O ow oh) (lwL i o5 o6 o7) [] 23 := by
  have hL31 : L < 2 ^ 31 := by omega
  have e6 : (nI L - 6 : Int32).toInt = (L : Int) - 6 := lw_m6 hL
  intro n
  induction n with
  | zero =>
    intro i M f g w h u th S O ow oh o5 o6 o7 hn hi hW hC hS hR
    obtain ⟨hRo, hl0, hX, hE, hEnd⟩ := id hW
    refine z_iload dL_law_23 rfl ?_
    refine z_aload_n dL_law_25 rfl ?_
    refine z_slen hX had dL_law_26 rfl ?_
    refine z_bipush (v := 6) dL_law_27 (by decide) ?_
    refine z_isub dL_law_29 ?_
    refine z_icmp_gt (tgt := 1042) dL_law_30 (by decide) (fun _ => ?_) (fun q => ?_)
    · refine z_iconst (v := 1) dL_law_1042 (by decide) ?_
      exact z_law1 hEnd dL_law_1043 rfl (by omega)
    · exfalso
      apply q
      rw [Int32.lt_iff_toInt_lt, e6, nI_toInt (by omega)]
      omega
  | succ n ih =>
    intro i M f g w h u th S O ow oh o5 o6 o7 hn hi hW hC hS hR
    obtain ⟨hRo, hl0, hX, hE, hEnd⟩ := id hW
    refine z_iload dL_law_23 rfl ?_
    refine z_aload_n dL_law_25 rfl ?_
    refine z_slen hX had dL_law_26 rfl ?_
    refine z_bipush (v := 6) dL_law_27 (by decide) ?_
    refine z_isub dL_law_29 ?_
    refine z_icmp_gt (tgt := 1042) dL_law_30 (by decide) (fun _ => ?_) (fun q => ?_)
    · refine z_iconst (v := 1) dL_law_1042 (by decide) ?_
      exact z_law1 hEnd dL_law_1043 rfl (by omega)
    · have hi6 : i + 6 ≤ L := by
        rw [Int32.lt_iff_toInt_lt, e6, nI_toInt (by omega)] at q
        omega
      have hc : zcells M + 3 ≤ 601024 ∧ zslots M + 18 ≤ 7293034 := by omega
      have nx : lwNx l sa b L xs D ca ad a i (zcells M) (zslots M) := by
        intro N f g w h u th S O ow oh o5 o6 o7 hW hC2 hS2 hR
        refine z_iinc (v := nI (i + 6)) dL_law_1036 (by decide) rfl rfl (by rw [show Int32.ofInt 6 = nI 6 by decide]; exact nI_add i 6) ?_
        simp only [List.set_cons_succ, List.set_cons_zero]
        refine z_goto (tgt := 23) dL_law_1039 (by decide) ?_
        exact ih (i + 6) N f g w h u th S O ow oh o5 o6 o7 (by omega) (by omega) hW (by omega) (by omega) hR
      refine z_aload_n dL_law_33 rfl ?_
      refine z_iload dL_law_34 rfl ?_
      refine z_sld (k := i) hX had dL_law_36 rfl (by omega) hL31 ?_
      refine z_bipush (v := 15) dL_law_37 (by decide) ?_
      refine z_iand dL_law_39 ?_
      obtain ⟨c, hc16, ec⟩ := and15 (xs i)
      rw [ec]
      have hcc : c = 0 ∨ c = 1 ∨ c = 2 ∨ c = 3 ∨ c = 4 ∨ c = 5 ∨ c = 6 ∨ c = 7 ∨ c = 8 ∨ c = 9 ∨ c = 10 ∨ c = 11 ∨ c = 12 ∨ 12 < c := by omega
      rcases hcc with rfl | rfl | rfl | rfl | rfl | rfl | rfl | rfl | rfl | rfl | rfl | rfl | rfl | hbig
      · refine z_tableIn (off := 68) (tgt := 108) dL_law_40 (by decide) (by decide) (by decide) (by decide) ?_
        exact lc_size hl9 hW had hL31 hi6 hR hc nx
      · refine z_tableIn (off := 128) (tgt := 168) dL_law_40 (by decide) (by decide) (by decide) (by decide) ?_
        exact lc_put hl9 hW had hL31 hi6 hR hc nx
      · refine z_tableIn (off := 200) (tgt := 240) dL_law_40 (by decide) (by decide) (by decide) (by decide) ?_
        exact lc_row hl9 hW had hL31 hi6 hR hc nx
      · refine z_tableIn (off := 304) (tgt := 344) dL_law_40 (by decide) (by decide) (by decide) (by decide) ?_
        exact lc_grow hl9 hW had hL31 hi6 hR hc nx
      · refine z_tableIn (off := 379) (tgt := 419) dL_law_40 (by decide) (by decide) (by decide) (by decide) ?_
        exact lc_shrink hl9 hW had hL31 hi6 hR hc nx
      · refine z_tableIn (off := 454) (tgt := 494) dL_law_40 (by decide) (by decide) (by decide) (by decide) ?_
        exact lc_mix hl9 hW had hL31 hi6 hR hc nx
      · refine z_tableIn (off := 479) (tgt := 519) dL_law_40 (by decide) (by decide) (by decide) (by decide) ?_
        exact lc_copy hl9 hW had hL31 hi6 hR hc nx
      · refine z_tableIn (off := 527) (tgt := 567) dL_law_40 (by decide) (by decide) (by decide) (by decide) ?_
        exact lc_extend hl9 hW had hL31 hi6 hR hc nx
      · refine z_tableIn (off := 614) (tgt := 654) dL_law_40 (by decide) (by decide) (by decide) (by decide) ?_
        exact lc_cut hl9 hW had hL31 hi6 hR hc nx
      · refine z_tableIn (off := 701) (tgt := 741) dL_law_40 (by decide) (by decide) (by decide) (by decide) ?_
        exact lc_at hl9 hW had hL31 hi6 hR hc nx
      · refine z_tableIn (off := 781) (tgt := 821) dL_law_40 (by decide) (by decide) (by decide) (by decide) ?_
        exact lc_eight hl9 hW had hL31 hi6 hR hc nx
      · refine z_tableIn (off := 860) (tgt := 900) dL_law_40 (by decide) (by decide) (by decide) (by decide) ?_
        exact lc_apart hl9 hW had hL31 hi6 hR hc nx
      · refine z_tableIn (off := 928) (tgt := 968) dL_law_40 (by decide) (by decide) (by decide) (by decide) ?_
        exact lc_look hl9 hW had hL31 hi6 hR hc nx
      · refine z_tableOut (tgt := 1036) dL_law_40 (Or.inr (by rw [nI_toInt (by omega)]; omega)) (by decide) ?_
        exact nx M f g w h u th S O ow oh o5 o6 o7 hW (by omega) (by omega) hR
