/-! the law's own rules -/
def zScr (M : zM) (b L : Nat) (xs : Nat → Int32) : Prop := match M with
  | (_, _, _, _, s, _, _, _, _, _, _, A, _, _) => va_X b L xs s s.heap ∧ b < s.heap.size ∧ ¬ A b
def zEnd (M : zM) (b : Nat) : Prop := match M with
  | (_, _, _, R, s, _, args, below, _, _, Q, A, _, _) => R = room_1 ∧ args = #[Value.ref b] ∧ Q = lw_Z below #[Value.ref b] s ∧ A = fun q : Nat => s.heap.size ≤ q
def zLw (M : zM) (l : Launch) (sa : Nat → Nat) (b L : Nat) (xs : Nat → Int32) : Prop := zroom M = room_1 ∧ zl0 M = l ∧ zScr M b L xs ∧ zEn M (zEi sa) ∧ zEnd M b
theorem zScr.up {M : zM} {b L : Nat} {xs : Nat → Int32} {x y : Nat} (h : zScr M b L xs) : zScr (zup M x y) b L xs := by
  obtain ⟨p, l9, e, R, s, m, args, below, meth, c, Q, A, cells, slots⟩ := M
  unfold zup zScr
  unfold zScr at h
  exact h
theorem zEnd.up {M : zM} {b x y : Nat} (h : zEnd M b) : zEnd (zup M x y) b := by
  obtain ⟨p, l9, e, R, s, m, args, below, meth, c, Q, A, cells, slots⟩ := M
  unfold zup zEnd
  unfold zEnd at h
  exact h
theorem zLw.up {M : zM} {l : Launch} {sa : Nat → Nat} {b L : Nat} {xs : Nat → Int32} {x y : Nat} (h : zLw M l sa b L xs) : zLw (zup M x y) l sa b L xs := by
  unfold zLw at h ⊢
  obtain ⟨h1, h2, h3, h4, h5⟩ := h
  exact ⟨(zup_room M x y).trans h1, (zup_l0 M x y).trans h2, h3.up, zup_En h4, h5.up⟩
section ZLL
variable {M : zM} {D : va_G} {cl : List vw_C} {tys : List (ClassId × FieldType)} {ad : Nat → Nat} {cc : ByteArray} {nL : Nat} {own : String} {Ts : List Cond} {rt : Option FieldType} {aw awc pre rest : List va_E} {lv : List (Option Value)} {stk st : List Value} {pc mc ms : Nat} {post : Option Value → List va_E → Prop} {b L : Nat} {xs : Nat → Int32}
theorem z_sld {i : Int32} {k : Nat} (hX : zScr M b L xs) (had : ad 1000 = b) (hdg : decode cc pc = .ok (.iaload, 1)) (hi : i = nI k) (hk : k < L) (hL : L < 2 ^ 31) (kk : Zj M (D, cl, tys, ad) cc nL own Ts rt aw lv (.int (xs k) :: st) (pc + 1)) : Zj M (D, cl, tys, ad) cc nL own Ts rt aw lv (.int i :: .ref 1000 :: st) pc := by
  obtain ⟨p, l, e, R, s, m, args, below, meth, c, Q, A, cells, slots⟩ := M
  intro hF H locs ls hP hD hS hl
  obtain ⟨⟨hx, hb, hml, hown, hts⟩, hr, hlk, hK, hA⟩ := id hF
  obtain ⟨h1, h2, h3⟩ := hX
  subst hi
  have h9 := kk hF H locs ls hP hD hS hl
  simp only [List.map_cons, zv, had] at h9 ⊢
  refine va_sld hx hb h1 h2 h3 hS (vp_in_nI hk hL) hdg ?_
  rw [nI_clamp (by omega)]
  exact h9
theorem z_slen {v : Int32} (hX : zScr M b L xs) (had : ad 1000 = b) (hdg : decode cc pc = .ok (.arraylength, 1)) (hv : v = nI L) (kk : Zj M (D, cl, tys, ad) cc nL own Ts rt aw lv (.int v :: st) (pc + 1)) : Zj M (D, cl, tys, ad) cc nL own Ts rt aw lv (.ref 1000 :: st) pc := by
  obtain ⟨p, l, e, R, s, m, args, below, meth, c, Q, A, cells, slots⟩ := M
  intro hF H locs ls hP hD hS hl
  obtain ⟨⟨hx, hb, hml, hown, hts⟩, hr, hlk, hK, hA⟩ := id hF
  obtain ⟨h1, h2, h3⟩ := hX
  subst hv
  have h9 := kk hF H locs ls hP hD hS hl
  simp only [List.map_cons, zv, had] at h9 ⊢
  exact va_slen hx hb h1 h2 h3 hS hdg h9
/-- the law's end -/
theorem z_law1 (hE : zEnd M b) (hdg : decode code pc = .ok (.ireturn, 1)) (hrt : rt = ret) (hc : zcells M ≤ 601024 ∧ zslots M ≤ 7293034) : Zj M (D, cl, tys, ad) code nL own Ts rt aw lv [.int 1] pc := by
  obtain ⟨p, l, e, R, s, m, args, below, meth, c, Q, A, cells, slots⟩ := M
  intro hF H locs ls hP hD hS hl
  obtain ⟨⟨hx, hb, hml, hown, hts⟩, hr, hlk, hK, hA⟩ := id hF
  obtain ⟨rfl, rfl, rfl, rfl⟩ := hE
  subst hrt
  refine va_forget (fun q hq => hS.2.2 q hq) ?_
  refine W.widen hc.1 hc.2 ?_
  exact lw_ret hx hb hr hlk hdg
/-- the same world in another order -/
theorem z_view (ix : Nat → Nat) {aw' : List va_E} {lv' : List (Option Value)} {st' : List Value} (hin : zIn ix aw aw') (hlv : ∀ (i : Nat) (v : Value), lv'[i]? = some (some v) → lv[i]? = some (some (zv ix v))) (hst : st = st'.map (zv ix)) (kk : Zj M (D, cl, tys, fun j => ad (ix j)) cc nL own Ts rt aw' lv' st' pc) : Zj M (D, cl, tys, ad) cc nL own Ts rt aw lv st pc := by
  obtain ⟨p, l, e, R, s, m, args, below, meth, c, Q, A, cells, slots⟩ := M
  intro hF H locs ls hP hD hS hl
  have h9 := kk hF H locs ls (hin.P hP) (hin.D hD) hS ⟨hl.1, hl.2.1, fun i v hv => by rw [zv_comp]; exact hl.2.2 i _ (hlv i v hv)⟩
  rw [hst, List.map_map]
  have e9 : st'.map (zv ad ∘ zv ix) = st'.map (zv (fun j => ad (ix j))) := List.map_congr_left (fun v _ => (zv_comp ad ix v).symm)
  rw [e9]
  exact h9
/-- the callee has the first cells -/
theorem z_prefix (hc : Zc M (D, cl, tys, ad) cc nL own Ts (fun j => j) awc stk st pc post) (kk : ∀ (r : Option Value) (aw1 : List va_E), aw1.length = awc.length → post r aw1 → Zj M (D, cl, tys, ad) cc nL own Ts rt (aw1 ++ rest) lv (zpush (fun j => j) r st) (pc + 3)) : Zj M (D, cl, tys, ad) cc nL own Ts rt (awc ++ rest) lv stk pc := by
  refine z_call hc ⟨fun j e h => ?_, fun i j _ _ h => h⟩ (fun r aw1 awn hlen hbk hpo => ?_) (fun aw1 hlen => ⟨aw1 ++ rest, by simp [hlen], fun j e h => ?_, fun k hk => ?_⟩)
  · rw [zc_id, List.getElem?_append_left (List.getElem?_eq_some_iff.mp h).1]; exact h
  · have e9 : awn = aw1 ++ rest := by
      apply List.ext_getElem?
      intro k
      by_cases h : k < aw1.length
      · have := hbk.2.1 k _ (List.getElem?_eq_getElem h)
        rw [zc_id] at this
        rw [this, List.getElem?_append_left h, List.getElem?_eq_getElem h]
      · rw [hbk.2.2 k (fun j hj e => by have e2 : j = k := e; omega), List.getElem?_append_right (by omega), List.getElem?_append_right (by omega), hlen]
    rw [e9]
    exact kk r aw1 hlen hpo
  · rw [zc_id, List.getElem?_append_left (List.getElem?_eq_some_iff.mp h).1]; exact h
  · have : ¬ k < awc.length := fun h => hk k h rfl
    rw [List.getElem?_append_right (by omega), List.getElem?_append_right (by omega), hlen]
/-- the callee has the last cells -/
theorem z_suffix (p : Nat) (hp : pre.length = p) (hc : Zc M (D, cl, tys, ad) cc nL own Ts (fun j => p + j) awc stk st pc post) (kk : ∀ (r : Option Value) (aw1 : List va_E), aw1.length = awc.length → post r aw1 → Zj M (D, cl, tys, ad) cc nL own Ts rt (pre ++ aw1.map (zc (fun j => p + j))) lv (zpush (fun j => p + j) r st) (pc + 3)) : Zj M (D, cl, tys, ad) cc nL own Ts rt (pre ++ awc.map (zc (fun j => p + j))) lv stk pc := by
  have key : ∀ (aw1 : List va_E) (j : Nat) (e : va_E), aw1[j]? = some e → (pre ++ aw1.map (zc (fun j => p + j)))[p + j]? = some (zc (fun j => p + j) e) := fun aw1 j e h => by
    rw [List.getElem?_append_right (by omega), List.getElem?_map, show p + j - pre.length = j by omega, h]; rfl
  refine z_call hc ⟨fun j e h => key _ j e h, fun i j _ _ h => by have h : p + i = p + j := h; omega⟩ (fun r aw1 awn hlen hbk hpo => ?_) (fun aw1 hlen => ⟨pre ++ aw1.map (zc (fun j => p + j)), by simp [hlen], fun j e h => key _ j e h, fun k hk => ?_⟩)
  · have e9 : awn = pre ++ aw1.map (zc (fun j => p + j)) := by
      apply List.ext_getElem?
      intro k
      by_cases h : k < p
      · rw [hbk.2.2 k (fun j hj e => by have e2 : p + j = k := e; omega), List.getElem?_append_left (by omega), List.getElem?_append_left (by omega)]
      · by_cases h2 : k < p + aw1.length
        · have h5 : k - p < aw1.length := by omega
          have h3 : awn[p + (k - p)]? = some (zc (fun j => p + j) aw1[k - p]) := hbk.2.1 (k - p) _ (List.getElem?_eq_getElem h5)
          rw [show p + (k - p) = k by omega] at h3
          have h4 := key aw1 (k - p) _ (List.getElem?_eq_getElem (by omega : k - p < aw1.length))
          rw [show p + (k - p) = k by omega] at h4
          rw [h3, h4]
        · have h8 := hbk.1
          simp only [List.length_append, List.length_map] at h8
          rw [List.getElem?_eq_none (by omega), List.getElem?_eq_none (by simp; omega)]
    rw [e9]
    exact kk r aw1 hlen hpo
  · by_cases h : k < p
    · rw [List.getElem?_append_left (by omega), List.getElem?_append_left (by omega)]
    · have : ¬ k < p + awc.length := fun h2 => hk (k - p) (by omega) (by show p + (k - p) = k; omega)
      rw [List.getElem?_eq_none (by simp; omega), List.getElem?_eq_none (by simp; omega)]
end ZLL
section ZSW
variable {M : zM} {G : zG} {cc : ByteArray} {nL : Nat} {own : String} {Ts : List Cond} {awc : List va_E} {stk st : List Value} {pc mc ms : Nat} {post : Option Value → List va_E → Prop} {ix : Nat → Nat} {y : MethodName} {ws ws' : List Cond} {rm : Room} {bytes : ByteArray} {maxL index : Nat} {ret : Option FieldType} {hh : List (Nat × Nat × Nat × Nat)} {As : List Value} {E E' : (Nat → Prop) → State → Prop}
/-- invokestatic of a method that catches -/
theorem zx_SW (hE : zEn M E) (hEE : zEok E E') (hM : zHet (zl0 M) y ws rm mc ms E' (G.1, G.2.1, G.2.2.1, fun j => G.2.2.2 (ix j)) awc As post) (hdg : decode cc pc = .ok (.invokestatic index, 3)) (hG : GoodIn Ts (va_wsS own index y ws)) (hw : ws = Cond.codeWith y bytes maxL ret hh :: ws')
    (hd : y.cls ≠ "java/lang/invoke/MethodHandle" ∧ y.cls ≠ "java/lang/invoke/VarHandle" ∧ (parseMethodDescriptor y.desc).map (fun d => d.parameters.length) = some As.length) (hrm : rm.cells = mc ∧ rm.slots = ms) (hR : rm.frames + 1 ≤ (zroom M).frames ∧ 8 + (maxL + 11) + rm.locals ≤ (zroom M).locals) (hcs : zcells M + mc ≤ (zroom M).cells ∧ zslots M + ms ≤ (zroom M).slots)
    (hstk : stk = (As.map (zv ix)).reverse ++ st) (hst : (st.map fun v => v.category).sum ≤ 8) : Zcx M G cc nL own Ts ix awc stk st pc post (fun _ => False) mc ms := by
  obtain ⟨p, l, e, R, s, m, args, below, meth, c, Q, A, cells, slots⟩ := M
  obtain ⟨D, cl, tys, ad⟩ := G
  intro hfix hK H locs ls hls hP hD hS hfree
  subst hstk
  have h9 := vx_runSX (H := H) (locs := locs) (cells := cells) (slots := slots) (g := F0 m pc ls (((As.map (zv ix)).reverse ++ st).map (zv ad))) (rest := st.map (zv ad)) (p := p) (e := e) (below := below) (meth := meth) (As := As.map (zv (fun j => ad (ix j)))) hfix (hM H.size) (vx_cwSW As.length hfix.2.2.2.2 hG hw hrm.1 hrm.2 hd hR) ⟨z_blind hEE.2, fun U hU hW => ⟨rfl, by rw [hU], ⟨by rw [hU]; exact hP, va_K.moved hW.alike hK, hD⟩, hEE.1 A _ s U locs hE (by rw [hU]; exact hS) hfree hW⟩⟩ rfl (by simp) hls (by
    simp only [F0, List.map_append, List.map_reverse, List.map_map]
    congr 2
    apply List.map_congr_left
    intro v _
    exact (zv_comp ad ix v).symm) (by
    rw [zv_cats]
    show 2 * 0 + _ ≤ 8
    omega) hdg hcs
  intro T hT X
  rcases h9 T hT X with h | ⟨q, st₀, t, T', L, E9, ce, -, -, -, -, -, hf, -⟩
  · exact Or.inl h
  · exact hf.elim
end ZSW
