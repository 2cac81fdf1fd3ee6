/-! throws: the environment, 'throw new E("..")', calls of what may throw -/
/-- what a throw, or a call across a nest, needs beside its words: two statics of Throwable, the texts ss, nest links nn, declared constructors dd, casts cs -/
def zEv (ss : List (String × Nat × String × Nat)) (nn : List (String × Nat × MethodName × String)) (dd : List MethodName) (cs : List (String × String)) : (Nat → Prop) → State → Prop := fun A U => (vx_Zq Bundle.tN "UNASSIGNED_STACK" Bundle.steD A U U.heap ∧ vx_Zq Bundle.tN "SUPPRESSED_SENTINEL" Bundle.listD A U U.heap) ∧ (∀ q ∈ ss, vk_R q.1 q.2.1 q.2.2.1 q.2.2.2 U) ∧ (∀ q ∈ nn, va_Nw (.methodLinkNest q.1 q.2.1 q.2.2.1 q.2.2.2) U) ∧ (∀ x ∈ dd, va_Nw (.declares x) U) ∧ ∀ q ∈ cs, va_Nw (.castable q.1 q.2) U
theorem zEok_ev (ss : List (String × Nat × String × Nat)) (nn : List (String × Nat × MethodName × String)) (dd : List MethodName) (cs : List (String × String)) : zEok (zEv ss nn dd cs) (zEv ss nn dd cs) := by
  refine ⟨fun A A' s U locs h hS hA hW => ?_, fun A a U g mk h => ?_⟩
  · obtain ⟨⟨h1, h2⟩, h3, h4, h5, h6⟩ := h
    exact ⟨⟨((vx_Zq.moved hW.alike (h1.kept hS.2.1)).narrow hA), ((vx_Zq.moved hW.alike (h2.kept hS.2.1)).narrow hA)⟩, fun q hq => vk_R.warm hW (h3 q hq), fun q hq => va_Nw.warmM hW (h4 q hq), fun x hx => va_Nw.warmD hW (h5 x hx), fun q hq => va_Nw.warmC hW (h6 q hq)⟩
  · obtain ⟨⟨h1, h2⟩, h3, h4, h5, h6⟩ := h
    exact ⟨⟨vx_Zq.moved (Vm.Alike.refl U.vm) h1, vx_Zq.moved (Vm.Alike.refl U.vm) h2⟩, fun q hq => vk_R.same rfl (h3 q hq), fun q hq => va_Nw.same (u := U) rfl rfl (h4 q hq), fun x hx => va_Nw.same (u := U) rfl rfl (h5 x hx), fun q hq => va_Nw.same (u := U) rfl rfl (h6 q hq)⟩
def zNg (dd : List MethodName) (cs : List (String × String)) : List Cond := dd.map Cond.declares ++ cs.map (fun q => Cond.castable q.1 q.2)
theorem zNg_use {dd : List MethodName} {cs : List (String × String)} {U : State} {args : Array Value} (h5 : ∀ x ∈ dd, va_Nw (.declares x) U) (h6 : ∀ q ∈ cs, va_Nw (.castable q.1 q.2) U) : ∀ w ∈ zNg dd cs, w.before args U = true := by
  intro w hw
  rcases List.mem_append.mp hw with h | h
  · obtain ⟨x, hx, rfl⟩ := List.mem_map.mp h
    exact va_Nw.use rfl (h5 x hx)
  · obtain ⟨q, hq, rfl⟩ := List.mem_map.mp h
    exact va_Nw.use rfl (h6 q hq)
theorem zup_room (M : zM) (a b : Nat) : zroom (zup M a b) = zroom M := by obtain ⟨p, l, e, R, s, m, args, below, meth, c, Q, A, cells, slots⟩ := M; rfl
theorem zup_cells (M : zM) (a b : Nat) : zcells (zup M a b) = zcells M + a := by obtain ⟨p, l, e, R, s, m, args, below, meth, c, Q, A, cells, slots⟩ := M; rfl
theorem zup_slots (M : zM) (a b : Nat) : zslots (zup M a b) = zslots M + b := by obtain ⟨p, l, e, R, s, m, args, below, meth, c, Q, A, cells, slots⟩ := M; rfl
theorem zup_l0 (M : zM) (a b : Nat) : zl0 (zup M a b) = zl0 M := by obtain ⟨p, l, e, R, s, m, args, below, meth, c, Q, A, cells, slots⟩ := M; rfl
theorem zup_En {M : zM} {a b : Nat} {E : (Nat → Prop) → State → Prop} (h : zEn M E) : zEn (zup M a b) E := by obtain ⟨p, l, e, R, s, m, args, below, meth, c, Q, A, cells, slots⟩ := M; exact h
theorem zup_RetX {M : zM} {G : zG} {aw0 : List va_E} {post : Option Value → List va_E → Prop} {px : String → Prop} {mc ms a b : Nat} (h : zRetX M G aw0 post px mc ms) : zRetX (zup M a b) G aw0 post px mc ms := by obtain ⟨p, l, e, R, s, m, args, below, meth, c, Q, A, cells, slots⟩ := M; exact h
section ZT
variable {M : zM} {G : zG} {cc : ByteArray} {nL : Nat} {own : String} {Ts : List Cond} {rt : Option FieldType} {aw : List va_E} {lv : List (Option Value)} {st : List Value} {pc mc ms : Nat} {post : Option Value → List va_E → Prop} {px : String → Prop}
set_option maxHeartbeats 4000000 in
theorem z_throw {cls text : String} {names : List String} {ik is ic sa : Nat} {ss : List (String × Nat × String × Nat)} {nn : List (String × Nat × MethodName × String)} {dd : List MethodName} {cs : List (String × String)} (hl9 : (zl0 M).stackTraces = false) (hX : zRetX M G aw post px mc ms) (hE : zEn M (zEv ss nn dd cs)) (hpx : px cls)
    (d0 : decode cc pc = .ok (.new ik, 3)) (d3 : decode cc (pc + 3) = .ok (.dup, 1)) (d4 : decode cc (pc + 4) = .ok (.ldc is, 2)) (d6 : decode cc (pc + 6) = .ok (.invokespecial ic, 3)) (d9 : decode cc (pc + 9) = .ok (.athrow, 1))
    (hss : (own, is, text, sa) ∈ ss) (h1 : Bundle.fit cls = true) (h2 : ∀ n ∈ names, Bundle.fit n = true) (hk : Cond.classLink own ik cls ∈ Ts) (hini : Cond.initialized cls ∈ Ts)
    (hg : ∀ w ∈ (vx_atS own ic cls names).filter goodWord, w ∈ Ts) (hn : ∀ w ∈ (vx_atS own ic cls names).filter (fun w => !goodWord w), w ∈ zNg dd cs) (hgood : ∀ w ∈ Cond.classLink own ik cls :: Cond.initialized cls :: vx_atS own ic cls names, vx_ot w = true)
    (hR : names.length + 3 < (zroom M).frames ∧ (st.map fun v => v.category).sum + (13 * (names.length + 1) + 43) ≤ (zroom M).locals) (hcs : zcells M + 1 ≤ (zroom M).cells ∧ zslots M + 6 ≤ (zroom M).slots) (hc : zcells M + 1 ≤ mc ∧ zslots M + 6 ≤ ms) : Zj M G cc nL own Ts rt aw lv st pc := by
  obtain ⟨p, l, e, R, s, m, args, below, meth, c, Q, A, cells, slots⟩ := M
  obtain ⟨D, cl, tys, ad⟩ := G
  intro hF H locs ls hP hD hS hl
  obtain ⟨⟨hx, hb, hml, hown, hts⟩, hr, hlk, hK, hA⟩ := hF
  obtain ⟨htab, sz, rfl, rfl⟩ := hX
  have hat : ∀ w ∈ vx_atS own ic cls names, w.before args s = true := fun w hw => by
    by_cases hgw : goodWord w = true
    · exact hts w (hg w (List.mem_filter.mpr ⟨hw, hgw⟩))
    · exact zNg_use hE.2.2.2.1 hE.2.2.2.2 w (hn w (List.mem_filter.mpr ⟨hw, by simpa using hgw⟩))
  exact vx_throwS hx hb hl9 hown h1 h2 (hts _ hk) (hts _ hini) (hE.2.1 _ hss) hat hgood hE.1.1 hE.1.2 hS (hl.1.trans hml.symm) d0 d3 d4 d6 d9 (fun x hx => (htab x hx).elim) hR.1 (by rw [zv_cats]; exact hR.2) hcs.1 hcs.2 hlk
    (fun t ha hsz hk => ⟨hpx, ⟨hP.kept (fun k q hq => hk q.1 (hP k q hq).lt), va_K.moved ha hK, hD⟩, Nat.le_trans hS.1 hsz, fun q h1 h2 => (hk q (Nat.lt_of_lt_of_le h1 hS.1)).trans (hS.2.1 q h1 h2)⟩) hS.2.2 hc.1 hc.2
end ZT
/-- a call of what may throw -/
def Zcx (M : zM) (G : zG) (cc : ByteArray) (nL : Nat) (own : String) (Ts : List Cond) (ix : Nat → Nat) (awc : List va_E) (stk st : List Value) (pc : Nat) (post : Option Value → List va_E → Prop) (px : String → Prop) (mc ms : Nat) : Prop := match M, G with
  | (p, l, e, R, s, m, args, below, meth, c, _, A, cells, slots), (D, cl, tys, ad) => CallFix p m c cc nL s args Ts own → va_K D cl tys s → ∀ (H : Heap) (locs : List Loc) (ls : Array Slot), ls.size = nL → va_P D cl (zw (fun j => ad (ix j)) awc) H → va_D (fun _ => True) (zw (fun j => ad (ix j)) awc) → va_S A s.heap H locs → (∀ q, zA (D, cl, tys, fun j => ad (ix j)) awc H.size q → A q) → vx_Run p l e R s m args below meth c H locs cells slots mc ms (F0 m pc ls (stk.map (zv ad))) (st.map (zv ad)) (zQ (D, cl, tys, fun j => ad (ix j)) awc H.size post #[]) (zXC (D, cl, tys, fun j => ad (ix j)) awc H.size px) (zA (D, cl, tys, fun j => ad (ix j)) awc H.size)
section ZX
variable {M : zM} {G : zG} {cc : ByteArray} {nL : Nat} {own : String} {Ts : List Cond} {rt : Option FieldType} {aw awc : List va_E} {lv : List (Option Value)} {stk st : List Value} {pc mc ms mcM msM : Nat} {post postM : Option Value → List va_E → Prop} {px pxM : String → Prop} {ix : Nat → Nat}
/-- what is thrown goes on to the caller -/
theorem zx_call (hc : Zcx M G cc nL own Ts ix awc stk st pc post px mc ms) (hin : zIn ix aw awc) (hX : zRetX M G aw postM pxM mcM msM) (hpx : ∀ E, px E → pxM E) (hcs : zcells M + mc ≤ mcM ∧ zslots M + ms ≤ msM)
    (kk : ∀ (r : Option Value) (aw1 awn : List va_E), aw1.length = awc.length → zBk ix aw awc aw1 awn → post r aw1 → Zj (zup M mc ms) G cc nL own Ts rt awn lv (zpush ix r st) (pc + 3))
    (hex : ∀ aw1 : List va_E, aw1.length = awc.length → ∃ awn, zBk ix aw awc aw1 awn) : Zj M G cc nL own Ts rt aw lv stk pc := by
  obtain ⟨p, l, e, R, s, m, args, below, meth, c, Q, A, cells, slots⟩ := M
  obtain ⟨D, cl, tys, ad⟩ := G
  intro hF H locs ls hP hD hS hl
  obtain ⟨hfix, hr, hlk, hK, hA⟩ := id hF
  have hfree := hin.free (D := D) (cl := cl) (tys := tys) hD hS hA
  have hrun := hc hfix hK H locs ls hl.1 (hin.P hP) ((hin.D hD).weaken (fun _ _ _ _ => trivial)) hS hfree
  intro T hT X
  rcases hrun T hT X with ⟨v, st₀, t, T', L, h0, X', hL, e1, e2, ⟨⟨r, aw1, hv, hlen, hpo, hP1, hK1, hD1⟩, hz, hk⟩, stp⟩ | ⟨q, st₀, t, T', L, E, ce, h0, X', hL, e1, e2, ⟨hpE, ⟨hP1, hK1, hD1⟩, hz, hk⟩, hce, hcv, hcl, stp⟩
  · cases hv
    rw [h0] at hz hk
    obtain ⟨awn, hbk⟩ := hex aw1 hlen
    have hk' : ∀ q : Nat, q < H.size → ¬ zA (D, cl, tys, fun j => ad (ix j)) awc H.size q → T'.heap[q]? = H[q]? := fun q h1 h2 => by rw [e1]; exact hk q h1 h2
    have hP2 := zBk.P (tys := tys) hin hbk hlen hP hD (by rw [e1]; exact hP1 : va_P D cl (zw (fun j => ad (ix j)) aw1) T'.heap) hk'
    have hz' : H.size ≤ T'.heap.size := by rw [e1]; exact hz
    have hS' : va_S A s.heap T'.heap (locs ++ L) := ⟨Nat.le_trans hS.1 hz', fun q h1 h2 => by
        rw [hk' q (Nat.lt_of_lt_of_le h1 hS.1) (fun z => h2 (hfree q z))]; exact hS.2.1 q h1 h2, fun q hq => by
        rcases List.mem_append.mp hq with h | h
        · exact hS.2.2 q h
        · exact hfree _ (hL q h)⟩
    obtain ⟨t2, a1, b1⟩ := kk r aw1 awn hlen hbk hpo hF T'.heap (locs ++ L) ls hP2 (zD_len hD hbk.1) hS' hl T' rfl X'
    refine ⟨t2, stp t2 ?_, b1⟩
    rw [show (r.map (zv (fun j => ad (ix j)))).toList ++ st.map (zv ad) = (zpush ix r st).map (zv ad) from zpush_map ad ix r st]
    exact a1
  · rw [h0] at hz hk
    obtain ⟨htab, sz, rfl, rfl⟩ := hX
    have hk' : ∀ q : Nat, q < H.size → ¬ zA (D, cl, tys, fun j => ad (ix j)) awc H.size q → T'.heap[q]? = H[q]? := fun q h1 h2 => by rw [e1]; exact hk q h1 h2
    have hP2 := zBk.P (tys := tys) (aw1 := awc) (awn := aw) hin ⟨rfl, hin.1, fun _ _ => rfl⟩ rfl hP hD (by rw [e1]; exact hP1 : va_P D cl (zw (fun j => ad (ix j)) awc) T'.heap) hk'
    have hz' : H.size ≤ T'.heap.size := by rw [e1]; exact hz
    have hS' : va_S (zA (D, cl, tys, ad) aw sz) s.heap T'.heap (locs ++ L) := ⟨Nat.le_trans hS.1 hz', fun q h1 h2 => by
        rw [hk' q (Nat.lt_of_lt_of_le h1 hS.1) (fun z => h2 (hfree q z))]; exact hS.2.1 q h1 h2, fun q hq => by
        rcases List.mem_append.mp hq with h | h
        · exact hS.2.2 q h
        · exact hfree _ (hL q h)⟩
    obtain ⟨t2, a1, b1⟩ := vx_out (p := p) (l := l) (e := e) (R := R) (m := m) (args := args) (below := below) (pc := pc) (ls := ls) (rest := st.map (zv ad)) (Qc := zQ (D, cl, tys, ad) aw sz postM) (XC := zXC (D, cl, tys, ad) aw sz pxM) (free := zA (D, cl, tys, ad) aw sz) (E := E) (ce := ce) (q := q) (fun x hx => (htab x hx).elim) hlk (H := T'.heap) (by rw [e1]; exact hce) hcv hcl
      (fun t9 ht9 ha9 => ⟨hpx E hpE, ⟨by rw [ht9]; exact hP2, va_K.moved ha9 hK, hD⟩, hS'.F ht9⟩) hS'.2.2 hcs.1 hcs.2 T' rfl X'
    exact ⟨t2, stp.trans a1, b1⟩
theorem zx_same (hc : Zcx M G cc nL own Ts (fun j => j) aw stk st pc post px mc ms) (hX : zRetX M G aw postM pxM mcM msM) (hpx : ∀ E, px E → pxM E) (hcs : zcells M + mc ≤ mcM ∧ zslots M + ms ≤ msM) (kk : ∀ (r : Option Value) (aw1 : List va_E), aw1.length = aw.length → post r aw1 → Zj (zup M mc ms) G cc nL own Ts rt aw1 lv (zpush (fun j => j) r st) (pc + 3)) : Zj M G cc nL own Ts rt aw lv stk pc := by
  refine zx_call hc ⟨fun j e h => by rw [zc_id]; exact h, fun i j _ _ h => h⟩ hX hpx hcs (fun r aw1 awn hlen hbk hpo => ?_) (fun aw1 hlen => ⟨aw1, hlen, fun j e h => by rw [zc_id]; exact h, fun k hk => ?_⟩)
  · have e9 : awn = aw1 := by
      apply List.ext_getElem?
      intro k
      by_cases h : k < aw1.length
      · have := hbk.2.1 k _ (List.getElem?_eq_getElem h)
        rw [zc_id] at this
        rw [this, List.getElem?_eq_getElem h]
      · have h8 := hbk.1
        rw [List.getElem?_eq_none (by omega), List.getElem?_eq_none (by omega)]
    rw [e9]
    exact kk r aw1 hlen hpo
  · have : ¬ k < aw.length := fun h => hk k h rfl
    rw [List.getElem?_eq_none (by omega), List.getElem?_eq_none (by omega)]
end ZX
section ZXK
variable {M : zM} {G : zG} {cc : ByteArray} {nL : Nat} {own : String} {Ts : List Cond} {awc : List va_E} {stk st : List Value} {pc mc ms : Nat} {post : Option Value → List va_E → Prop} {px : String → Prop} {ix : Nat → Nat} {y : MethodName} {ws ws' : List Cond} {rm : Room} {bytes : ByteArray} {maxL index : Nat} {ret : Option FieldType} {C : String} {As : List Value} {b ci : Nat} {fs : List Value} {T : u_T} {N : Nat} {E E' : (Nat → Prop) → State → Prop}
theorem zx_V (hE : zEn M E) (hEE : zEok E E') (hM : zXet (zl0 M) y ws rm mc ms E' (G.1, G.2.1, G.2.2.1, fun j => G.2.2.2 (ix j)) awc (.ref b :: As) post px) (hdg : decode cc pc = .ok (.invokevirtual index, 3)) (hG : GoodIn Ts (wsV own index C y ws)) (hw : ws = Cond.code y bytes maxL ret :: ws')
    (hd : y.cls = C ∧ y.cls ≠ "java/lang/invoke/MethodHandle" ∧ y.cls ≠ "java/lang/invoke/VarHandle" ∧ (parseMethodDescriptor y.desc).map (fun d => d.parameters.length) = some As.length) (hrm : rm.cells = mc ∧ rm.slots = ms) (hR : rm.frames + 1 ≤ (zroom M).frames ∧ 8 + (maxL + 11) + rm.locals ≤ (zroom M).locals) (hcs : zcells M + mc ≤ (zroom M).cells ∧ zslots M + ms ≤ (zroom M).slots)
    (hstk : stk = ((.ref b :: As).map (zv ix)).reverse ++ st) (hst : (st.map fun v => v.category).sum ≤ 8) (hrecv : awc[b]? = some (.inr (ci, fs))) (hci : G.2.1[ci]? = some (C, T, N)) : Zcx M G cc nL own Ts ix awc stk st pc post px mc ms := by
  obtain ⟨p, l, e, R, s, m, args, below, meth, c, Q, A, cells, slots⟩ := M
  obtain ⟨D, cl, tys, ad⟩ := G
  intro hfix hK H locs ls hls hP hD hS hfree
  subst hstk
  refine vx_runV (b := ad (ix b)) (As := As.map (zv (fun j => ad (ix j)))) hfix (hM H.size) (cwV As.length hfix.2.2.2.2 hG hw hrm.1 hrm.2 hd hR) ⟨z_blind hEE.2, va_recv hK hP hci (zw_get hrecv), fun U hU hW => ⟨rfl, by rw [hU], ⟨by rw [hU]; exact hP, va_K.moved hW.alike hK, hD⟩, hEE.1 A _ s U locs hE (by rw [hU]; exact hS) hfree hW⟩⟩ rfl (by simp) hls ?_ ?_ hdg hcs
  · simp only [F0, List.map_append, List.map_reverse, List.map_map, List.map_cons, List.reverse_cons, List.append_assoc, List.cons_append, List.nil_append]
    congr 2
    · congr 1
      funext v
      exact (zv_comp ad ix v).symm
  · rw [zv_cats]
    show 2 * 0 + _ ≤ 8
    omega
end ZXK
