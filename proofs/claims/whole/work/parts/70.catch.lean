/-! methods with a table of their own: what is thrown in them is caught there -/
def zHet (l : Launch) (y : MethodName) (ws : List Cond) (rm : Room) (mc ms : Nat) (E : (Nat → Prop) → State → Prop) (G : zG) (aw : List va_E) (As : List Value) (post : Option Value → List va_E → Prop) : Prop := ∀ sz, vx_Met l y ws rm (zPc G aw As sz E) (zQ G aw sz post) (fun _ _ _ => False) mc ms (zA G aw sz)
def zTab (M : zM) (hh : List (Nat × Nat × Nat × Nat)) : Prop := M.2.2.2.2.2.2.2.2.2.1.exceptionTable.toList = tableOf hh
theorem zHet.of {l : Launch} {y : MethodName} {ws ws' : List Cond} {rm : Room} {mc ms : Nat} {E : (Nat → Prop) → State → Prop} {G : zG} {aw : List va_E} {As : List Value} {post : Option Value → List va_E → Prop} {cc : ByteArray} {maxL : Nat} {ret : Option FieldType} {hh : List (Nat × Nat × Nat × Nat)} {lv : List (Option Value)}
    (hy : plainName y.cls = true) (hw : ws = Cond.codeWith y cc maxL ret hh :: ws') (hlen : (lg_sl (As.map (zv G.2.2.2))).length ≤ maxL) (hlv : zargs As ++ List.replicate (maxL - (lg_sl (As.map (zv G.2.2.2))).length) none = lv)
    (body : ∀ M : zM, zl0 M = l → zroom M = rm → zcells M = 0 → zslots M = 0 → zEn M E → zTab M hh → zRet M G aw post mc ms → Zj M G cc maxL y.cls ws ret aw lv [] 0) : zHet l y ws rm mc ms E G aw As post := by
  intro sz
  refine vx_ofWH (cc := cc) (maxL := maxL) (ret := ret) (hh := hh) hy hw ?_
  intro p e s m args below meth c s₁ B hml hv
  obtain ⟨D, cl, tys, ad⟩ := G
  obtain ⟨rfl, hsz, ⟨hP, hK, hD0⟩, hE⟩ := hv
  subst hsz
  have htab := vx_table (x := y) B (atoms_spec (ws := ws) B.pre _ (by rw [hw]; exact List.mem_cons_self))
  rw [lg_entry_eq]
  exact body (p, l, e, (headSpec ws rm).room, s, m, _, below, meth, c, _, zA (D, cl, tys, ad) aw s.heap.size, 0, 0) rfl rfl rfl rfl hE htab ⟨s.heap.size, rfl, fun _ _ _ k => vx_ret k⟩
    ⟨⟨B.exec, B.bytes, hml, findClass_of_methodNamed B.named, atoms_spec (ws := ws) B.pre⟩, B.returns, B.notSynchronized, hK, fun q h => Or.inr h⟩ s.heap [] _ hP (hD0.self) va_S.rf (zh_entry hlv hlen)
theorem zup_Tab {M : zM} {a b : Nat} {hh : List (Nat × Nat × Nat × Nat)} (h : zTab M hh) : zTab (zup M a b) hh := by obtain ⟨p, l, e, R, s, m, args, below, meth, c, Q, A, cells, slots⟩ := M; exact h
theorem zup_Ret {M : zM} {G : zG} {aw0 : List va_E} {post : Option Value → List va_E → Prop} {mc ms a b : Nat} (h : zRet M G aw0 post mc ms) : zRet (zup M a b) G aw0 post mc ms := by obtain ⟨p, l, e, R, s, m, args, below, meth, c, Q, A, cells, slots⟩ := M; exact h
/-- the machine with something of class E thrown over it -/
def zH (M : zM) (G : zG) (cc : ByteArray) (nL : Nat) (own : String) (Ts : List Cond) (rt : Option FieldType) (aw : List va_E) (lv : List (Option Value)) (st : List Value) (pc : Nat) (E : String) : Prop := match M, G with
  | (p, l, e, R, s, m, args, below, meth, c, Q, A, cells, slots), (D, cl, tys, ad) => zFx (p, l, e, R, s, m, args, below, meth, c, Q, A, cells, slots) (D, cl, tys, ad) cc nL own Ts rt → ∀ (H : Heap) (locs : List Loc) (ls : Array Slot) (q : Addr) (ce : Cell), va_P D cl (zw ad aw) H → va_D A (zw ad aw) → va_S A s.heap H locs → zh ad ls nL lv → H[q]? = some ce → ce.vm = .none → s.vm.findClass E = some ce.cls → vx_W p l e R s m args below meth c H locs cells slots Q (F0 m pc ls (st.map (zv ad))) q
section ZHH
variable {M : zM} {G : zG} {cc : ByteArray} {nL : Nat} {own : String} {Ts : List Cond} {rt : Option FieldType} {aw awc aw0 : List va_E} {lv : List (Option Value)} {stk st : List Value} {pc mc ms : Nat} {post : Option Value → List va_E → Prop} {px : String → Prop} {ix : Nat → Nat}
theorem zx_catch (hc : Zcx M G cc nL own Ts ix awc stk st pc post px mc ms) (hin : zIn ix aw awc) (kx : ∀ E, px E → zH (zup M mc ms) G cc nL own Ts rt aw lv st pc E)
    (kk : ∀ (r : Option Value) (aw1 awn : List va_E), aw1.length = awc.length → zBk ix aw awc aw1 awn → post r aw1 → Zj (zup M mc ms) G cc nL own Ts rt awn lv (zpush ix r st) (pc + 3))
    (hex : ∀ aw1 : List va_E, aw1.length = awc.length → ∃ awn, zBk ix aw awc aw1 awn) : Zj M G cc nL own Ts rt aw lv stk pc := by
  obtain ⟨p, l, e, R, s, m, args, below, meth, c, Q, A, cells, slots⟩ := M
  obtain ⟨D, cl, tys, ad⟩ := G
  intro hF H locs ls hP hD hS hl
  obtain ⟨hfix, hr, hlk, hK, hA⟩ := id hF
  have hfree := hin.free (D := D) (cl := cl) (tys := tys) hD hS hA
  have hrun := hc hfix hK H locs ls hl.1 (hin.P hP) ((hin.D hD).weaken (fun _ _ _ _ => trivial)) hS hfree
  intro T hT X
  rcases hrun T hT X with ⟨v, st₀, t, T', L, h0, X', hL, e1, e2, ⟨⟨r, aw1, hv, hlen, hpo, hP1, hK1, hD1⟩, hz, hk⟩, stp⟩ | ⟨q, st₀, t, T', L, E, ce, h0, X', hL, e1, e2, ⟨hpE, ⟨hP1, hK1, hD1⟩, hz, hk⟩, hce, hcv, hcl, stp⟩
  · cases hv
    rw [h0] at hz hk
    obtain ⟨awn, hbk⟩ := hex aw1 hlen
    have hk' : ∀ q : Nat, q < H.size → ¬ zA (D, cl, tys, fun j => ad (ix j)) awc H.size q → T'.heap[q]? = H[q]? := fun q h1 h2 => by rw [e1]; exact hk q h1 h2
    have hP2 := zBk.P (tys := tys) hin hbk hlen hP hD (by rw [e1]; exact hP1 : va_P D cl (zw (fun j => ad (ix j)) aw1) T'.heap) hk'
    have hz' : H.size ≤ T'.heap.size := by rw [e1]; exact hz
    have hS' : va_S A s.heap T'.heap (locs ++ L) := ⟨Nat.le_trans hS.1 hz', fun q h1 h2 => by
        rw [hk' q (Nat.lt_of_lt_of_le h1 hS.1) (fun z => h2 (hfree q z))]; exact hS.2.1 q h1 h2, fun q hq => by
        rcases List.mem_append.mp hq with h | h
        · exact hS.2.2 q h
        · exact hfree _ (hL q h)⟩
    obtain ⟨t2, a1, b1⟩ := kk r aw1 awn hlen hbk hpo hF T'.heap (locs ++ L) ls hP2 (zD_len hD hbk.1) hS' hl T' rfl X'
    refine ⟨t2, stp t2 ?_, b1⟩
    rw [show (r.map (zv (fun j => ad (ix j)))).toList ++ st.map (zv ad) = (zpush ix r st).map (zv ad) from zpush_map ad ix r st]
    exact a1
  · rw [h0] at hz hk
    have hk' : ∀ q : Nat, q < H.size → ¬ zA (D, cl, tys, fun j => ad (ix j)) awc H.size q → T'.heap[q]? = H[q]? := fun q h1 h2 => by rw [e1]; exact hk q h1 h2
    have hP2 := zBk.P (tys := tys) (aw1 := awc) (awn := aw) hin ⟨rfl, hin.1, fun _ _ => rfl⟩ rfl hP hD (by rw [e1]; exact hP1 : va_P D cl (zw (fun j => ad (ix j)) awc) T'.heap) hk'
    have hz' : H.size ≤ T'.heap.size := by rw [e1]; exact hz
    have hS' : va_S A s.heap T'.heap (locs ++ L) := ⟨Nat.le_trans hS.1 hz', fun q h1 h2 => by
        rw [hk' q (Nat.lt_of_lt_of_le h1 hS.1) (fun z => h2 (hfree q z))]; exact hS.2.1 q h1 h2, fun q hq => by
        rcases List.mem_append.mp hq with h | h
        · exact hS.2.2 q h
        · exact hfree _ (hL q h)⟩
    obtain ⟨t2, a1, b1⟩ := kx E hpE hF T'.heap (locs ++ L) ls q ce hP2 hD hS' hl (by rw [e1]; exact hce) hcv hcl T' rfl X'
    exact ⟨t2, stp.trans a1, b1⟩
/-- a handler that answers a number: astore; iconst; ireturn -/
theorem zH_c {hh : List (Nat × Nat × Nat × Nat)} {pre suf : List ExceptionTableEntry} {x : ExceptionTableEntry} {E nm : String} {k : Nat} {n : Int} {v : Int32} (htab : zTab M hh) (hsplit : tableOf hh = pre ++ x :: suf) (hpass : ∀ z ∈ pre, covers z pc = false ∨ (z.catchType ≠ 0 ∧ ∃ nm : String, Cond.classLink own z.catchType nm ∈ Ts ∧ va_Nc E nm M.2.2.2.2.1)) (hx9 : covers x pc = true) (h0 : x.catchType ≠ 0) (hlink : Cond.classLink own x.catchType nm ∈ Ts) (hcast : va_Nw (.castable E nm) M.2.2.2.2.1)
    (hd1 : (decode cc x.handlerPc = .ok (.astore k, 2) ∧ decode cc (x.handlerPc + 2) = .ok (.iconst n, 1) ∧ decode cc (x.handlerPc + 2 + 1) = .ok (.ireturn, 1)) ∨ (∃ k9 : Fin 4, (k9 : Nat) = k ∧ decode cc x.handlerPc = .ok (.astore_n k9, 1) ∧ decode cc (x.handlerPc + 1) = .ok (.iconst n, 1) ∧ decode cc (x.handlerPc + 1 + 1) = .ok (.ireturn, 1))) (hk : k < nL) (hv : Int32.ofInt n = v) (hret : zRet M G aw0 post mc ms) (hcs : zcells M ≤ mc ∧ zslots M ≤ ms) (hlen : aw.length = aw0.length) (hp : post (some (.int v)) aw) : zH M G cc nL own Ts (some .int) aw lv st pc E := by
  obtain ⟨p, l, e, R, s, m, args, below, meth, c, Q, A, cells, slots⟩ := M
  obtain ⟨D, cl, tys, ad⟩ := G
  intro hF H locs ls q ce hP hD hS hl hcell hcv hcl
  obtain ⟨⟨hx, hb, hml, hown, hts⟩, hr, hlk, hK, hA⟩ := hF
  obtain ⟨sz, rfl, hQ⟩ := hret
  refine vx_catch hown pre x suf (htab.trans hsplit) (fun z hz => ?_) hx9 h0 (hts _ hlink) (va_Nw.use rfl hcast) hcell hcv hcl ?_
  · rcases hpass z hz with h | ⟨h1, nm9, h2, h3⟩
    · exact Or.inl h
    · exact Or.inr ⟨h1, nm9, hts _ h2, h3⟩
  rcases hd1 with ⟨d1, d2, d3⟩ | ⟨k9, ek, d1, d2, d3⟩
  · refine lv_astore hx hb d1 (zh_has hl) hk rfl (fun ls' hl' => ?_)
    refine lv_iconst hx hb d2 hv ?_
    refine W.widen hcs.1 hcs.2 (hQ _ _ _ ?_)
    exact W.iret hx hb hr (z_ret_aux (r := some (.int v)) (p := p) (l := l) (e := e) (R := R) (m := m) (below := below) (meth := meth) (c := c) hK hP hD hS hlen hp) hS.2.2 d3 hlk
  · refine lv_astore_n hx hb d1 ek (zh_has hl) hk rfl (fun ls' hl' => ?_)
    refine lv_iconst hx hb d2 hv ?_
    refine W.widen hcs.1 hcs.2 (hQ _ _ _ ?_)
    exact W.iret hx hb hr (z_ret_aux (r := some (.int v)) (p := p) (l := l) (e := e) (R := R) (m := m) (below := below) (meth := meth) (c := c) hK hP hD hS hlen hp) hS.2.2 d3 hlk
/-- the callee has the first cells of the world -/
theorem zx_catchL {rest : List va_E} (hc : Zcx M G cc nL own Ts (fun j => j) awc stk st pc post px mc ms) (kx : ∀ E, px E → zH (zup M mc ms) G cc nL own Ts rt (awc ++ rest) lv st pc E)
    (kk : ∀ (r : Option Value) (aw1 : List va_E), aw1.length = awc.length → post r aw1 → Zj (zup M mc ms) G cc nL own Ts rt (aw1 ++ rest) lv (zpush (fun j => j) r st) (pc + 3)) : Zj M G cc nL own Ts rt (awc ++ rest) lv stk pc := by
  refine zx_catch hc ⟨fun j e h => ?_, fun i j _ _ h => h⟩ kx (fun r aw1 awn hlen hbk hpo => ?_) (fun aw1 hlen => ⟨aw1 ++ rest, by simp [hlen], fun j e h => ?_, fun k hk => ?_⟩)
  · rw [zc_id, List.getElem?_append_left (List.getElem?_eq_some_iff.mp h).1]; exact h
  · have e9 : awn = aw1 ++ rest := by
      apply List.ext_getElem?
      intro k
      by_cases h : k < aw1.length
      · have := hbk.2.1 k _ (List.getElem?_eq_getElem h)
        rw [zc_id] at this
        rw [this, List.getElem?_append_left h, List.getElem?_eq_getElem h]
      · rw [hbk.2.2 k (fun j hj e => by have e2 : j = k := e; omega), List.getElem?_append_right (by omega), List.getElem?_append_right (by omega), hlen]
    rw [e9]
    exact kk r aw1 hlen hpo
  · rw [zc_id, List.getElem?_append_left (List.getElem?_eq_some_iff.mp h).1]; exact h
  · have : ¬ k < awc.length := fun h => hk k h rfl
    rw [List.getElem?_append_right (by omega), List.getElem?_append_right (by omega), hlen]
end ZHH
def zEl (sa : Nat → Nat) : (Nat → Prop) → State → Prop := fun A U => zEx sa A U ∧ va_Nc IAE IOB U
theorem zEok_lx (sa : Nat → Nat) : zEok (zEl sa) (zEx sa) := ⟨fun A A' s U locs h hS hA hW => (zEok_ev _ _ _ _).1 A A' s U locs h.1 hS hA hW, fun A a U g mk h => (zEok_ev _ _ _ _).2 A a U g mk h⟩
theorem zEok_ll (sa : Nat → Nat) : zEok (zEl sa) (zEl sa) := ⟨fun A A' s U locs h hS hA hW => ⟨(zEok_ev _ _ _ _).1 A A' s U locs h.1 hS hA hW, va_Nc.moved hW.alike h.2⟩, fun A a U g mk h => ⟨(zEok_ev _ _ _ _).2 A a U g mk h.1, va_Nc.moved (Vm.Alike.refl U.vm) h.2⟩⟩
