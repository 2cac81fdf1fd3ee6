/-! contracts over data, their beginnings, ends and calls -/
def zargs : List Value → List (Option Value)
  | [] => []
  | .long x :: vs => some (.long x) :: none :: zargs vs
  | .double x :: vs => some (.double x) :: none :: zargs vs
  | v :: vs => some v :: zargs vs
theorem zargs_one {v : Value} {vs : List Value} (h : v.category = 1) : zargs (v :: vs) = some v :: zargs vs := by
  cases v <;> first | rfl | cases h
theorem zargs_two {v : Value} {vs : List Value} (h : v.category = 2) : zargs (v :: vs) = some v :: none :: zargs vs := by
  cases v <;> first | rfl | cases h
theorem zargs_mem (ad : Nat → Nat) : ∀ (As : List Value) (k i : Nat) (v : Value), (zargs As)[i]? = some (some v) → (k + i, zv ad v) ∈ lv_args k (As.map (zv ad)) := by
  intro As
  induction As with
  | nil => intro k i v h; simp [zargs] at h
  | cons a t ih =>
    intro k i v h
    rcases lv_cat a with hc | hc
    · rw [zargs_one hc] at h
      simp only [List.map_cons, lv_args, zv_cat, hc]
      cases i with
      | zero => cases h; exact List.mem_cons_self
      | succ i =>
        have := ih (k + 1) i v h
        rw [show k + (i + 1) = k + 1 + i by omega]
        exact List.mem_cons_of_mem _ this
    · rw [zargs_two hc] at h
      simp only [List.map_cons, lv_args, zv_cat, hc]
      match i, h with
      | 0, h => cases h; exact List.mem_cons_self
      | 1, h => cases h
      | i + 2, h =>
        have := ih (k + 2) i v h
        rw [show k + (i + 2) = k + 2 + i by omega]
        exact List.mem_cons_of_mem _ this
theorem zh_entry {ad : Nat → Nat} {As : List Value} {n : Nat} {lv : List (Option Value)} (hlv : zargs As ++ List.replicate (n - (lg_sl (As.map (zv ad))).length) none = lv) (h : (lg_sl (As.map (zv ad))).length ≤ n) : zh ad ((lg_sl (As.map (zv ad)) ++ List.replicate (n - (lg_sl (As.map (zv ad))).length) Slot.unset).toArray) n lv := by
  obtain ⟨h1, h2, h3⟩ := lv_entry (As.map (zv ad)) h
  refine ⟨h1, h2, fun i v hv => ?_⟩
  rw [← hlv, List.getElem?_append] at hv
  split at hv
  · have := h3 _ (zargs_mem ad As 0 i v hv)
    rwa [Nat.zero_add] at this
  · rw [List.getElem?_replicate] at hv
    split at hv <;> cases hv
def zB (G : zG) (A : Nat → Prop) (aw : List va_E) (t : State) : Prop := va_P G.1 G.2.1 (zw G.2.2.2 aw) t.heap ∧ va_K G.1 G.2.1 G.2.2.1 t ∧ va_D A (zw G.2.2.2 aw)
def zA (G : zG) (aw : List va_E) (sz : Nat) : Nat → Prop := va_A (zw G.2.2.2 aw) sz
def zPc (G : zG) (aw : List va_E) (As : List Value) (sz : Nat) (E : (Nat → Prop) → State → Prop) : Array Value → State → Prop := fun v U => v = (As.map (zv G.2.2.2)).toArray ∧ U.heap.size = sz ∧ zB G (fun _ => True) aw U ∧ E (zA G aw sz) U
def zQ (G : zG) (aw0 : List va_E) (sz : Nat) (post : Option Value → List va_E → Prop) : Array Value → State → Outcome → State → Prop := fun _ st oc t => (∃ (r : Option Value) (aw : List va_E), oc = .returned (r.map (zv G.2.2.2)) ∧ aw.length = aw0.length ∧ post r aw ∧ zB G (zA G aw0 sz) aw t) ∧ va_F (zA G aw0 sz) st t
def zXC (G : zG) (aw0 : List va_E) (sz : Nat) (px : String → Prop) : String → State → State → Prop := fun E st t => px E ∧ zB G (zA G aw0 sz) aw0 t ∧ va_F (zA G aw0 sz) st t
def zE0 : (Nat → Prop) → State → Prop := fun _ _ => True
/-- the method y, over the world aw, with the arguments As, returns and leaves 'post' -/
def zMet (l : Launch) (y : MethodName) (ws : List Cond) (rm : Room) (E : (Nat → Prop) → State → Prop) (G : zG) (aw : List va_E) (As : List Value) (post : Option Value → List va_E → Prop) : Prop := ∀ sz, Met l y ws rm (zPc G aw As sz E) (zQ G aw sz post) 0 0 (zA G aw sz)
/-- an environment that a callee finds, where the caller has one -/
def zEok (E E' : (Nat → Prop) → State → Prop) : Prop := (∀ (A A' : Nat → Prop) (s U : State) (locs : List Loc), E A s → va_S A s.heap U.heap locs → (∀ q, A' q → A q) → s.WarmedH U.vm → E' A' U) ∧ ∀ (A : Nat → Prop) (a : Array Value) (U : State) (g : JFrame) (mk : MethodId), E' A U → E' A (U.calling g mk a)
theorem zEok_0 {E : (Nat → Prop) → State → Prop} : zEok E zE0 := ⟨fun _ _ _ _ _ _ _ _ _ => trivial, fun _ _ _ _ _ _ => trivial⟩
/-- .. or throws something of px, the world unchanged -/
def zXet (l : Launch) (y : MethodName) (ws : List Cond) (rm : Room) (mc ms : Nat) (E : (Nat → Prop) → State → Prop) (G : zG) (aw : List va_E) (As : List Value) (post : Option Value → List va_E → Prop) (px : String → Prop) : Prop := ∀ sz, vx_Met l y ws rm (zPc G aw As sz E) (zQ G aw sz post) (zXC G aw sz px) mc ms (zA G aw sz)
/-- at the method's end: what it owes -/
def zRet (M : zM) (G : zG) (aw0 : List va_E) (post : Option Value → List va_E → Prop) (mc ms : Nat) : Prop := match M with
  | (p, l, e, R, s, m, args, below, meth, c, Q, A, _, _) => ∃ sz, A = zA G aw0 sz ∧ ∀ (H : Heap) (locs : List Loc) (g : JFrame), W p l e R s m args below meth c H locs mc ms (MQ below (zQ G aw0 sz post) args s mc ms (zA G aw0 sz)) g → W p l e R s m args below meth c H locs mc ms Q g
def zRetX (M : zM) (G : zG) (aw0 : List va_E) (post : Option Value → List va_E → Prop) (px : String → Prop) (mc ms : Nat) : Prop := match M with
  | (_, _, _, _, s, _, args, below, _, c, Q, A, _, _) => (∀ x ∈ c.exceptionTable.toList, False) ∧ ∃ sz, A = zA G aw0 sz ∧ Q = vx_MQ below (zQ G aw0 sz post) (zXC G aw0 sz px) args s mc ms (zA G aw0 sz)
theorem zRetX.ret {M : zM} {G : zG} {aw0 : List va_E} {post : Option Value → List va_E → Prop} {px : String → Prop} {mc ms : Nat} (h : zRetX M G aw0 post px mc ms) : zRet M G aw0 post mc ms := by
  obtain ⟨p, l, e, R, s, m, args, below, meth, c, Q, A, cells, slots⟩ := M
  obtain ⟨-, sz, h1, h2⟩ := h
  exact ⟨sz, h1, fun H locs g k => by rw [h2]; exact vx_ret k⟩
abbrev zcells (M : zM) : Nat := M.2.2.2.2.2.2.2.2.2.2.2.2.1
abbrev zslots (M : zM) : Nat := M.2.2.2.2.2.2.2.2.2.2.2.2.2
abbrev zroom (M : zM) : Room := M.2.2.2.1
abbrev zl0 (M : zM) : Launch := M.2.1
/-- the environment of throws, at the machine's start -/
def zEn (M : zM) (E : (Nat → Prop) → State → Prop) : Prop := E M.2.2.2.2.2.2.2.2.2.2.2.1 M.2.2.2.2.1
/-- a method's contract out of its walk -/
theorem zMet.of {l : Launch} {y : MethodName} {ws ws' : List Cond} {rm : Room} {E : (Nat → Prop) → State → Prop} {G : zG} {aw : List va_E} {As : List Value} {post : Option Value → List va_E → Prop} {cc : ByteArray} {maxL : Nat} {ret : Option FieldType} {lv : List (Option Value)}
    (hy : plainName y.cls = true) (hw : ws = Cond.code y cc maxL ret :: ws') (hlen : (lg_sl (As.map (zv G.2.2.2))).length ≤ maxL) (hlv : zargs As ++ List.replicate (maxL - (lg_sl (As.map (zv G.2.2.2))).length) none = lv)
    (body : ∀ M : zM, zl0 M = l → zroom M = rm → zcells M = 0 → zslots M = 0 → zEn M E → zRet M G aw post 0 0 → Zj M G cc maxL y.cls ws ret aw lv [] 0) : zMet l y ws rm E G aw As post := by
  intro sz
  refine Met.ofW (cc := cc) (maxL := maxL) (ret := ret) hy hw ?_
  intro p e s m args below meth c s₁ B hml hv
  obtain ⟨D, cl, tys, ad⟩ := G
  obtain ⟨rfl, hsz, ⟨hP, hK, hD0⟩, hE⟩ := hv
  subst hsz
  rw [lg_entry_eq]
  exact body (p, l, e, (headSpec ws rm).room, s, m, _, below, meth, c, _, zA (D, cl, tys, ad) aw s.heap.size, 0, 0) rfl rfl rfl rfl hE ⟨s.heap.size, rfl, fun _ _ _ k => k⟩
    ⟨⟨B.exec, B.bytes, hml, findClass_of_methodNamed B.named, atoms_spec (ws := ws) B.pre⟩, B.returns, B.notSynchronized, hK, fun q h => Or.inr h⟩ s.heap [] _ hP (hD0.self) va_S.rf (zh_entry hlv hlen)
theorem zXet.of {l : Launch} {y : MethodName} {ws ws' : List Cond} {rm : Room} {mc ms : Nat} {E : (Nat → Prop) → State → Prop} {G : zG} {aw : List va_E} {As : List Value} {post : Option Value → List va_E → Prop} {px : String → Prop} {cc : ByteArray} {maxL : Nat} {ret : Option FieldType} {lv : List (Option Value)}
    (hy : plainName y.cls = true) (hw : ws = Cond.code y cc maxL ret :: ws') (hlen : (lg_sl (As.map (zv G.2.2.2))).length ≤ maxL) (hlv : zargs As ++ List.replicate (maxL - (lg_sl (As.map (zv G.2.2.2))).length) none = lv)
    (body : ∀ M : zM, zl0 M = l → zroom M = rm → zcells M = 0 → zslots M = 0 → zEn M E → zRetX M G aw post px mc ms → Zj M G cc maxL y.cls ws ret aw lv [] 0) : zXet l y ws rm mc ms E G aw As post px := by
  intro sz
  refine vx_ofW (cc := cc) (maxL := maxL) (ret := ret) hy hw ?_
  intro p e s m args below meth c s₁ B hml htab hv
  obtain ⟨D, cl, tys, ad⟩ := G
  obtain ⟨rfl, hsz, ⟨hP, hK, hD0⟩, hE⟩ := hv
  subst hsz
  rw [lg_entry_eq]
  exact body (p, l, e, (headSpec ws rm).room, s, m, _, below, meth, c, _, zA (D, cl, tys, ad) aw s.heap.size, 0, 0) rfl rfl rfl rfl hE ⟨htab, s.heap.size, rfl, rfl⟩
    ⟨⟨B.exec, B.bytes, hml, findClass_of_methodNamed B.named, atoms_spec (ws := ws) B.pre⟩, B.returns, B.notSynchronized, hK, fun q h => Or.inr h⟩ s.heap [] _ hP (hD0.self) va_S.rf (zh_entry hlv hlen)
section ZE
variable {M : zM} {G : zG} {cc : ByteArray} {nL : Nat} {own : String} {Ts : List Cond} {rt : Option FieldType} {aw aw0 : List va_E} {lv : List (Option Value)} {st : List Value} {pc mc ms : Nat} {post : Option Value → List va_E → Prop} {px : String → Prop}
theorem z_ret_aux {p : Program} {l : Launch} {e : Env} {R : Room} {s : State} {m : MethodId} {args : Array Value} {below : List Frame} {meth : Method} {c : Code} {D : va_G} {cl : List vw_C} {tys : List (ClassId × FieldType)} {ad : Nat → Nat} {sz : Nat} {H : Heap} {locs : List Loc} {r : Option Value} (hK : va_K D cl tys s) (hP : va_P D cl (zw ad aw) H) (hD : va_D (zA (D, cl, tys, ad) aw0 sz) (zw ad aw)) (hS : va_S (zA (D, cl, tys, ad) aw0 sz) s.heap H locs) (hlen : aw.length = aw0.length) (hp : post r aw) :
    ∀ t : State, t.heap = H → s.WarmedH t.vm → zQ (D, cl, tys, ad) aw0 sz post args s (.returned (r.map (zv ad))) t :=
  fun t ht hW => ⟨⟨r, aw, rfl, hlen, hp, by rw [ht]; exact hP, va_K.moved hW.alike hK, hD⟩, hS.F ht⟩
theorem z_ireturn {x : Int32} {ty : FieldType} (hdg : decode cc pc = .ok (.ireturn, 1)) (hn : narrow ty (.int x) = .int x) (hret : zRet M G aw0 post mc ms) (hc : zcells M ≤ mc ∧ zslots M ≤ ms) (hlen : aw.length = aw0.length) (hp : post (some (.int x)) aw) : Zj M G cc nL own Ts (some ty) aw lv [.int x] pc := by
  obtain ⟨p, l, e, R, s, m, args, below, meth, c, Q, A, cells, slots⟩ := M
  obtain ⟨D, cl, tys, ad⟩ := G
  intro hF H locs ls hP hD hS hl
  obtain ⟨⟨hx, hb, hml, hown, hts⟩, hr, hlk, hK, hA⟩ := hF
  obtain ⟨sz, rfl, hQ⟩ := hret
  refine W.widen hc.1 hc.2 (hQ _ _ _ ?_)
  exact W.zret hx hb hr hn (z_ret_aux (r := some (.int x)) (p := p) (l := l) (e := e) (R := R) (m := m) (below := below) (meth := meth) (c := c) hK hP hD hS hlen hp) hS.2.2 hdg hlk
theorem z_lreturn {x : Int64} (hdg : decode cc pc = .ok (.lreturn, 1)) (hret : zRet M G aw0 post mc ms) (hc : zcells M ≤ mc ∧ zslots M ≤ ms) (hlen : aw.length = aw0.length) (hp : post (some (.long x)) aw) : Zj M G cc nL own Ts (some .long) aw lv [.long x] pc := by
  obtain ⟨p, l, e, R, s, m, args, below, meth, c, Q, A, cells, slots⟩ := M
  obtain ⟨D, cl, tys, ad⟩ := G
  intro hF H locs ls hP hD hS hl
  obtain ⟨⟨hx, hb, hml, hown, hts⟩, hr, hlk, hK, hA⟩ := hF
  obtain ⟨sz, rfl, hQ⟩ := hret
  refine W.widen hc.1 hc.2 (hQ _ _ _ ?_)
  exact W.lret hx hb hr (z_ret_aux (r := some (.long x)) (p := p) (l := l) (e := e) (R := R) (m := m) (below := below) (meth := meth) (c := c) hK hP hD hS hlen hp) hS.2.2 hdg hlk
theorem z_areturn {i : Nat} {C : String} (hdg : decode cc pc = .ok (.areturn, 1)) (hret : zRet M G aw0 post mc ms) (hc : zcells M ≤ mc ∧ zslots M ≤ ms) (hlen : aw.length = aw0.length) (hp : post (some (.ref i)) aw) : Zj M G cc nL own Ts (some (.object C)) aw lv [.ref i] pc := by
  obtain ⟨p, l, e, R, s, m, args, below, meth, c, Q, A, cells, slots⟩ := M
  obtain ⟨D, cl, tys, ad⟩ := G
  intro hF H locs ls hP hD hS hl
  obtain ⟨⟨hx, hb, hml, hown, hts⟩, hr, hlk, hK, hA⟩ := hF
  obtain ⟨sz, rfl, hQ⟩ := hret
  refine W.widen hc.1 hc.2 (hQ _ _ _ ?_)
  exact W.aret hx hb hr (Or.inl ⟨_, rfl⟩) (Or.inr ⟨_, rfl⟩) (z_ret_aux (r := some (.ref i)) (p := p) (l := l) (e := e) (R := R) (m := m) (below := below) (meth := meth) (c := c) hK hP hD hS hlen hp) hS.2.2 hdg hlk
theorem z_return (hdg : decode cc pc = .ok (.return_, 1)) (hret : zRet M G aw0 post mc ms) (hc : zcells M ≤ mc ∧ zslots M ≤ ms) (hlen : aw.length = aw0.length) (hp : post none aw) : Zj M G cc nL own Ts none aw lv [] pc := by
  obtain ⟨p, l, e, R, s, m, args, below, meth, c, Q, A, cells, slots⟩ := M
  obtain ⟨D, cl, tys, ad⟩ := G
  intro hF H locs ls hP hD hS hl
  obtain ⟨⟨hx, hb, hml, hown, hts⟩, hr, hlk, hK, hA⟩ := hF
  obtain ⟨sz, rfl, hQ⟩ := hret
  refine W.widen hc.1 hc.2 (hQ _ _ _ ?_)
  exact W.vret hx hb hr (z_ret_aux (r := none) (p := p) (l := l) (e := e) (R := R) (m := m) (below := below) (meth := meth) (c := c) hK hP hD hS hlen hp) hS.2.2 hdg hlk
end ZE
/-! parts of a world -/
theorem zv_comp (ad ix : Nat → Nat) (v : Value) : zv (fun j => ad (ix j)) v = zv ad (zv ix v) := by cases v <;> rfl
theorem zc_comp (ad ix : Nat → Nat) (e : va_E) : zc (fun j => ad (ix j)) e = zc ad (zc ix e) := by
  rcases e with ⟨cA, n, f⟩ | ⟨ci, fs⟩
  · rcases f with f | f | f | f | f
    · rfl
    · rfl
    · rfl
    · rfl
    · simp only [zc, Option.map_map]; rfl
  · simp only [zc, List.map_map]
    congr 2
    apply List.map_congr_left
    intro v _
    exact zv_comp ad ix v
theorem zv_id (v : Value) : zv (fun j => j) v = v := by cases v <;> rfl
theorem zc_id (e : va_E) : zc (fun j => j) e = e := by
  rcases e with ⟨cA, n, f⟩ | ⟨ci, fs⟩
  · rcases f with f | f | f | f | f <;> simp [zc]
  · simp only [zc]
    congr 2
    exact (List.map_congr_left (fun v _ => zv_id v)).trans (List.map_id' fs)
theorem zD_len {A : Nat → Prop} {ad : Nat → Nat} {aw aw2 : List va_E} (hD : va_D A (zw ad aw)) (h : aw2.length = aw.length) : va_D A (zw ad aw2) := by
  have key : ∀ (i : Nat) (q : Nat × va_E), (zw ad aw2)[i]? = some q → ∃ q', (zw ad aw)[i]? = some q' ∧ q'.1 = q.1 := by
    intro i q hq
    rw [zw_at] at hq
    obtain ⟨e, he, rfl⟩ := Option.map_eq_some_iff.mp hq
    have hl : i < aw.length := by rw [← h]; exact (List.getElem?_eq_some_iff.mp he).1
    exact ⟨_, zw_get (List.getElem?_eq_getElem hl), rfl⟩
  refine ⟨fun i j x y hx hy hxy => ?_, fun k q hk => ?_⟩
  · obtain ⟨x', h1, h2⟩ := key i x hx
    obtain ⟨y', h3, h4⟩ := key j y hy
    exact hD.1 i j x' y' h1 h3 (by rw [h2, h4]; exact hxy)
  · obtain ⟨q', h1, h2⟩ := key k q hk
    rw [← h2]; exact hD.2 k q' h1
/-- the callee's world awc lies in the caller's, at the places ix; awn is the caller's with what came back -/
def zIn (ix : Nat → Nat) (aw awc : List va_E) : Prop := (∀ (j : Nat) (e : va_E), awc[j]? = some e → aw[ix j]? = some (zc ix e)) ∧ ∀ i j, i < awc.length → j < awc.length → ix i = ix j → i = j
def zBk (ix : Nat → Nat) (aw awc aw1 awn : List va_E) : Prop := awn.length = aw.length ∧ (∀ (j : Nat) (e : va_E), aw1[j]? = some e → awn[ix j]? = some (zc ix e)) ∧ ∀ k : Nat, (∀ j : Nat, j < awc.length → ix j ≠ k) → awn[k]? = aw[k]?
theorem zIn.P {D : va_G} {cl : List vw_C} {ad ix : Nat → Nat} {aw awc : List va_E} {H : Heap} (h : zIn ix aw awc) (hP : va_P D cl (zw ad aw) H) : va_P D cl (zw (fun j => ad (ix j)) awc) H := by
  intro k q hq
  rw [zw_at] at hq
  obtain ⟨e, he, rfl⟩ := Option.map_eq_some_iff.mp hq
  rw [zc_comp]
  exact hP (ix k) _ (zw_get (h.1 k e he))
theorem zIn.D {A : Nat → Prop} {ad ix : Nat → Nat} {aw awc : List va_E} (h : zIn ix aw awc) (hD : va_D A (zw ad aw)) : va_D A (zw (fun j => ad (ix j)) awc) := by
  have key : ∀ (i : Nat) (q : Nat × va_E), (zw (fun j => ad (ix j)) awc)[i]? = some q → i < awc.length ∧ ∃ q', (zw ad aw)[ix i]? = some q' ∧ q'.1 = q.1 := by
    intro i q hq
    rw [zw_at] at hq
    obtain ⟨e, he, rfl⟩ := Option.map_eq_some_iff.mp hq
    exact ⟨(List.getElem?_eq_some_iff.mp he).1, _, zw_get (h.1 i e he), rfl⟩
  refine ⟨fun i j x y hx hy hxy => ?_, fun k q hk => ?_⟩
  · obtain ⟨l1, x', h1, h2⟩ := key i x hx
    obtain ⟨l2, y', h3, h4⟩ := key j y hy
    exact h.2 i j l1 l2 (hD.1 _ _ x' y' h1 h3 (by rw [h2, h4]; exact hxy))
  · obtain ⟨-, q', h1, h2⟩ := key k q hk
    rw [← h2]; exact hD.2 _ q' h1
theorem zIn.free {A : Nat → Prop} {D : va_G} {cl : List vw_C} {tys : List (ClassId × FieldType)} {ad ix : Nat → Nat} {aw awc : List va_E} {H0 H : Heap} {locs : List Loc} (h : zIn ix aw awc) (hD : va_D A (zw ad aw)) (hS : va_S A H0 H locs) (hA : ∀ q, H0.size ≤ q → A q) : ∀ q, zA (D, cl, tys, fun j => ad (ix j)) awc H.size q → A q := by
  intro q hq
  rcases hq with ⟨k, e, hk⟩ | hq
  · exact (h.D hD).2 k _ hk
  · exact hA q (Nat.le_trans hS.1 hq)
theorem zBk.P {D : va_G} {cl : List vw_C} {tys : List (ClassId × FieldType)} {A : Nat → Prop} {ad ix : Nat → Nat} {aw awc aw1 awn : List va_E} {H H1 : Heap} (h : zIn ix aw awc) (hb : zBk ix aw awc aw1 awn) (hlen : aw1.length = awc.length) (hP : va_P D cl (zw ad aw) H) (hD : va_D A (zw ad aw)) (hP1 : va_P D cl (zw (fun j => ad (ix j)) aw1) H1)
    (hk : ∀ q : Nat, q < H.size → ¬ zA (D, cl, tys, fun j => ad (ix j)) awc H.size q → H1[q]? = H[q]?) : va_P D cl (zw ad awn) H1 := by
  intro k q hq
  rw [zw_at] at hq
  obtain ⟨e, he, rfl⟩ := Option.map_eq_some_iff.mp hq
  by_cases hj : ∃ j, j < awc.length ∧ ix j = k
  · obtain ⟨j, hj, rfl⟩ := hj
    have hl1 : j < aw1.length := by omega
    have h1 := hb.2.1 j _ (List.getElem?_eq_getElem hl1)
    rw [he] at h1
    cases h1
    have h2 := hP1 j _ (zw_get (List.getElem?_eq_getElem hl1))
    rw [zc_comp] at h2
    exact h2
  · have hn : ∀ j : Nat, j < awc.length → ix j ≠ k := fun j h1 h2 => hj ⟨j, h1, h2⟩
    have h1 := hb.2.2 k hn
    rw [he] at h1
    have h2 := hP k _ (zw_get h1.symm)
    refine h2.kept (hk _ h2.lt ?_)
    rintro (⟨j, e', hj'⟩ | hq')
    · rw [zw_at] at hj'
      obtain ⟨e2, he2, h3⟩ := Option.map_eq_some_iff.mp hj'
      have h4 := hD.1 (ix j) k _ _ (zw_get (h.1 j e2 he2)) (zw_get h1.symm) (show ad (ix j) = ad k from congrArg Prod.fst h3)
      exact hn j (List.getElem?_eq_some_iff.mp he2).1 h4
    · exact absurd h2.lt (Nat.not_lt.mpr hq')
def zup (M : zM) (a b : Nat) : zM := match M with
  | (p, l, e, R, s, m, args, below, meth, c, Q, A, cells, slots) => (p, l, e, R, s, m, args, below, meth, c, Q, A, cells + a, slots + b)
def zpush (ix : Nat → Nat) (r : Option Value) (st : List Value) : List Value := match r with
  | none => st
  | some v => zv ix v :: st
theorem zpush_map (ad ix : Nat → Nat) (r : Option Value) (st : List Value) : (r.map (zv (fun j => ad (ix j)))).toList ++ st.map (zv ad) = (zpush ix r st).map (zv ad) := by
  cases r with
  | none => rfl
  | some v => simp [zpush, zv_comp]
/-- a call, as the machine does it, over the callee's world -/
def Zc (M : zM) (G : zG) (cc : ByteArray) (nL : Nat) (own : String) (Ts : List Cond) (ix : Nat → Nat) (awc : List va_E) (stk st : List Value) (pc : Nat) (post : Option Value → List va_E → Prop) : Prop := match M, G with
  | (p, l, e, R, s, m, args, below, meth, c, _, A, cells, slots), (D, cl, tys, ad) => CallFix p m c cc nL s args Ts own → va_K D cl tys s → ∀ (H : Heap) (locs : List Loc) (ls : Array Slot), ls.size = nL → va_P D cl (zw (fun j => ad (ix j)) awc) H → va_D (fun _ => True) (zw (fun j => ad (ix j)) awc) → va_S A s.heap H locs → (∀ q, zA (D, cl, tys, fun j => ad (ix j)) awc H.size q → A q) → va_Run p l e R s m args below meth c H locs cells slots 0 0 (F0 m pc ls (stk.map (zv ad))) (st.map (zv ad)) (zQ (D, cl, tys, fun j => ad (ix j)) awc H.size post #[]) (zA (D, cl, tys, fun j => ad (ix j)) awc H.size)
section ZC
variable {M : zM} {G : zG} {cc : ByteArray} {nL : Nat} {own : String} {Ts : List Cond} {rt : Option FieldType} {aw awc : List va_E} {lv : List (Option Value)} {stk st : List Value} {pc : Nat} {post : Option Value → List va_E → Prop} {ix : Nat → Nat}
theorem z_call (hc : Zc M G cc nL own Ts ix awc stk st pc post) (hin : zIn ix aw awc) (kk : ∀ (r : Option Value) (aw1 awn : List va_E), aw1.length = awc.length → zBk ix aw awc aw1 awn → post r aw1 → Zj M G cc nL own Ts rt awn lv (zpush ix r st) (pc + 3))
    (hex : ∀ aw1 : List va_E, aw1.length = awc.length → ∃ awn, zBk ix aw awc aw1 awn) : Zj M G cc nL own Ts rt aw lv stk pc := by
  obtain ⟨p, l, e, R, s, m, args, below, meth, c, Q, A, cells, slots⟩ := M
  obtain ⟨D, cl, tys, ad⟩ := G
  intro hF H locs ls hP hD hS hl
  obtain ⟨hfix, hr, hlk, hK, hA⟩ := id hF
  have hfree := hin.free (D := D) (cl := cl) (tys := tys) hD hS hA
  have hrun := hc hfix hK H locs ls hl.1 (hin.P hP) ((hin.D hD).weaken (fun _ _ _ _ => trivial)) hS hfree
  intro T hT X
  obtain ⟨v, st₀, t, T', L, h0, X', hL, e1, e2, ⟨⟨r, aw1, hv, hlen, hpo, hP1, hK1, hD1⟩, hz, hk⟩, stp⟩ := hrun T hT X
  cases hv
  rw [h0] at hz hk
  obtain ⟨awn, hbk⟩ := hex aw1 hlen
  have hk' : ∀ q : Nat, q < H.size → ¬ zA (D, cl, tys, fun j => ad (ix j)) awc H.size q → T'.heap[q]? = H[q]? := fun q h1 h2 => by rw [e1]; exact hk q h1 h2
  have hP2 := zBk.P (tys := tys) hin hbk hlen hP hD (by rw [e1]; exact hP1 : va_P D cl (zw (fun j => ad (ix j)) aw1) T'.heap) hk'
  have hz' : H.size ≤ T'.heap.size := by rw [e1]; exact hz
  have hS' : va_S A s.heap T'.heap (locs ++ L) := ⟨Nat.le_trans hS.1 hz', fun q h1 h2 => by
      rw [hk' q (Nat.lt_of_lt_of_le h1 hS.1) (fun z => h2 (hfree q z))]; exact hS.2.1 q h1 h2, fun q hq => by
      rcases List.mem_append.mp hq with h | h
      · exact hS.2.2 q h
      · exact hfree _ (hL q h)⟩
  obtain ⟨t2, a1, b1⟩ := kk r aw1 awn hlen hbk hpo hF T'.heap (locs ++ L) ls hP2 (zD_len hD hbk.1) hS' hl T' rfl X'
  refine ⟨t2, stp t2 ?_, b1⟩
  rw [show (r.map (zv (fun j => ad (ix j)))).toList ++ st.map (zv ad) = (zpush ix r st).map (zv ad) from zpush_map ad ix r st]
  exact a1
/-- the callee has the whole world -/
theorem z_same (hc : Zc M G cc nL own Ts (fun j => j) aw stk st pc post) (kk : ∀ (r : Option Value) (aw1 : List va_E), aw1.length = aw.length → post r aw1 → Zj M G cc nL own Ts rt aw1 lv (zpush (fun j => j) r st) (pc + 3)) : Zj M G cc nL own Ts rt aw lv stk pc := by
  refine z_call hc ⟨fun j e h => by rw [zc_id]; exact h, fun i j _ _ h => h⟩ (fun r aw1 awn hlen hbk hpo => ?_) (fun aw1 hlen => ⟨aw1, hlen, fun j e h => by rw [zc_id]; exact h, fun k hk => ?_⟩)
  · have e9 : awn = aw1 := by
      apply List.ext_getElem?
      intro k
      by_cases h : k < aw1.length
      · have := hbk.2.1 k _ (List.getElem?_eq_getElem h)
        rw [zc_id] at this
        rw [this, List.getElem?_eq_getElem h]
      · have h8 := hbk.1
        rw [List.getElem?_eq_none (by omega), List.getElem?_eq_none (by omega)]
    rw [e9]
    exact kk r aw1 hlen hpo
  · have : ¬ k < aw.length := fun h => hk k h rfl
    rw [List.getElem?_eq_none (by omega), List.getElem?_eq_none (by omega)]
/-- the callee has no world -/
theorem z_pure (hc : Zc M G cc nL own Ts (fun j => j) [] stk st pc post) (kk : ∀ (r : Option Value), post r [] → Zj M G cc nL own Ts rt aw lv (zpush (fun j => j) r st) (pc + 3)) : Zj M G cc nL own Ts rt aw lv stk pc := by
  refine z_call hc ⟨fun j e h => by simp at h, fun i j h => by simp at h⟩ (fun r aw1 awn hlen hbk hpo => ?_) (fun aw1 hlen => ⟨aw, rfl, fun j e h => ?_, fun k hk => rfl⟩)
  · have e1 : aw1 = [] := List.length_eq_zero_iff.mp hlen
    subst e1
    have e9 : awn = aw := List.ext_getElem? (fun k => hbk.2.2 k (fun j h => by simp at h))
    rw [e9]
    exact kk r hpo
  · rw [List.length_eq_zero_iff.mp hlen] at h
    simp at h
end ZC
/-- places of a part -/
def zix (is : List Nat) : Nat → Nat := fun j => is.getD j 0
def zput (ix : Nat → Nat) : List Nat → List va_E → List va_E → List va_E
  | i :: is, aw, e :: es => zput ix is (aw.set i (zc ix e)) es
  | _, aw, _ => aw
theorem zput_len (ix : Nat → Nat) : ∀ (is : List Nat) (aw es : List va_E), (zput ix is aw es).length = aw.length := by
  intro is
  induction is with
  | nil => intro aw es; cases es <;> rfl
  | cons i t ih =>
    intro aw es
    cases es with
    | nil => rfl
    | cons e es => simp only [zput]; rw [ih, List.length_set]
theorem zput_out (ix : Nat → Nat) : ∀ (is : List Nat) (aw es : List va_E) (k : Nat), k ∉ is → (zput ix is aw es)[k]? = aw[k]? := by
  intro is
  induction is with
  | nil => intro aw es k _; cases es <;> rfl
  | cons i t ih =>
    intro aw es k hk
    cases es with
    | nil => rfl
    | cons e es =>
      simp only [zput]
      rw [ih _ _ _ (fun h => hk (List.mem_cons_of_mem _ h)), List.getElem?_set_ne (fun h => hk (by rw [h]; exact List.mem_cons_self))]
theorem zput_in (ix : Nat → Nat) : ∀ (is : List Nat) (aw es : List va_E) (j i : Nat) (e : va_E), is.Nodup → is[j]? = some i → es[j]? = some e → i < aw.length → (zput ix is aw es)[i]? = some (zc ix e) := by
  intro is
  induction is with
  | nil => intro aw es j i e _ h; simp at h
  | cons a t ih =>
    intro aw es j i e hn hi he hl
    cases es with
    | nil => simp at he
    | cons e0 es =>
      simp only [zput]
      cases j with
      | zero =>
        simp at hi he
        subst hi; subst he
        rw [zput_out _ _ _ _ _ (List.nodup_cons.mp hn).1, List.getElem?_set_self hl]
      | succ j => exact ih _ _ j i e (List.nodup_cons.mp hn).2 hi he (by rw [List.length_set]; exact hl)
section ZP
variable {M : zM} {G : zG} {cc : ByteArray} {nL : Nat} {own : String} {Ts : List Cond} {rt : Option FieldType} {aw awc : List va_E} {lv : List (Option Value)} {stk st : List Value} {pc : Nat} {post : Option Value → List va_E → Prop}
theorem zIn_of {is : List Nat} (hn : is.Nodup) (hs : is.map (fun i => aw[i]?) = awc.map (fun e => some (zc (zix is) e))) : zIn (zix is) aw awc := by
  have hl : is.length = awc.length := by have := congrArg List.length hs; simpa using this
  have at1 : ∀ j, j < is.length → is[j]? = some (zix is j) := fun j h => by
    rw [List.getElem?_eq_getElem h]; simp [zix, List.getD_eq_getElem?_getD, List.getElem?_eq_getElem h]
  refine ⟨fun j e h => ?_, fun i j h1 h2 h3 => ?_⟩
  · have hj : j < is.length := by rw [hl]; exact (List.getElem?_eq_some_iff.mp h).1
    have h2 := congrArg (fun l => l[j]?) hs
    simp only [List.getElem?_map, h, at1 j hj, Option.map_some] at h2
    exact Option.some.inj h2
  · have a1 := at1 i (by omega)
    have a2 := at1 j (by omega)
    rw [h3] at a1
    exact (List.getElem?_inj (show i < is.length by omega) hn).mp (a1.trans a2.symm)
theorem z_part (is : List Nat) (hc : Zc M G cc nL own Ts (zix is) awc stk st pc post) (hn : is.Nodup) (hs : is.map (fun i => aw[i]?) = awc.map (fun e => some (zc (zix is) e)))
    (kk : ∀ (r : Option Value) (aw1 : List va_E), aw1.length = awc.length → post r aw1 → Zj M G cc nL own Ts rt (zput (zix is) is aw aw1) lv (zpush (zix is) r st) (pc + 3)) : Zj M G cc nL own Ts rt aw lv stk pc := by
  have hin := zIn_of hn hs
  have hl : is.length = awc.length := by have := congrArg List.length hs; simpa using this
  have at1 : ∀ j, j < is.length → is[j]? = some (zix is j) := fun j h => by
    rw [List.getElem?_eq_getElem h]; simp [zix, List.getD_eq_getElem?_getD, List.getElem?_eq_getElem h]
  have hlt : ∀ j, j < is.length → zix is j < aw.length := fun j h => by
    have h2 := hin.1 j _ (List.getElem?_eq_getElem (by omega : j < awc.length))
    exact (List.getElem?_eq_some_iff.mp h2).1
  have hbk : ∀ aw1 : List va_E, aw1.length = awc.length → zBk (zix is) aw awc aw1 (zput (zix is) is aw aw1) := fun aw1 h1 => by
    refine ⟨zput_len _ _ _ _, fun j e h => ?_, fun k hk => zput_out _ _ _ _ _ (fun h => ?_)⟩
    · have hj : j < is.length := by rw [hl, ← h1]; exact (List.getElem?_eq_some_iff.mp h).1
      exact zput_in _ _ _ _ j _ e hn (at1 j hj) h (hlt j hj)
    · obtain ⟨j, hj⟩ := List.getElem?_of_mem h
      have hjl := (List.getElem?_eq_some_iff.mp hj).1
      rw [at1 j hjl] at hj
      exact hk j (by omega) (Option.some.inj hj)
  refine z_call hc hin (fun r aw1 awn hlen hb hpo => ?_) (fun aw1 hlen => ⟨_, hbk aw1 hlen⟩)
  have h2 := hbk aw1 hlen
  have e9 : awn = zput (zix is) is aw aw1 := by
    apply List.ext_getElem?
    intro k
    by_cases hj : ∃ j, j < awc.length ∧ zix is j = k
    · obtain ⟨j, hj, rfl⟩ := hj
      have hl1 : j < aw1.length := by omega
      rw [hb.2.1 j _ (List.getElem?_eq_getElem hl1), h2.2.1 j _ (List.getElem?_eq_getElem hl1)]
    · have hn : ∀ j : Nat, j < awc.length → zix is j ≠ k := fun j h1 h2 => hj ⟨j, h1, h2⟩
      rw [hb.2.2 k hn, h2.2.2 k hn]
  rw [e9]
  exact kk r aw1 hlen hpo
end ZP
section ZK
variable {M : zM} {G : zG} {cc : ByteArray} {nL : Nat} {own : String} {Ts : List Cond} {awc : List va_E} {stk st : List Value} {pc : Nat} {post : Option Value → List va_E → Prop} {ix : Nat → Nat} {y : MethodName} {ws ws' : List Cond} {rm : Room} {bytes : ByteArray} {maxL index : Nat} {ret : Option FieldType} {C : String} {As : List Value} {b ci : Nat} {fs : List Value} {T : u_T} {N : Nat} {E E' : (Nat → Prop) → State → Prop}
theorem z_blind {G : zG} {aw : List va_E} {As : List Value} {sz : Nat} {E' : (Nat → Prop) → State → Prop} (h : ∀ (A : Nat → Prop) (a : Array Value) (U : State) (g : JFrame) (mk : MethodId), E' A U → E' A (U.calling g mk a)) : FrameBlind (zPc G aw As sz E') := fun a U g mk q => by
  obtain ⟨q0, q1, ⟨qP, qK, qD⟩, qE⟩ := q
  exact ⟨q0, q1, ⟨qP, va_K.moved (u := U) (U := U.calling g mk a) (Vm.Alike.refl U.vm) qK, qD⟩, h _ _ _ _ _ qE⟩
/-- invokevirtual of a method of ours -/
theorem z_V (hE : zEn M E) (hEE : zEok E E') (hM : zMet (zl0 M) y ws rm E' (G.1, G.2.1, G.2.2.1, fun j => G.2.2.2 (ix j)) awc (.ref b :: As) post) (hdg : decode cc pc = .ok (.invokevirtual index, 3)) (hG : GoodIn Ts (wsV own index C y ws)) (hw : ws = Cond.code y bytes maxL ret :: ws')
    (hd : y.cls = C ∧ y.cls ≠ "java/lang/invoke/MethodHandle" ∧ y.cls ≠ "java/lang/invoke/VarHandle" ∧ (parseMethodDescriptor y.desc).map (fun d => d.parameters.length) = some As.length) (hrm : rm.cells = 0 ∧ rm.slots = 0) (hR : rm.frames + 1 ≤ (zroom M).frames ∧ 8 + (maxL + 11) + rm.locals ≤ (zroom M).locals) (hcs : zcells M ≤ (zroom M).cells ∧ zslots M ≤ (zroom M).slots)
    (hstk : stk = ((.ref b :: As).map (zv ix)).reverse ++ st) (hst : (st.map fun v => v.category).sum ≤ 8) (hrecv : awc[b]? = some (.inr (ci, fs))) (hci : G.2.1[ci]? = some (C, T, N)) : Zc M G cc nL own Ts ix awc stk st pc post := by
  obtain ⟨p, l, e, R, s, m, args, below, meth, c, Q, A, cells, slots⟩ := M
  obtain ⟨D, cl, tys, ad⟩ := G
  intro hfix hK H locs ls hls hP hD hS hfree
  subst hstk
  refine va_runV (b := ad (ix b)) (As := As.map (zv (fun j => ad (ix j)))) hfix (hM H.size) (cwV As.length hfix.2.2.2.2 hG hw hrm.1 hrm.2 hd hR) ⟨z_blind hEE.2, va_recv hK hP hci (zw_get hrecv), fun U hU hW => ⟨rfl, by rw [hU], ⟨by rw [hU]; exact hP, va_K.moved hW.alike hK, hD⟩, hEE.1 A _ s U locs hE (by rw [hU]; exact hS) hfree hW⟩⟩ rfl (by simp) hls ?_ ?_ hdg hcs
  · simp only [F0, List.map_append, List.map_reverse, List.map_map, List.map_cons, List.reverse_cons, List.append_assoc, List.cons_append, List.nil_append]
    congr 2
    · congr 1
      funext v
      exact (zv_comp ad ix v).symm
  · rw [zv_cats]
    show 2 * 0 + _ ≤ 8
    omega
/-- invokestatic of a method of ours, of any class -/
theorem z_S (hE : zEn M E) (hEE : zEok E E') (hM : zMet (zl0 M) y ws rm E' (G.1, G.2.1, G.2.2.1, fun j => G.2.2.2 (ix j)) awc As post) (hdg : decode cc pc = .ok (.invokestatic index, 3)) (hG : GoodIn Ts (va_wsS own index y ws)) (hw : ws = Cond.code y bytes maxL ret :: ws')
    (hd : y.cls ≠ "java/lang/invoke/MethodHandle" ∧ y.cls ≠ "java/lang/invoke/VarHandle" ∧ (parseMethodDescriptor y.desc).map (fun d => d.parameters.length) = some As.length) (hrm : rm.cells = 0 ∧ rm.slots = 0) (hR : rm.frames + 1 ≤ (zroom M).frames ∧ 8 + (maxL + 11) + rm.locals ≤ (zroom M).locals) (hcs : zcells M ≤ (zroom M).cells ∧ zslots M ≤ (zroom M).slots)
    (hstk : stk = (As.map (zv ix)).reverse ++ st) (hst : (st.map fun v => v.category).sum ≤ 8) : Zc M G cc nL own Ts ix awc stk st pc post := by
  obtain ⟨p, l, e, R, s, m, args, below, meth, c, Q, A, cells, slots⟩ := M
  obtain ⟨D, cl, tys, ad⟩ := G
  intro hfix hK H locs ls hls hP hD hS hfree
  subst hstk
  refine va_runS (As := As.map (zv (fun j => ad (ix j)))) hfix (hM H.size) (va_cwS As.length hfix.2.2.2.2 hG hw hrm.1 hrm.2 hd hR) ⟨z_blind hEE.2, fun U hU hW => ⟨rfl, by rw [hU], ⟨by rw [hU]; exact hP, va_K.moved hW.alike hK, hD⟩, hEE.1 A _ s U locs hE (by rw [hU]; exact hS) hfree hW⟩⟩ rfl (by simp) hls ?_ ?_ hdg hcs
  · simp only [F0, List.map_append, List.map_reverse, List.map_map]
    congr 2
    apply List.map_congr_left
    intro v _
    exact (zv_comp ad ix v).symm
  · rw [zv_cats]
    show 2 * 0 + _ ≤ 8
    omega
/-- invokestatic of a nest mate's private method -/
theorem z_SN {host : String} (hE : zEn M E) (hEE : zEok E E') (hnest : va_Nw (.methodLinkNest own index y host) M.2.2.2.2.1) (hM : zMet (zl0 M) y ws rm E' (G.1, G.2.1, G.2.2.1, fun j => G.2.2.2 (ix j)) awc As post) (hdg : decode cc pc = .ok (.invokestatic index, 3)) (hG : GoodIn Ts ws) (hsta : Cond.static y ∈ Ts) (hini : Cond.initialized y.cls ∈ Ts) (hw : ws = Cond.code y bytes maxL ret :: ws')
    (hd : y.cls ≠ "java/lang/invoke/MethodHandle" ∧ y.cls ≠ "java/lang/invoke/VarHandle" ∧ (parseMethodDescriptor y.desc).map (fun d => d.parameters.length) = some As.length) (hrm : rm.cells = 0 ∧ rm.slots = 0) (hR : rm.frames + 1 ≤ (zroom M).frames ∧ 8 + (maxL + 11) + rm.locals ≤ (zroom M).locals) (hcs : zcells M ≤ (zroom M).cells ∧ zslots M ≤ (zroom M).slots)
    (hstk : stk = (As.map (zv ix)).reverse ++ st) (hst : (st.map fun v => v.category).sum ≤ 8) : Zc M G cc nL own Ts ix awc stk st pc post := by
  obtain ⟨p, l, e, R, s, m, args, below, meth, c, Q, A, cells, slots⟩ := M
  obtain ⟨D, cl, tys, ad⟩ := G
  intro hfix hK H locs ls hls hP hD hS hfree
  subst hstk
  refine va_runSN (As := As.map (zv (fun j => ad (ix j)))) hfix (hM H.size) ⟨va_cnB As.length hfix.2.2.2.2 hG hw hrm.1 hrm.2 hnest (hfix.2.2.2.2 _ hini) hd hR, hfix.2.2.2.2 _ hsta, trivial⟩ ⟨z_blind hEE.2, fun U hU hW => ⟨rfl, by rw [hU], ⟨by rw [hU]; exact hP, va_K.moved hW.alike hK, hD⟩, hEE.1 A _ s U locs hE (by rw [hU]; exact hS) hfree hW⟩⟩ rfl (by simp) hls ?_ ?_ hdg hcs
  · simp only [F0, List.map_append, List.map_reverse, List.map_map]
    congr 2
    apply List.map_congr_left
    intro v _
    exact (zv_comp ad ix v).symm
  · rw [zv_cats]
    show 2 * 0 + _ ≤ 8
    omega
end ZK
