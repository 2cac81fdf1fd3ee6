section
-- ===== PART A: goes FIRST, ahead of the names: the tables' words, and 'selects' of the private methods out of them =====
/-- a private method of a class that the tables say can be made, by its rows of tables_1 -/
def lw_okq (q : MethodName × Nat) : Prop := (q.1.cls ≠ "java/lang/invoke/MethodHandle" ∧ q.1.cls ≠ "java/lang/invoke/VarHandle") ∧ Cond.instantiable q.1.cls q.2 ∈ tables_1 ∧ Cond.privateMethod q.1 ∈ tables_1 ∧ Cond.instanceMethod q.1 ∈ tables_1
theorem lw_p0 : lw_okq (⟨"ToneMixer", "firstAreOfOneSize", "(I)Z"⟩, 1) := ⟨⟨by decide +kernel, by decide +kernel⟩, List.mem_of_getElem? (i := 13) (by decide +kernel), List.mem_of_getElem? (i := 53) (by decide +kernel), List.mem_of_getElem? (i := 54) (by decide +kernel)⟩
theorem lw_p1 : lw_okq (⟨"ToneMixer", "mixPlace", "(II)V"⟩, 1) := ⟨⟨by decide +kernel, by decide +kernel⟩, List.mem_of_getElem? (i := 13) (by decide +kernel), List.mem_of_getElem? (i := 64) (by decide +kernel), List.mem_of_getElem? (i := 65) (by decide +kernel)⟩
theorem lw_p2 : lw_okq (⟨"ToneMixer", "open", "(I)V"⟩, 1) := ⟨⟨by decide +kernel, by decide +kernel⟩, List.mem_of_getElem? (i := 13) (by decide +kernel), List.mem_of_getElem? (i := 68) (by decide +kernel), List.mem_of_getElem? (i := 69) (by decide +kernel)⟩
theorem lw_p3 : lw_okq (⟨"ToneMixer", "setColours", "(IIII)V"⟩, 1) := ⟨⟨by decide +kernel, by decide +kernel⟩, List.mem_of_getElem? (i := 13) (by decide +kernel), List.mem_of_getElem? (i := 88) (by decide +kernel), List.mem_of_getElem? (i := 89) (by decide +kernel)⟩
theorem lw_p4 : lw_okq (⟨"ToneMixer", "close", "(I)V"⟩, 1) := ⟨⟨by decide +kernel, by decide +kernel⟩, List.mem_of_getElem? (i := 13) (by decide +kernel), List.mem_of_getElem? (i := 92) (by decide +kernel), List.mem_of_getElem? (i := 93) (by decide +kernel)⟩
theorem lw_p5 : lw_okq (⟨"ToneMixer", "invert", "(I)V"⟩, 1) := ⟨⟨by decide +kernel, by decide +kernel⟩, List.mem_of_getElem? (i := 13) (by decide +kernel), List.mem_of_getElem? (i := 101) (by decide +kernel), List.mem_of_getElem? (i := 102) (by decide +kernel)⟩
theorem lw_p6 : lw_okq (⟨"ToneMixer", "darken", "(I)V"⟩, 1) := ⟨⟨by decide +kernel, by decide +kernel⟩, List.mem_of_getElem? (i := 13) (by decide +kernel), List.mem_of_getElem? (i := 105) (by decide +kernel), List.mem_of_getElem? (i := 106) (by decide +kernel)⟩
theorem lw_p7 : lw_okq (⟨"ToneMixer", "grey", "(I)V"⟩, 1) := ⟨⟨by decide +kernel, by decide +kernel⟩, List.mem_of_getElem? (i := 13) (by decide +kernel), List.mem_of_getElem? (i := 112) (by decide +kernel), List.mem_of_getElem? (i := 113) (by decide +kernel)⟩
theorem lw_p8 : lw_okq (⟨"ToneMixer", "planeOf", "(I)LToneMixer$Plane;"⟩, 1) := ⟨⟨by decide +kernel, by decide +kernel⟩, List.mem_of_getElem? (i := 13) (by decide +kernel), List.mem_of_getElem? (i := 125) (by decide +kernel), List.mem_of_getElem? (i := 126) (by decide +kernel)⟩
theorem lw_p9 : lw_okq (⟨"java/lang/Throwable", "fillInStackTrace", "(I)Ljava/lang/Throwable;"⟩, 6) := ⟨⟨by decide +kernel, by decide +kernel⟩, List.mem_of_getElem? (i := 166) (by decide +kernel), List.mem_of_getElem? (i := 164) (by decide +kernel), List.mem_of_getElem? (i := 165) (by decide +kernel)⟩
theorem lw_p10 : lw_okq (⟨"ToneMixer", "planeWith", "(III)LToneMixer$Plane;"⟩, 1) := ⟨⟨by decide +kernel, by decide +kernel⟩, List.mem_of_getElem? (i := 13) (by decide +kernel), List.mem_of_getElem? (i := 226) (by decide +kernel), List.mem_of_getElem? (i := 227) (by decide +kernel)⟩
theorem lw_p11 : lw_okq (⟨"ToneMixer$Plane", "growLine", "(IIIZ)V"⟩, 4) := ⟨⟨by decide +kernel, by decide +kernel⟩, List.mem_of_getElem? (i := 22) (by decide +kernel), List.mem_of_getElem? (i := 258) (by decide +kernel), List.mem_of_getElem? (i := 259) (by decide +kernel)⟩
theorem lw_p12 : lw_okq (⟨"ToneMixer$Plane", "shrinkLine", "(III)V"⟩, 4) := ⟨⟨by decide +kernel, by decide +kernel⟩, List.mem_of_getElem? (i := 22) (by decide +kernel), List.mem_of_getElem? (i := 277) (by decide +kernel), List.mem_of_getElem? (i := 278) (by decide +kernel)⟩
theorem lw_p13 : lw_okq (⟨"ToneMixer$Plane", "sumOfFour", "(II)I"⟩, 4) := ⟨⟨by decide +kernel, by decide +kernel⟩, List.mem_of_getElem? (i := 22) (by decide +kernel), List.mem_of_getElem? (i := 293) (by decide +kernel), List.mem_of_getElem? (i := 294) (by decide +kernel)⟩
theorem lw_p14 : lw_okq (⟨"ToneMixerModel", "goes", "(ZZ)Z"⟩, 7) := ⟨⟨by decide +kernel, by decide +kernel⟩, List.mem_of_getElem? (i := 381) (by decide +kernel), List.mem_of_getElem? (i := 423) (by decide +kernel), List.mem_of_getElem? (i := 424) (by decide +kernel)⟩
theorem lw_p15 : lw_okq (⟨"ToneMixerModel", "isSample", "(III)Z"⟩, 7) := ⟨⟨by decide +kernel, by decide +kernel⟩, List.mem_of_getElem? (i := 381) (by decide +kernel), List.mem_of_getElem? (i := 431) (by decide +kernel), List.mem_of_getElem? (i := 432) (by decide +kernel)⟩
def lw_privs_1 : List (MethodName × Nat) := [(⟨"ToneMixer", "firstAreOfOneSize", "(I)Z"⟩, 1), (⟨"ToneMixer", "mixPlace", "(II)V"⟩, 1), (⟨"ToneMixer", "open", "(I)V"⟩, 1), (⟨"ToneMixer", "setColours", "(IIII)V"⟩, 1), (⟨"ToneMixer", "close", "(I)V"⟩, 1), (⟨"ToneMixer", "invert", "(I)V"⟩, 1), (⟨"ToneMixer", "darken", "(I)V"⟩, 1), (⟨"ToneMixer", "grey", "(I)V"⟩, 1), (⟨"ToneMixer", "planeOf", "(I)LToneMixer$Plane;"⟩, 1), (⟨"java/lang/Throwable", "fillInStackTrace", "(I)Ljava/lang/Throwable;"⟩, 6), (⟨"ToneMixer", "planeWith", "(III)LToneMixer$Plane;"⟩, 1), (⟨"ToneMixer$Plane", "growLine", "(IIIZ)V"⟩, 4), (⟨"ToneMixer$Plane", "shrinkLine", "(III)V"⟩, 4), (⟨"ToneMixer$Plane", "sumOfFour", "(II)I"⟩, 4), (⟨"ToneMixerModel", "goes", "(ZZ)Z"⟩, 7), (⟨"ToneMixerModel", "isSample", "(III)Z"⟩, 7)]
theorem lw_r1 : ∀ q ∈ lw_privs_1, lw_okq q := List.forall_mem_cons.mpr ⟨lw_p0, List.forall_mem_cons.mpr ⟨lw_p1, List.forall_mem_cons.mpr ⟨lw_p2, List.forall_mem_cons.mpr ⟨lw_p3, List.forall_mem_cons.mpr ⟨lw_p4, List.forall_mem_cons.mpr ⟨lw_p5, List.forall_mem_cons.mpr ⟨lw_p6, List.forall_mem_cons.mpr ⟨lw_p7, List.forall_mem_cons.mpr ⟨lw_p8, List.forall_mem_cons.mpr ⟨lw_p9, List.forall_mem_cons.mpr ⟨lw_p10, List.forall_mem_cons.mpr ⟨lw_p11, List.forall_mem_cons.mpr ⟨lw_p12, List.forall_mem_cons.mpr ⟨lw_p13, List.forall_mem_cons.mpr ⟨lw_p14, List.forall_mem_cons.mpr ⟨lw_p15, fun _ h => absurd h List.not_mem_nil⟩⟩⟩⟩⟩⟩⟩⟩⟩⟩⟩⟩⟩⟩⟩⟩
theorem lw_p16 : lw_okq (⟨"ToneMixerModel", "across", "(IZ)V"⟩, 7) := ⟨⟨by decide +kernel, by decide +kernel⟩, List.mem_of_getElem? (i := 381) (by decide +kernel), List.mem_of_getElem? (i := 447) (by decide +kernel), List.mem_of_getElem? (i := 448) (by decide +kernel)⟩
theorem lw_p17 : lw_okq (⟨"ToneMixerModel", "keep", "(I)V"⟩, 7) := ⟨⟨by decide +kernel, by decide +kernel⟩, List.mem_of_getElem? (i := 381) (by decide +kernel), List.mem_of_getElem? (i := 451) (by decide +kernel), List.mem_of_getElem? (i := 452) (by decide +kernel)⟩
theorem lw_p18 : lw_okq (⟨"ToneMixerModel", "was", "(II)I"⟩, 7) := ⟨⟨by decide +kernel, by decide +kernel⟩, List.mem_of_getElem? (i := 381) (by decide +kernel), List.mem_of_getElem? (i := 455) (by decide +kernel), List.mem_of_getElem? (i := 456) (by decide +kernel)⟩
theorem lw_p19 : lw_okq (⟨"ToneMixerModel", "down", "(IZ)V"⟩, 7) := ⟨⟨by decide +kernel, by decide +kernel⟩, List.mem_of_getElem? (i := 381) (by decide +kernel), List.mem_of_getElem? (i := 459) (by decide +kernel), List.mem_of_getElem? (i := 460) (by decide +kernel)⟩
theorem lw_p20 : lw_okq (⟨"ToneMixerModel", "isSame", "(II)Z"⟩, 7) := ⟨⟨by decide +kernel, by decide +kernel⟩, List.mem_of_getElem? (i := 381) (by decide +kernel), List.mem_of_getElem? (i := 471) (by decide +kernel), List.mem_of_getElem? (i := 472) (by decide +kernel)⟩
theorem lw_p21 : lw_okq (⟨"ToneMixerModel", "mixAll", "(I)V"⟩, 7) := ⟨⟨by decide +kernel, by decide +kernel⟩, List.mem_of_getElem? (i := 381) (by decide +kernel), List.mem_of_getElem? (i := 475) (by decide +kernel), List.mem_of_getElem? (i := 476) (by decide +kernel)⟩
def lw_privs_2 : List (MethodName × Nat) := [(⟨"ToneMixerModel", "across", "(IZ)V"⟩, 7), (⟨"ToneMixerModel", "keep", "(I)V"⟩, 7), (⟨"ToneMixerModel", "was", "(II)I"⟩, 7), (⟨"ToneMixerModel", "down", "(IZ)V"⟩, 7), (⟨"ToneMixerModel", "isSame", "(II)Z"⟩, 7), (⟨"ToneMixerModel", "mixAll", "(I)V"⟩, 7)]
theorem lw_r2 : ∀ q ∈ lw_privs_2, lw_okq q := List.forall_mem_cons.mpr ⟨lw_p16, List.forall_mem_cons.mpr ⟨lw_p17, List.forall_mem_cons.mpr ⟨lw_p18, List.forall_mem_cons.mpr ⟨lw_p19, List.forall_mem_cons.mpr ⟨lw_p20, List.forall_mem_cons.mpr ⟨lw_p21, fun _ h => absurd h List.not_mem_nil⟩⟩⟩⟩⟩⟩
def lw_privs : List (MethodName × Nat) := lw_privs_1 ++ (lw_privs_2)
def lw_tbl : List Cond := k2_sels lw_privs ++ tables_1
theorem lw_privs_ok : ∀ q ∈ lw_privs, lw_okq q := by
  show ∀ q ∈ lw_privs_1 ++ (lw_privs_2), lw_okq q
  exact List.forall_mem_append.mpr ⟨lw_r1, lw_r2⟩
-- ===== end of PART A; then your names; then what follows =====
end
section
/-! ===== BEGIN words of one list among another's, by their places ===== -/
theorem goodIn_r {big : List Cond} (ws : List Cond) (ps : List Nat) (hp : ws = ps.filterMap (fun i => big[i]?)) (h : ws.all goodWord = true) : GoodIn big ws := by
  intro w hw
  have h1 := List.all_eq_true.mp h w hw
  rw [hp] at hw
  obtain ⟨i, -, hi⟩ := List.mem_filterMap.mp hw
  have hm : w ∈ big := by first | exact List.mem_of_getElem? hi | exact List.getElem?_mem hi
  exact ⟨hm, good_of_word h1⟩
theorem goodIn_app {big a b : List Cond} (ha : GoodIn big a) (hb : GoodIn big b) : GoodIn big (a ++ b) := fun w h => (List.mem_append.mp h).elim (ha w) (hb w)
theorem goodIn_ca {big a b : List Cond} {c : Cond} (ha : GoodIn big (c :: a)) (hb : GoodIn big b) : GoodIn big (c :: (a ++ b)) := fun w h => (List.mem_cons.mp h).elim (fun e => ha w (List.mem_cons.mpr (Or.inl e))) (fun h => (List.mem_append.mp h).elim (fun h => ha w (List.mem_cons.mpr (Or.inr h))) (hb w))
theorem goodIn_sub {big ws : List Cond} (hm : ∀ w ∈ ws, w ∈ big) (h : ws.all goodWord = true) : GoodIn big ws := fun w hw => ⟨hm w hw, good_of_word (List.all_eq_true.mp h w hw)⟩
/-! ===== END ===== -/

/-! ===== BEGIN exceptions that leave a method, and their catching by the caller (launches without stack traces) ===== -/
section VXA
/-! The laws vx_back, vx_callV, vx_callS, vx_callSW, vx_throw0, vx_throwS follow proofs of the library, with one case more: JvmDerived/Free/Laws.lean (Back.of_free), Shelf42/LK1.lean (callV, callS), Shelf/KitTraced.lean (throwNew0V, throwNewS). -/
/-- where a method has thrown q: the class by its name, the cell, what was written, the world -/
def vx_T (XC : String → State → State → Prop) (st : State) (q : Addr) (t : State) (mc ms : Nat) (free : Addr → Prop) : Prop :=
  ∃ (E : String) (ce : Cell) (L : List Loc), XC E st t ∧ t.heap[q]? = some ce ∧ ce.vm = .none ∧ st.vm.findClass E = some ce.cls ∧ st.WarmedH t.vm ∧ st.sameButNew ({ t with vm := st.vm } : State) L mc ms ∧ ∀ z ∈ L, free z.base
def vx_Q (Qc : Array Value → State → Outcome → State → Prop) (XC : String → State → State → Prop) (mc ms : Nat) (free : Addr → Prop) : Array Value → State → Outcome → State → Prop := fun a st o t =>
  (Qc a st o t ∧ ∃ L, FrameEnd st o t L mc ms ∧ ∀ q ∈ L, free q.base) ∨ ∃ q, o = .threw q ∧ vx_T XC st q t mc ms free
/-- a callee that returns or throws -/
def vx_Met (l : Launch) (y : MethodName) (ws : List Cond) (rm : Room) (Pc : Array Value → State → Prop) (Qc : Array Value → State → Outcome → State → Prop) (XC : String → State → State → Prop) (mc ms : Nat) (free : Addr → Prop) : Prop :=
  MetFree l y (headSpec ws rm) Pc (fun _ _ _ _ _ => True) (vx_Q Qc XC mc ms free)
def vx_Post (XC : String → State → State → Prop) (mc ms : Nat) (free : Addr → Prop) : Pt → Array Value → Addr → Pt → Prop := fun A a q B =>
  ∃ (g : JFrame) (mk : MethodId) (t : State) (L : List Loc) (E : String) (ce : Cell), B.U.heap = t.heap ∧ B.U.vm = t.vm ∧ XC E (A.U.calling g mk a) t ∧ t.heap[q]? = some ce ∧ ce.vm = .none ∧ A.U.vm.findClass E = some ce.cls ∧ B.locs = A.locs ++ L ∧ (∀ z ∈ L, free z.base) ∧ B.cells = A.cells + mc ∧ B.slots = A.slots + ms
def vx_Back (l : Launch) (R : Room) (p : Program) (e : Env) (below : List Frame) (s : State) (sargs : Array Value) (y : MethodName) (len W9 : Nat)
    (Pre : Pt → Array Value → Prop) (Post : Pt → Array Value → Option Value → Pt → Prop) (PostX : Pt → Array Value → Addr → Pt → Prop) : Prop :=
  ∀ (m : MethodId) (meth : Method) (c : Code) (A : Pt) (g : JFrame) (ig : Instr) (mk : MethodId) (a : Array Value),
    Stand p l e R s m sargs below meth c A.U A.locs A.cells A.slots → g.method = m → g.locals.size = c.maxLocals → decode c.code g.pc = .ok (ig, len) →
    2 * g.monitorRoom + (g.stack.map fun v => v.category).sum ≤ W9 → A.U.methodNamed? y = some mk → Pre A a →
    (∃ (v : Option Value) (B : Pt), Stand p l e R s m sargs below meth c B.U B.locs B.cells B.slots ∧ Post A a v B ∧
      Steps p.tables e below (doInvoke e (A.U.setTop g) [] mk a).1 (B.U.setTop { g with pc := g.pc + len, stack := v.toList ++ g.stack })) ∨
    (∃ (q : Addr) (B : Pt), Stand p l e R s m sargs below meth c B.U B.locs B.cells B.slots ∧ PostX A a q B ∧
      Steps p.tables e below (doInvoke e (A.U.setTop g) [] mk a).1 ((B.U.setTop g).pushFrame (.throwing q)))
section Payer
variable {l : Launch} {R : Room} {p : Program} {e : Env} {below : List Frame} {s : State} {sargs : Array Value} {y : MethodName} {len W9 : Nat}
theorem vx_back {ws : List Cond} {rm : Room} {Pc : Array Value → State → Prop} {Qc : Array Value → State → Outcome → State → Prop} {XC : String → State → State → Prop} {mc ms : Nat} {free : Addr → Prop} {bytes : ByteArray} {maxL : Nat} {ret : Option FieldType}
    (hM : vx_Met l y ws rm Pc Qc XC mc ms free) (hblind : FrameBlind Pc) (hrc : rm.cells = mc) (hrs : rm.slots = ms)
    (hframes : rm.frames + 1 ≤ R.frames) (hlocals : W9 + (maxL + 11) + rm.locals ≤ R.locals)
    (hws : ∀ w ∈ ws, ∀ a' U, s.WarmedH U.vm → w.before a' U = true) (hcode : Cond.code y bytes maxL ret ∈ ws) (hinit : ∀ a' U, s.WarmedH U.vm → (Cond.initialized y.cls).before a' U = true) :
    vx_Back l R p e below s sargs y len W9 (PreOf R mc ms Pc) (PostOf Qc mc ms free) (vx_Post XC mc ms free) := by
  intro m meth c A g ig mk a X hg hsize hdg hW hn hp
  have h1 : (headSpec ws rm).pre.before a A.U = true := atoms_intro fun w hw => hws w hw _ _ X.warmed
  have h2 : (Cond.code y bytes maxL ret).before a A.U = true := hws _ hcode _ _ X.warmed
  have h3 : (Cond.initialized y.cls).before a A.U = true := hinit _ _ X.warmed
  have h4 : A.cells + (headSpec ws rm).room.cells ≤ R.cells := by rw [show (headSpec ws rm).room.cells = mc from hrc]; exact hp.1
  have h5 : A.slots + (headSpec ws rm).room.slots ≤ R.slots := by rw [show (headSpec ws rm).room.slots = ms from hrs]; exact hp.2.1
  have hPc : Pc a (A.U.calling g mk a) := hblind _ _ _ _ hp.2.2
  obtain ⟨U, Ls, c0, s0⟩ := A
  dsimp only [Pt.U, Pt.locs, Pt.cells, Pt.slots] at h1 h2 h3 h4 h5 X hn hPc ⊢
  obtain ⟨methY, cY, hmY, hcY, -, hlY, -, -, -, -⟩ := Cond.code_spec hn h2
  obtain ⟨kY, hkY, -⟩ := className_of_methodNamed hn
  have hinitY : kY.init = .initialized := Cond.initialized_spec (findClass_of_methodNamed hn) hkY h3
  have h : At U g.method c below := by rw [hg]; exact X.here
  have hlocals9 : W9 + (maxL + 11) + (headSpec ws rm).room.locals ≤ R.locals := hlocals
  have happ : (headSpec ws rm).appliesLoose y e.platform (U.calling g mk a) = true :=
    Spec.appliesLoose_calling (g := g) h hdg hn hkY hinitY
      (X.room_calling (g := g) (R' := (headSpec ws rm).room) hsize hmY hcY hframes (by rw [hlY]; omega) h4 h5) h1
  obtain ⟨mid, hmid⟩ := h.above
  have hfr : (U.setTop g).frames = (.java g :: mid) ++ below := by rw [State.frames_setTop' g h.top, hmid]; rfl
  obtain ⟨o, s₂, hsteps, -, hend, hq⟩ := Steps.callFree hM p X.admits X.cas X.clock (acts := []) hfr happ hPc trivial
  have hq' : vx_Q Qc XC mc ms free a (U.calling g mk a) o s₂ := hq
  rw [State.frames_setTop' g h.top] at hend
  obtain ⟨g₀, hg0⟩ := Option.isSome_iff_exists.mp h.top
  obtain ⟨r, hr⟩ := State.topJava?_eq_some.mp hg0
  have hr' : (({ U with heap := s₂.heap, slotsUsed := s₂.slotsUsed } : State).setVm s₂.vm).frames = .java g₀ :: r := hr
  rcases hq' with ⟨hqc, L, hfe, hL⟩ | ⟨q, rfl, E, ce, L, hx, hce, hcv, hcl, hW₂, hsm, hL⟩
  · obtain ⟨⟨v, rfl⟩, hW₂, e2, q2, q3, q4, q5, q6⟩ := id hfe
    have e3 : s₂ = ({ (U.calling g mk a).setFrames s₂.frames with heap := s₂.heap, slotsUsed := s₂.slotsUsed } : State).setVm s₂.vm := by
      have : s₂ = ({ s₂ with vm := (U.calling g mk a).vm } : State).setVm s₂.vm := rfl
      rw [e2] at this
      exact this
    obtain ⟨c₂, i₂, len₂, hc₂, hd₂, hf₂⟩ := hend
    have hW' : U.WarmedH s₂.vm := hW₂
    have hcc : c₂ = c := by
      have h1 : s₂.code? g.method = U.code? g.method := by
        rw [State.code?_eq, State.code?_eq, hW'.alike.method?]
      exact Option.some.inj (hc₂.symm.trans (h1.trans h.code))
    subst hcc
    have hlen : len₂ = len := by rw [hdg] at hd₂; cases hd₂; rfl
    subst hlen
    have hs₂ : s₂ = (({ U with heap := s₂.heap, slotsUsed := s₂.slotsUsed } : State).setVm s₂.vm).setTop { g with pc := g.pc + len₂, stack := v.toList ++ g.stack } := by
      refine e3.trans ?_
      rw [hf₂, State.calling_eq h.top, State.setFrames_setFrames, State.setTop_of_frames _ hr', hr]
      rfl
    have hsame : U.sameButNew ({ U with heap := s₂.heap, slotsUsed := s₂.slotsUsed } : State) L mc ms := by
      refine ⟨?_, q2, q3, q4, q5, q6⟩
      obtain ⟨t, ht, -⟩ := State.frames_cons hr
      show ({ U with heap := s₂.heap, slotsUsed := s₂.slotsUsed } : State) = { U.setFrames U.frames with heap := s₂.heap, slotsUsed := s₂.slotsUsed }
      rw [State.setFrames_self ht]
    subst hg
    refine Or.inl ⟨v, ⟨(({ U with heap := s₂.heap, slotsUsed := s₂.slotsUsed } : State).setVm s₂.vm), Ls ++ L, c0 + mc, s0 + ms⟩,
      ⟨X.admits, X.cas, X.clock, X.frames, X.room, X.hears, X.method, X.code, (X.here.setHeapUsed s₂.heap s₂.slotsUsed).setVm hW'.alike, X.tail, State.WarmedH.trans X.warmed hW', X.limits, X.bytes, X.same.trans (hsame.setVm s.vm)⟩,
      ⟨g, mk, s₂, L, rfl, rfl, hqc, rfl, hL, rfl, rfl⟩, ?_⟩
    show Steps p.tables e below _ ((({ U with heap := s₂.heap, slotsUsed := s₂.slotsUsed } : State).setVm s₂.vm).setTop { g with pc := g.pc + len₂, stack := v.toList ++ g.stack })
    rw [← hs₂]
    exact hsteps
  · obtain ⟨e2, q2, q3, q4, q5, q6⟩ := id hsm
    have e3 : s₂ = ({ (U.calling g mk a).setFrames s₂.frames with heap := s₂.heap, slotsUsed := s₂.slotsUsed } : State).setVm s₂.vm := by
      have : s₂ = ({ s₂ with vm := (U.calling g mk a).vm } : State).setVm s₂.vm := rfl
      rw [e2] at this
      exact this
    have hf₂ : s₂.frames = .throwing q :: .java g :: U.frames.tail := hend
    have hW' : U.WarmedH s₂.vm := hW₂
    have hs₂ : s₂ = ((({ U with heap := s₂.heap, slotsUsed := s₂.slotsUsed } : State).setVm s₂.vm).setTop g).pushFrame (.throwing q) := by
      refine e3.trans ?_
      rw [hf₂, State.calling_eq h.top, State.setFrames_setFrames, State.pushFrame, State.frames_setTop _ hr', State.setTop_of_frames _ hr', State.setFrames_setFrames, hr]
      rfl
    have hsame : U.sameButNew ({ U with heap := s₂.heap, slotsUsed := s₂.slotsUsed } : State) L mc ms := by
      refine ⟨?_, q2, q3, q4, q5, q6⟩
      obtain ⟨t, ht, -⟩ := State.frames_cons hr
      show ({ U with heap := s₂.heap, slotsUsed := s₂.slotsUsed } : State) = { U.setFrames U.frames with heap := s₂.heap, slotsUsed := s₂.slotsUsed }
      rw [State.setFrames_self ht]
    subst hg
    refine Or.inr ⟨q, ⟨(({ U with heap := s₂.heap, slotsUsed := s₂.slotsUsed } : State).setVm s₂.vm), Ls ++ L, c0 + mc, s0 + ms⟩,
      ⟨X.admits, X.cas, X.clock, X.frames, X.room, X.hears, X.method, X.code, (X.here.setHeapUsed s₂.heap s₂.slotsUsed).setVm hW'.alike, X.tail, State.WarmedH.trans X.warmed hW', X.limits, X.bytes, X.same.trans (hsame.setVm s.vm)⟩,
      ⟨g, mk, s₂, L, E, ce, rfl, rfl, hx, hce, hcv, hcl, rfl, hL, rfl, rfl⟩, ?_⟩
    show Steps p.tables e below _ (((({ U with heap := s₂.heap, slotsUsed := s₂.slotsUsed } : State).setVm s₂.vm).setTop g).pushFrame (.throwing q))
    rw [← hs₂]
    exact hsteps
end Payer
section Calls
variable {p : Program} {l : Launch} {e : Env} {R : Room} {s : State} {m : MethodId} {args : Array Value} {below : List Frame} {meth : Method} {c : Code} {T : State} {locs : List Loc} {cells slots : Nat}
theorem vx_callV (X : Stand p l e R s m args below meth c T locs cells slots) (hexec : p.tables.exec = Jvm.exec) {own C : String} {index : Nat} {y : MethodName} {bytes : ByteArray} {maxL : Nat} {ret : Option FieldType}
    (hown : s.vm.findClass own = some m.cls) (hlink : (Cond.methodLink own index y).before args s = true) (hinst : (Cond.instanceMethod y).before args s = true) (hsel : (Cond.selects C y y).before args s = true)
    (hcode : (Cond.code y bytes maxL ret).before args s = true) (hy : y.cls ≠ "java/lang/invoke/MethodHandle" ∧ y.cls ≠ "java/lang/invoke/VarHandle")
    {W9 : Nat} {Pre : Pt → Array Value → Prop} {Post : Pt → Array Value → Option Value → Pt → Prop} {PostX : Pt → Array Value → Addr → Pt → Prop} (hK : vx_Back l R p e below s args y 3 W9 Pre Post PostX)
    {b : Addr} {cellB : Cell} (hcell : T.heap[b]? = some cellB) (hobj : cellB.vm.isStatics = false) (hcls : s.vm.findClass C = some cellB.cls)
    {g : JFrame} (hg : g.method = m) (hsize : g.locals.size = c.maxLocals) {argsL rest : List Value} (hlen : ∀ sig, parseMethodDescriptor y.desc = some sig → argsL.length = sig.parameters.length)
    (hstack : g.stack = argsL.reverse ++ .ref b :: rest) (hW : 2 * g.monitorRoom + (rest.map fun v => v.category).sum ≤ W9) (hdg : decode c.code g.pc = .ok (.invokevirtual index, 3))
    (hpre : ∀ vm₁, s.WarmedH vm₁ → Pre ⟨T.setVm vm₁, locs, cells, slots⟩ (Value.ref b :: argsL).toArray) :
    (∃ (v : Option Value) (vm₁ : Vm) (B : Pt), s.WarmedH vm₁ ∧ Stand p l e R s m args below meth c B.U B.locs B.cells B.slots ∧ Post ⟨T.setVm vm₁, locs, cells, slots⟩ (Value.ref b :: argsL).toArray v B ∧
      ∀ target, Steps p.tables e below (B.U.setTop { g with pc := g.pc + 3, stack := v.toList ++ rest }) target → Steps p.tables e below (T.setTop g) target) ∨
    (∃ (q : Addr) (vm₁ : Vm) (B : Pt), s.WarmedH vm₁ ∧ Stand p l e R s m args below meth c B.U B.locs B.cells B.slots ∧ PostX ⟨T.setVm vm₁, locs, cells, slots⟩ (Value.ref b :: argsL).toArray q B ∧
      Steps p.tables e below (T.setTop g) ((B.U.setTop { g with stack := rest }).pushFrame (.throwing q))) := by
  obtain ⟨mk, methM, hnamed, hmethM, hstM, habM⟩ := Cond.instanceMethod_spec hinst
  obtain ⟨methM', cM, hmethM', -, -, -, -, -, -, hsigM⟩ := Cond.code_spec hnamed hcode
  cases hmethM.symm.trans hmethM'
  obtain ⟨c2, r2, m2, q1, q2, q3, q4, kP, hkP, hkPi⟩ := Cond.selects_spec hsel
  cases hcls.symm.trans q1
  cases (State.methodFound?_of_named hnamed hy).symm.trans q2
  cases hnamed.symm.trans q3
  have hselP : selectMethod e.platform s.vm cellB.cls mk = .method mk := by rw [Launch.admits_selectMethod X.admits]; exact q4
  obtain ⟨vm₁, X₁, hstep₁⟩ := X.invokevirtual hexec hown hlink hnamed hmethM hstM hkP hkPi hy (a := b) (cell := cellB) hcell
    (fun z h => by rw [h] at hobj; cases hobj) hselP hmethM habM hkP hkPi (g := g) hg (argsL := argsL) (rest := rest) (hlen _ hsigM) hstack hdg
  rcases hK m meth c ⟨T.setVm vm₁, locs, cells, slots⟩ { g with stack := rest } (.invokevirtual index) mk (Value.ref b :: argsL).toArray X₁ hg hsize hdg hW (X₁.named hnamed) (hpre vm₁ X₁.warmed) with ⟨v, B, X', hpost, hsteps⟩ | ⟨q, B, X', hpost, hsteps⟩
  · exact Or.inl ⟨v, vm₁, B, X₁.warmed, X', hpost, fun target h => hstep₁ _ fun acts => by rw [doInvoke_state]; exact hsteps.trans h⟩
  · exact Or.inr ⟨q, vm₁, B, X₁.warmed, X', hpost, hstep₁ _ fun acts => by rw [doInvoke_state]; exact hsteps⟩
theorem vx_callS (X : Stand p l e R s m args below meth c T locs cells slots) (hexec : p.tables.exec = Jvm.exec) {own : String} {index : Nat} {y : MethodName} {bytes : ByteArray} {maxL : Nat} {ret : Option FieldType}
    (hown : s.vm.findClass own = some m.cls) (hlink : (Cond.methodLink own index y).before args s = true) (hstat : (Cond.static y).before args s = true) (hinit : (Cond.initialized y.cls).before args s = true)
    (hcode : (Cond.code y bytes maxL ret).before args s = true) (hy : y.cls ≠ "java/lang/invoke/MethodHandle" ∧ y.cls ≠ "java/lang/invoke/VarHandle")
    {W9 : Nat} {Pre : Pt → Array Value → Prop} {Post : Pt → Array Value → Option Value → Pt → Prop} {PostX : Pt → Array Value → Addr → Pt → Prop} (hK : vx_Back l R p e below s args y 3 W9 Pre Post PostX)
    {g : JFrame} (hg : g.method = m) (hsize : g.locals.size = c.maxLocals) {argsL rest : List Value} (hlen : ∀ sig, parseMethodDescriptor y.desc = some sig → argsL.length = sig.parameters.length)
    (hstack : g.stack = argsL.reverse ++ rest) (hW : 2 * g.monitorRoom + (rest.map fun v => v.category).sum ≤ W9) (hdg : decode c.code g.pc = .ok (.invokestatic index, 3))
    (hpre : ∀ vm₁, s.WarmedH vm₁ → Pre ⟨T.setVm vm₁, locs, cells, slots⟩ argsL.toArray) :
    (∃ (v : Option Value) (vm₁ : Vm) (B : Pt), s.WarmedH vm₁ ∧ Stand p l e R s m args below meth c B.U B.locs B.cells B.slots ∧ Post ⟨T.setVm vm₁, locs, cells, slots⟩ argsL.toArray v B ∧
      ∀ target, Steps p.tables e below (B.U.setTop { g with pc := g.pc + 3, stack := v.toList ++ rest }) target → Steps p.tables e below (T.setTop g) target) ∨
    (∃ (q : Addr) (vm₁ : Vm) (B : Pt), s.WarmedH vm₁ ∧ Stand p l e R s m args below meth c B.U B.locs B.cells B.slots ∧ PostX ⟨T.setVm vm₁, locs, cells, slots⟩ argsL.toArray q B ∧
      Steps p.tables e below (T.setTop g) ((B.U.setTop { g with stack := rest }).pushFrame (.throwing q))) := by
  obtain ⟨mk, hnamed⟩ := Cond.code_named hcode
  obtain ⟨methM, cM, hmethM, -, -, -, -, -, -, hsigM⟩ := Cond.code_spec hnamed hcode
  have hstatic : methM.isStatic = true := Cond.static_spec hnamed hmethM hstat
  obtain ⟨kP, hkP, -⟩ := className_of_methodNamed hnamed
  have hinitP : kP.init = .initialized := Cond.initialized_spec (findClass_of_methodNamed hnamed) hkP hinit
  obtain ⟨vm₁, X₁, hstep₁⟩ := X.invokestatic hexec hown hlink hnamed hmethM hstatic hkP hinitP hy (g := g) hg (argsL := argsL) (rest := rest) (hlen _ hsigM) hstack hdg
  rcases hK m meth c ⟨T.setVm vm₁, locs, cells, slots⟩ { g with stack := rest } (.invokestatic index) mk argsL.toArray X₁ hg hsize hdg hW (X₁.named hnamed) (hpre vm₁ X₁.warmed) with ⟨v, B, X', hpost, hsteps⟩ | ⟨q, B, X', hpost, hsteps⟩
  · exact Or.inl ⟨v, vm₁, B, X₁.warmed, X', hpost, fun target h => hstep₁ _ fun acts => by rw [doInvoke_state]; exact hsteps.trans h⟩
  · exact Or.inr ⟨q, vm₁, B, X₁.warmed, X', hpost, hstep₁ _ fun acts => by rw [doInvoke_state]; exact hsteps⟩
end Calls
theorem vx_cls {s : State} {T : State} {vm₁ : Vm} {E : String} {k : ClassId} (hW : s.WarmedH vm₁) (h : (T.setVm vm₁).vm.findClass E = some k) : s.vm.findClass E = some k := by
  have h1 : vm₁.findClass E = some k := h
  rw [hW.alike.findClass] at h1
  exact h1
/-- the method's frame g, with q thrown over it -/
def vx_W (p : Program) (l : Launch) (e : Env) (R : Room) (s : State) (m : MethodId) (args : Array Value) (below : List Frame) (meth : Method) (c : Code) (H : Heap) (locs : List Loc) (cells slots : Nat) (Q : State → Prop) (g : JFrame) (q : Addr) : Prop :=
  ∀ T : State, T.heap = H → Stand p l e R s m args below meth c T locs cells slots → ∃ t, Steps p.tables e below ((T.setTop g).pushFrame (.throwing q)) t ∧ Q t
def vx_Run (p : Program) (l : Launch) (e : Env) (R : Room) (s : State) (m : MethodId) (args : Array Value) (below : List Frame) (meth : Method) (c : Code) (H : Heap) (locs : List Loc) (cells slots mc ms : Nat) (g : JFrame) (rest : List Value) (Qa : State → Outcome → State → Prop) (XC : String → State → State → Prop) (free : Addr → Prop) : Prop :=
  ∀ T : State, T.heap = H → Stand p l e R s m args below meth c T locs cells slots →
    (∃ (v : Option Value) (st₀ t T' : State) (L : List Loc), st₀.heap = H ∧ Stand p l e R s m args below meth c T' (locs ++ L) (cells + mc) (slots + ms) ∧ (∀ q ∈ L, free q.base) ∧ T'.heap = t.heap ∧ T'.vm = t.vm ∧ Qa st₀ (.returned v) t ∧
      Goes p e below T g T' { g with pc := g.pc + 3, stack := v.toList ++ rest }) ∨
    (∃ (q : Addr) (st₀ t T' : State) (L : List Loc) (E : String) (ce : Cell), st₀.heap = H ∧ Stand p l e R s m args below meth c T' (locs ++ L) (cells + mc) (slots + ms) ∧ (∀ z ∈ L, free z.base) ∧ T'.heap = t.heap ∧ T'.vm = t.vm ∧ XC E st₀ t ∧ t.heap[q]? = some ce ∧ ce.vm = .none ∧ s.vm.findClass E = some ce.cls ∧
      Steps p.tables e below (T.setTop g) ((T'.setTop { g with stack := rest }).pushFrame (.throwing q)))
def vx_X {S : Type} (px : S → Prop) (B : String → S → State → Prop) (A : Nat → Prop) : String → State → State → Prop := fun E st t => ∃ u : S, px u ∧ B E u t ∧ va_F A st t
section Runs
variable {p : Program} {l : Launch} {e : Env} {R : Room} {s : State} {m : MethodId} {args : Array Value} {below : List Frame} {meth : Method} {c : Code} {H : Heap} {locs : List Loc} {cells slots : Nat}
variable {y : MethodName} {bytes cc : ByteArray} {maxL nL mc ms n index : Nat} {ret : Option FieldType} {ws : List Cond} {rm : Room} {Pc : Array Value → State → Prop} {Qc : Array Value → State → Outcome → State → Prop} {XC : String → State → State → Prop} {free : Addr → Prop} {Ts : List Cond} {own C : String} {b : Addr} {As rest : List Value} {g : JFrame}
theorem vx_callBack (cb : CallB R s args own index y bytes maxL ret ws rm mc ms n) (hM : vx_Met l y ws rm Pc Qc XC mc ms free) (hbl : FrameBlind Pc) : vx_Back l R p e below s args y 3 8 (PreOf R mc ms Pc) (PostOf Qc mc ms free) (vx_Post XC mc ms free) := by
  obtain ⟨hrc, hrs, hfr, hlo, hws, hcw, -, hini, -⟩ := cb
  exact vx_back (bytes := bytes) (maxL := maxL) (ret := ret) hM hbl hrc hrs hfr hlo hws hcw (fun a' U hW => word_at hW (Or.inl (by first | rfl | simp [Cond.onTables, Cond.keeps, Cond.steady])) hini)
theorem vx_runV (S : CallFix p m c cc nL s args Ts own) (hM : vx_Met l y ws rm Pc Qc XC mc ms free) (cw : CallW R s args own C index y bytes maxL ret ws rm mc ms n) (hp : PreV s H C b Pc As)
    (hg : g.method = m) (hn : As.length = n) (hsize : g.locals.size = nL) (hstack : g.stack = As.reverse ++ .ref b :: rest) (hW : 2 * g.monitorRoom + (rest.map fun v => v.category).sum ≤ 8) (hdg : decode cc g.pc = .ok (.invokevirtual index, 3)) (hf : cells + mc ≤ R.cells ∧ slots + ms ≤ R.slots) :
    vx_Run p l e R s m args below meth c H locs cells slots mc ms g rest (Qc (Value.ref b :: As).toArray) XC free := by
  have hK : vx_Back l R p e below s args y 3 8 (PreOf R mc ms Pc) (PostOf Qc mc ms free) (vx_Post XC mc ms free) := vx_callBack cw.1 hM hp.1
  obtain ⟨⟨-, -, -, -, -, -, hcode, -, hy, hlen, hl⟩, hin, hse⟩ := cw
  obtain ⟨hx, hb, hml, ho, -⟩ := S
  obtain ⟨-, ⟨cellB, hcB, hoB, hclB⟩, hPc⟩ := hp
  intro T hT X
  rcases vx_callV X hx (C := C) (bytes := bytes) (maxL := maxL) (ret := ret) ho hl hin hse hcode hy hK (by rw [hT]; exact hcB) hoB hclB hg (hsize.trans hml.symm) (argsL := As) (rest := rest) (fun sig h => hn.trans (hlen sig h)) hstack hW (by rw [hb]; exact hdg)
    (fun vm₁ hW₁ => ⟨hf.1, hf.2, hPc (T.setVm vm₁) hT hW₁⟩) with ⟨v, vm₁, ⟨U', l2, c2, s2⟩, hW₁, X', ⟨g', mk, t, L, e1, e2, hq, h1, hL, h2, h3⟩, st⟩ | ⟨q, vm₁, ⟨U', l2, c2, s2⟩, hW₁, X', ⟨g', mk, t, L, E, ce, e1, e2, hq, hce, hcv, hcl, h1, hL, h2, h3⟩, st⟩
  · dsimp only [Pt.U, Pt.locs, Pt.cells, Pt.slots] at X' e1 e2 h1 h2 h3 st
    subst h1; subst h2; subst h3
    exact Or.inl ⟨v, (T.setVm vm₁).calling g' mk (Value.ref b :: As).toArray, t, U', L, hT, X', hL, e1, e2, hq, st⟩
  · dsimp only [Pt.U, Pt.locs, Pt.cells, Pt.slots] at X' e1 e2 h1 h2 h3 st hcl
    subst h1; subst h2; subst h3
    exact Or.inr ⟨q, (T.setVm vm₁).calling g' mk (Value.ref b :: As).toArray, t, U', L, E, ce, hT, X', hL, e1, e2, hq, hce, hcv, vx_cls hW₁ hcl, st⟩
theorem vx_runS (S : CallFix p m c cc nL s args Ts own) (hM : vx_Met l y ws rm Pc Qc XC mc ms free) (cw : CallB R s args own index y bytes maxL ret ws rm mc ms n ∧ (Cond.static y).before args s = true) (hp : PreS s H Pc As)
    (hg : g.method = m) (hn : As.length = n) (hsize : g.locals.size = nL) (hstack : g.stack = As.reverse ++ rest) (hW : 2 * g.monitorRoom + (rest.map fun v => v.category).sum ≤ 8) (hdg : decode cc g.pc = .ok (.invokestatic index, 3)) (hf : cells + mc ≤ R.cells ∧ slots + ms ≤ R.slots) :
    vx_Run p l e R s m args below meth c H locs cells slots mc ms g rest (Qc As.toArray) XC free := by
  have hK : vx_Back l R p e below s args y 3 8 (PreOf R mc ms Pc) (PostOf Qc mc ms free) (vx_Post XC mc ms free) := vx_callBack cw.1 hM hp.1
  obtain ⟨⟨-, -, -, -, -, -, hcode, hini, hy, hlen, hl⟩, hstt⟩ := cw
  obtain ⟨hx, hb, hml, ho, -⟩ := S
  intro T hT X
  rcases vx_callS X hx (bytes := bytes) (maxL := maxL) (ret := ret) ho hl hstt hini hcode hy hK hg (hsize.trans hml.symm) (argsL := As) (rest := rest) (fun sig h => hn.trans (hlen sig h)) hstack hW (by rw [hb]; exact hdg)
    (fun vm₁ hW₁ => ⟨hf.1, hf.2, hp.2 (T.setVm vm₁) hT hW₁⟩) with ⟨v, vm₁, ⟨U', l2, c2, s2⟩, hW₁, X', ⟨g', mk, t, L, e1, e2, hq, h1, hL, h2, h3⟩, st⟩ | ⟨q, vm₁, ⟨U', l2, c2, s2⟩, hW₁, X', ⟨g', mk, t, L, E, ce, e1, e2, hq, hce, hcv, hcl, h1, hL, h2, h3⟩, st⟩
  · dsimp only [Pt.U, Pt.locs, Pt.cells, Pt.slots] at X' e1 e2 h1 h2 h3 st
    subst h1; subst h2; subst h3
    exact Or.inl ⟨v, (T.setVm vm₁).calling g' mk As.toArray, t, U', L, hT, X', hL, e1, e2, hq, st⟩
  · dsimp only [Pt.U, Pt.locs, Pt.cells, Pt.slots] at X' e1 e2 h1 h2 h3 st hcl
    subst h1; subst h2; subst h3
    exact Or.inr ⟨q, (T.setVm vm₁).calling g' mk As.toArray, t, U', L, E, ce, hT, X', hL, e1, e2, hq, hce, hcv, vx_cls hW₁ hcl, st⟩
end Runs
section Rows
variable {p : Program} {l : Launch} {e : Env} {R : Room} {s : State} {m : MethodId} {args : Array Value} {below : List Frame} {meth : Method} {c : Code} {H : Heap} {locs : List Loc} {cells slots : Nat} {Q : State → Prop}
variable {mc ms : Nat} {free : Addr → Prop} {A0 A1 : Nat → Prop} {H0 : Heap} {a : Array Value} {pc : Nat} {ls : Array Slot} {st0 rest : List Value}
theorem vx_keep {st₀ t T' : State} {L : List Loc} (h0 : st₀.heap = H) (e1 : T'.heap = t.heap) (hS : va_S A0 H0 H locs) (hA : ∀ q, q < H.size → A1 q → A0 q) (hf : ∀ q, free q → A0 q) (hL : ∀ q ∈ L, free q.base) (hF : va_F A1 st₀ t) :
    H.size ≤ T'.heap.size ∧ (∀ q : Nat, q < H.size → ¬ A1 q → T'.heap[q]? = H[q]?) ∧ va_S A0 H0 T'.heap (locs ++ L) := by
  obtain ⟨hz, hk⟩ := hF
  rw [h0] at hz hk
  exact ⟨by rw [e1]; exact hz, fun q h1 h2 => by rw [e1]; exact hk q h1 h2,
    ⟨Nat.le_trans hS.1 (by rw [e1]; exact hz), fun q h1 h2 => by rw [e1, hk q (Nat.lt_of_lt_of_le h1 hS.1) (fun z => h2 (hA q (Nat.lt_of_lt_of_le h1 hS.1) z))]; exact hS.2.1 q h1 h2, fun q hq => by
      rcases List.mem_append.mp hq with h | h
      · exact hS.2.2 q h
      · exact hf _ (hL q h)⟩⟩
theorem vx_calli {S SX : Type} {post : Int32 → S → Prop} {px : SX → Prop} {B : S → State → Prop} {BX : String → SX → State → Prop} {AX : Nat → Prop} (hr : vx_Run p l e R s m args below meth c H locs cells slots mc ms (F0 m pc ls st0) rest (va_Qi post B A1 a) (vx_X px BX AX) free) (hS : va_S A0 H0 H locs) (hA : ∀ q, q < H.size → A1 q → A0 q) (hf : ∀ q, free q → A0 q) (hAX : ∀ q, q < H.size → AX q → A0 q)
    (kx : ∀ (E : String) (ce : Cell) (q9 : Addr) (u : SX) (t : State) (H1 : Heap) (locs1 : List Loc), t.heap = H1 → s.vm.Alike t.vm → px u → BX E u t → H.size ≤ H1.size → (∀ q : Nat, q < H.size → ¬ AX q → H1[q]? = H[q]?) → va_S A0 H0 H1 locs1 → H1[q9]? = some ce → ce.vm = .none → s.vm.findClass E = some ce.cls → vx_W p l e R s m args below meth c H1 locs1 (cells + mc) (slots + ms) Q (F0 m pc ls rest) q9)
    (kk : ∀ (r : Int32) (u : S) (t : State) (H1 : Heap) (locs1 : List Loc), t.heap = H1 → s.vm.Alike t.vm → post r u → B u t → H.size ≤ H1.size → (∀ q : Nat, q < H.size → ¬ A1 q → H1[q]? = H[q]?) → va_S A0 H0 H1 locs1 → W p l e R s m args below meth c H1 locs1 (cells + mc) (slots + ms) Q (F0 m (pc + 3) ls (.int r :: rest))) : W p l e R s m args below meth c H locs cells slots Q (F0 m pc ls st0) := by
  intro T hT X
  rcases hr T hT X with ⟨v, st₀, t, T', L, h0, X', hL, e1, e2, ⟨⟨r, u, hv, hp, hb⟩, hF⟩, st⟩ | ⟨q, st₀, t, T', L, E, ce, h0, X', hL, e1, e2, ⟨u, hp, hb, hF⟩, hce, hcv, hcl, st⟩
  · cases hv
    obtain ⟨k1, k2, k3⟩ := vx_keep h0 e1 hS hA hf hL hF
    obtain ⟨t2, a1, b1⟩ := kk r u t T'.heap (locs ++ L) e1.symm (by rw [← e2]; exact X'.warmed.alike) hp hb k1 k2 k3 T' rfl X'
    exact ⟨t2, st t2 a1, b1⟩
  · obtain ⟨k1, k2, k3⟩ := vx_keep h0 e1 hS hAX hf hL hF
    obtain ⟨t2, a1, b1⟩ := kx E ce q u t T'.heap (locs ++ L) e1.symm (by rw [← e2]; exact X'.warmed.alike) hp hb k1 k2 k3 (by rw [e1]; exact hce) hcv hcl T' rfl X'
    exact ⟨t2, st.trans a1, b1⟩
theorem vx_calll {S SX : Type} {post : Int64 → S → Prop} {px : SX → Prop} {B : S → State → Prop} {BX : String → SX → State → Prop} {AX : Nat → Prop} (hr : vx_Run p l e R s m args below meth c H locs cells slots mc ms (F0 m pc ls st0) rest (va_Ql post B A1 a) (vx_X px BX AX) free) (hS : va_S A0 H0 H locs) (hA : ∀ q, q < H.size → A1 q → A0 q) (hf : ∀ q, free q → A0 q) (hAX : ∀ q, q < H.size → AX q → A0 q)
    (kx : ∀ (E : String) (ce : Cell) (q9 : Addr) (u : SX) (t : State) (H1 : Heap) (locs1 : List Loc), t.heap = H1 → s.vm.Alike t.vm → px u → BX E u t → H.size ≤ H1.size → (∀ q : Nat, q < H.size → ¬ AX q → H1[q]? = H[q]?) → va_S A0 H0 H1 locs1 → H1[q9]? = some ce → ce.vm = .none → s.vm.findClass E = some ce.cls → vx_W p l e R s m args below meth c H1 locs1 (cells + mc) (slots + ms) Q (F0 m pc ls rest) q9)
    (kk : ∀ (r : Int64) (u : S) (t : State) (H1 : Heap) (locs1 : List Loc), t.heap = H1 → s.vm.Alike t.vm → post r u → B u t → H.size ≤ H1.size → (∀ q : Nat, q < H.size → ¬ A1 q → H1[q]? = H[q]?) → va_S A0 H0 H1 locs1 → W p l e R s m args below meth c H1 locs1 (cells + mc) (slots + ms) Q (F0 m (pc + 3) ls (.long r :: rest))) : W p l e R s m args below meth c H locs cells slots Q (F0 m pc ls st0) := by
  intro T hT X
  rcases hr T hT X with ⟨v, st₀, t, T', L, h0, X', hL, e1, e2, ⟨⟨r, u, hv, hp, hb⟩, hF⟩, st⟩ | ⟨q, st₀, t, T', L, E, ce, h0, X', hL, e1, e2, ⟨u, hp, hb, hF⟩, hce, hcv, hcl, st⟩
  · cases hv
    obtain ⟨k1, k2, k3⟩ := vx_keep h0 e1 hS hA hf hL hF
    obtain ⟨t2, a1, b1⟩ := kk r u t T'.heap (locs ++ L) e1.symm (by rw [← e2]; exact X'.warmed.alike) hp hb k1 k2 k3 T' rfl X'
    exact ⟨t2, st t2 a1, b1⟩
  · obtain ⟨k1, k2, k3⟩ := vx_keep h0 e1 hS hAX hf hL hF
    obtain ⟨t2, a1, b1⟩ := kx E ce q u t T'.heap (locs ++ L) e1.symm (by rw [← e2]; exact X'.warmed.alike) hp hb k1 k2 k3 (by rw [e1]; exact hce) hcv hcl T' rfl X'
    exact ⟨t2, st.trans a1, b1⟩
theorem vx_callf {S SX : Type} {post : UInt32 → S → Prop} {px : SX → Prop} {B : S → State → Prop} {BX : String → SX → State → Prop} {AX : Nat → Prop} (hr : vx_Run p l e R s m args below meth c H locs cells slots mc ms (F0 m pc ls st0) rest (va_Qf post B A1 a) (vx_X px BX AX) free) (hS : va_S A0 H0 H locs) (hA : ∀ q, q < H.size → A1 q → A0 q) (hf : ∀ q, free q → A0 q) (hAX : ∀ q, q < H.size → AX q → A0 q)
    (kx : ∀ (E : String) (ce : Cell) (q9 : Addr) (u : SX) (t : State) (H1 : Heap) (locs1 : List Loc), t.heap = H1 → s.vm.Alike t.vm → px u → BX E u t → H.size ≤ H1.size → (∀ q : Nat, q < H.size → ¬ AX q → H1[q]? = H[q]?) → va_S A0 H0 H1 locs1 → H1[q9]? = some ce → ce.vm = .none → s.vm.findClass E = some ce.cls → vx_W p l e R s m args below meth c H1 locs1 (cells + mc) (slots + ms) Q (F0 m pc ls rest) q9)
    (kk : ∀ (r : UInt32) (u : S) (t : State) (H1 : Heap) (locs1 : List Loc), t.heap = H1 → s.vm.Alike t.vm → post r u → B u t → H.size ≤ H1.size → (∀ q : Nat, q < H.size → ¬ A1 q → H1[q]? = H[q]?) → va_S A0 H0 H1 locs1 → W p l e R s m args below meth c H1 locs1 (cells + mc) (slots + ms) Q (F0 m (pc + 3) ls (.float r :: rest))) : W p l e R s m args below meth c H locs cells slots Q (F0 m pc ls st0) := by
  intro T hT X
  rcases hr T hT X with ⟨v, st₀, t, T', L, h0, X', hL, e1, e2, ⟨⟨r, u, hv, hp, hb⟩, hF⟩, st⟩ | ⟨q, st₀, t, T', L, E, ce, h0, X', hL, e1, e2, ⟨u, hp, hb, hF⟩, hce, hcv, hcl, st⟩
  · cases hv
    obtain ⟨k1, k2, k3⟩ := vx_keep h0 e1 hS hA hf hL hF
    obtain ⟨t2, a1, b1⟩ := kk r u t T'.heap (locs ++ L) e1.symm (by rw [← e2]; exact X'.warmed.alike) hp hb k1 k2 k3 T' rfl X'
    exact ⟨t2, st t2 a1, b1⟩
  · obtain ⟨k1, k2, k3⟩ := vx_keep h0 e1 hS hAX hf hL hF
    obtain ⟨t2, a1, b1⟩ := kx E ce q u t T'.heap (locs ++ L) e1.symm (by rw [← e2]; exact X'.warmed.alike) hp hb k1 k2 k3 (by rw [e1]; exact hce) hcv hcl T' rfl X'
    exact ⟨t2, st.trans a1, b1⟩
theorem vx_calld {S SX : Type} {post : UInt64 → S → Prop} {px : SX → Prop} {B : S → State → Prop} {BX : String → SX → State → Prop} {AX : Nat → Prop} (hr : vx_Run p l e R s m args below meth c H locs cells slots mc ms (F0 m pc ls st0) rest (va_Qd post B A1 a) (vx_X px BX AX) free) (hS : va_S A0 H0 H locs) (hA : ∀ q, q < H.size → A1 q → A0 q) (hf : ∀ q, free q → A0 q) (hAX : ∀ q, q < H.size → AX q → A0 q)
    (kx : ∀ (E : String) (ce : Cell) (q9 : Addr) (u : SX) (t : State) (H1 : Heap) (locs1 : List Loc), t.heap = H1 → s.vm.Alike t.vm → px u → BX E u t → H.size ≤ H1.size → (∀ q : Nat, q < H.size → ¬ AX q → H1[q]? = H[q]?) → va_S A0 H0 H1 locs1 → H1[q9]? = some ce → ce.vm = .none → s.vm.findClass E = some ce.cls → vx_W p l e R s m args below meth c H1 locs1 (cells + mc) (slots + ms) Q (F0 m pc ls rest) q9)
    (kk : ∀ (r : UInt64) (u : S) (t : State) (H1 : Heap) (locs1 : List Loc), t.heap = H1 → s.vm.Alike t.vm → post r u → B u t → H.size ≤ H1.size → (∀ q : Nat, q < H.size → ¬ A1 q → H1[q]? = H[q]?) → va_S A0 H0 H1 locs1 → W p l e R s m args below meth c H1 locs1 (cells + mc) (slots + ms) Q (F0 m (pc + 3) ls (.double r :: rest))) : W p l e R s m args below meth c H locs cells slots Q (F0 m pc ls st0) := by
  intro T hT X
  rcases hr T hT X with ⟨v, st₀, t, T', L, h0, X', hL, e1, e2, ⟨⟨r, u, hv, hp, hb⟩, hF⟩, st⟩ | ⟨q, st₀, t, T', L, E, ce, h0, X', hL, e1, e2, ⟨u, hp, hb, hF⟩, hce, hcv, hcl, st⟩
  · cases hv
    obtain ⟨k1, k2, k3⟩ := vx_keep h0 e1 hS hA hf hL hF
    obtain ⟨t2, a1, b1⟩ := kk r u t T'.heap (locs ++ L) e1.symm (by rw [← e2]; exact X'.warmed.alike) hp hb k1 k2 k3 T' rfl X'
    exact ⟨t2, st t2 a1, b1⟩
  · obtain ⟨k1, k2, k3⟩ := vx_keep h0 e1 hS hAX hf hL hF
    obtain ⟨t2, a1, b1⟩ := kx E ce q u t T'.heap (locs ++ L) e1.symm (by rw [← e2]; exact X'.warmed.alike) hp hb k1 k2 k3 (by rw [e1]; exact hce) hcv hcl T' rfl X'
    exact ⟨t2, st.trans a1, b1⟩
theorem vx_callv {S SX : Type} {post : S → Prop} {px : SX → Prop} {B : S → State → Prop} {BX : String → SX → State → Prop} {AX : Nat → Prop} (hr : vx_Run p l e R s m args below meth c H locs cells slots mc ms (F0 m pc ls st0) rest (va_Qv post B A1 a) (vx_X px BX AX) free) (hS : va_S A0 H0 H locs) (hA : ∀ q, q < H.size → A1 q → A0 q) (hf : ∀ q, free q → A0 q) (hAX : ∀ q, q < H.size → AX q → A0 q)
    (kx : ∀ (E : String) (ce : Cell) (q9 : Addr) (u : SX) (t : State) (H1 : Heap) (locs1 : List Loc), t.heap = H1 → s.vm.Alike t.vm → px u → BX E u t → H.size ≤ H1.size → (∀ q : Nat, q < H.size → ¬ AX q → H1[q]? = H[q]?) → va_S A0 H0 H1 locs1 → H1[q9]? = some ce → ce.vm = .none → s.vm.findClass E = some ce.cls → vx_W p l e R s m args below meth c H1 locs1 (cells + mc) (slots + ms) Q (F0 m pc ls rest) q9)
    (kk : ∀ (u : S) (t : State) (H1 : Heap) (locs1 : List Loc), t.heap = H1 → s.vm.Alike t.vm → post u → B u t → H.size ≤ H1.size → (∀ q : Nat, q < H.size → ¬ A1 q → H1[q]? = H[q]?) → va_S A0 H0 H1 locs1 → W p l e R s m args below meth c H1 locs1 (cells + mc) (slots + ms) Q (F0 m (pc + 3) ls (rest))) : W p l e R s m args below meth c H locs cells slots Q (F0 m pc ls st0) := by
  intro T hT X
  rcases hr T hT X with ⟨v, st₀, t, T', L, h0, X', hL, e1, e2, ⟨⟨u, hv, hp, hb⟩, hF⟩, st⟩ | ⟨q, st₀, t, T', L, E, ce, h0, X', hL, e1, e2, ⟨u, hp, hb, hF⟩, hce, hcv, hcl, st⟩
  · cases hv
    obtain ⟨k1, k2, k3⟩ := vx_keep h0 e1 hS hA hf hL hF
    obtain ⟨t2, a1, b1⟩ := kk u t T'.heap (locs ++ L) e1.symm (by rw [← e2]; exact X'.warmed.alike) hp hb k1 k2 k3 T' rfl X'
    exact ⟨t2, st t2 a1, b1⟩
  · obtain ⟨k1, k2, k3⟩ := vx_keep h0 e1 hS hAX hf hL hF
    obtain ⟨t2, a1, b1⟩ := kx E ce q u t T'.heap (locs ++ L) e1.symm (by rw [← e2]; exact X'.warmed.alike) hp hb k1 k2 k3 (by rw [e1]; exact hce) hcv hcl T' rfl X'
    exact ⟨t2, st.trans a1, b1⟩
/-- caught by the row x of this method's table; the rows ahead don't take it -/
theorem vx_catch {own name : String} {E : String} {ce : Cell} {q : Addr} (hown : s.vm.findClass own = some m.cls) (pre : List ExceptionTableEntry) (x : ExceptionTableEntry) (suf : List ExceptionTableEntry) (hsplit : c.exceptionTable.toList = pre ++ x :: suf)
    (hpass : ∀ z ∈ pre, covers z pc = false ∨ (z.catchType ≠ 0 ∧ ∃ nm : String, (Cond.classLink own z.catchType nm).before args s = true ∧ va_Nc E nm s)) (hx : covers x pc = true) (h0 : x.catchType ≠ 0)
    (hlink : (Cond.classLink own x.catchType name).before args s = true) (hcast : (Cond.castable E name).before args s = true) (hcell : H[q]? = some ce) (hv : ce.vm = .none) (hcl : s.vm.findClass E = some ce.cls)
    (kk : W p l e R s m args below meth c H locs cells slots Q (F0 m x.handlerPc ls [.ref q])) : vx_W p l e R s m args below meth c H locs cells slots Q (F0 m pc ls rest) q := by
  intro T hT X
  have hpl : e.platform.magicAccessors = ({} : Platform).magicAccessors := by rw [X.admits.platform]
  obtain ⟨c3, c4, hc3, hc4, hasg⟩ := Cond.castable_spec hcast
  cases Option.some.inj (hc3.symm.trans hcl)
  obtain ⟨c5, hc5, hcl5⟩ := Cond.classLink_spec hown hlink e.platform hpl
  cases Option.some.inj (hc4.symm.trans hc5)
  obtain ⟨vm', X', st⟩ := X.thenCaughtThrough q (g := F0 m pc ls rest) rfl (Steps.refl _) (by rw [hT]; exact hcell) (by rw [hv]; rfl) (by obtain ⟨k9, h9, -⟩ := Vm.findClass_spec hcl; exact ⟨k9, h9⟩) pre x suf hsplit
    (fun z hz => by
      rcases hpass z hz with h | ⟨hz0, nm, hl1, hn1⟩
      · exact Or.inl h
      · obtain ⟨c6, hc6, hcl6⟩ := Cond.classLink_spec hown hl1 e.platform hpl
        obtain ⟨a8, b8, h1, h2, h3⟩ := hn1
        cases Option.some.inj (h1.symm.trans hcl)
        cases Option.some.inj (h2.symm.trans hc6)
        exact Or.inr ⟨hz0, _, hcl6, h3⟩) hx (Or.inr ⟨h0, c4, hcl5, hasg⟩)
  obtain ⟨t, a1, b1⟩ := kk (T.setVm vm') hT X'
  exact ⟨t, st.trans a1, b1⟩
end Rows
section Ends
variable {p : Program} {l : Launch} {e : Env} {R : Room} {s : State} {m : MethodId} {args : Array Value} {below : List Frame} {meth : Method} {c : Code} {H : Heap} {locs : List Loc} {cells slots : Nat} {Q : State → Prop}
variable {mc ms : Nat} {free : Addr → Prop} {A0 A1 : Nat → Prop} {H0 : Heap} {a : Array Value} {ls : Array Slot} {st0 rest : List Value}
variable {Qc : Array Value → State → Outcome → State → Prop} {XC : String → State → State → Prop}
/-- what a body that may throw owes at its end -/
def vx_MQ (below : List Frame) (Qc : Array Value → State → Outcome → State → Prop) (XC : String → State → State → Prop) (a : Array Value) (s : State) (mc ms : Nat) (free : Addr → Prop) : State → Prop := fun t =>
  ∃ o, t.status = .running ∧ Ended t below o ∧ vx_Q Qc XC mc ms free a s o t
theorem vx_ret {g : JFrame} {mc ms : Nat} (k : W p l e R s m args below meth c H locs cells slots (MQ below Qc args s mc ms free) g) : W p l e R s m args below meth c H locs cells slots (vx_MQ below Qc XC args s mc ms free) g := by
  intro T hT X
  obtain ⟨t, a1, o, b1, b2, b3, b4⟩ := k T hT X
  exact ⟨t, a1, o, b1, b2, Or.inl ⟨b3, b4⟩⟩
/-- not caught here: it goes on to the caller -/
theorem vx_widen {g : JFrame} {q : Addr} {k n : Nat} (h1 : cells ≤ k) (h2 : slots ≤ n) (kk : vx_W p l e R s m args below meth c H locs k n Q g q) : vx_W p l e R s m args below meth c H locs cells slots Q g q := fun T hT X => kk T hT (stand_widen X h1 h2)
theorem vx_out {pc : Nat} {E : String} {ce : Cell} {q : Addr} {mc ms : Nat} (hout : ∀ x ∈ c.exceptionTable.toList, covers x pc = false) (hlocks : meth.locks = false) (hcell : H[q]? = some ce) (hv : ce.vm = .none) (hcl : s.vm.findClass E = some ce.cls)
    (hx : ∀ t : State, t.heap = H → s.vm.Alike t.vm → XC E s t) (hf : ∀ z ∈ locs, free z.base) (hc : cells ≤ mc) (hs : slots ≤ ms) :
    vx_W p l e R s m args below meth c H locs cells slots (vx_MQ below Qc XC args s mc ms free) (F0 m pc ls rest) q := by
  intro T hT X
  obtain ⟨st1, hrun, hend, hW, hsm⟩ := X.leaveThrown q (g := F0 m pc ls rest) rfl rfl rfl hout hlocks
  have hcell9 : (T.setFrames (.throwing q :: below)).heap[q]? = some ce := by
    show T.heap[q]? = some ce
    rw [hT]; exact hcell
  exact ⟨_, st1, .threw q, hrun, hend, Or.inr ⟨q, rfl, E, ce, locs, hx _ hT hW.alike, hcell9, hv, hcl, hW, hsm.mono hc hs, hf⟩⟩
theorem vx_frame {U : State} {k n : Nat} (h : s.sameButNew ({ U with vm := s.vm } : State) locs k n) : s.heap.size ≤ U.heap.size ∧ ∀ q : Nat, q < s.heap.size → (∀ z ∈ locs, z.base ≠ q) → U.heap[q]? = s.heap[q]? := by
  obtain ⟨-, h2, -, -, -, h6⟩ := h
  refine ⟨h2, fun q hq hz => ?_⟩
  obtain ⟨c9, e1, e2, e3, e4⟩ := h6 q _ (Array.getElem?_eq_getElem hq)
  have hs : c9.slots = (s.heap[q]).slots := Array.ext_getElem? fun i => e4 i fun hm => hz _ hm rfl
  have h9 : c9 = s.heap[q] := by
    rw [hs] at e2
    exact e2
  have e5 : U.heap[q]? = some c9 := e1
  rw [e5, h9, Array.getElem?_eq_getElem hq]
/-- the words of a throw but the four that speak of the heap -/
def vx_no (w : Cond) : Bool := decide (w ≠ .isRef (.static Bundle.tN "UNASSIGNED_STACK" Bundle.steD)) && decide (w ≠ .isRef (.static Bundle.tN "SUPPRESSED_SENTINEL" Bundle.listD)) && decide (w ≠ .laysStatic Bundle.tN "UNASSIGNED_STACK" Bundle.steD) && decide (w ≠ .laysStatic Bundle.tN "SUPPRESSED_SENTINEL" Bundle.listD)
def vx_at0 (own : String) (ic : Nat) (X : String) (names : List String) : List Cond := (Bundle.ownAtoms0 own ic X names).filter vx_no
def vx_atS (own : String) (ic : Nat) (X : String) (names : List String) : List Cond := (Bundle.ownAtoms own ic X names).filter vx_no
/-- a word that the tables alone decide, or a good one -/
def vx_ot (w : Cond) : Bool := w.onTables || goodWord w
theorem vx_ot_at {args a' : Array Value} {s U : State} {w : Cond} (hW : s.WarmedH U.vm) (hvm : s.vm = U.vm) (hg : vx_ot w = true) (h : w.before args s = true) : w.before a' U = true := by
  simp only [vx_ot, Bool.or_eq_true] at hg
  rcases hg with hg | hg
  · exact va_tabs hg hvm h
  · exact word_at hW (good_of_word hg) h
/-- a list's words: the good ones out of the method's own list, the others by premises of their own -/
theorem vx_hat {args : Array Value} {s : State} {L B : List Cond} (h1 : ∀ w ∈ L.filter goodWord, w.before args s = true) (h2 : ∀ w ∈ L.filter (fun w => !goodWord w), w ∈ B) (h3 : ∀ w ∈ B, w.before args s = true) : ∀ w ∈ L, w.before args s = true := by
  intro w hw
  by_cases g : goodWord w = true
  · exact h1 w (List.mem_filter.mpr ⟨hw, g⟩)
  · refine h3 w (h2 w (List.mem_filter.mpr ⟨hw, ?_⟩))
    show (!goodWord w) = true
    cases hgw : goodWord w
    · rfl
    · exact absurd hgw g
theorem vx_c {args : Array Value} {s : State} {w : Cond} {B : List Cond} (h : w.before args s = true) (t : ∀ w ∈ B, w.before args s = true) : ∀ w' ∈ w :: B, w'.before args s = true := fun w' h' => (List.mem_cons.mp h').elim (fun e => by rw [e]; exact h) (t w')
theorem vx_n {args : Array Value} {s : State} : ∀ w ∈ ([] : List Cond), w.before args s = true := fun _ h => nomatch h
theorem vx_own {args : Array Value} {s : State} {L : List Cond} (h1 : ∀ w ∈ L.filter vx_no, w.before args s = true)
    (hU : (Cond.isRef (.static Bundle.tN "UNASSIGNED_STACK" Bundle.steD)).before args s = true) (hN : (Cond.isRef (.static Bundle.tN "SUPPRESSED_SENTINEL" Bundle.listD)).before args s = true)
    (lU : (Cond.laysStatic Bundle.tN "UNASSIGNED_STACK" Bundle.steD).before args s = true) (lN : (Cond.laysStatic Bundle.tN "SUPPRESSED_SENTINEL" Bundle.listD).before args s = true) : ∀ w ∈ L, w.before args s = true := by
  intro w hw
  by_cases e1 : w = .isRef (.static Bundle.tN "UNASSIGNED_STACK" Bundle.steD)
  · rw [e1]; exact hU
  · by_cases e2 : w = .isRef (.static Bundle.tN "SUPPRESSED_SENTINEL" Bundle.listD)
    · rw [e2]; exact hN
    · by_cases e3 : w = .laysStatic Bundle.tN "UNASSIGNED_STACK" Bundle.steD
      · rw [e3]; exact lU
      · by_cases e4 : w = .laysStatic Bundle.tN "SUPPRESSED_SENTINEL" Bundle.listD
        · rw [e4]; exact lN
        · exact h1 w (List.mem_filter.mpr ⟨hw, by unfold vx_no; rw [decide_eq_true e1, decide_eq_true e2, decide_eq_true e3, decide_eq_true e4]; rfl⟩)
/-- where a static field lies, its class's statics cell in H -/
def vx_L (C n d : String) (A : Nat → Prop) (U : State) (H : Heap) : Prop := ∃ (c : ClassId) (k : Class) (i : Nat) (f : Field) (a : Nat) (cell : Cell), U.vm.findClass C = some c ∧ U.fieldFound? C n d = some (c, k, i, f) ∧ f.isStatic = true ∧ k.statics = some a ∧ H[a]? = some cell ∧ cell.vm.isStatics = true ∧ cell.cls = c ∧ f.slot < cell.slots.size ∧ k.staticTypes[f.slot]? = some f.type ∧ ¬ A a
theorem vx_L.moved {C n d : String} {A : Nat → Prop} {u U : State} {H : Heap} (hvm : u.vm.Alike U.vm) (h : vx_L C n d A u H) : vx_L C n d A U H := by
  obtain ⟨c, k, i, f, a, cell, h1, h2, h3, h4, h5, h6, h7, h8, h9, h10⟩ := h
  obtain ⟨k', hi', he⟩ := State.fieldFound?_setVm hvm h2
  exact ⟨c, k', i, f, a, cell, by rw [hvm.findClass]; exact h1, hi', h3, by rw [he]; exact h4, h5, h6, h7, h8, by rw [he]; exact h9, h10⟩
theorem vx_L.kept {C n d : String} {A : Nat → Prop} {U : State} {H H1 : Heap} (h : vx_L C n d A U H) (hq : ∀ a : Nat, a < H.size → ¬ A a → H1[a]? = H[a]?) : vx_L C n d A U H1 := by
  obtain ⟨c, k, i, f, a, cell, h1, h2, h3, h4, h5, h6, h7, h8, h9, h10⟩ := h
  exact ⟨c, k, i, f, a, cell, h1, h2, h3, h4, by rw [hq a (Array.getElem?_eq_some_iff.mp h5).1 h10]; exact h5, h6, h7, h8, h9, h10⟩
theorem vx_L.narrow {C n d : String} {A B : Nat → Prop} {U : State} {H : Heap} (h : vx_L C n d A U H) (hAB : ∀ q, B q → A q) : vx_L C n d B U H := by
  obtain ⟨c, k, i, f, a, cell, h1, h2, h3, h4, h5, h6, h7, h8, h9, h10⟩ := h
  exact ⟨c, k, i, f, a, cell, h1, h2, h3, h4, h5, h6, h7, h8, h9, fun z => h10 (hAB _ z)⟩
theorem vx_L.word {C n d : String} {A : Nat → Prop} {s : State} {args : Array Value} (h : vx_L C n d A s s.heap) : (Cond.laysStatic C n d).before args s = true := by
  obtain ⟨c, k, i, f, a, cell, h1, h2, h3, h4, h5, h6, h7, h8, h9, -⟩ := h
  show (Cond.laysStatic C n d).holds args s none s [] = true
  exact Cond.laysStatic_of h1 h2 h3 h4 h5 h6 h7 h8 h9
/-- .. and what it holds: null or some reference -/
def vx_Zq (C n d : String) (A : Nat → Prop) (U : State) (H : Heap) : Prop := va_Zq C n d A U H ∧ vx_L C n d A U H
theorem vx_Zq.moved {C n d : String} {A : Nat → Prop} {u U : State} {H : Heap} (hvm : u.vm.Alike U.vm) (h : vx_Zq C n d A u H) : vx_Zq C n d A U H := ⟨va_Zq.moved hvm h.1, vx_L.moved hvm h.2⟩
theorem vx_Zq.kept {C n d : String} {A : Nat → Prop} {U : State} {H H1 : Heap} (h : vx_Zq C n d A U H) (hq : ∀ a : Nat, a < H.size → ¬ A a → H1[a]? = H[a]?) : vx_Zq C n d A U H1 := ⟨va_Zq.kept h.1 hq, vx_L.kept h.2 hq⟩
theorem vx_Zq.narrow {C n d : String} {A B : Nat → Prop} {U : State} {H : Heap} (h : vx_Zq C n d A U H) (hAB : ∀ q, B q → A q) : vx_Zq C n d B U H := ⟨va_Zq.narrow h.1 hAB, vx_L.narrow h.2 hAB⟩
theorem vx_Zqof {args : Array Value} {s : State} {C n d : String} {A : Nat → Prop} (hl : (Cond.laysStatic C n d).before args s = true) (hini : (Cond.initialized C).before args s = true) (h : (Cond.isRef (.static C n d)).before args s = true) (hA : ∀ a : Nat, a < s.heap.size → ¬ A a) : vx_Zq C n d A s s.heap := by
  refine ⟨va_Zqof hl hini h hA, ?_⟩
  obtain ⟨c, k, i, f, a, cell, h1, h2, h3, h4, h5, h6, h7, h8, h9⟩ := Cond.laysStatic_spec hl
  exact ⟨c, k, i, f, a, cell, h1, h2, h3, h4, h5, h6, h7, h8, h9, hA a (Array.getElem?_eq_some_iff.mp h5).1⟩
theorem vx_isRef {C n d : String} {v : Value} {A : Nat → Prop} {s : State} {args : Array Value} (h : va_Z C n d v A s s.heap) (hv : v.isRef = true) : (Cond.isRef (.static C n d)).before args s = true := by
  obtain ⟨cf, kf, fi, f, a, cell, h1, h2, h3, h4, h5, h6, h7, -⟩ := h
  have he : (Term.static C n d).eval args s none [] s = some v := by
    simp [Term.eval, State.fieldNamed?, h1, h2, h4, h5, h6, h7]
  simp only [Cond.before, Cond.holds, Cond.value, he]
  cases v <;> simp_all [Value.isRef]
theorem vx_isRefq {C n d : String} {A : Nat → Prop} {s : State} {args : Array Value} (h : va_Zq C n d A s s.heap) : (Cond.isRef (.static C n d)).before args s = true := by
  rcases h with h | ⟨t, h⟩
  · exact vx_isRef h rfl
  · exact vx_isRef h rfl
/-- the same frame, seen from here: as if the method were called anew in this heap -/
theorem vx_rebase {T : State} (X : Stand p l e R s m args below meth c T locs cells slots) {R' : Room} (hf : R'.frames ≤ R.frames) (hl : R'.locals ≤ R.locals) (hc : cells + R'.cells ≤ R.cells) (hs : slots + R'.slots ≤ R.slots) :
    Stand p l e R' ((T.setVm s.vm).setFrames (.invoking m args :: below)) m args below meth c T [] 0 0 := by
  have htop : (T.setVm s.vm).topJava?.isSome := X.here.top
  have hF : ((T.setVm s.vm).setFrames (.invoking m args :: below)).frames = .invoking m args :: below := State.frames_setFrames _ (State.cur_lt_of_top htop)
  obtain ⟨g₀, hg0⟩ := Option.isSome_iff_exists.mp htop
  obtain ⟨r, hr⟩ := State.topJava?_eq_some.mp hg0
  have hl9 : e.platform.stackLimits (T.setVm s.vm).me = e.platform.stackLimits s.me := X.limits
  have hb9 : (T.setVm s.vm).me.stackBytes = s.me.stackBytes := X.bytes
  refine ⟨X.admits, X.cas, X.clock, hF, ?_, X.hears, X.method, X.code, X.here, X.tail, X.warmed, ?_, ?_, ?_⟩
  · have h := X.room
    have hU : ((T.setVm s.vm).setFrames (.invoking m args :: below)).localsInUse = s.localsInUse := by
      rw [State.localsInUse_invoking hF (meth := meth) (c := c) X.method X.code, State.localsInUse_invoking X.frames X.method X.code]
    simp only [State.hasRoom, Bool.and_eq_true, decide_eq_true_eq] at h ⊢
    obtain ⟨⟨⟨⟨h1, h2, h3, h4, h5, h6⟩, h7⟩, h8⟩, h9⟩ := h
    rw [X.frames, List.length_cons] at h2 h3
    have q1 := X.heapSize
    have q2 := X.used
    simp only [hF, hU, List.length_cons, State.stackLimits_setFrames, State.stackBytes_setFrames, hl9, hb9]
    refine ⟨⟨⟨⟨by omega, by omega, by omega, by omega, by omega, h6⟩, ?_⟩, ?_⟩, X.book⟩
    · show T.heap.size + R'.cells ≤ e.platform.maxCells
      omega
    · show T.slotsUsed + R'.slots ≤ e.platform.maxSlots
      omega
  · rw [State.stackLimits_setFrames]; rfl
  · rw [State.stackBytes_setFrames]; rfl
  · refine ⟨?_, Nat.le_refl _, Nat.le_refl _, ?_, ?_, fun a c9 h9 => ⟨c9, h9, rfl, rfl, fun _ _ => rfl⟩⟩
    · obtain ⟨t, ht, -⟩ := State.frames_cons hr
      show T.setVm s.vm = { ((T.setVm s.vm).setFrames (.invoking m args :: below)).setFrames (T.setVm s.vm).frames with heap := T.heap, slotsUsed := T.slotsUsed }
      rw [State.setFrames_setFrames, State.setFrames_self ht]
      rfl
    · show T.slotsUsed = T.slotsUsed + ((T.heap.toList.drop T.heap.size).map (·.slots.size)).sum
      rw [List.drop_eq_nil_of_le (Nat.le_of_eq Array.length_toList)]
      rfl
    · show ((T.heap.toList.drop T.heap.size).map (·.slots.size)).sum ≤ 0
      rw [List.drop_eq_nil_of_le (Nat.le_of_eq Array.length_toList)]
      exact Nat.le_refl _
/-- 'throw new E()': new; dup; invokespecial; athrow -/
theorem vx_throw0 {cc : ByteArray} {pc : Nat} (hexec : p.tables.exec = Jvm.exec) (hb : c.code = cc) (hl : l.stackTraces = false) {own cls : String} {names : List String} {ik ic mc ms : Nat} {A : Nat → Prop}
    (hown : s.vm.findClass own = some m.cls) (hcls : Bundle.fit cls = true) (hnames : ∀ n ∈ names, Bundle.fit n = true)
    (hk : (Cond.classLink own ik cls).before args s = true) (hini : (Cond.initialized cls).before args s = true) (hat : ∀ w ∈ vx_at0 own ic cls names, w.before args s = true)
    (hgood : ∀ w ∈ Cond.classLink own ik cls :: Cond.initialized cls :: vx_at0 own ic cls names, vx_ot w = true)
    (hU : vx_Zq Bundle.tN "UNASSIGNED_STACK" Bundle.steD A s s.heap) (hN : vx_Zq Bundle.tN "SUPPRESSED_SENTINEL" Bundle.listD A s s.heap) (hS : va_S A s.heap H locs) (hsize : ls.size = c.maxLocals)
    (d0 : decode cc pc = .ok (.new ik, 3)) (d3 : decode cc (pc + 3) = .ok (.dup, 1)) (d4 : decode cc (pc + 4) = .ok (.invokespecial ic, 3)) (d7 : decode cc (pc + 7) = .ok (.athrow, 1))
    (hout : ∀ x ∈ c.exceptionTable.toList, covers x (pc + 7) = false)
    (hRframes : names.length + 3 < R.frames) (hRlocals : (rest.map fun v => v.category).sum + (13 * (names.length + 1) + 42) ≤ R.locals) (hRcells : cells + 1 ≤ R.cells) (hRslots : slots + 6 ≤ R.slots) (hlocks : meth.locks = false)
    (hx : ∀ t : State, s.vm.Alike t.vm → H.size ≤ t.heap.size → (∀ q : Nat, q < H.size → t.heap[q]? = H[q]?) → XC cls s t)
    (hf : ∀ z ∈ locs, free z.base) (hc : cells + 1 ≤ mc) (hs : slots + 6 ≤ ms) :
    W p l e R s m args below meth c H locs cells slots (vx_MQ below Qc XC args s mc ms free) (F0 m pc ls rest) := by
  intro T hT X
  have htr : e.platform.stackTraces = false := (show e.platform.stackTraces = l.stackTraces by rw [X.admits.platform]).trans hl
  have Y := vx_rebase X (R' := { frames := R.frames, locals := R.locals, cells := 1, slots := 6 }) (Nat.le_refl _) (Nat.le_refl _) hRcells hRslots
  obtain ⟨s', hA⟩ : ∃ z, z = (T.setVm s.vm).setFrames (.invoking m args :: below) := ⟨_, rfl⟩
  rw [← hA] at Y
  have hvm : s'.vm = s.vm := by rw [hA]; rfl
  have hhp : s'.heap = H := by rw [hA]; exact hT
  have hW0 : s.WarmedH s'.vm := by rw [hvm]; exact State.WarmedH.refl s
  have hat' : ∀ w ∈ vx_at0 own ic cls names, w.before args s' = true := fun w hw => vx_ot_at hW0 hvm.symm (hgood w (List.mem_cons_of_mem _ (List.mem_cons_of_mem _ hw))) (hat w hw)
  have hk' : (Cond.classLink own ik cls).before args s' = true := vx_ot_at hW0 hvm.symm (hgood _ List.mem_cons_self) hk
  have hini' : (Cond.initialized cls).before args s' = true := vx_ot_at hW0 hvm.symm (hgood _ (List.mem_cons_of_mem _ List.mem_cons_self)) hini
  have hU' : vx_Zq Bundle.tN "UNASSIGNED_STACK" Bundle.steD A s' s'.heap := by rw [hhp]; exact vx_Zq.moved hW0.alike (hU.kept hS.2.1)
  have hN' : vx_Zq Bundle.tN "SUPPRESSED_SENTINEL" Bundle.listD A s' s'.heap := by rw [hhp]; exact vx_Zq.moved hW0.alike (hN.kept hS.2.1)
  have h : ∀ w ∈ Bundle.ownAtoms0 own ic cls names, w.before args s' = true := vx_own hat' (vx_isRefq hU'.1) (vx_isRefq hN'.1) hU'.2.word hN'.2.word
  have hown' : s'.vm.findClass own = some m.cls := by rw [hvm]; exact hown
  have hins : (Cond.instantiable cls 6).before args s' = true := h _ (by simp [Bundle.ownAtoms0])
  obtain ⟨vm₁, cX, kX, hfX, hkX, -, -, X₁, st1⟩ := Y.newCold hexec (own := own) (C := cls) (index := ik) (n := 6) hown' hk' hins hini'
    (g := F0 m pc ls rest) rfl (by rw [hb]; exact d0) (Nat.le_refl _) (Nat.le_refl _)
  generalize hT1 : (T.setVm vm₁).pushCell { cls := cX, slots := kX.instanceTypes.map defaultValue, vm := .none } = T1 at X₁ st1
  have hcat : (Value.ref T.heap.size).category = 1 := rfl
  have hcellA : T1.heap[T.heap.size]? = some (freshCell cX kX) := by rw [← hT1]; exact State.heap_pushCell_size _ _
  have d3' : decode c.code (pc + 3) = .ok (.dup, 1) := by rw [hb]; exact d3
  obtain ⟨U, hsteps, hrun, hend, hW, hsame, ce, hce, hO⟩ := X₁.ctorThrow0 hexec htr (own := own) (cls := cls) (names := names) (ic := ic) hown' hcls hnames h (fun x hx => nomatch hx) hfX hkX hcellA (by rw [hhp, hT]; exact Nat.le_refl _)
    (g := { method := m, pc := pc + 4, locals := ls, stack := .ref T.heap.size :: .ref T.heap.size :: rest, locked := none }) rfl hsize rfl rfl (rest := rest) rfl
    (by rw [hb]; exact d4) (by rw [hb]; exact d7) hout hRframes (by simp only [List.map_cons, List.sum_cons, hcat]; omega) hlocks
  obtain ⟨f1, f2⟩ := vx_frame hsame
  rw [hhp] at f1 f2
  have hWs : s.WarmedH U.vm := State.WarmedH.trans hW0 hW
  have hcl : s.vm.findClass cls = some ce.cls := by
    have h9 := hO.cls
    rw [hvm] at h9
    exact h9
  have hall : s.sameButNew ({ U with vm := s.vm } : State) locs mc ms := by
    subst hA
    obtain ⟨e1, e2⟩ := hsame
    rw [State.setFrames_setFrames] at e1
    have h2 : (T.setVm s.vm).sameButNew ({ U with vm := s.vm } : State) [] (0 + 1) (0 + 6) := ⟨e1, e2⟩
    have h3 := X.same.trans h2
    rw [List.append_nil] at h3
    exact h3.mono hc hs
  refine ⟨U, ?_, .threw T.heap.size, hrun, hend, Or.inr ⟨T.heap.size, rfl, cls, ce, locs, hx U hWs.alike f1 (fun q hq => f2 q hq (fun z hz => nomatch hz)), hce, hO.vm, hcl, hWs, hall, hf⟩⟩
  refine st1 _ ?_
  show Steps p.tables e below (T1.setTop { method := m, pc := pc + 3, locals := ls, stack := .ref T.heap.size :: rest, locked := none }) _
  jvm_step X₁.here [X₁.here.top, hexec, d3', Value.category]
  exact hsteps
/-- 'throw new E("text")': new; dup; ldc; invokespecial; athrow -/
theorem vx_throwS {cc : ByteArray} {pc : Nat} (hexec : p.tables.exec = Jvm.exec) (hb : c.code = cc) (hl : l.stackTraces = false) {own cls text : String} {names : List String} {ik is ic mc ms sa : Nat} {A : Nat → Prop}
    (hown : s.vm.findClass own = some m.cls) (hcls : Bundle.fit cls = true) (hnames : ∀ n ∈ names, Bundle.fit n = true)
    (hk : (Cond.classLink own ik cls).before args s = true) (hini : (Cond.initialized cls).before args s = true) (hstr : vk_R own is text sa s) (hat : ∀ w ∈ vx_atS own ic cls names, w.before args s = true)
    (hgood : ∀ w ∈ Cond.classLink own ik cls :: Cond.initialized cls :: vx_atS own ic cls names, vx_ot w = true)
    (hU : vx_Zq Bundle.tN "UNASSIGNED_STACK" Bundle.steD A s s.heap) (hN : vx_Zq Bundle.tN "SUPPRESSED_SENTINEL" Bundle.listD A s s.heap) (hS : va_S A s.heap H locs) (hsize : ls.size = c.maxLocals)
    (d0 : decode cc pc = .ok (.new ik, 3)) (d3 : decode cc (pc + 3) = .ok (.dup, 1)) (d4 : decode cc (pc + 4) = .ok (.ldc is, 2)) (d6 : decode cc (pc + 6) = .ok (.invokespecial ic, 3)) (d9 : decode cc (pc + 9) = .ok (.athrow, 1))
    (hout : ∀ x ∈ c.exceptionTable.toList, covers x (pc + 9) = false)
    (hRframes : names.length + 3 < R.frames) (hRlocals : (rest.map fun v => v.category).sum + (13 * (names.length + 1) + 43) ≤ R.locals) (hRcells : cells + 1 ≤ R.cells) (hRslots : slots + 6 ≤ R.slots) (hlocks : meth.locks = false)
    (hx : ∀ t : State, s.vm.Alike t.vm → H.size ≤ t.heap.size → (∀ q : Nat, q < H.size → t.heap[q]? = H[q]?) → XC cls s t)
    (hf : ∀ z ∈ locs, free z.base) (hc : cells + 1 ≤ mc) (hs : slots + 6 ≤ ms) :
    W p l e R s m args below meth c H locs cells slots (vx_MQ below Qc XC args s mc ms free) (F0 m pc ls rest) := by
  intro T hT X
  have htr : e.platform.stackTraces = false := (show e.platform.stackTraces = l.stackTraces by rw [X.admits.platform]).trans hl
  have Y := vx_rebase X (R' := { frames := R.frames, locals := R.locals, cells := 1, slots := 6 }) (Nat.le_refl _) (Nat.le_refl _) hRcells hRslots
  obtain ⟨s', hA⟩ : ∃ z, z = (T.setVm s.vm).setFrames (.invoking m args :: below) := ⟨_, rfl⟩
  rw [← hA] at Y
  have hvm : s'.vm = s.vm := by rw [hA]; rfl
  have hhp : s'.heap = H := by rw [hA]; exact hT
  have hW0 : s.WarmedH s'.vm := by rw [hvm]; exact State.WarmedH.refl s
  have hat' : ∀ w ∈ vx_atS own ic cls names, w.before args s' = true := fun w hw => vx_ot_at hW0 hvm.symm (hgood w (List.mem_cons_of_mem _ (List.mem_cons_of_mem _ hw))) (hat w hw)
  have hk' : (Cond.classLink own ik cls).before args s' = true := vx_ot_at hW0 hvm.symm (hgood _ List.mem_cons_self) hk
  have hini' : (Cond.initialized cls).before args s' = true := vx_ot_at hW0 hvm.symm (hgood _ (List.mem_cons_of_mem _ List.mem_cons_self)) hini
  have hU' : vx_Zq Bundle.tN "UNASSIGNED_STACK" Bundle.steD A s' s'.heap := by rw [hhp]; exact vx_Zq.moved hW0.alike (hU.kept hS.2.1)
  have hN' : vx_Zq Bundle.tN "SUPPRESSED_SENTINEL" Bundle.listD A s' s'.heap := by rw [hhp]; exact vx_Zq.moved hW0.alike (hN.kept hS.2.1)
  have h : ∀ w ∈ Bundle.ownAtoms own ic cls names, w.before args s' = true := vx_own hat' (vx_isRefq hU'.1) (vx_isRefq hN'.1) hU'.2.word hN'.2.word
  have hown' : s'.vm.findClass own = some m.cls := by rw [hvm]; exact hown
  have hins : (Cond.instantiable cls 6).before args s' = true := h _ (by simp [Bundle.ownAtoms])
  obtain ⟨vm₁, cX, kX, hfX, hkX, -, -, X₁, st1⟩ := Y.newCold hexec (own := own) (C := cls) (index := ik) (n := 6) hown' hk' hins hini'
    (g := F0 m pc ls rest) rfl (by rw [hb]; exact d0) (Nat.le_refl _) (Nat.le_refl _)
  generalize hT1 : (T.setVm vm₁).pushCell { cls := cX, slots := kX.instanceTypes.map defaultValue, vm := .none } = T1 at X₁ st1
  have hcat : (Value.ref T.heap.size).category = 1 := rfl
  have hcellA : T1.heap[T.heap.size]? = some (freshCell cX kX) := by rw [← hT1]; exact State.heap_pushCell_size _ _
  have d3' : decode c.code (pc + 3) = .ok (.dup, 1) := by rw [hb]; exact d3
  have d4' : decode c.code (pc + 4) = .ok (.ldc is, 2) := by rw [hb]; exact d4
  have hstr' : vk_R own is text sa s' := vk_R.warm hW0 hstr
  obtain ⟨U, hsteps, hrun, hend, hW, hsame, ce, hce, hO⟩ := X₁.ctorThrowS hexec htr (own := own) (cls := cls) (names := names) (ic := ic) hown' hcls hnames h (fun x hx => nomatch hx) hfX hkX hcellA (by rw [hhp, hT]; exact Nat.le_refl _) (msg := .ref sa) rfl
    (g := { method := m, pc := pc + 6, locals := ls, stack := .ref sa :: .ref T.heap.size :: .ref T.heap.size :: rest, locked := none }) rfl hsize rfl rfl (rest := rest) rfl
    (by rw [hb]; exact d6) (by rw [hb]; exact d9) hout hRframes (by simp only [List.map_cons, List.sum_cons, hcat]; omega) hlocks
  obtain ⟨f1, f2⟩ := vx_frame hsame
  rw [hhp] at f1 f2
  have hWs : s.WarmedH U.vm := State.WarmedH.trans hW0 hW
  have hcl : s.vm.findClass cls = some ce.cls := by
    have h9 := hO.cls
    rw [hvm] at h9
    exact h9
  have hall : s.sameButNew ({ U with vm := s.vm } : State) locs mc ms := by
    subst hA
    obtain ⟨e1, e2⟩ := hsame
    rw [State.setFrames_setFrames] at e1
    have h2 : (T.setVm s.vm).sameButNew ({ U with vm := s.vm } : State) [] (0 + 1) (0 + 6) := ⟨e1, e2⟩
    have h3 := X.same.trans h2
    rw [List.append_nil] at h3
    exact h3.mono hc hs
  refine ⟨U, ?_, .threw T.heap.size, hrun, hend, Or.inr ⟨T.heap.size, rfl, cls, ce, locs, hx U hWs.alike f1 (fun q hq => f2 q hq (fun z hz => nomatch hz)), hce, hO.vm, hcl, hWs, hall, hf⟩⟩
  refine st1 _ ?_
  show Steps p.tables e below (T1.setTop { method := m, pc := pc + 3, locals := ls, stack := .ref T.heap.size :: rest, locked := none }) _
  jvm_step X₁.here [X₁.here.top, hexec, d3', Value.category]
  exact X₁.ldcString hexec (own := own) (text := text) (index := is) (a := sa) hown' hstr'.1 hstr'.2
    (g := { method := m, pc := pc + 4, locals := ls, stack := .ref T.heap.size :: .ref T.heap.size :: rest, locked := none }) rfl d4' _ hsteps
/-- 'throw new E("text")', the text by a wide index -/
theorem vx_throwSW {cc : ByteArray} {pc : Nat} (hexec : p.tables.exec = Jvm.exec) (hb : c.code = cc) (hl : l.stackTraces = false) {own cls text : String} {names : List String} {ik is ic mc ms sa : Nat} {A : Nat → Prop}
    (hown : s.vm.findClass own = some m.cls) (hcls : Bundle.fit cls = true) (hnames : ∀ n ∈ names, Bundle.fit n = true)
    (hk : (Cond.classLink own ik cls).before args s = true) (hini : (Cond.initialized cls).before args s = true) (hstr : vk_R own is text sa s) (hat : ∀ w ∈ vx_atS own ic cls names, w.before args s = true)
    (hgood : ∀ w ∈ Cond.classLink own ik cls :: Cond.initialized cls :: vx_atS own ic cls names, vx_ot w = true)
    (hU : vx_Zq Bundle.tN "UNASSIGNED_STACK" Bundle.steD A s s.heap) (hN : vx_Zq Bundle.tN "SUPPRESSED_SENTINEL" Bundle.listD A s s.heap) (hS : va_S A s.heap H locs) (hsize : ls.size = c.maxLocals)
    (d0 : decode cc pc = .ok (.new ik, 3)) (d3 : decode cc (pc + 3) = .ok (.dup, 1)) (d4 : decode cc (pc + 4) = .ok (.ldc_w is, 3)) (d7 : decode cc (pc + 7) = .ok (.invokespecial ic, 3)) (d10 : decode cc (pc + 10) = .ok (.athrow, 1))
    (hout : ∀ x ∈ c.exceptionTable.toList, covers x (pc + 10) = false)
    (hRframes : names.length + 3 < R.frames) (hRlocals : (rest.map fun v => v.category).sum + (13 * (names.length + 1) + 43) ≤ R.locals) (hRcells : cells + 1 ≤ R.cells) (hRslots : slots + 6 ≤ R.slots) (hlocks : meth.locks = false)
    (hx : ∀ t : State, s.vm.Alike t.vm → H.size ≤ t.heap.size → (∀ q : Nat, q < H.size → t.heap[q]? = H[q]?) → XC cls s t)
    (hf : ∀ z ∈ locs, free z.base) (hc : cells + 1 ≤ mc) (hs : slots + 6 ≤ ms) :
    W p l e R s m args below meth c H locs cells slots (vx_MQ below Qc XC args s mc ms free) (F0 m pc ls rest) := by
  intro T hT X
  have htr : e.platform.stackTraces = false := (show e.platform.stackTraces = l.stackTraces by rw [X.admits.platform]).trans hl
  have Y := vx_rebase X (R' := { frames := R.frames, locals := R.locals, cells := 1, slots := 6 }) (Nat.le_refl _) (Nat.le_refl _) hRcells hRslots
  obtain ⟨s', hA⟩ : ∃ z, z = (T.setVm s.vm).setFrames (.invoking m args :: below) := ⟨_, rfl⟩
  rw [← hA] at Y
  have hvm : s'.vm = s.vm := by rw [hA]; rfl
  have hhp : s'.heap = H := by rw [hA]; exact hT
  have hW0 : s.WarmedH s'.vm := by rw [hvm]; exact State.WarmedH.refl s
  have hat' : ∀ w ∈ vx_atS own ic cls names, w.before args s' = true := fun w hw => vx_ot_at hW0 hvm.symm (hgood w (List.mem_cons_of_mem _ (List.mem_cons_of_mem _ hw))) (hat w hw)
  have hk' : (Cond.classLink own ik cls).before args s' = true := vx_ot_at hW0 hvm.symm (hgood _ List.mem_cons_self) hk
  have hini' : (Cond.initialized cls).before args s' = true := vx_ot_at hW0 hvm.symm (hgood _ (List.mem_cons_of_mem _ List.mem_cons_self)) hini
  have hU' : vx_Zq Bundle.tN "UNASSIGNED_STACK" Bundle.steD A s' s'.heap := by rw [hhp]; exact vx_Zq.moved hW0.alike (hU.kept hS.2.1)
  have hN' : vx_Zq Bundle.tN "SUPPRESSED_SENTINEL" Bundle.listD A s' s'.heap := by rw [hhp]; exact vx_Zq.moved hW0.alike (hN.kept hS.2.1)
  have h : ∀ w ∈ Bundle.ownAtoms own ic cls names, w.before args s' = true := vx_own hat' (vx_isRefq hU'.1) (vx_isRefq hN'.1) hU'.2.word hN'.2.word
  have hown' : s'.vm.findClass own = some m.cls := by rw [hvm]; exact hown
  have hins : (Cond.instantiable cls 6).before args s' = true := h _ (by simp [Bundle.ownAtoms])
  obtain ⟨vm₁, cX, kX, hfX, hkX, -, -, X₁, st1⟩ := Y.newCold hexec (own := own) (C := cls) (index := ik) (n := 6) hown' hk' hins hini'
    (g := F0 m pc ls rest) rfl (by rw [hb]; exact d0) (Nat.le_refl _) (Nat.le_refl _)
  generalize hT1 : (T.setVm vm₁).pushCell { cls := cX, slots := kX.instanceTypes.map defaultValue, vm := .none } = T1 at X₁ st1
  have hcat : (Value.ref T.heap.size).category = 1 := rfl
  have hcellA : T1.heap[T.heap.size]? = some (freshCell cX kX) := by rw [← hT1]; exact State.heap_pushCell_size _ _
  have d3' : decode c.code (pc + 3) = .ok (.dup, 1) := by rw [hb]; exact d3
  have d4' : decode c.code (pc + 4) = .ok (.ldc_w is, 3) := by rw [hb]; exact d4
  have hstr' : vk_R own is text sa s' := vk_R.warm hW0 hstr
  obtain ⟨U, hsteps, hrun, hend, hW, hsame, ce, hce, hO⟩ := X₁.ctorThrowS hexec htr (own := own) (cls := cls) (names := names) (ic := ic) hown' hcls hnames h (fun x hx => nomatch hx) hfX hkX hcellA (by rw [hhp, hT]; exact Nat.le_refl _) (msg := .ref sa) rfl
    (g := { method := m, pc := pc + 7, locals := ls, stack := .ref sa :: .ref T.heap.size :: .ref T.heap.size :: rest, locked := none }) rfl hsize rfl rfl (rest := rest) rfl
    (by rw [hb]; exact d7) (by rw [hb]; exact d10) hout hRframes (by simp only [List.map_cons, List.sum_cons, hcat]; omega) hlocks
  obtain ⟨f1, f2⟩ := vx_frame hsame
  rw [hhp] at f1 f2
  have hWs : s.WarmedH U.vm := State.WarmedH.trans hW0 hW
  have hcl : s.vm.findClass cls = some ce.cls := by
    have h9 := hO.cls
    rw [hvm] at h9
    exact h9
  have hall : s.sameButNew ({ U with vm := s.vm } : State) locs mc ms := by
    subst hA
    obtain ⟨e1, e2⟩ := hsame
    rw [State.setFrames_setFrames] at e1
    have h2 : (T.setVm s.vm).sameButNew ({ U with vm := s.vm } : State) [] (0 + 1) (0 + 6) := ⟨e1, e2⟩
    have h3 := X.same.trans h2
    rw [List.append_nil] at h3
    exact h3.mono hc hs
  refine ⟨U, ?_, .threw T.heap.size, hrun, hend, Or.inr ⟨T.heap.size, rfl, cls, ce, locs, hx U hWs.alike f1 (fun q hq => f2 q hq (fun z hz => nomatch hz)), hce, hO.vm, hcl, hWs, hall, hf⟩⟩
  refine st1 _ ?_
  show Steps p.tables e below (T1.setTop { method := m, pc := pc + 3, locals := ls, stack := .ref T.heap.size :: rest, locked := none }) _
  jvm_step X₁.here [X₁.here.top, hexec, d3', Value.category]
  exact X₁.ldcStringW hexec (own := own) (text := text) (index := is) (a := sa) hown' hstr'.1 hstr'.2
    (g := { method := m, pc := pc + 4, locals := ls, stack := .ref T.heap.size :: .ref T.heap.size :: rest, locked := none }) rfl d4' _ hsteps
end Ends
section Bodies
variable {l : Launch}
theorem vx_ofW {y : MethodName} {ws ws' : List Cond} {rm : Room} {Pc : Array Value → State → Prop} {Qc : Array Value → State → Outcome → State → Prop} {XC : String → State → State → Prop} {mc ms : Nat} {free : Addr → Prop} {cc : ByteArray} {maxL : Nat} {ret : Option FieldType}
    (hy : plainName y.cls = true) (hw : ws = Cond.code y cc maxL ret :: ws')
    (body : ∀ p e s m args below meth c s₁, BodyLoose p l y (headSpec ws rm) cc maxL ret e s m args below meth c s₁ → c.maxLocals = maxL → (∀ x ∈ c.exceptionTable.toList, False) → Pc args s →
      W p l e (headSpec ws rm).room s m args below meth c s.heap [] 0 0 (vx_MQ below Qc XC args s mc ms free) (entryFrame m args maxL)) : vx_Met l y ws rm Pc Qc XC mc ms free := by
  refine MetFree.of_bodyS (code := cc) (maxLocals := maxL) (ret := ret) hy ?_ ?_
  · intro args s m h hn
    obtain ⟨meth, c, h1, h2, h3, h4, h5, h6, -, -⟩ := Cond.code_spec hn (atoms_spec (ws := ws) h _ (by rw [hw]; exact List.mem_cons_self))
    exact ⟨meth, c, h1, h2, h3, h4, h5, h6⟩
  · intro p e s m args below meth c s₁ B hml hP _
    have hh0 : s₁.heap = s.heap := by rw [B.state]; rfl
    have ht : ∀ x ∈ c.exceptionTable.toList, False := by
      obtain ⟨meth9, c9, h1, h2, -, -, -, -, h7, -⟩ := Cond.code_spec B.named (atoms_spec (ws := ws) B.pre _ (by rw [hw]; exact List.mem_cons_self))
      cases Option.some.inj (h1.symm.trans B.method)
      cases Option.some.inj (h2.symm.trans (Stand.of_body B).code)
      intro x hx
      rw [Array.isEmpty_iff.mp h7] at hx
      cases hx
    obtain ⟨t, a1, o, b1, b2, b3⟩ := body p e s m args below meth c s₁ B hml ht hP s₁ hh0 (Stand.of_body B)
    exact ⟨t, o, a1, b1, b2, b3⟩
/-- the table of a body with handlers -/
theorem vx_table {p : Program} {x y : MethodName} {S : Spec} {cc bytes : ByteArray} {maxL maxL' : Nat} {ret ret' : Option FieldType} {e : Env} {s s₁ : State} {m : MethodId} {args : Array Value} {below : List Frame} {meth : Method} {c : Code} {hh : List (Nat × Nat × Nat × Nat)}
    (B : BodyLoose p l y S cc maxL ret e s m args below meth c s₁) (h : (Cond.codeWith y bytes maxL' ret' hh).before args s = true) : c.exceptionTable.toList = tableOf hh := by
  obtain ⟨m9, meth9, c9, hn9, h1, h2, -, -, h6, -⟩ := Cond.codeWith_spec h
  cases Option.some.inj (hn9.symm.trans B.named)
  cases Option.some.inj (h1.symm.trans B.method)
  cases Option.some.inj (h2.symm.trans (Stand.of_body B).code)
  rw [← h6, table_eq]
end Bodies
end VXA
/-! ===== END ===== -/
/-! ===== BEGIN a static call of a method with an exception table ===== -/
section VXS
variable {p : Program} {l : Launch} {e : Env} {R : Room} {s : State} {m : MethodId} {args : Array Value} {below : List Frame} {meth : Method} {c : Code} {T : State} {H : Heap} {locs : List Loc} {cells slots : Nat}
abbrev vx_CSW (R : Room) (s : State) (args : Array Value) (own : String) (index : Nat) (y : MethodName) (bytes : ByteArray) (maxL : Nat) (ret : Option FieldType) (hh : List (Nat × Nat × Nat × Nat)) (ws : List Cond) (rm : Room) (mc ms n : Nat) : Prop :=
  (rm.cells = mc ∧ rm.slots = ms ∧ rm.frames + 1 ≤ R.frames ∧ 8 + (maxL + 11) + rm.locals ≤ R.locals ∧ (∀ w ∈ ws, ∀ (a' : Array Value) (U : State), s.WarmedH U.vm → w.before a' U = true) ∧ Cond.codeWith y bytes maxL ret hh ∈ ws) ∧
  (Cond.codeWith y bytes maxL ret hh).before args s = true ∧ (Cond.initialized y.cls).before args s = true ∧ (y.cls ≠ "java/lang/invoke/MethodHandle" ∧ y.cls ≠ "java/lang/invoke/VarHandle") ∧
  (∀ sig, parseMethodDescriptor y.desc = some sig → n = sig.parameters.length) ∧ (Cond.methodLink own index y).before args s = true ∧ (Cond.static y).before args s = true
theorem vx_cwSW {own : String} {index maxL mc ms : Nat} {y : MethodName} {bytes : ByteArray} {ret : Option FieldType} {hh : List (Nat × Nat × Nat × Nat)} {Ts ws ws' : List Cond} {rm : Room} (n : Nat) (ht : ∀ w ∈ Ts, w.before args s = true) (hT : GoodIn Ts (va_wsS own index y ws)) (hw : ws = Cond.codeWith y bytes maxL ret hh :: ws') (hrc : rm.cells = mc) (hrs : rm.slots = ms)
    (hd : y.cls ≠ "java/lang/invoke/MethodHandle" ∧ y.cls ≠ "java/lang/invoke/VarHandle" ∧ (parseMethodDescriptor y.desc).map (fun d => d.parameters.length) = some n) (hR : rm.frames + 1 ≤ R.frames ∧ 8 + (maxL + 11) + rm.locals ≤ R.locals) :
    vx_CSW R s args own index y bytes maxL ret hh ws rm mc ms n := by
  have ok : ∀ w ∈ va_wsS own index y ws, w.before args s = true := fun w h => ht w (hT w h).1
  have hG : GoodIn Ts ws := fun w h => hT w (by unfold va_wsS; exact List.mem_append_right _ h)
  have hc : Cond.codeWith y bytes maxL ret hh ∈ ws := by rw [hw]; exact List.mem_cons_self
  refine ⟨⟨hrc, hrs, hR.1, hR.2, pay_in ht hG, hc⟩, ht _ (hG _ hc).1, ok _ (by simp [va_wsS]), ⟨hd.1, hd.2.1⟩, fun sig h => ?_, ok _ (by simp [va_wsS]), ok _ (by simp [va_wsS])⟩
  have h2 := hd.2.2
  rw [h] at h2
  exact (Option.some.inj h2).symm
theorem vx_callSW (X : Stand p l e R s m args below meth c T locs cells slots) (hexec : p.tables.exec = Jvm.exec) {own : String} {index : Nat} {y : MethodName} {bytes : ByteArray} {maxL : Nat} {ret : Option FieldType} {hh : List (Nat × Nat × Nat × Nat)}
    (hown : s.vm.findClass own = some m.cls) (hlink : (Cond.methodLink own index y).before args s = true) (hstat : (Cond.static y).before args s = true) (hinit : (Cond.initialized y.cls).before args s = true)
    (hcode : (Cond.codeWith y bytes maxL ret hh).before args s = true) (hy : y.cls ≠ "java/lang/invoke/MethodHandle" ∧ y.cls ≠ "java/lang/invoke/VarHandle")
    {W9 : Nat} {Pre : Pt → Array Value → Prop} {Post : Pt → Array Value → Option Value → Pt → Prop} (hK : Back l R p e below s args y 3 W9 Pre Post)
    {g : JFrame} (hg : g.method = m) (hsize : g.locals.size = c.maxLocals) {argsL rest : List Value} (hlen : ∀ sig, parseMethodDescriptor y.desc = some sig → argsL.length = sig.parameters.length)
    (hstack : g.stack = argsL.reverse ++ rest) (hW : 2 * g.monitorRoom + (rest.map fun v => v.category).sum ≤ W9) (hdg : decode c.code g.pc = .ok (.invokestatic index, 3))
    (hpre : ∀ vm₁, s.WarmedH vm₁ → Pre ⟨T.setVm vm₁, locs, cells, slots⟩ argsL.toArray) :
    ∃ (v : Option Value) (vm₁ : Vm) (B : Pt), s.WarmedH vm₁ ∧ Stand p l e R s m args below meth c B.U B.locs B.cells B.slots ∧ Post ⟨T.setVm vm₁, locs, cells, slots⟩ argsL.toArray v B ∧
      ∀ target, Steps p.tables e below (B.U.setTop { g with pc := g.pc + 3, stack := v.toList ++ rest }) target → Steps p.tables e below (T.setTop g) target := by
  obtain ⟨mk, methM, cM, hnamed, hmethM, -, -, -, -, -, -, hsigM⟩ := Cond.codeWith_spec hcode
  have hstatic : methM.isStatic = true := Cond.static_spec hnamed hmethM hstat
  obtain ⟨kP, hkP, -⟩ := className_of_methodNamed hnamed
  have hinitP : kP.init = .initialized := Cond.initialized_spec (findClass_of_methodNamed hnamed) hkP hinit
  obtain ⟨vm₁, X₁, hstep₁⟩ := X.invokestatic hexec hown hlink hnamed hmethM hstatic hkP hinitP hy (g := g) hg (argsL := argsL) (rest := rest) (hlen _ hsigM) hstack hdg
  obtain ⟨v, B, X', hpost, hsteps⟩ := hK m meth c ⟨T.setVm vm₁, locs, cells, slots⟩ { g with stack := rest } (.invokestatic index) mk argsL.toArray X₁ hg hsize hdg hW (X₁.named hnamed) (hpre vm₁ X₁.warmed)
  exact ⟨v, vm₁, B, X₁.warmed, X', hpost, fun target h => hstep₁ _ fun acts => by rw [doInvoke_state]; exact hsteps.trans h⟩
theorem vx_runSW {y : MethodName} {bytes cc : ByteArray} {maxL nL mc ms n index : Nat} {ret : Option FieldType} {hh : List (Nat × Nat × Nat × Nat)} {ws : List Cond} {rm : Room} {Pc : Array Value → State → Prop} {Qc : Array Value → State → Outcome → State → Prop} {free : Addr → Prop} {Ts : List Cond} {own : String} {As rest : List Value} {g : JFrame}
    (S : CallFix p m c cc nL s args Ts own) (hM : Met l y ws rm Pc Qc mc ms free) (cw : vx_CSW R s args own index y bytes maxL ret hh ws rm mc ms n) (hp : PreS s H Pc As)
    (hg : g.method = m) (hn : As.length = n) (hsize : g.locals.size = nL) (hstack : g.stack = As.reverse ++ rest) (hW : 2 * g.monitorRoom + (rest.map fun v => v.category).sum ≤ 8) (hdg : decode cc g.pc = .ok (.invokestatic index, 3)) (hf : cells + mc ≤ R.cells ∧ slots + ms ≤ R.slots) :
    va_Run p l e R s m args below meth c H locs cells slots mc ms g rest (Qc As.toArray) (free) := by
  obtain ⟨⟨hrc, hrs, hfr, hlo, hws, hcw⟩, hcode, hini, hy, hlen, hl, hstt⟩ := cw
  have hK : Back l R p e below s args y 3 8 (PreOf R mc ms Pc) (PostOf Qc mc ms free) := va_backW (hh := hh) (bytes := bytes) (maxL := maxL) (ret := ret) hM hp.1 hrc hrs hfr hlo hws hcw (fun a' U hW => word_at hW (Or.inl (by first | rfl | simp [Cond.onTables, Cond.keeps, Cond.steady])) hini)
  obtain ⟨hx, hb, hml, ho, -⟩ := S
  intro T hT X
  obtain ⟨v, vm₁, ⟨U', l2, c2, s2⟩, hW₁, X', ⟨g', mk, t, L, e1, e2, hq, h1, hL, h2, h3⟩, st⟩ := vx_callSW X hx (hh := hh) (bytes := bytes) (maxL := maxL) (ret := ret) ho hl hstt hini hcode hy hK hg (hsize.trans hml.symm) (argsL := As) (rest := rest) (fun sig h => hn.trans (hlen sig h)) hstack hW (by rw [hb]; exact hdg)
    (fun vm₁ hW₁ => ⟨hf.1, hf.2, hp.2 (T.setVm vm₁) hT hW₁⟩)
  dsimp only [Pt.U, Pt.locs, Pt.cells, Pt.slots] at X' e1 e2 h1 h2 h3 st
  subst h1; subst h2; subst h3
  exact ⟨v, (T.setVm vm₁).calling g' mk As.toArray, t, U', L, hT, X', hL, e1, e2, hq, st⟩
/-- not caught here, past rows that name other classes: it goes on to the caller -/
theorem vx_outP {p : Program} {l : Launch} {e : Env} {R : Room} {s : State} {m : MethodId} {args : Array Value} {below : List Frame} {meth : Method} {c : Code} {H : Heap} {locs : List Loc} {cells slots : Nat} {free : Addr → Prop} {ls : Array Slot} {rest : List Value} {Qc : Array Value → State → Outcome → State → Prop} {XC : String → State → State → Prop}
    {pc : Nat} {own E : String} {ce : Cell} {q : Addr} {mc ms : Nat} (hown : s.vm.findClass own = some m.cls) (hlocks : meth.locks = false)
    (hpass : ∀ z ∈ c.exceptionTable.toList, covers z pc = false ∨ (z.catchType ≠ 0 ∧ ∃ nm : String, (Cond.classLink own z.catchType nm).before args s = true ∧ va_Nc E nm s)) (hcell : H[q]? = some ce) (hv : ce.vm = .none) (hcl : s.vm.findClass E = some ce.cls)
    (hx : ∀ t : State, t.heap = H → s.vm.Alike t.vm → XC E s t) (hf : ∀ z ∈ locs, free z.base) (hc : cells ≤ mc) (hs : slots ≤ ms) :
    vx_W p l e R s m args below meth c H locs cells slots (vx_MQ below Qc XC args s mc ms free) (F0 m pc ls rest) q := by
  intro T hT X
  have hpl : e.platform.magicAccessors = ({} : Platform).magicAccessors := by rw [X.admits.platform]
  obtain ⟨vm', hW', X', st⟩ := X.outThrough hlocks q (g := F0 m pc ls rest) rfl rfl rfl (cell := ce) (by rw [hT]; exact hcell) (by rw [hv]; rfl)
    (by obtain ⟨k9, h9, -⟩ := Vm.findClass_spec hcl; exact ⟨k9, h9⟩) (fun z hz => by
      rcases hpass z hz with h | ⟨hz0, nm, hl1, hn1⟩
      · exact Or.inl h
      · obtain ⟨c6, hc6, hcl6⟩ := Cond.classLink_spec hown hl1 e.platform hpl
        obtain ⟨a8, b8, h1, h2, h3⟩ := hn1
        cases Option.some.inj (h1.symm.trans hcl)
        cases Option.some.inj (h2.symm.trans hc6)
        exact Or.inr ⟨hz0, _, hcl6, h3⟩)
  obtain ⟨g₀, hfr⟩ := X'.frames_eq
  have hcell9 : ((T.setVm vm').setFrames (.throwing q :: below)).heap[q]? = some ce := by
    show T.heap[q]? = some ce
    rw [hT]; exact hcell
  have hend : Ended ((T.setVm vm').setFrames (.throwing q :: below)) below (.threw q) := State.frames_setFrames _ (State.cur_lt_of_frames hfr)
  refine ⟨(T.setVm vm').setFrames (.throwing q :: below), ?_, .threw q, X'.here.running, hend, Or.inr ⟨q, rfl, E, ce, locs, hx _ hT (X'.ends _).1.alike, hcell9, hv, hcl, (X'.ends _).1, (X'.ends _).2.mono hc hs, hf⟩⟩
  rw [X.pushThrowing_eq]
  exact st
/-- a thing of a world lies in the heap -/
theorem vx_lt {D : va_G} {cl : List vw_C} {ws : va_W} {H1 : Heap} (h : va_P D cl ws H1) {k : Nat} {q : Nat × va_E} (hk : ws[k]? = some q) : q.1 < H1.size := (h k q hk).lt
end VXS
/-! ===== END ===== -/
/-! ===== BEGIN methods with a table of their own: called by a name, returning or throwing ===== -/
section VXH
/-! vx_backW, vx_callVX, vx_callSX, vx_callVW, vx_runVW, vx_runVX, vx_runSX, vx_ofWH follow the same proofs as their sisters above (Free/Laws.lean, Shelf42/LK1.lean); vx_outP calls Shelf42/NT130.lean (outThrough). -/
section
variable {l : Launch} {R : Room} {p : Program} {e : Env} {below : List Frame} {s : State} {sargs : Array Value} {y : MethodName} {len W9 : Nat}
theorem vx_backW {ws : List Cond} {rm : Room} {Pc : Array Value → State → Prop} {Qc : Array Value → State → Outcome → State → Prop} {XC : String → State → State → Prop} {mc ms : Nat} {free : Addr → Prop} {bytes : ByteArray} {maxL : Nat} {ret : Option FieldType} {hh : List (Nat × Nat × Nat × Nat)}
    (hM : vx_Met l y ws rm Pc Qc XC mc ms free) (hblind : FrameBlind Pc) (hrc : rm.cells = mc) (hrs : rm.slots = ms)
    (hframes : rm.frames + 1 ≤ R.frames) (hlocals : W9 + (maxL + 11) + rm.locals ≤ R.locals)
    (hws : ∀ w ∈ ws, ∀ a' U, s.WarmedH U.vm → w.before a' U = true) (hcode : Cond.codeWith y bytes maxL ret hh ∈ ws) (hinit : ∀ a' U, s.WarmedH U.vm → (Cond.initialized y.cls).before a' U = true) :
    vx_Back l R p e below s sargs y len W9 (PreOf R mc ms Pc) (PostOf Qc mc ms free) (vx_Post XC mc ms free) := by
  intro m meth c A g ig mk a X hg hsize hdg hW hn hp
  have h1 : (headSpec ws rm).pre.before a A.U = true := atoms_intro fun w hw => hws w hw _ _ X.warmed
  have h2 : (Cond.codeWith y bytes maxL ret hh).before a A.U = true := hws _ hcode _ _ X.warmed
  have h3 : (Cond.initialized y.cls).before a A.U = true := hinit _ _ X.warmed
  have h4 : A.cells + (headSpec ws rm).room.cells ≤ R.cells := by rw [show (headSpec ws rm).room.cells = mc from hrc]; exact hp.1
  have h5 : A.slots + (headSpec ws rm).room.slots ≤ R.slots := by rw [show (headSpec ws rm).room.slots = ms from hrs]; exact hp.2.1
  have hPc : Pc a (A.U.calling g mk a) := hblind _ _ _ _ hp.2.2
  obtain ⟨U, Ls, c0, s0⟩ := A
  dsimp only [Pt.U, Pt.locs, Pt.cells, Pt.slots] at h1 h2 h3 h4 h5 X hn hPc ⊢
  obtain ⟨m9, methY, cY, hn9, hmY, hcY, -, hlY, -⟩ := Cond.codeWith_spec h2
  cases Option.some.inj (hn9.symm.trans hn)
  obtain ⟨kY, hkY, -⟩ := className_of_methodNamed hn
  have hinitY : kY.init = .initialized := Cond.initialized_spec (findClass_of_methodNamed hn) hkY h3
  have h : At U g.method c below := by rw [hg]; exact X.here
  have hlocals9 : W9 + (maxL + 11) + (headSpec ws rm).room.locals ≤ R.locals := hlocals
  have happ : (headSpec ws rm).appliesLoose y e.platform (U.calling g mk a) = true :=
    Spec.appliesLoose_calling (g := g) h hdg hn hkY hinitY
      (X.room_calling (g := g) (R' := (headSpec ws rm).room) hsize hmY hcY hframes (by rw [hlY]; omega) h4 h5) h1
  obtain ⟨mid, hmid⟩ := h.above
  have hfr : (U.setTop g).frames = (.java g :: mid) ++ below := by rw [State.frames_setTop' g h.top, hmid]; rfl
  obtain ⟨o, s₂, hsteps, -, hend, hq⟩ := Steps.callFree hM p X.admits X.cas X.clock (acts := []) hfr happ hPc trivial
  have hq' : vx_Q Qc XC mc ms free a (U.calling g mk a) o s₂ := hq
  rw [State.frames_setTop' g h.top] at hend
  obtain ⟨g₀, hg0⟩ := Option.isSome_iff_exists.mp h.top
  obtain ⟨r, hr⟩ := State.topJava?_eq_some.mp hg0
  have hr' : (({ U with heap := s₂.heap, slotsUsed := s₂.slotsUsed } : State).setVm s₂.vm).frames = .java g₀ :: r := hr
  rcases hq' with ⟨hqc, L, hfe, hL⟩ | ⟨q, rfl, E, ce, L, hx, hce, hcv, hcl, hW₂, hsm, hL⟩
  · obtain ⟨⟨v, rfl⟩, hW₂, e2, q2, q3, q4, q5, q6⟩ := id hfe
    have e3 : s₂ = ({ (U.calling g mk a).setFrames s₂.frames with heap := s₂.heap, slotsUsed := s₂.slotsUsed } : State).setVm s₂.vm := by
      have : s₂ = ({ s₂ with vm := (U.calling g mk a).vm } : State).setVm s₂.vm := rfl
      rw [e2] at this
      exact this
    obtain ⟨c₂, i₂, len₂, hc₂, hd₂, hf₂⟩ := hend
    have hW' : U.WarmedH s₂.vm := hW₂
    have hcc : c₂ = c := by
      have h1 : s₂.code? g.method = U.code? g.method := by
        rw [State.code?_eq, State.code?_eq, hW'.alike.method?]
      exact Option.some.inj (hc₂.symm.trans (h1.trans h.code))
    subst hcc
    have hlen : len₂ = len := by rw [hdg] at hd₂; cases hd₂; rfl
    subst hlen
    have hs₂ : s₂ = (({ U with heap := s₂.heap, slotsUsed := s₂.slotsUsed } : State).setVm s₂.vm).setTop { g with pc := g.pc + len₂, stack := v.toList ++ g.stack } := by
      refine e3.trans ?_
      rw [hf₂, State.calling_eq h.top, State.setFrames_setFrames, State.setTop_of_frames _ hr', hr]
      rfl
    have hsame : U.sameButNew ({ U with heap := s₂.heap, slotsUsed := s₂.slotsUsed } : State) L mc ms := by
      refine ⟨?_, q2, q3, q4, q5, q6⟩
      obtain ⟨t, ht, -⟩ := State.frames_cons hr
      show ({ U with heap := s₂.heap, slotsUsed := s₂.slotsUsed } : State) = { U.setFrames U.frames with heap := s₂.heap, slotsUsed := s₂.slotsUsed }
      rw [State.setFrames_self ht]
    subst hg
    refine Or.inl ⟨v, ⟨(({ U with heap := s₂.heap, slotsUsed := s₂.slotsUsed } : State).setVm s₂.vm), Ls ++ L, c0 + mc, s0 + ms⟩,
      ⟨X.admits, X.cas, X.clock, X.frames, X.room, X.hears, X.method, X.code, (X.here.setHeapUsed s₂.heap s₂.slotsUsed).setVm hW'.alike, X.tail, State.WarmedH.trans X.warmed hW', X.limits, X.bytes, X.same.trans (hsame.setVm s.vm)⟩,
      ⟨g, mk, s₂, L, rfl, rfl, hqc, rfl, hL, rfl, rfl⟩, ?_⟩
    show Steps p.tables e below _ ((({ U with heap := s₂.heap, slotsUsed := s₂.slotsUsed } : State).setVm s₂.vm).setTop { g with pc := g.pc + len₂, stack := v.toList ++ g.stack })
    rw [← hs₂]
    exact hsteps
  · obtain ⟨e2, q2, q3, q4, q5, q6⟩ := id hsm
    have e3 : s₂ = ({ (U.calling g mk a).setFrames s₂.frames with heap := s₂.heap, slotsUsed := s₂.slotsUsed } : State).setVm s₂.vm := by
      have : s₂ = ({ s₂ with vm := (U.calling g mk a).vm } : State).setVm s₂.vm := rfl
      rw [e2] at this
      exact this
    have hf₂ : s₂.frames = .throwing q :: .java g :: U.frames.tail := hend
    have hW' : U.WarmedH s₂.vm := hW₂
    have hs₂ : s₂ = ((({ U with heap := s₂.heap, slotsUsed := s₂.slotsUsed } : State).setVm s₂.vm).setTop g).pushFrame (.throwing q) := by
      refine e3.trans ?_
      rw [hf₂, State.calling_eq h.top, State.setFrames_setFrames, State.pushFrame, State.frames_setTop _ hr', State.setTop_of_frames _ hr', State.setFrames_setFrames, hr]
      rfl
    have hsame : U.sameButNew ({ U with heap := s₂.heap, slotsUsed := s₂.slotsUsed } : State) L mc ms := by
      refine ⟨?_, q2, q3, q4, q5, q6⟩
      obtain ⟨t, ht, -⟩ := State.frames_cons hr
      show ({ U with heap := s₂.heap, slotsUsed := s₂.slotsUsed } : State) = { U.setFrames U.frames with heap := s₂.heap, slotsUsed := s₂.slotsUsed }
      rw [State.setFrames_self ht]
    subst hg
    refine Or.inr ⟨q, ⟨(({ U with heap := s₂.heap, slotsUsed := s₂.slotsUsed } : State).setVm s₂.vm), Ls ++ L, c0 + mc, s0 + ms⟩,
      ⟨X.admits, X.cas, X.clock, X.frames, X.room, X.hears, X.method, X.code, (X.here.setHeapUsed s₂.heap s₂.slotsUsed).setVm hW'.alike, X.tail, State.WarmedH.trans X.warmed hW', X.limits, X.bytes, X.same.trans (hsame.setVm s.vm)⟩,
      ⟨g, mk, s₂, L, E, ce, rfl, rfl, hx, hce, hcv, hcl, rfl, hL, rfl, rfl⟩, ?_⟩
    show Steps p.tables e below _ (((({ U with heap := s₂.heap, slotsUsed := s₂.slotsUsed } : State).setVm s₂.vm).setTop g).pushFrame (.throwing q))
    rw [← hs₂]
    exact hsteps
end
variable {p : Program} {l : Launch} {e : Env} {R : Room} {s : State} {m : MethodId} {args : Array Value} {below : List Frame} {meth : Method} {c : Code} {T : State} {H : Heap} {locs : List Loc} {cells slots : Nat}
theorem vx_callVX (X : Stand p l e R s m args below meth c T locs cells slots) (hexec : p.tables.exec = Jvm.exec) {own C : String} {index : Nat} {y : MethodName} {bytes : ByteArray} {maxL : Nat} {ret : Option FieldType} {hh : List (Nat × Nat × Nat × Nat)}
    (hown : s.vm.findClass own = some m.cls) (hlink : (Cond.methodLink own index y).before args s = true) (hinst : (Cond.instanceMethod y).before args s = true) (hsel : (Cond.selects C y y).before args s = true)
    (hcode : (Cond.codeWith y bytes maxL ret hh).before args s = true) (hy : y.cls ≠ "java/lang/invoke/MethodHandle" ∧ y.cls ≠ "java/lang/invoke/VarHandle")
    {W9 : Nat} {Pre : Pt → Array Value → Prop} {Post : Pt → Array Value → Option Value → Pt → Prop} {PostX : Pt → Array Value → Addr → Pt → Prop} (hK : vx_Back l R p e below s args y 3 W9 Pre Post PostX)
    {b : Addr} {cellB : Cell} (hcell : T.heap[b]? = some cellB) (hobj : cellB.vm.isStatics = false) (hcls : s.vm.findClass C = some cellB.cls)
    {g : JFrame} (hg : g.method = m) (hsize : g.locals.size = c.maxLocals) {argsL rest : List Value} (hlen : ∀ sig, parseMethodDescriptor y.desc = some sig → argsL.length = sig.parameters.length)
    (hstack : g.stack = argsL.reverse ++ .ref b :: rest) (hW : 2 * g.monitorRoom + (rest.map fun v => v.category).sum ≤ W9) (hdg : decode c.code g.pc = .ok (.invokevirtual index, 3))
    (hpre : ∀ vm₁, s.WarmedH vm₁ → Pre ⟨T.setVm vm₁, locs, cells, slots⟩ (Value.ref b :: argsL).toArray) :
    (∃ (v : Option Value) (vm₁ : Vm) (B : Pt), s.WarmedH vm₁ ∧ Stand p l e R s m args below meth c B.U B.locs B.cells B.slots ∧ Post ⟨T.setVm vm₁, locs, cells, slots⟩ (Value.ref b :: argsL).toArray v B ∧
      ∀ target, Steps p.tables e below (B.U.setTop { g with pc := g.pc + 3, stack := v.toList ++ rest }) target → Steps p.tables e below (T.setTop g) target) ∨
    (∃ (q : Addr) (vm₁ : Vm) (B : Pt), s.WarmedH vm₁ ∧ Stand p l e R s m args below meth c B.U B.locs B.cells B.slots ∧ PostX ⟨T.setVm vm₁, locs, cells, slots⟩ (Value.ref b :: argsL).toArray q B ∧
      Steps p.tables e below (T.setTop g) ((B.U.setTop { g with stack := rest }).pushFrame (.throwing q))) := by
  obtain ⟨mk, methM, hnamed, hmethM, hstM, habM⟩ := Cond.instanceMethod_spec hinst
  obtain ⟨m8, methM', cM, hn8, hmethM', -, -, -, -, -, -, hsigM⟩ := Cond.codeWith_spec hcode
  cases Option.some.inj (hn8.symm.trans hnamed)
  cases hmethM.symm.trans hmethM'
  obtain ⟨c2, r2, m2, q1, q2, q3, q4, kP, hkP, hkPi⟩ := Cond.selects_spec hsel
  cases hcls.symm.trans q1
  cases (State.methodFound?_of_named hnamed hy).symm.trans q2
  cases hnamed.symm.trans q3
  have hselP : selectMethod e.platform s.vm cellB.cls mk = .method mk := by rw [Launch.admits_selectMethod X.admits]; exact q4
  obtain ⟨vm₁, X₁, hstep₁⟩ := X.invokevirtual hexec hown hlink hnamed hmethM hstM hkP hkPi hy (a := b) (cell := cellB) hcell
    (fun z h => by rw [h] at hobj; cases hobj) hselP hmethM habM hkP hkPi (g := g) hg (argsL := argsL) (rest := rest) (hlen _ hsigM) hstack hdg
  rcases hK m meth c ⟨T.setVm vm₁, locs, cells, slots⟩ { g with stack := rest } (.invokevirtual index) mk (Value.ref b :: argsL).toArray X₁ hg hsize hdg hW (X₁.named hnamed) (hpre vm₁ X₁.warmed) with ⟨v, B, X', hpost, hsteps⟩ | ⟨q, B, X', hpost, hsteps⟩
  · exact Or.inl ⟨v, vm₁, B, X₁.warmed, X', hpost, fun target h => hstep₁ _ fun acts => by rw [doInvoke_state]; exact hsteps.trans h⟩
  · exact Or.inr ⟨q, vm₁, B, X₁.warmed, X', hpost, hstep₁ _ fun acts => by rw [doInvoke_state]; exact hsteps⟩
theorem vx_callSX (X : Stand p l e R s m args below meth c T locs cells slots) (hexec : p.tables.exec = Jvm.exec) {own : String} {index : Nat} {y : MethodName} {bytes : ByteArray} {maxL : Nat} {ret : Option FieldType} {hh : List (Nat × Nat × Nat × Nat)}
    (hown : s.vm.findClass own = some m.cls) (hlink : (Cond.methodLink own index y).before args s = true) (hstat : (Cond.static y).before args s = true) (hinit : (Cond.initialized y.cls).before args s = true)
    (hcode : (Cond.codeWith y bytes maxL ret hh).before args s = true) (hy : y.cls ≠ "java/lang/invoke/MethodHandle" ∧ y.cls ≠ "java/lang/invoke/VarHandle")
    {W9 : Nat} {Pre : Pt → Array Value → Prop} {Post : Pt → Array Value → Option Value → Pt → Prop} {PostX : Pt → Array Value → Addr → Pt → Prop} (hK : vx_Back l R p e below s args y 3 W9 Pre Post PostX)
    {g : JFrame} (hg : g.method = m) (hsize : g.locals.size = c.maxLocals) {argsL rest : List Value} (hlen : ∀ sig, parseMethodDescriptor y.desc = some sig → argsL.length = sig.parameters.length)
    (hstack : g.stack = argsL.reverse ++ rest) (hW : 2 * g.monitorRoom + (rest.map fun v => v.category).sum ≤ W9) (hdg : decode c.code g.pc = .ok (.invokestatic index, 3))
    (hpre : ∀ vm₁, s.WarmedH vm₁ → Pre ⟨T.setVm vm₁, locs, cells, slots⟩ argsL.toArray) :
    (∃ (v : Option Value) (vm₁ : Vm) (B : Pt), s.WarmedH vm₁ ∧ Stand p l e R s m args below meth c B.U B.locs B.cells B.slots ∧ Post ⟨T.setVm vm₁, locs, cells, slots⟩ argsL.toArray v B ∧
      ∀ target, Steps p.tables e below (B.U.setTop { g with pc := g.pc + 3, stack := v.toList ++ rest }) target → Steps p.tables e below (T.setTop g) target) ∨
    (∃ (q : Addr) (vm₁ : Vm) (B : Pt), s.WarmedH vm₁ ∧ Stand p l e R s m args below meth c B.U B.locs B.cells B.slots ∧ PostX ⟨T.setVm vm₁, locs, cells, slots⟩ argsL.toArray q B ∧
      Steps p.tables e below (T.setTop g) ((B.U.setTop { g with stack := rest }).pushFrame (.throwing q))) := by
  obtain ⟨mk, methM, cM, hnamed, hmethM, -, -, -, -, -, -, hsigM⟩ := Cond.codeWith_spec hcode
  have hstatic : methM.isStatic = true := Cond.static_spec hnamed hmethM hstat
  obtain ⟨kP, hkP, -⟩ := className_of_methodNamed hnamed
  have hinitP : kP.init = .initialized := Cond.initialized_spec (findClass_of_methodNamed hnamed) hkP hinit
  obtain ⟨vm₁, X₁, hstep₁⟩ := X.invokestatic hexec hown hlink hnamed hmethM hstatic hkP hinitP hy (g := g) hg (argsL := argsL) (rest := rest) (hlen _ hsigM) hstack hdg
  rcases hK m meth c ⟨T.setVm vm₁, locs, cells, slots⟩ { g with stack := rest } (.invokestatic index) mk argsL.toArray X₁ hg hsize hdg hW (X₁.named hnamed) (hpre vm₁ X₁.warmed) with ⟨v, B, X', hpost, hsteps⟩ | ⟨q, B, X', hpost, hsteps⟩
  · exact Or.inl ⟨v, vm₁, B, X₁.warmed, X', hpost, fun target h => hstep₁ _ fun acts => by rw [doInvoke_state]; exact hsteps.trans h⟩
  · exact Or.inr ⟨q, vm₁, B, X₁.warmed, X', hpost, hstep₁ _ fun acts => by rw [doInvoke_state]; exact hsteps⟩
theorem vx_callVW (X : Stand p l e R s m args below meth c T locs cells slots) (hexec : p.tables.exec = Jvm.exec) {own C : String} {index : Nat} {y : MethodName} {bytes : ByteArray} {maxL : Nat} {ret : Option FieldType} {hh : List (Nat × Nat × Nat × Nat)}
    (hown : s.vm.findClass own = some m.cls) (hlink : (Cond.methodLink own index y).before args s = true) (hinst : (Cond.instanceMethod y).before args s = true) (hsel : (Cond.selects C y y).before args s = true)
    (hcode : (Cond.codeWith y bytes maxL ret hh).before args s = true) (hy : y.cls ≠ "java/lang/invoke/MethodHandle" ∧ y.cls ≠ "java/lang/invoke/VarHandle")
    {W9 : Nat} {Pre : Pt → Array Value → Prop} {Post : Pt → Array Value → Option Value → Pt → Prop} (hK : Back l R p e below s args y 3 W9 Pre Post)
    {b : Addr} {cellB : Cell} (hcell : T.heap[b]? = some cellB) (hobj : cellB.vm.isStatics = false) (hcls : s.vm.findClass C = some cellB.cls)
    {g : JFrame} (hg : g.method = m) (hsize : g.locals.size = c.maxLocals) {argsL rest : List Value} (hlen : ∀ sig, parseMethodDescriptor y.desc = some sig → argsL.length = sig.parameters.length)
    (hstack : g.stack = argsL.reverse ++ .ref b :: rest) (hW : 2 * g.monitorRoom + (rest.map fun v => v.category).sum ≤ W9) (hdg : decode c.code g.pc = .ok (.invokevirtual index, 3))
    (hpre : ∀ vm₁, s.WarmedH vm₁ → Pre ⟨T.setVm vm₁, locs, cells, slots⟩ (Value.ref b :: argsL).toArray) :
    ∃ (v : Option Value) (vm₁ : Vm) (B : Pt), s.WarmedH vm₁ ∧ Stand p l e R s m args below meth c B.U B.locs B.cells B.slots ∧ Post ⟨T.setVm vm₁, locs, cells, slots⟩ (Value.ref b :: argsL).toArray v B ∧
      ∀ target, Steps p.tables e below (B.U.setTop { g with pc := g.pc + 3, stack := v.toList ++ rest }) target → Steps p.tables e below (T.setTop g) target := by
  obtain ⟨mk, methM, hnamed, hmethM, hstM, habM⟩ := Cond.instanceMethod_spec hinst
  obtain ⟨m8, methM', cM, hn8, hmethM', -, -, -, -, -, -, hsigM⟩ := Cond.codeWith_spec hcode
  cases Option.some.inj (hn8.symm.trans hnamed)
  cases hmethM.symm.trans hmethM'
  obtain ⟨c2, r2, m2, q1, q2, q3, q4, kP, hkP, hkPi⟩ := Cond.selects_spec hsel
  cases hcls.symm.trans q1
  cases (State.methodFound?_of_named hnamed hy).symm.trans q2
  cases hnamed.symm.trans q3
  have hselP : selectMethod e.platform s.vm cellB.cls mk = .method mk := by rw [Launch.admits_selectMethod X.admits]; exact q4
  obtain ⟨vm₁, X₁, hstep₁⟩ := X.invokevirtual hexec hown hlink hnamed hmethM hstM hkP hkPi hy (a := b) (cell := cellB) hcell
    (fun z h => by rw [h] at hobj; cases hobj) hselP hmethM habM hkP hkPi (g := g) hg (argsL := argsL) (rest := rest) (hlen _ hsigM) hstack hdg
  obtain ⟨v, B, X', hpost, hsteps⟩ := hK m meth c ⟨T.setVm vm₁, locs, cells, slots⟩ { g with stack := rest } (.invokevirtual index) mk (Value.ref b :: argsL).toArray X₁ hg hsize hdg hW (X₁.named hnamed) (hpre vm₁ X₁.warmed)
  exact ⟨v, vm₁, B, X₁.warmed, X', hpost, fun target h => hstep₁ _ fun acts => by rw [doInvoke_state]; exact hsteps.trans h⟩
abbrev vx_CVW (R : Room) (s : State) (args : Array Value) (own C : String) (index : Nat) (y : MethodName) (bytes : ByteArray) (maxL : Nat) (ret : Option FieldType) (hh : List (Nat × Nat × Nat × Nat)) (ws : List Cond) (rm : Room) (mc ms n : Nat) : Prop :=
  (rm.cells = mc ∧ rm.slots = ms ∧ rm.frames + 1 ≤ R.frames ∧ 8 + (maxL + 11) + rm.locals ≤ R.locals ∧ (∀ w ∈ ws, ∀ (a' : Array Value) (U : State), s.WarmedH U.vm → w.before a' U = true) ∧ Cond.codeWith y bytes maxL ret hh ∈ ws) ∧
  (Cond.codeWith y bytes maxL ret hh).before args s = true ∧ (Cond.initialized y.cls).before args s = true ∧ (y.cls ≠ "java/lang/invoke/MethodHandle" ∧ y.cls ≠ "java/lang/invoke/VarHandle") ∧
  (∀ sig, parseMethodDescriptor y.desc = some sig → n = sig.parameters.length) ∧ (Cond.methodLink own index y).before args s = true ∧ (Cond.instanceMethod y).before args s = true ∧ (Cond.selects C y y).before args s = true
theorem vx_cwVW {own C : String} {index maxL mc ms : Nat} {y : MethodName} {bytes : ByteArray} {ret : Option FieldType} {hh : List (Nat × Nat × Nat × Nat)} {Ts ws ws' : List Cond} {rm : Room} (n : Nat) (ht : ∀ w ∈ Ts, w.before args s = true) (hT : GoodIn Ts (wsV own index C y ws)) (hw : ws = Cond.codeWith y bytes maxL ret hh :: ws') (hrc : rm.cells = mc) (hrs : rm.slots = ms)
    (hd : y.cls = C ∧ y.cls ≠ "java/lang/invoke/MethodHandle" ∧ y.cls ≠ "java/lang/invoke/VarHandle" ∧ (parseMethodDescriptor y.desc).map (fun d => d.parameters.length) = some n) (hR : rm.frames + 1 ≤ R.frames ∧ 8 + (maxL + 11) + rm.locals ≤ R.locals) :
    vx_CVW R s args own C index y bytes maxL ret hh ws rm mc ms n := by
  obtain ⟨hC, hd⟩ := hd
  subst hC
  have ok : ∀ w ∈ wsV own index y.cls y ws, w.before args s = true := fun w h => ht w (hT w h).1
  have hG : GoodIn Ts ws := fun w h => hT w (by unfold wsV; exact List.mem_append_right _ h)
  have hc : Cond.codeWith y bytes maxL ret hh ∈ ws := by rw [hw]; exact List.mem_cons_self
  refine ⟨⟨hrc, hrs, hR.1, hR.2, pay_in ht hG, hc⟩, ht _ (hG _ hc).1, ok _ (by simp [wsV]), ⟨hd.1, hd.2.1⟩, fun sig h => ?_, ok _ (by simp [wsV]), ok _ (by simp [wsV]), ok _ (by simp [wsV])⟩
  have h2 := hd.2.2
  rw [h] at h2
  exact (Option.some.inj h2).symm
theorem vx_runVW {y : MethodName} {bytes cc : ByteArray} {maxL nL mc ms n index : Nat} {ret : Option FieldType} {hh : List (Nat × Nat × Nat × Nat)} {ws : List Cond} {rm : Room} {Pc : Array Value → State → Prop} {Qc : Array Value → State → Outcome → State → Prop} {free : Addr → Prop} {Ts : List Cond} {own C : String} {b : Addr} {As rest : List Value} {g : JFrame}
    (S : CallFix p m c cc nL s args Ts own) (hM : Met l y ws rm Pc Qc mc ms free) (cw : vx_CVW R s args own C index y bytes maxL ret hh ws rm mc ms n) (hp : PreV s H C b Pc As)
    (hg : g.method = m) (hn : As.length = n) (hsize : g.locals.size = nL) (hstack : g.stack = As.reverse ++ .ref b :: rest) (hW : 2 * g.monitorRoom + (rest.map fun v => v.category).sum ≤ 8) (hdg : decode cc g.pc = .ok (.invokevirtual index, 3)) (hf : cells + mc ≤ R.cells ∧ slots + ms ≤ R.slots) :
    va_Run p l e R s m args below meth c H locs cells slots mc ms g rest (Qc (Value.ref b :: As).toArray) free := by
  obtain ⟨⟨hrc, hrs, hfr, hlo, hws, hcw⟩, hcode, hini, hy, hlen, hl, hin, hse⟩ := cw
  have hK : Back l R p e below s args y 3 8 (PreOf R mc ms Pc) (PostOf Qc mc ms free) := va_backW (hh := hh) (bytes := bytes) (maxL := maxL) (ret := ret) hM hp.1 hrc hrs hfr hlo hws hcw (fun a' U hW => word_at hW (Or.inl (by first | rfl | simp [Cond.onTables, Cond.keeps, Cond.steady])) hini)
  obtain ⟨hx, hb, hml, ho, -⟩ := S
  obtain ⟨-, ⟨cellB, hcB, hoB, hclB⟩, hPc⟩ := hp
  intro T hT X
  obtain ⟨v, vm₁, ⟨U', l2, c2, s2⟩, hW₁, X', ⟨g', mk, t, L, e1, e2, hq, h1, hL, h2, h3⟩, st⟩ := vx_callVW X hx (C := C) (hh := hh) (bytes := bytes) (maxL := maxL) (ret := ret) ho hl hin hse hcode hy hK (by rw [hT]; exact hcB) hoB hclB hg (hsize.trans hml.symm) (argsL := As) (rest := rest) (fun sig h => hn.trans (hlen sig h)) hstack hW (by rw [hb]; exact hdg)
    (fun vm₁ hW₁ => ⟨hf.1, hf.2, hPc (T.setVm vm₁) hT hW₁⟩)
  dsimp only [Pt.U, Pt.locs, Pt.cells, Pt.slots] at X' e1 e2 h1 h2 h3 st
  subst h1; subst h2; subst h3
  exact ⟨v, (T.setVm vm₁).calling g' mk (Value.ref b :: As).toArray, t, U', L, hT, X', hL, e1, e2, hq, st⟩
section
variable {y : MethodName} {bytes cc : ByteArray} {maxL nL mc ms n index : Nat} {ret : Option FieldType} {ws : List Cond} {rm : Room} {Pc : Array Value → State → Prop} {Qc : Array Value → State → Outcome → State → Prop} {XC : String → State → State → Prop} {free : Addr → Prop} {Ts : List Cond} {own C : String} {b : Addr} {As rest : List Value} {g : JFrame}
theorem vx_runVX {hh : List (Nat × Nat × Nat × Nat)} (S : CallFix p m c cc nL s args Ts own) (hM : vx_Met l y ws rm Pc Qc XC mc ms free) (cw : vx_CVW R s args own C index y bytes maxL ret hh ws rm mc ms n) (hp : PreV s H C b Pc As)
    (hg : g.method = m) (hn : As.length = n) (hsize : g.locals.size = nL) (hstack : g.stack = As.reverse ++ .ref b :: rest) (hW : 2 * g.monitorRoom + (rest.map fun v => v.category).sum ≤ 8) (hdg : decode cc g.pc = .ok (.invokevirtual index, 3)) (hf : cells + mc ≤ R.cells ∧ slots + ms ≤ R.slots) :
    vx_Run p l e R s m args below meth c H locs cells slots mc ms g rest (Qc (Value.ref b :: As).toArray) XC free := by
  obtain ⟨⟨hrc, hrs, hfr, hlo, hws, hcw⟩, hcode, hini, hy, hlen, hl, hin, hse⟩ := cw
  have hK : vx_Back l R p e below s args y 3 8 (PreOf R mc ms Pc) (PostOf Qc mc ms free) (vx_Post XC mc ms free) := vx_backW (hh := hh) (bytes := bytes) (maxL := maxL) (ret := ret) hM hp.1 hrc hrs hfr hlo hws hcw (fun a' U hW => word_at hW (Or.inl (by first | rfl | simp [Cond.onTables, Cond.keeps, Cond.steady])) hini)
  obtain ⟨hx, hb, hml, ho, -⟩ := S
  obtain ⟨-, ⟨cellB, hcB, hoB, hclB⟩, hPc⟩ := hp
  intro T hT X
  rcases vx_callVX X hx (C := C) (hh := hh) (bytes := bytes) (maxL := maxL) (ret := ret) ho hl hin hse hcode hy hK (by rw [hT]; exact hcB) hoB hclB hg (hsize.trans hml.symm) (argsL := As) (rest := rest) (fun sig h => hn.trans (hlen sig h)) hstack hW (by rw [hb]; exact hdg)
    (fun vm₁ hW₁ => ⟨hf.1, hf.2, hPc (T.setVm vm₁) hT hW₁⟩) with ⟨v, vm₁, ⟨U', l2, c2, s2⟩, hW₁, X', ⟨g', mk, t, L, e1, e2, hq, h1, hL, h2, h3⟩, st⟩ | ⟨q, vm₁, ⟨U', l2, c2, s2⟩, hW₁, X', ⟨g', mk, t, L, E, ce, e1, e2, hq, hce, hcv, hcl, h1, hL, h2, h3⟩, st⟩
  · dsimp only [Pt.U, Pt.locs, Pt.cells, Pt.slots] at X' e1 e2 h1 h2 h3 st
    subst h1; subst h2; subst h3
    exact Or.inl ⟨v, (T.setVm vm₁).calling g' mk (Value.ref b :: As).toArray, t, U', L, hT, X', hL, e1, e2, hq, st⟩
  · dsimp only [Pt.U, Pt.locs, Pt.cells, Pt.slots] at X' e1 e2 h1 h2 h3 st hcl
    subst h1; subst h2; subst h3
    exact Or.inr ⟨q, (T.setVm vm₁).calling g' mk (Value.ref b :: As).toArray, t, U', L, E, ce, hT, X', hL, e1, e2, hq, hce, hcv, vx_cls hW₁ hcl, st⟩
theorem vx_runSX {hh : List (Nat × Nat × Nat × Nat)} (S : CallFix p m c cc nL s args Ts own) (hM : vx_Met l y ws rm Pc Qc XC mc ms free) (cw : vx_CSW R s args own index y bytes maxL ret hh ws rm mc ms n) (hp : PreS s H Pc As)
    (hg : g.method = m) (hn : As.length = n) (hsize : g.locals.size = nL) (hstack : g.stack = As.reverse ++ rest) (hW : 2 * g.monitorRoom + (rest.map fun v => v.category).sum ≤ 8) (hdg : decode cc g.pc = .ok (.invokestatic index, 3)) (hf : cells + mc ≤ R.cells ∧ slots + ms ≤ R.slots) :
    vx_Run p l e R s m args below meth c H locs cells slots mc ms g rest (Qc As.toArray) XC free := by
  obtain ⟨⟨hrc, hrs, hfr, hlo, hws, hcw⟩, hcode, hini, hy, hlen, hl, hstt⟩ := cw
  have hK : vx_Back l R p e below s args y 3 8 (PreOf R mc ms Pc) (PostOf Qc mc ms free) (vx_Post XC mc ms free) := vx_backW (hh := hh) (bytes := bytes) (maxL := maxL) (ret := ret) hM hp.1 hrc hrs hfr hlo hws hcw (fun a' U hW => word_at hW (Or.inl (by first | rfl | simp [Cond.onTables, Cond.keeps, Cond.steady])) hini)
  obtain ⟨hx, hb, hml, ho, -⟩ := S
  intro T hT X
  rcases vx_callSX X hx (hh := hh) (bytes := bytes) (maxL := maxL) (ret := ret) ho hl hstt hini hcode hy hK hg (hsize.trans hml.symm) (argsL := As) (rest := rest) (fun sig h => hn.trans (hlen sig h)) hstack hW (by rw [hb]; exact hdg)
    (fun vm₁ hW₁ => ⟨hf.1, hf.2, hp.2 (T.setVm vm₁) hT hW₁⟩) with ⟨v, vm₁, ⟨U', l2, c2, s2⟩, hW₁, X', ⟨g', mk, t, L, e1, e2, hq, h1, hL, h2, h3⟩, st⟩ | ⟨q, vm₁, ⟨U', l2, c2, s2⟩, hW₁, X', ⟨g', mk, t, L, E, ce, e1, e2, hq, hce, hcv, hcl, h1, hL, h2, h3⟩, st⟩
  · dsimp only [Pt.U, Pt.locs, Pt.cells, Pt.slots] at X' e1 e2 h1 h2 h3 st
    subst h1; subst h2; subst h3
    exact Or.inl ⟨v, (T.setVm vm₁).calling g' mk As.toArray, t, U', L, hT, X', hL, e1, e2, hq, st⟩
  · dsimp only [Pt.U, Pt.locs, Pt.cells, Pt.slots] at X' e1 e2 h1 h2 h3 st hcl
    subst h1; subst h2; subst h3
    exact Or.inr ⟨q, (T.setVm vm₁).calling g' mk As.toArray, t, U', L, E, ce, hT, X', hL, e1, e2, hq, hce, hcv, vx_cls hW₁ hcl, st⟩
end
end VXH
theorem vx_ofWH {l : Launch} {y : MethodName} {ws ws' : List Cond} {rm : Room} {Pc : Array Value → State → Prop} {Qc : Array Value → State → Outcome → State → Prop} {XC : String → State → State → Prop} {mc ms : Nat} {free : Addr → Prop} {cc : ByteArray} {maxL : Nat} {ret : Option FieldType} {hh : List (Nat × Nat × Nat × Nat)}
    (hy : plainName y.cls = true) (hw : ws = Cond.codeWith y cc maxL ret hh :: ws')
    (body : ∀ p e s m args below meth c s₁, BodyLoose p l y (headSpec ws rm) cc maxL ret e s m args below meth c s₁ → c.maxLocals = maxL → Pc args s →
      W p l e (headSpec ws rm).room s m args below meth c s.heap [] 0 0 (vx_MQ below Qc XC args s mc ms free) (entryFrame m args maxL)) : vx_Met l y ws rm Pc Qc XC mc ms free := by
  refine MetFree.of_bodyS (code := cc) (maxLocals := maxL) (ret := ret) hy ?_ ?_
  · intro args s m h hn
    obtain ⟨m9, meth, c, hn9, h1, h2, h3, h4, -, h5, h6, -⟩ := Cond.codeWith_spec (atoms_spec (ws := ws) h _ (by rw [hw]; exact List.mem_cons_self))
    cases hn.symm.trans hn9
    exact ⟨meth, c, h1, h2, h3, h4, h5, h6⟩
  · intro p e s m args below meth c s₁ B hml hP _
    have hh0 : s₁.heap = s.heap := by rw [B.state]; rfl
    obtain ⟨t, a1, o, b1, b2, b3⟩ := body p e s m args below meth c s₁ B hml hP s₁ hh0 (Stand.of_body B)
    exact ⟨t, o, a1, b1, b2, b3⟩
/-! ===== END ===== -/

/-! ===== BEGIN printed: names, fields, word lists, decode rows ===== -/
end
section
/-! a machine state as DATA: the world a list of cells that name each other by their places in it; 'ad' says where a place lies -/
def zv (ad : Nat → Nat) : Value → Value
  | .ref i => .ref (ad i)
  | v => v
def zc (ad : Nat → Nat) : va_E → va_E
  | .inl (cA, n, .inr (.inr (.inr (.inr f)))) => .inl (cA, n, .inr (.inr (.inr (.inr (fun j => (f j).map ad)))))
  | .inl x => .inl x
  | .inr (ci, fs) => .inr (ci, fs.map (zv ad))
def zw (ad : Nat → Nat) (aw : List va_E) : va_W := aw.mapIdx (fun i e => (ad i, zc ad e))
theorem zw_at (ad : Nat → Nat) (aw : List va_E) (i : Nat) : (zw ad aw)[i]? = (aw[i]?).map (fun e => (ad i, zc ad e)) := by
  simp [zw, List.getElem?_mapIdx]
theorem zw_get {ad : Nat → Nat} {aw : List va_E} {i : Nat} {e : va_E} (h : aw[i]? = some e) : (zw ad aw)[i]? = some (ad i, zc ad e) := by
  rw [zw_at, h]; rfl
theorem zw_set (ad : Nat → Nat) (aw : List va_E) (i : Nat) (e : va_E) : zw ad (aw.set i e) = (zw ad aw).set i (ad i, zc ad e) := by
  apply List.ext_getElem?
  intro j
  rw [zw_at, List.getElem?_set, List.getElem?_set, zw_at]
  by_cases h : i = j
  · subst h
    rw [if_pos rfl, if_pos rfl]
    simp only [zw, List.length_mapIdx]
    by_cases hl : i < aw.length
    · rw [if_pos hl, if_pos hl]; rfl
    · rw [if_neg hl, if_neg hl]; rfl
  · rw [if_neg h, if_neg h]
theorem zw_len (ad : Nat → Nat) (aw : List va_E) : (zw ad aw).length = aw.length := by simp [zw]
theorem zv_cat (ad : Nat → Nat) (v : Value) : (zv ad v).category = v.category := by cases v <;> rfl
theorem zv_cats (ad : Nat → Nat) (st : List Value) : ((st.map (zv ad)).map fun v => v.category) = st.map (fun v => v.category) := by
  rw [List.map_map]; apply List.map_congr_left; intro v _; exact zv_cat ad v
/-- the locals by slots: none where nothing is known (or a long's second half) -/
def zh (ad : Nat → Nat) (ls : Array Slot) (nL : Nat) (lv : List (Option Value)) : Prop := ls.size = nL ∧ lv_wf ls ∧ ∀ (i : Nat) (v : Value), lv[i]? = some (some v) → ls[i]? = some (.val (zv ad v))
def zl (ad : Nat → Nat) (lv : List (Option Value)) : List (Nat × Value) := (List.range lv.length).filterMap (fun i => match lv[i]? with | some (some v) => some (i, zv ad v) | _ => none)
theorem zl_mem {ad : Nat → Nat} {lv : List (Option Value)} {i : Nat} {v : Value} (h : lv[i]? = some (some v)) : (i, zv ad v) ∈ zl ad lv :=
  List.mem_filterMap.mpr ⟨i, List.mem_range.mpr (List.getElem?_eq_some_iff.mp h).1, by rw [h]⟩
theorem zl_of {ad : Nat → Nat} {lv : List (Option Value)} {q : Nat × Value} (h : q ∈ zl ad lv) : ∃ v, lv[q.1]? = some (some v) ∧ q.2 = zv ad v := by
  obtain ⟨i, -, hi⟩ := List.mem_filterMap.mp h
  split at hi
  · next v hv => cases hi; exact ⟨v, hv, rfl⟩
  · cases hi
theorem zh_has {ad : Nat → Nat} {ls : Array Slot} {nL : Nat} {lv : List (Option Value)} (h : zh ad ls nL lv) : lv_has ls nL (zl ad lv) :=
  ⟨h.1, h.2.1, fun q hq => by obtain ⟨v, h1, h2⟩ := zl_of hq; rw [h2]; exact h.2.2 _ _ h1⟩
/-- nothing of two slots stands just ahead of slot i -/
def zsok (lv : List (Option Value)) (i : Nat) : Bool := match i with
  | 0 => true
  | j + 1 => match lv[j]? with
    | some (some v) => v.category == 1
    | _ => true
theorem zh_store1 {ad : Nat → Nat} {ls' : Array Slot} {nL i : Nat} {lv : List (Option Value)} {v : Value} (hok : zsok lv i = true) (h : lv_has ls' nL ((i, zv ad v) :: (zl ad lv).filter (fun q => !(q.1 == i) && !(q.1 + 1 == i && q.2.category == 2)))) : zh ad ls' nL (lv.set i (some v)) := by
  refine ⟨h.1, h.2.1, fun j w hj => ?_⟩
  rw [List.getElem?_set] at hj
  by_cases e : i = j
  · subst e
    rw [if_pos rfl] at hj
    split at hj
    · cases hj; exact h.2.2 (i, zv ad v) List.mem_cons_self
    · cases hj
  · rw [if_neg e] at hj
    refine h.2.2 (j, zv ad w) (List.mem_cons_of_mem _ (List.mem_filter.mpr ⟨zl_mem hj, ?_⟩))
    have h1 : (j == i) = false := by simp; exact fun q => e q.symm
    by_cases e2 : j + 1 = i
    · subst e2
      simp only [zsok, hj] at hok
      have h3 : w.category = 1 := by simpa using hok
      simp [zv_cat, h3]
    · have : (j + 1 == i) = false := by simp [e2]
      simp [h1, this]
theorem zh_store2 {ad : Nat → Nat} {ls' : Array Slot} {nL i : Nat} {lv : List (Option Value)} {v : Value} (hok : zsok lv i = true) (h : lv_has ls' nL ((i, zv ad v) :: (zl ad lv).filter (fun q => !(q.1 == i) && (!(q.1 == i + 1) && !(q.1 + 1 == i && q.2.category == 2))))) : zh ad ls' nL ((lv.set i (some v)).set (i + 1) none) := by
  refine ⟨h.1, h.2.1, fun j w hj => ?_⟩
  rw [List.getElem?_set] at hj
  by_cases e0 : i + 1 = j
  · rw [if_pos e0] at hj
    split at hj <;> cases hj
  rw [if_neg e0] at hj
  rw [List.getElem?_set] at hj
  by_cases e : i = j
  · subst e
    rw [if_pos rfl] at hj
    split at hj
    · cases hj; exact h.2.2 (i, zv ad v) List.mem_cons_self
    · cases hj
  · rw [if_neg e] at hj
    refine h.2.2 (j, zv ad w) (List.mem_cons_of_mem _ (List.mem_filter.mpr ⟨zl_mem hj, ?_⟩))
    have h1 : (j == i) = false := by simp; exact fun q => e q.symm
    have h2 : (j == i + 1) = false := by simp; exact fun q => e0 q.symm
    by_cases e2 : j + 1 = i
    · subst e2
      simp only [zsok, hj] at hok
      have h3 : w.category = 1 := by simpa using hok
      simp [zv_cat, h3]
      omega
    · have : (j + 1 == i) = false := by simp [e2]
      simp [h1, h2, this]
/-- the machine: p l e R s m args below meth c Q A cells slots -/
abbrev zM : Type := Program × Launch × Env × Room × State × MethodId × Array Value × List Frame × Method × Code × (State → Prop) × (Nat → Prop) × Nat × Nat
/-- the tables: D, classes, array types, addresses -/
abbrev zG : Type := va_G × List vw_C × List (ClassId × FieldType) × (Nat → Nat)
/-- what stays: the code, the words, the tables -/
def zFx (M : zM) (G : zG) (cc : ByteArray) (nL : Nat) (own : String) (Ts : List Cond) (rt : Option FieldType) : Prop := match M, G with
  | (p, _, _, _, s, m, args, _, meth, c, _, A, _, _), (D, cl, tys, _) => CallFix p m c cc nL s args Ts own ∧ meth.sig.returnType = rt ∧ meth.locks = false ∧ va_K D cl tys s ∧ ∀ q, s.heap.size ≤ q → A q
/-- the machine, in any heap that holds the world, comes to its end -/
def Zj (M : zM) (G : zG) (cc : ByteArray) (nL : Nat) (own : String) (Ts : List Cond) (rt : Option FieldType) (aw : List va_E) (lv : List (Option Value)) (st : List Value) (pc : Nat) : Prop := match M, G with
  | (p, l, e, R, s, m, args, below, meth, c, Q, A, cells, slots), (D, cl, tys, ad) => zFx (p, l, e, R, s, m, args, below, meth, c, Q, A, cells, slots) (D, cl, tys, ad) cc nL own Ts rt → ∀ (H : Heap) (locs : List Loc) (ls : Array Slot), va_P D cl (zw ad aw) H → va_D A (zw ad aw) → va_S A s.heap H locs → zh ad ls nL lv → W p l e R s m args below meth c H locs cells slots Q (F0 m pc ls (st.map (zv ad)))
section ZR
variable {M : zM} {G : zG} {cc : ByteArray} {nL : Nat} {own : String} {Ts : List Cond} {rt : Option FieldType} {aw : List va_E} {lv : List (Option Value)} {st : List Value} {pc : Nat}
theorem z_iconst {n : Int} {v : Int32} (hdg : decode cc pc = .ok (.iconst n, 1)) (hv : Int32.ofInt n = v) (kk : Zj M G cc nL own Ts rt aw lv (.int v :: st) (pc + 1)) : Zj M G cc nL own Ts rt aw lv (st) pc := by
  obtain ⟨p, l, e, R, s, m, args, below, meth, c, Q, A, cells, slots⟩ := M
  obtain ⟨D, cl, tys, ad⟩ := G
  intro hF H locs ls hP hD hS hl
  obtain ⟨⟨hx, hb, hml, hown, hts⟩, hr, hlk, hK, hA⟩ := id hF
  exact lv_iconst hx hb hdg hv (kk hF H locs ls hP hD hS hl)
theorem z_bipush {n : Int} {v : Int32} (hdg : decode cc pc = .ok (.bipush n, 2)) (hv : (Int8.ofInt n).toInt32 = v) (kk : Zj M G cc nL own Ts rt aw lv (.int v :: st) (pc + 2)) : Zj M G cc nL own Ts rt aw lv (st) pc := by
  obtain ⟨p, l, e, R, s, m, args, below, meth, c, Q, A, cells, slots⟩ := M
  obtain ⟨D, cl, tys, ad⟩ := G
  intro hF H locs ls hP hD hS hl
  obtain ⟨⟨hx, hb, hml, hown, hts⟩, hr, hlk, hK, hA⟩ := id hF
  exact lv_bipush hx hb hdg hv (kk hF H locs ls hP hD hS hl)
theorem z_sipush {n : Int} {v : Int32} (hdg : decode cc pc = .ok (.sipush n, 3)) (hv : (Int16.ofInt n).toInt32 = v) (kk : Zj M G cc nL own Ts rt aw lv (.int v :: st) (pc + 3)) : Zj M G cc nL own Ts rt aw lv (st) pc := by
  obtain ⟨p, l, e, R, s, m, args, below, meth, c, Q, A, cells, slots⟩ := M
  obtain ⟨D, cl, tys, ad⟩ := G
  intro hF H locs ls hP hD hS hl
  obtain ⟨⟨hx, hb, hml, hown, hts⟩, hr, hlk, hK, hA⟩ := id hF
  exact lv_sipush hx hb hdg hv (kk hF H locs ls hP hD hS hl)
theorem z_lconst {n : Fin 2} {v : Int64} (hdg : decode cc pc = .ok (.lconst n, 1)) (hv : Int64.ofNat (n : Nat) = v) (kk : Zj M G cc nL own Ts rt aw lv (.long v :: st) (pc + 1)) : Zj M G cc nL own Ts rt aw lv (st) pc := by
  obtain ⟨p, l, e, R, s, m, args, below, meth, c, Q, A, cells, slots⟩ := M
  obtain ⟨D, cl, tys, ad⟩ := G
  intro hF H locs ls hP hD hS hl
  obtain ⟨⟨hx, hb, hml, hown, hts⟩, hr, hlk, hK, hA⟩ := id hF
  exact lv_lconst hx hb hdg hv (kk hF H locs ls hP hD hS hl)
theorem z_ldc {index : Nat} {v : Int32} (hdg : decode cc pc = .ok (.ldc index, 2)) (hc : Jvm.Cond.constant own index v ∈ Ts) (kk : Zj M G cc nL own Ts rt aw lv (.int v :: st) (pc + 2)) : Zj M G cc nL own Ts rt aw lv (st) pc := by
  obtain ⟨p, l, e, R, s, m, args, below, meth, c, Q, A, cells, slots⟩ := M
  obtain ⟨D, cl, tys, ad⟩ := G
  intro hF H locs ls hP hD hS hl
  obtain ⟨⟨hx, hb, hml, hown, hts⟩, hr, hlk, hK, hA⟩ := id hF
  exact lv_ldc hx hb hown (hts _ hc) hdg (kk hF H locs ls hP hD hS hl)
theorem z_ldcw {index : Nat} {v : Int32} (hdg : decode cc pc = .ok (.ldc_w index, 3)) (hc : Jvm.Cond.constant own index v ∈ Ts) (kk : Zj M G cc nL own Ts rt aw lv (.int v :: st) (pc + 3)) : Zj M G cc nL own Ts rt aw lv (st) pc := by
  obtain ⟨p, l, e, R, s, m, args, below, meth, c, Q, A, cells, slots⟩ := M
  obtain ⟨D, cl, tys, ad⟩ := G
  intro hF H locs ls hP hD hS hl
  obtain ⟨⟨hx, hb, hml, hown, hts⟩, hr, hlk, hK, hA⟩ := id hF
  exact lv_ldcw hx hb hown (hts _ hc) hdg (kk hF H locs ls hP hD hS hl)
theorem z_ldc2 {index : Nat} {v : Int64} (hdg : decode cc pc = .ok (.ldc2_w index, 3)) (hc : Jvm.Cond.constantLong own index v ∈ Ts) (kk : Zj M G cc nL own Ts rt aw lv (.long v :: st) (pc + 3)) : Zj M G cc nL own Ts rt aw lv (st) pc := by
  obtain ⟨p, l, e, R, s, m, args, below, meth, c, Q, A, cells, slots⟩ := M
  obtain ⟨D, cl, tys, ad⟩ := G
  intro hF H locs ls hP hD hS hl
  obtain ⟨⟨hx, hb, hml, hown, hts⟩, hr, hlk, hK, hA⟩ := id hF
  exact lv_ldc2 hx hb hown (hts _ hc) hdg (kk hF H locs ls hP hD hS hl)
theorem z_iload_n {k : Fin 4} {x : Int32} (hdg : decode cc pc = .ok (.iload_n k, 1)) (hv : lv[(k : Nat)]? = some (some (.int x))) (kk : Zj M G cc nL own Ts rt aw lv (.int x :: st) (pc + 1)) : Zj M G cc nL own Ts rt aw lv (st) pc := by
  obtain ⟨p, l, e, R, s, m, args, below, meth, c, Q, A, cells, slots⟩ := M
  obtain ⟨D, cl, tys, ad⟩ := G
  intro hF H locs ls hP hD hS hl
  obtain ⟨⟨hx, hb, hml, hown, hts⟩, hr, hlk, hK, hA⟩ := id hF
  exact lv_iload_n hx hb hdg rfl (hl.2.2 _ _ hv) (kk hF H locs ls hP hD hS hl)
theorem z_iload {i : Nat} {x : Int32} (hdg : decode cc pc = .ok (.iload i, 2)) (hv : lv[i]? = some (some (.int x))) (kk : Zj M G cc nL own Ts rt aw lv (.int x :: st) (pc + 2)) : Zj M G cc nL own Ts rt aw lv (st) pc := by
  obtain ⟨p, l, e, R, s, m, args, below, meth, c, Q, A, cells, slots⟩ := M
  obtain ⟨D, cl, tys, ad⟩ := G
  intro hF H locs ls hP hD hS hl
  obtain ⟨⟨hx, hb, hml, hown, hts⟩, hr, hlk, hK, hA⟩ := id hF
  exact lv_iload hx hb hdg (hl.2.2 _ _ hv) (kk hF H locs ls hP hD hS hl)
theorem z_lload_n {k : Fin 4} {x : Int64} (hdg : decode cc pc = .ok (.lload_n k, 1)) (hv : lv[(k : Nat)]? = some (some (.long x))) (kk : Zj M G cc nL own Ts rt aw lv (.long x :: st) (pc + 1)) : Zj M G cc nL own Ts rt aw lv (st) pc := by
  obtain ⟨p, l, e, R, s, m, args, below, meth, c, Q, A, cells, slots⟩ := M
  obtain ⟨D, cl, tys, ad⟩ := G
  intro hF H locs ls hP hD hS hl
  obtain ⟨⟨hx, hb, hml, hown, hts⟩, hr, hlk, hK, hA⟩ := id hF
  exact lv_lload_n hx hb hdg rfl (hl.2.2 _ _ hv) (kk hF H locs ls hP hD hS hl)
theorem z_lload {i : Nat} {x : Int64} (hdg : decode cc pc = .ok (.lload i, 2)) (hv : lv[i]? = some (some (.long x))) (kk : Zj M G cc nL own Ts rt aw lv (.long x :: st) (pc + 2)) : Zj M G cc nL own Ts rt aw lv (st) pc := by
  obtain ⟨p, l, e, R, s, m, args, below, meth, c, Q, A, cells, slots⟩ := M
  obtain ⟨D, cl, tys, ad⟩ := G
  intro hF H locs ls hP hD hS hl
  obtain ⟨⟨hx, hb, hml, hown, hts⟩, hr, hlk, hK, hA⟩ := id hF
  exact lv_lload hx hb hdg (hl.2.2 _ _ hv) (kk hF H locs ls hP hD hS hl)
theorem z_aload_n {k : Fin 4} {x : Nat} (hdg : decode cc pc = .ok (.aload_n k, 1)) (hv : lv[(k : Nat)]? = some (some (.ref x))) (kk : Zj M G cc nL own Ts rt aw lv (.ref x :: st) (pc + 1)) : Zj M G cc nL own Ts rt aw lv (st) pc := by
  obtain ⟨p, l, e, R, s, m, args, below, meth, c, Q, A, cells, slots⟩ := M
  obtain ⟨D, cl, tys, ad⟩ := G
  intro hF H locs ls hP hD hS hl
  obtain ⟨⟨hx, hb, hml, hown, hts⟩, hr, hlk, hK, hA⟩ := id hF
  exact lv_aload_n hx hb hdg rfl (hl.2.2 _ _ hv) (kk hF H locs ls hP hD hS hl)
theorem z_aload {i : Nat} {x : Nat} (hdg : decode cc pc = .ok (.aload i, 2)) (hv : lv[i]? = some (some (.ref x))) (kk : Zj M G cc nL own Ts rt aw lv (.ref x :: st) (pc + 2)) : Zj M G cc nL own Ts rt aw lv (st) pc := by
  obtain ⟨p, l, e, R, s, m, args, below, meth, c, Q, A, cells, slots⟩ := M
  obtain ⟨D, cl, tys, ad⟩ := G
  intro hF H locs ls hP hD hS hl
  obtain ⟨⟨hx, hb, hml, hown, hts⟩, hr, hlk, hK, hA⟩ := id hF
  exact lv_aload hx hb hdg (hl.2.2 _ _ hv) (kk hF H locs ls hP hD hS hl)
theorem z_istore_n {k : Fin 4} {x : Int32} (hdg : decode cc pc = .ok (.istore_n k, 1)) (hn : (k : Nat) < nL) (hok : zsok lv (k : Nat) = true) (kk : Zj M G cc nL own Ts rt aw (lv.set (k : Nat) (some (.int x))) st (pc + 1)) : Zj M G cc nL own Ts rt aw lv (.int x :: st) pc := by
  obtain ⟨p, l, e, R, s, m, args, below, meth, c, Q, A, cells, slots⟩ := M
  obtain ⟨D, cl, tys, ad⟩ := G
  intro hF H locs ls hP hD hS hl
  obtain ⟨⟨hx, hb, hml, hown, hts⟩, hr, hlk, hK, hA⟩ := id hF
  exact lv_istore_n hx hb hdg rfl (zh_has hl) hn rfl (fun ls' hl' => kk hF H locs ls' hP hD hS (zh_store1 hok hl'))
theorem z_istore {i : Nat} {x : Int32} (hdg : decode cc pc = .ok (.istore i, 2)) (hn : i < nL) (hok : zsok lv i = true) (kk : Zj M G cc nL own Ts rt aw (lv.set i (some (.int x))) st (pc + 2)) : Zj M G cc nL own Ts rt aw lv (.int x :: st) pc := by
  obtain ⟨p, l, e, R, s, m, args, below, meth, c, Q, A, cells, slots⟩ := M
  obtain ⟨D, cl, tys, ad⟩ := G
  intro hF H locs ls hP hD hS hl
  obtain ⟨⟨hx, hb, hml, hown, hts⟩, hr, hlk, hK, hA⟩ := id hF
  exact lv_istore hx hb hdg (zh_has hl) hn rfl (fun ls' hl' => kk hF H locs ls' hP hD hS (zh_store1 hok hl'))
theorem z_astore_n {k : Fin 4} {x : Nat} (hdg : decode cc pc = .ok (.astore_n k, 1)) (hn : (k : Nat) < nL) (hok : zsok lv (k : Nat) = true) (kk : Zj M G cc nL own Ts rt aw (lv.set (k : Nat) (some (.ref x))) st (pc + 1)) : Zj M G cc nL own Ts rt aw lv (.ref x :: st) pc := by
  obtain ⟨p, l, e, R, s, m, args, below, meth, c, Q, A, cells, slots⟩ := M
  obtain ⟨D, cl, tys, ad⟩ := G
  intro hF H locs ls hP hD hS hl
  obtain ⟨⟨hx, hb, hml, hown, hts⟩, hr, hlk, hK, hA⟩ := id hF
  exact lv_astore_n hx hb hdg rfl (zh_has hl) hn rfl (fun ls' hl' => kk hF H locs ls' hP hD hS (zh_store1 hok hl'))
theorem z_astore {i : Nat} {x : Nat} (hdg : decode cc pc = .ok (.astore i, 2)) (hn : i < nL) (hok : zsok lv i = true) (kk : Zj M G cc nL own Ts rt aw (lv.set i (some (.ref x))) st (pc + 2)) : Zj M G cc nL own Ts rt aw lv (.ref x :: st) pc := by
  obtain ⟨p, l, e, R, s, m, args, below, meth, c, Q, A, cells, slots⟩ := M
  obtain ⟨D, cl, tys, ad⟩ := G
  intro hF H locs ls hP hD hS hl
  obtain ⟨⟨hx, hb, hml, hown, hts⟩, hr, hlk, hK, hA⟩ := id hF
  exact lv_astore hx hb hdg (zh_has hl) hn rfl (fun ls' hl' => kk hF H locs ls' hP hD hS (zh_store1 hok hl'))
theorem z_lstore_n {k : Fin 4} {x : Int64} (hdg : decode cc pc = .ok (.lstore_n k, 1)) (hn : (k : Nat) + 1 < nL) (hok : zsok lv (k : Nat) = true) (kk : Zj M G cc nL own Ts rt aw ((lv.set (k : Nat) (some (.long x))).set ((k : Nat) + 1) none) st (pc + 1)) : Zj M G cc nL own Ts rt aw lv (.long x :: st) pc := by
  obtain ⟨p, l, e, R, s, m, args, below, meth, c, Q, A, cells, slots⟩ := M
  obtain ⟨D, cl, tys, ad⟩ := G
  intro hF H locs ls hP hD hS hl
  obtain ⟨⟨hx, hb, hml, hown, hts⟩, hr, hlk, hK, hA⟩ := id hF
  exact lv_lstore_n hx hb hdg rfl (zh_has hl) hn rfl (fun ls' hl' => kk hF H locs ls' hP hD hS (zh_store2 hok hl'))
theorem z_lstore {i : Nat} {x : Int64} (hdg : decode cc pc = .ok (.lstore i, 2)) (hn : i + 1 < nL) (hok : zsok lv i = true) (kk : Zj M G cc nL own Ts rt aw ((lv.set i (some (.long x))).set (i + 1) none) st (pc + 2)) : Zj M G cc nL own Ts rt aw lv (.long x :: st) pc := by
  obtain ⟨p, l, e, R, s, m, args, below, meth, c, Q, A, cells, slots⟩ := M
  obtain ⟨D, cl, tys, ad⟩ := G
  intro hF H locs ls hP hD hS hl
  obtain ⟨⟨hx, hb, hml, hown, hts⟩, hr, hlk, hK, hA⟩ := id hF
  exact lv_lstore hx hb hdg (zh_has hl) hn rfl (fun ls' hl' => kk hF H locs ls' hP hD hS (zh_store2 hok hl'))
theorem z_iinc {i : Nat} {n : Int} {x v : Int32} (hdg : decode cc pc = .ok (.iinc i n, 3)) (hn : i < nL) (hok : zsok lv i = true) (hv : lv[i]? = some (some (.int x))) (hw : x + Int32.ofInt n = v) (kk : Zj M G cc nL own Ts rt aw (lv.set i (some (.int v))) st (pc + 3)) : Zj M G cc nL own Ts rt aw lv st pc := by
  obtain ⟨p, l, e, R, s, m, args, below, meth, c, Q, A, cells, slots⟩ := M
  obtain ⟨D, cl, tys, ad⟩ := G
  intro hF H locs ls hP hD hS hl
  obtain ⟨⟨hx, hb, hml, hown, hts⟩, hr, hlk, hK, hA⟩ := id hF
  obtain ⟨k, hk⟩ := List.getElem?_of_mem (zl_mem (ad := ad) hv)
  exact lv_iinc hx hb hdg (zh_has hl) hk hw hn rfl (fun ls' hl' => kk hF H locs ls' hP hD hS (zh_store1 (v := .int v) hok hl'))
theorem z_iadd {x y : Int32} (hdg : decode cc pc = .ok (.iadd, 1)) (kk : Zj M G cc nL own Ts rt aw lv (.int (x + y) :: st) (pc + 1)) : Zj M G cc nL own Ts rt aw lv (.int y :: .int x :: st) pc := by
  obtain ⟨p, l, e, R, s, m, args, below, meth, c, Q, A, cells, slots⟩ := M
  obtain ⟨D, cl, tys, ad⟩ := G
  intro hF H locs ls hP hD hS hl
  obtain ⟨⟨hx, hb, hml, hown, hts⟩, hr, hlk, hK, hA⟩ := id hF
  exact lv_iadd hx hb hdg (kk hF H locs ls hP hD hS hl)
theorem z_isub {x y : Int32} (hdg : decode cc pc = .ok (.isub, 1)) (kk : Zj M G cc nL own Ts rt aw lv (.int (x - y) :: st) (pc + 1)) : Zj M G cc nL own Ts rt aw lv (.int y :: .int x :: st) pc := by
  obtain ⟨p, l, e, R, s, m, args, below, meth, c, Q, A, cells, slots⟩ := M
  obtain ⟨D, cl, tys, ad⟩ := G
  intro hF H locs ls hP hD hS hl
  obtain ⟨⟨hx, hb, hml, hown, hts⟩, hr, hlk, hK, hA⟩ := id hF
  exact lv_isub hx hb hdg (kk hF H locs ls hP hD hS hl)
theorem z_imul {x y : Int32} (hdg : decode cc pc = .ok (.imul, 1)) (kk : Zj M G cc nL own Ts rt aw lv (.int (x * y) :: st) (pc + 1)) : Zj M G cc nL own Ts rt aw lv (.int y :: .int x :: st) pc := by
  obtain ⟨p, l, e, R, s, m, args, below, meth, c, Q, A, cells, slots⟩ := M
  obtain ⟨D, cl, tys, ad⟩ := G
  intro hF H locs ls hP hD hS hl
  obtain ⟨⟨hx, hb, hml, hown, hts⟩, hr, hlk, hK, hA⟩ := id hF
  exact lv_imul hx hb hdg (kk hF H locs ls hP hD hS hl)
theorem z_iand {x y : Int32} (hdg : decode cc pc = .ok (.iand, 1)) (kk : Zj M G cc nL own Ts rt aw lv (.int (x &&& y) :: st) (pc + 1)) : Zj M G cc nL own Ts rt aw lv (.int y :: .int x :: st) pc := by
  obtain ⟨p, l, e, R, s, m, args, below, meth, c, Q, A, cells, slots⟩ := M
  obtain ⟨D, cl, tys, ad⟩ := G
  intro hF H locs ls hP hD hS hl
  obtain ⟨⟨hx, hb, hml, hown, hts⟩, hr, hlk, hK, hA⟩ := id hF
  exact lv_iand hx hb hdg (kk hF H locs ls hP hD hS hl)
theorem z_ior {x y : Int32} (hdg : decode cc pc = .ok (.ior, 1)) (kk : Zj M G cc nL own Ts rt aw lv (.int (x ||| y) :: st) (pc + 1)) : Zj M G cc nL own Ts rt aw lv (.int y :: .int x :: st) pc := by
  obtain ⟨p, l, e, R, s, m, args, below, meth, c, Q, A, cells, slots⟩ := M
  obtain ⟨D, cl, tys, ad⟩ := G
  intro hF H locs ls hP hD hS hl
  obtain ⟨⟨hx, hb, hml, hown, hts⟩, hr, hlk, hK, hA⟩ := id hF
  exact lv_ior hx hb hdg (kk hF H locs ls hP hD hS hl)
theorem z_ixor {x y : Int32} (hdg : decode cc pc = .ok (.ixor, 1)) (kk : Zj M G cc nL own Ts rt aw lv (.int (x ^^^ y) :: st) (pc + 1)) : Zj M G cc nL own Ts rt aw lv (.int y :: .int x :: st) pc := by
  obtain ⟨p, l, e, R, s, m, args, below, meth, c, Q, A, cells, slots⟩ := M
  obtain ⟨D, cl, tys, ad⟩ := G
  intro hF H locs ls hP hD hS hl
  obtain ⟨⟨hx, hb, hml, hown, hts⟩, hr, hlk, hK, hA⟩ := id hF
  exact lv_ixor hx hb hdg (kk hF H locs ls hP hD hS hl)
theorem z_ishl {x y : Int32} (hdg : decode cc pc = .ok (.ishl, 1)) (kk : Zj M G cc nL own Ts rt aw lv (.int (x <<< (y &&& 31)) :: st) (pc + 1)) : Zj M G cc nL own Ts rt aw lv (.int y :: .int x :: st) pc := by
  obtain ⟨p, l, e, R, s, m, args, below, meth, c, Q, A, cells, slots⟩ := M
  obtain ⟨D, cl, tys, ad⟩ := G
  intro hF H locs ls hP hD hS hl
  obtain ⟨⟨hx, hb, hml, hown, hts⟩, hr, hlk, hK, hA⟩ := id hF
  exact lv_ishl hx hb hdg (kk hF H locs ls hP hD hS hl)
theorem z_ishr {x y : Int32} (hdg : decode cc pc = .ok (.ishr, 1)) (kk : Zj M G cc nL own Ts rt aw lv (.int (x >>> (y &&& 31)) :: st) (pc + 1)) : Zj M G cc nL own Ts rt aw lv (.int y :: .int x :: st) pc := by
  obtain ⟨p, l, e, R, s, m, args, below, meth, c, Q, A, cells, slots⟩ := M
  obtain ⟨D, cl, tys, ad⟩ := G
  intro hF H locs ls hP hD hS hl
  obtain ⟨⟨hx, hb, hml, hown, hts⟩, hr, hlk, hK, hA⟩ := id hF
  exact lv_ishr hx hb hdg (kk hF H locs ls hP hD hS hl)
theorem z_idiv {x y : Int32} (hdg : decode cc pc = .ok (.idiv, 1)) (hne : ¬ y = 0) (kk : Zj M G cc nL own Ts rt aw lv (.int (x / y) :: st) (pc + 1)) : Zj M G cc nL own Ts rt aw lv (.int y :: .int x :: st) pc := by
  obtain ⟨p, l, e, R, s, m, args, below, meth, c, Q, A, cells, slots⟩ := M
  obtain ⟨D, cl, tys, ad⟩ := G
  intro hF H locs ls hP hD hS hl
  obtain ⟨⟨hx, hb, hml, hown, hts⟩, hr, hlk, hK, hA⟩ := id hF
  exact lv_idiv hx hb hdg hne (kk hF H locs ls hP hD hS hl)
theorem z_irem {x y : Int32} (hdg : decode cc pc = .ok (.irem, 1)) (hne : ¬ y = 0) (kk : Zj M G cc nL own Ts rt aw lv (.int (x - x / y * y) :: st) (pc + 1)) : Zj M G cc nL own Ts rt aw lv (.int y :: .int x :: st) pc := by
  obtain ⟨p, l, e, R, s, m, args, below, meth, c, Q, A, cells, slots⟩ := M
  obtain ⟨D, cl, tys, ad⟩ := G
  intro hF H locs ls hP hD hS hl
  obtain ⟨⟨hx, hb, hml, hown, hts⟩, hr, hlk, hK, hA⟩ := id hF
  exact lv_irem hx hb hdg hne (kk hF H locs ls hP hD hS hl)
theorem z_ineg {x : Int32} (hdg : decode cc pc = .ok (.ineg, 1)) (kk : Zj M G cc nL own Ts rt aw lv (.int (-x) :: st) (pc + 1)) : Zj M G cc nL own Ts rt aw lv (.int x :: st) pc := by
  obtain ⟨p, l, e, R, s, m, args, below, meth, c, Q, A, cells, slots⟩ := M
  obtain ⟨D, cl, tys, ad⟩ := G
  intro hF H locs ls hP hD hS hl
  obtain ⟨⟨hx, hb, hml, hown, hts⟩, hr, hlk, hK, hA⟩ := id hF
  exact lv_ineg hx hb hdg (kk hF H locs ls hP hD hS hl)
theorem z_iushr {x y : Int32} (hdg : decode cc pc = .ok (.iushr, 1)) (kk : Zj M G cc nL own Ts rt aw lv (.int ((x.toUInt32 >>> (y.toUInt32 &&& Int32.toUInt32 31)).toInt32) :: st) (pc + 1)) : Zj M G cc nL own Ts rt aw lv (.int y :: .int x :: st) pc := by
  obtain ⟨p, l, e, R, s, m, args, below, meth, c, Q, A, cells, slots⟩ := M
  obtain ⟨D, cl, tys, ad⟩ := G
  intro hF H locs ls hP hD hS hl
  obtain ⟨⟨hx, hb, hml, hown, hts⟩, hr, hlk, hK, hA⟩ := id hF
  exact lv_iushr hx hb hdg rfl (kk hF H locs ls hP hD hS hl)
theorem z_ladd {x y : Int64} (hdg : decode cc pc = .ok (.ladd, 1)) (kk : Zj M G cc nL own Ts rt aw lv (.long (x + y) :: st) (pc + 1)) : Zj M G cc nL own Ts rt aw lv (.long y :: .long x :: st) pc := by
  obtain ⟨p, l, e, R, s, m, args, below, meth, c, Q, A, cells, slots⟩ := M
  obtain ⟨D, cl, tys, ad⟩ := G
  intro hF H locs ls hP hD hS hl
  obtain ⟨⟨hx, hb, hml, hown, hts⟩, hr, hlk, hK, hA⟩ := id hF
  exact lv_ladd hx hb hdg (kk hF H locs ls hP hD hS hl)
theorem z_lsub {x y : Int64} (hdg : decode cc pc = .ok (.lsub, 1)) (kk : Zj M G cc nL own Ts rt aw lv (.long (x - y) :: st) (pc + 1)) : Zj M G cc nL own Ts rt aw lv (.long y :: .long x :: st) pc := by
  obtain ⟨p, l, e, R, s, m, args, below, meth, c, Q, A, cells, slots⟩ := M
  obtain ⟨D, cl, tys, ad⟩ := G
  intro hF H locs ls hP hD hS hl
  obtain ⟨⟨hx, hb, hml, hown, hts⟩, hr, hlk, hK, hA⟩ := id hF
  exact lv_lsub hx hb hdg (kk hF H locs ls hP hD hS hl)
theorem z_lmul {x y : Int64} (hdg : decode cc pc = .ok (.lmul, 1)) (kk : Zj M G cc nL own Ts rt aw lv (.long (x * y) :: st) (pc + 1)) : Zj M G cc nL own Ts rt aw lv (.long y :: .long x :: st) pc := by
  obtain ⟨p, l, e, R, s, m, args, below, meth, c, Q, A, cells, slots⟩ := M
  obtain ⟨D, cl, tys, ad⟩ := G
  intro hF H locs ls hP hD hS hl
  obtain ⟨⟨hx, hb, hml, hown, hts⟩, hr, hlk, hK, hA⟩ := id hF
  exact lv_lmul hx hb hdg (kk hF H locs ls hP hD hS hl)
theorem z_land {x y : Int64} (hdg : decode cc pc = .ok (.land, 1)) (kk : Zj M G cc nL own Ts rt aw lv (.long (x &&& y) :: st) (pc + 1)) : Zj M G cc nL own Ts rt aw lv (.long y :: .long x :: st) pc := by
  obtain ⟨p, l, e, R, s, m, args, below, meth, c, Q, A, cells, slots⟩ := M
  obtain ⟨D, cl, tys, ad⟩ := G
  intro hF H locs ls hP hD hS hl
  obtain ⟨⟨hx, hb, hml, hown, hts⟩, hr, hlk, hK, hA⟩ := id hF
  exact lv_land hx hb hdg (kk hF H locs ls hP hD hS hl)
theorem z_lor {x y : Int64} (hdg : decode cc pc = .ok (.lor, 1)) (kk : Zj M G cc nL own Ts rt aw lv (.long (x ||| y) :: st) (pc + 1)) : Zj M G cc nL own Ts rt aw lv (.long y :: .long x :: st) pc := by
  obtain ⟨p, l, e, R, s, m, args, below, meth, c, Q, A, cells, slots⟩ := M
  obtain ⟨D, cl, tys, ad⟩ := G
  intro hF H locs ls hP hD hS hl
  obtain ⟨⟨hx, hb, hml, hown, hts⟩, hr, hlk, hK, hA⟩ := id hF
  exact lv_lor hx hb hdg (kk hF H locs ls hP hD hS hl)
theorem z_lxor {x y : Int64} (hdg : decode cc pc = .ok (.lxor, 1)) (kk : Zj M G cc nL own Ts rt aw lv (.long (x ^^^ y) :: st) (pc + 1)) : Zj M G cc nL own Ts rt aw lv (.long y :: .long x :: st) pc := by
  obtain ⟨p, l, e, R, s, m, args, below, meth, c, Q, A, cells, slots⟩ := M
  obtain ⟨D, cl, tys, ad⟩ := G
  intro hF H locs ls hP hD hS hl
  obtain ⟨⟨hx, hb, hml, hown, hts⟩, hr, hlk, hK, hA⟩ := id hF
  exact lv_lxor hx hb hdg (kk hF H locs ls hP hD hS hl)
theorem z_lushr {x : Int64} {y : Int32} (hdg : decode cc pc = .ok (.lushr, 1)) (kk : Zj M G cc nL own Ts rt aw lv (.long ((x.toUInt64 >>> (y.toInt64.toUInt64 &&& Int64.toUInt64 63)).toInt64) :: st) (pc + 1)) : Zj M G cc nL own Ts rt aw lv (.int y :: .long x :: st) pc := by
  obtain ⟨p, l, e, R, s, m, args, below, meth, c, Q, A, cells, slots⟩ := M
  obtain ⟨D, cl, tys, ad⟩ := G
  intro hF H locs ls hP hD hS hl
  obtain ⟨⟨hx, hb, hml, hown, hts⟩, hr, hlk, hK, hA⟩ := id hF
  exact lv_lushr hx hb hdg rfl (kk hF H locs ls hP hD hS hl)
theorem z_lshl {x : Int64} {y : Int32} (hdg : decode cc pc = .ok (.lshl, 1)) (kk : Zj M G cc nL own Ts rt aw lv (.long (x <<< (y.toInt64 &&& 63)) :: st) (pc + 1)) : Zj M G cc nL own Ts rt aw lv (.int y :: .long x :: st) pc := by
  obtain ⟨p, l, e, R, s, m, args, below, meth, c, Q, A, cells, slots⟩ := M
  obtain ⟨D, cl, tys, ad⟩ := G
  intro hF H locs ls hP hD hS hl
  obtain ⟨⟨hx, hb, hml, hown, hts⟩, hr, hlk, hK, hA⟩ := id hF
  exact lv_lshl hx hb hdg rfl (kk hF H locs ls hP hD hS hl)
theorem z_lshr {x : Int64} {y : Int32} (hdg : decode cc pc = .ok (.lshr, 1)) (kk : Zj M G cc nL own Ts rt aw lv (.long (x >>> (y.toInt64 &&& 63)) :: st) (pc + 1)) : Zj M G cc nL own Ts rt aw lv (.int y :: .long x :: st) pc := by
  obtain ⟨p, l, e, R, s, m, args, below, meth, c, Q, A, cells, slots⟩ := M
  obtain ⟨D, cl, tys, ad⟩ := G
  intro hF H locs ls hP hD hS hl
  obtain ⟨⟨hx, hb, hml, hown, hts⟩, hr, hlk, hK, hA⟩ := id hF
  exact lv_lshr hx hb hdg rfl (kk hF H locs ls hP hD hS hl)
theorem z_i2l {x : Int32} (hdg : decode cc pc = .ok (.i2l, 1)) (kk : Zj M G cc nL own Ts rt aw lv (.long x.toInt64 :: st) (pc + 1)) : Zj M G cc nL own Ts rt aw lv (.int x :: st) pc := by
  obtain ⟨p, l, e, R, s, m, args, below, meth, c, Q, A, cells, slots⟩ := M
  obtain ⟨D, cl, tys, ad⟩ := G
  intro hF H locs ls hP hD hS hl
  obtain ⟨⟨hx, hb, hml, hown, hts⟩, hr, hlk, hK, hA⟩ := id hF
  exact lv_i2l hx hb hdg rfl (kk hF H locs ls hP hD hS hl)
theorem z_l2i {x : Int64} (hdg : decode cc pc = .ok (.l2i, 1)) (kk : Zj M G cc nL own Ts rt aw lv (.int x.toInt32 :: st) (pc + 1)) : Zj M G cc nL own Ts rt aw lv (.long x :: st) pc := by
  obtain ⟨p, l, e, R, s, m, args, below, meth, c, Q, A, cells, slots⟩ := M
  obtain ⟨D, cl, tys, ad⟩ := G
  intro hF H locs ls hP hD hS hl
  obtain ⟨⟨hx, hb, hml, hown, hts⟩, hr, hlk, hK, hA⟩ := id hF
  exact lv_l2i hx hb hdg rfl (kk hF H locs ls hP hD hS hl)
theorem z_i2b {x : Int32} (hdg : decode cc pc = .ok (.i2b, 1)) (kk : Zj M G cc nL own Ts rt aw lv (.int x.toInt8.toInt32 :: st) (pc + 1)) : Zj M G cc nL own Ts rt aw lv (.int x :: st) pc := by
  obtain ⟨p, l, e, R, s, m, args, below, meth, c, Q, A, cells, slots⟩ := M
  obtain ⟨D, cl, tys, ad⟩ := G
  intro hF H locs ls hP hD hS hl
  obtain ⟨⟨hx, hb, hml, hown, hts⟩, hr, hlk, hK, hA⟩ := id hF
  exact lv_i2b hx hb hdg rfl (kk hF H locs ls hP hD hS hl)
theorem z_lcmp {x y : Int64} (hdg : decode cc pc = .ok (.lcmp, 1)) (kk : Zj M G cc nL own Ts rt aw lv (.int (lg_cmp x y) :: st) (pc + 1)) : Zj M G cc nL own Ts rt aw lv (.long y :: .long x :: st) pc := by
  obtain ⟨p, l, e, R, s, m, args, below, meth, c, Q, A, cells, slots⟩ := M
  obtain ⟨D, cl, tys, ad⟩ := G
  intro hF H locs ls hP hD hS hl
  obtain ⟨⟨hx, hb, hml, hown, hts⟩, hr, hlk, hK, hA⟩ := id hF
  exact W.lcmp hx hb hdg (kk hF H locs ls hP hD hS hl)
theorem z_dup {va : Value} (hdg : decode cc pc = .ok (.dup, 1)) (hva : va.category = 1) (kk : Zj M G cc nL own Ts rt aw lv (va :: va :: st) (pc + 1)) : Zj M G cc nL own Ts rt aw lv (va :: st) pc := by
  obtain ⟨p, l, e, R, s, m, args, below, meth, c, Q, A, cells, slots⟩ := M
  obtain ⟨D, cl, tys, ad⟩ := G
  intro hF H locs ls hP hD hS hl
  obtain ⟨⟨hx, hb, hml, hown, hts⟩, hr, hlk, hK, hA⟩ := id hF
  exact lv_dup hx hb hdg ((zv_cat ad va).trans hva) (kk hF H locs ls hP hD hS hl)
theorem z_pop {va : Value} (hdg : decode cc pc = .ok (.pop, 1)) (hva : va.category = 1) (kk : Zj M G cc nL own Ts rt aw lv (st) (pc + 1)) : Zj M G cc nL own Ts rt aw lv (va :: st) pc := by
  obtain ⟨p, l, e, R, s, m, args, below, meth, c, Q, A, cells, slots⟩ := M
  obtain ⟨D, cl, tys, ad⟩ := G
  intro hF H locs ls hP hD hS hl
  obtain ⟨⟨hx, hb, hml, hown, hts⟩, hr, hlk, hK, hA⟩ := id hF
  exact lv_pop hx hb hdg ((zv_cat ad va).trans hva) (kk hF H locs ls hP hD hS hl)
theorem z_pop2_2 {va : Value} (hdg : decode cc pc = .ok (.pop2, 1)) (hva : va.category = 2) (kk : Zj M G cc nL own Ts rt aw lv (st) (pc + 1)) : Zj M G cc nL own Ts rt aw lv (va :: st) pc := by
  obtain ⟨p, l, e, R, s, m, args, below, meth, c, Q, A, cells, slots⟩ := M
  obtain ⟨D, cl, tys, ad⟩ := G
  intro hF H locs ls hP hD hS hl
  obtain ⟨⟨hx, hb, hml, hown, hts⟩, hr, hlk, hK, hA⟩ := id hF
  exact lv_pop2_2 hx hb hdg ((zv_cat ad va).trans hva) (kk hF H locs ls hP hD hS hl)
theorem z_dup_x1 {va vb : Value} (hdg : decode cc pc = .ok (.dup_x1, 1)) (hva : va.category = 1) (hvb : vb.category = 1) (kk : Zj M G cc nL own Ts rt aw lv (va :: vb :: va :: st) (pc + 1)) : Zj M G cc nL own Ts rt aw lv (va :: vb :: st) pc := by
  obtain ⟨p, l, e, R, s, m, args, below, meth, c, Q, A, cells, slots⟩ := M
  obtain ⟨D, cl, tys, ad⟩ := G
  intro hF H locs ls hP hD hS hl
  obtain ⟨⟨hx, hb, hml, hown, hts⟩, hr, hlk, hK, hA⟩ := id hF
  exact lv_dup_x1 hx hb hdg ((zv_cat ad va).trans hva) ((zv_cat ad vb).trans hvb) (kk hF H locs ls hP hD hS hl)
theorem z_dup_x2 {va vb vd : Value} (hdg : decode cc pc = .ok (.dup_x2, 1)) (hva : va.category = 1) (hvb : vb.category = 1) (hvd : vd.category = 1) (kk : Zj M G cc nL own Ts rt aw lv (va :: vb :: vd :: va :: st) (pc + 1)) : Zj M G cc nL own Ts rt aw lv (va :: vb :: vd :: st) pc := by
  obtain ⟨p, l, e, R, s, m, args, below, meth, c, Q, A, cells, slots⟩ := M
  obtain ⟨D, cl, tys, ad⟩ := G
  intro hF H locs ls hP hD hS hl
  obtain ⟨⟨hx, hb, hml, hown, hts⟩, hr, hlk, hK, hA⟩ := id hF
  exact lv_dup_x2 hx hb hdg ((zv_cat ad va).trans hva) ((zv_cat ad vb).trans hvb) ((zv_cat ad vd).trans hvd) (kk hF H locs ls hP hD hS hl)
theorem z_dup2_11 {va vb : Value} (hdg : decode cc pc = .ok (.dup2, 1)) (hva : va.category = 1) (hvb : vb.category = 1) (kk : Zj M G cc nL own Ts rt aw lv (va :: vb :: va :: vb :: st) (pc + 1)) : Zj M G cc nL own Ts rt aw lv (va :: vb :: st) pc := by
  obtain ⟨p, l, e, R, s, m, args, below, meth, c, Q, A, cells, slots⟩ := M
  obtain ⟨D, cl, tys, ad⟩ := G
  intro hF H locs ls hP hD hS hl
  obtain ⟨⟨hx, hb, hml, hown, hts⟩, hr, hlk, hK, hA⟩ := id hF
  exact lv_dup2_11 hx hb hdg ((zv_cat ad va).trans hva) ((zv_cat ad vb).trans hvb) (kk hF H locs ls hP hD hS hl)
theorem z_dup2_2 {va : Value} (hdg : decode cc pc = .ok (.dup2, 1)) (hva : va.category = 2) (kk : Zj M G cc nL own Ts rt aw lv (va :: va :: st) (pc + 1)) : Zj M G cc nL own Ts rt aw lv (va :: st) pc := by
  obtain ⟨p, l, e, R, s, m, args, below, meth, c, Q, A, cells, slots⟩ := M
  obtain ⟨D, cl, tys, ad⟩ := G
  intro hF H locs ls hP hD hS hl
  obtain ⟨⟨hx, hb, hml, hown, hts⟩, hr, hlk, hK, hA⟩ := id hF
  exact lv_dup2_2 hx hb hdg ((zv_cat ad va).trans hva) (kk hF H locs ls hP hD hS hl)
theorem z_if_eq {x : Int32} {off : Int} {tgt : Nat} (hdg : decode cc pc = .ok (.ifCond .eq off, 3)) (ht : (pc : Int) + off = (tgt : Int)) (kt : x = 0 → Zj M G cc nL own Ts rt aw lv st tgt) (kf : ¬ x = 0 → Zj M G cc nL own Ts rt aw lv st (pc + 3)) : Zj M G cc nL own Ts rt aw lv (.int x :: st) pc := by
  obtain ⟨p, l, e, R, s, m, args, below, meth, c, Q, A, cells, slots⟩ := M
  obtain ⟨D, cl, tys, ad⟩ := G
  intro hF H locs ls hP hD hS hl
  obtain ⟨⟨hx, hb, hml, hown, hts⟩, hr, hlk, hK, hA⟩ := id hF
  exact lv_if_eq hx hb hdg ht (fun h => kt h hF H locs ls hP hD hS hl) (fun h => kf h hF H locs ls hP hD hS hl)
theorem z_icmp_eq {x y : Int32} {off : Int} {tgt : Nat} (hdg : decode cc pc = .ok (.if_icmp .eq off, 3)) (ht : (pc : Int) + off = (tgt : Int)) (kt : x = y → Zj M G cc nL own Ts rt aw lv st tgt) (kf : ¬ x = y → Zj M G cc nL own Ts rt aw lv st (pc + 3)) : Zj M G cc nL own Ts rt aw lv (.int y :: .int x :: st) pc := by
  obtain ⟨p, l, e, R, s, m, args, below, meth, c, Q, A, cells, slots⟩ := M
  obtain ⟨D, cl, tys, ad⟩ := G
  intro hF H locs ls hP hD hS hl
  obtain ⟨⟨hx, hb, hml, hown, hts⟩, hr, hlk, hK, hA⟩ := id hF
  exact lv_icmp_eq hx hb hdg ht (fun h => kt h hF H locs ls hP hD hS hl) (fun h => kf h hF H locs ls hP hD hS hl)
theorem z_if_ne {x : Int32} {off : Int} {tgt : Nat} (hdg : decode cc pc = .ok (.ifCond .ne off, 3)) (ht : (pc : Int) + off = (tgt : Int)) (kt : ¬ x = 0 → Zj M G cc nL own Ts rt aw lv st tgt) (kf : x = 0 → Zj M G cc nL own Ts rt aw lv st (pc + 3)) : Zj M G cc nL own Ts rt aw lv (.int x :: st) pc := by
  obtain ⟨p, l, e, R, s, m, args, below, meth, c, Q, A, cells, slots⟩ := M
  obtain ⟨D, cl, tys, ad⟩ := G
  intro hF H locs ls hP hD hS hl
  obtain ⟨⟨hx, hb, hml, hown, hts⟩, hr, hlk, hK, hA⟩ := id hF
  exact lv_if_ne hx hb hdg ht (fun h => kt h hF H locs ls hP hD hS hl) (fun h => kf h hF H locs ls hP hD hS hl)
theorem z_icmp_ne {x y : Int32} {off : Int} {tgt : Nat} (hdg : decode cc pc = .ok (.if_icmp .ne off, 3)) (ht : (pc : Int) + off = (tgt : Int)) (kt : ¬ x = y → Zj M G cc nL own Ts rt aw lv st tgt) (kf : x = y → Zj M G cc nL own Ts rt aw lv st (pc + 3)) : Zj M G cc nL own Ts rt aw lv (.int y :: .int x :: st) pc := by
  obtain ⟨p, l, e, R, s, m, args, below, meth, c, Q, A, cells, slots⟩ := M
  obtain ⟨D, cl, tys, ad⟩ := G
  intro hF H locs ls hP hD hS hl
  obtain ⟨⟨hx, hb, hml, hown, hts⟩, hr, hlk, hK, hA⟩ := id hF
  exact lv_icmp_ne hx hb hdg ht (fun h => kt h hF H locs ls hP hD hS hl) (fun h => kf h hF H locs ls hP hD hS hl)
theorem z_if_lt {x : Int32} {off : Int} {tgt : Nat} (hdg : decode cc pc = .ok (.ifCond .lt off, 3)) (ht : (pc : Int) + off = (tgt : Int)) (kt : x < 0 → Zj M G cc nL own Ts rt aw lv st tgt) (kf : ¬ x < 0 → Zj M G cc nL own Ts rt aw lv st (pc + 3)) : Zj M G cc nL own Ts rt aw lv (.int x :: st) pc := by
  obtain ⟨p, l, e, R, s, m, args, below, meth, c, Q, A, cells, slots⟩ := M
  obtain ⟨D, cl, tys, ad⟩ := G
  intro hF H locs ls hP hD hS hl
  obtain ⟨⟨hx, hb, hml, hown, hts⟩, hr, hlk, hK, hA⟩ := id hF
  exact lv_if_lt hx hb hdg ht (fun h => kt h hF H locs ls hP hD hS hl) (fun h => kf h hF H locs ls hP hD hS hl)
theorem z_icmp_lt {x y : Int32} {off : Int} {tgt : Nat} (hdg : decode cc pc = .ok (.if_icmp .lt off, 3)) (ht : (pc : Int) + off = (tgt : Int)) (kt : x < y → Zj M G cc nL own Ts rt aw lv st tgt) (kf : ¬ x < y → Zj M G cc nL own Ts rt aw lv st (pc + 3)) : Zj M G cc nL own Ts rt aw lv (.int y :: .int x :: st) pc := by
  obtain ⟨p, l, e, R, s, m, args, below, meth, c, Q, A, cells, slots⟩ := M
  obtain ⟨D, cl, tys, ad⟩ := G
  intro hF H locs ls hP hD hS hl
  obtain ⟨⟨hx, hb, hml, hown, hts⟩, hr, hlk, hK, hA⟩ := id hF
  exact lv_icmp_lt hx hb hdg ht (fun h => kt h hF H locs ls hP hD hS hl) (fun h => kf h hF H locs ls hP hD hS hl)
theorem z_if_ge {x : Int32} {off : Int} {tgt : Nat} (hdg : decode cc pc = .ok (.ifCond .ge off, 3)) (ht : (pc : Int) + off = (tgt : Int)) (kt : 0 ≤ x → Zj M G cc nL own Ts rt aw lv st tgt) (kf : ¬ 0 ≤ x → Zj M G cc nL own Ts rt aw lv st (pc + 3)) : Zj M G cc nL own Ts rt aw lv (.int x :: st) pc := by
  obtain ⟨p, l, e, R, s, m, args, below, meth, c, Q, A, cells, slots⟩ := M
  obtain ⟨D, cl, tys, ad⟩ := G
  intro hF H locs ls hP hD hS hl
  obtain ⟨⟨hx, hb, hml, hown, hts⟩, hr, hlk, hK, hA⟩ := id hF
  exact lv_if_ge hx hb hdg ht (fun h => kt h hF H locs ls hP hD hS hl) (fun h => kf h hF H locs ls hP hD hS hl)
theorem z_icmp_ge {x y : Int32} {off : Int} {tgt : Nat} (hdg : decode cc pc = .ok (.if_icmp .ge off, 3)) (ht : (pc : Int) + off = (tgt : Int)) (kt : y ≤ x → Zj M G cc nL own Ts rt aw lv st tgt) (kf : ¬ y ≤ x → Zj M G cc nL own Ts rt aw lv st (pc + 3)) : Zj M G cc nL own Ts rt aw lv (.int y :: .int x :: st) pc := by
  obtain ⟨p, l, e, R, s, m, args, below, meth, c, Q, A, cells, slots⟩ := M
  obtain ⟨D, cl, tys, ad⟩ := G
  intro hF H locs ls hP hD hS hl
  obtain ⟨⟨hx, hb, hml, hown, hts⟩, hr, hlk, hK, hA⟩ := id hF
  exact lv_icmp_ge hx hb hdg ht (fun h => kt h hF H locs ls hP hD hS hl) (fun h => kf h hF H locs ls hP hD hS hl)
theorem z_if_gt {x : Int32} {off : Int} {tgt : Nat} (hdg : decode cc pc = .ok (.ifCond .gt off, 3)) (ht : (pc : Int) + off = (tgt : Int)) (kt : 0 < x → Zj M G cc nL own Ts rt aw lv st tgt) (kf : ¬ 0 < x → Zj M G cc nL own Ts rt aw lv st (pc + 3)) : Zj M G cc nL own Ts rt aw lv (.int x :: st) pc := by
  obtain ⟨p, l, e, R, s, m, args, below, meth, c, Q, A, cells, slots⟩ := M
  obtain ⟨D, cl, tys, ad⟩ := G
  intro hF H locs ls hP hD hS hl
  obtain ⟨⟨hx, hb, hml, hown, hts⟩, hr, hlk, hK, hA⟩ := id hF
  exact lv_if_gt hx hb hdg ht (fun h => kt h hF H locs ls hP hD hS hl) (fun h => kf h hF H locs ls hP hD hS hl)
theorem z_icmp_gt {x y : Int32} {off : Int} {tgt : Nat} (hdg : decode cc pc = .ok (.if_icmp .gt off, 3)) (ht : (pc : Int) + off = (tgt : Int)) (kt : y < x → Zj M G cc nL own Ts rt aw lv st tgt) (kf : ¬ y < x → Zj M G cc nL own Ts rt aw lv st (pc + 3)) : Zj M G cc nL own Ts rt aw lv (.int y :: .int x :: st) pc := by
  obtain ⟨p, l, e, R, s, m, args, below, meth, c, Q, A, cells, slots⟩ := M
  obtain ⟨D, cl, tys, ad⟩ := G
  intro hF H locs ls hP hD hS hl
  obtain ⟨⟨hx, hb, hml, hown, hts⟩, hr, hlk, hK, hA⟩ := id hF
  exact lv_icmp_gt hx hb hdg ht (fun h => kt h hF H locs ls hP hD hS hl) (fun h => kf h hF H locs ls hP hD hS hl)
theorem z_if_le {x : Int32} {off : Int} {tgt : Nat} (hdg : decode cc pc = .ok (.ifCond .le off, 3)) (ht : (pc : Int) + off = (tgt : Int)) (kt : x ≤ 0 → Zj M G cc nL own Ts rt aw lv st tgt) (kf : ¬ x ≤ 0 → Zj M G cc nL own Ts rt aw lv st (pc + 3)) : Zj M G cc nL own Ts rt aw lv (.int x :: st) pc := by
  obtain ⟨p, l, e, R, s, m, args, below, meth, c, Q, A, cells, slots⟩ := M
  obtain ⟨D, cl, tys, ad⟩ := G
  intro hF H locs ls hP hD hS hl
  obtain ⟨⟨hx, hb, hml, hown, hts⟩, hr, hlk, hK, hA⟩ := id hF
  exact lv_if_le hx hb hdg ht (fun h => kt h hF H locs ls hP hD hS hl) (fun h => kf h hF H locs ls hP hD hS hl)
theorem z_icmp_le {x y : Int32} {off : Int} {tgt : Nat} (hdg : decode cc pc = .ok (.if_icmp .le off, 3)) (ht : (pc : Int) + off = (tgt : Int)) (kt : x ≤ y → Zj M G cc nL own Ts rt aw lv st tgt) (kf : ¬ x ≤ y → Zj M G cc nL own Ts rt aw lv st (pc + 3)) : Zj M G cc nL own Ts rt aw lv (.int y :: .int x :: st) pc := by
  obtain ⟨p, l, e, R, s, m, args, below, meth, c, Q, A, cells, slots⟩ := M
  obtain ⟨D, cl, tys, ad⟩ := G
  intro hF H locs ls hP hD hS hl
  obtain ⟨⟨hx, hb, hml, hown, hts⟩, hr, hlk, hK, hA⟩ := id hF
  exact lv_icmp_le hx hb hdg ht (fun h => kt h hF H locs ls hP hD hS hl) (fun h => kf h hF H locs ls hP hD hS hl)
theorem z_goto {off : Int} {tgt : Nat} (hdg : decode cc pc = .ok (.goto off, 3)) (ht : (pc : Int) + off = (tgt : Int)) (kk : Zj M G cc nL own Ts rt aw lv st tgt) : Zj M G cc nL own Ts rt aw lv st pc := by
  obtain ⟨p, l, e, R, s, m, args, below, meth, c, Q, A, cells, slots⟩ := M
  obtain ⟨D, cl, tys, ad⟩ := G
  intro hF H locs ls hP hD hS hl
  obtain ⟨⟨hx, hb, hml, hown, hts⟩, hr, hlk, hK, hA⟩ := id hF
  exact lv_goto hx hb hdg ht (kk hF H locs ls hP hD hS hl)
theorem z_tableIn {dflt lo hi : Int} {offs : Array Int} {len : Nat} {x : Int32} {off : Int} {tgt : Nat} (hdg : decode cc pc = .ok (.tableswitch dflt lo hi offs, len)) (h1 : ¬ x.toInt < lo) (h2 : ¬ hi < x.toInt) (ho : offs[(x.toInt - lo).toNat]? = some off) (ht : (pc : Int) + off = (tgt : Int)) (kk : Zj M G cc nL own Ts rt aw lv st tgt) : Zj M G cc nL own Ts rt aw lv (.int x :: st) pc := by
  obtain ⟨p, l, e, R, s, m, args, below, meth, c, Q, A, cells, slots⟩ := M
  obtain ⟨D, cl, tys, ad⟩ := G
  intro hF H locs ls hP hD hS hl
  obtain ⟨⟨hx, hb, hml, hown, hts⟩, hr, hlk, hK, hA⟩ := id hF
  exact lv_tableIn hx hb hdg h1 h2 ho ht (kk hF H locs ls hP hD hS hl)
theorem z_tableOut {dflt lo hi : Int} {offs : Array Int} {len : Nat} {x : Int32} {tgt : Nat} (hdg : decode cc pc = .ok (.tableswitch dflt lo hi offs, len)) (h : x.toInt < lo ∨ hi < x.toInt) (ht : (pc : Int) + dflt = (tgt : Int)) (kk : Zj M G cc nL own Ts rt aw lv st tgt) : Zj M G cc nL own Ts rt aw lv (.int x :: st) pc := by
  obtain ⟨p, l, e, R, s, m, args, below, meth, c, Q, A, cells, slots⟩ := M
  obtain ⟨D, cl, tys, ad⟩ := G
  intro hF H locs ls hP hD hS hl
  obtain ⟨⟨hx, hb, hml, hown, hts⟩, hr, hlk, hK, hA⟩ := id hF
  exact lv_tableOut hx hb hdg h ht (kk hF H locs ls hP hD hS hl)
theorem z_topi {x : Int32} (k : ∀ y : Int32, y = x → Zj M G cc nL own Ts rt aw lv (.int y :: st) pc) : Zj M G cc nL own Ts rt aw lv (.int x :: st) pc := k x rfl
theorem z_topl {x : Int64} (k : ∀ y : Int64, y = x → Zj M G cc nL own Ts rt aw lv (.long y :: st) pc) : Zj M G cc nL own Ts rt aw lv (.long x :: st) pc := k x rfl
theorem z_get {C ref : String} {T : u_T} {N ci index i : Nat} {fs : List Value} {v : Value} (k : Nat) (hdg : decode cc pc = .ok (.getfield index, 3)) (he : aw[i]? = some (.inr (ci, fs))) (hc : G.2.1[ci]? = some (C, T, N)) (hv : fs[k]? = some v) (hk : k < N) (hin : ∀ w ∈ u_ws C T N, w ∈ Ts) (hlink : Cond.fieldLink own index ref (T k).2.1 (T k).2.2.1 ∈ Ts) (hsame : (T k).1 = ref) (kk : Zj M G cc nL own Ts rt aw lv (v :: st) (pc + 3)) : Zj M G cc nL own Ts rt aw lv (.ref i :: st) pc := by
  obtain ⟨p, l, e, R, s, m, args, below, meth, c, Q, A, cells, slots⟩ := M
  obtain ⟨D, cl, tys, ad⟩ := G
  intro hF H locs ls hP hD hS hl
  obtain ⟨⟨hx, hb, hml, hown, hts⟩, hr, hlk, hK, hA⟩ := id hF
  have he' : (zw ad aw)[i]? = some (ad i, .inr (ci, fs.map (zv ad))) := zw_get he
  exact va_get hx hb hts hin hown hK hP i he' hc k hk (hts _ hlink) (fun x h => by rw [← hsame]; exact h) (v := zv ad v) (by rw [List.getElem?_map, hv]; rfl) hdg (kk hF H locs ls hP hD hS hl)
theorem z_put {C ref : String} {T : u_T} {N ci index i : Nat} {fs : List Value} {v : Value} {ty : FieldType} (k : Nat) (ty0 : Nat → FieldType) (hdg : decode cc pc = .ok (.putfield index, 3)) (he : aw[i]? = some (.inr (ci, fs))) (hc : G.2.1[ci]? = some (C, T, N)) (hk : k < N) (hin : ∀ w ∈ u_ws C T N, w ∈ Ts) (hlink : Cond.fieldLink own index ref (T k).2.1 (T k).2.2.1 ∈ Ts) (hsame : (T k).1 = ref) (hty : ∀ k, k < N → parseFieldDescriptor (T k).2.2.1 = some (ty0 k)) (hnm : ∀ a, a < N → ∀ b, b < N → a ≠ b → (T a).2.1 ≠ (T b).2.1) (hfin : (T k).2.2.2 = false) (hd : parseFieldDescriptor (T k).2.2.1 = some ty) (hn : ∀ f : Nat → Nat, narrow ty (zv f v) = zv f v ∧ fits ty (zv f v) = true) (hl9 : k < fs.length) (kk : Zj M G cc nL own Ts rt (aw.set i (.inr (ci, fs.set k v))) lv st (pc + 3)) : Zj M G cc nL own Ts rt aw lv (v :: .ref i :: st) pc := by
  obtain ⟨p, l, e, R, s, m, args, below, meth, c, Q, A, cells, slots⟩ := M
  obtain ⟨D, cl, tys, ad⟩ := G
  intro hF H locs ls hP hD hS hl
  obtain ⟨⟨hx, hb, hml, hown, hts⟩, hr, hlk, hK, hA⟩ := id hF
  have he' : (zw ad aw)[i]? = some (ad i, .inr (ci, fs.map (zv ad))) := zw_get he
  refine va_put hx hb hts hin ty0 hty hnm hown hK hP hD hS i he' hc k hk (hts _ hlink) (fun x h => by rw [← hsame]; exact h) hfin hd (hn ad).1 (hn ad).2 (by rw [List.length_map]; exact hl9) hdg (fun H1 locs1 hP1 hD1 hS1 => ?_)
  have e9 : (zw ad aw).set i (ad i, .inr (ci, (fs.map (zv ad)).set k (zv ad v))) = zw ad (aw.set i (.inr (ci, fs.set k v))) := by
    rw [zw_set]; simp only [zc, List.map_set]
  rw [e9] at hP1 hD1
  exact kk hF H1 locs1 ls hP1 hD1 hS1 hl
theorem z_iald {cA : ClassId} {n a t0 : Nat} {f : Nat → Int32} {i : Int32} (hdg : decode cc pc = .ok (.iaload, 1)) (ha : aw[a]? = some (.inl (cA, n, .inl f))) (ht : G.2.2.1[t0]? = some (cA, .int)) (hin : vp_in i n) (kk : Zj M G cc nL own Ts rt aw lv (.int (f i.toNatClampNeg) :: st) (pc + 1)) : Zj M G cc nL own Ts rt aw lv (.int i :: .ref a :: st) pc := by
  obtain ⟨p, l, e, R, s, m, args, below, meth, c, Q, A, cells, slots⟩ := M
  obtain ⟨D, cl, tys, ad⟩ := G
  intro hF H locs ls hP hD hS hl
  obtain ⟨⟨hx, hb, hml, hown, hts⟩, hr, hlk, hK, hA⟩ := id hF
  have he' : (zw ad aw)[a]? = some (ad a, .inl (cA, n, .inl f)) := zw_get ha
  exact va_iald hx hb hK hP a t0 he' ht hin hdg (kk hF H locs ls hP hD hS hl)
theorem z_lald {cA : ClassId} {n a t0 : Nat} {f : Nat → Int64} {i : Int32} (hdg : decode cc pc = .ok (.laload, 1)) (ha : aw[a]? = some (.inl (cA, n, .inr (.inl f)))) (ht : G.2.2.1[t0]? = some (cA, .long)) (hin : vp_in i n) (kk : Zj M G cc nL own Ts rt aw lv (.long (f i.toNatClampNeg) :: st) (pc + 1)) : Zj M G cc nL own Ts rt aw lv (.int i :: .ref a :: st) pc := by
  obtain ⟨p, l, e, R, s, m, args, below, meth, c, Q, A, cells, slots⟩ := M
  obtain ⟨D, cl, tys, ad⟩ := G
  intro hF H locs ls hP hD hS hl
  obtain ⟨⟨hx, hb, hml, hown, hts⟩, hr, hlk, hK, hA⟩ := id hF
  have he' : (zw ad aw)[a]? = some (ad a, .inl (cA, n, .inr (.inl f))) := zw_get ha
  exact va_lald hx hb hK hP a t0 he' ht hin hdg (kk hF H locs ls hP hD hS hl)
theorem z_aald {cA : ClassId} {n a t0 b : Nat} {C : String} {f : Nat → Option Nat} {i : Int32} (hdg : decode cc pc = .ok (.aaload, 1)) (ha : aw[a]? = some (.inl (cA, n, .inr (.inr (.inr (.inr f)))))) (ht : G.2.2.1[t0]? = some (cA, .object C)) (hin : vp_in i n) (hb9 : f i.toNatClampNeg = some b) (kk : Zj M G cc nL own Ts rt aw lv (.ref b :: st) (pc + 1)) : Zj M G cc nL own Ts rt aw lv (.int i :: .ref a :: st) pc := by
  obtain ⟨p, l, e, R, s, m, args, below, meth, c, Q, A, cells, slots⟩ := M
  obtain ⟨D, cl, tys, ad⟩ := G
  intro hF H locs ls hP hD hS hl
  obtain ⟨⟨hx, hb, hml, hown, hts⟩, hr, hlk, hK, hA⟩ := id hF
  have he' : (zw ad aw)[a]? = some (ad a, .inl (cA, n, .inr (.inr (.inr (.inr (fun j => (f j).map ad)))))) := zw_get ha
  refine va_aldq hx hb hK hP a t0 he' ht hin hdg ?_
  simp only [hb9]
  exact kk hF H locs ls hP hD hS hl
theorem z_iast {cA : ClassId} {n a t0 : Nat} {f : Nat → Int32} {i x : Int32} (hdg : decode cc pc = .ok (.iastore, 1)) (ha : aw[a]? = some (.inl (cA, n, .inl f))) (ht : G.2.2.1[t0]? = some (cA, .int)) (hin : vp_in i n) (kk : Zj M G cc nL own Ts rt (aw.set a (.inl (cA, n, .inl (upd f i.toNatClampNeg x)))) lv st (pc + 1)) : Zj M G cc nL own Ts rt aw lv (.int x :: .int i :: .ref a :: st) pc := by
  obtain ⟨p, l, e, R, s, m, args, below, meth, c, Q, A, cells, slots⟩ := M
  obtain ⟨D, cl, tys, ad⟩ := G
  intro hF H locs ls hP hD hS hl
  obtain ⟨⟨hx, hb, hml, hown, hts⟩, hr, hlk, hK, hA⟩ := id hF
  have he' : (zw ad aw)[a]? = some (ad a, .inl (cA, n, .inl f)) := zw_get ha
  refine va_iast hx hb hK hP hD hS a t0 he' ht hin hdg (fun H1 locs1 hP1 hD1 hS1 => ?_)
  have e9 : (zw ad aw).set a (ad a, .inl (cA, n, .inl (upd f i.toNatClampNeg x))) = zw ad (aw.set a (.inl (cA, n, .inl (upd f i.toNatClampNeg x)))) := by
    rw [zw_set]; rfl
  rw [e9] at hP1 hD1
  exact kk hF H1 locs1 ls hP1 hD1 hS1 hl
theorem z_last {cA : ClassId} {n a t0 : Nat} {f : Nat → Int64} {i : Int32} {x : Int64} (hdg : decode cc pc = .ok (.lastore, 1)) (ha : aw[a]? = some (.inl (cA, n, .inr (.inl f)))) (ht : G.2.2.1[t0]? = some (cA, .long)) (hin : vp_in i n) (kk : Zj M G cc nL own Ts rt (aw.set a (.inl (cA, n, .inr (.inl (vp_updL f i.toNatClampNeg x))))) lv st (pc + 1)) : Zj M G cc nL own Ts rt aw lv (.long x :: .int i :: .ref a :: st) pc := by
  obtain ⟨p, l, e, R, s, m, args, below, meth, c, Q, A, cells, slots⟩ := M
  obtain ⟨D, cl, tys, ad⟩ := G
  intro hF H locs ls hP hD hS hl
  obtain ⟨⟨hx, hb, hml, hown, hts⟩, hr, hlk, hK, hA⟩ := id hF
  have he' : (zw ad aw)[a]? = some (ad a, .inl (cA, n, .inr (.inl f))) := zw_get ha
  refine va_last hx hb hK hP hD hS a t0 he' ht hin hdg (fun H1 locs1 hP1 hD1 hS1 => ?_)
  have e9 : (zw ad aw).set a (ad a, .inl (cA, n, .inr (.inl (vp_updL f i.toNatClampNeg x)))) = zw ad (aw.set a (.inl (cA, n, .inr (.inl (vp_updL f i.toNatClampNeg x))))) := by
    rw [zw_set]; rfl
  rw [e9] at hP1 hD1
  exact kk hF H1 locs1 ls hP1 hD1 hS1 hl
theorem z_alen {cA : ClassId} {a t0 : Nat} {x : vp_A} {ty : FieldType} {v : Int32} (hdg : decode cc pc = .ok (.arraylength, 1)) (ha : aw[a]? = some (.inl (cA, x))) (ht : G.2.2.1[t0]? = some (cA, ty)) (hv : Int32.ofNat x.1 = v) (kk : Zj M G cc nL own Ts rt aw lv (.int v :: st) (pc + 1)) : Zj M G cc nL own Ts rt aw lv (.ref a :: st) pc := by
  obtain ⟨p, l, e, R, s, m, args, below, meth, c, Q, A, cells, slots⟩ := M
  obtain ⟨D, cl, tys, ad⟩ := G
  intro hF H locs ls hP hD hS hl
  obtain ⟨⟨hx, hb, hml, hown, hts⟩, hr, hlk, hK, hA⟩ := id hF
  obtain ⟨n, x⟩ := x
  have h9 : ∃ y : vp_A, y.1 = n ∧ zc ad (.inl (cA, (n, x))) = .inl (cA, y) := by
    rcases x with f | f | f | f | f
    · exact ⟨_, rfl, rfl⟩
    · exact ⟨_, rfl, rfl⟩
    · exact ⟨_, rfl, rfl⟩
    · exact ⟨_, rfl, rfl⟩
    · exact ⟨(n, .inr (.inr (.inr (.inr (fun j => (f j).map ad))))), rfl, rfl⟩
  obtain ⟨y, e1, e2⟩ := h9
  have he' := zw_get (ad := ad) ha
  rw [e2] at he'
  exact va_alen hx hb hK hP a t0 he' ht (v := v) (by rw [e1]; exact hv) hdg (kk hF H locs ls hP hD hS hl)
theorem z_iinc1 {i : Nat} {x : Int32} (hdg : decode cc pc = .ok (.iinc i 1, 3)) (hn : i < nL) (hok : zsok lv i = true) (hv : lv[i]? = some (some (.int x))) (kk : Zj M G cc nL own Ts rt aw (lv.set i (some (.int (x + 1)))) st (pc + 3)) : Zj M G cc nL own Ts rt aw lv st pc := z_iinc hdg hn hok hv rfl kk
theorem z_ialdN {cA : ClassId} {n a t0 k : Nat} {f : Nat → Int32} {i : Int32} (hdg : decode cc pc = .ok (.iaload, 1)) (ha : aw[a]? = some (.inl (cA, n, .inl f))) (ht : G.2.2.1[t0]? = some (cA, .int)) (hi : i = nI k) (hk : k < n) (hn : n < 2 ^ 31) (kk : Zj M G cc nL own Ts rt aw lv (.int (f k) :: st) (pc + 1)) : Zj M G cc nL own Ts rt aw lv (.int i :: .ref a :: st) pc := by
  subst hi
  refine z_iald hdg ha ht (vp_in_nI hk hn) ?_
  rw [nI_clamp (by omega)]
  exact kk
theorem z_laldN {cA : ClassId} {n a t0 k : Nat} {f : Nat → Int64} {i : Int32} (hdg : decode cc pc = .ok (.laload, 1)) (ha : aw[a]? = some (.inl (cA, n, .inr (.inl f)))) (ht : G.2.2.1[t0]? = some (cA, .long)) (hi : i = nI k) (hk : k < n) (hn : n < 2 ^ 31) (kk : Zj M G cc nL own Ts rt aw lv (.long (f k) :: st) (pc + 1)) : Zj M G cc nL own Ts rt aw lv (.int i :: .ref a :: st) pc := by
  subst hi
  refine z_lald hdg ha ht (vp_in_nI hk hn) ?_
  rw [nI_clamp (by omega)]
  exact kk
theorem z_aaldN {cA : ClassId} {n a t0 b k : Nat} {C : String} {f : Nat → Option Nat} {i : Int32} (hdg : decode cc pc = .ok (.aaload, 1)) (ha : aw[a]? = some (.inl (cA, n, .inr (.inr (.inr (.inr f)))))) (ht : G.2.2.1[t0]? = some (cA, .object C)) (hi : i = nI k) (hk : k < n) (hn : n < 2 ^ 31) (hb9 : f k = some b) (kk : Zj M G cc nL own Ts rt aw lv (.ref b :: st) (pc + 1)) : Zj M G cc nL own Ts rt aw lv (.int i :: .ref a :: st) pc := by
  subst hi
  exact z_aald hdg ha ht (vp_in_nI hk hn) (by rw [nI_clamp (by omega)]; exact hb9) kk
theorem z_iastN {cA : ClassId} {n a t0 k : Nat} {f : Nat → Int32} {i x : Int32} (hdg : decode cc pc = .ok (.iastore, 1)) (ha : aw[a]? = some (.inl (cA, n, .inl f))) (ht : G.2.2.1[t0]? = some (cA, .int)) (hi : i = nI k) (hk : k < n) (hn : n < 2 ^ 31) (kk : Zj M G cc nL own Ts rt (aw.set a (.inl (cA, n, .inl (upd f k x)))) lv st (pc + 1)) : Zj M G cc nL own Ts rt aw lv (.int x :: .int i :: .ref a :: st) pc := by
  subst hi
  refine z_iast hdg ha ht (vp_in_nI hk hn) ?_
  rw [nI_clamp (by omega)]
  exact kk
theorem z_lastN {cA : ClassId} {n a t0 k : Nat} {f : Nat → Int64} {i : Int32} {x : Int64} (hdg : decode cc pc = .ok (.lastore, 1)) (ha : aw[a]? = some (.inl (cA, n, .inr (.inl f)))) (ht : G.2.2.1[t0]? = some (cA, .long)) (hi : i = nI k) (hk : k < n) (hn : n < 2 ^ 31) (kk : Zj M G cc nL own Ts rt (aw.set a (.inl (cA, n, .inr (.inl (vp_updL f k x))))) lv st (pc + 1)) : Zj M G cc nL own Ts rt aw lv (.long x :: .int i :: .ref a :: st) pc := by
  subst hi
  refine z_last hdg ha ht (vp_in_nI hk hn) ?_
  rw [nI_clamp (by omega)]
  exact kk
theorem z_copyi {cA : ClassId} {n0 n1 a b t0 index s9 d9 k9 : Nat} {f g : Nat → Int32} {sp dp n : Int32} (hdg : decode cc pc = .ok (.invokestatic index, 3)) (h1 : Cond.methodLink own index arraycopyName ∈ Ts) (h2 : Cond.native arraycopyName ∈ Ts) (h3 : Cond.static arraycopyName ∈ Ts) (h4 : Cond.initialized "java/lang/System" ∈ Ts) (ha : aw[a]? = some (.inl (cA, n0, .inl f))) (hb9 : aw[b]? = some (.inl (cA, n1, .inl g))) (ht : G.2.2.1[t0]? = some (cA, .int)) (hs : sp = nI s9) (hd : dp = nI d9) (hk : n = nI k9) (l1 : s9 + k9 ≤ n0) (l2 : d9 + k9 ≤ n1) (l3 : n0 < 2 ^ 31) (l4 : n1 < 2 ^ 31) (hR : 1 ≤ M.2.2.2.1.frames ∧ (st.map fun v => v.category).sum + (nativeFrameWords "java/lang/System" "arraycopy" 5 + 11) ≤ M.2.2.2.1.locals) (kk : Zj M G cc nL own Ts rt (aw.set b (.inl (cA, n1, .inl (va_cpy f g s9 d9 k9)))) lv st (pc + 3)) : Zj M G cc nL own Ts rt aw lv (.int n :: .int dp :: .ref b :: .int sp :: .ref a :: st) pc := by
  obtain ⟨p, l, e, R, s, m, args, below, meth, c, Q, A, cells, slots⟩ := M
  obtain ⟨D, cl, tys, ad⟩ := G
  intro hF H locs ls hP hD hS hl
  obtain ⟨⟨hx, hb, hml, hown, hts⟩, hr, hlk, hK, hA⟩ := id hF
  subst hs; subst hd; subst hk
  have ha' : (zw ad aw)[a]? = some (ad a, .inl (cA, n0, .inl f)) := zw_get ha
  have hb' : (zw ad aw)[b]? = some (ad b, .inl (cA, n1, .inl g)) := zw_get hb9
  refine va_copyi hx hb (hml.trans hl.1.symm) hown (hts _ h1) (hts _ h2) (hts _ h3) (hts _ h4) hK hP hD hS a b t0 t0 ha' hb' ht ht rfl (nI_pos (by omega)) (nI_pos (by omega)) (nI_pos (by omega)) (by rw [nI_clamp (by omega), nI_clamp (by omega)]; exact l1) (by rw [nI_clamp (by omega), nI_clamp (by omega)]; exact l2) (fun i _ => rfl) hR.1 (by rw [zv_cats]; exact hR.2) hdg (fun H1 locs1 hP1 hD1 hS1 => ?_)
  rw [nI_clamp (by omega), nI_clamp (by omega), nI_clamp (by omega)] at hP1 hD1
  have e9 : (zw ad aw).set b (ad b, .inl (cA, n1, .inl (va_cpy f g s9 d9 k9))) = zw ad (aw.set b (.inl (cA, n1, .inl (va_cpy f g s9 d9 k9)))) := by
    rw [zw_set]; rfl
  rw [e9] at hP1 hD1
  exact kk hF H1 locs1 ls hP1 hD1 hS1 hl
theorem z_mmax {x y : Int32} {index : Nat} (hdg : decode cc pc = .ok (.invokestatic index, 3)) (h1 : Cond.methodLink own index Lib.Math.max.name ∈ Ts) (h2 : Cond.static Lib.Math.max.name ∈ Ts) (h3 : Cond.initialized "java/lang/Math" ∈ Ts) (h4 : Cond.code Lib.Math.max.name Lib.Math.max.code 2 (some .int) ∈ Ts) (hR : 1 ≤ M.2.2.2.1.frames ∧ (st.map fun v => v.category).sum + 13 ≤ M.2.2.2.1.locals) (hcs : M.2.2.2.2.2.2.2.2.2.2.2.2.1 ≤ M.2.2.2.1.cells ∧ M.2.2.2.2.2.2.2.2.2.2.2.2.2 ≤ M.2.2.2.1.slots) (kk : Zj M G cc nL own Ts rt aw lv (.int (if x < y then y else x) :: st) (pc + 3)) : Zj M G cc nL own Ts rt aw lv (.int y :: .int x :: st) pc := by
  obtain ⟨p, l, e, R, s, m, args, below, meth, c, Q, A, cells, slots⟩ := M
  obtain ⟨D, cl, tys, ad⟩ := G
  intro hF H locs ls hP hD hS hl
  obtain ⟨⟨hx, hb, hml, hown, hts⟩, hr, hlk, hK, hA⟩ := id hF
  exact va_mmax hx hb (hml.trans hl.1.symm) hown (hts _ h1) (hts _ h2) (hts _ h3) (hts _ h4) hR.1 (by rw [zv_cats]; exact hR.2) hcs.1 hcs.2 hdg (kk hF H locs ls hP hD hS hl)
theorem z_mmin {x y : Int32} {index : Nat} (hdg : decode cc pc = .ok (.invokestatic index, 3)) (h1 : Cond.methodLink own index Lib.Math.min.name ∈ Ts) (h2 : Cond.static Lib.Math.min.name ∈ Ts) (h3 : Cond.initialized "java/lang/Math" ∈ Ts) (h4 : Cond.code Lib.Math.min.name Lib.Math.min.code 2 (some .int) ∈ Ts) (hR : 1 ≤ M.2.2.2.1.frames ∧ (st.map fun v => v.category).sum + 13 ≤ M.2.2.2.1.locals) (hcs : M.2.2.2.2.2.2.2.2.2.2.2.2.1 ≤ M.2.2.2.1.cells ∧ M.2.2.2.2.2.2.2.2.2.2.2.2.2 ≤ M.2.2.2.1.slots) (kk : Zj M G cc nL own Ts rt aw lv (.int (if y < x then y else x) :: st) (pc + 3)) : Zj M G cc nL own Ts rt aw lv (.int y :: .int x :: st) pc := by
  obtain ⟨p, l, e, R, s, m, args, below, meth, c, Q, A, cells, slots⟩ := M
  obtain ⟨D, cl, tys, ad⟩ := G
  intro hF H locs ls hP hD hS hl
  obtain ⟨⟨hx, hb, hml, hown, hts⟩, hr, hlk, hK, hA⟩ := id hF
  exact va_mmin hx hb (hml.trans hl.1.symm) hown (hts _ h1) (hts _ h2) (hts _ h3) (hts _ h4) hR.1 (by rw [zv_cats]; exact hR.2) hcs.1 hcs.2 hdg (kk hF H locs ls hP hD hS hl)
theorem z_mabs {x : Int32} {index : Nat} (hdg : decode cc pc = .ok (.invokestatic index, 3)) (h1 : Cond.methodLink own index Lib.Math.abs.name ∈ Ts) (h2 : Cond.static Lib.Math.abs.name ∈ Ts) (h3 : Cond.initialized "java/lang/Math" ∈ Ts) (h4 : Cond.code Lib.Math.abs.name Lib.Math.abs.code 1 (some .int) ∈ Ts) (hR : 1 ≤ M.2.2.2.1.frames ∧ (st.map fun v => v.category).sum + 13 ≤ M.2.2.2.1.locals) (hcs : M.2.2.2.2.2.2.2.2.2.2.2.2.1 ≤ M.2.2.2.1.cells ∧ M.2.2.2.2.2.2.2.2.2.2.2.2.2 ≤ M.2.2.2.1.slots) (kk : Zj M G cc nL own Ts rt aw lv (.int (if 0 ≤ x then x else 0 - x) :: st) (pc + 3)) : Zj M G cc nL own Ts rt aw lv (.int x :: st) pc := by
  obtain ⟨p, l, e, R, s, m, args, below, meth, c, Q, A, cells, slots⟩ := M
  obtain ⟨D, cl, tys, ad⟩ := G
  intro hF H locs ls hP hD hS hl
  obtain ⟨⟨hx, hb, hml, hown, hts⟩, hr, hlk, hK, hA⟩ := id hF
  exact va_mabs hx hb (hml.trans hl.1.symm) hown (hts _ h1) (hts _ h2) (hts _ h3) (hts _ h4) hR.1 (by rw [zv_cats]; exact hR.2) hcs.1 hcs.2 hdg (kk hF H locs ls hP hD hS hl)
end ZR
end
section
/-! contracts over data, their beginnings, ends and calls -/
def zargs : List Value → List (Option Value)
  | [] => []
  | .long x :: vs => some (.long x) :: none :: zargs vs
  | .double x :: vs => some (.double x) :: none :: zargs vs
  | v :: vs => some v :: zargs vs
theorem zargs_one {v : Value} {vs : List Value} (h : v.category = 1) : zargs (v :: vs) = some v :: zargs vs := by
  cases v <;> first | rfl | cases h
theorem zargs_two {v : Value} {vs : List Value} (h : v.category = 2) : zargs (v :: vs) = some v :: none :: zargs vs := by
  cases v <;> first | rfl | cases h
theorem zargs_mem (ad : Nat → Nat) : ∀ (As : List Value) (k i : Nat) (v : Value), (zargs As)[i]? = some (some v) → (k + i, zv ad v) ∈ lv_args k (As.map (zv ad)) := by
  intro As
  induction As with
  | nil => intro k i v h; simp [zargs] at h
  | cons a t ih =>
    intro k i v h
    rcases lv_cat a with hc | hc
    · rw [zargs_one hc] at h
      simp only [List.map_cons, lv_args, zv_cat, hc]
      cases i with
      | zero => cases h; exact List.mem_cons_self
      | succ i =>
        have := ih (k + 1) i v h
        rw [show k + (i + 1) = k + 1 + i by omega]
        exact List.mem_cons_of_mem _ this
    · rw [zargs_two hc] at h
      simp only [List.map_cons, lv_args, zv_cat, hc]
      match i, h with
      | 0, h => cases h; exact List.mem_cons_self
      | 1, h => cases h
      | i + 2, h =>
        have := ih (k + 2) i v h
        rw [show k + (i + 2) = k + 2 + i by omega]
        exact List.mem_cons_of_mem _ this
theorem zh_entry {ad : Nat → Nat} {As : List Value} {n : Nat} {lv : List (Option Value)} (hlv : zargs As ++ List.replicate (n - (lg_sl (As.map (zv ad))).length) none = lv) (h : (lg_sl (As.map (zv ad))).length ≤ n) : zh ad ((lg_sl (As.map (zv ad)) ++ List.replicate (n - (lg_sl (As.map (zv ad))).length) Slot.unset).toArray) n lv := by
  obtain ⟨h1, h2, h3⟩ := lv_entry (As.map (zv ad)) h
  refine ⟨h1, h2, fun i v hv => ?_⟩
  rw [← hlv, List.getElem?_append] at hv
  split at hv
  · have := h3 _ (zargs_mem ad As 0 i v hv)
    rwa [Nat.zero_add] at this
  · rw [List.getElem?_replicate] at hv
    split at hv <;> cases hv
def zB (G : zG) (A : Nat → Prop) (aw : List va_E) (t : State) : Prop := va_P G.1 G.2.1 (zw G.2.2.2 aw) t.heap ∧ va_K G.1 G.2.1 G.2.2.1 t ∧ va_D A (zw G.2.2.2 aw)
def zA (G : zG) (aw : List va_E) (sz : Nat) : Nat → Prop := va_A (zw G.2.2.2 aw) sz
def zPc (G : zG) (aw : List va_E) (As : List Value) (sz : Nat) (E : (Nat → Prop) → State → Prop) : Array Value → State → Prop := fun v U => v = (As.map (zv G.2.2.2)).toArray ∧ U.heap.size = sz ∧ zB G (fun _ => True) aw U ∧ E (zA G aw sz) U
def zQ (G : zG) (aw0 : List va_E) (sz : Nat) (post : Option Value → List va_E → Prop) : Array Value → State → Outcome → State → Prop := fun _ st oc t => (∃ (r : Option Value) (aw : List va_E), oc = .returned (r.map (zv G.2.2.2)) ∧ aw.length = aw0.length ∧ post r aw ∧ zB G (zA G aw0 sz) aw t) ∧ va_F (zA G aw0 sz) st t
def zXC (G : zG) (aw0 : List va_E) (sz : Nat) (px : String → Prop) : String → State → State → Prop := fun E st t => px E ∧ zB G (zA G aw0 sz) aw0 t ∧ va_F (zA G aw0 sz) st t
def zE0 : (Nat → Prop) → State → Prop := fun _ _ => True
/-- the method y, over the world aw, with the arguments As, returns and leaves 'post' -/
def zMet (l : Launch) (y : MethodName) (ws : List Cond) (rm : Room) (E : (Nat → Prop) → State → Prop) (G : zG) (aw : List va_E) (As : List Value) (post : Option Value → List va_E → Prop) : Prop := ∀ sz, Met l y ws rm (zPc G aw As sz E) (zQ G aw sz post) 0 0 (zA G aw sz)
/-- an environment that a callee finds, where the caller has one -/
def zEok (E E' : (Nat → Prop) → State → Prop) : Prop := (∀ (A A' : Nat → Prop) (s U : State) (locs : List Loc), E A s → va_S A s.heap U.heap locs → (∀ q, A' q → A q) → s.WarmedH U.vm → E' A' U) ∧ ∀ (A : Nat → Prop) (a : Array Value) (U : State) (g : JFrame) (mk : MethodId), E' A U → E' A (U.calling g mk a)
theorem zEok_0 {E : (Nat → Prop) → State → Prop} : zEok E zE0 := ⟨fun _ _ _ _ _ _ _ _ _ => trivial, fun _ _ _ _ _ _ => trivial⟩
/-- .. or throws something of px, the world unchanged -/
def zXet (l : Launch) (y : MethodName) (ws : List Cond) (rm : Room) (mc ms : Nat) (E : (Nat → Prop) → State → Prop) (G : zG) (aw : List va_E) (As : List Value) (post : Option Value → List va_E → Prop) (px : String → Prop) : Prop := ∀ sz, vx_Met l y ws rm (zPc G aw As sz E) (zQ G aw sz post) (zXC G aw sz px) mc ms (zA G aw sz)
/-- at the method's end: what it owes -/
def zRet (M : zM) (G : zG) (aw0 : List va_E) (post : Option Value → List va_E → Prop) (mc ms : Nat) : Prop := match M with
  | (p, l, e, R, s, m, args, below, meth, c, Q, A, _, _) => ∃ sz, A = zA G aw0 sz ∧ ∀ (H : Heap) (locs : List Loc) (g : JFrame), W p l e R s m args below meth c H locs mc ms (MQ below (zQ G aw0 sz post) args s mc ms (zA G aw0 sz)) g → W p l e R s m args below meth c H locs mc ms Q g
def zRetX (M : zM) (G : zG) (aw0 : List va_E) (post : Option Value → List va_E → Prop) (px : String → Prop) (mc ms : Nat) : Prop := match M with
  | (_, _, _, _, s, _, args, below, _, c, Q, A, _, _) => (∀ x ∈ c.exceptionTable.toList, False) ∧ ∃ sz, A = zA G aw0 sz ∧ Q = vx_MQ below (zQ G aw0 sz post) (zXC G aw0 sz px) args s mc ms (zA G aw0 sz)
theorem zRetX.ret {M : zM} {G : zG} {aw0 : List va_E} {post : Option Value → List va_E → Prop} {px : String → Prop} {mc ms : Nat} (h : zRetX M G aw0 post px mc ms) : zRet M G aw0 post mc ms := by
  obtain ⟨p, l, e, R, s, m, args, below, meth, c, Q, A, cells, slots⟩ := M
  obtain ⟨-, sz, h1, h2⟩ := h
  exact ⟨sz, h1, fun H locs g k => by rw [h2]; exact vx_ret k⟩
abbrev zcells (M : zM) : Nat := M.2.2.2.2.2.2.2.2.2.2.2.2.1
abbrev zslots (M : zM) : Nat := M.2.2.2.2.2.2.2.2.2.2.2.2.2
abbrev zroom (M : zM) : Room := M.2.2.2.1
abbrev zl0 (M : zM) : Launch := M.2.1
/-- the environment of throws, at the machine's start -/
def zEn (M : zM) (E : (Nat → Prop) → State → Prop) : Prop := E M.2.2.2.2.2.2.2.2.2.2.2.1 M.2.2.2.2.1
/-- a method's contract out of its walk -/
theorem zMet.of {l : Launch} {y : MethodName} {ws ws' : List Cond} {rm : Room} {E : (Nat → Prop) → State → Prop} {G : zG} {aw : List va_E} {As : List Value} {post : Option Value → List va_E → Prop} {cc : ByteArray} {maxL : Nat} {ret : Option FieldType} {lv : List (Option Value)}
    (hy : plainName y.cls = true) (hw : ws = Cond.code y cc maxL ret :: ws') (hlen : (lg_sl (As.map (zv G.2.2.2))).length ≤ maxL) (hlv : zargs As ++ List.replicate (maxL - (lg_sl (As.map (zv G.2.2.2))).length) none = lv)
    (body : ∀ M : zM, zl0 M = l → zroom M = rm → zcells M = 0 → zslots M = 0 → zEn M E → zRet M G aw post 0 0 → Zj M G cc maxL y.cls ws ret aw lv [] 0) : zMet l y ws rm E G aw As post := by
  intro sz
  refine Met.ofW (cc := cc) (maxL := maxL) (ret := ret) hy hw ?_
  intro p e s m args below meth c s₁ B hml hv
  obtain ⟨D, cl, tys, ad⟩ := G
  obtain ⟨rfl, hsz, ⟨hP, hK, hD0⟩, hE⟩ := hv
  subst hsz
  rw [lg_entry_eq]
  exact body (p, l, e, (headSpec ws rm).room, s, m, _, below, meth, c, _, zA (D, cl, tys, ad) aw s.heap.size, 0, 0) rfl rfl rfl rfl hE ⟨s.heap.size, rfl, fun _ _ _ k => k⟩
    ⟨⟨B.exec, B.bytes, hml, findClass_of_methodNamed B.named, atoms_spec (ws := ws) B.pre⟩, B.returns, B.notSynchronized, hK, fun q h => Or.inr h⟩ s.heap [] _ hP (hD0.self) va_S.rf (zh_entry hlv hlen)
theorem zXet.of {l : Launch} {y : MethodName} {ws ws' : List Cond} {rm : Room} {mc ms : Nat} {E : (Nat → Prop) → State → Prop} {G : zG} {aw : List va_E} {As : List Value} {post : Option Value → List va_E → Prop} {px : String → Prop} {cc : ByteArray} {maxL : Nat} {ret : Option FieldType} {lv : List (Option Value)}
    (hy : plainName y.cls = true) (hw : ws = Cond.code y cc maxL ret :: ws') (hlen : (lg_sl (As.map (zv G.2.2.2))).length ≤ maxL) (hlv : zargs As ++ List.replicate (maxL - (lg_sl (As.map (zv G.2.2.2))).length) none = lv)
    (body : ∀ M : zM, zl0 M = l → zroom M = rm → zcells M = 0 → zslots M = 0 → zEn M E → zRetX M G aw post px mc ms → Zj M G cc maxL y.cls ws ret aw lv [] 0) : zXet l y ws rm mc ms E G aw As post px := by
  intro sz
  refine vx_ofW (cc := cc) (maxL := maxL) (ret := ret) hy hw ?_
  intro p e s m args below meth c s₁ B hml htab hv
  obtain ⟨D, cl, tys, ad⟩ := G
  obtain ⟨rfl, hsz, ⟨hP, hK, hD0⟩, hE⟩ := hv
  subst hsz
  rw [lg_entry_eq]
  exact body (p, l, e, (headSpec ws rm).room, s, m, _, below, meth, c, _, zA (D, cl, tys, ad) aw s.heap.size, 0, 0) rfl rfl rfl rfl hE ⟨htab, s.heap.size, rfl, rfl⟩
    ⟨⟨B.exec, B.bytes, hml, findClass_of_methodNamed B.named, atoms_spec (ws := ws) B.pre⟩, B.returns, B.notSynchronized, hK, fun q h => Or.inr h⟩ s.heap [] _ hP (hD0.self) va_S.rf (zh_entry hlv hlen)
section ZE
variable {M : zM} {G : zG} {cc : ByteArray} {nL : Nat} {own : String} {Ts : List Cond} {rt : Option FieldType} {aw aw0 : List va_E} {lv : List (Option Value)} {st : List Value} {pc mc ms : Nat} {post : Option Value → List va_E → Prop} {px : String → Prop}
theorem z_ret_aux {p : Program} {l : Launch} {e : Env} {R : Room} {s : State} {m : MethodId} {args : Array Value} {below : List Frame} {meth : Method} {c : Code} {D : va_G} {cl : List vw_C} {tys : List (ClassId × FieldType)} {ad : Nat → Nat} {sz : Nat} {H : Heap} {locs : List Loc} {r : Option Value} (hK : va_K D cl tys s) (hP : va_P D cl (zw ad aw) H) (hD : va_D (zA (D, cl, tys, ad) aw0 sz) (zw ad aw)) (hS : va_S (zA (D, cl, tys, ad) aw0 sz) s.heap H locs) (hlen : aw.length = aw0.length) (hp : post r aw) :
    ∀ t : State, t.heap = H → s.WarmedH t.vm → zQ (D, cl, tys, ad) aw0 sz post args s (.returned (r.map (zv ad))) t :=
  fun t ht hW => ⟨⟨r, aw, rfl, hlen, hp, by rw [ht]; exact hP, va_K.moved hW.alike hK, hD⟩, hS.F ht⟩
theorem z_ireturn {x : Int32} {ty : FieldType} (hdg : decode cc pc = .ok (.ireturn, 1)) (hn : narrow ty (.int x) = .int x) (hret : zRet M G aw0 post mc ms) (hc : zcells M ≤ mc ∧ zslots M ≤ ms) (hlen : aw.length = aw0.length) (hp : post (some (.int x)) aw) : Zj M G cc nL own Ts (some ty) aw lv [.int x] pc := by
  obtain ⟨p, l, e, R, s, m, args, below, meth, c, Q, A, cells, slots⟩ := M
  obtain ⟨D, cl, tys, ad⟩ := G
  intro hF H locs ls hP hD hS hl
  obtain ⟨⟨hx, hb, hml, hown, hts⟩, hr, hlk, hK, hA⟩ := hF
  obtain ⟨sz, rfl, hQ⟩ := hret
  refine W.widen hc.1 hc.2 (hQ _ _ _ ?_)
  exact W.zret hx hb hr hn (z_ret_aux (r := some (.int x)) (p := p) (l := l) (e := e) (R := R) (m := m) (below := below) (meth := meth) (c := c) hK hP hD hS hlen hp) hS.2.2 hdg hlk
theorem z_lreturn {x : Int64} (hdg : decode cc pc = .ok (.lreturn, 1)) (hret : zRet M G aw0 post mc ms) (hc : zcells M ≤ mc ∧ zslots M ≤ ms) (hlen : aw.length = aw0.length) (hp : post (some (.long x)) aw) : Zj M G cc nL own Ts (some .long) aw lv [.long x] pc := by
  obtain ⟨p, l, e, R, s, m, args, below, meth, c, Q, A, cells, slots⟩ := M
  obtain ⟨D, cl, tys, ad⟩ := G
  intro hF H locs ls hP hD hS hl
  obtain ⟨⟨hx, hb, hml, hown, hts⟩, hr, hlk, hK, hA⟩ := hF
  obtain ⟨sz, rfl, hQ⟩ := hret
  refine W.widen hc.1 hc.2 (hQ _ _ _ ?_)
  exact W.lret hx hb hr (z_ret_aux (r := some (.long x)) (p := p) (l := l) (e := e) (R := R) (m := m) (below := below) (meth := meth) (c := c) hK hP hD hS hlen hp) hS.2.2 hdg hlk
theorem z_areturn {i : Nat} {C : String} (hdg : decode cc pc = .ok (.areturn, 1)) (hret : zRet M G aw0 post mc ms) (hc : zcells M ≤ mc ∧ zslots M ≤ ms) (hlen : aw.length = aw0.length) (hp : post (some (.ref i)) aw) : Zj M G cc nL own Ts (some (.object C)) aw lv [.ref i] pc := by
  obtain ⟨p, l, e, R, s, m, args, below, meth, c, Q, A, cells, slots⟩ := M
  obtain ⟨D, cl, tys, ad⟩ := G
  intro hF H locs ls hP hD hS hl
  obtain ⟨⟨hx, hb, hml, hown, hts⟩, hr, hlk, hK, hA⟩ := hF
  obtain ⟨sz, rfl, hQ⟩ := hret
  refine W.widen hc.1 hc.2 (hQ _ _ _ ?_)
  exact W.aret hx hb hr (Or.inl ⟨_, rfl⟩) (Or.inr ⟨_, rfl⟩) (z_ret_aux (r := some (.ref i)) (p := p) (l := l) (e := e) (R := R) (m := m) (below := below) (meth := meth) (c := c) hK hP hD hS hlen hp) hS.2.2 hdg hlk
theorem z_return (hdg : decode cc pc = .ok (.return_, 1)) (hret : zRet M G aw0 post mc ms) (hc : zcells M ≤ mc ∧ zslots M ≤ ms) (hlen : aw.length = aw0.length) (hp : post none aw) : Zj M G cc nL own Ts none aw lv [] pc := by
  obtain ⟨p, l, e, R, s, m, args, below, meth, c, Q, A, cells, slots⟩ := M
  obtain ⟨D, cl, tys, ad⟩ := G
  intro hF H locs ls hP hD hS hl
  obtain ⟨⟨hx, hb, hml, hown, hts⟩, hr, hlk, hK, hA⟩ := hF
  obtain ⟨sz, rfl, hQ⟩ := hret
  refine W.widen hc.1 hc.2 (hQ _ _ _ ?_)
  exact W.vret hx hb hr (z_ret_aux (r := none) (p := p) (l := l) (e := e) (R := R) (m := m) (below := below) (meth := meth) (c := c) hK hP hD hS hlen hp) hS.2.2 hdg hlk
end ZE
/-! parts of a world -/
theorem zv_comp (ad ix : Nat → Nat) (v : Value) : zv (fun j => ad (ix j)) v = zv ad (zv ix v) := by cases v <;> rfl
theorem zc_comp (ad ix : Nat → Nat) (e : va_E) : zc (fun j => ad (ix j)) e = zc ad (zc ix e) := by
  rcases e with ⟨cA, n, f⟩ | ⟨ci, fs⟩
  · rcases f with f | f | f | f | f
    · rfl
    · rfl
    · rfl
    · rfl
    · simp only [zc, Option.map_map]; rfl
  · simp only [zc, List.map_map]
    congr 2
    apply List.map_congr_left
    intro v _
    exact zv_comp ad ix v
theorem zv_id (v : Value) : zv (fun j => j) v = v := by cases v <;> rfl
theorem zc_id (e : va_E) : zc (fun j => j) e = e := by
  rcases e with ⟨cA, n, f⟩ | ⟨ci, fs⟩
  · rcases f with f | f | f | f | f <;> simp [zc]
  · simp only [zc]
    congr 2
    exact (List.map_congr_left (fun v _ => zv_id v)).trans (List.map_id' fs)
theorem zD_len {A : Nat → Prop} {ad : Nat → Nat} {aw aw2 : List va_E} (hD : va_D A (zw ad aw)) (h : aw2.length = aw.length) : va_D A (zw ad aw2) := by
  have key : ∀ (i : Nat) (q : Nat × va_E), (zw ad aw2)[i]? = some q → ∃ q', (zw ad aw)[i]? = some q' ∧ q'.1 = q.1 := by
    intro i q hq
    rw [zw_at] at hq
    obtain ⟨e, he, rfl⟩ := Option.map_eq_some_iff.mp hq
    have hl : i < aw.length := by rw [← h]; exact (List.getElem?_eq_some_iff.mp he).1
    exact ⟨_, zw_get (List.getElem?_eq_getElem hl), rfl⟩
  refine ⟨fun i j x y hx hy hxy => ?_, fun k q hk => ?_⟩
  · obtain ⟨x', h1, h2⟩ := key i x hx
    obtain ⟨y', h3, h4⟩ := key j y hy
    exact hD.1 i j x' y' h1 h3 (by rw [h2, h4]; exact hxy)
  · obtain ⟨q', h1, h2⟩ := key k q hk
    rw [← h2]; exact hD.2 k q' h1
/-- the callee's world awc lies in the caller's, at the places ix; awn is the caller's with what came back -/
def zIn (ix : Nat → Nat) (aw awc : List va_E) : Prop := (∀ (j : Nat) (e : va_E), awc[j]? = some e → aw[ix j]? = some (zc ix e)) ∧ ∀ i j, i < awc.length → j < awc.length → ix i = ix j → i = j
def zBk (ix : Nat → Nat) (aw awc aw1 awn : List va_E) : Prop := awn.length = aw.length ∧ (∀ (j : Nat) (e : va_E), aw1[j]? = some e → awn[ix j]? = some (zc ix e)) ∧ ∀ k : Nat, (∀ j : Nat, j < awc.length → ix j ≠ k) → awn[k]? = aw[k]?
theorem zIn.P {D : va_G} {cl : List vw_C} {ad ix : Nat → Nat} {aw awc : List va_E} {H : Heap} (h : zIn ix aw awc) (hP : va_P D cl (zw ad aw) H) : va_P D cl (zw (fun j => ad (ix j)) awc) H := by
  intro k q hq
  rw [zw_at] at hq
  obtain ⟨e, he, rfl⟩ := Option.map_eq_some_iff.mp hq
  rw [zc_comp]
  exact hP (ix k) _ (zw_get (h.1 k e he))
theorem zIn.D {A : Nat → Prop} {ad ix : Nat → Nat} {aw awc : List va_E} (h : zIn ix aw awc) (hD : va_D A (zw ad aw)) : va_D A (zw (fun j => ad (ix j)) awc) := by
  have key : ∀ (i : Nat) (q : Nat × va_E), (zw (fun j => ad (ix j)) awc)[i]? = some q → i < awc.length ∧ ∃ q', (zw ad aw)[ix i]? = some q' ∧ q'.1 = q.1 := by
    intro i q hq
    rw [zw_at] at hq
    obtain ⟨e, he, rfl⟩ := Option.map_eq_some_iff.mp hq
    exact ⟨(List.getElem?_eq_some_iff.mp he).1, _, zw_get (h.1 i e he), rfl⟩
  refine ⟨fun i j x y hx hy hxy => ?_, fun k q hk => ?_⟩
  · obtain ⟨l1, x', h1, h2⟩ := key i x hx
    obtain ⟨l2, y', h3, h4⟩ := key j y hy
    exact h.2 i j l1 l2 (hD.1 _ _ x' y' h1 h3 (by rw [h2, h4]; exact hxy))
  · obtain ⟨-, q', h1, h2⟩ := key k q hk
    rw [← h2]; exact hD.2 _ q' h1
theorem zIn.free {A : Nat → Prop} {D : va_G} {cl : List vw_C} {tys : List (ClassId × FieldType)} {ad ix : Nat → Nat} {aw awc : List va_E} {H0 H : Heap} {locs : List Loc} (h : zIn ix aw awc) (hD : va_D A (zw ad aw)) (hS : va_S A H0 H locs) (hA : ∀ q, H0.size ≤ q → A q) : ∀ q, zA (D, cl, tys, fun j => ad (ix j)) awc H.size q → A q := by
  intro q hq
  rcases hq with ⟨k, e, hk⟩ | hq
  · exact (h.D hD).2 k _ hk
  · exact hA q (Nat.le_trans hS.1 hq)
theorem zBk.P {D : va_G} {cl : List vw_C} {tys : List (ClassId × FieldType)} {A : Nat → Prop} {ad ix : Nat → Nat} {aw awc aw1 awn : List va_E} {H H1 : Heap} (h : zIn ix aw awc) (hb : zBk ix aw awc aw1 awn) (hlen : aw1.length = awc.length) (hP : va_P D cl (zw ad aw) H) (hD : va_D A (zw ad aw)) (hP1 : va_P D cl (zw (fun j => ad (ix j)) aw1) H1)
    (hk : ∀ q : Nat, q < H.size → ¬ zA (D, cl, tys, fun j => ad (ix j)) awc H.size q → H1[q]? = H[q]?) : va_P D cl (zw ad awn) H1 := by
  intro k q hq
  rw [zw_at] at hq
  obtain ⟨e, he, rfl⟩ := Option.map_eq_some_iff.mp hq
  by_cases hj : ∃ j, j < awc.length ∧ ix j = k
  · obtain ⟨j, hj, rfl⟩ := hj
    have hl1 : j < aw1.length := by omega
    have h1 := hb.2.1 j _ (List.getElem?_eq_getElem hl1)
    rw [he] at h1
    cases h1
    have h2 := hP1 j _ (zw_get (List.getElem?_eq_getElem hl1))
    rw [zc_comp] at h2
    exact h2
  · have hn : ∀ j : Nat, j < awc.length → ix j ≠ k := fun j h1 h2 => hj ⟨j, h1, h2⟩
    have h1 := hb.2.2 k hn
    rw [he] at h1
    have h2 := hP k _ (zw_get h1.symm)
    refine h2.kept (hk _ h2.lt ?_)
    rintro (⟨j, e', hj'⟩ | hq')
    · rw [zw_at] at hj'
      obtain ⟨e2, he2, h3⟩ := Option.map_eq_some_iff.mp hj'
      have h4 := hD.1 (ix j) k _ _ (zw_get (h.1 j e2 he2)) (zw_get h1.symm) (show ad (ix j) = ad k from congrArg Prod.fst h3)
      exact hn j (List.getElem?_eq_some_iff.mp he2).1 h4
    · exact absurd h2.lt (Nat.not_lt.mpr hq')
def zup (M : zM) (a b : Nat) : zM := match M with
  | (p, l, e, R, s, m, args, below, meth, c, Q, A, cells, slots) => (p, l, e, R, s, m, args, below, meth, c, Q, A, cells + a, slots + b)
def zpush (ix : Nat → Nat) (r : Option Value) (st : List Value) : List Value := match r with
  | none => st
  | some v => zv ix v :: st
theorem zpush_map (ad ix : Nat → Nat) (r : Option Value) (st : List Value) : (r.map (zv (fun j => ad (ix j)))).toList ++ st.map (zv ad) = (zpush ix r st).map (zv ad) := by
  cases r with
  | none => rfl
  | some v => simp [zpush, zv_comp]
/-- a call, as the machine does it, over the callee's world -/
def Zc (M : zM) (G : zG) (cc : ByteArray) (nL : Nat) (own : String) (Ts : List Cond) (ix : Nat → Nat) (awc : List va_E) (stk st : List Value) (pc : Nat) (post : Option Value → List va_E → Prop) : Prop := match M, G with
  | (p, l, e, R, s, m, args, below, meth, c, _, A, cells, slots), (D, cl, tys, ad) => CallFix p m c cc nL s args Ts own → va_K D cl tys s → ∀ (H : Heap) (locs : List Loc) (ls : Array Slot), ls.size = nL → va_P D cl (zw (fun j => ad (ix j)) awc) H → va_D (fun _ => True) (zw (fun j => ad (ix j)) awc) → va_S A s.heap H locs → (∀ q, zA (D, cl, tys, fun j => ad (ix j)) awc H.size q → A q) → va_Run p l e R s m args below meth c H locs cells slots 0 0 (F0 m pc ls (stk.map (zv ad))) (st.map (zv ad)) (zQ (D, cl, tys, fun j => ad (ix j)) awc H.size post #[]) (zA (D, cl, tys, fun j => ad (ix j)) awc H.size)
section ZC
variable {M : zM} {G : zG} {cc : ByteArray} {nL : Nat} {own : String} {Ts : List Cond} {rt : Option FieldType} {aw awc : List va_E} {lv : List (Option Value)} {stk st : List Value} {pc : Nat} {post : Option Value → List va_E → Prop} {ix : Nat → Nat}
theorem z_call (hc : Zc M G cc nL own Ts ix awc stk st pc post) (hin : zIn ix aw awc) (kk : ∀ (r : Option Value) (aw1 awn : List va_E), aw1.length = awc.length → zBk ix aw awc aw1 awn → post r aw1 → Zj M G cc nL own Ts rt awn lv (zpush ix r st) (pc + 3))
    (hex : ∀ aw1 : List va_E, aw1.length = awc.length → ∃ awn, zBk ix aw awc aw1 awn) : Zj M G cc nL own Ts rt aw lv stk pc := by
  obtain ⟨p, l, e, R, s, m, args, below, meth, c, Q, A, cells, slots⟩ := M
  obtain ⟨D, cl, tys, ad⟩ := G
  intro hF H locs ls hP hD hS hl
  obtain ⟨hfix, hr, hlk, hK, hA⟩ := id hF
  have hfree := hin.free (D := D) (cl := cl) (tys := tys) hD hS hA
  have hrun := hc hfix hK H locs ls hl.1 (hin.P hP) ((hin.D hD).weaken (fun _ _ _ _ => trivial)) hS hfree
  intro T hT X
  obtain ⟨v, st₀, t, T', L, h0, X', hL, e1, e2, ⟨⟨r, aw1, hv, hlen, hpo, hP1, hK1, hD1⟩, hz, hk⟩, stp⟩ := hrun T hT X
  cases hv
  rw [h0] at hz hk
  obtain ⟨awn, hbk⟩ := hex aw1 hlen
  have hk' : ∀ q : Nat, q < H.size → ¬ zA (D, cl, tys, fun j => ad (ix j)) awc H.size q → T'.heap[q]? = H[q]? := fun q h1 h2 => by rw [e1]; exact hk q h1 h2
  have hP2 := zBk.P (tys := tys) hin hbk hlen hP hD (by rw [e1]; exact hP1 : va_P D cl (zw (fun j => ad (ix j)) aw1) T'.heap) hk'
  have hz' : H.size ≤ T'.heap.size := by rw [e1]; exact hz
  have hS' : va_S A s.heap T'.heap (locs ++ L) := ⟨Nat.le_trans hS.1 hz', fun q h1 h2 => by
      rw [hk' q (Nat.lt_of_lt_of_le h1 hS.1) (fun z => h2 (hfree q z))]; exact hS.2.1 q h1 h2, fun q hq => by
      rcases List.mem_append.mp hq with h | h
      · exact hS.2.2 q h
      · exact hfree _ (hL q h)⟩
  obtain ⟨t2, a1, b1⟩ := kk r aw1 awn hlen hbk hpo hF T'.heap (locs ++ L) ls hP2 (zD_len hD hbk.1) hS' hl T' rfl X'
  refine ⟨t2, stp t2 ?_, b1⟩
  rw [show (r.map (zv (fun j => ad (ix j)))).toList ++ st.map (zv ad) = (zpush ix r st).map (zv ad) from zpush_map ad ix r st]
  exact a1
/-- the callee has the whole world -/
theorem z_same (hc : Zc M G cc nL own Ts (fun j => j) aw stk st pc post) (kk : ∀ (r : Option Value) (aw1 : List va_E), aw1.length = aw.length → post r aw1 → Zj M G cc nL own Ts rt aw1 lv (zpush (fun j => j) r st) (pc + 3)) : Zj M G cc nL own Ts rt aw lv stk pc := by
  refine z_call hc ⟨fun j e h => by rw [zc_id]; exact h, fun i j _ _ h => h⟩ (fun r aw1 awn hlen hbk hpo => ?_) (fun aw1 hlen => ⟨aw1, hlen, fun j e h => by rw [zc_id]; exact h, fun k hk => ?_⟩)
  · have e9 : awn = aw1 := by
      apply List.ext_getElem?
      intro k
      by_cases h : k < aw1.length
      · have := hbk.2.1 k _ (List.getElem?_eq_getElem h)
        rw [zc_id] at this
        rw [this, List.getElem?_eq_getElem h]
      · have h8 := hbk.1
        rw [List.getElem?_eq_none (by omega), List.getElem?_eq_none (by omega)]
    rw [e9]
    exact kk r aw1 hlen hpo
  · have : ¬ k < aw.length := fun h => hk k h rfl
    rw [List.getElem?_eq_none (by omega), List.getElem?_eq_none (by omega)]
/-- the callee has no world -/
theorem z_pure (hc : Zc M G cc nL own Ts (fun j => j) [] stk st pc post) (kk : ∀ (r : Option Value), post r [] → Zj M G cc nL own Ts rt aw lv (zpush (fun j => j) r st) (pc + 3)) : Zj M G cc nL own Ts rt aw lv stk pc := by
  refine z_call hc ⟨fun j e h => by simp at h, fun i j h => by simp at h⟩ (fun r aw1 awn hlen hbk hpo => ?_) (fun aw1 hlen => ⟨aw, rfl, fun j e h => ?_, fun k hk => rfl⟩)
  · have e1 : aw1 = [] := List.length_eq_zero_iff.mp hlen
    subst e1
    have e9 : awn = aw := List.ext_getElem? (fun k => hbk.2.2 k (fun j h => by simp at h))
    rw [e9]
    exact kk r hpo
  · rw [List.length_eq_zero_iff.mp hlen] at h
    simp at h
end ZC
/-- places of a part -/
def zix (is : List Nat) : Nat → Nat := fun j => is.getD j 0
def zput (ix : Nat → Nat) : List Nat → List va_E → List va_E → List va_E
  | i :: is, aw, e :: es => zput ix is (aw.set i (zc ix e)) es
  | _, aw, _ => aw
theorem zput_len (ix : Nat → Nat) : ∀ (is : List Nat) (aw es : List va_E), (zput ix is aw es).length = aw.length := by
  intro is
  induction is with
  | nil => intro aw es; cases es <;> rfl
  | cons i t ih =>
    intro aw es
    cases es with
    | nil => rfl
    | cons e es => simp only [zput]; rw [ih, List.length_set]
theorem zput_out (ix : Nat → Nat) : ∀ (is : List Nat) (aw es : List va_E) (k : Nat), k ∉ is → (zput ix is aw es)[k]? = aw[k]? := by
  intro is
  induction is with
  | nil => intro aw es k _; cases es <;> rfl
  | cons i t ih =>
    intro aw es k hk
    cases es with
    | nil => rfl
    | cons e es =>
      simp only [zput]
      rw [ih _ _ _ (fun h => hk (List.mem_cons_of_mem _ h)), List.getElem?_set_ne (fun h => hk (by rw [h]; exact List.mem_cons_self))]
theorem zput_in (ix : Nat → Nat) : ∀ (is : List Nat) (aw es : List va_E) (j i : Nat) (e : va_E), is.Nodup → is[j]? = some i → es[j]? = some e → i < aw.length → (zput ix is aw es)[i]? = some (zc ix e) := by
  intro is
  induction is with
  | nil => intro aw es j i e _ h; simp at h
  | cons a t ih =>
    intro aw es j i e hn hi he hl
    cases es with
    | nil => simp at he
    | cons e0 es =>
      simp only [zput]
      cases j with
      | zero =>
        simp at hi he
        subst hi; subst he
        rw [zput_out _ _ _ _ _ (List.nodup_cons.mp hn).1, List.getElem?_set_self hl]
      | succ j => exact ih _ _ j i e (List.nodup_cons.mp hn).2 hi he (by rw [List.length_set]; exact hl)
section ZP
variable {M : zM} {G : zG} {cc : ByteArray} {nL : Nat} {own : String} {Ts : List Cond} {rt : Option FieldType} {aw awc : List va_E} {lv : List (Option Value)} {stk st : List Value} {pc : Nat} {post : Option Value → List va_E → Prop}
theorem zIn_of {is : List Nat} (hn : is.Nodup) (hs : is.map (fun i => aw[i]?) = awc.map (fun e => some (zc (zix is) e))) : zIn (zix is) aw awc := by
  have hl : is.length = awc.length := by have := congrArg List.length hs; simpa using this
  have at1 : ∀ j, j < is.length → is[j]? = some (zix is j) := fun j h => by
    rw [List.getElem?_eq_getElem h]; simp [zix, List.getD_eq_getElem?_getD, List.getElem?_eq_getElem h]
  refine ⟨fun j e h => ?_, fun i j h1 h2 h3 => ?_⟩
  · have hj : j < is.length := by rw [hl]; exact (List.getElem?_eq_some_iff.mp h).1
    have h2 := congrArg (fun l => l[j]?) hs
    simp only [List.getElem?_map, h, at1 j hj, Option.map_some] at h2
    exact Option.some.inj h2
  · have a1 := at1 i (by omega)
    have a2 := at1 j (by omega)
    rw [h3] at a1
    exact (List.getElem?_inj (show i < is.length by omega) hn).mp (a1.trans a2.symm)
theorem z_part (is : List Nat) (hc : Zc M G cc nL own Ts (zix is) awc stk st pc post) (hn : is.Nodup) (hs : is.map (fun i => aw[i]?) = awc.map (fun e => some (zc (zix is) e)))
    (kk : ∀ (r : Option Value) (aw1 : List va_E), aw1.length = awc.length → post r aw1 → Zj M G cc nL own Ts rt (zput (zix is) is aw aw1) lv (zpush (zix is) r st) (pc + 3)) : Zj M G cc nL own Ts rt aw lv stk pc := by
  have hin := zIn_of hn hs
  have hl : is.length = awc.length := by have := congrArg List.length hs; simpa using this
  have at1 : ∀ j, j < is.length → is[j]? = some (zix is j) := fun j h => by
    rw [List.getElem?_eq_getElem h]; simp [zix, List.getD_eq_getElem?_getD, List.getElem?_eq_getElem h]
  have hlt : ∀ j, j < is.length → zix is j < aw.length := fun j h => by
    have h2 := hin.1 j _ (List.getElem?_eq_getElem (by omega : j < awc.length))
    exact (List.getElem?_eq_some_iff.mp h2).1
  have hbk : ∀ aw1 : List va_E, aw1.length = awc.length → zBk (zix is) aw awc aw1 (zput (zix is) is aw aw1) := fun aw1 h1 => by
    refine ⟨zput_len _ _ _ _, fun j e h => ?_, fun k hk => zput_out _ _ _ _ _ (fun h => ?_)⟩
    · have hj : j < is.length := by rw [hl, ← h1]; exact (List.getElem?_eq_some_iff.mp h).1
      exact zput_in _ _ _ _ j _ e hn (at1 j hj) h (hlt j hj)
    · obtain ⟨j, hj⟩ := List.getElem?_of_mem h
      have hjl := (List.getElem?_eq_some_iff.mp hj).1
      rw [at1 j hjl] at hj
      exact hk j (by omega) (Option.some.inj hj)
  refine z_call hc hin (fun r aw1 awn hlen hb hpo => ?_) (fun aw1 hlen => ⟨_, hbk aw1 hlen⟩)
  have h2 := hbk aw1 hlen
  have e9 : awn = zput (zix is) is aw aw1 := by
    apply List.ext_getElem?
    intro k
    by_cases hj : ∃ j, j < awc.length ∧ zix is j = k
    · obtain ⟨j, hj, rfl⟩ := hj
      have hl1 : j < aw1.length := by omega
      rw [hb.2.1 j _ (List.getElem?_eq_getElem hl1), h2.2.1 j _ (List.getElem?_eq_getElem hl1)]
    · have hn : ∀ j : Nat, j < awc.length → zix is j ≠ k := fun j h1 h2 => hj ⟨j, h1, h2⟩
      rw [hb.2.2 k hn, h2.2.2 k hn]
  rw [e9]
  exact kk r aw1 hlen hpo
end ZP
section ZK
variable {M : zM} {G : zG} {cc : ByteArray} {nL : Nat} {own : String} {Ts : List Cond} {awc : List va_E} {stk st : List Value} {pc : Nat} {post : Option Value → List va_E → Prop} {ix : Nat → Nat} {y : MethodName} {ws ws' : List Cond} {rm : Room} {bytes : ByteArray} {maxL index : Nat} {ret : Option FieldType} {C : String} {As : List Value} {b ci : Nat} {fs : List Value} {T : u_T} {N : Nat} {E E' : (Nat → Prop) → State → Prop}
theorem z_blind {G : zG} {aw : List va_E} {As : List Value} {sz : Nat} {E' : (Nat → Prop) → State → Prop} (h : ∀ (A : Nat → Prop) (a : Array Value) (U : State) (g : JFrame) (mk : MethodId), E' A U → E' A (U.calling g mk a)) : FrameBlind (zPc G aw As sz E') := fun a U g mk q => by
  obtain ⟨q0, q1, ⟨qP, qK, qD⟩, qE⟩ := q
  exact ⟨q0, q1, ⟨qP, va_K.moved (u := U) (U := U.calling g mk a) (Vm.Alike.refl U.vm) qK, qD⟩, h _ _ _ _ _ qE⟩
/-- invokevirtual of a method of ours -/
theorem z_V (hE : zEn M E) (hEE : zEok E E') (hM : zMet (zl0 M) y ws rm E' (G.1, G.2.1, G.2.2.1, fun j => G.2.2.2 (ix j)) awc (.ref b :: As) post) (hdg : decode cc pc = .ok (.invokevirtual index, 3)) (hG : GoodIn Ts (wsV own index C y ws)) (hw : ws = Cond.code y bytes maxL ret :: ws')
    (hd : y.cls = C ∧ y.cls ≠ "java/lang/invoke/MethodHandle" ∧ y.cls ≠ "java/lang/invoke/VarHandle" ∧ (parseMethodDescriptor y.desc).map (fun d => d.parameters.length) = some As.length) (hrm : rm.cells = 0 ∧ rm.slots = 0) (hR : rm.frames + 1 ≤ (zroom M).frames ∧ 8 + (maxL + 11) + rm.locals ≤ (zroom M).locals) (hcs : zcells M ≤ (zroom M).cells ∧ zslots M ≤ (zroom M).slots)
    (hstk : stk = ((.ref b :: As).map (zv ix)).reverse ++ st) (hst : (st.map fun v => v.category).sum ≤ 8) (hrecv : awc[b]? = some (.inr (ci, fs))) (hci : G.2.1[ci]? = some (C, T, N)) : Zc M G cc nL own Ts ix awc stk st pc post := by
  obtain ⟨p, l, e, R, s, m, args, below, meth, c, Q, A, cells, slots⟩ := M
  obtain ⟨D, cl, tys, ad⟩ := G
  intro hfix hK H locs ls hls hP hD hS hfree
  subst hstk
  refine va_runV (b := ad (ix b)) (As := As.map (zv (fun j => ad (ix j)))) hfix (hM H.size) (cwV As.length hfix.2.2.2.2 hG hw hrm.1 hrm.2 hd hR) ⟨z_blind hEE.2, va_recv hK hP hci (zw_get hrecv), fun U hU hW => ⟨rfl, by rw [hU], ⟨by rw [hU]; exact hP, va_K.moved hW.alike hK, hD⟩, hEE.1 A _ s U locs hE (by rw [hU]; exact hS) hfree hW⟩⟩ rfl (by simp) hls ?_ ?_ hdg hcs
  · simp only [F0, List.map_append, List.map_reverse, List.map_map, List.map_cons, List.reverse_cons, List.append_assoc, List.cons_append, List.nil_append]
    congr 2
    · congr 1
      funext v
      exact (zv_comp ad ix v).symm
  · rw [zv_cats]
    show 2 * 0 + _ ≤ 8
    omega
/-- invokestatic of a method of ours, of any class -/
theorem z_S (hE : zEn M E) (hEE : zEok E E') (hM : zMet (zl0 M) y ws rm E' (G.1, G.2.1, G.2.2.1, fun j => G.2.2.2 (ix j)) awc As post) (hdg : decode cc pc = .ok (.invokestatic index, 3)) (hG : GoodIn Ts (va_wsS own index y ws)) (hw : ws = Cond.code y bytes maxL ret :: ws')
    (hd : y.cls ≠ "java/lang/invoke/MethodHandle" ∧ y.cls ≠ "java/lang/invoke/VarHandle" ∧ (parseMethodDescriptor y.desc).map (fun d => d.parameters.length) = some As.length) (hrm : rm.cells = 0 ∧ rm.slots = 0) (hR : rm.frames + 1 ≤ (zroom M).frames ∧ 8 + (maxL + 11) + rm.locals ≤ (zroom M).locals) (hcs : zcells M ≤ (zroom M).cells ∧ zslots M ≤ (zroom M).slots)
    (hstk : stk = (As.map (zv ix)).reverse ++ st) (hst : (st.map fun v => v.category).sum ≤ 8) : Zc M G cc nL own Ts ix awc stk st pc post := by
  obtain ⟨p, l, e, R, s, m, args, below, meth, c, Q, A, cells, slots⟩ := M
  obtain ⟨D, cl, tys, ad⟩ := G
  intro hfix hK H locs ls hls hP hD hS hfree
  subst hstk
  refine va_runS (As := As.map (zv (fun j => ad (ix j)))) hfix (hM H.size) (va_cwS As.length hfix.2.2.2.2 hG hw hrm.1 hrm.2 hd hR) ⟨z_blind hEE.2, fun U hU hW => ⟨rfl, by rw [hU], ⟨by rw [hU]; exact hP, va_K.moved hW.alike hK, hD⟩, hEE.1 A _ s U locs hE (by rw [hU]; exact hS) hfree hW⟩⟩ rfl (by simp) hls ?_ ?_ hdg hcs
  · simp only [F0, List.map_append, List.map_reverse, List.map_map]
    congr 2
    apply List.map_congr_left
    intro v _
    exact (zv_comp ad ix v).symm
  · rw [zv_cats]
    show 2 * 0 + _ ≤ 8
    omega
/-- invokestatic of a nest mate's private method -/
theorem z_SN {host : String} (hE : zEn M E) (hEE : zEok E E') (hnest : va_Nw (.methodLinkNest own index y host) M.2.2.2.2.1) (hM : zMet (zl0 M) y ws rm E' (G.1, G.2.1, G.2.2.1, fun j => G.2.2.2 (ix j)) awc As post) (hdg : decode cc pc = .ok (.invokestatic index, 3)) (hG : GoodIn Ts ws) (hsta : Cond.static y ∈ Ts) (hini : Cond.initialized y.cls ∈ Ts) (hw : ws = Cond.code y bytes maxL ret :: ws')
    (hd : y.cls ≠ "java/lang/invoke/MethodHandle" ∧ y.cls ≠ "java/lang/invoke/VarHandle" ∧ (parseMethodDescriptor y.desc).map (fun d => d.parameters.length) = some As.length) (hrm : rm.cells = 0 ∧ rm.slots = 0) (hR : rm.frames + 1 ≤ (zroom M).frames ∧ 8 + (maxL + 11) + rm.locals ≤ (zroom M).locals) (hcs : zcells M ≤ (zroom M).cells ∧ zslots M ≤ (zroom M).slots)
    (hstk : stk = (As.map (zv ix)).reverse ++ st) (hst : (st.map fun v => v.category).sum ≤ 8) : Zc M G cc nL own Ts ix awc stk st pc post := by
  obtain ⟨p, l, e, R, s, m, args, below, meth, c, Q, A, cells, slots⟩ := M
  obtain ⟨D, cl, tys, ad⟩ := G
  intro hfix hK H locs ls hls hP hD hS hfree
  subst hstk
  refine va_runSN (As := As.map (zv (fun j => ad (ix j)))) hfix (hM H.size) ⟨va_cnB As.length hfix.2.2.2.2 hG hw hrm.1 hrm.2 hnest (hfix.2.2.2.2 _ hini) hd hR, hfix.2.2.2.2 _ hsta, trivial⟩ ⟨z_blind hEE.2, fun U hU hW => ⟨rfl, by rw [hU], ⟨by rw [hU]; exact hP, va_K.moved hW.alike hK, hD⟩, hEE.1 A _ s U locs hE (by rw [hU]; exact hS) hfree hW⟩⟩ rfl (by simp) hls ?_ ?_ hdg hcs
  · simp only [F0, List.map_append, List.map_reverse, List.map_map]
    congr 2
    apply List.map_congr_left
    intro v _
    exact (zv_comp ad ix v).symm
  · rw [zv_cats]
    show 2 * 0 + _ ≤ 8
    omega
end ZK
end
section
/-! throws: the environment, 'throw new E("..")', calls of what may throw -/
/-- what a throw, or a call across a nest, needs beside its words: two statics of Throwable, the texts ss, nest links nn, declared constructors dd, casts cs -/
def zEv (ss : List (String × Nat × String × Nat)) (nn : List (String × Nat × MethodName × String)) (dd : List MethodName) (cs : List (String × String)) : (Nat → Prop) → State → Prop := fun A U => (vx_Zq Bundle.tN "UNASSIGNED_STACK" Bundle.steD A U U.heap ∧ vx_Zq Bundle.tN "SUPPRESSED_SENTINEL" Bundle.listD A U U.heap) ∧ (∀ q ∈ ss, vk_R q.1 q.2.1 q.2.2.1 q.2.2.2 U) ∧ (∀ q ∈ nn, va_Nw (.methodLinkNest q.1 q.2.1 q.2.2.1 q.2.2.2) U) ∧ (∀ x ∈ dd, va_Nw (.declares x) U) ∧ ∀ q ∈ cs, va_Nw (.castable q.1 q.2) U
theorem zEok_ev (ss : List (String × Nat × String × Nat)) (nn : List (String × Nat × MethodName × String)) (dd : List MethodName) (cs : List (String × String)) : zEok (zEv ss nn dd cs) (zEv ss nn dd cs) := by
  refine ⟨fun A A' s U locs h hS hA hW => ?_, fun A a U g mk h => ?_⟩
  · obtain ⟨⟨h1, h2⟩, h3, h4, h5, h6⟩ := h
    exact ⟨⟨((vx_Zq.moved hW.alike (h1.kept hS.2.1)).narrow hA), ((vx_Zq.moved hW.alike (h2.kept hS.2.1)).narrow hA)⟩, fun q hq => vk_R.warm hW (h3 q hq), fun q hq => va_Nw.warmM hW (h4 q hq), fun x hx => va_Nw.warmD hW (h5 x hx), fun q hq => va_Nw.warmC hW (h6 q hq)⟩
  · obtain ⟨⟨h1, h2⟩, h3, h4, h5, h6⟩ := h
    exact ⟨⟨vx_Zq.moved (Vm.Alike.refl U.vm) h1, vx_Zq.moved (Vm.Alike.refl U.vm) h2⟩, fun q hq => vk_R.same rfl (h3 q hq), fun q hq => va_Nw.same (u := U) rfl rfl (h4 q hq), fun x hx => va_Nw.same (u := U) rfl rfl (h5 x hx), fun q hq => va_Nw.same (u := U) rfl rfl (h6 q hq)⟩
def zNg (dd : List MethodName) (cs : List (String × String)) : List Cond := dd.map Cond.declares ++ cs.map (fun q => Cond.castable q.1 q.2)
theorem zNg_use {dd : List MethodName} {cs : List (String × String)} {U : State} {args : Array Value} (h5 : ∀ x ∈ dd, va_Nw (.declares x) U) (h6 : ∀ q ∈ cs, va_Nw (.castable q.1 q.2) U) : ∀ w ∈ zNg dd cs, w.before args U = true := by
  intro w hw
  rcases List.mem_append.mp hw with h | h
  · obtain ⟨x, hx, rfl⟩ := List.mem_map.mp h
    exact va_Nw.use rfl (h5 x hx)
  · obtain ⟨q, hq, rfl⟩ := List.mem_map.mp h
    exact va_Nw.use rfl (h6 q hq)
theorem zup_room (M : zM) (a b : Nat) : zroom (zup M a b) = zroom M := by obtain ⟨p, l, e, R, s, m, args, below, meth, c, Q, A, cells, slots⟩ := M; rfl
theorem zup_cells (M : zM) (a b : Nat) : zcells (zup M a b) = zcells M + a := by obtain ⟨p, l, e, R, s, m, args, below, meth, c, Q, A, cells, slots⟩ := M; rfl
theorem zup_slots (M : zM) (a b : Nat) : zslots (zup M a b) = zslots M + b := by obtain ⟨p, l, e, R, s, m, args, below, meth, c, Q, A, cells, slots⟩ := M; rfl
theorem zup_l0 (M : zM) (a b : Nat) : zl0 (zup M a b) = zl0 M := by obtain ⟨p, l, e, R, s, m, args, below, meth, c, Q, A, cells, slots⟩ := M; rfl
theorem zup_En {M : zM} {a b : Nat} {E : (Nat → Prop) → State → Prop} (h : zEn M E) : zEn (zup M a b) E := by obtain ⟨p, l, e, R, s, m, args, below, meth, c, Q, A, cells, slots⟩ := M; exact h
theorem zup_RetX {M : zM} {G : zG} {aw0 : List va_E} {post : Option Value → List va_E → Prop} {px : String → Prop} {mc ms a b : Nat} (h : zRetX M G aw0 post px mc ms) : zRetX (zup M a b) G aw0 post px mc ms := by obtain ⟨p, l, e, R, s, m, args, below, meth, c, Q, A, cells, slots⟩ := M; exact h
section ZT
variable {M : zM} {G : zG} {cc : ByteArray} {nL : Nat} {own : String} {Ts : List Cond} {rt : Option FieldType} {aw : List va_E} {lv : List (Option Value)} {st : List Value} {pc mc ms : Nat} {post : Option Value → List va_E → Prop} {px : String → Prop}
theorem z_throw {cls text : String} {names : List String} {ik is ic sa : Nat} {ss : List (String × Nat × String × Nat)} {nn : List (String × Nat × MethodName × String)} {dd : List MethodName} {cs : List (String × String)} (hl9 : (zl0 M).stackTraces = false) (hX : zRetX M G aw post px mc ms) (hE : zEn M (zEv ss nn dd cs)) (hpx : px cls)
    (d0 : decode cc pc = .ok (.new ik, 3)) (d3 : decode cc (pc + 3) = .ok (.dup, 1)) (d4 : decode cc (pc + 4) = .ok (.ldc is, 2)) (d6 : decode cc (pc + 6) = .ok (.invokespecial ic, 3)) (d9 : decode cc (pc + 9) = .ok (.athrow, 1))
    (hss : (own, is, text, sa) ∈ ss) (h1 : Bundle.fit cls = true) (h2 : ∀ n ∈ names, Bundle.fit n = true) (hk : Cond.classLink own ik cls ∈ Ts) (hini : Cond.initialized cls ∈ Ts)
    (hg : ∀ w ∈ (vx_atS own ic cls names).filter goodWord, w ∈ Ts) (hn : ∀ w ∈ (vx_atS own ic cls names).filter (fun w => !goodWord w), w ∈ zNg dd cs) (hgood : ∀ w ∈ Cond.classLink own ik cls :: Cond.initialized cls :: vx_atS own ic cls names, vx_ot w = true)
    (hR : names.length + 3 < (zroom M).frames ∧ (st.map fun v => v.category).sum + (13 * (names.length + 1) + 43) ≤ (zroom M).locals) (hcs : zcells M + 1 ≤ (zroom M).cells ∧ zslots M + 6 ≤ (zroom M).slots) (hc : zcells M + 1 ≤ mc ∧ zslots M + 6 ≤ ms) : Zj M G cc nL own Ts rt aw lv st pc := by
  obtain ⟨p, l, e, R, s, m, args, below, meth, c, Q, A, cells, slots⟩ := M
  obtain ⟨D, cl, tys, ad⟩ := G
  intro hF H locs ls hP hD hS hl
  obtain ⟨⟨hx, hb, hml, hown, hts⟩, hr, hlk, hK, hA⟩ := hF
  obtain ⟨htab, sz, rfl, rfl⟩ := hX
  have hat : ∀ w ∈ vx_atS own ic cls names, w.before args s = true := fun w hw => by
    by_cases hgw : goodWord w = true
    · exact hts w (hg w (List.mem_filter.mpr ⟨hw, hgw⟩))
    · exact zNg_use hE.2.2.2.1 hE.2.2.2.2 w (hn w (List.mem_filter.mpr ⟨hw, by simpa using hgw⟩))
  exact vx_throwS hx hb hl9 hown h1 h2 (hts _ hk) (hts _ hini) (hE.2.1 _ hss) hat hgood hE.1.1 hE.1.2 hS (hl.1.trans hml.symm) d0 d3 d4 d6 d9 (fun x hx => (htab x hx).elim) hR.1 (by rw [zv_cats]; exact hR.2) hcs.1 hcs.2 hlk
    (fun t ha hsz hk => ⟨hpx, ⟨hP.kept (fun k q hq => hk q.1 (hP k q hq).lt), va_K.moved ha hK, hD⟩, Nat.le_trans hS.1 hsz, fun q h1 h2 => (hk q (Nat.lt_of_lt_of_le h1 hS.1)).trans (hS.2.1 q h1 h2)⟩) hS.2.2 hc.1 hc.2
end ZT
/-- a call of what may throw -/
def Zcx (M : zM) (G : zG) (cc : ByteArray) (nL : Nat) (own : String) (Ts : List Cond) (ix : Nat → Nat) (awc : List va_E) (stk st : List Value) (pc : Nat) (post : Option Value → List va_E → Prop) (px : String → Prop) (mc ms : Nat) : Prop := match M, G with
  | (p, l, e, R, s, m, args, below, meth, c, _, A, cells, slots), (D, cl, tys, ad) => CallFix p m c cc nL s args Ts own → va_K D cl tys s → ∀ (H : Heap) (locs : List Loc) (ls : Array Slot), ls.size = nL → va_P D cl (zw (fun j => ad (ix j)) awc) H → va_D (fun _ => True) (zw (fun j => ad (ix j)) awc) → va_S A s.heap H locs → (∀ q, zA (D, cl, tys, fun j => ad (ix j)) awc H.size q → A q) → vx_Run p l e R s m args below meth c H locs cells slots mc ms (F0 m pc ls (stk.map (zv ad))) (st.map (zv ad)) (zQ (D, cl, tys, fun j => ad (ix j)) awc H.size post #[]) (zXC (D, cl, tys, fun j => ad (ix j)) awc H.size px) (zA (D, cl, tys, fun j => ad (ix j)) awc H.size)
section ZX
variable {M : zM} {G : zG} {cc : ByteArray} {nL : Nat} {own : String} {Ts : List Cond} {rt : Option FieldType} {aw awc : List va_E} {lv : List (Option Value)} {stk st : List Value} {pc mc ms mcM msM : Nat} {post postM : Option Value → List va_E → Prop} {px pxM : String → Prop} {ix : Nat → Nat}
/-- what is thrown goes on to the caller -/
theorem zx_call (hc : Zcx M G cc nL own Ts ix awc stk st pc post px mc ms) (hin : zIn ix aw awc) (hX : zRetX M G aw postM pxM mcM msM) (hpx : ∀ E, px E → pxM E) (hcs : zcells M + mc ≤ mcM ∧ zslots M + ms ≤ msM)
    (kk : ∀ (r : Option Value) (aw1 awn : List va_E), aw1.length = awc.length → zBk ix aw awc aw1 awn → post r aw1 → Zj (zup M mc ms) G cc nL own Ts rt awn lv (zpush ix r st) (pc + 3))
    (hex : ∀ aw1 : List va_E, aw1.length = awc.length → ∃ awn, zBk ix aw awc aw1 awn) : Zj M G cc nL own Ts rt aw lv stk pc := by
  obtain ⟨p, l, e, R, s, m, args, below, meth, c, Q, A, cells, slots⟩ := M
  obtain ⟨D, cl, tys, ad⟩ := G
  intro hF H locs ls hP hD hS hl
  obtain ⟨hfix, hr, hlk, hK, hA⟩ := id hF
  have hfree := hin.free (D := D) (cl := cl) (tys := tys) hD hS hA
  have hrun := hc hfix hK H locs ls hl.1 (hin.P hP) ((hin.D hD).weaken (fun _ _ _ _ => trivial)) hS hfree
  intro T hT X
  rcases hrun T hT X with ⟨v, st₀, t, T', L, h0, X', hL, e1, e2, ⟨⟨r, aw1, hv, hlen, hpo, hP1, hK1, hD1⟩, hz, hk⟩, stp⟩ | ⟨q, st₀, t, T', L, E, ce, h0, X', hL, e1, e2, ⟨hpE, ⟨hP1, hK1, hD1⟩, hz, hk⟩, hce, hcv, hcl, stp⟩
  · cases hv
    rw [h0] at hz hk
    obtain ⟨awn, hbk⟩ := hex aw1 hlen
    have hk' : ∀ q : Nat, q < H.size → ¬ zA (D, cl, tys, fun j => ad (ix j)) awc H.size q → T'.heap[q]? = H[q]? := fun q h1 h2 => by rw [e1]; exact hk q h1 h2
    have hP2 := zBk.P (tys := tys) hin hbk hlen hP hD (by rw [e1]; exact hP1 : va_P D cl (zw (fun j => ad (ix j)) aw1) T'.heap) hk'
    have hz' : H.size ≤ T'.heap.size := by rw [e1]; exact hz
    have hS' : va_S A s.heap T'.heap (locs ++ L) := ⟨Nat.le_trans hS.1 hz', fun q h1 h2 => by
        rw [hk' q (Nat.lt_of_lt_of_le h1 hS.1) (fun z => h2 (hfree q z))]; exact hS.2.1 q h1 h2, fun q hq => by
        rcases List.mem_append.mp hq with h | h
        · exact hS.2.2 q h
        · exact hfree _ (hL q h)⟩
    obtain ⟨t2, a1, b1⟩ := kk r aw1 awn hlen hbk hpo hF T'.heap (locs ++ L) ls hP2 (zD_len hD hbk.1) hS' hl T' rfl X'
    refine ⟨t2, stp t2 ?_, b1⟩
    rw [show (r.map (zv (fun j => ad (ix j)))).toList ++ st.map (zv ad) = (zpush ix r st).map (zv ad) from zpush_map ad ix r st]
    exact a1
  · rw [h0] at hz hk
    obtain ⟨htab, sz, rfl, rfl⟩ := hX
    have hk' : ∀ q : Nat, q < H.size → ¬ zA (D, cl, tys, fun j => ad (ix j)) awc H.size q → T'.heap[q]? = H[q]? := fun q h1 h2 => by rw [e1]; exact hk q h1 h2
    have hP2 := zBk.P (tys := tys) (aw1 := awc) (awn := aw) hin ⟨rfl, hin.1, fun _ _ => rfl⟩ rfl hP hD (by rw [e1]; exact hP1 : va_P D cl (zw (fun j => ad (ix j)) awc) T'.heap) hk'
    have hz' : H.size ≤ T'.heap.size := by rw [e1]; exact hz
    have hS' : va_S (zA (D, cl, tys, ad) aw sz) s.heap T'.heap (locs ++ L) := ⟨Nat.le_trans hS.1 hz', fun q h1 h2 => by
        rw [hk' q (Nat.lt_of_lt_of_le h1 hS.1) (fun z => h2 (hfree q z))]; exact hS.2.1 q h1 h2, fun q hq => by
        rcases List.mem_append.mp hq with h | h
        · exact hS.2.2 q h
        · exact hfree _ (hL q h)⟩
    obtain ⟨t2, a1, b1⟩ := vx_out (p := p) (l := l) (e := e) (R := R) (m := m) (args := args) (below := below) (pc := pc) (ls := ls) (rest := st.map (zv ad)) (Qc := zQ (D, cl, tys, ad) aw sz postM) (XC := zXC (D, cl, tys, ad) aw sz pxM) (free := zA (D, cl, tys, ad) aw sz) (E := E) (ce := ce) (q := q) (fun x hx => (htab x hx).elim) hlk (H := T'.heap) (by rw [e1]; exact hce) hcv hcl
      (fun t9 ht9 ha9 => ⟨hpx E hpE, ⟨by rw [ht9]; exact hP2, va_K.moved ha9 hK, hD⟩, hS'.F ht9⟩) hS'.2.2 hcs.1 hcs.2 T' rfl X'
    exact ⟨t2, stp.trans a1, b1⟩
theorem zx_same (hc : Zcx M G cc nL own Ts (fun j => j) aw stk st pc post px mc ms) (hX : zRetX M G aw postM pxM mcM msM) (hpx : ∀ E, px E → pxM E) (hcs : zcells M + mc ≤ mcM ∧ zslots M + ms ≤ msM) (kk : ∀ (r : Option Value) (aw1 : List va_E), aw1.length = aw.length → post r aw1 → Zj (zup M mc ms) G cc nL own Ts rt aw1 lv (zpush (fun j => j) r st) (pc + 3)) : Zj M G cc nL own Ts rt aw lv stk pc := by
  refine zx_call hc ⟨fun j e h => by rw [zc_id]; exact h, fun i j _ _ h => h⟩ hX hpx hcs (fun r aw1 awn hlen hbk hpo => ?_) (fun aw1 hlen => ⟨aw1, hlen, fun j e h => by rw [zc_id]; exact h, fun k hk => ?_⟩)
  · have e9 : awn = aw1 := by
      apply List.ext_getElem?
      intro k
      by_cases h : k < aw1.length
      · have := hbk.2.1 k _ (List.getElem?_eq_getElem h)
        rw [zc_id] at this
        rw [this, List.getElem?_eq_getElem h]
      · have h8 := hbk.1
        rw [List.getElem?_eq_none (by omega), List.getElem?_eq_none (by omega)]
    rw [e9]
    exact kk r aw1 hlen hpo
  · have : ¬ k < aw.length := fun h => hk k h rfl
    rw [List.getElem?_eq_none (by omega), List.getElem?_eq_none (by omega)]
end ZX
section ZXK
variable {M : zM} {G : zG} {cc : ByteArray} {nL : Nat} {own : String} {Ts : List Cond} {awc : List va_E} {stk st : List Value} {pc mc ms : Nat} {post : Option Value → List va_E → Prop} {px : String → Prop} {ix : Nat → Nat} {y : MethodName} {ws ws' : List Cond} {rm : Room} {bytes : ByteArray} {maxL index : Nat} {ret : Option FieldType} {C : String} {As : List Value} {b ci : Nat} {fs : List Value} {T : u_T} {N : Nat} {E E' : (Nat → Prop) → State → Prop}
theorem zx_V (hE : zEn M E) (hEE : zEok E E') (hM : zXet (zl0 M) y ws rm mc ms E' (G.1, G.2.1, G.2.2.1, fun j => G.2.2.2 (ix j)) awc (.ref b :: As) post px) (hdg : decode cc pc = .ok (.invokevirtual index, 3)) (hG : GoodIn Ts (wsV own index C y ws)) (hw : ws = Cond.code y bytes maxL ret :: ws')
    (hd : y.cls = C ∧ y.cls ≠ "java/lang/invoke/MethodHandle" ∧ y.cls ≠ "java/lang/invoke/VarHandle" ∧ (parseMethodDescriptor y.desc).map (fun d => d.parameters.length) = some As.length) (hrm : rm.cells = mc ∧ rm.slots = ms) (hR : rm.frames + 1 ≤ (zroom M).frames ∧ 8 + (maxL + 11) + rm.locals ≤ (zroom M).locals) (hcs : zcells M + mc ≤ (zroom M).cells ∧ zslots M + ms ≤ (zroom M).slots)
    (hstk : stk = ((.ref b :: As).map (zv ix)).reverse ++ st) (hst : (st.map fun v => v.category).sum ≤ 8) (hrecv : awc[b]? = some (.inr (ci, fs))) (hci : G.2.1[ci]? = some (C, T, N)) : Zcx M G cc nL own Ts ix awc stk st pc post px mc ms := by
  obtain ⟨p, l, e, R, s, m, args, below, meth, c, Q, A, cells, slots⟩ := M
  obtain ⟨D, cl, tys, ad⟩ := G
  intro hfix hK H locs ls hls hP hD hS hfree
  subst hstk
  refine vx_runV (b := ad (ix b)) (As := As.map (zv (fun j => ad (ix j)))) hfix (hM H.size) (cwV As.length hfix.2.2.2.2 hG hw hrm.1 hrm.2 hd hR) ⟨z_blind hEE.2, va_recv hK hP hci (zw_get hrecv), fun U hU hW => ⟨rfl, by rw [hU], ⟨by rw [hU]; exact hP, va_K.moved hW.alike hK, hD⟩, hEE.1 A _ s U locs hE (by rw [hU]; exact hS) hfree hW⟩⟩ rfl (by simp) hls ?_ ?_ hdg hcs
  · simp only [F0, List.map_append, List.map_reverse, List.map_map, List.map_cons, List.reverse_cons, List.append_assoc, List.cons_append, List.nil_append]
    congr 2
    · congr 1
      funext v
      exact (zv_comp ad ix v).symm
  · rw [zv_cats]
    show 2 * 0 + _ ≤ 8
    omega
end ZXK
end
