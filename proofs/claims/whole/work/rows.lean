section
-- ===== PART A: goes FIRST, ahead of the names: the tables' words, and 'selects' of the private methods out of them =====
/-- a private method of a class that the tables say can be made, by its rows of tables_1 -/
def lw_okq (q : MethodName × Nat) : Prop := (q.1.cls ≠ "java/lang/invoke/MethodHandle" ∧ q.1.cls ≠ "java/lang/invoke/VarHandle") ∧ Cond.instantiable q.1.cls q.2 ∈ tables_1 ∧ Cond.privateMethod q.1 ∈ tables_1 ∧ Cond.instanceMethod q.1 ∈ tables_1
theorem lw_p0 : lw_okq (⟨"ToneMixer", "firstAreOfOneSize", "(I)Z"⟩, 1) := ⟨⟨by decide +kernel, by decide +kernel⟩, List.mem_of_getElem? (i := 13) (by decide +kernel), List.mem_of_getElem? (i := 53) (by decide +kernel), List.mem_of_getElem? (i := 54) (by decide +kernel)⟩
theorem lw_p1 : lw_okq (⟨"ToneMixer", "mixPlace", "(II)V"⟩, 1) := ⟨⟨by decide +kernel, by decide +kernel⟩, List.mem_of_getElem? (i := 13) (by decide +kernel), List.mem_of_getElem? (i := 64) (by decide +kernel), List.mem_of_getElem? (i := 65) (by decide +kernel)⟩
theorem lw_p2 : lw_okq (⟨"ToneMixer", "open", "(I)V"⟩, 1) := ⟨⟨by decide +kernel, by decide +kernel⟩, List.mem_of_getElem? (i := 13) (by decide +kernel), List.mem_of_getElem? (i := 68) (by decide +kernel), List.mem_of_getElem? (i := 69) (by decide +kernel)⟩
theorem lw_p3 : lw_okq (⟨"ToneMixer", "setColours", "(IIII)V"⟩, 1) := ⟨⟨by decide +kernel, by decide +kernel⟩, List.mem_of_getElem? (i := 13) (by decide +kernel), List.mem_of_getElem? (i := 88) (by decide +kernel), List.mem_of_getElem? (i := 89) (by decide +kernel)⟩
theorem lw_p4 : lw_okq (⟨"ToneMixer", "close", "(I)V"⟩, 1) := ⟨⟨by decide +kernel, by decide +kernel⟩, List.mem_of_getElem? (i := 13) (by decide +kernel), List.mem_of_getElem? (i := 92) (by decide +kernel), List.mem_of_getElem? (i := 93) (by decide +kernel)⟩
theorem lw_p5 : lw_okq (⟨"ToneMixer", "invert", "(I)V"⟩, 1) := ⟨⟨by decide +kernel, by decide +kernel⟩, List.mem_of_getElem? (i := 13) (by decide +kernel), List.mem_of_getElem? (i := 101) (by decide +kernel), List.mem_of_getElem? (i := 102) (by decide +kernel)⟩
theorem lw_p6 : lw_okq (⟨"ToneMixer", "darken", "(I)V"⟩, 1) := ⟨⟨by decide +kernel, by decide +kernel⟩, List.mem_of_getElem? (i := 13) (by decide +kernel), List.mem_of_getElem? (i := 105) (by decide +kernel), List.mem_of_getElem? (i := 106) (by decide +kernel)⟩
theorem lw_p7 : lw_okq (⟨"ToneMixer", "grey", "(I)V"⟩, 1) := ⟨⟨by decide +kernel, by decide +kernel⟩, List.mem_of_getElem? (i := 13) (by decide +kernel), List.mem_of_getElem? (i := 112) (by decide +kernel), List.mem_of_getElem? (i := 113) (by decide +kernel)⟩
theorem lw_p8 : lw_okq (⟨"ToneMixer", "planeOf", "(I)LToneMixer$Plane;"⟩, 1) := ⟨⟨by decide +kernel, by decide +kernel⟩, List.mem_of_getElem? (i := 13) (by decide +kernel), List.mem_of_getElem? (i := 125) (by decide +kernel), List.mem_of_getElem? (i := 126) (by decide +kernel)⟩
theorem lw_p9 : lw_okq (⟨"java/lang/Throwable", "fillInStackTrace", "(I)Ljava/lang/Throwable;"⟩, 6) := ⟨⟨by decide +kernel, by decide +kernel⟩, List.mem_of_getElem? (i := 166) (by decide +kernel), List.mem_of_getElem? (i := 164) (by decide +kernel), List.mem_of_getElem? (i := 165) (by decide +kernel)⟩
theorem lw_p10 : lw_okq (⟨"ToneMixer", "planeWith", "(III)LToneMixer$Plane;"⟩, 1) := ⟨⟨by decide +kernel, by decide +kernel⟩, List.mem_of_getElem? (i := 13) (by decide +kernel), List.mem_of_getElem? (i := 226) (by decide +kernel), List.mem_of_getElem? (i := 227) (by decide +kernel)⟩
theorem lw_p11 : lw_okq (⟨"ToneMixer$Plane", "growLine", "(IIIZ)V"⟩, 4) := ⟨⟨by decide +kernel, by decide +kernel⟩, List.mem_of_getElem? (i := 22) (by decide +kernel), List.mem_of_getElem? (i := 258) (by decide +kernel), List.mem_of_getElem? (i := 259) (by decide +kernel)⟩
theorem lw_p12 : lw_okq (⟨"ToneMixer$Plane", "shrinkLine", "(III)V"⟩, 4) := ⟨⟨by decide +kernel, by decide +kernel⟩, List.mem_of_getElem? (i := 22) (by decide +kernel), List.mem_of_getElem? (i := 277) (by decide +kernel), List.mem_of_getElem? (i := 278) (by decide +kernel)⟩
theorem lw_p13 : lw_okq (⟨"ToneMixer$Plane", "sumOfFour", "(II)I"⟩, 4) := ⟨⟨by decide +kernel, by decide +kernel⟩, List.mem_of_getElem? (i := 22) (by decide +kernel), List.mem_of_getElem? (i := 293) (by decide +kernel), List.mem_of_getElem? (i := 294) (by decide +kernel)⟩
theorem lw_p14 : lw_okq (⟨"ToneMixerModel", "goes", "(ZZ)Z"⟩, 7) := ⟨⟨by decide +kernel, by decide +kernel⟩, List.mem_of_getElem? (i := 381) (by decide +kernel), List.mem_of_getElem? (i := 423) (by decide +kernel), List.mem_of_getElem? (i := 424) (by decide +kernel)⟩
theorem lw_p15 : lw_okq (⟨"ToneMixerModel", "isSample", "(III)Z"⟩, 7) := ⟨⟨by decide +kernel, by decide +kernel⟩, List.mem_of_getElem? (i := 381) (by decide +kernel), List.mem_of_getElem? (i := 431) (by decide +kernel), List.mem_of_getElem? (i := 432) (by decide +kernel)⟩
def lw_privs_1 : List (MethodName × Nat) := [(⟨"ToneMixer", "firstAreOfOneSize", "(I)Z"⟩, 1), (⟨"ToneMixer", "mixPlace", "(II)V"⟩, 1), (⟨"ToneMixer", "open", "(I)V"⟩, 1), (⟨"ToneMixer", "setColours", "(IIII)V"⟩, 1), (⟨"ToneMixer", "close", "(I)V"⟩, 1), (⟨"ToneMixer", "invert", "(I)V"⟩, 1), (⟨"ToneMixer", "darken", "(I)V"⟩, 1), (⟨"ToneMixer", "grey", "(I)V"⟩, 1), (⟨"ToneMixer", "planeOf", "(I)LToneMixer$Plane;"⟩, 1), (⟨"java/lang/Throwable", "fillInStackTrace", "(I)Ljava/lang/Throwable;"⟩, 6), (⟨"ToneMixer", "planeWith", "(III)LToneMixer$Plane;"⟩, 1), (⟨"ToneMixer$Plane", "growLine", "(IIIZ)V"⟩, 4), (⟨"ToneMixer$Plane", "shrinkLine", "(III)V"⟩, 4), (⟨"ToneMixer$Plane", "sumOfFour", "(II)I"⟩, 4), (⟨"ToneMixerModel", "goes", "(ZZ)Z"⟩, 7), (⟨"ToneMixerModel", "isSample", "(III)Z"⟩, 7)]
theorem lw_r1 : ∀ q ∈ lw_privs_1, lw_okq q := List.forall_mem_cons.mpr ⟨lw_p0, List.forall_mem_cons.mpr ⟨lw_p1, List.forall_mem_cons.mpr ⟨lw_p2, List.forall_mem_cons.mpr ⟨lw_p3, List.forall_mem_cons.mpr ⟨lw_p4, List.forall_mem_cons.mpr ⟨lw_p5, List.forall_mem_cons.mpr ⟨lw_p6, List.forall_mem_cons.mpr ⟨lw_p7, List.forall_mem_cons.mpr ⟨lw_p8, List.forall_mem_cons.mpr ⟨lw_p9, List.forall_mem_cons.mpr ⟨lw_p10, List.forall_mem_cons.mpr ⟨lw_p11, List.forall_mem_cons.mpr ⟨lw_p12, List.forall_mem_cons.mpr ⟨lw_p13, List.forall_mem_cons.mpr ⟨lw_p14, List.forall_mem_cons.mpr ⟨lw_p15, fun _ h => absurd h List.not_mem_nil⟩⟩⟩⟩⟩⟩⟩⟩⟩⟩⟩⟩⟩⟩⟩⟩
theorem lw_p16 : lw_okq (⟨"ToneMixerModel", "across", "(IZ)V"⟩, 7) := ⟨⟨by decide +kernel, by decide +kernel⟩, List.mem_of_getElem? (i := 381) (by decide +kernel), List.mem_of_getElem? (i := 447) (by decide +kernel), List.mem_of_getElem? (i := 448) (by decide +kernel)⟩
theorem lw_p17 : lw_okq (⟨"ToneMixerModel", "keep", "(I)V"⟩, 7) := ⟨⟨by decide +kernel, by decide +kernel⟩, List.mem_of_getElem? (i := 381) (by decide +kernel), List.mem_of_getElem? (i := 451) (by decide +kernel), List.mem_of_getElem? (i := 452) (by decide +kernel)⟩
theorem lw_p18 : lw_okq (⟨"ToneMixerModel", "was", "(II)I"⟩, 7) := ⟨⟨by decide +kernel, by decide +kernel⟩, List.mem_of_getElem? (i := 381) (by decide +kernel), List.mem_of_getElem? (i := 455) (by decide +kernel), List.mem_of_getElem? (i := 456) (by decide +kernel)⟩
theorem lw_p19 : lw_okq (⟨"ToneMixerModel", "down", "(IZ)V"⟩, 7) := ⟨⟨by decide +kernel, by decide +kernel⟩, List.mem_of_getElem? (i := 381) (by decide +kernel), List.mem_of_getElem? (i := 459) (by decide +kernel), List.mem_of_getElem? (i := 460) (by decide +kernel)⟩
theorem lw_p20 : lw_okq (⟨"ToneMixerModel", "isSame", "(II)Z"⟩, 7) := ⟨⟨by decide +kernel, by decide +kernel⟩, List.mem_of_getElem? (i := 381) (by decide +kernel), List.mem_of_getElem? (i := 471) (by decide +kernel), List.mem_of_getElem? (i := 472) (by decide +kernel)⟩
theorem lw_p21 : lw_okq (⟨"ToneMixerModel", "mixAll", "(I)V"⟩, 7) := ⟨⟨by decide +kernel, by decide +kernel⟩, List.mem_of_getElem? (i := 381) (by decide +kernel), List.mem_of_getElem? (i := 475) (by decide +kernel), List.mem_of_getElem? (i := 476) (by decide +kernel)⟩
def lw_privs_2 : List (MethodName × Nat) := [(⟨"ToneMixerModel", "across", "(IZ)V"⟩, 7), (⟨"ToneMixerModel", "keep", "(I)V"⟩, 7), (⟨"ToneMixerModel", "was", "(II)I"⟩, 7), (⟨"ToneMixerModel", "down", "(IZ)V"⟩, 7), (⟨"ToneMixerModel", "isSame", "(II)Z"⟩, 7), (⟨"ToneMixerModel", "mixAll", "(I)V"⟩, 7)]
theorem lw_r2 : ∀ q ∈ lw_privs_2, lw_okq q := List.forall_mem_cons.mpr ⟨lw_p16, List.forall_mem_cons.mpr ⟨lw_p17, List.forall_mem_cons.mpr ⟨lw_p18, List.forall_mem_cons.mpr ⟨lw_p19, List.forall_mem_cons.mpr ⟨lw_p20, List.forall_mem_cons.mpr ⟨lw_p21, fun _ h => absurd h List.not_mem_nil⟩⟩⟩⟩⟩⟩
def lw_privs : List (MethodName × Nat) := lw_privs_1 ++ (lw_privs_2)
def lw_tbl : List Cond := k2_sels lw_privs ++ tables_1
theorem lw_privs_ok : ∀ q ∈ lw_privs, lw_okq q := by
  show ∀ q ∈ lw_privs_1 ++ (lw_privs_2), lw_okq q
  exact List.forall_mem_append.mpr ⟨lw_r1, lw_r2⟩
-- ===== end of PART A; then your names; then what follows =====
end
section
/-! ===== BEGIN words of one list among another's, by their places ===== -/
theorem goodIn_r {big : List Cond} (ws : List Cond) (ps : List Nat) (hp : ws = ps.filterMap (fun i => big[i]?)) (h : ws.all goodWord = true) : GoodIn big ws := by
  intro w hw
  have h1 := List.all_eq_true.mp h w hw
  rw [hp] at hw
  obtain ⟨i, -, hi⟩ := List.mem_filterMap.mp hw
  have hm : w ∈ big := by first | exact List.mem_of_getElem? hi | exact List.getElem?_mem hi
  exact ⟨hm, good_of_word h1⟩
theorem goodIn_app {big a b : List Cond} (ha : GoodIn big a) (hb : GoodIn big b) : GoodIn big (a ++ b) := fun w h => (List.mem_append.mp h).elim (ha w) (hb w)
theorem goodIn_ca {big a b : List Cond} {c : Cond} (ha : GoodIn big (c :: a)) (hb : GoodIn big b) : GoodIn big (c :: (a ++ b)) := fun w h => (List.mem_cons.mp h).elim (fun e => ha w (List.mem_cons.mpr (Or.inl e))) (fun h => (List.mem_append.mp h).elim (fun h => ha w (List.mem_cons.mpr (Or.inr h))) (hb w))
theorem goodIn_sub {big ws : List Cond} (hm : ∀ w ∈ ws, w ∈ big) (h : ws.all goodWord = true) : GoodIn big ws := fun w hw => ⟨hm w hw, good_of_word (List.all_eq_true.mp h w hw)⟩
/-! ===== END ===== -/

/-! ===== BEGIN exceptions that leave a method, and their catching by the caller (launches without stack traces) ===== -/
section VXA
/-! The laws vx_back, vx_callV, vx_callS, vx_callSW, vx_throw0, vx_throwS follow proofs of the library, with one case more: JvmDerived/Free/Laws.lean (Back.of_free), Shelf42/LK1.lean (callV, callS), Shelf/KitTraced.lean (throwNew0V, throwNewS). -/
/-- where a method has thrown q: the class by its name, the cell, what was written, the world -/
def vx_T (XC : String → State → State → Prop) (st : State) (q : Addr) (t : State) (mc ms : Nat) (free : Addr → Prop) : Prop :=
  ∃ (E : String) (ce : Cell) (L : List Loc), XC E st t ∧ t.heap[q]? = some ce ∧ ce.vm = .none ∧ st.vm.findClass E = some ce.cls ∧ st.WarmedH t.vm ∧ st.sameButNew ({ t with vm := st.vm } : State) L mc ms ∧ ∀ z ∈ L, free z.base
def vx_Q (Qc : Array Value → State → Outcome → State → Prop) (XC : String → State → State → Prop) (mc ms : Nat) (free : Addr → Prop) : Array Value → State → Outcome → State → Prop := fun a st o t =>
  (Qc a st o t ∧ ∃ L, FrameEnd st o t L mc ms ∧ ∀ q ∈ L, free q.base) ∨ ∃ q, o = .threw q ∧ vx_T XC st q t mc ms free
/-- a callee that returns or throws -/
def vx_Met (l : Launch) (y : MethodName) (ws : List Cond) (rm : Room) (Pc : Array Value → State → Prop) (Qc : Array Value → State → Outcome → State → Prop) (XC : String → State → State → Prop) (mc ms : Nat) (free : Addr → Prop) : Prop :=
  MetFree l y (headSpec ws rm) Pc (fun _ _ _ _ _ => True) (vx_Q Qc XC mc ms free)
def vx_Post (XC : String → State → State → Prop) (mc ms : Nat) (free : Addr → Prop) : Pt → Array Value → Addr → Pt → Prop := fun A a q B =>
  ∃ (g : JFrame) (mk : MethodId) (t : State) (L : List Loc) (E : String) (ce : Cell), B.U.heap = t.heap ∧ B.U.vm = t.vm ∧ XC E (A.U.calling g mk a) t ∧ t.heap[q]? = some ce ∧ ce.vm = .none ∧ A.U.vm.findClass E = some ce.cls ∧ B.locs = A.locs ++ L ∧ (∀ z ∈ L, free z.base) ∧ B.cells = A.cells + mc ∧ B.slots = A.slots + ms
def vx_Back (l : Launch) (R : Room) (p : Program) (e : Env) (below : List Frame) (s : State) (sargs : Array Value) (y : MethodName) (len W9 : Nat)
    (Pre : Pt → Array Value → Prop) (Post : Pt → Array Value → Option Value → Pt → Prop) (PostX : Pt → Array Value → Addr → Pt → Prop) : Prop :=
  ∀ (m : MethodId) (meth : Method) (c : Code) (A : Pt) (g : JFrame) (ig : Instr) (mk : MethodId) (a : Array Value),
    Stand p l e R s m sargs below meth c A.U A.locs A.cells A.slots → g.method = m → g.locals.size = c.maxLocals → decode c.code g.pc = .ok (ig, len) →
    2 * g.monitorRoom + (g.stack.map fun v => v.category).sum ≤ W9 → A.U.methodNamed? y = some mk → Pre A a →
    (∃ (v : Option Value) (B : Pt), Stand p l e R s m sargs below meth c B.U B.locs B.cells B.slots ∧ Post A a v B ∧
      Steps p.tables e below (doInvoke e (A.U.setTop g) [] mk a).1 (B.U.setTop { g with pc := g.pc + len, stack := v.toList ++ g.stack })) ∨
    (∃ (q : Addr) (B : Pt), Stand p l e R s m sargs below meth c B.U B.locs B.cells B.slots ∧ PostX A a q B ∧
      Steps p.tables e below (doInvoke e (A.U.setTop g) [] mk a).1 ((B.U.setTop g).pushFrame (.throwing q)))
section Payer
variable {l : Launch} {R : Room} {p : Program} {e : Env} {below : List Frame} {s : State} {sargs : Array Value} {y : MethodName} {len W9 : Nat}
theorem vx_back {ws : List Cond} {rm : Room} {Pc : Array Value → State → Prop} {Qc : Array Value → State → Outcome → State → Prop} {XC : String → State → State → Prop} {mc ms : Nat} {free : Addr → Prop} {bytes : ByteArray} {maxL : Nat} {ret : Option FieldType}
    (hM : vx_Met l y ws rm Pc Qc XC mc ms free) (hblind : FrameBlind Pc) (hrc : rm.cells = mc) (hrs : rm.slots = ms)
    (hframes : rm.frames + 1 ≤ R.frames) (hlocals : W9 + (maxL + 11) + rm.locals ≤ R.locals)
    (hws : ∀ w ∈ ws, ∀ a' U, s.WarmedH U.vm → w.before a' U = true) (hcode : Cond.code y bytes maxL ret ∈ ws) (hinit : ∀ a' U, s.WarmedH U.vm → (Cond.initialized y.cls).before a' U = true) :
    vx_Back l R p e below s sargs y len W9 (PreOf R mc ms Pc) (PostOf Qc mc ms free) (vx_Post XC mc ms free) := by
  intro m meth c A g ig mk a X hg hsize hdg hW hn hp
  have h1 : (headSpec ws rm).pre.before a A.U = true := atoms_intro fun w hw => hws w hw _ _ X.warmed
  have h2 : (Cond.code y bytes maxL ret).before a A.U = true := hws _ hcode _ _ X.warmed
  have h3 : (Cond.initialized y.cls).before a A.U = true := hinit _ _ X.warmed
  have h4 : A.cells + (headSpec ws rm).room.cells ≤ R.cells := by rw [show (headSpec ws rm).room.cells = mc from hrc]; exact hp.1
  have h5 : A.slots + (headSpec ws rm).room.slots ≤ R.slots := by rw [show (headSpec ws rm).room.slots = ms from hrs]; exact hp.2.1
  have hPc : Pc a (A.U.calling g mk a) := hblind _ _ _ _ hp.2.2
  obtain ⟨U, Ls, c0, s0⟩ := A
  dsimp only [Pt.U, Pt.locs, Pt.cells, Pt.slots] at h1 h2 h3 h4 h5 X hn hPc ⊢
  obtain ⟨methY, cY, hmY, hcY, -, hlY, -, -, -, -⟩ := Cond.code_spec hn h2
  obtain ⟨kY, hkY, -⟩ := className_of_methodNamed hn
  have hinitY : kY.init = .initialized := Cond.initialized_spec (findClass_of_methodNamed hn) hkY h3
  have h : At U g.method c below := by rw [hg]; exact X.here
  have hlocals9 : W9 + (maxL + 11) + (headSpec ws rm).room.locals ≤ R.locals := hlocals
  have happ : (headSpec ws rm).appliesLoose y e.platform (U.calling g mk a) = true :=
    Spec.appliesLoose_calling (g := g) h hdg hn hkY hinitY
      (X.room_calling (g := g) (R' := (headSpec ws rm).room) hsize hmY hcY hframes (by rw [hlY]; omega) h4 h5) h1
  obtain ⟨mid, hmid⟩ := h.above
  have hfr : (U.setTop g).frames = (.java g :: mid) ++ below := by rw [State.frames_setTop' g h.top, hmid]; rfl
  obtain ⟨o, s₂, hsteps, -, hend, hq⟩ := Steps.callFree hM p X.admits X.cas X.clock (acts := []) hfr happ hPc trivial
  have hq' : vx_Q Qc XC mc ms free a (U.calling g mk a) o s₂ := hq
  rw [State.frames_setTop' g h.top] at hend
  obtain ⟨g₀, hg0⟩ := Option.isSome_iff_exists.mp h.top
  obtain ⟨r, hr⟩ := State.topJava?_eq_some.mp hg0
  have hr' : (({ U with heap := s₂.heap, slotsUsed := s₂.slotsUsed } : State).setVm s₂.vm).frames = .java g₀ :: r := hr
  rcases hq' with ⟨hqc, L, hfe, hL⟩ | ⟨q, rfl, E, ce, L, hx, hce, hcv, hcl, hW₂, hsm, hL⟩
  · obtain ⟨⟨v, rfl⟩, hW₂, e2, q2, q3, q4, q5, q6⟩ := id hfe
    have e3 : s₂ = ({ (U.calling g mk a).setFrames s₂.frames with heap := s₂.heap, slotsUsed := s₂.slotsUsed } : State).setVm s₂.vm := by
      have : s₂ = ({ s₂ with vm := (U.calling g mk a).vm } : State).setVm s₂.vm := rfl
      rw [e2] at this
      exact this
    obtain ⟨c₂, i₂, len₂, hc₂, hd₂, hf₂⟩ := hend
    have hW' : U.WarmedH s₂.vm := hW₂
    have hcc : c₂ = c := by
      have h1 : s₂.code? g.method = U.code? g.method := by
        rw [State.code?_eq, State.code?_eq, hW'.alike.method?]
      exact Option.some.inj (hc₂.symm.trans (h1.trans h.code))
    subst hcc
    have hlen : len₂ = len := by rw [hdg] at hd₂; cases hd₂; rfl
    subst hlen
    have hs₂ : s₂ = (({ U with heap := s₂.heap, slotsUsed := s₂.slotsUsed } : State).setVm s₂.vm).setTop { g with pc := g.pc + len₂, stack := v.toList ++ g.stack } := by
      refine e3.trans ?_
      rw [hf₂, State.calling_eq h.top, State.setFrames_setFrames, State.setTop_of_frames _ hr', hr]
      rfl
    have hsame : U.sameButNew ({ U with heap := s₂.heap, slotsUsed := s₂.slotsUsed } : State) L mc ms := by
      refine ⟨?_, q2, q3, q4, q5, q6⟩
      obtain ⟨t, ht, -⟩ := State.frames_cons hr
      show ({ U with heap := s₂.heap, slotsUsed := s₂.slotsUsed } : State) = { U.setFrames U.frames with heap := s₂.heap, slotsUsed := s₂.slotsUsed }
      rw [State.setFrames_self ht]
    subst hg
    refine Or.inl ⟨v, ⟨(({ U with heap := s₂.heap, slotsUsed := s₂.slotsUsed } : State).setVm s₂.vm), Ls ++ L, c0 + mc, s0 + ms⟩,
      ⟨X.admits, X.cas, X.clock, X.frames, X.room, X.hears, X.method, X.code, (X.here.setHeapUsed s₂.heap s₂.slotsUsed).setVm hW'.alike, X.tail, State.WarmedH.trans X.warmed hW', X.limits, X.bytes, X.same.trans (hsame.setVm s.vm)⟩,
      ⟨g, mk, s₂, L, rfl, rfl, hqc, rfl, hL, rfl, rfl⟩, ?_⟩
    show Steps p.tables e below _ ((({ U with heap := s₂.heap, slotsUsed := s₂.slotsUsed } : State).setVm s₂.vm).setTop { g with pc := g.pc + len₂, stack := v.toList ++ g.stack })
    rw [← hs₂]
    exact hsteps
  · obtain ⟨e2, q2, q3, q4, q5, q6⟩ := id hsm
    have e3 : s₂ = ({ (U.calling g mk a).setFrames s₂.frames with heap := s₂.heap, slotsUsed := s₂.slotsUsed } : State).setVm s₂.vm := by
      have : s₂ = ({ s₂ with vm := (U.calling g mk a).vm } : State).setVm s₂.vm := rfl
      rw [e2] at this
      exact this
    have hf₂ : s₂.frames = .throwing q :: .java g :: U.frames.tail := hend
    have hW' : U.WarmedH s₂.vm := hW₂
    have hs₂ : s₂ = ((({ U with heap := s₂.heap, slotsUsed := s₂.slotsUsed } : State).setVm s₂.vm).setTop g).pushFrame (.throwing q) := by
      refine e3.trans ?_
      rw [hf₂, State.calling_eq h.top, State.setFrames_setFrames, State.pushFrame, State.frames_setTop _ hr', State.setTop_of_frames _ hr', State.setFrames_setFrames, hr]
      rfl
    have hsame : U.sameButNew ({ U with heap := s₂.heap, slotsUsed := s₂.slotsUsed } : State) L mc ms := by
      refine ⟨?_, q2, q3, q4, q5, q6⟩
      obtain ⟨t, ht, -⟩ := State.frames_cons hr
      show ({ U with heap := s₂.heap, slotsUsed := s₂.slotsUsed } : State) = { U.setFrames U.frames with heap := s₂.heap, slotsUsed := s₂.slotsUsed }
      rw [State.setFrames_self ht]
    subst hg
    refine Or.inr ⟨q, ⟨(({ U with heap := s₂.heap, slotsUsed := s₂.slotsUsed } : State).setVm s₂.vm), Ls ++ L, c0 + mc, s0 + ms⟩,
      ⟨X.admits, X.cas, X.clock, X.frames, X.room, X.hears, X.method, X.code, (X.here.setHeapUsed s₂.heap s₂.slotsUsed).setVm hW'.alike, X.tail, State.WarmedH.trans X.warmed hW', X.limits, X.bytes, X.same.trans (hsame.setVm s.vm)⟩,
      ⟨g, mk, s₂, L, E, ce, rfl, rfl, hx, hce, hcv, hcl, rfl, hL, rfl, rfl⟩, ?_⟩
    show Steps p.tables e below _ (((({ U with heap := s₂.heap, slotsUsed := s₂.slotsUsed } : State).setVm s₂.vm).setTop g).pushFrame (.throwing q))
    rw [← hs₂]
    exact hsteps
end Payer
section Calls
variable {p : Program} {l : Launch} {e : Env} {R : Room} {s : State} {m : MethodId} {args : Array Value} {below : List Frame} {meth : Method} {c : Code} {T : State} {locs : List Loc} {cells slots : Nat}
theorem vx_callV (X : Stand p l e R s m args below meth c T locs cells slots) (hexec : p.tables.exec = Jvm.exec) {own C : String} {index : Nat} {y : MethodName} {bytes : ByteArray} {maxL : Nat} {ret : Option FieldType}
    (hown : s.vm.findClass own = some m.cls) (hlink : (Cond.methodLink own index y).before args s = true) (hinst : (Cond.instanceMethod y).before args s = true) (hsel : (Cond.selects C y y).before args s = true)
    (hcode : (Cond.code y bytes maxL ret).before args s = true) (hy : y.cls ≠ "java/lang/invoke/MethodHandle" ∧ y.cls ≠ "java/lang/invoke/VarHandle")
    {W9 : Nat} {Pre : Pt → Array Value → Prop} {Post : Pt → Array Value → Option Value → Pt → Prop} {PostX : Pt → Array Value → Addr → Pt → Prop} (hK : vx_Back l R p e below s args y 3 W9 Pre Post PostX)
    {b : Addr} {cellB : Cell} (hcell : T.heap[b]? = some cellB) (hobj : cellB.vm.isStatics = false) (hcls : s.vm.findClass C = some cellB.cls)
    {g : JFrame} (hg : g.method = m) (hsize : g.locals.size = c.maxLocals) {argsL rest : List Value} (hlen : ∀ sig, parseMethodDescriptor y.desc = some sig → argsL.length = sig.parameters.length)
    (hstack : g.stack = argsL.reverse ++ .ref b :: rest) (hW : 2 * g.monitorRoom + (rest.map fun v => v.category).sum ≤ W9) (hdg : decode c.code g.pc = .ok (.invokevirtual index, 3))
    (hpre : ∀ vm₁, s.WarmedH vm₁ → Pre ⟨T.setVm vm₁, locs, cells, slots⟩ (Value.ref b :: argsL).toArray) :
    (∃ (v : Option Value) (vm₁ : Vm) (B : Pt), s.WarmedH vm₁ ∧ Stand p l e R s m args below meth c B.U B.locs B.cells B.slots ∧ Post ⟨T.setVm vm₁, locs, cells, slots⟩ (Value.ref b :: argsL).toArray v B ∧
      ∀ target, Steps p.tables e below (B.U.setTop { g with pc := g.pc + 3, stack := v.toList ++ rest }) target → Steps p.tables e below (T.setTop g) target) ∨
    (∃ (q : Addr) (vm₁ : Vm) (B : Pt), s.WarmedH vm₁ ∧ Stand p l e R s m args below meth c B.U B.locs B.cells B.slots ∧ PostX ⟨T.setVm vm₁, locs, cells, slots⟩ (Value.ref b :: argsL).toArray q B ∧
      Steps p.tables e below (T.setTop g) ((B.U.setTop { g with stack := rest }).pushFrame (.throwing q))) := by
  obtain ⟨mk, methM, hnamed, hmethM, hstM, habM⟩ := Cond.instanceMethod_spec hinst
  obtain ⟨methM', cM, hmethM', -, -, -, -, -, -, hsigM⟩ := Cond.code_spec hnamed hcode
  cases hmethM.symm.trans hmethM'
  obtain ⟨c2, r2, m2, q1, q2, q3, q4, kP, hkP, hkPi⟩ := Cond.selects_spec hsel
  cases hcls.symm.trans q1
  cases (State.methodFound?_of_named hnamed hy).symm.trans q2
  cases hnamed.symm.trans q3
  have hselP : selectMethod e.platform s.vm cellB.cls mk = .method mk := by rw [Launch.admits_selectMethod X.admits]; exact q4
  obtain ⟨vm₁, X₁, hstep₁⟩ := X.invokevirtual hexec hown hlink hnamed hmethM hstM hkP hkPi hy (a := b) (cell := cellB) hcell
    (fun z h => by rw [h] at hobj; cases hobj) hselP hmethM habM hkP hkPi (g := g) hg (argsL := argsL) (rest := rest) (hlen _ hsigM) hstack hdg
  rcases hK m meth c ⟨T.setVm vm₁, locs, cells, slots⟩ { g with stack := rest } (.invokevirtual index) mk (Value.ref b :: argsL).toArray X₁ hg hsize hdg hW (X₁.named hnamed) (hpre vm₁ X₁.warmed) with ⟨v, B, X', hpost, hsteps⟩ | ⟨q, B, X', hpost, hsteps⟩
  · exact Or.inl ⟨v, vm₁, B, X₁.warmed, X', hpost, fun target h => hstep₁ _ fun acts => by rw [doInvoke_state]; exact hsteps.trans h⟩
  · exact Or.inr ⟨q, vm₁, B, X₁.warmed, X', hpost, hstep₁ _ fun acts => by rw [doInvoke_state]; exact hsteps⟩
theorem vx_callS (X : Stand p l e R s m args below meth c T locs cells slots) (hexec : p.tables.exec = Jvm.exec) {own : String} {index : Nat} {y : MethodName} {bytes : ByteArray} {maxL : Nat} {ret : Option FieldType}
    (hown : s.vm.findClass own = some m.cls) (hlink : (Cond.methodLink own index y).before args s = true) (hstat : (Cond.static y).before args s = true) (hinit : (Cond.initialized y.cls).before args s = true)
    (hcode : (Cond.code y bytes maxL ret).before args s = true) (hy : y.cls ≠ "java/lang/invoke/MethodHandle" ∧ y.cls ≠ "java/lang/invoke/VarHandle")
    {W9 : Nat} {Pre : Pt → Array Value → Prop} {Post : Pt → Array Value → Option Value → Pt → Prop} {PostX : Pt → Array Value → Addr → Pt → Prop} (hK : vx_Back l R p e below s args y 3 W9 Pre Post PostX)
    {g : JFrame} (hg : g.method = m) (hsize : g.locals.size = c.maxLocals) {argsL rest : List Value} (hlen : ∀ sig, parseMethodDescriptor y.desc = some sig → argsL.length = sig.parameters.length)
    (hstack : g.stack = argsL.reverse ++ rest) (hW : 2 * g.monitorRoom + (rest.map fun v => v.category).sum ≤ W9) (hdg : decode c.code g.pc = .ok (.invokestatic index, 3))
    (hpre : ∀ vm₁, s.WarmedH vm₁ → Pre ⟨T.setVm vm₁, locs, cells, slots⟩ argsL.toArray) :
    (∃ (v : Option Value) (vm₁ : Vm) (B : Pt), s.WarmedH vm₁ ∧ Stand p l e R s m args below meth c B.U B.locs B.cells B.slots ∧ Post ⟨T.setVm vm₁, locs, cells, slots⟩ argsL.toArray v B ∧
      ∀ target, Steps p.tables e below (B.U.setTop { g with pc := g.pc + 3, stack := v.toList ++ rest }) target → Steps p.tables e below (T.setTop g) target) ∨
    (∃ (q : Addr) (vm₁ : Vm) (B : Pt), s.WarmedH vm₁ ∧ Stand p l e R s m args below meth c B.U B.locs B.cells B.slots ∧ PostX ⟨T.setVm vm₁, locs, cells, slots⟩ argsL.toArray q B ∧
      Steps p.tables e below (T.setTop g) ((B.U.setTop { g with stack := rest }).pushFrame (.throwing q))) := by
  obtain ⟨mk, hnamed⟩ := Cond.code_named hcode
  obtain ⟨methM, cM, hmethM, -, -, -, -, -, -, hsigM⟩ := Cond.code_spec hnamed hcode
  have hstatic : methM.isStatic = true := Cond.static_spec hnamed hmethM hstat
  obtain ⟨kP, hkP, -⟩ := className_of_methodNamed hnamed
  have hinitP : kP.init = .initialized := Cond.initialized_spec (findClass_of_methodNamed hnamed) hkP hinit
  obtain ⟨vm₁, X₁, hstep₁⟩ := X.invokestatic hexec hown hlink hnamed hmethM hstatic hkP hinitP hy (g := g) hg (argsL := argsL) (rest := rest) (hlen _ hsigM) hstack hdg
  rcases hK m meth c ⟨T.setVm vm₁, locs, cells, slots⟩ { g with stack := rest } (.invokestatic index) mk argsL.toArray X₁ hg hsize hdg hW (X₁.named hnamed) (hpre vm₁ X₁.warmed) with ⟨v, B, X', hpost, hsteps⟩ | ⟨q, B, X', hpost, hsteps⟩
  · exact Or.inl ⟨v, vm₁, B, X₁.warmed, X', hpost, fun target h => hstep₁ _ fun acts => by rw [doInvoke_state]; exact hsteps.trans h⟩
  · exact Or.inr ⟨q, vm₁, B, X₁.warmed, X', hpost, hstep₁ _ fun acts => by rw [doInvoke_state]; exact hsteps⟩
end Calls
theorem vx_cls {s : State} {T : State} {vm₁ : Vm} {E : String} {k : ClassId} (hW : s.WarmedH vm₁) (h : (T.setVm vm₁).vm.findClass E = some k) : s.vm.findClass E = some k := by
  have h1 : vm₁.findClass E = some k := h
  rw [hW.alike.findClass] at h1
  exact h1
/-- the method's frame g, with q thrown over it -/
def vx_W (p : Program) (l : Launch) (e : Env) (R : Room) (s : State) (m : MethodId) (args : Array Value) (below : List Frame) (meth : Method) (c : Code) (H : Heap) (locs : List Loc) (cells slots : Nat) (Q : State → Prop) (g : JFrame) (q : Addr) : Prop :=
  ∀ T : State, T.heap = H → Stand p l e R s m args below meth c T locs cells slots → ∃ t, Steps p.tables e below ((T.setTop g).pushFrame (.throwing q)) t ∧ Q t
def vx_Run (p : Program) (l : Launch) (e : Env) (R : Room) (s : State) (m : MethodId) (args : Array Value) (below : List Frame) (meth : Method) (c : Code) (H : Heap) (locs : List Loc) (cells slots mc ms : Nat) (g : JFrame) (rest : List Value) (Qa : State → Outcome → State → Prop) (XC : String → State → State → Prop) (free : Addr → Prop) : Prop :=
  ∀ T : State, T.heap = H → Stand p l e R s m args below meth c T locs cells slots →
    (∃ (v : Option Value) (st₀ t T' : State) (L : List Loc), st₀.heap = H ∧ Stand p l e R s m args below meth c T' (locs ++ L) (cells + mc) (slots + ms) ∧ (∀ q ∈ L, free q.base) ∧ T'.heap = t.heap ∧ T'.vm = t.vm ∧ Qa st₀ (.returned v) t ∧
      Goes p e below T g T' { g with pc := g.pc + 3, stack := v.toList ++ rest }) ∨
    (∃ (q : Addr) (st₀ t T' : State) (L : List Loc) (E : String) (ce : Cell), st₀.heap = H ∧ Stand p l e R s m args below meth c T' (locs ++ L) (cells + mc) (slots + ms) ∧ (∀ z ∈ L, free z.base) ∧ T'.heap = t.heap ∧ T'.vm = t.vm ∧ XC E st₀ t ∧ t.heap[q]? = some ce ∧ ce.vm = .none ∧ s.vm.findClass E = some ce.cls ∧
      Steps p.tables e below (T.setTop g) ((T'.setTop { g with stack := rest }).pushFrame (.throwing q)))
def vx_X {S : Type} (px : S → Prop) (B : String → S → State → Prop) (A : Nat → Prop) : String → State → State → Prop := fun E st t => ∃ u : S, px u ∧ B E u t ∧ va_F A st t
section Runs
variable {p : Program} {l : Launch} {e : Env} {R : Room} {s : State} {m : MethodId} {args : Array Value} {below : List Frame} {meth : Method} {c : Code} {H : Heap} {locs : List Loc} {cells slots : Nat}
variable {y : MethodName} {bytes cc : ByteArray} {maxL nL mc ms n index : Nat} {ret : Option FieldType} {ws : List Cond} {rm : Room} {Pc : Array Value → State → Prop} {Qc : Array Value → State → Outcome → State → Prop} {XC : String → State → State → Prop} {free : Addr → Prop} {Ts : List Cond} {own C : String} {b : Addr} {As rest : List Value} {g : JFrame}
theorem vx_callBack (cb : CallB R s args own index y bytes maxL ret ws rm mc ms n) (hM : vx_Met l y ws rm Pc Qc XC mc ms free) (hbl : FrameBlind Pc) : vx_Back l R p e below s args y 3 8 (PreOf R mc ms Pc) (PostOf Qc mc ms free) (vx_Post XC mc ms free) := by
  obtain ⟨hrc, hrs, hfr, hlo, hws, hcw, -, hini, -⟩ := cb
  exact vx_back (bytes := bytes) (maxL := maxL) (ret := ret) hM hbl hrc hrs hfr hlo hws hcw (fun a' U hW => word_at hW (Or.inl (by first | rfl | simp [Cond.onTables, Cond.keeps, Cond.steady])) hini)
theorem vx_runV (S : CallFix p m c cc nL s args Ts own) (hM : vx_Met l y ws rm Pc Qc XC mc ms free) (cw : CallW R s args own C index y bytes maxL ret ws rm mc ms n) (hp : PreV s H C b Pc As)
    (hg : g.method = m) (hn : As.length = n) (hsize : g.locals.size = nL) (hstack : g.stack = As.reverse ++ .ref b :: rest) (hW : 2 * g.monitorRoom + (rest.map fun v => v.category).sum ≤ 8) (hdg : decode cc g.pc = .ok (.invokevirtual index, 3)) (hf : cells + mc ≤ R.cells ∧ slots + ms ≤ R.slots) :
    vx_Run p l e R s m args below meth c H locs cells slots mc ms g rest (Qc (Value.ref b :: As).toArray) XC free := by
  have hK : vx_Back l R p e below s args y 3 8 (PreOf R mc ms Pc) (PostOf Qc mc ms free) (vx_Post XC mc ms free) := vx_callBack cw.1 hM hp.1
  obtain ⟨⟨-, -, -, -, -, -, hcode, -, hy, hlen, hl⟩, hin, hse⟩ := cw
  obtain ⟨hx, hb, hml, ho, -⟩ := S
  obtain ⟨-, ⟨cellB, hcB, hoB, hclB⟩, hPc⟩ := hp
  intro T hT X
  rcases vx_callV X hx (C := C) (bytes := bytes) (maxL := maxL) (ret := ret) ho hl hin hse hcode hy hK (by rw [hT]; exact hcB) hoB hclB hg (hsize.trans hml.symm) (argsL := As) (rest := rest) (fun sig h => hn.trans (hlen sig h)) hstack hW (by rw [hb]; exact hdg)
    (fun vm₁ hW₁ => ⟨hf.1, hf.2, hPc (T.setVm vm₁) hT hW₁⟩) with ⟨v, vm₁, ⟨U', l2, c2, s2⟩, hW₁, X', ⟨g', mk, t, L, e1, e2, hq, h1, hL, h2, h3⟩, st⟩ | ⟨q, vm₁, ⟨U', l2, c2, s2⟩, hW₁, X', ⟨g', mk, t, L, E, ce, e1, e2, hq, hce, hcv, hcl, h1, hL, h2, h3⟩, st⟩
  · dsimp only [Pt.U, Pt.locs, Pt.cells, Pt.slots] at X' e1 e2 h1 h2 h3 st
    subst h1; subst h2; subst h3
    exact Or.inl ⟨v, (T.setVm vm₁).calling g' mk (Value.ref b :: As).toArray, t, U', L, hT, X', hL, e1, e2, hq, st⟩
  · dsimp only [Pt.U, Pt.locs, Pt.cells, Pt.slots] at X' e1 e2 h1 h2 h3 st hcl
    subst h1; subst h2; subst h3
    exact Or.inr ⟨q, (T.setVm vm₁).calling g' mk (Value.ref b :: As).toArray, t, U', L, E, ce, hT, X', hL, e1, e2, hq, hce, hcv, vx_cls hW₁ hcl, st⟩
theorem vx_runS (S : CallFix p m c cc nL s args Ts own) (hM : vx_Met l y ws rm Pc Qc XC mc ms free) (cw : CallB R s args own index y bytes maxL ret ws rm mc ms n ∧ (Cond.static y).before args s = true) (hp : PreS s H Pc As)
    (hg : g.method = m) (hn : As.length = n) (hsize : g.locals.size = nL) (hstack : g.stack = As.reverse ++ rest) (hW : 2 * g.monitorRoom + (rest.map fun v => v.category).sum ≤ 8) (hdg : decode cc g.pc = .ok (.invokestatic index, 3)) (hf : cells + mc ≤ R.cells ∧ slots + ms ≤ R.slots) :
    vx_Run p l e R s m args below meth c H locs cells slots mc ms g rest (Qc As.toArray) XC free := by
  have hK : vx_Back l R p e below s args y 3 8 (PreOf R mc ms Pc) (PostOf Qc mc ms free) (vx_Post XC mc ms free) := vx_callBack cw.1 hM hp.1
  obtain ⟨⟨-, -, -, -, -, -, hcode, hini, hy, hlen, hl⟩, hstt⟩ := cw
  obtain ⟨hx, hb, hml, ho, -⟩ := S
  intro T hT X
  rcases vx_callS X hx (bytes := bytes) (maxL := maxL) (ret := ret) ho hl hstt hini hcode hy hK hg (hsize.trans hml.symm) (argsL := As) (rest := rest) (fun sig h => hn.trans (hlen sig h)) hstack hW (by rw [hb]; exact hdg)
    (fun vm₁ hW₁ => ⟨hf.1, hf.2, hp.2 (T.setVm vm₁) hT hW₁⟩) with ⟨v, vm₁, ⟨U', l2, c2, s2⟩, hW₁, X', ⟨g', mk, t, L, e1, e2, hq, h1, hL, h2, h3⟩, st⟩ | ⟨q, vm₁, ⟨U', l2, c2, s2⟩, hW₁, X', ⟨g', mk, t, L, E, ce, e1, e2, hq, hce, hcv, hcl, h1, hL, h2, h3⟩, st⟩
  · dsimp only [Pt.U, Pt.locs, Pt.cells, Pt.slots] at X' e1 e2 h1 h2 h3 st
    subst h1; subst h2; subst h3
    exact Or.inl ⟨v, (T.setVm vm₁).calling g' mk As.toArray, t, U', L, hT, X', hL, e1, e2, hq, st⟩
  · dsimp only [Pt.U, Pt.locs, Pt.cells, Pt.slots] at X' e1 e2 h1 h2 h3 st hcl
    subst h1; subst h2; subst h3
    exact Or.inr ⟨q, (T.setVm vm₁).calling g' mk As.toArray, t, U', L, E, ce, hT, X', hL, e1, e2, hq, hce, hcv, vx_cls hW₁ hcl, st⟩
end Runs
section Rows
variable {p : Program} {l : Launch} {e : Env} {R : Room} {s : State} {m : MethodId} {args : Array Value} {below : List Frame} {meth : Method} {c : Code} {H : Heap} {locs : List Loc} {cells slots : Nat} {Q : State → Prop}
variable {mc ms : Nat} {free : Addr → Prop} {A0 A1 : Nat → Prop} {H0 : Heap} {a : Array Value} {pc : Nat} {ls : Array Slot} {st0 rest : List Value}
theorem vx_keep {st₀ t T' : State} {L : List Loc} (h0 : st₀.heap = H) (e1 : T'.heap = t.heap) (hS : va_S A0 H0 H locs) (hA : ∀ q, q < H.size → A1 q → A0 q) (hf : ∀ q, free q → A0 q) (hL : ∀ q ∈ L, free q.base) (hF : va_F A1 st₀ t) :
    H.size ≤ T'.heap.size ∧ (∀ q : Nat, q < H.size → ¬ A1 q → T'.heap[q]? = H[q]?) ∧ va_S A0 H0 T'.heap (locs ++ L) := by
  obtain ⟨hz, hk⟩ := hF
  rw [h0] at hz hk
  exact ⟨by rw [e1]; exact hz, fun q h1 h2 => by rw [e1]; exact hk q h1 h2,
    ⟨Nat.le_trans hS.1 (by rw [e1]; exact hz), fun q h1 h2 => by rw [e1, hk q (Nat.lt_of_lt_of_le h1 hS.1) (fun z => h2 (hA q (Nat.lt_of_lt_of_le h1 hS.1) z))]; exact hS.2.1 q h1 h2, fun q hq => by
      rcases List.mem_append.mp hq with h | h
      · exact hS.2.2 q h
      · exact hf _ (hL q h)⟩⟩
theorem vx_calli {S SX : Type} {post : Int32 → S → Prop} {px : SX → Prop} {B : S → State → Prop} {BX : String → SX → State → Prop} {AX : Nat → Prop} (hr : vx_Run p l e R s m args below meth c H locs cells slots mc ms (F0 m pc ls st0) rest (va_Qi post B A1 a) (vx_X px BX AX) free) (hS : va_S A0 H0 H locs) (hA : ∀ q, q < H.size → A1 q → A0 q) (hf : ∀ q, free q → A0 q) (hAX : ∀ q, q < H.size → AX q → A0 q)
    (kx : ∀ (E : String) (ce : Cell) (q9 : Addr) (u : SX) (t : State) (H1 : Heap) (locs1 : List Loc), t.heap = H1 → s.vm.Alike t.vm → px u → BX E u t → H.size ≤ H1.size → (∀ q : Nat, q < H.size → ¬ AX q → H1[q]? = H[q]?) → va_S A0 H0 H1 locs1 → H1[q9]? = some ce → ce.vm = .none → s.vm.findClass E = some ce.cls → vx_W p l e R s m args below meth c H1 locs1 (cells + mc) (slots + ms) Q (F0 m pc ls rest) q9)
    (kk : ∀ (r : Int32) (u : S) (t : State) (H1 : Heap) (locs1 : List Loc), t.heap = H1 → s.vm.Alike t.vm → post r u → B u t → H.size ≤ H1.size → (∀ q : Nat, q < H.size → ¬ A1 q → H1[q]? = H[q]?) → va_S A0 H0 H1 locs1 → W p l e R s m args below meth c H1 locs1 (cells + mc) (slots + ms) Q (F0 m (pc + 3) ls (.int r :: rest))) : W p l e R s m args below meth c H locs cells slots Q (F0 m pc ls st0) := by
  intro T hT X
  rcases hr T hT X with ⟨v, st₀, t, T', L, h0, X', hL, e1, e2, ⟨⟨r, u, hv, hp, hb⟩, hF⟩, st⟩ | ⟨q, st₀, t, T', L, E, ce, h0, X', hL, e1, e2, ⟨u, hp, hb, hF⟩, hce, hcv, hcl, st⟩
  · cases hv
    obtain ⟨k1, k2, k3⟩ := vx_keep h0 e1 hS hA hf hL hF
    obtain ⟨t2, a1, b1⟩ := kk r u t T'.heap (locs ++ L) e1.symm (by rw [← e2]; exact X'.warmed.alike) hp hb k1 k2 k3 T' rfl X'
    exact ⟨t2, st t2 a1, b1⟩
  · obtain ⟨k1, k2, k3⟩ := vx_keep h0 e1 hS hAX hf hL hF
    obtain ⟨t2, a1, b1⟩ := kx E ce q u t T'.heap (locs ++ L) e1.symm (by rw [← e2]; exact X'.warmed.alike) hp hb k1 k2 k3 (by rw [e1]; exact hce) hcv hcl T' rfl X'
    exact ⟨t2, st.trans a1, b1⟩
theorem vx_calll {S SX : Type} {post : Int64 → S → Prop} {px : SX → Prop} {B : S → State → Prop} {BX : String → SX → State → Prop} {AX : Nat → Prop} (hr : vx_Run p l e R s m args below meth c H locs cells slots mc ms (F0 m pc ls st0) rest (va_Ql post B A1 a) (vx_X px BX AX) free) (hS : va_S A0 H0 H locs) (hA : ∀ q, q < H.size → A1 q → A0 q) (hf : ∀ q, free q → A0 q) (hAX : ∀ q, q < H.size → AX q → A0 q)
    (kx : ∀ (E : String) (ce : Cell) (q9 : Addr) (u : SX) (t : State) (H1 : Heap) (locs1 : List Loc), t.heap = H1 → s.vm.Alike t.vm → px u → BX E u t → H.size ≤ H1.size → (∀ q : Nat, q < H.size → ¬ AX q → H1[q]? = H[q]?) → va_S A0 H0 H1 locs1 → H1[q9]? = some ce → ce.vm = .none → s.vm.findClass E = some ce.cls → vx_W p l e R s m args below meth c H1 locs1 (cells + mc) (slots + ms) Q (F0 m pc ls rest) q9)
    (kk : ∀ (r : Int64) (u : S) (t : State) (H1 : Heap) (locs1 : List Loc), t.heap = H1 → s.vm.Alike t.vm → post r u → B u t → H.size ≤ H1.size → (∀ q : Nat, q < H.size → ¬ A1 q → H1[q]? = H[q]?) → va_S A0 H0 H1 locs1 → W p l e R s m args below meth c H1 locs1 (cells + mc) (slots + ms) Q (F0 m (pc + 3) ls (.long r :: rest))) : W p l e R s m args below meth c H locs cells slots Q (F0 m pc ls st0) := by
  intro T hT X
  rcases hr T hT X with ⟨v, st₀, t, T', L, h0, X', hL, e1, e2, ⟨⟨r, u, hv, hp, hb⟩, hF⟩, st⟩ | ⟨q, st₀, t, T', L, E, ce, h0, X', hL, e1, e2, ⟨u, hp, hb, hF⟩, hce, hcv, hcl, st⟩
  · cases hv
    obtain ⟨k1, k2, k3⟩ := vx_keep h0 e1 hS hA hf hL hF
    obtain ⟨t2, a1, b1⟩ := kk r u t T'.heap (locs ++ L) e1.symm (by rw [← e2]; exact X'.warmed.alike) hp hb k1 k2 k3 T' rfl X'
    exact ⟨t2, st t2 a1, b1⟩
  · obtain ⟨k1, k2, k3⟩ := vx_keep h0 e1 hS hAX hf hL hF
    obtain ⟨t2, a1, b1⟩ := kx E ce q u t T'.heap (locs ++ L) e1.symm (by rw [← e2]; exact X'.warmed.alike) hp hb k1 k2 k3 (by rw [e1]; exact hce) hcv hcl T' rfl X'
    exact ⟨t2, st.trans a1, b1⟩
theorem vx_callf {S SX : Type} {post : UInt32 → S → Prop} {px : SX → Prop} {B : S → State → Prop} {BX : String → SX → State → Prop} {AX : Nat → Prop} (hr : vx_Run p l e R s m args below meth c H locs cells slots mc ms (F0 m pc ls st0) rest (va_Qf post B A1 a) (vx_X px BX AX) free) (hS : va_S A0 H0 H locs) (hA : ∀ q, q < H.size → A1 q → A0 q) (hf : ∀ q, free q → A0 q) (hAX : ∀ q, q < H.size → AX q → A0 q)
    (kx : ∀ (E : String) (ce : Cell) (q9 : Addr) (u : SX) (t : State) (H1 : Heap) (locs1 : List Loc), t.heap = H1 → s.vm.Alike t.vm → px u → BX E u t → H.size ≤ H1.size → (∀ q : Nat, q < H.size → ¬ AX q → H1[q]? = H[q]?) → va_S A0 H0 H1 locs1 → H1[q9]? = some ce → ce.vm = .none → s.vm.findClass E = some ce.cls → vx_W p l e R s m args below meth c H1 locs1 (cells + mc) (slots + ms) Q (F0 m pc ls rest) q9)
    (kk : ∀ (r : UInt32) (u : S) (t : State) (H1 : Heap) (locs1 : List Loc), t.heap = H1 → s.vm.Alike t.vm → post r u → B u t → H.size ≤ H1.size → (∀ q : Nat, q < H.size → ¬ A1 q → H1[q]? = H[q]?) → va_S A0 H0 H1 locs1 → W p l e R s m args below meth c H1 locs1 (cells + mc) (slots + ms) Q (F0 m (pc + 3) ls (.float r :: rest))) : W p l e R s m args below meth c H locs cells slots Q (F0 m pc ls st0) := by
  intro T hT X
  rcases hr T hT X with ⟨v, st₀, t, T', L, h0, X', hL, e1, e2, ⟨⟨r, u, hv, hp, hb⟩, hF⟩, st⟩ | ⟨q, st₀, t, T', L, E, ce, h0, X', hL, e1, e2, ⟨u, hp, hb, hF⟩, hce, hcv, hcl, st⟩
  · cases hv
    obtain ⟨k1, k2, k3⟩ := vx_keep h0 e1 hS hA hf hL hF
    obtain ⟨t2, a1, b1⟩ := kk r u t T'.heap (locs ++ L) e1.symm (by rw [← e2]; exact X'.warmed.alike) hp hb k1 k2 k3 T' rfl X'
    exact ⟨t2, st t2 a1, b1⟩
  · obtain ⟨k1, k2, k3⟩ := vx_keep h0 e1 hS hAX hf hL hF
    obtain ⟨t2, a1, b1⟩ := kx E ce q u t T'.heap (locs ++ L) e1.symm (by rw [← e2]; exact X'.warmed.alike) hp hb k1 k2 k3 (by rw [e1]; exact hce) hcv hcl T' rfl X'
    exact ⟨t2, st.trans a1, b1⟩
theorem vx_calld {S SX : Type} {post : UInt64 → S → Prop} {px : SX → Prop} {B : S → State → Prop} {BX : String → SX → State → Prop} {AX : Nat → Prop} (hr : vx_Run p l e R s m args below meth c H locs cells slots mc ms (F0 m pc ls st0) rest (va_Qd post B A1 a) (vx_X px BX AX) free) (hS : va_S A0 H0 H locs) (hA : ∀ q, q < H.size → A1 q → A0 q) (hf : ∀ q, free q → A0 q) (hAX : ∀ q, q < H.size → AX q → A0 q)
    (kx : ∀ (E : String) (ce : Cell) (q9 : Addr) (u : SX) (t : State) (H1 : Heap) (locs1 : List Loc), t.heap = H1 → s.vm.Alike t.vm → px u → BX E u t → H.size ≤ H1.size → (∀ q : Nat, q < H.size → ¬ AX q → H1[q]? = H[q]?) → va_S A0 H0 H1 locs1 → H1[q9]? = some ce → ce.vm = .none → s.vm.findClass E = some ce.cls → vx_W p l e R s m args below meth c H1 locs1 (cells + mc) (slots + ms) Q (F0 m pc ls rest) q9)
    (kk : ∀ (r : UInt64) (u : S) (t : State) (H1 : Heap) (locs1 : List Loc), t.heap = H1 → s.vm.Alike t.vm → post r u → B u t → H.size ≤ H1.size → (∀ q : Nat, q < H.size → ¬ A1 q → H1[q]? = H[q]?) → va_S A0 H0 H1 locs1 → W p l e R s m args below meth c H1 locs1 (cells + mc) (slots + ms) Q (F0 m (pc + 3) ls (.double r :: rest))) : W p l e R s m args below meth c H locs cells slots Q (F0 m pc ls st0) := by
  intro T hT X
  rcases hr T hT X with ⟨v, st₀, t, T', L, h0, X', hL, e1, e2, ⟨⟨r, u, hv, hp, hb⟩, hF⟩, st⟩ | ⟨q, st₀, t, T', L, E, ce, h0, X', hL, e1, e2, ⟨u, hp, hb, hF⟩, hce, hcv, hcl, st⟩
  · cases hv
    obtain ⟨k1, k2, k3⟩ := vx_keep h0 e1 hS hA hf hL hF
    obtain ⟨t2, a1, b1⟩ := kk r u t T'.heap (locs ++ L) e1.symm (by rw [← e2]; exact X'.warmed.alike) hp hb k1 k2 k3 T' rfl X'
    exact ⟨t2, st t2 a1, b1⟩
  · obtain ⟨k1, k2, k3⟩ := vx_keep h0 e1 hS hAX hf hL hF
    obtain ⟨t2, a1, b1⟩ := kx E ce q u t T'.heap (locs ++ L) e1.symm (by rw [← e2]; exact X'.warmed.alike) hp hb k1 k2 k3 (by rw [e1]; exact hce) hcv hcl T' rfl X'
    exact ⟨t2, st.trans a1, b1⟩
theorem vx_callv {S SX : Type} {post : S → Prop} {px : SX → Prop} {B : S → State → Prop} {BX : String → SX → State → Prop} {AX : Nat → Prop} (hr : vx_Run p l e R s m args below meth c H locs cells slots mc ms (F0 m pc ls st0) rest (va_Qv post B A1 a) (vx_X px BX AX) free) (hS : va_S A0 H0 H locs) (hA : ∀ q, q < H.size → A1 q → A0 q) (hf : ∀ q, free q → A0 q) (hAX : ∀ q, q < H.size → AX q → A0 q)
    (kx : ∀ (E : String) (ce : Cell) (q9 : Addr) (u : SX) (t : State) (H1 : Heap) (locs1 : List Loc), t.heap = H1 → s.vm.Alike t.vm → px u → BX E u t → H.size ≤ H1.size → (∀ q : Nat, q < H.size → ¬ AX q → H1[q]? = H[q]?) → va_S A0 H0 H1 locs1 → H1[q9]? = some ce → ce.vm = .none → s.vm.findClass E = some ce.cls → vx_W p l e R s m args below meth c H1 locs1 (cells + mc) (slots + ms) Q (F0 m pc ls rest) q9)
    (kk : ∀ (u : S) (t : State) (H1 : Heap) (locs1 : List Loc), t.heap = H1 → s.vm.Alike t.vm → post u → B u t → H.size ≤ H1.size → (∀ q : Nat, q < H.size → ¬ A1 q → H1[q]? = H[q]?) → va_S A0 H0 H1 locs1 → W p l e R s m args below meth c H1 locs1 (cells + mc) (slots + ms) Q (F0 m (pc + 3) ls (rest))) : W p l e R s m args below meth c H locs cells slots Q (F0 m pc ls st0) := by
  intro T hT X
  rcases hr T hT X with ⟨v, st₀, t, T', L, h0, X', hL, e1, e2, ⟨⟨u, hv, hp, hb⟩, hF⟩, st⟩ | ⟨q, st₀, t, T', L, E, ce, h0, X', hL, e1, e2, ⟨u, hp, hb, hF⟩, hce, hcv, hcl, st⟩
  · cases hv
    obtain ⟨k1, k2, k3⟩ := vx_keep h0 e1 hS hA hf hL hF
    obtain ⟨t2, a1, b1⟩ := kk u t T'.heap (locs ++ L) e1.symm (by rw [← e2]; exact X'.warmed.alike) hp hb k1 k2 k3 T' rfl X'
    exact ⟨t2, st t2 a1, b1⟩
  · obtain ⟨k1, k2, k3⟩ := vx_keep h0 e1 hS hAX hf hL hF
    obtain ⟨t2, a1, b1⟩ := kx E ce q u t T'.heap (locs ++ L) e1.symm (by rw [← e2]; exact X'.warmed.alike) hp hb k1 k2 k3 (by rw [e1]; exact hce) hcv hcl T' rfl X'
    exact ⟨t2, st.trans a1, b1⟩
/-- caught by the row x of this method's table; the rows ahead don't take it -/
theorem vx_catch {own name : String} {E : String} {ce : Cell} {q : Addr} (hown : s.vm.findClass own = some m.cls) (pre : List ExceptionTableEntry) (x : ExceptionTableEntry) (suf : List ExceptionTableEntry) (hsplit : c.exceptionTable.toList = pre ++ x :: suf)
    (hpass : ∀ z ∈ pre, covers z pc = false ∨ (z.catchType ≠ 0 ∧ ∃ nm : String, (Cond.classLink own z.catchType nm).before args s = true ∧ va_Nc E nm s)) (hx : covers x pc = true) (h0 : x.catchType ≠ 0)
    (hlink : (Cond.classLink own x.catchType name).before args s = true) (hcast : (Cond.castable E name).before args s = true) (hcell : H[q]? = some ce) (hv : ce.vm = .none) (hcl : s.vm.findClass E = some ce.cls)
    (kk : W p l e R s m args below meth c H locs cells slots Q (F0 m x.handlerPc ls [.ref q])) : vx_W p l e R s m args below meth c H locs cells slots Q (F0 m pc ls rest) q := by
  intro T hT X
  have hpl : e.platform.magicAccessors = ({} : Platform).magicAccessors := by rw [X.admits.platform]
  obtain ⟨c3, c4, hc3, hc4, hasg⟩ := Cond.castable_spec hcast
  cases Option.some.inj (hc3.symm.trans hcl)
  obtain ⟨c5, hc5, hcl5⟩ := Cond.classLink_spec hown hlink e.platform hpl
  cases Option.some.inj (hc4.symm.trans hc5)
  obtain ⟨vm', X', st⟩ := X.thenCaughtThrough q (g := F0 m pc ls rest) rfl (Steps.refl _) (by rw [hT]; exact hcell) (by rw [hv]; rfl) (by obtain ⟨k9, h9, -⟩ := Vm.findClass_spec hcl; exact ⟨k9, h9⟩) pre x suf hsplit
    (fun z hz => by
      rcases hpass z hz with h | ⟨hz0, nm, hl1, hn1⟩
      · exact Or.inl h
      · obtain ⟨c6, hc6, hcl6⟩ := Cond.classLink_spec hown hl1 e.platform hpl
        obtain ⟨a8, b8, h1, h2, h3⟩ := hn1
        cases Option.some.inj (h1.symm.trans hcl)
        cases Option.some.inj (h2.symm.trans hc6)
        exact Or.inr ⟨hz0, _, hcl6, h3⟩) hx (Or.inr ⟨h0, c4, hcl5, hasg⟩)
  obtain ⟨t, a1, b1⟩ := kk (T.setVm vm') hT X'
  exact ⟨t, st.trans a1, b1⟩
end Rows
section Ends
variable {p : Program} {l : Launch} {e : Env} {R : Room} {s : State} {m : MethodId} {args : Array Value} {below : List Frame} {meth : Method} {c : Code} {H : Heap} {locs : List Loc} {cells slots : Nat} {Q : State → Prop}
variable {mc ms : Nat} {free : Addr → Prop} {A0 A1 : Nat → Prop} {H0 : Heap} {a : Array Value} {ls : Array Slot} {st0 rest : List Value}
variable {Qc : Array Value → State → Outcome → State → Prop} {XC : String → State → State → Prop}
/-- what a body that may throw owes at its end -/
def vx_MQ (below : List Frame) (Qc : Array Value → State → Outcome → State → Prop) (XC : String → State → State → Prop) (a : Array Value) (s : State) (mc ms : Nat) (free : Addr → Prop) : State → Prop := fun t =>
  ∃ o, t.status = .running ∧ Ended t below o ∧ vx_Q Qc XC mc ms free a s o t
theorem vx_ret {g : JFrame} {mc ms : Nat} (k : W p l e R s m args below meth c H locs cells slots (MQ below Qc args s mc ms free) g) : W p l e R s m args below meth c H locs cells slots (vx_MQ below Qc XC args s mc ms free) g := by
  intro T hT X
  obtain ⟨t, a1, o, b1, b2, b3, b4⟩ := k T hT X
  exact ⟨t, a1, o, b1, b2, Or.inl ⟨b3, b4⟩⟩
/-- not caught here: it goes on to the caller -/
theorem vx_widen {g : JFrame} {q : Addr} {k n : Nat} (h1 : cells ≤ k) (h2 : slots ≤ n) (kk : vx_W p l e R s m args below meth c H locs k n Q g q) : vx_W p l e R s m args below meth c H locs cells slots Q g q := fun T hT X => kk T hT (stand_widen X h1 h2)
theorem vx_out {pc : Nat} {E : String} {ce : Cell} {q : Addr} {mc ms : Nat} (hout : ∀ x ∈ c.exceptionTable.toList, covers x pc = false) (hlocks : meth.locks = false) (hcell : H[q]? = some ce) (hv : ce.vm = .none) (hcl : s.vm.findClass E = some ce.cls)
    (hx : ∀ t : State, t.heap = H → s.vm.Alike t.vm → XC E s t) (hf : ∀ z ∈ locs, free z.base) (hc : cells ≤ mc) (hs : slots ≤ ms) :
    vx_W p l e R s m args below meth c H locs cells slots (vx_MQ below Qc XC args s mc ms free) (F0 m pc ls rest) q := by
  intro T hT X
  obtain ⟨st1, hrun, hend, hW, hsm⟩ := X.leaveThrown q (g := F0 m pc ls rest) rfl rfl rfl hout hlocks
  have hcell9 : (T.setFrames (.throwing q :: below)).heap[q]? = some ce := by
    show T.heap[q]? = some ce
    rw [hT]; exact hcell
  exact ⟨_, st1, .threw q, hrun, hend, Or.inr ⟨q, rfl, E, ce, locs, hx _ hT hW.alike, hcell9, hv, hcl, hW, hsm.mono hc hs, hf⟩⟩
theorem vx_frame {U : State} {k n : Nat} (h : s.sameButNew ({ U with vm := s.vm } : State) locs k n) : s.heap.size ≤ U.heap.size ∧ ∀ q : Nat, q < s.heap.size → (∀ z ∈ locs, z.base ≠ q) → U.heap[q]? = s.heap[q]? := by
  obtain ⟨-, h2, -, -, -, h6⟩ := h
  refine ⟨h2, fun q hq hz => ?_⟩
  obtain ⟨c9, e1, e2, e3, e4⟩ := h6 q _ (Array.getElem?_eq_getElem hq)
  have hs : c9.slots = (s.heap[q]).slots := Array.ext_getElem? fun i => e4 i fun hm => hz _ hm rfl
  have h9 : c9 = s.heap[q] := by
    rw [hs] at e2
    exact e2
  have e5 : U.heap[q]? = some c9 := e1
  rw [e5, h9, Array.getElem?_eq_getElem hq]
/-- the words of a throw but the four that speak of the heap -/
def vx_no (w : Cond) : Bool := decide (w ≠ .isRef (.static Bundle.tN "UNASSIGNED_STACK" Bundle.steD)) && decide (w ≠ .isRef (.static Bundle.tN "SUPPRESSED_SENTINEL" Bundle.listD)) && decide (w ≠ .laysStatic Bundle.tN "UNASSIGNED_STACK" Bundle.steD) && decide (w ≠ .laysStatic Bundle.tN "SUPPRESSED_SENTINEL" Bundle.listD)
def vx_at0 (own : String) (ic : Nat) (X : String) (names : List String) : List Cond := (Bundle.ownAtoms0 own ic X names).filter vx_no
def vx_atS (own : String) (ic : Nat) (X : String) (names : List String) : List Cond := (Bundle.ownAtoms own ic X names).filter vx_no
/-- a word that the tables alone decide, or a good one -/
def vx_ot (w : Cond) : Bool := w.onTables || goodWord w
theorem vx_ot_at {args a' : Array Value} {s U : State} {w : Cond} (hW : s.WarmedH U.vm) (hvm : s.vm = U.vm) (hg : vx_ot w = true) (h : w.before args s = true) : w.before a' U = true := by
  simp only [vx_ot, Bool.or_eq_true] at hg
  rcases hg with hg | hg
  · exact va_tabs hg hvm h
  · exact word_at hW (good_of_word hg) h
/-- a list's words: the good ones out of the method's own list, the others by premises of their own -/
theorem vx_hat {args : Array Value} {s : State} {L B : List Cond} (h1 : ∀ w ∈ L.filter goodWord, w.before args s = true) (h2 : ∀ w ∈ L.filter (fun w => !goodWord w), w ∈ B) (h3 : ∀ w ∈ B, w.before args s = true) : ∀ w ∈ L, w.before args s = true := by
  intro w hw
  by_cases g : goodWord w = true
  · exact h1 w (List.mem_filter.mpr ⟨hw, g⟩)
  · refine h3 w (h2 w (List.mem_filter.mpr ⟨hw, ?_⟩))
    show (!goodWord w) = true
    cases hgw : goodWord w
    · rfl
    · exact absurd hgw g
theorem vx_c {args : Array Value} {s : State} {w : Cond} {B : List Cond} (h : w.before args s = true) (t : ∀ w ∈ B, w.before args s = true) : ∀ w' ∈ w :: B, w'.before args s = true := fun w' h' => (List.mem_cons.mp h').elim (fun e => by rw [e]; exact h) (t w')
theorem vx_n {args : Array Value} {s : State} : ∀ w ∈ ([] : List Cond), w.before args s = true := fun _ h => nomatch h
theorem vx_own {args : Array Value} {s : State} {L : List Cond} (h1 : ∀ w ∈ L.filter vx_no, w.before args s = true)
    (hU : (Cond.isRef (.static Bundle.tN "UNASSIGNED_STACK" Bundle.steD)).before args s = true) (hN : (Cond.isRef (.static Bundle.tN "SUPPRESSED_SENTINEL" Bundle.listD)).before args s = true)
    (lU : (Cond.laysStatic Bundle.tN "UNASSIGNED_STACK" Bundle.steD).before args s = true) (lN : (Cond.laysStatic Bundle.tN "SUPPRESSED_SENTINEL" Bundle.listD).before args s = true) : ∀ w ∈ L, w.before args s = true := by
  intro w hw
  by_cases e1 : w = .isRef (.static Bundle.tN "UNASSIGNED_STACK" Bundle.steD)
  · rw [e1]; exact hU
  · by_cases e2 : w = .isRef (.static Bundle.tN "SUPPRESSED_SENTINEL" Bundle.listD)
    · rw [e2]; exact hN
    · by_cases e3 : w = .laysStatic Bundle.tN "UNASSIGNED_STACK" Bundle.steD
      · rw [e3]; exact lU
      · by_cases e4 : w = .laysStatic Bundle.tN "SUPPRESSED_SENTINEL" Bundle.listD
        · rw [e4]; exact lN
        · exact h1 w (List.mem_filter.mpr ⟨hw, by unfold vx_no; rw [decide_eq_true e1, decide_eq_true e2, decide_eq_true e3, decide_eq_true e4]; rfl⟩)
/-- where a static field lies, its class's statics cell in H -/
def vx_L (C n d : String) (A : Nat → Prop) (U : State) (H : Heap) : Prop := ∃ (c : ClassId) (k : Class) (i : Nat) (f : Field) (a : Nat) (cell : Cell), U.vm.findClass C = some c ∧ U.fieldFound? C n d = some (c, k, i, f) ∧ f.isStatic = true ∧ k.statics = some a ∧ H[a]? = some cell ∧ cell.vm.isStatics = true ∧ cell.cls = c ∧ f.slot < cell.slots.size ∧ k.staticTypes[f.slot]? = some f.type ∧ ¬ A a
theorem vx_L.moved {C n d : String} {A : Nat → Prop} {u U : State} {H : Heap} (hvm : u.vm.Alike U.vm) (h : vx_L C n d A u H) : vx_L C n d A U H := by
  obtain ⟨c, k, i, f, a, cell, h1, h2, h3, h4, h5, h6, h7, h8, h9, h10⟩ := h
  obtain ⟨k', hi', he⟩ := State.fieldFound?_setVm hvm h2
  exact ⟨c, k', i, f, a, cell, by rw [hvm.findClass]; exact h1, hi', h3, by rw [he]; exact h4, h5, h6, h7, h8, by rw [he]; exact h9, h10⟩
theorem vx_L.kept {C n d : String} {A : Nat → Prop} {U : State} {H H1 : Heap} (h : vx_L C n d A U H) (hq : ∀ a : Nat, a < H.size → ¬ A a → H1[a]? = H[a]?) : vx_L C n d A U H1 := by
  obtain ⟨c, k, i, f, a, cell, h1, h2, h3, h4, h5, h6, h7, h8, h9, h10⟩ := h
  exact ⟨c, k, i, f, a, cell, h1, h2, h3, h4, by rw [hq a (Array.getElem?_eq_some_iff.mp h5).1 h10]; exact h5, h6, h7, h8, h9, h10⟩
theorem vx_L.narrow {C n d : String} {A B : Nat → Prop} {U : State} {H : Heap} (h : vx_L C n d A U H) (hAB : ∀ q, B q → A q) : vx_L C n d B U H := by
  obtain ⟨c, k, i, f, a, cell, h1, h2, h3, h4, h5, h6, h7, h8, h9, h10⟩ := h
  exact ⟨c, k, i, f, a, cell, h1, h2, h3, h4, h5, h6, h7, h8, h9, fun z => h10 (hAB _ z)⟩
theorem vx_L.word {C n d : String} {A : Nat → Prop} {s : State} {args : Array Value} (h : vx_L C n d A s s.heap) : (Cond.laysStatic C n d).before args s = true := by
  obtain ⟨c, k, i, f, a, cell, h1, h2, h3, h4, h5, h6, h7, h8, h9, -⟩ := h
  show (Cond.laysStatic C n d).holds args s none s [] = true
  exact Cond.laysStatic_of h1 h2 h3 h4 h5 h6 h7 h8 h9
/-- .. and what it holds: null or some reference -/
def vx_Zq (C n d : String) (A : Nat → Prop) (U : State) (H : Heap) : Prop := va_Zq C n d A U H ∧ vx_L C n d A U H
theorem vx_Zq.moved {C n d : String} {A : Nat → Prop} {u U : State} {H : Heap} (hvm : u.vm.Alike U.vm) (h : vx_Zq C n d A u H) : vx_Zq C n d A U H := ⟨va_Zq.moved hvm h.1, vx_L.moved hvm h.2⟩
theorem vx_Zq.kept {C n d : String} {A : Nat → Prop} {U : State} {H H1 : Heap} (h : vx_Zq C n d A U H) (hq : ∀ a : Nat, a < H.size → ¬ A a → H1[a]? = H[a]?) : vx_Zq C n d A U H1 := ⟨va_Zq.kept h.1 hq, vx_L.kept h.2 hq⟩
theorem vx_Zq.narrow {C n d : String} {A B : Nat → Prop} {U : State} {H : Heap} (h : vx_Zq C n d A U H) (hAB : ∀ q, B q → A q) : vx_Zq C n d B U H := ⟨va_Zq.narrow h.1 hAB, vx_L.narrow h.2 hAB⟩
theorem vx_Zqof {args : Array Value} {s : State} {C n d : String} {A : Nat → Prop} (hl : (Cond.laysStatic C n d).before args s = true) (hini : (Cond.initialized C).before args s = true) (h : (Cond.isRef (.static C n d)).before args s = true) (hA : ∀ a : Nat, a < s.heap.size → ¬ A a) : vx_Zq C n d A s s.heap := by
  refine ⟨va_Zqof hl hini h hA, ?_⟩
  obtain ⟨c, k, i, f, a, cell, h1, h2, h3, h4, h5, h6, h7, h8, h9⟩ := Cond.laysStatic_spec hl
  exact ⟨c, k, i, f, a, cell, h1, h2, h3, h4, h5, h6, h7, h8, h9, hA a (Array.getElem?_eq_some_iff.mp h5).1⟩
theorem vx_isRef {C n d : String} {v : Value} {A : Nat → Prop} {s : State} {args : Array Value} (h : va_Z C n d v A s s.heap) (hv : v.isRef = true) : (Cond.isRef (.static C n d)).before args s = true := by
  obtain ⟨cf, kf, fi, f, a, cell, h1, h2, h3, h4, h5, h6, h7, -⟩ := h
  have he : (Term.static C n d).eval args s none [] s = some v := by
    simp [Term.eval, State.fieldNamed?, h1, h2, h4, h5, h6, h7]
  simp only [Cond.before, Cond.holds, Cond.value, he]
  cases v <;> simp_all [Value.isRef]
theorem vx_isRefq {C n d : String} {A : Nat → Prop} {s : State} {args : Array Value} (h : va_Zq C n d A s s.heap) : (Cond.isRef (.static C n d)).before args s = true := by
  rcases h with h | ⟨t, h⟩
  · exact vx_isRef h rfl
  · exact vx_isRef h rfl
/-- the same frame, seen from here: as if the method were called anew in this heap -/
theorem vx_rebase {T : State} (X : Stand p l e R s m args below meth c T locs cells slots) {R' : Room} (hf : R'.frames ≤ R.frames) (hl : R'.locals ≤ R.locals) (hc : cells + R'.cells ≤ R.cells) (hs : slots + R'.slots ≤ R.slots) :
    Stand p l e R' ((T.setVm s.vm).setFrames (.invoking m args :: below)) m args below meth c T [] 0 0 := by
  have htop : (T.setVm s.vm).topJava?.isSome := X.here.top
  have hF : ((T.setVm s.vm).setFrames (.invoking m args :: below)).frames = .invoking m args :: below := State.frames_setFrames _ (State.cur_lt_of_top htop)
  obtain ⟨g₀, hg0⟩ := Option.isSome_iff_exists.mp htop
  obtain ⟨r, hr⟩ := State.topJava?_eq_some.mp hg0
  have hl9 : e.platform.stackLimits (T.setVm s.vm).me = e.platform.stackLimits s.me := X.limits
  have hb9 : (T.setVm s.vm).me.stackBytes = s.me.stackBytes := X.bytes
  refine ⟨X.admits, X.cas, X.clock, hF, ?_, X.hears, X.method, X.code, X.here, X.tail, X.warmed, ?_, ?_, ?_⟩
  · have h := X.room
    have hU : ((T.setVm s.vm).setFrames (.invoking m args :: below)).localsInUse = s.localsInUse := by
      rw [State.localsInUse_invoking hF (meth := meth) (c := c) X.method X.code, State.localsInUse_invoking X.frames X.method X.code]
    simp only [State.hasRoom, Bool.and_eq_true, decide_eq_true_eq] at h ⊢
    obtain ⟨⟨⟨⟨h1, h2, h3, h4, h5, h6⟩, h7⟩, h8⟩, h9⟩ := h
    rw [X.frames, List.length_cons] at h2 h3
    have q1 := X.heapSize
    have q2 := X.used
    simp only [hF, hU, List.length_cons, State.stackLimits_setFrames, State.stackBytes_setFrames, hl9, hb9]
    refine ⟨⟨⟨⟨by omega, by omega, by omega, by omega, by omega, h6⟩, ?_⟩, ?_⟩, X.book⟩
    · show T.heap.size + R'.cells ≤ e.platform.maxCells
      omega
    · show T.slotsUsed + R'.slots ≤ e.platform.maxSlots
      omega
  · rw [State.stackLimits_setFrames]; rfl
  · rw [State.stackBytes_setFrames]; rfl
  · refine ⟨?_, Nat.le_refl _, Nat.le_refl _, ?_, ?_, fun a c9 h9 => ⟨c9, h9, rfl, rfl, fun _ _ => rfl⟩⟩
    · obtain ⟨t, ht, -⟩ := State.frames_cons hr
      show T.setVm s.vm = { ((T.setVm s.vm).setFrames (.invoking m args :: below)).setFrames (T.setVm s.vm).frames with heap := T.heap, slotsUsed := T.slotsUsed }
      rw [State.setFrames_setFrames, State.setFrames_self ht]
      rfl
    · show T.slotsUsed = T.slotsUsed + ((T.heap.toList.drop T.heap.size).map (·.slots.size)).sum
      rw [List.drop_eq_nil_of_le (Nat.le_of_eq Array.length_toList)]
      rfl
    · show ((T.heap.toList.drop T.heap.size).map (·.slots.size)).sum ≤ 0
      rw [List.drop_eq_nil_of_le (Nat.le_of_eq Array.length_toList)]
      exact Nat.le_refl _
/-- 'throw new E()': new; dup; invokespecial; athrow -/
theorem vx_throw0 {cc : ByteArray} {pc : Nat} (hexec : p.tables.exec = Jvm.exec) (hb : c.code = cc) (hl : l.stackTraces = false) {own cls : String} {names : List String} {ik ic mc ms : Nat} {A : Nat → Prop}
    (hown : s.vm.findClass own = some m.cls) (hcls : Bundle.fit cls = true) (hnames : ∀ n ∈ names, Bundle.fit n = true)
    (hk : (Cond.classLink own ik cls).before args s = true) (hini : (Cond.initialized cls).before args s = true) (hat : ∀ w ∈ vx_at0 own ic cls names, w.before args s = true)
    (hgood : ∀ w ∈ Cond.classLink own ik cls :: Cond.initialized cls :: vx_at0 own ic cls names, vx_ot w = true)
    (hU : vx_Zq Bundle.tN "UNASSIGNED_STACK" Bundle.steD A s s.heap) (hN : vx_Zq Bundle.tN "SUPPRESSED_SENTINEL" Bundle.listD A s s.heap) (hS : va_S A s.heap H locs) (hsize : ls.size = c.maxLocals)
    (d0 : decode cc pc = .ok (.new ik, 3)) (d3 : decode cc (pc + 3) = .ok (.dup, 1)) (d4 : decode cc (pc + 4) = .ok (.invokespecial ic, 3)) (d7 : decode cc (pc + 7) = .ok (.athrow, 1))
    (hout : ∀ x ∈ c.exceptionTable.toList, covers x (pc + 7) = false)
    (hRframes : names.length + 3 < R.frames) (hRlocals : (rest.map fun v => v.category).sum + (13 * (names.length + 1) + 42) ≤ R.locals) (hRcells : cells + 1 ≤ R.cells) (hRslots : slots + 6 ≤ R.slots) (hlocks : meth.locks = false)
    (hx : ∀ t : State, s.vm.Alike t.vm → H.size ≤ t.heap.size → (∀ q : Nat, q < H.size → t.heap[q]? = H[q]?) → XC cls s t)
    (hf : ∀ z ∈ locs, free z.base) (hc : cells + 1 ≤ mc) (hs : slots + 6 ≤ ms) :
    W p l e R s m args below meth c H locs cells slots (vx_MQ below Qc XC args s mc ms free) (F0 m pc ls rest) := by
  intro T hT X
  have htr : e.platform.stackTraces = false := (show e.platform.stackTraces = l.stackTraces by rw [X.admits.platform]).trans hl
  have Y := vx_rebase X (R' := { frames := R.frames, locals := R.locals, cells := 1, slots := 6 }) (Nat.le_refl _) (Nat.le_refl _) hRcells hRslots
  obtain ⟨s', hA⟩ : ∃ z, z = (T.setVm s.vm).setFrames (.invoking m args :: below) := ⟨_, rfl⟩
  rw [← hA] at Y
  have hvm : s'.vm = s.vm := by rw [hA]; rfl
  have hhp : s'.heap = H := by rw [hA]; exact hT
  have hW0 : s.WarmedH s'.vm := by rw [hvm]; exact State.WarmedH.refl s
  have hat' : ∀ w ∈ vx_at0 own ic cls names, w.before args s' = true := fun w hw => vx_ot_at hW0 hvm.symm (hgood w (List.mem_cons_of_mem _ (List.mem_cons_of_mem _ hw))) (hat w hw)
  have hk' : (Cond.classLink own ik cls).before args s' = true := vx_ot_at hW0 hvm.symm (hgood _ List.mem_cons_self) hk
  have hini' : (Cond.initialized cls).before args s' = true := vx_ot_at hW0 hvm.symm (hgood _ (List.mem_cons_of_mem _ List.mem_cons_self)) hini
  have hU' : vx_Zq Bundle.tN "UNASSIGNED_STACK" Bundle.steD A s' s'.heap := by rw [hhp]; exact vx_Zq.moved hW0.alike (hU.kept hS.2.1)
  have hN' : vx_Zq Bundle.tN "SUPPRESSED_SENTINEL" Bundle.listD A s' s'.heap := by rw [hhp]; exact vx_Zq.moved hW0.alike (hN.kept hS.2.1)
  have h : ∀ w ∈ Bundle.ownAtoms0 own ic cls names, w.before args s' = true := vx_own hat' (vx_isRefq hU'.1) (vx_isRefq hN'.1) hU'.2.word hN'.2.word
  have hown' : s'.vm.findClass own = some m.cls := by rw [hvm]; exact hown
  have hins : (Cond.instantiable cls 6).before args s' = true := h _ (by simp [Bundle.ownAtoms0])
  obtain ⟨vm₁, cX, kX, hfX, hkX, -, -, X₁, st1⟩ := Y.newCold hexec (own := own) (C := cls) (index := ik) (n := 6) hown' hk' hins hini'
    (g := F0 m pc ls rest) rfl (by rw [hb]; exact d0) (Nat.le_refl _) (Nat.le_refl _)
  generalize hT1 : (T.setVm vm₁).pushCell { cls := cX, slots := kX.instanceTypes.map defaultValue, vm := .none } = T1 at X₁ st1
  have hcat : (Value.ref T.heap.size).category = 1 := rfl
  have hcellA : T1.heap[T.heap.size]? = some (freshCell cX kX) := by rw [← hT1]; exact State.heap_pushCell_size _ _
  have d3' : decode c.code (pc + 3) = .ok (.dup, 1) := by rw [hb]; exact d3
  obtain ⟨U, hsteps, hrun, hend, hW, hsame, ce, hce, hO⟩ := X₁.ctorThrow0 hexec htr (own := own) (cls := cls) (names := names) (ic := ic) hown' hcls hnames h (fun x hx => nomatch hx) hfX hkX hcellA (by rw [hhp, hT]; exact Nat.le_refl _)
    (g := { method := m, pc := pc + 4, locals := ls, stack := .ref T.heap.size :: .ref T.heap.size :: rest, locked := none }) rfl hsize rfl rfl (rest := rest) rfl
    (by rw [hb]; exact d4) (by rw [hb]; exact d7) hout hRframes (by simp only [List.map_cons, List.sum_cons, hcat]; omega) hlocks
  obtain ⟨f1, f2⟩ := vx_frame hsame
  rw [hhp] at f1 f2
  have hWs : s.WarmedH U.vm := State.WarmedH.trans hW0 hW
  have hcl : s.vm.findClass cls = some ce.cls := by
    have h9 := hO.cls
    rw [hvm] at h9
    exact h9
  have hall : s.sameButNew ({ U with vm := s.vm } : State) locs mc ms := by
    subst hA
    obtain ⟨e1, e2⟩ := hsame
    rw [State.setFrames_setFrames] at e1
    have h2 : (T.setVm s.vm).sameButNew ({ U with vm := s.vm } : State) [] (0 + 1) (0 + 6) := ⟨e1, e2⟩
    have h3 := X.same.trans h2
    rw [List.append_nil] at h3
    exact h3.mono hc hs
  refine ⟨U, ?_, .threw T.heap.size, hrun, hend, Or.inr ⟨T.heap.size, rfl, cls, ce, locs, hx U hWs.alike f1 (fun q hq => f2 q hq (fun z hz => nomatch hz)), hce, hO.vm, hcl, hWs, hall, hf⟩⟩
  refine st1 _ ?_
  show Steps p.tables e below (T1.setTop { method := m, pc := pc + 3, locals := ls, stack := .ref T.heap.size :: rest, locked := none }) _
  jvm_step X₁.here [X₁.here.top, hexec, d3', Value.category]
  exact hsteps
/-- 'throw new E("text")': new; dup; ldc; invokespecial; athrow -/
theorem vx_throwS {cc : ByteArray} {pc : Nat} (hexec : p.tables.exec = Jvm.exec) (hb : c.code = cc) (hl : l.stackTraces = false) {own cls text : String} {names : List String} {ik is ic mc ms sa : Nat} {A : Nat → Prop}
    (hown : s.vm.findClass own = some m.cls) (hcls : Bundle.fit cls = true) (hnames : ∀ n ∈ names, Bundle.fit n = true)
    (hk : (Cond.classLink own ik cls).before args s = true) (hini : (Cond.initialized cls).before args s = true) (hstr : vk_R own is text sa s) (hat : ∀ w ∈ vx_atS own ic cls names, w.before args s = true)
    (hgood : ∀ w ∈ Cond.classLink own ik cls :: Cond.initialized cls :: vx_atS own ic cls names, vx_ot w = true)
    (hU : vx_Zq Bundle.tN "UNASSIGNED_STACK" Bundle.steD A s s.heap) (hN : vx_Zq Bundle.tN "SUPPRESSED_SENTINEL" Bundle.listD A s s.heap) (hS : va_S A s.heap H locs) (hsize : ls.size = c.maxLocals)
    (d0 : decode cc pc = .ok (.new ik, 3)) (d3 : decode cc (pc + 3) = .ok (.dup, 1)) (d4 : decode cc (pc + 4) = .ok (.ldc is, 2)) (d6 : decode cc (pc + 6) = .ok (.invokespecial ic, 3)) (d9 : decode cc (pc + 9) = .ok (.athrow, 1))
    (hout : ∀ x ∈ c.exceptionTable.toList, covers x (pc + 9) = false)
    (hRframes : names.length + 3 < R.frames) (hRlocals : (rest.map fun v => v.category).sum + (13 * (names.length + 1) + 43) ≤ R.locals) (hRcells : cells + 1 ≤ R.cells) (hRslots : slots + 6 ≤ R.slots) (hlocks : meth.locks = false)
    (hx : ∀ t : State, s.vm.Alike t.vm → H.size ≤ t.heap.size → (∀ q : Nat, q < H.size → t.heap[q]? = H[q]?) → XC cls s t)
    (hf : ∀ z ∈ locs, free z.base) (hc : cells + 1 ≤ mc) (hs : slots + 6 ≤ ms) :
    W p l e R s m args below meth c H locs cells slots (vx_MQ below Qc XC args s mc ms free) (F0 m pc ls rest) := by
  intro T hT X
  have htr : e.platform.stackTraces = false := (show e.platform.stackTraces = l.stackTraces by rw [X.admits.platform]).trans hl
  have Y := vx_rebase X (R' := { frames := R.frames, locals := R.locals, cells := 1, slots := 6 }) (Nat.le_refl _) (Nat.le_refl _) hRcells hRslots
  obtain ⟨s', hA⟩ : ∃ z, z = (T.setVm s.vm).setFrames (.invoking m args :: below) := ⟨_, rfl⟩
  rw [← hA] at Y
  have hvm : s'.vm = s.vm := by rw [hA]; rfl
  have hhp : s'.heap = H := by rw [hA]; exact hT
  have hW0 : s.WarmedH s'.vm := by rw [hvm]; exact State.WarmedH.refl s
  have hat' : ∀ w ∈ vx_atS own ic cls names, w.before args s' = true := fun w hw => vx_ot_at hW0 hvm.symm (hgood w (List.mem_cons_of_mem _ (List.mem_cons_of_mem _ hw))) (hat w hw)
  have hk' : (Cond.classLink own ik cls).before args s' = true := vx_ot_at hW0 hvm.symm (hgood _ List.mem_cons_self) hk
  have hini' : (Cond.initialized cls).before args s' = true := vx_ot_at hW0 hvm.symm (hgood _ (List.mem_cons_of_mem _ List.mem_cons_self)) hini
  have hU' : vx_Zq Bundle.tN "UNASSIGNED_STACK" Bundle.steD A s' s'.heap := by rw [hhp]; exact vx_Zq.moved hW0.alike (hU.kept hS.2.1)
  have hN' : vx_Zq Bundle.tN "SUPPRESSED_SENTINEL" Bundle.listD A s' s'.heap := by rw [hhp]; exact vx_Zq.moved hW0.alike (hN.kept hS.2.1)
  have h : ∀ w ∈ Bundle.ownAtoms own ic cls names, w.before args s' = true := vx_own hat' (vx_isRefq hU'.1) (vx_isRefq hN'.1) hU'.2.word hN'.2.word
  have hown' : s'.vm.findClass own = some m.cls := by rw [hvm]; exact hown
  have hins : (Cond.instantiable cls 6).before args s' = true := h _ (by simp [Bundle.ownAtoms])
  obtain ⟨vm₁, cX, kX, hfX, hkX, -, -, X₁, st1⟩ := Y.newCold hexec (own := own) (C := cls) (index := ik) (n := 6) hown' hk' hins hini'
    (g := F0 m pc ls rest) rfl (by rw [hb]; exact d0) (Nat.le_refl _) (Nat.le_refl _)
  generalize hT1 : (T.setVm vm₁).pushCell { cls := cX, slots := kX.instanceTypes.map defaultValue, vm := .none } = T1 at X₁ st1
  have hcat : (Value.ref T.heap.size).category = 1 := rfl
  have hcellA : T1.heap[T.heap.size]? = some (freshCell cX kX) := by rw [← hT1]; exact State.heap_pushCell_size _ _
  have d3' : decode c.code (pc + 3) = .ok (.dup, 1) := by rw [hb]; exact d3
  have d4' : decode c.code (pc + 4) = .ok (.ldc is, 2) := by rw [hb]; exact d4
  have hstr' : vk_R own is text sa s' := vk_R.warm hW0 hstr
  obtain ⟨U, hsteps, hrun, hend, hW, hsame, ce, hce, hO⟩ := X₁.ctorThrowS hexec htr (own := own) (cls := cls) (names := names) (ic := ic) hown' hcls hnames h (fun x hx => nomatch hx) hfX hkX hcellA (by rw [hhp, hT]; exact Nat.le_refl _) (msg := .ref sa) rfl
    (g := { method := m, pc := pc + 6, locals := ls, stack := .ref sa :: .ref T.heap.size :: .ref T.heap.size :: rest, locked := none }) rfl hsize rfl rfl (rest := rest) rfl
    (by rw [hb]; exact d6) (by rw [hb]; exact d9) hout hRframes (by simp only [List.map_cons, List.sum_cons, hcat]; omega) hlocks
  obtain ⟨f1, f2⟩ := vx_frame hsame
  rw [hhp] at f1 f2
  have hWs : s.WarmedH U.vm := State.WarmedH.trans hW0 hW
  have hcl : s.vm.findClass cls = some ce.cls := by
    have h9 := hO.cls
    rw [hvm] at h9
    exact h9
  have hall : s.sameButNew ({ U with vm := s.vm } : State) locs mc ms := by
    subst hA
    obtain ⟨e1, e2⟩ := hsame
    rw [State.setFrames_setFrames] at e1
    have h2 : (T.setVm s.vm).sameButNew ({ U with vm := s.vm } : State) [] (0 + 1) (0 + 6) := ⟨e1, e2⟩
    have h3 := X.same.trans h2
    rw [List.append_nil] at h3
    exact h3.mono hc hs
  refine ⟨U, ?_, .threw T.heap.size, hrun, hend, Or.inr ⟨T.heap.size, rfl, cls, ce, locs, hx U hWs.alike f1 (fun q hq => f2 q hq (fun z hz => nomatch hz)), hce, hO.vm, hcl, hWs, hall, hf⟩⟩
  refine st1 _ ?_
  show Steps p.tables e below (T1.setTop { method := m, pc := pc + 3, locals := ls, stack := .ref T.heap.size :: rest, locked := none }) _
  jvm_step X₁.here [X₁.here.top, hexec, d3', Value.category]
  exact X₁.ldcString hexec (own := own) (text := text) (index := is) (a := sa) hown' hstr'.1 hstr'.2
    (g := { method := m, pc := pc + 4, locals := ls, stack := .ref T.heap.size :: .ref T.heap.size :: rest, locked := none }) rfl d4' _ hsteps
/-- 'throw new E("text")', the text by a wide index -/
theorem vx_throwSW {cc : ByteArray} {pc : Nat} (hexec : p.tables.exec = Jvm.exec) (hb : c.code = cc) (hl : l.stackTraces = false) {own cls text : String} {names : List String} {ik is ic mc ms sa : Nat} {A : Nat → Prop}
    (hown : s.vm.findClass own = some m.cls) (hcls : Bundle.fit cls = true) (hnames : ∀ n ∈ names, Bundle.fit n = true)
    (hk : (Cond.classLink own ik cls).before args s = true) (hini : (Cond.initialized cls).before args s = true) (hstr : vk_R own is text sa s) (hat : ∀ w ∈ vx_atS own ic cls names, w.before args s = true)
    (hgood : ∀ w ∈ Cond.classLink own ik cls :: Cond.initialized cls :: vx_atS own ic cls names, vx_ot w = true)
    (hU : vx_Zq Bundle.tN "UNASSIGNED_STACK" Bundle.steD A s s.heap) (hN : vx_Zq Bundle.tN "SUPPRESSED_SENTINEL" Bundle.listD A s s.heap) (hS : va_S A s.heap H locs) (hsize : ls.size = c.maxLocals)
    (d0 : decode cc pc = .ok (.new ik, 3)) (d3 : decode cc (pc + 3) = .ok (.dup, 1)) (d4 : decode cc (pc + 4) = .ok (.ldc_w is, 3)) (d7 : decode cc (pc + 7) = .ok (.invokespecial ic, 3)) (d10 : decode cc (pc + 10) = .ok (.athrow, 1))
    (hout : ∀ x ∈ c.exceptionTable.toList, covers x (pc + 10) = false)
    (hRframes : names.length + 3 < R.frames) (hRlocals : (rest.map fun v => v.category).sum + (13 * (names.length + 1) + 43) ≤ R.locals) (hRcells : cells + 1 ≤ R.cells) (hRslots : slots + 6 ≤ R.slots) (hlocks : meth.locks = false)
    (hx : ∀ t : State, s.vm.Alike t.vm → H.size ≤ t.heap.size → (∀ q : Nat, q < H.size → t.heap[q]? = H[q]?) → XC cls s t)
    (hf : ∀ z ∈ locs, free z.base) (hc : cells + 1 ≤ mc) (hs : slots + 6 ≤ ms) :
    W p l e R s m args below meth c H locs cells slots (vx_MQ below Qc XC args s mc ms free) (F0 m pc ls rest) := by
  intro T hT X
  have htr : e.platform.stackTraces = false := (show e.platform.stackTraces = l.stackTraces by rw [X.admits.platform]).trans hl
  have Y := vx_rebase X (R' := { frames := R.frames, locals := R.locals, cells := 1, slots := 6 }) (Nat.le_refl _) (Nat.le_refl _) hRcells hRslots
  obtain ⟨s', hA⟩ : ∃ z, z = (T.setVm s.vm).setFrames (.invoking m args :: below) := ⟨_, rfl⟩
  rw [← hA] at Y
  have hvm : s'.vm = s.vm := by rw [hA]; rfl
  have hhp : s'.heap = H := by rw [hA]; exact hT
  have hW0 : s.WarmedH s'.vm := by rw [hvm]; exact State.WarmedH.refl s
  have hat' : ∀ w ∈ vx_atS own ic cls names, w.before args s' = true := fun w hw => vx_ot_at hW0 hvm.symm (hgood w (List.mem_cons_of_mem _ (List.mem_cons_of_mem _ hw))) (hat w hw)
  have hk' : (Cond.classLink own ik cls).before args s' = true := vx_ot_at hW0 hvm.symm (hgood _ List.mem_cons_self) hk
  have hini' : (Cond.initialized cls).before args s' = true := vx_ot_at hW0 hvm.symm (hgood _ (List.mem_cons_of_mem _ List.mem_cons_self)) hini
  have hU' : vx_Zq Bundle.tN "UNASSIGNED_STACK" Bundle.steD A s' s'.heap := by rw [hhp]; exact vx_Zq.moved hW0.alike (hU.kept hS.2.1)
  have hN' : vx_Zq Bundle.tN "SUPPRESSED_SENTINEL" Bundle.listD A s' s'.heap := by rw [hhp]; exact vx_Zq.moved hW0.alike (hN.kept hS.2.1)
  have h : ∀ w ∈ Bundle.ownAtoms own ic cls names, w.before args s' = true := vx_own hat' (vx_isRefq hU'.1) (vx_isRefq hN'.1) hU'.2.word hN'.2.word
  have hown' : s'.vm.findClass own = some m.cls := by rw [hvm]; exact hown
  have hins : (Cond.instantiable cls 6).before args s' = true := h _ (by simp [Bundle.ownAtoms])
  obtain ⟨vm₁, cX, kX, hfX, hkX, -, -, X₁, st1⟩ := Y.newCold hexec (own := own) (C := cls) (index := ik) (n := 6) hown' hk' hins hini'
    (g := F0 m pc ls rest) rfl (by rw [hb]; exact d0) (Nat.le_refl _) (Nat.le_refl _)
  generalize hT1 : (T.setVm vm₁).pushCell { cls := cX, slots := kX.instanceTypes.map defaultValue, vm := .none } = T1 at X₁ st1
  have hcat : (Value.ref T.heap.size).category = 1 := rfl
  have hcellA : T1.heap[T.heap.size]? = some (freshCell cX kX) := by rw [← hT1]; exact State.heap_pushCell_size _ _
  have d3' : decode c.code (pc + 3) = .ok (.dup, 1) := by rw [hb]; exact d3
  have d4' : decode c.code (pc + 4) = .ok (.ldc_w is, 3) := by rw [hb]; exact d4
  have hstr' : vk_R own is text sa s' := vk_R.warm hW0 hstr
  obtain ⟨U, hsteps, hrun, hend, hW, hsame, ce, hce, hO⟩ := X₁.ctorThrowS hexec htr (own := own) (cls := cls) (names := names) (ic := ic) hown' hcls hnames h (fun x hx => nomatch hx) hfX hkX hcellA (by rw [hhp, hT]; exact Nat.le_refl _) (msg := .ref sa) rfl
    (g := { method := m, pc := pc + 7, locals := ls, stack := .ref sa :: .ref T.heap.size :: .ref T.heap.size :: rest, locked := none }) rfl hsize rfl rfl (rest := rest) rfl
    (by rw [hb]; exact d7) (by rw [hb]; exact d10) hout hRframes (by simp only [List.map_cons, List.sum_cons, hcat]; omega) hlocks
  obtain ⟨f1, f2⟩ := vx_frame hsame
  rw [hhp] at f1 f2
  have hWs : s.WarmedH U.vm := State.WarmedH.trans hW0 hW
  have hcl : s.vm.findClass cls = some ce.cls := by
    have h9 := hO.cls
    rw [hvm] at h9
    exact h9
  have hall : s.sameButNew ({ U with vm := s.vm } : State) locs mc ms := by
    subst hA
    obtain ⟨e1, e2⟩ := hsame
    rw [State.setFrames_setFrames] at e1
    have h2 : (T.setVm s.vm).sameButNew ({ U with vm := s.vm } : State) [] (0 + 1) (0 + 6) := ⟨e1, e2⟩
    have h3 := X.same.trans h2
    rw [List.append_nil] at h3
    exact h3.mono hc hs
  refine ⟨U, ?_, .threw T.heap.size, hrun, hend, Or.inr ⟨T.heap.size, rfl, cls, ce, locs, hx U hWs.alike f1 (fun q hq => f2 q hq (fun z hz => nomatch hz)), hce, hO.vm, hcl, hWs, hall, hf⟩⟩
  refine st1 _ ?_
  show Steps p.tables e below (T1.setTop { method := m, pc := pc + 3, locals := ls, stack := .ref T.heap.size :: rest, locked := none }) _
  jvm_step X₁.here [X₁.here.top, hexec, d3', Value.category]
  exact X₁.ldcStringW hexec (own := own) (text := text) (index := is) (a := sa) hown' hstr'.1 hstr'.2
    (g := { method := m, pc := pc + 4, locals := ls, stack := .ref T.heap.size :: .ref T.heap.size :: rest, locked := none }) rfl d4' _ hsteps
end Ends
section Bodies
variable {l : Launch}
theorem vx_ofW {y : MethodName} {ws ws' : List Cond} {rm : Room} {Pc : Array Value → State → Prop} {Qc : Array Value → State → Outcome → State → Prop} {XC : String → State → State → Prop} {mc ms : Nat} {free : Addr → Prop} {cc : ByteArray} {maxL : Nat} {ret : Option FieldType}
    (hy : plainName y.cls = true) (hw : ws = Cond.code y cc maxL ret :: ws')
    (body : ∀ p e s m args below meth c s₁, BodyLoose p l y (headSpec ws rm) cc maxL ret e s m args below meth c s₁ → c.maxLocals = maxL → (∀ x ∈ c.exceptionTable.toList, False) → Pc args s →
      W p l e (headSpec ws rm).room s m args below meth c s.heap [] 0 0 (vx_MQ below Qc XC args s mc ms free) (entryFrame m args maxL)) : vx_Met l y ws rm Pc Qc XC mc ms free := by
  refine MetFree.of_bodyS (code := cc) (maxLocals := maxL) (ret := ret) hy ?_ ?_
  · intro args s m h hn
    obtain ⟨meth, c, h1, h2, h3, h4, h5, h6, -, -⟩ := Cond.code_spec hn (atoms_spec (ws := ws) h _ (by rw [hw]; exact List.mem_cons_self))
    exact ⟨meth, c, h1, h2, h3, h4, h5, h6⟩
  · intro p e s m args below meth c s₁ B hml hP _
    have hh0 : s₁.heap = s.heap := by rw [B.state]; rfl
    have ht : ∀ x ∈ c.exceptionTable.toList, False := by
      obtain ⟨meth9, c9, h1, h2, -, -, -, -, h7, -⟩ := Cond.code_spec B.named (atoms_spec (ws := ws) B.pre _ (by rw [hw]; exact List.mem_cons_self))
      cases Option.some.inj (h1.symm.trans B.method)
      cases Option.some.inj (h2.symm.trans (Stand.of_body B).code)
      intro x hx
      rw [Array.isEmpty_iff.mp h7] at hx
      cases hx
    obtain ⟨t, a1, o, b1, b2, b3⟩ := body p e s m args below meth c s₁ B hml ht hP s₁ hh0 (Stand.of_body B)
    exact ⟨t, o, a1, b1, b2, b3⟩
/-- the table of a body with handlers -/
theorem vx_table {p : Program} {x y : MethodName} {S : Spec} {cc bytes : ByteArray} {maxL maxL' : Nat} {ret ret' : Option FieldType} {e : Env} {s s₁ : State} {m : MethodId} {args : Array Value} {below : List Frame} {meth : Method} {c : Code} {hh : List (Nat × Nat × Nat × Nat)}
    (B : BodyLoose p l y S cc maxL ret e s m args below meth c s₁) (h : (Cond.codeWith y bytes maxL' ret' hh).before args s = true) : c.exceptionTable.toList = tableOf hh := by
  obtain ⟨m9, meth9, c9, hn9, h1, h2, -, -, h6, -⟩ := Cond.codeWith_spec h
  cases Option.some.inj (hn9.symm.trans B.named)
  cases Option.some.inj (h1.symm.trans B.method)
  cases Option.some.inj (h2.symm.trans (Stand.of_body B).code)
  rw [← h6, table_eq]
end Bodies
end VXA
/-! ===== END ===== -/
/-! ===== BEGIN a static call of a method with an exception table ===== -/
section VXS
variable {p : Program} {l : Launch} {e : Env} {R : Room} {s : State} {m : MethodId} {args : Array Value} {below : List Frame} {meth : Method} {c : Code} {T : State} {H : Heap} {locs : List Loc} {cells slots : Nat}
abbrev vx_CSW (R : Room) (s : State) (args : Array Value) (own : String) (index : Nat) (y : MethodName) (bytes : ByteArray) (maxL : Nat) (ret : Option FieldType) (hh : List (Nat × Nat × Nat × Nat)) (ws : List Cond) (rm : Room) (mc ms n : Nat) : Prop :=
  (rm.cells = mc ∧ rm.slots = ms ∧ rm.frames + 1 ≤ R.frames ∧ 8 + (maxL + 11) + rm.locals ≤ R.locals ∧ (∀ w ∈ ws, ∀ (a' : Array Value) (U : State), s.WarmedH U.vm → w.before a' U = true) ∧ Cond.codeWith y bytes maxL ret hh ∈ ws) ∧
  (Cond.codeWith y bytes maxL ret hh).before args s = true ∧ (Cond.initialized y.cls).before args s = true ∧ (y.cls ≠ "java/lang/invoke/MethodHandle" ∧ y.cls ≠ "java/lang/invoke/VarHandle") ∧
  (∀ sig, parseMethodDescriptor y.desc = some sig → n = sig.parameters.length) ∧ (Cond.methodLink own index y).before args s = true ∧ (Cond.static y).before args s = true
theorem vx_cwSW {own : String} {index maxL mc ms : Nat} {y : MethodName} {bytes : ByteArray} {ret : Option FieldType} {hh : List (Nat × Nat × Nat × Nat)} {Ts ws ws' : List Cond} {rm : Room} (n : Nat) (ht : ∀ w ∈ Ts, w.before args s = true) (hT : GoodIn Ts (va_wsS own index y ws)) (hw : ws = Cond.codeWith y bytes maxL ret hh :: ws') (hrc : rm.cells = mc) (hrs : rm.slots = ms)
    (hd : y.cls ≠ "java/lang/invoke/MethodHandle" ∧ y.cls ≠ "java/lang/invoke/VarHandle" ∧ (parseMethodDescriptor y.desc).map (fun d => d.parameters.length) = some n) (hR : rm.frames + 1 ≤ R.frames ∧ 8 + (maxL + 11) + rm.locals ≤ R.locals) :
    vx_CSW R s args own index y bytes maxL ret hh ws rm mc ms n := by
  have ok : ∀ w ∈ va_wsS own index y ws, w.before args s = true := fun w h => ht w (hT w h).1
  have hG : GoodIn Ts ws := fun w h => hT w (by unfold va_wsS; exact List.mem_append_right _ h)
  have hc : Cond.codeWith y bytes maxL ret hh ∈ ws := by rw [hw]; exact List.mem_cons_self
  refine ⟨⟨hrc, hrs, hR.1, hR.2, pay_in ht hG, hc⟩, ht _ (hG _ hc).1, ok _ (by simp [va_wsS]), ⟨hd.1, hd.2.1⟩, fun sig h => ?_, ok _ (by simp [va_wsS]), ok _ (by simp [va_wsS])⟩
  have h2 := hd.2.2
  rw [h] at h2
  exact (Option.some.inj h2).symm
theorem vx_callSW (X : Stand p l e R s m args below meth c T locs cells slots) (hexec : p.tables.exec = Jvm.exec) {own : String} {index : Nat} {y : MethodName} {bytes : ByteArray} {maxL : Nat} {ret : Option FieldType} {hh : List (Nat × Nat × Nat × Nat)}
    (hown : s.vm.findClass own = some m.cls) (hlink : (Cond.methodLink own index y).before args s = true) (hstat : (Cond.static y).before args s = true) (hinit : (Cond.initialized y.cls).before args s = true)
    (hcode : (Cond.codeWith y bytes maxL ret hh).before args s = true) (hy : y.cls ≠ "java/lang/invoke/MethodHandle" ∧ y.cls ≠ "java/lang/invoke/VarHandle")
    {W9 : Nat} {Pre : Pt → Array Value → Prop} {Post : Pt → Array Value → Option Value → Pt → Prop} (hK : Back l R p e below s args y 3 W9 Pre Post)
    {g : JFrame} (hg : g.method = m) (hsize : g.locals.size = c.maxLocals) {argsL rest : List Value} (hlen : ∀ sig, parseMethodDescriptor y.desc = some sig → argsL.length = sig.parameters.length)
    (hstack : g.stack = argsL.reverse ++ rest) (hW : 2 * g.monitorRoom + (rest.map fun v => v.category).sum ≤ W9) (hdg : decode c.code g.pc = .ok (.invokestatic index, 3))
    (hpre : ∀ vm₁, s.WarmedH vm₁ → Pre ⟨T.setVm vm₁, locs, cells, slots⟩ argsL.toArray) :
    ∃ (v : Option Value) (vm₁ : Vm) (B : Pt), s.WarmedH vm₁ ∧ Stand p l e R s m args below meth c B.U B.locs B.cells B.slots ∧ Post ⟨T.setVm vm₁, locs, cells, slots⟩ argsL.toArray v B ∧
      ∀ target, Steps p.tables e below (B.U.setTop { g with pc := g.pc + 3, stack := v.toList ++ rest }) target → Steps p.tables e below (T.setTop g) target := by
  obtain ⟨mk, methM, cM, hnamed, hmethM, -, -, -, -, -, -, hsigM⟩ := Cond.codeWith_spec hcode
  have hstatic : methM.isStatic = true := Cond.static_spec hnamed hmethM hstat
  obtain ⟨kP, hkP, -⟩ := className_of_methodNamed hnamed
  have hinitP : kP.init = .initialized := Cond.initialized_spec (findClass_of_methodNamed hnamed) hkP hinit
  obtain ⟨vm₁, X₁, hstep₁⟩ := X.invokestatic hexec hown hlink hnamed hmethM hstatic hkP hinitP hy (g := g) hg (argsL := argsL) (rest := rest) (hlen _ hsigM) hstack hdg
  obtain ⟨v, B, X', hpost, hsteps⟩ := hK m meth c ⟨T.setVm vm₁, locs, cells, slots⟩ { g with stack := rest } (.invokestatic index) mk argsL.toArray X₁ hg hsize hdg hW (X₁.named hnamed) (hpre vm₁ X₁.warmed)
  exact ⟨v, vm₁, B, X₁.warmed, X', hpost, fun target h => hstep₁ _ fun acts => by rw [doInvoke_state]; exact hsteps.trans h⟩
theorem vx_runSW {y : MethodName} {bytes cc : ByteArray} {maxL nL mc ms n index : Nat} {ret : Option FieldType} {hh : List (Nat × Nat × Nat × Nat)} {ws : List Cond} {rm : Room} {Pc : Array Value → State → Prop} {Qc : Array Value → State → Outcome → State → Prop} {free : Addr → Prop} {Ts : List Cond} {own : String} {As rest : List Value} {g : JFrame}
    (S : CallFix p m c cc nL s args Ts own) (hM : Met l y ws rm Pc Qc mc ms free) (cw : vx_CSW R s args own index y bytes maxL ret hh ws rm mc ms n) (hp : PreS s H Pc As)
    (hg : g.method = m) (hn : As.length = n) (hsize : g.locals.size = nL) (hstack : g.stack = As.reverse ++ rest) (hW : 2 * g.monitorRoom + (rest.map fun v => v.category).sum ≤ 8) (hdg : decode cc g.pc = .ok (.invokestatic index, 3)) (hf : cells + mc ≤ R.cells ∧ slots + ms ≤ R.slots) :
    va_Run p l e R s m args below meth c H locs cells slots mc ms g rest (Qc As.toArray) (free) := by
  obtain ⟨⟨hrc, hrs, hfr, hlo, hws, hcw⟩, hcode, hini, hy, hlen, hl, hstt⟩ := cw
  have hK : Back l R p e below s args y 3 8 (PreOf R mc ms Pc) (PostOf Qc mc ms free) := va_backW (hh := hh) (bytes := bytes) (maxL := maxL) (ret := ret) hM hp.1 hrc hrs hfr hlo hws hcw (fun a' U hW => word_at hW (Or.inl (by first | rfl | simp [Cond.onTables, Cond.keeps, Cond.steady])) hini)
  obtain ⟨hx, hb, hml, ho, -⟩ := S
  intro T hT X
  obtain ⟨v, vm₁, ⟨U', l2, c2, s2⟩, hW₁, X', ⟨g', mk, t, L, e1, e2, hq, h1, hL, h2, h3⟩, st⟩ := vx_callSW X hx (hh := hh) (bytes := bytes) (maxL := maxL) (ret := ret) ho hl hstt hini hcode hy hK hg (hsize.trans hml.symm) (argsL := As) (rest := rest) (fun sig h => hn.trans (hlen sig h)) hstack hW (by rw [hb]; exact hdg)
    (fun vm₁ hW₁ => ⟨hf.1, hf.2, hp.2 (T.setVm vm₁) hT hW₁⟩)
  dsimp only [Pt.U, Pt.locs, Pt.cells, Pt.slots] at X' e1 e2 h1 h2 h3 st
  subst h1; subst h2; subst h3
  exact ⟨v, (T.setVm vm₁).calling g' mk As.toArray, t, U', L, hT, X', hL, e1, e2, hq, st⟩
/-- not caught here, past rows that name other classes: it goes on to the caller -/
theorem vx_outP {p : Program} {l : Launch} {e : Env} {R : Room} {s : State} {m : MethodId} {args : Array Value} {below : List Frame} {meth : Method} {c : Code} {H : Heap} {locs : List Loc} {cells slots : Nat} {free : Addr → Prop} {ls : Array Slot} {rest : List Value} {Qc : Array Value → State → Outcome → State → Prop} {XC : String → State → State → Prop}
    {pc : Nat} {own E : String} {ce : Cell} {q : Addr} {mc ms : Nat} (hown : s.vm.findClass own = some m.cls) (hlocks : meth.locks = false)
    (hpass : ∀ z ∈ c.exceptionTable.toList, covers z pc = false ∨ (z.catchType ≠ 0 ∧ ∃ nm : String, (Cond.classLink own z.catchType nm).before args s = true ∧ va_Nc E nm s)) (hcell : H[q]? = some ce) (hv : ce.vm = .none) (hcl : s.vm.findClass E = some ce.cls)
    (hx : ∀ t : State, t.heap = H → s.vm.Alike t.vm → XC E s t) (hf : ∀ z ∈ locs, free z.base) (hc : cells ≤ mc) (hs : slots ≤ ms) :
    vx_W p l e R s m args below meth c H locs cells slots (vx_MQ below Qc XC args s mc ms free) (F0 m pc ls rest) q := by
  intro T hT X
  have hpl : e.platform.magicAccessors = ({} : Platform).magicAccessors := by rw [X.admits.platform]
  obtain ⟨vm', hW', X', st⟩ := X.outThrough hlocks q (g := F0 m pc ls rest) rfl rfl rfl (cell := ce) (by rw [hT]; exact hcell) (by rw [hv]; rfl)
    (by obtain ⟨k9, h9, -⟩ := Vm.findClass_spec hcl; exact ⟨k9, h9⟩) (fun z hz => by
      rcases hpass z hz with h | ⟨hz0, nm, hl1, hn1⟩
      · exact Or.inl h
      · obtain ⟨c6, hc6, hcl6⟩ := Cond.classLink_spec hown hl1 e.platform hpl
        obtain ⟨a8, b8, h1, h2, h3⟩ := hn1
        cases Option.some.inj (h1.symm.trans hcl)
        cases Option.some.inj (h2.symm.trans hc6)
        exact Or.inr ⟨hz0, _, hcl6, h3⟩)
  obtain ⟨g₀, hfr⟩ := X'.frames_eq
  have hcell9 : ((T.setVm vm').setFrames (.throwing q :: below)).heap[q]? = some ce := by
    show T.heap[q]? = some ce
    rw [hT]; exact hcell
  have hend : Ended ((T.setVm vm').setFrames (.throwing q :: below)) below (.threw q) := State.frames_setFrames _ (State.cur_lt_of_frames hfr)
  refine ⟨(T.setVm vm').setFrames (.throwing q :: below), ?_, .threw q, X'.here.running, hend, Or.inr ⟨q, rfl, E, ce, locs, hx _ hT (X'.ends _).1.alike, hcell9, hv, hcl, (X'.ends _).1, (X'.ends _).2.mono hc hs, hf⟩⟩
  rw [X.pushThrowing_eq]
  exact st
/-- a thing of a world lies in the heap -/
theorem vx_lt {D : va_G} {cl : List vw_C} {ws : va_W} {H1 : Heap} (h : va_P D cl ws H1) {k : Nat} {q : Nat × va_E} (hk : ws[k]? = some q) : q.1 < H1.size := (h k q hk).lt
end VXS
/-! ===== END ===== -/
/-! ===== BEGIN methods with a table of their own: called by a name, returning or throwing ===== -/
section VXH
/-! vx_backW, vx_callVX, vx_callSX, vx_callVW, vx_runVW, vx_runVX, vx_runSX, vx_ofWH follow the same proofs as their sisters above (Free/Laws.lean, Shelf42/LK1.lean); vx_outP calls Shelf42/NT130.lean (outThrough). -/
section
variable {l : Launch} {R : Room} {p : Program} {e : Env} {below : List Frame} {s : State} {sargs : Array Value} {y : MethodName} {len W9 : Nat}
theorem vx_backW {ws : List Cond} {rm : Room} {Pc : Array Value → State → Prop} {Qc : Array Value → State → Outcome → State → Prop} {XC : String → State → State → Prop} {mc ms : Nat} {free : Addr → Prop} {bytes : ByteArray} {maxL : Nat} {ret : Option FieldType} {hh : List (Nat × Nat × Nat × Nat)}
    (hM : vx_Met l y ws rm Pc Qc XC mc ms free) (hblind : FrameBlind Pc) (hrc : rm.cells = mc) (hrs : rm.slots = ms)
    (hframes : rm.frames + 1 ≤ R.frames) (hlocals : W9 + (maxL + 11) + rm.locals ≤ R.locals)
    (hws : ∀ w ∈ ws, ∀ a' U, s.WarmedH U.vm → w.before a' U = true) (hcode : Cond.codeWith y bytes maxL ret hh ∈ ws) (hinit : ∀ a' U, s.WarmedH U.vm → (Cond.initialized y.cls).before a' U = true) :
    vx_Back l R p e below s sargs y len W9 (PreOf R mc ms Pc) (PostOf Qc mc ms free) (vx_Post XC mc ms free) := by
  intro m meth c A g ig mk a X hg hsize hdg hW hn hp
  have h1 : (headSpec ws rm).pre.before a A.U = true := atoms_intro fun w hw => hws w hw _ _ X.warmed
  have h2 : (Cond.codeWith y bytes maxL ret hh).before a A.U = true := hws _ hcode _ _ X.warmed
  have h3 : (Cond.initialized y.cls).before a A.U = true := hinit _ _ X.warmed
  have h4 : A.cells + (headSpec ws rm).room.cells ≤ R.cells := by rw [show (headSpec ws rm).room.cells = mc from hrc]; exact hp.1
  have h5 : A.slots + (headSpec ws rm).room.slots ≤ R.slots := by rw [show (headSpec ws rm).room.slots = ms from hrs]; exact hp.2.1
  have hPc : Pc a (A.U.calling g mk a) := hblind _ _ _ _ hp.2.2
  obtain ⟨U, Ls, c0, s0⟩ := A
  dsimp only [Pt.U, Pt.locs, Pt.cells, Pt.slots] at h1 h2 h3 h4 h5 X hn hPc ⊢
  obtain ⟨m9, methY, cY, hn9, hmY, hcY, -, hlY, -⟩ := Cond.codeWith_spec h2
  cases Option.some.inj (hn9.symm.trans hn)
  obtain ⟨kY, hkY, -⟩ := className_of_methodNamed hn
  have hinitY : kY.init = .initialized := Cond.initialized_spec (findClass_of_methodNamed hn) hkY h3
  have h : At U g.method c below := by rw [hg]; exact X.here
  have hlocals9 : W9 + (maxL + 11) + (headSpec ws rm).room.locals ≤ R.locals := hlocals
  have happ : (headSpec ws rm).appliesLoose y e.platform (U.calling g mk a) = true :=
    Spec.appliesLoose_calling (g := g) h hdg hn hkY hinitY
      (X.room_calling (g := g) (R' := (headSpec ws rm).room) hsize hmY hcY hframes (by rw [hlY]; omega) h4 h5) h1
  obtain ⟨mid, hmid⟩ := h.above
  have hfr : (U.setTop g).frames = (.java g :: mid) ++ below := by rw [State.frames_setTop' g h.top, hmid]; rfl
  obtain ⟨o, s₂, hsteps, -, hend, hq⟩ := Steps.callFree hM p X.admits X.cas X.clock (acts := []) hfr happ hPc trivial
  have hq' : vx_Q Qc XC mc ms free a (U.calling g mk a) o s₂ := hq
  rw [State.frames_setTop' g h.top] at hend
  obtain ⟨g₀, hg0⟩ := Option.isSome_iff_exists.mp h.top
  obtain ⟨r, hr⟩ := State.topJava?_eq_some.mp hg0
  have hr' : (({ U with heap := s₂.heap, slotsUsed := s₂.slotsUsed } : State).setVm s₂.vm).frames = .java g₀ :: r := hr
  rcases hq' with ⟨hqc, L, hfe, hL⟩ | ⟨q, rfl, E, ce, L, hx, hce, hcv, hcl, hW₂, hsm, hL⟩
  · obtain ⟨⟨v, rfl⟩, hW₂, e2, q2, q3, q4, q5, q6⟩ := id hfe
    have e3 : s₂ = ({ (U.calling g mk a).setFrames s₂.frames with heap := s₂.heap, slotsUsed := s₂.slotsUsed } : State).setVm s₂.vm := by
      have : s₂ = ({ s₂ with vm := (U.calling g mk a).vm } : State).setVm s₂.vm := rfl
      rw [e2] at this
      exact this
    obtain ⟨c₂, i₂, len₂, hc₂, hd₂, hf₂⟩ := hend
    have hW' : U.WarmedH s₂.vm := hW₂
    have hcc : c₂ = c := by
      have h1 : s₂.code? g.method = U.code? g.method := by
        rw [State.code?_eq, State.code?_eq, hW'.alike.method?]
      exact Option.some.inj (hc₂.symm.trans (h1.trans h.code))
    subst hcc
    have hlen : len₂ = len := by rw [hdg] at hd₂; cases hd₂; rfl
    subst hlen
    have hs₂ : s₂ = (({ U with heap := s₂.heap, slotsUsed := s₂.slotsUsed } : State).setVm s₂.vm).setTop { g with pc := g.pc + len₂, stack := v.toList ++ g.stack } := by
      refine e3.trans ?_
      rw [hf₂, State.calling_eq h.top, State.setFrames_setFrames, State.setTop_of_frames _ hr', hr]
      rfl
    have hsame : U.sameButNew ({ U with heap := s₂.heap, slotsUsed := s₂.slotsUsed } : State) L mc ms := by
      refine ⟨?_, q2, q3, q4, q5, q6⟩
      obtain ⟨t, ht, -⟩ := State.frames_cons hr
      show ({ U with heap := s₂.heap, slotsUsed := s₂.slotsUsed } : State) = { U.setFrames U.frames with heap := s₂.heap, slotsUsed := s₂.slotsUsed }
      rw [State.setFrames_self ht]
    subst hg
    refine Or.inl ⟨v, ⟨(({ U with heap := s₂.heap, slotsUsed := s₂.slotsUsed } : State).setVm s₂.vm), Ls ++ L, c0 + mc, s0 + ms⟩,
      ⟨X.admits, X.cas, X.clock, X.frames, X.room, X.hears, X.method, X.code, (X.here.setHeapUsed s₂.heap s₂.slotsUsed).setVm hW'.alike, X.tail, State.WarmedH.trans X.warmed hW', X.limits, X.bytes, X.same.trans (hsame.setVm s.vm)⟩,
      ⟨g, mk, s₂, L, rfl, rfl, hqc, rfl, hL, rfl, rfl⟩, ?_⟩
    show Steps p.tables e below _ ((({ U with heap := s₂.heap, slotsUsed := s₂.slotsUsed } : State).setVm s₂.vm).setTop { g with pc := g.pc + len₂, stack := v.toList ++ g.stack })
    rw [← hs₂]
    exact hsteps
  · obtain ⟨e2, q2, q3, q4, q5, q6⟩ := id hsm
    have e3 : s₂ = ({ (U.calling g mk a).setFrames s₂.frames with heap := s₂.heap, slotsUsed := s₂.slotsUsed } : State).setVm s₂.vm := by
      have : s₂ = ({ s₂ with vm := (U.calling g mk a).vm } : State).setVm s₂.vm := rfl
      rw [e2] at this
      exact this
    have hf₂ : s₂.frames = .throwing q :: .java g :: U.frames.tail := hend
    have hW' : U.WarmedH s₂.vm := hW₂
    have hs₂ : s₂ = ((({ U with heap := s₂.heap, slotsUsed := s₂.slotsUsed } : State).setVm s₂.vm).setTop g).pushFrame (.throwing q) := by
      refine e3.trans ?_
      rw [hf₂, State.calling_eq h.top, State.setFrames_setFrames, State.pushFrame, State.frames_setTop _ hr', State.setTop_of_frames _ hr', State.setFrames_setFrames, hr]
      rfl
    have hsame : U.sameButNew ({ U with heap := s₂.heap, slotsUsed := s₂.slotsUsed } : State) L mc ms := by
      refine ⟨?_, q2, q3, q4, q5, q6⟩
      obtain ⟨t, ht, -⟩ := State.frames_cons hr
      show ({ U with heap := s₂.heap, slotsUsed := s₂.slotsUsed } : State) = { U.setFrames U.frames with heap := s₂.heap, slotsUsed := s₂.slotsUsed }
      rw [State.setFrames_self ht]
    subst hg
    refine Or.inr ⟨q, ⟨(({ U with heap := s₂.heap, slotsUsed := s₂.slotsUsed } : State).setVm s₂.vm), Ls ++ L, c0 + mc, s0 + ms⟩,
      ⟨X.admits, X.cas, X.clock, X.frames, X.room, X.hears, X.method, X.code, (X.here.setHeapUsed s₂.heap s₂.slotsUsed).setVm hW'.alike, X.tail, State.WarmedH.trans X.warmed hW', X.limits, X.bytes, X.same.trans (hsame.setVm s.vm)⟩,
      ⟨g, mk, s₂, L, E, ce, rfl, rfl, hx, hce, hcv, hcl, rfl, hL, rfl, rfl⟩, ?_⟩
    show Steps p.tables e below _ (((({ U with heap := s₂.heap, slotsUsed := s₂.slotsUsed } : State).setVm s₂.vm).setTop g).pushFrame (.throwing q))
    rw [← hs₂]
    exact hsteps
end
variable {p : Program} {l : Launch} {e : Env} {R : Room} {s : State} {m : MethodId} {args : Array Value} {below : List Frame} {meth : Method} {c : Code} {T : State} {H : Heap} {locs : List Loc} {cells slots : Nat}
theorem vx_callVX (X : Stand p l e R s m args below meth c T locs cells slots) (hexec : p.tables.exec = Jvm.exec) {own C : String} {index : Nat} {y : MethodName} {bytes : ByteArray} {maxL : Nat} {ret : Option FieldType} {hh : List (Nat × Nat × Nat × Nat)}
    (hown : s.vm.findClass own = some m.cls) (hlink : (Cond.methodLink own index y).before args s = true) (hinst : (Cond.instanceMethod y).before args s = true) (hsel : (Cond.selects C y y).before args s = true)
    (hcode : (Cond.codeWith y bytes maxL ret hh).before args s = true) (hy : y.cls ≠ "java/lang/invoke/MethodHandle" ∧ y.cls ≠ "java/lang/invoke/VarHandle")
    {W9 : Nat} {Pre : Pt → Array Value → Prop} {Post : Pt → Array Value → Option Value → Pt → Prop} {PostX : Pt → Array Value → Addr → Pt → Prop} (hK : vx_Back l R p e below s args y 3 W9 Pre Post PostX)
    {b : Addr} {cellB : Cell} (hcell : T.heap[b]? = some cellB) (hobj : cellB.vm.isStatics = false) (hcls : s.vm.findClass C = some cellB.cls)
    {g : JFrame} (hg : g.method = m) (hsize : g.locals.size = c.maxLocals) {argsL rest : List Value} (hlen : ∀ sig, parseMethodDescriptor y.desc = some sig → argsL.length = sig.parameters.length)
    (hstack : g.stack = argsL.reverse ++ .ref b :: rest) (hW : 2 * g.monitorRoom + (rest.map fun v => v.category).sum ≤ W9) (hdg : decode c.code g.pc = .ok (.invokevirtual index, 3))
    (hpre : ∀ vm₁, s.WarmedH vm₁ → Pre ⟨T.setVm vm₁, locs, cells, slots⟩ (Value.ref b :: argsL).toArray) :
    (∃ (v : Option Value) (vm₁ : Vm) (B : Pt), s.WarmedH vm₁ ∧ Stand p l e R s m args below meth c B.U B.locs B.cells B.slots ∧ Post ⟨T.setVm vm₁, locs, cells, slots⟩ (Value.ref b :: argsL).toArray v B ∧
      ∀ target, Steps p.tables e below (B.U.setTop { g with pc := g.pc + 3, stack := v.toList ++ rest }) target → Steps p.tables e below (T.setTop g) target) ∨
    (∃ (q : Addr) (vm₁ : Vm) (B : Pt), s.WarmedH vm₁ ∧ Stand p l e R s m args below meth c B.U B.locs B.cells B.slots ∧ PostX ⟨T.setVm vm₁, locs, cells, slots⟩ (Value.ref b :: argsL).toArray q B ∧
      Steps p.tables e below (T.setTop g) ((B.U.setTop { g with stack := rest }).pushFrame (.throwing q))) := by
  obtain ⟨mk, methM, hnamed, hmethM, hstM, habM⟩ := Cond.instanceMethod_spec hinst
  obtain ⟨m8, methM', cM, hn8, hmethM', -, -, -, -, -, -, hsigM⟩ := Cond.codeWith_spec hcode
  cases Option.some.inj (hn8.symm.trans hnamed)
  cases hmethM.symm.trans hmethM'
  obtain ⟨c2, r2, m2, q1, q2, q3, q4, kP, hkP, hkPi⟩ := Cond.selects_spec hsel
  cases hcls.symm.trans q1
  cases (State.methodFound?_of_named hnamed hy).symm.trans q2
  cases hnamed.symm.trans q3
  have hselP : selectMethod e.platform s.vm cellB.cls mk = .method mk := by rw [Launch.admits_selectMethod X.admits]; exact q4
  obtain ⟨vm₁, X₁, hstep₁⟩ := X.invokevirtual hexec hown hlink hnamed hmethM hstM hkP hkPi hy (a := b) (cell := cellB) hcell
    (fun z h => by rw [h] at hobj; cases hobj) hselP hmethM habM hkP hkPi (g := g) hg (argsL := argsL) (rest := rest) (hlen _ hsigM) hstack hdg
  rcases hK m meth c ⟨T.setVm vm₁, locs, cells, slots⟩ { g with stack := rest } (.invokevirtual index) mk (Value.ref b :: argsL).toArray X₁ hg hsize hdg hW (X₁.named hnamed) (hpre vm₁ X₁.warmed) with ⟨v, B, X', hpost, hsteps⟩ | ⟨q, B, X', hpost, hsteps⟩
  · exact Or.inl ⟨v, vm₁, B, X₁.warmed, X', hpost, fun target h => hstep₁ _ fun acts => by rw [doInvoke_state]; exact hsteps.trans h⟩
  · exact Or.inr ⟨q, vm₁, B, X₁.warmed, X', hpost, hstep₁ _ fun acts => by rw [doInvoke_state]; exact hsteps⟩
theorem vx_callSX (X : Stand p l e R s m args below meth c T locs cells slots) (hexec : p.tables.exec = Jvm.exec) {own : String} {index : Nat} {y : MethodName} {bytes : ByteArray} {maxL : Nat} {ret : Option FieldType} {hh : List (Nat × Nat × Nat × Nat)}
    (hown : s.vm.findClass own = some m.cls) (hlink : (Cond.methodLink own index y).before args s = true) (hstat : (Cond.static y).before args s = true) (hinit : (Cond.initialized y.cls).before args s = true)
    (hcode : (Cond.codeWith y bytes maxL ret hh).before args s = true) (hy : y.cls ≠ "java/lang/invoke/MethodHandle" ∧ y.cls ≠ "java/lang/invoke/VarHandle")
    {W9 : Nat} {Pre : Pt → Array Value → Prop} {Post : Pt → Array Value → Option Value → Pt → Prop} {PostX : Pt → Array Value → Addr → Pt → Prop} (hK : vx_Back l R p e below s args y 3 W9 Pre Post PostX)
    {g : JFrame} (hg : g.method = m) (hsize : g.locals.size = c.maxLocals) {argsL rest : List Value} (hlen : ∀ sig, parseMethodDescriptor y.desc = some sig → argsL.length = sig.parameters.length)
    (hstack : g.stack = argsL.reverse ++ rest) (hW : 2 * g.monitorRoom + (rest.map fun v => v.category).sum ≤ W9) (hdg : decode c.code g.pc = .ok (.invokestatic index, 3))
    (hpre : ∀ vm₁, s.WarmedH vm₁ → Pre ⟨T.setVm vm₁, locs, cells, slots⟩ argsL.toArray) :
    (∃ (v : Option Value) (vm₁ : Vm) (B : Pt), s.WarmedH vm₁ ∧ Stand p l e R s m args below meth c B.U B.locs B.cells B.slots ∧ Post ⟨T.setVm vm₁, locs, cells, slots⟩ argsL.toArray v B ∧
      ∀ target, Steps p.tables e below (B.U.setTop { g with pc := g.pc + 3, stack := v.toList ++ rest }) target → Steps p.tables e below (T.setTop g) target) ∨
    (∃ (q : Addr) (vm₁ : Vm) (B : Pt), s.WarmedH vm₁ ∧ Stand p l e R s m args below meth c B.U B.locs B.cells B.slots ∧ PostX ⟨T.setVm vm₁, locs, cells, slots⟩ argsL.toArray q B ∧
      Steps p.tables e below (T.setTop g) ((B.U.setTop { g with stack := rest }).pushFrame (.throwing q))) := by
  obtain ⟨mk, methM, cM, hnamed, hmethM, -, -, -, -, -, -, hsigM⟩ := Cond.codeWith_spec hcode
  have hstatic : methM.isStatic = true := Cond.static_spec hnamed hmethM hstat
  obtain ⟨kP, hkP, -⟩ := className_of_methodNamed hnamed
  have hinitP : kP.init = .initialized := Cond.initialized_spec (findClass_of_methodNamed hnamed) hkP hinit
  obtain ⟨vm₁, X₁, hstep₁⟩ := X.invokestatic hexec hown hlink hnamed hmethM hstatic hkP hinitP hy (g := g) hg (argsL := argsL) (rest := rest) (hlen _ hsigM) hstack hdg
  rcases hK m meth c ⟨T.setVm vm₁, locs, cells, slots⟩ { g with stack := rest } (.invokestatic index) mk argsL.toArray X₁ hg hsize hdg hW (X₁.named hnamed) (hpre vm₁ X₁.warmed) with ⟨v, B, X', hpost, hsteps⟩ | ⟨q, B, X', hpost, hsteps⟩
  · exact Or.inl ⟨v, vm₁, B, X₁.warmed, X', hpost, fun target h => hstep₁ _ fun acts => by rw [doInvoke_state]; exact hsteps.trans h⟩
  · exact Or.inr ⟨q, vm₁, B, X₁.warmed, X', hpost, hstep₁ _ fun acts => by rw [doInvoke_state]; exact hsteps⟩
theorem vx_callVW (X : Stand p l e R s m args below meth c T locs cells slots) (hexec : p.tables.exec = Jvm.exec) {own C : String} {index : Nat} {y : MethodName} {bytes : ByteArray} {maxL : Nat} {ret : Option FieldType} {hh : List (Nat × Nat × Nat × Nat)}
    (hown : s.vm.findClass own = some m.cls) (hlink : (Cond.methodLink own index y).before args s = true) (hinst : (Cond.instanceMethod y).before args s = true) (hsel : (Cond.selects C y y).before args s = true)
    (hcode : (Cond.codeWith y bytes maxL ret hh).before args s = true) (hy : y.cls ≠ "java/lang/invoke/MethodHandle" ∧ y.cls ≠ "java/lang/invoke/VarHandle")
    {W9 : Nat} {Pre : Pt → Array Value → Prop} {Post : Pt → Array Value → Option Value → Pt → Prop} (hK : Back l R p e below s args y 3 W9 Pre Post)
    {b : Addr} {cellB : Cell} (hcell : T.heap[b]? = some cellB) (hobj : cellB.vm.isStatics = false) (hcls : s.vm.findClass C = some cellB.cls)
    {g : JFrame} (hg : g.method = m) (hsize : g.locals.size = c.maxLocals) {argsL rest : List Value} (hlen : ∀ sig, parseMethodDescriptor y.desc = some sig → argsL.length = sig.parameters.length)
    (hstack : g.stack = argsL.reverse ++ .ref b :: rest) (hW : 2 * g.monitorRoom + (rest.map fun v => v.category).sum ≤ W9) (hdg : decode c.code g.pc = .ok (.invokevirtual index, 3))
    (hpre : ∀ vm₁, s.WarmedH vm₁ → Pre ⟨T.setVm vm₁, locs, cells, slots⟩ (Value.ref b :: argsL).toArray) :
    ∃ (v : Option Value) (vm₁ : Vm) (B : Pt), s.WarmedH vm₁ ∧ Stand p l e R s m args below meth c B.U B.locs B.cells B.slots ∧ Post ⟨T.setVm vm₁, locs, cells, slots⟩ (Value.ref b :: argsL).toArray v B ∧
      ∀ target, Steps p.tables e below (B.U.setTop { g with pc := g.pc + 3, stack := v.toList ++ rest }) target → Steps p.tables e below (T.setTop g) target := by
  obtain ⟨mk, methM, hnamed, hmethM, hstM, habM⟩ := Cond.instanceMethod_spec hinst
  obtain ⟨m8, methM', cM, hn8, hmethM', -, -, -, -, -, -, hsigM⟩ := Cond.codeWith_spec hcode
  cases Option.some.inj (hn8.symm.trans hnamed)
  cases hmethM.symm.trans hmethM'
  obtain ⟨c2, r2, m2, q1, q2, q3, q4, kP, hkP, hkPi⟩ := Cond.selects_spec hsel
  cases hcls.symm.trans q1
  cases (State.methodFound?_of_named hnamed hy).symm.trans q2
  cases hnamed.symm.trans q3
  have hselP : selectMethod e.platform s.vm cellB.cls mk = .method mk := by rw [Launch.admits_selectMethod X.admits]; exact q4
  obtain ⟨vm₁, X₁, hstep₁⟩ := X.invokevirtual hexec hown hlink hnamed hmethM hstM hkP hkPi hy (a := b) (cell := cellB) hcell
    (fun z h => by rw [h] at hobj; cases hobj) hselP hmethM habM hkP hkPi (g := g) hg (argsL := argsL) (rest := rest) (hlen _ hsigM) hstack hdg
  obtain ⟨v, B, X', hpost, hsteps⟩ := hK m meth c ⟨T.setVm vm₁, locs, cells, slots⟩ { g with stack := rest } (.invokevirtual index) mk (Value.ref b :: argsL).toArray X₁ hg hsize hdg hW (X₁.named hnamed) (hpre vm₁ X₁.warmed)
  exact ⟨v, vm₁, B, X₁.warmed, X', hpost, fun target h => hstep₁ _ fun acts => by rw [doInvoke_state]; exact hsteps.trans h⟩
abbrev vx_CVW (R : Room) (s : State) (args : Array Value) (own C : String) (index : Nat) (y : MethodName) (bytes : ByteArray) (maxL : Nat) (ret : Option FieldType) (hh : List (Nat × Nat × Nat × Nat)) (ws : List Cond) (rm : Room) (mc ms n : Nat) : Prop :=
  (rm.cells = mc ∧ rm.slots = ms ∧ rm.frames + 1 ≤ R.frames ∧ 8 + (maxL + 11) + rm.locals ≤ R.locals ∧ (∀ w ∈ ws, ∀ (a' : Array Value) (U : State), s.WarmedH U.vm → w.before a' U = true) ∧ Cond.codeWith y bytes maxL ret hh ∈ ws) ∧
  (Cond.codeWith y bytes maxL ret hh).before args s = true ∧ (Cond.initialized y.cls).before args s = true ∧ (y.cls ≠ "java/lang/invoke/MethodHandle" ∧ y.cls ≠ "java/lang/invoke/VarHandle") ∧
  (∀ sig, parseMethodDescriptor y.desc = some sig → n = sig.parameters.length) ∧ (Cond.methodLink own index y).before args s = true ∧ (Cond.instanceMethod y).before args s = true ∧ (Cond.selects C y y).before args s = true
theorem vx_cwVW {own C : String} {index maxL mc ms : Nat} {y : MethodName} {bytes : ByteArray} {ret : Option FieldType} {hh : List (Nat × Nat × Nat × Nat)} {Ts ws ws' : List Cond} {rm : Room} (n : Nat) (ht : ∀ w ∈ Ts, w.before args s = true) (hT : GoodIn Ts (wsV own index C y ws)) (hw : ws = Cond.codeWith y bytes maxL ret hh :: ws') (hrc : rm.cells = mc) (hrs : rm.slots = ms)
    (hd : y.cls = C ∧ y.cls ≠ "java/lang/invoke/MethodHandle" ∧ y.cls ≠ "java/lang/invoke/VarHandle" ∧ (parseMethodDescriptor y.desc).map (fun d => d.parameters.length) = some n) (hR : rm.frames + 1 ≤ R.frames ∧ 8 + (maxL + 11) + rm.locals ≤ R.locals) :
    vx_CVW R s args own C index y bytes maxL ret hh ws rm mc ms n := by
  obtain ⟨hC, hd⟩ := hd
  subst hC
  have ok : ∀ w ∈ wsV own index y.cls y ws, w.before args s = true := fun w h => ht w (hT w h).1
  have hG : GoodIn Ts ws := fun w h => hT w (by unfold wsV; exact List.mem_append_right _ h)
  have hc : Cond.codeWith y bytes maxL ret hh ∈ ws := by rw [hw]; exact List.mem_cons_self
  refine ⟨⟨hrc, hrs, hR.1, hR.2, pay_in ht hG, hc⟩, ht _ (hG _ hc).1, ok _ (by simp [wsV]), ⟨hd.1, hd.2.1⟩, fun sig h => ?_, ok _ (by simp [wsV]), ok _ (by simp [wsV]), ok _ (by simp [wsV])⟩
  have h2 := hd.2.2
  rw [h] at h2
  exact (Option.some.inj h2).symm
theorem vx_runVW {y : MethodName} {bytes cc : ByteArray} {maxL nL mc ms n index : Nat} {ret : Option FieldType} {hh : List (Nat × Nat × Nat × Nat)} {ws : List Cond} {rm : Room} {Pc : Array Value → State → Prop} {Qc : Array Value → State → Outcome → State → Prop} {free : Addr → Prop} {Ts : List Cond} {own C : String} {b : Addr} {As rest : List Value} {g : JFrame}
    (S : CallFix p m c cc nL s args Ts own) (hM : Met l y ws rm Pc Qc mc ms free) (cw : vx_CVW R s args own C index y bytes maxL ret hh ws rm mc ms n) (hp : PreV s H C b Pc As)
    (hg : g.method = m) (hn : As.length = n) (hsize : g.locals.size = nL) (hstack : g.stack = As.reverse ++ .ref b :: rest) (hW : 2 * g.monitorRoom + (rest.map fun v => v.category).sum ≤ 8) (hdg : decode cc g.pc = .ok (.invokevirtual index, 3)) (hf : cells + mc ≤ R.cells ∧ slots + ms ≤ R.slots) :
    va_Run p l e R s m args below meth c H locs cells slots mc ms g rest (Qc (Value.ref b :: As).toArray) free := by
  obtain ⟨⟨hrc, hrs, hfr, hlo, hws, hcw⟩, hcode, hini, hy, hlen, hl, hin, hse⟩ := cw
  have hK : Back l R p e below s args y 3 8 (PreOf R mc ms Pc) (PostOf Qc mc ms free) := va_backW (hh := hh) (bytes := bytes) (maxL := maxL) (ret := ret) hM hp.1 hrc hrs hfr hlo hws hcw (fun a' U hW => word_at hW (Or.inl (by first | rfl | simp [Cond.onTables, Cond.keeps, Cond.steady])) hini)
  obtain ⟨hx, hb, hml, ho, -⟩ := S
  obtain ⟨-, ⟨cellB, hcB, hoB, hclB⟩, hPc⟩ := hp
  intro T hT X
  obtain ⟨v, vm₁, ⟨U', l2, c2, s2⟩, hW₁, X', ⟨g', mk, t, L, e1, e2, hq, h1, hL, h2, h3⟩, st⟩ := vx_callVW X hx (C := C) (hh := hh) (bytes := bytes) (maxL := maxL) (ret := ret) ho hl hin hse hcode hy hK (by rw [hT]; exact hcB) hoB hclB hg (hsize.trans hml.symm) (argsL := As) (rest := rest) (fun sig h => hn.trans (hlen sig h)) hstack hW (by rw [hb]; exact hdg)
    (fun vm₁ hW₁ => ⟨hf.1, hf.2, hPc (T.setVm vm₁) hT hW₁⟩)
  dsimp only [Pt.U, Pt.locs, Pt.cells, Pt.slots] at X' e1 e2 h1 h2 h3 st
  subst h1; subst h2; subst h3
  exact ⟨v, (T.setVm vm₁).calling g' mk (Value.ref b :: As).toArray, t, U', L, hT, X', hL, e1, e2, hq, st⟩
section
variable {y : MethodName} {bytes cc : ByteArray} {maxL nL mc ms n index : Nat} {ret : Option FieldType} {ws : List Cond} {rm : Room} {Pc : Array Value → State → Prop} {Qc : Array Value → State → Outcome → State → Prop} {XC : String → State → State → Prop} {free : Addr → Prop} {Ts : List Cond} {own C : String} {b : Addr} {As rest : List Value} {g : JFrame}
theorem vx_runVX {hh : List (Nat × Nat × Nat × Nat)} (S : CallFix p m c cc nL s args Ts own) (hM : vx_Met l y ws rm Pc Qc XC mc ms free) (cw : vx_CVW R s args own C index y bytes maxL ret hh ws rm mc ms n) (hp : PreV s H C b Pc As)
    (hg : g.method = m) (hn : As.length = n) (hsize : g.locals.size = nL) (hstack : g.stack = As.reverse ++ .ref b :: rest) (hW : 2 * g.monitorRoom + (rest.map fun v => v.category).sum ≤ 8) (hdg : decode cc g.pc = .ok (.invokevirtual index, 3)) (hf : cells + mc ≤ R.cells ∧ slots + ms ≤ R.slots) :
    vx_Run p l e R s m args below meth c H locs cells slots mc ms g rest (Qc (Value.ref b :: As).toArray) XC free := by
  obtain ⟨⟨hrc, hrs, hfr, hlo, hws, hcw⟩, hcode, hini, hy, hlen, hl, hin, hse⟩ := cw
  have hK : vx_Back l R p e below s args y 3 8 (PreOf R mc ms Pc) (PostOf Qc mc ms free) (vx_Post XC mc ms free) := vx_backW (hh := hh) (bytes := bytes) (maxL := maxL) (ret := ret) hM hp.1 hrc hrs hfr hlo hws hcw (fun a' U hW => word_at hW (Or.inl (by first | rfl | simp [Cond.onTables, Cond.keeps, Cond.steady])) hini)
  obtain ⟨hx, hb, hml, ho, -⟩ := S
  obtain ⟨-, ⟨cellB, hcB, hoB, hclB⟩, hPc⟩ := hp
  intro T hT X
  rcases vx_callVX X hx (C := C) (hh := hh) (bytes := bytes) (maxL := maxL) (ret := ret) ho hl hin hse hcode hy hK (by rw [hT]; exact hcB) hoB hclB hg (hsize.trans hml.symm) (argsL := As) (rest := rest) (fun sig h => hn.trans (hlen sig h)) hstack hW (by rw [hb]; exact hdg)
    (fun vm₁ hW₁ => ⟨hf.1, hf.2, hPc (T.setVm vm₁) hT hW₁⟩) with ⟨v, vm₁, ⟨U', l2, c2, s2⟩, hW₁, X', ⟨g', mk, t, L, e1, e2, hq, h1, hL, h2, h3⟩, st⟩ | ⟨q, vm₁, ⟨U', l2, c2, s2⟩, hW₁, X', ⟨g', mk, t, L, E, ce, e1, e2, hq, hce, hcv, hcl, h1, hL, h2, h3⟩, st⟩
  · dsimp only [Pt.U, Pt.locs, Pt.cells, Pt.slots] at X' e1 e2 h1 h2 h3 st
    subst h1; subst h2; subst h3
    exact Or.inl ⟨v, (T.setVm vm₁).calling g' mk (Value.ref b :: As).toArray, t, U', L, hT, X', hL, e1, e2, hq, st⟩
  · dsimp only [Pt.U, Pt.locs, Pt.cells, Pt.slots] at X' e1 e2 h1 h2 h3 st hcl
    subst h1; subst h2; subst h3
    exact Or.inr ⟨q, (T.setVm vm₁).calling g' mk (Value.ref b :: As).toArray, t, U', L, E, ce, hT, X', hL, e1, e2, hq, hce, hcv, vx_cls hW₁ hcl, st⟩
theorem vx_runSX {hh : List (Nat × Nat × Nat × Nat)} (S : CallFix p m c cc nL s args Ts own) (hM : vx_Met l y ws rm Pc Qc XC mc ms free) (cw : vx_CSW R s args own index y bytes maxL ret hh ws rm mc ms n) (hp : PreS s H Pc As)
    (hg : g.method = m) (hn : As.length = n) (hsize : g.locals.size = nL) (hstack : g.stack = As.reverse ++ rest) (hW : 2 * g.monitorRoom + (rest.map fun v => v.category).sum ≤ 8) (hdg : decode cc g.pc = .ok (.invokestatic index, 3)) (hf : cells + mc ≤ R.cells ∧ slots + ms ≤ R.slots) :
    vx_Run p l e R s m args below meth c H locs cells slots mc ms g rest (Qc As.toArray) XC free := by
  obtain ⟨⟨hrc, hrs, hfr, hlo, hws, hcw⟩, hcode, hini, hy, hlen, hl, hstt⟩ := cw
  have hK : vx_Back l R p e below s args y 3 8 (PreOf R mc ms Pc) (PostOf Qc mc ms free) (vx_Post XC mc ms free) := vx_backW (hh := hh) (bytes := bytes) (maxL := maxL) (ret := ret) hM hp.1 hrc hrs hfr hlo hws hcw (fun a' U hW => word_at hW (Or.inl (by first | rfl | simp [Cond.onTables, Cond.keeps, Cond.steady])) hini)
  obtain ⟨hx, hb, hml, ho, -⟩ := S
  intro T hT X
  rcases vx_callSX X hx (hh := hh) (bytes := bytes) (maxL := maxL) (ret := ret) ho hl hstt hini hcode hy hK hg (hsize.trans hml.symm) (argsL := As) (rest := rest) (fun sig h => hn.trans (hlen sig h)) hstack hW (by rw [hb]; exact hdg)
    (fun vm₁ hW₁ => ⟨hf.1, hf.2, hp.2 (T.setVm vm₁) hT hW₁⟩) with ⟨v, vm₁, ⟨U', l2, c2, s2⟩, hW₁, X', ⟨g', mk, t, L, e1, e2, hq, h1, hL, h2, h3⟩, st⟩ | ⟨q, vm₁, ⟨U', l2, c2, s2⟩, hW₁, X', ⟨g', mk, t, L, E, ce, e1, e2, hq, hce, hcv, hcl, h1, hL, h2, h3⟩, st⟩
  · dsimp only [Pt.U, Pt.locs, Pt.cells, Pt.slots] at X' e1 e2 h1 h2 h3 st
    subst h1; subst h2; subst h3
    exact Or.inl ⟨v, (T.setVm vm₁).calling g' mk As.toArray, t, U', L, hT, X', hL, e1, e2, hq, st⟩
  · dsimp only [Pt.U, Pt.locs, Pt.cells, Pt.slots] at X' e1 e2 h1 h2 h3 st hcl
    subst h1; subst h2; subst h3
    exact Or.inr ⟨q, (T.setVm vm₁).calling g' mk As.toArray, t, U', L, E, ce, hT, X', hL, e1, e2, hq, hce, hcv, vx_cls hW₁ hcl, st⟩
end
end VXH
theorem vx_ofWH {l : Launch} {y : MethodName} {ws ws' : List Cond} {rm : Room} {Pc : Array Value → State → Prop} {Qc : Array Value → State → Outcome → State → Prop} {XC : String → State → State → Prop} {mc ms : Nat} {free : Addr → Prop} {cc : ByteArray} {maxL : Nat} {ret : Option FieldType} {hh : List (Nat × Nat × Nat × Nat)}
    (hy : plainName y.cls = true) (hw : ws = Cond.codeWith y cc maxL ret hh :: ws')
    (body : ∀ p e s m args below meth c s₁, BodyLoose p l y (headSpec ws rm) cc maxL ret e s m args below meth c s₁ → c.maxLocals = maxL → Pc args s →
      W p l e (headSpec ws rm).room s m args below meth c s.heap [] 0 0 (vx_MQ below Qc XC args s mc ms free) (entryFrame m args maxL)) : vx_Met l y ws rm Pc Qc XC mc ms free := by
  refine MetFree.of_bodyS (code := cc) (maxLocals := maxL) (ret := ret) hy ?_ ?_
  · intro args s m h hn
    obtain ⟨m9, meth, c, hn9, h1, h2, h3, h4, -, h5, h6, -⟩ := Cond.codeWith_spec (atoms_spec (ws := ws) h _ (by rw [hw]; exact List.mem_cons_self))
    cases hn.symm.trans hn9
    exact ⟨meth, c, h1, h2, h3, h4, h5, h6⟩
  · intro p e s m args below meth c s₁ B hml hP _
    have hh0 : s₁.heap = s.heap := by rw [B.state]; rfl
    obtain ⟨t, a1, o, b1, b2, b3⟩ := body p e s m args below meth c s₁ B hml hP s₁ hh0 (Stand.of_body B)
    exact ⟨t, o, a1, b1, b2, b3⟩
/-! ===== END ===== -/

/-! ===== BEGIN printed: names, fields, word lists, decode rows ===== -/
end
section
/-! a machine state as DATA: the world a list of cells that name each other by their places in it; 'ad' says where a place lies -/
def zv (ad : Nat → Nat) : Value → Value
  | .ref i => .ref (ad i)
  | v => v
def zc (ad : Nat → Nat) : va_E → va_E
  | .inl (cA, n, .inr (.inr (.inr (.inr f)))) => .inl (cA, n, .inr (.inr (.inr (.inr (fun j => (f j).map ad)))))
  | .inl x => .inl x
  | .inr (ci, fs) => .inr (ci, fs.map (zv ad))
def zw (ad : Nat → Nat) (aw : List va_E) : va_W := aw.mapIdx (fun i e => (ad i, zc ad e))
theorem zw_at (ad : Nat → Nat) (aw : List va_E) (i : Nat) : (zw ad aw)[i]? = (aw[i]?).map (fun e => (ad i, zc ad e)) := by
  simp [zw, List.getElem?_mapIdx]
theorem zw_get {ad : Nat → Nat} {aw : List va_E} {i : Nat} {e : va_E} (h : aw[i]? = some e) : (zw ad aw)[i]? = some (ad i, zc ad e) := by
  rw [zw_at, h]; rfl
theorem zw_set (ad : Nat → Nat) (aw : List va_E) (i : Nat) (e : va_E) : zw ad (aw.set i e) = (zw ad aw).set i (ad i, zc ad e) := by
  apply List.ext_getElem?
  intro j
  rw [zw_at, List.getElem?_set, List.getElem?_set, zw_at]
  by_cases h : i = j
  · subst h
    rw [if_pos rfl, if_pos rfl]
    simp only [zw, List.length_mapIdx]
    by_cases hl : i < aw.length
    · rw [if_pos hl, if_pos hl]; rfl
    · rw [if_neg hl, if_neg hl]; rfl
  · rw [if_neg h, if_neg h]
theorem zw_len (ad : Nat → Nat) (aw : List va_E) : (zw ad aw).length = aw.length := by simp [zw]
theorem zv_cat (ad : Nat → Nat) (v : Value) : (zv ad v).category = v.category := by cases v <;> rfl
theorem zv_cats (ad : Nat → Nat) (st : List Value) : ((st.map (zv ad)).map fun v => v.category) = st.map (fun v => v.category) := by
  rw [List.map_map]; apply List.map_congr_left; intro v _; exact zv_cat ad v
/-- the locals by slots: none where nothing is known (or a long's second half) -/
def zh (ad : Nat → Nat) (ls : Array Slot) (nL : Nat) (lv : List (Option Value)) : Prop := ls.size = nL ∧ lv_wf ls ∧ ∀ (i : Nat) (v : Value), lv[i]? = some (some v) → ls[i]? = some (.val (zv ad v))
def zl (ad : Nat → Nat) (lv : List (Option Value)) : List (Nat × Value) := (List.range lv.length).filterMap (fun i => match lv[i]? with | some (some v) => some (i, zv ad v) | _ => none)
theorem zl_mem {ad : Nat → Nat} {lv : List (Option Value)} {i : Nat} {v : Value} (h : lv[i]? = some (some v)) : (i, zv ad v) ∈ zl ad lv :=
  List.mem_filterMap.mpr ⟨i, List.mem_range.mpr (List.getElem?_eq_some_iff.mp h).1, by rw [h]⟩
theorem zl_of {ad : Nat → Nat} {lv : List (Option Value)} {q : Nat × Value} (h : q ∈ zl ad lv) : ∃ v, lv[q.1]? = some (some v) ∧ q.2 = zv ad v := by
  obtain ⟨i, -, hi⟩ := List.mem_filterMap.mp h
  split at hi
  · next v hv => cases hi; exact ⟨v, hv, rfl⟩
  · cases hi
theorem zh_has {ad : Nat → Nat} {ls : Array Slot} {nL : Nat} {lv : List (Option Value)} (h : zh ad ls nL lv) : lv_has ls nL (zl ad lv) :=
  ⟨h.1, h.2.1, fun q hq => by obtain ⟨v, h1, h2⟩ := zl_of hq; rw [h2]; exact h.2.2 _ _ h1⟩
/-- nothing of two slots stands just ahead of slot i -/
def zsok (lv : List (Option Value)) (i : Nat) : Bool := match i with
  | 0 => true
  | j + 1 => match lv[j]? with
    | some (some v) => v.category == 1
    | _ => true
theorem zh_store1 {ad : Nat → Nat} {ls' : Array Slot} {nL i : Nat} {lv : List (Option Value)} {v : Value} (hok : zsok lv i = true) (h : lv_has ls' nL ((i, zv ad v) :: (zl ad lv).filter (fun q => !(q.1 == i) && !(q.1 + 1 == i && q.2.category == 2)))) : zh ad ls' nL (lv.set i (some v)) := by
  refine ⟨h.1, h.2.1, fun j w hj => ?_⟩
  rw [List.getElem?_set] at hj
  by_cases e : i = j
  · subst e
    rw [if_pos rfl] at hj
    split at hj
    · cases hj; exact h.2.2 (i, zv ad v) List.mem_cons_self
    · cases hj
  · rw [if_neg e] at hj
    refine h.2.2 (j, zv ad w) (List.mem_cons_of_mem _ (List.mem_filter.mpr ⟨zl_mem hj, ?_⟩))
    have h1 : (j == i) = false := by simp; exact fun q => e q.symm
    by_cases e2 : j + 1 = i
    · subst e2
      simp only [zsok, hj] at hok
      have h3 : w.category = 1 := by simpa using hok
      simp [zv_cat, h3]
    · have : (j + 1 == i) = false := by simp [e2]
      simp [h1, this]
theorem zh_store2 {ad : Nat → Nat} {ls' : Array Slot} {nL i : Nat} {lv : List (Option Value)} {v : Value} (hok : zsok lv i = true) (h : lv_has ls' nL ((i, zv ad v) :: (zl ad lv).filter (fun q => !(q.1 == i) && (!(q.1 == i + 1) && !(q.1 + 1 == i && q.2.category == 2))))) : zh ad ls' nL ((lv.set i (some v)).set (i + 1) none) := by
  refine ⟨h.1, h.2.1, fun j w hj => ?_⟩
  rw [List.getElem?_set] at hj
  by_cases e0 : i + 1 = j
  · rw [if_pos e0] at hj
    split at hj <;> cases hj
  rw [if_neg e0] at hj
  rw [List.getElem?_set] at hj
  by_cases e : i = j
  · subst e
    rw [if_pos rfl] at hj
    split at hj
    · cases hj; exact h.2.2 (i, zv ad v) List.mem_cons_self
    · cases hj
  · rw [if_neg e] at hj
    refine h.2.2 (j, zv ad w) (List.mem_cons_of_mem _ (List.mem_filter.mpr ⟨zl_mem hj, ?_⟩))
    have h1 : (j == i) = false := by simp; exact fun q => e q.symm
    have h2 : (j == i + 1) = false := by simp; exact fun q => e0 q.symm
    by_cases e2 : j + 1 = i
    · subst e2
      simp only [zsok, hj] at hok
      have h3 : w.category = 1 := by simpa using hok
      simp [zv_cat, h3]
      omega
    · have : (j + 1 == i) = false := by simp [e2]
      simp [h1, h2, this]
/-- the machine: p l e R s m args below meth c Q A cells slots -/
abbrev zM : Type := Program × Launch × Env × Room × State × MethodId × Array Value × List Frame × Method × Code × (State → Prop) × (Nat → Prop) × Nat × Nat
/-- the tables: D, classes, array types, addresses -/
abbrev zG : Type := va_G × List vw_C × List (ClassId × FieldType) × (Nat → Nat)
/-- what stays: the code, the words, the tables -/
def zFx (M : zM) (G : zG) (cc : ByteArray) (nL : Nat) (own : String) (Ts : List Cond) (rt : Option FieldType) : Prop := match M, G with
  | (p, _, _, _, s, m, args, _, meth, c, _, A, _, _), (D, cl, tys, _) => CallFix p m c cc nL s args Ts own ∧ meth.sig.returnType = rt ∧ meth.locks = false ∧ va_K D cl tys s ∧ ∀ q, s.heap.size ≤ q → A q
/-- the machine, in any heap that holds the world, comes to its end -/
def Zj (M : zM) (G : zG) (cc : ByteArray) (nL : Nat) (own : String) (Ts : List Cond) (rt : Option FieldType) (aw : List va_E) (lv : List (Option Value)) (st : List Value) (pc : Nat) : Prop := match M, G with
  | (p, l, e, R, s, m, args, below, meth, c, Q, A, cells, slots), (D, cl, tys, ad) => zFx (p, l, e, R, s, m, args, below, meth, c, Q, A, cells, slots) (D, cl, tys, ad) cc nL own Ts rt → ∀ (H : Heap) (locs : List Loc) (ls : Array Slot), va_P D cl (zw ad aw) H → va_D A (zw ad aw) → va_S A s.heap H locs → zh ad ls nL lv → W p l e R s m args below meth c H locs cells slots Q (F0 m pc ls (st.map (zv ad)))
section ZR
variable {M : zM} {G : zG} {cc : ByteArray} {nL : Nat} {own : String} {Ts : List Cond} {rt : Option FieldType} {aw : List va_E} {lv : List (Option Value)} {st : List Value} {pc : Nat}
theorem z_iconst {n : Int} {v : Int32} (hdg : decode cc pc = .ok (.iconst n, 1)) (hv : Int32.ofInt n = v) (kk : Zj M G cc nL own Ts rt aw lv (.int v :: st) (pc + 1)) : Zj M G cc nL own Ts rt aw lv (st) pc := by
  obtain ⟨p, l, e, R, s, m, args, below, meth, c, Q, A, cells, slots⟩ := M
  obtain ⟨D, cl, tys, ad⟩ := G
  intro hF H locs ls hP hD hS hl
  obtain ⟨⟨hx, hb, hml, hown, hts⟩, hr, hlk, hK, hA⟩ := id hF
  exact lv_iconst hx hb hdg hv (kk hF H locs ls hP hD hS hl)
theorem z_bipush {n : Int} {v : Int32} (hdg : decode cc pc = .ok (.bipush n, 2)) (hv : (Int8.ofInt n).toInt32 = v) (kk : Zj M G cc nL own Ts rt aw lv (.int v :: st) (pc + 2)) : Zj M G cc nL own Ts rt aw lv (st) pc := by
  obtain ⟨p, l, e, R, s, m, args, below, meth, c, Q, A, cells, slots⟩ := M
  obtain ⟨D, cl, tys, ad⟩ := G
  intro hF H locs ls hP hD hS hl
  obtain ⟨⟨hx, hb, hml, hown, hts⟩, hr, hlk, hK, hA⟩ := id hF
  exact lv_bipush hx hb hdg hv (kk hF H locs ls hP hD hS hl)
theorem z_sipush {n : Int} {v : Int32} (hdg : decode cc pc = .ok (.sipush n, 3)) (hv : (Int16.ofInt n).toInt32 = v) (kk : Zj M G cc nL own Ts rt aw lv (.int v :: st) (pc + 3)) : Zj M G cc nL own Ts rt aw lv (st) pc := by
  obtain ⟨p, l, e, R, s, m, args, below, meth, c, Q, A, cells, slots⟩ := M
  obtain ⟨D, cl, tys, ad⟩ := G
  intro hF H locs ls hP hD hS hl
  obtain ⟨⟨hx, hb, hml, hown, hts⟩, hr, hlk, hK, hA⟩ := id hF
  exact lv_sipush hx hb hdg hv (kk hF H locs ls hP hD hS hl)
theorem z_lconst {n : Fin 2} {v : Int64} (hdg : decode cc pc = .ok (.lconst n, 1)) (hv : Int64.ofNat (n : Nat) = v) (kk : Zj M G cc nL own Ts rt aw lv (.long v :: st) (pc + 1)) : Zj M G cc nL own Ts rt aw lv (st) pc := by
  obtain ⟨p, l, e, R, s, m, args, below, meth, c, Q, A, cells, slots⟩ := M
  obtain ⟨D, cl, tys, ad⟩ := G
  intro hF H locs ls hP hD hS hl
  obtain ⟨⟨hx, hb, hml, hown, hts⟩, hr, hlk, hK, hA⟩ := id hF
  exact lv_lconst hx hb hdg hv (kk hF H locs ls hP hD hS hl)
theorem z_ldc {index : Nat} {v : Int32} (hdg : decode cc pc = .ok (.ldc index, 2)) (hc : Jvm.Cond.constant own index v ∈ Ts) (kk : Zj M G cc nL own Ts rt aw lv (.int v :: st) (pc + 2)) : Zj M G cc nL own Ts rt aw lv (st) pc := by
  obtain ⟨p, l, e, R, s, m, args, below, meth, c, Q, A, cells, slots⟩ := M
  obtain ⟨D, cl, tys, ad⟩ := G
  intro hF H locs ls hP hD hS hl
  obtain ⟨⟨hx, hb, hml, hown, hts⟩, hr, hlk, hK, hA⟩ := id hF
  exact lv_ldc hx hb hown (hts _ hc) hdg (kk hF H locs ls hP hD hS hl)
theorem z_ldcw {index : Nat} {v : Int32} (hdg : decode cc pc = .ok (.ldc_w index, 3)) (hc : Jvm.Cond.constant own index v ∈ Ts) (kk : Zj M G cc nL own Ts rt aw lv (.int v :: st) (pc + 3)) : Zj M G cc nL own Ts rt aw lv (st) pc := by
  obtain ⟨p, l, e, R, s, m, args, below, meth, c, Q, A, cells, slots⟩ := M
  obtain ⟨D, cl, tys, ad⟩ := G
  intro hF H locs ls hP hD hS hl
  obtain ⟨⟨hx, hb, hml, hown, hts⟩, hr, hlk, hK, hA⟩ := id hF
  exact lv_ldcw hx hb hown (hts _ hc) hdg (kk hF H locs ls hP hD hS hl)
theorem z_ldc2 {index : Nat} {v : Int64} (hdg : decode cc pc = .ok (.ldc2_w index, 3)) (hc : Jvm.Cond.constantLong own index v ∈ Ts) (kk : Zj M G cc nL own Ts rt aw lv (.long v :: st) (pc + 3)) : Zj M G cc nL own Ts rt aw lv (st) pc := by
  obtain ⟨p, l, e, R, s, m, args, below, meth, c, Q, A, cells, slots⟩ := M
  obtain ⟨D, cl, tys, ad⟩ := G
  intro hF H locs ls hP hD hS hl
  obtain ⟨⟨hx, hb, hml, hown, hts⟩, hr, hlk, hK, hA⟩ := id hF
  exact lv_ldc2 hx hb hown (hts _ hc) hdg (kk hF H locs ls hP hD hS hl)
theorem z_iload_n {k : Fin 4} {x : Int32} (hdg : decode cc pc = .ok (.iload_n k, 1)) (hv : lv[(k : Nat)]? = some (some (.int x))) (kk : Zj M G cc nL own Ts rt aw lv (.int x :: st) (pc + 1)) : Zj M G cc nL own Ts rt aw lv (st) pc := by
  obtain ⟨p, l, e, R, s, m, args, below, meth, c, Q, A, cells, slots⟩ := M
  obtain ⟨D, cl, tys, ad⟩ := G
  intro hF H locs ls hP hD hS hl
  obtain ⟨⟨hx, hb, hml, hown, hts⟩, hr, hlk, hK, hA⟩ := id hF
  exact lv_iload_n hx hb hdg rfl (hl.2.2 _ _ hv) (kk hF H locs ls hP hD hS hl)
theorem z_iload {i : Nat} {x : Int32} (hdg : decode cc pc = .ok (.iload i, 2)) (hv : lv[i]? = some (some (.int x))) (kk : Zj M G cc nL own Ts rt aw lv (.int x :: st) (pc + 2)) : Zj M G cc nL own Ts rt aw lv (st) pc := by
  obtain ⟨p, l, e, R, s, m, args, below, meth, c, Q, A, cells, slots⟩ := M
  obtain ⟨D, cl, tys, ad⟩ := G
  intro hF H locs ls hP hD hS hl
  obtain ⟨⟨hx, hb, hml, hown, hts⟩, hr, hlk, hK, hA⟩ := id hF
  exact lv_iload hx hb hdg (hl.2.2 _ _ hv) (kk hF H locs ls hP hD hS hl)
theorem z_lload_n {k : Fin 4} {x : Int64} (hdg : decode cc pc = .ok (.lload_n k, 1)) (hv : lv[(k : Nat)]? = some (some (.long x))) (kk : Zj M G cc nL own Ts rt aw lv (.long x :: st) (pc + 1)) : Zj M G cc nL own Ts rt aw lv (st) pc := by
  obtain ⟨p, l, e, R, s, m, args, below, meth, c, Q, A, cells, slots⟩ := M
  obtain ⟨D, cl, tys, ad⟩ := G
  intro hF H locs ls hP hD hS hl
  obtain ⟨⟨hx, hb, hml, hown, hts⟩, hr, hlk, hK, hA⟩ := id hF
  exact lv_lload_n hx hb hdg rfl (hl.2.2 _ _ hv) (kk hF H locs ls hP hD hS hl)
theorem z_lload {i : Nat} {x : Int64} (hdg : decode cc pc = .ok (.lload i, 2)) (hv : lv[i]? = some (some (.long x))) (kk : Zj M G cc nL own Ts rt aw lv (.long x :: st) (pc + 2)) : Zj M G cc nL own Ts rt aw lv (st) pc := by
  obtain ⟨p, l, e, R, s, m, args, below, meth, c, Q, A, cells, slots⟩ := M
  obtain ⟨D, cl, tys, ad⟩ := G
  intro hF H locs ls hP hD hS hl
  obtain ⟨⟨hx, hb, hml, hown, hts⟩, hr, hlk, hK, hA⟩ := id hF
  exact lv_lload hx hb hdg (hl.2.2 _ _ hv) (kk hF H locs ls hP hD hS hl)
theorem z_aload_n {k : Fin 4} {x : Nat} (hdg : decode cc pc = .ok (.aload_n k, 1)) (hv : lv[(k : Nat)]? = some (some (.ref x))) (kk : Zj M G cc nL own Ts rt aw lv (.ref x :: st) (pc + 1)) : Zj M G cc nL own Ts rt aw lv (st) pc := by
  obtain ⟨p, l, e, R, s, m, args, below, meth, c, Q, A, cells, slots⟩ := M
  obtain ⟨D, cl, tys, ad⟩ := G
  intro hF H locs ls hP hD hS hl
  obtain ⟨⟨hx, hb, hml, hown, hts⟩, hr, hlk, hK, hA⟩ := id hF
  exact lv_aload_n hx hb hdg rfl (hl.2.2 _ _ hv) (kk hF H locs ls hP hD hS hl)
theorem z_aload {i : Nat} {x : Nat} (hdg : decode cc pc = .ok (.aload i, 2)) (hv : lv[i]? = some (some (.ref x))) (kk : Zj M G cc nL own Ts rt aw lv (.ref x :: st) (pc + 2)) : Zj M G cc nL own Ts rt aw lv (st) pc := by
  obtain ⟨p, l, e, R, s, m, args, below, meth, c, Q, A, cells, slots⟩ := M
  obtain ⟨D, cl, tys, ad⟩ := G
  intro hF H locs ls hP hD hS hl
  obtain ⟨⟨hx, hb, hml, hown, hts⟩, hr, hlk, hK, hA⟩ := id hF
  exact lv_aload hx hb hdg (hl.2.2 _ _ hv) (kk hF H locs ls hP hD hS hl)
theorem z_istore_n {k : Fin 4} {x : Int32} (hdg : decode cc pc = .ok (.istore_n k, 1)) (hn : (k : Nat) < nL) (hok : zsok lv (k : Nat) = true) (kk : Zj M G cc nL own Ts rt aw (lv.set (k : Nat) (some (.int x))) st (pc + 1)) : Zj M G cc nL own Ts rt aw lv (.int x :: st) pc := by
  obtain ⟨p, l, e, R, s, m, args, below, meth, c, Q, A, cells, slots⟩ := M
  obtain ⟨D, cl, tys, ad⟩ := G
  intro hF H locs ls hP hD hS hl
  obtain ⟨⟨hx, hb, hml, hown, hts⟩, hr, hlk, hK, hA⟩ := id hF
  exact lv_istore_n hx hb hdg rfl (zh_has hl) hn rfl (fun ls' hl' => kk hF H locs ls' hP hD hS (zh_store1 hok hl'))
theorem z_istore {i : Nat} {x : Int32} (hdg : decode cc pc = .ok (.istore i, 2)) (hn : i < nL) (hok : zsok lv i = true) (kk : Zj M G cc nL own Ts rt aw (lv.set i (some (.int x))) st (pc + 2)) : Zj M G cc nL own Ts rt aw lv (.int x :: st) pc := by
  obtain ⟨p, l, e, R, s, m, args, below, meth, c, Q, A, cells, slots⟩ := M
  obtain ⟨D, cl, tys, ad⟩ := G
  intro hF H locs ls hP hD hS hl
  obtain ⟨⟨hx, hb, hml, hown, hts⟩, hr, hlk, hK, hA⟩ := id hF
  exact lv_istore hx hb hdg (zh_has hl) hn rfl (fun ls' hl' => kk hF H locs ls' hP hD hS (zh_store1 hok hl'))
theorem z_astore_n {k : Fin 4} {x : Nat} (hdg : decode cc pc = .ok (.astore_n k, 1)) (hn : (k : Nat) < nL) (hok : zsok lv (k : Nat) = true) (kk : Zj M G cc nL own Ts rt aw (lv.set (k : Nat) (some (.ref x))) st (pc + 1)) : Zj M G cc nL own Ts rt aw lv (.ref x :: st) pc := by
  obtain ⟨p, l, e, R, s, m, args, below, meth, c, Q, A, cells, slots⟩ := M
  obtain ⟨D, cl, tys, ad⟩ := G
  intro hF H locs ls hP hD hS hl
  obtain ⟨⟨hx, hb, hml, hown, hts⟩, hr, hlk, hK, hA⟩ := id hF
  exact lv_astore_n hx hb hdg rfl (zh_has hl) hn rfl (fun ls' hl' => kk hF H locs ls' hP hD hS (zh_store1 hok hl'))
theorem z_astore {i : Nat} {x : Nat} (hdg : decode cc pc = .ok (.astore i, 2)) (hn : i < nL) (hok : zsok lv i = true) (kk : Zj M G cc nL own Ts rt aw (lv.set i (some (.ref x))) st (pc + 2)) : Zj M G cc nL own Ts rt aw lv (.ref x :: st) pc := by
  obtain ⟨p, l, e, R, s, m, args, below, meth, c, Q, A, cells, slots⟩ := M
  obtain ⟨D, cl, tys, ad⟩ := G
  intro hF H locs ls hP hD hS hl
  obtain ⟨⟨hx, hb, hml, hown, hts⟩, hr, hlk, hK, hA⟩ := id hF
  exact lv_astore hx hb hdg (zh_has hl) hn rfl (fun ls' hl' => kk hF H locs ls' hP hD hS (zh_store1 hok hl'))
theorem z_lstore_n {k : Fin 4} {x : Int64} (hdg : decode cc pc = .ok (.lstore_n k, 1)) (hn : (k : Nat) + 1 < nL) (hok : zsok lv (k : Nat) = true) (kk : Zj M G cc nL own Ts rt aw ((lv.set (k : Nat) (some (.long x))).set ((k : Nat) + 1) none) st (pc + 1)) : Zj M G cc nL own Ts rt aw lv (.long x :: st) pc := by
  obtain ⟨p, l, e, R, s, m, args, below, meth, c, Q, A, cells, slots⟩ := M
  obtain ⟨D, cl, tys, ad⟩ := G
  intro hF H locs ls hP hD hS hl
  obtain ⟨⟨hx, hb, hml, hown, hts⟩, hr, hlk, hK, hA⟩ := id hF
  exact lv_lstore_n hx hb hdg rfl (zh_has hl) hn rfl (fun ls' hl' => kk hF H locs ls' hP hD hS (zh_store2 hok hl'))
theorem z_lstore {i : Nat} {x : Int64} (hdg : decode cc pc = .ok (.lstore i, 2)) (hn : i + 1 < nL) (hok : zsok lv i = true) (kk : Zj M G cc nL own Ts rt aw ((lv.set i (some (.long x))).set (i + 1) none) st (pc + 2)) : Zj M G cc nL own Ts rt aw lv (.long x :: st) pc := by
  obtain ⟨p, l, e, R, s, m, args, below, meth, c, Q, A, cells, slots⟩ := M
  obtain ⟨D, cl, tys, ad⟩ := G
  intro hF H locs ls hP hD hS hl
  obtain ⟨⟨hx, hb, hml, hown, hts⟩, hr, hlk, hK, hA⟩ := id hF
  exact lv_lstore hx hb hdg (zh_has hl) hn rfl (fun ls' hl' => kk hF H locs ls' hP hD hS (zh_store2 hok hl'))
theorem z_iinc {i : Nat} {n : Int} {x v : Int32} (hdg : decode cc pc = .ok (.iinc i n, 3)) (hn : i < nL) (hok : zsok lv i = true) (hv : lv[i]? = some (some (.int x))) (hw : x + Int32.ofInt n = v) (kk : Zj M G cc nL own Ts rt aw (lv.set i (some (.int v))) st (pc + 3)) : Zj M G cc nL own Ts rt aw lv st pc := by
  obtain ⟨p, l, e, R, s, m, args, below, meth, c, Q, A, cells, slots⟩ := M
  obtain ⟨D, cl, tys, ad⟩ := G
  intro hF H locs ls hP hD hS hl
  obtain ⟨⟨hx, hb, hml, hown, hts⟩, hr, hlk, hK, hA⟩ := id hF
  obtain ⟨k, hk⟩ := List.getElem?_of_mem (zl_mem (ad := ad) hv)
  exact lv_iinc hx hb hdg (zh_has hl) hk hw hn rfl (fun ls' hl' => kk hF H locs ls' hP hD hS (zh_store1 (v := .int v) hok hl'))
theorem z_iadd {x y : Int32} (hdg : decode cc pc = .ok (.iadd, 1)) (kk : Zj M G cc nL own Ts rt aw lv (.int (x + y) :: st) (pc + 1)) : Zj M G cc nL own Ts rt aw lv (.int y :: .int x :: st) pc := by
  obtain ⟨p, l, e, R, s, m, args, below, meth, c, Q, A, cells, slots⟩ := M
  obtain ⟨D, cl, tys, ad⟩ := G
  intro hF H locs ls hP hD hS hl
  obtain ⟨⟨hx, hb, hml, hown, hts⟩, hr, hlk, hK, hA⟩ := id hF
  exact lv_iadd hx hb hdg (kk hF H locs ls hP hD hS hl)
theorem z_isub {x y : Int32} (hdg : decode cc pc = .ok (.isub, 1)) (kk : Zj M G cc nL own Ts rt aw lv (.int (x - y) :: st) (pc + 1)) : Zj M G cc nL own Ts rt aw lv (.int y :: .int x :: st) pc := by
  obtain ⟨p, l, e, R, s, m, args, below, meth, c, Q, A, cells, slots⟩ := M
  obtain ⟨D, cl, tys, ad⟩ := G
  intro hF H locs ls hP hD hS hl
  obtain ⟨⟨hx, hb, hml, hown, hts⟩, hr, hlk, hK, hA⟩ := id hF
  exact lv_isub hx hb hdg (kk hF H locs ls hP hD hS hl)
theorem z_imul {x y : Int32} (hdg : decode cc pc = .ok (.imul, 1)) (kk : Zj M G cc nL own Ts rt aw lv (.int (x * y) :: st) (pc + 1)) : Zj M G cc nL own Ts rt aw lv (.int y :: .int x :: st) pc := by
  obtain ⟨p, l, e, R, s, m, args, below, meth, c, Q, A, cells, slots⟩ := M
  obtain ⟨D, cl, tys, ad⟩ := G
  intro hF H locs ls hP hD hS hl
  obtain ⟨⟨hx, hb, hml, hown, hts⟩, hr, hlk, hK, hA⟩ := id hF
  exact lv_imul hx hb hdg (kk hF H locs ls hP hD hS hl)
theorem z_iand {x y : Int32} (hdg : decode cc pc = .ok (.iand, 1)) (kk : Zj M G cc nL own Ts rt aw lv (.int (x &&& y) :: st) (pc + 1)) : Zj M G cc nL own Ts rt aw lv (.int y :: .int x :: st) pc := by
  obtain ⟨p, l, e, R, s, m, args, below, meth, c, Q, A, cells, slots⟩ := M
  obtain ⟨D, cl, tys, ad⟩ := G
  intro hF H locs ls hP hD hS hl
  obtain ⟨⟨hx, hb, hml, hown, hts⟩, hr, hlk, hK, hA⟩ := id hF
  exact lv_iand hx hb hdg (kk hF H locs ls hP hD hS hl)
theorem z_ior {x y : Int32} (hdg : decode cc pc = .ok (.ior, 1)) (kk : Zj M G cc nL own Ts rt aw lv (.int (x ||| y) :: st) (pc + 1)) : Zj M G cc nL own Ts rt aw lv (.int y :: .int x :: st) pc := by
  obtain ⟨p, l, e, R, s, m, args, below, meth, c, Q, A, cells, slots⟩ := M
  obtain ⟨D, cl, tys, ad⟩ := G
  intro hF H locs ls hP hD hS hl
  obtain ⟨⟨hx, hb, hml, hown, hts⟩, hr, hlk, hK, hA⟩ := id hF
  exact lv_ior hx hb hdg (kk hF H locs ls hP hD hS hl)
theorem z_ixor {x y : Int32} (hdg : decode cc pc = .ok (.ixor, 1)) (kk : Zj M G cc nL own Ts rt aw lv (.int (x ^^^ y) :: st) (pc + 1)) : Zj M G cc nL own Ts rt aw lv (.int y :: .int x :: st) pc := by
  obtain ⟨p, l, e, R, s, m, args, below, meth, c, Q, A, cells, slots⟩ := M
  obtain ⟨D, cl, tys, ad⟩ := G
  intro hF H locs ls hP hD hS hl
  obtain ⟨⟨hx, hb, hml, hown, hts⟩, hr, hlk, hK, hA⟩ := id hF
  exact lv_ixor hx hb hdg (kk hF H locs ls hP hD hS hl)
theorem z_ishl {x y : Int32} (hdg : decode cc pc = .ok (.ishl, 1)) (kk : Zj M G cc nL own Ts rt aw lv (.int (x <<< (y &&& 31)) :: st) (pc + 1)) : Zj M G cc nL own Ts rt aw lv (.int y :: .int x :: st) pc := by
  obtain ⟨p, l, e, R, s, m, args, below, meth, c, Q, A, cells, slots⟩ := M
  obtain ⟨D, cl, tys, ad⟩ := G
  intro hF H locs ls hP hD hS hl
  obtain ⟨⟨hx, hb, hml, hown, hts⟩, hr, hlk, hK, hA⟩ := id hF
  exact lv_ishl hx hb hdg (kk hF H locs ls hP hD hS hl)
theorem z_ishr {x y : Int32} (hdg : decode cc pc = .ok (.ishr, 1)) (kk : Zj M G cc nL own Ts rt aw lv (.int (x >>> (y &&& 31)) :: st) (pc + 1)) : Zj M G cc nL own Ts rt aw lv (.int y :: .int x :: st) pc := by
  obtain ⟨p, l, e, R, s, m, args, below, meth, c, Q, A, cells, slots⟩ := M
  obtain ⟨D, cl, tys, ad⟩ := G
  intro hF H locs ls hP hD hS hl
  obtain ⟨⟨hx, hb, hml, hown, hts⟩, hr, hlk, hK, hA⟩ := id hF
  exact lv_ishr hx hb hdg (kk hF H locs ls hP hD hS hl)
theorem z_idiv {x y : Int32} (hdg : decode cc pc = .ok (.idiv, 1)) (hne : ¬ y = 0) (kk : Zj M G cc nL own Ts rt aw lv (.int (x / y) :: st) (pc + 1)) : Zj M G cc nL own Ts rt aw lv (.int y :: .int x :: st) pc := by
  obtain ⟨p, l, e, R, s, m, args, below, meth, c, Q, A, cells, slots⟩ := M
  obtain ⟨D, cl, tys, ad⟩ := G
  intro hF H locs ls hP hD hS hl
  obtain ⟨⟨hx, hb, hml, hown, hts⟩, hr, hlk, hK, hA⟩ := id hF
  exact lv_idiv hx hb hdg hne (kk hF H locs ls hP hD hS hl)
theorem z_irem {x y : Int32} (hdg : decode cc pc = .ok (.irem, 1)) (hne : ¬ y = 0) (kk : Zj M G cc nL own Ts rt aw lv (.int (x - x / y * y) :: st) (pc + 1)) : Zj M G cc nL own Ts rt aw lv (.int y :: .int x :: st) pc := by
  obtain ⟨p, l, e, R, s, m, args, below, meth, c, Q, A, cells, slots⟩ := M
  obtain ⟨D, cl, tys, ad⟩ := G
  intro hF H locs ls hP hD hS hl
  obtain ⟨⟨hx, hb, hml, hown, hts⟩, hr, hlk, hK, hA⟩ := id hF
  exact lv_irem hx hb hdg hne (kk hF H locs ls hP hD hS hl)
theorem z_ineg {x : Int32} (hdg : decode cc pc = .ok (.ineg, 1)) (kk : Zj M G cc nL own Ts rt aw lv (.int (-x) :: st) (pc + 1)) : Zj M G cc nL own Ts rt aw lv (.int x :: st) pc := by
  obtain ⟨p, l, e, R, s, m, args, below, meth, c, Q, A, cells, slots⟩ := M
  obtain ⟨D, cl, tys, ad⟩ := G
  intro hF H locs ls hP hD hS hl
  obtain ⟨⟨hx, hb, hml, hown, hts⟩, hr, hlk, hK, hA⟩ := id hF
  exact lv_ineg hx hb hdg (kk hF H locs ls hP hD hS hl)
theorem z_iushr {x y : Int32} (hdg : decode cc pc = .ok (.iushr, 1)) (kk : Zj M G cc nL own Ts rt aw lv (.int ((x.toUInt32 >>> (y.toUInt32 &&& Int32.toUInt32 31)).toInt32) :: st) (pc + 1)) : Zj M G cc nL own Ts rt aw lv (.int y :: .int x :: st) pc := by
  obtain ⟨p, l, e, R, s, m, args, below, meth, c, Q, A, cells, slots⟩ := M
  obtain ⟨D, cl, tys, ad⟩ := G
  intro hF H locs ls hP hD hS hl
  obtain ⟨⟨hx, hb, hml, hown, hts⟩, hr, hlk, hK, hA⟩ := id hF
  exact lv_iushr hx hb hdg rfl (kk hF H locs ls hP hD hS hl)
theorem z_ladd {x y : Int64} (hdg : decode cc pc = .ok (.ladd, 1)) (kk : Zj M G cc nL own Ts rt aw lv (.long (x + y) :: st) (pc + 1)) : Zj M G cc nL own Ts rt aw lv (.long y :: .long x :: st) pc := by
  obtain ⟨p, l, e, R, s, m, args, below, meth, c, Q, A, cells, slots⟩ := M
  obtain ⟨D, cl, tys, ad⟩ := G
  intro hF H locs ls hP hD hS hl
  obtain ⟨⟨hx, hb, hml, hown, hts⟩, hr, hlk, hK, hA⟩ := id hF
  exact lv_ladd hx hb hdg (kk hF H locs ls hP hD hS hl)
theorem z_lsub {x y : Int64} (hdg : decode cc pc = .ok (.lsub, 1)) (kk : Zj M G cc nL own Ts rt aw lv (.long (x - y) :: st) (pc + 1)) : Zj M G cc nL own Ts rt aw lv (.long y :: .long x :: st) pc := by
  obtain ⟨p, l, e, R, s, m, args, below, meth, c, Q, A, cells, slots⟩ := M
  obtain ⟨D, cl, tys, ad⟩ := G
  intro hF H locs ls hP hD hS hl
  obtain ⟨⟨hx, hb, hml, hown, hts⟩, hr, hlk, hK, hA⟩ := id hF
  exact lv_lsub hx hb hdg (kk hF H locs ls hP hD hS hl)
theorem z_lmul {x y : Int64} (hdg : decode cc pc = .ok (.lmul, 1)) (kk : Zj M G cc nL own Ts rt aw lv (.long (x * y) :: st) (pc + 1)) : Zj M G cc nL own Ts rt aw lv (.long y :: .long x :: st) pc := by
  obtain ⟨p, l, e, R, s, m, args, below, meth, c, Q, A, cells, slots⟩ := M
  obtain ⟨D, cl, tys, ad⟩ := G
  intro hF H locs ls hP hD hS hl
  obtain ⟨⟨hx, hb, hml, hown, hts⟩, hr, hlk, hK, hA⟩ := id hF
  exact lv_lmul hx hb hdg (kk hF H locs ls hP hD hS hl)
theorem z_land {x y : Int64} (hdg : decode cc pc = .ok (.land, 1)) (kk : Zj M G cc nL own Ts rt aw lv (.long (x &&& y) :: st) (pc + 1)) : Zj M G cc nL own Ts rt aw lv (.long y :: .long x :: st) pc := by
  obtain ⟨p, l, e, R, s, m, args, below, meth, c, Q, A, cells, slots⟩ := M
  obtain ⟨D, cl, tys, ad⟩ := G
  intro hF H locs ls hP hD hS hl
  obtain ⟨⟨hx, hb, hml, hown, hts⟩, hr, hlk, hK, hA⟩ := id hF
  exact lv_land hx hb hdg (kk hF H locs ls hP hD hS hl)
theorem z_lor {x y : Int64} (hdg : decode cc pc = .ok (.lor, 1)) (kk : Zj M G cc nL own Ts rt aw lv (.long (x ||| y) :: st) (pc + 1)) : Zj M G cc nL own Ts rt aw lv (.long y :: .long x :: st) pc := by
  obtain ⟨p, l, e, R, s, m, args, below, meth, c, Q, A, cells, slots⟩ := M
  obtain ⟨D, cl, tys, ad⟩ := G
  intro hF H locs ls hP hD hS hl
  obtain ⟨⟨hx, hb, hml, hown, hts⟩, hr, hlk, hK, hA⟩ := id hF
  exact lv_lor hx hb hdg (kk hF H locs ls hP hD hS hl)
theorem z_lxor {x y : Int64} (hdg : decode cc pc = .ok (.lxor, 1)) (kk : Zj M G cc nL own Ts rt aw lv (.long (x ^^^ y) :: st) (pc + 1)) : Zj M G cc nL own Ts rt aw lv (.long y :: .long x :: st) pc := by
  obtain ⟨p, l, e, R, s, m, args, below, meth, c, Q, A, cells, slots⟩ := M
  obtain ⟨D, cl, tys, ad⟩ := G
  intro hF H locs ls hP hD hS hl
  obtain ⟨⟨hx, hb, hml, hown, hts⟩, hr, hlk, hK, hA⟩ := id hF
  exact lv_lxor hx hb hdg (kk hF H locs ls hP hD hS hl)
theorem z_lushr {x : Int64} {y : Int32} (hdg : decode cc pc = .ok (.lushr, 1)) (kk : Zj M G cc nL own Ts rt aw lv (.long ((x.toUInt64 >>> (y.toInt64.toUInt64 &&& Int64.toUInt64 63)).toInt64) :: st) (pc + 1)) : Zj M G cc nL own Ts rt aw lv (.int y :: .long x :: st) pc := by
  obtain ⟨p, l, e, R, s, m, args, below, meth, c, Q, A, cells, slots⟩ := M
  obtain ⟨D, cl, tys, ad⟩ := G
  intro hF H locs ls hP hD hS hl
  obtain ⟨⟨hx, hb, hml, hown, hts⟩, hr, hlk, hK, hA⟩ := id hF
  exact lv_lushr hx hb hdg rfl (kk hF H locs ls hP hD hS hl)
theorem z_lshl {x : Int64} {y : Int32} (hdg : decode cc pc = .ok (.lshl, 1)) (kk : Zj M G cc nL own Ts rt aw lv (.long (x <<< (y.toInt64 &&& 63)) :: st) (pc + 1)) : Zj M G cc nL own Ts rt aw lv (.int y :: .long x :: st) pc := by
  obtain ⟨p, l, e, R, s, m, args, below, meth, c, Q, A, cells, slots⟩ := M
  obtain ⟨D, cl, tys, ad⟩ := G
  intro hF H locs ls hP hD hS hl
  obtain ⟨⟨hx, hb, hml, hown, hts⟩, hr, hlk, hK, hA⟩ := id hF
  exact lv_lshl hx hb hdg rfl (kk hF H locs ls hP hD hS hl)
theorem z_lshr {x : Int64} {y : Int32} (hdg : decode cc pc = .ok (.lshr, 1)) (kk : Zj M G cc nL own Ts rt aw lv (.long (x >>> (y.toInt64 &&& 63)) :: st) (pc + 1)) : Zj M G cc nL own Ts rt aw lv (.int y :: .long x :: st) pc := by
  obtain ⟨p, l, e, R, s, m, args, below, meth, c, Q, A, cells, slots⟩ := M
  obtain ⟨D, cl, tys, ad⟩ := G
  intro hF H locs ls hP hD hS hl
  obtain ⟨⟨hx, hb, hml, hown, hts⟩, hr, hlk, hK, hA⟩ := id hF
  exact lv_lshr hx hb hdg rfl (kk hF H locs ls hP hD hS hl)
theorem z_i2l {x : Int32} (hdg : decode cc pc = .ok (.i2l, 1)) (kk : Zj M G cc nL own Ts rt aw lv (.long x.toInt64 :: st) (pc + 1)) : Zj M G cc nL own Ts rt aw lv (.int x :: st) pc := by
  obtain ⟨p, l, e, R, s, m, args, below, meth, c, Q, A, cells, slots⟩ := M
  obtain ⟨D, cl, tys, ad⟩ := G
  intro hF H locs ls hP hD hS hl
  obtain ⟨⟨hx, hb, hml, hown, hts⟩, hr, hlk, hK, hA⟩ := id hF
  exact lv_i2l hx hb hdg rfl (kk hF H locs ls hP hD hS hl)
theorem z_l2i {x : Int64} (hdg : decode cc pc = .ok (.l2i, 1)) (kk : Zj M G cc nL own Ts rt aw lv (.int x.toInt32 :: st) (pc + 1)) : Zj M G cc nL own Ts rt aw lv (.long x :: st) pc := by
  obtain ⟨p, l, e, R, s, m, args, below, meth, c, Q, A, cells, slots⟩ := M
  obtain ⟨D, cl, tys, ad⟩ := G
  intro hF H locs ls hP hD hS hl
  obtain ⟨⟨hx, hb, hml, hown, hts⟩, hr, hlk, hK, hA⟩ := id hF
  exact lv_l2i hx hb hdg rfl (kk hF H locs ls hP hD hS hl)
theorem z_i2b {x : Int32} (hdg : decode cc pc = .ok (.i2b, 1)) (kk : Zj M G cc nL own Ts rt aw lv (.int x.toInt8.toInt32 :: st) (pc + 1)) : Zj M G cc nL own Ts rt aw lv (.int x :: st) pc := by
  obtain ⟨p, l, e, R, s, m, args, below, meth, c, Q, A, cells, slots⟩ := M
  obtain ⟨D, cl, tys, ad⟩ := G
  intro hF H locs ls hP hD hS hl
  obtain ⟨⟨hx, hb, hml, hown, hts⟩, hr, hlk, hK, hA⟩ := id hF
  exact lv_i2b hx hb hdg rfl (kk hF H locs ls hP hD hS hl)
theorem z_lcmp {x y : Int64} (hdg : decode cc pc = .ok (.lcmp, 1)) (kk : Zj M G cc nL own Ts rt aw lv (.int (lg_cmp x y) :: st) (pc + 1)) : Zj M G cc nL own Ts rt aw lv (.long y :: .long x :: st) pc := by
  obtain ⟨p, l, e, R, s, m, args, below, meth, c, Q, A, cells, slots⟩ := M
  obtain ⟨D, cl, tys, ad⟩ := G
  intro hF H locs ls hP hD hS hl
  obtain ⟨⟨hx, hb, hml, hown, hts⟩, hr, hlk, hK, hA⟩ := id hF
  exact W.lcmp hx hb hdg (kk hF H locs ls hP hD hS hl)
theorem z_dup {va : Value} (hdg : decode cc pc = .ok (.dup, 1)) (hva : va.category = 1) (kk : Zj M G cc nL own Ts rt aw lv (va :: va :: st) (pc + 1)) : Zj M G cc nL own Ts rt aw lv (va :: st) pc := by
  obtain ⟨p, l, e, R, s, m, args, below, meth, c, Q, A, cells, slots⟩ := M
  obtain ⟨D, cl, tys, ad⟩ := G
  intro hF H locs ls hP hD hS hl
  obtain ⟨⟨hx, hb, hml, hown, hts⟩, hr, hlk, hK, hA⟩ := id hF
  exact lv_dup hx hb hdg ((zv_cat ad va).trans hva) (kk hF H locs ls hP hD hS hl)
theorem z_pop {va : Value} (hdg : decode cc pc = .ok (.pop, 1)) (hva : va.category = 1) (kk : Zj M G cc nL own Ts rt aw lv (st) (pc + 1)) : Zj M G cc nL own Ts rt aw lv (va :: st) pc := by
  obtain ⟨p, l, e, R, s, m, args, below, meth, c, Q, A, cells, slots⟩ := M
  obtain ⟨D, cl, tys, ad⟩ := G
  intro hF H locs ls hP hD hS hl
  obtain ⟨⟨hx, hb, hml, hown, hts⟩, hr, hlk, hK, hA⟩ := id hF
  exact lv_pop hx hb hdg ((zv_cat ad va).trans hva) (kk hF H locs ls hP hD hS hl)
theorem z_pop2_2 {va : Value} (hdg : decode cc pc = .ok (.pop2, 1)) (hva : va.category = 2) (kk : Zj M G cc nL own Ts rt aw lv (st) (pc + 1)) : Zj M G cc nL own Ts rt aw lv (va :: st) pc := by
  obtain ⟨p, l, e, R, s, m, args, below, meth, c, Q, A, cells, slots⟩ := M
  obtain ⟨D, cl, tys, ad⟩ := G
  intro hF H locs ls hP hD hS hl
  obtain ⟨⟨hx, hb, hml, hown, hts⟩, hr, hlk, hK, hA⟩ := id hF
  exact lv_pop2_2 hx hb hdg ((zv_cat ad va).trans hva) (kk hF H locs ls hP hD hS hl)
theorem z_dup_x1 {va vb : Value} (hdg : decode cc pc = .ok (.dup_x1, 1)) (hva : va.category = 1) (hvb : vb.category = 1) (kk : Zj M G cc nL own Ts rt aw lv (va :: vb :: va :: st) (pc + 1)) : Zj M G cc nL own Ts rt aw lv (va :: vb :: st) pc := by
  obtain ⟨p, l, e, R, s, m, args, below, meth, c, Q, A, cells, slots⟩ := M
  obtain ⟨D, cl, tys, ad⟩ := G
  intro hF H locs ls hP hD hS hl
  obtain ⟨⟨hx, hb, hml, hown, hts⟩, hr, hlk, hK, hA⟩ := id hF
  exact lv_dup_x1 hx hb hdg ((zv_cat ad va).trans hva) ((zv_cat ad vb).trans hvb) (kk hF H locs ls hP hD hS hl)
theorem z_dup_x2 {va vb vd : Value} (hdg : decode cc pc = .ok (.dup_x2, 1)) (hva : va.category = 1) (hvb : vb.category = 1) (hvd : vd.category = 1) (kk : Zj M G cc nL own Ts rt aw lv (va :: vb :: vd :: va :: st) (pc + 1)) : Zj M G cc nL own Ts rt aw lv (va :: vb :: vd :: st) pc := by
  obtain ⟨p, l, e, R, s, m, args, below, meth, c, Q, A, cells, slots⟩ := M
  obtain ⟨D, cl, tys, ad⟩ := G
  intro hF H locs ls hP hD hS hl
  obtain ⟨⟨hx, hb, hml, hown, hts⟩, hr, hlk, hK, hA⟩ := id hF
  exact lv_dup_x2 hx hb hdg ((zv_cat ad va).trans hva) ((zv_cat ad vb).trans hvb) ((zv_cat ad vd).trans hvd) (kk hF H locs ls hP hD hS hl)
theorem z_dup2_11 {va vb : Value} (hdg : decode cc pc = .ok (.dup2, 1)) (hva : va.category = 1) (hvb : vb.category = 1) (kk : Zj M G cc nL own Ts rt aw lv (va :: vb :: va :: vb :: st) (pc + 1)) : Zj M G cc nL own Ts rt aw lv (va :: vb :: st) pc := by
  obtain ⟨p, l, e, R, s, m, args, below, meth, c, Q, A, cells, slots⟩ := M
  obtain ⟨D, cl, tys, ad⟩ := G
  intro hF H locs ls hP hD hS hl
  obtain ⟨⟨hx, hb, hml, hown, hts⟩, hr, hlk, hK, hA⟩ := id hF
  exact lv_dup2_11 hx hb hdg ((zv_cat ad va).trans hva) ((zv_cat ad vb).trans hvb) (kk hF H locs ls hP hD hS hl)
theorem z_dup2_2 {va : Value} (hdg : decode cc pc = .ok (.dup2, 1)) (hva : va.category = 2) (kk : Zj M G cc nL own Ts rt aw lv (va :: va :: st) (pc + 1)) : Zj M G cc nL own Ts rt aw lv (va :: st) pc := by
  obtain ⟨p, l, e, R, s, m, args, below, meth, c, Q, A, cells, slots⟩ := M
  obtain ⟨D, cl, tys, ad⟩ := G
  intro hF H locs ls hP hD hS hl
  obtain ⟨⟨hx, hb, hml, hown, hts⟩, hr, hlk, hK, hA⟩ := id hF
  exact lv_dup2_2 hx hb hdg ((zv_cat ad va).trans hva) (kk hF H locs ls hP hD hS hl)
theorem z_if_eq {x : Int32} {off : Int} {tgt : Nat} (hdg : decode cc pc = .ok (.ifCond .eq off, 3)) (ht : (pc : Int) + off = (tgt : Int)) (kt : x = 0 → Zj M G cc nL own Ts rt aw lv st tgt) (kf : ¬ x = 0 → Zj M G cc nL own Ts rt aw lv st (pc + 3)) : Zj M G cc nL own Ts rt aw lv (.int x :: st) pc := by
  obtain ⟨p, l, e, R, s, m, args, below, meth, c, Q, A, cells, slots⟩ := M
  obtain ⟨D, cl, tys, ad⟩ := G
  intro hF H locs ls hP hD hS hl
  obtain ⟨⟨hx, hb, hml, hown, hts⟩, hr, hlk, hK, hA⟩ := id hF
  exact lv_if_eq hx hb hdg ht (fun h => kt h hF H locs ls hP hD hS hl) (fun h => kf h hF H locs ls hP hD hS hl)
theorem z_icmp_eq {x y : Int32} {off : Int} {tgt : Nat} (hdg : decode cc pc = .ok (.if_icmp .eq off, 3)) (ht : (pc : Int) + off = (tgt : Int)) (kt : x = y → Zj M G cc nL own Ts rt aw lv st tgt) (kf : ¬ x = y → Zj M G cc nL own Ts rt aw lv st (pc + 3)) : Zj M G cc nL own Ts rt aw lv (.int y :: .int x :: st) pc := by
  obtain ⟨p, l, e, R, s, m, args, below, meth, c, Q, A, cells, slots⟩ := M
  obtain ⟨D, cl, tys, ad⟩ := G
  intro hF H locs ls hP hD hS hl
  obtain ⟨⟨hx, hb, hml, hown, hts⟩, hr, hlk, hK, hA⟩ := id hF
  exact lv_icmp_eq hx hb hdg ht (fun h => kt h hF H locs ls hP hD hS hl) (fun h => kf h hF H locs ls hP hD hS hl)
theorem z_if_ne {x : Int32} {off : Int} {tgt : Nat} (hdg : decode cc pc = .ok (.ifCond .ne off, 3)) (ht : (pc : Int) + off = (tgt : Int)) (kt : ¬ x = 0 → Zj M G cc nL own Ts rt aw lv st tgt) (kf : x = 0 → Zj M G cc nL own Ts rt aw lv st (pc + 3)) : Zj M G cc nL own Ts rt aw lv (.int x :: st) pc := by
  obtain ⟨p, l, e, R, s, m, args, below, meth, c, Q, A, cells, slots⟩ := M
  obtain ⟨D, cl, tys, ad⟩ := G
  intro hF H locs ls hP hD hS hl
  obtain ⟨⟨hx, hb, hml, hown, hts⟩, hr, hlk, hK, hA⟩ := id hF
  exact lv_if_ne hx hb hdg ht (fun h => kt h hF H locs ls hP hD hS hl) (fun h => kf h hF H locs ls hP hD hS hl)
theorem z_icmp_ne {x y : Int32} {off : Int} {tgt : Nat} (hdg : decode cc pc = .ok (.if_icmp .ne off, 3)) (ht : (pc : Int) + off = (tgt : Int)) (kt : ¬ x = y → Zj M G cc nL own Ts rt aw lv st tgt) (kf : x = y → Zj M G cc nL own Ts rt aw lv st (pc + 3)) : Zj M G cc nL own Ts rt aw lv (.int y :: .int x :: st) pc := by
  obtain ⟨p, l, e, R, s, m, args, below, meth, c, Q, A, cells, slots⟩ := M
  obtain ⟨D, cl, tys, ad⟩ := G
  intro hF H locs ls hP hD hS hl
  obtain ⟨⟨hx, hb, hml, hown, hts⟩, hr, hlk, hK, hA⟩ := id hF
  exact lv_icmp_ne hx hb hdg ht (fun h => kt h hF H locs ls hP hD hS hl) (fun h => kf h hF H locs ls hP hD hS hl)
theorem z_if_lt {x : Int32} {off : Int} {tgt : Nat} (hdg : decode cc pc = .ok (.ifCond .lt off, 3)) (ht : (pc : Int) + off = (tgt : Int)) (kt : x < 0 → Zj M G cc nL own Ts rt aw lv st tgt) (kf : ¬ x < 0 → Zj M G cc nL own Ts rt aw lv st (pc + 3)) : Zj M G cc nL own Ts rt aw lv (.int x :: st) pc := by
  obtain ⟨p, l, e, R, s, m, args, below, meth, c, Q, A, cells, slots⟩ := M
  obtain ⟨D, cl, tys, ad⟩ := G
  intro hF H locs ls hP hD hS hl
  obtain ⟨⟨hx, hb, hml, hown, hts⟩, hr, hlk, hK, hA⟩ := id hF
  exact lv_if_lt hx hb hdg ht (fun h => kt h hF H locs ls hP hD hS hl) (fun h => kf h hF H locs ls hP hD hS hl)
theorem z_icmp_lt {x y : Int32} {off : Int} {tgt : Nat} (hdg : decode cc pc = .ok (.if_icmp .lt off, 3)) (ht : (pc : Int) + off = (tgt : Int)) (kt : x < y → Zj M G cc nL own Ts rt aw lv st tgt) (kf : ¬ x < y → Zj M G cc nL own Ts rt aw lv st (pc + 3)) : Zj M G cc nL own Ts rt aw lv (.int y :: .int x :: st) pc := by
  obtain ⟨p, l, e, R, s, m, args, below, meth, c, Q, A, cells, slots⟩ := M
  obtain ⟨D, cl, tys, ad⟩ := G
  intro hF H locs ls hP hD hS hl
  obtain ⟨⟨hx, hb, hml, hown, hts⟩, hr, hlk, hK, hA⟩ := id hF
  exact lv_icmp_lt hx hb hdg ht (fun h => kt h hF H locs ls hP hD hS hl) (fun h => kf h hF H locs ls hP hD hS hl)
theorem z_if_ge {x : Int32} {off : Int} {tgt : Nat} (hdg : decode cc pc = .ok (.ifCond .ge off, 3)) (ht : (pc : Int) + off = (tgt : Int)) (kt : 0 ≤ x → Zj M G cc nL own Ts rt aw lv st tgt) (kf : ¬ 0 ≤ x → Zj M G cc nL own Ts rt aw lv st (pc + 3)) : Zj M G cc nL own Ts rt aw lv (.int x :: st) pc := by
  obtain ⟨p, l, e, R, s, m, args, below, meth, c, Q, A, cells, slots⟩ := M
  obtain ⟨D, cl, tys, ad⟩ := G
  intro hF H locs ls hP hD hS hl
  obtain ⟨⟨hx, hb, hml, hown, hts⟩, hr, hlk, hK, hA⟩ := id hF
  exact lv_if_ge hx hb hdg ht (fun h => kt h hF H locs ls hP hD hS hl) (fun h => kf h hF H locs ls hP hD hS hl)
theorem z_icmp_ge {x y : Int32} {off : Int} {tgt : Nat} (hdg : decode cc pc = .ok (.if_icmp .ge off, 3)) (ht : (pc : Int) + off = (tgt : Int)) (kt : y ≤ x → Zj M G cc nL own Ts rt aw lv st tgt) (kf : ¬ y ≤ x → Zj M G cc nL own Ts rt aw lv st (pc + 3)) : Zj M G cc nL own Ts rt aw lv (.int y :: .int x :: st) pc := by
  obtain ⟨p, l, e, R, s, m, args, below, meth, c, Q, A, cells, slots⟩ := M
  obtain ⟨D, cl, tys, ad⟩ := G
  intro hF H locs ls hP hD hS hl
  obtain ⟨⟨hx, hb, hml, hown, hts⟩, hr, hlk, hK, hA⟩ := id hF
  exact lv_icmp_ge hx hb hdg ht (fun h => kt h hF H locs ls hP hD hS hl) (fun h => kf h hF H locs ls hP hD hS hl)
theorem z_if_gt {x : Int32} {off : Int} {tgt : Nat} (hdg : decode cc pc = .ok (.ifCond .gt off, 3)) (ht : (pc : Int) + off = (tgt : Int)) (kt : 0 < x → Zj M G cc nL own Ts rt aw lv st tgt) (kf : ¬ 0 < x → Zj M G cc nL own Ts rt aw lv st (pc + 3)) : Zj M G cc nL own Ts rt aw lv (.int x :: st) pc := by
  obtain ⟨p, l, e, R, s, m, args, below, meth, c, Q, A, cells, slots⟩ := M
  obtain ⟨D, cl, tys, ad⟩ := G
  intro hF H locs ls hP hD hS hl
  obtain ⟨⟨hx, hb, hml, hown, hts⟩, hr, hlk, hK, hA⟩ := id hF
  exact lv_if_gt hx hb hdg ht (fun h => kt h hF H locs ls hP hD hS hl) (fun h => kf h hF H locs ls hP hD hS hl)
theorem z_icmp_gt {x y : Int32} {off : Int} {tgt : Nat} (hdg : decode cc pc = .ok (.if_icmp .gt off, 3)) (ht : (pc : Int) + off = (tgt : Int)) (kt : y < x → Zj M G cc nL own Ts rt aw lv st tgt) (kf : ¬ y < x → Zj M G cc nL own Ts rt aw lv st (pc + 3)) : Zj M G cc nL own Ts rt aw lv (.int y :: .int x :: st) pc := by
  obtain ⟨p, l, e, R, s, m, args, below, meth, c, Q, A, cells, slots⟩ := M
  obtain ⟨D, cl, tys, ad⟩ := G
  intro hF H locs ls hP hD hS hl
  obtain ⟨⟨hx, hb, hml, hown, hts⟩, hr, hlk, hK, hA⟩ := id hF
  exact lv_icmp_gt hx hb hdg ht (fun h => kt h hF H locs ls hP hD hS hl) (fun h => kf h hF H locs ls hP hD hS hl)
theorem z_if_le {x : Int32} {off : Int} {tgt : Nat} (hdg : decode cc pc = .ok (.ifCond .le off, 3)) (ht : (pc : Int) + off = (tgt : Int)) (kt : x ≤ 0 → Zj M G cc nL own Ts rt aw lv st tgt) (kf : ¬ x ≤ 0 → Zj M G cc nL own Ts rt aw lv st (pc + 3)) : Zj M G cc nL own Ts rt aw lv (.int x :: st) pc := by
  obtain ⟨p, l, e, R, s, m, args, below, meth, c, Q, A, cells, slots⟩ := M
  obtain ⟨D, cl, tys, ad⟩ := G
  intro hF H locs ls hP hD hS hl
  obtain ⟨⟨hx, hb, hml, hown, hts⟩, hr, hlk, hK, hA⟩ := id hF
  exact lv_if_le hx hb hdg ht (fun h => kt h hF H locs ls hP hD hS hl) (fun h => kf h hF H locs ls hP hD hS hl)
theorem z_icmp_le {x y : Int32} {off : Int} {tgt : Nat} (hdg : decode cc pc = .ok (.if_icmp .le off, 3)) (ht : (pc : Int) + off = (tgt : Int)) (kt : x ≤ y → Zj M G cc nL own Ts rt aw lv st tgt) (kf : ¬ x ≤ y → Zj M G cc nL own Ts rt aw lv st (pc + 3)) : Zj M G cc nL own Ts rt aw lv (.int y :: .int x :: st) pc := by
  obtain ⟨p, l, e, R, s, m, args, below, meth, c, Q, A, cells, slots⟩ := M
  obtain ⟨D, cl, tys, ad⟩ := G
  intro hF H locs ls hP hD hS hl
  obtain ⟨⟨hx, hb, hml, hown, hts⟩, hr, hlk, hK, hA⟩ := id hF
  exact lv_icmp_le hx hb hdg ht (fun h => kt h hF H locs ls hP hD hS hl) (fun h => kf h hF H locs ls hP hD hS hl)
theorem z_goto {off : Int} {tgt : Nat} (hdg : decode cc pc = .ok (.goto off, 3)) (ht : (pc : Int) + off = (tgt : Int)) (kk : Zj M G cc nL own Ts rt aw lv st tgt) : Zj M G cc nL own Ts rt aw lv st pc := by
  obtain ⟨p, l, e, R, s, m, args, below, meth, c, Q, A, cells, slots⟩ := M
  obtain ⟨D, cl, tys, ad⟩ := G
  intro hF H locs ls hP hD hS hl
  obtain ⟨⟨hx, hb, hml, hown, hts⟩, hr, hlk, hK, hA⟩ := id hF
  exact lv_goto hx hb hdg ht (kk hF H locs ls hP hD hS hl)
theorem z_tableIn {dflt lo hi : Int} {offs : Array Int} {len : Nat} {x : Int32} {off : Int} {tgt : Nat} (hdg : decode cc pc = .ok (.tableswitch dflt lo hi offs, len)) (h1 : ¬ x.toInt < lo) (h2 : ¬ hi < x.toInt) (ho : offs[(x.toInt - lo).toNat]? = some off) (ht : (pc : Int) + off = (tgt : Int)) (kk : Zj M G cc nL own Ts rt aw lv st tgt) : Zj M G cc nL own Ts rt aw lv (.int x :: st) pc := by
  obtain ⟨p, l, e, R, s, m, args, below, meth, c, Q, A, cells, slots⟩ := M
  obtain ⟨D, cl, tys, ad⟩ := G
  intro hF H locs ls hP hD hS hl
  obtain ⟨⟨hx, hb, hml, hown, hts⟩, hr, hlk, hK, hA⟩ := id hF
  exact lv_tableIn hx hb hdg h1 h2 ho ht (kk hF H locs ls hP hD hS hl)
theorem z_tableOut {dflt lo hi : Int} {offs : Array Int} {len : Nat} {x : Int32} {tgt : Nat} (hdg : decode cc pc = .ok (.tableswitch dflt lo hi offs, len)) (h : x.toInt < lo ∨ hi < x.toInt) (ht : (pc : Int) + dflt = (tgt : Int)) (kk : Zj M G cc nL own Ts rt aw lv st tgt) : Zj M G cc nL own Ts rt aw lv (.int x :: st) pc := by
  obtain ⟨p, l, e, R, s, m, args, below, meth, c, Q, A, cells, slots⟩ := M
  obtain ⟨D, cl, tys, ad⟩ := G
  intro hF H locs ls hP hD hS hl
  obtain ⟨⟨hx, hb, hml, hown, hts⟩, hr, hlk, hK, hA⟩ := id hF
  exact lv_tableOut hx hb hdg h ht (kk hF H locs ls hP hD hS hl)
theorem z_topi {x : Int32} (k : ∀ y : Int32, y = x → Zj M G cc nL own Ts rt aw lv (.int y :: st) pc) : Zj M G cc nL own Ts rt aw lv (.int x :: st) pc := k x rfl
theorem z_topl {x : Int64} (k : ∀ y : Int64, y = x → Zj M G cc nL own Ts rt aw lv (.long y :: st) pc) : Zj M G cc nL own Ts rt aw lv (.long x :: st) pc := k x rfl
theorem z_get {C ref : String} {T : u_T} {N ci index i : Nat} {fs : List Value} {v : Value} (k : Nat) (hdg : decode cc pc = .ok (.getfield index, 3)) (he : aw[i]? = some (.inr (ci, fs))) (hc : G.2.1[ci]? = some (C, T, N)) (hv : fs[k]? = some v) (hk : k < N) (hin : ∀ w ∈ u_ws C T N, w ∈ Ts) (hlink : Cond.fieldLink own index ref (T k).2.1 (T k).2.2.1 ∈ Ts) (hsame : (T k).1 = ref) (kk : Zj M G cc nL own Ts rt aw lv (v :: st) (pc + 3)) : Zj M G cc nL own Ts rt aw lv (.ref i :: st) pc := by
  obtain ⟨p, l, e, R, s, m, args, below, meth, c, Q, A, cells, slots⟩ := M
  obtain ⟨D, cl, tys, ad⟩ := G
  intro hF H locs ls hP hD hS hl
  obtain ⟨⟨hx, hb, hml, hown, hts⟩, hr, hlk, hK, hA⟩ := id hF
  have he' : (zw ad aw)[i]? = some (ad i, .inr (ci, fs.map (zv ad))) := zw_get he
  exact va_get hx hb hts hin hown hK hP i he' hc k hk (hts _ hlink) (fun x h => by rw [← hsame]; exact h) (v := zv ad v) (by rw [List.getElem?_map, hv]; rfl) hdg (kk hF H locs ls hP hD hS hl)
theorem z_put {C ref : String} {T : u_T} {N ci index i : Nat} {fs : List Value} {v : Value} {ty : FieldType} (k : Nat) (ty0 : Nat → FieldType) (hdg : decode cc pc = .ok (.putfield index, 3)) (he : aw[i]? = some (.inr (ci, fs))) (hc : G.2.1[ci]? = some (C, T, N)) (hk : k < N) (hin : ∀ w ∈ u_ws C T N, w ∈ Ts) (hlink : Cond.fieldLink own index ref (T k).2.1 (T k).2.2.1 ∈ Ts) (hsame : (T k).1 = ref) (hty : ∀ k, k < N → parseFieldDescriptor (T k).2.2.1 = some (ty0 k)) (hnm : ∀ a, a < N → ∀ b, b < N → a ≠ b → (T a).2.1 ≠ (T b).2.1) (hfin : (T k).2.2.2 = false) (hd : parseFieldDescriptor (T k).2.2.1 = some ty) (hn : ∀ f : Nat → Nat, narrow ty (zv f v) = zv f v ∧ fits ty (zv f v) = true) (hl9 : k < fs.length) (kk : Zj M G cc nL own Ts rt (aw.set i (.inr (ci, fs.set k v))) lv st (pc + 3)) : Zj M G cc nL own Ts rt aw lv (v :: .ref i :: st) pc := by
  obtain ⟨p, l, e, R, s, m, args, below, meth, c, Q, A, cells, slots⟩ := M
  obtain ⟨D, cl, tys, ad⟩ := G
  intro hF H locs ls hP hD hS hl
  obtain ⟨⟨hx, hb, hml, hown, hts⟩, hr, hlk, hK, hA⟩ := id hF
  have he' : (zw ad aw)[i]? = some (ad i, .inr (ci, fs.map (zv ad))) := zw_get he
  refine va_put hx hb hts hin ty0 hty hnm hown hK hP hD hS i he' hc k hk (hts _ hlink) (fun x h => by rw [← hsame]; exact h) hfin hd (hn ad).1 (hn ad).2 (by rw [List.length_map]; exact hl9) hdg (fun H1 locs1 hP1 hD1 hS1 => ?_)
  have e9 : (zw ad aw).set i (ad i, .inr (ci, (fs.map (zv ad)).set k (zv ad v))) = zw ad (aw.set i (.inr (ci, fs.set k v))) := by
    rw [zw_set]; simp only [zc, List.map_set]
  rw [e9] at hP1 hD1
  exact kk hF H1 locs1 ls hP1 hD1 hS1 hl
theorem z_iald {cA : ClassId} {n a t0 : Nat} {f : Nat → Int32} {i : Int32} (hdg : decode cc pc = .ok (.iaload, 1)) (ha : aw[a]? = some (.inl (cA, n, .inl f))) (ht : G.2.2.1[t0]? = some (cA, .int)) (hin : vp_in i n) (kk : Zj M G cc nL own Ts rt aw lv (.int (f i.toNatClampNeg) :: st) (pc + 1)) : Zj M G cc nL own Ts rt aw lv (.int i :: .ref a :: st) pc := by
  obtain ⟨p, l, e, R, s, m, args, below, meth, c, Q, A, cells, slots⟩ := M
  obtain ⟨D, cl, tys, ad⟩ := G
  intro hF H locs ls hP hD hS hl
  obtain ⟨⟨hx, hb, hml, hown, hts⟩, hr, hlk, hK, hA⟩ := id hF
  have he' : (zw ad aw)[a]? = some (ad a, .inl (cA, n, .inl f)) := zw_get ha
  exact va_iald hx hb hK hP a t0 he' ht hin hdg (kk hF H locs ls hP hD hS hl)
theorem z_lald {cA : ClassId} {n a t0 : Nat} {f : Nat → Int64} {i : Int32} (hdg : decode cc pc = .ok (.laload, 1)) (ha : aw[a]? = some (.inl (cA, n, .inr (.inl f)))) (ht : G.2.2.1[t0]? = some (cA, .long)) (hin : vp_in i n) (kk : Zj M G cc nL own Ts rt aw lv (.long (f i.toNatClampNeg) :: st) (pc + 1)) : Zj M G cc nL own Ts rt aw lv (.int i :: .ref a :: st) pc := by
  obtain ⟨p, l, e, R, s, m, args, below, meth, c, Q, A, cells, slots⟩ := M
  obtain ⟨D, cl, tys, ad⟩ := G
  intro hF H locs ls hP hD hS hl
  obtain ⟨⟨hx, hb, hml, hown, hts⟩, hr, hlk, hK, hA⟩ := id hF
  have he' : (zw ad aw)[a]? = some (ad a, .inl (cA, n, .inr (.inl f))) := zw_get ha
  exact va_lald hx hb hK hP a t0 he' ht hin hdg (kk hF H locs ls hP hD hS hl)
theorem z_aald {cA : ClassId} {n a t0 b : Nat} {C : String} {f : Nat → Option Nat} {i : Int32} (hdg : decode cc pc = .ok (.aaload, 1)) (ha : aw[a]? = some (.inl (cA, n, .inr (.inr (.inr (.inr f)))))) (ht : G.2.2.1[t0]? = some (cA, .object C)) (hin : vp_in i n) (hb9 : f i.toNatClampNeg = some b) (kk : Zj M G cc nL own Ts rt aw lv (.ref b :: st) (pc + 1)) : Zj M G cc nL own Ts rt aw lv (.int i :: .ref a :: st) pc := by
  obtain ⟨p, l, e, R, s, m, args, below, meth, c, Q, A, cells, slots⟩ := M
  obtain ⟨D, cl, tys, ad⟩ := G
  intro hF H locs ls hP hD hS hl
  obtain ⟨⟨hx, hb, hml, hown, hts⟩, hr, hlk, hK, hA⟩ := id hF
  have he' : (zw ad aw)[a]? = some (ad a, .inl (cA, n, .inr (.inr (.inr (.inr (fun j => (f j).map ad)))))) := zw_get ha
  refine va_aldq hx hb hK hP a t0 he' ht hin hdg ?_
  simp only [hb9]
  exact kk hF H locs ls hP hD hS hl
theorem z_iast {cA : ClassId} {n a t0 : Nat} {f : Nat → Int32} {i x : Int32} (hdg : decode cc pc = .ok (.iastore, 1)) (ha : aw[a]? = some (.inl (cA, n, .inl f))) (ht : G.2.2.1[t0]? = some (cA, .int)) (hin : vp_in i n) (kk : Zj M G cc nL own Ts rt (aw.set a (.inl (cA, n, .inl (upd f i.toNatClampNeg x)))) lv st (pc + 1)) : Zj M G cc nL own Ts rt aw lv (.int x :: .int i :: .ref a :: st) pc := by
  obtain ⟨p, l, e, R, s, m, args, below, meth, c, Q, A, cells, slots⟩ := M
  obtain ⟨D, cl, tys, ad⟩ := G
  intro hF H locs ls hP hD hS hl
  obtain ⟨⟨hx, hb, hml, hown, hts⟩, hr, hlk, hK, hA⟩ := id hF
  have he' : (zw ad aw)[a]? = some (ad a, .inl (cA, n, .inl f)) := zw_get ha
  refine va_iast hx hb hK hP hD hS a t0 he' ht hin hdg (fun H1 locs1 hP1 hD1 hS1 => ?_)
  have e9 : (zw ad aw).set a (ad a, .inl (cA, n, .inl (upd f i.toNatClampNeg x))) = zw ad (aw.set a (.inl (cA, n, .inl (upd f i.toNatClampNeg x)))) := by
    rw [zw_set]; rfl
  rw [e9] at hP1 hD1
  exact kk hF H1 locs1 ls hP1 hD1 hS1 hl
theorem z_last {cA : ClassId} {n a t0 : Nat} {f : Nat → Int64} {i : Int32} {x : Int64} (hdg : decode cc pc = .ok (.lastore, 1)) (ha : aw[a]? = some (.inl (cA, n, .inr (.inl f)))) (ht : G.2.2.1[t0]? = some (cA, .long)) (hin : vp_in i n) (kk : Zj M G cc nL own Ts rt (aw.set a (.inl (cA, n, .inr (.inl (vp_updL f i.toNatClampNeg x))))) lv st (pc + 1)) : Zj M G cc nL own Ts rt aw lv (.long x :: .int i :: .ref a :: st) pc := by
  obtain ⟨p, l, e, R, s, m, args, below, meth, c, Q, A, cells, slots⟩ := M
  obtain ⟨D, cl, tys, ad⟩ := G
  intro hF H locs ls hP hD hS hl
  obtain ⟨⟨hx, hb, hml, hown, hts⟩, hr, hlk, hK, hA⟩ := id hF
  have he' : (zw ad aw)[a]? = some (ad a, .inl (cA, n, .inr (.inl f))) := zw_get ha
  refine va_last hx hb hK hP hD hS a t0 he' ht hin hdg (fun H1 locs1 hP1 hD1 hS1 => ?_)
  have e9 : (zw ad aw).set a (ad a, .inl (cA, n, .inr (.inl (vp_updL f i.toNatClampNeg x)))) = zw ad (aw.set a (.inl (cA, n, .inr (.inl (vp_updL f i.toNatClampNeg x))))) := by
    rw [zw_set]; rfl
  rw [e9] at hP1 hD1
  exact kk hF H1 locs1 ls hP1 hD1 hS1 hl
theorem z_alen {cA : ClassId} {a t0 : Nat} {x : vp_A} {ty : FieldType} {v : Int32} (hdg : decode cc pc = .ok (.arraylength, 1)) (ha : aw[a]? = some (.inl (cA, x))) (ht : G.2.2.1[t0]? = some (cA, ty)) (hv : Int32.ofNat x.1 = v) (kk : Zj M G cc nL own Ts rt aw lv (.int v :: st) (pc + 1)) : Zj M G cc nL own Ts rt aw lv (.ref a :: st) pc := by
  obtain ⟨p, l, e, R, s, m, args, below, meth, c, Q, A, cells, slots⟩ := M
  obtain ⟨D, cl, tys, ad⟩ := G
  intro hF H locs ls hP hD hS hl
  obtain ⟨⟨hx, hb, hml, hown, hts⟩, hr, hlk, hK, hA⟩ := id hF
  obtain ⟨n, x⟩ := x
  have h9 : ∃ y : vp_A, y.1 = n ∧ zc ad (.inl (cA, (n, x))) = .inl (cA, y) := by
    rcases x with f | f | f | f | f
    · exact ⟨_, rfl, rfl⟩
    · exact ⟨_, rfl, rfl⟩
    · exact ⟨_, rfl, rfl⟩
    · exact ⟨_, rfl, rfl⟩
    · exact ⟨(n, .inr (.inr (.inr (.inr (fun j => (f j).map ad))))), rfl, rfl⟩
  obtain ⟨y, e1, e2⟩ := h9
  have he' := zw_get (ad := ad) ha
  rw [e2] at he'
  exact va_alen hx hb hK hP a t0 he' ht (v := v) (by rw [e1]; exact hv) hdg (kk hF H locs ls hP hD hS hl)
theorem z_iinc1 {i : Nat} {x : Int32} (hdg : decode cc pc = .ok (.iinc i 1, 3)) (hn : i < nL) (hok : zsok lv i = true) (hv : lv[i]? = some (some (.int x))) (kk : Zj M G cc nL own Ts rt aw (lv.set i (some (.int (x + 1)))) st (pc + 3)) : Zj M G cc nL own Ts rt aw lv st pc := z_iinc hdg hn hok hv rfl kk
theorem z_ialdN {cA : ClassId} {n a t0 k : Nat} {f : Nat → Int32} {i : Int32} (hdg : decode cc pc = .ok (.iaload, 1)) (ha : aw[a]? = some (.inl (cA, n, .inl f))) (ht : G.2.2.1[t0]? = some (cA, .int)) (hi : i = nI k) (hk : k < n) (hn : n < 2 ^ 31) (kk : Zj M G cc nL own Ts rt aw lv (.int (f k) :: st) (pc + 1)) : Zj M G cc nL own Ts rt aw lv (.int i :: .ref a :: st) pc := by
  subst hi
  refine z_iald hdg ha ht (vp_in_nI hk hn) ?_
  rw [nI_clamp (by omega)]
  exact kk
theorem z_laldN {cA : ClassId} {n a t0 k : Nat} {f : Nat → Int64} {i : Int32} (hdg : decode cc pc = .ok (.laload, 1)) (ha : aw[a]? = some (.inl (cA, n, .inr (.inl f)))) (ht : G.2.2.1[t0]? = some (cA, .long)) (hi : i = nI k) (hk : k < n) (hn : n < 2 ^ 31) (kk : Zj M G cc nL own Ts rt aw lv (.long (f k) :: st) (pc + 1)) : Zj M G cc nL own Ts rt aw lv (.int i :: .ref a :: st) pc := by
  subst hi
  refine z_lald hdg ha ht (vp_in_nI hk hn) ?_
  rw [nI_clamp (by omega)]
  exact kk
theorem z_aaldN {cA : ClassId} {n a t0 b k : Nat} {C : String} {f : Nat → Option Nat} {i : Int32} (hdg : decode cc pc = .ok (.aaload, 1)) (ha : aw[a]? = some (.inl (cA, n, .inr (.inr (.inr (.inr f)))))) (ht : G.2.2.1[t0]? = some (cA, .object C)) (hi : i = nI k) (hk : k < n) (hn : n < 2 ^ 31) (hb9 : f k = some b) (kk : Zj M G cc nL own Ts rt aw lv (.ref b :: st) (pc + 1)) : Zj M G cc nL own Ts rt aw lv (.int i :: .ref a :: st) pc := by
  subst hi
  exact z_aald hdg ha ht (vp_in_nI hk hn) (by rw [nI_clamp (by omega)]; exact hb9) kk
theorem z_iastN {cA : ClassId} {n a t0 k : Nat} {f : Nat → Int32} {i x : Int32} (hdg : decode cc pc = .ok (.iastore, 1)) (ha : aw[a]? = some (.inl (cA, n, .inl f))) (ht : G.2.2.1[t0]? = some (cA, .int)) (hi : i = nI k) (hk : k < n) (hn : n < 2 ^ 31) (kk : Zj M G cc nL own Ts rt (aw.set a (.inl (cA, n, .inl (upd f k x)))) lv st (pc + 1)) : Zj M G cc nL own Ts rt aw lv (.int x :: .int i :: .ref a :: st) pc := by
  subst hi
  refine z_iast hdg ha ht (vp_in_nI hk hn) ?_
  rw [nI_clamp (by omega)]
  exact kk
theorem z_lastN {cA : ClassId} {n a t0 k : Nat} {f : Nat → Int64} {i : Int32} {x : Int64} (hdg : decode cc pc = .ok (.lastore, 1)) (ha : aw[a]? = some (.inl (cA, n, .inr (.inl f)))) (ht : G.2.2.1[t0]? = some (cA, .long)) (hi : i = nI k) (hk : k < n) (hn : n < 2 ^ 31) (kk : Zj M G cc nL own Ts rt (aw.set a (.inl (cA, n, .inr (.inl (vp_updL f k x))))) lv st (pc + 1)) : Zj M G cc nL own Ts rt aw lv (.long x :: .int i :: .ref a :: st) pc := by
  subst hi
  refine z_last hdg ha ht (vp_in_nI hk hn) ?_
  rw [nI_clamp (by omega)]
  exact kk
theorem z_copyi {cA : ClassId} {n0 n1 a b t0 index s9 d9 k9 : Nat} {f g : Nat → Int32} {sp dp n : Int32} (hdg : decode cc pc = .ok (.invokestatic index, 3)) (h1 : Cond.methodLink own index arraycopyName ∈ Ts) (h2 : Cond.native arraycopyName ∈ Ts) (h3 : Cond.static arraycopyName ∈ Ts) (h4 : Cond.initialized "java/lang/System" ∈ Ts) (ha : aw[a]? = some (.inl (cA, n0, .inl f))) (hb9 : aw[b]? = some (.inl (cA, n1, .inl g))) (ht : G.2.2.1[t0]? = some (cA, .int)) (hs : sp = nI s9) (hd : dp = nI d9) (hk : n = nI k9) (l1 : s9 + k9 ≤ n0) (l2 : d9 + k9 ≤ n1) (l3 : n0 < 2 ^ 31) (l4 : n1 < 2 ^ 31) (hR : 1 ≤ M.2.2.2.1.frames ∧ (st.map fun v => v.category).sum + (nativeFrameWords "java/lang/System" "arraycopy" 5 + 11) ≤ M.2.2.2.1.locals) (kk : Zj M G cc nL own Ts rt (aw.set b (.inl (cA, n1, .inl (va_cpy f g s9 d9 k9)))) lv st (pc + 3)) : Zj M G cc nL own Ts rt aw lv (.int n :: .int dp :: .ref b :: .int sp :: .ref a :: st) pc := by
  obtain ⟨p, l, e, R, s, m, args, below, meth, c, Q, A, cells, slots⟩ := M
  obtain ⟨D, cl, tys, ad⟩ := G
  intro hF H locs ls hP hD hS hl
  obtain ⟨⟨hx, hb, hml, hown, hts⟩, hr, hlk, hK, hA⟩ := id hF
  subst hs; subst hd; subst hk
  have ha' : (zw ad aw)[a]? = some (ad a, .inl (cA, n0, .inl f)) := zw_get ha
  have hb' : (zw ad aw)[b]? = some (ad b, .inl (cA, n1, .inl g)) := zw_get hb9
  refine va_copyi hx hb (hml.trans hl.1.symm) hown (hts _ h1) (hts _ h2) (hts _ h3) (hts _ h4) hK hP hD hS a b t0 t0 ha' hb' ht ht rfl (nI_pos (by omega)) (nI_pos (by omega)) (nI_pos (by omega)) (by rw [nI_clamp (by omega), nI_clamp (by omega)]; exact l1) (by rw [nI_clamp (by omega), nI_clamp (by omega)]; exact l2) (fun i _ => rfl) hR.1 (by rw [zv_cats]; exact hR.2) hdg (fun H1 locs1 hP1 hD1 hS1 => ?_)
  rw [nI_clamp (by omega), nI_clamp (by omega), nI_clamp (by omega)] at hP1 hD1
  have e9 : (zw ad aw).set b (ad b, .inl (cA, n1, .inl (va_cpy f g s9 d9 k9))) = zw ad (aw.set b (.inl (cA, n1, .inl (va_cpy f g s9 d9 k9)))) := by
    rw [zw_set]; rfl
  rw [e9] at hP1 hD1
  exact kk hF H1 locs1 ls hP1 hD1 hS1 hl
theorem z_mmax {x y : Int32} {index : Nat} (hdg : decode cc pc = .ok (.invokestatic index, 3)) (h1 : Cond.methodLink own index Lib.Math.max.name ∈ Ts) (h2 : Cond.static Lib.Math.max.name ∈ Ts) (h3 : Cond.initialized "java/lang/Math" ∈ Ts) (h4 : Cond.code Lib.Math.max.name Lib.Math.max.code 2 (some .int) ∈ Ts) (hR : 1 ≤ M.2.2.2.1.frames ∧ (st.map fun v => v.category).sum + 13 ≤ M.2.2.2.1.locals) (hcs : M.2.2.2.2.2.2.2.2.2.2.2.2.1 ≤ M.2.2.2.1.cells ∧ M.2.2.2.2.2.2.2.2.2.2.2.2.2 ≤ M.2.2.2.1.slots) (kk : Zj M G cc nL own Ts rt aw lv (.int (if x < y then y else x) :: st) (pc + 3)) : Zj M G cc nL own Ts rt aw lv (.int y :: .int x :: st) pc := by
  obtain ⟨p, l, e, R, s, m, args, below, meth, c, Q, A, cells, slots⟩ := M
  obtain ⟨D, cl, tys, ad⟩ := G
  intro hF H locs ls hP hD hS hl
  obtain ⟨⟨hx, hb, hml, hown, hts⟩, hr, hlk, hK, hA⟩ := id hF
  exact va_mmax hx hb (hml.trans hl.1.symm) hown (hts _ h1) (hts _ h2) (hts _ h3) (hts _ h4) hR.1 (by rw [zv_cats]; exact hR.2) hcs.1 hcs.2 hdg (kk hF H locs ls hP hD hS hl)
theorem z_mmin {x y : Int32} {index : Nat} (hdg : decode cc pc = .ok (.invokestatic index, 3)) (h1 : Cond.methodLink own index Lib.Math.min.name ∈ Ts) (h2 : Cond.static Lib.Math.min.name ∈ Ts) (h3 : Cond.initialized "java/lang/Math" ∈ Ts) (h4 : Cond.code Lib.Math.min.name Lib.Math.min.code 2 (some .int) ∈ Ts) (hR : 1 ≤ M.2.2.2.1.frames ∧ (st.map fun v => v.category).sum + 13 ≤ M.2.2.2.1.locals) (hcs : M.2.2.2.2.2.2.2.2.2.2.2.2.1 ≤ M.2.2.2.1.cells ∧ M.2.2.2.2.2.2.2.2.2.2.2.2.2 ≤ M.2.2.2.1.slots) (kk : Zj M G cc nL own Ts rt aw lv (.int (if y < x then y else x) :: st) (pc + 3)) : Zj M G cc nL own Ts rt aw lv (.int y :: .int x :: st) pc := by
  obtain ⟨p, l, e, R, s, m, args, below, meth, c, Q, A, cells, slots⟩ := M
  obtain ⟨D, cl, tys, ad⟩ := G
  intro hF H locs ls hP hD hS hl
  obtain ⟨⟨hx, hb, hml, hown, hts⟩, hr, hlk, hK, hA⟩ := id hF
  exact va_mmin hx hb (hml.trans hl.1.symm) hown (hts _ h1) (hts _ h2) (hts _ h3) (hts _ h4) hR.1 (by rw [zv_cats]; exact hR.2) hcs.1 hcs.2 hdg (kk hF H locs ls hP hD hS hl)
theorem z_mabs {x : Int32} {index : Nat} (hdg : decode cc pc = .ok (.invokestatic index, 3)) (h1 : Cond.methodLink own index Lib.Math.abs.name ∈ Ts) (h2 : Cond.static Lib.Math.abs.name ∈ Ts) (h3 : Cond.initialized "java/lang/Math" ∈ Ts) (h4 : Cond.code Lib.Math.abs.name Lib.Math.abs.code 1 (some .int) ∈ Ts) (hR : 1 ≤ M.2.2.2.1.frames ∧ (st.map fun v => v.category).sum + 13 ≤ M.2.2.2.1.locals) (hcs : M.2.2.2.2.2.2.2.2.2.2.2.2.1 ≤ M.2.2.2.1.cells ∧ M.2.2.2.2.2.2.2.2.2.2.2.2.2 ≤ M.2.2.2.1.slots) (kk : Zj M G cc nL own Ts rt aw lv (.int (if 0 ≤ x then x else 0 - x) :: st) (pc + 3)) : Zj M G cc nL own Ts rt aw lv (.int x :: st) pc := by
  obtain ⟨p, l, e, R, s, m, args, below, meth, c, Q, A, cells, slots⟩ := M
  obtain ⟨D, cl, tys, ad⟩ := G
  intro hF H locs ls hP hD hS hl
  obtain ⟨⟨hx, hb, hml, hown, hts⟩, hr, hlk, hK, hA⟩ := id hF
  exact va_mabs hx hb (hml.trans hl.1.symm) hown (hts _ h1) (hts _ h2) (hts _ h3) (hts _ h4) hR.1 (by rw [zv_cats]; exact hR.2) hcs.1 hcs.2 hdg (kk hF H locs ls hP hD hS hl)
end ZR
end
section
/-! contracts over data, their beginnings, ends and calls -/
def zargs : List Value → List (Option Value)
  | [] => []
  | .long x :: vs => some (.long x) :: none :: zargs vs
  | .double x :: vs => some (.double x) :: none :: zargs vs
  | v :: vs => some v :: zargs vs
theorem zargs_one {v : Value} {vs : List Value} (h : v.category = 1) : zargs (v :: vs) = some v :: zargs vs := by
  cases v <;> first | rfl | cases h
theorem zargs_two {v : Value} {vs : List Value} (h : v.category = 2) : zargs (v :: vs) = some v :: none :: zargs vs := by
  cases v <;> first | rfl | cases h
theorem zargs_mem (ad : Nat → Nat) : ∀ (As : List Value) (k i : Nat) (v : Value), (zargs As)[i]? = some (some v) → (k + i, zv ad v) ∈ lv_args k (As.map (zv ad)) := by
  intro As
  induction As with
  | nil => intro k i v h; simp [zargs] at h
  | cons a t ih =>
    intro k i v h
    rcases lv_cat a with hc | hc
    · rw [zargs_one hc] at h
      simp only [List.map_cons, lv_args, zv_cat, hc]
      cases i with
      | zero => cases h; exact List.mem_cons_self
      | succ i =>
        have := ih (k + 1) i v h
        rw [show k + (i + 1) = k + 1 + i by omega]
        exact List.mem_cons_of_mem _ this
    · rw [zargs_two hc] at h
      simp only [List.map_cons, lv_args, zv_cat, hc]
      match i, h with
      | 0, h => cases h; exact List.mem_cons_self
      | 1, h => cases h
      | i + 2, h =>
        have := ih (k + 2) i v h
        rw [show k + (i + 2) = k + 2 + i by omega]
        exact List.mem_cons_of_mem _ this
theorem zh_entry {ad : Nat → Nat} {As : List Value} {n : Nat} {lv : List (Option Value)} (hlv : zargs As ++ List.replicate (n - (lg_sl (As.map (zv ad))).length) none = lv) (h : (lg_sl (As.map (zv ad))).length ≤ n) : zh ad ((lg_sl (As.map (zv ad)) ++ List.replicate (n - (lg_sl (As.map (zv ad))).length) Slot.unset).toArray) n lv := by
  obtain ⟨h1, h2, h3⟩ := lv_entry (As.map (zv ad)) h
  refine ⟨h1, h2, fun i v hv => ?_⟩
  rw [← hlv, List.getElem?_append] at hv
  split at hv
  · have := h3 _ (zargs_mem ad As 0 i v hv)
    rwa [Nat.zero_add] at this
  · rw [List.getElem?_replicate] at hv
    split at hv <;> cases hv
def zB (G : zG) (A : Nat → Prop) (aw : List va_E) (t : State) : Prop := va_P G.1 G.2.1 (zw G.2.2.2 aw) t.heap ∧ va_K G.1 G.2.1 G.2.2.1 t ∧ va_D A (zw G.2.2.2 aw)
def zA (G : zG) (aw : List va_E) (sz : Nat) : Nat → Prop := va_A (zw G.2.2.2 aw) sz
def zPc (G : zG) (aw : List va_E) (As : List Value) (sz : Nat) (E : (Nat → Prop) → State → Prop) : Array Value → State → Prop := fun v U => v = (As.map (zv G.2.2.2)).toArray ∧ U.heap.size = sz ∧ zB G (fun _ => True) aw U ∧ E (zA G aw sz) U
def zQ (G : zG) (aw0 : List va_E) (sz : Nat) (post : Option Value → List va_E → Prop) : Array Value → State → Outcome → State → Prop := fun _ st oc t => (∃ (r : Option Value) (aw : List va_E), oc = .returned (r.map (zv G.2.2.2)) ∧ aw.length = aw0.length ∧ post r aw ∧ zB G (zA G aw0 sz) aw t) ∧ va_F (zA G aw0 sz) st t
def zXC (G : zG) (aw0 : List va_E) (sz : Nat) (px : String → Prop) : String → State → State → Prop := fun E st t => px E ∧ zB G (zA G aw0 sz) aw0 t ∧ va_F (zA G aw0 sz) st t
def zE0 : (Nat → Prop) → State → Prop := fun _ _ => True
/-- the method y, over the world aw, with the arguments As, returns and leaves 'post' -/
def zMet (l : Launch) (y : MethodName) (ws : List Cond) (rm : Room) (E : (Nat → Prop) → State → Prop) (G : zG) (aw : List va_E) (As : List Value) (post : Option Value → List va_E → Prop) : Prop := ∀ sz, Met l y ws rm (zPc G aw As sz E) (zQ G aw sz post) 0 0 (zA G aw sz)
/-- an environment that a callee finds, where the caller has one -/
def zEok (E E' : (Nat → Prop) → State → Prop) : Prop := (∀ (A A' : Nat → Prop) (s U : State) (locs : List Loc), E A s → va_S A s.heap U.heap locs → (∀ q, A' q → A q) → s.WarmedH U.vm → E' A' U) ∧ ∀ (A : Nat → Prop) (a : Array Value) (U : State) (g : JFrame) (mk : MethodId), E' A U → E' A (U.calling g mk a)
theorem zEok_0 {E : (Nat → Prop) → State → Prop} : zEok E zE0 := ⟨fun _ _ _ _ _ _ _ _ _ => trivial, fun _ _ _ _ _ _ => trivial⟩
/-- .. or throws something of px, the world unchanged -/
def zXet (l : Launch) (y : MethodName) (ws : List Cond) (rm : Room) (mc ms : Nat) (E : (Nat → Prop) → State → Prop) (G : zG) (aw : List va_E) (As : List Value) (post : Option Value → List va_E → Prop) (px : String → Prop) : Prop := ∀ sz, vx_Met l y ws rm (zPc G aw As sz E) (zQ G aw sz post) (zXC G aw sz px) mc ms (zA G aw sz)
/-- at the method's end: what it owes -/
def zRet (M : zM) (G : zG) (aw0 : List va_E) (post : Option Value → List va_E → Prop) (mc ms : Nat) : Prop := match M with
  | (p, l, e, R, s, m, args, below, meth, c, Q, A, _, _) => ∃ sz, A = zA G aw0 sz ∧ ∀ (H : Heap) (locs : List Loc) (g : JFrame), W p l e R s m args below meth c H locs mc ms (MQ below (zQ G aw0 sz post) args s mc ms (zA G aw0 sz)) g → W p l e R s m args below meth c H locs mc ms Q g
def zRetX (M : zM) (G : zG) (aw0 : List va_E) (post : Option Value → List va_E → Prop) (px : String → Prop) (mc ms : Nat) : Prop := match M with
  | (_, _, _, _, s, _, args, below, _, c, Q, A, _, _) => (∀ x ∈ c.exceptionTable.toList, False) ∧ ∃ sz, A = zA G aw0 sz ∧ Q = vx_MQ below (zQ G aw0 sz post) (zXC G aw0 sz px) args s mc ms (zA G aw0 sz)
theorem zRetX.ret {M : zM} {G : zG} {aw0 : List va_E} {post : Option Value → List va_E → Prop} {px : String → Prop} {mc ms : Nat} (h : zRetX M G aw0 post px mc ms) : zRet M G aw0 post mc ms := by
  obtain ⟨p, l, e, R, s, m, args, below, meth, c, Q, A, cells, slots⟩ := M
  obtain ⟨-, sz, h1, h2⟩ := h
  exact ⟨sz, h1, fun H locs g k => by rw [h2]; exact vx_ret k⟩
abbrev zcells (M : zM) : Nat := M.2.2.2.2.2.2.2.2.2.2.2.2.1
abbrev zslots (M : zM) : Nat := M.2.2.2.2.2.2.2.2.2.2.2.2.2
abbrev zroom (M : zM) : Room := M.2.2.2.1
abbrev zl0 (M : zM) : Launch := M.2.1
/-- the environment of throws, at the machine's start -/
def zEn (M : zM) (E : (Nat → Prop) → State → Prop) : Prop := E M.2.2.2.2.2.2.2.2.2.2.2.1 M.2.2.2.2.1
/-- a method's contract out of its walk -/
theorem zMet.of {l : Launch} {y : MethodName} {ws ws' : List Cond} {rm : Room} {E : (Nat → Prop) → State → Prop} {G : zG} {aw : List va_E} {As : List Value} {post : Option Value → List va_E → Prop} {cc : ByteArray} {maxL : Nat} {ret : Option FieldType} {lv : List (Option Value)}
    (hy : plainName y.cls = true) (hw : ws = Cond.code y cc maxL ret :: ws') (hlen : (lg_sl (As.map (zv G.2.2.2))).length ≤ maxL) (hlv : zargs As ++ List.replicate (maxL - (lg_sl (As.map (zv G.2.2.2))).length) none = lv)
    (body : ∀ M : zM, zl0 M = l → zroom M = rm → zcells M = 0 → zslots M = 0 → zEn M E → zRet M G aw post 0 0 → Zj M G cc maxL y.cls ws ret aw lv [] 0) : zMet l y ws rm E G aw As post := by
  intro sz
  refine Met.ofW (cc := cc) (maxL := maxL) (ret := ret) hy hw ?_
  intro p e s m args below meth c s₁ B hml hv
  obtain ⟨D, cl, tys, ad⟩ := G
  obtain ⟨rfl, hsz, ⟨hP, hK, hD0⟩, hE⟩ := hv
  subst hsz
  rw [lg_entry_eq]
  exact body (p, l, e, (headSpec ws rm).room, s, m, _, below, meth, c, _, zA (D, cl, tys, ad) aw s.heap.size, 0, 0) rfl rfl rfl rfl hE ⟨s.heap.size, rfl, fun _ _ _ k => k⟩
    ⟨⟨B.exec, B.bytes, hml, findClass_of_methodNamed B.named, atoms_spec (ws := ws) B.pre⟩, B.returns, B.notSynchronized, hK, fun q h => Or.inr h⟩ s.heap [] _ hP (hD0.self) va_S.rf (zh_entry hlv hlen)
theorem zXet.of {l : Launch} {y : MethodName} {ws ws' : List Cond} {rm : Room} {mc ms : Nat} {E : (Nat → Prop) → State → Prop} {G : zG} {aw : List va_E} {As : List Value} {post : Option Value → List va_E → Prop} {px : String → Prop} {cc : ByteArray} {maxL : Nat} {ret : Option FieldType} {lv : List (Option Value)}
    (hy : plainName y.cls = true) (hw : ws = Cond.code y cc maxL ret :: ws') (hlen : (lg_sl (As.map (zv G.2.2.2))).length ≤ maxL) (hlv : zargs As ++ List.replicate (maxL - (lg_sl (As.map (zv G.2.2.2))).length) none = lv)
    (body : ∀ M : zM, zl0 M = l → zroom M = rm → zcells M = 0 → zslots M = 0 → zEn M E → zRetX M G aw post px mc ms → Zj M G cc maxL y.cls ws ret aw lv [] 0) : zXet l y ws rm mc ms E G aw As post px := by
  intro sz
  refine vx_ofW (cc := cc) (maxL := maxL) (ret := ret) hy hw ?_
  intro p e s m args below meth c s₁ B hml htab hv
  obtain ⟨D, cl, tys, ad⟩ := G
  obtain ⟨rfl, hsz, ⟨hP, hK, hD0⟩, hE⟩ := hv
  subst hsz
  rw [lg_entry_eq]
  exact body (p, l, e, (headSpec ws rm).room, s, m, _, below, meth, c, _, zA (D, cl, tys, ad) aw s.heap.size, 0, 0) rfl rfl rfl rfl hE ⟨htab, s.heap.size, rfl, rfl⟩
    ⟨⟨B.exec, B.bytes, hml, findClass_of_methodNamed B.named, atoms_spec (ws := ws) B.pre⟩, B.returns, B.notSynchronized, hK, fun q h => Or.inr h⟩ s.heap [] _ hP (hD0.self) va_S.rf (zh_entry hlv hlen)
section ZE
variable {M : zM} {G : zG} {cc : ByteArray} {nL : Nat} {own : String} {Ts : List Cond} {rt : Option FieldType} {aw aw0 : List va_E} {lv : List (Option Value)} {st : List Value} {pc mc ms : Nat} {post : Option Value → List va_E → Prop} {px : String → Prop}
theorem z_ret_aux {p : Program} {l : Launch} {e : Env} {R : Room} {s : State} {m : MethodId} {args : Array Value} {below : List Frame} {meth : Method} {c : Code} {D : va_G} {cl : List vw_C} {tys : List (ClassId × FieldType)} {ad : Nat → Nat} {sz : Nat} {H : Heap} {locs : List Loc} {r : Option Value} (hK : va_K D cl tys s) (hP : va_P D cl (zw ad aw) H) (hD : va_D (zA (D, cl, tys, ad) aw0 sz) (zw ad aw)) (hS : va_S (zA (D, cl, tys, ad) aw0 sz) s.heap H locs) (hlen : aw.length = aw0.length) (hp : post r aw) :
    ∀ t : State, t.heap = H → s.WarmedH t.vm → zQ (D, cl, tys, ad) aw0 sz post args s (.returned (r.map (zv ad))) t :=
  fun t ht hW => ⟨⟨r, aw, rfl, hlen, hp, by rw [ht]; exact hP, va_K.moved hW.alike hK, hD⟩, hS.F ht⟩
theorem z_ireturn {x : Int32} {ty : FieldType} (hdg : decode cc pc = .ok (.ireturn, 1)) (hn : narrow ty (.int x) = .int x) (hret : zRet M G aw0 post mc ms) (hc : zcells M ≤ mc ∧ zslots M ≤ ms) (hlen : aw.length = aw0.length) (hp : post (some (.int x)) aw) : Zj M G cc nL own Ts (some ty) aw lv [.int x] pc := by
  obtain ⟨p, l, e, R, s, m, args, below, meth, c, Q, A, cells, slots⟩ := M
  obtain ⟨D, cl, tys, ad⟩ := G
  intro hF H locs ls hP hD hS hl
  obtain ⟨⟨hx, hb, hml, hown, hts⟩, hr, hlk, hK, hA⟩ := hF
  obtain ⟨sz, rfl, hQ⟩ := hret
  refine W.widen hc.1 hc.2 (hQ _ _ _ ?_)
  exact W.zret hx hb hr hn (z_ret_aux (r := some (.int x)) (p := p) (l := l) (e := e) (R := R) (m := m) (below := below) (meth := meth) (c := c) hK hP hD hS hlen hp) hS.2.2 hdg hlk
theorem z_lreturn {x : Int64} (hdg : decode cc pc = .ok (.lreturn, 1)) (hret : zRet M G aw0 post mc ms) (hc : zcells M ≤ mc ∧ zslots M ≤ ms) (hlen : aw.length = aw0.length) (hp : post (some (.long x)) aw) : Zj M G cc nL own Ts (some .long) aw lv [.long x] pc := by
  obtain ⟨p, l, e, R, s, m, args, below, meth, c, Q, A, cells, slots⟩ := M
  obtain ⟨D, cl, tys, ad⟩ := G
  intro hF H locs ls hP hD hS hl
  obtain ⟨⟨hx, hb, hml, hown, hts⟩, hr, hlk, hK, hA⟩ := hF
  obtain ⟨sz, rfl, hQ⟩ := hret
  refine W.widen hc.1 hc.2 (hQ _ _ _ ?_)
  exact W.lret hx hb hr (z_ret_aux (r := some (.long x)) (p := p) (l := l) (e := e) (R := R) (m := m) (below := below) (meth := meth) (c := c) hK hP hD hS hlen hp) hS.2.2 hdg hlk
theorem z_areturn {i : Nat} {C : String} (hdg : decode cc pc = .ok (.areturn, 1)) (hret : zRet M G aw0 post mc ms) (hc : zcells M ≤ mc ∧ zslots M ≤ ms) (hlen : aw.length = aw0.length) (hp : post (some (.ref i)) aw) : Zj M G cc nL own Ts (some (.object C)) aw lv [.ref i] pc := by
  obtain ⟨p, l, e, R, s, m, args, below, meth, c, Q, A, cells, slots⟩ := M
  obtain ⟨D, cl, tys, ad⟩ := G
  intro hF H locs ls hP hD hS hl
  obtain ⟨⟨hx, hb, hml, hown, hts⟩, hr, hlk, hK, hA⟩ := hF
  obtain ⟨sz, rfl, hQ⟩ := hret
  refine W.widen hc.1 hc.2 (hQ _ _ _ ?_)
  exact W.aret hx hb hr (Or.inl ⟨_, rfl⟩) (Or.inr ⟨_, rfl⟩) (z_ret_aux (r := some (.ref i)) (p := p) (l := l) (e := e) (R := R) (m := m) (below := below) (meth := meth) (c := c) hK hP hD hS hlen hp) hS.2.2 hdg hlk
theorem z_return (hdg : decode cc pc = .ok (.return_, 1)) (hret : zRet M G aw0 post mc ms) (hc : zcells M ≤ mc ∧ zslots M ≤ ms) (hlen : aw.length = aw0.length) (hp : post none aw) : Zj M G cc nL own Ts none aw lv [] pc := by
  obtain ⟨p, l, e, R, s, m, args, below, meth, c, Q, A, cells, slots⟩ := M
  obtain ⟨D, cl, tys, ad⟩ := G
  intro hF H locs ls hP hD hS hl
  obtain ⟨⟨hx, hb, hml, hown, hts⟩, hr, hlk, hK, hA⟩ := hF
  obtain ⟨sz, rfl, hQ⟩ := hret
  refine W.widen hc.1 hc.2 (hQ _ _ _ ?_)
  exact W.vret hx hb hr (z_ret_aux (r := none) (p := p) (l := l) (e := e) (R := R) (m := m) (below := below) (meth := meth) (c := c) hK hP hD hS hlen hp) hS.2.2 hdg hlk
end ZE
/-! parts of a world -/
theorem zv_comp (ad ix : Nat → Nat) (v : Value) : zv (fun j => ad (ix j)) v = zv ad (zv ix v) := by cases v <;> rfl
theorem zc_comp (ad ix : Nat → Nat) (e : va_E) : zc (fun j => ad (ix j)) e = zc ad (zc ix e) := by
  rcases e with ⟨cA, n, f⟩ | ⟨ci, fs⟩
  · rcases f with f | f | f | f | f
    · rfl
    · rfl
    · rfl
    · rfl
    · simp only [zc, Option.map_map]; rfl
  · simp only [zc, List.map_map]
    congr 2
    apply List.map_congr_left
    intro v _
    exact zv_comp ad ix v
theorem zv_id (v : Value) : zv (fun j => j) v = v := by cases v <;> rfl
theorem zc_id (e : va_E) : zc (fun j => j) e = e := by
  rcases e with ⟨cA, n, f⟩ | ⟨ci, fs⟩
  · rcases f with f | f | f | f | f <;> simp [zc]
  · simp only [zc]
    congr 2
    exact (List.map_congr_left (fun v _ => zv_id v)).trans (List.map_id' fs)
theorem zD_len {A : Nat → Prop} {ad : Nat → Nat} {aw aw2 : List va_E} (hD : va_D A (zw ad aw)) (h : aw2.length = aw.length) : va_D A (zw ad aw2) := by
  have key : ∀ (i : Nat) (q : Nat × va_E), (zw ad aw2)[i]? = some q → ∃ q', (zw ad aw)[i]? = some q' ∧ q'.1 = q.1 := by
    intro i q hq
    rw [zw_at] at hq
    obtain ⟨e, he, rfl⟩ := Option.map_eq_some_iff.mp hq
    have hl : i < aw.length := by rw [← h]; exact (List.getElem?_eq_some_iff.mp he).1
    exact ⟨_, zw_get (List.getElem?_eq_getElem hl), rfl⟩
  refine ⟨fun i j x y hx hy hxy => ?_, fun k q hk => ?_⟩
  · obtain ⟨x', h1, h2⟩ := key i x hx
    obtain ⟨y', h3, h4⟩ := key j y hy
    exact hD.1 i j x' y' h1 h3 (by rw [h2, h4]; exact hxy)
  · obtain ⟨q', h1, h2⟩ := key k q hk
    rw [← h2]; exact hD.2 k q' h1
/-- the callee's world awc lies in the caller's, at the places ix; awn is the caller's with what came back -/
def zIn (ix : Nat → Nat) (aw awc : List va_E) : Prop := (∀ (j : Nat) (e : va_E), awc[j]? = some e → aw[ix j]? = some (zc ix e)) ∧ ∀ i j, i < awc.length → j < awc.length → ix i = ix j → i = j
def zBk (ix : Nat → Nat) (aw awc aw1 awn : List va_E) : Prop := awn.length = aw.length ∧ (∀ (j : Nat) (e : va_E), aw1[j]? = some e → awn[ix j]? = some (zc ix e)) ∧ ∀ k : Nat, (∀ j : Nat, j < awc.length → ix j ≠ k) → awn[k]? = aw[k]?
theorem zIn.P {D : va_G} {cl : List vw_C} {ad ix : Nat → Nat} {aw awc : List va_E} {H : Heap} (h : zIn ix aw awc) (hP : va_P D cl (zw ad aw) H) : va_P D cl (zw (fun j => ad (ix j)) awc) H := by
  intro k q hq
  rw [zw_at] at hq
  obtain ⟨e, he, rfl⟩ := Option.map_eq_some_iff.mp hq
  rw [zc_comp]
  exact hP (ix k) _ (zw_get (h.1 k e he))
theorem zIn.D {A : Nat → Prop} {ad ix : Nat → Nat} {aw awc : List va_E} (h : zIn ix aw awc) (hD : va_D A (zw ad aw)) : va_D A (zw (fun j => ad (ix j)) awc) := by
  have key : ∀ (i : Nat) (q : Nat × va_E), (zw (fun j => ad (ix j)) awc)[i]? = some q → i < awc.length ∧ ∃ q', (zw ad aw)[ix i]? = some q' ∧ q'.1 = q.1 := by
    intro i q hq
    rw [zw_at] at hq
    obtain ⟨e, he, rfl⟩ := Option.map_eq_some_iff.mp hq
    exact ⟨(List.getElem?_eq_some_iff.mp he).1, _, zw_get (h.1 i e he), rfl⟩
  refine ⟨fun i j x y hx hy hxy => ?_, fun k q hk => ?_⟩
  · obtain ⟨l1, x', h1, h2⟩ := key i x hx
    obtain ⟨l2, y', h3, h4⟩ := key j y hy
    exact h.2 i j l1 l2 (hD.1 _ _ x' y' h1 h3 (by rw [h2, h4]; exact hxy))
  · obtain ⟨-, q', h1, h2⟩ := key k q hk
    rw [← h2]; exact hD.2 _ q' h1
theorem zIn.free {A : Nat → Prop} {D : va_G} {cl : List vw_C} {tys : List (ClassId × FieldType)} {ad ix : Nat → Nat} {aw awc : List va_E} {H0 H : Heap} {locs : List Loc} (h : zIn ix aw awc) (hD : va_D A (zw ad aw)) (hS : va_S A H0 H locs) (hA : ∀ q, H0.size ≤ q → A q) : ∀ q, zA (D, cl, tys, fun j => ad (ix j)) awc H.size q → A q := by
  intro q hq
  rcases hq with ⟨k, e, hk⟩ | hq
  · exact (h.D hD).2 k _ hk
  · exact hA q (Nat.le_trans hS.1 hq)
theorem zBk.P {D : va_G} {cl : List vw_C} {tys : List (ClassId × FieldType)} {A : Nat → Prop} {ad ix : Nat → Nat} {aw awc aw1 awn : List va_E} {H H1 : Heap} (h : zIn ix aw awc) (hb : zBk ix aw awc aw1 awn) (hlen : aw1.length = awc.length) (hP : va_P D cl (zw ad aw) H) (hD : va_D A (zw ad aw)) (hP1 : va_P D cl (zw (fun j => ad (ix j)) aw1) H1)
    (hk : ∀ q : Nat, q < H.size → ¬ zA (D, cl, tys, fun j => ad (ix j)) awc H.size q → H1[q]? = H[q]?) : va_P D cl (zw ad awn) H1 := by
  intro k q hq
  rw [zw_at] at hq
  obtain ⟨e, he, rfl⟩ := Option.map_eq_some_iff.mp hq
  by_cases hj : ∃ j, j < awc.length ∧ ix j = k
  · obtain ⟨j, hj, rfl⟩ := hj
    have hl1 : j < aw1.length := by omega
    have h1 := hb.2.1 j _ (List.getElem?_eq_getElem hl1)
    rw [he] at h1
    cases h1
    have h2 := hP1 j _ (zw_get (List.getElem?_eq_getElem hl1))
    rw [zc_comp] at h2
    exact h2
  · have hn : ∀ j : Nat, j < awc.length → ix j ≠ k := fun j h1 h2 => hj ⟨j, h1, h2⟩
    have h1 := hb.2.2 k hn
    rw [he] at h1
    have h2 := hP k _ (zw_get h1.symm)
    refine h2.kept (hk _ h2.lt ?_)
    rintro (⟨j, e', hj'⟩ | hq')
    · rw [zw_at] at hj'
      obtain ⟨e2, he2, h3⟩ := Option.map_eq_some_iff.mp hj'
      have h4 := hD.1 (ix j) k _ _ (zw_get (h.1 j e2 he2)) (zw_get h1.symm) (show ad (ix j) = ad k from congrArg Prod.fst h3)
      exact hn j (List.getElem?_eq_some_iff.mp he2).1 h4
    · exact absurd h2.lt (Nat.not_lt.mpr hq')
def zup (M : zM) (a b : Nat) : zM := match M with
  | (p, l, e, R, s, m, args, below, meth, c, Q, A, cells, slots) => (p, l, e, R, s, m, args, below, meth, c, Q, A, cells + a, slots + b)
def zpush (ix : Nat → Nat) (r : Option Value) (st : List Value) : List Value := match r with
  | none => st
  | some v => zv ix v :: st
theorem zpush_map (ad ix : Nat → Nat) (r : Option Value) (st : List Value) : (r.map (zv (fun j => ad (ix j)))).toList ++ st.map (zv ad) = (zpush ix r st).map (zv ad) := by
  cases r with
  | none => rfl
  | some v => simp [zpush, zv_comp]
/-- a call, as the machine does it, over the callee's world -/
def Zc (M : zM) (G : zG) (cc : ByteArray) (nL : Nat) (own : String) (Ts : List Cond) (ix : Nat → Nat) (awc : List va_E) (stk st : List Value) (pc : Nat) (post : Option Value → List va_E → Prop) : Prop := match M, G with
  | (p, l, e, R, s, m, args, below, meth, c, _, A, cells, slots), (D, cl, tys, ad) => CallFix p m c cc nL s args Ts own → va_K D cl tys s → ∀ (H : Heap) (locs : List Loc) (ls : Array Slot), ls.size = nL → va_P D cl (zw (fun j => ad (ix j)) awc) H → va_D (fun _ => True) (zw (fun j => ad (ix j)) awc) → va_S A s.heap H locs → (∀ q, zA (D, cl, tys, fun j => ad (ix j)) awc H.size q → A q) → va_Run p l e R s m args below meth c H locs cells slots 0 0 (F0 m pc ls (stk.map (zv ad))) (st.map (zv ad)) (zQ (D, cl, tys, fun j => ad (ix j)) awc H.size post #[]) (zA (D, cl, tys, fun j => ad (ix j)) awc H.size)
section ZC
variable {M : zM} {G : zG} {cc : ByteArray} {nL : Nat} {own : String} {Ts : List Cond} {rt : Option FieldType} {aw awc : List va_E} {lv : List (Option Value)} {stk st : List Value} {pc : Nat} {post : Option Value → List va_E → Prop} {ix : Nat → Nat}
theorem z_call (hc : Zc M G cc nL own Ts ix awc stk st pc post) (hin : zIn ix aw awc) (kk : ∀ (r : Option Value) (aw1 awn : List va_E), aw1.length = awc.length → zBk ix aw awc aw1 awn → post r aw1 → Zj M G cc nL own Ts rt awn lv (zpush ix r st) (pc + 3))
    (hex : ∀ aw1 : List va_E, aw1.length = awc.length → ∃ awn, zBk ix aw awc aw1 awn) : Zj M G cc nL own Ts rt aw lv stk pc := by
  obtain ⟨p, l, e, R, s, m, args, below, meth, c, Q, A, cells, slots⟩ := M
  obtain ⟨D, cl, tys, ad⟩ := G
  intro hF H locs ls hP hD hS hl
  obtain ⟨hfix, hr, hlk, hK, hA⟩ := id hF
  have hfree := hin.free (D := D) (cl := cl) (tys := tys) hD hS hA
  have hrun := hc hfix hK H locs ls hl.1 (hin.P hP) ((hin.D hD).weaken (fun _ _ _ _ => trivial)) hS hfree
  intro T hT X
  obtain ⟨v, st₀, t, T', L, h0, X', hL, e1, e2, ⟨⟨r, aw1, hv, hlen, hpo, hP1, hK1, hD1⟩, hz, hk⟩, stp⟩ := hrun T hT X
  cases hv
  rw [h0] at hz hk
  obtain ⟨awn, hbk⟩ := hex aw1 hlen
  have hk' : ∀ q : Nat, q < H.size → ¬ zA (D, cl, tys, fun j => ad (ix j)) awc H.size q → T'.heap[q]? = H[q]? := fun q h1 h2 => by rw [e1]; exact hk q h1 h2
  have hP2 := zBk.P (tys := tys) hin hbk hlen hP hD (by rw [e1]; exact hP1 : va_P D cl (zw (fun j => ad (ix j)) aw1) T'.heap) hk'
  have hz' : H.size ≤ T'.heap.size := by rw [e1]; exact hz
  have hS' : va_S A s.heap T'.heap (locs ++ L) := ⟨Nat.le_trans hS.1 hz', fun q h1 h2 => by
      rw [hk' q (Nat.lt_of_lt_of_le h1 hS.1) (fun z => h2 (hfree q z))]; exact hS.2.1 q h1 h2, fun q hq => by
      rcases List.mem_append.mp hq with h | h
      · exact hS.2.2 q h
      · exact hfree _ (hL q h)⟩
  obtain ⟨t2, a1, b1⟩ := kk r aw1 awn hlen hbk hpo hF T'.heap (locs ++ L) ls hP2 (zD_len hD hbk.1) hS' hl T' rfl X'
  refine ⟨t2, stp t2 ?_, b1⟩
  rw [show (r.map (zv (fun j => ad (ix j)))).toList ++ st.map (zv ad) = (zpush ix r st).map (zv ad) from zpush_map ad ix r st]
  exact a1
/-- the callee has the whole world -/
theorem z_same (hc : Zc M G cc nL own Ts (fun j => j) aw stk st pc post) (kk : ∀ (r : Option Value) (aw1 : List va_E), aw1.length = aw.length → post r aw1 → Zj M G cc nL own Ts rt aw1 lv (zpush (fun j => j) r st) (pc + 3)) : Zj M G cc nL own Ts rt aw lv stk pc := by
  refine z_call hc ⟨fun j e h => by rw [zc_id]; exact h, fun i j _ _ h => h⟩ (fun r aw1 awn hlen hbk hpo => ?_) (fun aw1 hlen => ⟨aw1, hlen, fun j e h => by rw [zc_id]; exact h, fun k hk => ?_⟩)
  · have e9 : awn = aw1 := by
      apply List.ext_getElem?
      intro k
      by_cases h : k < aw1.length
      · have := hbk.2.1 k _ (List.getElem?_eq_getElem h)
        rw [zc_id] at this
        rw [this, List.getElem?_eq_getElem h]
      · have h8 := hbk.1
        rw [List.getElem?_eq_none (by omega), List.getElem?_eq_none (by omega)]
    rw [e9]
    exact kk r aw1 hlen hpo
  · have : ¬ k < aw.length := fun h => hk k h rfl
    rw [List.getElem?_eq_none (by omega), List.getElem?_eq_none (by omega)]
/-- the callee has no world -/
theorem z_pure (hc : Zc M G cc nL own Ts (fun j => j) [] stk st pc post) (kk : ∀ (r : Option Value), post r [] → Zj M G cc nL own Ts rt aw lv (zpush (fun j => j) r st) (pc + 3)) : Zj M G cc nL own Ts rt aw lv stk pc := by
  refine z_call hc ⟨fun j e h => by simp at h, fun i j h => by simp at h⟩ (fun r aw1 awn hlen hbk hpo => ?_) (fun aw1 hlen => ⟨aw, rfl, fun j e h => ?_, fun k hk => rfl⟩)
  · have e1 : aw1 = [] := List.length_eq_zero_iff.mp hlen
    subst e1
    have e9 : awn = aw := List.ext_getElem? (fun k => hbk.2.2 k (fun j h => by simp at h))
    rw [e9]
    exact kk r hpo
  · rw [List.length_eq_zero_iff.mp hlen] at h
    simp at h
end ZC
/-- places of a part -/
def zix (is : List Nat) : Nat → Nat := fun j => is.getD j 0
def zput (ix : Nat → Nat) : List Nat → List va_E → List va_E → List va_E
  | i :: is, aw, e :: es => zput ix is (aw.set i (zc ix e)) es
  | _, aw, _ => aw
theorem zput_len (ix : Nat → Nat) : ∀ (is : List Nat) (aw es : List va_E), (zput ix is aw es).length = aw.length := by
  intro is
  induction is with
  | nil => intro aw es; cases es <;> rfl
  | cons i t ih =>
    intro aw es
    cases es with
    | nil => rfl
    | cons e es => simp only [zput]; rw [ih, List.length_set]
theorem zput_out (ix : Nat → Nat) : ∀ (is : List Nat) (aw es : List va_E) (k : Nat), k ∉ is → (zput ix is aw es)[k]? = aw[k]? := by
  intro is
  induction is with
  | nil => intro aw es k _; cases es <;> rfl
  | cons i t ih =>
    intro aw es k hk
    cases es with
    | nil => rfl
    | cons e es =>
      simp only [zput]
      rw [ih _ _ _ (fun h => hk (List.mem_cons_of_mem _ h)), List.getElem?_set_ne (fun h => hk (by rw [h]; exact List.mem_cons_self))]
theorem zput_in (ix : Nat → Nat) : ∀ (is : List Nat) (aw es : List va_E) (j i : Nat) (e : va_E), is.Nodup → is[j]? = some i → es[j]? = some e → i < aw.length → (zput ix is aw es)[i]? = some (zc ix e) := by
  intro is
  induction is with
  | nil => intro aw es j i e _ h; simp at h
  | cons a t ih =>
    intro aw es j i e hn hi he hl
    cases es with
    | nil => simp at he
    | cons e0 es =>
      simp only [zput]
      cases j with
      | zero =>
        simp at hi he
        subst hi; subst he
        rw [zput_out _ _ _ _ _ (List.nodup_cons.mp hn).1, List.getElem?_set_self hl]
      | succ j => exact ih _ _ j i e (List.nodup_cons.mp hn).2 hi he (by rw [List.length_set]; exact hl)
section ZP
variable {M : zM} {G : zG} {cc : ByteArray} {nL : Nat} {own : String} {Ts : List Cond} {rt : Option FieldType} {aw awc : List va_E} {lv : List (Option Value)} {stk st : List Value} {pc : Nat} {post : Option Value → List va_E → Prop}
theorem zIn_of {is : List Nat} (hn : is.Nodup) (hs : is.map (fun i => aw[i]?) = awc.map (fun e => some (zc (zix is) e))) : zIn (zix is) aw awc := by
  have hl : is.length = awc.length := by have := congrArg List.length hs; simpa using this
  have at1 : ∀ j, j < is.length → is[j]? = some (zix is j) := fun j h => by
    rw [List.getElem?_eq_getElem h]; simp [zix, List.getD_eq_getElem?_getD, List.getElem?_eq_getElem h]
  refine ⟨fun j e h => ?_, fun i j h1 h2 h3 => ?_⟩
  · have hj : j < is.length := by rw [hl]; exact (List.getElem?_eq_some_iff.mp h).1
    have h2 := congrArg (fun l => l[j]?) hs
    simp only [List.getElem?_map, h, at1 j hj, Option.map_some] at h2
    exact Option.some.inj h2
  · have a1 := at1 i (by omega)
    have a2 := at1 j (by omega)
    rw [h3] at a1
    exact (List.getElem?_inj (show i < is.length by omega) hn).mp (a1.trans a2.symm)
theorem z_part (is : List Nat) (hc : Zc M G cc nL own Ts (zix is) awc stk st pc post) (hn : is.Nodup) (hs : is.map (fun i => aw[i]?) = awc.map (fun e => some (zc (zix is) e)))
    (kk : ∀ (r : Option Value) (aw1 : List va_E), aw1.length = awc.length → post r aw1 → Zj M G cc nL own Ts rt (zput (zix is) is aw aw1) lv (zpush (zix is) r st) (pc + 3)) : Zj M G cc nL own Ts rt aw lv stk pc := by
  have hin := zIn_of hn hs
  have hl : is.length = awc.length := by have := congrArg List.length hs; simpa using this
  have at1 : ∀ j, j < is.length → is[j]? = some (zix is j) := fun j h => by
    rw [List.getElem?_eq_getElem h]; simp [zix, List.getD_eq_getElem?_getD, List.getElem?_eq_getElem h]
  have hlt : ∀ j, j < is.length → zix is j < aw.length := fun j h => by
    have h2 := hin.1 j _ (List.getElem?_eq_getElem (by omega : j < awc.length))
    exact (List.getElem?_eq_some_iff.mp h2).1
  have hbk : ∀ aw1 : List va_E, aw1.length = awc.length → zBk (zix is) aw awc aw1 (zput (zix is) is aw aw1) := fun aw1 h1 => by
    refine ⟨zput_len _ _ _ _, fun j e h => ?_, fun k hk => zput_out _ _ _ _ _ (fun h => ?_)⟩
    · have hj : j < is.length := by rw [hl, ← h1]; exact (List.getElem?_eq_some_iff.mp h).1
      exact zput_in _ _ _ _ j _ e hn (at1 j hj) h (hlt j hj)
    · obtain ⟨j, hj⟩ := List.getElem?_of_mem h
      have hjl := (List.getElem?_eq_some_iff.mp hj).1
      rw [at1 j hjl] at hj
      exact hk j (by omega) (Option.some.inj hj)
  refine z_call hc hin (fun r aw1 awn hlen hb hpo => ?_) (fun aw1 hlen => ⟨_, hbk aw1 hlen⟩)
  have h2 := hbk aw1 hlen
  have e9 : awn = zput (zix is) is aw aw1 := by
    apply List.ext_getElem?
    intro k
    by_cases hj : ∃ j, j < awc.length ∧ zix is j = k
    · obtain ⟨j, hj, rfl⟩ := hj
      have hl1 : j < aw1.length := by omega
      rw [hb.2.1 j _ (List.getElem?_eq_getElem hl1), h2.2.1 j _ (List.getElem?_eq_getElem hl1)]
    · have hn : ∀ j : Nat, j < awc.length → zix is j ≠ k := fun j h1 h2 => hj ⟨j, h1, h2⟩
      rw [hb.2.2 k hn, h2.2.2 k hn]
  rw [e9]
  exact kk r aw1 hlen hpo
end ZP
section ZK
variable {M : zM} {G : zG} {cc : ByteArray} {nL : Nat} {own : String} {Ts : List Cond} {awc : List va_E} {stk st : List Value} {pc : Nat} {post : Option Value → List va_E → Prop} {ix : Nat → Nat} {y : MethodName} {ws ws' : List Cond} {rm : Room} {bytes : ByteArray} {maxL index : Nat} {ret : Option FieldType} {C : String} {As : List Value} {b ci : Nat} {fs : List Value} {T : u_T} {N : Nat} {E E' : (Nat → Prop) → State → Prop}
theorem z_blind {G : zG} {aw : List va_E} {As : List Value} {sz : Nat} {E' : (Nat → Prop) → State → Prop} (h : ∀ (A : Nat → Prop) (a : Array Value) (U : State) (g : JFrame) (mk : MethodId), E' A U → E' A (U.calling g mk a)) : FrameBlind (zPc G aw As sz E') := fun a U g mk q => by
  obtain ⟨q0, q1, ⟨qP, qK, qD⟩, qE⟩ := q
  exact ⟨q0, q1, ⟨qP, va_K.moved (u := U) (U := U.calling g mk a) (Vm.Alike.refl U.vm) qK, qD⟩, h _ _ _ _ _ qE⟩
/-- invokevirtual of a method of ours -/
theorem z_V (hE : zEn M E) (hEE : zEok E E') (hM : zMet (zl0 M) y ws rm E' (G.1, G.2.1, G.2.2.1, fun j => G.2.2.2 (ix j)) awc (.ref b :: As) post) (hdg : decode cc pc = .ok (.invokevirtual index, 3)) (hG : GoodIn Ts (wsV own index C y ws)) (hw : ws = Cond.code y bytes maxL ret :: ws')
    (hd : y.cls = C ∧ y.cls ≠ "java/lang/invoke/MethodHandle" ∧ y.cls ≠ "java/lang/invoke/VarHandle" ∧ (parseMethodDescriptor y.desc).map (fun d => d.parameters.length) = some As.length) (hrm : rm.cells = 0 ∧ rm.slots = 0) (hR : rm.frames + 1 ≤ (zroom M).frames ∧ 8 + (maxL + 11) + rm.locals ≤ (zroom M).locals) (hcs : zcells M ≤ (zroom M).cells ∧ zslots M ≤ (zroom M).slots)
    (hstk : stk = ((.ref b :: As).map (zv ix)).reverse ++ st) (hst : (st.map fun v => v.category).sum ≤ 8) (hrecv : awc[b]? = some (.inr (ci, fs))) (hci : G.2.1[ci]? = some (C, T, N)) : Zc M G cc nL own Ts ix awc stk st pc post := by
  obtain ⟨p, l, e, R, s, m, args, below, meth, c, Q, A, cells, slots⟩ := M
  obtain ⟨D, cl, tys, ad⟩ := G
  intro hfix hK H locs ls hls hP hD hS hfree
  subst hstk
  refine va_runV (b := ad (ix b)) (As := As.map (zv (fun j => ad (ix j)))) hfix (hM H.size) (cwV As.length hfix.2.2.2.2 hG hw hrm.1 hrm.2 hd hR) ⟨z_blind hEE.2, va_recv hK hP hci (zw_get hrecv), fun U hU hW => ⟨rfl, by rw [hU], ⟨by rw [hU]; exact hP, va_K.moved hW.alike hK, hD⟩, hEE.1 A _ s U locs hE (by rw [hU]; exact hS) hfree hW⟩⟩ rfl (by simp) hls ?_ ?_ hdg hcs
  · simp only [F0, List.map_append, List.map_reverse, List.map_map, List.map_cons, List.reverse_cons, List.append_assoc, List.cons_append, List.nil_append]
    congr 2
    · congr 1
      funext v
      exact (zv_comp ad ix v).symm
  · rw [zv_cats]
    show 2 * 0 + _ ≤ 8
    omega
/-- invokestatic of a method of ours, of any class -/
theorem z_S (hE : zEn M E) (hEE : zEok E E') (hM : zMet (zl0 M) y ws rm E' (G.1, G.2.1, G.2.2.1, fun j => G.2.2.2 (ix j)) awc As post) (hdg : decode cc pc = .ok (.invokestatic index, 3)) (hG : GoodIn Ts (va_wsS own index y ws)) (hw : ws = Cond.code y bytes maxL ret :: ws')
    (hd : y.cls ≠ "java/lang/invoke/MethodHandle" ∧ y.cls ≠ "java/lang/invoke/VarHandle" ∧ (parseMethodDescriptor y.desc).map (fun d => d.parameters.length) = some As.length) (hrm : rm.cells = 0 ∧ rm.slots = 0) (hR : rm.frames + 1 ≤ (zroom M).frames ∧ 8 + (maxL + 11) + rm.locals ≤ (zroom M).locals) (hcs : zcells M ≤ (zroom M).cells ∧ zslots M ≤ (zroom M).slots)
    (hstk : stk = (As.map (zv ix)).reverse ++ st) (hst : (st.map fun v => v.category).sum ≤ 8) : Zc M G cc nL own Ts ix awc stk st pc post := by
  obtain ⟨p, l, e, R, s, m, args, below, meth, c, Q, A, cells, slots⟩ := M
  obtain ⟨D, cl, tys, ad⟩ := G
  intro hfix hK H locs ls hls hP hD hS hfree
  subst hstk
  refine va_runS (As := As.map (zv (fun j => ad (ix j)))) hfix (hM H.size) (va_cwS As.length hfix.2.2.2.2 hG hw hrm.1 hrm.2 hd hR) ⟨z_blind hEE.2, fun U hU hW => ⟨rfl, by rw [hU], ⟨by rw [hU]; exact hP, va_K.moved hW.alike hK, hD⟩, hEE.1 A _ s U locs hE (by rw [hU]; exact hS) hfree hW⟩⟩ rfl (by simp) hls ?_ ?_ hdg hcs
  · simp only [F0, List.map_append, List.map_reverse, List.map_map]
    congr 2
    apply List.map_congr_left
    intro v _
    exact (zv_comp ad ix v).symm
  · rw [zv_cats]
    show 2 * 0 + _ ≤ 8
    omega
/-- invokestatic of a nest mate's private method -/
theorem z_SN {host : String} (hE : zEn M E) (hEE : zEok E E') (hnest : va_Nw (.methodLinkNest own index y host) M.2.2.2.2.1) (hM : zMet (zl0 M) y ws rm E' (G.1, G.2.1, G.2.2.1, fun j => G.2.2.2 (ix j)) awc As post) (hdg : decode cc pc = .ok (.invokestatic index, 3)) (hG : GoodIn Ts ws) (hsta : Cond.static y ∈ Ts) (hini : Cond.initialized y.cls ∈ Ts) (hw : ws = Cond.code y bytes maxL ret :: ws')
    (hd : y.cls ≠ "java/lang/invoke/MethodHandle" ∧ y.cls ≠ "java/lang/invoke/VarHandle" ∧ (parseMethodDescriptor y.desc).map (fun d => d.parameters.length) = some As.length) (hrm : rm.cells = 0 ∧ rm.slots = 0) (hR : rm.frames + 1 ≤ (zroom M).frames ∧ 8 + (maxL + 11) + rm.locals ≤ (zroom M).locals) (hcs : zcells M ≤ (zroom M).cells ∧ zslots M ≤ (zroom M).slots)
    (hstk : stk = (As.map (zv ix)).reverse ++ st) (hst : (st.map fun v => v.category).sum ≤ 8) : Zc M G cc nL own Ts ix awc stk st pc post := by
  obtain ⟨p, l, e, R, s, m, args, below, meth, c, Q, A, cells, slots⟩ := M
  obtain ⟨D, cl, tys, ad⟩ := G
  intro hfix hK H locs ls hls hP hD hS hfree
  subst hstk
  refine va_runSN (As := As.map (zv (fun j => ad (ix j)))) hfix (hM H.size) ⟨va_cnB As.length hfix.2.2.2.2 hG hw hrm.1 hrm.2 hnest (hfix.2.2.2.2 _ hini) hd hR, hfix.2.2.2.2 _ hsta, trivial⟩ ⟨z_blind hEE.2, fun U hU hW => ⟨rfl, by rw [hU], ⟨by rw [hU]; exact hP, va_K.moved hW.alike hK, hD⟩, hEE.1 A _ s U locs hE (by rw [hU]; exact hS) hfree hW⟩⟩ rfl (by simp) hls ?_ ?_ hdg hcs
  · simp only [F0, List.map_append, List.map_reverse, List.map_map]
    congr 2
    apply List.map_congr_left
    intro v _
    exact (zv_comp ad ix v).symm
  · rw [zv_cats]
    show 2 * 0 + _ ≤ 8
    omega
end ZK
end
section
/-! throws: the environment, 'throw new E("..")', calls of what may throw -/
/-- what a throw, or a call across a nest, needs beside its words: two statics of Throwable, the texts ss, nest links nn, declared constructors dd, casts cs -/
def zEv (ss : List (String × Nat × String × Nat)) (nn : List (String × Nat × MethodName × String)) (dd : List MethodName) (cs : List (String × String)) : (Nat → Prop) → State → Prop := fun A U => (vx_Zq Bundle.tN "UNASSIGNED_STACK" Bundle.steD A U U.heap ∧ vx_Zq Bundle.tN "SUPPRESSED_SENTINEL" Bundle.listD A U U.heap) ∧ (∀ q ∈ ss, vk_R q.1 q.2.1 q.2.2.1 q.2.2.2 U) ∧ (∀ q ∈ nn, va_Nw (.methodLinkNest q.1 q.2.1 q.2.2.1 q.2.2.2) U) ∧ (∀ x ∈ dd, va_Nw (.declares x) U) ∧ ∀ q ∈ cs, va_Nw (.castable q.1 q.2) U
theorem zEok_ev (ss : List (String × Nat × String × Nat)) (nn : List (String × Nat × MethodName × String)) (dd : List MethodName) (cs : List (String × String)) : zEok (zEv ss nn dd cs) (zEv ss nn dd cs) := by
  refine ⟨fun A A' s U locs h hS hA hW => ?_, fun A a U g mk h => ?_⟩
  · obtain ⟨⟨h1, h2⟩, h3, h4, h5, h6⟩ := h
    exact ⟨⟨((vx_Zq.moved hW.alike (h1.kept hS.2.1)).narrow hA), ((vx_Zq.moved hW.alike (h2.kept hS.2.1)).narrow hA)⟩, fun q hq => vk_R.warm hW (h3 q hq), fun q hq => va_Nw.warmM hW (h4 q hq), fun x hx => va_Nw.warmD hW (h5 x hx), fun q hq => va_Nw.warmC hW (h6 q hq)⟩
  · obtain ⟨⟨h1, h2⟩, h3, h4, h5, h6⟩ := h
    exact ⟨⟨vx_Zq.moved (Vm.Alike.refl U.vm) h1, vx_Zq.moved (Vm.Alike.refl U.vm) h2⟩, fun q hq => vk_R.same rfl (h3 q hq), fun q hq => va_Nw.same (u := U) rfl rfl (h4 q hq), fun x hx => va_Nw.same (u := U) rfl rfl (h5 x hx), fun q hq => va_Nw.same (u := U) rfl rfl (h6 q hq)⟩
def zNg (dd : List MethodName) (cs : List (String × String)) : List Cond := dd.map Cond.declares ++ cs.map (fun q => Cond.castable q.1 q.2)
theorem zNg_use {dd : List MethodName} {cs : List (String × String)} {U : State} {args : Array Value} (h5 : ∀ x ∈ dd, va_Nw (.declares x) U) (h6 : ∀ q ∈ cs, va_Nw (.castable q.1 q.2) U) : ∀ w ∈ zNg dd cs, w.before args U = true := by
  intro w hw
  rcases List.mem_append.mp hw with h | h
  · obtain ⟨x, hx, rfl⟩ := List.mem_map.mp h
    exact va_Nw.use rfl (h5 x hx)
  · obtain ⟨q, hq, rfl⟩ := List.mem_map.mp h
    exact va_Nw.use rfl (h6 q hq)
theorem zup_room (M : zM) (a b : Nat) : zroom (zup M a b) = zroom M := by obtain ⟨p, l, e, R, s, m, args, below, meth, c, Q, A, cells, slots⟩ := M; rfl
theorem zup_cells (M : zM) (a b : Nat) : zcells (zup M a b) = zcells M + a := by obtain ⟨p, l, e, R, s, m, args, below, meth, c, Q, A, cells, slots⟩ := M; rfl
theorem zup_slots (M : zM) (a b : Nat) : zslots (zup M a b) = zslots M + b := by obtain ⟨p, l, e, R, s, m, args, below, meth, c, Q, A, cells, slots⟩ := M; rfl
theorem zup_l0 (M : zM) (a b : Nat) : zl0 (zup M a b) = zl0 M := by obtain ⟨p, l, e, R, s, m, args, below, meth, c, Q, A, cells, slots⟩ := M; rfl
theorem zup_En {M : zM} {a b : Nat} {E : (Nat → Prop) → State → Prop} (h : zEn M E) : zEn (zup M a b) E := by obtain ⟨p, l, e, R, s, m, args, below, meth, c, Q, A, cells, slots⟩ := M; exact h
theorem zup_RetX {M : zM} {G : zG} {aw0 : List va_E} {post : Option Value → List va_E → Prop} {px : String → Prop} {mc ms a b : Nat} (h : zRetX M G aw0 post px mc ms) : zRetX (zup M a b) G aw0 post px mc ms := by obtain ⟨p, l, e, R, s, m, args, below, meth, c, Q, A, cells, slots⟩ := M; exact h
section ZT
variable {M : zM} {G : zG} {cc : ByteArray} {nL : Nat} {own : String} {Ts : List Cond} {rt : Option FieldType} {aw : List va_E} {lv : List (Option Value)} {st : List Value} {pc mc ms : Nat} {post : Option Value → List va_E → Prop} {px : String → Prop}
theorem z_throw {cls text : String} {names : List String} {ik is ic sa : Nat} {ss : List (String × Nat × String × Nat)} {nn : List (String × Nat × MethodName × String)} {dd : List MethodName} {cs : List (String × String)} (hl9 : (zl0 M).stackTraces = false) (hX : zRetX M G aw post px mc ms) (hE : zEn M (zEv ss nn dd cs)) (hpx : px cls)
    (d0 : decode cc pc = .ok (.new ik, 3)) (d3 : decode cc (pc + 3) = .ok (.dup, 1)) (d4 : decode cc (pc + 4) = .ok (.ldc is, 2)) (d6 : decode cc (pc + 6) = .ok (.invokespecial ic, 3)) (d9 : decode cc (pc + 9) = .ok (.athrow, 1))
    (hss : (own, is, text, sa) ∈ ss) (h1 : Bundle.fit cls = true) (h2 : ∀ n ∈ names, Bundle.fit n = true) (hk : Cond.classLink own ik cls ∈ Ts) (hini : Cond.initialized cls ∈ Ts)
    (hg : ∀ w ∈ (vx_atS own ic cls names).filter goodWord, w ∈ Ts) (hn : ∀ w ∈ (vx_atS own ic cls names).filter (fun w => !goodWord w), w ∈ zNg dd cs) (hgood : ∀ w ∈ Cond.classLink own ik cls :: Cond.initialized cls :: vx_atS own ic cls names, vx_ot w = true)
    (hR : names.length + 3 < (zroom M).frames ∧ (st.map fun v => v.category).sum + (13 * (names.length + 1) + 43) ≤ (zroom M).locals) (hcs : zcells M + 1 ≤ (zroom M).cells ∧ zslots M + 6 ≤ (zroom M).slots) (hc : zcells M + 1 ≤ mc ∧ zslots M + 6 ≤ ms) : Zj M G cc nL own Ts rt aw lv st pc := by
  obtain ⟨p, l, e, R, s, m, args, below, meth, c, Q, A, cells, slots⟩ := M
  obtain ⟨D, cl, tys, ad⟩ := G
  intro hF H locs ls hP hD hS hl
  obtain ⟨⟨hx, hb, hml, hown, hts⟩, hr, hlk, hK, hA⟩ := hF
  obtain ⟨htab, sz, rfl, rfl⟩ := hX
  have hat : ∀ w ∈ vx_atS own ic cls names, w.before args s = true := fun w hw => by
    by_cases hgw : goodWord w = true
    · exact hts w (hg w (List.mem_filter.mpr ⟨hw, hgw⟩))
    · exact zNg_use hE.2.2.2.1 hE.2.2.2.2 w (hn w (List.mem_filter.mpr ⟨hw, by simpa using hgw⟩))
  exact vx_throwS hx hb hl9 hown h1 h2 (hts _ hk) (hts _ hini) (hE.2.1 _ hss) hat hgood hE.1.1 hE.1.2 hS (hl.1.trans hml.symm) d0 d3 d4 d6 d9 (fun x hx => (htab x hx).elim) hR.1 (by rw [zv_cats]; exact hR.2) hcs.1 hcs.2 hlk
    (fun t ha hsz hk => ⟨hpx, ⟨hP.kept (fun k q hq => hk q.1 (hP k q hq).lt), va_K.moved ha hK, hD⟩, Nat.le_trans hS.1 hsz, fun q h1 h2 => (hk q (Nat.lt_of_lt_of_le h1 hS.1)).trans (hS.2.1 q h1 h2)⟩) hS.2.2 hc.1 hc.2
end ZT
/-- a call of what may throw -/
def Zcx (M : zM) (G : zG) (cc : ByteArray) (nL : Nat) (own : String) (Ts : List Cond) (ix : Nat → Nat) (awc : List va_E) (stk st : List Value) (pc : Nat) (post : Option Value → List va_E → Prop) (px : String → Prop) (mc ms : Nat) : Prop := match M, G with
  | (p, l, e, R, s, m, args, below, meth, c, _, A, cells, slots), (D, cl, tys, ad) => CallFix p m c cc nL s args Ts own → va_K D cl tys s → ∀ (H : Heap) (locs : List Loc) (ls : Array Slot), ls.size = nL → va_P D cl (zw (fun j => ad (ix j)) awc) H → va_D (fun _ => True) (zw (fun j => ad (ix j)) awc) → va_S A s.heap H locs → (∀ q, zA (D, cl, tys, fun j => ad (ix j)) awc H.size q → A q) → vx_Run p l e R s m args below meth c H locs cells slots mc ms (F0 m pc ls (stk.map (zv ad))) (st.map (zv ad)) (zQ (D, cl, tys, fun j => ad (ix j)) awc H.size post #[]) (zXC (D, cl, tys, fun j => ad (ix j)) awc H.size px) (zA (D, cl, tys, fun j => ad (ix j)) awc H.size)
section ZX
variable {M : zM} {G : zG} {cc : ByteArray} {nL : Nat} {own : String} {Ts : List Cond} {rt : Option FieldType} {aw awc : List va_E} {lv : List (Option Value)} {stk st : List Value} {pc mc ms mcM msM : Nat} {post postM : Option Value → List va_E → Prop} {px pxM : String → Prop} {ix : Nat → Nat}
/-- what is thrown goes on to the caller -/
theorem zx_call (hc : Zcx M G cc nL own Ts ix awc stk st pc post px mc ms) (hin : zIn ix aw awc) (hX : zRetX M G aw postM pxM mcM msM) (hpx : ∀ E, px E → pxM E) (hcs : zcells M + mc ≤ mcM ∧ zslots M + ms ≤ msM)
    (kk : ∀ (r : Option Value) (aw1 awn : List va_E), aw1.length = awc.length → zBk ix aw awc aw1 awn → post r aw1 → Zj (zup M mc ms) G cc nL own Ts rt awn lv (zpush ix r st) (pc + 3))
    (hex : ∀ aw1 : List va_E, aw1.length = awc.length → ∃ awn, zBk ix aw awc aw1 awn) : Zj M G cc nL own Ts rt aw lv stk pc := by
  obtain ⟨p, l, e, R, s, m, args, below, meth, c, Q, A, cells, slots⟩ := M
  obtain ⟨D, cl, tys, ad⟩ := G
  intro hF H locs ls hP hD hS hl
  obtain ⟨hfix, hr, hlk, hK, hA⟩ := id hF
  have hfree := hin.free (D := D) (cl := cl) (tys := tys) hD hS hA
  have hrun := hc hfix hK H locs ls hl.1 (hin.P hP) ((hin.D hD).weaken (fun _ _ _ _ => trivial)) hS hfree
  intro T hT X
  rcases hrun T hT X with ⟨v, st₀, t, T', L, h0, X', hL, e1, e2, ⟨⟨r, aw1, hv, hlen, hpo, hP1, hK1, hD1⟩, hz, hk⟩, stp⟩ | ⟨q, st₀, t, T', L, E, ce, h0, X', hL, e1, e2, ⟨hpE, ⟨hP1, hK1, hD1⟩, hz, hk⟩, hce, hcv, hcl, stp⟩
  · cases hv
    rw [h0] at hz hk
    obtain ⟨awn, hbk⟩ := hex aw1 hlen
    have hk' : ∀ q : Nat, q < H.size → ¬ zA (D, cl, tys, fun j => ad (ix j)) awc H.size q → T'.heap[q]? = H[q]? := fun q h1 h2 => by rw [e1]; exact hk q h1 h2
    have hP2 := zBk.P (tys := tys) hin hbk hlen hP hD (by rw [e1]; exact hP1 : va_P D cl (zw (fun j => ad (ix j)) aw1) T'.heap) hk'
    have hz' : H.size ≤ T'.heap.size := by rw [e1]; exact hz
    have hS' : va_S A s.heap T'.heap (locs ++ L) := ⟨Nat.le_trans hS.1 hz', fun q h1 h2 => by
        rw [hk' q (Nat.lt_of_lt_of_le h1 hS.1) (fun z => h2 (hfree q z))]; exact hS.2.1 q h1 h2, fun q hq => by
        rcases List.mem_append.mp hq with h | h
        · exact hS.2.2 q h
        · exact hfree _ (hL q h)⟩
    obtain ⟨t2, a1, b1⟩ := kk r aw1 awn hlen hbk hpo hF T'.heap (locs ++ L) ls hP2 (zD_len hD hbk.1) hS' hl T' rfl X'
    refine ⟨t2, stp t2 ?_, b1⟩
    rw [show (r.map (zv (fun j => ad (ix j)))).toList ++ st.map (zv ad) = (zpush ix r st).map (zv ad) from zpush_map ad ix r st]
    exact a1
  · rw [h0] at hz hk
    obtain ⟨htab, sz, rfl, rfl⟩ := hX
    have hk' : ∀ q : Nat, q < H.size → ¬ zA (D, cl, tys, fun j => ad (ix j)) awc H.size q → T'.heap[q]? = H[q]? := fun q h1 h2 => by rw [e1]; exact hk q h1 h2
    have hP2 := zBk.P (tys := tys) (aw1 := awc) (awn := aw) hin ⟨rfl, hin.1, fun _ _ => rfl⟩ rfl hP hD (by rw [e1]; exact hP1 : va_P D cl (zw (fun j => ad (ix j)) awc) T'.heap) hk'
    have hz' : H.size ≤ T'.heap.size := by rw [e1]; exact hz
    have hS' : va_S (zA (D, cl, tys, ad) aw sz) s.heap T'.heap (locs ++ L) := ⟨Nat.le_trans hS.1 hz', fun q h1 h2 => by
        rw [hk' q (Nat.lt_of_lt_of_le h1 hS.1) (fun z => h2 (hfree q z))]; exact hS.2.1 q h1 h2, fun q hq => by
        rcases List.mem_append.mp hq with h | h
        · exact hS.2.2 q h
        · exact hfree _ (hL q h)⟩
    obtain ⟨t2, a1, b1⟩ := vx_out (p := p) (l := l) (e := e) (R := R) (m := m) (args := args) (below := below) (pc := pc) (ls := ls) (rest := st.map (zv ad)) (Qc := zQ (D, cl, tys, ad) aw sz postM) (XC := zXC (D, cl, tys, ad) aw sz pxM) (free := zA (D, cl, tys, ad) aw sz) (E := E) (ce := ce) (q := q) (fun x hx => (htab x hx).elim) hlk (H := T'.heap) (by rw [e1]; exact hce) hcv hcl
      (fun t9 ht9 ha9 => ⟨hpx E hpE, ⟨by rw [ht9]; exact hP2, va_K.moved ha9 hK, hD⟩, hS'.F ht9⟩) hS'.2.2 hcs.1 hcs.2 T' rfl X'
    exact ⟨t2, stp.trans a1, b1⟩
theorem zx_same (hc : Zcx M G cc nL own Ts (fun j => j) aw stk st pc post px mc ms) (hX : zRetX M G aw postM pxM mcM msM) (hpx : ∀ E, px E → pxM E) (hcs : zcells M + mc ≤ mcM ∧ zslots M + ms ≤ msM) (kk : ∀ (r : Option Value) (aw1 : List va_E), aw1.length = aw.length → post r aw1 → Zj (zup M mc ms) G cc nL own Ts rt aw1 lv (zpush (fun j => j) r st) (pc + 3)) : Zj M G cc nL own Ts rt aw lv stk pc := by
  refine zx_call hc ⟨fun j e h => by rw [zc_id]; exact h, fun i j _ _ h => h⟩ hX hpx hcs (fun r aw1 awn hlen hbk hpo => ?_) (fun aw1 hlen => ⟨aw1, hlen, fun j e h => by rw [zc_id]; exact h, fun k hk => ?_⟩)
  · have e9 : awn = aw1 := by
      apply List.ext_getElem?
      intro k
      by_cases h : k < aw1.length
      · have := hbk.2.1 k _ (List.getElem?_eq_getElem h)
        rw [zc_id] at this
        rw [this, List.getElem?_eq_getElem h]
      · have h8 := hbk.1
        rw [List.getElem?_eq_none (by omega), List.getElem?_eq_none (by omega)]
    rw [e9]
    exact kk r aw1 hlen hpo
  · have : ¬ k < aw.length := fun h => hk k h rfl
    rw [List.getElem?_eq_none (by omega), List.getElem?_eq_none (by omega)]
end ZX
section ZXK
variable {M : zM} {G : zG} {cc : ByteArray} {nL : Nat} {own : String} {Ts : List Cond} {awc : List va_E} {stk st : List Value} {pc mc ms : Nat} {post : Option Value → List va_E → Prop} {px : String → Prop} {ix : Nat → Nat} {y : MethodName} {ws ws' : List Cond} {rm : Room} {bytes : ByteArray} {maxL index : Nat} {ret : Option FieldType} {C : String} {As : List Value} {b ci : Nat} {fs : List Value} {T : u_T} {N : Nat} {E E' : (Nat → Prop) → State → Prop}
theorem zx_V (hE : zEn M E) (hEE : zEok E E') (hM : zXet (zl0 M) y ws rm mc ms E' (G.1, G.2.1, G.2.2.1, fun j => G.2.2.2 (ix j)) awc (.ref b :: As) post px) (hdg : decode cc pc = .ok (.invokevirtual index, 3)) (hG : GoodIn Ts (wsV own index C y ws)) (hw : ws = Cond.code y bytes maxL ret :: ws')
    (hd : y.cls = C ∧ y.cls ≠ "java/lang/invoke/MethodHandle" ∧ y.cls ≠ "java/lang/invoke/VarHandle" ∧ (parseMethodDescriptor y.desc).map (fun d => d.parameters.length) = some As.length) (hrm : rm.cells = mc ∧ rm.slots = ms) (hR : rm.frames + 1 ≤ (zroom M).frames ∧ 8 + (maxL + 11) + rm.locals ≤ (zroom M).locals) (hcs : zcells M + mc ≤ (zroom M).cells ∧ zslots M + ms ≤ (zroom M).slots)
    (hstk : stk = ((.ref b :: As).map (zv ix)).reverse ++ st) (hst : (st.map fun v => v.category).sum ≤ 8) (hrecv : awc[b]? = some (.inr (ci, fs))) (hci : G.2.1[ci]? = some (C, T, N)) : Zcx M G cc nL own Ts ix awc stk st pc post px mc ms := by
  obtain ⟨p, l, e, R, s, m, args, below, meth, c, Q, A, cells, slots⟩ := M
  obtain ⟨D, cl, tys, ad⟩ := G
  intro hfix hK H locs ls hls hP hD hS hfree
  subst hstk
  refine vx_runV (b := ad (ix b)) (As := As.map (zv (fun j => ad (ix j)))) hfix (hM H.size) (cwV As.length hfix.2.2.2.2 hG hw hrm.1 hrm.2 hd hR) ⟨z_blind hEE.2, va_recv hK hP hci (zw_get hrecv), fun U hU hW => ⟨rfl, by rw [hU], ⟨by rw [hU]; exact hP, va_K.moved hW.alike hK, hD⟩, hEE.1 A _ s U locs hE (by rw [hU]; exact hS) hfree hW⟩⟩ rfl (by simp) hls ?_ ?_ hdg hcs
  · simp only [F0, List.map_append, List.map_reverse, List.map_map, List.map_cons, List.reverse_cons, List.append_assoc, List.cons_append, List.nil_append]
    congr 2
    · congr 1
      funext v
      exact (zv_comp ad ix v).symm
  · rw [zv_cats]
    show 2 * 0 + _ ≤ 8
    omega
end ZXK
end
section
def RP : String := "ToneMixer$Plane"
def TP : u_T := fun k => match k with
  | 0 => ("ToneMixer$Plane", "samples", "[I", true)
  | 1 => ("ToneMixer$Plane", "w", "I", false)
  | 2 => ("ToneMixer$Plane", "h", "I", false)
  | _ => ("ToneMixer$Plane", "line", "[I", true)
def tyP : Nat → FieldType := fun k => match k with
  | 0 => .array .int
  | 1 => .int
  | 2 => .int
  | _ => .array .int
theorem nmP : ∀ a, a < 4 → ∀ b, b < 4 → a ≠ b → (TP a).2.1 ≠ (TP b).2.1 := by decide +kernel
theorem tyP_ok : ∀ k, k < 4 → parseFieldDescriptor (TP k).2.2.1 = some (tyP k) := by decide +kernel
def RT : String := "ToneMixer"
def TT : u_T := fun k => match k with
  | _ => ("ToneMixer", "planes", "[LToneMixer$Plane;", true)
def tyT : Nat → FieldType := fun k => match k with
  | _ => .array (.object "ToneMixer$Plane")
theorem nmT : ∀ a, a < 1 → ∀ b, b < 1 → a ≠ b → (TT a).2.1 ≠ (TT b).2.1 := by decide +kernel
theorem tyT_ok : ∀ k, k < 1 → parseFieldDescriptor (TT k).2.2.1 = some (tyT k) := by decide +kernel
def RM : String := "ToneMixerModel"
def TM : u_T := fun k => match k with
  | 0 => ("ToneMixerModel", "thrown", "I", false)
  | 1 => ("ToneMixerModel", "w", "[I", true)
  | 2 => ("ToneMixerModel", "h", "[I", true)
  | 3 => ("ToneMixerModel", "sample", "[I", true)
  | 4 => ("ToneMixerModel", "old", "[I", true)
  | 5 => ("ToneMixerModel", "oldW", "I", false)
  | _ => ("ToneMixerModel", "oldH", "I", false)
def tyM : Nat → FieldType := fun k => match k with
  | 0 => .int
  | 1 => .array .int
  | 2 => .array .int
  | 3 => .array .int
  | 4 => .array .int
  | 5 => .int
  | _ => .int
theorem nmM : ∀ a, a < 7 → ∀ b, b < 7 → a ≠ b → (TM a).2.1 ≠ (TM b).2.1 := by decide +kernel
theorem tyM_ok : ∀ k, k < 7 → parseFieldDescriptor (TM k).2.2.1 = some (tyM k) := by decide +kernel
def RL : String := "ToneMixerLaw"
def RA : String := "java/util/Arrays"
abbrev vwCl : List vw_C := [(RT, TT, 1), (RP, TP, 4), (RM, TM, 7)]
/-- the words of the tables that go along with every call -/
def bw : List Cond := lw_tbl.filter goodWord
theorem bw_in {w : Cond} (h : w ∈ bw) : w ∈ lw_tbl := (List.mem_filter.mp h).1
theorem bw_good {w : Cond} (h : w ∈ bw) : (w.onTables && w.keeps) = true ∨ ∃ ty, w = .arrayClass ty := good_of_word (List.mem_filter.mp h).2
theorem bwm {w : Cond} (i : Nat) (h : tables_1[i]? = some w) (hg : goodWord w = true) : w ∈ bw := List.mem_filter.mpr ⟨List.mem_append_right _ (List.mem_of_getElem? h), hg⟩
theorem bws {w : Cond} (i : Nat) (h : (k2_sels lw_privs)[i]? = some w) (hg : goodWord w = true) : w ∈ bw := List.mem_filter.mpr ⟨List.mem_append_left _ (List.mem_of_getElem? h), hg⟩
theorem bwT {w a : Cond} (h : w ∈ bw) : w ∈ a :: bw := List.mem_cons_of_mem _ h
theorem gd_V {a cw : Cond} {own C : String} {idx : Nat} {y : MethodName} (h1 : Cond.methodLink own idx y ∈ bw) (h2 : Cond.instanceMethod y ∈ bw) (h3 : Cond.selects C y y ∈ bw) (h4 : Cond.initialized C ∈ bw) (h5 : cw ∈ bw) : GoodIn (a :: bw) (wsV own idx C y (cw :: bw)) := by
  intro w hw
  have hb : w ∈ bw := by
    rcases List.mem_append.mp hw with h | h
    · simp only [List.mem_cons, List.not_mem_nil, or_false] at h
      rcases h with rfl | rfl | rfl | rfl
      · exact h1
      · exact h2
      · exact h3
      · exact h4
    · rcases List.mem_cons.mp h with rfl | h
      · exact h5
      · exact h
  exact ⟨bwT hb, bw_good hb⟩
theorem gd_S {a cw : Cond} {own : String} {idx : Nat} {y : MethodName} (h1 : Cond.methodLink own idx y ∈ bw) (h2 : Cond.static y ∈ bw) (h4 : Cond.initialized y.cls ∈ bw) (h5 : cw ∈ bw) : GoodIn (a :: bw) (va_wsS own idx y (cw :: bw)) := by
  intro w hw
  have hb : w ∈ bw := by
    rcases List.mem_append.mp hw with h | h
    · simp only [List.mem_cons, List.not_mem_nil, or_false] at h
      rcases h with rfl | rfl | rfl
      · exact h1
      · exact h2
      · exact h4
    · rcases List.mem_cons.mp h with rfl | h
      · exact h5
      · exact h
  exact ⟨bwT hb, bw_good hb⟩
theorem gd_0 {a cw : Cond} (h5 : cw ∈ bw) : GoodIn (a :: bw) (cw :: bw) := by
  intro w hw
  have hb : w ∈ bw := by
    rcases List.mem_cons.mp hw with rfl | h
    · exact h5
    · exact h
  exact ⟨bwT hb, bw_good hb⟩
abbrev cT_init : ByteArray := prog_1_method_1_code
def yT_init : MethodName := ⟨RT, "<init>", "()V"⟩
abbrev kT_init : Cond := .code yT_init cT_init 2 none
abbrev wT_init : List Cond := kT_init :: bw
theorem qT_init : yT_init.cls = RT ∧ yT_init.cls ≠ "java/lang/invoke/MethodHandle" ∧ yT_init.cls ≠ "java/lang/invoke/VarHandle" ∧ (parseMethodDescriptor yT_init.desc).map (fun d => d.parameters.length) = some 0 := by decide +kernel
abbrev cP_init : ByteArray := prog_2_method_1_code
def yP_init : MethodName := ⟨RP, "<init>", "()V"⟩
abbrev kP_init : Cond := .code yP_init cP_init 1 none
abbrev wP_init : List Cond := kP_init :: bw
theorem qP_init : yP_init.cls = RP ∧ yP_init.cls ≠ "java/lang/invoke/MethodHandle" ∧ yP_init.cls ≠ "java/lang/invoke/VarHandle" ∧ (parseMethodDescriptor yP_init.desc).map (fun d => d.parameters.length) = some 0 := by decide +kernel
abbrev cT_mix : ByteArray := prog_1_method_7_code
def yT_mix : MethodName := ⟨RT, "mix", "(I)Z"⟩
abbrev kT_mix : Cond := .code yT_mix cT_mix 4 (some .boolean)
abbrev wT_mix : List Cond := kT_mix :: bw
theorem qT_mix : yT_mix.cls = RT ∧ yT_mix.cls ≠ "java/lang/invoke/MethodHandle" ∧ yT_mix.cls ≠ "java/lang/invoke/VarHandle" ∧ (parseMethodDescriptor yT_mix.desc).map (fun d => d.parameters.length) = some 1 := by decide +kernel
abbrev cT_firstAreOfOneSize : ByteArray := prog_1_method_19_code
def yT_firstAreOfOneSize : MethodName := ⟨RT, "firstAreOfOneSize", "(I)Z"⟩
abbrev kT_firstAreOfOneSize : Cond := .code yT_firstAreOfOneSize cT_firstAreOfOneSize 3 (some .boolean)
abbrev wT_firstAreOfOneSize : List Cond := kT_firstAreOfOneSize :: bw
theorem qT_firstAreOfOneSize : yT_firstAreOfOneSize.cls = RT ∧ yT_firstAreOfOneSize.cls ≠ "java/lang/invoke/MethodHandle" ∧ yT_firstAreOfOneSize.cls ≠ "java/lang/invoke/VarHandle" ∧ (parseMethodDescriptor yT_firstAreOfOneSize.desc).map (fun d => d.parameters.length) = some 1 := by decide +kernel
abbrev cP_isOfSizeOf : ByteArray := prog_2_method_3_code
def yP_isOfSizeOf : MethodName := ⟨RP, "isOfSizeOf", "(LToneMixer$Plane;)Z"⟩
abbrev kP_isOfSizeOf : Cond := .code yP_isOfSizeOf cP_isOfSizeOf 2 (some .boolean)
abbrev wP_isOfSizeOf : List Cond := kP_isOfSizeOf :: bw
theorem qP_isOfSizeOf : yP_isOfSizeOf.cls = RP ∧ yP_isOfSizeOf.cls ≠ "java/lang/invoke/MethodHandle" ∧ yP_isOfSizeOf.cls ≠ "java/lang/invoke/VarHandle" ∧ (parseMethodDescriptor yP_isOfSizeOf.desc).map (fun d => d.parameters.length) = some 1 := by decide +kernel
abbrev cT_placeOf : ByteArray := prog_1_method_17_code
def yT_placeOf : MethodName := ⟨RT, "placeOf", "(II)I"⟩
abbrev kT_placeOf : Cond := .code yT_placeOf cT_placeOf 2 (some .int)
abbrev wT_placeOf : List Cond := kT_placeOf :: bw
theorem qT_placeOf : yT_placeOf.cls = RT ∧ yT_placeOf.cls ≠ "java/lang/invoke/MethodHandle" ∧ yT_placeOf.cls ≠ "java/lang/invoke/VarHandle" ∧ (parseMethodDescriptor yT_placeOf.desc).map (fun d => d.parameters.length) = some 2 := by decide +kernel
abbrev cT_mixPlace : ByteArray := prog_1_method_20_code
def yT_mixPlace : MethodName := ⟨RT, "mixPlace", "(II)V"⟩
abbrev kT_mixPlace : Cond := .code yT_mixPlace cT_mixPlace 3 none
abbrev wT_mixPlace : List Cond := kT_mixPlace :: bw
theorem qT_mixPlace : yT_mixPlace.cls = RT ∧ yT_mixPlace.cls ≠ "java/lang/invoke/MethodHandle" ∧ yT_mixPlace.cls ≠ "java/lang/invoke/VarHandle" ∧ (parseMethodDescriptor yT_mixPlace.desc).map (fun d => d.parameters.length) = some 2 := by decide +kernel
abbrev cT_open : ByteArray := prog_1_method_21_code
def yT_open : MethodName := ⟨RT, "open", "(I)V"⟩
abbrev kT_open : Cond := .code yT_open cT_open 5 none
abbrev wT_open : List Cond := kT_open :: bw
theorem qT_open : yT_open.cls = RT ∧ yT_open.cls ≠ "java/lang/invoke/MethodHandle" ∧ yT_open.cls ≠ "java/lang/invoke/VarHandle" ∧ (parseMethodDescriptor yT_open.desc).map (fun d => d.parameters.length) = some 1 := by decide +kernel
abbrev cT_shifted : ByteArray := prog_1_method_29_code
def yT_shifted : MethodName := ⟨RT, "shifted", "(I)I"⟩
abbrev kT_shifted : Cond := .code yT_shifted cT_shifted 1 (some .int)
abbrev wT_shifted : List Cond := kT_shifted :: bw
theorem qT_shifted : yT_shifted.cls = RT ∧ yT_shifted.cls ≠ "java/lang/invoke/MethodHandle" ∧ yT_shifted.cls ≠ "java/lang/invoke/VarHandle" ∧ (parseMethodDescriptor yT_shifted.desc).map (fun d => d.parameters.length) = some 1 := by decide +kernel
abbrev cT_limit : ByteArray := prog_1_method_30_code
def yT_limit : MethodName := ⟨RT, "limit", "(I)I"⟩
abbrev kT_limit : Cond := .code yT_limit cT_limit 1 (some .int)
abbrev wT_limit : List Cond := kT_limit :: bw
theorem qT_limit : yT_limit.cls = RT ∧ yT_limit.cls ≠ "java/lang/invoke/MethodHandle" ∧ yT_limit.cls ≠ "java/lang/invoke/VarHandle" ∧ (parseMethodDescriptor yT_limit.desc).map (fun d => d.parameters.length) = some 1 := by decide +kernel
abbrev cT_setColours : ByteArray := prog_1_method_26_code
def yT_setColours : MethodName := ⟨RT, "setColours", "(IIII)V"⟩
abbrev kT_setColours : Cond := .code yT_setColours cT_setColours 5 none
abbrev wT_setColours : List Cond := kT_setColours :: bw
theorem qT_setColours : yT_setColours.cls = RT ∧ yT_setColours.cls ≠ "java/lang/invoke/MethodHandle" ∧ yT_setColours.cls ≠ "java/lang/invoke/VarHandle" ∧ (parseMethodDescriptor yT_setColours.desc).map (fun d => d.parameters.length) = some 4 := by decide +kernel
abbrev cT_close : ByteArray := prog_1_method_22_code
def yT_close : MethodName := ⟨RT, "close", "(I)V"⟩
abbrev kT_close : Cond := .code yT_close cT_close 5 none
abbrev wT_close : List Cond := kT_close :: bw
theorem qT_close : yT_close.cls = RT ∧ yT_close.cls ≠ "java/lang/invoke/MethodHandle" ∧ yT_close.cls ≠ "java/lang/invoke/VarHandle" ∧ (parseMethodDescriptor yT_close.desc).map (fun d => d.parameters.length) = some 1 := by decide +kernel
abbrev cT_brightness : ByteArray := prog_1_method_28_code
def yT_brightness : MethodName := ⟨RT, "brightness", "(III)I"⟩
abbrev kT_brightness : Cond := .code yT_brightness cT_brightness 3 (some .int)
abbrev wT_brightness : List Cond := kT_brightness :: bw
theorem qT_brightness : yT_brightness.cls = RT ∧ yT_brightness.cls ≠ "java/lang/invoke/MethodHandle" ∧ yT_brightness.cls ≠ "java/lang/invoke/VarHandle" ∧ (parseMethodDescriptor yT_brightness.desc).map (fun d => d.parameters.length) = some 3 := by decide +kernel
abbrev cT_invert : ByteArray := prog_1_method_23_code
def yT_invert : MethodName := ⟨RT, "invert", "(I)V"⟩
abbrev kT_invert : Cond := .code yT_invert cT_invert 2 none
abbrev wT_invert : List Cond := kT_invert :: bw
theorem qT_invert : yT_invert.cls = RT ∧ yT_invert.cls ≠ "java/lang/invoke/MethodHandle" ∧ yT_invert.cls ≠ "java/lang/invoke/VarHandle" ∧ (parseMethodDescriptor yT_invert.desc).map (fun d => d.parameters.length) = some 1 := by decide +kernel
abbrev cT_darken : ByteArray := prog_1_method_24_code
def yT_darken : MethodName := ⟨RT, "darken", "(I)V"⟩
abbrev kT_darken : Cond := .code yT_darken cT_darken 3 none
abbrev wT_darken : List Cond := kT_darken :: bw
theorem qT_darken : yT_darken.cls = RT ∧ yT_darken.cls ≠ "java/lang/invoke/MethodHandle" ∧ yT_darken.cls ≠ "java/lang/invoke/VarHandle" ∧ (parseMethodDescriptor yT_darken.desc).map (fun d => d.parameters.length) = some 1 := by decide +kernel
abbrev cT_darkened : ByteArray := prog_1_method_27_code
def yT_darkened : MethodName := ⟨RT, "darkened", "(II)I"⟩
abbrev kT_darkened : Cond := .code yT_darkened cT_darkened 2 (some .int)
abbrev wT_darkened : List Cond := kT_darkened :: bw
theorem qT_darkened : yT_darkened.cls = RT ∧ yT_darkened.cls ≠ "java/lang/invoke/MethodHandle" ∧ yT_darkened.cls ≠ "java/lang/invoke/VarHandle" ∧ (parseMethodDescriptor yT_darkened.desc).map (fun d => d.parameters.length) = some 2 := by decide +kernel
abbrev cT_grey : ByteArray := prog_1_method_25_code
def yT_grey : MethodName := ⟨RT, "grey", "(I)V"⟩
abbrev kT_grey : Cond := .code yT_grey cT_grey 3 none
abbrev wT_grey : List Cond := kT_grey :: bw
theorem qT_grey : yT_grey.cls = RT ∧ yT_grey.cls ≠ "java/lang/invoke/MethodHandle" ∧ yT_grey.cls ≠ "java/lang/invoke/VarHandle" ∧ (parseMethodDescriptor yT_grey.desc).map (fun d => d.parameters.length) = some 1 := by decide +kernel
abbrev cL_size : ByteArray := method_3_code
def yL_size : MethodName := ⟨RL, "size", "(LToneMixer;III)I"⟩
abbrev kL_size : Cond := .codeWith yL_size cL_size 5 (some .int) [(0, 7, 10, 13), (0, 7, 14, 15)]
abbrev wL_size : List Cond := kL_size :: bw
theorem qL_size : yL_size.cls = RL ∧ yL_size.cls ≠ "java/lang/invoke/MethodHandle" ∧ yL_size.cls ≠ "java/lang/invoke/VarHandle" ∧ (parseMethodDescriptor yL_size.desc).map (fun d => d.parameters.length) = some 4 := by decide +kernel
abbrev cT_size : ByteArray := prog_1_method_2_code
def yT_size : MethodName := ⟨RT, "size", "(III)V"⟩
abbrev kT_size : Cond := .code yT_size cT_size 5 none
abbrev wT_size : List Cond := kT_size :: bw
theorem qT_size : yT_size.cls = RT ∧ yT_size.cls ≠ "java/lang/invoke/MethodHandle" ∧ yT_size.cls ≠ "java/lang/invoke/VarHandle" ∧ (parseMethodDescriptor yT_size.desc).map (fun d => d.parameters.length) = some 3 := by decide +kernel
abbrev cT_planeOf : ByteArray := prog_1_method_15_code
def yT_planeOf : MethodName := ⟨RT, "planeOf", "(I)LToneMixer$Plane;"⟩
abbrev kT_planeOf : Cond := .code yT_planeOf cT_planeOf 2 (some (.object "ToneMixer$Plane"))
abbrev wT_planeOf : List Cond := kT_planeOf :: bw
theorem qT_planeOf : yT_planeOf.cls = RT ∧ yT_planeOf.cls ≠ "java/lang/invoke/MethodHandle" ∧ yT_planeOf.cls ≠ "java/lang/invoke/VarHandle" ∧ (parseMethodDescriptor yT_planeOf.desc).map (fun d => d.parameters.length) = some 1 := by decide +kernel
abbrev cP_empty : ByteArray := prog_2_method_4_code
def yP_empty : MethodName := ⟨RP, "empty", "(II)V"⟩
abbrev kP_empty : Cond := .code yP_empty cP_empty 3 none
abbrev wP_empty : List Cond := kP_empty :: bw
theorem qP_empty : yP_empty.cls = RP ∧ yP_empty.cls ≠ "java/lang/invoke/MethodHandle" ∧ yP_empty.cls ≠ "java/lang/invoke/VarHandle" ∧ (parseMethodDescriptor yP_empty.desc).map (fun d => d.parameters.length) = some 2 := by decide +kernel
abbrev cA_fill : ByteArray := prog_13_method_103_code
def yA_fill : MethodName := ⟨RA, "fill", "([II)V"⟩
abbrev kA_fill : Cond := .code yA_fill cA_fill 4 none
abbrev wA_fill : List Cond := kA_fill :: bw
theorem qA_fill : yA_fill.cls = RA ∧ yA_fill.cls ≠ "java/lang/invoke/MethodHandle" ∧ yA_fill.cls ≠ "java/lang/invoke/VarHandle" ∧ (parseMethodDescriptor yA_fill.desc).map (fun d => d.parameters.length) = some 2 := by decide +kernel
abbrev cL_put : ByteArray := method_4_code
def yL_put : MethodName := ⟨RL, "put", "(LToneMixer;IIII)I"⟩
abbrev kL_put : Cond := .codeWith yL_put cL_put 6 (some .int) [(0, 9, 12, 13), (0, 9, 16, 15)]
abbrev wL_put : List Cond := kL_put :: bw
theorem qL_put : yL_put.cls = RL ∧ yL_put.cls ≠ "java/lang/invoke/MethodHandle" ∧ yL_put.cls ≠ "java/lang/invoke/VarHandle" ∧ (parseMethodDescriptor yL_put.desc).map (fun d => d.parameters.length) = some 5 := by decide +kernel
abbrev cT_put : ByteArray := prog_1_method_3_code
def yT_put : MethodName := ⟨RT, "put", "(IIII)V"⟩
abbrev kT_put : Cond := .code yT_put cT_put 6 none
abbrev wT_put : List Cond := kT_put :: bw
theorem qT_put : yT_put.cls = RT ∧ yT_put.cls ≠ "java/lang/invoke/MethodHandle" ∧ yT_put.cls ≠ "java/lang/invoke/VarHandle" ∧ (parseMethodDescriptor yT_put.desc).map (fun d => d.parameters.length) = some 4 := by decide +kernel
abbrev cT_planeWith : ByteArray := prog_1_method_16_code
def yT_planeWith : MethodName := ⟨RT, "planeWith", "(III)LToneMixer$Plane;"⟩
abbrev kT_planeWith : Cond := .code yT_planeWith cT_planeWith 5 (some (.object "ToneMixer$Plane"))
abbrev wT_planeWith : List Cond := kT_planeWith :: bw
theorem qT_planeWith : yT_planeWith.cls = RT ∧ yT_planeWith.cls ≠ "java/lang/invoke/MethodHandle" ∧ yT_planeWith.cls ≠ "java/lang/invoke/VarHandle" ∧ (parseMethodDescriptor yT_planeWith.desc).map (fun d => d.parameters.length) = some 3 := by decide +kernel
abbrev cP_has : ByteArray := prog_2_method_2_code
def yP_has : MethodName := ⟨RP, "has", "(II)Z"⟩
abbrev kP_has : Cond := .code yP_has cP_has 3 (some .boolean)
abbrev wP_has : List Cond := kP_has :: bw
theorem qP_has : yP_has.cls = RP ∧ yP_has.cls ≠ "java/lang/invoke/MethodHandle" ∧ yP_has.cls ≠ "java/lang/invoke/VarHandle" ∧ (parseMethodDescriptor yP_has.desc).map (fun d => d.parameters.length) = some 2 := by decide +kernel
abbrev cL_row : ByteArray := method_5_code
def yL_row : MethodName := ⟨RL, "row", "(LToneMixer;IIIJ)I"⟩
abbrev kL_row : Cond := .codeWith yL_row cL_row 7 (some .int) [(0, 9, 12, 13)]
abbrev wL_row : List Cond := kL_row :: bw
theorem qL_row : yL_row.cls = RL ∧ yL_row.cls ≠ "java/lang/invoke/MethodHandle" ∧ yL_row.cls ≠ "java/lang/invoke/VarHandle" ∧ (parseMethodDescriptor yL_row.desc).map (fun d => d.parameters.length) = some 5 := by decide +kernel
abbrev cT_row : ByteArray := prog_1_method_4_code
def yT_row : MethodName := ⟨RT, "row", "(IIIJ)V"⟩
abbrev kT_row : Cond := .code yT_row cT_row 8 none
abbrev wT_row : List Cond := kT_row :: bw
theorem qT_row : yT_row.cls = RT ∧ yT_row.cls ≠ "java/lang/invoke/MethodHandle" ∧ yT_row.cls ≠ "java/lang/invoke/VarHandle" ∧ (parseMethodDescriptor yT_row.desc).map (fun d => d.parameters.length) = some 4 := by decide +kernel
abbrev cT_shiftOfByte : ByteArray := prog_1_method_18_code
def yT_shiftOfByte : MethodName := ⟨RT, "shiftOfByte", "(I)I"⟩
abbrev kT_shiftOfByte : Cond := .code yT_shiftOfByte cT_shiftOfByte 1 (some .int)
abbrev wT_shiftOfByte : List Cond := kT_shiftOfByte :: bw
theorem qT_shiftOfByte : yT_shiftOfByte.cls = RT ∧ yT_shiftOfByte.cls ≠ "java/lang/invoke/MethodHandle" ∧ yT_shiftOfByte.cls ≠ "java/lang/invoke/VarHandle" ∧ (parseMethodDescriptor yT_shiftOfByte.desc).map (fun d => d.parameters.length) = some 1 := by decide +kernel
abbrev cL_grow : ByteArray := method_6_code
def yL_grow : MethodName := ⟨RL, "grow", "(LToneMixer;II[J)I"⟩
abbrev kL_grow : Cond := .codeWith yL_grow cL_grow 5 (some .int) [(0, 17, 20, 13)]
abbrev wL_grow : List Cond := kL_grow :: bw
theorem qL_grow : yL_grow.cls = RL ∧ yL_grow.cls ≠ "java/lang/invoke/MethodHandle" ∧ yL_grow.cls ≠ "java/lang/invoke/VarHandle" ∧ (parseMethodDescriptor yL_grow.desc).map (fun d => d.parameters.length) = some 4 := by decide +kernel
abbrev cT_grow : ByteArray := prog_1_method_5_code
def yT_grow : MethodName := ⟨RT, "grow", "(II)Z"⟩
abbrev kT_grow : Cond := .code yT_grow cT_grow 7 (some .boolean)
abbrev wT_grow : List Cond := kT_grow :: bw
theorem qT_grow : yT_grow.cls = RT ∧ yT_grow.cls ≠ "java/lang/invoke/MethodHandle" ∧ yT_grow.cls ≠ "java/lang/invoke/VarHandle" ∧ (parseMethodDescriptor yT_grow.desc).map (fun d => d.parameters.length) = some 2 := by decide +kernel
abbrev cP_growAcross : ByteArray := prog_2_method_6_code
def yP_growAcross : MethodName := ⟨RP, "growAcross", "(Z)V"⟩
abbrev kP_growAcross : Cond := .code yP_growAcross cP_growAcross 3 none
abbrev wP_growAcross : List Cond := kP_growAcross :: bw
theorem qP_growAcross : yP_growAcross.cls = RP ∧ yP_growAcross.cls ≠ "java/lang/invoke/MethodHandle" ∧ yP_growAcross.cls ≠ "java/lang/invoke/VarHandle" ∧ (parseMethodDescriptor yP_growAcross.desc).map (fun d => d.parameters.length) = some 1 := by decide +kernel
abbrev cP_growLine : ByteArray := prog_2_method_8_code
def yP_growLine : MethodName := ⟨RP, "growLine", "(IIIZ)V"⟩
abbrev kP_growLine : Cond := .code yP_growLine cP_growLine 9 none
abbrev wP_growLine : List Cond := kP_growLine :: bw
theorem qP_growLine : yP_growLine.cls = RP ∧ yP_growLine.cls ≠ "java/lang/invoke/MethodHandle" ∧ yP_growLine.cls ≠ "java/lang/invoke/VarHandle" ∧ (parseMethodDescriptor yP_growLine.desc).map (fun d => d.parameters.length) = some 4 := by decide +kernel
abbrev cP_growDown : ByteArray := prog_2_method_7_code
def yP_growDown : MethodName := ⟨RP, "growDown", "(Z)V"⟩
abbrev kP_growDown : Cond := .code yP_growDown cP_growDown 3 none
abbrev wP_growDown : List Cond := kP_growDown :: bw
theorem qP_growDown : yP_growDown.cls = RP ∧ yP_growDown.cls ≠ "java/lang/invoke/MethodHandle" ∧ yP_growDown.cls ≠ "java/lang/invoke/VarHandle" ∧ (parseMethodDescriptor yP_growDown.desc).map (fun d => d.parameters.length) = some 1 := by decide +kernel
abbrev cL_shrink : ByteArray := method_7_code
def yL_shrink : MethodName := ⟨RL, "shrink", "(LToneMixer;II[J)I"⟩
abbrev kL_shrink : Cond := .codeWith yL_shrink cL_shrink 5 (some .int) [(0, 17, 20, 13)]
abbrev wL_shrink : List Cond := kL_shrink :: bw
theorem qL_shrink : yL_shrink.cls = RL ∧ yL_shrink.cls ≠ "java/lang/invoke/MethodHandle" ∧ yL_shrink.cls ≠ "java/lang/invoke/VarHandle" ∧ (parseMethodDescriptor yL_shrink.desc).map (fun d => d.parameters.length) = some 4 := by decide +kernel
abbrev cT_shrink : ByteArray := prog_1_method_6_code
def yT_shrink : MethodName := ⟨RT, "shrink", "(II)Z"⟩
abbrev kT_shrink : Cond := .code yT_shrink cT_shrink 4 (some .boolean)
abbrev wT_shrink : List Cond := kT_shrink :: bw
theorem qT_shrink : yT_shrink.cls = RT ∧ yT_shrink.cls ≠ "java/lang/invoke/MethodHandle" ∧ yT_shrink.cls ≠ "java/lang/invoke/VarHandle" ∧ (parseMethodDescriptor yT_shrink.desc).map (fun d => d.parameters.length) = some 2 := by decide +kernel
abbrev cP_shrinkAcross : ByteArray := prog_2_method_9_code
def yP_shrinkAcross : MethodName := ⟨RP, "shrinkAcross", "()V"⟩
abbrev kP_shrinkAcross : Cond := .code yP_shrinkAcross cP_shrinkAcross 2 none
abbrev wP_shrinkAcross : List Cond := kP_shrinkAcross :: bw
theorem qP_shrinkAcross : yP_shrinkAcross.cls = RP ∧ yP_shrinkAcross.cls ≠ "java/lang/invoke/MethodHandle" ∧ yP_shrinkAcross.cls ≠ "java/lang/invoke/VarHandle" ∧ (parseMethodDescriptor yP_shrinkAcross.desc).map (fun d => d.parameters.length) = some 0 := by decide +kernel
abbrev cP_shrinkLine : ByteArray := prog_2_method_11_code
def yP_shrinkLine : MethodName := ⟨RP, "shrinkLine", "(III)V"⟩
abbrev kP_shrinkLine : Cond := .code yP_shrinkLine cP_shrinkLine 7 none
abbrev wP_shrinkLine : List Cond := kP_shrinkLine :: bw
theorem qP_shrinkLine : yP_shrinkLine.cls = RP ∧ yP_shrinkLine.cls ≠ "java/lang/invoke/MethodHandle" ∧ yP_shrinkLine.cls ≠ "java/lang/invoke/VarHandle" ∧ (parseMethodDescriptor yP_shrinkLine.desc).map (fun d => d.parameters.length) = some 3 := by decide +kernel
abbrev cP_half : ByteArray := prog_2_method_14_code
def yP_half : MethodName := ⟨RP, "half", "(I)I"⟩
abbrev kP_half : Cond := .code yP_half cP_half 1 (some .int)
abbrev wP_half : List Cond := kP_half :: bw
theorem qP_half : yP_half.cls = RP ∧ yP_half.cls ≠ "java/lang/invoke/MethodHandle" ∧ yP_half.cls ≠ "java/lang/invoke/VarHandle" ∧ (parseMethodDescriptor yP_half.desc).map (fun d => d.parameters.length) = some 1 := by decide +kernel
abbrev cP_shrinkDown : ByteArray := prog_2_method_10_code
def yP_shrinkDown : MethodName := ⟨RP, "shrinkDown", "()V"⟩
abbrev kP_shrinkDown : Cond := .code yP_shrinkDown cP_shrinkDown 2 none
abbrev wP_shrinkDown : List Cond := kP_shrinkDown :: bw
theorem qP_shrinkDown : yP_shrinkDown.cls = RP ∧ yP_shrinkDown.cls ≠ "java/lang/invoke/MethodHandle" ∧ yP_shrinkDown.cls ≠ "java/lang/invoke/VarHandle" ∧ (parseMethodDescriptor yP_shrinkDown.desc).map (fun d => d.parameters.length) = some 0 := by decide +kernel
abbrev cP_shrinkBoth : ByteArray := prog_2_method_12_code
def yP_shrinkBoth : MethodName := ⟨RP, "shrinkBoth", "()V"⟩
abbrev kP_shrinkBoth : Cond := .code yP_shrinkBoth cP_shrinkBoth 3 none
abbrev wP_shrinkBoth : List Cond := kP_shrinkBoth :: bw
theorem qP_shrinkBoth : yP_shrinkBoth.cls = RP ∧ yP_shrinkBoth.cls ≠ "java/lang/invoke/MethodHandle" ∧ yP_shrinkBoth.cls ≠ "java/lang/invoke/VarHandle" ∧ (parseMethodDescriptor yP_shrinkBoth.desc).map (fun d => d.parameters.length) = some 0 := by decide +kernel
abbrev cP_sumOfFour : ByteArray := prog_2_method_13_code
def yP_sumOfFour : MethodName := ⟨RP, "sumOfFour", "(II)I"⟩
abbrev kP_sumOfFour : Cond := .code yP_sumOfFour cP_sumOfFour 5 (some .int)
abbrev wP_sumOfFour : List Cond := kP_sumOfFour :: bw
theorem qP_sumOfFour : yP_sumOfFour.cls = RP ∧ yP_sumOfFour.cls ≠ "java/lang/invoke/MethodHandle" ∧ yP_sumOfFour.cls ≠ "java/lang/invoke/VarHandle" ∧ (parseMethodDescriptor yP_sumOfFour.desc).map (fun d => d.parameters.length) = some 2 := by decide +kernel
abbrev cL_copy : ByteArray := method_8_code
def yL_copy : MethodName := ⟨RL, "copy", "(LToneMixer;II)I"⟩
abbrev kL_copy : Cond := .codeWith yL_copy cL_copy 4 (some .int) [(0, 6, 9, 13)]
abbrev wL_copy : List Cond := kL_copy :: bw
theorem qL_copy : yL_copy.cls = RL ∧ yL_copy.cls ≠ "java/lang/invoke/MethodHandle" ∧ yL_copy.cls ≠ "java/lang/invoke/VarHandle" ∧ (parseMethodDescriptor yL_copy.desc).map (fun d => d.parameters.length) = some 3 := by decide +kernel
abbrev cT_copy : ByteArray := prog_1_method_8_code
def yT_copy : MethodName := ⟨RT, "copy", "(II)V"⟩
abbrev kT_copy : Cond := .code yT_copy cT_copy 5 none
abbrev wT_copy : List Cond := kT_copy :: bw
theorem qT_copy : yT_copy.cls = RT ∧ yT_copy.cls ≠ "java/lang/invoke/MethodHandle" ∧ yT_copy.cls ≠ "java/lang/invoke/VarHandle" ∧ (parseMethodDescriptor yT_copy.desc).map (fun d => d.parameters.length) = some 2 := by decide +kernel
abbrev cP_becomeLike : ByteArray := prog_2_method_5_code
def yP_becomeLike : MethodName := ⟨RP, "becomeLike", "(LToneMixer$Plane;)V"⟩
abbrev kP_becomeLike : Cond := .code yP_becomeLike cP_becomeLike 2 none
abbrev wP_becomeLike : List Cond := kP_becomeLike :: bw
theorem qP_becomeLike : yP_becomeLike.cls = RP ∧ yP_becomeLike.cls ≠ "java/lang/invoke/MethodHandle" ∧ yP_becomeLike.cls ≠ "java/lang/invoke/VarHandle" ∧ (parseMethodDescriptor yP_becomeLike.desc).map (fun d => d.parameters.length) = some 1 := by decide +kernel
abbrev cL_extend : ByteArray := method_9_code
def yL_extend : MethodName := ⟨RL, "extend", "(LToneMixer;III[J)I"⟩
abbrev kL_extend : Cond := .codeWith yL_extend cL_extend 6 (some .int) [(0, 19, 22, 13)]
abbrev wL_extend : List Cond := kL_extend :: bw
theorem qL_extend : yL_extend.cls = RL ∧ yL_extend.cls ≠ "java/lang/invoke/MethodHandle" ∧ yL_extend.cls ≠ "java/lang/invoke/VarHandle" ∧ (parseMethodDescriptor yL_extend.desc).map (fun d => d.parameters.length) = some 5 := by decide +kernel
abbrev cT_extend : ByteArray := prog_1_method_9_code
def yT_extend : MethodName := ⟨RT, "extend", "(III)Z"⟩
abbrev kT_extend : Cond := .code yT_extend cT_extend 5 (some .boolean)
abbrev wT_extend : List Cond := kT_extend :: bw
theorem qT_extend : yT_extend.cls = RT ∧ yT_extend.cls ≠ "java/lang/invoke/MethodHandle" ∧ yT_extend.cls ≠ "java/lang/invoke/VarHandle" ∧ (parseMethodDescriptor yT_extend.desc).map (fun d => d.parameters.length) = some 3 := by decide +kernel
abbrev cP_widen : ByteArray := prog_2_method_15_code
def yP_widen : MethodName := ⟨RP, "widen", "(I)V"⟩
abbrev kP_widen : Cond := .code yP_widen cP_widen 5 none
abbrev wP_widen : List Cond := kP_widen :: bw
theorem qP_widen : yP_widen.cls = RP ∧ yP_widen.cls ≠ "java/lang/invoke/MethodHandle" ∧ yP_widen.cls ≠ "java/lang/invoke/VarHandle" ∧ (parseMethodDescriptor yP_widen.desc).map (fun d => d.parameters.length) = some 1 := by decide +kernel
abbrev cP_deepen : ByteArray := prog_2_method_16_code
def yP_deepen : MethodName := ⟨RP, "deepen", "(I)V"⟩
abbrev kP_deepen : Cond := .code yP_deepen cP_deepen 5 none
abbrev wP_deepen : List Cond := kP_deepen :: bw
theorem qP_deepen : yP_deepen.cls = RP ∧ yP_deepen.cls ≠ "java/lang/invoke/MethodHandle" ∧ yP_deepen.cls ≠ "java/lang/invoke/VarHandle" ∧ (parseMethodDescriptor yP_deepen.desc).map (fun d => d.parameters.length) = some 1 := by decide +kernel
abbrev cL_cut : ByteArray := method_10_code
def yL_cut : MethodName := ⟨RL, "cut", "(LToneMixer;III[J)I"⟩
abbrev kL_cut : Cond := .codeWith yL_cut cL_cut 6 (some .int) [(0, 19, 22, 13)]
abbrev wL_cut : List Cond := kL_cut :: bw
theorem qL_cut : yL_cut.cls = RL ∧ yL_cut.cls ≠ "java/lang/invoke/MethodHandle" ∧ yL_cut.cls ≠ "java/lang/invoke/VarHandle" ∧ (parseMethodDescriptor yL_cut.desc).map (fun d => d.parameters.length) = some 5 := by decide +kernel
abbrev cT_cut : ByteArray := prog_1_method_10_code
def yT_cut : MethodName := ⟨RT, "cut", "(III)Z"⟩
abbrev kT_cut : Cond := .code yT_cut cT_cut 5 (some .boolean)
abbrev wT_cut : List Cond := kT_cut :: bw
theorem qT_cut : yT_cut.cls = RT ∧ yT_cut.cls ≠ "java/lang/invoke/MethodHandle" ∧ yT_cut.cls ≠ "java/lang/invoke/VarHandle" ∧ (parseMethodDescriptor yT_cut.desc).map (fun d => d.parameters.length) = some 3 := by decide +kernel
abbrev cL_at : ByteArray := method_11_code
def yL_at : MethodName := ⟨RL, "at", "(LToneMixer;III[J)I"⟩
abbrev kL_at : Cond := .codeWith yL_at cL_at 6 (some .int) [(0, 12, 15, 13)]
abbrev wL_at : List Cond := kL_at :: bw
theorem qL_at : yL_at.cls = RL ∧ yL_at.cls ≠ "java/lang/invoke/MethodHandle" ∧ yL_at.cls ≠ "java/lang/invoke/VarHandle" ∧ (parseMethodDescriptor yL_at.desc).map (fun d => d.parameters.length) = some 5 := by decide +kernel
abbrev cT_at : ByteArray := prog_1_method_11_code
def yT_at : MethodName := ⟨RT, "at", "(III)I"⟩
abbrev kT_at : Cond := .code yT_at cT_at 4 (some .int)
abbrev wT_at : List Cond := kT_at :: bw
theorem qT_at : yT_at.cls = RT ∧ yT_at.cls ≠ "java/lang/invoke/MethodHandle" ∧ yT_at.cls ≠ "java/lang/invoke/VarHandle" ∧ (parseMethodDescriptor yT_at.desc).map (fun d => d.parameters.length) = some 3 := by decide +kernel
abbrev cL_eight : ByteArray := method_12_code
def yL_eight : MethodName := ⟨RL, "eight", "(LToneMixer;III[J)I"⟩
abbrev kL_eight : Cond := .codeWith yL_eight cL_eight 6 (some .int) [(0, 11, 14, 13)]
abbrev wL_eight : List Cond := kL_eight :: bw
theorem qL_eight : yL_eight.cls = RL ∧ yL_eight.cls ≠ "java/lang/invoke/MethodHandle" ∧ yL_eight.cls ≠ "java/lang/invoke/VarHandle" ∧ (parseMethodDescriptor yL_eight.desc).map (fun d => d.parameters.length) = some 5 := by decide +kernel
abbrev cT_eight : ByteArray := prog_1_method_12_code
def yT_eight : MethodName := ⟨RT, "eight", "(III)J"⟩
abbrev kT_eight : Cond := .code yT_eight cT_eight 8 (some .long)
abbrev wT_eight : List Cond := kT_eight :: bw
theorem qT_eight : yT_eight.cls = RT ∧ yT_eight.cls ≠ "java/lang/invoke/MethodHandle" ∧ yT_eight.cls ≠ "java/lang/invoke/VarHandle" ∧ (parseMethodDescriptor yT_eight.desc).map (fun d => d.parameters.length) = some 3 := by decide +kernel
abbrev cL_apart : ByteArray := method_13_code
def yL_apart : MethodName := ⟨RL, "apart", "(LToneMixer;II[J)I"⟩
abbrev kL_apart : Cond := .codeWith yL_apart cL_apart 5 (some .int) [(0, 10, 13, 13)]
abbrev wL_apart : List Cond := kL_apart :: bw
theorem qL_apart : yL_apart.cls = RL ∧ yL_apart.cls ≠ "java/lang/invoke/MethodHandle" ∧ yL_apart.cls ≠ "java/lang/invoke/VarHandle" ∧ (parseMethodDescriptor yL_apart.desc).map (fun d => d.parameters.length) = some 4 := by decide +kernel
abbrev cT_apart : ByteArray := prog_1_method_13_code
def yT_apart : MethodName := ⟨RT, "apart", "(II)I"⟩
abbrev kT_apart : Cond := .code yT_apart cT_apart 5 (some .int)
abbrev wT_apart : List Cond := kT_apart :: bw
theorem qT_apart : yT_apart.cls = RT ∧ yT_apart.cls ≠ "java/lang/invoke/MethodHandle" ∧ yT_apart.cls ≠ "java/lang/invoke/VarHandle" ∧ (parseMethodDescriptor yT_apart.desc).map (fun d => d.parameters.length) = some 2 := by decide +kernel
abbrev cP_greatestDifference : ByteArray := prog_2_method_17_code
def yP_greatestDifference : MethodName := ⟨RP, "greatestDifference", "(LToneMixer$Plane;)I"⟩
abbrev kP_greatestDifference : Cond := .code yP_greatestDifference cP_greatestDifference 6 (some .int)
abbrev wP_greatestDifference : List Cond := kP_greatestDifference :: bw
theorem qP_greatestDifference : yP_greatestDifference.cls = RP ∧ yP_greatestDifference.cls ≠ "java/lang/invoke/MethodHandle" ∧ yP_greatestDifference.cls ≠ "java/lang/invoke/VarHandle" ∧ (parseMethodDescriptor yP_greatestDifference.desc).map (fun d => d.parameters.length) = some 1 := by decide +kernel
abbrev cL_look : ByteArray := method_14_code
def yL_look : MethodName := ⟨RL, "look", "(LToneMixer;II[J)I"⟩
abbrev kL_look : Cond := .codeWith yL_look cL_look 5 (some .int) [(0, 10, 13, 13)]
abbrev wL_look : List Cond := kL_look :: bw
theorem qL_look : yL_look.cls = RL ∧ yL_look.cls ≠ "java/lang/invoke/MethodHandle" ∧ yL_look.cls ≠ "java/lang/invoke/VarHandle" ∧ (parseMethodDescriptor yL_look.desc).map (fun d => d.parameters.length) = some 4 := by decide +kernel
abbrev cT_look : ByteArray := prog_1_method_14_code
def yT_look : MethodName := ⟨RT, "look", "(II)I"⟩
abbrev kT_look : Cond := .code yT_look cT_look 4 (some .int)
abbrev wT_look : List Cond := kT_look :: bw
theorem qT_look : yT_look.cls = RT ∧ yT_look.cls ≠ "java/lang/invoke/MethodHandle" ∧ yT_look.cls ≠ "java/lang/invoke/VarHandle" ∧ (parseMethodDescriptor yT_look.desc).map (fun d => d.parameters.length) = some 2 := by decide +kernel
abbrev cP_sum : ByteArray := prog_2_method_18_code
def yP_sum : MethodName := ⟨RP, "sum", "()I"⟩
abbrev kP_sum : Cond := .code yP_sum cP_sum 4 (some .int)
abbrev wP_sum : List Cond := kP_sum :: bw
theorem qP_sum : yP_sum.cls = RP ∧ yP_sum.cls ≠ "java/lang/invoke/MethodHandle" ∧ yP_sum.cls ≠ "java/lang/invoke/VarHandle" ∧ (parseMethodDescriptor yP_sum.desc).map (fun d => d.parameters.length) = some 0 := by decide +kernel
abbrev cP_least : ByteArray := prog_2_method_19_code
def yP_least : MethodName := ⟨RP, "least", "()I"⟩
abbrev kP_least : Cond := .code yP_least cP_least 4 (some .int)
abbrev wP_least : List Cond := kP_least :: bw
theorem qP_least : yP_least.cls = RP ∧ yP_least.cls ≠ "java/lang/invoke/MethodHandle" ∧ yP_least.cls ≠ "java/lang/invoke/VarHandle" ∧ (parseMethodDescriptor yP_least.desc).map (fun d => d.parameters.length) = some 0 := by decide +kernel
abbrev cP_greatest : ByteArray := prog_2_method_20_code
def yP_greatest : MethodName := ⟨RP, "greatest", "()I"⟩
abbrev kP_greatest : Cond := .code yP_greatest cP_greatest 4 (some .int)
abbrev wP_greatest : List Cond := kP_greatest :: bw
theorem qP_greatest : yP_greatest.cls = RP ∧ yP_greatest.cls ≠ "java/lang/invoke/MethodHandle" ∧ yP_greatest.cls ≠ "java/lang/invoke/VarHandle" ∧ (parseMethodDescriptor yP_greatest.desc).map (fun d => d.parameters.length) = some 0 := by decide +kernel
abbrev cM_init : ByteArray := prog_4_method_1_code
def yM_init : MethodName := ⟨RM, "<init>", "()V"⟩
abbrev kM_init : Cond := .code yM_init cM_init 2 none
abbrev wM_init : List Cond := kM_init :: bw
theorem qM_init : yM_init.cls = RM ∧ yM_init.cls ≠ "java/lang/invoke/MethodHandle" ∧ yM_init.cls ≠ "java/lang/invoke/VarHandle" ∧ (parseMethodDescriptor yM_init.desc).map (fun d => d.parameters.length) = some 0 := by decide +kernel
abbrev cM_thrown : ByteArray := prog_4_method_2_code
def yM_thrown : MethodName := ⟨RM, "thrown", "()I"⟩
abbrev kM_thrown : Cond := .code yM_thrown cM_thrown 1 (some .int)
abbrev wM_thrown : List Cond := kM_thrown :: bw
theorem qM_thrown : yM_thrown.cls = RM ∧ yM_thrown.cls ≠ "java/lang/invoke/MethodHandle" ∧ yM_thrown.cls ≠ "java/lang/invoke/VarHandle" ∧ (parseMethodDescriptor yM_thrown.desc).map (fun d => d.parameters.length) = some 0 := by decide +kernel
abbrev cM_size : ByteArray := prog_4_method_11_code
def yM_size : MethodName := ⟨RM, "size", "(III)V"⟩
abbrev kM_size : Cond := .code yM_size cM_size 5 none
abbrev wM_size : List Cond := kM_size :: bw
theorem qM_size : yM_size.cls = RM ∧ yM_size.cls ≠ "java/lang/invoke/MethodHandle" ∧ yM_size.cls ≠ "java/lang/invoke/VarHandle" ∧ (parseMethodDescriptor yM_size.desc).map (fun d => d.parameters.length) = some 3 := by decide +kernel
abbrev cM_isPlane : ByteArray := prog_4_method_5_code
def yM_isPlane : MethodName := ⟨RM, "isPlane", "(I)Z"⟩
abbrev kM_isPlane : Cond := .code yM_isPlane cM_isPlane 1 (some .boolean)
abbrev wM_isPlane : List Cond := kM_isPlane :: bw
theorem qM_isPlane : yM_isPlane.cls = RM ∧ yM_isPlane.cls ≠ "java/lang/invoke/MethodHandle" ∧ yM_isPlane.cls ≠ "java/lang/invoke/VarHandle" ∧ (parseMethodDescriptor yM_isPlane.desc).map (fun d => d.parameters.length) = some 1 := by decide +kernel
abbrev cM_in : ByteArray := prog_4_method_4_code
def yM_in : MethodName := ⟨RM, "in", "(III)Z"⟩
abbrev kM_in : Cond := .code yM_in cM_in 3 (some .boolean)
abbrev wM_in : List Cond := kM_in :: bw
theorem qM_in : yM_in.cls = RM ∧ yM_in.cls ≠ "java/lang/invoke/MethodHandle" ∧ yM_in.cls ≠ "java/lang/invoke/VarHandle" ∧ (parseMethodDescriptor yM_in.desc).map (fun d => d.parameters.length) = some 3 := by decide +kernel
abbrev cM_goes : ByteArray := prog_4_method_3_code
def yM_goes : MethodName := ⟨RM, "goes", "(ZZ)Z"⟩
abbrev kM_goes : Cond := .code yM_goes cM_goes 3 (some .boolean)
abbrev wM_goes : List Cond := kM_goes :: bw
theorem qM_goes : yM_goes.cls = RM ∧ yM_goes.cls ≠ "java/lang/invoke/MethodHandle" ∧ yM_goes.cls ≠ "java/lang/invoke/VarHandle" ∧ (parseMethodDescriptor yM_goes.desc).map (fun d => d.parameters.length) = some 2 := by decide +kernel
abbrev cM_put : ByteArray := prog_4_method_12_code
def yM_put : MethodName := ⟨RM, "put", "(IIII)V"⟩
abbrev kM_put : Cond := .code yM_put cM_put 5 none
abbrev wM_put : List Cond := kM_put :: bw
theorem qM_put : yM_put.cls = RM ∧ yM_put.cls ≠ "java/lang/invoke/MethodHandle" ∧ yM_put.cls ≠ "java/lang/invoke/VarHandle" ∧ (parseMethodDescriptor yM_put.desc).map (fun d => d.parameters.length) = some 4 := by decide +kernel
abbrev cM_isSample : ByteArray := prog_4_method_6_code
def yM_isSample : MethodName := ⟨RM, "isSample", "(III)Z"⟩
abbrev kM_isSample : Cond := .code yM_isSample cM_isSample 4 (some .boolean)
abbrev wM_isSample : List Cond := kM_isSample :: bw
theorem qM_isSample : yM_isSample.cls = RM ∧ yM_isSample.cls ≠ "java/lang/invoke/MethodHandle" ∧ yM_isSample.cls ≠ "java/lang/invoke/VarHandle" ∧ (parseMethodDescriptor yM_isSample.desc).map (fun d => d.parameters.length) = some 3 := by decide +kernel
abbrev cM_cell : ByteArray := prog_4_method_7_code
def yM_cell : MethodName := ⟨RM, "cell", "(III)I"⟩
abbrev kM_cell : Cond := .code yM_cell cM_cell 3 (some .int)
abbrev wM_cell : List Cond := kM_cell :: bw
theorem qM_cell : yM_cell.cls = RM ∧ yM_cell.cls ≠ "java/lang/invoke/MethodHandle" ∧ yM_cell.cls ≠ "java/lang/invoke/VarHandle" ∧ (parseMethodDescriptor yM_cell.desc).map (fun d => d.parameters.length) = some 3 := by decide +kernel
abbrev cM_row : ByteArray := prog_4_method_13_code
def yM_row : MethodName := ⟨RM, "row", "(IIIJ)V"⟩
abbrev kM_row : Cond := .code yM_row cM_row 7 none
abbrev wM_row : List Cond := kM_row :: bw
theorem qM_row : yM_row.cls = RM ∧ yM_row.cls ≠ "java/lang/invoke/MethodHandle" ∧ yM_row.cls ≠ "java/lang/invoke/VarHandle" ∧ (parseMethodDescriptor yM_row.desc).map (fun d => d.parameters.length) = some 4 := by decide +kernel
abbrev cM_grow : ByteArray := prog_4_method_16_code
def yM_grow : MethodName := ⟨RM, "grow", "(II)Z"⟩
abbrev kM_grow : Cond := .code yM_grow cM_grow 5 (some .boolean)
abbrev wM_grow : List Cond := kM_grow :: bw
theorem qM_grow : yM_grow.cls = RM ∧ yM_grow.cls ≠ "java/lang/invoke/MethodHandle" ∧ yM_grow.cls ≠ "java/lang/invoke/VarHandle" ∧ (parseMethodDescriptor yM_grow.desc).map (fun d => d.parameters.length) = some 2 := by decide +kernel
abbrev cM_across : ByteArray := prog_4_method_14_code
def yM_across : MethodName := ⟨RM, "across", "(IZ)V"⟩
abbrev kM_across : Cond := .code yM_across cM_across 6 none
abbrev wM_across : List Cond := kM_across :: bw
theorem qM_across : yM_across.cls = RM ∧ yM_across.cls ≠ "java/lang/invoke/MethodHandle" ∧ yM_across.cls ≠ "java/lang/invoke/VarHandle" ∧ (parseMethodDescriptor yM_across.desc).map (fun d => d.parameters.length) = some 2 := by decide +kernel
abbrev cM_keep : ByteArray := prog_4_method_9_code
def yM_keep : MethodName := ⟨RM, "keep", "(I)V"⟩
abbrev kM_keep : Cond := .code yM_keep cM_keep 3 none
abbrev wM_keep : List Cond := kM_keep :: bw
theorem qM_keep : yM_keep.cls = RM ∧ yM_keep.cls ≠ "java/lang/invoke/MethodHandle" ∧ yM_keep.cls ≠ "java/lang/invoke/VarHandle" ∧ (parseMethodDescriptor yM_keep.desc).map (fun d => d.parameters.length) = some 1 := by decide +kernel
abbrev cM_was : ByteArray := prog_4_method_10_code
def yM_was : MethodName := ⟨RM, "was", "(II)I"⟩
abbrev kM_was : Cond := .code yM_was cM_was 5 (some .int)
abbrev wM_was : List Cond := kM_was :: bw
theorem qM_was : yM_was.cls = RM ∧ yM_was.cls ≠ "java/lang/invoke/MethodHandle" ∧ yM_was.cls ≠ "java/lang/invoke/VarHandle" ∧ (parseMethodDescriptor yM_was.desc).map (fun d => d.parameters.length) = some 2 := by decide +kernel
abbrev cM_down : ByteArray := prog_4_method_15_code
def yM_down : MethodName := ⟨RM, "down", "(IZ)V"⟩
abbrev kM_down : Cond := .code yM_down cM_down 6 none
abbrev wM_down : List Cond := kM_down :: bw
theorem qM_down : yM_down.cls = RM ∧ yM_down.cls ≠ "java/lang/invoke/MethodHandle" ∧ yM_down.cls ≠ "java/lang/invoke/VarHandle" ∧ (parseMethodDescriptor yM_down.desc).map (fun d => d.parameters.length) = some 2 := by decide +kernel
abbrev cM_shrink : ByteArray := prog_4_method_17_code
def yM_shrink : MethodName := ⟨RM, "shrink", "(II)Z"⟩
abbrev kM_shrink : Cond := .code yM_shrink cM_shrink 6 (some .boolean)
abbrev wM_shrink : List Cond := kM_shrink :: bw
theorem qM_shrink : yM_shrink.cls = RM ∧ yM_shrink.cls ≠ "java/lang/invoke/MethodHandle" ∧ yM_shrink.cls ≠ "java/lang/invoke/VarHandle" ∧ (parseMethodDescriptor yM_shrink.desc).map (fun d => d.parameters.length) = some 2 := by decide +kernel
abbrev cM_mix : ByteArray := prog_4_method_22_code
def yM_mix : MethodName := ⟨RM, "mix", "(I)Z"⟩
abbrev kM_mix : Cond := .code yM_mix cM_mix 2 (some .boolean)
abbrev wM_mix : List Cond := kM_mix :: bw
theorem qM_mix : yM_mix.cls = RM ∧ yM_mix.cls ≠ "java/lang/invoke/MethodHandle" ∧ yM_mix.cls ≠ "java/lang/invoke/VarHandle" ∧ (parseMethodDescriptor yM_mix.desc).map (fun d => d.parameters.length) = some 1 := by decide +kernel
abbrev cM_isSame : ByteArray := prog_4_method_21_code
def yM_isSame : MethodName := ⟨RM, "isSame", "(II)Z"⟩
abbrev kM_isSame : Cond := .code yM_isSame cM_isSame 3 (some .boolean)
abbrev wM_isSame : List Cond := kM_isSame :: bw
theorem qM_isSame : yM_isSame.cls = RM ∧ yM_isSame.cls ≠ "java/lang/invoke/MethodHandle" ∧ yM_isSame.cls ≠ "java/lang/invoke/VarHandle" ∧ (parseMethodDescriptor yM_isSame.desc).map (fun d => d.parameters.length) = some 2 := by decide +kernel
abbrev cM_mixAll : ByteArray := prog_4_method_20_code
def yM_mixAll : MethodName := ⟨RM, "mixAll", "(I)V"⟩
abbrev kM_mixAll : Cond := .code yM_mixAll cM_mixAll 10 none
abbrev wM_mixAll : List Cond := kM_mixAll :: bw
theorem qM_mixAll : yM_mixAll.cls = RM ∧ yM_mixAll.cls ≠ "java/lang/invoke/MethodHandle" ∧ yM_mixAll.cls ≠ "java/lang/invoke/VarHandle" ∧ (parseMethodDescriptor yM_mixAll.desc).map (fun d => d.parameters.length) = some 1 := by decide +kernel
abbrev cM_mixed : ByteArray := prog_4_method_19_code
def yM_mixed : MethodName := ⟨RM, "mixed", "(IIIIII)I"⟩
abbrev kM_mixed : Cond := .code yM_mixed cM_mixed 8 (some .int)
abbrev wM_mixed : List Cond := kM_mixed :: bw
theorem qM_mixed : yM_mixed.cls = RM ∧ yM_mixed.cls ≠ "java/lang/invoke/MethodHandle" ∧ yM_mixed.cls ≠ "java/lang/invoke/VarHandle" ∧ (parseMethodDescriptor yM_mixed.desc).map (fun d => d.parameters.length) = some 6 := by decide +kernel
abbrev cM_limit : ByteArray := prog_4_method_8_code
def yM_limit : MethodName := ⟨RM, "limit", "(I)I"⟩
abbrev kM_limit : Cond := .code yM_limit cM_limit 1 (some .int)
abbrev wM_limit : List Cond := kM_limit :: bw
theorem qM_limit : yM_limit.cls = RM ∧ yM_limit.cls ≠ "java/lang/invoke/MethodHandle" ∧ yM_limit.cls ≠ "java/lang/invoke/VarHandle" ∧ (parseMethodDescriptor yM_limit.desc).map (fun d => d.parameters.length) = some 1 := by decide +kernel
abbrev cM_grey : ByteArray := prog_4_method_18_code
def yM_grey : MethodName := ⟨RM, "grey", "(III)I"⟩
abbrev kM_grey : Cond := .code yM_grey cM_grey 3 (some .int)
abbrev wM_grey : List Cond := kM_grey :: bw
theorem qM_grey : yM_grey.cls = RM ∧ yM_grey.cls ≠ "java/lang/invoke/MethodHandle" ∧ yM_grey.cls ≠ "java/lang/invoke/VarHandle" ∧ (parseMethodDescriptor yM_grey.desc).map (fun d => d.parameters.length) = some 3 := by decide +kernel
abbrev cM_copy : ByteArray := prog_4_method_23_code
def yM_copy : MethodName := ⟨RM, "copy", "(II)V"⟩
abbrev kM_copy : Cond := .code yM_copy cM_copy 4 none
abbrev wM_copy : List Cond := kM_copy :: bw
theorem qM_copy : yM_copy.cls = RM ∧ yM_copy.cls ≠ "java/lang/invoke/MethodHandle" ∧ yM_copy.cls ≠ "java/lang/invoke/VarHandle" ∧ (parseMethodDescriptor yM_copy.desc).map (fun d => d.parameters.length) = some 2 := by decide +kernel
abbrev cM_extend : ByteArray := prog_4_method_24_code
def yM_extend : MethodName := ⟨RM, "extend", "(III)Z"⟩
abbrev kM_extend : Cond := .code yM_extend cM_extend 6 (some .boolean)
abbrev wM_extend : List Cond := kM_extend :: bw
theorem qM_extend : yM_extend.cls = RM ∧ yM_extend.cls ≠ "java/lang/invoke/MethodHandle" ∧ yM_extend.cls ≠ "java/lang/invoke/VarHandle" ∧ (parseMethodDescriptor yM_extend.desc).map (fun d => d.parameters.length) = some 3 := by decide +kernel
abbrev cM_cut : ByteArray := prog_4_method_25_code
def yM_cut : MethodName := ⟨RM, "cut", "(III)Z"⟩
abbrev kM_cut : Cond := .code yM_cut cM_cut 4 (some .boolean)
abbrev wM_cut : List Cond := kM_cut :: bw
theorem qM_cut : yM_cut.cls = RM ∧ yM_cut.cls ≠ "java/lang/invoke/MethodHandle" ∧ yM_cut.cls ≠ "java/lang/invoke/VarHandle" ∧ (parseMethodDescriptor yM_cut.desc).map (fun d => d.parameters.length) = some 3 := by decide +kernel
abbrev cM_at : ByteArray := prog_4_method_26_code
def yM_at : MethodName := ⟨RM, "at", "(III)I"⟩
abbrev kM_at : Cond := .code yM_at cM_at 4 (some .int)
abbrev wM_at : List Cond := kM_at :: bw
theorem qM_at : yM_at.cls = RM ∧ yM_at.cls ≠ "java/lang/invoke/MethodHandle" ∧ yM_at.cls ≠ "java/lang/invoke/VarHandle" ∧ (parseMethodDescriptor yM_at.desc).map (fun d => d.parameters.length) = some 3 := by decide +kernel
abbrev cM_eight : ByteArray := prog_4_method_27_code
def yM_eight : MethodName := ⟨RM, "eight", "(III)J"⟩
abbrev kM_eight : Cond := .code yM_eight cM_eight 8 (some .long)
abbrev wM_eight : List Cond := kM_eight :: bw
theorem qM_eight : yM_eight.cls = RM ∧ yM_eight.cls ≠ "java/lang/invoke/MethodHandle" ∧ yM_eight.cls ≠ "java/lang/invoke/VarHandle" ∧ (parseMethodDescriptor yM_eight.desc).map (fun d => d.parameters.length) = some 3 := by decide +kernel
abbrev cM_apart : ByteArray := prog_4_method_28_code
def yM_apart : MethodName := ⟨RM, "apart", "(II)I"⟩
abbrev kM_apart : Cond := .code yM_apart cM_apart 7 (some .int)
abbrev wM_apart : List Cond := kM_apart :: bw
theorem qM_apart : yM_apart.cls = RM ∧ yM_apart.cls ≠ "java/lang/invoke/MethodHandle" ∧ yM_apart.cls ≠ "java/lang/invoke/VarHandle" ∧ (parseMethodDescriptor yM_apart.desc).map (fun d => d.parameters.length) = some 2 := by decide +kernel
abbrev cM_look : ByteArray := prog_4_method_29_code
def yM_look : MethodName := ⟨RM, "look", "(II)I"⟩
abbrev kM_look : Cond := .code yM_look cM_look 9 (some .int)
abbrev wM_look : List Cond := kM_look :: bw
theorem qM_look : yM_look.cls = RM ∧ yM_look.cls ≠ "java/lang/invoke/MethodHandle" ∧ yM_look.cls ≠ "java/lang/invoke/VarHandle" ∧ (parseMethodDescriptor yM_look.desc).map (fun d => d.parameters.length) = some 2 := by decide +kernel
abbrev cL_law : ByteArray := code
def yL_law : MethodName := ⟨RL, "law", "([I)Z"⟩
theorem b_0 : (.initialized RL : Cond) ∈ bw := bwm 0 (by decide +kernel) (by decide +kernel)
theorem b_1 : (.initialized RT : Cond) ∈ bw := bwm 1 (by decide +kernel) (by decide +kernel)
theorem b_2 : (.initialized RP : Cond) ∈ bw := bwm 2 (by decide +kernel) (by decide +kernel)
theorem b_3 : (.initialized RM : Cond) ∈ bw := bwm 3 (by decide +kernel) (by decide +kernel)
theorem b_4 : (.initialized "java/lang/Throwable" : Cond) ∈ bw := bwm 4 (by decide +kernel) (by decide +kernel)
theorem b_5 : (.initialized "java/lang/Exception" : Cond) ∈ bw := bwm 5 (by decide +kernel) (by decide +kernel)
theorem b_6 : (.initialized "java/lang/RuntimeException" : Cond) ∈ bw := bwm 6 (by decide +kernel) (by decide +kernel)
theorem b_7 : (.initialized "java/lang/IndexOutOfBoundsException" : Cond) ∈ bw := bwm 7 (by decide +kernel) (by decide +kernel)
theorem b_8 : (.initialized "java/lang/IllegalArgumentException" : Cond) ∈ bw := bwm 8 (by decide +kernel) (by decide +kernel)
theorem b_9 : (.initialized RA : Cond) ∈ bw := bwm 9 (by decide +kernel) (by decide +kernel)
theorem b_10 : (.initialized "java/lang/Math" : Cond) ∈ bw := bwm 10 (by decide +kernel) (by decide +kernel)
theorem b_11 : (.initialized "java/lang/System" : Cond) ∈ bw := bwm 11 (by decide +kernel) (by decide +kernel)
theorem b_12 : (.classLink RL 8 RT : Cond) ∈ bw := bwm 12 (by decide +kernel) (by decide +kernel)
theorem b_13 : (.instantiable RT 1 : Cond) ∈ bw := bwm 13 (by decide +kernel) (by decide +kernel)
theorem b_14 : (.methodLink RL 58 yT_init : Cond) ∈ bw := bwm 14 (by decide +kernel) (by decide +kernel)
theorem b_15 : (.instanceMethod yT_init : Cond) ∈ bw := bwm 15 (by decide +kernel) (by decide +kernel)
theorem b_16 : (kT_init : Cond) ∈ bw := bwm 16 (by decide +kernel) (by decide +kernel)
theorem b_17 : (.methodLink RT 1 objectInit : Cond) ∈ bw := bwm 17 (by decide +kernel) (by decide +kernel)
theorem b_18 : (.instanceMethod objectInit : Cond) ∈ bw := bwm 18 (by decide +kernel) (by decide +kernel)
theorem b_19 : (.code objectInit ⟨#[0xb1]⟩ 1 none : Cond) ∈ bw := bwm 19 (by decide +kernel) (by decide +kernel)
theorem b_20 : (.classLink RT 9 RP : Cond) ∈ bw := bwm 20 (by decide +kernel) (by decide +kernel)
theorem b_22 : (.instantiable RP 4 : Cond) ∈ bw := bwm 22 (by decide +kernel) (by decide +kernel)
theorem b_24 : (.instanceMethod yP_init : Cond) ∈ bw := bwm 24 (by decide +kernel) (by decide +kernel)
theorem b_25 : (kP_init : Cond) ∈ bw := bwm 25 (by decide +kernel) (by decide +kernel)
theorem b_26 : (.methodLink RP 3 objectInit : Cond) ∈ bw := bwm 26 (by decide +kernel) (by decide +kernel)
theorem b_27 : (.fieldLink RP 9 "ToneMixer$Plane" "samples" "[I" : Cond) ∈ bw := bwm 27 (by decide +kernel) (by decide +kernel)
theorem b_28 : (.fieldLink RT 37 "ToneMixer$Plane" "samples" "[I" : Cond) ∈ bw := bwm 28 (by decide +kernel) (by decide +kernel)
theorem b_29 : (.fieldLink RP 15 "ToneMixer$Plane" "w" "I" : Cond) ∈ bw := bwm 29 (by decide +kernel) (by decide +kernel)
theorem b_30 : (.fieldLink RT 45 "ToneMixer$Plane" "w" "I" : Cond) ∈ bw := bwm 30 (by decide +kernel) (by decide +kernel)
theorem b_31 : (.fieldLink RP 19 "ToneMixer$Plane" "h" "I" : Cond) ∈ bw := bwm 31 (by decide +kernel) (by decide +kernel)
theorem b_32 : (.fieldLink RT 53 "ToneMixer$Plane" "h" "I" : Cond) ∈ bw := bwm 32 (by decide +kernel) (by decide +kernel)
theorem b_33 : (.fieldLink RP 22 "ToneMixer$Plane" "line" "[I" : Cond) ∈ bw := bwm 33 (by decide +kernel) (by decide +kernel)
theorem b_34 : (.laysFinal RP "ToneMixer$Plane" "samples" "[I" : Cond) ∈ bw := bwm 34 (by decide +kernel) (by decide +kernel)
theorem b_36 : (.lays RP "ToneMixer$Plane" "w" "I" : Cond) ∈ bw := bwm 36 (by decide +kernel) (by decide +kernel)
theorem b_38 : (.lays RP "ToneMixer$Plane" "h" "I" : Cond) ∈ bw := bwm 38 (by decide +kernel) (by decide +kernel)
theorem b_40 : (.laysFinal RP "ToneMixer$Plane" "line" "[I" : Cond) ∈ bw := bwm 40 (by decide +kernel) (by decide +kernel)
theorem b_43 : (.arrayClass .int : Cond) ∈ bw := bwm 43 (by decide +kernel) (by decide +kernel)
theorem b_44 : (.fieldLink RT 11 "ToneMixer" "planes" "[LToneMixer$Plane;" : Cond) ∈ bw := bwm 44 (by decide +kernel) (by decide +kernel)
theorem b_45 : (.laysFinal RT "ToneMixer" "planes" "[LToneMixer$Plane;" : Cond) ∈ bw := bwm 45 (by decide +kernel) (by decide +kernel)
theorem b_48 : (.methodLink RL 89 yT_mix : Cond) ∈ bw := bwm 48 (by decide +kernel) (by decide +kernel)
theorem b_49 : (.instanceMethod yT_mix : Cond) ∈ bw := bwm 49 (by decide +kernel) (by decide +kernel)
theorem b_50 : (.selects RT yT_mix yT_mix : Cond) ∈ bw := bwm 50 (by decide +kernel) (by decide +kernel)
theorem b_51 : (kT_mix : Cond) ∈ bw := bwm 51 (by decide +kernel) (by decide +kernel)
theorem b_52 : (.methodLink RT 72 yT_firstAreOfOneSize : Cond) ∈ bw := bwm 52 (by decide +kernel) (by decide +kernel)
theorem b_54 : (.instanceMethod yT_firstAreOfOneSize : Cond) ∈ bw := bwm 54 (by decide +kernel) (by decide +kernel)
theorem b_55 : (kT_firstAreOfOneSize : Cond) ∈ bw := bwm 55 (by decide +kernel) (by decide +kernel)
theorem b_56 : (.methodLink RT 94 yP_isOfSizeOf : Cond) ∈ bw := bwm 56 (by decide +kernel) (by decide +kernel)
theorem b_57 : (.instanceMethod yP_isOfSizeOf : Cond) ∈ bw := bwm 57 (by decide +kernel) (by decide +kernel)
theorem b_58 : (.selects RP yP_isOfSizeOf yP_isOfSizeOf : Cond) ∈ bw := bwm 58 (by decide +kernel) (by decide +kernel)
theorem b_59 : (kP_isOfSizeOf : Cond) ∈ bw := bwm 59 (by decide +kernel) (by decide +kernel)
theorem b_60 : (.methodLink RT 41 yT_placeOf : Cond) ∈ bw := bwm 60 (by decide +kernel) (by decide +kernel)
theorem b_61 : (.static yT_placeOf : Cond) ∈ bw := bwm 61 (by decide +kernel) (by decide +kernel)
theorem b_62 : (kT_placeOf : Cond) ∈ bw := bwm 62 (by decide +kernel) (by decide +kernel)
theorem b_63 : (.methodLink RT 76 yT_mixPlace : Cond) ∈ bw := bwm 63 (by decide +kernel) (by decide +kernel)
theorem b_65 : (.instanceMethod yT_mixPlace : Cond) ∈ bw := bwm 65 (by decide +kernel) (by decide +kernel)
theorem b_66 : (kT_mixPlace : Cond) ∈ bw := bwm 66 (by decide +kernel) (by decide +kernel)
theorem b_67 : (.methodLink RT 119 yT_open : Cond) ∈ bw := bwm 67 (by decide +kernel) (by decide +kernel)
theorem b_69 : (.instanceMethod yT_open : Cond) ∈ bw := bwm 69 (by decide +kernel) (by decide +kernel)
theorem b_70 : (kT_open : Cond) ∈ bw := bwm 70 (by decide +kernel) (by decide +kernel)
theorem b_71 : (.constant RT 134 (91881) : Cond) ∈ bw := bwm 71 (by decide +kernel) (by decide +kernel)
theorem b_72 : (.constant RT 135 (32768) : Cond) ∈ bw := bwm 72 (by decide +kernel) (by decide +kernel)
theorem b_73 : (.methodLink RT 136 yT_shifted : Cond) ∈ bw := bwm 73 (by decide +kernel) (by decide +kernel)
theorem b_74 : (.static yT_shifted : Cond) ∈ bw := bwm 74 (by decide +kernel) (by decide +kernel)
theorem b_75 : (kT_shifted : Cond) ∈ bw := bwm 75 (by decide +kernel) (by decide +kernel)
theorem b_76 : (.methodLink RT 139 yT_limit : Cond) ∈ bw := bwm 76 (by decide +kernel) (by decide +kernel)
theorem b_77 : (.static yT_limit : Cond) ∈ bw := bwm 77 (by decide +kernel) (by decide +kernel)
theorem b_78 : (kT_limit : Cond) ∈ bw := bwm 78 (by decide +kernel) (by decide +kernel)
theorem b_79 : (.methodLink RT 157 Lib.Math.min.name : Cond) ∈ bw := bwm 79 (by decide +kernel) (by decide +kernel)
theorem b_80 : (.static Lib.Math.min.name : Cond) ∈ bw := bwm 80 (by decide +kernel) (by decide +kernel)
theorem b_81 : (.code Lib.Math.min.name Lib.Math.min.code 2 (some .int) : Cond) ∈ bw := bwm 81 (by decide +kernel) (by decide +kernel)
theorem b_82 : (.methodLink RT 162 Lib.Math.max.name : Cond) ∈ bw := bwm 82 (by decide +kernel) (by decide +kernel)
theorem b_83 : (.static Lib.Math.max.name : Cond) ∈ bw := bwm 83 (by decide +kernel) (by decide +kernel)
theorem b_84 : (.code Lib.Math.max.name Lib.Math.max.code 2 (some .int) : Cond) ∈ bw := bwm 84 (by decide +kernel) (by decide +kernel)
theorem b_85 : (.constant RT 142 (46802) : Cond) ∈ bw := bwm 85 (by decide +kernel) (by decide +kernel)
theorem b_86 : (.constant RT 143 (116130) : Cond) ∈ bw := bwm 86 (by decide +kernel) (by decide +kernel)
theorem b_87 : (.methodLink RT 144 yT_setColours : Cond) ∈ bw := bwm 87 (by decide +kernel) (by decide +kernel)
theorem b_89 : (.instanceMethod yT_setColours : Cond) ∈ bw := bwm 89 (by decide +kernel) (by decide +kernel)
theorem b_90 : (kT_setColours : Cond) ∈ bw := bwm 90 (by decide +kernel) (by decide +kernel)
theorem b_91 : (.methodLink RT 122 yT_close : Cond) ∈ bw := bwm 91 (by decide +kernel) (by decide +kernel)
theorem b_93 : (.instanceMethod yT_close : Cond) ∈ bw := bwm 93 (by decide +kernel) (by decide +kernel)
theorem b_94 : (kT_close : Cond) ∈ bw := bwm 94 (by decide +kernel) (by decide +kernel)
theorem b_95 : (.methodLink RT 148 yT_brightness : Cond) ∈ bw := bwm 95 (by decide +kernel) (by decide +kernel)
theorem b_96 : (.static yT_brightness : Cond) ∈ bw := bwm 96 (by decide +kernel) (by decide +kernel)
theorem b_97 : (kT_brightness : Cond) ∈ bw := bwm 97 (by decide +kernel) (by decide +kernel)
theorem b_98 : (.constant RT 156 (38470) : Cond) ∈ bw := bwm 98 (by decide +kernel) (by decide +kernel)
theorem b_99 : (.constant RT 152 (8421375) : Cond) ∈ bw := bwm 99 (by decide +kernel) (by decide +kernel)
theorem b_100 : (.methodLink RT 125 yT_invert : Cond) ∈ bw := bwm 100 (by decide +kernel) (by decide +kernel)
theorem b_102 : (.instanceMethod yT_invert : Cond) ∈ bw := bwm 102 (by decide +kernel) (by decide +kernel)
theorem b_103 : (kT_invert : Cond) ∈ bw := bwm 103 (by decide +kernel) (by decide +kernel)
theorem b_104 : (.methodLink RT 128 yT_darken : Cond) ∈ bw := bwm 104 (by decide +kernel) (by decide +kernel)
theorem b_106 : (.instanceMethod yT_darken : Cond) ∈ bw := bwm 106 (by decide +kernel) (by decide +kernel)
theorem b_107 : (kT_darken : Cond) ∈ bw := bwm 107 (by decide +kernel) (by decide +kernel)
theorem b_108 : (.methodLink RT 153 yT_darkened : Cond) ∈ bw := bwm 108 (by decide +kernel) (by decide +kernel)
theorem b_109 : (.static yT_darkened : Cond) ∈ bw := bwm 109 (by decide +kernel) (by decide +kernel)
theorem b_110 : (kT_darkened : Cond) ∈ bw := bwm 110 (by decide +kernel) (by decide +kernel)
theorem b_111 : (.methodLink RT 131 yT_grey : Cond) ∈ bw := bwm 111 (by decide +kernel) (by decide +kernel)
theorem b_113 : (.instanceMethod yT_grey : Cond) ∈ bw := bwm 113 (by decide +kernel) (by decide +kernel)
theorem b_114 : (kT_grey : Cond) ∈ bw := bwm 114 (by decide +kernel) (by decide +kernel)
theorem b_115 : (.methodLink RL 62 yL_size : Cond) ∈ bw := bwm 115 (by decide +kernel) (by decide +kernel)
theorem b_116 : (.static yL_size : Cond) ∈ bw := bwm 116 (by decide +kernel) (by decide +kernel)
theorem b_117 : (kL_size : Cond) ∈ bw := bwm 117 (by decide +kernel) (by decide +kernel)
theorem b_118 : (.classLink RL 13 "java/lang/IndexOutOfBoundsException" : Cond) ∈ bw := bwm 118 (by decide +kernel) (by decide +kernel)
theorem b_119 : (.classLink RL 15 "java/lang/IllegalArgumentException" : Cond) ∈ bw := bwm 119 (by decide +kernel) (by decide +kernel)
theorem b_120 : (.methodLink RL 7 yT_size : Cond) ∈ bw := bwm 120 (by decide +kernel) (by decide +kernel)
theorem b_121 : (.instanceMethod yT_size : Cond) ∈ bw := bwm 121 (by decide +kernel) (by decide +kernel)
theorem b_122 : (.selects RT yT_size yT_size : Cond) ∈ bw := bwm 122 (by decide +kernel) (by decide +kernel)
theorem b_123 : (kT_size : Cond) ∈ bw := bwm 123 (by decide +kernel) (by decide +kernel)
theorem b_124 : (.methodLink RT 16 yT_planeOf : Cond) ∈ bw := bwm 124 (by decide +kernel) (by decide +kernel)
theorem b_126 : (.instanceMethod yT_planeOf : Cond) ∈ bw := bwm 126 (by decide +kernel) (by decide +kernel)
theorem b_127 : (kT_planeOf : Cond) ∈ bw := bwm 127 (by decide +kernel) (by decide +kernel)
theorem b_128 : (.classLink RT 112 "java/lang/IndexOutOfBoundsException" : Cond) ∈ bw := bwm 128 (by decide +kernel) (by decide +kernel)
theorem b_129 : (.instantiable "java/lang/IndexOutOfBoundsException" 6 : Cond) ∈ bw := bwm 129 (by decide +kernel) (by decide +kernel)
theorem b_137 : (.selects "java/lang/IndexOutOfBoundsException" ⟨"java/lang/Throwable", "fillInStackTrace", "(I)Ljava/lang/Throwable;"⟩ ⟨"java/lang/Throwable", "fillInStackTrace", "(I)Ljava/lang/Throwable;"⟩ : Cond) ∈ bw := bwm 137 (by decide +kernel) (by decide +kernel)
theorem b_149 : (.fieldLink "java/lang/Throwable" 198 "java/lang/Throwable" "backtrace" "Ljava/lang/Object;" : Cond) ∈ bw := bwm 149 (by decide +kernel) (by decide +kernel)
theorem b_151 : (.instanceMethod ⟨"java/lang/Throwable", "<init>", "()V"⟩ : Cond) ∈ bw := bwm 151 (by decide +kernel) (by decide +kernel)
theorem b_153 : (.methodLink "java/lang/Throwable" 1 objectInit : Cond) ∈ bw := bwm 153 (by decide +kernel) (by decide +kernel)
theorem b_154 : (.fieldLink "java/lang/Throwable" 13 "java/lang/Throwable" "UNASSIGNED_STACK" "[Ljava/lang/StackTraceElement;" : Cond) ∈ bw := bwm 154 (by decide +kernel) (by decide +kernel)
theorem b_156 : (.fieldLink "java/lang/Throwable" 20 "java/lang/Throwable" "SUPPRESSED_SENTINEL" "Ljava/util/List;" : Cond) ∈ bw := bwm 156 (by decide +kernel) (by decide +kernel)
theorem b_158 : (.methodLink "java/lang/Throwable" 27 ⟨"java/lang/Throwable", "fillInStackTrace", "()Ljava/lang/Throwable;"⟩ : Cond) ∈ bw := bwm 158 (by decide +kernel) (by decide +kernel)
theorem b_159 : (.instanceMethod ⟨"java/lang/Throwable", "fillInStackTrace", "()Ljava/lang/Throwable;"⟩ : Cond) ∈ bw := bwm 159 (by decide +kernel) (by decide +kernel)
theorem b_161 : (.selects "java/lang/IllegalArgumentException" ⟨"java/lang/Throwable", "fillInStackTrace", "()Ljava/lang/Throwable;"⟩ ⟨"java/lang/Throwable", "fillInStackTrace", "()Ljava/lang/Throwable;"⟩ : Cond) ∈ bw := bwm 161 (by decide +kernel) (by decide +kernel)
theorem b_163 : (.methodLink "java/lang/Throwable" 202 ⟨"java/lang/Throwable", "fillInStackTrace", "(I)Ljava/lang/Throwable;"⟩ : Cond) ∈ bw := bwm 163 (by decide +kernel) (by decide +kernel)
theorem b_166 : (.instantiable "java/lang/Throwable" 6 : Cond) ∈ bw := bwm 166 (by decide +kernel) (by decide +kernel)
theorem b_167 : (.native ⟨"java/lang/Throwable", "fillInStackTrace", "(I)Ljava/lang/Throwable;"⟩ : Cond) ∈ bw := bwm 167 (by decide +kernel) (by decide +kernel)
theorem b_169 : (.methodLink RT 116 ⟨"java/lang/IndexOutOfBoundsException", "<init>", "(Ljava/lang/String;)V"⟩ : Cond) ∈ bw := bwm 169 (by decide +kernel) (by decide +kernel)
theorem b_170 : (.instanceMethod ⟨"java/lang/IndexOutOfBoundsException", "<init>", "(Ljava/lang/String;)V"⟩ : Cond) ∈ bw := bwm 170 (by decide +kernel) (by decide +kernel)
theorem b_172 : (.methodLink "java/lang/IndexOutOfBoundsException" 7 ⟨"java/lang/RuntimeException", "<init>", "(Ljava/lang/String;)V"⟩ : Cond) ∈ bw := bwm 172 (by decide +kernel) (by decide +kernel)
theorem b_173 : (.instanceMethod ⟨"java/lang/RuntimeException", "<init>", "(Ljava/lang/String;)V"⟩ : Cond) ∈ bw := bwm 173 (by decide +kernel) (by decide +kernel)
theorem b_175 : (.methodLink "java/lang/RuntimeException" 7 ⟨"java/lang/Exception", "<init>", "(Ljava/lang/String;)V"⟩ : Cond) ∈ bw := bwm 175 (by decide +kernel) (by decide +kernel)
theorem b_176 : (.instanceMethod ⟨"java/lang/Exception", "<init>", "(Ljava/lang/String;)V"⟩ : Cond) ∈ bw := bwm 176 (by decide +kernel) (by decide +kernel)
theorem b_178 : (.methodLink "java/lang/Exception" 7 ⟨"java/lang/Throwable", "<init>", "(Ljava/lang/String;)V"⟩ : Cond) ∈ bw := bwm 178 (by decide +kernel) (by decide +kernel)
theorem b_182 : (.fieldLink "java/lang/Throwable" 31 "java/lang/Throwable" "detailMessage" "Ljava/lang/String;" : Cond) ∈ bw := bwm 182 (by decide +kernel) (by decide +kernel)
theorem b_183 : (.fieldLink "java/lang/Throwable" 7 "java/lang/Throwable" "cause" "Ljava/lang/Throwable;" : Cond) ∈ bw := bwm 183 (by decide +kernel) (by decide +kernel)
theorem b_184 : (.fieldLink "java/lang/Throwable" 17 "java/lang/Throwable" "stackTrace" "[Ljava/lang/StackTraceElement;" : Cond) ∈ bw := bwm 184 (by decide +kernel) (by decide +kernel)
theorem b_185 : (.fieldLink "java/lang/Throwable" 24 "java/lang/Throwable" "suppressedExceptions" "Ljava/util/List;" : Cond) ∈ bw := bwm 185 (by decide +kernel) (by decide +kernel)
theorem b_194 : (.arrayClass .byte : Cond) ∈ bw := bwm 194 (by decide +kernel) (by decide +kernel)
theorem b_195 : (.classLink RT 20 "java/lang/IllegalArgumentException" : Cond) ∈ bw := bwm 195 (by decide +kernel) (by decide +kernel)
theorem b_196 : (.instantiable "java/lang/IllegalArgumentException" 6 : Cond) ∈ bw := bwm 196 (by decide +kernel) (by decide +kernel)
theorem b_205 : (.methodLink RT 24 ⟨"java/lang/IllegalArgumentException", "<init>", "(Ljava/lang/String;)V"⟩ : Cond) ∈ bw := bwm 205 (by decide +kernel) (by decide +kernel)
theorem b_206 : (.instanceMethod ⟨"java/lang/IllegalArgumentException", "<init>", "(Ljava/lang/String;)V"⟩ : Cond) ∈ bw := bwm 206 (by decide +kernel) (by decide +kernel)
theorem b_208 : (.methodLink "java/lang/IllegalArgumentException" 7 ⟨"java/lang/RuntimeException", "<init>", "(Ljava/lang/String;)V"⟩ : Cond) ∈ bw := bwm 208 (by decide +kernel) (by decide +kernel)
theorem b_211 : (.methodLink RT 27 yP_empty : Cond) ∈ bw := bwm 211 (by decide +kernel) (by decide +kernel)
theorem b_212 : (.instanceMethod yP_empty : Cond) ∈ bw := bwm 212 (by decide +kernel) (by decide +kernel)
theorem b_213 : (.selects RP yP_empty yP_empty : Cond) ∈ bw := bwm 213 (by decide +kernel) (by decide +kernel)
theorem b_214 : (kP_empty : Cond) ∈ bw := bwm 214 (by decide +kernel) (by decide +kernel)
theorem b_215 : (.methodLink RP 25 yA_fill : Cond) ∈ bw := bwm 215 (by decide +kernel) (by decide +kernel)
theorem b_216 : (.static yA_fill : Cond) ∈ bw := bwm 216 (by decide +kernel) (by decide +kernel)
theorem b_217 : (kA_fill : Cond) ∈ bw := bwm 217 (by decide +kernel) (by decide +kernel)
theorem b_218 : (.methodLink RL 72 yL_put : Cond) ∈ bw := bwm 218 (by decide +kernel) (by decide +kernel)
theorem b_219 : (.static yL_put : Cond) ∈ bw := bwm 219 (by decide +kernel) (by decide +kernel)
theorem b_220 : (kL_put : Cond) ∈ bw := bwm 220 (by decide +kernel) (by decide +kernel)
theorem b_221 : (.methodLink RL 17 yT_put : Cond) ∈ bw := bwm 221 (by decide +kernel) (by decide +kernel)
theorem b_222 : (.instanceMethod yT_put : Cond) ∈ bw := bwm 222 (by decide +kernel) (by decide +kernel)
theorem b_223 : (.selects RT yT_put yT_put : Cond) ∈ bw := bwm 223 (by decide +kernel) (by decide +kernel)
theorem b_224 : (kT_put : Cond) ∈ bw := bwm 224 (by decide +kernel) (by decide +kernel)
theorem b_225 : (.methodLink RT 31 yT_planeWith : Cond) ∈ bw := bwm 225 (by decide +kernel) (by decide +kernel)
theorem b_227 : (.instanceMethod yT_planeWith : Cond) ∈ bw := bwm 227 (by decide +kernel) (by decide +kernel)
theorem b_228 : (kT_planeWith : Cond) ∈ bw := bwm 228 (by decide +kernel) (by decide +kernel)
theorem b_229 : (.methodLink RT 90 yP_has : Cond) ∈ bw := bwm 229 (by decide +kernel) (by decide +kernel)
theorem b_230 : (.instanceMethod yP_has : Cond) ∈ bw := bwm 230 (by decide +kernel) (by decide +kernel)
theorem b_231 : (.selects RP yP_has yP_has : Cond) ∈ bw := bwm 231 (by decide +kernel) (by decide +kernel)
theorem b_232 : (kP_has : Cond) ∈ bw := bwm 232 (by decide +kernel) (by decide +kernel)
theorem b_235 : (.methodLink RL 78 yL_row : Cond) ∈ bw := bwm 235 (by decide +kernel) (by decide +kernel)
theorem b_236 : (.static yL_row : Cond) ∈ bw := bwm 236 (by decide +kernel) (by decide +kernel)
theorem b_237 : (kL_row : Cond) ∈ bw := bwm 237 (by decide +kernel) (by decide +kernel)
theorem b_238 : (.methodLink RL 21 yT_row : Cond) ∈ bw := bwm 238 (by decide +kernel) (by decide +kernel)
theorem b_239 : (.instanceMethod yT_row : Cond) ∈ bw := bwm 239 (by decide +kernel) (by decide +kernel)
theorem b_240 : (.selects RT yT_row yT_row : Cond) ∈ bw := bwm 240 (by decide +kernel) (by decide +kernel)
theorem b_241 : (kT_row : Cond) ∈ bw := bwm 241 (by decide +kernel) (by decide +kernel)
theorem b_242 : (.methodLink RT 49 yT_shiftOfByte : Cond) ∈ bw := bwm 242 (by decide +kernel) (by decide +kernel)
theorem b_243 : (.static yT_shiftOfByte : Cond) ∈ bw := bwm 243 (by decide +kernel) (by decide +kernel)
theorem b_244 : (kT_shiftOfByte : Cond) ∈ bw := bwm 244 (by decide +kernel) (by decide +kernel)
theorem b_245 : (.methodLink RL 82 yL_grow : Cond) ∈ bw := bwm 245 (by decide +kernel) (by decide +kernel)
theorem b_246 : (.static yL_grow : Cond) ∈ bw := bwm 246 (by decide +kernel) (by decide +kernel)
theorem b_247 : (kL_grow : Cond) ∈ bw := bwm 247 (by decide +kernel) (by decide +kernel)
theorem b_248 : (.methodLink RL 25 yT_grow : Cond) ∈ bw := bwm 248 (by decide +kernel) (by decide +kernel)
theorem b_249 : (.instanceMethod yT_grow : Cond) ∈ bw := bwm 249 (by decide +kernel) (by decide +kernel)
theorem b_250 : (.selects RT yT_grow yT_grow : Cond) ∈ bw := bwm 250 (by decide +kernel) (by decide +kernel)
theorem b_251 : (kT_grow : Cond) ∈ bw := bwm 251 (by decide +kernel) (by decide +kernel)
theorem b_252 : (.methodLink RT 56 yP_growAcross : Cond) ∈ bw := bwm 252 (by decide +kernel) (by decide +kernel)
theorem b_253 : (.instanceMethod yP_growAcross : Cond) ∈ bw := bwm 253 (by decide +kernel) (by decide +kernel)
theorem b_254 : (.selects RP yP_growAcross yP_growAcross : Cond) ∈ bw := bwm 254 (by decide +kernel) (by decide +kernel)
theorem b_255 : (kP_growAcross : Cond) ∈ bw := bwm 255 (by decide +kernel) (by decide +kernel)
theorem b_257 : (.methodLink RP 41 yP_growLine : Cond) ∈ bw := bwm 257 (by decide +kernel) (by decide +kernel)
theorem b_259 : (.instanceMethod yP_growLine : Cond) ∈ bw := bwm 259 (by decide +kernel) (by decide +kernel)
theorem b_260 : (kP_growLine : Cond) ∈ bw := bwm 260 (by decide +kernel) (by decide +kernel)
theorem b_261 : (.methodLink RT 60 yP_growDown : Cond) ∈ bw := bwm 261 (by decide +kernel) (by decide +kernel)
theorem b_262 : (.instanceMethod yP_growDown : Cond) ∈ bw := bwm 262 (by decide +kernel) (by decide +kernel)
theorem b_263 : (.selects RP yP_growDown yP_growDown : Cond) ∈ bw := bwm 263 (by decide +kernel) (by decide +kernel)
theorem b_264 : (kP_growDown : Cond) ∈ bw := bwm 264 (by decide +kernel) (by decide +kernel)
theorem b_265 : (.methodLink RL 86 yL_shrink : Cond) ∈ bw := bwm 265 (by decide +kernel) (by decide +kernel)
theorem b_266 : (.static yL_shrink : Cond) ∈ bw := bwm 266 (by decide +kernel) (by decide +kernel)
theorem b_267 : (kL_shrink : Cond) ∈ bw := bwm 267 (by decide +kernel) (by decide +kernel)
theorem b_268 : (.methodLink RL 29 yT_shrink : Cond) ∈ bw := bwm 268 (by decide +kernel) (by decide +kernel)
theorem b_269 : (.instanceMethod yT_shrink : Cond) ∈ bw := bwm 269 (by decide +kernel) (by decide +kernel)
theorem b_270 : (.selects RT yT_shrink yT_shrink : Cond) ∈ bw := bwm 270 (by decide +kernel) (by decide +kernel)
theorem b_271 : (kT_shrink : Cond) ∈ bw := bwm 271 (by decide +kernel) (by decide +kernel)
theorem b_272 : (.methodLink RT 63 yP_shrinkAcross : Cond) ∈ bw := bwm 272 (by decide +kernel) (by decide +kernel)
theorem b_273 : (.instanceMethod yP_shrinkAcross : Cond) ∈ bw := bwm 273 (by decide +kernel) (by decide +kernel)
theorem b_274 : (.selects RP yP_shrinkAcross yP_shrinkAcross : Cond) ∈ bw := bwm 274 (by decide +kernel) (by decide +kernel)
theorem b_275 : (kP_shrinkAcross : Cond) ∈ bw := bwm 275 (by decide +kernel) (by decide +kernel)
theorem b_276 : (.methodLink RP 45 yP_shrinkLine : Cond) ∈ bw := bwm 276 (by decide +kernel) (by decide +kernel)
theorem b_278 : (.instanceMethod yP_shrinkLine : Cond) ∈ bw := bwm 278 (by decide +kernel) (by decide +kernel)
theorem b_279 : (kP_shrinkLine : Cond) ∈ bw := bwm 279 (by decide +kernel) (by decide +kernel)
theorem b_280 : (.methodLink RP 49 yP_half : Cond) ∈ bw := bwm 280 (by decide +kernel) (by decide +kernel)
theorem b_281 : (.static yP_half : Cond) ∈ bw := bwm 281 (by decide +kernel) (by decide +kernel)
theorem b_282 : (kP_half : Cond) ∈ bw := bwm 282 (by decide +kernel) (by decide +kernel)
theorem b_283 : (.methodLink RP 53 Lib.Math.min.name : Cond) ∈ bw := bwm 283 (by decide +kernel) (by decide +kernel)
theorem b_284 : (.methodLink RT 66 yP_shrinkDown : Cond) ∈ bw := bwm 284 (by decide +kernel) (by decide +kernel)
theorem b_285 : (.instanceMethod yP_shrinkDown : Cond) ∈ bw := bwm 285 (by decide +kernel) (by decide +kernel)
theorem b_286 : (.selects RP yP_shrinkDown yP_shrinkDown : Cond) ∈ bw := bwm 286 (by decide +kernel) (by decide +kernel)
theorem b_287 : (kP_shrinkDown : Cond) ∈ bw := bwm 287 (by decide +kernel) (by decide +kernel)
theorem b_288 : (.methodLink RT 69 yP_shrinkBoth : Cond) ∈ bw := bwm 288 (by decide +kernel) (by decide +kernel)
theorem b_289 : (.instanceMethod yP_shrinkBoth : Cond) ∈ bw := bwm 289 (by decide +kernel) (by decide +kernel)
theorem b_290 : (.selects RP yP_shrinkBoth yP_shrinkBoth : Cond) ∈ bw := bwm 290 (by decide +kernel) (by decide +kernel)
theorem b_291 : (kP_shrinkBoth : Cond) ∈ bw := bwm 291 (by decide +kernel) (by decide +kernel)
theorem b_292 : (.methodLink RP 58 yP_sumOfFour : Cond) ∈ bw := bwm 292 (by decide +kernel) (by decide +kernel)
theorem b_294 : (.instanceMethod yP_sumOfFour : Cond) ∈ bw := bwm 294 (by decide +kernel) (by decide +kernel)
theorem b_295 : (kP_sumOfFour : Cond) ∈ bw := bwm 295 (by decide +kernel) (by decide +kernel)
theorem b_296 : (.methodLink RL 94 yL_copy : Cond) ∈ bw := bwm 296 (by decide +kernel) (by decide +kernel)
theorem b_297 : (.static yL_copy : Cond) ∈ bw := bwm 297 (by decide +kernel) (by decide +kernel)
theorem b_298 : (kL_copy : Cond) ∈ bw := bwm 298 (by decide +kernel) (by decide +kernel)
theorem b_299 : (.methodLink RL 32 yT_copy : Cond) ∈ bw := bwm 299 (by decide +kernel) (by decide +kernel)
theorem b_300 : (.instanceMethod yT_copy : Cond) ∈ bw := bwm 300 (by decide +kernel) (by decide +kernel)
theorem b_301 : (.selects RT yT_copy yT_copy : Cond) ∈ bw := bwm 301 (by decide +kernel) (by decide +kernel)
theorem b_302 : (kT_copy : Cond) ∈ bw := bwm 302 (by decide +kernel) (by decide +kernel)
theorem b_303 : (.methodLink RT 79 yP_becomeLike : Cond) ∈ bw := bwm 303 (by decide +kernel) (by decide +kernel)
theorem b_304 : (.instanceMethod yP_becomeLike : Cond) ∈ bw := bwm 304 (by decide +kernel) (by decide +kernel)
theorem b_305 : (.selects RP yP_becomeLike yP_becomeLike : Cond) ∈ bw := bwm 305 (by decide +kernel) (by decide +kernel)
theorem b_306 : (kP_becomeLike : Cond) ∈ bw := bwm 306 (by decide +kernel) (by decide +kernel)
theorem b_307 : (.methodLink RP 31 arraycopyName : Cond) ∈ bw := bwm 307 (by decide +kernel) (by decide +kernel)
theorem b_308 : (.static arraycopyName : Cond) ∈ bw := bwm 308 (by decide +kernel) (by decide +kernel)
theorem b_309 : (.native arraycopyName : Cond) ∈ bw := bwm 309 (by decide +kernel) (by decide +kernel)
theorem b_310 : (.methodLink RL 98 yL_extend : Cond) ∈ bw := bwm 310 (by decide +kernel) (by decide +kernel)
theorem b_311 : (.static yL_extend : Cond) ∈ bw := bwm 311 (by decide +kernel) (by decide +kernel)
theorem b_312 : (kL_extend : Cond) ∈ bw := bwm 312 (by decide +kernel) (by decide +kernel)
theorem b_313 : (.methodLink RL 36 yT_extend : Cond) ∈ bw := bwm 313 (by decide +kernel) (by decide +kernel)
theorem b_314 : (.instanceMethod yT_extend : Cond) ∈ bw := bwm 314 (by decide +kernel) (by decide +kernel)
theorem b_315 : (.selects RT yT_extend yT_extend : Cond) ∈ bw := bwm 315 (by decide +kernel) (by decide +kernel)
theorem b_316 : (kT_extend : Cond) ∈ bw := bwm 316 (by decide +kernel) (by decide +kernel)
theorem b_317 : (.methodLink RT 83 yP_widen : Cond) ∈ bw := bwm 317 (by decide +kernel) (by decide +kernel)
theorem b_318 : (.instanceMethod yP_widen : Cond) ∈ bw := bwm 318 (by decide +kernel) (by decide +kernel)
theorem b_319 : (.selects RP yP_widen yP_widen : Cond) ∈ bw := bwm 319 (by decide +kernel) (by decide +kernel)
theorem b_320 : (kP_widen : Cond) ∈ bw := bwm 320 (by decide +kernel) (by decide +kernel)
theorem b_321 : (.methodLink RT 87 yP_deepen : Cond) ∈ bw := bwm 321 (by decide +kernel) (by decide +kernel)
theorem b_322 : (.instanceMethod yP_deepen : Cond) ∈ bw := bwm 322 (by decide +kernel) (by decide +kernel)
theorem b_323 : (.selects RP yP_deepen yP_deepen : Cond) ∈ bw := bwm 323 (by decide +kernel) (by decide +kernel)
theorem b_324 : (kP_deepen : Cond) ∈ bw := bwm 324 (by decide +kernel) (by decide +kernel)
theorem b_325 : (.methodLink RL 102 yL_cut : Cond) ∈ bw := bwm 325 (by decide +kernel) (by decide +kernel)
theorem b_326 : (.static yL_cut : Cond) ∈ bw := bwm 326 (by decide +kernel) (by decide +kernel)
theorem b_327 : (kL_cut : Cond) ∈ bw := bwm 327 (by decide +kernel) (by decide +kernel)
theorem b_328 : (.methodLink RL 40 yT_cut : Cond) ∈ bw := bwm 328 (by decide +kernel) (by decide +kernel)
theorem b_329 : (.instanceMethod yT_cut : Cond) ∈ bw := bwm 329 (by decide +kernel) (by decide +kernel)
theorem b_330 : (.selects RT yT_cut yT_cut : Cond) ∈ bw := bwm 330 (by decide +kernel) (by decide +kernel)
theorem b_331 : (kT_cut : Cond) ∈ bw := bwm 331 (by decide +kernel) (by decide +kernel)
theorem b_332 : (.methodLink RL 105 yL_at : Cond) ∈ bw := bwm 332 (by decide +kernel) (by decide +kernel)
theorem b_333 : (.static yL_at : Cond) ∈ bw := bwm 333 (by decide +kernel) (by decide +kernel)
theorem b_334 : (kL_at : Cond) ∈ bw := bwm 334 (by decide +kernel) (by decide +kernel)
theorem b_335 : (.methodLink RL 43 yT_at : Cond) ∈ bw := bwm 335 (by decide +kernel) (by decide +kernel)
theorem b_336 : (.instanceMethod yT_at : Cond) ∈ bw := bwm 336 (by decide +kernel) (by decide +kernel)
theorem b_337 : (.selects RT yT_at yT_at : Cond) ∈ bw := bwm 337 (by decide +kernel) (by decide +kernel)
theorem b_338 : (kT_at : Cond) ∈ bw := bwm 338 (by decide +kernel) (by decide +kernel)
theorem b_339 : (.methodLink RL 108 yL_eight : Cond) ∈ bw := bwm 339 (by decide +kernel) (by decide +kernel)
theorem b_340 : (.static yL_eight : Cond) ∈ bw := bwm 340 (by decide +kernel) (by decide +kernel)
theorem b_341 : (kL_eight : Cond) ∈ bw := bwm 341 (by decide +kernel) (by decide +kernel)
theorem b_342 : (.methodLink RL 47 yT_eight : Cond) ∈ bw := bwm 342 (by decide +kernel) (by decide +kernel)
theorem b_343 : (.instanceMethod yT_eight : Cond) ∈ bw := bwm 343 (by decide +kernel) (by decide +kernel)
theorem b_344 : (.selects RT yT_eight yT_eight : Cond) ∈ bw := bwm 344 (by decide +kernel) (by decide +kernel)
theorem b_345 : (kT_eight : Cond) ∈ bw := bwm 345 (by decide +kernel) (by decide +kernel)
theorem b_346 : (.methodLink RL 111 yL_apart : Cond) ∈ bw := bwm 346 (by decide +kernel) (by decide +kernel)
theorem b_347 : (.static yL_apart : Cond) ∈ bw := bwm 347 (by decide +kernel) (by decide +kernel)
theorem b_348 : (kL_apart : Cond) ∈ bw := bwm 348 (by decide +kernel) (by decide +kernel)
theorem b_349 : (.methodLink RL 51 yT_apart : Cond) ∈ bw := bwm 349 (by decide +kernel) (by decide +kernel)
theorem b_350 : (.instanceMethod yT_apart : Cond) ∈ bw := bwm 350 (by decide +kernel) (by decide +kernel)
theorem b_351 : (.selects RT yT_apart yT_apart : Cond) ∈ bw := bwm 351 (by decide +kernel) (by decide +kernel)
theorem b_352 : (kT_apart : Cond) ∈ bw := bwm 352 (by decide +kernel) (by decide +kernel)
theorem b_353 : (.methodLink RT 98 yP_greatestDifference : Cond) ∈ bw := bwm 353 (by decide +kernel) (by decide +kernel)
theorem b_354 : (.instanceMethod yP_greatestDifference : Cond) ∈ bw := bwm 354 (by decide +kernel) (by decide +kernel)
theorem b_355 : (.selects RP yP_greatestDifference yP_greatestDifference : Cond) ∈ bw := bwm 355 (by decide +kernel) (by decide +kernel)
theorem b_356 : (kP_greatestDifference : Cond) ∈ bw := bwm 356 (by decide +kernel) (by decide +kernel)
theorem b_357 : (.methodLink RP 61 Lib.Math.abs.name : Cond) ∈ bw := bwm 357 (by decide +kernel) (by decide +kernel)
theorem b_358 : (.static Lib.Math.abs.name : Cond) ∈ bw := bwm 358 (by decide +kernel) (by decide +kernel)
theorem b_359 : (.code Lib.Math.abs.name Lib.Math.abs.code 1 (some .int) : Cond) ∈ bw := bwm 359 (by decide +kernel) (by decide +kernel)
theorem b_360 : (.methodLink RP 64 Lib.Math.max.name : Cond) ∈ bw := bwm 360 (by decide +kernel) (by decide +kernel)
theorem b_361 : (.methodLink RL 114 yL_look : Cond) ∈ bw := bwm 361 (by decide +kernel) (by decide +kernel)
theorem b_362 : (.static yL_look : Cond) ∈ bw := bwm 362 (by decide +kernel) (by decide +kernel)
theorem b_363 : (kL_look : Cond) ∈ bw := bwm 363 (by decide +kernel) (by decide +kernel)
theorem b_364 : (.methodLink RL 55 yT_look : Cond) ∈ bw := bwm 364 (by decide +kernel) (by decide +kernel)
theorem b_365 : (.instanceMethod yT_look : Cond) ∈ bw := bwm 365 (by decide +kernel) (by decide +kernel)
theorem b_366 : (.selects RT yT_look yT_look : Cond) ∈ bw := bwm 366 (by decide +kernel) (by decide +kernel)
theorem b_367 : (kT_look : Cond) ∈ bw := bwm 367 (by decide +kernel) (by decide +kernel)
theorem b_368 : (.methodLink RT 102 yP_sum : Cond) ∈ bw := bwm 368 (by decide +kernel) (by decide +kernel)
theorem b_369 : (.instanceMethod yP_sum : Cond) ∈ bw := bwm 369 (by decide +kernel) (by decide +kernel)
theorem b_370 : (.selects RP yP_sum yP_sum : Cond) ∈ bw := bwm 370 (by decide +kernel) (by decide +kernel)
theorem b_371 : (kP_sum : Cond) ∈ bw := bwm 371 (by decide +kernel) (by decide +kernel)
theorem b_372 : (.methodLink RT 106 yP_least : Cond) ∈ bw := bwm 372 (by decide +kernel) (by decide +kernel)
theorem b_373 : (.instanceMethod yP_least : Cond) ∈ bw := bwm 373 (by decide +kernel) (by decide +kernel)
theorem b_374 : (.selects RP yP_least yP_least : Cond) ∈ bw := bwm 374 (by decide +kernel) (by decide +kernel)
theorem b_375 : (kP_least : Cond) ∈ bw := bwm 375 (by decide +kernel) (by decide +kernel)
theorem b_376 : (.methodLink RT 109 yP_greatest : Cond) ∈ bw := bwm 376 (by decide +kernel) (by decide +kernel)
theorem b_377 : (.instanceMethod yP_greatest : Cond) ∈ bw := bwm 377 (by decide +kernel) (by decide +kernel)
theorem b_378 : (.selects RP yP_greatest yP_greatest : Cond) ∈ bw := bwm 378 (by decide +kernel) (by decide +kernel)
theorem b_379 : (kP_greatest : Cond) ∈ bw := bwm 379 (by decide +kernel) (by decide +kernel)
theorem b_380 : (.classLink RL 59 RM : Cond) ∈ bw := bwm 380 (by decide +kernel) (by decide +kernel)
theorem b_381 : (.instantiable RM 7 : Cond) ∈ bw := bwm 381 (by decide +kernel) (by decide +kernel)
theorem b_382 : (.methodLink RL 61 yM_init : Cond) ∈ bw := bwm 382 (by decide +kernel) (by decide +kernel)
theorem b_383 : (.instanceMethod yM_init : Cond) ∈ bw := bwm 383 (by decide +kernel) (by decide +kernel)
theorem b_384 : (kM_init : Cond) ∈ bw := bwm 384 (by decide +kernel) (by decide +kernel)
theorem b_385 : (.methodLink RM 1 objectInit : Cond) ∈ bw := bwm 385 (by decide +kernel) (by decide +kernel)
theorem b_386 : (.fieldLink RM 22 "ToneMixerModel" "thrown" "I" : Cond) ∈ bw := bwm 386 (by decide +kernel) (by decide +kernel)
theorem b_387 : (.fieldLink RM 7 "ToneMixerModel" "w" "[I" : Cond) ∈ bw := bwm 387 (by decide +kernel) (by decide +kernel)
theorem b_388 : (.fieldLink RM 13 "ToneMixerModel" "h" "[I" : Cond) ∈ bw := bwm 388 (by decide +kernel) (by decide +kernel)
theorem b_389 : (.fieldLink RM 16 "ToneMixerModel" "sample" "[I" : Cond) ∈ bw := bwm 389 (by decide +kernel) (by decide +kernel)
theorem b_390 : (.fieldLink RM 19 "ToneMixerModel" "old" "[I" : Cond) ∈ bw := bwm 390 (by decide +kernel) (by decide +kernel)
theorem b_391 : (.fieldLink RM 34 "ToneMixerModel" "oldW" "I" : Cond) ∈ bw := bwm 391 (by decide +kernel) (by decide +kernel)
theorem b_392 : (.fieldLink RM 37 "ToneMixerModel" "oldH" "I" : Cond) ∈ bw := bwm 392 (by decide +kernel) (by decide +kernel)
theorem b_393 : (.lays RM "ToneMixerModel" "thrown" "I" : Cond) ∈ bw := bwm 393 (by decide +kernel) (by decide +kernel)
theorem b_395 : (.laysFinal RM "ToneMixerModel" "w" "[I" : Cond) ∈ bw := bwm 395 (by decide +kernel) (by decide +kernel)
theorem b_397 : (.laysFinal RM "ToneMixerModel" "h" "[I" : Cond) ∈ bw := bwm 397 (by decide +kernel) (by decide +kernel)
theorem b_399 : (.laysFinal RM "ToneMixerModel" "sample" "[I" : Cond) ∈ bw := bwm 399 (by decide +kernel) (by decide +kernel)
theorem b_401 : (.laysFinal RM "ToneMixerModel" "old" "[I" : Cond) ∈ bw := bwm 401 (by decide +kernel) (by decide +kernel)
theorem b_403 : (.lays RM "ToneMixerModel" "oldW" "I" : Cond) ∈ bw := bwm 403 (by decide +kernel) (by decide +kernel)
theorem b_405 : (.lays RM "ToneMixerModel" "oldH" "I" : Cond) ∈ bw := bwm 405 (by decide +kernel) (by decide +kernel)
theorem b_408 : (.methodLink RL 68 yM_thrown : Cond) ∈ bw := bwm 408 (by decide +kernel) (by decide +kernel)
theorem b_409 : (.instanceMethod yM_thrown : Cond) ∈ bw := bwm 409 (by decide +kernel) (by decide +kernel)
theorem b_410 : (.selects RM yM_thrown yM_thrown : Cond) ∈ bw := bwm 410 (by decide +kernel) (by decide +kernel)
theorem b_411 : (kM_thrown : Cond) ∈ bw := bwm 411 (by decide +kernel) (by decide +kernel)
theorem b_412 : (.methodLink RL 67 yM_size : Cond) ∈ bw := bwm 412 (by decide +kernel) (by decide +kernel)
theorem b_413 : (.instanceMethod yM_size : Cond) ∈ bw := bwm 413 (by decide +kernel) (by decide +kernel)
theorem b_414 : (.selects RM yM_size yM_size : Cond) ∈ bw := bwm 414 (by decide +kernel) (by decide +kernel)
theorem b_415 : (kM_size : Cond) ∈ bw := bwm 415 (by decide +kernel) (by decide +kernel)
theorem b_416 : (.methodLink RM 30 yM_isPlane : Cond) ∈ bw := bwm 416 (by decide +kernel) (by decide +kernel)
theorem b_417 : (.static yM_isPlane : Cond) ∈ bw := bwm 417 (by decide +kernel) (by decide +kernel)
theorem b_418 : (kM_isPlane : Cond) ∈ bw := bwm 418 (by decide +kernel) (by decide +kernel)
theorem b_419 : (.methodLink RM 26 yM_in : Cond) ∈ bw := bwm 419 (by decide +kernel) (by decide +kernel)
theorem b_420 : (.static yM_in : Cond) ∈ bw := bwm 420 (by decide +kernel) (by decide +kernel)
theorem b_421 : (kM_in : Cond) ∈ bw := bwm 421 (by decide +kernel) (by decide +kernel)
theorem b_422 : (.methodLink RM 40 yM_goes : Cond) ∈ bw := bwm 422 (by decide +kernel) (by decide +kernel)
theorem b_424 : (.instanceMethod yM_goes : Cond) ∈ bw := bwm 424 (by decide +kernel) (by decide +kernel)
theorem b_425 : (kM_goes : Cond) ∈ bw := bwm 425 (by decide +kernel) (by decide +kernel)
theorem b_426 : (.methodLink RL 75 yM_put : Cond) ∈ bw := bwm 426 (by decide +kernel) (by decide +kernel)
theorem b_427 : (.instanceMethod yM_put : Cond) ∈ bw := bwm 427 (by decide +kernel) (by decide +kernel)
theorem b_428 : (.selects RM yM_put yM_put : Cond) ∈ bw := bwm 428 (by decide +kernel) (by decide +kernel)
theorem b_429 : (kM_put : Cond) ∈ bw := bwm 429 (by decide +kernel) (by decide +kernel)
theorem b_430 : (.methodLink RM 44 yM_isSample : Cond) ∈ bw := bwm 430 (by decide +kernel) (by decide +kernel)
theorem b_432 : (.instanceMethod yM_isSample : Cond) ∈ bw := bwm 432 (by decide +kernel) (by decide +kernel)
theorem b_433 : (kM_isSample : Cond) ∈ bw := bwm 433 (by decide +kernel) (by decide +kernel)
theorem b_434 : (.methodLink RM 47 yM_cell : Cond) ∈ bw := bwm 434 (by decide +kernel) (by decide +kernel)
theorem b_435 : (.static yM_cell : Cond) ∈ bw := bwm 435 (by decide +kernel) (by decide +kernel)
theorem b_436 : (kM_cell : Cond) ∈ bw := bwm 436 (by decide +kernel) (by decide +kernel)
theorem b_437 : (.methodLink RL 81 yM_row : Cond) ∈ bw := bwm 437 (by decide +kernel) (by decide +kernel)
theorem b_438 : (.instanceMethod yM_row : Cond) ∈ bw := bwm 438 (by decide +kernel) (by decide +kernel)
theorem b_439 : (.selects RM yM_row yM_row : Cond) ∈ bw := bwm 439 (by decide +kernel) (by decide +kernel)
theorem b_440 : (kM_row : Cond) ∈ bw := bwm 440 (by decide +kernel) (by decide +kernel)
theorem b_441 : (.constantLong RM 51 (255) : Cond) ∈ bw := bwm 441 (by decide +kernel) (by decide +kernel)
theorem b_442 : (.methodLink RL 85 yM_grow : Cond) ∈ bw := bwm 442 (by decide +kernel) (by decide +kernel)
theorem b_443 : (.instanceMethod yM_grow : Cond) ∈ bw := bwm 443 (by decide +kernel) (by decide +kernel)
theorem b_444 : (.selects RM yM_grow yM_grow : Cond) ∈ bw := bwm 444 (by decide +kernel) (by decide +kernel)
theorem b_445 : (kM_grow : Cond) ∈ bw := bwm 445 (by decide +kernel) (by decide +kernel)
theorem b_446 : (.methodLink RM 61 yM_across : Cond) ∈ bw := bwm 446 (by decide +kernel) (by decide +kernel)
theorem b_448 : (.instanceMethod yM_across : Cond) ∈ bw := bwm 448 (by decide +kernel) (by decide +kernel)
theorem b_449 : (kM_across : Cond) ∈ bw := bwm 449 (by decide +kernel) (by decide +kernel)
theorem b_450 : (.methodLink RM 53 yM_keep : Cond) ∈ bw := bwm 450 (by decide +kernel) (by decide +kernel)
theorem b_452 : (.instanceMethod yM_keep : Cond) ∈ bw := bwm 452 (by decide +kernel) (by decide +kernel)
theorem b_453 : (kM_keep : Cond) ∈ bw := bwm 453 (by decide +kernel) (by decide +kernel)
theorem b_454 : (.methodLink RM 57 yM_was : Cond) ∈ bw := bwm 454 (by decide +kernel) (by decide +kernel)
theorem b_456 : (.instanceMethod yM_was : Cond) ∈ bw := bwm 456 (by decide +kernel) (by decide +kernel)
theorem b_457 : (kM_was : Cond) ∈ bw := bwm 457 (by decide +kernel) (by decide +kernel)
theorem b_458 : (.methodLink RM 65 yM_down : Cond) ∈ bw := bwm 458 (by decide +kernel) (by decide +kernel)
theorem b_460 : (.instanceMethod yM_down : Cond) ∈ bw := bwm 460 (by decide +kernel) (by decide +kernel)
theorem b_461 : (kM_down : Cond) ∈ bw := bwm 461 (by decide +kernel) (by decide +kernel)
theorem b_462 : (.methodLink RL 88 yM_shrink : Cond) ∈ bw := bwm 462 (by decide +kernel) (by decide +kernel)
theorem b_463 : (.instanceMethod yM_shrink : Cond) ∈ bw := bwm 463 (by decide +kernel) (by decide +kernel)
theorem b_464 : (.selects RM yM_shrink yM_shrink : Cond) ∈ bw := bwm 464 (by decide +kernel) (by decide +kernel)
theorem b_465 : (kM_shrink : Cond) ∈ bw := bwm 465 (by decide +kernel) (by decide +kernel)
theorem b_466 : (.methodLink RL 93 yM_mix : Cond) ∈ bw := bwm 466 (by decide +kernel) (by decide +kernel)
theorem b_467 : (.instanceMethod yM_mix : Cond) ∈ bw := bwm 467 (by decide +kernel) (by decide +kernel)
theorem b_468 : (.selects RM yM_mix yM_mix : Cond) ∈ bw := bwm 468 (by decide +kernel) (by decide +kernel)
theorem b_469 : (kM_mix : Cond) ∈ bw := bwm 469 (by decide +kernel) (by decide +kernel)
theorem b_470 : (.methodLink RM 85 yM_isSame : Cond) ∈ bw := bwm 470 (by decide +kernel) (by decide +kernel)
theorem b_472 : (.instanceMethod yM_isSame : Cond) ∈ bw := bwm 472 (by decide +kernel) (by decide +kernel)
theorem b_473 : (kM_isSame : Cond) ∈ bw := bwm 473 (by decide +kernel) (by decide +kernel)
theorem b_474 : (.methodLink RM 89 yM_mixAll : Cond) ∈ bw := bwm 474 (by decide +kernel) (by decide +kernel)
theorem b_476 : (.instanceMethod yM_mixAll : Cond) ∈ bw := bwm 476 (by decide +kernel) (by decide +kernel)
theorem b_477 : (kM_mixAll : Cond) ∈ bw := bwm 477 (by decide +kernel) (by decide +kernel)
theorem b_478 : (.methodLink RM 81 yM_mixed : Cond) ∈ bw := bwm 478 (by decide +kernel) (by decide +kernel)
theorem b_479 : (.static yM_mixed : Cond) ∈ bw := bwm 479 (by decide +kernel) (by decide +kernel)
theorem b_480 : (kM_mixed : Cond) ∈ bw := bwm 480 (by decide +kernel) (by decide +kernel)
theorem b_481 : (.constant RM 70 (91881) : Cond) ∈ bw := bwm 481 (by decide +kernel) (by decide +kernel)
theorem b_482 : (.constant RM 71 (46802) : Cond) ∈ bw := bwm 482 (by decide +kernel) (by decide +kernel)
theorem b_483 : (.constant RM 72 (116130) : Cond) ∈ bw := bwm 483 (by decide +kernel) (by decide +kernel)
theorem b_484 : (.constant RM 69 (32768) : Cond) ∈ bw := bwm 484 (by decide +kernel) (by decide +kernel)
theorem b_485 : (.methodLink RM 73 yM_limit : Cond) ∈ bw := bwm 485 (by decide +kernel) (by decide +kernel)
theorem b_486 : (.static yM_limit : Cond) ∈ bw := bwm 486 (by decide +kernel) (by decide +kernel)
theorem b_487 : (kM_limit : Cond) ∈ bw := bwm 487 (by decide +kernel) (by decide +kernel)
theorem b_488 : (.methodLink RM 77 yM_grey : Cond) ∈ bw := bwm 488 (by decide +kernel) (by decide +kernel)
theorem b_489 : (.static yM_grey : Cond) ∈ bw := bwm 489 (by decide +kernel) (by decide +kernel)
theorem b_490 : (kM_grey : Cond) ∈ bw := bwm 490 (by decide +kernel) (by decide +kernel)
theorem b_491 : (.constant RM 68 (38470) : Cond) ∈ bw := bwm 491 (by decide +kernel) (by decide +kernel)
theorem b_492 : (.constant RM 80 (8421375) : Cond) ∈ bw := bwm 492 (by decide +kernel) (by decide +kernel)
theorem b_493 : (.methodLink RL 97 yM_copy : Cond) ∈ bw := bwm 493 (by decide +kernel) (by decide +kernel)
theorem b_494 : (.instanceMethod yM_copy : Cond) ∈ bw := bwm 494 (by decide +kernel) (by decide +kernel)
theorem b_495 : (.selects RM yM_copy yM_copy : Cond) ∈ bw := bwm 495 (by decide +kernel) (by decide +kernel)
theorem b_496 : (kM_copy : Cond) ∈ bw := bwm 496 (by decide +kernel) (by decide +kernel)
theorem b_497 : (.methodLink RL 101 yM_extend : Cond) ∈ bw := bwm 497 (by decide +kernel) (by decide +kernel)
theorem b_498 : (.instanceMethod yM_extend : Cond) ∈ bw := bwm 498 (by decide +kernel) (by decide +kernel)
theorem b_499 : (.selects RM yM_extend yM_extend : Cond) ∈ bw := bwm 499 (by decide +kernel) (by decide +kernel)
theorem b_500 : (kM_extend : Cond) ∈ bw := bwm 500 (by decide +kernel) (by decide +kernel)
theorem b_501 : (.methodLink RL 104 yM_cut : Cond) ∈ bw := bwm 501 (by decide +kernel) (by decide +kernel)
theorem b_502 : (.instanceMethod yM_cut : Cond) ∈ bw := bwm 502 (by decide +kernel) (by decide +kernel)
theorem b_503 : (.selects RM yM_cut yM_cut : Cond) ∈ bw := bwm 503 (by decide +kernel) (by decide +kernel)
theorem b_504 : (kM_cut : Cond) ∈ bw := bwm 504 (by decide +kernel) (by decide +kernel)
theorem b_505 : (.methodLink RL 107 yM_at : Cond) ∈ bw := bwm 505 (by decide +kernel) (by decide +kernel)
theorem b_506 : (.instanceMethod yM_at : Cond) ∈ bw := bwm 506 (by decide +kernel) (by decide +kernel)
theorem b_507 : (.selects RM yM_at yM_at : Cond) ∈ bw := bwm 507 (by decide +kernel) (by decide +kernel)
theorem b_508 : (kM_at : Cond) ∈ bw := bwm 508 (by decide +kernel) (by decide +kernel)
theorem b_509 : (.methodLink RL 110 yM_eight : Cond) ∈ bw := bwm 509 (by decide +kernel) (by decide +kernel)
theorem b_510 : (.instanceMethod yM_eight : Cond) ∈ bw := bwm 510 (by decide +kernel) (by decide +kernel)
theorem b_511 : (.selects RM yM_eight yM_eight : Cond) ∈ bw := bwm 511 (by decide +kernel) (by decide +kernel)
theorem b_512 : (kM_eight : Cond) ∈ bw := bwm 512 (by decide +kernel) (by decide +kernel)
theorem b_513 : (.methodLink RL 113 yM_apart : Cond) ∈ bw := bwm 513 (by decide +kernel) (by decide +kernel)
theorem b_514 : (.instanceMethod yM_apart : Cond) ∈ bw := bwm 514 (by decide +kernel) (by decide +kernel)
theorem b_515 : (.selects RM yM_apart yM_apart : Cond) ∈ bw := bwm 515 (by decide +kernel) (by decide +kernel)
theorem b_516 : (kM_apart : Cond) ∈ bw := bwm 516 (by decide +kernel) (by decide +kernel)
theorem b_517 : (.methodLink RL 116 yM_look : Cond) ∈ bw := bwm 517 (by decide +kernel) (by decide +kernel)
theorem b_518 : (.instanceMethod yM_look : Cond) ∈ bw := bwm 518 (by decide +kernel) (by decide +kernel)
theorem b_519 : (.selects RM yM_look yM_look : Cond) ∈ bw := bwm 519 (by decide +kernel) (by decide +kernel)
theorem b_520 : (kM_look : Cond) ∈ bw := bwm 520 (by decide +kernel) (by decide +kernel)
theorem b_521 : (.constantLong RL 76 (4294967295) : Cond) ∈ bw := bwm 521 (by decide +kernel) (by decide +kernel)
theorem b_522 : (.arrayClass .long : Cond) ∈ bw := bwm 522 (by decide +kernel) (by decide +kernel)
theorem bs_0 : (.selects RT yT_firstAreOfOneSize yT_firstAreOfOneSize : Cond) ∈ bw := bws 0 (by decide +kernel) (by decide +kernel)
theorem bs_1 : (.selects RT yT_mixPlace yT_mixPlace : Cond) ∈ bw := bws 1 (by decide +kernel) (by decide +kernel)
theorem bs_2 : (.selects RT yT_open yT_open : Cond) ∈ bw := bws 2 (by decide +kernel) (by decide +kernel)
theorem bs_3 : (.selects RT yT_setColours yT_setColours : Cond) ∈ bw := bws 3 (by decide +kernel) (by decide +kernel)
theorem bs_4 : (.selects RT yT_close yT_close : Cond) ∈ bw := bws 4 (by decide +kernel) (by decide +kernel)
theorem bs_5 : (.selects RT yT_invert yT_invert : Cond) ∈ bw := bws 5 (by decide +kernel) (by decide +kernel)
theorem bs_6 : (.selects RT yT_darken yT_darken : Cond) ∈ bw := bws 6 (by decide +kernel) (by decide +kernel)
theorem bs_7 : (.selects RT yT_grey yT_grey : Cond) ∈ bw := bws 7 (by decide +kernel) (by decide +kernel)
theorem bs_8 : (.selects RT yT_planeOf yT_planeOf : Cond) ∈ bw := bws 8 (by decide +kernel) (by decide +kernel)
theorem bs_10 : (.selects RT yT_planeWith yT_planeWith : Cond) ∈ bw := bws 10 (by decide +kernel) (by decide +kernel)
theorem bs_11 : (.selects RP yP_growLine yP_growLine : Cond) ∈ bw := bws 11 (by decide +kernel) (by decide +kernel)
theorem bs_12 : (.selects RP yP_shrinkLine yP_shrinkLine : Cond) ∈ bw := bws 12 (by decide +kernel) (by decide +kernel)
theorem bs_13 : (.selects RP yP_sumOfFour yP_sumOfFour : Cond) ∈ bw := bws 13 (by decide +kernel) (by decide +kernel)
theorem bs_14 : (.selects RM yM_goes yM_goes : Cond) ∈ bw := bws 14 (by decide +kernel) (by decide +kernel)
theorem bs_15 : (.selects RM yM_isSample yM_isSample : Cond) ∈ bw := bws 15 (by decide +kernel) (by decide +kernel)
theorem bs_16 : (.selects RM yM_across yM_across : Cond) ∈ bw := bws 16 (by decide +kernel) (by decide +kernel)
theorem bs_17 : (.selects RM yM_keep yM_keep : Cond) ∈ bw := bws 17 (by decide +kernel) (by decide +kernel)
theorem bs_18 : (.selects RM yM_was yM_was : Cond) ∈ bw := bws 18 (by decide +kernel) (by decide +kernel)
theorem bs_19 : (.selects RM yM_down yM_down : Cond) ∈ bw := bws 19 (by decide +kernel) (by decide +kernel)
theorem bs_20 : (.selects RM yM_isSame yM_isSame : Cond) ∈ bw := bws 20 (by decide +kernel) (by decide +kernel)
theorem bs_21 : (.selects RM yM_mixAll yM_mixAll : Cond) ∈ bw := bws 21 (by decide +kernel) (by decide +kernel)
theorem hbP : ∀ w ∈ u_ws RP TP 4, w ∈ bw := by
  intro w hw
  obtain ⟨k, hk, rfl⟩ := List.mem_map.mp hw
  have hk := List.mem_range.mp hk
  match k, hk with
  | 0, _ => exact b_34
  | 1, _ => exact b_36
  | 2, _ => exact b_38
  | 3, _ => exact b_40
  | n + 4, h => omega
theorem hbT : ∀ w ∈ u_ws RT TT 1, w ∈ bw := by
  intro w hw
  obtain ⟨k, hk, rfl⟩ := List.mem_map.mp hw
  have hk := List.mem_range.mp hk
  match k, hk with
  | 0, _ => exact b_45
  | n + 1, h => omega
theorem hbM : ∀ w ∈ u_ws RM TM 7, w ∈ bw := by
  intro w hw
  obtain ⟨k, hk, rfl⟩ := List.mem_map.mp hw
  have hk := List.mem_range.mp hk
  match k, hk with
  | 0, _ => exact b_393
  | 1, _ => exact b_395
  | 2, _ => exact b_397
  | 3, _ => exact b_399
  | 4, _ => exact b_401
  | 5, _ => exact b_403
  | 6, _ => exact b_405
  | n + 7, h => omega
end
section
theorem dA_fill_0 : decode cA_fill 0 = .ok (.iconst 0, 1) := by decide +kernel
theorem dA_fill_1 : decode cA_fill 1 = .ok (.istore_n 2, 1) := by decide +kernel
theorem dA_fill_2 : decode cA_fill 2 = .ok (.aload_n 0, 1) := by decide +kernel
theorem dA_fill_3 : decode cA_fill 3 = .ok (.arraylength, 1) := by decide +kernel
theorem dA_fill_4 : decode cA_fill 4 = .ok (.istore_n 3, 1) := by decide +kernel
theorem dA_fill_5 : decode cA_fill 5 = .ok (.iload_n 2, 1) := by decide +kernel
theorem dA_fill_6 : decode cA_fill 6 = .ok (.iload_n 3, 1) := by decide +kernel
theorem dA_fill_7 : decode cA_fill 7 = .ok (.if_icmp .ge 13, 3) := by decide +kernel
theorem dA_fill_10 : decode cA_fill 10 = .ok (.aload_n 0, 1) := by decide +kernel
theorem dA_fill_11 : decode cA_fill 11 = .ok (.iload_n 2, 1) := by decide +kernel
theorem dA_fill_12 : decode cA_fill 12 = .ok (.iload_n 1, 1) := by decide +kernel
theorem dA_fill_13 : decode cA_fill 13 = .ok (.iastore, 1) := by decide +kernel
theorem dA_fill_14 : decode cA_fill 14 = .ok (.iinc 2 1, 3) := by decide +kernel
theorem dA_fill_17 : decode cA_fill 17 = .ok (.goto (-12), 3) := by decide +kernel
theorem dA_fill_20 : decode cA_fill 20 = .ok (.return_, 1) := by decide +kernel
end
section
theorem dP_init_0 : decode cP_init 0 = .ok (.aload_n 0, 1) := by decide +kernel
theorem dP_init_1 : decode cP_init 1 = .ok (.invokespecial 3, 3) := by decide +kernel
theorem dP_init_4 : decode cP_init 4 = .ok (.aload_n 0, 1) := by decide +kernel
theorem dP_init_5 : decode cP_init 5 = .ok (.sipush 1024, 3) := by decide +kernel
theorem dP_init_8 : decode cP_init 8 = .ok (.newarray .int, 2) := by decide +kernel
theorem dP_init_10 : decode cP_init 10 = .ok (.putfield 9, 3) := by decide +kernel
theorem dP_init_13 : decode cP_init 13 = .ok (.aload_n 0, 1) := by decide +kernel
theorem dP_init_14 : decode cP_init 14 = .ok (.iconst 1, 1) := by decide +kernel
theorem dP_init_15 : decode cP_init 15 = .ok (.putfield 15, 3) := by decide +kernel
theorem dP_init_18 : decode cP_init 18 = .ok (.aload_n 0, 1) := by decide +kernel
theorem dP_init_19 : decode cP_init 19 = .ok (.iconst 1, 1) := by decide +kernel
theorem dP_init_20 : decode cP_init 20 = .ok (.putfield 19, 3) := by decide +kernel
theorem dP_init_23 : decode cP_init 23 = .ok (.aload_n 0, 1) := by decide +kernel
theorem dP_init_24 : decode cP_init 24 = .ok (.bipush 32, 2) := by decide +kernel
theorem dP_init_26 : decode cP_init 26 = .ok (.newarray .int, 2) := by decide +kernel
theorem dP_init_28 : decode cP_init 28 = .ok (.putfield 22, 3) := by decide +kernel
theorem dP_init_31 : decode cP_init 31 = .ok (.return_, 1) := by decide +kernel
theorem dP_isOfSizeOf_0 : decode cP_isOfSizeOf 0 = .ok (.aload_n 0, 1) := by decide +kernel
theorem dP_isOfSizeOf_1 : decode cP_isOfSizeOf 1 = .ok (.getfield 15, 3) := by decide +kernel
theorem dP_isOfSizeOf_4 : decode cP_isOfSizeOf 4 = .ok (.aload_n 1, 1) := by decide +kernel
theorem dP_isOfSizeOf_5 : decode cP_isOfSizeOf 5 = .ok (.getfield 15, 3) := by decide +kernel
theorem dP_isOfSizeOf_8 : decode cP_isOfSizeOf 8 = .ok (.if_icmp .ne 18, 3) := by decide +kernel
theorem dP_isOfSizeOf_11 : decode cP_isOfSizeOf 11 = .ok (.aload_n 0, 1) := by decide +kernel
theorem dP_isOfSizeOf_12 : decode cP_isOfSizeOf 12 = .ok (.getfield 19, 3) := by decide +kernel
theorem dP_isOfSizeOf_15 : decode cP_isOfSizeOf 15 = .ok (.aload_n 1, 1) := by decide +kernel
theorem dP_isOfSizeOf_16 : decode cP_isOfSizeOf 16 = .ok (.getfield 19, 3) := by decide +kernel
theorem dP_isOfSizeOf_19 : decode cP_isOfSizeOf 19 = .ok (.if_icmp .ne 7, 3) := by decide +kernel
theorem dP_isOfSizeOf_22 : decode cP_isOfSizeOf 22 = .ok (.iconst 1, 1) := by decide +kernel
theorem dP_isOfSizeOf_23 : decode cP_isOfSizeOf 23 = .ok (.goto 4, 3) := by decide +kernel
theorem dP_isOfSizeOf_26 : decode cP_isOfSizeOf 26 = .ok (.iconst 0, 1) := by decide +kernel
theorem dP_isOfSizeOf_27 : decode cP_isOfSizeOf 27 = .ok (.ireturn, 1) := by decide +kernel
theorem dP_empty_0 : decode cP_empty 0 = .ok (.aload_n 0, 1) := by decide +kernel
theorem dP_empty_1 : decode cP_empty 1 = .ok (.getfield 9, 3) := by decide +kernel
theorem dP_empty_4 : decode cP_empty 4 = .ok (.iconst 0, 1) := by decide +kernel
theorem dP_empty_5 : decode cP_empty 5 = .ok (.invokestatic 25, 3) := by decide +kernel
theorem dP_empty_8 : decode cP_empty 8 = .ok (.aload_n 0, 1) := by decide +kernel
theorem dP_empty_9 : decode cP_empty 9 = .ok (.iload_n 1, 1) := by decide +kernel
theorem dP_empty_10 : decode cP_empty 10 = .ok (.putfield 15, 3) := by decide +kernel
theorem dP_empty_13 : decode cP_empty 13 = .ok (.aload_n 0, 1) := by decide +kernel
theorem dP_empty_14 : decode cP_empty 14 = .ok (.iload_n 2, 1) := by decide +kernel
theorem dP_empty_15 : decode cP_empty 15 = .ok (.putfield 19, 3) := by decide +kernel
theorem dP_empty_18 : decode cP_empty 18 = .ok (.return_, 1) := by decide +kernel
theorem dP_has_0 : decode cP_has 0 = .ok (.iload_n 1, 1) := by decide +kernel
theorem dP_has_1 : decode cP_has 1 = .ok (.ifCond .lt 27, 3) := by decide +kernel
theorem dP_has_4 : decode cP_has 4 = .ok (.iload_n 1, 1) := by decide +kernel
theorem dP_has_5 : decode cP_has 5 = .ok (.aload_n 0, 1) := by decide +kernel
theorem dP_has_6 : decode cP_has 6 = .ok (.getfield 15, 3) := by decide +kernel
theorem dP_has_9 : decode cP_has 9 = .ok (.if_icmp .ge 19, 3) := by decide +kernel
theorem dP_has_12 : decode cP_has 12 = .ok (.iload_n 2, 1) := by decide +kernel
theorem dP_has_13 : decode cP_has 13 = .ok (.ifCond .lt 15, 3) := by decide +kernel
theorem dP_has_16 : decode cP_has 16 = .ok (.iload_n 2, 1) := by decide +kernel
theorem dP_has_17 : decode cP_has 17 = .ok (.aload_n 0, 1) := by decide +kernel
theorem dP_has_18 : decode cP_has 18 = .ok (.getfield 19, 3) := by decide +kernel
theorem dP_has_21 : decode cP_has 21 = .ok (.if_icmp .ge 7, 3) := by decide +kernel
theorem dP_has_24 : decode cP_has 24 = .ok (.iconst 1, 1) := by decide +kernel
theorem dP_has_25 : decode cP_has 25 = .ok (.goto 4, 3) := by decide +kernel
theorem dP_has_28 : decode cP_has 28 = .ok (.iconst 0, 1) := by decide +kernel
theorem dP_has_29 : decode cP_has 29 = .ok (.ireturn, 1) := by decide +kernel
theorem dP_growAcross_0 : decode cP_growAcross 0 = .ok (.iconst 0, 1) := by decide +kernel
theorem dP_growAcross_1 : decode cP_growAcross 1 = .ok (.istore_n 2, 1) := by decide +kernel
theorem dP_growAcross_2 : decode cP_growAcross 2 = .ok (.iload_n 2, 1) := by decide +kernel
theorem dP_growAcross_3 : decode cP_growAcross 3 = .ok (.aload_n 0, 1) := by decide +kernel
theorem dP_growAcross_4 : decode cP_growAcross 4 = .ok (.getfield 19, 3) := by decide +kernel
theorem dP_growAcross_7 : decode cP_growAcross 7 = .ok (.if_icmp .ge 24, 3) := by decide +kernel
theorem dP_growAcross_10 : decode cP_growAcross 10 = .ok (.aload_n 0, 1) := by decide +kernel
theorem dP_growAcross_11 : decode cP_growAcross 11 = .ok (.iconst 0, 1) := by decide +kernel
theorem dP_growAcross_12 : decode cP_growAcross 12 = .ok (.iload_n 2, 1) := by decide +kernel
theorem dP_growAcross_13 : decode cP_growAcross 13 = .ok (.invokestatic 37, 3) := by decide +kernel
theorem dP_growAcross_16 : decode cP_growAcross 16 = .ok (.iconst 1, 1) := by decide +kernel
theorem dP_growAcross_17 : decode cP_growAcross 17 = .ok (.aload_n 0, 1) := by decide +kernel
theorem dP_growAcross_18 : decode cP_growAcross 18 = .ok (.getfield 15, 3) := by decide +kernel
theorem dP_growAcross_21 : decode cP_growAcross 21 = .ok (.iload_n 1, 1) := by decide +kernel
theorem dP_growAcross_22 : decode cP_growAcross 22 = .ok (.invokevirtual 41, 3) := by decide +kernel
theorem dP_growAcross_25 : decode cP_growAcross 25 = .ok (.iinc 2 1, 3) := by decide +kernel
theorem dP_growAcross_28 : decode cP_growAcross 28 = .ok (.goto (-26), 3) := by decide +kernel
theorem dP_growAcross_31 : decode cP_growAcross 31 = .ok (.aload_n 0, 1) := by decide +kernel
theorem dP_growAcross_32 : decode cP_growAcross 32 = .ok (.iconst 2, 1) := by decide +kernel
theorem dP_growAcross_33 : decode cP_growAcross 33 = .ok (.aload_n 0, 1) := by decide +kernel
theorem dP_growAcross_34 : decode cP_growAcross 34 = .ok (.getfield 15, 3) := by decide +kernel
theorem dP_growAcross_37 : decode cP_growAcross 37 = .ok (.imul, 1) := by decide +kernel
theorem dP_growAcross_38 : decode cP_growAcross 38 = .ok (.putfield 15, 3) := by decide +kernel
theorem dP_growAcross_41 : decode cP_growAcross 41 = .ok (.return_, 1) := by decide +kernel
theorem dP_growLine_0 : decode cP_growLine 0 = .ok (.iconst 0, 1) := by decide +kernel
theorem dP_growLine_1 : decode cP_growLine 1 = .ok (.istore 5, 2) := by decide +kernel
theorem dP_growLine_3 : decode cP_growLine 3 = .ok (.iload 5, 2) := by decide +kernel
theorem dP_growLine_5 : decode cP_growLine 5 = .ok (.iload_n 3, 1) := by decide +kernel
theorem dP_growLine_6 : decode cP_growLine 6 = .ok (.if_icmp .ge 27, 3) := by decide +kernel
theorem dP_growLine_9 : decode cP_growLine 9 = .ok (.aload_n 0, 1) := by decide +kernel
theorem dP_growLine_10 : decode cP_growLine 10 = .ok (.getfield 22, 3) := by decide +kernel
theorem dP_growLine_13 : decode cP_growLine 13 = .ok (.iload 5, 2) := by decide +kernel
theorem dP_growLine_15 : decode cP_growLine 15 = .ok (.aload_n 0, 1) := by decide +kernel
theorem dP_growLine_16 : decode cP_growLine 16 = .ok (.getfield 9, 3) := by decide +kernel
theorem dP_growLine_19 : decode cP_growLine 19 = .ok (.iload_n 1, 1) := by decide +kernel
theorem dP_growLine_20 : decode cP_growLine 20 = .ok (.iload 5, 2) := by decide +kernel
theorem dP_growLine_22 : decode cP_growLine 22 = .ok (.iload_n 2, 1) := by decide +kernel
theorem dP_growLine_23 : decode cP_growLine 23 = .ok (.imul, 1) := by decide +kernel
theorem dP_growLine_24 : decode cP_growLine 24 = .ok (.iadd, 1) := by decide +kernel
theorem dP_growLine_25 : decode cP_growLine 25 = .ok (.iaload, 1) := by decide +kernel
theorem dP_growLine_26 : decode cP_growLine 26 = .ok (.iastore, 1) := by decide +kernel
theorem dP_growLine_27 : decode cP_growLine 27 = .ok (.iinc 5 1, 3) := by decide +kernel
theorem dP_growLine_30 : decode cP_growLine 30 = .ok (.goto (-27), 3) := by decide +kernel
theorem dP_growLine_33 : decode cP_growLine 33 = .ok (.iconst 0, 1) := by decide +kernel
theorem dP_growLine_34 : decode cP_growLine 34 = .ok (.istore 5, 2) := by decide +kernel
theorem dP_growLine_36 : decode cP_growLine 36 = .ok (.iload 5, 2) := by decide +kernel
theorem dP_growLine_38 : decode cP_growLine 38 = .ok (.iload_n 3, 1) := by decide +kernel
theorem dP_growLine_39 : decode cP_growLine 39 = .ok (.if_icmp .ge 123, 3) := by decide +kernel
theorem dP_growLine_42 : decode cP_growLine 42 = .ok (.aload_n 0, 1) := by decide +kernel
theorem dP_growLine_43 : decode cP_growLine 43 = .ok (.getfield 22, 3) := by decide +kernel
theorem dP_growLine_46 : decode cP_growLine 46 = .ok (.iload 5, 2) := by decide +kernel
theorem dP_growLine_48 : decode cP_growLine 48 = .ok (.iaload, 1) := by decide +kernel
theorem dP_growLine_49 : decode cP_growLine 49 = .ok (.istore 6, 2) := by decide +kernel
theorem dP_growLine_51 : decode cP_growLine 51 = .ok (.iload 4, 2) := by decide +kernel
theorem dP_growLine_53 : decode cP_growLine 53 = .ok (.ifCond .eq 20, 3) := by decide +kernel
theorem dP_growLine_56 : decode cP_growLine 56 = .ok (.iload 5, 2) := by decide +kernel
theorem dP_growLine_58 : decode cP_growLine 58 = .ok (.ifCond .le 15, 3) := by decide +kernel
theorem dP_growLine_61 : decode cP_growLine 61 = .ok (.aload_n 0, 1) := by decide +kernel
theorem dP_growLine_62 : decode cP_growLine 62 = .ok (.getfield 22, 3) := by decide +kernel
theorem dP_growLine_65 : decode cP_growLine 65 = .ok (.iload 5, 2) := by decide +kernel
theorem dP_growLine_67 : decode cP_growLine 67 = .ok (.iconst 1, 1) := by decide +kernel
theorem dP_growLine_68 : decode cP_growLine 68 = .ok (.isub, 1) := by decide +kernel
theorem dP_growLine_69 : decode cP_growLine 69 = .ok (.iaload, 1) := by decide +kernel
theorem dP_growLine_70 : decode cP_growLine 70 = .ok (.goto 5, 3) := by decide +kernel
theorem dP_growLine_73 : decode cP_growLine 73 = .ok (.iload 6, 2) := by decide +kernel
theorem dP_growLine_75 : decode cP_growLine 75 = .ok (.istore 7, 2) := by decide +kernel
theorem dP_growLine_77 : decode cP_growLine 77 = .ok (.iload 4, 2) := by decide +kernel
theorem dP_growLine_79 : decode cP_growLine 79 = .ok (.ifCond .eq 23, 3) := by decide +kernel
theorem dP_growLine_82 : decode cP_growLine 82 = .ok (.iload 5, 2) := by decide +kernel
theorem dP_growLine_84 : decode cP_growLine 84 = .ok (.iconst 1, 1) := by decide +kernel
theorem dP_growLine_85 : decode cP_growLine 85 = .ok (.iadd, 1) := by decide +kernel
theorem dP_growLine_86 : decode cP_growLine 86 = .ok (.iload_n 3, 1) := by decide +kernel
theorem dP_growLine_87 : decode cP_growLine 87 = .ok (.if_icmp .ge 15, 3) := by decide +kernel
theorem dP_growLine_90 : decode cP_growLine 90 = .ok (.aload_n 0, 1) := by decide +kernel
theorem dP_growLine_91 : decode cP_growLine 91 = .ok (.getfield 22, 3) := by decide +kernel
theorem dP_growLine_94 : decode cP_growLine 94 = .ok (.iload 5, 2) := by decide +kernel
theorem dP_growLine_96 : decode cP_growLine 96 = .ok (.iconst 1, 1) := by decide +kernel
theorem dP_growLine_97 : decode cP_growLine 97 = .ok (.iadd, 1) := by decide +kernel
theorem dP_growLine_98 : decode cP_growLine 98 = .ok (.iaload, 1) := by decide +kernel
theorem dP_growLine_99 : decode cP_growLine 99 = .ok (.goto 5, 3) := by decide +kernel
theorem dP_growLine_102 : decode cP_growLine 102 = .ok (.iload 6, 2) := by decide +kernel
theorem dP_growLine_104 : decode cP_growLine 104 = .ok (.istore 8, 2) := by decide +kernel
theorem dP_growLine_106 : decode cP_growLine 106 = .ok (.aload_n 0, 1) := by decide +kernel
theorem dP_growLine_107 : decode cP_growLine 107 = .ok (.getfield 9, 3) := by decide +kernel
theorem dP_growLine_110 : decode cP_growLine 110 = .ok (.iload_n 1, 1) := by decide +kernel
theorem dP_growLine_111 : decode cP_growLine 111 = .ok (.iconst 2, 1) := by decide +kernel
theorem dP_growLine_112 : decode cP_growLine 112 = .ok (.iload 5, 2) := by decide +kernel
theorem dP_growLine_114 : decode cP_growLine 114 = .ok (.imul, 1) := by decide +kernel
theorem dP_growLine_115 : decode cP_growLine 115 = .ok (.iload_n 2, 1) := by decide +kernel
theorem dP_growLine_116 : decode cP_growLine 116 = .ok (.imul, 1) := by decide +kernel
theorem dP_growLine_117 : decode cP_growLine 117 = .ok (.iadd, 1) := by decide +kernel
theorem dP_growLine_118 : decode cP_growLine 118 = .ok (.iconst 3, 1) := by decide +kernel
theorem dP_growLine_119 : decode cP_growLine 119 = .ok (.iload 6, 2) := by decide +kernel
theorem dP_growLine_121 : decode cP_growLine 121 = .ok (.imul, 1) := by decide +kernel
theorem dP_growLine_122 : decode cP_growLine 122 = .ok (.iload 7, 2) := by decide +kernel
theorem dP_growLine_124 : decode cP_growLine 124 = .ok (.iadd, 1) := by decide +kernel
theorem dP_growLine_125 : decode cP_growLine 125 = .ok (.iconst 1, 1) := by decide +kernel
theorem dP_growLine_126 : decode cP_growLine 126 = .ok (.iadd, 1) := by decide +kernel
theorem dP_growLine_127 : decode cP_growLine 127 = .ok (.iconst 2, 1) := by decide +kernel
theorem dP_growLine_128 : decode cP_growLine 128 = .ok (.ishr, 1) := by decide +kernel
theorem dP_growLine_129 : decode cP_growLine 129 = .ok (.iastore, 1) := by decide +kernel
theorem dP_growLine_130 : decode cP_growLine 130 = .ok (.aload_n 0, 1) := by decide +kernel
theorem dP_growLine_131 : decode cP_growLine 131 = .ok (.getfield 9, 3) := by decide +kernel
theorem dP_growLine_134 : decode cP_growLine 134 = .ok (.iload_n 1, 1) := by decide +kernel
theorem dP_growLine_135 : decode cP_growLine 135 = .ok (.iconst 2, 1) := by decide +kernel
theorem dP_growLine_136 : decode cP_growLine 136 = .ok (.iload 5, 2) := by decide +kernel
theorem dP_growLine_138 : decode cP_growLine 138 = .ok (.imul, 1) := by decide +kernel
theorem dP_growLine_139 : decode cP_growLine 139 = .ok (.iconst 1, 1) := by decide +kernel
theorem dP_growLine_140 : decode cP_growLine 140 = .ok (.iadd, 1) := by decide +kernel
theorem dP_growLine_141 : decode cP_growLine 141 = .ok (.iload_n 2, 1) := by decide +kernel
theorem dP_growLine_142 : decode cP_growLine 142 = .ok (.imul, 1) := by decide +kernel
theorem dP_growLine_143 : decode cP_growLine 143 = .ok (.iadd, 1) := by decide +kernel
theorem dP_growLine_144 : decode cP_growLine 144 = .ok (.iconst 3, 1) := by decide +kernel
theorem dP_growLine_145 : decode cP_growLine 145 = .ok (.iload 6, 2) := by decide +kernel
theorem dP_growLine_147 : decode cP_growLine 147 = .ok (.imul, 1) := by decide +kernel
theorem dP_growLine_148 : decode cP_growLine 148 = .ok (.iload 8, 2) := by decide +kernel
theorem dP_growLine_150 : decode cP_growLine 150 = .ok (.iadd, 1) := by decide +kernel
theorem dP_growLine_151 : decode cP_growLine 151 = .ok (.iconst 2, 1) := by decide +kernel
theorem dP_growLine_152 : decode cP_growLine 152 = .ok (.iadd, 1) := by decide +kernel
theorem dP_growLine_153 : decode cP_growLine 153 = .ok (.iconst 2, 1) := by decide +kernel
theorem dP_growLine_154 : decode cP_growLine 154 = .ok (.ishr, 1) := by decide +kernel
theorem dP_growLine_155 : decode cP_growLine 155 = .ok (.iastore, 1) := by decide +kernel
theorem dP_growLine_156 : decode cP_growLine 156 = .ok (.iinc 5 1, 3) := by decide +kernel
theorem dP_growLine_159 : decode cP_growLine 159 = .ok (.goto (-123), 3) := by decide +kernel
theorem dP_growLine_162 : decode cP_growLine 162 = .ok (.return_, 1) := by decide +kernel
theorem dP_growDown_0 : decode cP_growDown 0 = .ok (.iconst 0, 1) := by decide +kernel
theorem dP_growDown_1 : decode cP_growDown 1 = .ok (.istore_n 2, 1) := by decide +kernel
theorem dP_growDown_2 : decode cP_growDown 2 = .ok (.iload_n 2, 1) := by decide +kernel
theorem dP_growDown_3 : decode cP_growDown 3 = .ok (.aload_n 0, 1) := by decide +kernel
theorem dP_growDown_4 : decode cP_growDown 4 = .ok (.getfield 15, 3) := by decide +kernel
theorem dP_growDown_7 : decode cP_growDown 7 = .ok (.if_icmp .ge 25, 3) := by decide +kernel
theorem dP_growDown_10 : decode cP_growDown 10 = .ok (.aload_n 0, 1) := by decide +kernel
theorem dP_growDown_11 : decode cP_growDown 11 = .ok (.iload_n 2, 1) := by decide +kernel
theorem dP_growDown_12 : decode cP_growDown 12 = .ok (.iconst 0, 1) := by decide +kernel
theorem dP_growDown_13 : decode cP_growDown 13 = .ok (.invokestatic 37, 3) := by decide +kernel
theorem dP_growDown_16 : decode cP_growDown 16 = .ok (.bipush 32, 2) := by decide +kernel
theorem dP_growDown_18 : decode cP_growDown 18 = .ok (.aload_n 0, 1) := by decide +kernel
theorem dP_growDown_19 : decode cP_growDown 19 = .ok (.getfield 19, 3) := by decide +kernel
theorem dP_growDown_22 : decode cP_growDown 22 = .ok (.iload_n 1, 1) := by decide +kernel
theorem dP_growDown_23 : decode cP_growDown 23 = .ok (.invokevirtual 41, 3) := by decide +kernel
theorem dP_growDown_26 : decode cP_growDown 26 = .ok (.iinc 2 1, 3) := by decide +kernel
theorem dP_growDown_29 : decode cP_growDown 29 = .ok (.goto (-27), 3) := by decide +kernel
theorem dP_growDown_32 : decode cP_growDown 32 = .ok (.aload_n 0, 1) := by decide +kernel
theorem dP_growDown_33 : decode cP_growDown 33 = .ok (.iconst 2, 1) := by decide +kernel
theorem dP_growDown_34 : decode cP_growDown 34 = .ok (.aload_n 0, 1) := by decide +kernel
theorem dP_growDown_35 : decode cP_growDown 35 = .ok (.getfield 19, 3) := by decide +kernel
theorem dP_growDown_38 : decode cP_growDown 38 = .ok (.imul, 1) := by decide +kernel
theorem dP_growDown_39 : decode cP_growDown 39 = .ok (.putfield 19, 3) := by decide +kernel
theorem dP_growDown_42 : decode cP_growDown 42 = .ok (.return_, 1) := by decide +kernel
theorem dP_shrinkAcross_0 : decode cP_shrinkAcross 0 = .ok (.iconst 0, 1) := by decide +kernel
theorem dP_shrinkAcross_1 : decode cP_shrinkAcross 1 = .ok (.istore_n 1, 1) := by decide +kernel
theorem dP_shrinkAcross_2 : decode cP_shrinkAcross 2 = .ok (.iload_n 1, 1) := by decide +kernel
theorem dP_shrinkAcross_3 : decode cP_shrinkAcross 3 = .ok (.aload_n 0, 1) := by decide +kernel
theorem dP_shrinkAcross_4 : decode cP_shrinkAcross 4 = .ok (.getfield 19, 3) := by decide +kernel
theorem dP_shrinkAcross_7 : decode cP_shrinkAcross 7 = .ok (.if_icmp .ge 23, 3) := by decide +kernel
theorem dP_shrinkAcross_10 : decode cP_shrinkAcross 10 = .ok (.aload_n 0, 1) := by decide +kernel
theorem dP_shrinkAcross_11 : decode cP_shrinkAcross 11 = .ok (.iconst 0, 1) := by decide +kernel
theorem dP_shrinkAcross_12 : decode cP_shrinkAcross 12 = .ok (.iload_n 1, 1) := by decide +kernel
theorem dP_shrinkAcross_13 : decode cP_shrinkAcross 13 = .ok (.invokestatic 37, 3) := by decide +kernel
theorem dP_shrinkAcross_16 : decode cP_shrinkAcross 16 = .ok (.iconst 1, 1) := by decide +kernel
theorem dP_shrinkAcross_17 : decode cP_shrinkAcross 17 = .ok (.aload_n 0, 1) := by decide +kernel
theorem dP_shrinkAcross_18 : decode cP_shrinkAcross 18 = .ok (.getfield 15, 3) := by decide +kernel
theorem dP_shrinkAcross_21 : decode cP_shrinkAcross 21 = .ok (.invokevirtual 45, 3) := by decide +kernel
theorem dP_shrinkAcross_24 : decode cP_shrinkAcross 24 = .ok (.iinc 1 1, 3) := by decide +kernel
theorem dP_shrinkAcross_27 : decode cP_shrinkAcross 27 = .ok (.goto (-25), 3) := by decide +kernel
theorem dP_shrinkAcross_30 : decode cP_shrinkAcross 30 = .ok (.aload_n 0, 1) := by decide +kernel
theorem dP_shrinkAcross_31 : decode cP_shrinkAcross 31 = .ok (.aload_n 0, 1) := by decide +kernel
theorem dP_shrinkAcross_32 : decode cP_shrinkAcross 32 = .ok (.getfield 15, 3) := by decide +kernel
theorem dP_shrinkAcross_35 : decode cP_shrinkAcross 35 = .ok (.invokestatic 49, 3) := by decide +kernel
theorem dP_shrinkAcross_38 : decode cP_shrinkAcross 38 = .ok (.putfield 15, 3) := by decide +kernel
theorem dP_shrinkAcross_41 : decode cP_shrinkAcross 41 = .ok (.return_, 1) := by decide +kernel
theorem dP_shrinkLine_0 : decode cP_shrinkLine 0 = .ok (.iconst 0, 1) := by decide +kernel
theorem dP_shrinkLine_1 : decode cP_shrinkLine 1 = .ok (.istore 4, 2) := by decide +kernel
theorem dP_shrinkLine_3 : decode cP_shrinkLine 3 = .ok (.iload 4, 2) := by decide +kernel
theorem dP_shrinkLine_5 : decode cP_shrinkLine 5 = .ok (.iload_n 3, 1) := by decide +kernel
theorem dP_shrinkLine_6 : decode cP_shrinkLine 6 = .ok (.invokestatic 49, 3) := by decide +kernel
theorem dP_shrinkLine_9 : decode cP_shrinkLine 9 = .ok (.if_icmp .ge 70, 3) := by decide +kernel
theorem dP_shrinkLine_12 : decode cP_shrinkLine 12 = .ok (.aload_n 0, 1) := by decide +kernel
theorem dP_shrinkLine_13 : decode cP_shrinkLine 13 = .ok (.getfield 9, 3) := by decide +kernel
theorem dP_shrinkLine_16 : decode cP_shrinkLine 16 = .ok (.iload_n 1, 1) := by decide +kernel
theorem dP_shrinkLine_17 : decode cP_shrinkLine 17 = .ok (.iconst 2, 1) := by decide +kernel
theorem dP_shrinkLine_18 : decode cP_shrinkLine 18 = .ok (.iload 4, 2) := by decide +kernel
theorem dP_shrinkLine_20 : decode cP_shrinkLine 20 = .ok (.imul, 1) := by decide +kernel
theorem dP_shrinkLine_21 : decode cP_shrinkLine 21 = .ok (.iload_n 2, 1) := by decide +kernel
theorem dP_shrinkLine_22 : decode cP_shrinkLine 22 = .ok (.imul, 1) := by decide +kernel
theorem dP_shrinkLine_23 : decode cP_shrinkLine 23 = .ok (.iadd, 1) := by decide +kernel
theorem dP_shrinkLine_24 : decode cP_shrinkLine 24 = .ok (.iaload, 1) := by decide +kernel
theorem dP_shrinkLine_25 : decode cP_shrinkLine 25 = .ok (.istore 5, 2) := by decide +kernel
theorem dP_shrinkLine_27 : decode cP_shrinkLine 27 = .ok (.aload_n 0, 1) := by decide +kernel
theorem dP_shrinkLine_28 : decode cP_shrinkLine 28 = .ok (.getfield 9, 3) := by decide +kernel
theorem dP_shrinkLine_31 : decode cP_shrinkLine 31 = .ok (.iload_n 1, 1) := by decide +kernel
theorem dP_shrinkLine_32 : decode cP_shrinkLine 32 = .ok (.iconst 2, 1) := by decide +kernel
theorem dP_shrinkLine_33 : decode cP_shrinkLine 33 = .ok (.iload 4, 2) := by decide +kernel
theorem dP_shrinkLine_35 : decode cP_shrinkLine 35 = .ok (.imul, 1) := by decide +kernel
theorem dP_shrinkLine_36 : decode cP_shrinkLine 36 = .ok (.iconst 1, 1) := by decide +kernel
theorem dP_shrinkLine_37 : decode cP_shrinkLine 37 = .ok (.iadd, 1) := by decide +kernel
theorem dP_shrinkLine_38 : decode cP_shrinkLine 38 = .ok (.iload_n 3, 1) := by decide +kernel
theorem dP_shrinkLine_39 : decode cP_shrinkLine 39 = .ok (.iconst 1, 1) := by decide +kernel
theorem dP_shrinkLine_40 : decode cP_shrinkLine 40 = .ok (.isub, 1) := by decide +kernel
theorem dP_shrinkLine_41 : decode cP_shrinkLine 41 = .ok (.invokestatic 53, 3) := by decide +kernel
theorem dP_shrinkLine_44 : decode cP_shrinkLine 44 = .ok (.iload_n 2, 1) := by decide +kernel
theorem dP_shrinkLine_45 : decode cP_shrinkLine 45 = .ok (.imul, 1) := by decide +kernel
theorem dP_shrinkLine_46 : decode cP_shrinkLine 46 = .ok (.iadd, 1) := by decide +kernel
theorem dP_shrinkLine_47 : decode cP_shrinkLine 47 = .ok (.iaload, 1) := by decide +kernel
theorem dP_shrinkLine_48 : decode cP_shrinkLine 48 = .ok (.istore 6, 2) := by decide +kernel
theorem dP_shrinkLine_50 : decode cP_shrinkLine 50 = .ok (.aload_n 0, 1) := by decide +kernel
theorem dP_shrinkLine_51 : decode cP_shrinkLine 51 = .ok (.getfield 9, 3) := by decide +kernel
theorem dP_shrinkLine_54 : decode cP_shrinkLine 54 = .ok (.iload_n 1, 1) := by decide +kernel
theorem dP_shrinkLine_55 : decode cP_shrinkLine 55 = .ok (.iload 4, 2) := by decide +kernel
theorem dP_shrinkLine_57 : decode cP_shrinkLine 57 = .ok (.iload_n 2, 1) := by decide +kernel
theorem dP_shrinkLine_58 : decode cP_shrinkLine 58 = .ok (.imul, 1) := by decide +kernel
theorem dP_shrinkLine_59 : decode cP_shrinkLine 59 = .ok (.iadd, 1) := by decide +kernel
theorem dP_shrinkLine_60 : decode cP_shrinkLine 60 = .ok (.iload 5, 2) := by decide +kernel
theorem dP_shrinkLine_62 : decode cP_shrinkLine 62 = .ok (.iload 6, 2) := by decide +kernel
theorem dP_shrinkLine_64 : decode cP_shrinkLine 64 = .ok (.iadd, 1) := by decide +kernel
theorem dP_shrinkLine_65 : decode cP_shrinkLine 65 = .ok (.iload 4, 2) := by decide +kernel
theorem dP_shrinkLine_67 : decode cP_shrinkLine 67 = .ok (.iconst 2, 1) := by decide +kernel
theorem dP_shrinkLine_68 : decode cP_shrinkLine 68 = .ok (.irem, 1) := by decide +kernel
theorem dP_shrinkLine_69 : decode cP_shrinkLine 69 = .ok (.iadd, 1) := by decide +kernel
theorem dP_shrinkLine_70 : decode cP_shrinkLine 70 = .ok (.iconst 1, 1) := by decide +kernel
theorem dP_shrinkLine_71 : decode cP_shrinkLine 71 = .ok (.ishr, 1) := by decide +kernel
theorem dP_shrinkLine_72 : decode cP_shrinkLine 72 = .ok (.iastore, 1) := by decide +kernel
theorem dP_shrinkLine_73 : decode cP_shrinkLine 73 = .ok (.iinc 4 1, 3) := by decide +kernel
theorem dP_shrinkLine_76 : decode cP_shrinkLine 76 = .ok (.goto (-73), 3) := by decide +kernel
theorem dP_shrinkLine_79 : decode cP_shrinkLine 79 = .ok (.return_, 1) := by decide +kernel
theorem dP_half_0 : decode cP_half 0 = .ok (.iload_n 0, 1) := by decide +kernel
theorem dP_half_1 : decode cP_half 1 = .ok (.iconst 1, 1) := by decide +kernel
theorem dP_half_2 : decode cP_half 2 = .ok (.iadd, 1) := by decide +kernel
theorem dP_half_3 : decode cP_half 3 = .ok (.iconst 2, 1) := by decide +kernel
theorem dP_half_4 : decode cP_half 4 = .ok (.idiv, 1) := by decide +kernel
theorem dP_half_5 : decode cP_half 5 = .ok (.ireturn, 1) := by decide +kernel
theorem dP_shrinkDown_0 : decode cP_shrinkDown 0 = .ok (.iconst 0, 1) := by decide +kernel
theorem dP_shrinkDown_1 : decode cP_shrinkDown 1 = .ok (.istore_n 1, 1) := by decide +kernel
theorem dP_shrinkDown_2 : decode cP_shrinkDown 2 = .ok (.iload_n 1, 1) := by decide +kernel
theorem dP_shrinkDown_3 : decode cP_shrinkDown 3 = .ok (.aload_n 0, 1) := by decide +kernel
theorem dP_shrinkDown_4 : decode cP_shrinkDown 4 = .ok (.getfield 15, 3) := by decide +kernel
theorem dP_shrinkDown_7 : decode cP_shrinkDown 7 = .ok (.if_icmp .ge 24, 3) := by decide +kernel
theorem dP_shrinkDown_10 : decode cP_shrinkDown 10 = .ok (.aload_n 0, 1) := by decide +kernel
theorem dP_shrinkDown_11 : decode cP_shrinkDown 11 = .ok (.iload_n 1, 1) := by decide +kernel
theorem dP_shrinkDown_12 : decode cP_shrinkDown 12 = .ok (.iconst 0, 1) := by decide +kernel
theorem dP_shrinkDown_13 : decode cP_shrinkDown 13 = .ok (.invokestatic 37, 3) := by decide +kernel
theorem dP_shrinkDown_16 : decode cP_shrinkDown 16 = .ok (.bipush 32, 2) := by decide +kernel
theorem dP_shrinkDown_18 : decode cP_shrinkDown 18 = .ok (.aload_n 0, 1) := by decide +kernel
theorem dP_shrinkDown_19 : decode cP_shrinkDown 19 = .ok (.getfield 19, 3) := by decide +kernel
theorem dP_shrinkDown_22 : decode cP_shrinkDown 22 = .ok (.invokevirtual 45, 3) := by decide +kernel
theorem dP_shrinkDown_25 : decode cP_shrinkDown 25 = .ok (.iinc 1 1, 3) := by decide +kernel
theorem dP_shrinkDown_28 : decode cP_shrinkDown 28 = .ok (.goto (-26), 3) := by decide +kernel
theorem dP_shrinkDown_31 : decode cP_shrinkDown 31 = .ok (.aload_n 0, 1) := by decide +kernel
theorem dP_shrinkDown_32 : decode cP_shrinkDown 32 = .ok (.aload_n 0, 1) := by decide +kernel
theorem dP_shrinkDown_33 : decode cP_shrinkDown 33 = .ok (.getfield 19, 3) := by decide +kernel
theorem dP_shrinkDown_36 : decode cP_shrinkDown 36 = .ok (.invokestatic 49, 3) := by decide +kernel
theorem dP_shrinkDown_39 : decode cP_shrinkDown 39 = .ok (.putfield 19, 3) := by decide +kernel
theorem dP_shrinkDown_42 : decode cP_shrinkDown 42 = .ok (.return_, 1) := by decide +kernel
theorem dP_shrinkBoth_0 : decode cP_shrinkBoth 0 = .ok (.iconst 0, 1) := by decide +kernel
theorem dP_shrinkBoth_1 : decode cP_shrinkBoth 1 = .ok (.istore_n 1, 1) := by decide +kernel
theorem dP_shrinkBoth_2 : decode cP_shrinkBoth 2 = .ok (.iload_n 1, 1) := by decide +kernel
theorem dP_shrinkBoth_3 : decode cP_shrinkBoth 3 = .ok (.aload_n 0, 1) := by decide +kernel
theorem dP_shrinkBoth_4 : decode cP_shrinkBoth 4 = .ok (.getfield 19, 3) := by decide +kernel
theorem dP_shrinkBoth_7 : decode cP_shrinkBoth 7 = .ok (.invokestatic 49, 3) := by decide +kernel
theorem dP_shrinkBoth_10 : decode cP_shrinkBoth 10 = .ok (.if_icmp .ge 56, 3) := by decide +kernel
theorem dP_shrinkBoth_13 : decode cP_shrinkBoth 13 = .ok (.iconst 0, 1) := by decide +kernel
theorem dP_shrinkBoth_14 : decode cP_shrinkBoth 14 = .ok (.istore_n 2, 1) := by decide +kernel
theorem dP_shrinkBoth_15 : decode cP_shrinkBoth 15 = .ok (.iload_n 2, 1) := by decide +kernel
theorem dP_shrinkBoth_16 : decode cP_shrinkBoth 16 = .ok (.aload_n 0, 1) := by decide +kernel
theorem dP_shrinkBoth_17 : decode cP_shrinkBoth 17 = .ok (.getfield 15, 3) := by decide +kernel
theorem dP_shrinkBoth_20 : decode cP_shrinkBoth 20 = .ok (.invokestatic 49, 3) := by decide +kernel
theorem dP_shrinkBoth_23 : decode cP_shrinkBoth 23 = .ok (.if_icmp .ge 37, 3) := by decide +kernel
theorem dP_shrinkBoth_26 : decode cP_shrinkBoth 26 = .ok (.aload_n 0, 1) := by decide +kernel
theorem dP_shrinkBoth_27 : decode cP_shrinkBoth 27 = .ok (.getfield 9, 3) := by decide +kernel
theorem dP_shrinkBoth_30 : decode cP_shrinkBoth 30 = .ok (.iload_n 2, 1) := by decide +kernel
theorem dP_shrinkBoth_31 : decode cP_shrinkBoth 31 = .ok (.iload_n 1, 1) := by decide +kernel
theorem dP_shrinkBoth_32 : decode cP_shrinkBoth 32 = .ok (.invokestatic 37, 3) := by decide +kernel
theorem dP_shrinkBoth_35 : decode cP_shrinkBoth 35 = .ok (.aload_n 0, 1) := by decide +kernel
theorem dP_shrinkBoth_36 : decode cP_shrinkBoth 36 = .ok (.iconst 2, 1) := by decide +kernel
theorem dP_shrinkBoth_37 : decode cP_shrinkBoth 37 = .ok (.iload_n 2, 1) := by decide +kernel
theorem dP_shrinkBoth_38 : decode cP_shrinkBoth 38 = .ok (.imul, 1) := by decide +kernel
theorem dP_shrinkBoth_39 : decode cP_shrinkBoth 39 = .ok (.iconst 2, 1) := by decide +kernel
theorem dP_shrinkBoth_40 : decode cP_shrinkBoth 40 = .ok (.iload_n 1, 1) := by decide +kernel
theorem dP_shrinkBoth_41 : decode cP_shrinkBoth 41 = .ok (.imul, 1) := by decide +kernel
theorem dP_shrinkBoth_42 : decode cP_shrinkBoth 42 = .ok (.invokevirtual 58, 3) := by decide +kernel
theorem dP_shrinkBoth_45 : decode cP_shrinkBoth 45 = .ok (.iconst 1, 1) := by decide +kernel
theorem dP_shrinkBoth_46 : decode cP_shrinkBoth 46 = .ok (.iadd, 1) := by decide +kernel
theorem dP_shrinkBoth_47 : decode cP_shrinkBoth 47 = .ok (.iload_n 2, 1) := by decide +kernel
theorem dP_shrinkBoth_48 : decode cP_shrinkBoth 48 = .ok (.iconst 2, 1) := by decide +kernel
theorem dP_shrinkBoth_49 : decode cP_shrinkBoth 49 = .ok (.irem, 1) := by decide +kernel
theorem dP_shrinkBoth_50 : decode cP_shrinkBoth 50 = .ok (.iadd, 1) := by decide +kernel
theorem dP_shrinkBoth_51 : decode cP_shrinkBoth 51 = .ok (.iconst 2, 1) := by decide +kernel
theorem dP_shrinkBoth_52 : decode cP_shrinkBoth 52 = .ok (.ishr, 1) := by decide +kernel
theorem dP_shrinkBoth_53 : decode cP_shrinkBoth 53 = .ok (.iastore, 1) := by decide +kernel
theorem dP_shrinkBoth_54 : decode cP_shrinkBoth 54 = .ok (.iinc 2 1, 3) := by decide +kernel
theorem dP_shrinkBoth_57 : decode cP_shrinkBoth 57 = .ok (.goto (-42), 3) := by decide +kernel
theorem dP_shrinkBoth_60 : decode cP_shrinkBoth 60 = .ok (.iinc 1 1, 3) := by decide +kernel
theorem dP_shrinkBoth_63 : decode cP_shrinkBoth 63 = .ok (.goto (-61), 3) := by decide +kernel
theorem dP_shrinkBoth_66 : decode cP_shrinkBoth 66 = .ok (.aload_n 0, 1) := by decide +kernel
theorem dP_shrinkBoth_67 : decode cP_shrinkBoth 67 = .ok (.aload_n 0, 1) := by decide +kernel
theorem dP_shrinkBoth_68 : decode cP_shrinkBoth 68 = .ok (.getfield 15, 3) := by decide +kernel
theorem dP_shrinkBoth_71 : decode cP_shrinkBoth 71 = .ok (.invokestatic 49, 3) := by decide +kernel
theorem dP_shrinkBoth_74 : decode cP_shrinkBoth 74 = .ok (.putfield 15, 3) := by decide +kernel
theorem dP_shrinkBoth_77 : decode cP_shrinkBoth 77 = .ok (.aload_n 0, 1) := by decide +kernel
theorem dP_shrinkBoth_78 : decode cP_shrinkBoth 78 = .ok (.aload_n 0, 1) := by decide +kernel
theorem dP_shrinkBoth_79 : decode cP_shrinkBoth 79 = .ok (.getfield 19, 3) := by decide +kernel
theorem dP_shrinkBoth_82 : decode cP_shrinkBoth 82 = .ok (.invokestatic 49, 3) := by decide +kernel
theorem dP_shrinkBoth_85 : decode cP_shrinkBoth 85 = .ok (.putfield 19, 3) := by decide +kernel
theorem dP_shrinkBoth_88 : decode cP_shrinkBoth 88 = .ok (.return_, 1) := by decide +kernel
theorem dP_sumOfFour_0 : decode cP_sumOfFour 0 = .ok (.iload_n 1, 1) := by decide +kernel
theorem dP_sumOfFour_1 : decode cP_sumOfFour 1 = .ok (.iconst 1, 1) := by decide +kernel
theorem dP_sumOfFour_2 : decode cP_sumOfFour 2 = .ok (.iadd, 1) := by decide +kernel
theorem dP_sumOfFour_3 : decode cP_sumOfFour 3 = .ok (.aload_n 0, 1) := by decide +kernel
theorem dP_sumOfFour_4 : decode cP_sumOfFour 4 = .ok (.getfield 15, 3) := by decide +kernel
theorem dP_sumOfFour_7 : decode cP_sumOfFour 7 = .ok (.iconst 1, 1) := by decide +kernel
theorem dP_sumOfFour_8 : decode cP_sumOfFour 8 = .ok (.isub, 1) := by decide +kernel
theorem dP_sumOfFour_9 : decode cP_sumOfFour 9 = .ok (.invokestatic 53, 3) := by decide +kernel
theorem dP_sumOfFour_12 : decode cP_sumOfFour 12 = .ok (.istore_n 3, 1) := by decide +kernel
theorem dP_sumOfFour_13 : decode cP_sumOfFour 13 = .ok (.iload_n 2, 1) := by decide +kernel
theorem dP_sumOfFour_14 : decode cP_sumOfFour 14 = .ok (.iconst 1, 1) := by decide +kernel
theorem dP_sumOfFour_15 : decode cP_sumOfFour 15 = .ok (.iadd, 1) := by decide +kernel
theorem dP_sumOfFour_16 : decode cP_sumOfFour 16 = .ok (.aload_n 0, 1) := by decide +kernel
theorem dP_sumOfFour_17 : decode cP_sumOfFour 17 = .ok (.getfield 19, 3) := by decide +kernel
theorem dP_sumOfFour_20 : decode cP_sumOfFour 20 = .ok (.iconst 1, 1) := by decide +kernel
theorem dP_sumOfFour_21 : decode cP_sumOfFour 21 = .ok (.isub, 1) := by decide +kernel
theorem dP_sumOfFour_22 : decode cP_sumOfFour 22 = .ok (.invokestatic 53, 3) := by decide +kernel
theorem dP_sumOfFour_25 : decode cP_sumOfFour 25 = .ok (.istore 4, 2) := by decide +kernel
theorem dP_sumOfFour_27 : decode cP_sumOfFour 27 = .ok (.aload_n 0, 1) := by decide +kernel
theorem dP_sumOfFour_28 : decode cP_sumOfFour 28 = .ok (.getfield 9, 3) := by decide +kernel
theorem dP_sumOfFour_31 : decode cP_sumOfFour 31 = .ok (.iload_n 1, 1) := by decide +kernel
theorem dP_sumOfFour_32 : decode cP_sumOfFour 32 = .ok (.iload_n 2, 1) := by decide +kernel
theorem dP_sumOfFour_33 : decode cP_sumOfFour 33 = .ok (.invokestatic 37, 3) := by decide +kernel
theorem dP_sumOfFour_36 : decode cP_sumOfFour 36 = .ok (.iaload, 1) := by decide +kernel
theorem dP_sumOfFour_37 : decode cP_sumOfFour 37 = .ok (.aload_n 0, 1) := by decide +kernel
theorem dP_sumOfFour_38 : decode cP_sumOfFour 38 = .ok (.getfield 9, 3) := by decide +kernel
theorem dP_sumOfFour_41 : decode cP_sumOfFour 41 = .ok (.iload_n 3, 1) := by decide +kernel
theorem dP_sumOfFour_42 : decode cP_sumOfFour 42 = .ok (.iload_n 2, 1) := by decide +kernel
theorem dP_sumOfFour_43 : decode cP_sumOfFour 43 = .ok (.invokestatic 37, 3) := by decide +kernel
theorem dP_sumOfFour_46 : decode cP_sumOfFour 46 = .ok (.iaload, 1) := by decide +kernel
theorem dP_sumOfFour_47 : decode cP_sumOfFour 47 = .ok (.iadd, 1) := by decide +kernel
theorem dP_sumOfFour_48 : decode cP_sumOfFour 48 = .ok (.aload_n 0, 1) := by decide +kernel
theorem dP_sumOfFour_49 : decode cP_sumOfFour 49 = .ok (.getfield 9, 3) := by decide +kernel
theorem dP_sumOfFour_52 : decode cP_sumOfFour 52 = .ok (.iload_n 1, 1) := by decide +kernel
theorem dP_sumOfFour_53 : decode cP_sumOfFour 53 = .ok (.iload 4, 2) := by decide +kernel
theorem dP_sumOfFour_55 : decode cP_sumOfFour 55 = .ok (.invokestatic 37, 3) := by decide +kernel
theorem dP_sumOfFour_58 : decode cP_sumOfFour 58 = .ok (.iaload, 1) := by decide +kernel
theorem dP_sumOfFour_59 : decode cP_sumOfFour 59 = .ok (.iadd, 1) := by decide +kernel
theorem dP_sumOfFour_60 : decode cP_sumOfFour 60 = .ok (.aload_n 0, 1) := by decide +kernel
theorem dP_sumOfFour_61 : decode cP_sumOfFour 61 = .ok (.getfield 9, 3) := by decide +kernel
theorem dP_sumOfFour_64 : decode cP_sumOfFour 64 = .ok (.iload_n 3, 1) := by decide +kernel
theorem dP_sumOfFour_65 : decode cP_sumOfFour 65 = .ok (.iload 4, 2) := by decide +kernel
theorem dP_sumOfFour_67 : decode cP_sumOfFour 67 = .ok (.invokestatic 37, 3) := by decide +kernel
theorem dP_sumOfFour_70 : decode cP_sumOfFour 70 = .ok (.iaload, 1) := by decide +kernel
theorem dP_sumOfFour_71 : decode cP_sumOfFour 71 = .ok (.iadd, 1) := by decide +kernel
theorem dP_sumOfFour_72 : decode cP_sumOfFour 72 = .ok (.ireturn, 1) := by decide +kernel
theorem dP_becomeLike_0 : decode cP_becomeLike 0 = .ok (.aload_n 1, 1) := by decide +kernel
theorem dP_becomeLike_1 : decode cP_becomeLike 1 = .ok (.getfield 9, 3) := by decide +kernel
theorem dP_becomeLike_4 : decode cP_becomeLike 4 = .ok (.iconst 0, 1) := by decide +kernel
theorem dP_becomeLike_5 : decode cP_becomeLike 5 = .ok (.aload_n 0, 1) := by decide +kernel
theorem dP_becomeLike_6 : decode cP_becomeLike 6 = .ok (.getfield 9, 3) := by decide +kernel
theorem dP_becomeLike_9 : decode cP_becomeLike 9 = .ok (.iconst 0, 1) := by decide +kernel
theorem dP_becomeLike_10 : decode cP_becomeLike 10 = .ok (.aload_n 0, 1) := by decide +kernel
theorem dP_becomeLike_11 : decode cP_becomeLike 11 = .ok (.getfield 9, 3) := by decide +kernel
theorem dP_becomeLike_14 : decode cP_becomeLike 14 = .ok (.arraylength, 1) := by decide +kernel
theorem dP_becomeLike_15 : decode cP_becomeLike 15 = .ok (.invokestatic 31, 3) := by decide +kernel
theorem dP_becomeLike_18 : decode cP_becomeLike 18 = .ok (.aload_n 0, 1) := by decide +kernel
theorem dP_becomeLike_19 : decode cP_becomeLike 19 = .ok (.aload_n 1, 1) := by decide +kernel
theorem dP_becomeLike_20 : decode cP_becomeLike 20 = .ok (.getfield 15, 3) := by decide +kernel
theorem dP_becomeLike_23 : decode cP_becomeLike 23 = .ok (.putfield 15, 3) := by decide +kernel
theorem dP_becomeLike_26 : decode cP_becomeLike 26 = .ok (.aload_n 0, 1) := by decide +kernel
theorem dP_becomeLike_27 : decode cP_becomeLike 27 = .ok (.aload_n 1, 1) := by decide +kernel
theorem dP_becomeLike_28 : decode cP_becomeLike 28 = .ok (.getfield 19, 3) := by decide +kernel
theorem dP_becomeLike_31 : decode cP_becomeLike 31 = .ok (.putfield 19, 3) := by decide +kernel
theorem dP_becomeLike_34 : decode cP_becomeLike 34 = .ok (.return_, 1) := by decide +kernel
theorem dP_widen_0 : decode cP_widen 0 = .ok (.iconst 0, 1) := by decide +kernel
theorem dP_widen_1 : decode cP_widen 1 = .ok (.istore_n 2, 1) := by decide +kernel
theorem dP_widen_2 : decode cP_widen 2 = .ok (.iload_n 2, 1) := by decide +kernel
theorem dP_widen_3 : decode cP_widen 3 = .ok (.aload_n 0, 1) := by decide +kernel
theorem dP_widen_4 : decode cP_widen 4 = .ok (.getfield 19, 3) := by decide +kernel
theorem dP_widen_7 : decode cP_widen 7 = .ok (.if_icmp .ge 55, 3) := by decide +kernel
theorem dP_widen_10 : decode cP_widen 10 = .ok (.aload_n 0, 1) := by decide +kernel
theorem dP_widen_11 : decode cP_widen 11 = .ok (.getfield 9, 3) := by decide +kernel
theorem dP_widen_14 : decode cP_widen 14 = .ok (.aload_n 0, 1) := by decide +kernel
theorem dP_widen_15 : decode cP_widen 15 = .ok (.getfield 15, 3) := by decide +kernel
theorem dP_widen_18 : decode cP_widen 18 = .ok (.iconst 1, 1) := by decide +kernel
theorem dP_widen_19 : decode cP_widen 19 = .ok (.isub, 1) := by decide +kernel
theorem dP_widen_20 : decode cP_widen 20 = .ok (.iload_n 2, 1) := by decide +kernel
theorem dP_widen_21 : decode cP_widen 21 = .ok (.invokestatic 37, 3) := by decide +kernel
theorem dP_widen_24 : decode cP_widen 24 = .ok (.iaload, 1) := by decide +kernel
theorem dP_widen_25 : decode cP_widen 25 = .ok (.istore_n 3, 1) := by decide +kernel
theorem dP_widen_26 : decode cP_widen 26 = .ok (.aload_n 0, 1) := by decide +kernel
theorem dP_widen_27 : decode cP_widen 27 = .ok (.getfield 15, 3) := by decide +kernel
theorem dP_widen_30 : decode cP_widen 30 = .ok (.istore 4, 2) := by decide +kernel
theorem dP_widen_32 : decode cP_widen 32 = .ok (.iload 4, 2) := by decide +kernel
theorem dP_widen_34 : decode cP_widen 34 = .ok (.iload_n 1, 1) := by decide +kernel
theorem dP_widen_35 : decode cP_widen 35 = .ok (.if_icmp .ge 21, 3) := by decide +kernel
theorem dP_widen_38 : decode cP_widen 38 = .ok (.aload_n 0, 1) := by decide +kernel
theorem dP_widen_39 : decode cP_widen 39 = .ok (.getfield 9, 3) := by decide +kernel
theorem dP_widen_42 : decode cP_widen 42 = .ok (.iload 4, 2) := by decide +kernel
theorem dP_widen_44 : decode cP_widen 44 = .ok (.iload_n 2, 1) := by decide +kernel
theorem dP_widen_45 : decode cP_widen 45 = .ok (.invokestatic 37, 3) := by decide +kernel
theorem dP_widen_48 : decode cP_widen 48 = .ok (.iload_n 3, 1) := by decide +kernel
theorem dP_widen_49 : decode cP_widen 49 = .ok (.iastore, 1) := by decide +kernel
theorem dP_widen_50 : decode cP_widen 50 = .ok (.iinc 4 1, 3) := by decide +kernel
theorem dP_widen_53 : decode cP_widen 53 = .ok (.goto (-21), 3) := by decide +kernel
theorem dP_widen_56 : decode cP_widen 56 = .ok (.iinc 2 1, 3) := by decide +kernel
theorem dP_widen_59 : decode cP_widen 59 = .ok (.goto (-57), 3) := by decide +kernel
theorem dP_widen_62 : decode cP_widen 62 = .ok (.aload_n 0, 1) := by decide +kernel
theorem dP_widen_63 : decode cP_widen 63 = .ok (.iload_n 1, 1) := by decide +kernel
theorem dP_widen_64 : decode cP_widen 64 = .ok (.putfield 15, 3) := by decide +kernel
theorem dP_widen_67 : decode cP_widen 67 = .ok (.return_, 1) := by decide +kernel
theorem dP_deepen_0 : decode cP_deepen 0 = .ok (.iconst 0, 1) := by decide +kernel
theorem dP_deepen_1 : decode cP_deepen 1 = .ok (.istore_n 2, 1) := by decide +kernel
theorem dP_deepen_2 : decode cP_deepen 2 = .ok (.iload_n 2, 1) := by decide +kernel
theorem dP_deepen_3 : decode cP_deepen 3 = .ok (.aload_n 0, 1) := by decide +kernel
theorem dP_deepen_4 : decode cP_deepen 4 = .ok (.getfield 15, 3) := by decide +kernel
theorem dP_deepen_7 : decode cP_deepen 7 = .ok (.if_icmp .ge 55, 3) := by decide +kernel
theorem dP_deepen_10 : decode cP_deepen 10 = .ok (.aload_n 0, 1) := by decide +kernel
theorem dP_deepen_11 : decode cP_deepen 11 = .ok (.getfield 9, 3) := by decide +kernel
theorem dP_deepen_14 : decode cP_deepen 14 = .ok (.iload_n 2, 1) := by decide +kernel
theorem dP_deepen_15 : decode cP_deepen 15 = .ok (.aload_n 0, 1) := by decide +kernel
theorem dP_deepen_16 : decode cP_deepen 16 = .ok (.getfield 19, 3) := by decide +kernel
theorem dP_deepen_19 : decode cP_deepen 19 = .ok (.iconst 1, 1) := by decide +kernel
theorem dP_deepen_20 : decode cP_deepen 20 = .ok (.isub, 1) := by decide +kernel
theorem dP_deepen_21 : decode cP_deepen 21 = .ok (.invokestatic 37, 3) := by decide +kernel
theorem dP_deepen_24 : decode cP_deepen 24 = .ok (.iaload, 1) := by decide +kernel
theorem dP_deepen_25 : decode cP_deepen 25 = .ok (.istore_n 3, 1) := by decide +kernel
theorem dP_deepen_26 : decode cP_deepen 26 = .ok (.aload_n 0, 1) := by decide +kernel
theorem dP_deepen_27 : decode cP_deepen 27 = .ok (.getfield 19, 3) := by decide +kernel
theorem dP_deepen_30 : decode cP_deepen 30 = .ok (.istore 4, 2) := by decide +kernel
theorem dP_deepen_32 : decode cP_deepen 32 = .ok (.iload 4, 2) := by decide +kernel
theorem dP_deepen_34 : decode cP_deepen 34 = .ok (.iload_n 1, 1) := by decide +kernel
theorem dP_deepen_35 : decode cP_deepen 35 = .ok (.if_icmp .ge 21, 3) := by decide +kernel
theorem dP_deepen_38 : decode cP_deepen 38 = .ok (.aload_n 0, 1) := by decide +kernel
theorem dP_deepen_39 : decode cP_deepen 39 = .ok (.getfield 9, 3) := by decide +kernel
theorem dP_deepen_42 : decode cP_deepen 42 = .ok (.iload_n 2, 1) := by decide +kernel
theorem dP_deepen_43 : decode cP_deepen 43 = .ok (.iload 4, 2) := by decide +kernel
theorem dP_deepen_45 : decode cP_deepen 45 = .ok (.invokestatic 37, 3) := by decide +kernel
theorem dP_deepen_48 : decode cP_deepen 48 = .ok (.iload_n 3, 1) := by decide +kernel
theorem dP_deepen_49 : decode cP_deepen 49 = .ok (.iastore, 1) := by decide +kernel
theorem dP_deepen_50 : decode cP_deepen 50 = .ok (.iinc 4 1, 3) := by decide +kernel
theorem dP_deepen_53 : decode cP_deepen 53 = .ok (.goto (-21), 3) := by decide +kernel
theorem dP_deepen_56 : decode cP_deepen 56 = .ok (.iinc 2 1, 3) := by decide +kernel
theorem dP_deepen_59 : decode cP_deepen 59 = .ok (.goto (-57), 3) := by decide +kernel
theorem dP_deepen_62 : decode cP_deepen 62 = .ok (.aload_n 0, 1) := by decide +kernel
theorem dP_deepen_63 : decode cP_deepen 63 = .ok (.iload_n 1, 1) := by decide +kernel
theorem dP_deepen_64 : decode cP_deepen 64 = .ok (.putfield 19, 3) := by decide +kernel
theorem dP_deepen_67 : decode cP_deepen 67 = .ok (.return_, 1) := by decide +kernel
theorem dP_greatestDifference_0 : decode cP_greatestDifference 0 = .ok (.iconst 0, 1) := by decide +kernel
theorem dP_greatestDifference_1 : decode cP_greatestDifference 1 = .ok (.istore_n 2, 1) := by decide +kernel
theorem dP_greatestDifference_2 : decode cP_greatestDifference 2 = .ok (.iconst 0, 1) := by decide +kernel
theorem dP_greatestDifference_3 : decode cP_greatestDifference 3 = .ok (.istore_n 3, 1) := by decide +kernel
theorem dP_greatestDifference_4 : decode cP_greatestDifference 4 = .ok (.iload_n 3, 1) := by decide +kernel
theorem dP_greatestDifference_5 : decode cP_greatestDifference 5 = .ok (.aload_n 0, 1) := by decide +kernel
theorem dP_greatestDifference_6 : decode cP_greatestDifference 6 = .ok (.getfield 19, 3) := by decide +kernel
theorem dP_greatestDifference_9 : decode cP_greatestDifference 9 = .ok (.if_icmp .ge 58, 3) := by decide +kernel
theorem dP_greatestDifference_12 : decode cP_greatestDifference 12 = .ok (.iconst 0, 1) := by decide +kernel
theorem dP_greatestDifference_13 : decode cP_greatestDifference 13 = .ok (.istore 4, 2) := by decide +kernel
theorem dP_greatestDifference_15 : decode cP_greatestDifference 15 = .ok (.iload 4, 2) := by decide +kernel
theorem dP_greatestDifference_17 : decode cP_greatestDifference 17 = .ok (.aload_n 0, 1) := by decide +kernel
theorem dP_greatestDifference_18 : decode cP_greatestDifference 18 = .ok (.getfield 15, 3) := by decide +kernel
theorem dP_greatestDifference_21 : decode cP_greatestDifference 21 = .ok (.if_icmp .ge 40, 3) := by decide +kernel
theorem dP_greatestDifference_24 : decode cP_greatestDifference 24 = .ok (.iload 4, 2) := by decide +kernel
theorem dP_greatestDifference_26 : decode cP_greatestDifference 26 = .ok (.iload_n 3, 1) := by decide +kernel
theorem dP_greatestDifference_27 : decode cP_greatestDifference 27 = .ok (.invokestatic 37, 3) := by decide +kernel
theorem dP_greatestDifference_30 : decode cP_greatestDifference 30 = .ok (.istore 5, 2) := by decide +kernel
theorem dP_greatestDifference_32 : decode cP_greatestDifference 32 = .ok (.iload_n 2, 1) := by decide +kernel
theorem dP_greatestDifference_33 : decode cP_greatestDifference 33 = .ok (.aload_n 0, 1) := by decide +kernel
theorem dP_greatestDifference_34 : decode cP_greatestDifference 34 = .ok (.getfield 9, 3) := by decide +kernel
theorem dP_greatestDifference_37 : decode cP_greatestDifference 37 = .ok (.iload 5, 2) := by decide +kernel
theorem dP_greatestDifference_39 : decode cP_greatestDifference 39 = .ok (.iaload, 1) := by decide +kernel
theorem dP_greatestDifference_40 : decode cP_greatestDifference 40 = .ok (.aload_n 1, 1) := by decide +kernel
theorem dP_greatestDifference_41 : decode cP_greatestDifference 41 = .ok (.getfield 9, 3) := by decide +kernel
theorem dP_greatestDifference_44 : decode cP_greatestDifference 44 = .ok (.iload 5, 2) := by decide +kernel
theorem dP_greatestDifference_46 : decode cP_greatestDifference 46 = .ok (.iaload, 1) := by decide +kernel
theorem dP_greatestDifference_47 : decode cP_greatestDifference 47 = .ok (.isub, 1) := by decide +kernel
theorem dP_greatestDifference_48 : decode cP_greatestDifference 48 = .ok (.invokestatic 61, 3) := by decide +kernel
theorem dP_greatestDifference_51 : decode cP_greatestDifference 51 = .ok (.invokestatic 64, 3) := by decide +kernel
theorem dP_greatestDifference_54 : decode cP_greatestDifference 54 = .ok (.istore_n 2, 1) := by decide +kernel
theorem dP_greatestDifference_55 : decode cP_greatestDifference 55 = .ok (.iinc 4 1, 3) := by decide +kernel
theorem dP_greatestDifference_58 : decode cP_greatestDifference 58 = .ok (.goto (-43), 3) := by decide +kernel
theorem dP_greatestDifference_61 : decode cP_greatestDifference 61 = .ok (.iinc 3 1, 3) := by decide +kernel
theorem dP_greatestDifference_64 : decode cP_greatestDifference 64 = .ok (.goto (-60), 3) := by decide +kernel
theorem dP_greatestDifference_67 : decode cP_greatestDifference 67 = .ok (.iload_n 2, 1) := by decide +kernel
theorem dP_greatestDifference_68 : decode cP_greatestDifference 68 = .ok (.ireturn, 1) := by decide +kernel
theorem dP_sum_0 : decode cP_sum 0 = .ok (.iconst 0, 1) := by decide +kernel
theorem dP_sum_1 : decode cP_sum 1 = .ok (.istore_n 1, 1) := by decide +kernel
theorem dP_sum_2 : decode cP_sum 2 = .ok (.iconst 0, 1) := by decide +kernel
theorem dP_sum_3 : decode cP_sum 3 = .ok (.istore_n 2, 1) := by decide +kernel
theorem dP_sum_4 : decode cP_sum 4 = .ok (.iload_n 2, 1) := by decide +kernel
theorem dP_sum_5 : decode cP_sum 5 = .ok (.aload_n 0, 1) := by decide +kernel
theorem dP_sum_6 : decode cP_sum 6 = .ok (.getfield 19, 3) := by decide +kernel
theorem dP_sum_9 : decode cP_sum 9 = .ok (.if_icmp .ge 38, 3) := by decide +kernel
theorem dP_sum_12 : decode cP_sum 12 = .ok (.iconst 0, 1) := by decide +kernel
theorem dP_sum_13 : decode cP_sum 13 = .ok (.istore_n 3, 1) := by decide +kernel
theorem dP_sum_14 : decode cP_sum 14 = .ok (.iload_n 3, 1) := by decide +kernel
theorem dP_sum_15 : decode cP_sum 15 = .ok (.aload_n 0, 1) := by decide +kernel
theorem dP_sum_16 : decode cP_sum 16 = .ok (.getfield 15, 3) := by decide +kernel
theorem dP_sum_19 : decode cP_sum 19 = .ok (.if_icmp .ge 22, 3) := by decide +kernel
theorem dP_sum_22 : decode cP_sum 22 = .ok (.iload_n 1, 1) := by decide +kernel
theorem dP_sum_23 : decode cP_sum 23 = .ok (.aload_n 0, 1) := by decide +kernel
theorem dP_sum_24 : decode cP_sum 24 = .ok (.getfield 9, 3) := by decide +kernel
theorem dP_sum_27 : decode cP_sum 27 = .ok (.iload_n 3, 1) := by decide +kernel
theorem dP_sum_28 : decode cP_sum 28 = .ok (.iload_n 2, 1) := by decide +kernel
theorem dP_sum_29 : decode cP_sum 29 = .ok (.invokestatic 37, 3) := by decide +kernel
theorem dP_sum_32 : decode cP_sum 32 = .ok (.iaload, 1) := by decide +kernel
theorem dP_sum_33 : decode cP_sum 33 = .ok (.iadd, 1) := by decide +kernel
theorem dP_sum_34 : decode cP_sum 34 = .ok (.istore_n 1, 1) := by decide +kernel
theorem dP_sum_35 : decode cP_sum 35 = .ok (.iinc 3 1, 3) := by decide +kernel
theorem dP_sum_38 : decode cP_sum 38 = .ok (.goto (-24), 3) := by decide +kernel
theorem dP_sum_41 : decode cP_sum 41 = .ok (.iinc 2 1, 3) := by decide +kernel
theorem dP_sum_44 : decode cP_sum 44 = .ok (.goto (-40), 3) := by decide +kernel
theorem dP_sum_47 : decode cP_sum 47 = .ok (.iload_n 1, 1) := by decide +kernel
theorem dP_sum_48 : decode cP_sum 48 = .ok (.ireturn, 1) := by decide +kernel
theorem dP_least_0 : decode cP_least 0 = .ok (.sipush 255, 3) := by decide +kernel
theorem dP_least_3 : decode cP_least 3 = .ok (.istore_n 1, 1) := by decide +kernel
theorem dP_least_4 : decode cP_least 4 = .ok (.iconst 0, 1) := by decide +kernel
theorem dP_least_5 : decode cP_least 5 = .ok (.istore_n 2, 1) := by decide +kernel
theorem dP_least_6 : decode cP_least 6 = .ok (.iload_n 2, 1) := by decide +kernel
theorem dP_least_7 : decode cP_least 7 = .ok (.aload_n 0, 1) := by decide +kernel
theorem dP_least_8 : decode cP_least 8 = .ok (.getfield 19, 3) := by decide +kernel
theorem dP_least_11 : decode cP_least 11 = .ok (.if_icmp .ge 40, 3) := by decide +kernel
theorem dP_least_14 : decode cP_least 14 = .ok (.iconst 0, 1) := by decide +kernel
theorem dP_least_15 : decode cP_least 15 = .ok (.istore_n 3, 1) := by decide +kernel
theorem dP_least_16 : decode cP_least 16 = .ok (.iload_n 3, 1) := by decide +kernel
theorem dP_least_17 : decode cP_least 17 = .ok (.aload_n 0, 1) := by decide +kernel
theorem dP_least_18 : decode cP_least 18 = .ok (.getfield 15, 3) := by decide +kernel
theorem dP_least_21 : decode cP_least 21 = .ok (.if_icmp .ge 24, 3) := by decide +kernel
theorem dP_least_24 : decode cP_least 24 = .ok (.iload_n 1, 1) := by decide +kernel
theorem dP_least_25 : decode cP_least 25 = .ok (.aload_n 0, 1) := by decide +kernel
theorem dP_least_26 : decode cP_least 26 = .ok (.getfield 9, 3) := by decide +kernel
theorem dP_least_29 : decode cP_least 29 = .ok (.iload_n 3, 1) := by decide +kernel
theorem dP_least_30 : decode cP_least 30 = .ok (.iload_n 2, 1) := by decide +kernel
theorem dP_least_31 : decode cP_least 31 = .ok (.invokestatic 37, 3) := by decide +kernel
theorem dP_least_34 : decode cP_least 34 = .ok (.iaload, 1) := by decide +kernel
theorem dP_least_35 : decode cP_least 35 = .ok (.invokestatic 53, 3) := by decide +kernel
theorem dP_least_38 : decode cP_least 38 = .ok (.istore_n 1, 1) := by decide +kernel
theorem dP_least_39 : decode cP_least 39 = .ok (.iinc 3 1, 3) := by decide +kernel
theorem dP_least_42 : decode cP_least 42 = .ok (.goto (-26), 3) := by decide +kernel
theorem dP_least_45 : decode cP_least 45 = .ok (.iinc 2 1, 3) := by decide +kernel
theorem dP_least_48 : decode cP_least 48 = .ok (.goto (-42), 3) := by decide +kernel
theorem dP_least_51 : decode cP_least 51 = .ok (.iload_n 1, 1) := by decide +kernel
theorem dP_least_52 : decode cP_least 52 = .ok (.ireturn, 1) := by decide +kernel
theorem dP_greatest_0 : decode cP_greatest 0 = .ok (.iconst 0, 1) := by decide +kernel
theorem dP_greatest_1 : decode cP_greatest 1 = .ok (.istore_n 1, 1) := by decide +kernel
theorem dP_greatest_2 : decode cP_greatest 2 = .ok (.iconst 0, 1) := by decide +kernel
theorem dP_greatest_3 : decode cP_greatest 3 = .ok (.istore_n 2, 1) := by decide +kernel
theorem dP_greatest_4 : decode cP_greatest 4 = .ok (.iload_n 2, 1) := by decide +kernel
theorem dP_greatest_5 : decode cP_greatest 5 = .ok (.aload_n 0, 1) := by decide +kernel
theorem dP_greatest_6 : decode cP_greatest 6 = .ok (.getfield 19, 3) := by decide +kernel
theorem dP_greatest_9 : decode cP_greatest 9 = .ok (.if_icmp .ge 40, 3) := by decide +kernel
theorem dP_greatest_12 : decode cP_greatest 12 = .ok (.iconst 0, 1) := by decide +kernel
theorem dP_greatest_13 : decode cP_greatest 13 = .ok (.istore_n 3, 1) := by decide +kernel
theorem dP_greatest_14 : decode cP_greatest 14 = .ok (.iload_n 3, 1) := by decide +kernel
theorem dP_greatest_15 : decode cP_greatest 15 = .ok (.aload_n 0, 1) := by decide +kernel
theorem dP_greatest_16 : decode cP_greatest 16 = .ok (.getfield 15, 3) := by decide +kernel
theorem dP_greatest_19 : decode cP_greatest 19 = .ok (.if_icmp .ge 24, 3) := by decide +kernel
theorem dP_greatest_22 : decode cP_greatest 22 = .ok (.iload_n 1, 1) := by decide +kernel
theorem dP_greatest_23 : decode cP_greatest 23 = .ok (.aload_n 0, 1) := by decide +kernel
theorem dP_greatest_24 : decode cP_greatest 24 = .ok (.getfield 9, 3) := by decide +kernel
theorem dP_greatest_27 : decode cP_greatest 27 = .ok (.iload_n 3, 1) := by decide +kernel
theorem dP_greatest_28 : decode cP_greatest 28 = .ok (.iload_n 2, 1) := by decide +kernel
theorem dP_greatest_29 : decode cP_greatest 29 = .ok (.invokestatic 37, 3) := by decide +kernel
theorem dP_greatest_32 : decode cP_greatest 32 = .ok (.iaload, 1) := by decide +kernel
theorem dP_greatest_33 : decode cP_greatest 33 = .ok (.invokestatic 64, 3) := by decide +kernel
theorem dP_greatest_36 : decode cP_greatest 36 = .ok (.istore_n 1, 1) := by decide +kernel
theorem dP_greatest_37 : decode cP_greatest 37 = .ok (.iinc 3 1, 3) := by decide +kernel
theorem dP_greatest_40 : decode cP_greatest 40 = .ok (.goto (-26), 3) := by decide +kernel
theorem dP_greatest_43 : decode cP_greatest 43 = .ok (.iinc 2 1, 3) := by decide +kernel
theorem dP_greatest_46 : decode cP_greatest 46 = .ok (.goto (-42), 3) := by decide +kernel
theorem dP_greatest_49 : decode cP_greatest 49 = .ok (.iload_n 1, 1) := by decide +kernel
theorem dP_greatest_50 : decode cP_greatest 50 = .ok (.ireturn, 1) := by decide +kernel
end
section
theorem dT_init_0 : decode cT_init 0 = .ok (.aload_n 0, 1) := by decide +kernel
theorem dT_init_1 : decode cT_init 1 = .ok (.invokespecial 1, 3) := by decide +kernel
theorem dT_init_4 : decode cT_init 4 = .ok (.aload_n 0, 1) := by decide +kernel
theorem dT_init_5 : decode cT_init 5 = .ok (.iconst 4, 1) := by decide +kernel
theorem dT_init_6 : decode cT_init 6 = .ok (.anewarray 9, 3) := by decide +kernel
theorem dT_init_9 : decode cT_init 9 = .ok (.putfield 11, 3) := by decide +kernel
theorem dT_init_12 : decode cT_init 12 = .ok (.iconst 0, 1) := by decide +kernel
theorem dT_init_13 : decode cT_init 13 = .ok (.istore_n 1, 1) := by decide +kernel
theorem dT_init_14 : decode cT_init 14 = .ok (.iload_n 1, 1) := by decide +kernel
theorem dT_init_15 : decode cT_init 15 = .ok (.iconst 4, 1) := by decide +kernel
theorem dT_init_16 : decode cT_init 16 = .ok (.if_icmp .ge 22, 3) := by decide +kernel
theorem dT_init_19 : decode cT_init 19 = .ok (.aload_n 0, 1) := by decide +kernel
theorem dT_init_20 : decode cT_init 20 = .ok (.getfield 11, 3) := by decide +kernel
theorem dT_init_23 : decode cT_init 23 = .ok (.iload_n 1, 1) := by decide +kernel
theorem dT_init_24 : decode cT_init 24 = .ok (.new 9, 3) := by decide +kernel
theorem dT_init_27 : decode cT_init 27 = .ok (.dup, 1) := by decide +kernel
theorem dT_init_28 : decode cT_init 28 = .ok (.invokespecial 15, 3) := by decide +kernel
theorem dT_init_31 : decode cT_init 31 = .ok (.aastore, 1) := by decide +kernel
theorem dT_init_32 : decode cT_init 32 = .ok (.iinc 1 1, 3) := by decide +kernel
theorem dT_init_35 : decode cT_init 35 = .ok (.goto (-21), 3) := by decide +kernel
theorem dT_init_38 : decode cT_init 38 = .ok (.return_, 1) := by decide +kernel
theorem dT_mix_0 : decode cT_mix 0 = .ok (.iload_n 1, 1) := by decide +kernel
theorem dT_mix_1 : decode cT_mix 1 = .ok (.ifCond .lt 9, 3) := by decide +kernel
theorem dT_mix_4 : decode cT_mix 4 = .ok (.iload_n 1, 1) := by decide +kernel
theorem dT_mix_5 : decode cT_mix 5 = .ok (.bipush 6, 2) := by decide +kernel
theorem dT_mix_7 : decode cT_mix 7 = .ok (.if_icmp .le 5, 3) := by decide +kernel
theorem dT_mix_10 : decode cT_mix 10 = .ok (.iconst 0, 1) := by decide +kernel
theorem dT_mix_11 : decode cT_mix 11 = .ok (.ireturn, 1) := by decide +kernel
theorem dT_mix_12 : decode cT_mix 12 = .ok (.aload_n 0, 1) := by decide +kernel
theorem dT_mix_13 : decode cT_mix 13 = .ok (.iload_n 1, 1) := by decide +kernel
theorem dT_mix_14 : decode cT_mix 14 = .ok (.iconst 3, 1) := by decide +kernel
theorem dT_mix_15 : decode cT_mix 15 = .ok (.if_icmp .ne 7, 3) := by decide +kernel
theorem dT_mix_18 : decode cT_mix 18 = .ok (.iconst 4, 1) := by decide +kernel
theorem dT_mix_19 : decode cT_mix 19 = .ok (.goto 4, 3) := by decide +kernel
theorem dT_mix_22 : decode cT_mix 22 = .ok (.iconst 3, 1) := by decide +kernel
theorem dT_mix_23 : decode cT_mix 23 = .ok (.invokevirtual 72, 3) := by decide +kernel
theorem dT_mix_26 : decode cT_mix 26 = .ok (.ifCond .ne 5, 3) := by decide +kernel
theorem dT_mix_29 : decode cT_mix 29 = .ok (.iconst 0, 1) := by decide +kernel
theorem dT_mix_30 : decode cT_mix 30 = .ok (.ireturn, 1) := by decide +kernel
theorem dT_mix_31 : decode cT_mix 31 = .ok (.iconst 0, 1) := by decide +kernel
theorem dT_mix_32 : decode cT_mix 32 = .ok (.istore_n 2, 1) := by decide +kernel
theorem dT_mix_33 : decode cT_mix 33 = .ok (.iload_n 2, 1) := by decide +kernel
theorem dT_mix_34 : decode cT_mix 34 = .ok (.aload_n 0, 1) := by decide +kernel
theorem dT_mix_35 : decode cT_mix 35 = .ok (.getfield 11, 3) := by decide +kernel
theorem dT_mix_38 : decode cT_mix 38 = .ok (.iconst 0, 1) := by decide +kernel
theorem dT_mix_39 : decode cT_mix 39 = .ok (.aaload, 1) := by decide +kernel
theorem dT_mix_40 : decode cT_mix 40 = .ok (.getfield 53, 3) := by decide +kernel
theorem dT_mix_43 : decode cT_mix 43 = .ok (.if_icmp .ge 40, 3) := by decide +kernel
theorem dT_mix_46 : decode cT_mix 46 = .ok (.iconst 0, 1) := by decide +kernel
theorem dT_mix_47 : decode cT_mix 47 = .ok (.istore_n 3, 1) := by decide +kernel
theorem dT_mix_48 : decode cT_mix 48 = .ok (.iload_n 3, 1) := by decide +kernel
theorem dT_mix_49 : decode cT_mix 49 = .ok (.aload_n 0, 1) := by decide +kernel
theorem dT_mix_50 : decode cT_mix 50 = .ok (.getfield 11, 3) := by decide +kernel
theorem dT_mix_53 : decode cT_mix 53 = .ok (.iconst 0, 1) := by decide +kernel
theorem dT_mix_54 : decode cT_mix 54 = .ok (.aaload, 1) := by decide +kernel
theorem dT_mix_55 : decode cT_mix 55 = .ok (.getfield 45, 3) := by decide +kernel
theorem dT_mix_58 : decode cT_mix 58 = .ok (.if_icmp .ge 19, 3) := by decide +kernel
theorem dT_mix_61 : decode cT_mix 61 = .ok (.aload_n 0, 1) := by decide +kernel
theorem dT_mix_62 : decode cT_mix 62 = .ok (.iload_n 1, 1) := by decide +kernel
theorem dT_mix_63 : decode cT_mix 63 = .ok (.iload_n 3, 1) := by decide +kernel
theorem dT_mix_64 : decode cT_mix 64 = .ok (.iload_n 2, 1) := by decide +kernel
theorem dT_mix_65 : decode cT_mix 65 = .ok (.invokestatic 41, 3) := by decide +kernel
theorem dT_mix_68 : decode cT_mix 68 = .ok (.invokevirtual 76, 3) := by decide +kernel
theorem dT_mix_71 : decode cT_mix 71 = .ok (.iinc 3 1, 3) := by decide +kernel
theorem dT_mix_74 : decode cT_mix 74 = .ok (.goto (-26), 3) := by decide +kernel
theorem dT_mix_77 : decode cT_mix 77 = .ok (.iinc 2 1, 3) := by decide +kernel
theorem dT_mix_80 : decode cT_mix 80 = .ok (.goto (-47), 3) := by decide +kernel
theorem dT_mix_83 : decode cT_mix 83 = .ok (.iconst 1, 1) := by decide +kernel
theorem dT_mix_84 : decode cT_mix 84 = .ok (.ireturn, 1) := by decide +kernel
theorem dT_firstAreOfOneSize_0 : decode cT_firstAreOfOneSize 0 = .ok (.iconst 1, 1) := by decide +kernel
theorem dT_firstAreOfOneSize_1 : decode cT_firstAreOfOneSize 1 = .ok (.istore_n 2, 1) := by decide +kernel
theorem dT_firstAreOfOneSize_2 : decode cT_firstAreOfOneSize 2 = .ok (.iload_n 2, 1) := by decide +kernel
theorem dT_firstAreOfOneSize_3 : decode cT_firstAreOfOneSize 3 = .ok (.iload_n 1, 1) := by decide +kernel
theorem dT_firstAreOfOneSize_4 : decode cT_firstAreOfOneSize 4 = .ok (.if_icmp .ge 29, 3) := by decide +kernel
theorem dT_firstAreOfOneSize_7 : decode cT_firstAreOfOneSize 7 = .ok (.aload_n 0, 1) := by decide +kernel
theorem dT_firstAreOfOneSize_8 : decode cT_firstAreOfOneSize 8 = .ok (.getfield 11, 3) := by decide +kernel
theorem dT_firstAreOfOneSize_11 : decode cT_firstAreOfOneSize 11 = .ok (.iload_n 2, 1) := by decide +kernel
theorem dT_firstAreOfOneSize_12 : decode cT_firstAreOfOneSize 12 = .ok (.aaload, 1) := by decide +kernel
theorem dT_firstAreOfOneSize_13 : decode cT_firstAreOfOneSize 13 = .ok (.aload_n 0, 1) := by decide +kernel
theorem dT_firstAreOfOneSize_14 : decode cT_firstAreOfOneSize 14 = .ok (.getfield 11, 3) := by decide +kernel
theorem dT_firstAreOfOneSize_17 : decode cT_firstAreOfOneSize 17 = .ok (.iconst 0, 1) := by decide +kernel
theorem dT_firstAreOfOneSize_18 : decode cT_firstAreOfOneSize 18 = .ok (.aaload, 1) := by decide +kernel
theorem dT_firstAreOfOneSize_19 : decode cT_firstAreOfOneSize 19 = .ok (.invokevirtual 94, 3) := by decide +kernel
theorem dT_firstAreOfOneSize_22 : decode cT_firstAreOfOneSize 22 = .ok (.ifCond .ne 5, 3) := by decide +kernel
theorem dT_firstAreOfOneSize_25 : decode cT_firstAreOfOneSize 25 = .ok (.iconst 0, 1) := by decide +kernel
theorem dT_firstAreOfOneSize_26 : decode cT_firstAreOfOneSize 26 = .ok (.ireturn, 1) := by decide +kernel
theorem dT_firstAreOfOneSize_27 : decode cT_firstAreOfOneSize 27 = .ok (.iinc 2 1, 3) := by decide +kernel
theorem dT_firstAreOfOneSize_30 : decode cT_firstAreOfOneSize 30 = .ok (.goto (-28), 3) := by decide +kernel
theorem dT_firstAreOfOneSize_33 : decode cT_firstAreOfOneSize 33 = .ok (.iconst 1, 1) := by decide +kernel
theorem dT_firstAreOfOneSize_34 : decode cT_firstAreOfOneSize 34 = .ok (.ireturn, 1) := by decide +kernel
theorem dT_placeOf_0 : decode cT_placeOf 0 = .ok (.iload_n 1, 1) := by decide +kernel
theorem dT_placeOf_1 : decode cT_placeOf 1 = .ok (.bipush 32, 2) := by decide +kernel
theorem dT_placeOf_3 : decode cT_placeOf 3 = .ok (.imul, 1) := by decide +kernel
theorem dT_placeOf_4 : decode cT_placeOf 4 = .ok (.iload_n 0, 1) := by decide +kernel
theorem dT_placeOf_5 : decode cT_placeOf 5 = .ok (.iadd, 1) := by decide +kernel
theorem dT_placeOf_6 : decode cT_placeOf 6 = .ok (.ireturn, 1) := by decide +kernel
theorem dT_mixPlace_0 : decode cT_mixPlace 0 = .ok (.iload_n 1, 1) := by decide +kernel
theorem dT_mixPlace_1 : decode cT_mixPlace 1 = .ok (.tableswitch 109 0 6 #[43, 51, 59, 67, 75, 83, 96], 43) := by decide +kernel
theorem dT_mixPlace_44 : decode cT_mixPlace 44 = .ok (.aload_n 0, 1) := by decide +kernel
theorem dT_mixPlace_45 : decode cT_mixPlace 45 = .ok (.iload_n 2, 1) := by decide +kernel
theorem dT_mixPlace_46 : decode cT_mixPlace 46 = .ok (.invokevirtual 119, 3) := by decide +kernel
theorem dT_mixPlace_49 : decode cT_mixPlace 49 = .ok (.goto 61, 3) := by decide +kernel
theorem dT_mixPlace_52 : decode cT_mixPlace 52 = .ok (.aload_n 0, 1) := by decide +kernel
theorem dT_mixPlace_53 : decode cT_mixPlace 53 = .ok (.iload_n 2, 1) := by decide +kernel
theorem dT_mixPlace_54 : decode cT_mixPlace 54 = .ok (.invokevirtual 122, 3) := by decide +kernel
theorem dT_mixPlace_57 : decode cT_mixPlace 57 = .ok (.goto 53, 3) := by decide +kernel
theorem dT_mixPlace_60 : decode cT_mixPlace 60 = .ok (.aload_n 0, 1) := by decide +kernel
theorem dT_mixPlace_61 : decode cT_mixPlace 61 = .ok (.iload_n 2, 1) := by decide +kernel
theorem dT_mixPlace_62 : decode cT_mixPlace 62 = .ok (.invokevirtual 125, 3) := by decide +kernel
theorem dT_mixPlace_65 : decode cT_mixPlace 65 = .ok (.goto 45, 3) := by decide +kernel
theorem dT_mixPlace_68 : decode cT_mixPlace 68 = .ok (.aload_n 0, 1) := by decide +kernel
theorem dT_mixPlace_69 : decode cT_mixPlace 69 = .ok (.iload_n 2, 1) := by decide +kernel
theorem dT_mixPlace_70 : decode cT_mixPlace 70 = .ok (.invokevirtual 128, 3) := by decide +kernel
theorem dT_mixPlace_73 : decode cT_mixPlace 73 = .ok (.goto 37, 3) := by decide +kernel
theorem dT_mixPlace_76 : decode cT_mixPlace 76 = .ok (.aload_n 0, 1) := by decide +kernel
theorem dT_mixPlace_77 : decode cT_mixPlace 77 = .ok (.iload_n 2, 1) := by decide +kernel
theorem dT_mixPlace_78 : decode cT_mixPlace 78 = .ok (.invokevirtual 131, 3) := by decide +kernel
theorem dT_mixPlace_81 : decode cT_mixPlace 81 = .ok (.goto 29, 3) := by decide +kernel
theorem dT_mixPlace_84 : decode cT_mixPlace 84 = .ok (.aload_n 0, 1) := by decide +kernel
theorem dT_mixPlace_85 : decode cT_mixPlace 85 = .ok (.iload_n 2, 1) := by decide +kernel
theorem dT_mixPlace_86 : decode cT_mixPlace 86 = .ok (.invokevirtual 119, 3) := by decide +kernel
theorem dT_mixPlace_89 : decode cT_mixPlace 89 = .ok (.aload_n 0, 1) := by decide +kernel
theorem dT_mixPlace_90 : decode cT_mixPlace 90 = .ok (.iload_n 2, 1) := by decide +kernel
theorem dT_mixPlace_91 : decode cT_mixPlace 91 = .ok (.invokevirtual 125, 3) := by decide +kernel
theorem dT_mixPlace_94 : decode cT_mixPlace 94 = .ok (.goto 16, 3) := by decide +kernel
theorem dT_mixPlace_97 : decode cT_mixPlace 97 = .ok (.aload_n 0, 1) := by decide +kernel
theorem dT_mixPlace_98 : decode cT_mixPlace 98 = .ok (.iload_n 2, 1) := by decide +kernel
theorem dT_mixPlace_99 : decode cT_mixPlace 99 = .ok (.invokevirtual 125, 3) := by decide +kernel
theorem dT_mixPlace_102 : decode cT_mixPlace 102 = .ok (.aload_n 0, 1) := by decide +kernel
theorem dT_mixPlace_103 : decode cT_mixPlace 103 = .ok (.iload_n 2, 1) := by decide +kernel
theorem dT_mixPlace_104 : decode cT_mixPlace 104 = .ok (.invokevirtual 122, 3) := by decide +kernel
theorem dT_mixPlace_107 : decode cT_mixPlace 107 = .ok (.goto 3, 3) := by decide +kernel
theorem dT_mixPlace_110 : decode cT_mixPlace 110 = .ok (.return_, 1) := by decide +kernel
theorem dT_open_0 : decode cT_open 0 = .ok (.aload_n 0, 1) := by decide +kernel
theorem dT_open_1 : decode cT_open 1 = .ok (.getfield 11, 3) := by decide +kernel
theorem dT_open_4 : decode cT_open 4 = .ok (.iconst 0, 1) := by decide +kernel
theorem dT_open_5 : decode cT_open 5 = .ok (.aaload, 1) := by decide +kernel
theorem dT_open_6 : decode cT_open 6 = .ok (.getfield 37, 3) := by decide +kernel
theorem dT_open_9 : decode cT_open 9 = .ok (.iload_n 1, 1) := by decide +kernel
theorem dT_open_10 : decode cT_open 10 = .ok (.iaload, 1) := by decide +kernel
theorem dT_open_11 : decode cT_open 11 = .ok (.istore_n 2, 1) := by decide +kernel
theorem dT_open_12 : decode cT_open 12 = .ok (.aload_n 0, 1) := by decide +kernel
theorem dT_open_13 : decode cT_open 13 = .ok (.getfield 11, 3) := by decide +kernel
theorem dT_open_16 : decode cT_open 16 = .ok (.iconst 1, 1) := by decide +kernel
theorem dT_open_17 : decode cT_open 17 = .ok (.aaload, 1) := by decide +kernel
theorem dT_open_18 : decode cT_open 18 = .ok (.getfield 37, 3) := by decide +kernel
theorem dT_open_21 : decode cT_open 21 = .ok (.iload_n 1, 1) := by decide +kernel
theorem dT_open_22 : decode cT_open 22 = .ok (.iaload, 1) := by decide +kernel
theorem dT_open_23 : decode cT_open 23 = .ok (.sipush 128, 3) := by decide +kernel
theorem dT_open_26 : decode cT_open 26 = .ok (.isub, 1) := by decide +kernel
theorem dT_open_27 : decode cT_open 27 = .ok (.istore_n 3, 1) := by decide +kernel
theorem dT_open_28 : decode cT_open 28 = .ok (.aload_n 0, 1) := by decide +kernel
theorem dT_open_29 : decode cT_open 29 = .ok (.getfield 11, 3) := by decide +kernel
theorem dT_open_32 : decode cT_open 32 = .ok (.iconst 2, 1) := by decide +kernel
theorem dT_open_33 : decode cT_open 33 = .ok (.aaload, 1) := by decide +kernel
theorem dT_open_34 : decode cT_open 34 = .ok (.getfield 37, 3) := by decide +kernel
theorem dT_open_37 : decode cT_open 37 = .ok (.iload_n 1, 1) := by decide +kernel
theorem dT_open_38 : decode cT_open 38 = .ok (.iaload, 1) := by decide +kernel
theorem dT_open_39 : decode cT_open 39 = .ok (.sipush 128, 3) := by decide +kernel
theorem dT_open_42 : decode cT_open 42 = .ok (.isub, 1) := by decide +kernel
theorem dT_open_43 : decode cT_open 43 = .ok (.istore 4, 2) := by decide +kernel
theorem dT_open_45 : decode cT_open 45 = .ok (.aload_n 0, 1) := by decide +kernel
theorem dT_open_46 : decode cT_open 46 = .ok (.iload_n 1, 1) := by decide +kernel
theorem dT_open_47 : decode cT_open 47 = .ok (.iload_n 2, 1) := by decide +kernel
theorem dT_open_48 : decode cT_open 48 = .ok (.ldc 134, 2) := by decide +kernel
theorem dT_open_50 : decode cT_open 50 = .ok (.iload 4, 2) := by decide +kernel
theorem dT_open_52 : decode cT_open 52 = .ok (.imul, 1) := by decide +kernel
theorem dT_open_53 : decode cT_open 53 = .ok (.ldc 135, 2) := by decide +kernel
theorem dT_open_55 : decode cT_open 55 = .ok (.iadd, 1) := by decide +kernel
theorem dT_open_56 : decode cT_open 56 = .ok (.invokestatic 136, 3) := by decide +kernel
theorem dT_open_59 : decode cT_open 59 = .ok (.iadd, 1) := by decide +kernel
theorem dT_open_60 : decode cT_open 60 = .ok (.invokestatic 139, 3) := by decide +kernel
theorem dT_open_63 : decode cT_open 63 = .ok (.iload_n 2, 1) := by decide +kernel
theorem dT_open_64 : decode cT_open 64 = .ok (.sipush (-22554), 3) := by decide +kernel
theorem dT_open_67 : decode cT_open 67 = .ok (.iload_n 3, 1) := by decide +kernel
theorem dT_open_68 : decode cT_open 68 = .ok (.imul, 1) := by decide +kernel
theorem dT_open_69 : decode cT_open 69 = .ok (.ldc 142, 2) := by decide +kernel
theorem dT_open_71 : decode cT_open 71 = .ok (.iload 4, 2) := by decide +kernel
theorem dT_open_73 : decode cT_open 73 = .ok (.imul, 1) := by decide +kernel
theorem dT_open_74 : decode cT_open 74 = .ok (.isub, 1) := by decide +kernel
theorem dT_open_75 : decode cT_open 75 = .ok (.ldc 135, 2) := by decide +kernel
theorem dT_open_77 : decode cT_open 77 = .ok (.iadd, 1) := by decide +kernel
theorem dT_open_78 : decode cT_open 78 = .ok (.invokestatic 136, 3) := by decide +kernel
theorem dT_open_81 : decode cT_open 81 = .ok (.iadd, 1) := by decide +kernel
theorem dT_open_82 : decode cT_open 82 = .ok (.invokestatic 139, 3) := by decide +kernel
theorem dT_open_85 : decode cT_open 85 = .ok (.iload_n 2, 1) := by decide +kernel
theorem dT_open_86 : decode cT_open 86 = .ok (.ldc 143, 2) := by decide +kernel
theorem dT_open_88 : decode cT_open 88 = .ok (.iload_n 3, 1) := by decide +kernel
theorem dT_open_89 : decode cT_open 89 = .ok (.imul, 1) := by decide +kernel
theorem dT_open_90 : decode cT_open 90 = .ok (.ldc 135, 2) := by decide +kernel
theorem dT_open_92 : decode cT_open 92 = .ok (.iadd, 1) := by decide +kernel
theorem dT_open_93 : decode cT_open 93 = .ok (.invokestatic 136, 3) := by decide +kernel
theorem dT_open_96 : decode cT_open 96 = .ok (.iadd, 1) := by decide +kernel
theorem dT_open_97 : decode cT_open 97 = .ok (.invokestatic 139, 3) := by decide +kernel
theorem dT_open_100 : decode cT_open 100 = .ok (.invokevirtual 144, 3) := by decide +kernel
theorem dT_open_103 : decode cT_open 103 = .ok (.return_, 1) := by decide +kernel
theorem dT_shifted_0 : decode cT_shifted 0 = .ok (.iload_n 0, 1) := by decide +kernel
theorem dT_shifted_1 : decode cT_shifted 1 = .ok (.bipush 16, 2) := by decide +kernel
theorem dT_shifted_3 : decode cT_shifted 3 = .ok (.ishr, 1) := by decide +kernel
theorem dT_shifted_4 : decode cT_shifted 4 = .ok (.ireturn, 1) := by decide +kernel
theorem dT_limit_0 : decode cT_limit 0 = .ok (.iconst 0, 1) := by decide +kernel
theorem dT_limit_1 : decode cT_limit 1 = .ok (.sipush 255, 3) := by decide +kernel
theorem dT_limit_4 : decode cT_limit 4 = .ok (.iload_n 0, 1) := by decide +kernel
theorem dT_limit_5 : decode cT_limit 5 = .ok (.invokestatic 157, 3) := by decide +kernel
theorem dT_limit_8 : decode cT_limit 8 = .ok (.invokestatic 162, 3) := by decide +kernel
theorem dT_limit_11 : decode cT_limit 11 = .ok (.ireturn, 1) := by decide +kernel
theorem dT_setColours_0 : decode cT_setColours 0 = .ok (.aload_n 0, 1) := by decide +kernel
theorem dT_setColours_1 : decode cT_setColours 1 = .ok (.getfield 11, 3) := by decide +kernel
theorem dT_setColours_4 : decode cT_setColours 4 = .ok (.iconst 0, 1) := by decide +kernel
theorem dT_setColours_5 : decode cT_setColours 5 = .ok (.aaload, 1) := by decide +kernel
theorem dT_setColours_6 : decode cT_setColours 6 = .ok (.getfield 37, 3) := by decide +kernel
theorem dT_setColours_9 : decode cT_setColours 9 = .ok (.iload_n 1, 1) := by decide +kernel
theorem dT_setColours_10 : decode cT_setColours 10 = .ok (.iload_n 2, 1) := by decide +kernel
theorem dT_setColours_11 : decode cT_setColours 11 = .ok (.iastore, 1) := by decide +kernel
theorem dT_setColours_12 : decode cT_setColours 12 = .ok (.aload_n 0, 1) := by decide +kernel
theorem dT_setColours_13 : decode cT_setColours 13 = .ok (.getfield 11, 3) := by decide +kernel
theorem dT_setColours_16 : decode cT_setColours 16 = .ok (.iconst 1, 1) := by decide +kernel
theorem dT_setColours_17 : decode cT_setColours 17 = .ok (.aaload, 1) := by decide +kernel
theorem dT_setColours_18 : decode cT_setColours 18 = .ok (.getfield 37, 3) := by decide +kernel
theorem dT_setColours_21 : decode cT_setColours 21 = .ok (.iload_n 1, 1) := by decide +kernel
theorem dT_setColours_22 : decode cT_setColours 22 = .ok (.iload_n 3, 1) := by decide +kernel
theorem dT_setColours_23 : decode cT_setColours 23 = .ok (.iastore, 1) := by decide +kernel
theorem dT_setColours_24 : decode cT_setColours 24 = .ok (.aload_n 0, 1) := by decide +kernel
theorem dT_setColours_25 : decode cT_setColours 25 = .ok (.getfield 11, 3) := by decide +kernel
theorem dT_setColours_28 : decode cT_setColours 28 = .ok (.iconst 2, 1) := by decide +kernel
theorem dT_setColours_29 : decode cT_setColours 29 = .ok (.aaload, 1) := by decide +kernel
theorem dT_setColours_30 : decode cT_setColours 30 = .ok (.getfield 37, 3) := by decide +kernel
theorem dT_setColours_33 : decode cT_setColours 33 = .ok (.iload_n 1, 1) := by decide +kernel
theorem dT_setColours_34 : decode cT_setColours 34 = .ok (.iload 4, 2) := by decide +kernel
theorem dT_setColours_36 : decode cT_setColours 36 = .ok (.iastore, 1) := by decide +kernel
theorem dT_setColours_37 : decode cT_setColours 37 = .ok (.return_, 1) := by decide +kernel
theorem dT_close_0 : decode cT_close 0 = .ok (.aload_n 0, 1) := by decide +kernel
theorem dT_close_1 : decode cT_close 1 = .ok (.getfield 11, 3) := by decide +kernel
theorem dT_close_4 : decode cT_close 4 = .ok (.iconst 0, 1) := by decide +kernel
theorem dT_close_5 : decode cT_close 5 = .ok (.aaload, 1) := by decide +kernel
theorem dT_close_6 : decode cT_close 6 = .ok (.getfield 37, 3) := by decide +kernel
theorem dT_close_9 : decode cT_close 9 = .ok (.iload_n 1, 1) := by decide +kernel
theorem dT_close_10 : decode cT_close 10 = .ok (.iaload, 1) := by decide +kernel
theorem dT_close_11 : decode cT_close 11 = .ok (.istore_n 2, 1) := by decide +kernel
theorem dT_close_12 : decode cT_close 12 = .ok (.aload_n 0, 1) := by decide +kernel
theorem dT_close_13 : decode cT_close 13 = .ok (.getfield 11, 3) := by decide +kernel
theorem dT_close_16 : decode cT_close 16 = .ok (.iconst 1, 1) := by decide +kernel
theorem dT_close_17 : decode cT_close 17 = .ok (.aaload, 1) := by decide +kernel
theorem dT_close_18 : decode cT_close 18 = .ok (.getfield 37, 3) := by decide +kernel
theorem dT_close_21 : decode cT_close 21 = .ok (.iload_n 1, 1) := by decide +kernel
theorem dT_close_22 : decode cT_close 22 = .ok (.iaload, 1) := by decide +kernel
theorem dT_close_23 : decode cT_close 23 = .ok (.istore_n 3, 1) := by decide +kernel
theorem dT_close_24 : decode cT_close 24 = .ok (.aload_n 0, 1) := by decide +kernel
theorem dT_close_25 : decode cT_close 25 = .ok (.getfield 11, 3) := by decide +kernel
theorem dT_close_28 : decode cT_close 28 = .ok (.iconst 2, 1) := by decide +kernel
theorem dT_close_29 : decode cT_close 29 = .ok (.aaload, 1) := by decide +kernel
theorem dT_close_30 : decode cT_close 30 = .ok (.getfield 37, 3) := by decide +kernel
theorem dT_close_33 : decode cT_close 33 = .ok (.iload_n 1, 1) := by decide +kernel
theorem dT_close_34 : decode cT_close 34 = .ok (.iaload, 1) := by decide +kernel
theorem dT_close_35 : decode cT_close 35 = .ok (.istore 4, 2) := by decide +kernel
theorem dT_close_37 : decode cT_close 37 = .ok (.aload_n 0, 1) := by decide +kernel
theorem dT_close_38 : decode cT_close 38 = .ok (.iload_n 1, 1) := by decide +kernel
theorem dT_close_39 : decode cT_close 39 = .ok (.iload_n 2, 1) := by decide +kernel
theorem dT_close_40 : decode cT_close 40 = .ok (.iload_n 3, 1) := by decide +kernel
theorem dT_close_41 : decode cT_close 41 = .ok (.iload 4, 2) := by decide +kernel
theorem dT_close_43 : decode cT_close 43 = .ok (.invokestatic 148, 3) := by decide +kernel
theorem dT_close_46 : decode cT_close 46 = .ok (.sipush (-11059), 3) := by decide +kernel
theorem dT_close_49 : decode cT_close 49 = .ok (.iload_n 2, 1) := by decide +kernel
theorem dT_close_50 : decode cT_close 50 = .ok (.imul, 1) := by decide +kernel
theorem dT_close_51 : decode cT_close 51 = .ok (.sipush 21709, 3) := by decide +kernel
theorem dT_close_54 : decode cT_close 54 = .ok (.iload_n 3, 1) := by decide +kernel
theorem dT_close_55 : decode cT_close 55 = .ok (.imul, 1) := by decide +kernel
theorem dT_close_56 : decode cT_close 56 = .ok (.isub, 1) := by decide +kernel
theorem dT_close_57 : decode cT_close 57 = .ok (.ldc 135, 2) := by decide +kernel
theorem dT_close_59 : decode cT_close 59 = .ok (.iload 4, 2) := by decide +kernel
theorem dT_close_61 : decode cT_close 61 = .ok (.imul, 1) := by decide +kernel
theorem dT_close_62 : decode cT_close 62 = .ok (.iadd, 1) := by decide +kernel
theorem dT_close_63 : decode cT_close 63 = .ok (.ldc 152, 2) := by decide +kernel
theorem dT_close_65 : decode cT_close 65 = .ok (.iadd, 1) := by decide +kernel
theorem dT_close_66 : decode cT_close 66 = .ok (.invokestatic 136, 3) := by decide +kernel
theorem dT_close_69 : decode cT_close 69 = .ok (.ldc 135, 2) := by decide +kernel
theorem dT_close_71 : decode cT_close 71 = .ok (.iload_n 2, 1) := by decide +kernel
theorem dT_close_72 : decode cT_close 72 = .ok (.imul, 1) := by decide +kernel
theorem dT_close_73 : decode cT_close 73 = .ok (.sipush 27439, 3) := by decide +kernel
theorem dT_close_76 : decode cT_close 76 = .ok (.iload_n 3, 1) := by decide +kernel
theorem dT_close_77 : decode cT_close 77 = .ok (.imul, 1) := by decide +kernel
theorem dT_close_78 : decode cT_close 78 = .ok (.isub, 1) := by decide +kernel
theorem dT_close_79 : decode cT_close 79 = .ok (.sipush 5329, 3) := by decide +kernel
theorem dT_close_82 : decode cT_close 82 = .ok (.iload 4, 2) := by decide +kernel
theorem dT_close_84 : decode cT_close 84 = .ok (.imul, 1) := by decide +kernel
theorem dT_close_85 : decode cT_close 85 = .ok (.isub, 1) := by decide +kernel
theorem dT_close_86 : decode cT_close 86 = .ok (.ldc 152, 2) := by decide +kernel
theorem dT_close_88 : decode cT_close 88 = .ok (.iadd, 1) := by decide +kernel
theorem dT_close_89 : decode cT_close 89 = .ok (.invokestatic 136, 3) := by decide +kernel
theorem dT_close_92 : decode cT_close 92 = .ok (.invokevirtual 144, 3) := by decide +kernel
theorem dT_close_95 : decode cT_close 95 = .ok (.return_, 1) := by decide +kernel
theorem dT_brightness_0 : decode cT_brightness 0 = .ok (.sipush 19595, 3) := by decide +kernel
theorem dT_brightness_3 : decode cT_brightness 3 = .ok (.iload_n 0, 1) := by decide +kernel
theorem dT_brightness_4 : decode cT_brightness 4 = .ok (.imul, 1) := by decide +kernel
theorem dT_brightness_5 : decode cT_brightness 5 = .ok (.ldc 156, 2) := by decide +kernel
theorem dT_brightness_7 : decode cT_brightness 7 = .ok (.iload_n 1, 1) := by decide +kernel
theorem dT_brightness_8 : decode cT_brightness 8 = .ok (.imul, 1) := by decide +kernel
theorem dT_brightness_9 : decode cT_brightness 9 = .ok (.iadd, 1) := by decide +kernel
theorem dT_brightness_10 : decode cT_brightness 10 = .ok (.sipush 7471, 3) := by decide +kernel
theorem dT_brightness_13 : decode cT_brightness 13 = .ok (.iload_n 2, 1) := by decide +kernel
theorem dT_brightness_14 : decode cT_brightness 14 = .ok (.imul, 1) := by decide +kernel
theorem dT_brightness_15 : decode cT_brightness 15 = .ok (.iadd, 1) := by decide +kernel
theorem dT_brightness_16 : decode cT_brightness 16 = .ok (.ldc 135, 2) := by decide +kernel
theorem dT_brightness_18 : decode cT_brightness 18 = .ok (.iadd, 1) := by decide +kernel
theorem dT_brightness_19 : decode cT_brightness 19 = .ok (.invokestatic 136, 3) := by decide +kernel
theorem dT_brightness_22 : decode cT_brightness 22 = .ok (.ireturn, 1) := by decide +kernel
theorem dT_invert_0 : decode cT_invert 0 = .ok (.aload_n 0, 1) := by decide +kernel
theorem dT_invert_1 : decode cT_invert 1 = .ok (.iload_n 1, 1) := by decide +kernel
theorem dT_invert_2 : decode cT_invert 2 = .ok (.sipush 255, 3) := by decide +kernel
theorem dT_invert_5 : decode cT_invert 5 = .ok (.aload_n 0, 1) := by decide +kernel
theorem dT_invert_6 : decode cT_invert 6 = .ok (.getfield 11, 3) := by decide +kernel
theorem dT_invert_9 : decode cT_invert 9 = .ok (.iconst 0, 1) := by decide +kernel
theorem dT_invert_10 : decode cT_invert 10 = .ok (.aaload, 1) := by decide +kernel
theorem dT_invert_11 : decode cT_invert 11 = .ok (.getfield 37, 3) := by decide +kernel
theorem dT_invert_14 : decode cT_invert 14 = .ok (.iload_n 1, 1) := by decide +kernel
theorem dT_invert_15 : decode cT_invert 15 = .ok (.iaload, 1) := by decide +kernel
theorem dT_invert_16 : decode cT_invert 16 = .ok (.isub, 1) := by decide +kernel
theorem dT_invert_17 : decode cT_invert 17 = .ok (.sipush 255, 3) := by decide +kernel
theorem dT_invert_20 : decode cT_invert 20 = .ok (.aload_n 0, 1) := by decide +kernel
theorem dT_invert_21 : decode cT_invert 21 = .ok (.getfield 11, 3) := by decide +kernel
theorem dT_invert_24 : decode cT_invert 24 = .ok (.iconst 1, 1) := by decide +kernel
theorem dT_invert_25 : decode cT_invert 25 = .ok (.aaload, 1) := by decide +kernel
theorem dT_invert_26 : decode cT_invert 26 = .ok (.getfield 37, 3) := by decide +kernel
theorem dT_invert_29 : decode cT_invert 29 = .ok (.iload_n 1, 1) := by decide +kernel
theorem dT_invert_30 : decode cT_invert 30 = .ok (.iaload, 1) := by decide +kernel
theorem dT_invert_31 : decode cT_invert 31 = .ok (.isub, 1) := by decide +kernel
theorem dT_invert_32 : decode cT_invert 32 = .ok (.sipush 255, 3) := by decide +kernel
theorem dT_invert_35 : decode cT_invert 35 = .ok (.aload_n 0, 1) := by decide +kernel
theorem dT_invert_36 : decode cT_invert 36 = .ok (.getfield 11, 3) := by decide +kernel
theorem dT_invert_39 : decode cT_invert 39 = .ok (.iconst 2, 1) := by decide +kernel
theorem dT_invert_40 : decode cT_invert 40 = .ok (.aaload, 1) := by decide +kernel
theorem dT_invert_41 : decode cT_invert 41 = .ok (.getfield 37, 3) := by decide +kernel
theorem dT_invert_44 : decode cT_invert 44 = .ok (.iload_n 1, 1) := by decide +kernel
theorem dT_invert_45 : decode cT_invert 45 = .ok (.iaload, 1) := by decide +kernel
theorem dT_invert_46 : decode cT_invert 46 = .ok (.isub, 1) := by decide +kernel
theorem dT_invert_47 : decode cT_invert 47 = .ok (.invokevirtual 144, 3) := by decide +kernel
theorem dT_invert_50 : decode cT_invert 50 = .ok (.return_, 1) := by decide +kernel
theorem dT_darken_0 : decode cT_darken 0 = .ok (.sipush 255, 3) := by decide +kernel
theorem dT_darken_3 : decode cT_darken 3 = .ok (.aload_n 0, 1) := by decide +kernel
theorem dT_darken_4 : decode cT_darken 4 = .ok (.getfield 11, 3) := by decide +kernel
theorem dT_darken_7 : decode cT_darken 7 = .ok (.iconst 3, 1) := by decide +kernel
theorem dT_darken_8 : decode cT_darken 8 = .ok (.aaload, 1) := by decide +kernel
theorem dT_darken_9 : decode cT_darken 9 = .ok (.getfield 37, 3) := by decide +kernel
theorem dT_darken_12 : decode cT_darken 12 = .ok (.iload_n 1, 1) := by decide +kernel
theorem dT_darken_13 : decode cT_darken 13 = .ok (.iaload, 1) := by decide +kernel
theorem dT_darken_14 : decode cT_darken 14 = .ok (.isub, 1) := by decide +kernel
theorem dT_darken_15 : decode cT_darken 15 = .ok (.istore_n 2, 1) := by decide +kernel
theorem dT_darken_16 : decode cT_darken 16 = .ok (.aload_n 0, 1) := by decide +kernel
theorem dT_darken_17 : decode cT_darken 17 = .ok (.iload_n 1, 1) := by decide +kernel
theorem dT_darken_18 : decode cT_darken 18 = .ok (.aload_n 0, 1) := by decide +kernel
theorem dT_darken_19 : decode cT_darken 19 = .ok (.getfield 11, 3) := by decide +kernel
theorem dT_darken_22 : decode cT_darken 22 = .ok (.iconst 0, 1) := by decide +kernel
theorem dT_darken_23 : decode cT_darken 23 = .ok (.aaload, 1) := by decide +kernel
theorem dT_darken_24 : decode cT_darken 24 = .ok (.getfield 37, 3) := by decide +kernel
theorem dT_darken_27 : decode cT_darken 27 = .ok (.iload_n 1, 1) := by decide +kernel
theorem dT_darken_28 : decode cT_darken 28 = .ok (.iaload, 1) := by decide +kernel
theorem dT_darken_29 : decode cT_darken 29 = .ok (.iload_n 2, 1) := by decide +kernel
theorem dT_darken_30 : decode cT_darken 30 = .ok (.invokestatic 153, 3) := by decide +kernel
theorem dT_darken_33 : decode cT_darken 33 = .ok (.aload_n 0, 1) := by decide +kernel
theorem dT_darken_34 : decode cT_darken 34 = .ok (.getfield 11, 3) := by decide +kernel
theorem dT_darken_37 : decode cT_darken 37 = .ok (.iconst 1, 1) := by decide +kernel
theorem dT_darken_38 : decode cT_darken 38 = .ok (.aaload, 1) := by decide +kernel
theorem dT_darken_39 : decode cT_darken 39 = .ok (.getfield 37, 3) := by decide +kernel
theorem dT_darken_42 : decode cT_darken 42 = .ok (.iload_n 1, 1) := by decide +kernel
theorem dT_darken_43 : decode cT_darken 43 = .ok (.iaload, 1) := by decide +kernel
theorem dT_darken_44 : decode cT_darken 44 = .ok (.iload_n 2, 1) := by decide +kernel
theorem dT_darken_45 : decode cT_darken 45 = .ok (.invokestatic 153, 3) := by decide +kernel
theorem dT_darken_48 : decode cT_darken 48 = .ok (.aload_n 0, 1) := by decide +kernel
theorem dT_darken_49 : decode cT_darken 49 = .ok (.getfield 11, 3) := by decide +kernel
theorem dT_darken_52 : decode cT_darken 52 = .ok (.iconst 2, 1) := by decide +kernel
theorem dT_darken_53 : decode cT_darken 53 = .ok (.aaload, 1) := by decide +kernel
theorem dT_darken_54 : decode cT_darken 54 = .ok (.getfield 37, 3) := by decide +kernel
theorem dT_darken_57 : decode cT_darken 57 = .ok (.iload_n 1, 1) := by decide +kernel
theorem dT_darken_58 : decode cT_darken 58 = .ok (.iaload, 1) := by decide +kernel
theorem dT_darken_59 : decode cT_darken 59 = .ok (.iload_n 2, 1) := by decide +kernel
theorem dT_darken_60 : decode cT_darken 60 = .ok (.invokestatic 153, 3) := by decide +kernel
theorem dT_darken_63 : decode cT_darken 63 = .ok (.invokevirtual 144, 3) := by decide +kernel
theorem dT_darken_66 : decode cT_darken 66 = .ok (.return_, 1) := by decide +kernel
theorem dT_darkened_0 : decode cT_darkened 0 = .ok (.iload_n 0, 1) := by decide +kernel
theorem dT_darkened_1 : decode cT_darkened 1 = .ok (.iload_n 1, 1) := by decide +kernel
theorem dT_darkened_2 : decode cT_darkened 2 = .ok (.imul, 1) := by decide +kernel
theorem dT_darkened_3 : decode cT_darkened 3 = .ok (.bipush 127, 2) := by decide +kernel
theorem dT_darkened_5 : decode cT_darkened 5 = .ok (.iadd, 1) := by decide +kernel
theorem dT_darkened_6 : decode cT_darkened 6 = .ok (.sipush 255, 3) := by decide +kernel
theorem dT_darkened_9 : decode cT_darkened 9 = .ok (.idiv, 1) := by decide +kernel
theorem dT_darkened_10 : decode cT_darkened 10 = .ok (.ireturn, 1) := by decide +kernel
theorem dT_grey_0 : decode cT_grey 0 = .ok (.aload_n 0, 1) := by decide +kernel
theorem dT_grey_1 : decode cT_grey 1 = .ok (.getfield 11, 3) := by decide +kernel
theorem dT_grey_4 : decode cT_grey 4 = .ok (.iconst 0, 1) := by decide +kernel
theorem dT_grey_5 : decode cT_grey 5 = .ok (.aaload, 1) := by decide +kernel
theorem dT_grey_6 : decode cT_grey 6 = .ok (.getfield 37, 3) := by decide +kernel
theorem dT_grey_9 : decode cT_grey 9 = .ok (.iload_n 1, 1) := by decide +kernel
theorem dT_grey_10 : decode cT_grey 10 = .ok (.iaload, 1) := by decide +kernel
theorem dT_grey_11 : decode cT_grey 11 = .ok (.aload_n 0, 1) := by decide +kernel
theorem dT_grey_12 : decode cT_grey 12 = .ok (.getfield 11, 3) := by decide +kernel
theorem dT_grey_15 : decode cT_grey 15 = .ok (.iconst 1, 1) := by decide +kernel
theorem dT_grey_16 : decode cT_grey 16 = .ok (.aaload, 1) := by decide +kernel
theorem dT_grey_17 : decode cT_grey 17 = .ok (.getfield 37, 3) := by decide +kernel
theorem dT_grey_20 : decode cT_grey 20 = .ok (.iload_n 1, 1) := by decide +kernel
theorem dT_grey_21 : decode cT_grey 21 = .ok (.iaload, 1) := by decide +kernel
theorem dT_grey_22 : decode cT_grey 22 = .ok (.aload_n 0, 1) := by decide +kernel
theorem dT_grey_23 : decode cT_grey 23 = .ok (.getfield 11, 3) := by decide +kernel
theorem dT_grey_26 : decode cT_grey 26 = .ok (.iconst 2, 1) := by decide +kernel
theorem dT_grey_27 : decode cT_grey 27 = .ok (.aaload, 1) := by decide +kernel
theorem dT_grey_28 : decode cT_grey 28 = .ok (.getfield 37, 3) := by decide +kernel
theorem dT_grey_31 : decode cT_grey 31 = .ok (.iload_n 1, 1) := by decide +kernel
theorem dT_grey_32 : decode cT_grey 32 = .ok (.iaload, 1) := by decide +kernel
theorem dT_grey_33 : decode cT_grey 33 = .ok (.invokestatic 148, 3) := by decide +kernel
theorem dT_grey_36 : decode cT_grey 36 = .ok (.istore_n 2, 1) := by decide +kernel
theorem dT_grey_37 : decode cT_grey 37 = .ok (.aload_n 0, 1) := by decide +kernel
theorem dT_grey_38 : decode cT_grey 38 = .ok (.iload_n 1, 1) := by decide +kernel
theorem dT_grey_39 : decode cT_grey 39 = .ok (.iload_n 2, 1) := by decide +kernel
theorem dT_grey_40 : decode cT_grey 40 = .ok (.iload_n 2, 1) := by decide +kernel
theorem dT_grey_41 : decode cT_grey 41 = .ok (.iload_n 2, 1) := by decide +kernel
theorem dT_grey_42 : decode cT_grey 42 = .ok (.invokevirtual 144, 3) := by decide +kernel
theorem dT_grey_45 : decode cT_grey 45 = .ok (.return_, 1) := by decide +kernel
theorem dT_size_0 : decode cT_size 0 = .ok (.aload_n 0, 1) := by decide +kernel
theorem dT_size_1 : decode cT_size 1 = .ok (.iload_n 1, 1) := by decide +kernel
theorem dT_size_2 : decode cT_size 2 = .ok (.invokevirtual 16, 3) := by decide +kernel
theorem dT_size_5 : decode cT_size 5 = .ok (.astore 4, 2) := by decide +kernel
theorem dT_size_7 : decode cT_size 7 = .ok (.iload_n 2, 1) := by decide +kernel
theorem dT_size_8 : decode cT_size 8 = .ok (.iconst 1, 1) := by decide +kernel
theorem dT_size_9 : decode cT_size 9 = .ok (.if_icmp .lt 20, 3) := by decide +kernel
theorem dT_size_12 : decode cT_size 12 = .ok (.iload_n 2, 1) := by decide +kernel
theorem dT_size_13 : decode cT_size 13 = .ok (.bipush 32, 2) := by decide +kernel
theorem dT_size_15 : decode cT_size 15 = .ok (.if_icmp .gt 14, 3) := by decide +kernel
theorem dT_size_18 : decode cT_size 18 = .ok (.iload_n 3, 1) := by decide +kernel
theorem dT_size_19 : decode cT_size 19 = .ok (.iconst 1, 1) := by decide +kernel
theorem dT_size_20 : decode cT_size 20 = .ok (.if_icmp .lt 9, 3) := by decide +kernel
theorem dT_size_23 : decode cT_size 23 = .ok (.iload_n 3, 1) := by decide +kernel
theorem dT_size_24 : decode cT_size 24 = .ok (.bipush 32, 2) := by decide +kernel
theorem dT_size_26 : decode cT_size 26 = .ok (.if_icmp .le 13, 3) := by decide +kernel
theorem dT_size_29 : decode cT_size 29 = .ok (.new 20, 3) := by decide +kernel
theorem dT_size_32 : decode cT_size 32 = .ok (.dup, 1) := by decide +kernel
theorem dT_size_33 : decode cT_size 33 = .ok (.ldc 22, 2) := by decide +kernel
theorem dT_size_35 : decode cT_size 35 = .ok (.invokespecial 24, 3) := by decide +kernel
theorem dT_size_38 : decode cT_size 38 = .ok (.athrow, 1) := by decide +kernel
theorem dT_size_39 : decode cT_size 39 = .ok (.aload 4, 2) := by decide +kernel
theorem dT_size_41 : decode cT_size 41 = .ok (.iload_n 2, 1) := by decide +kernel
theorem dT_size_42 : decode cT_size 42 = .ok (.iload_n 3, 1) := by decide +kernel
theorem dT_size_43 : decode cT_size 43 = .ok (.invokevirtual 27, 3) := by decide +kernel
theorem dT_size_46 : decode cT_size 46 = .ok (.return_, 1) := by decide +kernel
theorem dT_planeOf_0 : decode cT_planeOf 0 = .ok (.iload_n 1, 1) := by decide +kernel
theorem dT_planeOf_1 : decode cT_planeOf 1 = .ok (.ifCond .lt 8, 3) := by decide +kernel
theorem dT_planeOf_4 : decode cT_planeOf 4 = .ok (.iload_n 1, 1) := by decide +kernel
theorem dT_planeOf_5 : decode cT_planeOf 5 = .ok (.iconst 4, 1) := by decide +kernel
theorem dT_planeOf_6 : decode cT_planeOf 6 = .ok (.if_icmp .lt 13, 3) := by decide +kernel
theorem dT_planeOf_9 : decode cT_planeOf 9 = .ok (.new 112, 3) := by decide +kernel
theorem dT_planeOf_12 : decode cT_planeOf 12 = .ok (.dup, 1) := by decide +kernel
theorem dT_planeOf_13 : decode cT_planeOf 13 = .ok (.ldc 114, 2) := by decide +kernel
theorem dT_planeOf_15 : decode cT_planeOf 15 = .ok (.invokespecial 116, 3) := by decide +kernel
theorem dT_planeOf_18 : decode cT_planeOf 18 = .ok (.athrow, 1) := by decide +kernel
theorem dT_planeOf_19 : decode cT_planeOf 19 = .ok (.aload_n 0, 1) := by decide +kernel
theorem dT_planeOf_20 : decode cT_planeOf 20 = .ok (.getfield 11, 3) := by decide +kernel
theorem dT_planeOf_23 : decode cT_planeOf 23 = .ok (.iload_n 1, 1) := by decide +kernel
theorem dT_planeOf_24 : decode cT_planeOf 24 = .ok (.aaload, 1) := by decide +kernel
theorem dT_planeOf_25 : decode cT_planeOf 25 = .ok (.areturn, 1) := by decide +kernel
theorem dT_put_0 : decode cT_put 0 = .ok (.aload_n 0, 1) := by decide +kernel
theorem dT_put_1 : decode cT_put 1 = .ok (.iload_n 1, 1) := by decide +kernel
theorem dT_put_2 : decode cT_put 2 = .ok (.iload_n 2, 1) := by decide +kernel
theorem dT_put_3 : decode cT_put 3 = .ok (.iload_n 3, 1) := by decide +kernel
theorem dT_put_4 : decode cT_put 4 = .ok (.invokevirtual 31, 3) := by decide +kernel
theorem dT_put_7 : decode cT_put 7 = .ok (.astore 5, 2) := by decide +kernel
theorem dT_put_9 : decode cT_put 9 = .ok (.iload 4, 2) := by decide +kernel
theorem dT_put_11 : decode cT_put 11 = .ok (.ifCond .lt 11, 3) := by decide +kernel
theorem dT_put_14 : decode cT_put 14 = .ok (.iload 4, 2) := by decide +kernel
theorem dT_put_16 : decode cT_put 16 = .ok (.sipush 255, 3) := by decide +kernel
theorem dT_put_19 : decode cT_put 19 = .ok (.if_icmp .le 13, 3) := by decide +kernel
theorem dT_put_22 : decode cT_put 22 = .ok (.new 20, 3) := by decide +kernel
theorem dT_put_25 : decode cT_put 25 = .ok (.dup, 1) := by decide +kernel
theorem dT_put_26 : decode cT_put 26 = .ok (.ldc 35, 2) := by decide +kernel
theorem dT_put_28 : decode cT_put 28 = .ok (.invokespecial 24, 3) := by decide +kernel
theorem dT_put_31 : decode cT_put 31 = .ok (.athrow, 1) := by decide +kernel
theorem dT_put_32 : decode cT_put 32 = .ok (.aload 5, 2) := by decide +kernel
theorem dT_put_34 : decode cT_put 34 = .ok (.getfield 37, 3) := by decide +kernel
theorem dT_put_37 : decode cT_put 37 = .ok (.iload_n 2, 1) := by decide +kernel
theorem dT_put_38 : decode cT_put 38 = .ok (.iload_n 3, 1) := by decide +kernel
theorem dT_put_39 : decode cT_put 39 = .ok (.invokestatic 41, 3) := by decide +kernel
theorem dT_put_42 : decode cT_put 42 = .ok (.iload 4, 2) := by decide +kernel
theorem dT_put_44 : decode cT_put 44 = .ok (.iastore, 1) := by decide +kernel
theorem dT_put_45 : decode cT_put 45 = .ok (.return_, 1) := by decide +kernel
theorem dT_planeWith_0 : decode cT_planeWith 0 = .ok (.aload_n 0, 1) := by decide +kernel
theorem dT_planeWith_1 : decode cT_planeWith 1 = .ok (.iload_n 1, 1) := by decide +kernel
theorem dT_planeWith_2 : decode cT_planeWith 2 = .ok (.invokevirtual 16, 3) := by decide +kernel
theorem dT_planeWith_5 : decode cT_planeWith 5 = .ok (.astore 4, 2) := by decide +kernel
theorem dT_planeWith_7 : decode cT_planeWith 7 = .ok (.aload 4, 2) := by decide +kernel
theorem dT_planeWith_9 : decode cT_planeWith 9 = .ok (.iload_n 2, 1) := by decide +kernel
theorem dT_planeWith_10 : decode cT_planeWith 10 = .ok (.iload_n 3, 1) := by decide +kernel
theorem dT_planeWith_11 : decode cT_planeWith 11 = .ok (.invokevirtual 90, 3) := by decide +kernel
theorem dT_planeWith_14 : decode cT_planeWith 14 = .ok (.ifCond .ne 13, 3) := by decide +kernel
theorem dT_planeWith_17 : decode cT_planeWith 17 = .ok (.new 112, 3) := by decide +kernel
theorem dT_planeWith_20 : decode cT_planeWith 20 = .ok (.dup, 1) := by decide +kernel
theorem dT_planeWith_21 : decode cT_planeWith 21 = .ok (.ldc 117, 2) := by decide +kernel
theorem dT_planeWith_23 : decode cT_planeWith 23 = .ok (.invokespecial 116, 3) := by decide +kernel
theorem dT_planeWith_26 : decode cT_planeWith 26 = .ok (.athrow, 1) := by decide +kernel
theorem dT_planeWith_27 : decode cT_planeWith 27 = .ok (.aload 4, 2) := by decide +kernel
theorem dT_planeWith_29 : decode cT_planeWith 29 = .ok (.areturn, 1) := by decide +kernel
theorem dT_row_0 : decode cT_row 0 = .ok (.aload_n 0, 1) := by decide +kernel
theorem dT_row_1 : decode cT_row 1 = .ok (.iload_n 1, 1) := by decide +kernel
theorem dT_row_2 : decode cT_row 2 = .ok (.iload_n 2, 1) := by decide +kernel
theorem dT_row_3 : decode cT_row 3 = .ok (.iload_n 3, 1) := by decide +kernel
theorem dT_row_4 : decode cT_row 4 = .ok (.invokevirtual 31, 3) := by decide +kernel
theorem dT_row_7 : decode cT_row 7 = .ok (.astore 6, 2) := by decide +kernel
theorem dT_row_9 : decode cT_row 9 = .ok (.iconst 0, 1) := by decide +kernel
theorem dT_row_10 : decode cT_row 10 = .ok (.istore 7, 2) := by decide +kernel
theorem dT_row_12 : decode cT_row 12 = .ok (.iload 7, 2) := by decide +kernel
theorem dT_row_14 : decode cT_row 14 = .ok (.bipush 8, 2) := by decide +kernel
theorem dT_row_16 : decode cT_row 16 = .ok (.if_icmp .ge 48, 3) := by decide +kernel
theorem dT_row_19 : decode cT_row 19 = .ok (.iload_n 2, 1) := by decide +kernel
theorem dT_row_20 : decode cT_row 20 = .ok (.iload 7, 2) := by decide +kernel
theorem dT_row_22 : decode cT_row 22 = .ok (.iadd, 1) := by decide +kernel
theorem dT_row_23 : decode cT_row 23 = .ok (.aload 6, 2) := by decide +kernel
theorem dT_row_25 : decode cT_row 25 = .ok (.getfield 45, 3) := by decide +kernel
theorem dT_row_28 : decode cT_row 28 = .ok (.if_icmp .ge 36, 3) := by decide +kernel
theorem dT_row_31 : decode cT_row 31 = .ok (.aload 6, 2) := by decide +kernel
theorem dT_row_33 : decode cT_row 33 = .ok (.getfield 37, 3) := by decide +kernel
theorem dT_row_36 : decode cT_row 36 = .ok (.iload_n 2, 1) := by decide +kernel
theorem dT_row_37 : decode cT_row 37 = .ok (.iload 7, 2) := by decide +kernel
theorem dT_row_39 : decode cT_row 39 = .ok (.iadd, 1) := by decide +kernel
theorem dT_row_40 : decode cT_row 40 = .ok (.iload_n 3, 1) := by decide +kernel
theorem dT_row_41 : decode cT_row 41 = .ok (.invokestatic 41, 3) := by decide +kernel
theorem dT_row_44 : decode cT_row 44 = .ok (.lload 4, 2) := by decide +kernel
theorem dT_row_46 : decode cT_row 46 = .ok (.iload 7, 2) := by decide +kernel
theorem dT_row_48 : decode cT_row 48 = .ok (.invokestatic 49, 3) := by decide +kernel
theorem dT_row_51 : decode cT_row 51 = .ok (.lushr, 1) := by decide +kernel
theorem dT_row_52 : decode cT_row 52 = .ok (.l2i, 1) := by decide +kernel
theorem dT_row_53 : decode cT_row 53 = .ok (.sipush 255, 3) := by decide +kernel
theorem dT_row_56 : decode cT_row 56 = .ok (.iand, 1) := by decide +kernel
theorem dT_row_57 : decode cT_row 57 = .ok (.iastore, 1) := by decide +kernel
theorem dT_row_58 : decode cT_row 58 = .ok (.iinc 7 1, 3) := by decide +kernel
theorem dT_row_61 : decode cT_row 61 = .ok (.goto (-49), 3) := by decide +kernel
theorem dT_row_64 : decode cT_row 64 = .ok (.return_, 1) := by decide +kernel
theorem dT_shiftOfByte_0 : decode cT_shiftOfByte 0 = .ok (.bipush 8, 2) := by decide +kernel
theorem dT_shiftOfByte_2 : decode cT_shiftOfByte 2 = .ok (.bipush 7, 2) := by decide +kernel
theorem dT_shiftOfByte_4 : decode cT_shiftOfByte 4 = .ok (.iload_n 0, 1) := by decide +kernel
theorem dT_shiftOfByte_5 : decode cT_shiftOfByte 5 = .ok (.isub, 1) := by decide +kernel
theorem dT_shiftOfByte_6 : decode cT_shiftOfByte 6 = .ok (.imul, 1) := by decide +kernel
theorem dT_shiftOfByte_7 : decode cT_shiftOfByte 7 = .ok (.ireturn, 1) := by decide +kernel
theorem dT_grow_0 : decode cT_grow 0 = .ok (.aload_n 0, 1) := by decide +kernel
theorem dT_grow_1 : decode cT_grow 1 = .ok (.iload_n 1, 1) := by decide +kernel
theorem dT_grow_2 : decode cT_grow 2 = .ok (.invokevirtual 16, 3) := by decide +kernel
theorem dT_grow_5 : decode cT_grow 5 = .ok (.astore_n 3, 1) := by decide +kernel
theorem dT_grow_6 : decode cT_grow 6 = .ok (.iload_n 2, 1) := by decide +kernel
theorem dT_grow_7 : decode cT_grow 7 = .ok (.ifCond .lt 8, 3) := by decide +kernel
theorem dT_grow_10 : decode cT_grow 10 = .ok (.iload_n 2, 1) := by decide +kernel
theorem dT_grow_11 : decode cT_grow 11 = .ok (.iconst 5, 1) := by decide +kernel
theorem dT_grow_12 : decode cT_grow 12 = .ok (.if_icmp .le 5, 3) := by decide +kernel
theorem dT_grow_15 : decode cT_grow 15 = .ok (.iconst 0, 1) := by decide +kernel
theorem dT_grow_16 : decode cT_grow 16 = .ok (.ireturn, 1) := by decide +kernel
theorem dT_grow_17 : decode cT_grow 17 = .ok (.iload_n 2, 1) := by decide +kernel
theorem dT_grow_18 : decode cT_grow 18 = .ok (.iconst 2, 1) := by decide +kernel
theorem dT_grow_19 : decode cT_grow 19 = .ok (.if_icmp .lt 8, 3) := by decide +kernel
theorem dT_grow_22 : decode cT_grow 22 = .ok (.iload_n 2, 1) := by decide +kernel
theorem dT_grow_23 : decode cT_grow 23 = .ok (.iconst 3, 1) := by decide +kernel
theorem dT_grow_24 : decode cT_grow 24 = .ok (.if_icmp .le 7, 3) := by decide +kernel
theorem dT_grow_27 : decode cT_grow 27 = .ok (.iconst 1, 1) := by decide +kernel
theorem dT_grow_28 : decode cT_grow 28 = .ok (.goto 4, 3) := by decide +kernel
theorem dT_grow_31 : decode cT_grow 31 = .ok (.iconst 0, 1) := by decide +kernel
theorem dT_grow_32 : decode cT_grow 32 = .ok (.istore 4, 2) := by decide +kernel
theorem dT_grow_34 : decode cT_grow 34 = .ok (.iload_n 2, 1) := by decide +kernel
theorem dT_grow_35 : decode cT_grow 35 = .ok (.iconst 1, 1) := by decide +kernel
theorem dT_grow_36 : decode cT_grow 36 = .ok (.if_icmp .le 7, 3) := by decide +kernel
theorem dT_grow_39 : decode cT_grow 39 = .ok (.iconst 1, 1) := by decide +kernel
theorem dT_grow_40 : decode cT_grow 40 = .ok (.goto 4, 3) := by decide +kernel
theorem dT_grow_43 : decode cT_grow 43 = .ok (.iconst 0, 1) := by decide +kernel
theorem dT_grow_44 : decode cT_grow 44 = .ok (.istore 5, 2) := by decide +kernel
theorem dT_grow_46 : decode cT_grow 46 = .ok (.iload 4, 2) := by decide +kernel
theorem dT_grow_48 : decode cT_grow 48 = .ok (.ifCond .eq 14, 3) := by decide +kernel
theorem dT_grow_51 : decode cT_grow 51 = .ok (.iconst 2, 1) := by decide +kernel
theorem dT_grow_52 : decode cT_grow 52 = .ok (.aload_n 3, 1) := by decide +kernel
theorem dT_grow_53 : decode cT_grow 53 = .ok (.getfield 45, 3) := by decide +kernel
theorem dT_grow_56 : decode cT_grow 56 = .ok (.imul, 1) := by decide +kernel
theorem dT_grow_57 : decode cT_grow 57 = .ok (.bipush 32, 2) := by decide +kernel
theorem dT_grow_59 : decode cT_grow 59 = .ok (.if_icmp .gt 19, 3) := by decide +kernel
theorem dT_grow_62 : decode cT_grow 62 = .ok (.iload 5, 2) := by decide +kernel
theorem dT_grow_64 : decode cT_grow 64 = .ok (.ifCond .eq 16, 3) := by decide +kernel
theorem dT_grow_67 : decode cT_grow 67 = .ok (.iconst 2, 1) := by decide +kernel
theorem dT_grow_68 : decode cT_grow 68 = .ok (.aload_n 3, 1) := by decide +kernel
theorem dT_grow_69 : decode cT_grow 69 = .ok (.getfield 53, 3) := by decide +kernel
theorem dT_grow_72 : decode cT_grow 72 = .ok (.imul, 1) := by decide +kernel
theorem dT_grow_73 : decode cT_grow 73 = .ok (.bipush 32, 2) := by decide +kernel
theorem dT_grow_75 : decode cT_grow 75 = .ok (.if_icmp .le 5, 3) := by decide +kernel
theorem dT_grow_78 : decode cT_grow 78 = .ok (.iconst 0, 1) := by decide +kernel
theorem dT_grow_79 : decode cT_grow 79 = .ok (.ireturn, 1) := by decide +kernel
theorem dT_grow_80 : decode cT_grow 80 = .ok (.iload_n 2, 1) := by decide +kernel
theorem dT_grow_81 : decode cT_grow 81 = .ok (.iconst 2, 1) := by decide +kernel
theorem dT_grow_82 : decode cT_grow 82 = .ok (.irem, 1) := by decide +kernel
theorem dT_grow_83 : decode cT_grow 83 = .ok (.iconst 1, 1) := by decide +kernel
theorem dT_grow_84 : decode cT_grow 84 = .ok (.if_icmp .ne 7, 3) := by decide +kernel
theorem dT_grow_87 : decode cT_grow 87 = .ok (.iconst 1, 1) := by decide +kernel
theorem dT_grow_88 : decode cT_grow 88 = .ok (.goto 4, 3) := by decide +kernel
theorem dT_grow_91 : decode cT_grow 91 = .ok (.iconst 0, 1) := by decide +kernel
theorem dT_grow_92 : decode cT_grow 92 = .ok (.istore 6, 2) := by decide +kernel
theorem dT_grow_94 : decode cT_grow 94 = .ok (.iload 4, 2) := by decide +kernel
theorem dT_grow_96 : decode cT_grow 96 = .ok (.ifCond .eq 9, 3) := by decide +kernel
theorem dT_grow_99 : decode cT_grow 99 = .ok (.aload_n 3, 1) := by decide +kernel
theorem dT_grow_100 : decode cT_grow 100 = .ok (.iload 6, 2) := by decide +kernel
theorem dT_grow_102 : decode cT_grow 102 = .ok (.invokevirtual 56, 3) := by decide +kernel
theorem dT_grow_105 : decode cT_grow 105 = .ok (.iload 5, 2) := by decide +kernel
theorem dT_grow_107 : decode cT_grow 107 = .ok (.ifCond .eq 9, 3) := by decide +kernel
theorem dT_grow_110 : decode cT_grow 110 = .ok (.aload_n 3, 1) := by decide +kernel
theorem dT_grow_111 : decode cT_grow 111 = .ok (.iload 6, 2) := by decide +kernel
theorem dT_grow_113 : decode cT_grow 113 = .ok (.invokevirtual 60, 3) := by decide +kernel
theorem dT_grow_116 : decode cT_grow 116 = .ok (.iconst 1, 1) := by decide +kernel
theorem dT_grow_117 : decode cT_grow 117 = .ok (.ireturn, 1) := by decide +kernel
theorem dT_shrink_0 : decode cT_shrink 0 = .ok (.aload_n 0, 1) := by decide +kernel
theorem dT_shrink_1 : decode cT_shrink 1 = .ok (.iload_n 1, 1) := by decide +kernel
theorem dT_shrink_2 : decode cT_shrink 2 = .ok (.invokevirtual 16, 3) := by decide +kernel
theorem dT_shrink_5 : decode cT_shrink 5 = .ok (.astore_n 3, 1) := by decide +kernel
theorem dT_shrink_6 : decode cT_shrink 6 = .ok (.iload_n 2, 1) := by decide +kernel
theorem dT_shrink_7 : decode cT_shrink 7 = .ok (.tableswitch 43 0 2 #[25, 31, 37], 25) := by decide +kernel
theorem dT_shrink_32 : decode cT_shrink 32 = .ok (.aload_n 3, 1) := by decide +kernel
theorem dT_shrink_33 : decode cT_shrink 33 = .ok (.invokevirtual 63, 3) := by decide +kernel
theorem dT_shrink_36 : decode cT_shrink 36 = .ok (.iconst 1, 1) := by decide +kernel
theorem dT_shrink_37 : decode cT_shrink 37 = .ok (.ireturn, 1) := by decide +kernel
theorem dT_shrink_38 : decode cT_shrink 38 = .ok (.aload_n 3, 1) := by decide +kernel
theorem dT_shrink_39 : decode cT_shrink 39 = .ok (.invokevirtual 66, 3) := by decide +kernel
theorem dT_shrink_42 : decode cT_shrink 42 = .ok (.iconst 1, 1) := by decide +kernel
theorem dT_shrink_43 : decode cT_shrink 43 = .ok (.ireturn, 1) := by decide +kernel
theorem dT_shrink_44 : decode cT_shrink 44 = .ok (.aload_n 3, 1) := by decide +kernel
theorem dT_shrink_45 : decode cT_shrink 45 = .ok (.invokevirtual 69, 3) := by decide +kernel
theorem dT_shrink_48 : decode cT_shrink 48 = .ok (.iconst 1, 1) := by decide +kernel
theorem dT_shrink_49 : decode cT_shrink 49 = .ok (.ireturn, 1) := by decide +kernel
theorem dT_shrink_50 : decode cT_shrink 50 = .ok (.iconst 0, 1) := by decide +kernel
theorem dT_shrink_51 : decode cT_shrink 51 = .ok (.ireturn, 1) := by decide +kernel
theorem dT_copy_0 : decode cT_copy 0 = .ok (.aload_n 0, 1) := by decide +kernel
theorem dT_copy_1 : decode cT_copy 1 = .ok (.iload_n 1, 1) := by decide +kernel
theorem dT_copy_2 : decode cT_copy 2 = .ok (.invokevirtual 16, 3) := by decide +kernel
theorem dT_copy_5 : decode cT_copy 5 = .ok (.astore_n 3, 1) := by decide +kernel
theorem dT_copy_6 : decode cT_copy 6 = .ok (.aload_n 0, 1) := by decide +kernel
theorem dT_copy_7 : decode cT_copy 7 = .ok (.iload_n 2, 1) := by decide +kernel
theorem dT_copy_8 : decode cT_copy 8 = .ok (.invokevirtual 16, 3) := by decide +kernel
theorem dT_copy_11 : decode cT_copy 11 = .ok (.astore 4, 2) := by decide +kernel
theorem dT_copy_13 : decode cT_copy 13 = .ok (.aload 4, 2) := by decide +kernel
theorem dT_copy_15 : decode cT_copy 15 = .ok (.aload_n 3, 1) := by decide +kernel
theorem dT_copy_16 : decode cT_copy 16 = .ok (.invokevirtual 79, 3) := by decide +kernel
theorem dT_copy_19 : decode cT_copy 19 = .ok (.return_, 1) := by decide +kernel
theorem dT_extend_0 : decode cT_extend 0 = .ok (.aload_n 0, 1) := by decide +kernel
theorem dT_extend_1 : decode cT_extend 1 = .ok (.iload_n 1, 1) := by decide +kernel
theorem dT_extend_2 : decode cT_extend 2 = .ok (.invokevirtual 16, 3) := by decide +kernel
theorem dT_extend_5 : decode cT_extend 5 = .ok (.astore 4, 2) := by decide +kernel
theorem dT_extend_7 : decode cT_extend 7 = .ok (.iload_n 2, 1) := by decide +kernel
theorem dT_extend_8 : decode cT_extend 8 = .ok (.aload 4, 2) := by decide +kernel
theorem dT_extend_10 : decode cT_extend 10 = .ok (.getfield 45, 3) := by decide +kernel
theorem dT_extend_13 : decode cT_extend 13 = .ok (.if_icmp .lt 24, 3) := by decide +kernel
theorem dT_extend_16 : decode cT_extend 16 = .ok (.iload_n 2, 1) := by decide +kernel
theorem dT_extend_17 : decode cT_extend 17 = .ok (.bipush 32, 2) := by decide +kernel
theorem dT_extend_19 : decode cT_extend 19 = .ok (.if_icmp .gt 18, 3) := by decide +kernel
theorem dT_extend_22 : decode cT_extend 22 = .ok (.iload_n 3, 1) := by decide +kernel
theorem dT_extend_23 : decode cT_extend 23 = .ok (.aload 4, 2) := by decide +kernel
theorem dT_extend_25 : decode cT_extend 25 = .ok (.getfield 53, 3) := by decide +kernel
theorem dT_extend_28 : decode cT_extend 28 = .ok (.if_icmp .lt 9, 3) := by decide +kernel
theorem dT_extend_31 : decode cT_extend 31 = .ok (.iload_n 3, 1) := by decide +kernel
theorem dT_extend_32 : decode cT_extend 32 = .ok (.bipush 32, 2) := by decide +kernel
theorem dT_extend_34 : decode cT_extend 34 = .ok (.if_icmp .le 5, 3) := by decide +kernel
theorem dT_extend_37 : decode cT_extend 37 = .ok (.iconst 0, 1) := by decide +kernel
theorem dT_extend_38 : decode cT_extend 38 = .ok (.ireturn, 1) := by decide +kernel
theorem dT_extend_39 : decode cT_extend 39 = .ok (.aload 4, 2) := by decide +kernel
theorem dT_extend_41 : decode cT_extend 41 = .ok (.iload_n 2, 1) := by decide +kernel
theorem dT_extend_42 : decode cT_extend 42 = .ok (.invokevirtual 83, 3) := by decide +kernel
theorem dT_extend_45 : decode cT_extend 45 = .ok (.aload 4, 2) := by decide +kernel
theorem dT_extend_47 : decode cT_extend 47 = .ok (.iload_n 3, 1) := by decide +kernel
theorem dT_extend_48 : decode cT_extend 48 = .ok (.invokevirtual 87, 3) := by decide +kernel
theorem dT_extend_51 : decode cT_extend 51 = .ok (.iconst 1, 1) := by decide +kernel
theorem dT_extend_52 : decode cT_extend 52 = .ok (.ireturn, 1) := by decide +kernel
theorem dT_cut_0 : decode cT_cut 0 = .ok (.aload_n 0, 1) := by decide +kernel
theorem dT_cut_1 : decode cT_cut 1 = .ok (.iload_n 1, 1) := by decide +kernel
theorem dT_cut_2 : decode cT_cut 2 = .ok (.invokevirtual 16, 3) := by decide +kernel
theorem dT_cut_5 : decode cT_cut 5 = .ok (.astore 4, 2) := by decide +kernel
theorem dT_cut_7 : decode cT_cut 7 = .ok (.iload_n 2, 1) := by decide +kernel
theorem dT_cut_8 : decode cT_cut 8 = .ok (.iconst 1, 1) := by decide +kernel
theorem dT_cut_9 : decode cT_cut 9 = .ok (.if_icmp .lt 26, 3) := by decide +kernel
theorem dT_cut_12 : decode cT_cut 12 = .ok (.iload_n 2, 1) := by decide +kernel
theorem dT_cut_13 : decode cT_cut 13 = .ok (.aload 4, 2) := by decide +kernel
theorem dT_cut_15 : decode cT_cut 15 = .ok (.getfield 45, 3) := by decide +kernel
theorem dT_cut_18 : decode cT_cut 18 = .ok (.if_icmp .gt 17, 3) := by decide +kernel
theorem dT_cut_21 : decode cT_cut 21 = .ok (.iload_n 3, 1) := by decide +kernel
theorem dT_cut_22 : decode cT_cut 22 = .ok (.iconst 1, 1) := by decide +kernel
theorem dT_cut_23 : decode cT_cut 23 = .ok (.if_icmp .lt 12, 3) := by decide +kernel
theorem dT_cut_26 : decode cT_cut 26 = .ok (.iload_n 3, 1) := by decide +kernel
theorem dT_cut_27 : decode cT_cut 27 = .ok (.aload 4, 2) := by decide +kernel
theorem dT_cut_29 : decode cT_cut 29 = .ok (.getfield 53, 3) := by decide +kernel
theorem dT_cut_32 : decode cT_cut 32 = .ok (.if_icmp .le 5, 3) := by decide +kernel
theorem dT_cut_35 : decode cT_cut 35 = .ok (.iconst 0, 1) := by decide +kernel
theorem dT_cut_36 : decode cT_cut 36 = .ok (.ireturn, 1) := by decide +kernel
theorem dT_cut_37 : decode cT_cut 37 = .ok (.aload 4, 2) := by decide +kernel
theorem dT_cut_39 : decode cT_cut 39 = .ok (.iload_n 2, 1) := by decide +kernel
theorem dT_cut_40 : decode cT_cut 40 = .ok (.putfield 45, 3) := by decide +kernel
theorem dT_cut_43 : decode cT_cut 43 = .ok (.aload 4, 2) := by decide +kernel
theorem dT_cut_45 : decode cT_cut 45 = .ok (.iload_n 3, 1) := by decide +kernel
theorem dT_cut_46 : decode cT_cut 46 = .ok (.putfield 53, 3) := by decide +kernel
theorem dT_cut_49 : decode cT_cut 49 = .ok (.iconst 1, 1) := by decide +kernel
theorem dT_cut_50 : decode cT_cut 50 = .ok (.ireturn, 1) := by decide +kernel
theorem dT_at_0 : decode cT_at 0 = .ok (.aload_n 0, 1) := by decide +kernel
theorem dT_at_1 : decode cT_at 1 = .ok (.iload_n 1, 1) := by decide +kernel
theorem dT_at_2 : decode cT_at 2 = .ok (.iload_n 2, 1) := by decide +kernel
theorem dT_at_3 : decode cT_at 3 = .ok (.iload_n 3, 1) := by decide +kernel
theorem dT_at_4 : decode cT_at 4 = .ok (.invokevirtual 31, 3) := by decide +kernel
theorem dT_at_7 : decode cT_at 7 = .ok (.getfield 37, 3) := by decide +kernel
theorem dT_at_10 : decode cT_at 10 = .ok (.iload_n 2, 1) := by decide +kernel
theorem dT_at_11 : decode cT_at 11 = .ok (.iload_n 3, 1) := by decide +kernel
theorem dT_at_12 : decode cT_at 12 = .ok (.invokestatic 41, 3) := by decide +kernel
theorem dT_at_15 : decode cT_at 15 = .ok (.iaload, 1) := by decide +kernel
theorem dT_at_16 : decode cT_at 16 = .ok (.ireturn, 1) := by decide +kernel
theorem dT_eight_0 : decode cT_eight 0 = .ok (.aload_n 0, 1) := by decide +kernel
theorem dT_eight_1 : decode cT_eight 1 = .ok (.iload_n 1, 1) := by decide +kernel
theorem dT_eight_2 : decode cT_eight 2 = .ok (.invokevirtual 16, 3) := by decide +kernel
theorem dT_eight_5 : decode cT_eight 5 = .ok (.astore 4, 2) := by decide +kernel
theorem dT_eight_7 : decode cT_eight 7 = .ok (.lconst 0, 1) := by decide +kernel
theorem dT_eight_8 : decode cT_eight 8 = .ok (.lstore 5, 2) := by decide +kernel
theorem dT_eight_10 : decode cT_eight 10 = .ok (.iconst 0, 1) := by decide +kernel
theorem dT_eight_11 : decode cT_eight 11 = .ok (.istore 7, 2) := by decide +kernel
theorem dT_eight_13 : decode cT_eight 13 = .ok (.iload 7, 2) := by decide +kernel
theorem dT_eight_15 : decode cT_eight 15 = .ok (.bipush 8, 2) := by decide +kernel
theorem dT_eight_17 : decode cT_eight 17 = .ok (.if_icmp .ge 48, 3) := by decide +kernel
theorem dT_eight_20 : decode cT_eight 20 = .ok (.aload 4, 2) := by decide +kernel
theorem dT_eight_22 : decode cT_eight 22 = .ok (.iload_n 2, 1) := by decide +kernel
theorem dT_eight_23 : decode cT_eight 23 = .ok (.iload 7, 2) := by decide +kernel
theorem dT_eight_25 : decode cT_eight 25 = .ok (.iadd, 1) := by decide +kernel
theorem dT_eight_26 : decode cT_eight 26 = .ok (.iload_n 3, 1) := by decide +kernel
theorem dT_eight_27 : decode cT_eight 27 = .ok (.invokevirtual 90, 3) := by decide +kernel
theorem dT_eight_30 : decode cT_eight 30 = .ok (.ifCond .eq 29, 3) := by decide +kernel
theorem dT_eight_33 : decode cT_eight 33 = .ok (.lload 5, 2) := by decide +kernel
theorem dT_eight_35 : decode cT_eight 35 = .ok (.aload 4, 2) := by decide +kernel
theorem dT_eight_37 : decode cT_eight 37 = .ok (.getfield 37, 3) := by decide +kernel
theorem dT_eight_40 : decode cT_eight 40 = .ok (.iload_n 2, 1) := by decide +kernel
theorem dT_eight_41 : decode cT_eight 41 = .ok (.iload 7, 2) := by decide +kernel
theorem dT_eight_43 : decode cT_eight 43 = .ok (.iadd, 1) := by decide +kernel
theorem dT_eight_44 : decode cT_eight 44 = .ok (.iload_n 3, 1) := by decide +kernel
theorem dT_eight_45 : decode cT_eight 45 = .ok (.invokestatic 41, 3) := by decide +kernel
theorem dT_eight_48 : decode cT_eight 48 = .ok (.iaload, 1) := by decide +kernel
theorem dT_eight_49 : decode cT_eight 49 = .ok (.i2l, 1) := by decide +kernel
theorem dT_eight_50 : decode cT_eight 50 = .ok (.iload 7, 2) := by decide +kernel
theorem dT_eight_52 : decode cT_eight 52 = .ok (.invokestatic 49, 3) := by decide +kernel
theorem dT_eight_55 : decode cT_eight 55 = .ok (.lshl, 1) := by decide +kernel
theorem dT_eight_56 : decode cT_eight 56 = .ok (.lor, 1) := by decide +kernel
theorem dT_eight_57 : decode cT_eight 57 = .ok (.lstore 5, 2) := by decide +kernel
theorem dT_eight_59 : decode cT_eight 59 = .ok (.iinc 7 1, 3) := by decide +kernel
theorem dT_eight_62 : decode cT_eight 62 = .ok (.goto (-49), 3) := by decide +kernel
theorem dT_eight_65 : decode cT_eight 65 = .ok (.lload 5, 2) := by decide +kernel
theorem dT_eight_67 : decode cT_eight 67 = .ok (.lreturn, 1) := by decide +kernel
theorem dT_apart_0 : decode cT_apart 0 = .ok (.aload_n 0, 1) := by decide +kernel
theorem dT_apart_1 : decode cT_apart 1 = .ok (.iload_n 1, 1) := by decide +kernel
theorem dT_apart_2 : decode cT_apart 2 = .ok (.invokevirtual 16, 3) := by decide +kernel
theorem dT_apart_5 : decode cT_apart 5 = .ok (.astore_n 3, 1) := by decide +kernel
theorem dT_apart_6 : decode cT_apart 6 = .ok (.aload_n 0, 1) := by decide +kernel
theorem dT_apart_7 : decode cT_apart 7 = .ok (.iload_n 2, 1) := by decide +kernel
theorem dT_apart_8 : decode cT_apart 8 = .ok (.invokevirtual 16, 3) := by decide +kernel
theorem dT_apart_11 : decode cT_apart 11 = .ok (.astore 4, 2) := by decide +kernel
theorem dT_apart_13 : decode cT_apart 13 = .ok (.aload_n 3, 1) := by decide +kernel
theorem dT_apart_14 : decode cT_apart 14 = .ok (.aload 4, 2) := by decide +kernel
theorem dT_apart_16 : decode cT_apart 16 = .ok (.invokevirtual 94, 3) := by decide +kernel
theorem dT_apart_19 : decode cT_apart 19 = .ok (.ifCond .eq 12, 3) := by decide +kernel
theorem dT_apart_22 : decode cT_apart 22 = .ok (.aload_n 3, 1) := by decide +kernel
theorem dT_apart_23 : decode cT_apart 23 = .ok (.aload 4, 2) := by decide +kernel
theorem dT_apart_25 : decode cT_apart 25 = .ok (.invokevirtual 98, 3) := by decide +kernel
theorem dT_apart_28 : decode cT_apart 28 = .ok (.goto 4, 3) := by decide +kernel
theorem dT_apart_31 : decode cT_apart 31 = .ok (.iconst (-1), 1) := by decide +kernel
theorem dT_apart_32 : decode cT_apart 32 = .ok (.ireturn, 1) := by decide +kernel
theorem dT_look_0 : decode cT_look 0 = .ok (.aload_n 0, 1) := by decide +kernel
theorem dT_look_1 : decode cT_look 1 = .ok (.iload_n 1, 1) := by decide +kernel
theorem dT_look_2 : decode cT_look 2 = .ok (.invokevirtual 16, 3) := by decide +kernel
theorem dT_look_5 : decode cT_look 5 = .ok (.astore_n 3, 1) := by decide +kernel
theorem dT_look_6 : decode cT_look 6 = .ok (.iload_n 2, 1) := by decide +kernel
theorem dT_look_7 : decode cT_look 7 = .ok (.tableswitch 58 0 4 #[33, 38, 43, 48, 53], 33) := by decide +kernel
theorem dT_look_40 : decode cT_look 40 = .ok (.aload_n 3, 1) := by decide +kernel
theorem dT_look_41 : decode cT_look 41 = .ok (.getfield 45, 3) := by decide +kernel
theorem dT_look_44 : decode cT_look 44 = .ok (.ireturn, 1) := by decide +kernel
theorem dT_look_45 : decode cT_look 45 = .ok (.aload_n 3, 1) := by decide +kernel
theorem dT_look_46 : decode cT_look 46 = .ok (.getfield 53, 3) := by decide +kernel
theorem dT_look_49 : decode cT_look 49 = .ok (.ireturn, 1) := by decide +kernel
theorem dT_look_50 : decode cT_look 50 = .ok (.aload_n 3, 1) := by decide +kernel
theorem dT_look_51 : decode cT_look 51 = .ok (.invokevirtual 102, 3) := by decide +kernel
theorem dT_look_54 : decode cT_look 54 = .ok (.ireturn, 1) := by decide +kernel
theorem dT_look_55 : decode cT_look 55 = .ok (.aload_n 3, 1) := by decide +kernel
theorem dT_look_56 : decode cT_look 56 = .ok (.invokevirtual 106, 3) := by decide +kernel
theorem dT_look_59 : decode cT_look 59 = .ok (.ireturn, 1) := by decide +kernel
theorem dT_look_60 : decode cT_look 60 = .ok (.aload_n 3, 1) := by decide +kernel
theorem dT_look_61 : decode cT_look 61 = .ok (.invokevirtual 109, 3) := by decide +kernel
theorem dT_look_64 : decode cT_look 64 = .ok (.ireturn, 1) := by decide +kernel
theorem dT_look_65 : decode cT_look 65 = .ok (.iconst (-1), 1) := by decide +kernel
theorem dT_look_66 : decode cT_look 66 = .ok (.ireturn, 1) := by decide +kernel
end
section
theorem dM_init_0 : decode cM_init 0 = .ok (.aload_n 0, 1) := by decide +kernel
theorem dM_init_1 : decode cM_init 1 = .ok (.invokespecial 1, 3) := by decide +kernel
theorem dM_init_4 : decode cM_init 4 = .ok (.aload_n 0, 1) := by decide +kernel
theorem dM_init_5 : decode cM_init 5 = .ok (.iconst 4, 1) := by decide +kernel
theorem dM_init_6 : decode cM_init 6 = .ok (.newarray .int, 2) := by decide +kernel
theorem dM_init_8 : decode cM_init 8 = .ok (.putfield 7, 3) := by decide +kernel
theorem dM_init_11 : decode cM_init 11 = .ok (.aload_n 0, 1) := by decide +kernel
theorem dM_init_12 : decode cM_init 12 = .ok (.iconst 4, 1) := by decide +kernel
theorem dM_init_13 : decode cM_init 13 = .ok (.newarray .int, 2) := by decide +kernel
theorem dM_init_15 : decode cM_init 15 = .ok (.putfield 13, 3) := by decide +kernel
theorem dM_init_18 : decode cM_init 18 = .ok (.aload_n 0, 1) := by decide +kernel
theorem dM_init_19 : decode cM_init 19 = .ok (.sipush 4096, 3) := by decide +kernel
theorem dM_init_22 : decode cM_init 22 = .ok (.newarray .int, 2) := by decide +kernel
theorem dM_init_24 : decode cM_init 24 = .ok (.putfield 16, 3) := by decide +kernel
theorem dM_init_27 : decode cM_init 27 = .ok (.aload_n 0, 1) := by decide +kernel
theorem dM_init_28 : decode cM_init 28 = .ok (.sipush 1024, 3) := by decide +kernel
theorem dM_init_31 : decode cM_init 31 = .ok (.newarray .int, 2) := by decide +kernel
theorem dM_init_33 : decode cM_init 33 = .ok (.putfield 19, 3) := by decide +kernel
theorem dM_init_36 : decode cM_init 36 = .ok (.iconst 0, 1) := by decide +kernel
theorem dM_init_37 : decode cM_init 37 = .ok (.istore_n 1, 1) := by decide +kernel
theorem dM_init_38 : decode cM_init 38 = .ok (.iload_n 1, 1) := by decide +kernel
theorem dM_init_39 : decode cM_init 39 = .ok (.iconst 4, 1) := by decide +kernel
theorem dM_init_40 : decode cM_init 40 = .ok (.if_icmp .ge 23, 3) := by decide +kernel
theorem dM_init_43 : decode cM_init 43 = .ok (.aload_n 0, 1) := by decide +kernel
theorem dM_init_44 : decode cM_init 44 = .ok (.getfield 7, 3) := by decide +kernel
theorem dM_init_47 : decode cM_init 47 = .ok (.iload_n 1, 1) := by decide +kernel
theorem dM_init_48 : decode cM_init 48 = .ok (.iconst 1, 1) := by decide +kernel
theorem dM_init_49 : decode cM_init 49 = .ok (.iastore, 1) := by decide +kernel
theorem dM_init_50 : decode cM_init 50 = .ok (.aload_n 0, 1) := by decide +kernel
theorem dM_init_51 : decode cM_init 51 = .ok (.getfield 13, 3) := by decide +kernel
theorem dM_init_54 : decode cM_init 54 = .ok (.iload_n 1, 1) := by decide +kernel
theorem dM_init_55 : decode cM_init 55 = .ok (.iconst 1, 1) := by decide +kernel
theorem dM_init_56 : decode cM_init 56 = .ok (.iastore, 1) := by decide +kernel
theorem dM_init_57 : decode cM_init 57 = .ok (.iinc 1 1, 3) := by decide +kernel
theorem dM_init_60 : decode cM_init 60 = .ok (.goto (-22), 3) := by decide +kernel
theorem dM_init_63 : decode cM_init 63 = .ok (.return_, 1) := by decide +kernel
theorem dM_thrown_0 : decode cM_thrown 0 = .ok (.aload_n 0, 1) := by decide +kernel
theorem dM_thrown_1 : decode cM_thrown 1 = .ok (.getfield 22, 3) := by decide +kernel
theorem dM_thrown_4 : decode cM_thrown 4 = .ok (.ireturn, 1) := by decide +kernel
theorem dM_size_0 : decode cM_size 0 = .ok (.aload_n 0, 1) := by decide +kernel
theorem dM_size_1 : decode cM_size 1 = .ok (.iload_n 1, 1) := by decide +kernel
theorem dM_size_2 : decode cM_size 2 = .ok (.invokestatic 30, 3) := by decide +kernel
theorem dM_size_5 : decode cM_size 5 = .ok (.iload_n 2, 1) := by decide +kernel
theorem dM_size_6 : decode cM_size 6 = .ok (.iconst 1, 1) := by decide +kernel
theorem dM_size_7 : decode cM_size 7 = .ok (.bipush 32, 2) := by decide +kernel
theorem dM_size_9 : decode cM_size 9 = .ok (.invokestatic 26, 3) := by decide +kernel
theorem dM_size_12 : decode cM_size 12 = .ok (.ifCond .eq 17, 3) := by decide +kernel
theorem dM_size_15 : decode cM_size 15 = .ok (.iload_n 3, 1) := by decide +kernel
theorem dM_size_16 : decode cM_size 16 = .ok (.iconst 1, 1) := by decide +kernel
theorem dM_size_17 : decode cM_size 17 = .ok (.bipush 32, 2) := by decide +kernel
theorem dM_size_19 : decode cM_size 19 = .ok (.invokestatic 26, 3) := by decide +kernel
theorem dM_size_22 : decode cM_size 22 = .ok (.ifCond .eq 7, 3) := by decide +kernel
theorem dM_size_25 : decode cM_size 25 = .ok (.iconst 1, 1) := by decide +kernel
theorem dM_size_26 : decode cM_size 26 = .ok (.goto 4, 3) := by decide +kernel
theorem dM_size_29 : decode cM_size 29 = .ok (.iconst 0, 1) := by decide +kernel
theorem dM_size_30 : decode cM_size 30 = .ok (.invokevirtual 40, 3) := by decide +kernel
theorem dM_size_33 : decode cM_size 33 = .ok (.ifCond .ne 4, 3) := by decide +kernel
theorem dM_size_36 : decode cM_size 36 = .ok (.return_, 1) := by decide +kernel
theorem dM_size_37 : decode cM_size 37 = .ok (.aload_n 0, 1) := by decide +kernel
theorem dM_size_38 : decode cM_size 38 = .ok (.getfield 7, 3) := by decide +kernel
theorem dM_size_41 : decode cM_size 41 = .ok (.iload_n 1, 1) := by decide +kernel
theorem dM_size_42 : decode cM_size 42 = .ok (.iload_n 2, 1) := by decide +kernel
theorem dM_size_43 : decode cM_size 43 = .ok (.iastore, 1) := by decide +kernel
theorem dM_size_44 : decode cM_size 44 = .ok (.aload_n 0, 1) := by decide +kernel
theorem dM_size_45 : decode cM_size 45 = .ok (.getfield 13, 3) := by decide +kernel
theorem dM_size_48 : decode cM_size 48 = .ok (.iload_n 1, 1) := by decide +kernel
theorem dM_size_49 : decode cM_size 49 = .ok (.iload_n 3, 1) := by decide +kernel
theorem dM_size_50 : decode cM_size 50 = .ok (.iastore, 1) := by decide +kernel
theorem dM_size_51 : decode cM_size 51 = .ok (.iconst 0, 1) := by decide +kernel
theorem dM_size_52 : decode cM_size 52 = .ok (.istore 4, 2) := by decide +kernel
theorem dM_size_54 : decode cM_size 54 = .ok (.iload 4, 2) := by decide +kernel
theorem dM_size_56 : decode cM_size 56 = .ok (.sipush 1024, 3) := by decide +kernel
theorem dM_size_59 : decode cM_size 59 = .ok (.if_icmp .ge 23, 3) := by decide +kernel
theorem dM_size_62 : decode cM_size 62 = .ok (.aload_n 0, 1) := by decide +kernel
theorem dM_size_63 : decode cM_size 63 = .ok (.getfield 16, 3) := by decide +kernel
theorem dM_size_66 : decode cM_size 66 = .ok (.sipush 1024, 3) := by decide +kernel
theorem dM_size_69 : decode cM_size 69 = .ok (.iload_n 1, 1) := by decide +kernel
theorem dM_size_70 : decode cM_size 70 = .ok (.imul, 1) := by decide +kernel
theorem dM_size_71 : decode cM_size 71 = .ok (.iload 4, 2) := by decide +kernel
theorem dM_size_73 : decode cM_size 73 = .ok (.iadd, 1) := by decide +kernel
theorem dM_size_74 : decode cM_size 74 = .ok (.iconst 0, 1) := by decide +kernel
theorem dM_size_75 : decode cM_size 75 = .ok (.iastore, 1) := by decide +kernel
theorem dM_size_76 : decode cM_size 76 = .ok (.iinc 4 1, 3) := by decide +kernel
theorem dM_size_79 : decode cM_size 79 = .ok (.goto (-25), 3) := by decide +kernel
theorem dM_size_82 : decode cM_size 82 = .ok (.return_, 1) := by decide +kernel
theorem dM_isPlane_0 : decode cM_isPlane 0 = .ok (.iload_n 0, 1) := by decide +kernel
theorem dM_isPlane_1 : decode cM_isPlane 1 = .ok (.iconst 0, 1) := by decide +kernel
theorem dM_isPlane_2 : decode cM_isPlane 2 = .ok (.iconst 3, 1) := by decide +kernel
theorem dM_isPlane_3 : decode cM_isPlane 3 = .ok (.invokestatic 26, 3) := by decide +kernel
theorem dM_isPlane_6 : decode cM_isPlane 6 = .ok (.ireturn, 1) := by decide +kernel
theorem dM_in_0 : decode cM_in 0 = .ok (.iload_n 0, 1) := by decide +kernel
theorem dM_in_1 : decode cM_in 1 = .ok (.iload_n 1, 1) := by decide +kernel
theorem dM_in_2 : decode cM_in 2 = .ok (.if_icmp .lt 12, 3) := by decide +kernel
theorem dM_in_5 : decode cM_in 5 = .ok (.iload_n 0, 1) := by decide +kernel
theorem dM_in_6 : decode cM_in 6 = .ok (.iload_n 2, 1) := by decide +kernel
theorem dM_in_7 : decode cM_in 7 = .ok (.if_icmp .gt 7, 3) := by decide +kernel
theorem dM_in_10 : decode cM_in 10 = .ok (.iconst 1, 1) := by decide +kernel
theorem dM_in_11 : decode cM_in 11 = .ok (.goto 4, 3) := by decide +kernel
theorem dM_in_14 : decode cM_in 14 = .ok (.iconst 0, 1) := by decide +kernel
theorem dM_in_15 : decode cM_in 15 = .ok (.ireturn, 1) := by decide +kernel
theorem dM_goes_0 : decode cM_goes 0 = .ok (.aload_n 0, 1) := by decide +kernel
theorem dM_goes_1 : decode cM_goes 1 = .ok (.iload_n 1, 1) := by decide +kernel
theorem dM_goes_2 : decode cM_goes 2 = .ok (.ifCond .ne 7, 3) := by decide +kernel
theorem dM_goes_5 : decode cM_goes 5 = .ok (.iconst 1, 1) := by decide +kernel
theorem dM_goes_6 : decode cM_goes 6 = .ok (.goto 12, 3) := by decide +kernel
theorem dM_goes_9 : decode cM_goes 9 = .ok (.iload_n 2, 1) := by decide +kernel
theorem dM_goes_10 : decode cM_goes 10 = .ok (.ifCond .ne 7, 3) := by decide +kernel
theorem dM_goes_13 : decode cM_goes 13 = .ok (.iconst 2, 1) := by decide +kernel
theorem dM_goes_14 : decode cM_goes 14 = .ok (.goto 4, 3) := by decide +kernel
theorem dM_goes_17 : decode cM_goes 17 = .ok (.iconst 0, 1) := by decide +kernel
theorem dM_goes_18 : decode cM_goes 18 = .ok (.putfield 22, 3) := by decide +kernel
theorem dM_goes_21 : decode cM_goes 21 = .ok (.aload_n 0, 1) := by decide +kernel
theorem dM_goes_22 : decode cM_goes 22 = .ok (.getfield 22, 3) := by decide +kernel
theorem dM_goes_25 : decode cM_goes 25 = .ok (.ifCond .ne 7, 3) := by decide +kernel
theorem dM_goes_28 : decode cM_goes 28 = .ok (.iconst 1, 1) := by decide +kernel
theorem dM_goes_29 : decode cM_goes 29 = .ok (.goto 4, 3) := by decide +kernel
theorem dM_goes_32 : decode cM_goes 32 = .ok (.iconst 0, 1) := by decide +kernel
theorem dM_goes_33 : decode cM_goes 33 = .ok (.ireturn, 1) := by decide +kernel
theorem dM_put_0 : decode cM_put 0 = .ok (.aload_n 0, 1) := by decide +kernel
theorem dM_put_1 : decode cM_put 1 = .ok (.aload_n 0, 1) := by decide +kernel
theorem dM_put_2 : decode cM_put 2 = .ok (.iload_n 1, 1) := by decide +kernel
theorem dM_put_3 : decode cM_put 3 = .ok (.iload_n 2, 1) := by decide +kernel
theorem dM_put_4 : decode cM_put 4 = .ok (.iload_n 3, 1) := by decide +kernel
theorem dM_put_5 : decode cM_put 5 = .ok (.invokevirtual 44, 3) := by decide +kernel
theorem dM_put_8 : decode cM_put 8 = .ok (.iload 4, 2) := by decide +kernel
theorem dM_put_10 : decode cM_put 10 = .ok (.iconst 0, 1) := by decide +kernel
theorem dM_put_11 : decode cM_put 11 = .ok (.sipush 255, 3) := by decide +kernel
theorem dM_put_14 : decode cM_put 14 = .ok (.invokestatic 26, 3) := by decide +kernel
theorem dM_put_17 : decode cM_put 17 = .ok (.invokevirtual 40, 3) := by decide +kernel
theorem dM_put_20 : decode cM_put 20 = .ok (.ifCond .eq 16, 3) := by decide +kernel
theorem dM_put_23 : decode cM_put 23 = .ok (.aload_n 0, 1) := by decide +kernel
theorem dM_put_24 : decode cM_put 24 = .ok (.getfield 16, 3) := by decide +kernel
theorem dM_put_27 : decode cM_put 27 = .ok (.iload_n 1, 1) := by decide +kernel
theorem dM_put_28 : decode cM_put 28 = .ok (.iload_n 2, 1) := by decide +kernel
theorem dM_put_29 : decode cM_put 29 = .ok (.iload_n 3, 1) := by decide +kernel
theorem dM_put_30 : decode cM_put 30 = .ok (.invokestatic 47, 3) := by decide +kernel
theorem dM_put_33 : decode cM_put 33 = .ok (.iload 4, 2) := by decide +kernel
theorem dM_put_35 : decode cM_put 35 = .ok (.iastore, 1) := by decide +kernel
theorem dM_put_36 : decode cM_put 36 = .ok (.return_, 1) := by decide +kernel
theorem dM_isSample_0 : decode cM_isSample 0 = .ok (.iload_n 1, 1) := by decide +kernel
theorem dM_isSample_1 : decode cM_isSample 1 = .ok (.invokestatic 30, 3) := by decide +kernel
theorem dM_isSample_4 : decode cM_isSample 4 = .ok (.ifCond .eq 39, 3) := by decide +kernel
theorem dM_isSample_7 : decode cM_isSample 7 = .ok (.iload_n 2, 1) := by decide +kernel
theorem dM_isSample_8 : decode cM_isSample 8 = .ok (.iconst 0, 1) := by decide +kernel
theorem dM_isSample_9 : decode cM_isSample 9 = .ok (.aload_n 0, 1) := by decide +kernel
theorem dM_isSample_10 : decode cM_isSample 10 = .ok (.getfield 7, 3) := by decide +kernel
theorem dM_isSample_13 : decode cM_isSample 13 = .ok (.iload_n 1, 1) := by decide +kernel
theorem dM_isSample_14 : decode cM_isSample 14 = .ok (.iaload, 1) := by decide +kernel
theorem dM_isSample_15 : decode cM_isSample 15 = .ok (.iconst 1, 1) := by decide +kernel
theorem dM_isSample_16 : decode cM_isSample 16 = .ok (.isub, 1) := by decide +kernel
theorem dM_isSample_17 : decode cM_isSample 17 = .ok (.invokestatic 26, 3) := by decide +kernel
theorem dM_isSample_20 : decode cM_isSample 20 = .ok (.ifCond .eq 23, 3) := by decide +kernel
theorem dM_isSample_23 : decode cM_isSample 23 = .ok (.iload_n 3, 1) := by decide +kernel
theorem dM_isSample_24 : decode cM_isSample 24 = .ok (.iconst 0, 1) := by decide +kernel
theorem dM_isSample_25 : decode cM_isSample 25 = .ok (.aload_n 0, 1) := by decide +kernel
theorem dM_isSample_26 : decode cM_isSample 26 = .ok (.getfield 13, 3) := by decide +kernel
theorem dM_isSample_29 : decode cM_isSample 29 = .ok (.iload_n 1, 1) := by decide +kernel
theorem dM_isSample_30 : decode cM_isSample 30 = .ok (.iaload, 1) := by decide +kernel
theorem dM_isSample_31 : decode cM_isSample 31 = .ok (.iconst 1, 1) := by decide +kernel
theorem dM_isSample_32 : decode cM_isSample 32 = .ok (.isub, 1) := by decide +kernel
theorem dM_isSample_33 : decode cM_isSample 33 = .ok (.invokestatic 26, 3) := by decide +kernel
theorem dM_isSample_36 : decode cM_isSample 36 = .ok (.ifCond .eq 7, 3) := by decide +kernel
theorem dM_isSample_39 : decode cM_isSample 39 = .ok (.iconst 1, 1) := by decide +kernel
theorem dM_isSample_40 : decode cM_isSample 40 = .ok (.goto 4, 3) := by decide +kernel
theorem dM_isSample_43 : decode cM_isSample 43 = .ok (.iconst 0, 1) := by decide +kernel
theorem dM_isSample_44 : decode cM_isSample 44 = .ok (.ireturn, 1) := by decide +kernel
theorem dM_cell_0 : decode cM_cell 0 = .ok (.sipush 1024, 3) := by decide +kernel
theorem dM_cell_3 : decode cM_cell 3 = .ok (.iload_n 0, 1) := by decide +kernel
theorem dM_cell_4 : decode cM_cell 4 = .ok (.imul, 1) := by decide +kernel
theorem dM_cell_5 : decode cM_cell 5 = .ok (.bipush 32, 2) := by decide +kernel
theorem dM_cell_7 : decode cM_cell 7 = .ok (.iload_n 2, 1) := by decide +kernel
theorem dM_cell_8 : decode cM_cell 8 = .ok (.imul, 1) := by decide +kernel
theorem dM_cell_9 : decode cM_cell 9 = .ok (.iadd, 1) := by decide +kernel
theorem dM_cell_10 : decode cM_cell 10 = .ok (.iload_n 1, 1) := by decide +kernel
theorem dM_cell_11 : decode cM_cell 11 = .ok (.iadd, 1) := by decide +kernel
theorem dM_cell_12 : decode cM_cell 12 = .ok (.ireturn, 1) := by decide +kernel
theorem dM_row_0 : decode cM_row 0 = .ok (.aload_n 0, 1) := by decide +kernel
theorem dM_row_1 : decode cM_row 1 = .ok (.aload_n 0, 1) := by decide +kernel
theorem dM_row_2 : decode cM_row 2 = .ok (.iload_n 1, 1) := by decide +kernel
theorem dM_row_3 : decode cM_row 3 = .ok (.iload_n 2, 1) := by decide +kernel
theorem dM_row_4 : decode cM_row 4 = .ok (.iload_n 3, 1) := by decide +kernel
theorem dM_row_5 : decode cM_row 5 = .ok (.invokevirtual 44, 3) := by decide +kernel
theorem dM_row_8 : decode cM_row 8 = .ok (.iconst 1, 1) := by decide +kernel
theorem dM_row_9 : decode cM_row 9 = .ok (.invokevirtual 40, 3) := by decide +kernel
theorem dM_row_12 : decode cM_row 12 = .ok (.ifCond .ne 4, 3) := by decide +kernel
theorem dM_row_15 : decode cM_row 15 = .ok (.return_, 1) := by decide +kernel
theorem dM_row_16 : decode cM_row 16 = .ok (.iconst 0, 1) := by decide +kernel
theorem dM_row_17 : decode cM_row 17 = .ok (.istore 6, 2) := by decide +kernel
theorem dM_row_19 : decode cM_row 19 = .ok (.iload 6, 2) := by decide +kernel
theorem dM_row_21 : decode cM_row 21 = .ok (.bipush 8, 2) := by decide +kernel
theorem dM_row_23 : decode cM_row 23 = .ok (.if_icmp .ge 52, 3) := by decide +kernel
theorem dM_row_26 : decode cM_row 26 = .ok (.iload_n 2, 1) := by decide +kernel
theorem dM_row_27 : decode cM_row 27 = .ok (.iload 6, 2) := by decide +kernel
theorem dM_row_29 : decode cM_row 29 = .ok (.iadd, 1) := by decide +kernel
theorem dM_row_30 : decode cM_row 30 = .ok (.aload_n 0, 1) := by decide +kernel
theorem dM_row_31 : decode cM_row 31 = .ok (.getfield 7, 3) := by decide +kernel
theorem dM_row_34 : decode cM_row 34 = .ok (.iload_n 1, 1) := by decide +kernel
theorem dM_row_35 : decode cM_row 35 = .ok (.iaload, 1) := by decide +kernel
theorem dM_row_36 : decode cM_row 36 = .ok (.if_icmp .ge 39, 3) := by decide +kernel
theorem dM_row_39 : decode cM_row 39 = .ok (.aload_n 0, 1) := by decide +kernel
theorem dM_row_40 : decode cM_row 40 = .ok (.getfield 16, 3) := by decide +kernel
theorem dM_row_43 : decode cM_row 43 = .ok (.iload_n 1, 1) := by decide +kernel
theorem dM_row_44 : decode cM_row 44 = .ok (.iload_n 2, 1) := by decide +kernel
theorem dM_row_45 : decode cM_row 45 = .ok (.iload 6, 2) := by decide +kernel
theorem dM_row_47 : decode cM_row 47 = .ok (.iadd, 1) := by decide +kernel
theorem dM_row_48 : decode cM_row 48 = .ok (.iload_n 3, 1) := by decide +kernel
theorem dM_row_49 : decode cM_row 49 = .ok (.invokestatic 47, 3) := by decide +kernel
theorem dM_row_52 : decode cM_row 52 = .ok (.lload 4, 2) := by decide +kernel
theorem dM_row_54 : decode cM_row 54 = .ok (.bipush 56, 2) := by decide +kernel
theorem dM_row_56 : decode cM_row 56 = .ok (.bipush 8, 2) := by decide +kernel
theorem dM_row_58 : decode cM_row 58 = .ok (.iload 6, 2) := by decide +kernel
theorem dM_row_60 : decode cM_row 60 = .ok (.imul, 1) := by decide +kernel
theorem dM_row_61 : decode cM_row 61 = .ok (.isub, 1) := by decide +kernel
theorem dM_row_62 : decode cM_row 62 = .ok (.lshr, 1) := by decide +kernel
theorem dM_row_63 : decode cM_row 63 = .ok (.ldc2_w 51, 3) := by decide +kernel
theorem dM_row_66 : decode cM_row 66 = .ok (.land, 1) := by decide +kernel
theorem dM_row_67 : decode cM_row 67 = .ok (.l2i, 1) := by decide +kernel
theorem dM_row_68 : decode cM_row 68 = .ok (.iastore, 1) := by decide +kernel
theorem dM_row_69 : decode cM_row 69 = .ok (.iinc 6 1, 3) := by decide +kernel
theorem dM_row_72 : decode cM_row 72 = .ok (.goto (-53), 3) := by decide +kernel
theorem dM_row_75 : decode cM_row 75 = .ok (.return_, 1) := by decide +kernel
theorem dM_grow_0 : decode cM_grow 0 = .ok (.aload_n 0, 1) := by decide +kernel
theorem dM_grow_1 : decode cM_grow 1 = .ok (.iload_n 1, 1) := by decide +kernel
theorem dM_grow_2 : decode cM_grow 2 = .ok (.invokestatic 30, 3) := by decide +kernel
theorem dM_grow_5 : decode cM_grow 5 = .ok (.iconst 1, 1) := by decide +kernel
theorem dM_grow_6 : decode cM_grow 6 = .ok (.invokevirtual 40, 3) := by decide +kernel
theorem dM_grow_9 : decode cM_grow 9 = .ok (.ifCond .eq 12, 3) := by decide +kernel
theorem dM_grow_12 : decode cM_grow 12 = .ok (.iload_n 2, 1) := by decide +kernel
theorem dM_grow_13 : decode cM_grow 13 = .ok (.iconst 0, 1) := by decide +kernel
theorem dM_grow_14 : decode cM_grow 14 = .ok (.iconst 5, 1) := by decide +kernel
theorem dM_grow_15 : decode cM_grow 15 = .ok (.invokestatic 26, 3) := by decide +kernel
theorem dM_grow_18 : decode cM_grow 18 = .ok (.ifCond .ne 5, 3) := by decide +kernel
theorem dM_grow_21 : decode cM_grow 21 = .ok (.iconst 0, 1) := by decide +kernel
theorem dM_grow_22 : decode cM_grow 22 = .ok (.ireturn, 1) := by decide +kernel
theorem dM_grow_23 : decode cM_grow 23 = .ok (.iload_n 2, 1) := by decide +kernel
theorem dM_grow_24 : decode cM_grow 24 = .ok (.iconst 2, 1) := by decide +kernel
theorem dM_grow_25 : decode cM_grow 25 = .ok (.if_icmp .lt 8, 3) := by decide +kernel
theorem dM_grow_28 : decode cM_grow 28 = .ok (.iload_n 2, 1) := by decide +kernel
theorem dM_grow_29 : decode cM_grow 29 = .ok (.iconst 3, 1) := by decide +kernel
theorem dM_grow_30 : decode cM_grow 30 = .ok (.if_icmp .le 7, 3) := by decide +kernel
theorem dM_grow_33 : decode cM_grow 33 = .ok (.iconst 1, 1) := by decide +kernel
theorem dM_grow_34 : decode cM_grow 34 = .ok (.goto 4, 3) := by decide +kernel
theorem dM_grow_37 : decode cM_grow 37 = .ok (.iconst 0, 1) := by decide +kernel
theorem dM_grow_38 : decode cM_grow 38 = .ok (.istore_n 3, 1) := by decide +kernel
theorem dM_grow_39 : decode cM_grow 39 = .ok (.iload_n 2, 1) := by decide +kernel
theorem dM_grow_40 : decode cM_grow 40 = .ok (.iconst 1, 1) := by decide +kernel
theorem dM_grow_41 : decode cM_grow 41 = .ok (.if_icmp .le 7, 3) := by decide +kernel
theorem dM_grow_44 : decode cM_grow 44 = .ok (.iconst 1, 1) := by decide +kernel
theorem dM_grow_45 : decode cM_grow 45 = .ok (.goto 4, 3) := by decide +kernel
theorem dM_grow_48 : decode cM_grow 48 = .ok (.iconst 0, 1) := by decide +kernel
theorem dM_grow_49 : decode cM_grow 49 = .ok (.istore 4, 2) := by decide +kernel
theorem dM_grow_51 : decode cM_grow 51 = .ok (.iload_n 3, 1) := by decide +kernel
theorem dM_grow_52 : decode cM_grow 52 = .ok (.ifCond .eq 16, 3) := by decide +kernel
theorem dM_grow_55 : decode cM_grow 55 = .ok (.iconst 2, 1) := by decide +kernel
theorem dM_grow_56 : decode cM_grow 56 = .ok (.aload_n 0, 1) := by decide +kernel
theorem dM_grow_57 : decode cM_grow 57 = .ok (.getfield 7, 3) := by decide +kernel
theorem dM_grow_60 : decode cM_grow 60 = .ok (.iload_n 1, 1) := by decide +kernel
theorem dM_grow_61 : decode cM_grow 61 = .ok (.iaload, 1) := by decide +kernel
theorem dM_grow_62 : decode cM_grow 62 = .ok (.imul, 1) := by decide +kernel
theorem dM_grow_63 : decode cM_grow 63 = .ok (.bipush 32, 2) := by decide +kernel
theorem dM_grow_65 : decode cM_grow 65 = .ok (.if_icmp .gt 21, 3) := by decide +kernel
theorem dM_grow_68 : decode cM_grow 68 = .ok (.iload 4, 2) := by decide +kernel
theorem dM_grow_70 : decode cM_grow 70 = .ok (.ifCond .eq 18, 3) := by decide +kernel
theorem dM_grow_73 : decode cM_grow 73 = .ok (.iconst 2, 1) := by decide +kernel
theorem dM_grow_74 : decode cM_grow 74 = .ok (.aload_n 0, 1) := by decide +kernel
theorem dM_grow_75 : decode cM_grow 75 = .ok (.getfield 13, 3) := by decide +kernel
theorem dM_grow_78 : decode cM_grow 78 = .ok (.iload_n 1, 1) := by decide +kernel
theorem dM_grow_79 : decode cM_grow 79 = .ok (.iaload, 1) := by decide +kernel
theorem dM_grow_80 : decode cM_grow 80 = .ok (.imul, 1) := by decide +kernel
theorem dM_grow_81 : decode cM_grow 81 = .ok (.bipush 32, 2) := by decide +kernel
theorem dM_grow_83 : decode cM_grow 83 = .ok (.if_icmp .le 5, 3) := by decide +kernel
theorem dM_grow_86 : decode cM_grow 86 = .ok (.iconst 0, 1) := by decide +kernel
theorem dM_grow_87 : decode cM_grow 87 = .ok (.ireturn, 1) := by decide +kernel
theorem dM_grow_88 : decode cM_grow 88 = .ok (.iload_n 3, 1) := by decide +kernel
theorem dM_grow_89 : decode cM_grow 89 = .ok (.ifCond .eq 20, 3) := by decide +kernel
theorem dM_grow_92 : decode cM_grow 92 = .ok (.aload_n 0, 1) := by decide +kernel
theorem dM_grow_93 : decode cM_grow 93 = .ok (.iload_n 1, 1) := by decide +kernel
theorem dM_grow_94 : decode cM_grow 94 = .ok (.iload_n 2, 1) := by decide +kernel
theorem dM_grow_95 : decode cM_grow 95 = .ok (.iconst 2, 1) := by decide +kernel
theorem dM_grow_96 : decode cM_grow 96 = .ok (.irem, 1) := by decide +kernel
theorem dM_grow_97 : decode cM_grow 97 = .ok (.iconst 1, 1) := by decide +kernel
theorem dM_grow_98 : decode cM_grow 98 = .ok (.if_icmp .ne 7, 3) := by decide +kernel
theorem dM_grow_101 : decode cM_grow 101 = .ok (.iconst 1, 1) := by decide +kernel
theorem dM_grow_102 : decode cM_grow 102 = .ok (.goto 4, 3) := by decide +kernel
theorem dM_grow_105 : decode cM_grow 105 = .ok (.iconst 0, 1) := by decide +kernel
theorem dM_grow_106 : decode cM_grow 106 = .ok (.invokevirtual 61, 3) := by decide +kernel
theorem dM_grow_109 : decode cM_grow 109 = .ok (.iload 4, 2) := by decide +kernel
theorem dM_grow_111 : decode cM_grow 111 = .ok (.ifCond .eq 20, 3) := by decide +kernel
theorem dM_grow_114 : decode cM_grow 114 = .ok (.aload_n 0, 1) := by decide +kernel
theorem dM_grow_115 : decode cM_grow 115 = .ok (.iload_n 1, 1) := by decide +kernel
theorem dM_grow_116 : decode cM_grow 116 = .ok (.iload_n 2, 1) := by decide +kernel
theorem dM_grow_117 : decode cM_grow 117 = .ok (.iconst 2, 1) := by decide +kernel
theorem dM_grow_118 : decode cM_grow 118 = .ok (.irem, 1) := by decide +kernel
theorem dM_grow_119 : decode cM_grow 119 = .ok (.iconst 1, 1) := by decide +kernel
theorem dM_grow_120 : decode cM_grow 120 = .ok (.if_icmp .ne 7, 3) := by decide +kernel
theorem dM_grow_123 : decode cM_grow 123 = .ok (.iconst 1, 1) := by decide +kernel
theorem dM_grow_124 : decode cM_grow 124 = .ok (.goto 4, 3) := by decide +kernel
theorem dM_grow_127 : decode cM_grow 127 = .ok (.iconst 0, 1) := by decide +kernel
theorem dM_grow_128 : decode cM_grow 128 = .ok (.invokevirtual 65, 3) := by decide +kernel
theorem dM_grow_131 : decode cM_grow 131 = .ok (.iconst 1, 1) := by decide +kernel
theorem dM_grow_132 : decode cM_grow 132 = .ok (.ireturn, 1) := by decide +kernel
theorem dM_across_0 : decode cM_across 0 = .ok (.aload_n 0, 1) := by decide +kernel
theorem dM_across_1 : decode cM_across 1 = .ok (.iload_n 1, 1) := by decide +kernel
theorem dM_across_2 : decode cM_across 2 = .ok (.invokevirtual 53, 3) := by decide +kernel
theorem dM_across_5 : decode cM_across 5 = .ok (.aload_n 0, 1) := by decide +kernel
theorem dM_across_6 : decode cM_across 6 = .ok (.getfield 7, 3) := by decide +kernel
theorem dM_across_9 : decode cM_across 9 = .ok (.iload_n 1, 1) := by decide +kernel
theorem dM_across_10 : decode cM_across 10 = .ok (.iconst 2, 1) := by decide +kernel
theorem dM_across_11 : decode cM_across 11 = .ok (.aload_n 0, 1) := by decide +kernel
theorem dM_across_12 : decode cM_across 12 = .ok (.getfield 34, 3) := by decide +kernel
theorem dM_across_15 : decode cM_across 15 = .ok (.imul, 1) := by decide +kernel
theorem dM_across_16 : decode cM_across 16 = .ok (.iastore, 1) := by decide +kernel
theorem dM_across_17 : decode cM_across 17 = .ok (.iconst 0, 1) := by decide +kernel
theorem dM_across_18 : decode cM_across 18 = .ok (.istore_n 3, 1) := by decide +kernel
theorem dM_across_19 : decode cM_across 19 = .ok (.iload_n 3, 1) := by decide +kernel
theorem dM_across_20 : decode cM_across 20 = .ok (.aload_n 0, 1) := by decide +kernel
theorem dM_across_21 : decode cM_across 21 = .ok (.getfield 37, 3) := by decide +kernel
theorem dM_across_24 : decode cM_across 24 = .ok (.if_icmp .ge 120, 3) := by decide +kernel
theorem dM_across_27 : decode cM_across 27 = .ok (.iconst 0, 1) := by decide +kernel
theorem dM_across_28 : decode cM_across 28 = .ok (.istore 4, 2) := by decide +kernel
theorem dM_across_30 : decode cM_across 30 = .ok (.iload 4, 2) := by decide +kernel
theorem dM_across_32 : decode cM_across 32 = .ok (.aload_n 0, 1) := by decide +kernel
theorem dM_across_33 : decode cM_across 33 = .ok (.getfield 34, 3) := by decide +kernel
theorem dM_across_36 : decode cM_across 36 = .ok (.if_icmp .ge 102, 3) := by decide +kernel
theorem dM_across_39 : decode cM_across 39 = .ok (.aload_n 0, 1) := by decide +kernel
theorem dM_across_40 : decode cM_across 40 = .ok (.iload 4, 2) := by decide +kernel
theorem dM_across_42 : decode cM_across 42 = .ok (.iload_n 3, 1) := by decide +kernel
theorem dM_across_43 : decode cM_across 43 = .ok (.invokevirtual 57, 3) := by decide +kernel
theorem dM_across_46 : decode cM_across 46 = .ok (.istore 5, 2) := by decide +kernel
theorem dM_across_48 : decode cM_across 48 = .ok (.aload_n 0, 1) := by decide +kernel
theorem dM_across_49 : decode cM_across 49 = .ok (.getfield 16, 3) := by decide +kernel
theorem dM_across_52 : decode cM_across 52 = .ok (.iload_n 1, 1) := by decide +kernel
theorem dM_across_53 : decode cM_across 53 = .ok (.iconst 2, 1) := by decide +kernel
theorem dM_across_54 : decode cM_across 54 = .ok (.iload 4, 2) := by decide +kernel
theorem dM_across_56 : decode cM_across 56 = .ok (.imul, 1) := by decide +kernel
theorem dM_across_57 : decode cM_across 57 = .ok (.iload_n 3, 1) := by decide +kernel
theorem dM_across_58 : decode cM_across 58 = .ok (.invokestatic 47, 3) := by decide +kernel
theorem dM_across_61 : decode cM_across 61 = .ok (.iload_n 2, 1) := by decide +kernel
theorem dM_across_62 : decode cM_across 62 = .ok (.ifCond .eq 24, 3) := by decide +kernel
theorem dM_across_65 : decode cM_across 65 = .ok (.iconst 3, 1) := by decide +kernel
theorem dM_across_66 : decode cM_across 66 = .ok (.iload 5, 2) := by decide +kernel
theorem dM_across_68 : decode cM_across 68 = .ok (.imul, 1) := by decide +kernel
theorem dM_across_69 : decode cM_across 69 = .ok (.aload_n 0, 1) := by decide +kernel
theorem dM_across_70 : decode cM_across 70 = .ok (.iload 4, 2) := by decide +kernel
theorem dM_across_72 : decode cM_across 72 = .ok (.iconst 1, 1) := by decide +kernel
theorem dM_across_73 : decode cM_across 73 = .ok (.isub, 1) := by decide +kernel
theorem dM_across_74 : decode cM_across 74 = .ok (.iload_n 3, 1) := by decide +kernel
theorem dM_across_75 : decode cM_across 75 = .ok (.invokevirtual 57, 3) := by decide +kernel
theorem dM_across_78 : decode cM_across 78 = .ok (.iadd, 1) := by decide +kernel
theorem dM_across_79 : decode cM_across 79 = .ok (.iconst 1, 1) := by decide +kernel
theorem dM_across_80 : decode cM_across 80 = .ok (.iadd, 1) := by decide +kernel
theorem dM_across_81 : decode cM_across 81 = .ok (.iconst 2, 1) := by decide +kernel
theorem dM_across_82 : decode cM_across 82 = .ok (.ishr, 1) := by decide +kernel
theorem dM_across_83 : decode cM_across 83 = .ok (.goto 5, 3) := by decide +kernel
theorem dM_across_86 : decode cM_across 86 = .ok (.iload 5, 2) := by decide +kernel
theorem dM_across_88 : decode cM_across 88 = .ok (.iastore, 1) := by decide +kernel
theorem dM_across_89 : decode cM_across 89 = .ok (.aload_n 0, 1) := by decide +kernel
theorem dM_across_90 : decode cM_across 90 = .ok (.getfield 16, 3) := by decide +kernel
theorem dM_across_93 : decode cM_across 93 = .ok (.iload_n 1, 1) := by decide +kernel
theorem dM_across_94 : decode cM_across 94 = .ok (.iconst 2, 1) := by decide +kernel
theorem dM_across_95 : decode cM_across 95 = .ok (.iload 4, 2) := by decide +kernel
theorem dM_across_97 : decode cM_across 97 = .ok (.imul, 1) := by decide +kernel
theorem dM_across_98 : decode cM_across 98 = .ok (.iconst 1, 1) := by decide +kernel
theorem dM_across_99 : decode cM_across 99 = .ok (.iadd, 1) := by decide +kernel
theorem dM_across_100 : decode cM_across 100 = .ok (.iload_n 3, 1) := by decide +kernel
theorem dM_across_101 : decode cM_across 101 = .ok (.invokestatic 47, 3) := by decide +kernel
theorem dM_across_104 : decode cM_across 104 = .ok (.iload_n 2, 1) := by decide +kernel
theorem dM_across_105 : decode cM_across 105 = .ok (.ifCond .eq 24, 3) := by decide +kernel
theorem dM_across_108 : decode cM_across 108 = .ok (.iconst 3, 1) := by decide +kernel
theorem dM_across_109 : decode cM_across 109 = .ok (.iload 5, 2) := by decide +kernel
theorem dM_across_111 : decode cM_across 111 = .ok (.imul, 1) := by decide +kernel
theorem dM_across_112 : decode cM_across 112 = .ok (.aload_n 0, 1) := by decide +kernel
theorem dM_across_113 : decode cM_across 113 = .ok (.iload 4, 2) := by decide +kernel
theorem dM_across_115 : decode cM_across 115 = .ok (.iconst 1, 1) := by decide +kernel
theorem dM_across_116 : decode cM_across 116 = .ok (.iadd, 1) := by decide +kernel
theorem dM_across_117 : decode cM_across 117 = .ok (.iload_n 3, 1) := by decide +kernel
theorem dM_across_118 : decode cM_across 118 = .ok (.invokevirtual 57, 3) := by decide +kernel
theorem dM_across_121 : decode cM_across 121 = .ok (.iadd, 1) := by decide +kernel
theorem dM_across_122 : decode cM_across 122 = .ok (.iconst 2, 1) := by decide +kernel
theorem dM_across_123 : decode cM_across 123 = .ok (.iadd, 1) := by decide +kernel
theorem dM_across_124 : decode cM_across 124 = .ok (.iconst 2, 1) := by decide +kernel
theorem dM_across_125 : decode cM_across 125 = .ok (.ishr, 1) := by decide +kernel
theorem dM_across_126 : decode cM_across 126 = .ok (.goto 5, 3) := by decide +kernel
theorem dM_across_129 : decode cM_across 129 = .ok (.iload 5, 2) := by decide +kernel
theorem dM_across_131 : decode cM_across 131 = .ok (.iastore, 1) := by decide +kernel
theorem dM_across_132 : decode cM_across 132 = .ok (.iinc 4 1, 3) := by decide +kernel
theorem dM_across_135 : decode cM_across 135 = .ok (.goto (-105), 3) := by decide +kernel
theorem dM_across_138 : decode cM_across 138 = .ok (.iinc 3 1, 3) := by decide +kernel
theorem dM_across_141 : decode cM_across 141 = .ok (.goto (-122), 3) := by decide +kernel
theorem dM_across_144 : decode cM_across 144 = .ok (.return_, 1) := by decide +kernel
theorem dM_keep_0 : decode cM_keep 0 = .ok (.aload_n 0, 1) := by decide +kernel
theorem dM_keep_1 : decode cM_keep 1 = .ok (.aload_n 0, 1) := by decide +kernel
theorem dM_keep_2 : decode cM_keep 2 = .ok (.getfield 7, 3) := by decide +kernel
theorem dM_keep_5 : decode cM_keep 5 = .ok (.iload_n 1, 1) := by decide +kernel
theorem dM_keep_6 : decode cM_keep 6 = .ok (.iaload, 1) := by decide +kernel
theorem dM_keep_7 : decode cM_keep 7 = .ok (.putfield 34, 3) := by decide +kernel
theorem dM_keep_10 : decode cM_keep 10 = .ok (.aload_n 0, 1) := by decide +kernel
theorem dM_keep_11 : decode cM_keep 11 = .ok (.aload_n 0, 1) := by decide +kernel
theorem dM_keep_12 : decode cM_keep 12 = .ok (.getfield 13, 3) := by decide +kernel
theorem dM_keep_15 : decode cM_keep 15 = .ok (.iload_n 1, 1) := by decide +kernel
theorem dM_keep_16 : decode cM_keep 16 = .ok (.iaload, 1) := by decide +kernel
theorem dM_keep_17 : decode cM_keep 17 = .ok (.putfield 37, 3) := by decide +kernel
theorem dM_keep_20 : decode cM_keep 20 = .ok (.iconst 0, 1) := by decide +kernel
theorem dM_keep_21 : decode cM_keep 21 = .ok (.istore_n 2, 1) := by decide +kernel
theorem dM_keep_22 : decode cM_keep 22 = .ok (.iload_n 2, 1) := by decide +kernel
theorem dM_keep_23 : decode cM_keep 23 = .ok (.sipush 1024, 3) := by decide +kernel
theorem dM_keep_26 : decode cM_keep 26 = .ok (.if_icmp .ge 27, 3) := by decide +kernel
theorem dM_keep_29 : decode cM_keep 29 = .ok (.aload_n 0, 1) := by decide +kernel
theorem dM_keep_30 : decode cM_keep 30 = .ok (.getfield 19, 3) := by decide +kernel
theorem dM_keep_33 : decode cM_keep 33 = .ok (.iload_n 2, 1) := by decide +kernel
theorem dM_keep_34 : decode cM_keep 34 = .ok (.aload_n 0, 1) := by decide +kernel
theorem dM_keep_35 : decode cM_keep 35 = .ok (.getfield 16, 3) := by decide +kernel
theorem dM_keep_38 : decode cM_keep 38 = .ok (.sipush 1024, 3) := by decide +kernel
theorem dM_keep_41 : decode cM_keep 41 = .ok (.iload_n 1, 1) := by decide +kernel
theorem dM_keep_42 : decode cM_keep 42 = .ok (.imul, 1) := by decide +kernel
theorem dM_keep_43 : decode cM_keep 43 = .ok (.iload_n 2, 1) := by decide +kernel
theorem dM_keep_44 : decode cM_keep 44 = .ok (.iadd, 1) := by decide +kernel
theorem dM_keep_45 : decode cM_keep 45 = .ok (.iaload, 1) := by decide +kernel
theorem dM_keep_46 : decode cM_keep 46 = .ok (.iastore, 1) := by decide +kernel
theorem dM_keep_47 : decode cM_keep 47 = .ok (.iinc 2 1, 3) := by decide +kernel
theorem dM_keep_50 : decode cM_keep 50 = .ok (.goto (-28), 3) := by decide +kernel
theorem dM_keep_53 : decode cM_keep 53 = .ok (.return_, 1) := by decide +kernel
theorem dM_was_0 : decode cM_was 0 = .ok (.iload_n 1, 1) := by decide +kernel
theorem dM_was_1 : decode cM_was 1 = .ok (.ifCond .ge 7, 3) := by decide +kernel
theorem dM_was_4 : decode cM_was 4 = .ok (.iconst 0, 1) := by decide +kernel
theorem dM_was_5 : decode cM_was 5 = .ok (.goto 21, 3) := by decide +kernel
theorem dM_was_8 : decode cM_was 8 = .ok (.iload_n 1, 1) := by decide +kernel
theorem dM_was_9 : decode cM_was 9 = .ok (.aload_n 0, 1) := by decide +kernel
theorem dM_was_10 : decode cM_was 10 = .ok (.getfield 34, 3) := by decide +kernel
theorem dM_was_13 : decode cM_was 13 = .ok (.if_icmp .lt 12, 3) := by decide +kernel
theorem dM_was_16 : decode cM_was 16 = .ok (.aload_n 0, 1) := by decide +kernel
theorem dM_was_17 : decode cM_was 17 = .ok (.getfield 34, 3) := by decide +kernel
theorem dM_was_20 : decode cM_was 20 = .ok (.iconst 1, 1) := by decide +kernel
theorem dM_was_21 : decode cM_was 21 = .ok (.isub, 1) := by decide +kernel
theorem dM_was_22 : decode cM_was 22 = .ok (.goto 4, 3) := by decide +kernel
theorem dM_was_25 : decode cM_was 25 = .ok (.iload_n 1, 1) := by decide +kernel
theorem dM_was_26 : decode cM_was 26 = .ok (.istore_n 3, 1) := by decide +kernel
theorem dM_was_27 : decode cM_was 27 = .ok (.iload_n 2, 1) := by decide +kernel
theorem dM_was_28 : decode cM_was 28 = .ok (.ifCond .ge 7, 3) := by decide +kernel
theorem dM_was_31 : decode cM_was 31 = .ok (.iconst 0, 1) := by decide +kernel
theorem dM_was_32 : decode cM_was 32 = .ok (.goto 21, 3) := by decide +kernel
theorem dM_was_35 : decode cM_was 35 = .ok (.iload_n 2, 1) := by decide +kernel
theorem dM_was_36 : decode cM_was 36 = .ok (.aload_n 0, 1) := by decide +kernel
theorem dM_was_37 : decode cM_was 37 = .ok (.getfield 37, 3) := by decide +kernel
theorem dM_was_40 : decode cM_was 40 = .ok (.if_icmp .lt 12, 3) := by decide +kernel
theorem dM_was_43 : decode cM_was 43 = .ok (.aload_n 0, 1) := by decide +kernel
theorem dM_was_44 : decode cM_was 44 = .ok (.getfield 37, 3) := by decide +kernel
theorem dM_was_47 : decode cM_was 47 = .ok (.iconst 1, 1) := by decide +kernel
theorem dM_was_48 : decode cM_was 48 = .ok (.isub, 1) := by decide +kernel
theorem dM_was_49 : decode cM_was 49 = .ok (.goto 4, 3) := by decide +kernel
theorem dM_was_52 : decode cM_was 52 = .ok (.iload_n 2, 1) := by decide +kernel
theorem dM_was_53 : decode cM_was 53 = .ok (.istore 4, 2) := by decide +kernel
theorem dM_was_55 : decode cM_was 55 = .ok (.aload_n 0, 1) := by decide +kernel
theorem dM_was_56 : decode cM_was 56 = .ok (.getfield 19, 3) := by decide +kernel
theorem dM_was_59 : decode cM_was 59 = .ok (.bipush 32, 2) := by decide +kernel
theorem dM_was_61 : decode cM_was 61 = .ok (.iload 4, 2) := by decide +kernel
theorem dM_was_63 : decode cM_was 63 = .ok (.imul, 1) := by decide +kernel
theorem dM_was_64 : decode cM_was 64 = .ok (.iload_n 3, 1) := by decide +kernel
theorem dM_was_65 : decode cM_was 65 = .ok (.iadd, 1) := by decide +kernel
theorem dM_was_66 : decode cM_was 66 = .ok (.iaload, 1) := by decide +kernel
theorem dM_was_67 : decode cM_was 67 = .ok (.ireturn, 1) := by decide +kernel
theorem dM_down_0 : decode cM_down 0 = .ok (.aload_n 0, 1) := by decide +kernel
theorem dM_down_1 : decode cM_down 1 = .ok (.iload_n 1, 1) := by decide +kernel
theorem dM_down_2 : decode cM_down 2 = .ok (.invokevirtual 53, 3) := by decide +kernel
theorem dM_down_5 : decode cM_down 5 = .ok (.aload_n 0, 1) := by decide +kernel
theorem dM_down_6 : decode cM_down 6 = .ok (.getfield 13, 3) := by decide +kernel
theorem dM_down_9 : decode cM_down 9 = .ok (.iload_n 1, 1) := by decide +kernel
theorem dM_down_10 : decode cM_down 10 = .ok (.iconst 2, 1) := by decide +kernel
theorem dM_down_11 : decode cM_down 11 = .ok (.aload_n 0, 1) := by decide +kernel
theorem dM_down_12 : decode cM_down 12 = .ok (.getfield 37, 3) := by decide +kernel
theorem dM_down_15 : decode cM_down 15 = .ok (.imul, 1) := by decide +kernel
theorem dM_down_16 : decode cM_down 16 = .ok (.iastore, 1) := by decide +kernel
theorem dM_down_17 : decode cM_down 17 = .ok (.iconst 0, 1) := by decide +kernel
theorem dM_down_18 : decode cM_down 18 = .ok (.istore_n 3, 1) := by decide +kernel
theorem dM_down_19 : decode cM_down 19 = .ok (.iload_n 3, 1) := by decide +kernel
theorem dM_down_20 : decode cM_down 20 = .ok (.aload_n 0, 1) := by decide +kernel
theorem dM_down_21 : decode cM_down 21 = .ok (.getfield 37, 3) := by decide +kernel
theorem dM_down_24 : decode cM_down 24 = .ok (.if_icmp .ge 120, 3) := by decide +kernel
theorem dM_down_27 : decode cM_down 27 = .ok (.iconst 0, 1) := by decide +kernel
theorem dM_down_28 : decode cM_down 28 = .ok (.istore 4, 2) := by decide +kernel
theorem dM_down_30 : decode cM_down 30 = .ok (.iload 4, 2) := by decide +kernel
theorem dM_down_32 : decode cM_down 32 = .ok (.aload_n 0, 1) := by decide +kernel
theorem dM_down_33 : decode cM_down 33 = .ok (.getfield 34, 3) := by decide +kernel
theorem dM_down_36 : decode cM_down 36 = .ok (.if_icmp .ge 102, 3) := by decide +kernel
theorem dM_down_39 : decode cM_down 39 = .ok (.aload_n 0, 1) := by decide +kernel
theorem dM_down_40 : decode cM_down 40 = .ok (.iload 4, 2) := by decide +kernel
theorem dM_down_42 : decode cM_down 42 = .ok (.iload_n 3, 1) := by decide +kernel
theorem dM_down_43 : decode cM_down 43 = .ok (.invokevirtual 57, 3) := by decide +kernel
theorem dM_down_46 : decode cM_down 46 = .ok (.istore 5, 2) := by decide +kernel
theorem dM_down_48 : decode cM_down 48 = .ok (.aload_n 0, 1) := by decide +kernel
theorem dM_down_49 : decode cM_down 49 = .ok (.getfield 16, 3) := by decide +kernel
theorem dM_down_52 : decode cM_down 52 = .ok (.iload_n 1, 1) := by decide +kernel
theorem dM_down_53 : decode cM_down 53 = .ok (.iload 4, 2) := by decide +kernel
theorem dM_down_55 : decode cM_down 55 = .ok (.iconst 2, 1) := by decide +kernel
theorem dM_down_56 : decode cM_down 56 = .ok (.iload_n 3, 1) := by decide +kernel
theorem dM_down_57 : decode cM_down 57 = .ok (.imul, 1) := by decide +kernel
theorem dM_down_58 : decode cM_down 58 = .ok (.invokestatic 47, 3) := by decide +kernel
theorem dM_down_61 : decode cM_down 61 = .ok (.iload_n 2, 1) := by decide +kernel
theorem dM_down_62 : decode cM_down 62 = .ok (.ifCond .eq 24, 3) := by decide +kernel
theorem dM_down_65 : decode cM_down 65 = .ok (.iconst 3, 1) := by decide +kernel
theorem dM_down_66 : decode cM_down 66 = .ok (.iload 5, 2) := by decide +kernel
theorem dM_down_68 : decode cM_down 68 = .ok (.imul, 1) := by decide +kernel
theorem dM_down_69 : decode cM_down 69 = .ok (.aload_n 0, 1) := by decide +kernel
theorem dM_down_70 : decode cM_down 70 = .ok (.iload 4, 2) := by decide +kernel
theorem dM_down_72 : decode cM_down 72 = .ok (.iload_n 3, 1) := by decide +kernel
theorem dM_down_73 : decode cM_down 73 = .ok (.iconst 1, 1) := by decide +kernel
theorem dM_down_74 : decode cM_down 74 = .ok (.isub, 1) := by decide +kernel
theorem dM_down_75 : decode cM_down 75 = .ok (.invokevirtual 57, 3) := by decide +kernel
theorem dM_down_78 : decode cM_down 78 = .ok (.iadd, 1) := by decide +kernel
theorem dM_down_79 : decode cM_down 79 = .ok (.iconst 1, 1) := by decide +kernel
theorem dM_down_80 : decode cM_down 80 = .ok (.iadd, 1) := by decide +kernel
theorem dM_down_81 : decode cM_down 81 = .ok (.iconst 2, 1) := by decide +kernel
theorem dM_down_82 : decode cM_down 82 = .ok (.ishr, 1) := by decide +kernel
theorem dM_down_83 : decode cM_down 83 = .ok (.goto 5, 3) := by decide +kernel
theorem dM_down_86 : decode cM_down 86 = .ok (.iload 5, 2) := by decide +kernel
theorem dM_down_88 : decode cM_down 88 = .ok (.iastore, 1) := by decide +kernel
theorem dM_down_89 : decode cM_down 89 = .ok (.aload_n 0, 1) := by decide +kernel
theorem dM_down_90 : decode cM_down 90 = .ok (.getfield 16, 3) := by decide +kernel
theorem dM_down_93 : decode cM_down 93 = .ok (.iload_n 1, 1) := by decide +kernel
theorem dM_down_94 : decode cM_down 94 = .ok (.iload 4, 2) := by decide +kernel
theorem dM_down_96 : decode cM_down 96 = .ok (.iconst 2, 1) := by decide +kernel
theorem dM_down_97 : decode cM_down 97 = .ok (.iload_n 3, 1) := by decide +kernel
theorem dM_down_98 : decode cM_down 98 = .ok (.imul, 1) := by decide +kernel
theorem dM_down_99 : decode cM_down 99 = .ok (.iconst 1, 1) := by decide +kernel
theorem dM_down_100 : decode cM_down 100 = .ok (.iadd, 1) := by decide +kernel
theorem dM_down_101 : decode cM_down 101 = .ok (.invokestatic 47, 3) := by decide +kernel
theorem dM_down_104 : decode cM_down 104 = .ok (.iload_n 2, 1) := by decide +kernel
theorem dM_down_105 : decode cM_down 105 = .ok (.ifCond .eq 24, 3) := by decide +kernel
theorem dM_down_108 : decode cM_down 108 = .ok (.iconst 3, 1) := by decide +kernel
theorem dM_down_109 : decode cM_down 109 = .ok (.iload 5, 2) := by decide +kernel
theorem dM_down_111 : decode cM_down 111 = .ok (.imul, 1) := by decide +kernel
theorem dM_down_112 : decode cM_down 112 = .ok (.aload_n 0, 1) := by decide +kernel
theorem dM_down_113 : decode cM_down 113 = .ok (.iload 4, 2) := by decide +kernel
theorem dM_down_115 : decode cM_down 115 = .ok (.iload_n 3, 1) := by decide +kernel
theorem dM_down_116 : decode cM_down 116 = .ok (.iconst 1, 1) := by decide +kernel
theorem dM_down_117 : decode cM_down 117 = .ok (.iadd, 1) := by decide +kernel
theorem dM_down_118 : decode cM_down 118 = .ok (.invokevirtual 57, 3) := by decide +kernel
theorem dM_down_121 : decode cM_down 121 = .ok (.iadd, 1) := by decide +kernel
theorem dM_down_122 : decode cM_down 122 = .ok (.iconst 2, 1) := by decide +kernel
theorem dM_down_123 : decode cM_down 123 = .ok (.iadd, 1) := by decide +kernel
theorem dM_down_124 : decode cM_down 124 = .ok (.iconst 2, 1) := by decide +kernel
theorem dM_down_125 : decode cM_down 125 = .ok (.ishr, 1) := by decide +kernel
theorem dM_down_126 : decode cM_down 126 = .ok (.goto 5, 3) := by decide +kernel
theorem dM_down_129 : decode cM_down 129 = .ok (.iload 5, 2) := by decide +kernel
theorem dM_down_131 : decode cM_down 131 = .ok (.iastore, 1) := by decide +kernel
theorem dM_down_132 : decode cM_down 132 = .ok (.iinc 4 1, 3) := by decide +kernel
theorem dM_down_135 : decode cM_down 135 = .ok (.goto (-105), 3) := by decide +kernel
theorem dM_down_138 : decode cM_down 138 = .ok (.iinc 3 1, 3) := by decide +kernel
theorem dM_down_141 : decode cM_down 141 = .ok (.goto (-122), 3) := by decide +kernel
theorem dM_down_144 : decode cM_down 144 = .ok (.return_, 1) := by decide +kernel
theorem dM_shrink_0 : decode cM_shrink 0 = .ok (.aload_n 0, 1) := by decide +kernel
theorem dM_shrink_1 : decode cM_shrink 1 = .ok (.iload_n 1, 1) := by decide +kernel
theorem dM_shrink_2 : decode cM_shrink 2 = .ok (.invokestatic 30, 3) := by decide +kernel
theorem dM_shrink_5 : decode cM_shrink 5 = .ok (.iconst 1, 1) := by decide +kernel
theorem dM_shrink_6 : decode cM_shrink 6 = .ok (.invokevirtual 40, 3) := by decide +kernel
theorem dM_shrink_9 : decode cM_shrink 9 = .ok (.ifCond .eq 12, 3) := by decide +kernel
theorem dM_shrink_12 : decode cM_shrink 12 = .ok (.iload_n 2, 1) := by decide +kernel
theorem dM_shrink_13 : decode cM_shrink 13 = .ok (.iconst 0, 1) := by decide +kernel
theorem dM_shrink_14 : decode cM_shrink 14 = .ok (.iconst 2, 1) := by decide +kernel
theorem dM_shrink_15 : decode cM_shrink 15 = .ok (.invokestatic 26, 3) := by decide +kernel
theorem dM_shrink_18 : decode cM_shrink 18 = .ok (.ifCond .ne 5, 3) := by decide +kernel
theorem dM_shrink_21 : decode cM_shrink 21 = .ok (.iconst 0, 1) := by decide +kernel
theorem dM_shrink_22 : decode cM_shrink 22 = .ok (.ireturn, 1) := by decide +kernel
theorem dM_shrink_23 : decode cM_shrink 23 = .ok (.aload_n 0, 1) := by decide +kernel
theorem dM_shrink_24 : decode cM_shrink 24 = .ok (.iload_n 1, 1) := by decide +kernel
theorem dM_shrink_25 : decode cM_shrink 25 = .ok (.invokevirtual 53, 3) := by decide +kernel
theorem dM_shrink_28 : decode cM_shrink 28 = .ok (.aload_n 0, 1) := by decide +kernel
theorem dM_shrink_29 : decode cM_shrink 29 = .ok (.getfield 7, 3) := by decide +kernel
theorem dM_shrink_32 : decode cM_shrink 32 = .ok (.iload_n 1, 1) := by decide +kernel
theorem dM_shrink_33 : decode cM_shrink 33 = .ok (.iload_n 2, 1) := by decide +kernel
theorem dM_shrink_34 : decode cM_shrink 34 = .ok (.iconst 1, 1) := by decide +kernel
theorem dM_shrink_35 : decode cM_shrink 35 = .ok (.if_icmp .ne 10, 3) := by decide +kernel
theorem dM_shrink_38 : decode cM_shrink 38 = .ok (.aload_n 0, 1) := by decide +kernel
theorem dM_shrink_39 : decode cM_shrink 39 = .ok (.getfield 34, 3) := by decide +kernel
theorem dM_shrink_42 : decode cM_shrink 42 = .ok (.goto 11, 3) := by decide +kernel
theorem dM_shrink_45 : decode cM_shrink 45 = .ok (.aload_n 0, 1) := by decide +kernel
theorem dM_shrink_46 : decode cM_shrink 46 = .ok (.getfield 34, 3) := by decide +kernel
theorem dM_shrink_49 : decode cM_shrink 49 = .ok (.iconst 1, 1) := by decide +kernel
theorem dM_shrink_50 : decode cM_shrink 50 = .ok (.iadd, 1) := by decide +kernel
theorem dM_shrink_51 : decode cM_shrink 51 = .ok (.iconst 2, 1) := by decide +kernel
theorem dM_shrink_52 : decode cM_shrink 52 = .ok (.idiv, 1) := by decide +kernel
theorem dM_shrink_53 : decode cM_shrink 53 = .ok (.iastore, 1) := by decide +kernel
theorem dM_shrink_54 : decode cM_shrink 54 = .ok (.aload_n 0, 1) := by decide +kernel
theorem dM_shrink_55 : decode cM_shrink 55 = .ok (.getfield 13, 3) := by decide +kernel
theorem dM_shrink_58 : decode cM_shrink 58 = .ok (.iload_n 1, 1) := by decide +kernel
theorem dM_shrink_59 : decode cM_shrink 59 = .ok (.iload_n 2, 1) := by decide +kernel
theorem dM_shrink_60 : decode cM_shrink 60 = .ok (.ifCond .ne 10, 3) := by decide +kernel
theorem dM_shrink_63 : decode cM_shrink 63 = .ok (.aload_n 0, 1) := by decide +kernel
theorem dM_shrink_64 : decode cM_shrink 64 = .ok (.getfield 37, 3) := by decide +kernel
theorem dM_shrink_67 : decode cM_shrink 67 = .ok (.goto 11, 3) := by decide +kernel
theorem dM_shrink_70 : decode cM_shrink 70 = .ok (.aload_n 0, 1) := by decide +kernel
theorem dM_shrink_71 : decode cM_shrink 71 = .ok (.getfield 37, 3) := by decide +kernel
theorem dM_shrink_74 : decode cM_shrink 74 = .ok (.iconst 1, 1) := by decide +kernel
theorem dM_shrink_75 : decode cM_shrink 75 = .ok (.iadd, 1) := by decide +kernel
theorem dM_shrink_76 : decode cM_shrink 76 = .ok (.iconst 2, 1) := by decide +kernel
theorem dM_shrink_77 : decode cM_shrink 77 = .ok (.idiv, 1) := by decide +kernel
theorem dM_shrink_78 : decode cM_shrink 78 = .ok (.iastore, 1) := by decide +kernel
theorem dM_shrink_79 : decode cM_shrink 79 = .ok (.iconst 0, 1) := by decide +kernel
theorem dM_shrink_80 : decode cM_shrink 80 = .ok (.istore_n 3, 1) := by decide +kernel
theorem dM_shrink_81 : decode cM_shrink 81 = .ok (.iload_n 3, 1) := by decide +kernel
theorem dM_shrink_82 : decode cM_shrink 82 = .ok (.aload_n 0, 1) := by decide +kernel
theorem dM_shrink_83 : decode cM_shrink 83 = .ok (.getfield 13, 3) := by decide +kernel
theorem dM_shrink_86 : decode cM_shrink 86 = .ok (.iload_n 1, 1) := by decide +kernel
theorem dM_shrink_87 : decode cM_shrink 87 = .ok (.iaload, 1) := by decide +kernel
theorem dM_shrink_88 : decode cM_shrink 88 = .ok (.if_icmp .ge 186, 3) := by decide +kernel
theorem dM_shrink_91 : decode cM_shrink 91 = .ok (.iconst 0, 1) := by decide +kernel
theorem dM_shrink_92 : decode cM_shrink 92 = .ok (.istore 4, 2) := by decide +kernel
theorem dM_shrink_94 : decode cM_shrink 94 = .ok (.iload 4, 2) := by decide +kernel
theorem dM_shrink_96 : decode cM_shrink 96 = .ok (.aload_n 0, 1) := by decide +kernel
theorem dM_shrink_97 : decode cM_shrink 97 = .ok (.getfield 7, 3) := by decide +kernel
theorem dM_shrink_100 : decode cM_shrink 100 = .ok (.iload_n 1, 1) := by decide +kernel
theorem dM_shrink_101 : decode cM_shrink 101 = .ok (.iaload, 1) := by decide +kernel
theorem dM_shrink_102 : decode cM_shrink 102 = .ok (.if_icmp .ge 166, 3) := by decide +kernel
theorem dM_shrink_105 : decode cM_shrink 105 = .ok (.iconst 0, 1) := by decide +kernel
theorem dM_shrink_106 : decode cM_shrink 106 = .ok (.istore 5, 2) := by decide +kernel
theorem dM_shrink_108 : decode cM_shrink 108 = .ok (.iload_n 2, 1) := by decide +kernel
theorem dM_shrink_109 : decode cM_shrink 109 = .ok (.ifCond .ne 36, 3) := by decide +kernel
theorem dM_shrink_112 : decode cM_shrink 112 = .ok (.aload_n 0, 1) := by decide +kernel
theorem dM_shrink_113 : decode cM_shrink 113 = .ok (.iconst 2, 1) := by decide +kernel
theorem dM_shrink_114 : decode cM_shrink 114 = .ok (.iload 4, 2) := by decide +kernel
theorem dM_shrink_116 : decode cM_shrink 116 = .ok (.imul, 1) := by decide +kernel
theorem dM_shrink_117 : decode cM_shrink 117 = .ok (.iload_n 3, 1) := by decide +kernel
theorem dM_shrink_118 : decode cM_shrink 118 = .ok (.invokevirtual 57, 3) := by decide +kernel
theorem dM_shrink_121 : decode cM_shrink 121 = .ok (.aload_n 0, 1) := by decide +kernel
theorem dM_shrink_122 : decode cM_shrink 122 = .ok (.iconst 2, 1) := by decide +kernel
theorem dM_shrink_123 : decode cM_shrink 123 = .ok (.iload 4, 2) := by decide +kernel
theorem dM_shrink_125 : decode cM_shrink 125 = .ok (.imul, 1) := by decide +kernel
theorem dM_shrink_126 : decode cM_shrink 126 = .ok (.iconst 1, 1) := by decide +kernel
theorem dM_shrink_127 : decode cM_shrink 127 = .ok (.iadd, 1) := by decide +kernel
theorem dM_shrink_128 : decode cM_shrink 128 = .ok (.iload_n 3, 1) := by decide +kernel
theorem dM_shrink_129 : decode cM_shrink 129 = .ok (.invokevirtual 57, 3) := by decide +kernel
theorem dM_shrink_132 : decode cM_shrink 132 = .ok (.iadd, 1) := by decide +kernel
theorem dM_shrink_133 : decode cM_shrink 133 = .ok (.iload 4, 2) := by decide +kernel
theorem dM_shrink_135 : decode cM_shrink 135 = .ok (.iconst 2, 1) := by decide +kernel
theorem dM_shrink_136 : decode cM_shrink 136 = .ok (.irem, 1) := by decide +kernel
theorem dM_shrink_137 : decode cM_shrink 137 = .ok (.iadd, 1) := by decide +kernel
theorem dM_shrink_138 : decode cM_shrink 138 = .ok (.iconst 1, 1) := by decide +kernel
theorem dM_shrink_139 : decode cM_shrink 139 = .ok (.ishr, 1) := by decide +kernel
theorem dM_shrink_140 : decode cM_shrink 140 = .ok (.istore 5, 2) := by decide +kernel
theorem dM_shrink_142 : decode cM_shrink 142 = .ok (.goto 106, 3) := by decide +kernel
theorem dM_shrink_145 : decode cM_shrink 145 = .ok (.iload_n 2, 1) := by decide +kernel
theorem dM_shrink_146 : decode cM_shrink 146 = .ok (.iconst 1, 1) := by decide +kernel
theorem dM_shrink_147 : decode cM_shrink 147 = .ok (.if_icmp .ne 35, 3) := by decide +kernel
theorem dM_shrink_150 : decode cM_shrink 150 = .ok (.aload_n 0, 1) := by decide +kernel
theorem dM_shrink_151 : decode cM_shrink 151 = .ok (.iload 4, 2) := by decide +kernel
theorem dM_shrink_153 : decode cM_shrink 153 = .ok (.iconst 2, 1) := by decide +kernel
theorem dM_shrink_154 : decode cM_shrink 154 = .ok (.iload_n 3, 1) := by decide +kernel
theorem dM_shrink_155 : decode cM_shrink 155 = .ok (.imul, 1) := by decide +kernel
theorem dM_shrink_156 : decode cM_shrink 156 = .ok (.invokevirtual 57, 3) := by decide +kernel
theorem dM_shrink_159 : decode cM_shrink 159 = .ok (.aload_n 0, 1) := by decide +kernel
theorem dM_shrink_160 : decode cM_shrink 160 = .ok (.iload 4, 2) := by decide +kernel
theorem dM_shrink_162 : decode cM_shrink 162 = .ok (.iconst 2, 1) := by decide +kernel
theorem dM_shrink_163 : decode cM_shrink 163 = .ok (.iload_n 3, 1) := by decide +kernel
theorem dM_shrink_164 : decode cM_shrink 164 = .ok (.imul, 1) := by decide +kernel
theorem dM_shrink_165 : decode cM_shrink 165 = .ok (.iconst 1, 1) := by decide +kernel
theorem dM_shrink_166 : decode cM_shrink 166 = .ok (.iadd, 1) := by decide +kernel
theorem dM_shrink_167 : decode cM_shrink 167 = .ok (.invokevirtual 57, 3) := by decide +kernel
theorem dM_shrink_170 : decode cM_shrink 170 = .ok (.iadd, 1) := by decide +kernel
theorem dM_shrink_171 : decode cM_shrink 171 = .ok (.iload_n 3, 1) := by decide +kernel
theorem dM_shrink_172 : decode cM_shrink 172 = .ok (.iconst 2, 1) := by decide +kernel
theorem dM_shrink_173 : decode cM_shrink 173 = .ok (.irem, 1) := by decide +kernel
theorem dM_shrink_174 : decode cM_shrink 174 = .ok (.iadd, 1) := by decide +kernel
theorem dM_shrink_175 : decode cM_shrink 175 = .ok (.iconst 1, 1) := by decide +kernel
theorem dM_shrink_176 : decode cM_shrink 176 = .ok (.ishr, 1) := by decide +kernel
theorem dM_shrink_177 : decode cM_shrink 177 = .ok (.istore 5, 2) := by decide +kernel
theorem dM_shrink_179 : decode cM_shrink 179 = .ok (.goto 69, 3) := by decide +kernel
theorem dM_shrink_182 : decode cM_shrink 182 = .ok (.aload_n 0, 1) := by decide +kernel
theorem dM_shrink_183 : decode cM_shrink 183 = .ok (.iconst 2, 1) := by decide +kernel
theorem dM_shrink_184 : decode cM_shrink 184 = .ok (.iload 4, 2) := by decide +kernel
theorem dM_shrink_186 : decode cM_shrink 186 = .ok (.imul, 1) := by decide +kernel
theorem dM_shrink_187 : decode cM_shrink 187 = .ok (.iconst 2, 1) := by decide +kernel
theorem dM_shrink_188 : decode cM_shrink 188 = .ok (.iload_n 3, 1) := by decide +kernel
theorem dM_shrink_189 : decode cM_shrink 189 = .ok (.imul, 1) := by decide +kernel
theorem dM_shrink_190 : decode cM_shrink 190 = .ok (.invokevirtual 57, 3) := by decide +kernel
theorem dM_shrink_193 : decode cM_shrink 193 = .ok (.aload_n 0, 1) := by decide +kernel
theorem dM_shrink_194 : decode cM_shrink 194 = .ok (.iconst 2, 1) := by decide +kernel
theorem dM_shrink_195 : decode cM_shrink 195 = .ok (.iload 4, 2) := by decide +kernel
theorem dM_shrink_197 : decode cM_shrink 197 = .ok (.imul, 1) := by decide +kernel
theorem dM_shrink_198 : decode cM_shrink 198 = .ok (.iconst 1, 1) := by decide +kernel
theorem dM_shrink_199 : decode cM_shrink 199 = .ok (.iadd, 1) := by decide +kernel
theorem dM_shrink_200 : decode cM_shrink 200 = .ok (.iconst 2, 1) := by decide +kernel
theorem dM_shrink_201 : decode cM_shrink 201 = .ok (.iload_n 3, 1) := by decide +kernel
theorem dM_shrink_202 : decode cM_shrink 202 = .ok (.imul, 1) := by decide +kernel
theorem dM_shrink_203 : decode cM_shrink 203 = .ok (.invokevirtual 57, 3) := by decide +kernel
theorem dM_shrink_206 : decode cM_shrink 206 = .ok (.iadd, 1) := by decide +kernel
theorem dM_shrink_207 : decode cM_shrink 207 = .ok (.aload_n 0, 1) := by decide +kernel
theorem dM_shrink_208 : decode cM_shrink 208 = .ok (.iconst 2, 1) := by decide +kernel
theorem dM_shrink_209 : decode cM_shrink 209 = .ok (.iload 4, 2) := by decide +kernel
theorem dM_shrink_211 : decode cM_shrink 211 = .ok (.imul, 1) := by decide +kernel
theorem dM_shrink_212 : decode cM_shrink 212 = .ok (.iconst 2, 1) := by decide +kernel
theorem dM_shrink_213 : decode cM_shrink 213 = .ok (.iload_n 3, 1) := by decide +kernel
theorem dM_shrink_214 : decode cM_shrink 214 = .ok (.imul, 1) := by decide +kernel
theorem dM_shrink_215 : decode cM_shrink 215 = .ok (.iconst 1, 1) := by decide +kernel
theorem dM_shrink_216 : decode cM_shrink 216 = .ok (.iadd, 1) := by decide +kernel
theorem dM_shrink_217 : decode cM_shrink 217 = .ok (.invokevirtual 57, 3) := by decide +kernel
theorem dM_shrink_220 : decode cM_shrink 220 = .ok (.iadd, 1) := by decide +kernel
theorem dM_shrink_221 : decode cM_shrink 221 = .ok (.aload_n 0, 1) := by decide +kernel
theorem dM_shrink_222 : decode cM_shrink 222 = .ok (.iconst 2, 1) := by decide +kernel
theorem dM_shrink_223 : decode cM_shrink 223 = .ok (.iload 4, 2) := by decide +kernel
theorem dM_shrink_225 : decode cM_shrink 225 = .ok (.imul, 1) := by decide +kernel
theorem dM_shrink_226 : decode cM_shrink 226 = .ok (.iconst 1, 1) := by decide +kernel
theorem dM_shrink_227 : decode cM_shrink 227 = .ok (.iadd, 1) := by decide +kernel
theorem dM_shrink_228 : decode cM_shrink 228 = .ok (.iconst 2, 1) := by decide +kernel
theorem dM_shrink_229 : decode cM_shrink 229 = .ok (.iload_n 3, 1) := by decide +kernel
theorem dM_shrink_230 : decode cM_shrink 230 = .ok (.imul, 1) := by decide +kernel
theorem dM_shrink_231 : decode cM_shrink 231 = .ok (.iconst 1, 1) := by decide +kernel
theorem dM_shrink_232 : decode cM_shrink 232 = .ok (.iadd, 1) := by decide +kernel
theorem dM_shrink_233 : decode cM_shrink 233 = .ok (.invokevirtual 57, 3) := by decide +kernel
theorem dM_shrink_236 : decode cM_shrink 236 = .ok (.iadd, 1) := by decide +kernel
theorem dM_shrink_237 : decode cM_shrink 237 = .ok (.iconst 1, 1) := by decide +kernel
theorem dM_shrink_238 : decode cM_shrink 238 = .ok (.iadd, 1) := by decide +kernel
theorem dM_shrink_239 : decode cM_shrink 239 = .ok (.iload 4, 2) := by decide +kernel
theorem dM_shrink_241 : decode cM_shrink 241 = .ok (.iconst 2, 1) := by decide +kernel
theorem dM_shrink_242 : decode cM_shrink 242 = .ok (.irem, 1) := by decide +kernel
theorem dM_shrink_243 : decode cM_shrink 243 = .ok (.iadd, 1) := by decide +kernel
theorem dM_shrink_244 : decode cM_shrink 244 = .ok (.iconst 2, 1) := by decide +kernel
theorem dM_shrink_245 : decode cM_shrink 245 = .ok (.ishr, 1) := by decide +kernel
theorem dM_shrink_246 : decode cM_shrink 246 = .ok (.istore 5, 2) := by decide +kernel
theorem dM_shrink_248 : decode cM_shrink 248 = .ok (.aload_n 0, 1) := by decide +kernel
theorem dM_shrink_249 : decode cM_shrink 249 = .ok (.getfield 16, 3) := by decide +kernel
theorem dM_shrink_252 : decode cM_shrink 252 = .ok (.iload_n 1, 1) := by decide +kernel
theorem dM_shrink_253 : decode cM_shrink 253 = .ok (.iload 4, 2) := by decide +kernel
theorem dM_shrink_255 : decode cM_shrink 255 = .ok (.iload_n 3, 1) := by decide +kernel
theorem dM_shrink_256 : decode cM_shrink 256 = .ok (.invokestatic 47, 3) := by decide +kernel
theorem dM_shrink_259 : decode cM_shrink 259 = .ok (.iload 5, 2) := by decide +kernel
theorem dM_shrink_261 : decode cM_shrink 261 = .ok (.iastore, 1) := by decide +kernel
theorem dM_shrink_262 : decode cM_shrink 262 = .ok (.iinc 4 1, 3) := by decide +kernel
theorem dM_shrink_265 : decode cM_shrink 265 = .ok (.goto (-171), 3) := by decide +kernel
theorem dM_shrink_268 : decode cM_shrink 268 = .ok (.iinc 3 1, 3) := by decide +kernel
theorem dM_shrink_271 : decode cM_shrink 271 = .ok (.goto (-190), 3) := by decide +kernel
theorem dM_shrink_274 : decode cM_shrink 274 = .ok (.iconst 1, 1) := by decide +kernel
theorem dM_shrink_275 : decode cM_shrink 275 = .ok (.ireturn, 1) := by decide +kernel
theorem dM_mix_0 : decode cM_mix 0 = .ok (.aload_n 0, 1) := by decide +kernel
theorem dM_mix_1 : decode cM_mix 1 = .ok (.iconst 0, 1) := by decide +kernel
theorem dM_mix_2 : decode cM_mix 2 = .ok (.putfield 22, 3) := by decide +kernel
theorem dM_mix_5 : decode cM_mix 5 = .ok (.iload_n 1, 1) := by decide +kernel
theorem dM_mix_6 : decode cM_mix 6 = .ok (.iconst 0, 1) := by decide +kernel
theorem dM_mix_7 : decode cM_mix 7 = .ok (.bipush 6, 2) := by decide +kernel
theorem dM_mix_9 : decode cM_mix 9 = .ok (.invokestatic 26, 3) := by decide +kernel
theorem dM_mix_12 : decode cM_mix 12 = .ok (.ifCond .eq 35, 3) := by decide +kernel
theorem dM_mix_15 : decode cM_mix 15 = .ok (.aload_n 0, 1) := by decide +kernel
theorem dM_mix_16 : decode cM_mix 16 = .ok (.iconst 0, 1) := by decide +kernel
theorem dM_mix_17 : decode cM_mix 17 = .ok (.iconst 1, 1) := by decide +kernel
theorem dM_mix_18 : decode cM_mix 18 = .ok (.invokevirtual 85, 3) := by decide +kernel
theorem dM_mix_21 : decode cM_mix 21 = .ok (.ifCond .eq 26, 3) := by decide +kernel
theorem dM_mix_24 : decode cM_mix 24 = .ok (.aload_n 0, 1) := by decide +kernel
theorem dM_mix_25 : decode cM_mix 25 = .ok (.iconst 0, 1) := by decide +kernel
theorem dM_mix_26 : decode cM_mix 26 = .ok (.iconst 2, 1) := by decide +kernel
theorem dM_mix_27 : decode cM_mix 27 = .ok (.invokevirtual 85, 3) := by decide +kernel
theorem dM_mix_30 : decode cM_mix 30 = .ok (.ifCond .eq 17, 3) := by decide +kernel
theorem dM_mix_33 : decode cM_mix 33 = .ok (.iload_n 1, 1) := by decide +kernel
theorem dM_mix_34 : decode cM_mix 34 = .ok (.iconst 3, 1) := by decide +kernel
theorem dM_mix_35 : decode cM_mix 35 = .ok (.if_icmp .ne 14, 3) := by decide +kernel
theorem dM_mix_38 : decode cM_mix 38 = .ok (.aload_n 0, 1) := by decide +kernel
theorem dM_mix_39 : decode cM_mix 39 = .ok (.iconst 0, 1) := by decide +kernel
theorem dM_mix_40 : decode cM_mix 40 = .ok (.iconst 3, 1) := by decide +kernel
theorem dM_mix_41 : decode cM_mix 41 = .ok (.invokevirtual 85, 3) := by decide +kernel
theorem dM_mix_44 : decode cM_mix 44 = .ok (.ifCond .ne 5, 3) := by decide +kernel
theorem dM_mix_47 : decode cM_mix 47 = .ok (.iconst 0, 1) := by decide +kernel
theorem dM_mix_48 : decode cM_mix 48 = .ok (.ireturn, 1) := by decide +kernel
theorem dM_mix_49 : decode cM_mix 49 = .ok (.iload_n 1, 1) := by decide +kernel
theorem dM_mix_50 : decode cM_mix 50 = .ok (.iconst 5, 1) := by decide +kernel
theorem dM_mix_51 : decode cM_mix 51 = .ok (.if_icmp .ne 16, 3) := by decide +kernel
theorem dM_mix_54 : decode cM_mix 54 = .ok (.aload_n 0, 1) := by decide +kernel
theorem dM_mix_55 : decode cM_mix 55 = .ok (.iconst 0, 1) := by decide +kernel
theorem dM_mix_56 : decode cM_mix 56 = .ok (.invokevirtual 89, 3) := by decide +kernel
theorem dM_mix_59 : decode cM_mix 59 = .ok (.aload_n 0, 1) := by decide +kernel
theorem dM_mix_60 : decode cM_mix 60 = .ok (.iconst 2, 1) := by decide +kernel
theorem dM_mix_61 : decode cM_mix 61 = .ok (.invokevirtual 89, 3) := by decide +kernel
theorem dM_mix_64 : decode cM_mix 64 = .ok (.goto 27, 3) := by decide +kernel
theorem dM_mix_67 : decode cM_mix 67 = .ok (.iload_n 1, 1) := by decide +kernel
theorem dM_mix_68 : decode cM_mix 68 = .ok (.bipush 6, 2) := by decide +kernel
theorem dM_mix_70 : decode cM_mix 70 = .ok (.if_icmp .ne 16, 3) := by decide +kernel
theorem dM_mix_73 : decode cM_mix 73 = .ok (.aload_n 0, 1) := by decide +kernel
theorem dM_mix_74 : decode cM_mix 74 = .ok (.iconst 2, 1) := by decide +kernel
theorem dM_mix_75 : decode cM_mix 75 = .ok (.invokevirtual 89, 3) := by decide +kernel
theorem dM_mix_78 : decode cM_mix 78 = .ok (.aload_n 0, 1) := by decide +kernel
theorem dM_mix_79 : decode cM_mix 79 = .ok (.iconst 1, 1) := by decide +kernel
theorem dM_mix_80 : decode cM_mix 80 = .ok (.invokevirtual 89, 3) := by decide +kernel
theorem dM_mix_83 : decode cM_mix 83 = .ok (.goto 8, 3) := by decide +kernel
theorem dM_mix_86 : decode cM_mix 86 = .ok (.aload_n 0, 1) := by decide +kernel
theorem dM_mix_87 : decode cM_mix 87 = .ok (.iload_n 1, 1) := by decide +kernel
theorem dM_mix_88 : decode cM_mix 88 = .ok (.invokevirtual 89, 3) := by decide +kernel
theorem dM_mix_91 : decode cM_mix 91 = .ok (.iconst 1, 1) := by decide +kernel
theorem dM_mix_92 : decode cM_mix 92 = .ok (.ireturn, 1) := by decide +kernel
theorem dM_isSame_0 : decode cM_isSame 0 = .ok (.aload_n 0, 1) := by decide +kernel
theorem dM_isSame_1 : decode cM_isSame 1 = .ok (.getfield 7, 3) := by decide +kernel
theorem dM_isSame_4 : decode cM_isSame 4 = .ok (.iload_n 1, 1) := by decide +kernel
theorem dM_isSame_5 : decode cM_isSame 5 = .ok (.iaload, 1) := by decide +kernel
theorem dM_isSame_6 : decode cM_isSame 6 = .ok (.aload_n 0, 1) := by decide +kernel
theorem dM_isSame_7 : decode cM_isSame 7 = .ok (.getfield 7, 3) := by decide +kernel
theorem dM_isSame_10 : decode cM_isSame 10 = .ok (.iload_n 2, 1) := by decide +kernel
theorem dM_isSame_11 : decode cM_isSame 11 = .ok (.iaload, 1) := by decide +kernel
theorem dM_isSame_12 : decode cM_isSame 12 = .ok (.if_icmp .ne 22, 3) := by decide +kernel
theorem dM_isSame_15 : decode cM_isSame 15 = .ok (.aload_n 0, 1) := by decide +kernel
theorem dM_isSame_16 : decode cM_isSame 16 = .ok (.getfield 13, 3) := by decide +kernel
theorem dM_isSame_19 : decode cM_isSame 19 = .ok (.iload_n 1, 1) := by decide +kernel
theorem dM_isSame_20 : decode cM_isSame 20 = .ok (.iaload, 1) := by decide +kernel
theorem dM_isSame_21 : decode cM_isSame 21 = .ok (.aload_n 0, 1) := by decide +kernel
theorem dM_isSame_22 : decode cM_isSame 22 = .ok (.getfield 13, 3) := by decide +kernel
theorem dM_isSame_25 : decode cM_isSame 25 = .ok (.iload_n 2, 1) := by decide +kernel
theorem dM_isSame_26 : decode cM_isSame 26 = .ok (.iaload, 1) := by decide +kernel
theorem dM_isSame_27 : decode cM_isSame 27 = .ok (.if_icmp .ne 7, 3) := by decide +kernel
theorem dM_isSame_30 : decode cM_isSame 30 = .ok (.iconst 1, 1) := by decide +kernel
theorem dM_isSame_31 : decode cM_isSame 31 = .ok (.goto 4, 3) := by decide +kernel
theorem dM_isSame_34 : decode cM_isSame 34 = .ok (.iconst 0, 1) := by decide +kernel
theorem dM_isSame_35 : decode cM_isSame 35 = .ok (.ireturn, 1) := by decide +kernel
theorem dM_mixAll_0 : decode cM_mixAll 0 = .ok (.iconst 0, 1) := by decide +kernel
theorem dM_mixAll_1 : decode cM_mixAll 1 = .ok (.istore_n 2, 1) := by decide +kernel
theorem dM_mixAll_2 : decode cM_mixAll 2 = .ok (.iload_n 2, 1) := by decide +kernel
theorem dM_mixAll_3 : decode cM_mixAll 3 = .ok (.aload_n 0, 1) := by decide +kernel
theorem dM_mixAll_4 : decode cM_mixAll 4 = .ok (.getfield 13, 3) := by decide +kernel
theorem dM_mixAll_7 : decode cM_mixAll 7 = .ok (.iconst 0, 1) := by decide +kernel
theorem dM_mixAll_8 : decode cM_mixAll 8 = .ok (.iaload, 1) := by decide +kernel
theorem dM_mixAll_9 : decode cM_mixAll 9 = .ok (.if_icmp .ge 126, 3) := by decide +kernel
theorem dM_mixAll_12 : decode cM_mixAll 12 = .ok (.iconst 0, 1) := by decide +kernel
theorem dM_mixAll_13 : decode cM_mixAll 13 = .ok (.istore_n 3, 1) := by decide +kernel
theorem dM_mixAll_14 : decode cM_mixAll 14 = .ok (.iload_n 3, 1) := by decide +kernel
theorem dM_mixAll_15 : decode cM_mixAll 15 = .ok (.aload_n 0, 1) := by decide +kernel
theorem dM_mixAll_16 : decode cM_mixAll 16 = .ok (.getfield 7, 3) := by decide +kernel
theorem dM_mixAll_19 : decode cM_mixAll 19 = .ok (.iconst 0, 1) := by decide +kernel
theorem dM_mixAll_20 : decode cM_mixAll 20 = .ok (.iaload, 1) := by decide +kernel
theorem dM_mixAll_21 : decode cM_mixAll 21 = .ok (.if_icmp .ge 108, 3) := by decide +kernel
theorem dM_mixAll_24 : decode cM_mixAll 24 = .ok (.bipush 32, 2) := by decide +kernel
theorem dM_mixAll_26 : decode cM_mixAll 26 = .ok (.iload_n 2, 1) := by decide +kernel
theorem dM_mixAll_27 : decode cM_mixAll 27 = .ok (.imul, 1) := by decide +kernel
theorem dM_mixAll_28 : decode cM_mixAll 28 = .ok (.iload_n 3, 1) := by decide +kernel
theorem dM_mixAll_29 : decode cM_mixAll 29 = .ok (.iadd, 1) := by decide +kernel
theorem dM_mixAll_30 : decode cM_mixAll 30 = .ok (.istore 4, 2) := by decide +kernel
theorem dM_mixAll_32 : decode cM_mixAll 32 = .ok (.aload_n 0, 1) := by decide +kernel
theorem dM_mixAll_33 : decode cM_mixAll 33 = .ok (.getfield 16, 3) := by decide +kernel
theorem dM_mixAll_36 : decode cM_mixAll 36 = .ok (.iload 4, 2) := by decide +kernel
theorem dM_mixAll_38 : decode cM_mixAll 38 = .ok (.iaload, 1) := by decide +kernel
theorem dM_mixAll_39 : decode cM_mixAll 39 = .ok (.istore 5, 2) := by decide +kernel
theorem dM_mixAll_41 : decode cM_mixAll 41 = .ok (.aload_n 0, 1) := by decide +kernel
theorem dM_mixAll_42 : decode cM_mixAll 42 = .ok (.getfield 16, 3) := by decide +kernel
theorem dM_mixAll_45 : decode cM_mixAll 45 = .ok (.sipush 1024, 3) := by decide +kernel
theorem dM_mixAll_48 : decode cM_mixAll 48 = .ok (.iload 4, 2) := by decide +kernel
theorem dM_mixAll_50 : decode cM_mixAll 50 = .ok (.iadd, 1) := by decide +kernel
theorem dM_mixAll_51 : decode cM_mixAll 51 = .ok (.iaload, 1) := by decide +kernel
theorem dM_mixAll_52 : decode cM_mixAll 52 = .ok (.istore 6, 2) := by decide +kernel
theorem dM_mixAll_54 : decode cM_mixAll 54 = .ok (.aload_n 0, 1) := by decide +kernel
theorem dM_mixAll_55 : decode cM_mixAll 55 = .ok (.getfield 16, 3) := by decide +kernel
theorem dM_mixAll_58 : decode cM_mixAll 58 = .ok (.sipush 2048, 3) := by decide +kernel
theorem dM_mixAll_61 : decode cM_mixAll 61 = .ok (.iload 4, 2) := by decide +kernel
theorem dM_mixAll_63 : decode cM_mixAll 63 = .ok (.iadd, 1) := by decide +kernel
theorem dM_mixAll_64 : decode cM_mixAll 64 = .ok (.iaload, 1) := by decide +kernel
theorem dM_mixAll_65 : decode cM_mixAll 65 = .ok (.istore 7, 2) := by decide +kernel
theorem dM_mixAll_67 : decode cM_mixAll 67 = .ok (.aload_n 0, 1) := by decide +kernel
theorem dM_mixAll_68 : decode cM_mixAll 68 = .ok (.getfield 16, 3) := by decide +kernel
theorem dM_mixAll_71 : decode cM_mixAll 71 = .ok (.sipush 3072, 3) := by decide +kernel
theorem dM_mixAll_74 : decode cM_mixAll 74 = .ok (.iload 4, 2) := by decide +kernel
theorem dM_mixAll_76 : decode cM_mixAll 76 = .ok (.iadd, 1) := by decide +kernel
theorem dM_mixAll_77 : decode cM_mixAll 77 = .ok (.iaload, 1) := by decide +kernel
theorem dM_mixAll_78 : decode cM_mixAll 78 = .ok (.istore 8, 2) := by decide +kernel
theorem dM_mixAll_80 : decode cM_mixAll 80 = .ok (.iconst 0, 1) := by decide +kernel
theorem dM_mixAll_81 : decode cM_mixAll 81 = .ok (.istore 9, 2) := by decide +kernel
theorem dM_mixAll_83 : decode cM_mixAll 83 = .ok (.iload 9, 2) := by decide +kernel
theorem dM_mixAll_85 : decode cM_mixAll 85 = .ok (.iconst 3, 1) := by decide +kernel
theorem dM_mixAll_86 : decode cM_mixAll 86 = .ok (.if_icmp .ge 37, 3) := by decide +kernel
theorem dM_mixAll_89 : decode cM_mixAll 89 = .ok (.aload_n 0, 1) := by decide +kernel
theorem dM_mixAll_90 : decode cM_mixAll 90 = .ok (.getfield 16, 3) := by decide +kernel
theorem dM_mixAll_93 : decode cM_mixAll 93 = .ok (.sipush 1024, 3) := by decide +kernel
theorem dM_mixAll_96 : decode cM_mixAll 96 = .ok (.iload 9, 2) := by decide +kernel
theorem dM_mixAll_98 : decode cM_mixAll 98 = .ok (.imul, 1) := by decide +kernel
theorem dM_mixAll_99 : decode cM_mixAll 99 = .ok (.iload 4, 2) := by decide +kernel
theorem dM_mixAll_101 : decode cM_mixAll 101 = .ok (.iadd, 1) := by decide +kernel
theorem dM_mixAll_102 : decode cM_mixAll 102 = .ok (.iload_n 1, 1) := by decide +kernel
theorem dM_mixAll_103 : decode cM_mixAll 103 = .ok (.iload 9, 2) := by decide +kernel
theorem dM_mixAll_105 : decode cM_mixAll 105 = .ok (.iload 5, 2) := by decide +kernel
theorem dM_mixAll_107 : decode cM_mixAll 107 = .ok (.iload 6, 2) := by decide +kernel
theorem dM_mixAll_109 : decode cM_mixAll 109 = .ok (.iload 7, 2) := by decide +kernel
theorem dM_mixAll_111 : decode cM_mixAll 111 = .ok (.iload 8, 2) := by decide +kernel
theorem dM_mixAll_113 : decode cM_mixAll 113 = .ok (.invokestatic 81, 3) := by decide +kernel
theorem dM_mixAll_116 : decode cM_mixAll 116 = .ok (.iastore, 1) := by decide +kernel
theorem dM_mixAll_117 : decode cM_mixAll 117 = .ok (.iinc 9 1, 3) := by decide +kernel
theorem dM_mixAll_120 : decode cM_mixAll 120 = .ok (.goto (-37), 3) := by decide +kernel
theorem dM_mixAll_123 : decode cM_mixAll 123 = .ok (.iinc 3 1, 3) := by decide +kernel
theorem dM_mixAll_126 : decode cM_mixAll 126 = .ok (.goto (-112), 3) := by decide +kernel
theorem dM_mixAll_129 : decode cM_mixAll 129 = .ok (.iinc 2 1, 3) := by decide +kernel
theorem dM_mixAll_132 : decode cM_mixAll 132 = .ok (.goto (-130), 3) := by decide +kernel
theorem dM_mixAll_135 : decode cM_mixAll 135 = .ok (.return_, 1) := by decide +kernel
theorem dM_mixed_0 : decode cM_mixed 0 = .ok (.iload_n 1, 1) := by decide +kernel
theorem dM_mixed_1 : decode cM_mixed 1 = .ok (.ifCond .ne 7, 3) := by decide +kernel
theorem dM_mixed_4 : decode cM_mixed 4 = .ok (.iload_n 2, 1) := by decide +kernel
theorem dM_mixed_5 : decode cM_mixed 5 = .ok (.goto 14, 3) := by decide +kernel
theorem dM_mixed_8 : decode cM_mixed 8 = .ok (.iload_n 1, 1) := by decide +kernel
theorem dM_mixed_9 : decode cM_mixed 9 = .ok (.iconst 1, 1) := by decide +kernel
theorem dM_mixed_10 : decode cM_mixed 10 = .ok (.if_icmp .ne 7, 3) := by decide +kernel
theorem dM_mixed_13 : decode cM_mixed 13 = .ok (.iload_n 3, 1) := by decide +kernel
theorem dM_mixed_14 : decode cM_mixed 14 = .ok (.goto 5, 3) := by decide +kernel
theorem dM_mixed_17 : decode cM_mixed 17 = .ok (.iload 4, 2) := by decide +kernel
theorem dM_mixed_19 : decode cM_mixed 19 = .ok (.istore 6, 2) := by decide +kernel
theorem dM_mixed_21 : decode cM_mixed 21 = .ok (.iload_n 0, 1) := by decide +kernel
theorem dM_mixed_22 : decode cM_mixed 22 = .ok (.tableswitch 190 0 3 #[30, 97, 166, 173], 30) := by decide +kernel
theorem dM_mixed_52 : decode cM_mixed 52 = .ok (.iload_n 1, 1) := by decide +kernel
theorem dM_mixed_53 : decode cM_mixed 53 = .ok (.ifCond .ne 15, 3) := by decide +kernel
theorem dM_mixed_56 : decode cM_mixed 56 = .ok (.ldc 70, 2) := by decide +kernel
theorem dM_mixed_58 : decode cM_mixed 58 = .ok (.iload 4, 2) := by decide +kernel
theorem dM_mixed_60 : decode cM_mixed 60 = .ok (.sipush 128, 3) := by decide +kernel
theorem dM_mixed_63 : decode cM_mixed 63 = .ok (.isub, 1) := by decide +kernel
theorem dM_mixed_64 : decode cM_mixed 64 = .ok (.imul, 1) := by decide +kernel
theorem dM_mixed_65 : decode cM_mixed 65 = .ok (.goto 38, 3) := by decide +kernel
theorem dM_mixed_68 : decode cM_mixed 68 = .ok (.iload_n 1, 1) := by decide +kernel
theorem dM_mixed_69 : decode cM_mixed 69 = .ok (.iconst 1, 1) := by decide +kernel
theorem dM_mixed_70 : decode cM_mixed 70 = .ok (.if_icmp .ne 25, 3) := by decide +kernel
theorem dM_mixed_73 : decode cM_mixed 73 = .ok (.sipush (-22554), 3) := by decide +kernel
theorem dM_mixed_76 : decode cM_mixed 76 = .ok (.iload_n 3, 1) := by decide +kernel
theorem dM_mixed_77 : decode cM_mixed 77 = .ok (.sipush 128, 3) := by decide +kernel
theorem dM_mixed_80 : decode cM_mixed 80 = .ok (.isub, 1) := by decide +kernel
theorem dM_mixed_81 : decode cM_mixed 81 = .ok (.imul, 1) := by decide +kernel
theorem dM_mixed_82 : decode cM_mixed 82 = .ok (.ldc 71, 2) := by decide +kernel
theorem dM_mixed_84 : decode cM_mixed 84 = .ok (.iload 4, 2) := by decide +kernel
theorem dM_mixed_86 : decode cM_mixed 86 = .ok (.sipush 128, 3) := by decide +kernel
theorem dM_mixed_89 : decode cM_mixed 89 = .ok (.isub, 1) := by decide +kernel
theorem dM_mixed_90 : decode cM_mixed 90 = .ok (.imul, 1) := by decide +kernel
theorem dM_mixed_91 : decode cM_mixed 91 = .ok (.isub, 1) := by decide +kernel
theorem dM_mixed_92 : decode cM_mixed 92 = .ok (.goto 11, 3) := by decide +kernel
theorem dM_mixed_95 : decode cM_mixed 95 = .ok (.ldc 72, 2) := by decide +kernel
theorem dM_mixed_97 : decode cM_mixed 97 = .ok (.iload_n 3, 1) := by decide +kernel
theorem dM_mixed_98 : decode cM_mixed 98 = .ok (.sipush 128, 3) := by decide +kernel
theorem dM_mixed_101 : decode cM_mixed 101 = .ok (.isub, 1) := by decide +kernel
theorem dM_mixed_102 : decode cM_mixed 102 = .ok (.imul, 1) := by decide +kernel
theorem dM_mixed_103 : decode cM_mixed 103 = .ok (.istore 7, 2) := by decide +kernel
theorem dM_mixed_105 : decode cM_mixed 105 = .ok (.iload_n 2, 1) := by decide +kernel
theorem dM_mixed_106 : decode cM_mixed 106 = .ok (.iload 7, 2) := by decide +kernel
theorem dM_mixed_108 : decode cM_mixed 108 = .ok (.ldc 69, 2) := by decide +kernel
theorem dM_mixed_110 : decode cM_mixed 110 = .ok (.iadd, 1) := by decide +kernel
theorem dM_mixed_111 : decode cM_mixed 111 = .ok (.bipush 16, 2) := by decide +kernel
theorem dM_mixed_113 : decode cM_mixed 113 = .ok (.ishr, 1) := by decide +kernel
theorem dM_mixed_114 : decode cM_mixed 114 = .ok (.iadd, 1) := by decide +kernel
theorem dM_mixed_115 : decode cM_mixed 115 = .ok (.invokestatic 73, 3) := by decide +kernel
theorem dM_mixed_118 : decode cM_mixed 118 = .ok (.ireturn, 1) := by decide +kernel
theorem dM_mixed_119 : decode cM_mixed 119 = .ok (.iload_n 1, 1) := by decide +kernel
theorem dM_mixed_120 : decode cM_mixed 120 = .ok (.ifCond .ne 13, 3) := by decide +kernel
theorem dM_mixed_123 : decode cM_mixed 123 = .ok (.iload_n 2, 1) := by decide +kernel
theorem dM_mixed_124 : decode cM_mixed 124 = .ok (.iload_n 3, 1) := by decide +kernel
theorem dM_mixed_125 : decode cM_mixed 125 = .ok (.iload 4, 2) := by decide +kernel
theorem dM_mixed_127 : decode cM_mixed 127 = .ok (.invokestatic 77, 3) := by decide +kernel
theorem dM_mixed_130 : decode cM_mixed 130 = .ok (.goto 57, 3) := by decide +kernel
theorem dM_mixed_133 : decode cM_mixed 133 = .ok (.iload_n 1, 1) := by decide +kernel
theorem dM_mixed_134 : decode cM_mixed 134 = .ok (.iconst 1, 1) := by decide +kernel
theorem dM_mixed_135 : decode cM_mixed 135 = .ok (.if_icmp .ne 29, 3) := by decide +kernel
theorem dM_mixed_138 : decode cM_mixed 138 = .ok (.sipush (-11059), 3) := by decide +kernel
theorem dM_mixed_141 : decode cM_mixed 141 = .ok (.iload_n 2, 1) := by decide +kernel
theorem dM_mixed_142 : decode cM_mixed 142 = .ok (.imul, 1) := by decide +kernel
theorem dM_mixed_143 : decode cM_mixed 143 = .ok (.sipush 21709, 3) := by decide +kernel
theorem dM_mixed_146 : decode cM_mixed 146 = .ok (.iload_n 3, 1) := by decide +kernel
theorem dM_mixed_147 : decode cM_mixed 147 = .ok (.imul, 1) := by decide +kernel
theorem dM_mixed_148 : decode cM_mixed 148 = .ok (.isub, 1) := by decide +kernel
theorem dM_mixed_149 : decode cM_mixed 149 = .ok (.ldc 69, 2) := by decide +kernel
theorem dM_mixed_151 : decode cM_mixed 151 = .ok (.iload 4, 2) := by decide +kernel
theorem dM_mixed_153 : decode cM_mixed 153 = .ok (.imul, 1) := by decide +kernel
theorem dM_mixed_154 : decode cM_mixed 154 = .ok (.iadd, 1) := by decide +kernel
theorem dM_mixed_155 : decode cM_mixed 155 = .ok (.ldc 80, 2) := by decide +kernel
theorem dM_mixed_157 : decode cM_mixed 157 = .ok (.iadd, 1) := by decide +kernel
theorem dM_mixed_158 : decode cM_mixed 158 = .ok (.bipush 16, 2) := by decide +kernel
theorem dM_mixed_160 : decode cM_mixed 160 = .ok (.ishr, 1) := by decide +kernel
theorem dM_mixed_161 : decode cM_mixed 161 = .ok (.goto 26, 3) := by decide +kernel
theorem dM_mixed_164 : decode cM_mixed 164 = .ok (.ldc 69, 2) := by decide +kernel
theorem dM_mixed_166 : decode cM_mixed 166 = .ok (.iload_n 2, 1) := by decide +kernel
theorem dM_mixed_167 : decode cM_mixed 167 = .ok (.imul, 1) := by decide +kernel
theorem dM_mixed_168 : decode cM_mixed 168 = .ok (.sipush 27439, 3) := by decide +kernel
theorem dM_mixed_171 : decode cM_mixed 171 = .ok (.iload_n 3, 1) := by decide +kernel
theorem dM_mixed_172 : decode cM_mixed 172 = .ok (.imul, 1) := by decide +kernel
theorem dM_mixed_173 : decode cM_mixed 173 = .ok (.isub, 1) := by decide +kernel
theorem dM_mixed_174 : decode cM_mixed 174 = .ok (.sipush 5329, 3) := by decide +kernel
theorem dM_mixed_177 : decode cM_mixed 177 = .ok (.iload 4, 2) := by decide +kernel
theorem dM_mixed_179 : decode cM_mixed 179 = .ok (.imul, 1) := by decide +kernel
theorem dM_mixed_180 : decode cM_mixed 180 = .ok (.isub, 1) := by decide +kernel
theorem dM_mixed_181 : decode cM_mixed 181 = .ok (.ldc 80, 2) := by decide +kernel
theorem dM_mixed_183 : decode cM_mixed 183 = .ok (.iadd, 1) := by decide +kernel
theorem dM_mixed_184 : decode cM_mixed 184 = .ok (.bipush 16, 2) := by decide +kernel
theorem dM_mixed_186 : decode cM_mixed 186 = .ok (.ishr, 1) := by decide +kernel
theorem dM_mixed_187 : decode cM_mixed 187 = .ok (.ireturn, 1) := by decide +kernel
theorem dM_mixed_188 : decode cM_mixed 188 = .ok (.sipush 255, 3) := by decide +kernel
theorem dM_mixed_191 : decode cM_mixed 191 = .ok (.iload 6, 2) := by decide +kernel
theorem dM_mixed_193 : decode cM_mixed 193 = .ok (.isub, 1) := by decide +kernel
theorem dM_mixed_194 : decode cM_mixed 194 = .ok (.ireturn, 1) := by decide +kernel
theorem dM_mixed_195 : decode cM_mixed 195 = .ok (.iload 6, 2) := by decide +kernel
theorem dM_mixed_197 : decode cM_mixed 197 = .ok (.sipush 255, 3) := by decide +kernel
theorem dM_mixed_200 : decode cM_mixed 200 = .ok (.iload 5, 2) := by decide +kernel
theorem dM_mixed_202 : decode cM_mixed 202 = .ok (.isub, 1) := by decide +kernel
theorem dM_mixed_203 : decode cM_mixed 203 = .ok (.imul, 1) := by decide +kernel
theorem dM_mixed_204 : decode cM_mixed 204 = .ok (.bipush 127, 2) := by decide +kernel
theorem dM_mixed_206 : decode cM_mixed 206 = .ok (.iadd, 1) := by decide +kernel
theorem dM_mixed_207 : decode cM_mixed 207 = .ok (.sipush 255, 3) := by decide +kernel
theorem dM_mixed_210 : decode cM_mixed 210 = .ok (.idiv, 1) := by decide +kernel
theorem dM_mixed_211 : decode cM_mixed 211 = .ok (.ireturn, 1) := by decide +kernel
theorem dM_mixed_212 : decode cM_mixed 212 = .ok (.iload_n 2, 1) := by decide +kernel
theorem dM_mixed_213 : decode cM_mixed 213 = .ok (.iload_n 3, 1) := by decide +kernel
theorem dM_mixed_214 : decode cM_mixed 214 = .ok (.iload 4, 2) := by decide +kernel
theorem dM_mixed_216 : decode cM_mixed 216 = .ok (.invokestatic 77, 3) := by decide +kernel
theorem dM_mixed_219 : decode cM_mixed 219 = .ok (.ireturn, 1) := by decide +kernel
theorem dM_limit_0 : decode cM_limit 0 = .ok (.iload_n 0, 1) := by decide +kernel
theorem dM_limit_1 : decode cM_limit 1 = .ok (.ifCond .ge 7, 3) := by decide +kernel
theorem dM_limit_4 : decode cM_limit 4 = .ok (.iconst 0, 1) := by decide +kernel
theorem dM_limit_5 : decode cM_limit 5 = .ok (.goto 17, 3) := by decide +kernel
theorem dM_limit_8 : decode cM_limit 8 = .ok (.iload_n 0, 1) := by decide +kernel
theorem dM_limit_9 : decode cM_limit 9 = .ok (.sipush 255, 3) := by decide +kernel
theorem dM_limit_12 : decode cM_limit 12 = .ok (.if_icmp .le 9, 3) := by decide +kernel
theorem dM_limit_15 : decode cM_limit 15 = .ok (.sipush 255, 3) := by decide +kernel
theorem dM_limit_18 : decode cM_limit 18 = .ok (.goto 4, 3) := by decide +kernel
theorem dM_limit_21 : decode cM_limit 21 = .ok (.iload_n 0, 1) := by decide +kernel
theorem dM_limit_22 : decode cM_limit 22 = .ok (.ireturn, 1) := by decide +kernel
theorem dM_grey_0 : decode cM_grey 0 = .ok (.sipush 19595, 3) := by decide +kernel
theorem dM_grey_3 : decode cM_grey 3 = .ok (.iload_n 0, 1) := by decide +kernel
theorem dM_grey_4 : decode cM_grey 4 = .ok (.imul, 1) := by decide +kernel
theorem dM_grey_5 : decode cM_grey 5 = .ok (.ldc 68, 2) := by decide +kernel
theorem dM_grey_7 : decode cM_grey 7 = .ok (.iload_n 1, 1) := by decide +kernel
theorem dM_grey_8 : decode cM_grey 8 = .ok (.imul, 1) := by decide +kernel
theorem dM_grey_9 : decode cM_grey 9 = .ok (.iadd, 1) := by decide +kernel
theorem dM_grey_10 : decode cM_grey 10 = .ok (.sipush 7471, 3) := by decide +kernel
theorem dM_grey_13 : decode cM_grey 13 = .ok (.iload_n 2, 1) := by decide +kernel
theorem dM_grey_14 : decode cM_grey 14 = .ok (.imul, 1) := by decide +kernel
theorem dM_grey_15 : decode cM_grey 15 = .ok (.iadd, 1) := by decide +kernel
theorem dM_grey_16 : decode cM_grey 16 = .ok (.ldc 69, 2) := by decide +kernel
theorem dM_grey_18 : decode cM_grey 18 = .ok (.iadd, 1) := by decide +kernel
theorem dM_grey_19 : decode cM_grey 19 = .ok (.bipush 16, 2) := by decide +kernel
theorem dM_grey_21 : decode cM_grey 21 = .ok (.ishr, 1) := by decide +kernel
theorem dM_grey_22 : decode cM_grey 22 = .ok (.ireturn, 1) := by decide +kernel
theorem dM_copy_0 : decode cM_copy 0 = .ok (.aload_n 0, 1) := by decide +kernel
theorem dM_copy_1 : decode cM_copy 1 = .ok (.iload_n 1, 1) := by decide +kernel
theorem dM_copy_2 : decode cM_copy 2 = .ok (.invokestatic 30, 3) := by decide +kernel
theorem dM_copy_5 : decode cM_copy 5 = .ok (.ifCond .eq 14, 3) := by decide +kernel
theorem dM_copy_8 : decode cM_copy 8 = .ok (.iload_n 2, 1) := by decide +kernel
theorem dM_copy_9 : decode cM_copy 9 = .ok (.invokestatic 30, 3) := by decide +kernel
theorem dM_copy_12 : decode cM_copy 12 = .ok (.ifCond .eq 7, 3) := by decide +kernel
theorem dM_copy_15 : decode cM_copy 15 = .ok (.iconst 1, 1) := by decide +kernel
theorem dM_copy_16 : decode cM_copy 16 = .ok (.goto 4, 3) := by decide +kernel
theorem dM_copy_19 : decode cM_copy 19 = .ok (.iconst 0, 1) := by decide +kernel
theorem dM_copy_20 : decode cM_copy 20 = .ok (.iconst 1, 1) := by decide +kernel
theorem dM_copy_21 : decode cM_copy 21 = .ok (.invokevirtual 40, 3) := by decide +kernel
theorem dM_copy_24 : decode cM_copy 24 = .ok (.ifCond .ne 4, 3) := by decide +kernel
theorem dM_copy_27 : decode cM_copy 27 = .ok (.return_, 1) := by decide +kernel
theorem dM_copy_28 : decode cM_copy 28 = .ok (.aload_n 0, 1) := by decide +kernel
theorem dM_copy_29 : decode cM_copy 29 = .ok (.getfield 7, 3) := by decide +kernel
theorem dM_copy_32 : decode cM_copy 32 = .ok (.iload_n 2, 1) := by decide +kernel
theorem dM_copy_33 : decode cM_copy 33 = .ok (.aload_n 0, 1) := by decide +kernel
theorem dM_copy_34 : decode cM_copy 34 = .ok (.getfield 7, 3) := by decide +kernel
theorem dM_copy_37 : decode cM_copy 37 = .ok (.iload_n 1, 1) := by decide +kernel
theorem dM_copy_38 : decode cM_copy 38 = .ok (.iaload, 1) := by decide +kernel
theorem dM_copy_39 : decode cM_copy 39 = .ok (.iastore, 1) := by decide +kernel
theorem dM_copy_40 : decode cM_copy 40 = .ok (.aload_n 0, 1) := by decide +kernel
theorem dM_copy_41 : decode cM_copy 41 = .ok (.getfield 13, 3) := by decide +kernel
theorem dM_copy_44 : decode cM_copy 44 = .ok (.iload_n 2, 1) := by decide +kernel
theorem dM_copy_45 : decode cM_copy 45 = .ok (.aload_n 0, 1) := by decide +kernel
theorem dM_copy_46 : decode cM_copy 46 = .ok (.getfield 13, 3) := by decide +kernel
theorem dM_copy_49 : decode cM_copy 49 = .ok (.iload_n 1, 1) := by decide +kernel
theorem dM_copy_50 : decode cM_copy 50 = .ok (.iaload, 1) := by decide +kernel
theorem dM_copy_51 : decode cM_copy 51 = .ok (.iastore, 1) := by decide +kernel
theorem dM_copy_52 : decode cM_copy 52 = .ok (.iconst 0, 1) := by decide +kernel
theorem dM_copy_53 : decode cM_copy 53 = .ok (.istore_n 3, 1) := by decide +kernel
theorem dM_copy_54 : decode cM_copy 54 = .ok (.iload_n 3, 1) := by decide +kernel
theorem dM_copy_55 : decode cM_copy 55 = .ok (.sipush 1024, 3) := by decide +kernel
theorem dM_copy_58 : decode cM_copy 58 = .ok (.if_icmp .ge 33, 3) := by decide +kernel
theorem dM_copy_61 : decode cM_copy 61 = .ok (.aload_n 0, 1) := by decide +kernel
theorem dM_copy_62 : decode cM_copy 62 = .ok (.getfield 16, 3) := by decide +kernel
theorem dM_copy_65 : decode cM_copy 65 = .ok (.sipush 1024, 3) := by decide +kernel
theorem dM_copy_68 : decode cM_copy 68 = .ok (.iload_n 2, 1) := by decide +kernel
theorem dM_copy_69 : decode cM_copy 69 = .ok (.imul, 1) := by decide +kernel
theorem dM_copy_70 : decode cM_copy 70 = .ok (.iload_n 3, 1) := by decide +kernel
theorem dM_copy_71 : decode cM_copy 71 = .ok (.iadd, 1) := by decide +kernel
theorem dM_copy_72 : decode cM_copy 72 = .ok (.aload_n 0, 1) := by decide +kernel
theorem dM_copy_73 : decode cM_copy 73 = .ok (.getfield 16, 3) := by decide +kernel
theorem dM_copy_76 : decode cM_copy 76 = .ok (.sipush 1024, 3) := by decide +kernel
theorem dM_copy_79 : decode cM_copy 79 = .ok (.iload_n 1, 1) := by decide +kernel
theorem dM_copy_80 : decode cM_copy 80 = .ok (.imul, 1) := by decide +kernel
theorem dM_copy_81 : decode cM_copy 81 = .ok (.iload_n 3, 1) := by decide +kernel
theorem dM_copy_82 : decode cM_copy 82 = .ok (.iadd, 1) := by decide +kernel
theorem dM_copy_83 : decode cM_copy 83 = .ok (.iaload, 1) := by decide +kernel
theorem dM_copy_84 : decode cM_copy 84 = .ok (.iastore, 1) := by decide +kernel
theorem dM_copy_85 : decode cM_copy 85 = .ok (.iinc 3 1, 3) := by decide +kernel
theorem dM_copy_88 : decode cM_copy 88 = .ok (.goto (-34), 3) := by decide +kernel
theorem dM_copy_91 : decode cM_copy 91 = .ok (.return_, 1) := by decide +kernel
theorem dM_extend_0 : decode cM_extend 0 = .ok (.aload_n 0, 1) := by decide +kernel
theorem dM_extend_1 : decode cM_extend 1 = .ok (.iload_n 1, 1) := by decide +kernel
theorem dM_extend_2 : decode cM_extend 2 = .ok (.invokestatic 30, 3) := by decide +kernel
theorem dM_extend_5 : decode cM_extend 5 = .ok (.iconst 1, 1) := by decide +kernel
theorem dM_extend_6 : decode cM_extend 6 = .ok (.invokevirtual 40, 3) := by decide +kernel
theorem dM_extend_9 : decode cM_extend 9 = .ok (.ifCond .eq 33, 3) := by decide +kernel
theorem dM_extend_12 : decode cM_extend 12 = .ok (.iload_n 2, 1) := by decide +kernel
theorem dM_extend_13 : decode cM_extend 13 = .ok (.aload_n 0, 1) := by decide +kernel
theorem dM_extend_14 : decode cM_extend 14 = .ok (.getfield 7, 3) := by decide +kernel
theorem dM_extend_17 : decode cM_extend 17 = .ok (.iload_n 1, 1) := by decide +kernel
theorem dM_extend_18 : decode cM_extend 18 = .ok (.iaload, 1) := by decide +kernel
theorem dM_extend_19 : decode cM_extend 19 = .ok (.bipush 32, 2) := by decide +kernel
theorem dM_extend_21 : decode cM_extend 21 = .ok (.invokestatic 26, 3) := by decide +kernel
theorem dM_extend_24 : decode cM_extend 24 = .ok (.ifCond .eq 18, 3) := by decide +kernel
theorem dM_extend_27 : decode cM_extend 27 = .ok (.iload_n 3, 1) := by decide +kernel
theorem dM_extend_28 : decode cM_extend 28 = .ok (.aload_n 0, 1) := by decide +kernel
theorem dM_extend_29 : decode cM_extend 29 = .ok (.getfield 13, 3) := by decide +kernel
theorem dM_extend_32 : decode cM_extend 32 = .ok (.iload_n 1, 1) := by decide +kernel
theorem dM_extend_33 : decode cM_extend 33 = .ok (.iaload, 1) := by decide +kernel
theorem dM_extend_34 : decode cM_extend 34 = .ok (.bipush 32, 2) := by decide +kernel
theorem dM_extend_36 : decode cM_extend 36 = .ok (.invokestatic 26, 3) := by decide +kernel
theorem dM_extend_39 : decode cM_extend 39 = .ok (.ifCond .ne 5, 3) := by decide +kernel
theorem dM_extend_42 : decode cM_extend 42 = .ok (.iconst 0, 1) := by decide +kernel
theorem dM_extend_43 : decode cM_extend 43 = .ok (.ireturn, 1) := by decide +kernel
theorem dM_extend_44 : decode cM_extend 44 = .ok (.aload_n 0, 1) := by decide +kernel
theorem dM_extend_45 : decode cM_extend 45 = .ok (.iload_n 1, 1) := by decide +kernel
theorem dM_extend_46 : decode cM_extend 46 = .ok (.invokevirtual 53, 3) := by decide +kernel
theorem dM_extend_49 : decode cM_extend 49 = .ok (.aload_n 0, 1) := by decide +kernel
theorem dM_extend_50 : decode cM_extend 50 = .ok (.getfield 7, 3) := by decide +kernel
theorem dM_extend_53 : decode cM_extend 53 = .ok (.iload_n 1, 1) := by decide +kernel
theorem dM_extend_54 : decode cM_extend 54 = .ok (.iload_n 2, 1) := by decide +kernel
theorem dM_extend_55 : decode cM_extend 55 = .ok (.iastore, 1) := by decide +kernel
theorem dM_extend_56 : decode cM_extend 56 = .ok (.aload_n 0, 1) := by decide +kernel
theorem dM_extend_57 : decode cM_extend 57 = .ok (.getfield 13, 3) := by decide +kernel
theorem dM_extend_60 : decode cM_extend 60 = .ok (.iload_n 1, 1) := by decide +kernel
theorem dM_extend_61 : decode cM_extend 61 = .ok (.iload_n 3, 1) := by decide +kernel
theorem dM_extend_62 : decode cM_extend 62 = .ok (.iastore, 1) := by decide +kernel
theorem dM_extend_63 : decode cM_extend 63 = .ok (.iconst 0, 1) := by decide +kernel
theorem dM_extend_64 : decode cM_extend 64 = .ok (.istore 4, 2) := by decide +kernel
theorem dM_extend_66 : decode cM_extend 66 = .ok (.iload 4, 2) := by decide +kernel
theorem dM_extend_68 : decode cM_extend 68 = .ok (.iload_n 3, 1) := by decide +kernel
theorem dM_extend_69 : decode cM_extend 69 = .ok (.if_icmp .ge 45, 3) := by decide +kernel
theorem dM_extend_72 : decode cM_extend 72 = .ok (.iconst 0, 1) := by decide +kernel
theorem dM_extend_73 : decode cM_extend 73 = .ok (.istore 5, 2) := by decide +kernel
theorem dM_extend_75 : decode cM_extend 75 = .ok (.iload 5, 2) := by decide +kernel
theorem dM_extend_77 : decode cM_extend 77 = .ok (.iload_n 2, 1) := by decide +kernel
theorem dM_extend_78 : decode cM_extend 78 = .ok (.if_icmp .ge 30, 3) := by decide +kernel
theorem dM_extend_81 : decode cM_extend 81 = .ok (.aload_n 0, 1) := by decide +kernel
theorem dM_extend_82 : decode cM_extend 82 = .ok (.getfield 16, 3) := by decide +kernel
theorem dM_extend_85 : decode cM_extend 85 = .ok (.iload_n 1, 1) := by decide +kernel
theorem dM_extend_86 : decode cM_extend 86 = .ok (.iload 5, 2) := by decide +kernel
theorem dM_extend_88 : decode cM_extend 88 = .ok (.iload 4, 2) := by decide +kernel
theorem dM_extend_90 : decode cM_extend 90 = .ok (.invokestatic 47, 3) := by decide +kernel
theorem dM_extend_93 : decode cM_extend 93 = .ok (.aload_n 0, 1) := by decide +kernel
theorem dM_extend_94 : decode cM_extend 94 = .ok (.iload 5, 2) := by decide +kernel
theorem dM_extend_96 : decode cM_extend 96 = .ok (.iload 4, 2) := by decide +kernel
theorem dM_extend_98 : decode cM_extend 98 = .ok (.invokevirtual 57, 3) := by decide +kernel
theorem dM_extend_101 : decode cM_extend 101 = .ok (.iastore, 1) := by decide +kernel
theorem dM_extend_102 : decode cM_extend 102 = .ok (.iinc 5 1, 3) := by decide +kernel
theorem dM_extend_105 : decode cM_extend 105 = .ok (.goto (-30), 3) := by decide +kernel
theorem dM_extend_108 : decode cM_extend 108 = .ok (.iinc 4 1, 3) := by decide +kernel
theorem dM_extend_111 : decode cM_extend 111 = .ok (.goto (-45), 3) := by decide +kernel
theorem dM_extend_114 : decode cM_extend 114 = .ok (.iconst 1, 1) := by decide +kernel
theorem dM_extend_115 : decode cM_extend 115 = .ok (.ireturn, 1) := by decide +kernel
theorem dM_cut_0 : decode cM_cut 0 = .ok (.aload_n 0, 1) := by decide +kernel
theorem dM_cut_1 : decode cM_cut 1 = .ok (.iload_n 1, 1) := by decide +kernel
theorem dM_cut_2 : decode cM_cut 2 = .ok (.invokestatic 30, 3) := by decide +kernel
theorem dM_cut_5 : decode cM_cut 5 = .ok (.iconst 1, 1) := by decide +kernel
theorem dM_cut_6 : decode cM_cut 6 = .ok (.invokevirtual 40, 3) := by decide +kernel
theorem dM_cut_9 : decode cM_cut 9 = .ok (.ifCond .eq 31, 3) := by decide +kernel
theorem dM_cut_12 : decode cM_cut 12 = .ok (.iload_n 2, 1) := by decide +kernel
theorem dM_cut_13 : decode cM_cut 13 = .ok (.iconst 1, 1) := by decide +kernel
theorem dM_cut_14 : decode cM_cut 14 = .ok (.aload_n 0, 1) := by decide +kernel
theorem dM_cut_15 : decode cM_cut 15 = .ok (.getfield 7, 3) := by decide +kernel
theorem dM_cut_18 : decode cM_cut 18 = .ok (.iload_n 1, 1) := by decide +kernel
theorem dM_cut_19 : decode cM_cut 19 = .ok (.iaload, 1) := by decide +kernel
theorem dM_cut_20 : decode cM_cut 20 = .ok (.invokestatic 26, 3) := by decide +kernel
theorem dM_cut_23 : decode cM_cut 23 = .ok (.ifCond .eq 17, 3) := by decide +kernel
theorem dM_cut_26 : decode cM_cut 26 = .ok (.iload_n 3, 1) := by decide +kernel
theorem dM_cut_27 : decode cM_cut 27 = .ok (.iconst 1, 1) := by decide +kernel
theorem dM_cut_28 : decode cM_cut 28 = .ok (.aload_n 0, 1) := by decide +kernel
theorem dM_cut_29 : decode cM_cut 29 = .ok (.getfield 13, 3) := by decide +kernel
theorem dM_cut_32 : decode cM_cut 32 = .ok (.iload_n 1, 1) := by decide +kernel
theorem dM_cut_33 : decode cM_cut 33 = .ok (.iaload, 1) := by decide +kernel
theorem dM_cut_34 : decode cM_cut 34 = .ok (.invokestatic 26, 3) := by decide +kernel
theorem dM_cut_37 : decode cM_cut 37 = .ok (.ifCond .ne 5, 3) := by decide +kernel
theorem dM_cut_40 : decode cM_cut 40 = .ok (.iconst 0, 1) := by decide +kernel
theorem dM_cut_41 : decode cM_cut 41 = .ok (.ireturn, 1) := by decide +kernel
theorem dM_cut_42 : decode cM_cut 42 = .ok (.aload_n 0, 1) := by decide +kernel
theorem dM_cut_43 : decode cM_cut 43 = .ok (.getfield 7, 3) := by decide +kernel
theorem dM_cut_46 : decode cM_cut 46 = .ok (.iload_n 1, 1) := by decide +kernel
theorem dM_cut_47 : decode cM_cut 47 = .ok (.iload_n 2, 1) := by decide +kernel
theorem dM_cut_48 : decode cM_cut 48 = .ok (.iastore, 1) := by decide +kernel
theorem dM_cut_49 : decode cM_cut 49 = .ok (.aload_n 0, 1) := by decide +kernel
theorem dM_cut_50 : decode cM_cut 50 = .ok (.getfield 13, 3) := by decide +kernel
theorem dM_cut_53 : decode cM_cut 53 = .ok (.iload_n 1, 1) := by decide +kernel
theorem dM_cut_54 : decode cM_cut 54 = .ok (.iload_n 3, 1) := by decide +kernel
theorem dM_cut_55 : decode cM_cut 55 = .ok (.iastore, 1) := by decide +kernel
theorem dM_cut_56 : decode cM_cut 56 = .ok (.iconst 1, 1) := by decide +kernel
theorem dM_cut_57 : decode cM_cut 57 = .ok (.ireturn, 1) := by decide +kernel
theorem dM_at_0 : decode cM_at 0 = .ok (.aload_n 0, 1) := by decide +kernel
theorem dM_at_1 : decode cM_at 1 = .ok (.aload_n 0, 1) := by decide +kernel
theorem dM_at_2 : decode cM_at 2 = .ok (.iload_n 1, 1) := by decide +kernel
theorem dM_at_3 : decode cM_at 3 = .ok (.iload_n 2, 1) := by decide +kernel
theorem dM_at_4 : decode cM_at 4 = .ok (.iload_n 3, 1) := by decide +kernel
theorem dM_at_5 : decode cM_at 5 = .ok (.invokevirtual 44, 3) := by decide +kernel
theorem dM_at_8 : decode cM_at 8 = .ok (.iconst 1, 1) := by decide +kernel
theorem dM_at_9 : decode cM_at 9 = .ok (.invokevirtual 40, 3) := by decide +kernel
theorem dM_at_12 : decode cM_at 12 = .ok (.ifCond .eq 17, 3) := by decide +kernel
theorem dM_at_15 : decode cM_at 15 = .ok (.aload_n 0, 1) := by decide +kernel
theorem dM_at_16 : decode cM_at 16 = .ok (.getfield 16, 3) := by decide +kernel
theorem dM_at_19 : decode cM_at 19 = .ok (.iload_n 1, 1) := by decide +kernel
theorem dM_at_20 : decode cM_at 20 = .ok (.iload_n 2, 1) := by decide +kernel
theorem dM_at_21 : decode cM_at 21 = .ok (.iload_n 3, 1) := by decide +kernel
theorem dM_at_22 : decode cM_at 22 = .ok (.invokestatic 47, 3) := by decide +kernel
theorem dM_at_25 : decode cM_at 25 = .ok (.iaload, 1) := by decide +kernel
theorem dM_at_26 : decode cM_at 26 = .ok (.goto 4, 3) := by decide +kernel
theorem dM_at_29 : decode cM_at 29 = .ok (.iconst 0, 1) := by decide +kernel
theorem dM_at_30 : decode cM_at 30 = .ok (.ireturn, 1) := by decide +kernel
theorem dM_eight_0 : decode cM_eight 0 = .ok (.aload_n 0, 1) := by decide +kernel
theorem dM_eight_1 : decode cM_eight 1 = .ok (.iload_n 1, 1) := by decide +kernel
theorem dM_eight_2 : decode cM_eight 2 = .ok (.invokestatic 30, 3) := by decide +kernel
theorem dM_eight_5 : decode cM_eight 5 = .ok (.iconst 1, 1) := by decide +kernel
theorem dM_eight_6 : decode cM_eight 6 = .ok (.invokevirtual 40, 3) := by decide +kernel
theorem dM_eight_9 : decode cM_eight 9 = .ok (.ifCond .ne 5, 3) := by decide +kernel
theorem dM_eight_12 : decode cM_eight 12 = .ok (.lconst 0, 1) := by decide +kernel
theorem dM_eight_13 : decode cM_eight 13 = .ok (.lreturn, 1) := by decide +kernel
theorem dM_eight_14 : decode cM_eight 14 = .ok (.lconst 0, 1) := by decide +kernel
theorem dM_eight_15 : decode cM_eight 15 = .ok (.lstore 4, 2) := by decide +kernel
theorem dM_eight_17 : decode cM_eight 17 = .ok (.iconst 0, 1) := by decide +kernel
theorem dM_eight_18 : decode cM_eight 18 = .ok (.istore 6, 2) := by decide +kernel
theorem dM_eight_20 : decode cM_eight 20 = .ok (.iload 6, 2) := by decide +kernel
theorem dM_eight_22 : decode cM_eight 22 = .ok (.bipush 8, 2) := by decide +kernel
theorem dM_eight_24 : decode cM_eight 24 = .ok (.if_icmp .ge 53, 3) := by decide +kernel
theorem dM_eight_27 : decode cM_eight 27 = .ok (.aload_n 0, 1) := by decide +kernel
theorem dM_eight_28 : decode cM_eight 28 = .ok (.iload_n 1, 1) := by decide +kernel
theorem dM_eight_29 : decode cM_eight 29 = .ok (.iload_n 2, 1) := by decide +kernel
theorem dM_eight_30 : decode cM_eight 30 = .ok (.iload 6, 2) := by decide +kernel
theorem dM_eight_32 : decode cM_eight 32 = .ok (.iadd, 1) := by decide +kernel
theorem dM_eight_33 : decode cM_eight 33 = .ok (.iload_n 3, 1) := by decide +kernel
theorem dM_eight_34 : decode cM_eight 34 = .ok (.invokevirtual 44, 3) := by decide +kernel
theorem dM_eight_37 : decode cM_eight 37 = .ok (.istore 7, 2) := by decide +kernel
theorem dM_eight_39 : decode cM_eight 39 = .ok (.lload 4, 2) := by decide +kernel
theorem dM_eight_41 : decode cM_eight 41 = .ok (.bipush 8, 2) := by decide +kernel
theorem dM_eight_43 : decode cM_eight 43 = .ok (.lshl, 1) := by decide +kernel
theorem dM_eight_44 : decode cM_eight 44 = .ok (.iload 7, 2) := by decide +kernel
theorem dM_eight_46 : decode cM_eight 46 = .ok (.ifCond .eq 20, 3) := by decide +kernel
theorem dM_eight_49 : decode cM_eight 49 = .ok (.aload_n 0, 1) := by decide +kernel
theorem dM_eight_50 : decode cM_eight 50 = .ok (.getfield 16, 3) := by decide +kernel
theorem dM_eight_53 : decode cM_eight 53 = .ok (.iload_n 1, 1) := by decide +kernel
theorem dM_eight_54 : decode cM_eight 54 = .ok (.iload_n 2, 1) := by decide +kernel
theorem dM_eight_55 : decode cM_eight 55 = .ok (.iload 6, 2) := by decide +kernel
theorem dM_eight_57 : decode cM_eight 57 = .ok (.iadd, 1) := by decide +kernel
theorem dM_eight_58 : decode cM_eight 58 = .ok (.iload_n 3, 1) := by decide +kernel
theorem dM_eight_59 : decode cM_eight 59 = .ok (.invokestatic 47, 3) := by decide +kernel
theorem dM_eight_62 : decode cM_eight 62 = .ok (.iaload, 1) := by decide +kernel
theorem dM_eight_63 : decode cM_eight 63 = .ok (.goto 4, 3) := by decide +kernel
theorem dM_eight_66 : decode cM_eight 66 = .ok (.iconst 0, 1) := by decide +kernel
theorem dM_eight_67 : decode cM_eight 67 = .ok (.i2l, 1) := by decide +kernel
theorem dM_eight_68 : decode cM_eight 68 = .ok (.lor, 1) := by decide +kernel
theorem dM_eight_69 : decode cM_eight 69 = .ok (.lstore 4, 2) := by decide +kernel
theorem dM_eight_71 : decode cM_eight 71 = .ok (.iinc 6 1, 3) := by decide +kernel
theorem dM_eight_74 : decode cM_eight 74 = .ok (.goto (-54), 3) := by decide +kernel
theorem dM_eight_77 : decode cM_eight 77 = .ok (.lload 4, 2) := by decide +kernel
theorem dM_eight_79 : decode cM_eight 79 = .ok (.lreturn, 1) := by decide +kernel
theorem dM_apart_0 : decode cM_apart 0 = .ok (.aload_n 0, 1) := by decide +kernel
theorem dM_apart_1 : decode cM_apart 1 = .ok (.iload_n 1, 1) := by decide +kernel
theorem dM_apart_2 : decode cM_apart 2 = .ok (.invokestatic 30, 3) := by decide +kernel
theorem dM_apart_5 : decode cM_apart 5 = .ok (.ifCond .eq 14, 3) := by decide +kernel
theorem dM_apart_8 : decode cM_apart 8 = .ok (.iload_n 2, 1) := by decide +kernel
theorem dM_apart_9 : decode cM_apart 9 = .ok (.invokestatic 30, 3) := by decide +kernel
theorem dM_apart_12 : decode cM_apart 12 = .ok (.ifCond .eq 7, 3) := by decide +kernel
theorem dM_apart_15 : decode cM_apart 15 = .ok (.iconst 1, 1) := by decide +kernel
theorem dM_apart_16 : decode cM_apart 16 = .ok (.goto 4, 3) := by decide +kernel
theorem dM_apart_19 : decode cM_apart 19 = .ok (.iconst 0, 1) := by decide +kernel
theorem dM_apart_20 : decode cM_apart 20 = .ok (.iconst 1, 1) := by decide +kernel
theorem dM_apart_21 : decode cM_apart 21 = .ok (.invokevirtual 40, 3) := by decide +kernel
theorem dM_apart_24 : decode cM_apart 24 = .ok (.ifCond .ne 5, 3) := by decide +kernel
theorem dM_apart_27 : decode cM_apart 27 = .ok (.iconst 0, 1) := by decide +kernel
theorem dM_apart_28 : decode cM_apart 28 = .ok (.ireturn, 1) := by decide +kernel
theorem dM_apart_29 : decode cM_apart 29 = .ok (.aload_n 0, 1) := by decide +kernel
theorem dM_apart_30 : decode cM_apart 30 = .ok (.iload_n 1, 1) := by decide +kernel
theorem dM_apart_31 : decode cM_apart 31 = .ok (.iload_n 2, 1) := by decide +kernel
theorem dM_apart_32 : decode cM_apart 32 = .ok (.invokevirtual 85, 3) := by decide +kernel
theorem dM_apart_35 : decode cM_apart 35 = .ok (.ifCond .ne 5, 3) := by decide +kernel
theorem dM_apart_38 : decode cM_apart 38 = .ok (.iconst (-1), 1) := by decide +kernel
theorem dM_apart_39 : decode cM_apart 39 = .ok (.ireturn, 1) := by decide +kernel
theorem dM_apart_40 : decode cM_apart 40 = .ok (.iconst 0, 1) := by decide +kernel
theorem dM_apart_41 : decode cM_apart 41 = .ok (.istore_n 3, 1) := by decide +kernel
theorem dM_apart_42 : decode cM_apart 42 = .ok (.iconst 0, 1) := by decide +kernel
theorem dM_apart_43 : decode cM_apart 43 = .ok (.istore 4, 2) := by decide +kernel
theorem dM_apart_45 : decode cM_apart 45 = .ok (.iload 4, 2) := by decide +kernel
theorem dM_apart_47 : decode cM_apart 47 = .ok (.aload_n 0, 1) := by decide +kernel
theorem dM_apart_48 : decode cM_apart 48 = .ok (.getfield 13, 3) := by decide +kernel
theorem dM_apart_51 : decode cM_apart 51 = .ok (.iload_n 1, 1) := by decide +kernel
theorem dM_apart_52 : decode cM_apart 52 = .ok (.iaload, 1) := by decide +kernel
theorem dM_apart_53 : decode cM_apart 53 = .ok (.if_icmp .ge 86, 3) := by decide +kernel
theorem dM_apart_56 : decode cM_apart 56 = .ok (.iconst 0, 1) := by decide +kernel
theorem dM_apart_57 : decode cM_apart 57 = .ok (.istore 5, 2) := by decide +kernel
theorem dM_apart_59 : decode cM_apart 59 = .ok (.iload 5, 2) := by decide +kernel
theorem dM_apart_61 : decode cM_apart 61 = .ok (.aload_n 0, 1) := by decide +kernel
theorem dM_apart_62 : decode cM_apart 62 = .ok (.getfield 7, 3) := by decide +kernel
theorem dM_apart_65 : decode cM_apart 65 = .ok (.iload_n 1, 1) := by decide +kernel
theorem dM_apart_66 : decode cM_apart 66 = .ok (.iaload, 1) := by decide +kernel
theorem dM_apart_67 : decode cM_apart 67 = .ok (.if_icmp .ge 66, 3) := by decide +kernel
theorem dM_apart_70 : decode cM_apart 70 = .ok (.aload_n 0, 1) := by decide +kernel
theorem dM_apart_71 : decode cM_apart 71 = .ok (.getfield 16, 3) := by decide +kernel
theorem dM_apart_74 : decode cM_apart 74 = .ok (.iload_n 1, 1) := by decide +kernel
theorem dM_apart_75 : decode cM_apart 75 = .ok (.iload 5, 2) := by decide +kernel
theorem dM_apart_77 : decode cM_apart 77 = .ok (.iload 4, 2) := by decide +kernel
theorem dM_apart_79 : decode cM_apart 79 = .ok (.invokestatic 47, 3) := by decide +kernel
theorem dM_apart_82 : decode cM_apart 82 = .ok (.iaload, 1) := by decide +kernel
theorem dM_apart_83 : decode cM_apart 83 = .ok (.aload_n 0, 1) := by decide +kernel
theorem dM_apart_84 : decode cM_apart 84 = .ok (.getfield 16, 3) := by decide +kernel
theorem dM_apart_87 : decode cM_apart 87 = .ok (.iload_n 2, 1) := by decide +kernel
theorem dM_apart_88 : decode cM_apart 88 = .ok (.iload 5, 2) := by decide +kernel
theorem dM_apart_90 : decode cM_apart 90 = .ok (.iload 4, 2) := by decide +kernel
theorem dM_apart_92 : decode cM_apart 92 = .ok (.invokestatic 47, 3) := by decide +kernel
theorem dM_apart_95 : decode cM_apart 95 = .ok (.iaload, 1) := by decide +kernel
theorem dM_apart_96 : decode cM_apart 96 = .ok (.isub, 1) := by decide +kernel
theorem dM_apart_97 : decode cM_apart 97 = .ok (.istore 6, 2) := by decide +kernel
theorem dM_apart_99 : decode cM_apart 99 = .ok (.iload 6, 2) := by decide +kernel
theorem dM_apart_101 : decode cM_apart 101 = .ok (.ifCond .ge 9, 3) := by decide +kernel
theorem dM_apart_104 : decode cM_apart 104 = .ok (.iload 6, 2) := by decide +kernel
theorem dM_apart_106 : decode cM_apart 106 = .ok (.ineg, 1) := by decide +kernel
theorem dM_apart_107 : decode cM_apart 107 = .ok (.goto 5, 3) := by decide +kernel
theorem dM_apart_110 : decode cM_apart 110 = .ok (.iload 6, 2) := by decide +kernel
theorem dM_apart_112 : decode cM_apart 112 = .ok (.istore 6, 2) := by decide +kernel
theorem dM_apart_114 : decode cM_apart 114 = .ok (.iload 6, 2) := by decide +kernel
theorem dM_apart_116 : decode cM_apart 116 = .ok (.iload_n 3, 1) := by decide +kernel
theorem dM_apart_117 : decode cM_apart 117 = .ok (.if_icmp .le 8, 3) := by decide +kernel
theorem dM_apart_120 : decode cM_apart 120 = .ok (.iload 6, 2) := by decide +kernel
theorem dM_apart_122 : decode cM_apart 122 = .ok (.goto 4, 3) := by decide +kernel
theorem dM_apart_125 : decode cM_apart 125 = .ok (.iload_n 3, 1) := by decide +kernel
theorem dM_apart_126 : decode cM_apart 126 = .ok (.istore_n 3, 1) := by decide +kernel
theorem dM_apart_127 : decode cM_apart 127 = .ok (.iinc 5 1, 3) := by decide +kernel
theorem dM_apart_130 : decode cM_apart 130 = .ok (.goto (-71), 3) := by decide +kernel
theorem dM_apart_133 : decode cM_apart 133 = .ok (.iinc 4 1, 3) := by decide +kernel
theorem dM_apart_136 : decode cM_apart 136 = .ok (.goto (-91), 3) := by decide +kernel
theorem dM_apart_139 : decode cM_apart 139 = .ok (.iload_n 3, 1) := by decide +kernel
theorem dM_apart_140 : decode cM_apart 140 = .ok (.ireturn, 1) := by decide +kernel
theorem dM_look_0 : decode cM_look 0 = .ok (.aload_n 0, 1) := by decide +kernel
theorem dM_look_1 : decode cM_look 1 = .ok (.iload_n 1, 1) := by decide +kernel
theorem dM_look_2 : decode cM_look 2 = .ok (.invokestatic 30, 3) := by decide +kernel
theorem dM_look_5 : decode cM_look 5 = .ok (.iconst 1, 1) := by decide +kernel
theorem dM_look_6 : decode cM_look 6 = .ok (.invokevirtual 40, 3) := by decide +kernel
theorem dM_look_9 : decode cM_look 9 = .ok (.ifCond .ne 5, 3) := by decide +kernel
theorem dM_look_12 : decode cM_look 12 = .ok (.iconst 0, 1) := by decide +kernel
theorem dM_look_13 : decode cM_look 13 = .ok (.ireturn, 1) := by decide +kernel
theorem dM_look_14 : decode cM_look 14 = .ok (.iconst 0, 1) := by decide +kernel
theorem dM_look_15 : decode cM_look 15 = .ok (.istore_n 3, 1) := by decide +kernel
theorem dM_look_16 : decode cM_look 16 = .ok (.sipush 255, 3) := by decide +kernel
theorem dM_look_19 : decode cM_look 19 = .ok (.istore 4, 2) := by decide +kernel
theorem dM_look_21 : decode cM_look 21 = .ok (.iconst 0, 1) := by decide +kernel
theorem dM_look_22 : decode cM_look 22 = .ok (.istore 5, 2) := by decide +kernel
theorem dM_look_24 : decode cM_look 24 = .ok (.iconst 0, 1) := by decide +kernel
theorem dM_look_25 : decode cM_look 25 = .ok (.istore 6, 2) := by decide +kernel
theorem dM_look_27 : decode cM_look 27 = .ok (.iload 6, 2) := by decide +kernel
theorem dM_look_29 : decode cM_look 29 = .ok (.aload_n 0, 1) := by decide +kernel
theorem dM_look_30 : decode cM_look 30 = .ok (.getfield 13, 3) := by decide +kernel
theorem dM_look_33 : decode cM_look 33 = .ok (.iload_n 1, 1) := by decide +kernel
theorem dM_look_34 : decode cM_look 34 = .ok (.iaload, 1) := by decide +kernel
theorem dM_look_35 : decode cM_look 35 = .ok (.if_icmp .ge 81, 3) := by decide +kernel
theorem dM_look_38 : decode cM_look 38 = .ok (.iconst 0, 1) := by decide +kernel
theorem dM_look_39 : decode cM_look 39 = .ok (.istore 7, 2) := by decide +kernel
theorem dM_look_41 : decode cM_look 41 = .ok (.iload 7, 2) := by decide +kernel
theorem dM_look_43 : decode cM_look 43 = .ok (.aload_n 0, 1) := by decide +kernel
theorem dM_look_44 : decode cM_look 44 = .ok (.getfield 7, 3) := by decide +kernel
theorem dM_look_47 : decode cM_look 47 = .ok (.iload_n 1, 1) := by decide +kernel
theorem dM_look_48 : decode cM_look 48 = .ok (.iaload, 1) := by decide +kernel
theorem dM_look_49 : decode cM_look 49 = .ok (.if_icmp .ge 61, 3) := by decide +kernel
theorem dM_look_52 : decode cM_look 52 = .ok (.aload_n 0, 1) := by decide +kernel
theorem dM_look_53 : decode cM_look 53 = .ok (.getfield 16, 3) := by decide +kernel
theorem dM_look_56 : decode cM_look 56 = .ok (.iload_n 1, 1) := by decide +kernel
theorem dM_look_57 : decode cM_look 57 = .ok (.iload 7, 2) := by decide +kernel
theorem dM_look_59 : decode cM_look 59 = .ok (.iload 6, 2) := by decide +kernel
theorem dM_look_61 : decode cM_look 61 = .ok (.invokestatic 47, 3) := by decide +kernel
theorem dM_look_64 : decode cM_look 64 = .ok (.iaload, 1) := by decide +kernel
theorem dM_look_65 : decode cM_look 65 = .ok (.istore 8, 2) := by decide +kernel
theorem dM_look_67 : decode cM_look 67 = .ok (.iload_n 3, 1) := by decide +kernel
theorem dM_look_68 : decode cM_look 68 = .ok (.iload 8, 2) := by decide +kernel
theorem dM_look_70 : decode cM_look 70 = .ok (.iadd, 1) := by decide +kernel
theorem dM_look_71 : decode cM_look 71 = .ok (.istore_n 3, 1) := by decide +kernel
theorem dM_look_72 : decode cM_look 72 = .ok (.iload 8, 2) := by decide +kernel
theorem dM_look_74 : decode cM_look 74 = .ok (.iload 4, 2) := by decide +kernel
theorem dM_look_76 : decode cM_look 76 = .ok (.if_icmp .ge 8, 3) := by decide +kernel
theorem dM_look_79 : decode cM_look 79 = .ok (.iload 8, 2) := by decide +kernel
theorem dM_look_81 : decode cM_look 81 = .ok (.goto 5, 3) := by decide +kernel
theorem dM_look_84 : decode cM_look 84 = .ok (.iload 4, 2) := by decide +kernel
theorem dM_look_86 : decode cM_look 86 = .ok (.istore 4, 2) := by decide +kernel
theorem dM_look_88 : decode cM_look 88 = .ok (.iload 8, 2) := by decide +kernel
theorem dM_look_90 : decode cM_look 90 = .ok (.iload 5, 2) := by decide +kernel
theorem dM_look_92 : decode cM_look 92 = .ok (.if_icmp .le 8, 3) := by decide +kernel
theorem dM_look_95 : decode cM_look 95 = .ok (.iload 8, 2) := by decide +kernel
theorem dM_look_97 : decode cM_look 97 = .ok (.goto 5, 3) := by decide +kernel
theorem dM_look_100 : decode cM_look 100 = .ok (.iload 5, 2) := by decide +kernel
theorem dM_look_102 : decode cM_look 102 = .ok (.istore 5, 2) := by decide +kernel
theorem dM_look_104 : decode cM_look 104 = .ok (.iinc 7 1, 3) := by decide +kernel
theorem dM_look_107 : decode cM_look 107 = .ok (.goto (-66), 3) := by decide +kernel
theorem dM_look_110 : decode cM_look 110 = .ok (.iinc 6 1, 3) := by decide +kernel
theorem dM_look_113 : decode cM_look 113 = .ok (.goto (-86), 3) := by decide +kernel
theorem dM_look_116 : decode cM_look 116 = .ok (.iload_n 2, 1) := by decide +kernel
theorem dM_look_117 : decode cM_look 117 = .ok (.tableswitch 57 0 4 #[35, 42, 49, 51, 54], 35) := by decide +kernel
theorem dM_look_152 : decode cM_look 152 = .ok (.aload_n 0, 1) := by decide +kernel
theorem dM_look_153 : decode cM_look 153 = .ok (.getfield 7, 3) := by decide +kernel
theorem dM_look_156 : decode cM_look 156 = .ok (.iload_n 1, 1) := by decide +kernel
theorem dM_look_157 : decode cM_look 157 = .ok (.iaload, 1) := by decide +kernel
theorem dM_look_158 : decode cM_look 158 = .ok (.ireturn, 1) := by decide +kernel
theorem dM_look_159 : decode cM_look 159 = .ok (.aload_n 0, 1) := by decide +kernel
theorem dM_look_160 : decode cM_look 160 = .ok (.getfield 13, 3) := by decide +kernel
theorem dM_look_163 : decode cM_look 163 = .ok (.iload_n 1, 1) := by decide +kernel
theorem dM_look_164 : decode cM_look 164 = .ok (.iaload, 1) := by decide +kernel
theorem dM_look_165 : decode cM_look 165 = .ok (.ireturn, 1) := by decide +kernel
theorem dM_look_166 : decode cM_look 166 = .ok (.iload_n 3, 1) := by decide +kernel
theorem dM_look_167 : decode cM_look 167 = .ok (.ireturn, 1) := by decide +kernel
theorem dM_look_168 : decode cM_look 168 = .ok (.iload 4, 2) := by decide +kernel
theorem dM_look_170 : decode cM_look 170 = .ok (.ireturn, 1) := by decide +kernel
theorem dM_look_171 : decode cM_look 171 = .ok (.iload 5, 2) := by decide +kernel
theorem dM_look_173 : decode cM_look 173 = .ok (.ireturn, 1) := by decide +kernel
theorem dM_look_174 : decode cM_look 174 = .ok (.iconst (-1), 1) := by decide +kernel
theorem dM_look_175 : decode cM_look 175 = .ok (.ireturn, 1) := by decide +kernel
end
section
theorem dL_size_0 : decode cL_size 0 = .ok (.aload_n 0, 1) := by decide +kernel
theorem dL_size_1 : decode cL_size 1 = .ok (.iload_n 1, 1) := by decide +kernel
theorem dL_size_2 : decode cL_size 2 = .ok (.iload_n 2, 1) := by decide +kernel
theorem dL_size_3 : decode cL_size 3 = .ok (.iload_n 3, 1) := by decide +kernel
theorem dL_size_4 : decode cL_size 4 = .ok (.invokevirtual 7, 3) := by decide +kernel
theorem dL_size_7 : decode cL_size 7 = .ok (.goto 11, 3) := by decide +kernel
theorem dL_size_10 : decode cL_size 10 = .ok (.astore 4, 2) := by decide +kernel
theorem dL_size_12 : decode cL_size 12 = .ok (.iconst 1, 1) := by decide +kernel
theorem dL_size_13 : decode cL_size 13 = .ok (.ireturn, 1) := by decide +kernel
theorem dL_size_14 : decode cL_size 14 = .ok (.astore 4, 2) := by decide +kernel
theorem dL_size_16 : decode cL_size 16 = .ok (.iconst 2, 1) := by decide +kernel
theorem dL_size_17 : decode cL_size 17 = .ok (.ireturn, 1) := by decide +kernel
theorem dL_size_18 : decode cL_size 18 = .ok (.iconst 0, 1) := by decide +kernel
theorem dL_size_19 : decode cL_size 19 = .ok (.ireturn, 1) := by decide +kernel
theorem dL_put_0 : decode cL_put 0 = .ok (.aload_n 0, 1) := by decide +kernel
theorem dL_put_1 : decode cL_put 1 = .ok (.iload_n 1, 1) := by decide +kernel
theorem dL_put_2 : decode cL_put 2 = .ok (.iload_n 2, 1) := by decide +kernel
theorem dL_put_3 : decode cL_put 3 = .ok (.iload_n 3, 1) := by decide +kernel
theorem dL_put_4 : decode cL_put 4 = .ok (.iload 4, 2) := by decide +kernel
theorem dL_put_6 : decode cL_put 6 = .ok (.invokevirtual 17, 3) := by decide +kernel
theorem dL_put_9 : decode cL_put 9 = .ok (.goto 11, 3) := by decide +kernel
theorem dL_put_12 : decode cL_put 12 = .ok (.astore 5, 2) := by decide +kernel
theorem dL_put_14 : decode cL_put 14 = .ok (.iconst 1, 1) := by decide +kernel
theorem dL_put_15 : decode cL_put 15 = .ok (.ireturn, 1) := by decide +kernel
theorem dL_put_16 : decode cL_put 16 = .ok (.astore 5, 2) := by decide +kernel
theorem dL_put_18 : decode cL_put 18 = .ok (.iconst 2, 1) := by decide +kernel
theorem dL_put_19 : decode cL_put 19 = .ok (.ireturn, 1) := by decide +kernel
theorem dL_put_20 : decode cL_put 20 = .ok (.iconst 0, 1) := by decide +kernel
theorem dL_put_21 : decode cL_put 21 = .ok (.ireturn, 1) := by decide +kernel
theorem dL_row_0 : decode cL_row 0 = .ok (.aload_n 0, 1) := by decide +kernel
theorem dL_row_1 : decode cL_row 1 = .ok (.iload_n 1, 1) := by decide +kernel
theorem dL_row_2 : decode cL_row 2 = .ok (.iload_n 2, 1) := by decide +kernel
theorem dL_row_3 : decode cL_row 3 = .ok (.iload_n 3, 1) := by decide +kernel
theorem dL_row_4 : decode cL_row 4 = .ok (.lload 4, 2) := by decide +kernel
theorem dL_row_6 : decode cL_row 6 = .ok (.invokevirtual 21, 3) := by decide +kernel
theorem dL_row_9 : decode cL_row 9 = .ok (.goto 7, 3) := by decide +kernel
theorem dL_row_12 : decode cL_row 12 = .ok (.astore 6, 2) := by decide +kernel
theorem dL_row_14 : decode cL_row 14 = .ok (.iconst 1, 1) := by decide +kernel
theorem dL_row_15 : decode cL_row 15 = .ok (.ireturn, 1) := by decide +kernel
theorem dL_row_16 : decode cL_row 16 = .ok (.iconst 0, 1) := by decide +kernel
theorem dL_row_17 : decode cL_row 17 = .ok (.ireturn, 1) := by decide +kernel
theorem dL_grow_0 : decode cL_grow 0 = .ok (.aload_n 3, 1) := by decide +kernel
theorem dL_grow_1 : decode cL_grow 1 = .ok (.iconst 0, 1) := by decide +kernel
theorem dL_grow_2 : decode cL_grow 2 = .ok (.aload_n 0, 1) := by decide +kernel
theorem dL_grow_3 : decode cL_grow 3 = .ok (.iload_n 1, 1) := by decide +kernel
theorem dL_grow_4 : decode cL_grow 4 = .ok (.iload_n 2, 1) := by decide +kernel
theorem dL_grow_5 : decode cL_grow 5 = .ok (.invokevirtual 25, 3) := by decide +kernel
theorem dL_grow_8 : decode cL_grow 8 = .ok (.ifCond .eq 7, 3) := by decide +kernel
theorem dL_grow_11 : decode cL_grow 11 = .ok (.lconst 1, 1) := by decide +kernel
theorem dL_grow_12 : decode cL_grow 12 = .ok (.goto 4, 3) := by decide +kernel
theorem dL_grow_15 : decode cL_grow 15 = .ok (.lconst 0, 1) := by decide +kernel
theorem dL_grow_16 : decode cL_grow 16 = .ok (.lastore, 1) := by decide +kernel
theorem dL_grow_17 : decode cL_grow 17 = .ok (.goto 7, 3) := by decide +kernel
theorem dL_grow_20 : decode cL_grow 20 = .ok (.astore 4, 2) := by decide +kernel
theorem dL_grow_22 : decode cL_grow 22 = .ok (.iconst 1, 1) := by decide +kernel
theorem dL_grow_23 : decode cL_grow 23 = .ok (.ireturn, 1) := by decide +kernel
theorem dL_grow_24 : decode cL_grow 24 = .ok (.iconst 0, 1) := by decide +kernel
theorem dL_grow_25 : decode cL_grow 25 = .ok (.ireturn, 1) := by decide +kernel
theorem dL_shrink_0 : decode cL_shrink 0 = .ok (.aload_n 3, 1) := by decide +kernel
theorem dL_shrink_1 : decode cL_shrink 1 = .ok (.iconst 0, 1) := by decide +kernel
theorem dL_shrink_2 : decode cL_shrink 2 = .ok (.aload_n 0, 1) := by decide +kernel
theorem dL_shrink_3 : decode cL_shrink 3 = .ok (.iload_n 1, 1) := by decide +kernel
theorem dL_shrink_4 : decode cL_shrink 4 = .ok (.iload_n 2, 1) := by decide +kernel
theorem dL_shrink_5 : decode cL_shrink 5 = .ok (.invokevirtual 29, 3) := by decide +kernel
theorem dL_shrink_8 : decode cL_shrink 8 = .ok (.ifCond .eq 7, 3) := by decide +kernel
theorem dL_shrink_11 : decode cL_shrink 11 = .ok (.lconst 1, 1) := by decide +kernel
theorem dL_shrink_12 : decode cL_shrink 12 = .ok (.goto 4, 3) := by decide +kernel
theorem dL_shrink_15 : decode cL_shrink 15 = .ok (.lconst 0, 1) := by decide +kernel
theorem dL_shrink_16 : decode cL_shrink 16 = .ok (.lastore, 1) := by decide +kernel
theorem dL_shrink_17 : decode cL_shrink 17 = .ok (.goto 7, 3) := by decide +kernel
theorem dL_shrink_20 : decode cL_shrink 20 = .ok (.astore 4, 2) := by decide +kernel
theorem dL_shrink_22 : decode cL_shrink 22 = .ok (.iconst 1, 1) := by decide +kernel
theorem dL_shrink_23 : decode cL_shrink 23 = .ok (.ireturn, 1) := by decide +kernel
theorem dL_shrink_24 : decode cL_shrink 24 = .ok (.iconst 0, 1) := by decide +kernel
theorem dL_shrink_25 : decode cL_shrink 25 = .ok (.ireturn, 1) := by decide +kernel
theorem dL_copy_0 : decode cL_copy 0 = .ok (.aload_n 0, 1) := by decide +kernel
theorem dL_copy_1 : decode cL_copy 1 = .ok (.iload_n 1, 1) := by decide +kernel
theorem dL_copy_2 : decode cL_copy 2 = .ok (.iload_n 2, 1) := by decide +kernel
theorem dL_copy_3 : decode cL_copy 3 = .ok (.invokevirtual 32, 3) := by decide +kernel
theorem dL_copy_6 : decode cL_copy 6 = .ok (.goto 6, 3) := by decide +kernel
theorem dL_copy_9 : decode cL_copy 9 = .ok (.astore_n 3, 1) := by decide +kernel
theorem dL_copy_10 : decode cL_copy 10 = .ok (.iconst 1, 1) := by decide +kernel
theorem dL_copy_11 : decode cL_copy 11 = .ok (.ireturn, 1) := by decide +kernel
theorem dL_copy_12 : decode cL_copy 12 = .ok (.iconst 0, 1) := by decide +kernel
theorem dL_copy_13 : decode cL_copy 13 = .ok (.ireturn, 1) := by decide +kernel
theorem dL_extend_0 : decode cL_extend 0 = .ok (.aload 4, 2) := by decide +kernel
theorem dL_extend_2 : decode cL_extend 2 = .ok (.iconst 0, 1) := by decide +kernel
theorem dL_extend_3 : decode cL_extend 3 = .ok (.aload_n 0, 1) := by decide +kernel
theorem dL_extend_4 : decode cL_extend 4 = .ok (.iload_n 1, 1) := by decide +kernel
theorem dL_extend_5 : decode cL_extend 5 = .ok (.iload_n 2, 1) := by decide +kernel
theorem dL_extend_6 : decode cL_extend 6 = .ok (.iload_n 3, 1) := by decide +kernel
theorem dL_extend_7 : decode cL_extend 7 = .ok (.invokevirtual 36, 3) := by decide +kernel
theorem dL_extend_10 : decode cL_extend 10 = .ok (.ifCond .eq 7, 3) := by decide +kernel
theorem dL_extend_13 : decode cL_extend 13 = .ok (.lconst 1, 1) := by decide +kernel
theorem dL_extend_14 : decode cL_extend 14 = .ok (.goto 4, 3) := by decide +kernel
theorem dL_extend_17 : decode cL_extend 17 = .ok (.lconst 0, 1) := by decide +kernel
theorem dL_extend_18 : decode cL_extend 18 = .ok (.lastore, 1) := by decide +kernel
theorem dL_extend_19 : decode cL_extend 19 = .ok (.goto 7, 3) := by decide +kernel
theorem dL_extend_22 : decode cL_extend 22 = .ok (.astore 5, 2) := by decide +kernel
theorem dL_extend_24 : decode cL_extend 24 = .ok (.iconst 1, 1) := by decide +kernel
theorem dL_extend_25 : decode cL_extend 25 = .ok (.ireturn, 1) := by decide +kernel
theorem dL_extend_26 : decode cL_extend 26 = .ok (.iconst 0, 1) := by decide +kernel
theorem dL_extend_27 : decode cL_extend 27 = .ok (.ireturn, 1) := by decide +kernel
theorem dL_cut_0 : decode cL_cut 0 = .ok (.aload 4, 2) := by decide +kernel
theorem dL_cut_2 : decode cL_cut 2 = .ok (.iconst 0, 1) := by decide +kernel
theorem dL_cut_3 : decode cL_cut 3 = .ok (.aload_n 0, 1) := by decide +kernel
theorem dL_cut_4 : decode cL_cut 4 = .ok (.iload_n 1, 1) := by decide +kernel
theorem dL_cut_5 : decode cL_cut 5 = .ok (.iload_n 2, 1) := by decide +kernel
theorem dL_cut_6 : decode cL_cut 6 = .ok (.iload_n 3, 1) := by decide +kernel
theorem dL_cut_7 : decode cL_cut 7 = .ok (.invokevirtual 40, 3) := by decide +kernel
theorem dL_cut_10 : decode cL_cut 10 = .ok (.ifCond .eq 7, 3) := by decide +kernel
theorem dL_cut_13 : decode cL_cut 13 = .ok (.lconst 1, 1) := by decide +kernel
theorem dL_cut_14 : decode cL_cut 14 = .ok (.goto 4, 3) := by decide +kernel
theorem dL_cut_17 : decode cL_cut 17 = .ok (.lconst 0, 1) := by decide +kernel
theorem dL_cut_18 : decode cL_cut 18 = .ok (.lastore, 1) := by decide +kernel
theorem dL_cut_19 : decode cL_cut 19 = .ok (.goto 7, 3) := by decide +kernel
theorem dL_cut_22 : decode cL_cut 22 = .ok (.astore 5, 2) := by decide +kernel
theorem dL_cut_24 : decode cL_cut 24 = .ok (.iconst 1, 1) := by decide +kernel
theorem dL_cut_25 : decode cL_cut 25 = .ok (.ireturn, 1) := by decide +kernel
theorem dL_cut_26 : decode cL_cut 26 = .ok (.iconst 0, 1) := by decide +kernel
theorem dL_cut_27 : decode cL_cut 27 = .ok (.ireturn, 1) := by decide +kernel
theorem dL_at_0 : decode cL_at 0 = .ok (.aload 4, 2) := by decide +kernel
theorem dL_at_2 : decode cL_at 2 = .ok (.iconst 0, 1) := by decide +kernel
theorem dL_at_3 : decode cL_at 3 = .ok (.aload_n 0, 1) := by decide +kernel
theorem dL_at_4 : decode cL_at 4 = .ok (.iload_n 1, 1) := by decide +kernel
theorem dL_at_5 : decode cL_at 5 = .ok (.iload_n 2, 1) := by decide +kernel
theorem dL_at_6 : decode cL_at 6 = .ok (.iload_n 3, 1) := by decide +kernel
theorem dL_at_7 : decode cL_at 7 = .ok (.invokevirtual 43, 3) := by decide +kernel
theorem dL_at_10 : decode cL_at 10 = .ok (.i2l, 1) := by decide +kernel
theorem dL_at_11 : decode cL_at 11 = .ok (.lastore, 1) := by decide +kernel
theorem dL_at_12 : decode cL_at 12 = .ok (.goto 7, 3) := by decide +kernel
theorem dL_at_15 : decode cL_at 15 = .ok (.astore 5, 2) := by decide +kernel
theorem dL_at_17 : decode cL_at 17 = .ok (.iconst 1, 1) := by decide +kernel
theorem dL_at_18 : decode cL_at 18 = .ok (.ireturn, 1) := by decide +kernel
theorem dL_at_19 : decode cL_at 19 = .ok (.iconst 0, 1) := by decide +kernel
theorem dL_at_20 : decode cL_at 20 = .ok (.ireturn, 1) := by decide +kernel
theorem dL_eight_0 : decode cL_eight 0 = .ok (.aload 4, 2) := by decide +kernel
theorem dL_eight_2 : decode cL_eight 2 = .ok (.iconst 0, 1) := by decide +kernel
theorem dL_eight_3 : decode cL_eight 3 = .ok (.aload_n 0, 1) := by decide +kernel
theorem dL_eight_4 : decode cL_eight 4 = .ok (.iload_n 1, 1) := by decide +kernel
theorem dL_eight_5 : decode cL_eight 5 = .ok (.iload_n 2, 1) := by decide +kernel
theorem dL_eight_6 : decode cL_eight 6 = .ok (.iload_n 3, 1) := by decide +kernel
theorem dL_eight_7 : decode cL_eight 7 = .ok (.invokevirtual 47, 3) := by decide +kernel
theorem dL_eight_10 : decode cL_eight 10 = .ok (.lastore, 1) := by decide +kernel
theorem dL_eight_11 : decode cL_eight 11 = .ok (.goto 7, 3) := by decide +kernel
theorem dL_eight_14 : decode cL_eight 14 = .ok (.astore 5, 2) := by decide +kernel
theorem dL_eight_16 : decode cL_eight 16 = .ok (.iconst 1, 1) := by decide +kernel
theorem dL_eight_17 : decode cL_eight 17 = .ok (.ireturn, 1) := by decide +kernel
theorem dL_eight_18 : decode cL_eight 18 = .ok (.iconst 0, 1) := by decide +kernel
theorem dL_eight_19 : decode cL_eight 19 = .ok (.ireturn, 1) := by decide +kernel
theorem dL_apart_0 : decode cL_apart 0 = .ok (.aload_n 3, 1) := by decide +kernel
theorem dL_apart_1 : decode cL_apart 1 = .ok (.iconst 0, 1) := by decide +kernel
theorem dL_apart_2 : decode cL_apart 2 = .ok (.aload_n 0, 1) := by decide +kernel
theorem dL_apart_3 : decode cL_apart 3 = .ok (.iload_n 1, 1) := by decide +kernel
theorem dL_apart_4 : decode cL_apart 4 = .ok (.iload_n 2, 1) := by decide +kernel
theorem dL_apart_5 : decode cL_apart 5 = .ok (.invokevirtual 51, 3) := by decide +kernel
theorem dL_apart_8 : decode cL_apart 8 = .ok (.i2l, 1) := by decide +kernel
theorem dL_apart_9 : decode cL_apart 9 = .ok (.lastore, 1) := by decide +kernel
theorem dL_apart_10 : decode cL_apart 10 = .ok (.goto 7, 3) := by decide +kernel
theorem dL_apart_13 : decode cL_apart 13 = .ok (.astore 4, 2) := by decide +kernel
theorem dL_apart_15 : decode cL_apart 15 = .ok (.iconst 1, 1) := by decide +kernel
theorem dL_apart_16 : decode cL_apart 16 = .ok (.ireturn, 1) := by decide +kernel
theorem dL_apart_17 : decode cL_apart 17 = .ok (.iconst 0, 1) := by decide +kernel
theorem dL_apart_18 : decode cL_apart 18 = .ok (.ireturn, 1) := by decide +kernel
theorem dL_look_0 : decode cL_look 0 = .ok (.aload_n 3, 1) := by decide +kernel
theorem dL_look_1 : decode cL_look 1 = .ok (.iconst 0, 1) := by decide +kernel
theorem dL_look_2 : decode cL_look 2 = .ok (.aload_n 0, 1) := by decide +kernel
theorem dL_look_3 : decode cL_look 3 = .ok (.iload_n 1, 1) := by decide +kernel
theorem dL_look_4 : decode cL_look 4 = .ok (.iload_n 2, 1) := by decide +kernel
theorem dL_look_5 : decode cL_look 5 = .ok (.invokevirtual 55, 3) := by decide +kernel
theorem dL_look_8 : decode cL_look 8 = .ok (.i2l, 1) := by decide +kernel
theorem dL_look_9 : decode cL_look 9 = .ok (.lastore, 1) := by decide +kernel
theorem dL_look_10 : decode cL_look 10 = .ok (.goto 7, 3) := by decide +kernel
theorem dL_look_13 : decode cL_look 13 = .ok (.astore 4, 2) := by decide +kernel
theorem dL_look_15 : decode cL_look 15 = .ok (.iconst 1, 1) := by decide +kernel
theorem dL_look_16 : decode cL_look 16 = .ok (.ireturn, 1) := by decide +kernel
theorem dL_look_17 : decode cL_look 17 = .ok (.iconst 0, 1) := by decide +kernel
theorem dL_look_18 : decode cL_look 18 = .ok (.ireturn, 1) := by decide +kernel
end
section
theorem dL_law_0 : decode cL_law 0 = .ok (.new 8, 3) := by decide +kernel
theorem dL_law_3 : decode cL_law 3 = .ok (.dup, 1) := by decide +kernel
theorem dL_law_4 : decode cL_law 4 = .ok (.invokespecial 58, 3) := by decide +kernel
theorem dL_law_7 : decode cL_law 7 = .ok (.astore_n 1, 1) := by decide +kernel
theorem dL_law_8 : decode cL_law 8 = .ok (.new 59, 3) := by decide +kernel
theorem dL_law_11 : decode cL_law 11 = .ok (.dup, 1) := by decide +kernel
theorem dL_law_12 : decode cL_law 12 = .ok (.invokespecial 61, 3) := by decide +kernel
theorem dL_law_15 : decode cL_law 15 = .ok (.astore_n 2, 1) := by decide +kernel
theorem dL_law_16 : decode cL_law 16 = .ok (.iconst 1, 1) := by decide +kernel
theorem dL_law_17 : decode cL_law 17 = .ok (.newarray .long, 2) := by decide +kernel
theorem dL_law_19 : decode cL_law 19 = .ok (.astore_n 3, 1) := by decide +kernel
theorem dL_law_20 : decode cL_law 20 = .ok (.iconst 0, 1) := by decide +kernel
theorem dL_law_21 : decode cL_law 21 = .ok (.istore 4, 2) := by decide +kernel
theorem dL_law_23 : decode cL_law 23 = .ok (.iload 4, 2) := by decide +kernel
theorem dL_law_25 : decode cL_law 25 = .ok (.aload_n 0, 1) := by decide +kernel
theorem dL_law_26 : decode cL_law 26 = .ok (.arraylength, 1) := by decide +kernel
theorem dL_law_27 : decode cL_law 27 = .ok (.bipush 6, 2) := by decide +kernel
theorem dL_law_29 : decode cL_law 29 = .ok (.isub, 1) := by decide +kernel
theorem dL_law_30 : decode cL_law 30 = .ok (.if_icmp .gt 1012, 3) := by decide +kernel
theorem dL_law_33 : decode cL_law 33 = .ok (.aload_n 0, 1) := by decide +kernel
theorem dL_law_34 : decode cL_law 34 = .ok (.iload 4, 2) := by decide +kernel
theorem dL_law_36 : decode cL_law 36 = .ok (.iaload, 1) := by decide +kernel
theorem dL_law_37 : decode cL_law 37 = .ok (.bipush 15, 2) := by decide +kernel
theorem dL_law_39 : decode cL_law 39 = .ok (.iand, 1) := by decide +kernel
theorem dL_law_40 : decode cL_law 40 = .ok (.tableswitch 996 0 12 #[68, 128, 200, 304, 379, 454, 479, 527, 614, 701, 781, 860, 928], 68) := by decide +kernel
theorem dL_law_108 : decode cL_law 108 = .ok (.aload_n 1, 1) := by decide +kernel
theorem dL_law_109 : decode cL_law 109 = .ok (.aload_n 0, 1) := by decide +kernel
theorem dL_law_110 : decode cL_law 110 = .ok (.iload 4, 2) := by decide +kernel
theorem dL_law_112 : decode cL_law 112 = .ok (.iconst 1, 1) := by decide +kernel
theorem dL_law_113 : decode cL_law 113 = .ok (.iadd, 1) := by decide +kernel
theorem dL_law_114 : decode cL_law 114 = .ok (.iaload, 1) := by decide +kernel
theorem dL_law_115 : decode cL_law 115 = .ok (.aload_n 0, 1) := by decide +kernel
theorem dL_law_116 : decode cL_law 116 = .ok (.iload 4, 2) := by decide +kernel
theorem dL_law_118 : decode cL_law 118 = .ok (.iconst 2, 1) := by decide +kernel
theorem dL_law_119 : decode cL_law 119 = .ok (.iadd, 1) := by decide +kernel
theorem dL_law_120 : decode cL_law 120 = .ok (.iaload, 1) := by decide +kernel
theorem dL_law_121 : decode cL_law 121 = .ok (.aload_n 0, 1) := by decide +kernel
theorem dL_law_122 : decode cL_law 122 = .ok (.iload 4, 2) := by decide +kernel
theorem dL_law_124 : decode cL_law 124 = .ok (.iconst 3, 1) := by decide +kernel
theorem dL_law_125 : decode cL_law 125 = .ok (.iadd, 1) := by decide +kernel
theorem dL_law_126 : decode cL_law 126 = .ok (.iaload, 1) := by decide +kernel
theorem dL_law_127 : decode cL_law 127 = .ok (.invokestatic 62, 3) := by decide +kernel
theorem dL_law_130 : decode cL_law 130 = .ok (.istore 5, 2) := by decide +kernel
theorem dL_law_132 : decode cL_law 132 = .ok (.aload_n 2, 1) := by decide +kernel
theorem dL_law_133 : decode cL_law 133 = .ok (.aload_n 0, 1) := by decide +kernel
theorem dL_law_134 : decode cL_law 134 = .ok (.iload 4, 2) := by decide +kernel
theorem dL_law_136 : decode cL_law 136 = .ok (.iconst 1, 1) := by decide +kernel
theorem dL_law_137 : decode cL_law 137 = .ok (.iadd, 1) := by decide +kernel
theorem dL_law_138 : decode cL_law 138 = .ok (.iaload, 1) := by decide +kernel
theorem dL_law_139 : decode cL_law 139 = .ok (.aload_n 0, 1) := by decide +kernel
theorem dL_law_140 : decode cL_law 140 = .ok (.iload 4, 2) := by decide +kernel
theorem dL_law_142 : decode cL_law 142 = .ok (.iconst 2, 1) := by decide +kernel
theorem dL_law_143 : decode cL_law 143 = .ok (.iadd, 1) := by decide +kernel
theorem dL_law_144 : decode cL_law 144 = .ok (.iaload, 1) := by decide +kernel
theorem dL_law_145 : decode cL_law 145 = .ok (.aload_n 0, 1) := by decide +kernel
theorem dL_law_146 : decode cL_law 146 = .ok (.iload 4, 2) := by decide +kernel
theorem dL_law_148 : decode cL_law 148 = .ok (.iconst 3, 1) := by decide +kernel
theorem dL_law_149 : decode cL_law 149 = .ok (.iadd, 1) := by decide +kernel
theorem dL_law_150 : decode cL_law 150 = .ok (.iaload, 1) := by decide +kernel
theorem dL_law_151 : decode cL_law 151 = .ok (.invokevirtual 67, 3) := by decide +kernel
theorem dL_law_154 : decode cL_law 154 = .ok (.aload_n 2, 1) := by decide +kernel
theorem dL_law_155 : decode cL_law 155 = .ok (.invokevirtual 68, 3) := by decide +kernel
theorem dL_law_158 : decode cL_law 158 = .ok (.iload 5, 2) := by decide +kernel
theorem dL_law_160 : decode cL_law 160 = .ok (.if_icmp .eq 5, 3) := by decide +kernel
theorem dL_law_163 : decode cL_law 163 = .ok (.iconst 0, 1) := by decide +kernel
theorem dL_law_164 : decode cL_law 164 = .ok (.ireturn, 1) := by decide +kernel
theorem dL_law_165 : decode cL_law 165 = .ok (.goto 871, 3) := by decide +kernel
theorem dL_law_168 : decode cL_law 168 = .ok (.aload_n 1, 1) := by decide +kernel
theorem dL_law_169 : decode cL_law 169 = .ok (.aload_n 0, 1) := by decide +kernel
theorem dL_law_170 : decode cL_law 170 = .ok (.iload 4, 2) := by decide +kernel
theorem dL_law_172 : decode cL_law 172 = .ok (.iconst 1, 1) := by decide +kernel
theorem dL_law_173 : decode cL_law 173 = .ok (.iadd, 1) := by decide +kernel
theorem dL_law_174 : decode cL_law 174 = .ok (.iaload, 1) := by decide +kernel
theorem dL_law_175 : decode cL_law 175 = .ok (.aload_n 0, 1) := by decide +kernel
theorem dL_law_176 : decode cL_law 176 = .ok (.iload 4, 2) := by decide +kernel
theorem dL_law_178 : decode cL_law 178 = .ok (.iconst 2, 1) := by decide +kernel
theorem dL_law_179 : decode cL_law 179 = .ok (.iadd, 1) := by decide +kernel
theorem dL_law_180 : decode cL_law 180 = .ok (.iaload, 1) := by decide +kernel
theorem dL_law_181 : decode cL_law 181 = .ok (.aload_n 0, 1) := by decide +kernel
theorem dL_law_182 : decode cL_law 182 = .ok (.iload 4, 2) := by decide +kernel
theorem dL_law_184 : decode cL_law 184 = .ok (.iconst 3, 1) := by decide +kernel
theorem dL_law_185 : decode cL_law 185 = .ok (.iadd, 1) := by decide +kernel
theorem dL_law_186 : decode cL_law 186 = .ok (.iaload, 1) := by decide +kernel
theorem dL_law_187 : decode cL_law 187 = .ok (.aload_n 0, 1) := by decide +kernel
theorem dL_law_188 : decode cL_law 188 = .ok (.iload 4, 2) := by decide +kernel
theorem dL_law_190 : decode cL_law 190 = .ok (.iconst 4, 1) := by decide +kernel
theorem dL_law_191 : decode cL_law 191 = .ok (.iadd, 1) := by decide +kernel
theorem dL_law_192 : decode cL_law 192 = .ok (.iaload, 1) := by decide +kernel
theorem dL_law_193 : decode cL_law 193 = .ok (.invokestatic 72, 3) := by decide +kernel
theorem dL_law_196 : decode cL_law 196 = .ok (.istore 5, 2) := by decide +kernel
theorem dL_law_198 : decode cL_law 198 = .ok (.aload_n 2, 1) := by decide +kernel
theorem dL_law_199 : decode cL_law 199 = .ok (.aload_n 0, 1) := by decide +kernel
theorem dL_law_200 : decode cL_law 200 = .ok (.iload 4, 2) := by decide +kernel
theorem dL_law_202 : decode cL_law 202 = .ok (.iconst 1, 1) := by decide +kernel
theorem dL_law_203 : decode cL_law 203 = .ok (.iadd, 1) := by decide +kernel
theorem dL_law_204 : decode cL_law 204 = .ok (.iaload, 1) := by decide +kernel
theorem dL_law_205 : decode cL_law 205 = .ok (.aload_n 0, 1) := by decide +kernel
theorem dL_law_206 : decode cL_law 206 = .ok (.iload 4, 2) := by decide +kernel
theorem dL_law_208 : decode cL_law 208 = .ok (.iconst 2, 1) := by decide +kernel
theorem dL_law_209 : decode cL_law 209 = .ok (.iadd, 1) := by decide +kernel
theorem dL_law_210 : decode cL_law 210 = .ok (.iaload, 1) := by decide +kernel
theorem dL_law_211 : decode cL_law 211 = .ok (.aload_n 0, 1) := by decide +kernel
theorem dL_law_212 : decode cL_law 212 = .ok (.iload 4, 2) := by decide +kernel
theorem dL_law_214 : decode cL_law 214 = .ok (.iconst 3, 1) := by decide +kernel
theorem dL_law_215 : decode cL_law 215 = .ok (.iadd, 1) := by decide +kernel
theorem dL_law_216 : decode cL_law 216 = .ok (.iaload, 1) := by decide +kernel
theorem dL_law_217 : decode cL_law 217 = .ok (.aload_n 0, 1) := by decide +kernel
theorem dL_law_218 : decode cL_law 218 = .ok (.iload 4, 2) := by decide +kernel
theorem dL_law_220 : decode cL_law 220 = .ok (.iconst 4, 1) := by decide +kernel
theorem dL_law_221 : decode cL_law 221 = .ok (.iadd, 1) := by decide +kernel
theorem dL_law_222 : decode cL_law 222 = .ok (.iaload, 1) := by decide +kernel
theorem dL_law_223 : decode cL_law 223 = .ok (.invokevirtual 75, 3) := by decide +kernel
theorem dL_law_226 : decode cL_law 226 = .ok (.aload_n 2, 1) := by decide +kernel
theorem dL_law_227 : decode cL_law 227 = .ok (.invokevirtual 68, 3) := by decide +kernel
theorem dL_law_230 : decode cL_law 230 = .ok (.iload 5, 2) := by decide +kernel
theorem dL_law_232 : decode cL_law 232 = .ok (.if_icmp .eq 5, 3) := by decide +kernel
theorem dL_law_235 : decode cL_law 235 = .ok (.iconst 0, 1) := by decide +kernel
theorem dL_law_236 : decode cL_law 236 = .ok (.ireturn, 1) := by decide +kernel
theorem dL_law_237 : decode cL_law 237 = .ok (.goto 799, 3) := by decide +kernel
theorem dL_law_240 : decode cL_law 240 = .ok (.aload_n 1, 1) := by decide +kernel
theorem dL_law_241 : decode cL_law 241 = .ok (.aload_n 0, 1) := by decide +kernel
theorem dL_law_242 : decode cL_law 242 = .ok (.iload 4, 2) := by decide +kernel
theorem dL_law_244 : decode cL_law 244 = .ok (.iconst 1, 1) := by decide +kernel
theorem dL_law_245 : decode cL_law 245 = .ok (.iadd, 1) := by decide +kernel
theorem dL_law_246 : decode cL_law 246 = .ok (.iaload, 1) := by decide +kernel
theorem dL_law_247 : decode cL_law 247 = .ok (.aload_n 0, 1) := by decide +kernel
theorem dL_law_248 : decode cL_law 248 = .ok (.iload 4, 2) := by decide +kernel
theorem dL_law_250 : decode cL_law 250 = .ok (.iconst 2, 1) := by decide +kernel
theorem dL_law_251 : decode cL_law 251 = .ok (.iadd, 1) := by decide +kernel
theorem dL_law_252 : decode cL_law 252 = .ok (.iaload, 1) := by decide +kernel
theorem dL_law_253 : decode cL_law 253 = .ok (.aload_n 0, 1) := by decide +kernel
theorem dL_law_254 : decode cL_law 254 = .ok (.iload 4, 2) := by decide +kernel
theorem dL_law_256 : decode cL_law 256 = .ok (.iconst 3, 1) := by decide +kernel
theorem dL_law_257 : decode cL_law 257 = .ok (.iadd, 1) := by decide +kernel
theorem dL_law_258 : decode cL_law 258 = .ok (.iaload, 1) := by decide +kernel
theorem dL_law_259 : decode cL_law 259 = .ok (.aload_n 0, 1) := by decide +kernel
theorem dL_law_260 : decode cL_law 260 = .ok (.iload 4, 2) := by decide +kernel
theorem dL_law_262 : decode cL_law 262 = .ok (.iconst 4, 1) := by decide +kernel
theorem dL_law_263 : decode cL_law 263 = .ok (.iadd, 1) := by decide +kernel
theorem dL_law_264 : decode cL_law 264 = .ok (.iaload, 1) := by decide +kernel
theorem dL_law_265 : decode cL_law 265 = .ok (.i2l, 1) := by decide +kernel
theorem dL_law_266 : decode cL_law 266 = .ok (.bipush 32, 2) := by decide +kernel
theorem dL_law_268 : decode cL_law 268 = .ok (.lshl, 1) := by decide +kernel
theorem dL_law_269 : decode cL_law 269 = .ok (.aload_n 0, 1) := by decide +kernel
theorem dL_law_270 : decode cL_law 270 = .ok (.iload 4, 2) := by decide +kernel
theorem dL_law_272 : decode cL_law 272 = .ok (.iconst 5, 1) := by decide +kernel
theorem dL_law_273 : decode cL_law 273 = .ok (.iadd, 1) := by decide +kernel
theorem dL_law_274 : decode cL_law 274 = .ok (.iaload, 1) := by decide +kernel
theorem dL_law_275 : decode cL_law 275 = .ok (.i2l, 1) := by decide +kernel
theorem dL_law_276 : decode cL_law 276 = .ok (.ldc2_w 76, 3) := by decide +kernel
theorem dL_law_279 : decode cL_law 279 = .ok (.land, 1) := by decide +kernel
theorem dL_law_280 : decode cL_law 280 = .ok (.lor, 1) := by decide +kernel
theorem dL_law_281 : decode cL_law 281 = .ok (.invokestatic 78, 3) := by decide +kernel
theorem dL_law_284 : decode cL_law 284 = .ok (.istore 5, 2) := by decide +kernel
theorem dL_law_286 : decode cL_law 286 = .ok (.aload_n 2, 1) := by decide +kernel
theorem dL_law_287 : decode cL_law 287 = .ok (.aload_n 0, 1) := by decide +kernel
theorem dL_law_288 : decode cL_law 288 = .ok (.iload 4, 2) := by decide +kernel
theorem dL_law_290 : decode cL_law 290 = .ok (.iconst 1, 1) := by decide +kernel
theorem dL_law_291 : decode cL_law 291 = .ok (.iadd, 1) := by decide +kernel
theorem dL_law_292 : decode cL_law 292 = .ok (.iaload, 1) := by decide +kernel
theorem dL_law_293 : decode cL_law 293 = .ok (.aload_n 0, 1) := by decide +kernel
theorem dL_law_294 : decode cL_law 294 = .ok (.iload 4, 2) := by decide +kernel
theorem dL_law_296 : decode cL_law 296 = .ok (.iconst 2, 1) := by decide +kernel
theorem dL_law_297 : decode cL_law 297 = .ok (.iadd, 1) := by decide +kernel
theorem dL_law_298 : decode cL_law 298 = .ok (.iaload, 1) := by decide +kernel
theorem dL_law_299 : decode cL_law 299 = .ok (.aload_n 0, 1) := by decide +kernel
theorem dL_law_300 : decode cL_law 300 = .ok (.iload 4, 2) := by decide +kernel
theorem dL_law_302 : decode cL_law 302 = .ok (.iconst 3, 1) := by decide +kernel
theorem dL_law_303 : decode cL_law 303 = .ok (.iadd, 1) := by decide +kernel
theorem dL_law_304 : decode cL_law 304 = .ok (.iaload, 1) := by decide +kernel
theorem dL_law_305 : decode cL_law 305 = .ok (.aload_n 0, 1) := by decide +kernel
theorem dL_law_306 : decode cL_law 306 = .ok (.iload 4, 2) := by decide +kernel
theorem dL_law_308 : decode cL_law 308 = .ok (.iconst 4, 1) := by decide +kernel
theorem dL_law_309 : decode cL_law 309 = .ok (.iadd, 1) := by decide +kernel
theorem dL_law_310 : decode cL_law 310 = .ok (.iaload, 1) := by decide +kernel
theorem dL_law_311 : decode cL_law 311 = .ok (.i2l, 1) := by decide +kernel
theorem dL_law_312 : decode cL_law 312 = .ok (.bipush 32, 2) := by decide +kernel
theorem dL_law_314 : decode cL_law 314 = .ok (.lshl, 1) := by decide +kernel
theorem dL_law_315 : decode cL_law 315 = .ok (.aload_n 0, 1) := by decide +kernel
theorem dL_law_316 : decode cL_law 316 = .ok (.iload 4, 2) := by decide +kernel
theorem dL_law_318 : decode cL_law 318 = .ok (.iconst 5, 1) := by decide +kernel
theorem dL_law_319 : decode cL_law 319 = .ok (.iadd, 1) := by decide +kernel
theorem dL_law_320 : decode cL_law 320 = .ok (.iaload, 1) := by decide +kernel
theorem dL_law_321 : decode cL_law 321 = .ok (.i2l, 1) := by decide +kernel
theorem dL_law_322 : decode cL_law 322 = .ok (.ldc2_w 76, 3) := by decide +kernel
theorem dL_law_325 : decode cL_law 325 = .ok (.land, 1) := by decide +kernel
theorem dL_law_326 : decode cL_law 326 = .ok (.lor, 1) := by decide +kernel
theorem dL_law_327 : decode cL_law 327 = .ok (.invokevirtual 81, 3) := by decide +kernel
theorem dL_law_330 : decode cL_law 330 = .ok (.aload_n 2, 1) := by decide +kernel
theorem dL_law_331 : decode cL_law 331 = .ok (.invokevirtual 68, 3) := by decide +kernel
theorem dL_law_334 : decode cL_law 334 = .ok (.iload 5, 2) := by decide +kernel
theorem dL_law_336 : decode cL_law 336 = .ok (.if_icmp .eq 5, 3) := by decide +kernel
theorem dL_law_339 : decode cL_law 339 = .ok (.iconst 0, 1) := by decide +kernel
theorem dL_law_340 : decode cL_law 340 = .ok (.ireturn, 1) := by decide +kernel
theorem dL_law_341 : decode cL_law 341 = .ok (.goto 695, 3) := by decide +kernel
theorem dL_law_344 : decode cL_law 344 = .ok (.aload_n 1, 1) := by decide +kernel
theorem dL_law_345 : decode cL_law 345 = .ok (.aload_n 0, 1) := by decide +kernel
theorem dL_law_346 : decode cL_law 346 = .ok (.iload 4, 2) := by decide +kernel
theorem dL_law_348 : decode cL_law 348 = .ok (.iconst 1, 1) := by decide +kernel
theorem dL_law_349 : decode cL_law 349 = .ok (.iadd, 1) := by decide +kernel
theorem dL_law_350 : decode cL_law 350 = .ok (.iaload, 1) := by decide +kernel
theorem dL_law_351 : decode cL_law 351 = .ok (.aload_n 0, 1) := by decide +kernel
theorem dL_law_352 : decode cL_law 352 = .ok (.iload 4, 2) := by decide +kernel
theorem dL_law_354 : decode cL_law 354 = .ok (.iconst 2, 1) := by decide +kernel
theorem dL_law_355 : decode cL_law 355 = .ok (.iadd, 1) := by decide +kernel
theorem dL_law_356 : decode cL_law 356 = .ok (.iaload, 1) := by decide +kernel
theorem dL_law_357 : decode cL_law 357 = .ok (.aload_n 3, 1) := by decide +kernel
theorem dL_law_358 : decode cL_law 358 = .ok (.invokestatic 82, 3) := by decide +kernel
theorem dL_law_361 : decode cL_law 361 = .ok (.istore 5, 2) := by decide +kernel
theorem dL_law_363 : decode cL_law 363 = .ok (.aload_n 2, 1) := by decide +kernel
theorem dL_law_364 : decode cL_law 364 = .ok (.aload_n 0, 1) := by decide +kernel
theorem dL_law_365 : decode cL_law 365 = .ok (.iload 4, 2) := by decide +kernel
theorem dL_law_367 : decode cL_law 367 = .ok (.iconst 1, 1) := by decide +kernel
theorem dL_law_368 : decode cL_law 368 = .ok (.iadd, 1) := by decide +kernel
theorem dL_law_369 : decode cL_law 369 = .ok (.iaload, 1) := by decide +kernel
theorem dL_law_370 : decode cL_law 370 = .ok (.aload_n 0, 1) := by decide +kernel
theorem dL_law_371 : decode cL_law 371 = .ok (.iload 4, 2) := by decide +kernel
theorem dL_law_373 : decode cL_law 373 = .ok (.iconst 2, 1) := by decide +kernel
theorem dL_law_374 : decode cL_law 374 = .ok (.iadd, 1) := by decide +kernel
theorem dL_law_375 : decode cL_law 375 = .ok (.iaload, 1) := by decide +kernel
theorem dL_law_376 : decode cL_law 376 = .ok (.invokevirtual 85, 3) := by decide +kernel
theorem dL_law_379 : decode cL_law 379 = .ok (.istore 6, 2) := by decide +kernel
theorem dL_law_381 : decode cL_law 381 = .ok (.aload_n 2, 1) := by decide +kernel
theorem dL_law_382 : decode cL_law 382 = .ok (.invokevirtual 68, 3) := by decide +kernel
theorem dL_law_385 : decode cL_law 385 = .ok (.iload 5, 2) := by decide +kernel
theorem dL_law_387 : decode cL_law 387 = .ok (.if_icmp .eq 5, 3) := by decide +kernel
theorem dL_law_390 : decode cL_law 390 = .ok (.iconst 0, 1) := by decide +kernel
theorem dL_law_391 : decode cL_law 391 = .ok (.ireturn, 1) := by decide +kernel
theorem dL_law_392 : decode cL_law 392 = .ok (.iload 5, 2) := by decide +kernel
theorem dL_law_394 : decode cL_law 394 = .ok (.ifCond .ne 22, 3) := by decide +kernel
theorem dL_law_397 : decode cL_law 397 = .ok (.aload_n 3, 1) := by decide +kernel
theorem dL_law_398 : decode cL_law 398 = .ok (.iconst 0, 1) := by decide +kernel
theorem dL_law_399 : decode cL_law 399 = .ok (.laload, 1) := by decide +kernel
theorem dL_law_400 : decode cL_law 400 = .ok (.iload 6, 2) := by decide +kernel
theorem dL_law_402 : decode cL_law 402 = .ok (.ifCond .eq 7, 3) := by decide +kernel
theorem dL_law_405 : decode cL_law 405 = .ok (.lconst 1, 1) := by decide +kernel
theorem dL_law_406 : decode cL_law 406 = .ok (.goto 4, 3) := by decide +kernel
theorem dL_law_409 : decode cL_law 409 = .ok (.lconst 0, 1) := by decide +kernel
theorem dL_law_410 : decode cL_law 410 = .ok (.lcmp, 1) := by decide +kernel
theorem dL_law_411 : decode cL_law 411 = .ok (.ifCond .eq 5, 3) := by decide +kernel
theorem dL_law_414 : decode cL_law 414 = .ok (.iconst 0, 1) := by decide +kernel
theorem dL_law_415 : decode cL_law 415 = .ok (.ireturn, 1) := by decide +kernel
theorem dL_law_416 : decode cL_law 416 = .ok (.goto 620, 3) := by decide +kernel
theorem dL_law_419 : decode cL_law 419 = .ok (.aload_n 1, 1) := by decide +kernel
theorem dL_law_420 : decode cL_law 420 = .ok (.aload_n 0, 1) := by decide +kernel
theorem dL_law_421 : decode cL_law 421 = .ok (.iload 4, 2) := by decide +kernel
theorem dL_law_423 : decode cL_law 423 = .ok (.iconst 1, 1) := by decide +kernel
theorem dL_law_424 : decode cL_law 424 = .ok (.iadd, 1) := by decide +kernel
theorem dL_law_425 : decode cL_law 425 = .ok (.iaload, 1) := by decide +kernel
theorem dL_law_426 : decode cL_law 426 = .ok (.aload_n 0, 1) := by decide +kernel
theorem dL_law_427 : decode cL_law 427 = .ok (.iload 4, 2) := by decide +kernel
theorem dL_law_429 : decode cL_law 429 = .ok (.iconst 2, 1) := by decide +kernel
theorem dL_law_430 : decode cL_law 430 = .ok (.iadd, 1) := by decide +kernel
theorem dL_law_431 : decode cL_law 431 = .ok (.iaload, 1) := by decide +kernel
theorem dL_law_432 : decode cL_law 432 = .ok (.aload_n 3, 1) := by decide +kernel
theorem dL_law_433 : decode cL_law 433 = .ok (.invokestatic 86, 3) := by decide +kernel
theorem dL_law_436 : decode cL_law 436 = .ok (.istore 5, 2) := by decide +kernel
theorem dL_law_438 : decode cL_law 438 = .ok (.aload_n 2, 1) := by decide +kernel
theorem dL_law_439 : decode cL_law 439 = .ok (.aload_n 0, 1) := by decide +kernel
theorem dL_law_440 : decode cL_law 440 = .ok (.iload 4, 2) := by decide +kernel
theorem dL_law_442 : decode cL_law 442 = .ok (.iconst 1, 1) := by decide +kernel
theorem dL_law_443 : decode cL_law 443 = .ok (.iadd, 1) := by decide +kernel
theorem dL_law_444 : decode cL_law 444 = .ok (.iaload, 1) := by decide +kernel
theorem dL_law_445 : decode cL_law 445 = .ok (.aload_n 0, 1) := by decide +kernel
theorem dL_law_446 : decode cL_law 446 = .ok (.iload 4, 2) := by decide +kernel
theorem dL_law_448 : decode cL_law 448 = .ok (.iconst 2, 1) := by decide +kernel
theorem dL_law_449 : decode cL_law 449 = .ok (.iadd, 1) := by decide +kernel
theorem dL_law_450 : decode cL_law 450 = .ok (.iaload, 1) := by decide +kernel
theorem dL_law_451 : decode cL_law 451 = .ok (.invokevirtual 88, 3) := by decide +kernel
theorem dL_law_454 : decode cL_law 454 = .ok (.istore 6, 2) := by decide +kernel
theorem dL_law_456 : decode cL_law 456 = .ok (.aload_n 2, 1) := by decide +kernel
theorem dL_law_457 : decode cL_law 457 = .ok (.invokevirtual 68, 3) := by decide +kernel
theorem dL_law_460 : decode cL_law 460 = .ok (.iload 5, 2) := by decide +kernel
theorem dL_law_462 : decode cL_law 462 = .ok (.if_icmp .eq 5, 3) := by decide +kernel
theorem dL_law_465 : decode cL_law 465 = .ok (.iconst 0, 1) := by decide +kernel
theorem dL_law_466 : decode cL_law 466 = .ok (.ireturn, 1) := by decide +kernel
theorem dL_law_467 : decode cL_law 467 = .ok (.iload 5, 2) := by decide +kernel
theorem dL_law_469 : decode cL_law 469 = .ok (.ifCond .ne 22, 3) := by decide +kernel
theorem dL_law_472 : decode cL_law 472 = .ok (.aload_n 3, 1) := by decide +kernel
theorem dL_law_473 : decode cL_law 473 = .ok (.iconst 0, 1) := by decide +kernel
theorem dL_law_474 : decode cL_law 474 = .ok (.laload, 1) := by decide +kernel
theorem dL_law_475 : decode cL_law 475 = .ok (.iload 6, 2) := by decide +kernel
theorem dL_law_477 : decode cL_law 477 = .ok (.ifCond .eq 7, 3) := by decide +kernel
theorem dL_law_480 : decode cL_law 480 = .ok (.lconst 1, 1) := by decide +kernel
theorem dL_law_481 : decode cL_law 481 = .ok (.goto 4, 3) := by decide +kernel
theorem dL_law_484 : decode cL_law 484 = .ok (.lconst 0, 1) := by decide +kernel
theorem dL_law_485 : decode cL_law 485 = .ok (.lcmp, 1) := by decide +kernel
theorem dL_law_486 : decode cL_law 486 = .ok (.ifCond .eq 5, 3) := by decide +kernel
theorem dL_law_489 : decode cL_law 489 = .ok (.iconst 0, 1) := by decide +kernel
theorem dL_law_490 : decode cL_law 490 = .ok (.ireturn, 1) := by decide +kernel
theorem dL_law_491 : decode cL_law 491 = .ok (.goto 545, 3) := by decide +kernel
theorem dL_law_494 : decode cL_law 494 = .ok (.aload_n 1, 1) := by decide +kernel
theorem dL_law_495 : decode cL_law 495 = .ok (.aload_n 0, 1) := by decide +kernel
theorem dL_law_496 : decode cL_law 496 = .ok (.iload 4, 2) := by decide +kernel
theorem dL_law_498 : decode cL_law 498 = .ok (.iconst 1, 1) := by decide +kernel
theorem dL_law_499 : decode cL_law 499 = .ok (.iadd, 1) := by decide +kernel
theorem dL_law_500 : decode cL_law 500 = .ok (.iaload, 1) := by decide +kernel
theorem dL_law_501 : decode cL_law 501 = .ok (.invokevirtual 89, 3) := by decide +kernel
theorem dL_law_504 : decode cL_law 504 = .ok (.aload_n 2, 1) := by decide +kernel
theorem dL_law_505 : decode cL_law 505 = .ok (.aload_n 0, 1) := by decide +kernel
theorem dL_law_506 : decode cL_law 506 = .ok (.iload 4, 2) := by decide +kernel
theorem dL_law_508 : decode cL_law 508 = .ok (.iconst 1, 1) := by decide +kernel
theorem dL_law_509 : decode cL_law 509 = .ok (.iadd, 1) := by decide +kernel
theorem dL_law_510 : decode cL_law 510 = .ok (.iaload, 1) := by decide +kernel
theorem dL_law_511 : decode cL_law 511 = .ok (.invokevirtual 93, 3) := by decide +kernel
theorem dL_law_514 : decode cL_law 514 = .ok (.if_icmp .eq 522, 3) := by decide +kernel
theorem dL_law_517 : decode cL_law 517 = .ok (.iconst 0, 1) := by decide +kernel
theorem dL_law_518 : decode cL_law 518 = .ok (.ireturn, 1) := by decide +kernel
theorem dL_law_519 : decode cL_law 519 = .ok (.aload_n 1, 1) := by decide +kernel
theorem dL_law_520 : decode cL_law 520 = .ok (.aload_n 0, 1) := by decide +kernel
theorem dL_law_521 : decode cL_law 521 = .ok (.iload 4, 2) := by decide +kernel
theorem dL_law_523 : decode cL_law 523 = .ok (.iconst 1, 1) := by decide +kernel
theorem dL_law_524 : decode cL_law 524 = .ok (.iadd, 1) := by decide +kernel
theorem dL_law_525 : decode cL_law 525 = .ok (.iaload, 1) := by decide +kernel
theorem dL_law_526 : decode cL_law 526 = .ok (.aload_n 0, 1) := by decide +kernel
theorem dL_law_527 : decode cL_law 527 = .ok (.iload 4, 2) := by decide +kernel
theorem dL_law_529 : decode cL_law 529 = .ok (.iconst 2, 1) := by decide +kernel
theorem dL_law_530 : decode cL_law 530 = .ok (.iadd, 1) := by decide +kernel
theorem dL_law_531 : decode cL_law 531 = .ok (.iaload, 1) := by decide +kernel
theorem dL_law_532 : decode cL_law 532 = .ok (.invokestatic 94, 3) := by decide +kernel
theorem dL_law_535 : decode cL_law 535 = .ok (.istore 5, 2) := by decide +kernel
theorem dL_law_537 : decode cL_law 537 = .ok (.aload_n 2, 1) := by decide +kernel
theorem dL_law_538 : decode cL_law 538 = .ok (.aload_n 0, 1) := by decide +kernel
theorem dL_law_539 : decode cL_law 539 = .ok (.iload 4, 2) := by decide +kernel
theorem dL_law_541 : decode cL_law 541 = .ok (.iconst 1, 1) := by decide +kernel
theorem dL_law_542 : decode cL_law 542 = .ok (.iadd, 1) := by decide +kernel
theorem dL_law_543 : decode cL_law 543 = .ok (.iaload, 1) := by decide +kernel
theorem dL_law_544 : decode cL_law 544 = .ok (.aload_n 0, 1) := by decide +kernel
theorem dL_law_545 : decode cL_law 545 = .ok (.iload 4, 2) := by decide +kernel
theorem dL_law_547 : decode cL_law 547 = .ok (.iconst 2, 1) := by decide +kernel
theorem dL_law_548 : decode cL_law 548 = .ok (.iadd, 1) := by decide +kernel
theorem dL_law_549 : decode cL_law 549 = .ok (.iaload, 1) := by decide +kernel
theorem dL_law_550 : decode cL_law 550 = .ok (.invokevirtual 97, 3) := by decide +kernel
theorem dL_law_553 : decode cL_law 553 = .ok (.aload_n 2, 1) := by decide +kernel
theorem dL_law_554 : decode cL_law 554 = .ok (.invokevirtual 68, 3) := by decide +kernel
theorem dL_law_557 : decode cL_law 557 = .ok (.iload 5, 2) := by decide +kernel
theorem dL_law_559 : decode cL_law 559 = .ok (.if_icmp .eq 5, 3) := by decide +kernel
theorem dL_law_562 : decode cL_law 562 = .ok (.iconst 0, 1) := by decide +kernel
theorem dL_law_563 : decode cL_law 563 = .ok (.ireturn, 1) := by decide +kernel
theorem dL_law_564 : decode cL_law 564 = .ok (.goto 472, 3) := by decide +kernel
theorem dL_law_567 : decode cL_law 567 = .ok (.aload_n 1, 1) := by decide +kernel
theorem dL_law_568 : decode cL_law 568 = .ok (.aload_n 0, 1) := by decide +kernel
theorem dL_law_569 : decode cL_law 569 = .ok (.iload 4, 2) := by decide +kernel
theorem dL_law_571 : decode cL_law 571 = .ok (.iconst 1, 1) := by decide +kernel
theorem dL_law_572 : decode cL_law 572 = .ok (.iadd, 1) := by decide +kernel
theorem dL_law_573 : decode cL_law 573 = .ok (.iaload, 1) := by decide +kernel
theorem dL_law_574 : decode cL_law 574 = .ok (.aload_n 0, 1) := by decide +kernel
theorem dL_law_575 : decode cL_law 575 = .ok (.iload 4, 2) := by decide +kernel
theorem dL_law_577 : decode cL_law 577 = .ok (.iconst 2, 1) := by decide +kernel
theorem dL_law_578 : decode cL_law 578 = .ok (.iadd, 1) := by decide +kernel
theorem dL_law_579 : decode cL_law 579 = .ok (.iaload, 1) := by decide +kernel
theorem dL_law_580 : decode cL_law 580 = .ok (.aload_n 0, 1) := by decide +kernel
theorem dL_law_581 : decode cL_law 581 = .ok (.iload 4, 2) := by decide +kernel
theorem dL_law_583 : decode cL_law 583 = .ok (.iconst 3, 1) := by decide +kernel
theorem dL_law_584 : decode cL_law 584 = .ok (.iadd, 1) := by decide +kernel
theorem dL_law_585 : decode cL_law 585 = .ok (.iaload, 1) := by decide +kernel
theorem dL_law_586 : decode cL_law 586 = .ok (.aload_n 3, 1) := by decide +kernel
theorem dL_law_587 : decode cL_law 587 = .ok (.invokestatic 98, 3) := by decide +kernel
theorem dL_law_590 : decode cL_law 590 = .ok (.istore 5, 2) := by decide +kernel
theorem dL_law_592 : decode cL_law 592 = .ok (.aload_n 2, 1) := by decide +kernel
theorem dL_law_593 : decode cL_law 593 = .ok (.aload_n 0, 1) := by decide +kernel
theorem dL_law_594 : decode cL_law 594 = .ok (.iload 4, 2) := by decide +kernel
theorem dL_law_596 : decode cL_law 596 = .ok (.iconst 1, 1) := by decide +kernel
theorem dL_law_597 : decode cL_law 597 = .ok (.iadd, 1) := by decide +kernel
theorem dL_law_598 : decode cL_law 598 = .ok (.iaload, 1) := by decide +kernel
theorem dL_law_599 : decode cL_law 599 = .ok (.aload_n 0, 1) := by decide +kernel
theorem dL_law_600 : decode cL_law 600 = .ok (.iload 4, 2) := by decide +kernel
theorem dL_law_602 : decode cL_law 602 = .ok (.iconst 2, 1) := by decide +kernel
theorem dL_law_603 : decode cL_law 603 = .ok (.iadd, 1) := by decide +kernel
theorem dL_law_604 : decode cL_law 604 = .ok (.iaload, 1) := by decide +kernel
theorem dL_law_605 : decode cL_law 605 = .ok (.aload_n 0, 1) := by decide +kernel
theorem dL_law_606 : decode cL_law 606 = .ok (.iload 4, 2) := by decide +kernel
theorem dL_law_608 : decode cL_law 608 = .ok (.iconst 3, 1) := by decide +kernel
theorem dL_law_609 : decode cL_law 609 = .ok (.iadd, 1) := by decide +kernel
theorem dL_law_610 : decode cL_law 610 = .ok (.iaload, 1) := by decide +kernel
theorem dL_law_611 : decode cL_law 611 = .ok (.invokevirtual 101, 3) := by decide +kernel
theorem dL_law_614 : decode cL_law 614 = .ok (.istore 6, 2) := by decide +kernel
theorem dL_law_616 : decode cL_law 616 = .ok (.aload_n 2, 1) := by decide +kernel
theorem dL_law_617 : decode cL_law 617 = .ok (.invokevirtual 68, 3) := by decide +kernel
theorem dL_law_620 : decode cL_law 620 = .ok (.iload 5, 2) := by decide +kernel
theorem dL_law_622 : decode cL_law 622 = .ok (.if_icmp .eq 5, 3) := by decide +kernel
theorem dL_law_625 : decode cL_law 625 = .ok (.iconst 0, 1) := by decide +kernel
theorem dL_law_626 : decode cL_law 626 = .ok (.ireturn, 1) := by decide +kernel
theorem dL_law_627 : decode cL_law 627 = .ok (.iload 5, 2) := by decide +kernel
theorem dL_law_629 : decode cL_law 629 = .ok (.ifCond .ne 22, 3) := by decide +kernel
theorem dL_law_632 : decode cL_law 632 = .ok (.aload_n 3, 1) := by decide +kernel
theorem dL_law_633 : decode cL_law 633 = .ok (.iconst 0, 1) := by decide +kernel
theorem dL_law_634 : decode cL_law 634 = .ok (.laload, 1) := by decide +kernel
theorem dL_law_635 : decode cL_law 635 = .ok (.iload 6, 2) := by decide +kernel
theorem dL_law_637 : decode cL_law 637 = .ok (.ifCond .eq 7, 3) := by decide +kernel
theorem dL_law_640 : decode cL_law 640 = .ok (.lconst 1, 1) := by decide +kernel
theorem dL_law_641 : decode cL_law 641 = .ok (.goto 4, 3) := by decide +kernel
theorem dL_law_644 : decode cL_law 644 = .ok (.lconst 0, 1) := by decide +kernel
theorem dL_law_645 : decode cL_law 645 = .ok (.lcmp, 1) := by decide +kernel
theorem dL_law_646 : decode cL_law 646 = .ok (.ifCond .eq 5, 3) := by decide +kernel
theorem dL_law_649 : decode cL_law 649 = .ok (.iconst 0, 1) := by decide +kernel
theorem dL_law_650 : decode cL_law 650 = .ok (.ireturn, 1) := by decide +kernel
theorem dL_law_651 : decode cL_law 651 = .ok (.goto 385, 3) := by decide +kernel
theorem dL_law_654 : decode cL_law 654 = .ok (.aload_n 1, 1) := by decide +kernel
theorem dL_law_655 : decode cL_law 655 = .ok (.aload_n 0, 1) := by decide +kernel
theorem dL_law_656 : decode cL_law 656 = .ok (.iload 4, 2) := by decide +kernel
theorem dL_law_658 : decode cL_law 658 = .ok (.iconst 1, 1) := by decide +kernel
theorem dL_law_659 : decode cL_law 659 = .ok (.iadd, 1) := by decide +kernel
theorem dL_law_660 : decode cL_law 660 = .ok (.iaload, 1) := by decide +kernel
theorem dL_law_661 : decode cL_law 661 = .ok (.aload_n 0, 1) := by decide +kernel
theorem dL_law_662 : decode cL_law 662 = .ok (.iload 4, 2) := by decide +kernel
theorem dL_law_664 : decode cL_law 664 = .ok (.iconst 2, 1) := by decide +kernel
theorem dL_law_665 : decode cL_law 665 = .ok (.iadd, 1) := by decide +kernel
theorem dL_law_666 : decode cL_law 666 = .ok (.iaload, 1) := by decide +kernel
theorem dL_law_667 : decode cL_law 667 = .ok (.aload_n 0, 1) := by decide +kernel
theorem dL_law_668 : decode cL_law 668 = .ok (.iload 4, 2) := by decide +kernel
theorem dL_law_670 : decode cL_law 670 = .ok (.iconst 3, 1) := by decide +kernel
theorem dL_law_671 : decode cL_law 671 = .ok (.iadd, 1) := by decide +kernel
theorem dL_law_672 : decode cL_law 672 = .ok (.iaload, 1) := by decide +kernel
theorem dL_law_673 : decode cL_law 673 = .ok (.aload_n 3, 1) := by decide +kernel
theorem dL_law_674 : decode cL_law 674 = .ok (.invokestatic 102, 3) := by decide +kernel
theorem dL_law_677 : decode cL_law 677 = .ok (.istore 5, 2) := by decide +kernel
theorem dL_law_679 : decode cL_law 679 = .ok (.aload_n 2, 1) := by decide +kernel
theorem dL_law_680 : decode cL_law 680 = .ok (.aload_n 0, 1) := by decide +kernel
theorem dL_law_681 : decode cL_law 681 = .ok (.iload 4, 2) := by decide +kernel
theorem dL_law_683 : decode cL_law 683 = .ok (.iconst 1, 1) := by decide +kernel
theorem dL_law_684 : decode cL_law 684 = .ok (.iadd, 1) := by decide +kernel
theorem dL_law_685 : decode cL_law 685 = .ok (.iaload, 1) := by decide +kernel
theorem dL_law_686 : decode cL_law 686 = .ok (.aload_n 0, 1) := by decide +kernel
theorem dL_law_687 : decode cL_law 687 = .ok (.iload 4, 2) := by decide +kernel
theorem dL_law_689 : decode cL_law 689 = .ok (.iconst 2, 1) := by decide +kernel
theorem dL_law_690 : decode cL_law 690 = .ok (.iadd, 1) := by decide +kernel
theorem dL_law_691 : decode cL_law 691 = .ok (.iaload, 1) := by decide +kernel
theorem dL_law_692 : decode cL_law 692 = .ok (.aload_n 0, 1) := by decide +kernel
theorem dL_law_693 : decode cL_law 693 = .ok (.iload 4, 2) := by decide +kernel
theorem dL_law_695 : decode cL_law 695 = .ok (.iconst 3, 1) := by decide +kernel
theorem dL_law_696 : decode cL_law 696 = .ok (.iadd, 1) := by decide +kernel
theorem dL_law_697 : decode cL_law 697 = .ok (.iaload, 1) := by decide +kernel
theorem dL_law_698 : decode cL_law 698 = .ok (.invokevirtual 104, 3) := by decide +kernel
theorem dL_law_701 : decode cL_law 701 = .ok (.istore 6, 2) := by decide +kernel
theorem dL_law_703 : decode cL_law 703 = .ok (.aload_n 2, 1) := by decide +kernel
theorem dL_law_704 : decode cL_law 704 = .ok (.invokevirtual 68, 3) := by decide +kernel
theorem dL_law_707 : decode cL_law 707 = .ok (.iload 5, 2) := by decide +kernel
theorem dL_law_709 : decode cL_law 709 = .ok (.if_icmp .eq 5, 3) := by decide +kernel
theorem dL_law_712 : decode cL_law 712 = .ok (.iconst 0, 1) := by decide +kernel
theorem dL_law_713 : decode cL_law 713 = .ok (.ireturn, 1) := by decide +kernel
theorem dL_law_714 : decode cL_law 714 = .ok (.iload 5, 2) := by decide +kernel
theorem dL_law_716 : decode cL_law 716 = .ok (.ifCond .ne 22, 3) := by decide +kernel
theorem dL_law_719 : decode cL_law 719 = .ok (.aload_n 3, 1) := by decide +kernel
theorem dL_law_720 : decode cL_law 720 = .ok (.iconst 0, 1) := by decide +kernel
theorem dL_law_721 : decode cL_law 721 = .ok (.laload, 1) := by decide +kernel
theorem dL_law_722 : decode cL_law 722 = .ok (.iload 6, 2) := by decide +kernel
theorem dL_law_724 : decode cL_law 724 = .ok (.ifCond .eq 7, 3) := by decide +kernel
theorem dL_law_727 : decode cL_law 727 = .ok (.lconst 1, 1) := by decide +kernel
theorem dL_law_728 : decode cL_law 728 = .ok (.goto 4, 3) := by decide +kernel
theorem dL_law_731 : decode cL_law 731 = .ok (.lconst 0, 1) := by decide +kernel
theorem dL_law_732 : decode cL_law 732 = .ok (.lcmp, 1) := by decide +kernel
theorem dL_law_733 : decode cL_law 733 = .ok (.ifCond .eq 5, 3) := by decide +kernel
theorem dL_law_736 : decode cL_law 736 = .ok (.iconst 0, 1) := by decide +kernel
theorem dL_law_737 : decode cL_law 737 = .ok (.ireturn, 1) := by decide +kernel
theorem dL_law_738 : decode cL_law 738 = .ok (.goto 298, 3) := by decide +kernel
theorem dL_law_741 : decode cL_law 741 = .ok (.aload_n 1, 1) := by decide +kernel
theorem dL_law_742 : decode cL_law 742 = .ok (.aload_n 0, 1) := by decide +kernel
theorem dL_law_743 : decode cL_law 743 = .ok (.iload 4, 2) := by decide +kernel
theorem dL_law_745 : decode cL_law 745 = .ok (.iconst 1, 1) := by decide +kernel
theorem dL_law_746 : decode cL_law 746 = .ok (.iadd, 1) := by decide +kernel
theorem dL_law_747 : decode cL_law 747 = .ok (.iaload, 1) := by decide +kernel
theorem dL_law_748 : decode cL_law 748 = .ok (.aload_n 0, 1) := by decide +kernel
theorem dL_law_749 : decode cL_law 749 = .ok (.iload 4, 2) := by decide +kernel
theorem dL_law_751 : decode cL_law 751 = .ok (.iconst 2, 1) := by decide +kernel
theorem dL_law_752 : decode cL_law 752 = .ok (.iadd, 1) := by decide +kernel
theorem dL_law_753 : decode cL_law 753 = .ok (.iaload, 1) := by decide +kernel
theorem dL_law_754 : decode cL_law 754 = .ok (.aload_n 0, 1) := by decide +kernel
theorem dL_law_755 : decode cL_law 755 = .ok (.iload 4, 2) := by decide +kernel
theorem dL_law_757 : decode cL_law 757 = .ok (.iconst 3, 1) := by decide +kernel
theorem dL_law_758 : decode cL_law 758 = .ok (.iadd, 1) := by decide +kernel
theorem dL_law_759 : decode cL_law 759 = .ok (.iaload, 1) := by decide +kernel
theorem dL_law_760 : decode cL_law 760 = .ok (.aload_n 3, 1) := by decide +kernel
theorem dL_law_761 : decode cL_law 761 = .ok (.invokestatic 105, 3) := by decide +kernel
theorem dL_law_764 : decode cL_law 764 = .ok (.istore 5, 2) := by decide +kernel
theorem dL_law_766 : decode cL_law 766 = .ok (.aload_n 2, 1) := by decide +kernel
theorem dL_law_767 : decode cL_law 767 = .ok (.aload_n 0, 1) := by decide +kernel
theorem dL_law_768 : decode cL_law 768 = .ok (.iload 4, 2) := by decide +kernel
theorem dL_law_770 : decode cL_law 770 = .ok (.iconst 1, 1) := by decide +kernel
theorem dL_law_771 : decode cL_law 771 = .ok (.iadd, 1) := by decide +kernel
theorem dL_law_772 : decode cL_law 772 = .ok (.iaload, 1) := by decide +kernel
theorem dL_law_773 : decode cL_law 773 = .ok (.aload_n 0, 1) := by decide +kernel
theorem dL_law_774 : decode cL_law 774 = .ok (.iload 4, 2) := by decide +kernel
theorem dL_law_776 : decode cL_law 776 = .ok (.iconst 2, 1) := by decide +kernel
theorem dL_law_777 : decode cL_law 777 = .ok (.iadd, 1) := by decide +kernel
theorem dL_law_778 : decode cL_law 778 = .ok (.iaload, 1) := by decide +kernel
theorem dL_law_779 : decode cL_law 779 = .ok (.aload_n 0, 1) := by decide +kernel
theorem dL_law_780 : decode cL_law 780 = .ok (.iload 4, 2) := by decide +kernel
theorem dL_law_782 : decode cL_law 782 = .ok (.iconst 3, 1) := by decide +kernel
theorem dL_law_783 : decode cL_law 783 = .ok (.iadd, 1) := by decide +kernel
theorem dL_law_784 : decode cL_law 784 = .ok (.iaload, 1) := by decide +kernel
theorem dL_law_785 : decode cL_law 785 = .ok (.invokevirtual 107, 3) := by decide +kernel
theorem dL_law_788 : decode cL_law 788 = .ok (.istore 6, 2) := by decide +kernel
theorem dL_law_790 : decode cL_law 790 = .ok (.aload_n 2, 1) := by decide +kernel
theorem dL_law_791 : decode cL_law 791 = .ok (.invokevirtual 68, 3) := by decide +kernel
theorem dL_law_794 : decode cL_law 794 = .ok (.iload 5, 2) := by decide +kernel
theorem dL_law_796 : decode cL_law 796 = .ok (.if_icmp .eq 5, 3) := by decide +kernel
theorem dL_law_799 : decode cL_law 799 = .ok (.iconst 0, 1) := by decide +kernel
theorem dL_law_800 : decode cL_law 800 = .ok (.ireturn, 1) := by decide +kernel
theorem dL_law_801 : decode cL_law 801 = .ok (.iload 5, 2) := by decide +kernel
theorem dL_law_803 : decode cL_law 803 = .ok (.ifCond .ne 15, 3) := by decide +kernel
theorem dL_law_806 : decode cL_law 806 = .ok (.aload_n 3, 1) := by decide +kernel
theorem dL_law_807 : decode cL_law 807 = .ok (.iconst 0, 1) := by decide +kernel
theorem dL_law_808 : decode cL_law 808 = .ok (.laload, 1) := by decide +kernel
theorem dL_law_809 : decode cL_law 809 = .ok (.iload 6, 2) := by decide +kernel
theorem dL_law_811 : decode cL_law 811 = .ok (.i2l, 1) := by decide +kernel
theorem dL_law_812 : decode cL_law 812 = .ok (.lcmp, 1) := by decide +kernel
theorem dL_law_813 : decode cL_law 813 = .ok (.ifCond .eq 5, 3) := by decide +kernel
theorem dL_law_816 : decode cL_law 816 = .ok (.iconst 0, 1) := by decide +kernel
theorem dL_law_817 : decode cL_law 817 = .ok (.ireturn, 1) := by decide +kernel
theorem dL_law_818 : decode cL_law 818 = .ok (.goto 218, 3) := by decide +kernel
theorem dL_law_821 : decode cL_law 821 = .ok (.aload_n 1, 1) := by decide +kernel
theorem dL_law_822 : decode cL_law 822 = .ok (.aload_n 0, 1) := by decide +kernel
theorem dL_law_823 : decode cL_law 823 = .ok (.iload 4, 2) := by decide +kernel
theorem dL_law_825 : decode cL_law 825 = .ok (.iconst 1, 1) := by decide +kernel
theorem dL_law_826 : decode cL_law 826 = .ok (.iadd, 1) := by decide +kernel
theorem dL_law_827 : decode cL_law 827 = .ok (.iaload, 1) := by decide +kernel
theorem dL_law_828 : decode cL_law 828 = .ok (.aload_n 0, 1) := by decide +kernel
theorem dL_law_829 : decode cL_law 829 = .ok (.iload 4, 2) := by decide +kernel
theorem dL_law_831 : decode cL_law 831 = .ok (.iconst 2, 1) := by decide +kernel
theorem dL_law_832 : decode cL_law 832 = .ok (.iadd, 1) := by decide +kernel
theorem dL_law_833 : decode cL_law 833 = .ok (.iaload, 1) := by decide +kernel
theorem dL_law_834 : decode cL_law 834 = .ok (.aload_n 0, 1) := by decide +kernel
theorem dL_law_835 : decode cL_law 835 = .ok (.iload 4, 2) := by decide +kernel
theorem dL_law_837 : decode cL_law 837 = .ok (.iconst 3, 1) := by decide +kernel
theorem dL_law_838 : decode cL_law 838 = .ok (.iadd, 1) := by decide +kernel
theorem dL_law_839 : decode cL_law 839 = .ok (.iaload, 1) := by decide +kernel
theorem dL_law_840 : decode cL_law 840 = .ok (.aload_n 3, 1) := by decide +kernel
theorem dL_law_841 : decode cL_law 841 = .ok (.invokestatic 108, 3) := by decide +kernel
theorem dL_law_844 : decode cL_law 844 = .ok (.istore 5, 2) := by decide +kernel
theorem dL_law_846 : decode cL_law 846 = .ok (.aload_n 2, 1) := by decide +kernel
theorem dL_law_847 : decode cL_law 847 = .ok (.aload_n 0, 1) := by decide +kernel
theorem dL_law_848 : decode cL_law 848 = .ok (.iload 4, 2) := by decide +kernel
theorem dL_law_850 : decode cL_law 850 = .ok (.iconst 1, 1) := by decide +kernel
theorem dL_law_851 : decode cL_law 851 = .ok (.iadd, 1) := by decide +kernel
theorem dL_law_852 : decode cL_law 852 = .ok (.iaload, 1) := by decide +kernel
theorem dL_law_853 : decode cL_law 853 = .ok (.aload_n 0, 1) := by decide +kernel
theorem dL_law_854 : decode cL_law 854 = .ok (.iload 4, 2) := by decide +kernel
theorem dL_law_856 : decode cL_law 856 = .ok (.iconst 2, 1) := by decide +kernel
theorem dL_law_857 : decode cL_law 857 = .ok (.iadd, 1) := by decide +kernel
theorem dL_law_858 : decode cL_law 858 = .ok (.iaload, 1) := by decide +kernel
theorem dL_law_859 : decode cL_law 859 = .ok (.aload_n 0, 1) := by decide +kernel
theorem dL_law_860 : decode cL_law 860 = .ok (.iload 4, 2) := by decide +kernel
theorem dL_law_862 : decode cL_law 862 = .ok (.iconst 3, 1) := by decide +kernel
theorem dL_law_863 : decode cL_law 863 = .ok (.iadd, 1) := by decide +kernel
theorem dL_law_864 : decode cL_law 864 = .ok (.iaload, 1) := by decide +kernel
theorem dL_law_865 : decode cL_law 865 = .ok (.invokevirtual 110, 3) := by decide +kernel
theorem dL_law_868 : decode cL_law 868 = .ok (.lstore 6, 2) := by decide +kernel
theorem dL_law_870 : decode cL_law 870 = .ok (.aload_n 2, 1) := by decide +kernel
theorem dL_law_871 : decode cL_law 871 = .ok (.invokevirtual 68, 3) := by decide +kernel
theorem dL_law_874 : decode cL_law 874 = .ok (.iload 5, 2) := by decide +kernel
theorem dL_law_876 : decode cL_law 876 = .ok (.if_icmp .eq 5, 3) := by decide +kernel
theorem dL_law_879 : decode cL_law 879 = .ok (.iconst 0, 1) := by decide +kernel
theorem dL_law_880 : decode cL_law 880 = .ok (.ireturn, 1) := by decide +kernel
theorem dL_law_881 : decode cL_law 881 = .ok (.iload 5, 2) := by decide +kernel
theorem dL_law_883 : decode cL_law 883 = .ok (.ifCond .ne 14, 3) := by decide +kernel
theorem dL_law_886 : decode cL_law 886 = .ok (.aload_n 3, 1) := by decide +kernel
theorem dL_law_887 : decode cL_law 887 = .ok (.iconst 0, 1) := by decide +kernel
theorem dL_law_888 : decode cL_law 888 = .ok (.laload, 1) := by decide +kernel
theorem dL_law_889 : decode cL_law 889 = .ok (.lload 6, 2) := by decide +kernel
theorem dL_law_891 : decode cL_law 891 = .ok (.lcmp, 1) := by decide +kernel
theorem dL_law_892 : decode cL_law 892 = .ok (.ifCond .eq 5, 3) := by decide +kernel
theorem dL_law_895 : decode cL_law 895 = .ok (.iconst 0, 1) := by decide +kernel
theorem dL_law_896 : decode cL_law 896 = .ok (.ireturn, 1) := by decide +kernel
theorem dL_law_897 : decode cL_law 897 = .ok (.goto 139, 3) := by decide +kernel
theorem dL_law_900 : decode cL_law 900 = .ok (.aload_n 1, 1) := by decide +kernel
theorem dL_law_901 : decode cL_law 901 = .ok (.aload_n 0, 1) := by decide +kernel
theorem dL_law_902 : decode cL_law 902 = .ok (.iload 4, 2) := by decide +kernel
theorem dL_law_904 : decode cL_law 904 = .ok (.iconst 1, 1) := by decide +kernel
theorem dL_law_905 : decode cL_law 905 = .ok (.iadd, 1) := by decide +kernel
theorem dL_law_906 : decode cL_law 906 = .ok (.iaload, 1) := by decide +kernel
theorem dL_law_907 : decode cL_law 907 = .ok (.aload_n 0, 1) := by decide +kernel
theorem dL_law_908 : decode cL_law 908 = .ok (.iload 4, 2) := by decide +kernel
theorem dL_law_910 : decode cL_law 910 = .ok (.iconst 2, 1) := by decide +kernel
theorem dL_law_911 : decode cL_law 911 = .ok (.iadd, 1) := by decide +kernel
theorem dL_law_912 : decode cL_law 912 = .ok (.iaload, 1) := by decide +kernel
theorem dL_law_913 : decode cL_law 913 = .ok (.aload_n 3, 1) := by decide +kernel
theorem dL_law_914 : decode cL_law 914 = .ok (.invokestatic 111, 3) := by decide +kernel
theorem dL_law_917 : decode cL_law 917 = .ok (.istore 5, 2) := by decide +kernel
theorem dL_law_919 : decode cL_law 919 = .ok (.aload_n 2, 1) := by decide +kernel
theorem dL_law_920 : decode cL_law 920 = .ok (.aload_n 0, 1) := by decide +kernel
theorem dL_law_921 : decode cL_law 921 = .ok (.iload 4, 2) := by decide +kernel
theorem dL_law_923 : decode cL_law 923 = .ok (.iconst 1, 1) := by decide +kernel
theorem dL_law_924 : decode cL_law 924 = .ok (.iadd, 1) := by decide +kernel
theorem dL_law_925 : decode cL_law 925 = .ok (.iaload, 1) := by decide +kernel
theorem dL_law_926 : decode cL_law 926 = .ok (.aload_n 0, 1) := by decide +kernel
theorem dL_law_927 : decode cL_law 927 = .ok (.iload 4, 2) := by decide +kernel
theorem dL_law_929 : decode cL_law 929 = .ok (.iconst 2, 1) := by decide +kernel
theorem dL_law_930 : decode cL_law 930 = .ok (.iadd, 1) := by decide +kernel
theorem dL_law_931 : decode cL_law 931 = .ok (.iaload, 1) := by decide +kernel
theorem dL_law_932 : decode cL_law 932 = .ok (.invokevirtual 113, 3) := by decide +kernel
theorem dL_law_935 : decode cL_law 935 = .ok (.istore 6, 2) := by decide +kernel
theorem dL_law_937 : decode cL_law 937 = .ok (.aload_n 2, 1) := by decide +kernel
theorem dL_law_938 : decode cL_law 938 = .ok (.invokevirtual 68, 3) := by decide +kernel
theorem dL_law_941 : decode cL_law 941 = .ok (.iload 5, 2) := by decide +kernel
theorem dL_law_943 : decode cL_law 943 = .ok (.if_icmp .eq 5, 3) := by decide +kernel
theorem dL_law_946 : decode cL_law 946 = .ok (.iconst 0, 1) := by decide +kernel
theorem dL_law_947 : decode cL_law 947 = .ok (.ireturn, 1) := by decide +kernel
theorem dL_law_948 : decode cL_law 948 = .ok (.iload 5, 2) := by decide +kernel
theorem dL_law_950 : decode cL_law 950 = .ok (.ifCond .ne 15, 3) := by decide +kernel
theorem dL_law_953 : decode cL_law 953 = .ok (.aload_n 3, 1) := by decide +kernel
theorem dL_law_954 : decode cL_law 954 = .ok (.iconst 0, 1) := by decide +kernel
theorem dL_law_955 : decode cL_law 955 = .ok (.laload, 1) := by decide +kernel
theorem dL_law_956 : decode cL_law 956 = .ok (.iload 6, 2) := by decide +kernel
theorem dL_law_958 : decode cL_law 958 = .ok (.i2l, 1) := by decide +kernel
theorem dL_law_959 : decode cL_law 959 = .ok (.lcmp, 1) := by decide +kernel
theorem dL_law_960 : decode cL_law 960 = .ok (.ifCond .eq 5, 3) := by decide +kernel
theorem dL_law_963 : decode cL_law 963 = .ok (.iconst 0, 1) := by decide +kernel
theorem dL_law_964 : decode cL_law 964 = .ok (.ireturn, 1) := by decide +kernel
theorem dL_law_965 : decode cL_law 965 = .ok (.goto 71, 3) := by decide +kernel
theorem dL_law_968 : decode cL_law 968 = .ok (.aload_n 1, 1) := by decide +kernel
theorem dL_law_969 : decode cL_law 969 = .ok (.aload_n 0, 1) := by decide +kernel
theorem dL_law_970 : decode cL_law 970 = .ok (.iload 4, 2) := by decide +kernel
theorem dL_law_972 : decode cL_law 972 = .ok (.iconst 1, 1) := by decide +kernel
theorem dL_law_973 : decode cL_law 973 = .ok (.iadd, 1) := by decide +kernel
theorem dL_law_974 : decode cL_law 974 = .ok (.iaload, 1) := by decide +kernel
theorem dL_law_975 : decode cL_law 975 = .ok (.aload_n 0, 1) := by decide +kernel
theorem dL_law_976 : decode cL_law 976 = .ok (.iload 4, 2) := by decide +kernel
theorem dL_law_978 : decode cL_law 978 = .ok (.iconst 2, 1) := by decide +kernel
theorem dL_law_979 : decode cL_law 979 = .ok (.iadd, 1) := by decide +kernel
theorem dL_law_980 : decode cL_law 980 = .ok (.iaload, 1) := by decide +kernel
theorem dL_law_981 : decode cL_law 981 = .ok (.aload_n 3, 1) := by decide +kernel
theorem dL_law_982 : decode cL_law 982 = .ok (.invokestatic 114, 3) := by decide +kernel
theorem dL_law_985 : decode cL_law 985 = .ok (.istore 5, 2) := by decide +kernel
theorem dL_law_987 : decode cL_law 987 = .ok (.aload_n 2, 1) := by decide +kernel
theorem dL_law_988 : decode cL_law 988 = .ok (.aload_n 0, 1) := by decide +kernel
theorem dL_law_989 : decode cL_law 989 = .ok (.iload 4, 2) := by decide +kernel
theorem dL_law_991 : decode cL_law 991 = .ok (.iconst 1, 1) := by decide +kernel
theorem dL_law_992 : decode cL_law 992 = .ok (.iadd, 1) := by decide +kernel
theorem dL_law_993 : decode cL_law 993 = .ok (.iaload, 1) := by decide +kernel
theorem dL_law_994 : decode cL_law 994 = .ok (.aload_n 0, 1) := by decide +kernel
theorem dL_law_995 : decode cL_law 995 = .ok (.iload 4, 2) := by decide +kernel
theorem dL_law_997 : decode cL_law 997 = .ok (.iconst 2, 1) := by decide +kernel
theorem dL_law_998 : decode cL_law 998 = .ok (.iadd, 1) := by decide +kernel
theorem dL_law_999 : decode cL_law 999 = .ok (.iaload, 1) := by decide +kernel
theorem dL_law_1000 : decode cL_law 1000 = .ok (.invokevirtual 116, 3) := by decide +kernel
theorem dL_law_1003 : decode cL_law 1003 = .ok (.istore 6, 2) := by decide +kernel
theorem dL_law_1005 : decode cL_law 1005 = .ok (.aload_n 2, 1) := by decide +kernel
theorem dL_law_1006 : decode cL_law 1006 = .ok (.invokevirtual 68, 3) := by decide +kernel
theorem dL_law_1009 : decode cL_law 1009 = .ok (.iload 5, 2) := by decide +kernel
theorem dL_law_1011 : decode cL_law 1011 = .ok (.if_icmp .eq 5, 3) := by decide +kernel
theorem dL_law_1014 : decode cL_law 1014 = .ok (.iconst 0, 1) := by decide +kernel
theorem dL_law_1015 : decode cL_law 1015 = .ok (.ireturn, 1) := by decide +kernel
theorem dL_law_1016 : decode cL_law 1016 = .ok (.iload 5, 2) := by decide +kernel
theorem dL_law_1018 : decode cL_law 1018 = .ok (.ifCond .ne 15, 3) := by decide +kernel
theorem dL_law_1021 : decode cL_law 1021 = .ok (.aload_n 3, 1) := by decide +kernel
theorem dL_law_1022 : decode cL_law 1022 = .ok (.iconst 0, 1) := by decide +kernel
theorem dL_law_1023 : decode cL_law 1023 = .ok (.laload, 1) := by decide +kernel
theorem dL_law_1024 : decode cL_law 1024 = .ok (.iload 6, 2) := by decide +kernel
theorem dL_law_1026 : decode cL_law 1026 = .ok (.i2l, 1) := by decide +kernel
theorem dL_law_1027 : decode cL_law 1027 = .ok (.lcmp, 1) := by decide +kernel
theorem dL_law_1028 : decode cL_law 1028 = .ok (.ifCond .eq 5, 3) := by decide +kernel
theorem dL_law_1031 : decode cL_law 1031 = .ok (.iconst 0, 1) := by decide +kernel
theorem dL_law_1032 : decode cL_law 1032 = .ok (.ireturn, 1) := by decide +kernel
theorem dL_law_1033 : decode cL_law 1033 = .ok (.goto 3, 3) := by decide +kernel
theorem dL_law_1036 : decode cL_law 1036 = .ok (.iinc 4 6, 3) := by decide +kernel
theorem dL_law_1039 : decode cL_law 1039 = .ok (.goto (-1016), 3) := by decide +kernel
theorem dL_law_1042 : decode cL_law 1042 = .ok (.iconst 1, 1) := by decide +kernel
theorem dL_law_1043 : decode cL_law 1043 = .ok (.ireturn, 1) := by decide +kernel
end
section
/-! what the class's throws need -/
def IOB : String := "java/lang/IndexOutOfBoundsException"
def IAE : String := "java/lang/IllegalArgumentException"
abbrev EXN : List String := ["java/lang/RuntimeException", "java/lang/Exception"]
abbrev ssX (sa : Nat → Nat) : List (String × Nat × String × Nat) := [(RT, 22, "a side is not 1 .. 32", sa 0), (RT, 35, "a sample is not 0 .. 255", sa 1), (RT, 114, "no such plane", sa 2), (RT, 117, "no such sample", sa 3)]
abbrev nnX : List (String × Nat × MethodName × String) := [(RP, 37, yT_placeOf, "ToneMixer"), (RT, 15, yP_init, "ToneMixer")]
def ddX : List MethodName := [⟨"java/lang/RuntimeException", "<init>", "(Ljava/lang/String;)V"⟩, ⟨"java/lang/Exception", "<init>", "(Ljava/lang/String;)V"⟩, ⟨"java/lang/Throwable", "<init>", "(Ljava/lang/String;)V"⟩]
def csX : List (String × String) := [(IOB, IOB), (IAE, IAE)]
abbrev zEx (sa : Nat → Nat) : (Nat → Prop) → State → Prop := zEv (ssX sa) nnX ddX csX
set_option maxRecDepth 100000 in
theorem at_O : ∀ w ∈ (vx_atS RT 116 IOB EXN).filter goodWord, w ∈ bw := by decide +kernel
set_option maxRecDepth 100000 in
theorem at_A : ∀ w ∈ (vx_atS RT 24 IAE EXN).filter goodWord, w ∈ bw := by decide +kernel
theorem an_O : ∀ w ∈ (vx_atS RT 116 IOB EXN).filter (fun w => !goodWord w), w ∈ zNg ddX csX := by decide +kernel
theorem an_A : ∀ w ∈ (vx_atS RT 24 IAE EXN).filter (fun w => !goodWord w), w ∈ zNg ddX csX := by decide +kernel
theorem ag_O : ∀ w ∈ Cond.classLink RT 112 IOB :: Cond.initialized IOB :: vx_atS RT 116 IOB EXN, vx_ot w = true := by decide +kernel
theorem ag_A : ∀ w ∈ Cond.classLink RT 20 IAE :: Cond.initialized IAE :: vx_atS RT 24 IAE EXN, vx_ot w = true := by decide +kernel
theorem af_O : Bundle.fit IOB = true := by decide +kernel
theorem af_A : Bundle.fit IAE = true := by decide +kernel
theorem af_N : ∀ n ∈ EXN, Bundle.fit n = true := by decide +kernel
end
section
/-! numbers of samples and places -/
def sm (x : Int32) : Prop := ∃ n : Nat, n ≤ 255 ∧ x = nI n
theorem za (a b : Nat) : nI (a + b) = nI a + nI b := (nI_add a b).symm
theorem zm (a b : Nat) : nI (a * b) = nI a * nI b := (pk_mul a b).symm
/-- folds over the places of a plane of rows of 32 -/
def rowF (op : Int32 → Int32 → Int32) (f : Nat → Int32) (y : Nat) : Nat → Int32 → Int32
  | 0, acc => acc
  | x + 1, acc => op (rowF op f y x acc) (f (y * 32 + x))
def allF (op : Int32 → Int32 → Int32) (f : Nat → Int32) (w : Nat) : Nat → Int32 → Int32
  | 0, acc => acc
  | y + 1, acc => rowF op f y w (allF op f w y acc)
theorem z_sh {n : Nat} (h : n < 2 ^ 31) : nI n >>> ((2 : Int32) &&& 31) = nI (n / 4) := pk_shrN h _ 2 (by decide)
theorem z_sh1 {n : Nat} (h : n < 2 ^ 31) : nI n >>> ((1 : Int32) &&& 31) = nI (n / 2) := pk_shrN h _ 1 (by decide)
theorem z_lt {a b : Nat} (h : a < b) (hb : b < 2 ^ 31) : nI a < nI b := nI_lt h hb
theorem zmR {M : zM} {rm : Room} {c : Nat} (hR : zroom M = rm) (h : 1 ≤ rm.frames ∧ c ≤ rm.locals) : 1 ≤ M.2.2.2.1.frames ∧ c ≤ M.2.2.2.1.locals := by
  rw [show M.2.2.2.1 = rm from hR]; exact h
theorem zmC {M : zM} {rm : Room} {a b : Nat} (hR : zroom M = rm) (hC : zcells M = a) (hS : zslots M = b) (h : a ≤ rm.cells ∧ b ≤ rm.slots) : M.2.2.2.2.2.2.2.2.2.2.2.2.1 ≤ M.2.2.2.1.cells ∧ M.2.2.2.2.2.2.2.2.2.2.2.2.2 ≤ M.2.2.2.1.slots := by
  rw [show M.2.2.2.1 = rm from hR, show M.2.2.2.2.2.2.2.2.2.2.2.2.1 = a from hC, show M.2.2.2.2.2.2.2.2.2.2.2.2.2 = b from hS]; exact h
end
section
def rmk (k c s : Nat) : Room := { frames := k, cells := c, slots := s, locals := 40 * k }
abbrev tyl (ca : Nat → ClassId) : List (ClassId × FieldType) := [(ca 0, .int), (ca 1, .long), (ca 2, .object "ToneMixer$Plane")]
abbrev gG (D : va_G) (ca : Nat → ClassId) (ad : Nat → Nat) : zG := (D, vwCl, tyl ca, ad)
set_option maxRecDepth 100000 in
set_option maxHeartbeats 4000000 in
theorem c_placeOf (l : Launch) (G : zG) (x y : Int32) : zMet l yT_placeOf wT_placeOf (rmk 0 0 0) zE0 G [] [.int x, .int y] (fun r _ => r = some (.int (y * 32 + x))) := by
  refine zMet.of (cc := cT_placeOf) (maxL := 2) (ret := some .int) (lv := [some (.int x), some (.int y)]) (by decide) rfl (Nat.le_of_ble_eq_true rfl) rfl (fun M hl0 hR hC hS hE hret => ?_)
  refine z_iload_n dT_placeOf_0 rfl ?_
  refine z_bipush (v := 32) dT_placeOf_1 (by decide) ?_
  refine z_imul dT_placeOf_3 ?_
  refine z_iload_n dT_placeOf_4 rfl ?_
  refine z_iadd dT_placeOf_5 ?_
  exact z_ireturn dT_placeOf_6 rfl hret ⟨Nat.le_of_eq hC, Nat.le_of_eq hS⟩ rfl rfl
set_option maxRecDepth 100000 in
set_option maxHeartbeats 4000000 in
theorem c_shiftOfByte (l : Launch) (G : zG) (i : Int32) : zMet l yT_shiftOfByte wT_shiftOfByte (rmk 0 0 0) zE0 G [] [.int i] (fun r _ => r = some (.int (8 * (7 - i)))) := by
  refine zMet.of (cc := cT_shiftOfByte) (maxL := 1) (ret := some .int) (lv := [some (.int i)]) (by decide) rfl (Nat.le_of_ble_eq_true rfl) rfl (fun M hl0 hR hC hS hE hret => ?_)
  refine z_bipush (v := 8) dT_shiftOfByte_0 (by decide) ?_
  refine z_bipush (v := 7) dT_shiftOfByte_2 (by decide) ?_
  refine z_iload_n dT_shiftOfByte_4 rfl ?_
  refine z_isub dT_shiftOfByte_5 ?_
  refine z_imul dT_shiftOfByte_6 ?_
  exact z_ireturn dT_shiftOfByte_7 rfl hret ⟨Nat.le_of_eq hC, Nat.le_of_eq hS⟩ rfl rfl
set_option maxRecDepth 100000 in
set_option maxHeartbeats 4000000 in
theorem c_shifted (l : Launch) (G : zG) (v : Int32) : zMet l yT_shifted wT_shifted (rmk 0 0 0) zE0 G [] [.int v] (fun r _ => r = some (.int (v >>> ((16 : Int32) &&& 31)))) := by
  refine zMet.of (cc := cT_shifted) (maxL := 1) (ret := some .int) (lv := [some (.int v)]) (by decide) rfl (Nat.le_of_ble_eq_true rfl) rfl (fun M hl0 hR hC hS hE hret => ?_)
  refine z_iload_n dT_shifted_0 rfl ?_
  refine z_bipush (v := 16) dT_shifted_1 (by decide) ?_
  refine z_ishr dT_shifted_3 ?_
  exact z_ireturn dT_shifted_4 rfl hret ⟨Nat.le_of_eq hC, Nat.le_of_eq hS⟩ rfl rfl
set_option maxRecDepth 100000 in
set_option maxHeartbeats 4000000 in
theorem c_darkened (l : Launch) (G : zG) (a b : Int32) : zMet l yT_darkened wT_darkened (rmk 0 0 0) zE0 G [] [.int a, .int b] (fun r _ => r = some (.int ((a * b + 127) / 255))) := by
  refine zMet.of (cc := cT_darkened) (maxL := 2) (ret := some .int) (lv := [some (.int a), some (.int b)]) (by decide) rfl (Nat.le_of_ble_eq_true rfl) rfl (fun M hl0 hR hC hS hE hret => ?_)
  refine z_iload_n dT_darkened_0 rfl ?_
  refine z_iload_n dT_darkened_1 rfl ?_
  refine z_imul dT_darkened_2 ?_
  refine z_bipush (v := 127) dT_darkened_3 (by decide) ?_
  refine z_iadd dT_darkened_5 ?_
  refine z_sipush (v := 255) dT_darkened_6 (by decide) ?_
  refine z_idiv dT_darkened_9 (by decide) ?_
  exact z_ireturn dT_darkened_10 rfl hret ⟨Nat.le_of_eq hC, Nat.le_of_eq hS⟩ rfl rfl
/-- Math.max(0, Math.min(255, v)) -/
def lim (v : Int32) : Int32 := if (0 : Int32) < (if v < (255 : Int32) then v else 255) then (if v < (255 : Int32) then v else 255) else 0
set_option maxRecDepth 100000 in
set_option maxHeartbeats 4000000 in
theorem c_limit (l : Launch) (G : zG) (v : Int32) : zMet l yT_limit wT_limit (rmk 1 0 0) zE0 G [] [.int v] (fun r _ => r = some (.int (lim v))) := by
  refine zMet.of (cc := cT_limit) (maxL := 1) (ret := some .int) (lv := [some (.int v)]) (by decide) rfl (Nat.le_of_ble_eq_true rfl) rfl (fun M hl0 hR hC hS hE hret => ?_)
  refine z_iconst (v := 0) dT_limit_0 (by decide) ?_
  refine z_sipush (v := 255) dT_limit_1 (by decide) ?_
  refine z_iload_n dT_limit_4 rfl ?_
  refine z_mmin dT_limit_5 (bwT b_79) (bwT b_80) (bwT b_10) (bwT b_81) (zmR hR ⟨Nat.le_of_ble_eq_true rfl, Nat.le_of_ble_eq_true rfl⟩) (zmC hR hC hS (by decide)) ?_
  refine z_mmax dT_limit_8 (bwT b_82) (bwT b_83) (bwT b_10) (bwT b_84) (zmR hR ⟨Nat.le_of_ble_eq_true rfl, Nat.le_of_ble_eq_true rfl⟩) (zmC hR hC hS (by decide)) ?_
  exact z_ireturn dT_limit_11 rfl hret ⟨Nat.le_of_eq hC, Nat.le_of_eq hS⟩ rfl rfl
/-- the brightness of a colour -/
def bri (a b c : Int32) : Int32 := (19595 * a + 38470 * b + 7471 * c + 32768) >>> ((16 : Int32) &&& 31)
set_option maxRecDepth 100000 in
set_option maxHeartbeats 4000000 in
theorem c_brightness (l : Launch) (G : zG) (a b c : Int32) : zMet l yT_brightness wT_brightness (rmk 1 0 0) zE0 G [] [.int a, .int b, .int c] (fun r _ => r = some (.int (bri a b c))) := by
  refine zMet.of (cc := cT_brightness) (maxL := 3) (ret := some .int) (lv := [some (.int a), some (.int b), some (.int c)]) (by decide) rfl (Nat.le_of_ble_eq_true rfl) rfl (fun M hl0 hR hC hS hE hret => ?_)
  refine z_sipush (v := 19595) dT_brightness_0 (by decide) ?_
  refine z_iload_n dT_brightness_3 rfl ?_
  refine z_imul dT_brightness_4 ?_
  refine z_ldc (v := 38470) dT_brightness_5 (bwT b_98) ?_
  refine z_iload_n dT_brightness_7 rfl ?_
  refine z_imul dT_brightness_8 ?_
  refine z_iadd dT_brightness_9 ?_
  refine z_sipush (v := 7471) dT_brightness_10 (by decide) ?_
  refine z_iload_n dT_brightness_13 rfl ?_
  refine z_imul dT_brightness_14 ?_
  refine z_iadd dT_brightness_15 ?_
  refine z_ldc (v := 32768) dT_brightness_16 (bwT b_72) ?_
  refine z_iadd dT_brightness_18 ?_
  refine z_pure (z_S hE zEok_0 (c_shifted _ _ _) dT_brightness_19 (gd_S b_73 b_74 b_1 b_75) rfl qT_shifted.2 ⟨rfl, rfl⟩ (by rw [hR]; decide) (by rw [hR, hC, hS]; decide) rfl (Nat.le_of_ble_eq_true rfl)) (fun r hr => ?_)
  subst hr
  simp only [zpush, zv]
  exact z_ireturn dT_brightness_22 rfl hret ⟨Nat.le_of_eq hC, Nat.le_of_eq hS⟩ rfl rfl
set_option maxRecDepth 100000 in
set_option maxHeartbeats 4000000 in
theorem c_half (l : Launch) (G : zG) (n : Nat) (hn : n < 2 ^ 30) : zMet l yP_half wP_half (rmk 0 0 0) zE0 G [] [.int (nI n)] (fun r _ => r = some (.int (nI ((n + 1) / 2)))) := by
  refine zMet.of (cc := cP_half) (maxL := 1) (ret := some .int) (lv := [some (.int (nI n))]) (by decide) rfl (Nat.le_of_ble_eq_true rfl) rfl (fun M hl0 hR hC hS hE hret => ?_)
  refine z_iload_n dP_half_0 rfl ?_
  refine z_iconst (v := 1) dP_half_1 (by decide) ?_
  refine z_iadd dP_half_2 ?_
  refine z_iconst (v := 2) dP_half_3 (by decide) ?_
  refine z_idiv dP_half_4 (by decide) ?_
  refine z_ireturn dP_half_5 rfl hret ⟨Nat.le_of_eq hC, Nat.le_of_eq hS⟩ rfl ?_
  rw [nI_1, show (2 : Int32) = nI 2 from rfl, pk_div (by omega) (by omega) (by omega)]
end
section
/-! a plane alone: its object, its samples, its line -/
abbrev pw3 (ca : Nat → ClassId) (f g : Nat → Int32) (w h : Int32) : List va_E := [.inr (1, [.ref 1, .int w, .int h, .ref 2]), .inl (ca 0, 1024, .inl f), .inl (ca 0, 32, .inl g)]
/-- there is a sample (x, y) -/
def hasB (w h x y : Int32) : Bool := decide (¬ x < 0 ∧ ¬ w ≤ x ∧ ¬ y < 0 ∧ ¬ h ≤ y)
set_option maxRecDepth 100000 in
set_option maxHeartbeats 4000000 in
theorem c_has (l : Launch) (D : va_G) (ca : Nat → ClassId) (ad : Nat → Nat) (f g : Nat → Int32) (w h x y : Int32) : zMet l yP_has wP_has (rmk 0 0 0) zE0 (gG D ca ad) (pw3 ca f g w h) [.ref 0, .int x, .int y] (fun r aw => r = some (.int (if hasB w h x y then 1 else 0)) ∧ aw = pw3 ca f g w h) := by
  refine zMet.of (cc := cP_has) (maxL := 3) (ret := some .boolean) (lv := [some (.ref 0), some (.int x), some (.int y)]) (by decide) rfl (Nat.le_of_ble_eq_true rfl) rfl (fun M hl0 hR hC hS hE hret => ?_)
  have k0 : hasB w h x y = false → Zj M (gG D ca ad) cP_has 3 RP wP_has (some .boolean) (pw3 ca f g w h) [some (.ref 0), some (.int x), some (.int y)] [] 28 := fun hb => by
    refine z_iconst (v := 0) dP_has_28 (by decide) ?_
    refine z_ireturn dP_has_29 rfl hret ⟨Nat.le_of_eq hC, Nat.le_of_eq hS⟩ rfl ⟨?_, rfl⟩
    rw [hb]; rfl
  refine z_iload_n dP_has_0 rfl ?_
  refine z_if_lt (tgt := 28) dP_has_1 (by decide) (fun c1 => k0 (by simp [hasB, c1])) (fun c1 => ?_)
  refine z_iload_n dP_has_4 rfl ?_
  refine z_aload_n dP_has_5 rfl ?_
  refine z_get (C := RP) (T := TP) (N := 4) (ref := "ToneMixer$Plane") 1 dP_has_6 rfl rfl rfl (by decide) (fun w h => bwT (hbP w h)) (bwT b_29) rfl ?_
  refine z_icmp_ge (tgt := 28) dP_has_9 (by decide) (fun c2 => k0 (by simp [hasB, c2])) (fun c2 => ?_)
  refine z_iload_n dP_has_12 rfl ?_
  refine z_if_lt (tgt := 28) dP_has_13 (by decide) (fun c3 => k0 (by simp [hasB, c3])) (fun c3 => ?_)
  refine z_iload_n dP_has_16 rfl ?_
  refine z_aload_n dP_has_17 rfl ?_
  refine z_get (C := RP) (T := TP) (N := 4) (ref := "ToneMixer$Plane") 2 dP_has_18 rfl rfl rfl (by decide) (fun w h => bwT (hbP w h)) (bwT b_31) rfl ?_
  refine z_icmp_ge (tgt := 28) dP_has_21 (by decide) (fun c4 => k0 (by simp [hasB, c4])) (fun c4 => ?_)
  refine z_iconst (v := 1) dP_has_24 (by decide) ?_
  refine z_goto (tgt := 29) dP_has_25 (by decide) ?_
  refine z_ireturn dP_has_29 rfl hret ⟨Nat.le_of_eq hC, Nat.le_of_eq hS⟩ rfl ⟨?_, rfl⟩
  rw [show hasB w h x y = true by simp [hasB, c1, c2, c3, c4]]; rfl
abbrev pw6 (ca : Nat → ClassId) (f g f2 g2 : Nat → Int32) (w h w2 h2 : Int32) : List va_E := [.inr (1, [.ref 1, .int w, .int h, .ref 2]), .inl (ca 0, 1024, .inl f), .inl (ca 0, 32, .inl g), .inr (1, [.ref 4, .int w2, .int h2, .ref 5]), .inl (ca 0, 1024, .inl f2), .inl (ca 0, 32, .inl g2)]
set_option maxRecDepth 100000 in
set_option maxHeartbeats 4000000 in
theorem c_isOfSizeOf (l : Launch) (D : va_G) (ca : Nat → ClassId) (ad : Nat → Nat) (f g : Nat → Int32) (w h : Int32) (f2 g2 : Nat → Int32) (w2 h2 : Int32) : zMet l yP_isOfSizeOf wP_isOfSizeOf (rmk 0 0 0) zE0 (gG D ca ad) (pw6 ca f g f2 g2 w h w2 h2) [.ref 0, .ref 3] (fun r aw => r = some (.int (if w = w2 ∧ h = h2 then 1 else 0)) ∧ aw = pw6 ca f g f2 g2 w h w2 h2) := by
  refine zMet.of (cc := cP_isOfSizeOf) (maxL := 2) (ret := some .boolean) (lv := [some (.ref 0), some (.ref 3)]) (by decide) rfl (Nat.le_of_ble_eq_true rfl) rfl (fun M hl0 hR hC hS hE hret => ?_)
  have k0 : ¬ (w = w2 ∧ h = h2) → Zj M (gG D ca ad) cP_isOfSizeOf 2 RP wP_isOfSizeOf (some .boolean) (pw6 ca f g f2 g2 w h w2 h2) [some (.ref 0), some (.ref 3)] [] 26 := fun hb => by
    refine z_iconst (v := 0) dP_isOfSizeOf_26 (by decide) ?_
    refine z_ireturn dP_isOfSizeOf_27 rfl hret ⟨Nat.le_of_eq hC, Nat.le_of_eq hS⟩ rfl ⟨?_, rfl⟩
    rw [if_neg hb]
  refine z_aload_n dP_isOfSizeOf_0 rfl ?_
  refine z_get (C := RP) (T := TP) (N := 4) (ref := "ToneMixer$Plane") 1 dP_isOfSizeOf_1 rfl rfl rfl (by decide) (fun w h => bwT (hbP w h)) (bwT b_29) rfl ?_
  refine z_aload_n dP_isOfSizeOf_4 rfl ?_
  refine z_get (C := RP) (T := TP) (N := 4) (ref := "ToneMixer$Plane") 1 dP_isOfSizeOf_5 rfl rfl rfl (by decide) (fun w h => bwT (hbP w h)) (bwT b_29) rfl ?_
  refine z_icmp_ne (tgt := 26) dP_isOfSizeOf_8 (by decide) (fun c1 => k0 (fun q => c1 q.1)) (fun c1 => ?_)
  refine z_aload_n dP_isOfSizeOf_11 rfl ?_
  refine z_get (C := RP) (T := TP) (N := 4) (ref := "ToneMixer$Plane") 2 dP_isOfSizeOf_12 rfl rfl rfl (by decide) (fun w h => bwT (hbP w h)) (bwT b_31) rfl ?_
  refine z_aload_n dP_isOfSizeOf_15 rfl ?_
  refine z_get (C := RP) (T := TP) (N := 4) (ref := "ToneMixer$Plane") 2 dP_isOfSizeOf_16 rfl rfl rfl (by decide) (fun w h => bwT (hbP w h)) (bwT b_31) rfl ?_
  refine z_icmp_ne (tgt := 26) dP_isOfSizeOf_19 (by decide) (fun c2 => k0 (fun q => c2 q.2)) (fun c2 => ?_)
  refine z_iconst (v := 1) dP_isOfSizeOf_22 (by decide) ?_
  refine z_goto (tgt := 27) dP_isOfSizeOf_23 (by decide) ?_
  refine z_ireturn dP_isOfSizeOf_27 rfl hret ⟨Nat.le_of_eq hC, Nat.le_of_eq hS⟩ rfl ⟨?_, rfl⟩
  first | rw [if_pos ⟨c1, c2⟩] | simp
set_option maxRecDepth 100000 in
set_option maxHeartbeats 4000000 in
theorem c_isOfSizeOf_self (l : Launch) (D : va_G) (ca : Nat → ClassId) (ad : Nat → Nat) (f g : Nat → Int32) (w h : Int32) : zMet l yP_isOfSizeOf wP_isOfSizeOf (rmk 0 0 0) zE0 (gG D ca ad) (pw3 ca f g w h) [.ref 0, .ref 0] (fun r aw => r = some (.int (if w = w ∧ h = h then 1 else 0)) ∧ aw = pw3 ca f g w h) := by
  refine zMet.of (cc := cP_isOfSizeOf) (maxL := 2) (ret := some .boolean) (lv := [some (.ref 0), some (.ref 0)]) (by decide) rfl (Nat.le_of_ble_eq_true rfl) rfl (fun M hl0 hR hC hS hE hret => ?_)
  have k0 : ¬ (w = w ∧ h = h) → Zj M (gG D ca ad) cP_isOfSizeOf 2 RP wP_isOfSizeOf (some .boolean) (pw3 ca f g w h) [some (.ref 0), some (.ref 0)] [] 26 := fun hb => by
    refine z_iconst (v := 0) dP_isOfSizeOf_26 (by decide) ?_
    refine z_ireturn dP_isOfSizeOf_27 rfl hret ⟨Nat.le_of_eq hC, Nat.le_of_eq hS⟩ rfl ⟨?_, rfl⟩
    rw [if_neg hb]
  refine z_aload_n dP_isOfSizeOf_0 rfl ?_
  refine z_get (C := RP) (T := TP) (N := 4) (ref := "ToneMixer$Plane") 1 dP_isOfSizeOf_1 rfl rfl rfl (by decide) (fun w h => bwT (hbP w h)) (bwT b_29) rfl ?_
  refine z_aload_n dP_isOfSizeOf_4 rfl ?_
  refine z_get (C := RP) (T := TP) (N := 4) (ref := "ToneMixer$Plane") 1 dP_isOfSizeOf_5 rfl rfl rfl (by decide) (fun w h => bwT (hbP w h)) (bwT b_29) rfl ?_
  refine z_icmp_ne (tgt := 26) dP_isOfSizeOf_8 (by decide) (fun c1 => k0 (fun q => c1 q.1)) (fun c1 => ?_)
  refine z_aload_n dP_isOfSizeOf_11 rfl ?_
  refine z_get (C := RP) (T := TP) (N := 4) (ref := "ToneMixer$Plane") 2 dP_isOfSizeOf_12 rfl rfl rfl (by decide) (fun w h => bwT (hbP w h)) (bwT b_31) rfl ?_
  refine z_aload_n dP_isOfSizeOf_15 rfl ?_
  refine z_get (C := RP) (T := TP) (N := 4) (ref := "ToneMixer$Plane") 2 dP_isOfSizeOf_16 rfl rfl rfl (by decide) (fun w h => bwT (hbP w h)) (bwT b_31) rfl ?_
  refine z_icmp_ne (tgt := 26) dP_isOfSizeOf_19 (by decide) (fun c2 => k0 (fun q => c2 q.2)) (fun c2 => ?_)
  refine z_iconst (v := 1) dP_isOfSizeOf_22 (by decide) ?_
  refine z_goto (tgt := 27) dP_isOfSizeOf_23 (by decide) ?_
  refine z_ireturn dP_isOfSizeOf_27 rfl hret ⟨Nat.le_of_eq hC, Nat.le_of_eq hS⟩ rfl ⟨?_, rfl⟩
  first | rw [if_pos ⟨c1, c2⟩] | simp
section
variable {M : zM} {D : va_G} {ca : Nat → ClassId} {ad : Nat → Nat} {f g : Nat → Int32} {w h : Nat} {sa : Nat → Nat}
set_option maxRecDepth 100000 in
set_option maxHeartbeats 4000000 in
theorem l_sum_x (hw : w ≤ 32) (hh : h ≤ 32) (hR : zroom M = rmk 1 0 0) (hC : zcells M = 0) (hS : zslots M = 0) (hE : zEn M (zEx sa)) {y : Nat} (hy : y < h) (acc : Int32)
    (k : Zj M (gG D ca ad) cP_sum 4 RP wP_sum (some .int) (pw3 ca f g (nI w) (nI h)) [some (.ref 0), some (.int (rowF (fun a b => a + b) f y w acc)), some (.int (nI y)), some (.int (nI w))] [] 41) :
    ∀ n x, x + n = w → Zj M (gG D ca ad) cP_sum 4 RP wP_sum (some .int) (pw3 ca f g (nI w) (nI h)) [some (.ref 0), some (.int (rowF (fun a b => a + b) f y x acc)), some (.int (nI y)), some (.int (nI x))] [] 14 := by
  intro n
  induction n with
  | zero =>
    intro x hx
    obtain rfl : x = w := by omega
    refine z_iload_n dP_sum_14 rfl ?_
    refine z_aload_n dP_sum_15 rfl ?_
    refine z_get (C := RP) (T := TP) (N := 4) (ref := "ToneMixer$Plane") 1 dP_sum_16 rfl rfl rfl (by decide) (fun w h => bwT (hbP w h)) (bwT b_29) rfl ?_
    exact z_icmp_ge (tgt := 41) dP_sum_19 (by decide) (fun _ => k) (fun hc => absurd (nI_le (Nat.le_refl _) (by omega)) hc)
  | succ n ih =>
    intro x hx
    refine z_iload_n dP_sum_14 rfl ?_
    refine z_aload_n dP_sum_15 rfl ?_
    refine z_get (C := RP) (T := TP) (N := 4) (ref := "ToneMixer$Plane") 1 dP_sum_16 rfl rfl rfl (by decide) (fun w h => bwT (hbP w h)) (bwT b_29) rfl ?_
    refine z_icmp_ge (tgt := 41) dP_sum_19 (by decide) (fun hc => absurd hc (nI_ge (by omega) (by omega))) (fun _ => ?_)
    refine z_iload_n dP_sum_22 rfl ?_
    refine z_aload_n dP_sum_23 rfl ?_
    refine z_get (C := RP) (T := TP) (N := 4) (ref := "ToneMixer$Plane") 0 dP_sum_24 rfl rfl rfl (by decide) (fun w h => bwT (hbP w h)) (bwT b_27) rfl ?_
    refine z_iload_n dP_sum_27 rfl ?_
    refine z_iload_n dP_sum_28 rfl ?_
    refine z_pure (z_SN (host := "ToneMixer") hE zEok_0 (hE.2.2.1 _ (List.mem_of_getElem? (i := 0) rfl)) (c_placeOf _ _ _ _) dP_sum_29 (gd_0 b_62) (bwT b_61) (bwT b_1) rfl qT_placeOf.2 ⟨rfl, rfl⟩ (by rw [hR]; decide) (by rw [hR, hC, hS]; decide) rfl (Nat.le_of_ble_eq_true rfl)) (fun r hr => ?_)
    subst hr
    simp only [zpush, zv]
    refine z_ialdN (t0 := 0) (k := y * 32 + x) dP_sum_32 rfl rfl (by rw [za, zm]; rfl) (by omega) (by decide) ?_
    refine z_iadd dP_sum_33 ?_
    refine z_istore_n dP_sum_34 (by decide) rfl ?_
    try simp only [List.set_cons_succ, List.set_cons_zero]
    refine z_iinc1 dP_sum_35 (by decide) rfl rfl ?_
    try simp only [List.set_cons_succ, List.set_cons_zero]
    refine z_goto (tgt := 14) dP_sum_38 (by decide) ?_
    rw [nI_1]
    exact ih (x + 1) (by omega)
set_option maxRecDepth 100000 in
set_option maxHeartbeats 4000000 in
theorem l_sum_y (hw : w ≤ 32) (hh : h ≤ 32) (hR : zroom M = rmk 1 0 0) (hC : zcells M = 0) (hS : zslots M = 0) (hE : zEn M (zEx sa)) (acc : Int32)
    (k : ∀ o, Zj M (gG D ca ad) cP_sum 4 RP wP_sum (some .int) (pw3 ca f g (nI w) (nI h)) [some (.ref 0), some (.int (allF (fun a b => a + b) f w h acc)), some (.int (nI h)), o] [] 47) :
    ∀ n y, y + n = h → ∀ o, Zj M (gG D ca ad) cP_sum 4 RP wP_sum (some .int) (pw3 ca f g (nI w) (nI h)) [some (.ref 0), some (.int (allF (fun a b => a + b) f w y acc)), some (.int (nI y)), o] [] 4 := by
  intro n
  induction n with
  | zero =>
    intro y hy o
    obtain rfl : y = h := by omega
    refine z_iload_n dP_sum_4 rfl ?_
    refine z_aload_n dP_sum_5 rfl ?_
    refine z_get (C := RP) (T := TP) (N := 4) (ref := "ToneMixer$Plane") 2 dP_sum_6 rfl rfl rfl (by decide) (fun w h => bwT (hbP w h)) (bwT b_31) rfl ?_
    exact z_icmp_ge (tgt := 47) dP_sum_9 (by decide) (fun _ => k o) (fun hc => absurd (nI_le (Nat.le_refl _) (by omega)) hc)
  | succ n ih =>
    intro y hy o
    refine z_iload_n dP_sum_4 rfl ?_
    refine z_aload_n dP_sum_5 rfl ?_
    refine z_get (C := RP) (T := TP) (N := 4) (ref := "ToneMixer$Plane") 2 dP_sum_6 rfl rfl rfl (by decide) (fun w h => bwT (hbP w h)) (bwT b_31) rfl ?_
    refine z_icmp_ge (tgt := 47) dP_sum_9 (by decide) (fun hc => absurd hc (nI_ge (by omega) (by omega))) (fun _ => ?_)
    refine z_iconst (v := 0) dP_sum_12 (by decide) ?_
    refine z_istore_n dP_sum_13 (by decide) rfl ?_
    try simp only [List.set_cons_succ, List.set_cons_zero]
    refine l_sum_x hw hh hR hC hS hE (y := y) (by omega) (allF (fun a b => a + b) f w y acc) ?_ w 0 (by omega)
    refine z_iinc1 dP_sum_41 (by decide) rfl rfl ?_
    try simp only [List.set_cons_succ, List.set_cons_zero]
    refine z_goto (tgt := 4) dP_sum_44 (by decide) ?_
    rw [nI_1]
    exact ih (y + 1) (by omega) _
end
set_option maxRecDepth 100000 in
set_option maxHeartbeats 4000000 in
theorem c_sum (l : Launch) (D : va_G) (ca : Nat → ClassId) (ad : Nat → Nat) (f g : Nat → Int32) (sa : Nat → Nat) (w h : Nat) (hw : w ≤ 32) (hh : h ≤ 32) : zMet l yP_sum wP_sum (rmk 1 0 0) (zEx sa) (gG D ca ad) (pw3 ca f g (nI w) (nI h)) [.ref 0] (fun r aw => r = some (.int (allF (fun a b => a + b) f w h 0)) ∧ aw = pw3 ca f g (nI w) (nI h)) := by
  refine zMet.of (cc := cP_sum) (maxL := 4) (ret := some .int) (lv := [some (.ref 0), none, none, none]) (by decide) rfl (Nat.le_of_ble_eq_true rfl) rfl (fun M hl0 hR hC hS hE hret => ?_)
  refine z_iconst (v := 0) dP_sum_0 (by decide) ?_
  refine z_istore_n dP_sum_1 (by decide) rfl ?_
  try simp only [List.set_cons_succ, List.set_cons_zero]
  refine z_iconst (v := 0) dP_sum_2 (by decide) ?_
  refine z_istore_n dP_sum_3 (by decide) rfl ?_
  try simp only [List.set_cons_succ, List.set_cons_zero]
  refine l_sum_y hw hh hR hC hS hE 0 (fun o => ?_) h 0 (by omega) _
  refine z_iload_n dP_sum_47 rfl ?_
  exact z_ireturn dP_sum_48 rfl hret ⟨Nat.le_of_eq hC, Nat.le_of_eq hS⟩ rfl ⟨rfl, rfl⟩
section
variable {M : zM} {D : va_G} {ca : Nat → ClassId} {ad : Nat → Nat} {f g : Nat → Int32} {w h : Nat} {sa : Nat → Nat}
set_option maxRecDepth 100000 in
set_option maxHeartbeats 4000000 in
theorem l_least_x (hw : w ≤ 32) (hh : h ≤ 32) (hR : zroom M = rmk 1 0 0) (hC : zcells M = 0) (hS : zslots M = 0) (hE : zEn M (zEx sa)) {y : Nat} (hy : y < h) (acc : Int32)
    (k : Zj M (gG D ca ad) cP_least 4 RP wP_least (some .int) (pw3 ca f g (nI w) (nI h)) [some (.ref 0), some (.int (rowF (fun a b => if b < a then b else a) f y w acc)), some (.int (nI y)), some (.int (nI w))] [] 45) :
    ∀ n x, x + n = w → Zj M (gG D ca ad) cP_least 4 RP wP_least (some .int) (pw3 ca f g (nI w) (nI h)) [some (.ref 0), some (.int (rowF (fun a b => if b < a then b else a) f y x acc)), some (.int (nI y)), some (.int (nI x))] [] 16 := by
  intro n
  induction n with
  | zero =>
    intro x hx
    obtain rfl : x = w := by omega
    refine z_iload_n dP_least_16 rfl ?_
    refine z_aload_n dP_least_17 rfl ?_
    refine z_get (C := RP) (T := TP) (N := 4) (ref := "ToneMixer$Plane") 1 dP_least_18 rfl rfl rfl (by decide) (fun w h => bwT (hbP w h)) (bwT b_29) rfl ?_
    exact z_icmp_ge (tgt := 45) dP_least_21 (by decide) (fun _ => k) (fun hc => absurd (nI_le (Nat.le_refl _) (by omega)) hc)
  | succ n ih =>
    intro x hx
    refine z_iload_n dP_least_16 rfl ?_
    refine z_aload_n dP_least_17 rfl ?_
    refine z_get (C := RP) (T := TP) (N := 4) (ref := "ToneMixer$Plane") 1 dP_least_18 rfl rfl rfl (by decide) (fun w h => bwT (hbP w h)) (bwT b_29) rfl ?_
    refine z_icmp_ge (tgt := 45) dP_least_21 (by decide) (fun hc => absurd hc (nI_ge (by omega) (by omega))) (fun _ => ?_)
    refine z_iload_n dP_least_24 rfl ?_
    refine z_aload_n dP_least_25 rfl ?_
    refine z_get (C := RP) (T := TP) (N := 4) (ref := "ToneMixer$Plane") 0 dP_least_26 rfl rfl rfl (by decide) (fun w h => bwT (hbP w h)) (bwT b_27) rfl ?_
    refine z_iload_n dP_least_29 rfl ?_
    refine z_iload_n dP_least_30 rfl ?_
    refine z_pure (z_SN (host := "ToneMixer") hE zEok_0 (hE.2.2.1 _ (List.mem_of_getElem? (i := 0) rfl)) (c_placeOf _ _ _ _) dP_least_31 (gd_0 b_62) (bwT b_61) (bwT b_1) rfl qT_placeOf.2 ⟨rfl, rfl⟩ (by rw [hR]; decide) (by rw [hR, hC, hS]; decide) rfl (Nat.le_of_ble_eq_true rfl)) (fun r hr => ?_)
    subst hr
    simp only [zpush, zv]
    refine z_ialdN (t0 := 0) (k := y * 32 + x) dP_least_34 rfl rfl (by rw [za, zm]; rfl) (by omega) (by decide) ?_
    refine z_mmin dP_least_35 (bwT b_283) (bwT b_80) (bwT b_10) (bwT b_81) (zmR hR ⟨Nat.le_of_ble_eq_true rfl, Nat.le_of_ble_eq_true rfl⟩) (zmC hR hC hS (by decide)) ?_
    refine z_istore_n dP_least_38 (by decide) rfl ?_
    try simp only [List.set_cons_succ, List.set_cons_zero]
    refine z_iinc1 dP_least_39 (by decide) rfl rfl ?_
    try simp only [List.set_cons_succ, List.set_cons_zero]
    refine z_goto (tgt := 16) dP_least_42 (by decide) ?_
    rw [nI_1]
    exact ih (x + 1) (by omega)
set_option maxRecDepth 100000 in
set_option maxHeartbeats 4000000 in
theorem l_least_y (hw : w ≤ 32) (hh : h ≤ 32) (hR : zroom M = rmk 1 0 0) (hC : zcells M = 0) (hS : zslots M = 0) (hE : zEn M (zEx sa)) (acc : Int32)
    (k : ∀ o, Zj M (gG D ca ad) cP_least 4 RP wP_least (some .int) (pw3 ca f g (nI w) (nI h)) [some (.ref 0), some (.int (allF (fun a b => if b < a then b else a) f w h acc)), some (.int (nI h)), o] [] 51) :
    ∀ n y, y + n = h → ∀ o, Zj M (gG D ca ad) cP_least 4 RP wP_least (some .int) (pw3 ca f g (nI w) (nI h)) [some (.ref 0), some (.int (allF (fun a b => if b < a then b else a) f w y acc)), some (.int (nI y)), o] [] 6 := by
  intro n
  induction n with
  | zero =>
    intro y hy o
    obtain rfl : y = h := by omega
    refine z_iload_n dP_least_6 rfl ?_
    refine z_aload_n dP_least_7 rfl ?_
    refine z_get (C := RP) (T := TP) (N := 4) (ref := "ToneMixer$Plane") 2 dP_least_8 rfl rfl rfl (by decide) (fun w h => bwT (hbP w h)) (bwT b_31) rfl ?_
    exact z_icmp_ge (tgt := 51) dP_least_11 (by decide) (fun _ => k o) (fun hc => absurd (nI_le (Nat.le_refl _) (by omega)) hc)
  | succ n ih =>
    intro y hy o
    refine z_iload_n dP_least_6 rfl ?_
    refine z_aload_n dP_least_7 rfl ?_
    refine z_get (C := RP) (T := TP) (N := 4) (ref := "ToneMixer$Plane") 2 dP_least_8 rfl rfl rfl (by decide) (fun w h => bwT (hbP w h)) (bwT b_31) rfl ?_
    refine z_icmp_ge (tgt := 51) dP_least_11 (by decide) (fun hc => absurd hc (nI_ge (by omega) (by omega))) (fun _ => ?_)
    refine z_iconst (v := 0) dP_least_14 (by decide) ?_
    refine z_istore_n dP_least_15 (by decide) rfl ?_
    try simp only [List.set_cons_succ, List.set_cons_zero]
    refine l_least_x hw hh hR hC hS hE (y := y) (by omega) (allF (fun a b => if b < a then b else a) f w y acc) ?_ w 0 (by omega)
    refine z_iinc1 dP_least_45 (by decide) rfl rfl ?_
    try simp only [List.set_cons_succ, List.set_cons_zero]
    refine z_goto (tgt := 6) dP_least_48 (by decide) ?_
    rw [nI_1]
    exact ih (y + 1) (by omega) _
end
set_option maxRecDepth 100000 in
set_option maxHeartbeats 4000000 in
theorem c_least (l : Launch) (D : va_G) (ca : Nat → ClassId) (ad : Nat → Nat) (f g : Nat → Int32) (sa : Nat → Nat) (w h : Nat) (hw : w ≤ 32) (hh : h ≤ 32) : zMet l yP_least wP_least (rmk 1 0 0) (zEx sa) (gG D ca ad) (pw3 ca f g (nI w) (nI h)) [.ref 0] (fun r aw => r = some (.int (allF (fun a b => if b < a then b else a) f w h 255)) ∧ aw = pw3 ca f g (nI w) (nI h)) := by
  refine zMet.of (cc := cP_least) (maxL := 4) (ret := some .int) (lv := [some (.ref 0), none, none, none]) (by decide) rfl (Nat.le_of_ble_eq_true rfl) rfl (fun M hl0 hR hC hS hE hret => ?_)
  refine z_sipush (v := 255) dP_least_0 (by decide) ?_
  refine z_istore_n dP_least_3 (by decide) rfl ?_
  try simp only [List.set_cons_succ, List.set_cons_zero]
  refine z_iconst (v := 0) dP_least_4 (by decide) ?_
  refine z_istore_n dP_least_5 (by decide) rfl ?_
  try simp only [List.set_cons_succ, List.set_cons_zero]
  refine l_least_y hw hh hR hC hS hE 255 (fun o => ?_) h 0 (by omega) _
  refine z_iload_n dP_least_51 rfl ?_
  exact z_ireturn dP_least_52 rfl hret ⟨Nat.le_of_eq hC, Nat.le_of_eq hS⟩ rfl ⟨rfl, rfl⟩
section
variable {M : zM} {D : va_G} {ca : Nat → ClassId} {ad : Nat → Nat} {f g : Nat → Int32} {w h : Nat} {sa : Nat → Nat}
set_option maxRecDepth 100000 in
set_option maxHeartbeats 4000000 in
theorem l_greatest_x (hw : w ≤ 32) (hh : h ≤ 32) (hR : zroom M = rmk 1 0 0) (hC : zcells M = 0) (hS : zslots M = 0) (hE : zEn M (zEx sa)) {y : Nat} (hy : y < h) (acc : Int32)
    (k : Zj M (gG D ca ad) cP_greatest 4 RP wP_greatest (some .int) (pw3 ca f g (nI w) (nI h)) [some (.ref 0), some (.int (rowF (fun a b => if a < b then b else a) f y w acc)), some (.int (nI y)), some (.int (nI w))] [] 43) :
    ∀ n x, x + n = w → Zj M (gG D ca ad) cP_greatest 4 RP wP_greatest (some .int) (pw3 ca f g (nI w) (nI h)) [some (.ref 0), some (.int (rowF (fun a b => if a < b then b else a) f y x acc)), some (.int (nI y)), some (.int (nI x))] [] 14 := by
  intro n
  induction n with
  | zero =>
    intro x hx
    obtain rfl : x = w := by omega
    refine z_iload_n dP_greatest_14 rfl ?_
    refine z_aload_n dP_greatest_15 rfl ?_
    refine z_get (C := RP) (T := TP) (N := 4) (ref := "ToneMixer$Plane") 1 dP_greatest_16 rfl rfl rfl (by decide) (fun w h => bwT (hbP w h)) (bwT b_29) rfl ?_
    exact z_icmp_ge (tgt := 43) dP_greatest_19 (by decide) (fun _ => k) (fun hc => absurd (nI_le (Nat.le_refl _) (by omega)) hc)
  | succ n ih =>
    intro x hx
    refine z_iload_n dP_greatest_14 rfl ?_
    refine z_aload_n dP_greatest_15 rfl ?_
    refine z_get (C := RP) (T := TP) (N := 4) (ref := "ToneMixer$Plane") 1 dP_greatest_16 rfl rfl rfl (by decide) (fun w h => bwT (hbP w h)) (bwT b_29) rfl ?_
    refine z_icmp_ge (tgt := 43) dP_greatest_19 (by decide) (fun hc => absurd hc (nI_ge (by omega) (by omega))) (fun _ => ?_)
    refine z_iload_n dP_greatest_22 rfl ?_
    refine z_aload_n dP_greatest_23 rfl ?_
    refine z_get (C := RP) (T := TP) (N := 4) (ref := "ToneMixer$Plane") 0 dP_greatest_24 rfl rfl rfl (by decide) (fun w h => bwT (hbP w h)) (bwT b_27) rfl ?_
    refine z_iload_n dP_greatest_27 rfl ?_
    refine z_iload_n dP_greatest_28 rfl ?_
    refine z_pure (z_SN (host := "ToneMixer") hE zEok_0 (hE.2.2.1 _ (List.mem_of_getElem? (i := 0) rfl)) (c_placeOf _ _ _ _) dP_greatest_29 (gd_0 b_62) (bwT b_61) (bwT b_1) rfl qT_placeOf.2 ⟨rfl, rfl⟩ (by rw [hR]; decide) (by rw [hR, hC, hS]; decide) rfl (Nat.le_of_ble_eq_true rfl)) (fun r hr => ?_)
    subst hr
    simp only [zpush, zv]
    refine z_ialdN (t0 := 0) (k := y * 32 + x) dP_greatest_32 rfl rfl (by rw [za, zm]; rfl) (by omega) (by decide) ?_
    refine z_mmax dP_greatest_33 (bwT b_360) (bwT b_83) (bwT b_10) (bwT b_84) (zmR hR ⟨Nat.le_of_ble_eq_true rfl, Nat.le_of_ble_eq_true rfl⟩) (zmC hR hC hS (by decide)) ?_
    refine z_istore_n dP_greatest_36 (by decide) rfl ?_
    try simp only [List.set_cons_succ, List.set_cons_zero]
    refine z_iinc1 dP_greatest_37 (by decide) rfl rfl ?_
    try simp only [List.set_cons_succ, List.set_cons_zero]
    refine z_goto (tgt := 14) dP_greatest_40 (by decide) ?_
    rw [nI_1]
    exact ih (x + 1) (by omega)
set_option maxRecDepth 100000 in
set_option maxHeartbeats 4000000 in
theorem l_greatest_y (hw : w ≤ 32) (hh : h ≤ 32) (hR : zroom M = rmk 1 0 0) (hC : zcells M = 0) (hS : zslots M = 0) (hE : zEn M (zEx sa)) (acc : Int32)
    (k : ∀ o, Zj M (gG D ca ad) cP_greatest 4 RP wP_greatest (some .int) (pw3 ca f g (nI w) (nI h)) [some (.ref 0), some (.int (allF (fun a b => if a < b then b else a) f w h acc)), some (.int (nI h)), o] [] 49) :
    ∀ n y, y + n = h → ∀ o, Zj M (gG D ca ad) cP_greatest 4 RP wP_greatest (some .int) (pw3 ca f g (nI w) (nI h)) [some (.ref 0), some (.int (allF (fun a b => if a < b then b else a) f w y acc)), some (.int (nI y)), o] [] 4 := by
  intro n
  induction n with
  | zero =>
    intro y hy o
    obtain rfl : y = h := by omega
    refine z_iload_n dP_greatest_4 rfl ?_
    refine z_aload_n dP_greatest_5 rfl ?_
    refine z_get (C := RP) (T := TP) (N := 4) (ref := "ToneMixer$Plane") 2 dP_greatest_6 rfl rfl rfl (by decide) (fun w h => bwT (hbP w h)) (bwT b_31) rfl ?_
    exact z_icmp_ge (tgt := 49) dP_greatest_9 (by decide) (fun _ => k o) (fun hc => absurd (nI_le (Nat.le_refl _) (by omega)) hc)
  | succ n ih =>
    intro y hy o
    refine z_iload_n dP_greatest_4 rfl ?_
    refine z_aload_n dP_greatest_5 rfl ?_
    refine z_get (C := RP) (T := TP) (N := 4) (ref := "ToneMixer$Plane") 2 dP_greatest_6 rfl rfl rfl (by decide) (fun w h => bwT (hbP w h)) (bwT b_31) rfl ?_
    refine z_icmp_ge (tgt := 49) dP_greatest_9 (by decide) (fun hc => absurd hc (nI_ge (by omega) (by omega))) (fun _ => ?_)
    refine z_iconst (v := 0) dP_greatest_12 (by decide) ?_
    refine z_istore_n dP_greatest_13 (by decide) rfl ?_
    try simp only [List.set_cons_succ, List.set_cons_zero]
    refine l_greatest_x hw hh hR hC hS hE (y := y) (by omega) (allF (fun a b => if a < b then b else a) f w y acc) ?_ w 0 (by omega)
    refine z_iinc1 dP_greatest_43 (by decide) rfl rfl ?_
    try simp only [List.set_cons_succ, List.set_cons_zero]
    refine z_goto (tgt := 4) dP_greatest_46 (by decide) ?_
    rw [nI_1]
    exact ih (y + 1) (by omega) _
end
set_option maxRecDepth 100000 in
set_option maxHeartbeats 4000000 in
theorem c_greatest (l : Launch) (D : va_G) (ca : Nat → ClassId) (ad : Nat → Nat) (f g : Nat → Int32) (sa : Nat → Nat) (w h : Nat) (hw : w ≤ 32) (hh : h ≤ 32) : zMet l yP_greatest wP_greatest (rmk 1 0 0) (zEx sa) (gG D ca ad) (pw3 ca f g (nI w) (nI h)) [.ref 0] (fun r aw => r = some (.int (allF (fun a b => if a < b then b else a) f w h 0)) ∧ aw = pw3 ca f g (nI w) (nI h)) := by
  refine zMet.of (cc := cP_greatest) (maxL := 4) (ret := some .int) (lv := [some (.ref 0), none, none, none]) (by decide) rfl (Nat.le_of_ble_eq_true rfl) rfl (fun M hl0 hR hC hS hE hret => ?_)
  refine z_iconst (v := 0) dP_greatest_0 (by decide) ?_
  refine z_istore_n dP_greatest_1 (by decide) rfl ?_
  try simp only [List.set_cons_succ, List.set_cons_zero]
  refine z_iconst (v := 0) dP_greatest_2 (by decide) ?_
  refine z_istore_n dP_greatest_3 (by decide) rfl ?_
  try simp only [List.set_cons_succ, List.set_cons_zero]
  refine l_greatest_y hw hh hR hC hS hE 0 (fun o => ?_) h 0 (by omega) _
  refine z_iload_n dP_greatest_49 rfl ?_
  exact z_ireturn dP_greatest_50 rfl hret ⟨Nat.le_of_eq hC, Nat.le_of_eq hS⟩ rfl ⟨rfl, rfl⟩
end
section
/-! loops that write, mirrored as recursions -/
/-- the line after i samples have been copied -/
def cpyL (f g : Nat → Int32) (st sp i : Nat) : Nat → Int32 := fun j => if j < i then f (st + j * sp) else g j
theorem cpyL_0 (f g : Nat → Int32) (st sp : Nat) : cpyL f g st sp 0 = g := by funext j; simp [cpyL]
theorem cpyL_s (f g : Nat → Int32) (st sp i : Nat) : upd (cpyL f g st sp i) i (f (st + i * sp)) = cpyL f g st sp (i + 1) := by
  funext j
  by_cases h : j = i
  · subst h; rw [pk_us]; simp [cpyL]
  · rw [pk_un h]
    simp only [cpyL]
    by_cases h2 : j < i
    · rw [if_pos h2, if_pos (by omega)]
    · rw [if_neg h2, if_neg (by omega)]
def gBe (t : Bool) (L : Nat → Int32) (i : Nat) : Int32 := if t = true ∧ 0 < i then L (i - 1) else L i
def gAf (t : Bool) (L : Nat → Int32) (len i : Nat) : Int32 := if t = true ∧ i + 1 < len then L (i + 1) else L i
def gA (t : Bool) (L : Nat → Int32) (i : Nat) : Int32 := (3 * L i + gBe t L i + 1) >>> ((2 : Int32) &&& 31)
def gB (t : Bool) (L : Nat → Int32) (len i : Nat) : Int32 := (3 * L i + gAf t L len i + 2) >>> ((2 : Int32) &&& 31)
/-- the samples after i of the line have grown -/
def grw (t : Bool) (L : Nat → Int32) (len st sp : Nat) (f : Nat → Int32) : Nat → (Nat → Int32)
  | 0 => f
  | i + 1 => upd (upd (grw t L len st sp f i) (st + 2 * i * sp) (gA t L i)) (st + (2 * i + 1) * sp) (gB t L len i)
def tv (t : Bool) : Int32 := if t = true then 1 else 0
section
variable {M : zM} {D : va_G} {ca : Nat → ClassId} {ad : Nat → Nat} {f g : Nat → Int32} {w h : Int32} {st sp len : Nat} {t : Bool}
set_option maxRecDepth 100000 in
set_option maxHeartbeats 4000000 in
theorem l_growLine_1 (hlen : len ≤ 16) (hb : ∀ i, i < 2 * len → st + i * sp < 1024) (o6 o7 o8 : Option Value)
    (k : Zj M (gG D ca ad) cP_growLine 9 RP wP_growLine none (pw3 ca (f) (cpyL f g st sp len) w h) [some (.ref 0), some (.int (nI st)), some (.int (nI sp)), some (.int (nI len)), some (.int (tv t)), some (.int (nI len)), o6, o7, o8] [] 33) :
    ∀ n i, i + n = len → Zj M (gG D ca ad) cP_growLine 9 RP wP_growLine none (pw3 ca (f) (cpyL f g st sp i) w h) [some (.ref 0), some (.int (nI st)), some (.int (nI sp)), some (.int (nI len)), some (.int (tv t)), some (.int (nI i)), o6, o7, o8] [] 3 := by
  intro n
  induction n with
  | zero =>
    intro i hi
    obtain rfl : i = len := by omega
    refine z_iload dP_growLine_3 rfl ?_
    refine z_iload_n dP_growLine_5 rfl ?_
    exact z_icmp_ge (tgt := 33) dP_growLine_6 (by decide) (fun _ => k) (fun hc => absurd (nI_le (Nat.le_refl _) (by omega)) hc)
  | succ n ih =>
    intro i hi
    refine z_iload dP_growLine_3 rfl ?_
    refine z_iload_n dP_growLine_5 rfl ?_
    refine z_icmp_ge (tgt := 33) dP_growLine_6 (by decide) (fun hc => absurd hc (nI_ge (by omega) (by omega))) (fun _ => ?_)
    refine z_aload_n dP_growLine_9 rfl ?_
    refine z_get (C := RP) (T := TP) (N := 4) (ref := "ToneMixer$Plane") 3 dP_growLine_10 rfl rfl rfl (by decide) (fun w h => bwT (hbP w h)) (bwT b_33) rfl ?_
    refine z_iload dP_growLine_13 rfl ?_
    refine z_aload_n dP_growLine_15 rfl ?_
    refine z_get (C := RP) (T := TP) (N := 4) (ref := "ToneMixer$Plane") 0 dP_growLine_16 rfl rfl rfl (by decide) (fun w h => bwT (hbP w h)) (bwT b_27) rfl ?_
    refine z_iload_n dP_growLine_19 rfl ?_
    refine z_iload dP_growLine_20 rfl ?_
    refine z_iload_n dP_growLine_22 rfl ?_
    refine z_imul dP_growLine_23 ?_
    refine z_iadd dP_growLine_24 ?_
    refine z_ialdN (t0 := 0) (k := st + i * sp) dP_growLine_25 rfl rfl (by rw [za, zm]) (hb i (by omega)) (by decide) ?_
    refine z_iastN (t0 := 0) (k := i) dP_growLine_26 rfl rfl (rfl) (by omega) (by decide) ?_
    try simp only [List.set_cons_succ, List.set_cons_zero]
    refine z_iinc1 dP_growLine_27 (by decide) rfl rfl ?_
    try simp only [List.set_cons_succ, List.set_cons_zero]
    refine z_goto (tgt := 3) dP_growLine_30 (by decide) ?_
    rw [cpyL_s, nI_1]
    exact ih (i + 1) (by omega)
set_option maxRecDepth 100000 in
set_option maxHeartbeats 4000000 in
theorem l_growLine_2 (hlen : len ≤ 16) (hb : ∀ i, i < 2 * len → st + i * sp < 1024) (L : Nat → Int32)
    (k : ∀ o6 o7 o8, Zj M (gG D ca ad) cP_growLine 9 RP wP_growLine none (pw3 ca (grw t L len st sp f len) (L) w h) [some (.ref 0), some (.int (nI st)), some (.int (nI sp)), some (.int (nI len)), some (.int (tv t)), some (.int (nI len)), o6, o7, o8] [] 162) :
    ∀ n i, i + n = len → ∀ o6 o7 o8, Zj M (gG D ca ad) cP_growLine 9 RP wP_growLine none (pw3 ca (grw t L len st sp f i) (L) w h) [some (.ref 0), some (.int (nI st)), some (.int (nI sp)), some (.int (nI len)), some (.int (tv t)), some (.int (nI i)), o6, o7, o8] [] 36 := by
  intro n
  induction n with
  | zero =>
    intro i hi o6 o7 o8
    obtain rfl : i = len := by omega
    refine z_iload dP_growLine_36 rfl ?_
    refine z_iload_n dP_growLine_38 rfl ?_
    exact z_icmp_ge (tgt := 162) dP_growLine_39 (by decide) (fun _ => k o6 o7 o8) (fun hc => absurd (nI_le (Nat.le_refl _) (by omega)) hc)
  | succ n ih =>
    intro i hi o6 o7 o8
    refine z_iload dP_growLine_36 rfl ?_
    refine z_iload_n dP_growLine_38 rfl ?_
    refine z_icmp_ge (tgt := 162) dP_growLine_39 (by decide) (fun hc => absurd hc (nI_ge (by omega) (by omega))) (fun _ => ?_)
    refine z_aload_n dP_growLine_42 rfl ?_
    refine z_get (C := RP) (T := TP) (N := 4) (ref := "ToneMixer$Plane") 3 dP_growLine_43 rfl rfl rfl (by decide) (fun w h => bwT (hbP w h)) (bwT b_33) rfl ?_
    refine z_iload dP_growLine_46 rfl ?_
    refine z_ialdN (t0 := 0) (k := i) dP_growLine_48 rfl rfl (rfl) (by omega) (by decide) ?_
    refine z_istore dP_growLine_49 (by decide) rfl ?_
    try simp only [List.set_cons_succ, List.set_cons_zero]
    have k106 : Zj M (gG D ca ad) cP_growLine 9 RP wP_growLine none (pw3 ca (grw t L len st sp f i) (L) w h) [some (.ref 0), some (.int (nI st)), some (.int (nI sp)), some (.int (nI len)), some (.int (tv t)), some (.int (nI i)), some (.int (L i)), some (.int (gBe t L i)), some (.int (gAf t L len i))] [] 106 := by
      refine z_aload_n dP_growLine_106 rfl ?_
      refine z_get (C := RP) (T := TP) (N := 4) (ref := "ToneMixer$Plane") 0 dP_growLine_107 rfl rfl rfl (by decide) (fun w h => bwT (hbP w h)) (bwT b_27) rfl ?_
      refine z_iload_n dP_growLine_110 rfl ?_
      refine z_iconst (v := 2) dP_growLine_111 (by decide) ?_
      refine z_iload dP_growLine_112 rfl ?_
      refine z_imul dP_growLine_114 ?_
      refine z_iload_n dP_growLine_115 rfl ?_
      refine z_imul dP_growLine_116 ?_
      refine z_iadd dP_growLine_117 ?_
      refine z_iconst (v := 3) dP_growLine_118 (by decide) ?_
      refine z_iload dP_growLine_119 rfl ?_
      refine z_imul dP_growLine_121 ?_
      refine z_iload dP_growLine_122 rfl ?_
      refine z_iadd dP_growLine_124 ?_
      refine z_iconst (v := 1) dP_growLine_125 (by decide) ?_
      refine z_iadd dP_growLine_126 ?_
      refine z_iconst (v := 2) dP_growLine_127 (by decide) ?_
      refine z_ishr dP_growLine_128 ?_
      refine z_iastN (t0 := 0) (k := st + 2 * i * sp) dP_growLine_129 rfl rfl (by rw [za, zm, zm]; rfl) (by have := hb (2 * i) (by omega); rw [Nat.mul_assoc] at this ⊢; exact this) (by decide) ?_
      try simp only [List.set_cons_succ, List.set_cons_zero]
      refine z_aload_n dP_growLine_130 rfl ?_
      refine z_get (C := RP) (T := TP) (N := 4) (ref := "ToneMixer$Plane") 0 dP_growLine_131 rfl rfl rfl (by decide) (fun w h => bwT (hbP w h)) (bwT b_27) rfl ?_
      refine z_iload_n dP_growLine_134 rfl ?_
      refine z_iconst (v := 2) dP_growLine_135 (by decide) ?_
      refine z_iload dP_growLine_136 rfl ?_
      refine z_imul dP_growLine_138 ?_
      refine z_iconst (v := 1) dP_growLine_139 (by decide) ?_
      refine z_iadd dP_growLine_140 ?_
      refine z_iload_n dP_growLine_141 rfl ?_
      refine z_imul dP_growLine_142 ?_
      refine z_iadd dP_growLine_143 ?_
      refine z_iconst (v := 3) dP_growLine_144 (by decide) ?_
      refine z_iload dP_growLine_145 rfl ?_
      refine z_imul dP_growLine_147 ?_
      refine z_iload dP_growLine_148 rfl ?_
      refine z_iadd dP_growLine_150 ?_
      refine z_iconst (v := 2) dP_growLine_151 (by decide) ?_
      refine z_iadd dP_growLine_152 ?_
      refine z_iconst (v := 2) dP_growLine_153 (by decide) ?_
      refine z_ishr dP_growLine_154 ?_
      refine z_iastN (t0 := 0) (k := st + (2 * i + 1) * sp) dP_growLine_155 rfl rfl (by rw [za, zm, za, zm]; rfl) (hb (2 * i + 1) (by omega)) (by decide) ?_
      try simp only [List.set_cons_succ, List.set_cons_zero]
      refine z_iinc1 dP_growLine_156 (by decide) rfl rfl ?_
      try simp only [List.set_cons_succ, List.set_cons_zero]
      refine z_goto (tgt := 36) dP_growLine_159 (by decide) ?_
      rw [nI_1]
      exact ih (i + 1) (by omega) _ _ _
    have k75 : Zj M (gG D ca ad) cP_growLine 9 RP wP_growLine none (pw3 ca (grw t L len st sp f i) (L) w h) [some (.ref 0), some (.int (nI st)), some (.int (nI sp)), some (.int (nI len)), some (.int (tv t)), some (.int (nI i)), some (.int (L i)), o7, o8] [.int (gBe t L i)] 75 := by
      refine z_istore dP_growLine_75 (by decide) rfl ?_
      try simp only [List.set_cons_succ, List.set_cons_zero]
      have k104 : Zj M (gG D ca ad) cP_growLine 9 RP wP_growLine none (pw3 ca (grw t L len st sp f i) (L) w h) [some (.ref 0), some (.int (nI st)), some (.int (nI sp)), some (.int (nI len)), some (.int (tv t)), some (.int (nI i)), some (.int (L i)), some (.int (gBe t L i)), o8] [.int (gAf t L len i)] 104 := by
        refine z_istore dP_growLine_104 (by decide) rfl ?_
        try simp only [List.set_cons_succ, List.set_cons_zero]
        exact k106
      refine z_iload dP_growLine_77 rfl ?_
      have k102 : ¬ (t = true ∧ i + 1 < len) → Zj M (gG D ca ad) cP_growLine 9 RP wP_growLine none (pw3 ca (grw t L len st sp f i) (L) w h) [some (.ref 0), some (.int (nI st)), some (.int (nI sp)), some (.int (nI len)), some (.int (tv t)), some (.int (nI i)), some (.int (L i)), some (.int (gBe t L i)), o8] [] 102 := fun q => by
        refine z_iload dP_growLine_102 rfl ?_
        rw [show gAf t L len i = L i by rw [gAf, if_neg q]] at k104
        exact k104
      refine z_if_eq (tgt := 102) dP_growLine_79 (by decide) (fun c => k102 (fun q => by rw [tv, if_pos q.1] at c; exact absurd c (by decide))) (fun c => ?_)
      have ht : t = true := by cases t with
        | true => rfl
        | false => exact absurd rfl c
      refine z_iload dP_growLine_82 rfl ?_
      refine z_iconst (v := 1) dP_growLine_84 (by decide) ?_
      refine z_iadd dP_growLine_85 ?_
      refine z_iload_n dP_growLine_86 rfl ?_
      rw [nI_1]
      refine z_icmp_ge (tgt := 102) dP_growLine_87 (by decide) (fun c => k102 (fun q => nI_ge q.2 (by omega) c)) (fun c => ?_)
      have hl : i + 1 < len := by
        rcases Nat.lt_or_ge (i + 1) len with q | q
        · exact q
        · exact absurd (nI_le q (by omega)) c
      refine z_aload_n dP_growLine_90 rfl ?_
      refine z_get (C := RP) (T := TP) (N := 4) (ref := "ToneMixer$Plane") 3 dP_growLine_91 rfl rfl rfl (by decide) (fun w h => bwT (hbP w h)) (bwT b_33) rfl ?_
      refine z_iload dP_growLine_94 rfl ?_
      refine z_iconst (v := 1) dP_growLine_96 (by decide) ?_
      refine z_iadd dP_growLine_97 ?_
      refine z_ialdN (t0 := 0) (k := i + 1) dP_growLine_98 rfl rfl (nI_1 i) (by omega) (by decide) ?_
      refine z_goto (tgt := 104) dP_growLine_99 (by decide) ?_
      rw [show L (i + 1) = gAf t L len i by rw [gAf, if_pos ⟨ht, hl⟩]]
      exact k104
    have k73 : ¬ (t = true ∧ 0 < i) → Zj M (gG D ca ad) cP_growLine 9 RP wP_growLine none (pw3 ca (grw t L len st sp f i) (L) w h) [some (.ref 0), some (.int (nI st)), some (.int (nI sp)), some (.int (nI len)), some (.int (tv t)), some (.int (nI i)), some (.int (L i)), o7, o8] [] 73 := fun q => by
      refine z_iload dP_growLine_73 rfl ?_
      rw [show gBe t L i = L i by rw [gBe, if_neg q]] at k75
      exact k75
    refine z_iload dP_growLine_51 rfl ?_
    refine z_if_eq (tgt := 73) dP_growLine_53 (by decide) (fun c => k73 (fun q => by rw [tv, if_pos q.1] at c; exact absurd c (by decide))) (fun c => ?_)
    have ht : t = true := by cases t with
      | true => rfl
      | false => exact absurd rfl c
    refine z_iload dP_growLine_56 rfl ?_
    refine z_if_le (tgt := 73) dP_growLine_58 (by decide) (fun c => k73 (fun q => nI_nle q.2 (by omega) c)) (fun c => ?_)
    have hl : 0 < i := by
      rcases Nat.eq_zero_or_pos i with q | q
      · subst q; exact absurd (by decide) c
      · exact q
    refine z_aload_n dP_growLine_61 rfl ?_
    refine z_get (C := RP) (T := TP) (N := 4) (ref := "ToneMixer$Plane") 3 dP_growLine_62 rfl rfl rfl (by decide) (fun w h => bwT (hbP w h)) (bwT b_33) rfl ?_
    refine z_iload dP_growLine_65 rfl ?_
    refine z_iconst (v := 1) dP_growLine_67 (by decide) ?_
    refine z_isub dP_growLine_68 ?_
    refine z_ialdN (t0 := 0) (k := i - 1) dP_growLine_69 rfl rfl (by rw [show (1 : Int32) = nI 1 from rfl, pk_sub hl]) (by omega) (by decide) ?_
    refine z_goto (tgt := 75) dP_growLine_70 (by decide) ?_
    rw [show L (i - 1) = gBe t L i by rw [gBe, if_pos ⟨ht, hl⟩]]
    exact k75
end
set_option maxRecDepth 100000 in
set_option maxHeartbeats 4000000 in
theorem c_growLine (l : Launch) (D : va_G) (ca : Nat → ClassId) (ad : Nat → Nat) (f g : Nat → Int32) (w h : Int32) (st sp len : Nat) (t : Bool) (hlen : len ≤ 16) (hb : ∀ i, i < 2 * len → st + i * sp < 1024) : zMet l yP_growLine wP_growLine (rmk 0 0 0) zE0 (gG D ca ad) (pw3 ca f g w h) [.ref 0, .int (nI st), .int (nI sp), .int (nI len), .int (tv t)] (fun r aw => r = none ∧ aw = pw3 ca (grw t (cpyL f g st sp len) len st sp f len) (cpyL f g st sp len) w h) := by
  refine zMet.of (cc := cP_growLine) (maxL := 9) (ret := none) (lv := [some (.ref 0), some (.int (nI st)), some (.int (nI sp)), some (.int (nI len)), some (.int (tv t)), none, none, none, none]) (by decide) rfl (Nat.le_of_ble_eq_true rfl) rfl (fun M hl0 hR hC hS hE hret => ?_)
  refine z_iconst (v := 0) dP_growLine_0 (by decide) ?_
  refine z_istore dP_growLine_1 (by decide) rfl ?_
  try simp only [List.set_cons_succ, List.set_cons_zero]
  have h1 := l_growLine_1 (M := M) (D := D) (ca := ca) (ad := ad) (f := f) (g := g) (w := w) (h := h) (st := st) (sp := sp) (len := len) (t := t) hlen hb none none none ?_ len 0 (by omega)
  · rw [cpyL_0] at h1
    exact h1
  refine z_iconst (v := 0) dP_growLine_33 (by decide) ?_
  refine z_istore dP_growLine_34 (by decide) rfl ?_
  try simp only [List.set_cons_succ, List.set_cons_zero]
  refine l_growLine_2 hlen hb (cpyL f g st sp len) (fun o6 o7 o8 => ?_) len 0 (by omega) none none none
  exact z_return dP_growLine_162 hret ⟨Nat.le_of_eq hC, Nat.le_of_eq hS⟩ rfl ⟨rfl, rfl⟩
end
section
/-! the line loops of a plane: across (rows) and down (columns) -/
def grA (t : Bool) (w : Nat) (f g : Nat → Int32) : Nat → (Nat → Int32) × (Nat → Int32)
  | 0 => (f, g)
  | y + 1 => (grw t (cpyL (grA t w f g y).1 (grA t w f g y).2 (y * 32) 1 w) w (y * 32) 1 (grA t w f g y).1 w, cpyL (grA t w f g y).1 (grA t w f g y).2 (y * 32) 1 w)
def grD (t : Bool) (h : Nat) (f g : Nat → Int32) : Nat → (Nat → Int32) × (Nat → Int32)
  | 0 => (f, g)
  | x + 1 => (grw t (cpyL (grD t h f g x).1 (grD t h f g x).2 x 32 h) h x 32 (grD t h f g x).1 h, cpyL (grD t h f g x).1 (grD t h f g x).2 x 32 h)
def shv (f : Nat → Int32) (len st sp i : Nat) : Int32 := (f (st + 2 * i * sp) + f (st + (if 2 * i + 1 ≤ len - 1 then 2 * i + 1 else len - 1) * sp) + nI (i % 2)) >>> ((1 : Int32) &&& 31)
/-- the samples after i of a line have shrunk -/
def shL (len st sp : Nat) (f : Nat → Int32) : Nat → (Nat → Int32)
  | 0 => f
  | i + 1 => upd (shL len st sp f i) (st + i * sp) (shv (shL len st sp f i) len st sp i)
def shA (w : Nat) (f : Nat → Int32) : Nat → (Nat → Int32)
  | 0 => f
  | y + 1 => shL w (y * 32) 1 (shA w f y) ((w + 1) / 2)
def shD (h : Nat) (f : Nat → Int32) : Nat → (Nat → Int32)
  | 0 => f
  | x + 1 => shL h x 32 (shD h f x) ((h + 1) / 2)
theorem z_min {a b : Nat} (ha : a < 2 ^ 31) (hb : b < 2 ^ 31) : (if nI b < nI a then nI b else nI a) = nI (if a ≤ b then a else b) := by
  by_cases h : a ≤ b
  · rw [if_neg (nI_nlt h hb), if_pos h]
  · rw [if_pos (nI_lt (by omega) ha), if_neg h]
theorem z_max {a b : Nat} (ha : a < 2 ^ 31) (hb : b < 2 ^ 31) : (if nI a < nI b then nI b else nI a) = nI (if a < b then b else a) := by
  by_cases h : a < b
  · rw [if_pos (nI_lt h hb), if_pos h]
  · rw [if_neg (nI_nlt (by omega) ha), if_neg h]
section
variable {M : zM} {D : va_G} {ca : Nat → ClassId} {ad : Nat → Nat} {f g : Nat → Int32} {w h : Nat} {sa : Nat → Nat} {t : Bool}
set_option maxRecDepth 100000 in
set_option maxHeartbeats 4000000 in
theorem l_growAcross (hw : w ≤ 32) (hh : h ≤ 32) (h2 : 2 * w ≤ 32) (hR : zroom M = rmk 1 0 0) (hC : zcells M = 0) (hS : zslots M = 0) (hE : zEn M (zEx sa))
    (k : Zj M (gG D ca ad) cP_growAcross 3 RP wP_growAcross none (pw3 ca (grA t w f g h).1 (grA t w f g h).2 (nI w) (nI h)) [some (.ref 0), some (.int (tv t)), some (.int (nI h))] [] 31) : ∀ n i, i + n = h → Zj M (gG D ca ad) cP_growAcross 3 RP wP_growAcross none (pw3 ca (grA t w f g i).1 (grA t w f g i).2 (nI w) (nI h)) [some (.ref 0), some (.int (tv t)), some (.int (nI i))] [] 2 := by
  intro n
  induction n with
  | zero =>
    intro i hi
    obtain rfl : i = h := by omega
    refine z_iload_n dP_growAcross_2 rfl ?_
    refine z_aload_n dP_growAcross_3 rfl ?_
    refine z_get (C := RP) (T := TP) (N := 4) (ref := "ToneMixer$Plane") 2 dP_growAcross_4 rfl rfl rfl (by decide) (fun w h => bwT (hbP w h)) (bwT b_31) rfl ?_
    exact z_icmp_ge (tgt := 31) dP_growAcross_7 (by decide) (fun _ => k) (fun hc => absurd (nI_le (Nat.le_refl _) (by omega)) hc)
  | succ n ih =>
    intro i hi
    refine z_iload_n dP_growAcross_2 rfl ?_
    refine z_aload_n dP_growAcross_3 rfl ?_
    refine z_get (C := RP) (T := TP) (N := 4) (ref := "ToneMixer$Plane") 2 dP_growAcross_4 rfl rfl rfl (by decide) (fun w h => bwT (hbP w h)) (bwT b_31) rfl ?_
    refine z_icmp_ge (tgt := 31) dP_growAcross_7 (by decide) (fun hc => absurd hc (nI_ge (by omega) (by omega))) (fun _ => ?_)
    refine z_aload_n dP_growAcross_10 rfl ?_
    refine z_iconst (v := 0) dP_growAcross_11 (by decide) ?_
    refine z_iload_n dP_growAcross_12 rfl ?_
    refine z_pure (z_SN (host := "ToneMixer") hE zEok_0 (hE.2.2.1 _ (List.mem_of_getElem? (i := 0) rfl)) (c_placeOf _ _ _ _) dP_growAcross_13 (gd_0 b_62) (bwT b_61) (bwT b_1) rfl qT_placeOf.2 ⟨rfl, rfl⟩ (by rw [hR]; decide) (by rw [hR, hC, hS]; decide) rfl (Nat.le_of_ble_eq_true rfl)) (fun r hr => ?_)
    subst hr
    simp only [zpush, zv]
    rw [show nI i * 32 + 0 = nI (i * 32) by rw [zm]; simp [nI]]
    refine z_iconst (v := 1) dP_growAcross_16 (by decide) ?_
    refine z_aload_n dP_growAcross_17 rfl ?_
    refine z_get (C := RP) (T := TP) (N := 4) (ref := "ToneMixer$Plane") 1 dP_growAcross_18 rfl rfl rfl (by decide) (fun w h => bwT (hbP w h)) (bwT b_29) rfl ?_
    refine z_iload_n dP_growAcross_21 rfl ?_
    refine z_same (z_V (C := RP) (b := 0) hE zEok_0 (c_growLine _ D ca ad _ _ _ _ (i * 32) 1 w t (by omega) (fun j hj => by omega)) dP_growAcross_22 (gd_V b_257 b_259 bs_11 b_2 b_260) rfl qP_growLine ⟨rfl, rfl⟩ (by rw [hR]; decide) (by rw [hR, hC, hS]; decide) rfl (Nat.le_of_ble_eq_true rfl) rfl rfl) (fun r aw1 hlen hr => ?_)
    obtain ⟨rfl, rfl⟩ := hr
    simp only [zpush]
    refine z_iinc1 dP_growAcross_25 (by decide) rfl rfl ?_
    try simp only [List.set_cons_succ, List.set_cons_zero]
    refine z_goto (tgt := 2) dP_growAcross_28 (by decide) ?_
    rw [nI_1]
    exact ih (i + 1) (by omega)
end
set_option maxRecDepth 100000 in
set_option maxHeartbeats 4000000 in
theorem c_growAcross (l : Launch) (D : va_G) (ca : Nat → ClassId) (ad : Nat → Nat) (f g : Nat → Int32) (sa : Nat → Nat) (w h : Nat) (t : Bool) (hw : w ≤ 32) (hh : h ≤ 32) (h2 : 2 * w ≤ 32) : zMet l yP_growAcross wP_growAcross (rmk 1 0 0) (zEx sa) (gG D ca ad) (pw3 ca f g (nI w) (nI h)) [.ref 0, .int (tv t)] (fun r aw => r = none ∧ aw = pw3 ca (grA t w f g h).1 (grA t w f g h).2 (nI (2 * w)) (nI h)) := by
  refine zMet.of (cc := cP_growAcross) (maxL := 3) (ret := none) (lv := [some (.ref 0), some (.int (tv t)), none]) (by decide) rfl (Nat.le_of_ble_eq_true rfl) rfl (fun M hl0 hR hC hS hE hret => ?_)
  refine z_iconst (v := 0) dP_growAcross_0 (by decide) ?_
  refine z_istore_n dP_growAcross_1 (by decide) rfl ?_
  try simp only [List.set_cons_succ, List.set_cons_zero]
  refine l_growAcross (f := f) (g := g) hw hh h2 hR hC hS hE ?_ h 0 (by omega)
  refine z_aload_n dP_growAcross_31 rfl ?_
  refine z_iconst (v := 2) dP_growAcross_32 (by decide) ?_
  refine z_aload_n dP_growAcross_33 rfl ?_
  refine z_get (C := RP) (T := TP) (N := 4) (ref := "ToneMixer$Plane") 1 dP_growAcross_34 rfl rfl rfl (by decide) (fun w h => bwT (hbP w h)) (bwT b_29) rfl ?_
  refine z_imul dP_growAcross_37 ?_
  refine z_put (C := RP) (T := TP) (N := 4) (ref := "ToneMixer$Plane") (ty := .int) 1 tyP dP_growAcross_38 rfl rfl (by decide) (fun w h => bwT (hbP w h)) (bwT b_29) rfl tyP_ok nmP rfl (by decide +kernel) (fun _ => ⟨rfl, rfl⟩) (Nat.le_of_ble_eq_true rfl) ?_
  try simp only [List.set_cons_succ, List.set_cons_zero]
  rw [show (2 : Int32) * nI w = nI (2 * w) from (zm 2 w).symm]
  exact z_return dP_growAcross_41 hret ⟨Nat.le_of_eq hC, Nat.le_of_eq hS⟩ rfl ⟨rfl, rfl⟩
section
variable {M : zM} {D : va_G} {ca : Nat → ClassId} {ad : Nat → Nat} {f g : Nat → Int32} {w h : Nat} {sa : Nat → Nat} {t : Bool}
set_option maxRecDepth 100000 in
set_option maxHeartbeats 4000000 in
theorem l_growDown (hw : w ≤ 32) (hh : h ≤ 32) (h2 : 2 * h ≤ 32) (hR : zroom M = rmk 1 0 0) (hC : zcells M = 0) (hS : zslots M = 0) (hE : zEn M (zEx sa))
    (k : Zj M (gG D ca ad) cP_growDown 3 RP wP_growDown none (pw3 ca (grD t h f g w).1 (grD t h f g w).2 (nI w) (nI h)) [some (.ref 0), some (.int (tv t)), some (.int (nI w))] [] 32) : ∀ n i, i + n = w → Zj M (gG D ca ad) cP_growDown 3 RP wP_growDown none (pw3 ca (grD t h f g i).1 (grD t h f g i).2 (nI w) (nI h)) [some (.ref 0), some (.int (tv t)), some (.int (nI i))] [] 2 := by
  intro n
  induction n with
  | zero =>
    intro i hi
    obtain rfl : i = w := by omega
    refine z_iload_n dP_growDown_2 rfl ?_
    refine z_aload_n dP_growDown_3 rfl ?_
    refine z_get (C := RP) (T := TP) (N := 4) (ref := "ToneMixer$Plane") 1 dP_growDown_4 rfl rfl rfl (by decide) (fun w h => bwT (hbP w h)) (bwT b_29) rfl ?_
    exact z_icmp_ge (tgt := 32) dP_growDown_7 (by decide) (fun _ => k) (fun hc => absurd (nI_le (Nat.le_refl _) (by omega)) hc)
  | succ n ih =>
    intro i hi
    refine z_iload_n dP_growDown_2 rfl ?_
    refine z_aload_n dP_growDown_3 rfl ?_
    refine z_get (C := RP) (T := TP) (N := 4) (ref := "ToneMixer$Plane") 1 dP_growDown_4 rfl rfl rfl (by decide) (fun w h => bwT (hbP w h)) (bwT b_29) rfl ?_
    refine z_icmp_ge (tgt := 32) dP_growDown_7 (by decide) (fun hc => absurd hc (nI_ge (by omega) (by omega))) (fun _ => ?_)
    refine z_aload_n dP_growDown_10 rfl ?_
    refine z_iload_n dP_growDown_11 rfl ?_
    refine z_iconst (v := 0) dP_growDown_12 (by decide) ?_
    refine z_pure (z_SN (host := "ToneMixer") hE zEok_0 (hE.2.2.1 _ (List.mem_of_getElem? (i := 0) rfl)) (c_placeOf _ _ _ _) dP_growDown_13 (gd_0 b_62) (bwT b_61) (bwT b_1) rfl qT_placeOf.2 ⟨rfl, rfl⟩ (by rw [hR]; decide) (by rw [hR, hC, hS]; decide) rfl (Nat.le_of_ble_eq_true rfl)) (fun r hr => ?_)
    subst hr
    simp only [zpush, zv]
    rw [show (0 : Int32) * 32 + nI i = nI i by simp]
    refine z_bipush (v := 32) dP_growDown_16 (by decide) ?_
    refine z_aload_n dP_growDown_18 rfl ?_
    refine z_get (C := RP) (T := TP) (N := 4) (ref := "ToneMixer$Plane") 2 dP_growDown_19 rfl rfl rfl (by decide) (fun w h => bwT (hbP w h)) (bwT b_31) rfl ?_
    refine z_iload_n dP_growDown_22 rfl ?_
    refine z_same (z_V (C := RP) (b := 0) hE zEok_0 (c_growLine _ D ca ad _ _ _ _ (i) 32 h t (by omega) (fun j hj => by omega)) dP_growDown_23 (gd_V b_257 b_259 bs_11 b_2 b_260) rfl qP_growLine ⟨rfl, rfl⟩ (by rw [hR]; decide) (by rw [hR, hC, hS]; decide) rfl (Nat.le_of_ble_eq_true rfl) rfl rfl) (fun r aw1 hlen hr => ?_)
    obtain ⟨rfl, rfl⟩ := hr
    simp only [zpush]
    refine z_iinc1 dP_growDown_26 (by decide) rfl rfl ?_
    try simp only [List.set_cons_succ, List.set_cons_zero]
    refine z_goto (tgt := 2) dP_growDown_29 (by decide) ?_
    rw [nI_1]
    exact ih (i + 1) (by omega)
end
set_option maxRecDepth 100000 in
set_option maxHeartbeats 4000000 in
theorem c_growDown (l : Launch) (D : va_G) (ca : Nat → ClassId) (ad : Nat → Nat) (f g : Nat → Int32) (sa : Nat → Nat) (w h : Nat) (t : Bool) (hw : w ≤ 32) (hh : h ≤ 32) (h2 : 2 * h ≤ 32) : zMet l yP_growDown wP_growDown (rmk 1 0 0) (zEx sa) (gG D ca ad) (pw3 ca f g (nI w) (nI h)) [.ref 0, .int (tv t)] (fun r aw => r = none ∧ aw = pw3 ca (grD t h f g w).1 (grD t h f g w).2 (nI w) (nI (2 * h))) := by
  refine zMet.of (cc := cP_growDown) (maxL := 3) (ret := none) (lv := [some (.ref 0), some (.int (tv t)), none]) (by decide) rfl (Nat.le_of_ble_eq_true rfl) rfl (fun M hl0 hR hC hS hE hret => ?_)
  refine z_iconst (v := 0) dP_growDown_0 (by decide) ?_
  refine z_istore_n dP_growDown_1 (by decide) rfl ?_
  try simp only [List.set_cons_succ, List.set_cons_zero]
  refine l_growDown (f := f) (g := g) hw hh h2 hR hC hS hE ?_ w 0 (by omega)
  refine z_aload_n dP_growDown_32 rfl ?_
  refine z_iconst (v := 2) dP_growDown_33 (by decide) ?_
  refine z_aload_n dP_growDown_34 rfl ?_
  refine z_get (C := RP) (T := TP) (N := 4) (ref := "ToneMixer$Plane") 2 dP_growDown_35 rfl rfl rfl (by decide) (fun w h => bwT (hbP w h)) (bwT b_31) rfl ?_
  refine z_imul dP_growDown_38 ?_
  refine z_put (C := RP) (T := TP) (N := 4) (ref := "ToneMixer$Plane") (ty := .int) 2 tyP dP_growDown_39 rfl rfl (by decide) (fun w h => bwT (hbP w h)) (bwT b_31) rfl tyP_ok nmP rfl (by decide +kernel) (fun _ => ⟨rfl, rfl⟩) (Nat.le_of_ble_eq_true rfl) ?_
  try simp only [List.set_cons_succ, List.set_cons_zero]
  rw [show (2 : Int32) * nI h = nI (2 * h) from (zm 2 h).symm]
  exact z_return dP_growDown_42 hret ⟨Nat.le_of_eq hC, Nat.le_of_eq hS⟩ rfl ⟨rfl, rfl⟩
section
variable {M : zM} {D : va_G} {ca : Nat → ClassId} {ad : Nat → Nat} {f g : Nat → Int32} {w h : Int32} {st sp len : Nat}
set_option maxRecDepth 100000 in
set_option maxHeartbeats 4000000 in
theorem l_shrinkLine (h1 : 1 ≤ len) (hlen : len ≤ 32) (hb : ∀ i, i < len → st + i * sp < 1024) (hR : zroom M = rmk 1 0 0) (hC : zcells M = 0) (hS : zslots M = 0) (hE : zEn M zE0)
    (k : ∀ o5 o6, Zj M (gG D ca ad) cP_shrinkLine 7 RP wP_shrinkLine none (pw3 ca (shL len st sp f ((len + 1) / 2)) g w h) [some (.ref 0), some (.int (nI st)), some (.int (nI sp)), some (.int (nI len)), some (.int (nI ((len + 1) / 2))), o5, o6] [] 79) :
    ∀ n i, i + n = (len + 1) / 2 → ∀ o5 o6, Zj M (gG D ca ad) cP_shrinkLine 7 RP wP_shrinkLine none (pw3 ca (shL len st sp f i) g w h) [some (.ref 0), some (.int (nI st)), some (.int (nI sp)), some (.int (nI len)), some (.int (nI i)), o5, o6] [] 3 := by
  intro n
  induction n with
  | zero =>
    intro i hi o5 o6
    obtain rfl : i = (len + 1) / 2 := by omega
    refine z_iload dP_shrinkLine_3 rfl ?_
    refine z_iload_n dP_shrinkLine_5 rfl ?_
    refine z_pure (z_S hE zEok_0 (c_half _ _ len (by omega)) dP_shrinkLine_6 (gd_S b_280 b_281 b_2 b_282) rfl qP_half.2 ⟨rfl, rfl⟩ (by rw [hR]; decide) (by rw [hR, hC, hS]; decide) rfl (Nat.le_of_ble_eq_true rfl)) (fun r hr => ?_)
    subst hr
    simp only [zpush, zv]
    exact z_icmp_ge (tgt := 79) dP_shrinkLine_9 (by decide) (fun _ => k o5 o6) (fun hc => absurd (nI_le (Nat.le_refl _) (by omega)) hc)
  | succ n ih =>
    intro i hi o5 o6
    refine z_iload dP_shrinkLine_3 rfl ?_
    refine z_iload_n dP_shrinkLine_5 rfl ?_
    refine z_pure (z_S hE zEok_0 (c_half _ _ len (by omega)) dP_shrinkLine_6 (gd_S b_280 b_281 b_2 b_282) rfl qP_half.2 ⟨rfl, rfl⟩ (by rw [hR]; decide) (by rw [hR, hC, hS]; decide) rfl (Nat.le_of_ble_eq_true rfl)) (fun r hr => ?_)
    subst hr
    simp only [zpush, zv]
    refine z_icmp_ge (tgt := 79) dP_shrinkLine_9 (by decide) (fun hc => absurd hc (nI_ge (by omega) (by omega))) (fun _ => ?_)
    refine z_aload_n dP_shrinkLine_12 rfl ?_
    refine z_get (C := RP) (T := TP) (N := 4) (ref := "ToneMixer$Plane") 0 dP_shrinkLine_13 rfl rfl rfl (by decide) (fun w h => bwT (hbP w h)) (bwT b_27) rfl ?_
    refine z_iload_n dP_shrinkLine_16 rfl ?_
    refine z_iconst (v := 2) dP_shrinkLine_17 (by decide) ?_
    refine z_iload dP_shrinkLine_18 rfl ?_
    refine z_imul dP_shrinkLine_20 ?_
    refine z_iload_n dP_shrinkLine_21 rfl ?_
    refine z_imul dP_shrinkLine_22 ?_
    refine z_iadd dP_shrinkLine_23 ?_
    refine z_ialdN (t0 := 0) (k := st + 2 * i * sp) dP_shrinkLine_24 rfl rfl (by rw [za, zm, zm]; rfl) (by have := hb (2 * i) (by omega); exact this) (by decide) ?_
    refine z_istore dP_shrinkLine_25 (by decide) rfl ?_
    try simp only [List.set_cons_succ, List.set_cons_zero]
    refine z_aload_n dP_shrinkLine_27 rfl ?_
    refine z_get (C := RP) (T := TP) (N := 4) (ref := "ToneMixer$Plane") 0 dP_shrinkLine_28 rfl rfl rfl (by decide) (fun w h => bwT (hbP w h)) (bwT b_27) rfl ?_
    refine z_iload_n dP_shrinkLine_31 rfl ?_
    refine z_iconst (v := 2) dP_shrinkLine_32 (by decide) ?_
    refine z_iload dP_shrinkLine_33 rfl ?_
    refine z_imul dP_shrinkLine_35 ?_
    refine z_iconst (v := 1) dP_shrinkLine_36 (by decide) ?_
    refine z_iadd dP_shrinkLine_37 ?_
    refine z_iload_n dP_shrinkLine_38 rfl ?_
    refine z_iconst (v := 1) dP_shrinkLine_39 (by decide) ?_
    refine z_isub dP_shrinkLine_40 ?_
    rw [show (2 : Int32) * nI i + 1 = nI (2 * i + 1) by rw [za, zm]; rfl, show nI len - (1 : Int32) = nI (len - 1) by rw [show (1 : Int32) = nI 1 from rfl, pk_sub h1]]
    refine z_mmin dP_shrinkLine_41 (bwT b_283) (bwT b_80) (bwT b_10) (bwT b_81) (zmR hR ⟨Nat.le_of_ble_eq_true rfl, Nat.le_of_ble_eq_true rfl⟩) (zmC hR hC hS (by decide)) ?_
    rw [z_min (by omega) (by omega)]
    refine z_iload_n dP_shrinkLine_44 rfl ?_
    refine z_imul dP_shrinkLine_45 ?_
    refine z_iadd dP_shrinkLine_46 ?_
    refine z_ialdN (t0 := 0) (k := st + (if 2 * i + 1 ≤ len - 1 then 2 * i + 1 else len - 1) * sp) dP_shrinkLine_47 rfl rfl (by rw [za, zm]) (hb _ (by split <;> omega)) (by decide) ?_
    refine z_istore dP_shrinkLine_48 (by decide) rfl ?_
    try simp only [List.set_cons_succ, List.set_cons_zero]
    refine z_aload_n dP_shrinkLine_50 rfl ?_
    refine z_get (C := RP) (T := TP) (N := 4) (ref := "ToneMixer$Plane") 0 dP_shrinkLine_51 rfl rfl rfl (by decide) (fun w h => bwT (hbP w h)) (bwT b_27) rfl ?_
    refine z_iload_n dP_shrinkLine_54 rfl ?_
    refine z_iload dP_shrinkLine_55 rfl ?_
    refine z_iload_n dP_shrinkLine_57 rfl ?_
    refine z_imul dP_shrinkLine_58 ?_
    refine z_iadd dP_shrinkLine_59 ?_
    refine z_iload dP_shrinkLine_60 rfl ?_
    refine z_iload dP_shrinkLine_62 rfl ?_
    refine z_iadd dP_shrinkLine_64 ?_
    refine z_iload dP_shrinkLine_65 rfl ?_
    refine z_iconst (v := 2) dP_shrinkLine_67 (by decide) ?_
    refine z_irem dP_shrinkLine_68 (by decide) ?_
    rw [show (2 : Int32) = nI 2 from rfl, pk_rem (by omega) (by omega) (by omega)]
    refine z_iadd dP_shrinkLine_69 ?_
    refine z_iconst (v := 1) dP_shrinkLine_70 (by decide) ?_
    refine z_ishr dP_shrinkLine_71 ?_
    refine z_iastN (t0 := 0) (k := st + i * sp) dP_shrinkLine_72 rfl rfl (by rw [za, zm]) (hb i (by omega)) (by decide) ?_
    try simp only [List.set_cons_succ, List.set_cons_zero]
    refine z_iinc1 dP_shrinkLine_73 (by decide) rfl rfl ?_
    try simp only [List.set_cons_succ, List.set_cons_zero]
    refine z_goto (tgt := 3) dP_shrinkLine_76 (by decide) ?_
    rw [nI_1]
    exact ih (i + 1) (by omega) _ _
end
set_option maxRecDepth 100000 in
set_option maxHeartbeats 4000000 in
theorem c_shrinkLine (l : Launch) (D : va_G) (ca : Nat → ClassId) (ad : Nat → Nat) (f g : Nat → Int32) (w h : Int32) (st sp len : Nat) (h1 : 1 ≤ len) (hlen : len ≤ 32) (hb : ∀ i, i < len → st + i * sp < 1024) : zMet l yP_shrinkLine wP_shrinkLine (rmk 1 0 0) zE0 (gG D ca ad) (pw3 ca f g w h) [.ref 0, .int (nI st), .int (nI sp), .int (nI len)] (fun r aw => r = none ∧ aw = pw3 ca (shL len st sp f ((len + 1) / 2)) g w h) := by
  refine zMet.of (cc := cP_shrinkLine) (maxL := 7) (ret := none) (lv := [some (.ref 0), some (.int (nI st)), some (.int (nI sp)), some (.int (nI len)), none, none, none]) (by decide) rfl (Nat.le_of_ble_eq_true rfl) rfl (fun M hl0 hR hC hS hE hret => ?_)
  refine z_iconst (v := 0) dP_shrinkLine_0 (by decide) ?_
  refine z_istore dP_shrinkLine_1 (by decide) rfl ?_
  try simp only [List.set_cons_succ, List.set_cons_zero]
  refine l_shrinkLine (f := f) h1 hlen hb hR hC hS hE (fun o5 o6 => ?_) ((len + 1) / 2) 0 (by omega) none none
  exact z_return dP_shrinkLine_79 hret ⟨Nat.le_of_eq hC, Nat.le_of_eq hS⟩ rfl ⟨rfl, rfl⟩
section
variable {M : zM} {D : va_G} {ca : Nat → ClassId} {ad : Nat → Nat} {f g : Nat → Int32} {w h : Nat} {sa : Nat → Nat}
set_option maxRecDepth 100000 in
set_option maxHeartbeats 4000000 in
theorem l_shrinkAcross (hw1 : 1 ≤ w) (hh1 : 1 ≤ h) (hw : w ≤ 32) (hh : h ≤ 32) (hR : zroom M = rmk 2 0 0) (hC : zcells M = 0) (hS : zslots M = 0) (hE : zEn M (zEx sa))
    (k : Zj M (gG D ca ad) cP_shrinkAcross 2 RP wP_shrinkAcross none (pw3 ca (shA w f h) g (nI w) (nI h)) [some (.ref 0), some (.int (nI h))] [] 30) : ∀ n i, i + n = h → Zj M (gG D ca ad) cP_shrinkAcross 2 RP wP_shrinkAcross none (pw3 ca (shA w f i) g (nI w) (nI h)) [some (.ref 0), some (.int (nI i))] [] 2 := by
  intro n
  induction n with
  | zero =>
    intro i hi
    obtain rfl : i = h := by omega
    refine z_iload_n dP_shrinkAcross_2 rfl ?_
    refine z_aload_n dP_shrinkAcross_3 rfl ?_
    refine z_get (C := RP) (T := TP) (N := 4) (ref := "ToneMixer$Plane") 2 dP_shrinkAcross_4 rfl rfl rfl (by decide) (fun w h => bwT (hbP w h)) (bwT b_31) rfl ?_
    exact z_icmp_ge (tgt := 30) dP_shrinkAcross_7 (by decide) (fun _ => k) (fun hc => absurd (nI_le (Nat.le_refl _) (by omega)) hc)
  | succ n ih =>
    intro i hi
    refine z_iload_n dP_shrinkAcross_2 rfl ?_
    refine z_aload_n dP_shrinkAcross_3 rfl ?_
    refine z_get (C := RP) (T := TP) (N := 4) (ref := "ToneMixer$Plane") 2 dP_shrinkAcross_4 rfl rfl rfl (by decide) (fun w h => bwT (hbP w h)) (bwT b_31) rfl ?_
    refine z_icmp_ge (tgt := 30) dP_shrinkAcross_7 (by decide) (fun hc => absurd hc (nI_ge (by omega) (by omega))) (fun _ => ?_)
    refine z_aload_n dP_shrinkAcross_10 rfl ?_
    refine z_iconst (v := 0) dP_shrinkAcross_11 (by decide) ?_
    refine z_iload_n dP_shrinkAcross_12 rfl ?_
    refine z_pure (z_SN (host := "ToneMixer") hE zEok_0 (hE.2.2.1 _ (List.mem_of_getElem? (i := 0) rfl)) (c_placeOf _ _ _ _) dP_shrinkAcross_13 (gd_0 b_62) (bwT b_61) (bwT b_1) rfl qT_placeOf.2 ⟨rfl, rfl⟩ (by rw [hR]; decide) (by rw [hR, hC, hS]; decide) rfl (Nat.le_of_ble_eq_true rfl)) (fun r hr => ?_)
    subst hr
    simp only [zpush, zv]
    rw [show nI i * 32 + 0 = nI (i * 32) by rw [zm]; simp [nI]]
    refine z_iconst (v := 1) dP_shrinkAcross_16 (by decide) ?_
    refine z_aload_n dP_shrinkAcross_17 rfl ?_
    refine z_get (C := RP) (T := TP) (N := 4) (ref := "ToneMixer$Plane") 1 dP_shrinkAcross_18 rfl rfl rfl (by decide) (fun w h => bwT (hbP w h)) (bwT b_29) rfl ?_
    refine z_same (z_V (C := RP) (b := 0) hE zEok_0 (c_shrinkLine _ D ca ad _ _ _ _ (i * 32) 1 w (by omega) (by omega) (fun j hj => by omega)) dP_shrinkAcross_21 (gd_V b_276 b_278 bs_12 b_2 b_279) rfl qP_shrinkLine ⟨rfl, rfl⟩ (by rw [hR]; decide) (by rw [hR, hC, hS]; decide) rfl (Nat.le_of_ble_eq_true rfl) rfl rfl) (fun r aw1 hlen hr => ?_)
    obtain ⟨rfl, rfl⟩ := hr
    simp only [zpush]
    refine z_iinc1 dP_shrinkAcross_24 (by decide) rfl rfl ?_
    try simp only [List.set_cons_succ, List.set_cons_zero]
    refine z_goto (tgt := 2) dP_shrinkAcross_27 (by decide) ?_
    rw [nI_1]
    exact ih (i + 1) (by omega)
end
set_option maxRecDepth 100000 in
set_option maxHeartbeats 4000000 in
theorem c_shrinkAcross (l : Launch) (D : va_G) (ca : Nat → ClassId) (ad : Nat → Nat) (f g : Nat → Int32) (sa : Nat → Nat) (w h : Nat) (hw1 : 1 ≤ w) (hh1 : 1 ≤ h) (hw : w ≤ 32) (hh : h ≤ 32) : zMet l yP_shrinkAcross wP_shrinkAcross (rmk 2 0 0) (zEx sa) (gG D ca ad) (pw3 ca f g (nI w) (nI h)) [.ref 0] (fun r aw => r = none ∧ aw = pw3 ca (shA w f h) g (nI ((w + 1) / 2)) (nI h)) := by
  refine zMet.of (cc := cP_shrinkAcross) (maxL := 2) (ret := none) (lv := [some (.ref 0), none]) (by decide) rfl (Nat.le_of_ble_eq_true rfl) rfl (fun M hl0 hR hC hS hE hret => ?_)
  refine z_iconst (v := 0) dP_shrinkAcross_0 (by decide) ?_
  refine z_istore_n dP_shrinkAcross_1 (by decide) rfl ?_
  try simp only [List.set_cons_succ, List.set_cons_zero]
  refine l_shrinkAcross (f := f) (g := g) hw1 hh1 hw hh hR hC hS hE ?_ h 0 (by omega)
  refine z_aload_n dP_shrinkAcross_30 rfl ?_
  refine z_aload_n dP_shrinkAcross_31 rfl ?_
  refine z_get (C := RP) (T := TP) (N := 4) (ref := "ToneMixer$Plane") 1 dP_shrinkAcross_32 rfl rfl rfl (by decide) (fun w h => bwT (hbP w h)) (bwT b_29) rfl ?_
  refine z_pure (z_S hE zEok_0 (c_half _ _ w (by omega)) dP_shrinkAcross_35 (gd_S b_280 b_281 b_2 b_282) rfl qP_half.2 ⟨rfl, rfl⟩ (by rw [hR]; decide) (by rw [hR, hC, hS]; decide) rfl (Nat.le_of_ble_eq_true rfl)) (fun r hr => ?_)
  subst hr
  simp only [zpush, zv]
  refine z_put (C := RP) (T := TP) (N := 4) (ref := "ToneMixer$Plane") (ty := .int) 1 tyP dP_shrinkAcross_38 rfl rfl (by decide) (fun w h => bwT (hbP w h)) (bwT b_29) rfl tyP_ok nmP rfl (by decide +kernel) (fun _ => ⟨rfl, rfl⟩) (Nat.le_of_ble_eq_true rfl) ?_
  try simp only [List.set_cons_succ, List.set_cons_zero]
  exact z_return dP_shrinkAcross_41 hret ⟨Nat.le_of_eq hC, Nat.le_of_eq hS⟩ rfl ⟨rfl, rfl⟩
section
variable {M : zM} {D : va_G} {ca : Nat → ClassId} {ad : Nat → Nat} {f g : Nat → Int32} {w h : Nat} {sa : Nat → Nat}
set_option maxRecDepth 100000 in
set_option maxHeartbeats 4000000 in
theorem l_shrinkDown (hw1 : 1 ≤ w) (hh1 : 1 ≤ h) (hw : w ≤ 32) (hh : h ≤ 32) (hR : zroom M = rmk 2 0 0) (hC : zcells M = 0) (hS : zslots M = 0) (hE : zEn M (zEx sa))
    (k : Zj M (gG D ca ad) cP_shrinkDown 2 RP wP_shrinkDown none (pw3 ca (shD h f w) g (nI w) (nI h)) [some (.ref 0), some (.int (nI w))] [] 31) : ∀ n i, i + n = w → Zj M (gG D ca ad) cP_shrinkDown 2 RP wP_shrinkDown none (pw3 ca (shD h f i) g (nI w) (nI h)) [some (.ref 0), some (.int (nI i))] [] 2 := by
  intro n
  induction n with
  | zero =>
    intro i hi
    obtain rfl : i = w := by omega
    refine z_iload_n dP_shrinkDown_2 rfl ?_
    refine z_aload_n dP_shrinkDown_3 rfl ?_
    refine z_get (C := RP) (T := TP) (N := 4) (ref := "ToneMixer$Plane") 1 dP_shrinkDown_4 rfl rfl rfl (by decide) (fun w h => bwT (hbP w h)) (bwT b_29) rfl ?_
    exact z_icmp_ge (tgt := 31) dP_shrinkDown_7 (by decide) (fun _ => k) (fun hc => absurd (nI_le (Nat.le_refl _) (by omega)) hc)
  | succ n ih =>
    intro i hi
    refine z_iload_n dP_shrinkDown_2 rfl ?_
    refine z_aload_n dP_shrinkDown_3 rfl ?_
    refine z_get (C := RP) (T := TP) (N := 4) (ref := "ToneMixer$Plane") 1 dP_shrinkDown_4 rfl rfl rfl (by decide) (fun w h => bwT (hbP w h)) (bwT b_29) rfl ?_
    refine z_icmp_ge (tgt := 31) dP_shrinkDown_7 (by decide) (fun hc => absurd hc (nI_ge (by omega) (by omega))) (fun _ => ?_)
    refine z_aload_n dP_shrinkDown_10 rfl ?_
    refine z_iload_n dP_shrinkDown_11 rfl ?_
    refine z_iconst (v := 0) dP_shrinkDown_12 (by decide) ?_
    refine z_pure (z_SN (host := "ToneMixer") hE zEok_0 (hE.2.2.1 _ (List.mem_of_getElem? (i := 0) rfl)) (c_placeOf _ _ _ _) dP_shrinkDown_13 (gd_0 b_62) (bwT b_61) (bwT b_1) rfl qT_placeOf.2 ⟨rfl, rfl⟩ (by rw [hR]; decide) (by rw [hR, hC, hS]; decide) rfl (Nat.le_of_ble_eq_true rfl)) (fun r hr => ?_)
    subst hr
    simp only [zpush, zv]
    rw [show (0 : Int32) * 32 + nI i = nI i by simp]
    refine z_bipush (v := 32) dP_shrinkDown_16 (by decide) ?_
    refine z_aload_n dP_shrinkDown_18 rfl ?_
    refine z_get (C := RP) (T := TP) (N := 4) (ref := "ToneMixer$Plane") 2 dP_shrinkDown_19 rfl rfl rfl (by decide) (fun w h => bwT (hbP w h)) (bwT b_31) rfl ?_
    refine z_same (z_V (C := RP) (b := 0) hE zEok_0 (c_shrinkLine _ D ca ad _ _ _ _ (i) 32 h (by omega) (by omega) (fun j hj => by omega)) dP_shrinkDown_22 (gd_V b_276 b_278 bs_12 b_2 b_279) rfl qP_shrinkLine ⟨rfl, rfl⟩ (by rw [hR]; decide) (by rw [hR, hC, hS]; decide) rfl (Nat.le_of_ble_eq_true rfl) rfl rfl) (fun r aw1 hlen hr => ?_)
    obtain ⟨rfl, rfl⟩ := hr
    simp only [zpush]
    refine z_iinc1 dP_shrinkDown_25 (by decide) rfl rfl ?_
    try simp only [List.set_cons_succ, List.set_cons_zero]
    refine z_goto (tgt := 2) dP_shrinkDown_28 (by decide) ?_
    rw [nI_1]
    exact ih (i + 1) (by omega)
end
set_option maxRecDepth 100000 in
set_option maxHeartbeats 4000000 in
theorem c_shrinkDown (l : Launch) (D : va_G) (ca : Nat → ClassId) (ad : Nat → Nat) (f g : Nat → Int32) (sa : Nat → Nat) (w h : Nat) (hw1 : 1 ≤ w) (hh1 : 1 ≤ h) (hw : w ≤ 32) (hh : h ≤ 32) : zMet l yP_shrinkDown wP_shrinkDown (rmk 2 0 0) (zEx sa) (gG D ca ad) (pw3 ca f g (nI w) (nI h)) [.ref 0] (fun r aw => r = none ∧ aw = pw3 ca (shD h f w) g (nI w) (nI ((h + 1) / 2))) := by
  refine zMet.of (cc := cP_shrinkDown) (maxL := 2) (ret := none) (lv := [some (.ref 0), none]) (by decide) rfl (Nat.le_of_ble_eq_true rfl) rfl (fun M hl0 hR hC hS hE hret => ?_)
  refine z_iconst (v := 0) dP_shrinkDown_0 (by decide) ?_
  refine z_istore_n dP_shrinkDown_1 (by decide) rfl ?_
  try simp only [List.set_cons_succ, List.set_cons_zero]
  refine l_shrinkDown (f := f) (g := g) hw1 hh1 hw hh hR hC hS hE ?_ w 0 (by omega)
  refine z_aload_n dP_shrinkDown_31 rfl ?_
  refine z_aload_n dP_shrinkDown_32 rfl ?_
  refine z_get (C := RP) (T := TP) (N := 4) (ref := "ToneMixer$Plane") 2 dP_shrinkDown_33 rfl rfl rfl (by decide) (fun w h => bwT (hbP w h)) (bwT b_31) rfl ?_
  refine z_pure (z_S hE zEok_0 (c_half _ _ h (by omega)) dP_shrinkDown_36 (gd_S b_280 b_281 b_2 b_282) rfl qP_half.2 ⟨rfl, rfl⟩ (by rw [hR]; decide) (by rw [hR, hC, hS]; decide) rfl (Nat.le_of_ble_eq_true rfl)) (fun r hr => ?_)
  subst hr
  simp only [zpush, zv]
  refine z_put (C := RP) (T := TP) (N := 4) (ref := "ToneMixer$Plane") (ty := .int) 2 tyP dP_shrinkDown_39 rfl rfl (by decide) (fun w h => bwT (hbP w h)) (bwT b_31) rfl tyP_ok nmP rfl (by decide +kernel) (fun _ => ⟨rfl, rfl⟩) (Nat.le_of_ble_eq_true rfl) ?_
  try simp only [List.set_cons_succ, List.set_cons_zero]
  exact z_return dP_shrinkDown_42 hret ⟨Nat.le_of_eq hC, Nat.le_of_eq hS⟩ rfl ⟨rfl, rfl⟩
end
section
/-! both ways; wider and deeper; the difference of two planes; emptied; copied -/
def mn (a b : Nat) : Nat := if a ≤ b then a else b
def s4 (f : Nat → Int32) (w h x y : Nat) : Int32 := f (y * 32 + x) + f (y * 32 + mn (x + 1) (w - 1)) + f (mn (y + 1) (h - 1) * 32 + x) + f (mn (y + 1) (h - 1) * 32 + mn (x + 1) (w - 1))
def shBx (w h y : Nat) (f : Nat → Int32) : Nat → (Nat → Int32)
  | 0 => f
  | x + 1 => upd (shBx w h y f x) (y * 32 + x) ((s4 (shBx w h y f x) w h (2 * x) (2 * y) + 1 + nI (x % 2)) >>> ((2 : Int32) &&& 31))
def shB (w h : Nat) (f : Nat → Int32) : Nat → (Nat → Int32)
  | 0 => f
  | y + 1 => shBx w h y (shB w h f y) ((w + 1) / 2)
def wdx (v : Int32) (w y : Nat) (f : Nat → Int32) : Nat → (Nat → Int32)
  | 0 => f
  | n + 1 => upd (wdx v w y f n) (y * 32 + (w + n)) v
def wdn (w nw : Nat) (f : Nat → Int32) : Nat → (Nat → Int32)
  | 0 => f
  | y + 1 => wdx (wdn w nw f y (y * 32 + (w - 1))) w y (wdn w nw f y) (nw - w)
def dpx (v : Int32) (h x : Nat) (f : Nat → Int32) : Nat → (Nat → Int32)
  | 0 => f
  | n + 1 => upd (dpx v h x f n) ((h + n) * 32 + x) v
def dpn (h nh : Nat) (f : Nat → Int32) : Nat → (Nat → Int32)
  | 0 => f
  | x + 1 => dpx (dpn h nh f x ((h - 1) * 32 + x)) h x (dpn h nh f x) (nh - h)
def zab (x : Int32) : Int32 := if 0 ≤ x then x else 0 - x
theorem z_mnI {a b : Nat} (ha : a < 2 ^ 31) (hb : b < 2 ^ 31) : (if nI b < nI a then nI b else nI a) = nI (mn a b) := z_min ha hb
theorem mn_le (a b : Nat) : mn a b ≤ b := by unfold mn; split <;> omega
theorem z_pl (x y : Nat) : nI y * 32 + nI x = nI (y * 32 + x) := by rw [za, zm]; rfl
theorem z_m1 {n : Nat} (h : 1 ≤ n) : nI n - (1 : Int32) = nI (n - 1) := by rw [show (1 : Int32) = nI 1 from rfl, pk_sub h]
theorem z_2 (n : Nat) : (2 : Int32) * nI n = nI (2 * n) := (zm 2 n).symm
theorem z_r2 {n : Nat} (h : n < 2 ^ 31) : nI n - nI n / 2 * 2 = nI (n % 2) := by rw [show (2 : Int32) = nI 2 from rfl, pk_rem h (by omega) (by omega)]
set_option maxRecDepth 100000 in
set_option maxHeartbeats 4000000 in
theorem c_sumOfFour (l : Launch) (D : va_G) (ca : Nat → ClassId) (ad : Nat → Nat) (f g : Nat → Int32) (sa : Nat → Nat) (w h x y : Nat) (hw1 : 1 ≤ w) (hh1 : 1 ≤ h) (hw : w ≤ 32) (hh : h ≤ 32) (hx : x < w) (hy : y < h) : zMet l yP_sumOfFour wP_sumOfFour (rmk 1 0 0) (zEx sa) (gG D ca ad) (pw3 ca f g (nI w) (nI h)) [.ref 0, .int (nI x), .int (nI y)] (fun r aw => r = some (.int (s4 f w h x y)) ∧ aw = pw3 ca f g (nI w) (nI h)) := by
  refine zMet.of (cc := cP_sumOfFour) (maxL := 5) (ret := some .int) (lv := [some (.ref 0), some (.int (nI x)), some (.int (nI y)), none, none]) (by decide) rfl (Nat.le_of_ble_eq_true rfl) rfl (fun M hl0 hR hC hS hE hret => ?_)
  have b1 := mn_le (x + 1) (w - 1)
  have b2 := mn_le (y + 1) (h - 1)
  refine z_iload_n dP_sumOfFour_0 rfl ?_
  refine z_iconst (v := 1) dP_sumOfFour_1 (by decide) ?_
  refine z_iadd dP_sumOfFour_2 ?_
  refine z_aload_n dP_sumOfFour_3 rfl ?_
  refine z_get (C := RP) (T := TP) (N := 4) (ref := "ToneMixer$Plane") 1 dP_sumOfFour_4 rfl rfl rfl (by decide) (fun w h => bwT (hbP w h)) (bwT b_29) rfl ?_
  refine z_iconst (v := 1) dP_sumOfFour_7 (by decide) ?_
  refine z_isub dP_sumOfFour_8 ?_
  rw [nI_1, z_m1 hw1]
  refine z_mmin dP_sumOfFour_9 (bwT b_283) (bwT b_80) (bwT b_10) (bwT b_81) (zmR hR ⟨Nat.le_of_ble_eq_true rfl, Nat.le_of_ble_eq_true rfl⟩) (zmC hR hC hS (by decide)) ?_
  rw [z_mnI (by omega) (by omega)]
  refine z_istore_n dP_sumOfFour_12 (by decide) rfl ?_
  try simp only [List.set_cons_succ, List.set_cons_zero]
  refine z_iload_n dP_sumOfFour_13 rfl ?_
  refine z_iconst (v := 1) dP_sumOfFour_14 (by decide) ?_
  refine z_iadd dP_sumOfFour_15 ?_
  refine z_aload_n dP_sumOfFour_16 rfl ?_
  refine z_get (C := RP) (T := TP) (N := 4) (ref := "ToneMixer$Plane") 2 dP_sumOfFour_17 rfl rfl rfl (by decide) (fun w h => bwT (hbP w h)) (bwT b_31) rfl ?_
  refine z_iconst (v := 1) dP_sumOfFour_20 (by decide) ?_
  refine z_isub dP_sumOfFour_21 ?_
  rw [nI_1, z_m1 hh1]
  refine z_mmin dP_sumOfFour_22 (bwT b_283) (bwT b_80) (bwT b_10) (bwT b_81) (zmR hR ⟨Nat.le_of_ble_eq_true rfl, Nat.le_of_ble_eq_true rfl⟩) (zmC hR hC hS (by decide)) ?_
  rw [z_mnI (by omega) (by omega)]
  refine z_istore dP_sumOfFour_25 (by decide) rfl ?_
  try simp only [List.set_cons_succ, List.set_cons_zero]
  refine z_aload_n dP_sumOfFour_27 rfl ?_
  refine z_get (C := RP) (T := TP) (N := 4) (ref := "ToneMixer$Plane") 0 dP_sumOfFour_28 rfl rfl rfl (by decide) (fun w h => bwT (hbP w h)) (bwT b_27) rfl ?_
  refine z_iload_n dP_sumOfFour_31 rfl ?_
  refine z_iload_n dP_sumOfFour_32 rfl ?_
  refine z_pure (z_SN (host := "ToneMixer") hE zEok_0 (hE.2.2.1 _ (List.mem_of_getElem? (i := 0) rfl)) (c_placeOf _ _ _ _) dP_sumOfFour_33 (gd_0 b_62) (bwT b_61) (bwT b_1) rfl qT_placeOf.2 ⟨rfl, rfl⟩ (by rw [hR]; decide) (by rw [hR, hC, hS]; decide) rfl (Nat.le_of_ble_eq_true rfl)) (fun r hr => ?_)
  subst hr
  simp only [zpush, zv]
  refine z_ialdN (t0 := 0) (k := y * 32 + x) dP_sumOfFour_36 rfl rfl (z_pl _ _) (by omega) (by decide) ?_
  refine z_aload_n dP_sumOfFour_37 rfl ?_
  refine z_get (C := RP) (T := TP) (N := 4) (ref := "ToneMixer$Plane") 0 dP_sumOfFour_38 rfl rfl rfl (by decide) (fun w h => bwT (hbP w h)) (bwT b_27) rfl ?_
  refine z_iload_n dP_sumOfFour_41 rfl ?_
  refine z_iload_n dP_sumOfFour_42 rfl ?_
  refine z_pure (z_SN (host := "ToneMixer") hE zEok_0 (hE.2.2.1 _ (List.mem_of_getElem? (i := 0) rfl)) (c_placeOf _ _ _ _) dP_sumOfFour_43 (gd_0 b_62) (bwT b_61) (bwT b_1) rfl qT_placeOf.2 ⟨rfl, rfl⟩ (by rw [hR]; decide) (by rw [hR, hC, hS]; decide) rfl (Nat.le_of_ble_eq_true rfl)) (fun r hr => ?_)
  subst hr
  simp only [zpush, zv]
  refine z_ialdN (t0 := 0) (k := y * 32 + mn (x + 1) (w - 1)) dP_sumOfFour_46 rfl rfl (z_pl _ _) (by omega) (by decide) ?_
  refine z_iadd dP_sumOfFour_47 ?_
  refine z_aload_n dP_sumOfFour_48 rfl ?_
  refine z_get (C := RP) (T := TP) (N := 4) (ref := "ToneMixer$Plane") 0 dP_sumOfFour_49 rfl rfl rfl (by decide) (fun w h => bwT (hbP w h)) (bwT b_27) rfl ?_
  refine z_iload_n dP_sumOfFour_52 rfl ?_
  refine z_iload dP_sumOfFour_53 rfl ?_
  refine z_pure (z_SN (host := "ToneMixer") hE zEok_0 (hE.2.2.1 _ (List.mem_of_getElem? (i := 0) rfl)) (c_placeOf _ _ _ _) dP_sumOfFour_55 (gd_0 b_62) (bwT b_61) (bwT b_1) rfl qT_placeOf.2 ⟨rfl, rfl⟩ (by rw [hR]; decide) (by rw [hR, hC, hS]; decide) rfl (Nat.le_of_ble_eq_true rfl)) (fun r hr => ?_)
  subst hr
  simp only [zpush, zv]
  refine z_ialdN (t0 := 0) (k := mn (y + 1) (h - 1) * 32 + x) dP_sumOfFour_58 rfl rfl (z_pl _ _) (by omega) (by decide) ?_
  refine z_iadd dP_sumOfFour_59 ?_
  refine z_aload_n dP_sumOfFour_60 rfl ?_
  refine z_get (C := RP) (T := TP) (N := 4) (ref := "ToneMixer$Plane") 0 dP_sumOfFour_61 rfl rfl rfl (by decide) (fun w h => bwT (hbP w h)) (bwT b_27) rfl ?_
  refine z_iload_n dP_sumOfFour_64 rfl ?_
  refine z_iload dP_sumOfFour_65 rfl ?_
  refine z_pure (z_SN (host := "ToneMixer") hE zEok_0 (hE.2.2.1 _ (List.mem_of_getElem? (i := 0) rfl)) (c_placeOf _ _ _ _) dP_sumOfFour_67 (gd_0 b_62) (bwT b_61) (bwT b_1) rfl qT_placeOf.2 ⟨rfl, rfl⟩ (by rw [hR]; decide) (by rw [hR, hC, hS]; decide) rfl (Nat.le_of_ble_eq_true rfl)) (fun r hr => ?_)
  subst hr
  simp only [zpush, zv]
  refine z_ialdN (t0 := 0) (k := mn (y + 1) (h - 1) * 32 + mn (x + 1) (w - 1)) dP_sumOfFour_70 rfl rfl (z_pl _ _) (by omega) (by decide) ?_
  refine z_iadd dP_sumOfFour_71 ?_
  exact z_ireturn dP_sumOfFour_72 rfl hret ⟨Nat.le_of_eq hC, Nat.le_of_eq hS⟩ rfl ⟨rfl, rfl⟩
section
variable {M : zM} {D : va_G} {ca : Nat → ClassId} {ad : Nat → Nat} {f g : Nat → Int32} {w h : Nat} {sa : Nat → Nat}
set_option maxRecDepth 100000 in
set_option maxHeartbeats 4000000 in
theorem l_shrinkBoth_x (hw1 : 1 ≤ w) (hh1 : 1 ≤ h) (hw : w ≤ 32) (hh : h ≤ 32) (hR : zroom M = rmk 2 0 0) (hC : zcells M = 0) (hS : zslots M = 0) (hE : zEn M (zEx sa)) {y : Nat} (hy : y < (h + 1) / 2)
    (k : Zj M (gG D ca ad) cP_shrinkBoth 3 RP wP_shrinkBoth none (pw3 ca (shBx w h y f ((w + 1) / 2)) g (nI w) (nI h)) [some (.ref 0), some (.int (nI y)), some (.int (nI ((w + 1) / 2)))] [] 60) :
    ∀ n x, x + n = (w + 1) / 2 → Zj M (gG D ca ad) cP_shrinkBoth 3 RP wP_shrinkBoth none (pw3 ca (shBx w h y f x) g (nI w) (nI h)) [some (.ref 0), some (.int (nI y)), some (.int (nI x))] [] 15 := by
  intro n
  induction n with
  | zero =>
    intro x hx
    obtain rfl : x = (w + 1) / 2 := by omega
    refine z_iload_n dP_shrinkBoth_15 rfl ?_
    refine z_aload_n dP_shrinkBoth_16 rfl ?_
    refine z_get (C := RP) (T := TP) (N := 4) (ref := "ToneMixer$Plane") 1 dP_shrinkBoth_17 rfl rfl rfl (by decide) (fun w h => bwT (hbP w h)) (bwT b_29) rfl ?_
    refine z_pure (z_S hE zEok_0 (c_half _ _ w (by omega)) dP_shrinkBoth_20 (gd_S b_280 b_281 b_2 b_282) rfl qP_half.2 ⟨rfl, rfl⟩ (by rw [hR]; decide) (by rw [hR, hC, hS]; decide) rfl (Nat.le_of_ble_eq_true rfl)) (fun r hr => ?_)
    subst hr
    simp only [zpush, zv]
    exact z_icmp_ge (tgt := 60) dP_shrinkBoth_23 (by decide) (fun _ => k) (fun hc => absurd (nI_le (Nat.le_refl _) (by omega)) hc)
  | succ n ih =>
    intro x hx
    refine z_iload_n dP_shrinkBoth_15 rfl ?_
    refine z_aload_n dP_shrinkBoth_16 rfl ?_
    refine z_get (C := RP) (T := TP) (N := 4) (ref := "ToneMixer$Plane") 1 dP_shrinkBoth_17 rfl rfl rfl (by decide) (fun w h => bwT (hbP w h)) (bwT b_29) rfl ?_
    refine z_pure (z_S hE zEok_0 (c_half _ _ w (by omega)) dP_shrinkBoth_20 (gd_S b_280 b_281 b_2 b_282) rfl qP_half.2 ⟨rfl, rfl⟩ (by rw [hR]; decide) (by rw [hR, hC, hS]; decide) rfl (Nat.le_of_ble_eq_true rfl)) (fun r hr => ?_)
    subst hr
    simp only [zpush, zv]
    refine z_icmp_ge (tgt := 60) dP_shrinkBoth_23 (by decide) (fun hc => absurd hc (nI_ge (by omega) (by omega))) (fun _ => ?_)
    refine z_aload_n dP_shrinkBoth_26 rfl ?_
    refine z_get (C := RP) (T := TP) (N := 4) (ref := "ToneMixer$Plane") 0 dP_shrinkBoth_27 rfl rfl rfl (by decide) (fun w h => bwT (hbP w h)) (bwT b_27) rfl ?_
    refine z_iload_n dP_shrinkBoth_30 rfl ?_
    refine z_iload_n dP_shrinkBoth_31 rfl ?_
    refine z_pure (z_SN (host := "ToneMixer") hE zEok_0 (hE.2.2.1 _ (List.mem_of_getElem? (i := 0) rfl)) (c_placeOf _ _ _ _) dP_shrinkBoth_32 (gd_0 b_62) (bwT b_61) (bwT b_1) rfl qT_placeOf.2 ⟨rfl, rfl⟩ (by rw [hR]; decide) (by rw [hR, hC, hS]; decide) rfl (Nat.le_of_ble_eq_true rfl)) (fun r hr => ?_)
    subst hr
    simp only [zpush, zv]
    refine z_aload_n dP_shrinkBoth_35 rfl ?_
    refine z_iconst (v := 2) dP_shrinkBoth_36 (by decide) ?_
    refine z_iload_n dP_shrinkBoth_37 rfl ?_
    refine z_imul dP_shrinkBoth_38 ?_
    refine z_iconst (v := 2) dP_shrinkBoth_39 (by decide) ?_
    refine z_iload_n dP_shrinkBoth_40 rfl ?_
    refine z_imul dP_shrinkBoth_41 ?_
    rw [z_2, z_2]
    refine z_same (z_V (C := RP) (b := 0) hE (zEok_ev _ _ _ _) (c_sumOfFour _ D ca ad _ g sa w h (2 * x) (2 * y) hw1 hh1 hw hh (by omega) (by omega)) dP_shrinkBoth_42 (gd_V b_292 b_294 bs_13 b_2 b_295) rfl qP_sumOfFour ⟨rfl, rfl⟩ (by rw [hR]; decide) (by rw [hR, hC, hS]; decide) rfl (Nat.le_of_ble_eq_true rfl) rfl rfl) (fun r aw1 hlen hr => ?_)
    obtain ⟨rfl, rfl⟩ := hr
    simp only [zpush, zv]
    refine z_iconst (v := 1) dP_shrinkBoth_45 (by decide) ?_
    refine z_iadd dP_shrinkBoth_46 ?_
    refine z_iload_n dP_shrinkBoth_47 rfl ?_
    refine z_iconst (v := 2) dP_shrinkBoth_48 (by decide) ?_
    refine z_irem dP_shrinkBoth_49 (by decide) ?_
    rw [z_r2 (by omega)]
    refine z_iadd dP_shrinkBoth_50 ?_
    refine z_iconst (v := 2) dP_shrinkBoth_51 (by decide) ?_
    refine z_ishr dP_shrinkBoth_52 ?_
    refine z_iastN (t0 := 0) (k := y * 32 + x) dP_shrinkBoth_53 rfl rfl (z_pl _ _) (by omega) (by decide) ?_
    try simp only [List.set_cons_succ, List.set_cons_zero]
    refine z_iinc1 dP_shrinkBoth_54 (by decide) rfl rfl ?_
    try simp only [List.set_cons_succ, List.set_cons_zero]
    refine z_goto (tgt := 15) dP_shrinkBoth_57 (by decide) ?_
    rw [nI_1]
    exact ih (x + 1) (by omega)
set_option maxRecDepth 100000 in
set_option maxHeartbeats 4000000 in
theorem l_shrinkBoth_y (hw1 : 1 ≤ w) (hh1 : 1 ≤ h) (hw : w ≤ 32) (hh : h ≤ 32) (hR : zroom M = rmk 2 0 0) (hC : zcells M = 0) (hS : zslots M = 0) (hE : zEn M (zEx sa))
    (k : ∀ o, Zj M (gG D ca ad) cP_shrinkBoth 3 RP wP_shrinkBoth none (pw3 ca (shB w h f ((h + 1) / 2)) g (nI w) (nI h)) [some (.ref 0), some (.int (nI ((h + 1) / 2))), o] [] 66) :
    ∀ n y, y + n = (h + 1) / 2 → ∀ o, Zj M (gG D ca ad) cP_shrinkBoth 3 RP wP_shrinkBoth none (pw3 ca (shB w h f y) g (nI w) (nI h)) [some (.ref 0), some (.int (nI y)), o] [] 2 := by
  intro n
  induction n with
  | zero =>
    intro y hy o
    obtain rfl : y = (h + 1) / 2 := by omega
    refine z_iload_n dP_shrinkBoth_2 rfl ?_
    refine z_aload_n dP_shrinkBoth_3 rfl ?_
    refine z_get (C := RP) (T := TP) (N := 4) (ref := "ToneMixer$Plane") 2 dP_shrinkBoth_4 rfl rfl rfl (by decide) (fun w h => bwT (hbP w h)) (bwT b_31) rfl ?_
    refine z_pure (z_S hE zEok_0 (c_half _ _ h (by omega)) dP_shrinkBoth_7 (gd_S b_280 b_281 b_2 b_282) rfl qP_half.2 ⟨rfl, rfl⟩ (by rw [hR]; decide) (by rw [hR, hC, hS]; decide) rfl (Nat.le_of_ble_eq_true rfl)) (fun r hr => ?_)
    subst hr
    simp only [zpush, zv]
    exact z_icmp_ge (tgt := 66) dP_shrinkBoth_10 (by decide) (fun _ => k o) (fun hc => absurd (nI_le (Nat.le_refl _) (by omega)) hc)
  | succ n ih =>
    intro y hy o
    refine z_iload_n dP_shrinkBoth_2 rfl ?_
    refine z_aload_n dP_shrinkBoth_3 rfl ?_
    refine z_get (C := RP) (T := TP) (N := 4) (ref := "ToneMixer$Plane") 2 dP_shrinkBoth_4 rfl rfl rfl (by decide) (fun w h => bwT (hbP w h)) (bwT b_31) rfl ?_
    refine z_pure (z_S hE zEok_0 (c_half _ _ h (by omega)) dP_shrinkBoth_7 (gd_S b_280 b_281 b_2 b_282) rfl qP_half.2 ⟨rfl, rfl⟩ (by rw [hR]; decide) (by rw [hR, hC, hS]; decide) rfl (Nat.le_of_ble_eq_true rfl)) (fun r hr => ?_)
    subst hr
    simp only [zpush, zv]
    refine z_icmp_ge (tgt := 66) dP_shrinkBoth_10 (by decide) (fun hc => absurd hc (nI_ge (by omega) (by omega))) (fun _ => ?_)
    refine z_iconst (v := 0) dP_shrinkBoth_13 (by decide) ?_
    refine z_istore_n dP_shrinkBoth_14 (by decide) rfl ?_
    try simp only [List.set_cons_succ, List.set_cons_zero]
    refine l_shrinkBoth_x (f := shB w h f y) hw1 hh1 hw hh hR hC hS hE (y := y) (by omega) ?_ ((w + 1) / 2) 0 (by omega)
    refine z_iinc1 dP_shrinkBoth_60 (by decide) rfl rfl ?_
    try simp only [List.set_cons_succ, List.set_cons_zero]
    refine z_goto (tgt := 2) dP_shrinkBoth_63 (by decide) ?_
    rw [nI_1]
    exact ih (y + 1) (by omega) _
end
set_option maxRecDepth 100000 in
set_option maxHeartbeats 4000000 in
theorem c_shrinkBoth (l : Launch) (D : va_G) (ca : Nat → ClassId) (ad : Nat → Nat) (f g : Nat → Int32) (sa : Nat → Nat) (w h : Nat) (hw1 : 1 ≤ w) (hh1 : 1 ≤ h) (hw : w ≤ 32) (hh : h ≤ 32) : zMet l yP_shrinkBoth wP_shrinkBoth (rmk 2 0 0) (zEx sa) (gG D ca ad) (pw3 ca f g (nI w) (nI h)) [.ref 0] (fun r aw => r = none ∧ aw = pw3 ca (shB w h f ((h + 1) / 2)) g (nI ((w + 1) / 2)) (nI ((h + 1) / 2))) := by
  refine zMet.of (cc := cP_shrinkBoth) (maxL := 3) (ret := none) (lv := [some (.ref 0), none, none]) (by decide) rfl (Nat.le_of_ble_eq_true rfl) rfl (fun M hl0 hR hC hS hE hret => ?_)
  refine z_iconst (v := 0) dP_shrinkBoth_0 (by decide) ?_
  refine z_istore_n dP_shrinkBoth_1 (by decide) rfl ?_
  try simp only [List.set_cons_succ, List.set_cons_zero]
  refine l_shrinkBoth_y (f := f) hw1 hh1 hw hh hR hC hS hE (fun o => ?_) ((h + 1) / 2) 0 (by omega) none
  refine z_aload_n dP_shrinkBoth_66 rfl ?_
  refine z_aload_n dP_shrinkBoth_67 rfl ?_
  refine z_get (C := RP) (T := TP) (N := 4) (ref := "ToneMixer$Plane") 1 dP_shrinkBoth_68 rfl rfl rfl (by decide) (fun w h => bwT (hbP w h)) (bwT b_29) rfl ?_
  refine z_pure (z_S hE zEok_0 (c_half _ _ w (by omega)) dP_shrinkBoth_71 (gd_S b_280 b_281 b_2 b_282) rfl qP_half.2 ⟨rfl, rfl⟩ (by rw [hR]; decide) (by rw [hR, hC, hS]; decide) rfl (Nat.le_of_ble_eq_true rfl)) (fun r hr => ?_)
  subst hr
  simp only [zpush, zv]
  refine z_put (C := RP) (T := TP) (N := 4) (ref := "ToneMixer$Plane") (ty := .int) 1 tyP dP_shrinkBoth_74 rfl rfl (by decide) (fun w h => bwT (hbP w h)) (bwT b_29) rfl tyP_ok nmP rfl (by decide +kernel) (fun _ => ⟨rfl, rfl⟩) (Nat.le_of_ble_eq_true rfl) ?_
  try simp only [List.set_cons_succ, List.set_cons_zero]
  refine z_aload_n dP_shrinkBoth_77 rfl ?_
  refine z_aload_n dP_shrinkBoth_78 rfl ?_
  refine z_get (C := RP) (T := TP) (N := 4) (ref := "ToneMixer$Plane") 2 dP_shrinkBoth_79 rfl rfl rfl (by decide) (fun w h => bwT (hbP w h)) (bwT b_31) rfl ?_
  refine z_pure (z_S hE zEok_0 (c_half _ _ h (by omega)) dP_shrinkBoth_82 (gd_S b_280 b_281 b_2 b_282) rfl qP_half.2 ⟨rfl, rfl⟩ (by rw [hR]; decide) (by rw [hR, hC, hS]; decide) rfl (Nat.le_of_ble_eq_true rfl)) (fun r hr => ?_)
  subst hr
  simp only [zpush, zv]
  refine z_put (C := RP) (T := TP) (N := 4) (ref := "ToneMixer$Plane") (ty := .int) 2 tyP dP_shrinkBoth_85 rfl rfl (by decide) (fun w h => bwT (hbP w h)) (bwT b_31) rfl tyP_ok nmP rfl (by decide +kernel) (fun _ => ⟨rfl, rfl⟩) (Nat.le_of_ble_eq_true rfl) ?_
  try simp only [List.set_cons_succ, List.set_cons_zero]
  exact z_return dP_shrinkBoth_88 hret ⟨Nat.le_of_eq hC, Nat.le_of_eq hS⟩ rfl ⟨rfl, rfl⟩
section
variable {M : zM} {D : va_G} {ca : Nat → ClassId} {ad : Nat → Nat} {f g : Nat → Int32} {w h nw : Nat} {sa : Nat → Nat}
set_option maxRecDepth 100000 in
set_option maxHeartbeats 4000000 in
theorem l_widen_i (hw1 : 1 ≤ w) (hh1 : 1 ≤ h) (hw : w ≤ 32) (hh : h ≤ 32) (hn : w ≤ nw) (hn2 : nw ≤ 32) (hR : zroom M = rmk 1 0 0) (hC : zcells M = 0) (hS : zslots M = 0) (hE : zEn M (zEx sa)) {i : Nat} (hi : i < h) (v : Int32)
    (k : Zj M (gG D ca ad) cP_widen 5 RP wP_widen none (pw3 ca (wdx v w i f (nw - w)) g (nI w) (nI h)) [some (.ref 0), some (.int (nI nw)), some (.int (nI i)), some (.int v), some (.int (nI nw))] [] 56) :
    ∀ r n, w + n + r = nw → Zj M (gG D ca ad) cP_widen 5 RP wP_widen none (pw3 ca (wdx v w i f n) g (nI w) (nI h)) [some (.ref 0), some (.int (nI nw)), some (.int (nI i)), some (.int v), some (.int (nI (w + n)))] [] 32 := by
  intro r
  induction r with
  | zero =>
    intro n hx
    obtain rfl : n = nw - w := by omega
    refine z_iload dP_widen_32 rfl ?_
    refine z_iload_n dP_widen_34 rfl ?_
    rw [show w + (nw - w) = nw by omega]
    exact z_icmp_ge (tgt := 56) dP_widen_35 (by decide) (fun _ => k) (fun hc => absurd (nI_le (Nat.le_refl _) (by omega)) hc)
  | succ r ih =>
    intro n hx
    refine z_iload dP_widen_32 rfl ?_
    refine z_iload_n dP_widen_34 rfl ?_
    refine z_icmp_ge (tgt := 56) dP_widen_35 (by decide) (fun hc => absurd hc (nI_ge (by omega) (by omega))) (fun _ => ?_)
    refine z_aload_n dP_widen_38 rfl ?_
    refine z_get (C := RP) (T := TP) (N := 4) (ref := "ToneMixer$Plane") 0 dP_widen_39 rfl rfl rfl (by decide) (fun w h => bwT (hbP w h)) (bwT b_27) rfl ?_
    refine z_iload dP_widen_42 rfl ?_
    refine z_iload_n dP_widen_44 rfl ?_
    refine z_pure (z_SN (host := "ToneMixer") hE zEok_0 (hE.2.2.1 _ (List.mem_of_getElem? (i := 0) rfl)) (c_placeOf _ _ _ _) dP_widen_45 (gd_0 b_62) (bwT b_61) (bwT b_1) rfl qT_placeOf.2 ⟨rfl, rfl⟩ (by rw [hR]; decide) (by rw [hR, hC, hS]; decide) rfl (Nat.le_of_ble_eq_true rfl)) (fun r hr => ?_)
    subst hr
    simp only [zpush, zv]
    refine z_iload_n dP_widen_48 rfl ?_
    refine z_iastN (t0 := 0) (k := i * 32 + (w + n)) dP_widen_49 rfl rfl (z_pl _ _) (by omega) (by decide) ?_
    try simp only [List.set_cons_succ, List.set_cons_zero]
    refine z_iinc1 dP_widen_50 (by decide) rfl rfl ?_
    try simp only [List.set_cons_succ, List.set_cons_zero]
    refine z_goto (tgt := 32) dP_widen_53 (by decide) ?_
    rw [nI_1]
    exact ih (n + 1) (by omega)
set_option maxRecDepth 100000 in
set_option maxHeartbeats 4000000 in
theorem l_widen_o (hw1 : 1 ≤ w) (hh1 : 1 ≤ h) (hw : w ≤ 32) (hh : h ≤ 32) (hn : w ≤ nw) (hn2 : nw ≤ 32) (hR : zroom M = rmk 1 0 0) (hC : zcells M = 0) (hS : zslots M = 0) (hE : zEn M (zEx sa))
    (k : ∀ o3 o4, Zj M (gG D ca ad) cP_widen 5 RP wP_widen none (pw3 ca (wdn w nw f h) g (nI w) (nI h)) [some (.ref 0), some (.int (nI nw)), some (.int (nI h)), o3, o4] [] 62) :
    ∀ n i, i + n = h → ∀ o3 o4, Zj M (gG D ca ad) cP_widen 5 RP wP_widen none (pw3 ca (wdn w nw f i) g (nI w) (nI h)) [some (.ref 0), some (.int (nI nw)), some (.int (nI i)), o3, o4] [] 2 := by
  intro n
  induction n with
  | zero =>
    intro i hy o3 o4
    obtain rfl : i = h := by omega
    refine z_iload_n dP_widen_2 rfl ?_
    refine z_aload_n dP_widen_3 rfl ?_
    refine z_get (C := RP) (T := TP) (N := 4) (ref := "ToneMixer$Plane") 2 dP_widen_4 rfl rfl rfl (by decide) (fun w h => bwT (hbP w h)) (bwT b_31) rfl ?_
    exact z_icmp_ge (tgt := 62) dP_widen_7 (by decide) (fun _ => k o3 o4) (fun hc => absurd (nI_le (Nat.le_refl _) (by omega)) hc)
  | succ n ih =>
    intro i hy o3 o4
    refine z_iload_n dP_widen_2 rfl ?_
    refine z_aload_n dP_widen_3 rfl ?_
    refine z_get (C := RP) (T := TP) (N := 4) (ref := "ToneMixer$Plane") 2 dP_widen_4 rfl rfl rfl (by decide) (fun w h => bwT (hbP w h)) (bwT b_31) rfl ?_
    refine z_icmp_ge (tgt := 62) dP_widen_7 (by decide) (fun hc => absurd hc (nI_ge (by omega) (by omega))) (fun _ => ?_)
    refine z_aload_n dP_widen_10 rfl ?_
    refine z_get (C := RP) (T := TP) (N := 4) (ref := "ToneMixer$Plane") 0 dP_widen_11 rfl rfl rfl (by decide) (fun w h => bwT (hbP w h)) (bwT b_27) rfl ?_
    refine z_aload_n dP_widen_14 rfl ?_
    refine z_get (C := RP) (T := TP) (N := 4) (ref := "ToneMixer$Plane") 1 dP_widen_15 rfl rfl rfl (by decide) (fun w h => bwT (hbP w h)) (bwT b_29) rfl ?_
    refine z_iconst (v := 1) dP_widen_18 (by decide) ?_
    refine z_isub dP_widen_19 ?_
    refine z_iload_n dP_widen_20 rfl ?_
    rw [z_m1 (by omega)]
    refine z_pure (z_SN (host := "ToneMixer") hE zEok_0 (hE.2.2.1 _ (List.mem_of_getElem? (i := 0) rfl)) (c_placeOf _ _ _ _) dP_widen_21 (gd_0 b_62) (bwT b_61) (bwT b_1) rfl qT_placeOf.2 ⟨rfl, rfl⟩ (by rw [hR]; decide) (by rw [hR, hC, hS]; decide) rfl (Nat.le_of_ble_eq_true rfl)) (fun r hr => ?_)
    subst hr
    simp only [zpush, zv]
    refine z_ialdN (t0 := 0) (k := i * 32 + (w - 1)) dP_widen_24 rfl rfl (z_pl _ _) (by omega) (by decide) ?_
    refine z_istore_n dP_widen_25 (by decide) rfl ?_
    try simp only [List.set_cons_succ, List.set_cons_zero]
    refine z_aload_n dP_widen_26 rfl ?_
    refine z_get (C := RP) (T := TP) (N := 4) (ref := "ToneMixer$Plane") 1 dP_widen_27 rfl rfl rfl (by decide) (fun w h => bwT (hbP w h)) (bwT b_29) rfl ?_
    refine z_istore dP_widen_30 (by decide) rfl ?_
    try simp only [List.set_cons_succ, List.set_cons_zero]
    refine l_widen_i (f := wdn w nw f i) hw1 hh1 hw hh hn hn2 hR hC hS hE (i := i) (by omega) _ ?_ (nw - w) 0 (by omega)
    refine z_iinc1 dP_widen_56 (by decide) rfl rfl ?_
    try simp only [List.set_cons_succ, List.set_cons_zero]
    refine z_goto (tgt := 2) dP_widen_59 (by decide) ?_
    rw [nI_1]
    exact ih (i + 1) (by omega) _ _
end
set_option maxRecDepth 100000 in
set_option maxHeartbeats 4000000 in
theorem c_widen (l : Launch) (D : va_G) (ca : Nat → ClassId) (ad : Nat → Nat) (f g : Nat → Int32) (sa : Nat → Nat) (w h nw : Nat) (hw1 : 1 ≤ w) (hh1 : 1 ≤ h) (hw : w ≤ 32) (hh : h ≤ 32) (hn : w ≤ nw) (hn2 : nw ≤ 32) : zMet l yP_widen wP_widen (rmk 1 0 0) (zEx sa) (gG D ca ad) (pw3 ca f g (nI w) (nI h)) [.ref 0, .int (nI nw)] (fun r aw => r = none ∧ aw = pw3 ca (wdn w nw f h) g (nI nw) (nI h)) := by
  refine zMet.of (cc := cP_widen) (maxL := 5) (ret := none) (lv := [some (.ref 0), some (.int (nI nw)), none, none, none]) (by decide) rfl (Nat.le_of_ble_eq_true rfl) rfl (fun M hl0 hR hC hS hE hret => ?_)
  refine z_iconst (v := 0) dP_widen_0 (by decide) ?_
  refine z_istore_n dP_widen_1 (by decide) rfl ?_
  try simp only [List.set_cons_succ, List.set_cons_zero]
  refine l_widen_o (f := f) hw1 hh1 hw hh hn hn2 hR hC hS hE (fun o3 o4 => ?_) h 0 (by omega) none none
  refine z_aload_n dP_widen_62 rfl ?_
  refine z_iload_n dP_widen_63 rfl ?_
  refine z_put (C := RP) (T := TP) (N := 4) (ref := "ToneMixer$Plane") (ty := .int) 1 tyP dP_widen_64 rfl rfl (by decide) (fun w h => bwT (hbP w h)) (bwT b_29) rfl tyP_ok nmP rfl (by decide +kernel) (fun _ => ⟨rfl, rfl⟩) (Nat.le_of_ble_eq_true rfl) ?_
  try simp only [List.set_cons_succ, List.set_cons_zero]
  exact z_return dP_widen_67 hret ⟨Nat.le_of_eq hC, Nat.le_of_eq hS⟩ rfl ⟨rfl, rfl⟩
section
variable {M : zM} {D : va_G} {ca : Nat → ClassId} {ad : Nat → Nat} {f g : Nat → Int32} {w h nh : Nat} {sa : Nat → Nat}
set_option maxRecDepth 100000 in
set_option maxHeartbeats 4000000 in
theorem l_deepen_i (hw1 : 1 ≤ w) (hh1 : 1 ≤ h) (hw : w ≤ 32) (hh : h ≤ 32) (hn : h ≤ nh) (hn2 : nh ≤ 32) (hR : zroom M = rmk 1 0 0) (hC : zcells M = 0) (hS : zslots M = 0) (hE : zEn M (zEx sa)) {i : Nat} (hi : i < w) (v : Int32)
    (k : Zj M (gG D ca ad) cP_deepen 5 RP wP_deepen none (pw3 ca (dpx v h i f (nh - h)) g (nI w) (nI h)) [some (.ref 0), some (.int (nI nh)), some (.int (nI i)), some (.int v), some (.int (nI nh))] [] 56) :
    ∀ r n, h + n + r = nh → Zj M (gG D ca ad) cP_deepen 5 RP wP_deepen none (pw3 ca (dpx v h i f n) g (nI w) (nI h)) [some (.ref 0), some (.int (nI nh)), some (.int (nI i)), some (.int v), some (.int (nI (h + n)))] [] 32 := by
  intro r
  induction r with
  | zero =>
    intro n hx
    obtain rfl : n = nh - h := by omega
    refine z_iload dP_deepen_32 rfl ?_
    refine z_iload_n dP_deepen_34 rfl ?_
    rw [show h + (nh - h) = nh by omega]
    exact z_icmp_ge (tgt := 56) dP_deepen_35 (by decide) (fun _ => k) (fun hc => absurd (nI_le (Nat.le_refl _) (by omega)) hc)
  | succ r ih =>
    intro n hx
    refine z_iload dP_deepen_32 rfl ?_
    refine z_iload_n dP_deepen_34 rfl ?_
    refine z_icmp_ge (tgt := 56) dP_deepen_35 (by decide) (fun hc => absurd hc (nI_ge (by omega) (by omega))) (fun _ => ?_)
    refine z_aload_n dP_deepen_38 rfl ?_
    refine z_get (C := RP) (T := TP) (N := 4) (ref := "ToneMixer$Plane") 0 dP_deepen_39 rfl rfl rfl (by decide) (fun w h => bwT (hbP w h)) (bwT b_27) rfl ?_
    refine z_iload_n dP_deepen_42 rfl ?_
    refine z_iload dP_deepen_43 rfl ?_
    refine z_pure (z_SN (host := "ToneMixer") hE zEok_0 (hE.2.2.1 _ (List.mem_of_getElem? (i := 0) rfl)) (c_placeOf _ _ _ _) dP_deepen_45 (gd_0 b_62) (bwT b_61) (bwT b_1) rfl qT_placeOf.2 ⟨rfl, rfl⟩ (by rw [hR]; decide) (by rw [hR, hC, hS]; decide) rfl (Nat.le_of_ble_eq_true rfl)) (fun r hr => ?_)
    subst hr
    simp only [zpush, zv]
    refine z_iload_n dP_deepen_48 rfl ?_
    refine z_iastN (t0 := 0) (k := (h + n) * 32 + i) dP_deepen_49 rfl rfl (z_pl _ _) (by omega) (by decide) ?_
    try simp only [List.set_cons_succ, List.set_cons_zero]
    refine z_iinc1 dP_deepen_50 (by decide) rfl rfl ?_
    try simp only [List.set_cons_succ, List.set_cons_zero]
    refine z_goto (tgt := 32) dP_deepen_53 (by decide) ?_
    rw [nI_1]
    exact ih (n + 1) (by omega)
set_option maxRecDepth 100000 in
set_option maxHeartbeats 4000000 in
theorem l_deepen_o (hw1 : 1 ≤ w) (hh1 : 1 ≤ h) (hw : w ≤ 32) (hh : h ≤ 32) (hn : h ≤ nh) (hn2 : nh ≤ 32) (hR : zroom M = rmk 1 0 0) (hC : zcells M = 0) (hS : zslots M = 0) (hE : zEn M (zEx sa))
    (k : ∀ o3 o4, Zj M (gG D ca ad) cP_deepen 5 RP wP_deepen none (pw3 ca (dpn h nh f w) g (nI w) (nI h)) [some (.ref 0), some (.int (nI nh)), some (.int (nI w)), o3, o4] [] 62) :
    ∀ n i, i + n = w → ∀ o3 o4, Zj M (gG D ca ad) cP_deepen 5 RP wP_deepen none (pw3 ca (dpn h nh f i) g (nI w) (nI h)) [some (.ref 0), some (.int (nI nh)), some (.int (nI i)), o3, o4] [] 2 := by
  intro n
  induction n with
  | zero =>
    intro i hy o3 o4
    obtain rfl : i = w := by omega
    refine z_iload_n dP_deepen_2 rfl ?_
    refine z_aload_n dP_deepen_3 rfl ?_
    refine z_get (C := RP) (T := TP) (N := 4) (ref := "ToneMixer$Plane") 1 dP_deepen_4 rfl rfl rfl (by decide) (fun w h => bwT (hbP w h)) (bwT b_29) rfl ?_
    exact z_icmp_ge (tgt := 62) dP_deepen_7 (by decide) (fun _ => k o3 o4) (fun hc => absurd (nI_le (Nat.le_refl _) (by omega)) hc)
  | succ n ih =>
    intro i hy o3 o4
    refine z_iload_n dP_deepen_2 rfl ?_
    refine z_aload_n dP_deepen_3 rfl ?_
    refine z_get (C := RP) (T := TP) (N := 4) (ref := "ToneMixer$Plane") 1 dP_deepen_4 rfl rfl rfl (by decide) (fun w h => bwT (hbP w h)) (bwT b_29) rfl ?_
    refine z_icmp_ge (tgt := 62) dP_deepen_7 (by decide) (fun hc => absurd hc (nI_ge (by omega) (by omega))) (fun _ => ?_)
    refine z_aload_n dP_deepen_10 rfl ?_
    refine z_get (C := RP) (T := TP) (N := 4) (ref := "ToneMixer$Plane") 0 dP_deepen_11 rfl rfl rfl (by decide) (fun w h => bwT (hbP w h)) (bwT b_27) rfl ?_
    refine z_iload_n dP_deepen_14 rfl ?_
    refine z_aload_n dP_deepen_15 rfl ?_
    refine z_get (C := RP) (T := TP) (N := 4) (ref := "ToneMixer$Plane") 2 dP_deepen_16 rfl rfl rfl (by decide) (fun w h => bwT (hbP w h)) (bwT b_31) rfl ?_
    refine z_iconst (v := 1) dP_deepen_19 (by decide) ?_
    refine z_isub dP_deepen_20 ?_
    rw [z_m1 (by omega)]
    refine z_pure (z_SN (host := "ToneMixer") hE zEok_0 (hE.2.2.1 _ (List.mem_of_getElem? (i := 0) rfl)) (c_placeOf _ _ _ _) dP_deepen_21 (gd_0 b_62) (bwT b_61) (bwT b_1) rfl qT_placeOf.2 ⟨rfl, rfl⟩ (by rw [hR]; decide) (by rw [hR, hC, hS]; decide) rfl (Nat.le_of_ble_eq_true rfl)) (fun r hr => ?_)
    subst hr
    simp only [zpush, zv]
    refine z_ialdN (t0 := 0) (k := (h - 1) * 32 + i) dP_deepen_24 rfl rfl (z_pl _ _) (by omega) (by decide) ?_
    refine z_istore_n dP_deepen_25 (by decide) rfl ?_
    try simp only [List.set_cons_succ, List.set_cons_zero]
    refine z_aload_n dP_deepen_26 rfl ?_
    refine z_get (C := RP) (T := TP) (N := 4) (ref := "ToneMixer$Plane") 2 dP_deepen_27 rfl rfl rfl (by decide) (fun w h => bwT (hbP w h)) (bwT b_31) rfl ?_
    refine z_istore dP_deepen_30 (by decide) rfl ?_
    try simp only [List.set_cons_succ, List.set_cons_zero]
    refine l_deepen_i (f := dpn h nh f i) hw1 hh1 hw hh hn hn2 hR hC hS hE (i := i) (by omega) _ ?_ (nh - h) 0 (by omega)
    refine z_iinc1 dP_deepen_56 (by decide) rfl rfl ?_
    try simp only [List.set_cons_succ, List.set_cons_zero]
    refine z_goto (tgt := 2) dP_deepen_59 (by decide) ?_
    rw [nI_1]
    exact ih (i + 1) (by omega) _ _
end
set_option maxRecDepth 100000 in
set_option maxHeartbeats 4000000 in
theorem c_deepen (l : Launch) (D : va_G) (ca : Nat → ClassId) (ad : Nat → Nat) (f g : Nat → Int32) (sa : Nat → Nat) (w h nh : Nat) (hw1 : 1 ≤ w) (hh1 : 1 ≤ h) (hw : w ≤ 32) (hh : h ≤ 32) (hn : h ≤ nh) (hn2 : nh ≤ 32) : zMet l yP_deepen wP_deepen (rmk 1 0 0) (zEx sa) (gG D ca ad) (pw3 ca f g (nI w) (nI h)) [.ref 0, .int (nI nh)] (fun r aw => r = none ∧ aw = pw3 ca (dpn h nh f w) g (nI w) (nI nh)) := by
  refine zMet.of (cc := cP_deepen) (maxL := 5) (ret := none) (lv := [some (.ref 0), some (.int (nI nh)), none, none, none]) (by decide) rfl (Nat.le_of_ble_eq_true rfl) rfl (fun M hl0 hR hC hS hE hret => ?_)
  refine z_iconst (v := 0) dP_deepen_0 (by decide) ?_
  refine z_istore_n dP_deepen_1 (by decide) rfl ?_
  try simp only [List.set_cons_succ, List.set_cons_zero]
  refine l_deepen_o (f := f) hw1 hh1 hw hh hn hn2 hR hC hS hE (fun o3 o4 => ?_) w 0 (by omega) none none
  refine z_aload_n dP_deepen_62 rfl ?_
  refine z_iload_n dP_deepen_63 rfl ?_
  refine z_put (C := RP) (T := TP) (N := 4) (ref := "ToneMixer$Plane") (ty := .int) 2 tyP dP_deepen_64 rfl rfl (by decide) (fun w h => bwT (hbP w h)) (bwT b_31) rfl tyP_ok nmP rfl (by decide +kernel) (fun _ => ⟨rfl, rfl⟩) (Nat.le_of_ble_eq_true rfl) ?_
  try simp only [List.set_cons_succ, List.set_cons_zero]
  exact z_return dP_deepen_67 hret ⟨Nat.le_of_eq hC, Nat.le_of_eq hS⟩ rfl ⟨rfl, rfl⟩
section
variable {M : zM} {D : va_G} {ca : Nat → ClassId} {ad : Nat → Nat} {f g : Nat → Int32} {w h : Nat} {sa : Nat → Nat} {f2 g2 : Nat → Int32} {w2 h2 : Nat}
set_option maxRecDepth 100000 in
set_option maxHeartbeats 4000000 in
theorem l_greatestDifference_x (hw : w ≤ 32) (hh : h ≤ 32) (hR : zroom M = rmk 1 0 0) (hC : zcells M = 0) (hS : zslots M = 0) (hE : zEn M (zEx sa)) {y : Nat} (hy : y < h) (acc : Int32)
    (k : ∀ p, Zj M (gG D ca ad) cP_greatestDifference 6 RP wP_greatestDifference (some .int) (pw6 ca f g f2 g2 (nI w) (nI h) (nI w2) (nI h2)) [some (.ref 0), some (.ref 3), some (.int (rowF (fun a b => if a < b then b else a) (fun j => zab (f j - f2 j)) y w acc)), some (.int (nI y)), some (.int (nI w)), p] [] 61) :
    ∀ n x, x + n = w → ∀ p, Zj M (gG D ca ad) cP_greatestDifference 6 RP wP_greatestDifference (some .int) (pw6 ca f g f2 g2 (nI w) (nI h) (nI w2) (nI h2)) [some (.ref 0), some (.ref 3), some (.int (rowF (fun a b => if a < b then b else a) (fun j => zab (f j - f2 j)) y x acc)), some (.int (nI y)), some (.int (nI x)), p] [] 15 := by
  intro n
  induction n with
  | zero =>
    intro x hx p
    obtain rfl : x = w := by omega
    refine z_iload dP_greatestDifference_15 rfl ?_
    refine z_aload_n dP_greatestDifference_17 rfl ?_
    refine z_get (C := RP) (T := TP) (N := 4) (ref := "ToneMixer$Plane") 1 dP_greatestDifference_18 rfl rfl rfl (by decide) (fun w h => bwT (hbP w h)) (bwT b_29) rfl ?_
    exact z_icmp_ge (tgt := 61) dP_greatestDifference_21 (by decide) (fun _ => k p) (fun hc => absurd (nI_le (Nat.le_refl _) (by omega)) hc)
  | succ n ih =>
    intro x hx p
    refine z_iload dP_greatestDifference_15 rfl ?_
    refine z_aload_n dP_greatestDifference_17 rfl ?_
    refine z_get (C := RP) (T := TP) (N := 4) (ref := "ToneMixer$Plane") 1 dP_greatestDifference_18 rfl rfl rfl (by decide) (fun w h => bwT (hbP w h)) (bwT b_29) rfl ?_
    refine z_icmp_ge (tgt := 61) dP_greatestDifference_21 (by decide) (fun hc => absurd hc (nI_ge (by omega) (by omega))) (fun _ => ?_)
    refine z_iload dP_greatestDifference_24 rfl ?_
    refine z_iload_n dP_greatestDifference_26 rfl ?_
    refine z_pure (z_SN (host := "ToneMixer") hE zEok_0 (hE.2.2.1 _ (List.mem_of_getElem? (i := 0) rfl)) (c_placeOf _ _ _ _) dP_greatestDifference_27 (gd_0 b_62) (bwT b_61) (bwT b_1) rfl qT_placeOf.2 ⟨rfl, rfl⟩ (by rw [hR]; decide) (by rw [hR, hC, hS]; decide) rfl (Nat.le_of_ble_eq_true rfl)) (fun r hr => ?_)
    subst hr
    simp only [zpush, zv]
    rw [z_pl]
    refine z_istore dP_greatestDifference_30 (by decide) rfl ?_
    try simp only [List.set_cons_succ, List.set_cons_zero]
    refine z_iload_n dP_greatestDifference_32 rfl ?_
    refine z_aload_n dP_greatestDifference_33 rfl ?_
    refine z_get (C := RP) (T := TP) (N := 4) (ref := "ToneMixer$Plane") 0 dP_greatestDifference_34 rfl rfl rfl (by decide) (fun w h => bwT (hbP w h)) (bwT b_27) rfl ?_
    refine z_iload dP_greatestDifference_37 rfl ?_
    refine z_ialdN (t0 := 0) (k := y * 32 + x) dP_greatestDifference_39 rfl rfl (rfl) (by omega) (by decide) ?_
    refine z_aload_n dP_greatestDifference_40 rfl ?_
    refine z_get (C := RP) (T := TP) (N := 4) (ref := "ToneMixer$Plane") 0 dP_greatestDifference_41 rfl rfl rfl (by decide) (fun w h => bwT (hbP w h)) (bwT b_27) rfl ?_
    refine z_iload dP_greatestDifference_44 rfl ?_
    refine z_ialdN (t0 := 0) (k := y * 32 + x) dP_greatestDifference_46 rfl rfl (rfl) (by omega) (by decide) ?_
    refine z_isub dP_greatestDifference_47 ?_
    refine z_mabs dP_greatestDifference_48 (bwT b_357) (bwT b_358) (bwT b_10) (bwT b_359) (zmR hR ⟨Nat.le_of_ble_eq_true rfl, Nat.le_of_ble_eq_true rfl⟩) (zmC hR hC hS (by decide)) ?_
    refine z_mmax dP_greatestDifference_51 (bwT b_360) (bwT b_83) (bwT b_10) (bwT b_84) (zmR hR ⟨Nat.le_of_ble_eq_true rfl, Nat.le_of_ble_eq_true rfl⟩) (zmC hR hC hS (by decide)) ?_
    refine z_istore_n dP_greatestDifference_54 (by decide) rfl ?_
    try simp only [List.set_cons_succ, List.set_cons_zero]
    refine z_iinc1 dP_greatestDifference_55 (by decide) rfl rfl ?_
    try simp only [List.set_cons_succ, List.set_cons_zero]
    refine z_goto (tgt := 15) dP_greatestDifference_58 (by decide) ?_
    rw [nI_1]
    exact ih (x + 1) (by omega) _
set_option maxRecDepth 100000 in
set_option maxHeartbeats 4000000 in
theorem l_greatestDifference_y (hw : w ≤ 32) (hh : h ≤ 32) (hR : zroom M = rmk 1 0 0) (hC : zcells M = 0) (hS : zslots M = 0) (hE : zEn M (zEx sa)) (acc : Int32)
    (k : ∀ o p, Zj M (gG D ca ad) cP_greatestDifference 6 RP wP_greatestDifference (some .int) (pw6 ca f g f2 g2 (nI w) (nI h) (nI w2) (nI h2)) [some (.ref 0), some (.ref 3), some (.int (allF (fun a b => if a < b then b else a) (fun j => zab (f j - f2 j)) w h acc)), some (.int (nI h)), o, p] [] 67) :
    ∀ n y, y + n = h → ∀ o p, Zj M (gG D ca ad) cP_greatestDifference 6 RP wP_greatestDifference (some .int) (pw6 ca f g f2 g2 (nI w) (nI h) (nI w2) (nI h2)) [some (.ref 0), some (.ref 3), some (.int (allF (fun a b => if a < b then b else a) (fun j => zab (f j - f2 j)) w y acc)), some (.int (nI y)), o, p] [] 4 := by
  intro n
  induction n with
  | zero =>
    intro y hy o p
    obtain rfl : y = h := by omega
    refine z_iload_n dP_greatestDifference_4 rfl ?_
    refine z_aload_n dP_greatestDifference_5 rfl ?_
    refine z_get (C := RP) (T := TP) (N := 4) (ref := "ToneMixer$Plane") 2 dP_greatestDifference_6 rfl rfl rfl (by decide) (fun w h => bwT (hbP w h)) (bwT b_31) rfl ?_
    exact z_icmp_ge (tgt := 67) dP_greatestDifference_9 (by decide) (fun _ => k o p) (fun hc => absurd (nI_le (Nat.le_refl _) (by omega)) hc)
  | succ n ih =>
    intro y hy o p
    refine z_iload_n dP_greatestDifference_4 rfl ?_
    refine z_aload_n dP_greatestDifference_5 rfl ?_
    refine z_get (C := RP) (T := TP) (N := 4) (ref := "ToneMixer$Plane") 2 dP_greatestDifference_6 rfl rfl rfl (by decide) (fun w h => bwT (hbP w h)) (bwT b_31) rfl ?_
    refine z_icmp_ge (tgt := 67) dP_greatestDifference_9 (by decide) (fun hc => absurd hc (nI_ge (by omega) (by omega))) (fun _ => ?_)
    refine z_iconst (v := 0) dP_greatestDifference_12 (by decide) ?_
    refine z_istore dP_greatestDifference_13 (by decide) rfl ?_
    try simp only [List.set_cons_succ, List.set_cons_zero]
    refine l_greatestDifference_x hw hh hR hC hS hE (y := y) (by omega) (allF (fun a b => if a < b then b else a) (fun j => zab (f j - f2 j)) w y acc) (fun p => ?_) w 0 (by omega) _
    refine z_iinc1 dP_greatestDifference_61 (by decide) rfl rfl ?_
    try simp only [List.set_cons_succ, List.set_cons_zero]
    refine z_goto (tgt := 4) dP_greatestDifference_64 (by decide) ?_
    rw [nI_1]
    exact ih (y + 1) (by omega) _ _
end
set_option maxRecDepth 100000 in
set_option maxHeartbeats 4000000 in
theorem c_greatestDifference (l : Launch) (D : va_G) (ca : Nat → ClassId) (ad : Nat → Nat) (f g : Nat → Int32) (sa : Nat → Nat) (w h : Nat) (f2 g2 : Nat → Int32) (w2 h2 : Nat) (hw : w ≤ 32) (hh : h ≤ 32) : zMet l yP_greatestDifference wP_greatestDifference (rmk 1 0 0) (zEx sa) (gG D ca ad) (pw6 ca f g f2 g2 (nI w) (nI h) (nI w2) (nI h2)) [.ref 0, .ref 3] (fun r aw => r = some (.int (allF (fun a b => if a < b then b else a) (fun j => zab (f j - f2 j)) w h 0)) ∧ aw = pw6 ca f g f2 g2 (nI w) (nI h) (nI w2) (nI h2)) := by
  refine zMet.of (cc := cP_greatestDifference) (maxL := 6) (ret := some .int) (lv := [some (.ref 0), some (.ref 3), none, none, none, none]) (by decide) rfl (Nat.le_of_ble_eq_true rfl) rfl (fun M hl0 hR hC hS hE hret => ?_)
  refine z_iconst (v := 0) dP_greatestDifference_0 (by decide) ?_
  refine z_istore_n dP_greatestDifference_1 (by decide) rfl ?_
  try simp only [List.set_cons_succ, List.set_cons_zero]
  refine z_iconst (v := 0) dP_greatestDifference_2 (by decide) ?_
  refine z_istore_n dP_greatestDifference_3 (by decide) rfl ?_
  try simp only [List.set_cons_succ, List.set_cons_zero]
  refine l_greatestDifference_y hw hh hR hC hS hE 0 (fun o p => ?_) h 0 (by omega) _ _
  refine z_iload_n dP_greatestDifference_67 rfl ?_
  exact z_ireturn dP_greatestDifference_68 rfl hret ⟨Nat.le_of_eq hC, Nat.le_of_eq hS⟩ rfl ⟨rfl, rfl⟩
section
variable {M : zM} {D : va_G} {ca : Nat → ClassId} {ad : Nat → Nat} {f g : Nat → Int32} {w h : Nat} {sa : Nat → Nat} 
set_option maxRecDepth 100000 in
set_option maxHeartbeats 4000000 in
theorem l_greatestDifference_self_x (hw : w ≤ 32) (hh : h ≤ 32) (hR : zroom M = rmk 1 0 0) (hC : zcells M = 0) (hS : zslots M = 0) (hE : zEn M (zEx sa)) {y : Nat} (hy : y < h) (acc : Int32)
    (k : ∀ p, Zj M (gG D ca ad) cP_greatestDifference 6 RP wP_greatestDifference (some .int) (pw3 ca f g (nI w) (nI h)) [some (.ref 0), some (.ref 0), some (.int (rowF (fun a b => if a < b then b else a) (fun j => zab (f j - f j)) y w acc)), some (.int (nI y)), some (.int (nI w)), p] [] 61) :
    ∀ n x, x + n = w → ∀ p, Zj M (gG D ca ad) cP_greatestDifference 6 RP wP_greatestDifference (some .int) (pw3 ca f g (nI w) (nI h)) [some (.ref 0), some (.ref 0), some (.int (rowF (fun a b => if a < b then b else a) (fun j => zab (f j - f j)) y x acc)), some (.int (nI y)), some (.int (nI x)), p] [] 15 := by
  intro n
  induction n with
  | zero =>
    intro x hx p
    obtain rfl : x = w := by omega
    refine z_iload dP_greatestDifference_15 rfl ?_
    refine z_aload_n dP_greatestDifference_17 rfl ?_
    refine z_get (C := RP) (T := TP) (N := 4) (ref := "ToneMixer$Plane") 1 dP_greatestDifference_18 rfl rfl rfl (by decide) (fun w h => bwT (hbP w h)) (bwT b_29) rfl ?_
    exact z_icmp_ge (tgt := 61) dP_greatestDifference_21 (by decide) (fun _ => k p) (fun hc => absurd (nI_le (Nat.le_refl _) (by omega)) hc)
  | succ n ih =>
    intro x hx p
    refine z_iload dP_greatestDifference_15 rfl ?_
    refine z_aload_n dP_greatestDifference_17 rfl ?_
    refine z_get (C := RP) (T := TP) (N := 4) (ref := "ToneMixer$Plane") 1 dP_greatestDifference_18 rfl rfl rfl (by decide) (fun w h => bwT (hbP w h)) (bwT b_29) rfl ?_
    refine z_icmp_ge (tgt := 61) dP_greatestDifference_21 (by decide) (fun hc => absurd hc (nI_ge (by omega) (by omega))) (fun _ => ?_)
    refine z_iload dP_greatestDifference_24 rfl ?_
    refine z_iload_n dP_greatestDifference_26 rfl ?_
    refine z_pure (z_SN (host := "ToneMixer") hE zEok_0 (hE.2.2.1 _ (List.mem_of_getElem? (i := 0) rfl)) (c_placeOf _ _ _ _) dP_greatestDifference_27 (gd_0 b_62) (bwT b_61) (bwT b_1) rfl qT_placeOf.2 ⟨rfl, rfl⟩ (by rw [hR]; decide) (by rw [hR, hC, hS]; decide) rfl (Nat.le_of_ble_eq_true rfl)) (fun r hr => ?_)
    subst hr
    simp only [zpush, zv]
    rw [z_pl]
    refine z_istore dP_greatestDifference_30 (by decide) rfl ?_
    try simp only [List.set_cons_succ, List.set_cons_zero]
    refine z_iload_n dP_greatestDifference_32 rfl ?_
    refine z_aload_n dP_greatestDifference_33 rfl ?_
    refine z_get (C := RP) (T := TP) (N := 4) (ref := "ToneMixer$Plane") 0 dP_greatestDifference_34 rfl rfl rfl (by decide) (fun w h => bwT (hbP w h)) (bwT b_27) rfl ?_
    refine z_iload dP_greatestDifference_37 rfl ?_
    refine z_ialdN (t0 := 0) (k := y * 32 + x) dP_greatestDifference_39 rfl rfl (rfl) (by omega) (by decide) ?_
    refine z_aload_n dP_greatestDifference_40 rfl ?_
    refine z_get (C := RP) (T := TP) (N := 4) (ref := "ToneMixer$Plane") 0 dP_greatestDifference_41 rfl rfl rfl (by decide) (fun w h => bwT (hbP w h)) (bwT b_27) rfl ?_
    refine z_iload dP_greatestDifference_44 rfl ?_
    refine z_ialdN (t0 := 0) (k := y * 32 + x) dP_greatestDifference_46 rfl rfl (rfl) (by omega) (by decide) ?_
    refine z_isub dP_greatestDifference_47 ?_
    refine z_mabs dP_greatestDifference_48 (bwT b_357) (bwT b_358) (bwT b_10) (bwT b_359) (zmR hR ⟨Nat.le_of_ble_eq_true rfl, Nat.le_of_ble_eq_true rfl⟩) (zmC hR hC hS (by decide)) ?_
    refine z_mmax dP_greatestDifference_51 (bwT b_360) (bwT b_83) (bwT b_10) (bwT b_84) (zmR hR ⟨Nat.le_of_ble_eq_true rfl, Nat.le_of_ble_eq_true rfl⟩) (zmC hR hC hS (by decide)) ?_
    refine z_istore_n dP_greatestDifference_54 (by decide) rfl ?_
    try simp only [List.set_cons_succ, List.set_cons_zero]
    refine z_iinc1 dP_greatestDifference_55 (by decide) rfl rfl ?_
    try simp only [List.set_cons_succ, List.set_cons_zero]
    refine z_goto (tgt := 15) dP_greatestDifference_58 (by decide) ?_
    rw [nI_1]
    exact ih (x + 1) (by omega) _
set_option maxRecDepth 100000 in
set_option maxHeartbeats 4000000 in
theorem l_greatestDifference_self_y (hw : w ≤ 32) (hh : h ≤ 32) (hR : zroom M = rmk 1 0 0) (hC : zcells M = 0) (hS : zslots M = 0) (hE : zEn M (zEx sa)) (acc : Int32)
    (k : ∀ o p, Zj M (gG D ca ad) cP_greatestDifference 6 RP wP_greatestDifference (some .int) (pw3 ca f g (nI w) (nI h)) [some (.ref 0), some (.ref 0), some (.int (allF (fun a b => if a < b then b else a) (fun j => zab (f j - f j)) w h acc)), some (.int (nI h)), o, p] [] 67) :
    ∀ n y, y + n = h → ∀ o p, Zj M (gG D ca ad) cP_greatestDifference 6 RP wP_greatestDifference (some .int) (pw3 ca f g (nI w) (nI h)) [some (.ref 0), some (.ref 0), some (.int (allF (fun a b => if a < b then b else a) (fun j => zab (f j - f j)) w y acc)), some (.int (nI y)), o, p] [] 4 := by
  intro n
  induction n with
  | zero =>
    intro y hy o p
    obtain rfl : y = h := by omega
    refine z_iload_n dP_greatestDifference_4 rfl ?_
    refine z_aload_n dP_greatestDifference_5 rfl ?_
    refine z_get (C := RP) (T := TP) (N := 4) (ref := "ToneMixer$Plane") 2 dP_greatestDifference_6 rfl rfl rfl (by decide) (fun w h => bwT (hbP w h)) (bwT b_31) rfl ?_
    exact z_icmp_ge (tgt := 67) dP_greatestDifference_9 (by decide) (fun _ => k o p) (fun hc => absurd (nI_le (Nat.le_refl _) (by omega)) hc)
  | succ n ih =>
    intro y hy o p
    refine z_iload_n dP_greatestDifference_4 rfl ?_
    refine z_aload_n dP_greatestDifference_5 rfl ?_
    refine z_get (C := RP) (T := TP) (N := 4) (ref := "ToneMixer$Plane") 2 dP_greatestDifference_6 rfl rfl rfl (by decide) (fun w h => bwT (hbP w h)) (bwT b_31) rfl ?_
    refine z_icmp_ge (tgt := 67) dP_greatestDifference_9 (by decide) (fun hc => absurd hc (nI_ge (by omega) (by omega))) (fun _ => ?_)
    refine z_iconst (v := 0) dP_greatestDifference_12 (by decide) ?_
    refine z_istore dP_greatestDifference_13 (by decide) rfl ?_
    try simp only [List.set_cons_succ, List.set_cons_zero]
    refine l_greatestDifference_self_x hw hh hR hC hS hE (y := y) (by omega) (allF (fun a b => if a < b then b else a) (fun j => zab (f j - f j)) w y acc) (fun p => ?_) w 0 (by omega) _
    refine z_iinc1 dP_greatestDifference_61 (by decide) rfl rfl ?_
    try simp only [List.set_cons_succ, List.set_cons_zero]
    refine z_goto (tgt := 4) dP_greatestDifference_64 (by decide) ?_
    rw [nI_1]
    exact ih (y + 1) (by omega) _ _
end
set_option maxRecDepth 100000 in
set_option maxHeartbeats 4000000 in
theorem c_greatestDifference_self (l : Launch) (D : va_G) (ca : Nat → ClassId) (ad : Nat → Nat) (f g : Nat → Int32) (sa : Nat → Nat) (w h : Nat)  (hw : w ≤ 32) (hh : h ≤ 32) : zMet l yP_greatestDifference wP_greatestDifference (rmk 1 0 0) (zEx sa) (gG D ca ad) (pw3 ca f g (nI w) (nI h)) [.ref 0, .ref 0] (fun r aw => r = some (.int (allF (fun a b => if a < b then b else a) (fun j => zab (f j - f j)) w h 0)) ∧ aw = pw3 ca f g (nI w) (nI h)) := by
  refine zMet.of (cc := cP_greatestDifference) (maxL := 6) (ret := some .int) (lv := [some (.ref 0), some (.ref 0), none, none, none, none]) (by decide) rfl (Nat.le_of_ble_eq_true rfl) rfl (fun M hl0 hR hC hS hE hret => ?_)
  refine z_iconst (v := 0) dP_greatestDifference_0 (by decide) ?_
  refine z_istore_n dP_greatestDifference_1 (by decide) rfl ?_
  try simp only [List.set_cons_succ, List.set_cons_zero]
  refine z_iconst (v := 0) dP_greatestDifference_2 (by decide) ?_
  refine z_istore_n dP_greatestDifference_3 (by decide) rfl ?_
  try simp only [List.set_cons_succ, List.set_cons_zero]
  refine l_greatestDifference_self_y hw hh hR hC hS hE 0 (fun o p => ?_) h 0 (by omega) _ _
  refine z_iload_n dP_greatestDifference_67 rfl ?_
  exact z_ireturn dP_greatestDifference_68 rfl hret ⟨Nat.le_of_eq hC, Nat.le_of_eq hS⟩ rfl ⟨rfl, rfl⟩
end
section
/-- the array after i places are filled -/
def fil (v : Int32) (f : Nat → Int32) : Nat → (Nat → Int32)
  | 0 => f
  | i + 1 => upd (fil v f i) i v
section
variable {M : zM} {D : va_G} {ca : Nat → ClassId} {ad : Nat → Nat} {f : Nat → Int32} {v : Int32} {n : Nat}
set_option maxRecDepth 100000 in
set_option maxHeartbeats 4000000 in
theorem l_fill (hn : n < 2 ^ 31) (k : Zj M (gG D ca ad) cA_fill 4 RA wA_fill none [.inl (ca 0, n, .inl (fil v f n))] [some (.ref 0), some (.int v), some (.int (nI n)), some (.int (nI n))] [] 20) :
    ∀ r i, i + r = n → Zj M (gG D ca ad) cA_fill 4 RA wA_fill none [.inl (ca 0, n, .inl (fil v f i))] [some (.ref 0), some (.int v), some (.int (nI i)), some (.int (nI n))] [] 5 := by
  intro r
  induction r with
  | zero =>
    intro i hi
    obtain rfl : i = n := by omega
    refine z_iload_n dA_fill_5 rfl ?_
    refine z_iload_n dA_fill_6 rfl ?_
    exact z_icmp_ge (tgt := 20) dA_fill_7 (by decide) (fun _ => k) (fun hc => absurd (nI_le (Nat.le_refl _) (by omega)) hc)
  | succ r ih =>
    intro i hi
    refine z_iload_n dA_fill_5 rfl ?_
    refine z_iload_n dA_fill_6 rfl ?_
    refine z_icmp_ge (tgt := 20) dA_fill_7 (by decide) (fun hc => absurd hc (nI_ge (by omega) (by omega))) (fun _ => ?_)
    refine z_aload_n dA_fill_10 rfl ?_
    refine z_iload_n dA_fill_11 rfl ?_
    refine z_iload_n dA_fill_12 rfl ?_
    refine z_iastN (t0 := 0) (k := i) dA_fill_13 rfl rfl rfl (by omega) hn ?_
    try simp only [List.set_cons_succ, List.set_cons_zero]
    refine z_iinc1 dA_fill_14 (by decide) rfl rfl ?_
    try simp only [List.set_cons_succ, List.set_cons_zero]
    refine z_goto (tgt := 5) dA_fill_17 (by decide) ?_
    rw [nI_1]
    exact ih (i + 1) (by omega)
end
set_option maxRecDepth 100000 in
set_option maxHeartbeats 4000000 in
theorem c_fill (l : Launch) (D : va_G) (ca : Nat → ClassId) (ad : Nat → Nat) (f : Nat → Int32) (v : Int32) (n : Nat) (hn : n < 2 ^ 31) : zMet l yA_fill wA_fill (rmk 0 0 0) zE0 (gG D ca ad) [.inl (ca 0, n, .inl f)] [.ref 0, .int v] (fun r aw => r = none ∧ aw = [.inl (ca 0, n, .inl (fil v f n))]) := by
  refine zMet.of (cc := cA_fill) (maxL := 4) (ret := none) (lv := [some (.ref 0), some (.int v), none, none]) (by decide) rfl (Nat.le_of_ble_eq_true rfl) rfl (fun M hl0 hR hC hS hE hret => ?_)
  refine z_iconst (v := 0) dA_fill_0 (by decide) ?_
  refine z_istore_n dA_fill_1 (by decide) rfl ?_
  try simp only [List.set_cons_succ, List.set_cons_zero]
  refine z_aload_n dA_fill_2 rfl ?_
  refine z_alen (t0 := 0) (v := nI n) dA_fill_3 rfl rfl rfl ?_
  refine z_istore_n dA_fill_4 (by decide) rfl ?_
  try simp only [List.set_cons_succ, List.set_cons_zero]
  refine l_fill (f := f) hn ?_ n 0 (by omega)
  exact z_return dA_fill_20 hret ⟨Nat.le_of_eq hC, Nat.le_of_eq hS⟩ rfl ⟨rfl, rfl⟩
set_option maxRecDepth 100000 in
set_option maxHeartbeats 4000000 in
theorem c_empty (l : Launch) (D : va_G) (ca : Nat → ClassId) (ad : Nat → Nat) (f g : Nat → Int32) (w h w2 h2 : Int32) : zMet l yP_empty wP_empty (rmk 1 0 0) zE0 (gG D ca ad) (pw3 ca f g w h) [.ref 0, .int w2, .int h2] (fun r aw => r = none ∧ aw = pw3 ca (fil 0 f 1024) g w2 h2) := by
  refine zMet.of (cc := cP_empty) (maxL := 3) (ret := none) (lv := [some (.ref 0), some (.int w2), some (.int h2)]) (by decide) rfl (Nat.le_of_ble_eq_true rfl) rfl (fun M hl0 hR hC hS hE hret => ?_)
  refine z_aload_n dP_empty_0 rfl ?_
  refine z_get (C := RP) (T := TP) (N := 4) (ref := "ToneMixer$Plane") 0 dP_empty_1 rfl rfl rfl (by decide) (fun w h => bwT (hbP w h)) (bwT b_27) rfl ?_
  refine z_iconst (v := 0) dP_empty_4 (by decide) ?_
  refine z_part [1] (z_S hE zEok_0 (c_fill _ D ca _ f 0 1024 (by decide)) dP_empty_5 (gd_S b_215 b_216 b_9 b_217) rfl qA_fill.2 ⟨rfl, rfl⟩ (by rw [hR]; decide) (by rw [hR, hC, hS]; decide) rfl (Nat.le_of_ble_eq_true rfl)) (by decide) rfl (fun r aw1 hlen hr => ?_)
  obtain ⟨rfl, rfl⟩ := hr
  simp only [zpush, zput, zc, List.set_cons_succ, List.set_cons_zero]
  refine z_aload_n dP_empty_8 rfl ?_
  refine z_iload_n dP_empty_9 rfl ?_
  refine z_put (C := RP) (T := TP) (N := 4) (ref := "ToneMixer$Plane") (ty := .int) 1 tyP dP_empty_10 rfl rfl (by decide) (fun w h => bwT (hbP w h)) (bwT b_29) rfl tyP_ok nmP rfl (by decide +kernel) (fun _ => ⟨rfl, rfl⟩) (Nat.le_of_ble_eq_true rfl) ?_
  try simp only [List.set_cons_succ, List.set_cons_zero]
  refine z_aload_n dP_empty_13 rfl ?_
  refine z_iload_n dP_empty_14 rfl ?_
  refine z_put (C := RP) (T := TP) (N := 4) (ref := "ToneMixer$Plane") (ty := .int) 2 tyP dP_empty_15 rfl rfl (by decide) (fun w h => bwT (hbP w h)) (bwT b_31) rfl tyP_ok nmP rfl (by decide +kernel) (fun _ => ⟨rfl, rfl⟩) (Nat.le_of_ble_eq_true rfl) ?_
  try simp only [List.set_cons_succ, List.set_cons_zero]
  exact z_return dP_empty_18 hret ⟨Nat.le_of_eq hC, Nat.le_of_eq hS⟩ rfl ⟨rfl, rfl⟩
set_option maxRecDepth 100000 in
set_option maxHeartbeats 4000000 in
theorem c_becomeLike (l : Launch) (D : va_G) (ca : Nat → ClassId) (ad : Nat → Nat) (f g : Nat → Int32) (w h : Int32) (f2 g2 : Nat → Int32) (w2 h2 : Int32) : zMet l yP_becomeLike wP_becomeLike (rmk 1 0 0) zE0 (gG D ca ad) (pw6 ca f g f2 g2 w h w2 h2) [.ref 0, .ref 3] (fun r aw => r = none ∧ aw = pw6 ca (va_cpy f2 f 0 0 1024) g f2 g2 w2 h2 w2 h2) := by
  refine zMet.of (cc := cP_becomeLike) (maxL := 2) (ret := none) (lv := [some (.ref 0), some (.ref 3)]) (by decide) rfl (Nat.le_of_ble_eq_true rfl) rfl (fun M hl0 hR hC hS hE hret => ?_)
  refine z_aload_n dP_becomeLike_0 rfl ?_
  refine z_get (C := RP) (T := TP) (N := 4) (ref := "ToneMixer$Plane") 0 dP_becomeLike_1 rfl rfl rfl (by decide) (fun w h => bwT (hbP w h)) (bwT b_27) rfl ?_
  refine z_iconst (v := 0) dP_becomeLike_4 (by decide) ?_
  refine z_aload_n dP_becomeLike_5 rfl ?_
  refine z_get (C := RP) (T := TP) (N := 4) (ref := "ToneMixer$Plane") 0 dP_becomeLike_6 rfl rfl rfl (by decide) (fun w h => bwT (hbP w h)) (bwT b_27) rfl ?_
  refine z_iconst (v := 0) dP_becomeLike_9 (by decide) ?_
  refine z_aload_n dP_becomeLike_10 rfl ?_
  refine z_get (C := RP) (T := TP) (N := 4) (ref := "ToneMixer$Plane") 0 dP_becomeLike_11 rfl rfl rfl (by decide) (fun w h => bwT (hbP w h)) (bwT b_27) rfl ?_
  refine z_alen (t0 := 0) (v := 1024) dP_becomeLike_14 rfl rfl rfl ?_
  refine z_copyi (s9 := 0) (d9 := 0) (k9 := 1024) dP_becomeLike_15 (bwT b_307) (bwT b_309) (bwT b_308) (bwT b_11) rfl rfl (t0 := 0) rfl rfl rfl rfl (by decide) (by decide) (by decide) (by decide) (zmR hR ⟨Nat.le_of_ble_eq_true rfl, Nat.le_of_ble_eq_true rfl⟩) ?_
  try simp only [List.set_cons_succ, List.set_cons_zero]
  refine z_aload_n dP_becomeLike_18 rfl ?_
  refine z_aload_n dP_becomeLike_19 rfl ?_
  refine z_get (C := RP) (T := TP) (N := 4) (ref := "ToneMixer$Plane") 1 dP_becomeLike_20 rfl rfl rfl (by decide) (fun w h => bwT (hbP w h)) (bwT b_29) rfl ?_
  refine z_put (C := RP) (T := TP) (N := 4) (ref := "ToneMixer$Plane") (ty := .int) 1 tyP dP_becomeLike_23 rfl rfl (by decide) (fun w h => bwT (hbP w h)) (bwT b_29) rfl tyP_ok nmP rfl (by decide +kernel) (fun _ => ⟨rfl, rfl⟩) (Nat.le_of_ble_eq_true rfl) ?_
  try simp only [List.set_cons_succ, List.set_cons_zero]
  refine z_aload_n dP_becomeLike_26 rfl ?_
  refine z_aload_n dP_becomeLike_27 rfl ?_
  refine z_get (C := RP) (T := TP) (N := 4) (ref := "ToneMixer$Plane") 2 dP_becomeLike_28 rfl rfl rfl (by decide) (fun w h => bwT (hbP w h)) (bwT b_31) rfl ?_
  refine z_put (C := RP) (T := TP) (N := 4) (ref := "ToneMixer$Plane") (ty := .int) 2 tyP dP_becomeLike_31 rfl rfl (by decide) (fun w h => bwT (hbP w h)) (bwT b_31) rfl tyP_ok nmP rfl (by decide +kernel) (fun _ => ⟨rfl, rfl⟩) (Nat.le_of_ble_eq_true rfl) ?_
  try simp only [List.set_cons_succ, List.set_cons_zero]
  exact z_return dP_becomeLike_34 hret ⟨Nat.le_of_eq hC, Nat.le_of_eq hS⟩ rfl ⟨rfl, rfl⟩
set_option maxRecDepth 100000 in
set_option maxHeartbeats 4000000 in
theorem c_becomeLike_self (l : Launch) (D : va_G) (ca : Nat → ClassId) (ad : Nat → Nat) (f g : Nat → Int32) (w h : Int32)  : zMet l yP_becomeLike wP_becomeLike (rmk 1 0 0) zE0 (gG D ca ad) (pw3 ca f g w h) [.ref 0, .ref 0] (fun r aw => r = none ∧ aw = pw3 ca (va_cpy f f 0 0 1024) g w h) := by
  refine zMet.of (cc := cP_becomeLike) (maxL := 2) (ret := none) (lv := [some (.ref 0), some (.ref 0)]) (by decide) rfl (Nat.le_of_ble_eq_true rfl) rfl (fun M hl0 hR hC hS hE hret => ?_)
  refine z_aload_n dP_becomeLike_0 rfl ?_
  refine z_get (C := RP) (T := TP) (N := 4) (ref := "ToneMixer$Plane") 0 dP_becomeLike_1 rfl rfl rfl (by decide) (fun w h => bwT (hbP w h)) (bwT b_27) rfl ?_
  refine z_iconst (v := 0) dP_becomeLike_4 (by decide) ?_
  refine z_aload_n dP_becomeLike_5 rfl ?_
  refine z_get (C := RP) (T := TP) (N := 4) (ref := "ToneMixer$Plane") 0 dP_becomeLike_6 rfl rfl rfl (by decide) (fun w h => bwT (hbP w h)) (bwT b_27) rfl ?_
  refine z_iconst (v := 0) dP_becomeLike_9 (by decide) ?_
  refine z_aload_n dP_becomeLike_10 rfl ?_
  refine z_get (C := RP) (T := TP) (N := 4) (ref := "ToneMixer$Plane") 0 dP_becomeLike_11 rfl rfl rfl (by decide) (fun w h => bwT (hbP w h)) (bwT b_27) rfl ?_
  refine z_alen (t0 := 0) (v := 1024) dP_becomeLike_14 rfl rfl rfl ?_
  refine z_copyi (s9 := 0) (d9 := 0) (k9 := 1024) dP_becomeLike_15 (bwT b_307) (bwT b_309) (bwT b_308) (bwT b_11) rfl rfl (t0 := 0) rfl rfl rfl rfl (by decide) (by decide) (by decide) (by decide) (zmR hR ⟨Nat.le_of_ble_eq_true rfl, Nat.le_of_ble_eq_true rfl⟩) ?_
  try simp only [List.set_cons_succ, List.set_cons_zero]
  refine z_aload_n dP_becomeLike_18 rfl ?_
  refine z_aload_n dP_becomeLike_19 rfl ?_
  refine z_get (C := RP) (T := TP) (N := 4) (ref := "ToneMixer$Plane") 1 dP_becomeLike_20 rfl rfl rfl (by decide) (fun w h => bwT (hbP w h)) (bwT b_29) rfl ?_
  refine z_put (C := RP) (T := TP) (N := 4) (ref := "ToneMixer$Plane") (ty := .int) 1 tyP dP_becomeLike_23 rfl rfl (by decide) (fun w h => bwT (hbP w h)) (bwT b_29) rfl tyP_ok nmP rfl (by decide +kernel) (fun _ => ⟨rfl, rfl⟩) (Nat.le_of_ble_eq_true rfl) ?_
  try simp only [List.set_cons_succ, List.set_cons_zero]
  refine z_aload_n dP_becomeLike_26 rfl ?_
  refine z_aload_n dP_becomeLike_27 rfl ?_
  refine z_get (C := RP) (T := TP) (N := 4) (ref := "ToneMixer$Plane") 2 dP_becomeLike_28 rfl rfl rfl (by decide) (fun w h => bwT (hbP w h)) (bwT b_31) rfl ?_
  refine z_put (C := RP) (T := TP) (N := 4) (ref := "ToneMixer$Plane") (ty := .int) 2 tyP dP_becomeLike_31 rfl rfl (by decide) (fun w h => bwT (hbP w h)) (bwT b_31) rfl tyP_ok nmP rfl (by decide +kernel) (fun _ => ⟨rfl, rfl⟩) (Nat.le_of_ble_eq_true rfl) ?_
  try simp only [List.set_cons_succ, List.set_cons_zero]
  exact z_return dP_becomeLike_34 hret ⟨Nat.le_of_eq hC, Nat.le_of_eq hS⟩ rfl ⟨rfl, rfl⟩
end
section
/-! the whole mixer's world: the object, its row of planes, four planes of three cells -/
def tw (ca : Nat → ClassId) (f g : Nat → Nat → Int32) (w h : Nat → Int32) : List va_E := [.inr (0, [.ref 1]), .inl (ca 2, 4, .inr (.inr (.inr (.inr (fun j => some (2 + 3 * j)))))),
  .inr (1, [.ref 3, .int (w 0), .int (h 0), .ref 4]), .inl (ca 0, 1024, .inl (f 0)), .inl (ca 0, 32, .inl (g 0)),
  .inr (1, [.ref 6, .int (w 1), .int (h 1), .ref 7]), .inl (ca 0, 1024, .inl (f 1)), .inl (ca 0, 32, .inl (g 1)),
  .inr (1, [.ref 9, .int (w 2), .int (h 2), .ref 10]), .inl (ca 0, 1024, .inl (f 2)), .inl (ca 0, 32, .inl (g 2)),
  .inr (1, [.ref 12, .int (w 3), .int (h 3), .ref 13]), .inl (ca 0, 1024, .inl (f 3)), .inl (ca 0, 32, .inl (g 3))]
def plx (k : Nat) : List Nat := [2 + 3 * k, 3 + 3 * k, 4 + 3 * k]
section
variable {ca : Nat → ClassId} {f g : Nat → Nat → Int32} {w h : Nat → Int32} {k : Nat}
theorem k4 (hk : k < 4) : k = 0 ∨ k = 1 ∨ k = 2 ∨ k = 3 := by omega
theorem tw_pl (hk : k < 4) : (tw ca f g w h)[2 + 3 * k]? = some (.inr (1, [.ref (3 + 3 * k), .int (w k), .int (h k), .ref (4 + 3 * k)])) := by
  rcases k4 hk with rfl | rfl | rfl | rfl <;> rfl
theorem tw_sm (hk : k < 4) : (tw ca f g w h)[3 + 3 * k]? = some (.inl (ca 0, 1024, .inl (f k))) := by
  rcases k4 hk with rfl | rfl | rfl | rfl <;> rfl
theorem tw_in (hk : k < 4) : (plx k).map (fun i => (tw ca f g w h)[i]?) = (pw3 ca (f k) (g k) (w k) (h k)).map (fun e => some (zc (zix (plx k)) e)) := by
  rcases k4 hk with rfl | rfl | rfl | rfl <;> rfl
theorem plx_nd (k : Nat) : (plx k).Nodup := by simp [plx]
theorem tw_put (hk : k < 4) (f' g' : Nat → Int32) (w' h' : Int32) : zput (zix (plx k)) (plx k) (tw ca f g w h) (pw3 ca f' g' w' h') = tw ca (va_up f k f') (va_up g k g') (va_up w k w') (va_up h k h') := by
  rcases k4 hk with rfl | rfl | rfl | rfl <;> rfl
theorem va_upk {α : Type} (f : Nat → α) (k : Nat) : va_up f k (f k) = f := by
  funext j; unfold va_up; split
  · next h => rw [h]
  · rfl
theorem tw_put0 (hk : k < 4) : zput (zix (plx k)) (plx k) (tw ca f g w h) (pw3 ca (f k) (g k) (w k) (h k)) = tw ca f g w h := by
  rw [tw_put hk, va_upk, va_upk, va_upk, va_upk]
theorem tw_setf (hk : k < 4) (f' : Nat → Int32) : (tw ca f g w h).set (3 + 3 * k) (.inl (ca 0, 1024, .inl f')) = tw ca (va_up f k f') g w h := by
  rcases k4 hk with rfl | rfl | rfl | rfl <;> rfl
theorem tw_setp (hk : k < 4) (w' h' : Int32) : (tw ca f g w h).set (2 + 3 * k) (.inr (1, [.ref (3 + 3 * k), .int w', .int h', .ref (4 + 3 * k)])) = tw ca f g (va_up w k w') (va_up h k h') := by
  rcases k4 hk with rfl | rfl | rfl | rfl <;> rfl
end

set_option maxRecDepth 100000 in
set_option maxHeartbeats 4000000 in
theorem c_planeOf (l : Launch) (hl9 : l.stackTraces = false) (D : va_G) (ca : Nat → ClassId) (ad : Nat → Nat) (sa : Nat → Nat) (f g : Nat → Nat → Int32) (w h : Nat → Int32) (n : Int32) : zXet l yT_planeOf wT_planeOf (rmk 6 1 6) 1 6 (zEx sa) (gG D ca ad) (tw ca f g w h) [.ref 0, .int n] (fun r aw => aw = tw ca f g w h ∧ ∃ k : Nat, k < 4 ∧ n = nI k ∧ r = some (.ref (2 + 3 * k))) (fun E => E = IOB ∧ (n < 0 ∨ 4 ≤ n)) := by
  refine zXet.of (cc := cT_planeOf) (maxL := 2) (ret := some (.object RP)) (lv := [some (.ref 0), some (.int n)]) (by decide) rfl (Nat.le_of_ble_eq_true rfl) rfl (fun M hl0 hR hC hS hE hX => ?_)
  have k9 : (n < 0 ∨ 4 ≤ n) → Zj M (gG D ca ad) cT_planeOf 2 RT wT_planeOf (some (.object RP)) (tw ca f g w h) [some (.ref 0), some (.int n)] [] 9 := fun hb => by
    exact z_throw (cls := IOB) (names := EXN) (text := "no such plane") (sa := sa 2) (by rw [hl0]; exact hl9) hX hE (⟨rfl, hb⟩) dT_planeOf_9 dT_planeOf_12 dT_planeOf_13 dT_planeOf_15 dT_planeOf_18 (List.mem_of_getElem? (i := 2) rfl) af_O af_N (bwT b_128) (bwT b_7) (fun w h => bwT (at_O w h)) an_O ag_O (by rw [hR]; decide) (by rw [hR, hC, hS]; decide) (by rw [hC, hS]; decide)
  refine z_iload_n dT_planeOf_0 rfl ?_
  refine z_if_lt (tgt := 9) dT_planeOf_1 (by decide) (fun c1 => k9 (Or.inl c1)) (fun c1 => ?_)
  refine z_iload_n dT_planeOf_4 rfl ?_
  refine z_iconst (v := 4) dT_planeOf_5 (by decide) ?_
  refine z_icmp_lt (tgt := 19) dT_planeOf_6 (by decide) (fun c2 => ?_) (fun c2 => k9 (Or.inr (Int32.not_lt.mp c2)))
  obtain ⟨k, hk, rfl⟩ : ∃ k : Nat, k < 4 ∧ n = nI k := by
    obtain ⟨k, h1, rfl⟩ := nI_of c1
    refine ⟨k, ?_, rfl⟩
    rcases Nat.lt_or_ge k 4 with q | q
    · exact q
    · exact absurd c2 (nI_nlt q h1)
  refine z_aload_n dT_planeOf_19 rfl ?_
  refine z_get (C := RT) (T := TT) (N := 1) (ref := "ToneMixer") 0 dT_planeOf_20 rfl rfl rfl (by decide) (fun w h => bwT (hbT w h)) (bwT b_44) rfl ?_
  refine z_iload_n dT_planeOf_23 rfl ?_
  refine z_aaldN (t0 := 2) (k := k) dT_planeOf_24 rfl rfl (rfl) (hk) (by decide) rfl ?_
  exact z_areturn dT_planeOf_25 hX.ret (by rw [hC, hS]; decide) rfl ⟨rfl, k, hk, rfl, rfl⟩
end
section
/-! the mixer's calls, over the four planes' contents f, their lines g, their sides w and h -/
abbrev twn (ca : Nat → ClassId) (f g : Nat → Nat → Int32) (w h : Nat → Nat) : List va_E := tw ca f g (fun k => nI (w k)) (fun k => nI (h k))
def okW (w h : Nat → Nat) : Prop := ∀ k, k < 4 → 1 ≤ w k ∧ w k ≤ 32 ∧ 1 ≤ h k ∧ h k ≤ 32
theorem va_upn (w : Nat → Nat) (k n : Nat) : va_up (fun k => nI (w k)) k (nI n) = fun j => nI (va_up w k n j) := by
  funext j; unfold va_up; split <;> rfl
theorem va_upn0 (w : Nat → Nat) (k : Nat) : va_up (fun k => nI (w k)) k (nI (w k)) = fun j => nI (w j) := va_upk (fun k => nI (w k)) k
/-- there is no plane n -/
def noP (n : Int32) : Prop := n < 0 ∨ 4 ≤ n
theorem noP_k {k : Nat} (hk : k < 4) : ¬ noP (nI k) := by
  rintro (q | q)
  · exact nI_pos (by omega) q
  · exact nI_ge hk (by omega) q
theorem hasB_of {w h : Nat} {x y : Int32} (hw : w ≤ 32) (hh : h ≤ 32) (hb : hasB (nI w) (nI h) x y = true) : ∃ a b : Nat, a < w ∧ b < h ∧ x = nI a ∧ y = nI b := by
  simp only [hasB, decide_eq_true_eq] at hb
  obtain ⟨h1, h2, h3, h4⟩ := hb
  obtain ⟨a, ha, rfl⟩ := nI_of h1
  obtain ⟨b, hb, rfl⟩ := nI_of h3
  refine ⟨a, b, ?_, ?_, rfl, rfl⟩
  · rcases Nat.lt_or_ge a w with q | q
    · exact q
    · exact absurd (nI_le q ha) h2
  · rcases Nat.lt_or_ge b h with q | q
    · exact q
    · exact absurd (nI_le q hb) h4
set_option maxRecDepth 100000 in
set_option maxHeartbeats 4000000 in
theorem c_planeWith (l : Launch) (hl9 : l.stackTraces = false) (D : va_G) (ca : Nat → ClassId) (ad : Nat → Nat) (sa : Nat → Nat) (f g : Nat → Nat → Int32) (w h : Nat → Nat) (hwh : okW w h) (n x y : Int32) : zXet l yT_planeWith wT_planeWith (rmk 7 2 12) 2 12 (zEx sa) (gG D ca ad) (twn ca f g w h) [.ref 0, .int n, .int x, .int y] (fun r aw => aw = twn ca f g w h ∧ ∃ k a b : Nat, k < 4 ∧ n = nI k ∧ a < w k ∧ b < h k ∧ x = nI a ∧ y = nI b ∧ r = some (.ref (2 + 3 * k))) (fun E => E = IOB ∧ (noP n ∨ ∃ k : Nat, k < 4 ∧ n = nI k ∧ hasB (nI (w k)) (nI (h k)) x y = false)) := by
  refine zXet.of (cc := cT_planeWith) (maxL := 5) (ret := some (.object RP)) (lv := [some (.ref 0), some (.int n), some (.int x), some (.int y), none]) (by decide) rfl (Nat.le_of_ble_eq_true rfl) rfl (fun M hl0 hR hC hS hE hX => ?_)
  refine z_aload_n dT_planeWith_0 rfl ?_
  refine z_iload_n dT_planeWith_1 rfl ?_
  refine zx_same (zx_V (C := RT) (b := 0) hE (zEok_ev _ _ _ _) (c_planeOf _ (by rw [hl0]; exact hl9) D ca ad sa f g _ _ n) dT_planeWith_2 (gd_V b_124 b_126 bs_8 b_1 b_127) rfl qT_planeOf ⟨rfl, rfl⟩ (by rw [hR]; decide) (by rw [hR, hC, hS]; decide) rfl (Nat.le_of_ble_eq_true rfl) rfl rfl) hX (fun E h => ⟨h.1, Or.inl h.2⟩) (by rw [hC, hS]; decide) (fun r aw1 hlen hr => ?_)
  obtain ⟨N, hN⟩ : ∃ N, N = zup M 1 6 := ⟨_, rfl⟩
  rw [← hN]
  replace hl0 := (by rw [hN, zup_l0]; exact hl0 : zl0 N = l)
  replace hR := (show zroom N = zroom M by rw [hN, zup_room]).trans hR
  replace hC := (by rw [hN, zup_cells, hC] : zcells N = 1)
  replace hS := (by rw [hN, zup_slots, hS] : zslots N = 6)
  replace hE := (by rw [hN]; exact zup_En hE : zEn N (zEx sa))
  replace hX := (by rw [hN]; exact zup_RetX hX : zRetX N _ _ _ _ _ _)
  clear hN
  obtain ⟨rfl, k, hk, rfl, rfl⟩ := hr
  simp only [zpush, zv]
  refine z_astore dT_planeWith_5 (by decide) rfl ?_
  try simp only [List.set_cons_succ, List.set_cons_zero]
  refine z_aload dT_planeWith_7 rfl ?_
  refine z_iload_n dT_planeWith_9 rfl ?_
  refine z_iload_n dT_planeWith_10 rfl ?_
  refine z_part (plx k) (z_V (C := RP) (b := 0) hE zEok_0 (c_has _ D ca _ (f k) (g k) (nI (w k)) (nI (h k)) x y) dT_planeWith_11 (gd_V b_229 b_230 b_231 b_2 b_232) rfl qP_has ⟨rfl, rfl⟩ (by rw [hR]; decide) (by rw [hR, hC, hS]; decide) rfl (Nat.le_of_ble_eq_true rfl) rfl rfl) (plx_nd k) (tw_in hk) (fun r aw1 hlen hr => ?_)
  obtain ⟨rfl, rfl⟩ := hr
  rw [tw_put0 hk]
  simp only [zpush, zv]
  by_cases hb : hasB (nI (w k)) (nI (h k)) x y = true
  · rw [if_pos hb]
    refine z_if_ne (tgt := 27) dT_planeWith_14 (by decide) (fun _ => ?_) (fun hc => absurd hc (by decide))
    refine z_aload dT_planeWith_27 rfl ?_
    obtain ⟨a, b, ha, hb2, rfl, rfl⟩ := hasB_of (hwh k hk).2.1 (hwh k hk).2.2.2 hb
    exact z_areturn dT_planeWith_29 hX.ret (by rw [hC, hS]; decide) rfl ⟨rfl, k, a, b, hk, rfl, ha, hb2, rfl, rfl, rfl⟩
  · rw [if_neg hb]
    refine z_if_ne (tgt := 27) dT_planeWith_14 (by decide) (fun hc => absurd rfl hc) (fun _ => ?_)
    exact z_throw (cls := IOB) (names := EXN) (text := "no such sample") (sa := sa 3) (by rw [hl0]; exact hl9) hX hE (⟨rfl, Or.inr ⟨k, hk, rfl, by simpa using hb⟩⟩) dT_planeWith_17 dT_planeWith_20 dT_planeWith_21 dT_planeWith_23 dT_planeWith_26 (List.mem_of_getElem? (i := 3) rfl) af_O af_N (bwT b_128) (bwT b_7) (fun w h => bwT (at_O w h)) an_O ag_O (by rw [hR]; decide) (by rw [hR, hC, hS]; decide) (by rw [hC, hS]; decide)
end
section
theorem inN {x : Int32} {n : Nat} (hn : n < 2 ^ 31) (h1 : ¬ x < 1) (h2 : ¬ nI n < x) : ∃ a : Nat, x = nI a ∧ 1 ≤ a ∧ a ≤ n := by
  have h0 : ¬ x < 0 := fun q => h1 (by rw [Int32.lt_iff_toInt_lt] at q ⊢; rw [show (0 : Int32).toInt = 0 by decide] at q; rw [show (1 : Int32).toInt = 1 by decide]; omega)
  obtain ⟨a, ha, rfl⟩ := nI_of h0
  refine ⟨a, rfl, ?_, ?_⟩
  · rcases Nat.eq_zero_or_pos a with q | q
    · subst q; exact absurd (by decide) h1
    · exact q
  · rcases Nat.lt_or_ge n a with q | q
    · exact absurd (nI_lt q ha) h2
    · exact q
theorem in32 {x : Int32} (h1 : ¬ x < 1) (h2 : ¬ 32 < x) : ∃ a : Nat, x = nI a ∧ 1 ≤ a ∧ a ≤ 32 := inN (n := 32) (by decide) h1 h2
theorem hasB_nI {a b w h : Nat} (ha : a < w) (hb : b < h) (hw : w < 2 ^ 31) (hh : h < 2 ^ 31) : hasB (nI w) (nI h) (nI a) (nI b) = true := by
  simp only [hasB, decide_eq_true_eq]
  exact ⟨nI_pos (by omega), nI_ge ha hw, nI_pos (by omega), nI_ge hb hh⟩
def badS (w h : Int32) : Prop := w < 1 ∨ 32 < w ∨ h < 1 ∨ 32 < h
set_option maxRecDepth 100000 in
set_option maxHeartbeats 4000000 in
theorem c_size (l : Launch) (hl9 : l.stackTraces = false) (D : va_G) (ca : Nat → ClassId) (ad : Nat → Nat) (sa : Nat → Nat) (f g : Nat → Nat → Int32) (w h : Nat → Nat) (hwh : okW w h) (n p q : Int32) : zXet l yT_size wT_size (rmk 7 2 12) 2 12 (zEx sa) (gG D ca ad) (twn ca f g w h) [.ref 0, .int n, .int p, .int q] (fun r aw => ∃ k w2 h2 : Nat, k < 4 ∧ n = nI k ∧ p = nI w2 ∧ q = nI h2 ∧ 1 ≤ w2 ∧ w2 ≤ 32 ∧ 1 ≤ h2 ∧ h2 ≤ 32 ∧ r = none ∧ aw = twn ca (va_up f k (fil 0 (f k) 1024)) g (va_up w k w2) (va_up h k h2)) (fun E => (E = IOB ∧ noP n) ∨ (E = IAE ∧ ¬ noP n ∧ badS p q)) := by
  refine zXet.of (cc := cT_size) (maxL := 5) (ret := none) (lv := [some (.ref 0), some (.int n), some (.int p), some (.int q), none]) (by decide) rfl (Nat.le_of_ble_eq_true rfl) rfl (fun M hl0 hR hC hS hE hX => ?_)
  refine z_aload_n dT_size_0 rfl ?_
  refine z_iload_n dT_size_1 rfl ?_
  refine zx_same (zx_V (C := RT) (b := 0) hE (zEok_ev _ _ _ _) (c_planeOf _ (by rw [hl0]; exact hl9) D ca ad sa f g _ _ n) dT_size_2 (gd_V b_124 b_126 bs_8 b_1 b_127) rfl qT_planeOf ⟨rfl, rfl⟩ (by rw [hR]; decide) (by rw [hR, hC, hS]; decide) rfl (Nat.le_of_ble_eq_true rfl) rfl rfl) hX (fun E h => Or.inl h) (by rw [hC, hS]; decide) (fun r aw1 hlen hr => ?_)
  obtain ⟨N, hN⟩ : ∃ N, N = zup M 1 6 := ⟨_, rfl⟩
  rw [← hN]
  replace hl0 := (by rw [hN, zup_l0]; exact hl0 : zl0 N = l)
  replace hR := (show zroom N = zroom M by rw [hN, zup_room]).trans hR
  replace hC := (by rw [hN, zup_cells, hC] : zcells N = 1)
  replace hS := (by rw [hN, zup_slots, hS] : zslots N = 6)
  replace hE := (by rw [hN]; exact zup_En hE : zEn N (zEx sa))
  replace hX := (by rw [hN]; exact zup_RetX hX : zRetX N _ _ _ _ _ _)
  clear hN
  obtain ⟨rfl, k, hk, rfl, rfl⟩ := hr
  simp only [zpush, zv]
  refine z_astore dT_size_5 (by decide) rfl ?_
  try simp only [List.set_cons_succ, List.set_cons_zero]
  have k29 : badS p q → Zj N (gG D ca ad) cT_size 5 RT wT_size none (twn ca f g w h) [some (.ref 0), some (.int (nI k)), some (.int p), some (.int q), some (.ref (2 + 3 * k))] [] 29 := fun hb => by
    exact z_throw (cls := IAE) (names := EXN) (text := "a side is not 1 .. 32") (sa := sa 0) (by rw [hl0]; exact hl9) hX hE (Or.inr ⟨rfl, noP_k hk, hb⟩) dT_size_29 dT_size_32 dT_size_33 dT_size_35 dT_size_38 (List.mem_of_getElem? (i := 0) rfl) af_A af_N (bwT b_195) (bwT b_8) (fun w h => bwT (at_A w h)) an_A ag_A (by rw [hR]; decide) (by rw [hR, hC, hS]; decide) (by rw [hC, hS]; decide)
  refine z_iload_n dT_size_7 rfl ?_
  refine z_iconst (v := 1) dT_size_8 (by decide) ?_
  refine z_icmp_lt (tgt := 29) dT_size_9 (by decide) (fun c1 => k29 (Or.inl c1)) (fun c1 => ?_)
  refine z_iload_n dT_size_12 rfl ?_
  refine z_bipush (v := 32) dT_size_13 (by decide) ?_
  refine z_icmp_gt (tgt := 29) dT_size_15 (by decide) (fun c2 => k29 (Or.inr (Or.inl c2))) (fun c2 => ?_)
  refine z_iload_n dT_size_18 rfl ?_
  refine z_iconst (v := 1) dT_size_19 (by decide) ?_
  refine z_icmp_lt (tgt := 29) dT_size_20 (by decide) (fun c3 => k29 (Or.inr (Or.inr (Or.inl c3)))) (fun c3 => ?_)
  refine z_iload_n dT_size_23 rfl ?_
  refine z_bipush (v := 32) dT_size_24 (by decide) ?_
  refine z_icmp_le (tgt := 39) dT_size_26 (by decide) (fun c4 => ?_) (fun c4 => k29 (Or.inr (Or.inr (Or.inr (Int32.not_le.mp c4)))))
  obtain ⟨w2, rfl, b1, b2⟩ := in32 c1 c2
  obtain ⟨h2, rfl, b3, b4⟩ := in32 c3 (Int32.not_lt.mpr c4)
  refine z_aload dT_size_39 rfl ?_
  refine z_iload_n dT_size_41 rfl ?_
  refine z_iload_n dT_size_42 rfl ?_
  refine z_part (plx k) (z_V (C := RP) (b := 0) hE zEok_0 (c_empty _ D ca _ (f k) (g k) (nI (w k)) (nI (h k)) (nI w2) (nI h2)) dT_size_43 (gd_V b_211 b_212 b_213 b_2 b_214) rfl qP_empty ⟨rfl, rfl⟩ (by rw [hR]; decide) (by rw [hR, hC, hS]; decide) rfl (Nat.le_of_ble_eq_true rfl) rfl rfl) (plx_nd k) (tw_in hk) (fun r aw1 hlen hr => ?_)
  obtain ⟨rfl, rfl⟩ := hr
  rw [tw_put hk, va_upk, va_upn, va_upn]
  simp only [zpush]
  exact z_return dT_size_46 hX.ret (by rw [hC, hS]; decide) rfl ⟨k, w2, h2, hk, rfl, rfl, rfl, b1, b2, b3, b4, rfl, rfl⟩
set_option maxRecDepth 100000 in
set_option maxHeartbeats 4000000 in
theorem c_put (l : Launch) (hl9 : l.stackTraces = false) (D : va_G) (ca : Nat → ClassId) (ad : Nat → Nat) (sa : Nat → Nat) (f g : Nat → Nat → Int32) (w h : Nat → Nat) (hwh : okW w h) (n x y v : Int32) : zXet l yT_put wT_put (rmk 8 3 18) 3 18 (zEx sa) (gG D ca ad) (twn ca f g w h) [.ref 0, .int n, .int x, .int y, .int v] (fun r aw => ∃ k a b c : Nat, k < 4 ∧ n = nI k ∧ a < w k ∧ b < h k ∧ x = nI a ∧ y = nI b ∧ v = nI c ∧ c ≤ 255 ∧ r = none ∧ aw = twn ca (va_up f k (upd (f k) (b * 32 + a) v)) g w h) (fun E => (E = IOB ∧ (noP n ∨ ∃ k : Nat, k < 4 ∧ n = nI k ∧ hasB (nI (w k)) (nI (h k)) x y = false)) ∨ (E = IAE ∧ ¬ (noP n ∨ ∃ k : Nat, k < 4 ∧ n = nI k ∧ hasB (nI (w k)) (nI (h k)) x y = false) ∧ (v < 0 ∨ 255 < v))) := by
  refine zXet.of (cc := cT_put) (maxL := 6) (ret := none) (lv := [some (.ref 0), some (.int n), some (.int x), some (.int y), some (.int v), none]) (by decide) rfl (Nat.le_of_ble_eq_true rfl) rfl (fun M hl0 hR hC hS hE hX => ?_)
  refine z_aload_n dT_put_0 rfl ?_
  refine z_iload_n dT_put_1 rfl ?_
  refine z_iload_n dT_put_2 rfl ?_
  refine z_iload_n dT_put_3 rfl ?_
  refine zx_same (zx_V (C := RT) (b := 0) hE (zEok_ev _ _ _ _) (c_planeWith _ (by rw [hl0]; exact hl9) D ca ad sa f g w h hwh n x y) dT_put_4 (gd_V b_225 b_227 bs_10 b_1 b_228) rfl qT_planeWith ⟨rfl, rfl⟩ (by rw [hR]; decide) (by rw [hR, hC, hS]; decide) rfl (Nat.le_of_ble_eq_true rfl) rfl rfl) hX (fun E h => Or.inl h) (by rw [hC, hS]; decide) (fun r aw1 hlen hr => ?_)
  obtain ⟨N, hN⟩ : ∃ N, N = zup M 2 12 := ⟨_, rfl⟩
  rw [← hN]
  replace hl0 := (by rw [hN, zup_l0]; exact hl0 : zl0 N = l)
  replace hR := (show zroom N = zroom M by rw [hN, zup_room]).trans hR
  replace hC := (by rw [hN, zup_cells, hC] : zcells N = 2)
  replace hS := (by rw [hN, zup_slots, hS] : zslots N = 12)
  replace hE := (by rw [hN]; exact zup_En hE : zEn N (zEx sa))
  replace hX := (by rw [hN]; exact zup_RetX hX : zRetX N _ _ _ _ _ _)
  clear hN
  obtain ⟨rfl, k, a, b, hk, rfl, ha, hb, rfl, rfl, rfl⟩ := hr
  simp only [zpush, zv]
  obtain ⟨hk1, hk2, hk3, hk4⟩ := hwh k hk
  refine z_astore dT_put_7 (by decide) rfl ?_
  try simp only [List.set_cons_succ, List.set_cons_zero]
  have hno : ¬ (noP (nI k) ∨ ∃ k' : Nat, k' < 4 ∧ nI k = nI k' ∧ hasB (nI (w k')) (nI (h k')) (nI a) (nI b) = false) := by
    rintro (q | ⟨k', hk', e1, e2⟩)
    · exact noP_k hk q
    · obtain rfl : k = k' := (nI_eq (by omega) (by omega)).mp e1
      rw [hasB_nI ha hb (by omega) (by omega)] at e2
      cases e2
  have k22 : (v < 0 ∨ 255 < v) → Zj N (gG D ca ad) cT_put 6 RT wT_put none (twn ca f g w h) [some (.ref 0), some (.int (nI k)), some (.int (nI a)), some (.int (nI b)), some (.int v), some (.ref (2 + 3 * k))] [] 22 := fun hv => by
    exact z_throw (cls := IAE) (names := EXN) (text := "a sample is not 0 .. 255") (sa := sa 1) (by rw [hl0]; exact hl9) hX hE (Or.inr ⟨rfl, hno, hv⟩) dT_put_22 dT_put_25 dT_put_26 dT_put_28 dT_put_31 (List.mem_of_getElem? (i := 1) rfl) af_A af_N (bwT b_195) (bwT b_8) (fun w h => bwT (at_A w h)) an_A ag_A (by rw [hR]; decide) (by rw [hR, hC, hS]; decide) (by rw [hC, hS]; decide)
  refine z_iload dT_put_9 rfl ?_
  refine z_if_lt (tgt := 22) dT_put_11 (by decide) (fun c1 => k22 (Or.inl c1)) (fun c1 => ?_)
  refine z_iload dT_put_14 rfl ?_
  refine z_sipush (v := 255) dT_put_16 (by decide) ?_
  refine z_icmp_le (tgt := 32) dT_put_19 (by decide) (fun c2 => ?_) (fun c2 => k22 (Or.inr (Int32.not_le.mp c2)))
  obtain ⟨c, hc, rfl⟩ := nI_of2 (M := 255) (n := 255) (by decide) c1 c2
  refine z_aload dT_put_32 rfl ?_
  refine z_get (C := RP) (T := TP) (N := 4) (ref := "ToneMixer$Plane") 0 dT_put_34 (tw_pl hk) rfl rfl (by decide) (fun w h => bwT (hbP w h)) (bwT b_28) rfl ?_
  refine z_iload_n dT_put_37 rfl ?_
  refine z_iload_n dT_put_38 rfl ?_
  refine z_pure (z_S hE zEok_0 (c_placeOf _ _ _ _) dT_put_39 (gd_S b_60 b_61 b_1 b_62) rfl qT_placeOf.2 ⟨rfl, rfl⟩ (by rw [hR]; decide) (by rw [hR, hC, hS]; decide) rfl (Nat.le_of_ble_eq_true rfl)) (fun r hr => ?_)
  subst hr
  simp only [zpush, zv]
  rw [z_pl]
  refine z_iload dT_put_42 rfl ?_
  refine z_iastN (t0 := 0) (k := b * 32 + a) dT_put_44 (tw_sm hk) rfl (rfl) (by omega) (by decide) ?_
  rw [tw_setf hk]
  exact z_return dT_put_45 hX.ret (by rw [hC, hS]; decide) rfl ⟨k, a, b, c, hk, rfl, ha, hb, rfl, rfl, rfl, hc, rfl, rfl⟩
set_option maxRecDepth 100000 in
set_option maxHeartbeats 4000000 in
theorem c_at (l : Launch) (hl9 : l.stackTraces = false) (D : va_G) (ca : Nat → ClassId) (ad : Nat → Nat) (sa : Nat → Nat) (f g : Nat → Nat → Int32) (w h : Nat → Nat) (hwh : okW w h) (n x y : Int32) : zXet l yT_at wT_at (rmk 8 2 12) 2 12 (zEx sa) (gG D ca ad) (twn ca f g w h) [.ref 0, .int n, .int x, .int y] (fun r aw => ∃ k a b : Nat, k < 4 ∧ n = nI k ∧ a < w k ∧ b < h k ∧ x = nI a ∧ y = nI b ∧ r = some (.int (f k (b * 32 + a))) ∧ aw = twn ca f g w h) (fun E => E = IOB ∧ (noP n ∨ ∃ k : Nat, k < 4 ∧ n = nI k ∧ hasB (nI (w k)) (nI (h k)) x y = false)) := by
  refine zXet.of (cc := cT_at) (maxL := 4) (ret := some .int) (lv := [some (.ref 0), some (.int n), some (.int x), some (.int y)]) (by decide) rfl (Nat.le_of_ble_eq_true rfl) rfl (fun M hl0 hR hC hS hE hX => ?_)
  refine z_aload_n dT_at_0 rfl ?_
  refine z_iload_n dT_at_1 rfl ?_
  refine z_iload_n dT_at_2 rfl ?_
  refine z_iload_n dT_at_3 rfl ?_
  refine zx_same (zx_V (C := RT) (b := 0) hE (zEok_ev _ _ _ _) (c_planeWith _ (by rw [hl0]; exact hl9) D ca ad sa f g w h hwh n x y) dT_at_4 (gd_V b_225 b_227 bs_10 b_1 b_228) rfl qT_planeWith ⟨rfl, rfl⟩ (by rw [hR]; decide) (by rw [hR, hC, hS]; decide) rfl (Nat.le_of_ble_eq_true rfl) rfl rfl) hX (fun E h => h) (by rw [hC, hS]; decide) (fun r aw1 hlen hr => ?_)
  obtain ⟨N, hN⟩ : ∃ N, N = zup M 2 12 := ⟨_, rfl⟩
  rw [← hN]
  replace hl0 := (by rw [hN, zup_l0]; exact hl0 : zl0 N = l)
  replace hR := (show zroom N = zroom M by rw [hN, zup_room]).trans hR
  replace hC := (by rw [hN, zup_cells, hC] : zcells N = 2)
  replace hS := (by rw [hN, zup_slots, hS] : zslots N = 12)
  replace hE := (by rw [hN]; exact zup_En hE : zEn N (zEx sa))
  replace hX := (by rw [hN]; exact zup_RetX hX : zRetX N _ _ _ _ _ _)
  clear hN
  obtain ⟨rfl, k, a, b, hk, rfl, ha, hb, rfl, rfl, rfl⟩ := hr
  simp only [zpush, zv]
  obtain ⟨hk1, hk2, hk3, hk4⟩ := hwh k hk
  refine z_get (C := RP) (T := TP) (N := 4) (ref := "ToneMixer$Plane") 0 dT_at_7 (tw_pl hk) rfl rfl (by decide) (fun w h => bwT (hbP w h)) (bwT b_28) rfl ?_
  refine z_iload_n dT_at_10 rfl ?_
  refine z_iload_n dT_at_11 rfl ?_
  refine z_pure (z_S hE zEok_0 (c_placeOf _ _ _ _) dT_at_12 (gd_S b_60 b_61 b_1 b_62) rfl qT_placeOf.2 ⟨rfl, rfl⟩ (by rw [hR]; decide) (by rw [hR, hC, hS]; decide) rfl (Nat.le_of_ble_eq_true rfl)) (fun r hr => ?_)
  subst hr
  simp only [zpush, zv]
  rw [z_pl]
  refine z_ialdN (t0 := 0) (k := b * 32 + a) dT_at_15 (tw_sm hk) rfl (rfl) (by omega) (by decide) ?_
  exact z_ireturn dT_at_16 rfl hX.ret (by rw [hC, hS]; decide) rfl ⟨k, a, b, hk, rfl, ha, hb, rfl, rfl, rfl, rfl⟩
def badC (w h : Nat) (p q : Int32) : Prop := p < 1 ∨ nI w < p ∨ q < 1 ∨ nI h < q
set_option maxRecDepth 100000 in
set_option maxHeartbeats 4000000 in
theorem c_cut (l : Launch) (hl9 : l.stackTraces = false) (D : va_G) (ca : Nat → ClassId) (ad : Nat → Nat) (sa : Nat → Nat) (f g : Nat → Nat → Int32) (w h : Nat → Nat) (hwh : okW w h) (n p q : Int32) : zXet l yT_cut wT_cut (rmk 7 1 6) 1 6 (zEx sa) (gG D ca ad) (twn ca f g w h) [.ref 0, .int n, .int p, .int q] (fun r aw => ∃ k : Nat, k < 4 ∧ n = nI k ∧ ((badC (w k) (h k) p q ∧ r = some (.int 0) ∧ aw = twn ca f g w h) ∨ ∃ w2 h2 : Nat, ¬ badC (w k) (h k) p q ∧ p = nI w2 ∧ q = nI h2 ∧ 1 ≤ w2 ∧ w2 ≤ w k ∧ 1 ≤ h2 ∧ h2 ≤ h k ∧ r = some (.int 1) ∧ aw = twn ca f g (va_up w k w2) (va_up h k h2))) (fun E => E = IOB ∧ noP n) := by
  refine zXet.of (cc := cT_cut) (maxL := 5) (ret := some .boolean) (lv := [some (.ref 0), some (.int n), some (.int p), some (.int q), none]) (by decide) rfl (Nat.le_of_ble_eq_true rfl) rfl (fun M hl0 hR hC hS hE hX => ?_)
  refine z_aload_n dT_cut_0 rfl ?_
  refine z_iload_n dT_cut_1 rfl ?_
  refine zx_same (zx_V (C := RT) (b := 0) hE (zEok_ev _ _ _ _) (c_planeOf _ (by rw [hl0]; exact hl9) D ca ad sa f g _ _ n) dT_cut_2 (gd_V b_124 b_126 bs_8 b_1 b_127) rfl qT_planeOf ⟨rfl, rfl⟩ (by rw [hR]; decide) (by rw [hR, hC, hS]; decide) rfl (Nat.le_of_ble_eq_true rfl) rfl rfl) hX (fun E h => h) (by rw [hC, hS]; decide) (fun r aw1 hlen hr => ?_)
  obtain ⟨N, hN⟩ : ∃ N, N = zup M 1 6 := ⟨_, rfl⟩
  rw [← hN]
  replace hl0 := (by rw [hN, zup_l0]; exact hl0 : zl0 N = l)
  replace hR := (show zroom N = zroom M by rw [hN, zup_room]).trans hR
  replace hC := (by rw [hN, zup_cells, hC] : zcells N = 1)
  replace hS := (by rw [hN, zup_slots, hS] : zslots N = 6)
  replace hE := (by rw [hN]; exact zup_En hE : zEn N (zEx sa))
  replace hX := (by rw [hN]; exact zup_RetX hX : zRetX N _ _ _ _ _ _)
  clear hN
  obtain ⟨rfl, k, hk, rfl, rfl⟩ := hr
  simp only [zpush, zv]
  obtain ⟨hk1, hk2, hk3, hk4⟩ := hwh k hk
  refine z_astore dT_cut_5 (by decide) rfl ?_
  try simp only [List.set_cons_succ, List.set_cons_zero]
  have k35 : badC (w k) (h k) p q → Zj N (gG D ca ad) cT_cut 5 RT wT_cut (some .boolean) (twn ca f g w h) [some (.ref 0), some (.int (nI k)), some (.int p), some (.int q), some (.ref (2 + 3 * k))] [] 35 := fun hb => by
    refine z_iconst (v := 0) dT_cut_35 (by decide) ?_
    exact z_ireturn dT_cut_36 rfl hX.ret (by rw [hC, hS]; decide) rfl ⟨k, hk, rfl, Or.inl ⟨hb, rfl, rfl⟩⟩
  refine z_iload_n dT_cut_7 rfl ?_
  refine z_iconst (v := 1) dT_cut_8 (by decide) ?_
  refine z_icmp_lt (tgt := 35) dT_cut_9 (by decide) (fun c1 => k35 (Or.inl c1)) (fun c1 => ?_)
  refine z_iload_n dT_cut_12 rfl ?_
  refine z_aload dT_cut_13 rfl ?_
  refine z_get (C := RP) (T := TP) (N := 4) (ref := "ToneMixer$Plane") 1 dT_cut_15 (tw_pl hk) rfl rfl (by decide) (fun w h => bwT (hbP w h)) (bwT b_30) rfl ?_
  refine z_icmp_gt (tgt := 35) dT_cut_18 (by decide) (fun c2 => k35 (Or.inr (Or.inl c2))) (fun c2 => ?_)
  refine z_iload_n dT_cut_21 rfl ?_
  refine z_iconst (v := 1) dT_cut_22 (by decide) ?_
  refine z_icmp_lt (tgt := 35) dT_cut_23 (by decide) (fun c3 => k35 (Or.inr (Or.inr (Or.inl c3)))) (fun c3 => ?_)
  refine z_iload_n dT_cut_26 rfl ?_
  refine z_aload dT_cut_27 rfl ?_
  refine z_get (C := RP) (T := TP) (N := 4) (ref := "ToneMixer$Plane") 2 dT_cut_29 (tw_pl hk) rfl rfl (by decide) (fun w h => bwT (hbP w h)) (bwT b_32) rfl ?_
  refine z_icmp_le (tgt := 37) dT_cut_32 (by decide) (fun c4 => ?_) (fun c4 => k35 (Or.inr (Or.inr (Or.inr (Int32.not_le.mp c4)))))
  obtain ⟨w2, rfl, b1, b2⟩ := inN (by omega : w k < 2 ^ 31) c1 c2
  obtain ⟨h2, rfl, b3, b4⟩ := inN (by omega : h k < 2 ^ 31) c3 (Int32.not_lt.mpr c4)
  have hnb : ¬ badC (w k) (h k) (nI w2) (nI h2) := by
    rintro (q | q | q | q)
    · exact c1 q
    · exact c2 q
    · exact c3 q
    · exact Int32.not_lt.mpr c4 q
  refine z_aload dT_cut_37 rfl ?_
  refine z_iload_n dT_cut_39 rfl ?_
  refine z_put (C := RP) (T := TP) (N := 4) (ref := "ToneMixer$Plane") (ty := .int) 1 tyP dT_cut_40 (tw_pl hk) rfl (by decide) (fun w h => bwT (hbP w h)) (bwT b_30) rfl tyP_ok nmP rfl (by decide +kernel) (fun _ => ⟨rfl, rfl⟩) (Nat.le_of_ble_eq_true rfl) ?_
  rw [show ([Value.ref (3 + 3 * k), .int (nI (w k)), .int (nI (h k)), .ref (4 + 3 * k)].set 1 (.int (nI w2))) = [.ref (3 + 3 * k), .int (nI w2), .int (nI (h k)), .ref (4 + 3 * k)] from rfl, tw_setp hk, va_upn, va_upn0]
  refine z_aload dT_cut_43 rfl ?_
  refine z_iload_n dT_cut_45 rfl ?_
  refine z_put (C := RP) (T := TP) (N := 4) (ref := "ToneMixer$Plane") (ty := .int) 2 tyP dT_cut_46 (tw_pl (w := fun j => nI (va_up w k w2 j)) hk) rfl (by decide) (fun w h => bwT (hbP w h)) (bwT b_32) rfl tyP_ok nmP rfl (by decide +kernel) (fun _ => ⟨rfl, rfl⟩) (Nat.le_of_ble_eq_true rfl) ?_
  rw [show ([Value.ref (3 + 3 * k), .int (nI (va_up w k w2 k)), .int (nI (h k)), .ref (4 + 3 * k)].set 2 (.int (nI h2))) = [.ref (3 + 3 * k), .int (nI (va_up w k w2 k)), .int (nI h2), .ref (4 + 3 * k)] from rfl, tw_setp (w := fun j => nI (va_up w k w2 j)) hk, va_upn0 (va_up w k w2) k, va_upn]
  refine z_iconst (v := 1) dT_cut_49 (by decide) ?_
  exact z_ireturn dT_cut_50 rfl hX.ret (by rw [hC, hS]; decide) rfl ⟨k, hk, rfl, Or.inr ⟨w2, h2, hnb, rfl, rfl, b1, b2, b3, b4, rfl, rfl⟩⟩
end
section
/-- byte i of a long -/
def rwv (e : Int64) (i : Nat) : Int32 := ((e.toUInt64 >>> (((8 : Int32) * (7 - nI i)).toInt64.toUInt64 &&& Int64.toUInt64 63)).toInt64).toInt32 &&& 255
def rwL (e : Int64) (f : Nat → Int32) (a b : Nat) : Nat → (Nat → Int32)
  | 0 => f
  | i + 1 => upd (rwL e f a b i) (b * 32 + (a + i)) (rwv e i)
section
variable {M : zM} {D : va_G} {ca : Nat → ClassId} {ad : Nat → Nat} {f g : Nat → Nat → Int32} {w h : Nat → Nat} {sa : Nat → Nat} {k a b : Nat} {e : Int64} {E : (Nat → Prop) → State → Prop}
set_option maxRecDepth 100000 in
set_option maxHeartbeats 4000000 in
theorem l_row (hwh : okW w h) (hk : k < 4) (ha : a < w k) (hb : b < h k) (hR : zroom M = rmk 8 2 12) (hC : zcells M = 2) (hS : zslots M = 12) (hE : zEn M E)
    (kx : Zj M (gG D ca ad) cT_row 8 RT wT_row none (twn ca (va_up f k (rwL e (f k) a b (mn 8 (w k - a)))) g w h) [some (.ref 0), some (.int (nI k)), some (.int (nI a)), some (.int (nI b)), some (.long e), none, some (.ref (2 + 3 * k)), some (.int (nI (mn 8 (w k - a))))] [] 64) :
    ∀ n i, i + n = mn 8 (w k - a) → Zj M (gG D ca ad) cT_row 8 RT wT_row none (twn ca (va_up f k (rwL e (f k) a b i)) g w h) [some (.ref 0), some (.int (nI k)), some (.int (nI a)), some (.int (nI b)), some (.long e), none, some (.ref (2 + 3 * k)), some (.int (nI i))] [] 12 := by
  obtain ⟨hk1, hk2, hk3, hk4⟩ := hwh k hk
  have hm : mn 8 (w k - a) ≤ 8 ∧ mn 8 (w k - a) ≤ w k - a ∧ (mn 8 (w k - a) = 8 ∨ mn 8 (w k - a) = w k - a) := by
    unfold mn; split <;> omega
  obtain ⟨hm1, hm2, hm3⟩ := hm
  intro n
  induction n with
  | zero =>
    intro i hi
    obtain rfl : i = mn 8 (w k - a) := by omega
    refine z_iload dT_row_12 rfl ?_
    refine z_bipush (v := 8) dT_row_14 (by decide) ?_
    rw [show (8 : Int32) = nI 8 from rfl]
    refine z_icmp_ge (tgt := 64) dT_row_16 (by decide) (fun _ => kx) (fun hc => ?_)
    have h8 : mn 8 (w k - a) < 8 := by
      rcases Nat.lt_or_ge (mn 8 (w k - a)) 8 with q | q
      · exact q
      · exact absurd (nI_le q (by omega)) hc
    refine z_iload_n dT_row_19 rfl ?_
    refine z_iload dT_row_20 rfl ?_
    refine z_iadd dT_row_22 ?_
    refine z_aload dT_row_23 rfl ?_
    refine z_get (C := RP) (T := TP) (N := 4) (ref := "ToneMixer$Plane") 1 dT_row_25 (tw_pl hk) rfl rfl (by decide) (fun w h => bwT (hbP w h)) (bwT b_30) rfl ?_
    rw [nI_add]
    exact z_icmp_ge (tgt := 64) dT_row_28 (by decide) (fun _ => kx) (fun hc => absurd (nI_le (by omega) (by omega)) hc)
  | succ n ih =>
    intro i hi
    refine z_iload dT_row_12 rfl ?_
    refine z_bipush (v := 8) dT_row_14 (by decide) ?_
    rw [show (8 : Int32) = nI 8 from rfl]
    refine z_icmp_ge (tgt := 64) dT_row_16 (by decide) (fun hc => absurd hc (nI_ge (by omega) (by omega))) (fun _ => ?_)
    refine z_iload_n dT_row_19 rfl ?_
    refine z_iload dT_row_20 rfl ?_
    refine z_iadd dT_row_22 ?_
    refine z_aload dT_row_23 rfl ?_
    refine z_get (C := RP) (T := TP) (N := 4) (ref := "ToneMixer$Plane") 1 dT_row_25 (tw_pl hk) rfl rfl (by decide) (fun w h => bwT (hbP w h)) (bwT b_30) rfl ?_
    rw [nI_add]
    refine z_icmp_ge (tgt := 64) dT_row_28 (by decide) (fun hc => absurd hc (nI_ge (by omega) (by omega))) (fun _ => ?_)
    refine z_aload dT_row_31 rfl ?_
    refine z_get (C := RP) (T := TP) (N := 4) (ref := "ToneMixer$Plane") 0 dT_row_33 (tw_pl hk) rfl rfl (by decide) (fun w h => bwT (hbP w h)) (bwT b_28) rfl ?_
    refine z_iload_n dT_row_36 rfl ?_
    refine z_iload dT_row_37 rfl ?_
    refine z_iadd dT_row_39 ?_
    refine z_iload_n dT_row_40 rfl ?_
    rw [nI_add]
    refine z_pure (z_S hE zEok_0 (c_placeOf _ _ _ _) dT_row_41 (gd_S b_60 b_61 b_1 b_62) rfl qT_placeOf.2 ⟨rfl, rfl⟩ (by rw [hR]; decide) (by rw [hR, hC, hS]; decide) rfl (Nat.le_of_ble_eq_true rfl)) (fun r hr => ?_)
    subst hr
    simp only [zpush, zv]
    rw [z_pl]
    refine z_lload dT_row_44 rfl ?_
    refine z_iload dT_row_46 rfl ?_
    refine z_pure (z_S hE zEok_0 (c_shiftOfByte _ _ _) dT_row_48 (gd_S b_242 b_243 b_1 b_244) rfl qT_shiftOfByte.2 ⟨rfl, rfl⟩ (by rw [hR]; decide) (by rw [hR, hC, hS]; decide) rfl (Nat.le_of_ble_eq_true rfl)) (fun r hr => ?_)
    subst hr
    simp only [zpush, zv]
    refine z_lushr dT_row_51 ?_
    refine z_l2i dT_row_52 ?_
    refine z_sipush (v := 255) dT_row_53 (by decide) ?_
    refine z_iand dT_row_56 ?_
    refine z_iastN (t0 := 0) (k := b * 32 + (a + i)) dT_row_57 (tw_sm hk) rfl (rfl) (by omega) (by decide) ?_
    rw [tw_setf hk]
    refine z_iinc1 dT_row_58 (by decide) rfl rfl ?_
    try simp only [List.set_cons_succ, List.set_cons_zero]
    refine z_goto (tgt := 12) dT_row_61 (by decide) ?_
    rw [nI_1, va_up_self, bx_uu]
    exact ih (i + 1) (by omega)
end
set_option maxRecDepth 100000 in
set_option maxHeartbeats 4000000 in
theorem c_row (l : Launch) (hl9 : l.stackTraces = false) (D : va_G) (ca : Nat → ClassId) (ad : Nat → Nat) (sa : Nat → Nat) (f g : Nat → Nat → Int32) (w h : Nat → Nat) (hwh : okW w h) (n x y : Int32) (e : Int64) : zXet l yT_row wT_row (rmk 8 2 12) 2 12 (zEx sa) (gG D ca ad) (twn ca f g w h) [.ref 0, .int n, .int x, .int y, .long e] (fun r aw => ∃ k a b : Nat, k < 4 ∧ n = nI k ∧ a < w k ∧ b < h k ∧ x = nI a ∧ y = nI b ∧ r = none ∧ aw = twn ca (va_up f k (rwL e (f k) a b (mn 8 (w k - a)))) g w h) (fun E => E = IOB ∧ (noP n ∨ ∃ k : Nat, k < 4 ∧ n = nI k ∧ hasB (nI (w k)) (nI (h k)) x y = false)) := by
  refine zXet.of (cc := cT_row) (maxL := 8) (ret := none) (lv := [some (.ref 0), some (.int n), some (.int x), some (.int y), some (.long e), none, none, none]) (by decide) rfl (Nat.le_of_ble_eq_true rfl) rfl (fun M hl0 hR hC hS hE hX => ?_)
  refine z_aload_n dT_row_0 rfl ?_
  refine z_iload_n dT_row_1 rfl ?_
  refine z_iload_n dT_row_2 rfl ?_
  refine z_iload_n dT_row_3 rfl ?_
  refine zx_same (zx_V (C := RT) (b := 0) hE (zEok_ev _ _ _ _) (c_planeWith _ (by rw [hl0]; exact hl9) D ca ad sa f g w h hwh n x y) dT_row_4 (gd_V b_225 b_227 bs_10 b_1 b_228) rfl qT_planeWith ⟨rfl, rfl⟩ (by rw [hR]; decide) (by rw [hR, hC, hS]; decide) rfl (Nat.le_of_ble_eq_true rfl) rfl rfl) hX (fun E h => h) (by rw [hC, hS]; decide) (fun r aw1 hlen hr => ?_)
  obtain ⟨N, hN⟩ : ∃ N, N = zup M 2 12 := ⟨_, rfl⟩
  rw [← hN]
  replace hl0 := (by rw [hN, zup_l0]; exact hl0 : zl0 N = l)
  replace hR := (show zroom N = zroom M by rw [hN, zup_room]).trans hR
  replace hC := (by rw [hN, zup_cells, hC] : zcells N = 2)
  replace hS := (by rw [hN, zup_slots, hS] : zslots N = 12)
  replace hE := (by rw [hN]; exact zup_En hE : zEn N (zEx sa))
  replace hX := (by rw [hN]; exact zup_RetX hX : zRetX N _ _ _ _ _ _)
  clear hN
  obtain ⟨rfl, k, a, b, hk, rfl, ha, hb, rfl, rfl, rfl⟩ := hr
  simp only [zpush, zv]
  obtain ⟨hk1, hk2, hk3, hk4⟩ := hwh k hk
  refine z_astore dT_row_7 (by decide) rfl ?_
  try simp only [List.set_cons_succ, List.set_cons_zero]
  refine z_iconst (v := 0) dT_row_9 (by decide) ?_
  refine z_istore dT_row_10 (by decide) rfl ?_
  try simp only [List.set_cons_succ, List.set_cons_zero]
  have h1 := l_row (M := N) (D := D) (ca := ca) (ad := ad) (f := f) (g := g) (e := e) hwh hk ha hb hR hC hS hE ?_ (mn 8 (w k - a)) 0 (by omega)
  · simp only [rwL, va_upk] at h1
    exact h1
  exact z_return dT_row_64 hX.ret (by rw [hC, hS]; decide) rfl ⟨k, a, b, hk, rfl, ha, hb, rfl, rfl, rfl, rfl⟩
def eiL (f : Nat → Int32) (w h : Nat) (x y : Int32) : Nat → Int64
  | 0 => 0
  | i + 1 => if hasB (nI w) (nI h) (x + nI i) y = true then eiL f w h x y i ||| ((f (y * 32 + (x + nI i)).toNatClampNeg).toInt64 <<< (((8 : Int32) * (7 - nI i)).toInt64 &&& 63)) else eiL f w h x y i
section
variable {M : zM} {D : va_G} {ca : Nat → ClassId} {ad : Nat → Nat} {f g : Nat → Nat → Int32} {w h : Nat → Nat} {sa : Nat → Nat} {k : Nat} {x y : Int32} {E : (Nat → Prop) → State → Prop}
set_option maxRecDepth 100000 in
set_option maxHeartbeats 4000000 in
theorem l_eight (hwh : okW w h) (hk : k < 4) (hR : zroom M = rmk 7 1 6) (hC : zcells M = 1) (hS : zslots M = 6) (hE : zEn M E)
    (kx : Zj M (gG D ca ad) cT_eight 8 RT wT_eight (some .long) (twn ca f g w h) [some (.ref 0), some (.int (nI k)), some (.int x), some (.int y), some (.ref (2 + 3 * k)), some (.long (eiL (f k) (w k) (h k) x y 8)), none, some (.int (nI 8))] [] 65) :
    ∀ n i, i + n = 8 → Zj M (gG D ca ad) cT_eight 8 RT wT_eight (some .long) (twn ca f g w h) [some (.ref 0), some (.int (nI k)), some (.int x), some (.int y), some (.ref (2 + 3 * k)), some (.long (eiL (f k) (w k) (h k) x y i)), none, some (.int (nI i))] [] 13 := by
  obtain ⟨hk1, hk2, hk3, hk4⟩ := hwh k hk
  intro n
  induction n with
  | zero =>
    intro i hi
    obtain rfl : i = 8 := by omega
    refine z_iload dT_eight_13 rfl ?_
    refine z_bipush (v := 8) dT_eight_15 (by decide) ?_
    exact z_icmp_ge (tgt := 65) dT_eight_17 (by decide) (fun _ => kx) (fun hc => absurd (by decide) hc)
  | succ n ih =>
    intro i hi
    refine z_iload dT_eight_13 rfl ?_
    refine z_bipush (v := 8) dT_eight_15 (by decide) ?_
    rw [show (8 : Int32) = nI 8 from rfl]
    refine z_icmp_ge (tgt := 65) dT_eight_17 (by decide) (fun hc => absurd hc (nI_ge (by omega) (by omega))) (fun _ => ?_)
    refine z_aload dT_eight_20 rfl ?_
    refine z_iload_n dT_eight_22 rfl ?_
    refine z_iload dT_eight_23 rfl ?_
    refine z_iadd dT_eight_25 ?_
    refine z_iload_n dT_eight_26 rfl ?_
    refine z_part (plx k) (z_V (C := RP) (b := 0) hE zEok_0 (c_has _ D ca _ (f k) (g k) (nI (w k)) (nI (h k)) (x + nI i) y) dT_eight_27 (gd_V b_229 b_230 b_231 b_2 b_232) rfl qP_has ⟨rfl, rfl⟩ (by rw [hR]; decide) (by rw [hR, hC, hS]; decide) rfl (Nat.le_of_ble_eq_true rfl) rfl rfl) (plx_nd k) (tw_in hk) (fun r aw1 hlen hr => ?_)
    obtain ⟨rfl, rfl⟩ := hr
    rw [tw_put0 hk]
    simp only [zpush, zv]
    have k59 : Zj M (gG D ca ad) cT_eight 8 RT wT_eight (some .long) (twn ca f g w h) ([some (.ref 0), some (.int (nI k)), some (.int x), some (.int y), some (.ref (2 + 3 * k)), some (.long (eiL (f k) (w k) (h k) x y i)), none, some (.int (nI i))].set 5 (some (.long (eiL (f k) (w k) (h k) x y (i + 1))))) [] 59 := by
      simp only [List.set_cons_succ, List.set_cons_zero]
      refine z_iinc1 dT_eight_59 (by decide) rfl rfl ?_
      try simp only [List.set_cons_succ, List.set_cons_zero]
      refine z_goto (tgt := 13) dT_eight_62 (by decide) ?_
      rw [nI_1]
      exact ih (i + 1) (by omega)
    simp only [List.set_cons_succ, List.set_cons_zero] at k59
    by_cases hb : hasB (nI (w k)) (nI (h k)) (x + nI i) y = true
    · rw [if_pos hb]
      refine z_if_eq (tgt := 59) dT_eight_30 (by decide) (fun hc => absurd hc (by decide)) (fun _ => ?_)
      refine z_lload dT_eight_33 rfl ?_
      refine z_aload dT_eight_35 rfl ?_
      refine z_get (C := RP) (T := TP) (N := 4) (ref := "ToneMixer$Plane") 0 dT_eight_37 (tw_pl hk) rfl rfl (by decide) (fun w h => bwT (hbP w h)) (bwT b_28) rfl ?_
      refine z_iload_n dT_eight_40 rfl ?_
      refine z_iload dT_eight_41 rfl ?_
      refine z_iadd dT_eight_43 ?_
      refine z_iload_n dT_eight_44 rfl ?_
      refine z_pure (z_S hE zEok_0 (c_placeOf _ _ _ _) dT_eight_45 (gd_S b_60 b_61 b_1 b_62) rfl qT_placeOf.2 ⟨rfl, rfl⟩ (by rw [hR]; decide) (by rw [hR, hC, hS]; decide) rfl (Nat.le_of_ble_eq_true rfl)) (fun r hr => ?_)
      subst hr
      simp only [zpush, zv]
      obtain ⟨a, b, ha, hb2, e1, e2⟩ := hasB_of hk2 hk4 hb
      refine z_ialdN (t0 := 0) (k := (y * 32 + (x + nI i)).toNatClampNeg) dT_eight_48 (tw_sm hk) rfl (by rw [e1, e2, z_pl, nI_clamp (by omega)]) (by rw [e1, e2, z_pl, nI_clamp (by omega)]; omega) (by decide) ?_
      refine z_i2l dT_eight_49 ?_
      refine z_iload dT_eight_50 rfl ?_
      refine z_pure (z_S hE zEok_0 (c_shiftOfByte _ _ _) dT_eight_52 (gd_S b_242 b_243 b_1 b_244) rfl qT_shiftOfByte.2 ⟨rfl, rfl⟩ (by rw [hR]; decide) (by rw [hR, hC, hS]; decide) rfl (Nat.le_of_ble_eq_true rfl)) (fun r hr => ?_)
      subst hr
      simp only [zpush, zv]
      refine z_lshl dT_eight_55 ?_
      refine z_lor dT_eight_56 ?_
      refine z_lstore dT_eight_57 (by decide) rfl ?_
      try simp only [List.set_cons_succ, List.set_cons_zero]
      rw [show eiL (f k) (w k) (h k) x y (i + 1) = eiL (f k) (w k) (h k) x y i ||| ((f k (y * 32 + (x + nI i)).toNatClampNeg).toInt64 <<< (((8 : Int32) * (7 - nI i)).toInt64 &&& 63)) by rw [eiL, if_pos hb]] at k59
      exact k59
    · rw [if_neg hb]
      refine z_if_eq (tgt := 59) dT_eight_30 (by decide) (fun _ => ?_) (fun hc => absurd rfl hc)
      rw [show eiL (f k) (w k) (h k) x y (i + 1) = eiL (f k) (w k) (h k) x y i by rw [eiL, if_neg hb]] at k59
      exact k59
end
set_option maxRecDepth 100000 in
set_option maxHeartbeats 4000000 in
theorem c_eight (l : Launch) (hl9 : l.stackTraces = false) (D : va_G) (ca : Nat → ClassId) (ad : Nat → Nat) (sa : Nat → Nat) (f g : Nat → Nat → Int32) (w h : Nat → Nat) (hwh : okW w h) (n x y : Int32) : zXet l yT_eight wT_eight (rmk 7 1 6) 1 6 (zEx sa) (gG D ca ad) (twn ca f g w h) [.ref 0, .int n, .int x, .int y] (fun r aw => ∃ k : Nat, k < 4 ∧ n = nI k ∧ r = some (.long (eiL (f k) (w k) (h k) x y 8)) ∧ aw = twn ca f g w h) (fun E => E = IOB ∧ noP n) := by
  refine zXet.of (cc := cT_eight) (maxL := 8) (ret := (some .long)) (lv := [some (.ref 0), some (.int n), some (.int x), some (.int y), none, none, none, none]) (by decide) rfl (Nat.le_of_ble_eq_true rfl) rfl (fun M hl0 hR hC hS hE hX => ?_)
  refine z_aload_n dT_eight_0 rfl ?_
  refine z_iload_n dT_eight_1 rfl ?_
  refine zx_same (zx_V (C := RT) (b := 0) hE (zEok_ev _ _ _ _) (c_planeOf _ (by rw [hl0]; exact hl9) D ca ad sa f g _ _ n) dT_eight_2 (gd_V b_124 b_126 bs_8 b_1 b_127) rfl qT_planeOf ⟨rfl, rfl⟩ (by rw [hR]; decide) (by rw [hR, hC, hS]; decide) rfl (Nat.le_of_ble_eq_true rfl) rfl rfl) hX (fun E h => h) (by rw [hC, hS]; decide) (fun r aw1 hlen hr => ?_)
  obtain ⟨N, hN⟩ : ∃ N, N = zup M 1 6 := ⟨_, rfl⟩
  rw [← hN]
  replace hl0 := (by rw [hN, zup_l0]; exact hl0 : zl0 N = l)
  replace hR := (show zroom N = zroom M by rw [hN, zup_room]).trans hR
  replace hC := (by rw [hN, zup_cells, hC] : zcells N = 1)
  replace hS := (by rw [hN, zup_slots, hS] : zslots N = 6)
  replace hE := (by rw [hN]; exact zup_En hE : zEn N (zEx sa))
  replace hX := (by rw [hN]; exact zup_RetX hX : zRetX N _ _ _ _ _ _)
  clear hN
  obtain ⟨rfl, k, hk, rfl, rfl⟩ := hr
  simp only [zpush, zv]
  refine z_astore dT_eight_5 (by decide) rfl ?_
  try simp only [List.set_cons_succ, List.set_cons_zero]
  refine z_lconst (v := 0) dT_eight_7 (by decide) ?_
  refine z_lstore dT_eight_8 (by decide) rfl ?_
  try simp only [List.set_cons_succ, List.set_cons_zero]
  refine z_iconst (v := 0) dT_eight_10 (by decide) ?_
  refine z_istore dT_eight_11 (by decide) rfl ?_
  try simp only [List.set_cons_succ, List.set_cons_zero]
  refine l_eight hwh hk hR hC hS hE ?_ 8 0 (by omega)
  refine z_lload dT_eight_65 rfl ?_
  exact z_lreturn dT_eight_67 hX.ret (by rw [hC, hS]; decide) rfl ⟨k, hk, rfl, rfl, rfl⟩
def badE (w h : Nat) (p q : Int32) : Prop := p < nI w ∨ 32 < p ∨ q < nI h ∨ 32 < q
theorem geN {x : Int32} {n : Nat} (hn : n < 2 ^ 31) (h1 : ¬ x < nI n) (h2 : ¬ 32 < x) : ∃ a : Nat, x = nI a ∧ n ≤ a ∧ a ≤ 32 := by
  have h0 : ¬ x < 0 := fun q => h1 (by
    have := nI_toInt hn
    rw [Int32.lt_iff_toInt_lt] at q ⊢
    rw [show (0 : Int32).toInt = 0 by decide] at q
    omega)
  obtain ⟨a, ha, rfl⟩ := nI_of h0
  refine ⟨a, rfl, ?_, ?_⟩
  · rcases Nat.lt_or_ge a n with q | q
    · exact absurd (nI_lt q hn) h1
    · exact q
  · rcases Nat.lt_or_ge 32 a with q | q
    · exact absurd (nI_lt (a := 32) q ha) h2
    · exact q
set_option maxRecDepth 100000 in
set_option maxHeartbeats 4000000 in
theorem c_extend (l : Launch) (hl9 : l.stackTraces = false) (D : va_G) (ca : Nat → ClassId) (ad : Nat → Nat) (sa : Nat → Nat) (f g : Nat → Nat → Int32) (w h : Nat → Nat) (hwh : okW w h) (n p q : Int32) : zXet l yT_extend wT_extend (rmk 7 1 6) 1 6 (zEx sa) (gG D ca ad) (twn ca f g w h) [.ref 0, .int n, .int p, .int q] (fun r aw => ∃ k : Nat, k < 4 ∧ n = nI k ∧ ((badE (w k) (h k) p q ∧ r = some (.int 0) ∧ aw = twn ca f g w h) ∨ ∃ w2 h2 : Nat, ¬ badE (w k) (h k) p q ∧ p = nI w2 ∧ q = nI h2 ∧ w k ≤ w2 ∧ w2 ≤ 32 ∧ h k ≤ h2 ∧ h2 ≤ 32 ∧ r = some (.int 1) ∧ aw = twn ca (va_up f k (dpn (h k) h2 (wdn (w k) w2 (f k) (h k)) w2)) g (va_up w k w2) (va_up h k h2))) (fun E => E = IOB ∧ noP n) := by
  refine zXet.of (cc := cT_extend) (maxL := 5) (ret := (some .boolean)) (lv := [some (.ref 0), some (.int n), some (.int p), some (.int q), none]) (by decide) rfl (Nat.le_of_ble_eq_true rfl) rfl (fun M hl0 hR hC hS hE hX => ?_)
  refine z_aload_n dT_extend_0 rfl ?_
  refine z_iload_n dT_extend_1 rfl ?_
  refine zx_same (zx_V (C := RT) (b := 0) hE (zEok_ev _ _ _ _) (c_planeOf _ (by rw [hl0]; exact hl9) D ca ad sa f g _ _ n) dT_extend_2 (gd_V b_124 b_126 bs_8 b_1 b_127) rfl qT_planeOf ⟨rfl, rfl⟩ (by rw [hR]; decide) (by rw [hR, hC, hS]; decide) rfl (Nat.le_of_ble_eq_true rfl) rfl rfl) hX (fun E h => h) (by rw [hC, hS]; decide) (fun r aw1 hlen hr => ?_)
  obtain ⟨N, hN⟩ : ∃ N, N = zup M 1 6 := ⟨_, rfl⟩
  rw [← hN]
  replace hl0 := (by rw [hN, zup_l0]; exact hl0 : zl0 N = l)
  replace hR := (show zroom N = zroom M by rw [hN, zup_room]).trans hR
  replace hC := (by rw [hN, zup_cells, hC] : zcells N = 1)
  replace hS := (by rw [hN, zup_slots, hS] : zslots N = 6)
  replace hE := (by rw [hN]; exact zup_En hE : zEn N (zEx sa))
  replace hX := (by rw [hN]; exact zup_RetX hX : zRetX N _ _ _ _ _ _)
  clear hN
  obtain ⟨rfl, k, hk, rfl, rfl⟩ := hr
  simp only [zpush, zv]
  obtain ⟨hk1, hk2, hk3, hk4⟩ := hwh k hk
  refine z_astore dT_extend_5 (by decide) rfl ?_
  try simp only [List.set_cons_succ, List.set_cons_zero]
  have k37 : badE (w k) (h k) p q → Zj N (gG D ca ad) cT_extend 5 RT wT_extend (some .boolean) (twn ca f g w h) [some (.ref 0), some (.int (nI k)), some (.int p), some (.int q), some (.ref (2 + 3 * k))] [] 37 := fun hb => by
    refine z_iconst (v := 0) dT_extend_37 (by decide) ?_
    exact z_ireturn dT_extend_38 rfl hX.ret (by rw [hC, hS]; decide) rfl ⟨k, hk, rfl, Or.inl ⟨hb, rfl, rfl⟩⟩
  refine z_iload_n dT_extend_7 rfl ?_
  refine z_aload dT_extend_8 rfl ?_
  refine z_get (C := RP) (T := TP) (N := 4) (ref := "ToneMixer$Plane") 1 dT_extend_10 (tw_pl hk) rfl rfl (by decide) (fun w h => bwT (hbP w h)) (bwT b_30) rfl ?_
  refine z_icmp_lt (tgt := 37) dT_extend_13 (by decide) (fun c1 => k37 (Or.inl c1)) (fun c1 => ?_)
  refine z_iload_n dT_extend_16 rfl ?_
  refine z_bipush (v := 32) dT_extend_17 (by decide) ?_
  refine z_icmp_gt (tgt := 37) dT_extend_19 (by decide) (fun c2 => k37 (Or.inr (Or.inl c2))) (fun c2 => ?_)
  refine z_iload_n dT_extend_22 rfl ?_
  refine z_aload dT_extend_23 rfl ?_
  refine z_get (C := RP) (T := TP) (N := 4) (ref := "ToneMixer$Plane") 2 dT_extend_25 (tw_pl hk) rfl rfl (by decide) (fun w h => bwT (hbP w h)) (bwT b_32) rfl ?_
  refine z_icmp_lt (tgt := 37) dT_extend_28 (by decide) (fun c3 => k37 (Or.inr (Or.inr (Or.inl c3)))) (fun c3 => ?_)
  refine z_iload_n dT_extend_31 rfl ?_
  refine z_bipush (v := 32) dT_extend_32 (by decide) ?_
  refine z_icmp_le (tgt := 39) dT_extend_34 (by decide) (fun c4 => ?_) (fun c4 => k37 (Or.inr (Or.inr (Or.inr (Int32.not_le.mp c4)))))
  obtain ⟨w2, rfl, b1, b2⟩ := geN (by omega : w k < 2 ^ 31) c1 c2
  obtain ⟨h2, rfl, b3, b4⟩ := geN (by omega : h k < 2 ^ 31) c3 (Int32.not_lt.mpr c4)
  have hnb : ¬ badE (w k) (h k) (nI w2) (nI h2) := by
    rintro (q | q | q | q)
    · exact c1 q
    · exact c2 q
    · exact c3 q
    · exact Int32.not_lt.mpr c4 q
  refine z_aload dT_extend_39 rfl ?_
  refine z_iload_n dT_extend_41 rfl ?_
  refine z_part (plx k) (z_V (C := RP) (b := 0) hE (zEok_ev _ _ _ _) (c_widen _ D ca _ (f k) (g k) sa (w k) (h k) w2 hk1 hk3 hk2 hk4 b1 b2) dT_extend_42 (gd_V b_317 b_318 b_319 b_2 b_320) rfl qP_widen ⟨rfl, rfl⟩ (by rw [hR]; decide) (by rw [hR, hC, hS]; decide) rfl (Nat.le_of_ble_eq_true rfl) rfl rfl) (plx_nd k) (tw_in hk) (fun r aw1 hlen hr => ?_)
  obtain ⟨rfl, rfl⟩ := hr
  rw [tw_put hk, va_upk, va_upn, va_upn0]
  simp only [zpush]
  refine z_aload dT_extend_45 rfl ?_
  refine z_iload_n dT_extend_47 rfl ?_
  refine z_part (plx k) (z_V (C := RP) (b := 0) hE (zEok_ev _ _ _ _) (c_deepen _ D ca _ (wdn (w k) w2 (f k) (h k)) (g k) sa w2 (h k) h2 (by omega) hk3 b2 hk4 b3 b4) dT_extend_48 (gd_V b_321 b_322 b_323 b_2 b_324) rfl qP_deepen ⟨rfl, rfl⟩ (by rw [hR]; decide) (by rw [hR, hC, hS]; decide) rfl (Nat.le_of_ble_eq_true rfl) rfl rfl) (plx_nd k) (by have h9 := tw_in (ca := ca) (f := va_up f k (wdn (w k) w2 (f k) (h k))) (g := g) (w := fun j => nI (va_up w k w2 j)) (h := fun k => nI (h k)) hk; rw [va_up_self, va_up_self] at h9; exact h9) (fun r aw1 hlen hr => ?_)
  obtain ⟨rfl, rfl⟩ := hr
  rw [tw_put hk, bx_uu, va_upk, va_upn, va_upn, bx_uu]
  simp only [zpush]
  refine z_iconst (v := 1) dT_extend_51 (by decide) ?_
  exact z_ireturn dT_extend_52 rfl hX.ret (by rw [hC, hS]; decide) rfl ⟨k, hk, rfl, Or.inr ⟨w2, h2, hnb, rfl, rfl, b1, b2, b3, b4, rfl, rfl⟩⟩
end
section
def groA (v : Nat) : Bool := v < 2 || 3 < v
def groD (v : Nat) : Bool := 1 < v
def groT (v : Nat) : Bool := v % 2 == 1
/-- a grown plane: samples, line, sides -/
def gro (v : Nat) (f g : Nat → Int32) (w h : Nat) : (Nat → Int32) × (Nat → Int32) × Nat × Nat :=
  let s1 : (Nat → Int32) × (Nat → Int32) × Nat := if groA v = true then ((grA (groT v) w f g h).1, (grA (groT v) w f g h).2, 2 * w) else (f, g, w)
  if groD v = true then ((grD (groT v) h s1.1 s1.2.1 s1.2.2).1, (grD (groT v) h s1.1 s1.2.1 s1.2.2).2, s1.2.2, 2 * h) else (s1.1, s1.2.1, s1.2.2, h)
def tooL (v w h : Nat) : Prop := (groA v = true ∧ 32 < 2 * w) ∨ (groD v = true ∧ 32 < 2 * h)
def grow0 (how : Int32) (w h : Nat) : Prop := how < 0 ∨ 5 < how ∨ ∃ v : Nat, v < 6 ∧ how = nI v ∧ tooL v w h
theorem how_of {x : Int32} {n : Nat} (M : Int32) (hM : M.toInt = n) (h1 : ¬ x < 0) (h2 : x ≤ M) : ∃ v : Nat, v ≤ n ∧ x = nI v := nI_of2 hM h1 h2
set_option maxRecDepth 100000 in
set_option maxHeartbeats 4000000 in
theorem c_grow (l : Launch) (hl9 : l.stackTraces = false) (D : va_G) (ca : Nat → ClassId) (ad : Nat → Nat) (sa : Nat → Nat) (f g : Nat → Nat → Int32) (w h : Nat → Nat) (hwh : okW w h) (n how : Int32) : zXet l yT_grow wT_grow (rmk 7 1 6) 1 6 (zEx sa) (gG D ca ad) (twn ca f g w h) [.ref 0, .int n, .int how] (fun r aw => ∃ k : Nat, k < 4 ∧ n = nI k ∧ ((grow0 how (w k) (h k) ∧ r = some (.int 0) ∧ aw = twn ca f g w h) ∨ ∃ v : Nat, v < 6 ∧ how = nI v ∧ ¬ tooL v (w k) (h k) ∧ r = some (.int 1) ∧ aw = twn ca (va_up f k (gro v (f k) (g k) (w k) (h k)).1) (va_up g k (gro v (f k) (g k) (w k) (h k)).2.1) (va_up w k (gro v (f k) (g k) (w k) (h k)).2.2.1) (va_up h k (gro v (f k) (g k) (w k) (h k)).2.2.2))) (fun E => E = IOB ∧ noP n) := by
  refine zXet.of (cc := cT_grow) (maxL := 7) (ret := (some .boolean)) (lv := [some (.ref 0), some (.int n), some (.int how), none, none, none, none]) (by decide) rfl (Nat.le_of_ble_eq_true rfl) rfl (fun M hl0 hR hC hS hE hX => ?_)
  refine z_aload_n dT_grow_0 rfl ?_
  refine z_iload_n dT_grow_1 rfl ?_
  refine zx_same (zx_V (C := RT) (b := 0) hE (zEok_ev _ _ _ _) (c_planeOf _ (by rw [hl0]; exact hl9) D ca ad sa f g _ _ n) dT_grow_2 (gd_V b_124 b_126 bs_8 b_1 b_127) rfl qT_planeOf ⟨rfl, rfl⟩ (by rw [hR]; decide) (by rw [hR, hC, hS]; decide) rfl (Nat.le_of_ble_eq_true rfl) rfl rfl) hX (fun E h => h) (by rw [hC, hS]; decide) (fun r aw1 hlen hr => ?_)
  obtain ⟨N, hN⟩ : ∃ N, N = zup M 1 6 := ⟨_, rfl⟩
  rw [← hN]
  replace hl0 := (by rw [hN, zup_l0]; exact hl0 : zl0 N = l)
  replace hR := (show zroom N = zroom M by rw [hN, zup_room]).trans hR
  replace hC := (by rw [hN, zup_cells, hC] : zcells N = 1)
  replace hS := (by rw [hN, zup_slots, hS] : zslots N = 6)
  replace hE := (by rw [hN]; exact zup_En hE : zEn N (zEx sa))
  replace hX := (by rw [hN]; exact zup_RetX hX : zRetX N _ _ _ _ _ _)
  clear hN
  obtain ⟨rfl, k, hk, rfl, rfl⟩ := hr
  simp only [zpush, zv]
  obtain ⟨hk1, hk2, hk3, hk4⟩ := hwh k hk
  refine z_astore_n dT_grow_5 (by decide) rfl ?_
  try simp only [List.set_cons_succ, List.set_cons_zero]
  refine z_iload_n dT_grow_6 rfl ?_
  have k15 : (how < 0 ∨ 5 < how) → Zj N (gG D ca ad) cT_grow 7 RT wT_grow (some .boolean) (twn ca f g w h) [some (.ref 0), some (.int (nI k)), some (.int how), some (.ref (2 + 3 * k)), none, none, none] [] 15 := fun hb => by
    refine z_iconst (v := 0) dT_grow_15 (by decide) ?_
    exact z_ireturn dT_grow_16 rfl hX.ret (by rw [hC, hS]; decide) rfl ⟨k, hk, rfl, Or.inl ⟨hb.elim Or.inl (fun q => Or.inr (Or.inl q)), rfl, rfl⟩⟩
  refine z_if_lt (tgt := 15) dT_grow_7 (by decide) (fun c1 => k15 (Or.inl c1)) (fun c1 => ?_)
  refine z_iload_n dT_grow_10 rfl ?_
  refine z_iconst (v := 5) dT_grow_11 (by decide) ?_
  refine z_icmp_le (tgt := 17) dT_grow_12 (by decide) (fun c2 => ?_) (fun c2 => k15 (Or.inr (Int32.not_le.mp c2)))
  obtain ⟨v, hv, rfl⟩ := how_of (n := 5) 5 (by decide) c1 c2
  have k78 : ∀ o4 o5 : Option Value, tooL v (w k) (h k) → Zj N (gG D ca ad) cT_grow 7 RT wT_grow (some .boolean) (twn ca f g w h) [some (.ref 0), some (.int (nI k)), some (.int (nI v)), some (.ref (2 + 3 * k)), o4, o5, none] [] 78 := fun o4 o5 hb => by
    refine z_iconst (v := 0) dT_grow_78 (by decide) ?_
    exact z_ireturn dT_grow_79 rfl hX.ret (by rw [hC, hS]; decide) rfl ⟨k, hk, rfl, Or.inl ⟨Or.inr (Or.inr ⟨v, by omega, rfl, hb⟩), rfl, rfl⟩⟩
  rcases (show v = 0 ∨ v = 1 ∨ v = 2 ∨ v = 3 ∨ v = 4 ∨ v = 5 by omega) with rfl | rfl | rfl | rfl | rfl | rfl
  · clear c1 c2 hv
    rw [show nI 0 = (0 : Int32) from rfl] at k78 ⊢
    refine z_iload_n dT_grow_17 rfl ?_
    refine z_iconst (v := 2) dT_grow_18 (by decide) ?_
    refine z_icmp_lt (tgt := 27) dT_grow_19 (by decide) (fun _ => ?_) (fun hc9 => absurd hc9 (by decide))
    refine z_iconst (v := 1) dT_grow_27 (by decide) ?_
    refine z_goto (tgt := 32) dT_grow_28 (by decide) ?_
    refine z_istore dT_grow_32 (by decide) rfl ?_
    try simp only [List.set_cons_succ, List.set_cons_zero]
    refine z_iload_n dT_grow_34 rfl ?_
    refine z_iconst (v := 1) dT_grow_35 (by decide) ?_
    refine z_icmp_le (tgt := 43) dT_grow_36 (by decide) (fun _ => ?_) (fun hc9 => absurd hc9 (by decide))
    refine z_iconst (v := 0) dT_grow_43 (by decide) ?_
    refine z_istore dT_grow_44 (by decide) rfl ?_
    try simp only [List.set_cons_succ, List.set_cons_zero]
    refine z_iload dT_grow_46 rfl ?_
    refine z_if_eq (tgt := 62) dT_grow_48 (by decide) (fun hc9 => absurd hc9 (by decide)) (fun _ => ?_)
    refine z_iconst (v := 2) dT_grow_51 (by decide) ?_
    refine z_aload_n dT_grow_52 rfl ?_
    refine z_get (C := RP) (T := TP) (N := 4) (ref := "ToneMixer$Plane") 1 dT_grow_53 (tw_pl hk) rfl rfl (by decide) (fun w h => bwT (hbP w h)) (bwT b_30) rfl ?_
    refine z_imul dT_grow_56 ?_
    refine z_bipush (v := 32) dT_grow_57 (by decide) ?_
    rw [z_2, show (32 : Int32) = nI 32 from rfl]
    refine z_icmp_gt (tgt := 78) dT_grow_59 (by decide) (fun c => k78 _ _ (Or.inl ⟨rfl, (nI_ltI (by omega) (by omega)).mp c⟩)) (fun c => ?_)
    have hA : 2 * w k ≤ 32 := Nat.not_lt.mp (fun q => c (nI_lt q (by omega)))
    refine z_iload dT_grow_62 rfl ?_
    refine z_if_eq (tgt := 80) dT_grow_64 (by decide) (fun _ => ?_) (fun hc9 => absurd hc9 (by decide))
    have hno : ¬ tooL 0 (w k) (h k) := by
      rintro (⟨q1, q2⟩ | ⟨q1, q2⟩)
      · omega
      · cases q1
    refine z_iload_n dT_grow_80 rfl ?_
    refine z_iconst (v := 2) dT_grow_81 (by decide) ?_
    refine z_irem dT_grow_82 (by decide) ?_
    refine z_iconst (v := 1) dT_grow_83 (by decide) ?_
    refine z_icmp_ne (tgt := 91) dT_grow_84 (by decide) (fun _ => ?_) (fun hc9 => absurd hc9 (by decide))
    refine z_iconst (v := 0) dT_grow_91 (by decide) ?_
    refine z_istore dT_grow_92 (by decide) rfl ?_
    try simp only [List.set_cons_succ, List.set_cons_zero]
    refine z_iload dT_grow_94 rfl ?_
    refine z_if_eq (tgt := 105) dT_grow_96 (by decide) (fun hc9 => absurd hc9 (by decide)) (fun _ => ?_)
    refine z_aload_n dT_grow_99 rfl ?_
    refine z_iload dT_grow_100 rfl ?_
    refine z_part (plx k) (z_V (C := RP) (b := 0) hE (zEok_ev _ _ _ _) (c_growAcross _ D ca _ (f k) (g k) sa (w k) (h k) false hk2 hk4 hA) dT_grow_102 (gd_V b_252 b_253 b_254 b_2 b_255) rfl qP_growAcross ⟨rfl, rfl⟩ (by rw [hR]; decide) (by rw [hR, hC, hS]; decide) rfl (Nat.le_of_ble_eq_true rfl) rfl rfl) (plx_nd k) (tw_in hk) (fun r aw1 hlen hr => ?_)
    obtain ⟨rfl, rfl⟩ := hr
    rw [tw_put hk, va_upn, va_upn0]
    simp only [zpush]
    refine z_iload dT_grow_105 rfl ?_
    refine z_if_eq (tgt := 116) dT_grow_107 (by decide) (fun _ => ?_) (fun hc9 => absurd hc9 (by decide))
    refine z_iconst (v := 1) dT_grow_116 (by decide) ?_
    refine z_ireturn dT_grow_117 rfl hX.ret (by rw [hC, hS]; decide) rfl ⟨k, hk, rfl, Or.inr ⟨0, by omega, rfl, hno, rfl, ?_⟩⟩
    show _ = twn ca (va_up f k _) (va_up g k _) (va_up w k _) (va_up h k (h k)); rw [va_upk]; rfl
  · clear c1 c2 hv
    rw [show nI 1 = (1 : Int32) from rfl] at k78 ⊢
    refine z_iload_n dT_grow_17 rfl ?_
    refine z_iconst (v := 2) dT_grow_18 (by decide) ?_
    refine z_icmp_lt (tgt := 27) dT_grow_19 (by decide) (fun _ => ?_) (fun hc9 => absurd hc9 (by decide))
    refine z_iconst (v := 1) dT_grow_27 (by decide) ?_
    refine z_goto (tgt := 32) dT_grow_28 (by decide) ?_
    refine z_istore dT_grow_32 (by decide) rfl ?_
    try simp only [List.set_cons_succ, List.set_cons_zero]
    refine z_iload_n dT_grow_34 rfl ?_
    refine z_iconst (v := 1) dT_grow_35 (by decide) ?_
    refine z_icmp_le (tgt := 43) dT_grow_36 (by decide) (fun _ => ?_) (fun hc9 => absurd hc9 (by decide))
    refine z_iconst (v := 0) dT_grow_43 (by decide) ?_
    refine z_istore dT_grow_44 (by decide) rfl ?_
    try simp only [List.set_cons_succ, List.set_cons_zero]
    refine z_iload dT_grow_46 rfl ?_
    refine z_if_eq (tgt := 62) dT_grow_48 (by decide) (fun hc9 => absurd hc9 (by decide)) (fun _ => ?_)
    refine z_iconst (v := 2) dT_grow_51 (by decide) ?_
    refine z_aload_n dT_grow_52 rfl ?_
    refine z_get (C := RP) (T := TP) (N := 4) (ref := "ToneMixer$Plane") 1 dT_grow_53 (tw_pl hk) rfl rfl (by decide) (fun w h => bwT (hbP w h)) (bwT b_30) rfl ?_
    refine z_imul dT_grow_56 ?_
    refine z_bipush (v := 32) dT_grow_57 (by decide) ?_
    rw [z_2, show (32 : Int32) = nI 32 from rfl]
    refine z_icmp_gt (tgt := 78) dT_grow_59 (by decide) (fun c => k78 _ _ (Or.inl ⟨rfl, (nI_ltI (by omega) (by omega)).mp c⟩)) (fun c => ?_)
    have hA : 2 * w k ≤ 32 := Nat.not_lt.mp (fun q => c (nI_lt q (by omega)))
    refine z_iload dT_grow_62 rfl ?_
    refine z_if_eq (tgt := 80) dT_grow_64 (by decide) (fun _ => ?_) (fun hc9 => absurd hc9 (by decide))
    have hno : ¬ tooL 1 (w k) (h k) := by
      rintro (⟨q1, q2⟩ | ⟨q1, q2⟩)
      · omega
      · cases q1
    refine z_iload_n dT_grow_80 rfl ?_
    refine z_iconst (v := 2) dT_grow_81 (by decide) ?_
    refine z_irem dT_grow_82 (by decide) ?_
    refine z_iconst (v := 1) dT_grow_83 (by decide) ?_
    refine z_icmp_ne (tgt := 91) dT_grow_84 (by decide) (fun hc9 => absurd hc9 (by decide)) (fun _ => ?_)
    refine z_iconst (v := 1) dT_grow_87 (by decide) ?_
    refine z_goto (tgt := 92) dT_grow_88 (by decide) ?_
    refine z_istore dT_grow_92 (by decide) rfl ?_
    try simp only [List.set_cons_succ, List.set_cons_zero]
    refine z_iload dT_grow_94 rfl ?_
    refine z_if_eq (tgt := 105) dT_grow_96 (by decide) (fun hc9 => absurd hc9 (by decide)) (fun _ => ?_)
    refine z_aload_n dT_grow_99 rfl ?_
    refine z_iload dT_grow_100 rfl ?_
    refine z_part (plx k) (z_V (C := RP) (b := 0) hE (zEok_ev _ _ _ _) (c_growAcross _ D ca _ (f k) (g k) sa (w k) (h k) true hk2 hk4 hA) dT_grow_102 (gd_V b_252 b_253 b_254 b_2 b_255) rfl qP_growAcross ⟨rfl, rfl⟩ (by rw [hR]; decide) (by rw [hR, hC, hS]; decide) rfl (Nat.le_of_ble_eq_true rfl) rfl rfl) (plx_nd k) (tw_in hk) (fun r aw1 hlen hr => ?_)
    obtain ⟨rfl, rfl⟩ := hr
    rw [tw_put hk, va_upn, va_upn0]
    simp only [zpush]
    refine z_iload dT_grow_105 rfl ?_
    refine z_if_eq (tgt := 116) dT_grow_107 (by decide) (fun _ => ?_) (fun hc9 => absurd hc9 (by decide))
    refine z_iconst (v := 1) dT_grow_116 (by decide) ?_
    refine z_ireturn dT_grow_117 rfl hX.ret (by rw [hC, hS]; decide) rfl ⟨k, hk, rfl, Or.inr ⟨1, by omega, rfl, hno, rfl, ?_⟩⟩
    show _ = twn ca (va_up f k _) (va_up g k _) (va_up w k _) (va_up h k (h k)); rw [va_upk]; rfl
  · clear c1 c2 hv
    rw [show nI 2 = (2 : Int32) from rfl] at k78 ⊢
    refine z_iload_n dT_grow_17 rfl ?_
    refine z_iconst (v := 2) dT_grow_18 (by decide) ?_
    refine z_icmp_lt (tgt := 27) dT_grow_19 (by decide) (fun hc9 => absurd hc9 (by decide)) (fun _ => ?_)
    refine z_iload_n dT_grow_22 rfl ?_
    refine z_iconst (v := 3) dT_grow_23 (by decide) ?_
    refine z_icmp_le (tgt := 31) dT_grow_24 (by decide) (fun _ => ?_) (fun hc9 => absurd hc9 (by decide))
    refine z_iconst (v := 0) dT_grow_31 (by decide) ?_
    refine z_istore dT_grow_32 (by decide) rfl ?_
    try simp only [List.set_cons_succ, List.set_cons_zero]
    refine z_iload_n dT_grow_34 rfl ?_
    refine z_iconst (v := 1) dT_grow_35 (by decide) ?_
    refine z_icmp_le (tgt := 43) dT_grow_36 (by decide) (fun hc9 => absurd hc9 (by decide)) (fun _ => ?_)
    refine z_iconst (v := 1) dT_grow_39 (by decide) ?_
    refine z_goto (tgt := 44) dT_grow_40 (by decide) ?_
    refine z_istore dT_grow_44 (by decide) rfl ?_
    try simp only [List.set_cons_succ, List.set_cons_zero]
    refine z_iload dT_grow_46 rfl ?_
    refine z_if_eq (tgt := 62) dT_grow_48 (by decide) (fun _ => ?_) (fun hc9 => absurd hc9 (by decide))
    refine z_iload dT_grow_62 rfl ?_
    refine z_if_eq (tgt := 80) dT_grow_64 (by decide) (fun hc9 => absurd hc9 (by decide)) (fun _ => ?_)
    refine z_iconst (v := 2) dT_grow_67 (by decide) ?_
    refine z_aload_n dT_grow_68 rfl ?_
    refine z_get (C := RP) (T := TP) (N := 4) (ref := "ToneMixer$Plane") 2 dT_grow_69 (tw_pl hk) rfl rfl (by decide) (fun w h => bwT (hbP w h)) (bwT b_32) rfl ?_
    refine z_imul dT_grow_72 ?_
    refine z_bipush (v := 32) dT_grow_73 (by decide) ?_
    rw [z_2, show (32 : Int32) = nI 32 from rfl]
    refine z_icmp_le (tgt := 80) dT_grow_75 (by decide) (fun c => ?_) (fun c => k78 _ _ (Or.inr ⟨rfl, Nat.not_le.mp (fun q => c (nI_le q (by omega)))⟩))
    have hD : 2 * h k ≤ 32 := (nI_leI (by omega) (by omega)).mp c
    have hno : ¬ tooL 2 (w k) (h k) := by
      rintro (⟨q1, q2⟩ | ⟨q1, q2⟩)
      · cases q1
      · omega
    refine z_iload_n dT_grow_80 rfl ?_
    refine z_iconst (v := 2) dT_grow_81 (by decide) ?_
    refine z_irem dT_grow_82 (by decide) ?_
    refine z_iconst (v := 1) dT_grow_83 (by decide) ?_
    refine z_icmp_ne (tgt := 91) dT_grow_84 (by decide) (fun _ => ?_) (fun hc9 => absurd hc9 (by decide))
    refine z_iconst (v := 0) dT_grow_91 (by decide) ?_
    refine z_istore dT_grow_92 (by decide) rfl ?_
    try simp only [List.set_cons_succ, List.set_cons_zero]
    refine z_iload dT_grow_94 rfl ?_
    refine z_if_eq (tgt := 105) dT_grow_96 (by decide) (fun _ => ?_) (fun hc9 => absurd hc9 (by decide))
    refine z_iload dT_grow_105 rfl ?_
    refine z_if_eq (tgt := 116) dT_grow_107 (by decide) (fun hc9 => absurd hc9 (by decide)) (fun _ => ?_)
    refine z_aload_n dT_grow_110 rfl ?_
    refine z_iload dT_grow_111 rfl ?_
    refine z_part (plx k) (z_V (C := RP) (b := 0) hE (zEok_ev _ _ _ _) (c_growDown _ D ca _ (f k) (g k) sa (w k) (h k) false (by omega) hk4 hD) dT_grow_113 (gd_V b_261 b_262 b_263 b_2 b_264) rfl qP_growDown ⟨rfl, rfl⟩ (by rw [hR]; decide) (by rw [hR, hC, hS]; decide) rfl (Nat.le_of_ble_eq_true rfl) rfl rfl) (plx_nd k) (tw_in hk) (fun r aw1 hlen hr => ?_)
    obtain ⟨rfl, rfl⟩ := hr
    rw [tw_put hk, va_upn0 w, va_upn]
    simp only [zpush]
    refine z_iconst (v := 1) dT_grow_116 (by decide) ?_
    refine z_ireturn dT_grow_117 rfl hX.ret (by rw [hC, hS]; decide) rfl ⟨k, hk, rfl, Or.inr ⟨2, by omega, rfl, hno, rfl, ?_⟩⟩
    show _ = twn ca (va_up f k _) (va_up g k _) (va_up w k (w k)) (va_up h k _); rw [va_upk]; rfl
  · clear c1 c2 hv
    rw [show nI 3 = (3 : Int32) from rfl] at k78 ⊢
    refine z_iload_n dT_grow_17 rfl ?_
    refine z_iconst (v := 2) dT_grow_18 (by decide) ?_
    refine z_icmp_lt (tgt := 27) dT_grow_19 (by decide) (fun hc9 => absurd hc9 (by decide)) (fun _ => ?_)
    refine z_iload_n dT_grow_22 rfl ?_
    refine z_iconst (v := 3) dT_grow_23 (by decide) ?_
    refine z_icmp_le (tgt := 31) dT_grow_24 (by decide) (fun _ => ?_) (fun hc9 => absurd hc9 (by decide))
    refine z_iconst (v := 0) dT_grow_31 (by decide) ?_
    refine z_istore dT_grow_32 (by decide) rfl ?_
    try simp only [List.set_cons_succ, List.set_cons_zero]
    refine z_iload_n dT_grow_34 rfl ?_
    refine z_iconst (v := 1) dT_grow_35 (by decide) ?_
    refine z_icmp_le (tgt := 43) dT_grow_36 (by decide) (fun hc9 => absurd hc9 (by decide)) (fun _ => ?_)
    refine z_iconst (v := 1) dT_grow_39 (by decide) ?_
    refine z_goto (tgt := 44) dT_grow_40 (by decide) ?_
    refine z_istore dT_grow_44 (by decide) rfl ?_
    try simp only [List.set_cons_succ, List.set_cons_zero]
    refine z_iload dT_grow_46 rfl ?_
    refine z_if_eq (tgt := 62) dT_grow_48 (by decide) (fun _ => ?_) (fun hc9 => absurd hc9 (by decide))
    refine z_iload dT_grow_62 rfl ?_
    refine z_if_eq (tgt := 80) dT_grow_64 (by decide) (fun hc9 => absurd hc9 (by decide)) (fun _ => ?_)
    refine z_iconst (v := 2) dT_grow_67 (by decide) ?_
    refine z_aload_n dT_grow_68 rfl ?_
    refine z_get (C := RP) (T := TP) (N := 4) (ref := "ToneMixer$Plane") 2 dT_grow_69 (tw_pl hk) rfl rfl (by decide) (fun w h => bwT (hbP w h)) (bwT b_32) rfl ?_
    refine z_imul dT_grow_72 ?_
    refine z_bipush (v := 32) dT_grow_73 (by decide) ?_
    rw [z_2, show (32 : Int32) = nI 32 from rfl]
    refine z_icmp_le (tgt := 80) dT_grow_75 (by decide) (fun c => ?_) (fun c => k78 _ _ (Or.inr ⟨rfl, Nat.not_le.mp (fun q => c (nI_le q (by omega)))⟩))
    have hD : 2 * h k ≤ 32 := (nI_leI (by omega) (by omega)).mp c
    have hno : ¬ tooL 3 (w k) (h k) := by
      rintro (⟨q1, q2⟩ | ⟨q1, q2⟩)
      · cases q1
      · omega
    refine z_iload_n dT_grow_80 rfl ?_
    refine z_iconst (v := 2) dT_grow_81 (by decide) ?_
    refine z_irem dT_grow_82 (by decide) ?_
    refine z_iconst (v := 1) dT_grow_83 (by decide) ?_
    refine z_icmp_ne (tgt := 91) dT_grow_84 (by decide) (fun hc9 => absurd hc9 (by decide)) (fun _ => ?_)
    refine z_iconst (v := 1) dT_grow_87 (by decide) ?_
    refine z_goto (tgt := 92) dT_grow_88 (by decide) ?_
    refine z_istore dT_grow_92 (by decide) rfl ?_
    try simp only [List.set_cons_succ, List.set_cons_zero]
    refine z_iload dT_grow_94 rfl ?_
    refine z_if_eq (tgt := 105) dT_grow_96 (by decide) (fun _ => ?_) (fun hc9 => absurd hc9 (by decide))
    refine z_iload dT_grow_105 rfl ?_
    refine z_if_eq (tgt := 116) dT_grow_107 (by decide) (fun hc9 => absurd hc9 (by decide)) (fun _ => ?_)
    refine z_aload_n dT_grow_110 rfl ?_
    refine z_iload dT_grow_111 rfl ?_
    refine z_part (plx k) (z_V (C := RP) (b := 0) hE (zEok_ev _ _ _ _) (c_growDown _ D ca _ (f k) (g k) sa (w k) (h k) true (by omega) hk4 hD) dT_grow_113 (gd_V b_261 b_262 b_263 b_2 b_264) rfl qP_growDown ⟨rfl, rfl⟩ (by rw [hR]; decide) (by rw [hR, hC, hS]; decide) rfl (Nat.le_of_ble_eq_true rfl) rfl rfl) (plx_nd k) (tw_in hk) (fun r aw1 hlen hr => ?_)
    obtain ⟨rfl, rfl⟩ := hr
    rw [tw_put hk, va_upn0 w, va_upn]
    simp only [zpush]
    refine z_iconst (v := 1) dT_grow_116 (by decide) ?_
    refine z_ireturn dT_grow_117 rfl hX.ret (by rw [hC, hS]; decide) rfl ⟨k, hk, rfl, Or.inr ⟨3, by omega, rfl, hno, rfl, ?_⟩⟩
    show _ = twn ca (va_up f k _) (va_up g k _) (va_up w k (w k)) (va_up h k _); rw [va_upk]; rfl
  · clear c1 c2 hv
    rw [show nI 4 = (4 : Int32) from rfl] at k78 ⊢
    refine z_iload_n dT_grow_17 rfl ?_
    refine z_iconst (v := 2) dT_grow_18 (by decide) ?_
    refine z_icmp_lt (tgt := 27) dT_grow_19 (by decide) (fun hc9 => absurd hc9 (by decide)) (fun _ => ?_)
    refine z_iload_n dT_grow_22 rfl ?_
    refine z_iconst (v := 3) dT_grow_23 (by decide) ?_
    refine z_icmp_le (tgt := 31) dT_grow_24 (by decide) (fun hc9 => absurd hc9 (by decide)) (fun _ => ?_)
    refine z_iconst (v := 1) dT_grow_27 (by decide) ?_
    refine z_goto (tgt := 32) dT_grow_28 (by decide) ?_
    refine z_istore dT_grow_32 (by decide) rfl ?_
    try simp only [List.set_cons_succ, List.set_cons_zero]
    refine z_iload_n dT_grow_34 rfl ?_
    refine z_iconst (v := 1) dT_grow_35 (by decide) ?_
    refine z_icmp_le (tgt := 43) dT_grow_36 (by decide) (fun hc9 => absurd hc9 (by decide)) (fun _ => ?_)
    refine z_iconst (v := 1) dT_grow_39 (by decide) ?_
    refine z_goto (tgt := 44) dT_grow_40 (by decide) ?_
    refine z_istore dT_grow_44 (by decide) rfl ?_
    try simp only [List.set_cons_succ, List.set_cons_zero]
    refine z_iload dT_grow_46 rfl ?_
    refine z_if_eq (tgt := 62) dT_grow_48 (by decide) (fun hc9 => absurd hc9 (by decide)) (fun _ => ?_)
    refine z_iconst (v := 2) dT_grow_51 (by decide) ?_
    refine z_aload_n dT_grow_52 rfl ?_
    refine z_get (C := RP) (T := TP) (N := 4) (ref := "ToneMixer$Plane") 1 dT_grow_53 (tw_pl hk) rfl rfl (by decide) (fun w h => bwT (hbP w h)) (bwT b_30) rfl ?_
    refine z_imul dT_grow_56 ?_
    refine z_bipush (v := 32) dT_grow_57 (by decide) ?_
    rw [z_2, show (32 : Int32) = nI 32 from rfl]
    refine z_icmp_gt (tgt := 78) dT_grow_59 (by decide) (fun c => k78 _ _ (Or.inl ⟨rfl, (nI_ltI (by omega) (by omega)).mp c⟩)) (fun c => ?_)
    have hA : 2 * w k ≤ 32 := Nat.not_lt.mp (fun q => c (nI_lt q (by omega)))
    refine z_iload dT_grow_62 rfl ?_
    refine z_if_eq (tgt := 80) dT_grow_64 (by decide) (fun hc9 => absurd hc9 (by decide)) (fun _ => ?_)
    refine z_iconst (v := 2) dT_grow_67 (by decide) ?_
    refine z_aload_n dT_grow_68 rfl ?_
    refine z_get (C := RP) (T := TP) (N := 4) (ref := "ToneMixer$Plane") 2 dT_grow_69 (tw_pl hk) rfl rfl (by decide) (fun w h => bwT (hbP w h)) (bwT b_32) rfl ?_
    refine z_imul dT_grow_72 ?_
    refine z_bipush (v := 32) dT_grow_73 (by decide) ?_
    rw [z_2, show (32 : Int32) = nI 32 from rfl]
    refine z_icmp_le (tgt := 80) dT_grow_75 (by decide) (fun c => ?_) (fun c => k78 _ _ (Or.inr ⟨rfl, Nat.not_le.mp (fun q => c (nI_le q (by omega)))⟩))
    have hD : 2 * h k ≤ 32 := (nI_leI (by omega) (by omega)).mp c
    have hno : ¬ tooL 4 (w k) (h k) := by
      rintro (⟨q1, q2⟩ | ⟨q1, q2⟩)
      · omega
      · omega
    refine z_iload_n dT_grow_80 rfl ?_
    refine z_iconst (v := 2) dT_grow_81 (by decide) ?_
    refine z_irem dT_grow_82 (by decide) ?_
    refine z_iconst (v := 1) dT_grow_83 (by decide) ?_
    refine z_icmp_ne (tgt := 91) dT_grow_84 (by decide) (fun _ => ?_) (fun hc9 => absurd hc9 (by decide))
    refine z_iconst (v := 0) dT_grow_91 (by decide) ?_
    refine z_istore dT_grow_92 (by decide) rfl ?_
    try simp only [List.set_cons_succ, List.set_cons_zero]
    refine z_iload dT_grow_94 rfl ?_
    refine z_if_eq (tgt := 105) dT_grow_96 (by decide) (fun hc9 => absurd hc9 (by decide)) (fun _ => ?_)
    refine z_aload_n dT_grow_99 rfl ?_
    refine z_iload dT_grow_100 rfl ?_
    refine z_part (plx k) (z_V (C := RP) (b := 0) hE (zEok_ev _ _ _ _) (c_growAcross _ D ca _ (f k) (g k) sa (w k) (h k) false hk2 hk4 hA) dT_grow_102 (gd_V b_252 b_253 b_254 b_2 b_255) rfl qP_growAcross ⟨rfl, rfl⟩ (by rw [hR]; decide) (by rw [hR, hC, hS]; decide) rfl (Nat.le_of_ble_eq_true rfl) rfl rfl) (plx_nd k) (tw_in hk) (fun r aw1 hlen hr => ?_)
    obtain ⟨rfl, rfl⟩ := hr
    rw [tw_put hk, va_upn, va_upn0]
    simp only [zpush]
    refine z_iload dT_grow_105 rfl ?_
    refine z_if_eq (tgt := 116) dT_grow_107 (by decide) (fun hc9 => absurd hc9 (by decide)) (fun _ => ?_)
    refine z_aload_n dT_grow_110 rfl ?_
    refine z_iload dT_grow_111 rfl ?_
    refine z_part (plx k) (z_V (C := RP) (b := 0) hE (zEok_ev _ _ _ _) (c_growDown _ D ca _ (grA false (w k) (f k) (g k) (h k)).1 (grA false (w k) (f k) (g k) (h k)).2 sa (2 * w k) (h k) false (by omega) hk4 hD) dT_grow_113 (gd_V b_261 b_262 b_263 b_2 b_264) rfl qP_growDown ⟨rfl, rfl⟩ (by rw [hR]; decide) (by rw [hR, hC, hS]; decide) rfl (Nat.le_of_ble_eq_true rfl) rfl rfl) (plx_nd k) (by have h9 := tw_in (ca := ca) (f := va_up f k (grA false (w k) (f k) (g k) (h k)).1) (g := va_up g k (grA false (w k) (f k) (g k) (h k)).2) (w := fun j => nI (va_up w k (2 * w k) j)) (h := fun k => nI (h k)) hk; rw [va_up_self, va_up_self, va_up_self] at h9; exact h9) (fun r aw1 hlen hr => ?_)
    obtain ⟨rfl, rfl⟩ := hr
    rw [tw_put hk, bx_uu, bx_uu, va_upn, va_upn, bx_uu]
    simp only [zpush]
    refine z_iconst (v := 1) dT_grow_116 (by decide) ?_
    refine z_ireturn dT_grow_117 rfl hX.ret (by rw [hC, hS]; decide) rfl ⟨k, hk, rfl, Or.inr ⟨4, by omega, rfl, hno, rfl, ?_⟩⟩
    rfl
  · clear c1 c2 hv
    rw [show nI 5 = (5 : Int32) from rfl] at k78 ⊢
    refine z_iload_n dT_grow_17 rfl ?_
    refine z_iconst (v := 2) dT_grow_18 (by decide) ?_
    refine z_icmp_lt (tgt := 27) dT_grow_19 (by decide) (fun hc9 => absurd hc9 (by decide)) (fun _ => ?_)
    refine z_iload_n dT_grow_22 rfl ?_
    refine z_iconst (v := 3) dT_grow_23 (by decide) ?_
    refine z_icmp_le (tgt := 31) dT_grow_24 (by decide) (fun hc9 => absurd hc9 (by decide)) (fun _ => ?_)
    refine z_iconst (v := 1) dT_grow_27 (by decide) ?_
    refine z_goto (tgt := 32) dT_grow_28 (by decide) ?_
    refine z_istore dT_grow_32 (by decide) rfl ?_
    try simp only [List.set_cons_succ, List.set_cons_zero]
    refine z_iload_n dT_grow_34 rfl ?_
    refine z_iconst (v := 1) dT_grow_35 (by decide) ?_
    refine z_icmp_le (tgt := 43) dT_grow_36 (by decide) (fun hc9 => absurd hc9 (by decide)) (fun _ => ?_)
    refine z_iconst (v := 1) dT_grow_39 (by decide) ?_
    refine z_goto (tgt := 44) dT_grow_40 (by decide) ?_
    refine z_istore dT_grow_44 (by decide) rfl ?_
    try simp only [List.set_cons_succ, List.set_cons_zero]
    refine z_iload dT_grow_46 rfl ?_
    refine z_if_eq (tgt := 62) dT_grow_48 (by decide) (fun hc9 => absurd hc9 (by decide)) (fun _ => ?_)
    refine z_iconst (v := 2) dT_grow_51 (by decide) ?_
    refine z_aload_n dT_grow_52 rfl ?_
    refine z_get (C := RP) (T := TP) (N := 4) (ref := "ToneMixer$Plane") 1 dT_grow_53 (tw_pl hk) rfl rfl (by decide) (fun w h => bwT (hbP w h)) (bwT b_30) rfl ?_
    refine z_imul dT_grow_56 ?_
    refine z_bipush (v := 32) dT_grow_57 (by decide) ?_
    rw [z_2, show (32 : Int32) = nI 32 from rfl]
    refine z_icmp_gt (tgt := 78) dT_grow_59 (by decide) (fun c => k78 _ _ (Or.inl ⟨rfl, (nI_ltI (by omega) (by omega)).mp c⟩)) (fun c => ?_)
    have hA : 2 * w k ≤ 32 := Nat.not_lt.mp (fun q => c (nI_lt q (by omega)))
    refine z_iload dT_grow_62 rfl ?_
    refine z_if_eq (tgt := 80) dT_grow_64 (by decide) (fun hc9 => absurd hc9 (by decide)) (fun _ => ?_)
    refine z_iconst (v := 2) dT_grow_67 (by decide) ?_
    refine z_aload_n dT_grow_68 rfl ?_
    refine z_get (C := RP) (T := TP) (N := 4) (ref := "ToneMixer$Plane") 2 dT_grow_69 (tw_pl hk) rfl rfl (by decide) (fun w h => bwT (hbP w h)) (bwT b_32) rfl ?_
    refine z_imul dT_grow_72 ?_
    refine z_bipush (v := 32) dT_grow_73 (by decide) ?_
    rw [z_2, show (32 : Int32) = nI 32 from rfl]
    refine z_icmp_le (tgt := 80) dT_grow_75 (by decide) (fun c => ?_) (fun c => k78 _ _ (Or.inr ⟨rfl, Nat.not_le.mp (fun q => c (nI_le q (by omega)))⟩))
    have hD : 2 * h k ≤ 32 := (nI_leI (by omega) (by omega)).mp c
    have hno : ¬ tooL 5 (w k) (h k) := by
      rintro (⟨q1, q2⟩ | ⟨q1, q2⟩)
      · omega
      · omega
    refine z_iload_n dT_grow_80 rfl ?_
    refine z_iconst (v := 2) dT_grow_81 (by decide) ?_
    refine z_irem dT_grow_82 (by decide) ?_
    refine z_iconst (v := 1) dT_grow_83 (by decide) ?_
    refine z_icmp_ne (tgt := 91) dT_grow_84 (by decide) (fun hc9 => absurd hc9 (by decide)) (fun _ => ?_)
    refine z_iconst (v := 1) dT_grow_87 (by decide) ?_
    refine z_goto (tgt := 92) dT_grow_88 (by decide) ?_
    refine z_istore dT_grow_92 (by decide) rfl ?_
    try simp only [List.set_cons_succ, List.set_cons_zero]
    refine z_iload dT_grow_94 rfl ?_
    refine z_if_eq (tgt := 105) dT_grow_96 (by decide) (fun hc9 => absurd hc9 (by decide)) (fun _ => ?_)
    refine z_aload_n dT_grow_99 rfl ?_
    refine z_iload dT_grow_100 rfl ?_
    refine z_part (plx k) (z_V (C := RP) (b := 0) hE (zEok_ev _ _ _ _) (c_growAcross _ D ca _ (f k) (g k) sa (w k) (h k) true hk2 hk4 hA) dT_grow_102 (gd_V b_252 b_253 b_254 b_2 b_255) rfl qP_growAcross ⟨rfl, rfl⟩ (by rw [hR]; decide) (by rw [hR, hC, hS]; decide) rfl (Nat.le_of_ble_eq_true rfl) rfl rfl) (plx_nd k) (tw_in hk) (fun r aw1 hlen hr => ?_)
    obtain ⟨rfl, rfl⟩ := hr
    rw [tw_put hk, va_upn, va_upn0]
    simp only [zpush]
    refine z_iload dT_grow_105 rfl ?_
    refine z_if_eq (tgt := 116) dT_grow_107 (by decide) (fun hc9 => absurd hc9 (by decide)) (fun _ => ?_)
    refine z_aload_n dT_grow_110 rfl ?_
    refine z_iload dT_grow_111 rfl ?_
    refine z_part (plx k) (z_V (C := RP) (b := 0) hE (zEok_ev _ _ _ _) (c_growDown _ D ca _ (grA true (w k) (f k) (g k) (h k)).1 (grA true (w k) (f k) (g k) (h k)).2 sa (2 * w k) (h k) true (by omega) hk4 hD) dT_grow_113 (gd_V b_261 b_262 b_263 b_2 b_264) rfl qP_growDown ⟨rfl, rfl⟩ (by rw [hR]; decide) (by rw [hR, hC, hS]; decide) rfl (Nat.le_of_ble_eq_true rfl) rfl rfl) (plx_nd k) (by have h9 := tw_in (ca := ca) (f := va_up f k (grA true (w k) (f k) (g k) (h k)).1) (g := va_up g k (grA true (w k) (f k) (g k) (h k)).2) (w := fun j => nI (va_up w k (2 * w k) j)) (h := fun k => nI (h k)) hk; rw [va_up_self, va_up_self, va_up_self] at h9; exact h9) (fun r aw1 hlen hr => ?_)
    obtain ⟨rfl, rfl⟩ := hr
    rw [tw_put hk, bx_uu, bx_uu, va_upn, va_upn, bx_uu]
    simp only [zpush]
    refine z_iconst (v := 1) dT_grow_116 (by decide) ?_
    refine z_ireturn dT_grow_117 rfl hX.ret (by rw [hC, hS]; decide) rfl ⟨k, hk, rfl, Or.inr ⟨5, by omega, rfl, hno, rfl, ?_⟩⟩
    rfl
theorem sw_of {x : Int32} (n : Nat) (hn : n < 2 ^ 31) (h1 : ¬ x.toInt < 0) (h2 : ¬ (n : Int) < x.toInt) : ∃ v : Nat, v ≤ n ∧ x = nI v := by
  have h0 : ¬ x < 0 := fun q => h1 (by rw [Int32.lt_iff_toInt_lt] at q; rw [show (0 : Int32).toInt = 0 by decide] at q; exact q)
  obtain ⟨v, hv, rfl⟩ := nI_of h0
  rw [nI_toInt hv] at h2
  exact ⟨v, by omega, rfl⟩
def shr (v : Nat) (f : Nat → Int32) (w h : Nat) : (Nat → Int32) × Nat × Nat :=
  if v = 0 then (shA w f h, (w + 1) / 2, h) else if v = 1 then (shD h f w, w, (h + 1) / 2) else (shB w h f ((h + 1) / 2), (w + 1) / 2, (h + 1) / 2)
set_option maxRecDepth 100000 in
set_option maxHeartbeats 4000000 in
theorem c_shrink (l : Launch) (hl9 : l.stackTraces = false) (D : va_G) (ca : Nat → ClassId) (ad : Nat → Nat) (sa : Nat → Nat) (f g : Nat → Nat → Int32) (w h : Nat → Nat) (hwh : okW w h) (n how : Int32) : zXet l yT_shrink wT_shrink (rmk 7 1 6) 1 6 (zEx sa) (gG D ca ad) (twn ca f g w h) [.ref 0, .int n, .int how] (fun r aw => ∃ k : Nat, k < 4 ∧ n = nI k ∧ (((how.toInt < 0 ∨ 2 < how.toInt) ∧ r = some (.int 0) ∧ aw = twn ca f g w h) ∨ ∃ v : Nat, v < 3 ∧ how = nI v ∧ r = some (.int 1) ∧ aw = twn ca (va_up f k (shr v (f k) (w k) (h k)).1) g (va_up w k (shr v (f k) (w k) (h k)).2.1) (va_up h k (shr v (f k) (w k) (h k)).2.2))) (fun E => E = IOB ∧ noP n) := by
  refine zXet.of (cc := cT_shrink) (maxL := 4) (ret := (some .boolean)) (lv := [some (.ref 0), some (.int n), some (.int how), none]) (by decide) rfl (Nat.le_of_ble_eq_true rfl) rfl (fun M hl0 hR hC hS hE hX => ?_)
  refine z_aload_n dT_shrink_0 rfl ?_
  refine z_iload_n dT_shrink_1 rfl ?_
  refine zx_same (zx_V (C := RT) (b := 0) hE (zEok_ev _ _ _ _) (c_planeOf _ (by rw [hl0]; exact hl9) D ca ad sa f g _ _ n) dT_shrink_2 (gd_V b_124 b_126 bs_8 b_1 b_127) rfl qT_planeOf ⟨rfl, rfl⟩ (by rw [hR]; decide) (by rw [hR, hC, hS]; decide) rfl (Nat.le_of_ble_eq_true rfl) rfl rfl) hX (fun E h => h) (by rw [hC, hS]; decide) (fun r aw1 hlen hr => ?_)
  obtain ⟨N, hN⟩ : ∃ N, N = zup M 1 6 := ⟨_, rfl⟩
  rw [← hN]
  replace hl0 := (by rw [hN, zup_l0]; exact hl0 : zl0 N = l)
  replace hR := (show zroom N = zroom M by rw [hN, zup_room]).trans hR
  replace hC := (by rw [hN, zup_cells, hC] : zcells N = 1)
  replace hS := (by rw [hN, zup_slots, hS] : zslots N = 6)
  replace hE := (by rw [hN]; exact zup_En hE : zEn N (zEx sa))
  replace hX := (by rw [hN]; exact zup_RetX hX : zRetX N _ _ _ _ _ _)
  clear hN
  obtain ⟨rfl, k, hk, rfl, rfl⟩ := hr
  simp only [zpush, zv]
  obtain ⟨hk1, hk2, hk3, hk4⟩ := hwh k hk
  refine z_astore_n dT_shrink_5 (by decide) rfl ?_
  try simp only [List.set_cons_succ, List.set_cons_zero]
  refine z_iload_n dT_shrink_6 rfl ?_
  by_cases hb : how.toInt < 0 ∨ 2 < how.toInt
  · refine z_tableOut (tgt := 50) dT_shrink_7 hb (by decide) ?_
    refine z_iconst (v := 0) dT_shrink_50 (by decide) ?_
    exact z_ireturn dT_shrink_51 rfl hX.ret (by rw [hC, hS]; decide) rfl ⟨k, hk, rfl, Or.inl ⟨hb, rfl, rfl⟩⟩
  · obtain ⟨v, hv, rfl⟩ := sw_of 2 (by decide) (fun q => hb (Or.inl q)) (fun q => hb (Or.inr q))
    clear hb
    rcases (show v = 0 ∨ v = 1 ∨ v = 2 by omega) with rfl | rfl | rfl
    · refine z_tableIn (off := 25) (tgt := 32) dT_shrink_7 (by decide) (by decide) rfl (by decide) ?_
      refine z_aload_n dT_shrink_32 rfl ?_
      refine z_part (plx k) (z_V (C := RP) (b := 0) hE (zEok_ev _ _ _ _) (c_shrinkAcross _ D ca _ (f k) (g k) sa (w k) (h k) hk1 hk3 hk2 hk4) dT_shrink_33 (gd_V b_272 b_273 b_274 b_2 b_275) rfl qP_shrinkAcross ⟨rfl, rfl⟩ (by rw [hR]; decide) (by rw [hR, hC, hS]; decide) rfl (Nat.le_of_ble_eq_true rfl) rfl rfl) (plx_nd k) (tw_in hk) (fun r aw1 hlen hr => ?_)
      obtain ⟨rfl, rfl⟩ := hr
      rw [tw_put hk, va_upn, va_upn0, va_upk]
      simp only [zpush]
      refine z_iconst (v := 1) dT_shrink_36 (by decide) ?_
      refine z_ireturn dT_shrink_37 rfl hX.ret (by rw [hC, hS]; decide) rfl ⟨k, hk, rfl, Or.inr ⟨0, by omega, rfl, rfl, ?_⟩⟩
      show _ = twn ca (va_up f k _) g (va_up w k _) (va_up h k (h k))
      rw [va_upk]; rfl
    · refine z_tableIn (off := 31) (tgt := 38) dT_shrink_7 (by decide) (by decide) rfl (by decide) ?_
      refine z_aload_n dT_shrink_38 rfl ?_
      refine z_part (plx k) (z_V (C := RP) (b := 0) hE (zEok_ev _ _ _ _) (c_shrinkDown _ D ca _ (f k) (g k) sa (w k) (h k) hk1 hk3 hk2 hk4) dT_shrink_39 (gd_V b_284 b_285 b_286 b_2 b_287) rfl qP_shrinkDown ⟨rfl, rfl⟩ (by rw [hR]; decide) (by rw [hR, hC, hS]; decide) rfl (Nat.le_of_ble_eq_true rfl) rfl rfl) (plx_nd k) (tw_in hk) (fun r aw1 hlen hr => ?_)
      obtain ⟨rfl, rfl⟩ := hr
      rw [tw_put hk, va_upn0 w, va_upn, va_upk]
      simp only [zpush]
      refine z_iconst (v := 1) dT_shrink_42 (by decide) ?_
      refine z_ireturn dT_shrink_43 rfl hX.ret (by rw [hC, hS]; decide) rfl ⟨k, hk, rfl, Or.inr ⟨1, by omega, rfl, rfl, ?_⟩⟩
      show _ = twn ca (va_up f k _) g (va_up w k (w k)) (va_up h k _)
      rw [va_upk]; rfl
    · refine z_tableIn (off := 37) (tgt := 44) dT_shrink_7 (by decide) (by decide) rfl (by decide) ?_
      refine z_aload_n dT_shrink_44 rfl ?_
      refine z_part (plx k) (z_V (C := RP) (b := 0) hE (zEok_ev _ _ _ _) (c_shrinkBoth _ D ca _ (f k) (g k) sa (w k) (h k) hk1 hk3 hk2 hk4) dT_shrink_45 (gd_V b_288 b_289 b_290 b_2 b_291) rfl qP_shrinkBoth ⟨rfl, rfl⟩ (by rw [hR]; decide) (by rw [hR, hC, hS]; decide) rfl (Nat.le_of_ble_eq_true rfl) rfl rfl) (plx_nd k) (tw_in hk) (fun r aw1 hlen hr => ?_)
      obtain ⟨rfl, rfl⟩ := hr
      rw [tw_put hk, va_upn, va_upn, va_upk]
      simp only [zpush]
      refine z_iconst (v := 1) dT_shrink_48 (by decide) ?_
      exact z_ireturn dT_shrink_49 rfl hX.ret (by rw [hC, hS]; decide) rfl ⟨k, hk, rfl, Or.inr ⟨2, by omega, rfl, rfl, rfl⟩⟩
def lkv (v : Nat) (f : Nat → Int32) (w h : Nat) : Int32 := if v = 0 then nI w else if v = 1 then nI h else if v = 2 then allF (fun a b => a + b) f w h 0 else if v = 3 then allF (fun a b => if b < a then b else a) f w h 255 else allF (fun a b => if a < b then b else a) f w h 0
set_option maxRecDepth 100000 in
set_option maxHeartbeats 4000000 in
theorem c_look (l : Launch) (hl9 : l.stackTraces = false) (D : va_G) (ca : Nat → ClassId) (ad : Nat → Nat) (sa : Nat → Nat) (f g : Nat → Nat → Int32) (w h : Nat → Nat) (hwh : okW w h) (n how : Int32) : zXet l yT_look wT_look (rmk 7 1 6) 1 6 (zEx sa) (gG D ca ad) (twn ca f g w h) [.ref 0, .int n, .int how] (fun r aw => ∃ k : Nat, k < 4 ∧ n = nI k ∧ aw = twn ca f g w h ∧ (((how.toInt < 0 ∨ 4 < how.toInt) ∧ r = some (.int (-1))) ∨ ∃ v : Nat, v < 5 ∧ how = nI v ∧ r = some (.int (lkv v (f k) (w k) (h k))))) (fun E => E = IOB ∧ noP n) := by
  refine zXet.of (cc := cT_look) (maxL := 4) (ret := (some .int)) (lv := [some (.ref 0), some (.int n), some (.int how), none]) (by decide) rfl (Nat.le_of_ble_eq_true rfl) rfl (fun M hl0 hR hC hS hE hX => ?_)
  refine z_aload_n dT_look_0 rfl ?_
  refine z_iload_n dT_look_1 rfl ?_
  refine zx_same (zx_V (C := RT) (b := 0) hE (zEok_ev _ _ _ _) (c_planeOf _ (by rw [hl0]; exact hl9) D ca ad sa f g _ _ n) dT_look_2 (gd_V b_124 b_126 bs_8 b_1 b_127) rfl qT_planeOf ⟨rfl, rfl⟩ (by rw [hR]; decide) (by rw [hR, hC, hS]; decide) rfl (Nat.le_of_ble_eq_true rfl) rfl rfl) hX (fun E h => h) (by rw [hC, hS]; decide) (fun r aw1 hlen hr => ?_)
  obtain ⟨N, hN⟩ : ∃ N, N = zup M 1 6 := ⟨_, rfl⟩
  rw [← hN]
  replace hl0 := (by rw [hN, zup_l0]; exact hl0 : zl0 N = l)
  replace hR := (show zroom N = zroom M by rw [hN, zup_room]).trans hR
  replace hC := (by rw [hN, zup_cells, hC] : zcells N = 1)
  replace hS := (by rw [hN, zup_slots, hS] : zslots N = 6)
  replace hE := (by rw [hN]; exact zup_En hE : zEn N (zEx sa))
  replace hX := (by rw [hN]; exact zup_RetX hX : zRetX N _ _ _ _ _ _)
  clear hN
  obtain ⟨rfl, k, hk, rfl, rfl⟩ := hr
  simp only [zpush, zv]
  obtain ⟨hk1, hk2, hk3, hk4⟩ := hwh k hk
  refine z_astore_n dT_look_5 (by decide) rfl ?_
  try simp only [List.set_cons_succ, List.set_cons_zero]
  refine z_iload_n dT_look_6 rfl ?_
  by_cases hb : how.toInt < 0 ∨ 4 < how.toInt
  · refine z_tableOut (tgt := 65) dT_look_7 hb (by decide) ?_
    refine z_iconst (v := -1) dT_look_65 (by decide) ?_
    exact z_ireturn dT_look_66 rfl hX.ret (by rw [hC, hS]; decide) rfl ⟨k, hk, rfl, rfl, Or.inl ⟨hb, rfl⟩⟩
  · obtain ⟨v, hv, rfl⟩ := sw_of 4 (by decide) (fun q => hb (Or.inl q)) (fun q => hb (Or.inr q))
    clear hb
    rcases (show v = 0 ∨ v = 1 ∨ v = 2 ∨ v = 3 ∨ v = 4 by omega) with rfl | rfl | rfl | rfl | rfl
    · refine z_tableIn (off := 33) (tgt := 40) dT_look_7 (by decide) (by decide) rfl (by decide) ?_
      refine z_aload_n dT_look_40 rfl ?_
      refine z_get (C := RP) (T := TP) (N := 4) (ref := "ToneMixer$Plane") 1 dT_look_41 (tw_pl hk) rfl rfl (by decide) (fun w h => bwT (hbP w h)) (bwT b_30) rfl ?_
      exact z_ireturn dT_look_44 rfl hX.ret (by rw [hC, hS]; decide) rfl ⟨k, hk, rfl, rfl, Or.inr ⟨0, by omega, rfl, rfl⟩⟩
    · refine z_tableIn (off := 38) (tgt := 45) dT_look_7 (by decide) (by decide) rfl (by decide) ?_
      refine z_aload_n dT_look_45 rfl ?_
      refine z_get (C := RP) (T := TP) (N := 4) (ref := "ToneMixer$Plane") 2 dT_look_46 (tw_pl hk) rfl rfl (by decide) (fun w h => bwT (hbP w h)) (bwT b_32) rfl ?_
      exact z_ireturn dT_look_49 rfl hX.ret (by rw [hC, hS]; decide) rfl ⟨k, hk, rfl, rfl, Or.inr ⟨1, by omega, rfl, rfl⟩⟩
    · refine z_tableIn (off := 43) (tgt := 50) dT_look_7 (by decide) (by decide) rfl (by decide) ?_
      refine z_aload_n dT_look_50 rfl ?_
      refine z_part (plx k) (z_V (C := RP) (b := 0) hE (zEok_ev _ _ _ _) (c_sum _ D ca _ (f k) (g k) sa (w k) (h k) hk2 hk4) dT_look_51 (gd_V b_368 b_369 b_370 b_2 b_371) rfl qP_sum ⟨rfl, rfl⟩ (by rw [hR]; decide) (by rw [hR, hC, hS]; decide) rfl (Nat.le_of_ble_eq_true rfl) rfl rfl) (plx_nd k) (tw_in hk) (fun r aw1 hlen hr => ?_)
      obtain ⟨rfl, rfl⟩ := hr
      rw [tw_put0 hk]
      simp only [zpush, zv]
      exact z_ireturn dT_look_54 rfl hX.ret (by rw [hC, hS]; decide) rfl ⟨k, hk, rfl, rfl, Or.inr ⟨2, by omega, rfl, rfl⟩⟩
    · refine z_tableIn (off := 48) (tgt := 55) dT_look_7 (by decide) (by decide) rfl (by decide) ?_
      refine z_aload_n dT_look_55 rfl ?_
      refine z_part (plx k) (z_V (C := RP) (b := 0) hE (zEok_ev _ _ _ _) (c_least _ D ca _ (f k) (g k) sa (w k) (h k) hk2 hk4) dT_look_56 (gd_V b_372 b_373 b_374 b_2 b_375) rfl qP_least ⟨rfl, rfl⟩ (by rw [hR]; decide) (by rw [hR, hC, hS]; decide) rfl (Nat.le_of_ble_eq_true rfl) rfl rfl) (plx_nd k) (tw_in hk) (fun r aw1 hlen hr => ?_)
      obtain ⟨rfl, rfl⟩ := hr
      rw [tw_put0 hk]
      simp only [zpush, zv]
      exact z_ireturn dT_look_59 rfl hX.ret (by rw [hC, hS]; decide) rfl ⟨k, hk, rfl, rfl, Or.inr ⟨3, by omega, rfl, rfl⟩⟩
    · refine z_tableIn (off := 53) (tgt := 60) dT_look_7 (by decide) (by decide) rfl (by decide) ?_
      refine z_aload_n dT_look_60 rfl ?_
      refine z_part (plx k) (z_V (C := RP) (b := 0) hE (zEok_ev _ _ _ _) (c_greatest _ D ca _ (f k) (g k) sa (w k) (h k) hk2 hk4) dT_look_61 (gd_V b_376 b_377 b_378 b_2 b_379) rfl qP_greatest ⟨rfl, rfl⟩ (by rw [hR]; decide) (by rw [hR, hC, hS]; decide) rfl (Nat.le_of_ble_eq_true rfl) rfl rfl) (plx_nd k) (tw_in hk) (fun r aw1 hlen hr => ?_)
      obtain ⟨rfl, rfl⟩ := hr
      rw [tw_put0 hk]
      simp only [zpush, zv]
      exact z_ireturn dT_look_64 rfl hX.ret (by rw [hC, hS]; decide) rfl ⟨k, hk, rfl, rfl, Or.inr ⟨4, by omega, rfl, rfl⟩⟩
end
section
section
variable {ca : Nat → ClassId} {f g : Nat → Nat → Int32} {w h : Nat → Int32} {i j : Nat}
theorem tw_in6 (hi : i < 4) (hj : j < 4) (hij : i ≠ j) : (plx i ++ plx j).map (fun q => (tw ca f g w h)[q]?) = (pw6 ca (f i) (g i) (f j) (g j) (w i) (h i) (w j) (h j)).map (fun e => some (zc (zix (plx i ++ plx j)) e)) := by
  rcases k4 hi with rfl | rfl | rfl | rfl <;> rcases k4 hj with rfl | rfl | rfl | rfl <;> first | exact absurd rfl hij | rfl
theorem plx2_nd (hi : i < 4) (hj : j < 4) (hij : i ≠ j) : (plx i ++ plx j).Nodup := by
  rcases k4 hi with rfl | rfl | rfl | rfl <;> rcases k4 hj with rfl | rfl | rfl | rfl <;> first | exact absurd rfl hij | decide
theorem tw_put6 (hi : i < 4) (hj : j < 4) (hij : i ≠ j) (f1 g1 f2 g2 : Nat → Int32) (w1 h1 w2 h2 : Int32) : zput (zix (plx i ++ plx j)) (plx i ++ plx j) (tw ca f g w h) (pw6 ca f1 g1 f2 g2 w1 h1 w2 h2) = tw ca (va_up (va_up f i f1) j f2) (va_up (va_up g i g1) j g2) (va_up (va_up w i w1) j w2) (va_up (va_up h i h1) j h2) := by
  rcases k4 hi with rfl | rfl | rfl | rfl <;> rcases k4 hj with rfl | rfl | rfl | rfl <;> first | exact absurd rfl hij | rfl
end
theorem va_upo {α : Type} (f : Nat → α) {i j : Nat} (x : α) (h : i ≠ j) : va_up (va_up f i x) j (f j) = va_up f i x := by
  funext q; unfold va_up
  by_cases h1 : q = j
  · subst h1; rw [if_pos rfl, if_neg (Ne.symm h)]
  · rw [if_neg h1]
set_option maxRecDepth 100000 in
set_option maxHeartbeats 4000000 in
theorem c_copy (l : Launch) (hl9 : l.stackTraces = false) (D : va_G) (ca : Nat → ClassId) (ad : Nat → Nat) (sa : Nat → Nat) (f g : Nat → Nat → Int32) (w h : Nat → Nat) (hwh : okW w h) (n m : Int32) : zXet l yT_copy wT_copy (rmk 7 2 12) 2 12 (zEx sa) (gG D ca ad) (twn ca f g w h) [.ref 0, .int n, .int m] (fun r aw => ∃ k k2 : Nat, k < 4 ∧ k2 < 4 ∧ n = nI k ∧ m = nI k2 ∧ r = none ∧ aw = twn ca (va_up f k2 (va_cpy (f k) (f k2) 0 0 1024)) g (va_up w k2 (w k)) (va_up h k2 (h k))) (fun E => E = IOB ∧ (noP n ∨ noP m)) := by
  refine zXet.of (cc := cT_copy) (maxL := 5) (ret := none) (lv := [some (.ref 0), some (.int n), some (.int m), none, none]) (by decide) rfl (Nat.le_of_ble_eq_true rfl) rfl (fun M hl0 hR hC hS hE hX => ?_)
  refine z_aload_n dT_copy_0 rfl ?_
  refine z_iload_n dT_copy_1 rfl ?_
  refine zx_same (zx_V (C := RT) (b := 0) hE (zEok_ev _ _ _ _) (c_planeOf _ (by rw [hl0]; exact hl9) D ca ad sa f g _ _ n) dT_copy_2 (gd_V b_124 b_126 bs_8 b_1 b_127) rfl qT_planeOf ⟨rfl, rfl⟩ (by rw [hR]; decide) (by rw [hR, hC, hS]; decide) rfl (Nat.le_of_ble_eq_true rfl) rfl rfl) hX (fun E h => ⟨h.1, Or.inl h.2⟩) (by rw [hC, hS]; decide) (fun r aw1 hlen hr => ?_)
  obtain ⟨N, hN⟩ : ∃ N, N = zup M 1 6 := ⟨_, rfl⟩
  rw [← hN]
  replace hl0 := (by rw [hN, zup_l0]; exact hl0 : zl0 N = l)
  replace hR := (show zroom N = zroom M by rw [hN, zup_room]).trans hR
  replace hC := (by rw [hN, zup_cells, hC] : zcells N = 1)
  replace hS := (by rw [hN, zup_slots, hS] : zslots N = 6)
  replace hE := (by rw [hN]; exact zup_En hE : zEn N (zEx sa))
  replace hX := (by rw [hN]; exact zup_RetX hX : zRetX N _ _ _ _ _ _)
  clear hN
  obtain ⟨rfl, k, hk, rfl, rfl⟩ := hr
  simp only [zpush, zv]
  refine z_astore_n dT_copy_5 (by decide) rfl ?_
  try simp only [List.set_cons_succ, List.set_cons_zero]
  refine z_aload_n dT_copy_6 rfl ?_
  refine z_iload_n dT_copy_7 rfl ?_
  refine zx_same (zx_V (C := RT) (b := 0) hE (zEok_ev _ _ _ _) (c_planeOf _ (by rw [hl0]; exact hl9) D ca ad sa f g _ _ m) dT_copy_8 (gd_V b_124 b_126 bs_8 b_1 b_127) rfl qT_planeOf ⟨rfl, rfl⟩ (by rw [hR]; decide) (by rw [hR, hC, hS]; decide) rfl (Nat.le_of_ble_eq_true rfl) rfl rfl) hX (fun E h => ⟨h.1, Or.inr h.2⟩) (by rw [hC, hS]; decide) (fun r aw1 hlen hr => ?_)
  obtain ⟨N2, hN⟩ : ∃ N2, N2 = zup N 1 6 := ⟨_, rfl⟩
  rw [← hN]
  replace hl0 := (by rw [hN, zup_l0]; exact hl0 : zl0 N2 = l)
  replace hR := (show zroom N2 = zroom N by rw [hN, zup_room]).trans hR
  replace hC := (by rw [hN, zup_cells, hC] : zcells N2 = 2)
  replace hS := (by rw [hN, zup_slots, hS] : zslots N2 = 12)
  replace hE := (by rw [hN]; exact zup_En hE : zEn N2 (zEx sa))
  replace hX := (by rw [hN]; exact zup_RetX hX : zRetX N2 _ _ _ _ _ _)
  clear hN
  obtain ⟨rfl, k2, hk2, rfl, rfl⟩ := hr
  simp only [zpush, zv]
  refine z_astore dT_copy_11 (by decide) rfl ?_
  try simp only [List.set_cons_succ, List.set_cons_zero]
  refine z_aload dT_copy_13 rfl ?_
  refine z_aload_n dT_copy_15 rfl ?_
  by_cases hkk : k2 = k
  · have hkk' := hkk.symm
    subst hkk'
    refine z_part (plx k) (z_V (C := RP) (b := 0) hE zEok_0 (c_becomeLike_self _ D ca _ (f k) (g k) (nI (w k)) (nI (h k))) dT_copy_16 (gd_V b_303 b_304 b_305 b_2 b_306) rfl qP_becomeLike ⟨rfl, rfl⟩ (by rw [hR]; decide) (by rw [hR, hC, hS]; decide) rfl (Nat.le_of_ble_eq_true rfl) rfl rfl) (plx_nd k) (tw_in hk) (fun r aw1 hlen hr => ?_)
    obtain ⟨rfl, rfl⟩ := hr
    rw [tw_put hk, va_upk, va_upk, va_upk]
    simp only [zpush]
    exact z_return dT_copy_19 hX.ret (by rw [hC, hS]; decide) rfl ⟨k, k, hk, hk, rfl, rfl, rfl, by rw [va_upk, va_upk]⟩
  · refine z_part (plx k2 ++ plx k) (z_V (C := RP) (b := 0) hE zEok_0 (c_becomeLike _ D ca _ (f k2) (g k2) (nI (w k2)) (nI (h k2)) (f k) (g k) (nI (w k)) (nI (h k))) dT_copy_16 (gd_V b_303 b_304 b_305 b_2 b_306) rfl qP_becomeLike ⟨rfl, rfl⟩ (by rw [hR]; decide) (by rw [hR, hC, hS]; decide) rfl (Nat.le_of_ble_eq_true rfl) rfl rfl) (plx2_nd hk2 hk hkk) (tw_in6 hk2 hk hkk) (fun r aw1 hlen hr => ?_)
    obtain ⟨rfl, rfl⟩ := hr
    rw [tw_put6 hk2 hk hkk, va_upk, va_upk, va_upo f _ hkk, va_upo (fun k => nI (w k)) _ hkk, va_upo (fun k => nI (h k)) _ hkk, va_upn, va_upn]
    simp only [zpush]
    exact z_return dT_copy_19 hX.ret (by rw [hC, hS]; decide) rfl ⟨k, k2, hk, hk2, rfl, rfl, rfl, rfl⟩
set_option maxRecDepth 100000 in
set_option maxHeartbeats 4000000 in
theorem c_apart (l : Launch) (hl9 : l.stackTraces = false) (D : va_G) (ca : Nat → ClassId) (ad : Nat → Nat) (sa : Nat → Nat) (f g : Nat → Nat → Int32) (w h : Nat → Nat) (hwh : okW w h) (n m : Int32) : zXet l yT_apart wT_apart (rmk 7 2 12) 2 12 (zEx sa) (gG D ca ad) (twn ca f g w h) [.ref 0, .int n, .int m] (fun r aw => ∃ k k2 : Nat, k < 4 ∧ k2 < 4 ∧ n = nI k ∧ m = nI k2 ∧ aw = twn ca f g w h ∧ r = some (.int (if w k = w k2 ∧ h k = h k2 then allF (fun a b => if a < b then b else a) (fun j => zab (f k j - f k2 j)) (w k) (h k) 0 else -1))) (fun E => E = IOB ∧ (noP n ∨ noP m)) := by
  refine zXet.of (cc := cT_apart) (maxL := 5) (ret := (some .int)) (lv := [some (.ref 0), some (.int n), some (.int m), none, none]) (by decide) rfl (Nat.le_of_ble_eq_true rfl) rfl (fun M hl0 hR hC hS hE hX => ?_)
  refine z_aload_n dT_apart_0 rfl ?_
  refine z_iload_n dT_apart_1 rfl ?_
  refine zx_same (zx_V (C := RT) (b := 0) hE (zEok_ev _ _ _ _) (c_planeOf _ (by rw [hl0]; exact hl9) D ca ad sa f g _ _ n) dT_apart_2 (gd_V b_124 b_126 bs_8 b_1 b_127) rfl qT_planeOf ⟨rfl, rfl⟩ (by rw [hR]; decide) (by rw [hR, hC, hS]; decide) rfl (Nat.le_of_ble_eq_true rfl) rfl rfl) hX (fun E h => ⟨h.1, Or.inl h.2⟩) (by rw [hC, hS]; decide) (fun r aw1 hlen hr => ?_)
  obtain ⟨N, hN⟩ : ∃ N, N = zup M 1 6 := ⟨_, rfl⟩
  rw [← hN]
  replace hl0 := (by rw [hN, zup_l0]; exact hl0 : zl0 N = l)
  replace hR := (show zroom N = zroom M by rw [hN, zup_room]).trans hR
  replace hC := (by rw [hN, zup_cells, hC] : zcells N = 1)
  replace hS := (by rw [hN, zup_slots, hS] : zslots N = 6)
  replace hE := (by rw [hN]; exact zup_En hE : zEn N (zEx sa))
  replace hX := (by rw [hN]; exact zup_RetX hX : zRetX N _ _ _ _ _ _)
  clear hN
  obtain ⟨rfl, k, hk, rfl, rfl⟩ := hr
  simp only [zpush, zv]
  refine z_astore_n dT_apart_5 (by decide) rfl ?_
  try simp only [List.set_cons_succ, List.set_cons_zero]
  refine z_aload_n dT_apart_6 rfl ?_
  refine z_iload_n dT_apart_7 rfl ?_
  refine zx_same (zx_V (C := RT) (b := 0) hE (zEok_ev _ _ _ _) (c_planeOf _ (by rw [hl0]; exact hl9) D ca ad sa f g _ _ m) dT_apart_8 (gd_V b_124 b_126 bs_8 b_1 b_127) rfl qT_planeOf ⟨rfl, rfl⟩ (by rw [hR]; decide) (by rw [hR, hC, hS]; decide) rfl (Nat.le_of_ble_eq_true rfl) rfl rfl) hX (fun E h => ⟨h.1, Or.inr h.2⟩) (by rw [hC, hS]; decide) (fun r aw1 hlen hr => ?_)
  obtain ⟨N2, hN⟩ : ∃ N2, N2 = zup N 1 6 := ⟨_, rfl⟩
  rw [← hN]
  replace hl0 := (by rw [hN, zup_l0]; exact hl0 : zl0 N2 = l)
  replace hR := (show zroom N2 = zroom N by rw [hN, zup_room]).trans hR
  replace hC := (by rw [hN, zup_cells, hC] : zcells N2 = 2)
  replace hS := (by rw [hN, zup_slots, hS] : zslots N2 = 12)
  replace hE := (by rw [hN]; exact zup_En hE : zEn N2 (zEx sa))
  replace hX := (by rw [hN]; exact zup_RetX hX : zRetX N2 _ _ _ _ _ _)
  clear hN
  obtain ⟨rfl, k2, hk2, rfl, rfl⟩ := hr
  simp only [zpush, zv]
  obtain ⟨hw1, hw2, hw3, hw4⟩ := hwh k hk
  obtain ⟨hv1, hv2, hv3, hv4⟩ := hwh k2 hk2
  refine z_astore dT_apart_11 (by decide) rfl ?_
  try simp only [List.set_cons_succ, List.set_cons_zero]
  refine z_aload_n dT_apart_13 rfl ?_
  refine z_aload dT_apart_14 rfl ?_
  by_cases hkk : k = k2
  · subst hkk
    refine z_part (plx k) (z_V (C := RP) (b := 0) hE zEok_0 (c_isOfSizeOf_self _ D ca _ (f k) (g k) (nI (w k)) (nI (h k))) dT_apart_16 (gd_V b_56 b_57 b_58 b_2 b_59) rfl qP_isOfSizeOf ⟨rfl, rfl⟩ (by rw [hR]; decide) (by rw [hR, hC, hS]; decide) rfl (Nat.le_of_ble_eq_true rfl) rfl rfl) (plx_nd k) (tw_in hk) (fun r aw1 hlen hr => ?_)
    obtain ⟨rfl, rfl⟩ := hr
    rw [tw_put0 hk, if_pos ⟨rfl, rfl⟩]
    simp only [zpush, zv]
    refine z_if_eq (tgt := 31) dT_apart_19 (by decide) (fun hc => absurd hc (by decide)) (fun _ => ?_)
    refine z_aload_n dT_apart_22 rfl ?_
    refine z_aload dT_apart_23 rfl ?_
    refine z_part (plx k) (z_V (C := RP) (b := 0) hE (zEok_ev _ _ _ _) (c_greatestDifference_self _ D ca _ (f k) (g k) sa (w k) (h k) hw2 hw4) dT_apart_25 (gd_V b_353 b_354 b_355 b_2 b_356) rfl qP_greatestDifference ⟨rfl, rfl⟩ (by rw [hR]; decide) (by rw [hR, hC, hS]; decide) rfl (Nat.le_of_ble_eq_true rfl) rfl rfl) (plx_nd k) (tw_in hk) (fun r aw1 hlen hr => ?_)
    obtain ⟨rfl, rfl⟩ := hr
    rw [tw_put0 hk]
    simp only [zpush, zv]
    refine z_goto (tgt := 32) dT_apart_28 (by decide) ?_
    exact z_ireturn dT_apart_32 rfl hX.ret (by rw [hC, hS]; decide) rfl ⟨k, k, hk, hk, rfl, rfl, rfl, by rw [if_pos ⟨rfl, rfl⟩]⟩
  · refine z_part (plx k ++ plx k2) (z_V (C := RP) (b := 0) hE zEok_0 (c_isOfSizeOf _ D ca _ (f k) (g k) (nI (w k)) (nI (h k)) (f k2) (g k2) (nI (w k2)) (nI (h k2))) dT_apart_16 (gd_V b_56 b_57 b_58 b_2 b_59) rfl qP_isOfSizeOf ⟨rfl, rfl⟩ (by rw [hR]; decide) (by rw [hR, hC, hS]; decide) rfl (Nat.le_of_ble_eq_true rfl) rfl rfl) (plx2_nd hk hk2 hkk) (tw_in6 hk hk2 hkk) (fun r aw1 hlen hr => ?_)
    obtain ⟨rfl, rfl⟩ := hr
    rw [tw_put6 hk hk2 hkk, va_upk, va_upk, va_upk, va_upk, va_upk, va_upk, va_upk, va_upk]
    simp only [zpush, zv]
    by_cases hs : w k = w k2 ∧ h k = h k2
    · rw [if_pos (show nI (w k) = nI (w k2) ∧ nI (h k) = nI (h k2) from ⟨by rw [hs.1], by rw [hs.2]⟩)]
      refine z_if_eq (tgt := 31) dT_apart_19 (by decide) (fun hc => absurd hc (by decide)) (fun _ => ?_)
      refine z_aload_n dT_apart_22 rfl ?_
      refine z_aload dT_apart_23 rfl ?_
      refine z_part (plx k ++ plx k2) (z_V (C := RP) (b := 0) hE (zEok_ev _ _ _ _) (c_greatestDifference _ D ca _ (f k) (g k) sa (w k) (h k) (f k2) (g k2) (w k2) (h k2) hw2 hw4) dT_apart_25 (gd_V b_353 b_354 b_355 b_2 b_356) rfl qP_greatestDifference ⟨rfl, rfl⟩ (by rw [hR]; decide) (by rw [hR, hC, hS]; decide) rfl (Nat.le_of_ble_eq_true rfl) rfl rfl) (plx2_nd hk hk2 hkk) (tw_in6 hk hk2 hkk) (fun r aw1 hlen hr => ?_)
      obtain ⟨rfl, rfl⟩ := hr
      rw [tw_put6 hk hk2 hkk, va_upk, va_upk, va_upk, va_upk, va_upk, va_upk, va_upk, va_upk]
      simp only [zpush, zv]
      refine z_goto (tgt := 32) dT_apart_28 (by decide) ?_
      exact z_ireturn dT_apart_32 rfl hX.ret (by rw [hC, hS]; decide) rfl ⟨k, k2, hk, hk2, rfl, rfl, rfl, by rw [if_pos hs]⟩
    · rw [if_neg (fun q : nI (w k) = nI (w k2) ∧ nI (h k) = nI (h k2) => hs ⟨(nI_eq (by omega) (by omega)).mp q.1, (nI_eq (by omega) (by omega)).mp q.2⟩)]
      refine z_if_eq (tgt := 31) dT_apart_19 (by decide) (fun _ => ?_) (fun hc => absurd rfl hc)
      refine z_iconst (v := -1) dT_apart_31 (by decide) ?_
      exact z_ireturn dT_apart_32 rfl hX.ret (by rw [hC, hS]; decide) rfl ⟨k, k2, hk, hk2, rfl, rfl, rfl, by rw [if_neg hs]⟩
end
section
/-! mixes -/
def up3 (f : Nat → Nat → Int32) (p : Nat) (c : Int32 × Int32 × Int32) : Nat → Nat → Int32 := va_up (va_up (va_up f 0 (upd (f 0) p c.1)) 1 (upd (f 1) p c.2.1)) 2 (upd (f 2) p c.2.2)
theorem upd_upd (f : Nat → Int32) (p : Nat) (x y : Int32) : upd (upd f p x) p y = upd f p y := by
  funext j
  by_cases h : j = p
  · subst h; rw [pk_us, pk_us]
  · rw [pk_un h, pk_un h, pk_un h]
theorem up3_at (f : Nat → Nat → Int32) (p : Nat) (c : Int32 × Int32 × Int32) : up3 f p c 0 p = c.1 ∧ up3 f p c 1 p = c.2.1 ∧ up3 f p c 2 p = c.2.2 ∧ up3 f p c 3 = f 3 := ⟨pk_us, pk_us, pk_us, rfl⟩
theorem up3_up3 (f : Nat → Nat → Int32) (p : Nat) (c d : Int32 × Int32 × Int32) : up3 (up3 f p c) p d = up3 f p d := by
  funext k
  show va_up (va_up (va_up (up3 f p c) 0 (upd (upd (f 0) p c.1) p d.1)) 1 (upd (upd (f 1) p c.2.1) p d.2.1)) 2 (upd (upd (f 2) p c.2.2) p d.2.2) k = _
  rw [upd_upd, upd_upd, upd_upd]
  unfold up3 va_up
  by_cases h2 : k = 2
  · simp [h2]
  · by_cases h1 : k = 1
    · simp [h1]
    · by_cases h0 : k = 0
      · simp [h0]
      · simp [h0, h1, h2]
def sh16 (v : Int32) : Int32 := v >>> ((16 : Int32) &&& 31)
def opC (a b c : Int32) : Int32 × Int32 × Int32 := (lim (a + sh16 (91881 * (c - 128) + 32768)), lim (a + sh16 (-22554 * (b - 128) - 46802 * (c - 128) + 32768)), lim (a + sh16 (116130 * (b - 128) + 32768)))
def clC (a b c : Int32) : Int32 × Int32 × Int32 := (bri a b c, sh16 (-11059 * a - 21709 * b + 32768 * c + 8421375), sh16 (32768 * a - 27439 * b - 5329 * c + 8421375))
def inC (a b c : Int32) : Int32 × Int32 × Int32 := (255 - a, 255 - b, 255 - c)
def daC (a b c d : Int32) : Int32 × Int32 × Int32 := ((a * (255 - d) + 127) / 255, (b * (255 - d) + 127) / 255, (c * (255 - d) + 127) / 255)
def gyC (a b c : Int32) : Int32 × Int32 × Int32 := (bri a b c, bri a b c, bri a b c)
def mxP (v : Nat) (a b c d : Int32) : Int32 × Int32 × Int32 := if v = 0 then opC a b c else if v = 1 then clC a b c else if v = 2 then inC a b c else if v = 3 then daC a b c d else if v = 4 then gyC a b c else if v = 5 then inC (opC a b c).1 (opC a b c).2.1 (opC a b c).2.2 else clC (inC a b c).1 (inC a b c).2.1 (inC a b c).2.2
set_option maxRecDepth 100000 in
set_option maxHeartbeats 4000000 in
theorem c_setColours (l : Launch) (D : va_G) (ca : Nat → ClassId) (ad : Nat → Nat) (f g : Nat → Nat → Int32) (w h : Nat → Nat) (p : Nat) (hp : p < 1024) (a b c : Int32) : zMet l yT_setColours wT_setColours (rmk 0 0 0) zE0 (gG D ca ad) (twn ca f g w h) [.ref 0, .int (nI p), .int a, .int b, .int c] (fun r aw => r = none ∧ aw = twn ca (up3 f p (a, b, c)) g w h) := by
  refine zMet.of (cc := cT_setColours) (maxL := 5) (ret := none) (lv := [some (.ref 0), some (.int (nI p)), some (.int a), some (.int b), some (.int c)]) (by decide) rfl (Nat.le_of_ble_eq_true rfl) rfl (fun M hl0 hR hC hS hE hret => ?_)
  refine z_aload_n dT_setColours_0 rfl ?_
  refine z_get (C := RT) (T := TT) (N := 1) (ref := "ToneMixer") 0 dT_setColours_1 rfl rfl rfl (by decide) (fun w h => bwT (hbT w h)) (bwT b_44) rfl ?_
  refine z_iconst (v := 0) dT_setColours_4 (by decide) ?_
  refine z_aaldN (t0 := 2) (k := 0) dT_setColours_5 rfl rfl (rfl) (by decide) (by decide) rfl ?_
  refine z_get (C := RP) (T := TP) (N := 4) (ref := "ToneMixer$Plane") 0 dT_setColours_6 rfl rfl rfl (by decide) (fun w h => bwT (hbP w h)) (bwT b_28) rfl ?_
  refine z_iload_n dT_setColours_9 rfl ?_
  refine z_iload_n dT_setColours_10 rfl ?_
  refine z_iastN (t0 := 0) (k := p) dT_setColours_11 rfl rfl (rfl) (hp) (by decide) ?_
  rw [show ∀ X, (twn ca f g w h).set 3 (.inl (ca 0, 1024, .inl X)) = twn ca (va_up f 0 X) g w h from fun _ => rfl]
  refine z_aload_n dT_setColours_12 rfl ?_
  refine z_get (C := RT) (T := TT) (N := 1) (ref := "ToneMixer") 0 dT_setColours_13 rfl rfl rfl (by decide) (fun w h => bwT (hbT w h)) (bwT b_44) rfl ?_
  refine z_iconst (v := 1) dT_setColours_16 (by decide) ?_
  refine z_aaldN (t0 := 2) (k := 1) dT_setColours_17 rfl rfl (rfl) (by decide) (by decide) rfl ?_
  refine z_get (C := RP) (T := TP) (N := 4) (ref := "ToneMixer$Plane") 0 dT_setColours_18 rfl rfl rfl (by decide) (fun w h => bwT (hbP w h)) (bwT b_28) rfl ?_
  refine z_iload_n dT_setColours_21 rfl ?_
  refine z_iload_n dT_setColours_22 rfl ?_
  refine z_iastN (t0 := 0) (k := p) dT_setColours_23 rfl rfl (rfl) (hp) (by decide) ?_
  rw [show ∀ F X, (twn ca F g w h).set 6 (.inl (ca 0, 1024, .inl X)) = twn ca (va_up F 1 X) g w h from fun _ _ => rfl]
  refine z_aload_n dT_setColours_24 rfl ?_
  refine z_get (C := RT) (T := TT) (N := 1) (ref := "ToneMixer") 0 dT_setColours_25 rfl rfl rfl (by decide) (fun w h => bwT (hbT w h)) (bwT b_44) rfl ?_
  refine z_iconst (v := 2) dT_setColours_28 (by decide) ?_
  refine z_aaldN (t0 := 2) (k := 2) dT_setColours_29 rfl rfl (rfl) (by decide) (by decide) rfl ?_
  refine z_get (C := RP) (T := TP) (N := 4) (ref := "ToneMixer$Plane") 0 dT_setColours_30 rfl rfl rfl (by decide) (fun w h => bwT (hbP w h)) (bwT b_28) rfl ?_
  refine z_iload_n dT_setColours_33 rfl ?_
  refine z_iload dT_setColours_34 rfl ?_
  refine z_iastN (t0 := 0) (k := p) dT_setColours_36 rfl rfl (rfl) (hp) (by decide) ?_
  rw [show ∀ F X, (twn ca F g w h).set 9 (.inl (ca 0, 1024, .inl X)) = twn ca (va_up F 2 X) g w h from fun _ _ => rfl]
  exact z_return dT_setColours_37 hret ⟨Nat.le_of_eq hC, Nat.le_of_eq hS⟩ rfl ⟨rfl, rfl⟩
set_option maxRecDepth 100000 in
set_option maxHeartbeats 4000000 in
theorem c_open (l : Launch) (D : va_G) (ca : Nat → ClassId) (ad : Nat → Nat) (f g : Nat → Nat → Int32) (w h : Nat → Nat) (p : Nat) (hp : p < 1024) : zMet l yT_open wT_open (rmk 2 0 0) zE0 (gG D ca ad) (twn ca f g w h) [.ref 0, .int (nI p)] (fun r aw => r = none ∧ aw = twn ca (up3 f p (opC (f 0 p) (f 1 p) (f 2 p))) g w h) := by
  refine zMet.of (cc := cT_open) (maxL := 5) (ret := none) (lv := [some (.ref 0), some (.int (nI p)), none, none, none]) (by decide) rfl (Nat.le_of_ble_eq_true rfl) rfl (fun M hl0 hR hC hS hE hret => ?_)
  refine z_aload_n dT_open_0 rfl ?_
  refine z_get (C := RT) (T := TT) (N := 1) (ref := "ToneMixer") 0 dT_open_1 rfl rfl rfl (by decide) (fun w h => bwT (hbT w h)) (bwT b_44) rfl ?_
  refine z_iconst (v := 0) dT_open_4 (by decide) ?_
  refine z_aaldN (t0 := 2) (k := 0) dT_open_5 rfl rfl (rfl) (by decide) (by decide) rfl ?_
  refine z_get (C := RP) (T := TP) (N := 4) (ref := "ToneMixer$Plane") 0 dT_open_6 rfl rfl rfl (by decide) (fun w h => bwT (hbP w h)) (bwT b_28) rfl ?_
  refine z_iload_n dT_open_9 rfl ?_
  refine z_ialdN (t0 := 0) (k := p) dT_open_10 rfl rfl (rfl) (hp) (by decide) ?_
  refine z_istore_n dT_open_11 (by decide) rfl ?_
  try simp only [List.set_cons_succ, List.set_cons_zero]
  refine z_aload_n dT_open_12 rfl ?_
  refine z_get (C := RT) (T := TT) (N := 1) (ref := "ToneMixer") 0 dT_open_13 rfl rfl rfl (by decide) (fun w h => bwT (hbT w h)) (bwT b_44) rfl ?_
  refine z_iconst (v := 1) dT_open_16 (by decide) ?_
  refine z_aaldN (t0 := 2) (k := 1) dT_open_17 rfl rfl (rfl) (by decide) (by decide) rfl ?_
  refine z_get (C := RP) (T := TP) (N := 4) (ref := "ToneMixer$Plane") 0 dT_open_18 rfl rfl rfl (by decide) (fun w h => bwT (hbP w h)) (bwT b_28) rfl ?_
  refine z_iload_n dT_open_21 rfl ?_
  refine z_ialdN (t0 := 0) (k := p) dT_open_22 rfl rfl (rfl) (hp) (by decide) ?_
  refine z_sipush (v := 128) dT_open_23 (by decide) ?_
  refine z_isub dT_open_26 ?_
  refine z_istore_n dT_open_27 (by decide) rfl ?_
  try simp only [List.set_cons_succ, List.set_cons_zero]
  refine z_aload_n dT_open_28 rfl ?_
  refine z_get (C := RT) (T := TT) (N := 1) (ref := "ToneMixer") 0 dT_open_29 rfl rfl rfl (by decide) (fun w h => bwT (hbT w h)) (bwT b_44) rfl ?_
  refine z_iconst (v := 2) dT_open_32 (by decide) ?_
  refine z_aaldN (t0 := 2) (k := 2) dT_open_33 rfl rfl (rfl) (by decide) (by decide) rfl ?_
  refine z_get (C := RP) (T := TP) (N := 4) (ref := "ToneMixer$Plane") 0 dT_open_34 rfl rfl rfl (by decide) (fun w h => bwT (hbP w h)) (bwT b_28) rfl ?_
  refine z_iload_n dT_open_37 rfl ?_
  refine z_ialdN (t0 := 0) (k := p) dT_open_38 rfl rfl (rfl) (hp) (by decide) ?_
  refine z_sipush (v := 128) dT_open_39 (by decide) ?_
  refine z_isub dT_open_42 ?_
  refine z_istore dT_open_43 (by decide) rfl ?_
  try simp only [List.set_cons_succ, List.set_cons_zero]
  refine z_aload_n dT_open_45 rfl ?_
  refine z_iload_n dT_open_46 rfl ?_
  refine z_iload_n dT_open_47 rfl ?_
  refine z_ldc (v := 91881) dT_open_48 (bwT b_71) ?_
  refine z_iload dT_open_50 rfl ?_
  refine z_imul dT_open_52 ?_
  refine z_ldc (v := 32768) dT_open_53 (bwT b_72) ?_
  refine z_iadd dT_open_55 ?_
  refine z_pure (z_S hE zEok_0 (c_shifted _ _ _) dT_open_56 (gd_S b_73 b_74 b_1 b_75) rfl qT_shifted.2 ⟨rfl, rfl⟩ (by rw [hR]; decide) (by rw [hR, hC, hS]; decide) rfl (Nat.le_of_ble_eq_true rfl)) (fun r hr => ?_)
  subst hr
  simp only [zpush, zv]
  refine z_iadd dT_open_59 ?_
  refine z_pure (z_S hE zEok_0 (c_limit _ _ _) dT_open_60 (gd_S b_76 b_77 b_1 b_78) rfl qT_limit.2 ⟨rfl, rfl⟩ (by rw [hR]; decide) (by rw [hR, hC, hS]; decide) rfl (Nat.le_of_ble_eq_true rfl)) (fun r hr => ?_)
  subst hr
  simp only [zpush, zv]
  refine z_iload_n dT_open_63 rfl ?_
  refine z_sipush (v := -22554) dT_open_64 (by decide) ?_
  refine z_iload_n dT_open_67 rfl ?_
  refine z_imul dT_open_68 ?_
  refine z_ldc (v := 46802) dT_open_69 (bwT b_85) ?_
  refine z_iload dT_open_71 rfl ?_
  refine z_imul dT_open_73 ?_
  refine z_isub dT_open_74 ?_
  refine z_ldc (v := 32768) dT_open_75 (bwT b_72) ?_
  refine z_iadd dT_open_77 ?_
  refine z_pure (z_S hE zEok_0 (c_shifted _ _ _) dT_open_78 (gd_S b_73 b_74 b_1 b_75) rfl qT_shifted.2 ⟨rfl, rfl⟩ (by rw [hR]; decide) (by rw [hR, hC, hS]; decide) rfl (Nat.le_of_ble_eq_true rfl)) (fun r hr => ?_)
  subst hr
  simp only [zpush, zv]
  refine z_iadd dT_open_81 ?_
  refine z_pure (z_S hE zEok_0 (c_limit _ _ _) dT_open_82 (gd_S b_76 b_77 b_1 b_78) rfl qT_limit.2 ⟨rfl, rfl⟩ (by rw [hR]; decide) (by rw [hR, hC, hS]; decide) rfl (Nat.le_of_ble_eq_true rfl)) (fun r hr => ?_)
  subst hr
  simp only [zpush, zv]
  refine z_iload_n dT_open_85 rfl ?_
  refine z_ldc (v := 116130) dT_open_86 (bwT b_86) ?_
  refine z_iload_n dT_open_88 rfl ?_
  refine z_imul dT_open_89 ?_
  refine z_ldc (v := 32768) dT_open_90 (bwT b_72) ?_
  refine z_iadd dT_open_92 ?_
  refine z_pure (z_S hE zEok_0 (c_shifted _ _ _) dT_open_93 (gd_S b_73 b_74 b_1 b_75) rfl qT_shifted.2 ⟨rfl, rfl⟩ (by rw [hR]; decide) (by rw [hR, hC, hS]; decide) rfl (Nat.le_of_ble_eq_true rfl)) (fun r hr => ?_)
  subst hr
  simp only [zpush, zv]
  refine z_iadd dT_open_96 ?_
  refine z_pure (z_S hE zEok_0 (c_limit _ _ _) dT_open_97 (gd_S b_76 b_77 b_1 b_78) rfl qT_limit.2 ⟨rfl, rfl⟩ (by rw [hR]; decide) (by rw [hR, hC, hS]; decide) rfl (Nat.le_of_ble_eq_true rfl)) (fun r hr => ?_)
  subst hr
  simp only [zpush, zv]
  refine z_same (z_V (C := RT) (b := 0) hE zEok_0 (c_setColours _ D ca ad f g w h p hp _ _ _) dT_open_100 (gd_V b_87 b_89 bs_3 b_1 b_90) rfl qT_setColours ⟨rfl, rfl⟩ (by rw [hR]; decide) (by rw [hR, hC, hS]; decide) rfl (Nat.le_of_ble_eq_true rfl) rfl rfl) (fun r aw1 hlen hr => ?_)
  obtain ⟨rfl, rfl⟩ := hr
  simp only [zpush]
  exact z_return dT_open_103 hret ⟨Nat.le_of_eq hC, Nat.le_of_eq hS⟩ rfl ⟨rfl, rfl⟩
set_option maxRecDepth 100000 in
set_option maxHeartbeats 4000000 in
theorem c_close (l : Launch) (D : va_G) (ca : Nat → ClassId) (ad : Nat → Nat) (f g : Nat → Nat → Int32) (w h : Nat → Nat) (p : Nat) (hp : p < 1024) : zMet l yT_close wT_close (rmk 2 0 0) zE0 (gG D ca ad) (twn ca f g w h) [.ref 0, .int (nI p)] (fun r aw => r = none ∧ aw = twn ca (up3 f p (clC (f 0 p) (f 1 p) (f 2 p))) g w h) := by
  refine zMet.of (cc := cT_close) (maxL := 5) (ret := none) (lv := [some (.ref 0), some (.int (nI p)), none, none, none]) (by decide) rfl (Nat.le_of_ble_eq_true rfl) rfl (fun M hl0 hR hC hS hE hret => ?_)
  refine z_aload_n dT_close_0 rfl ?_
  refine z_get (C := RT) (T := TT) (N := 1) (ref := "ToneMixer") 0 dT_close_1 rfl rfl rfl (by decide) (fun w h => bwT (hbT w h)) (bwT b_44) rfl ?_
  refine z_iconst (v := 0) dT_close_4 (by decide) ?_
  refine z_aaldN (t0 := 2) (k := 0) dT_close_5 rfl rfl (rfl) (by decide) (by decide) rfl ?_
  refine z_get (C := RP) (T := TP) (N := 4) (ref := "ToneMixer$Plane") 0 dT_close_6 rfl rfl rfl (by decide) (fun w h => bwT (hbP w h)) (bwT b_28) rfl ?_
  refine z_iload_n dT_close_9 rfl ?_
  refine z_ialdN (t0 := 0) (k := p) dT_close_10 rfl rfl (rfl) (hp) (by decide) ?_
  refine z_istore_n dT_close_11 (by decide) rfl ?_
  try simp only [List.set_cons_succ, List.set_cons_zero]
  refine z_aload_n dT_close_12 rfl ?_
  refine z_get (C := RT) (T := TT) (N := 1) (ref := "ToneMixer") 0 dT_close_13 rfl rfl rfl (by decide) (fun w h => bwT (hbT w h)) (bwT b_44) rfl ?_
  refine z_iconst (v := 1) dT_close_16 (by decide) ?_
  refine z_aaldN (t0 := 2) (k := 1) dT_close_17 rfl rfl (rfl) (by decide) (by decide) rfl ?_
  refine z_get (C := RP) (T := TP) (N := 4) (ref := "ToneMixer$Plane") 0 dT_close_18 rfl rfl rfl (by decide) (fun w h => bwT (hbP w h)) (bwT b_28) rfl ?_
  refine z_iload_n dT_close_21 rfl ?_
  refine z_ialdN (t0 := 0) (k := p) dT_close_22 rfl rfl (rfl) (hp) (by decide) ?_
  refine z_istore_n dT_close_23 (by decide) rfl ?_
  try simp only [List.set_cons_succ, List.set_cons_zero]
  refine z_aload_n dT_close_24 rfl ?_
  refine z_get (C := RT) (T := TT) (N := 1) (ref := "ToneMixer") 0 dT_close_25 rfl rfl rfl (by decide) (fun w h => bwT (hbT w h)) (bwT b_44) rfl ?_
  refine z_iconst (v := 2) dT_close_28 (by decide) ?_
  refine z_aaldN (t0 := 2) (k := 2) dT_close_29 rfl rfl (rfl) (by decide) (by decide) rfl ?_
  refine z_get (C := RP) (T := TP) (N := 4) (ref := "ToneMixer$Plane") 0 dT_close_30 rfl rfl rfl (by decide) (fun w h => bwT (hbP w h)) (bwT b_28) rfl ?_
  refine z_iload_n dT_close_33 rfl ?_
  refine z_ialdN (t0 := 0) (k := p) dT_close_34 rfl rfl (rfl) (hp) (by decide) ?_
  refine z_istore dT_close_35 (by decide) rfl ?_
  try simp only [List.set_cons_succ, List.set_cons_zero]
  refine z_aload_n dT_close_37 rfl ?_
  refine z_iload_n dT_close_38 rfl ?_
  refine z_iload_n dT_close_39 rfl ?_
  refine z_iload_n dT_close_40 rfl ?_
  refine z_iload dT_close_41 rfl ?_
  refine z_pure (z_S hE zEok_0 (c_brightness _ _ _ _ _) dT_close_43 (gd_S b_95 b_96 b_1 b_97) rfl qT_brightness.2 ⟨rfl, rfl⟩ (by rw [hR]; decide) (by rw [hR, hC, hS]; decide) rfl (Nat.le_of_ble_eq_true rfl)) (fun r hr => ?_)
  subst hr
  simp only [zpush, zv]
  refine z_sipush (v := -11059) dT_close_46 (by decide) ?_
  refine z_iload_n dT_close_49 rfl ?_
  refine z_imul dT_close_50 ?_
  refine z_sipush (v := 21709) dT_close_51 (by decide) ?_
  refine z_iload_n dT_close_54 rfl ?_
  refine z_imul dT_close_55 ?_
  refine z_isub dT_close_56 ?_
  refine z_ldc (v := 32768) dT_close_57 (bwT b_72) ?_
  refine z_iload dT_close_59 rfl ?_
  refine z_imul dT_close_61 ?_
  refine z_iadd dT_close_62 ?_
  refine z_ldc (v := 8421375) dT_close_63 (bwT b_99) ?_
  refine z_iadd dT_close_65 ?_
  refine z_pure (z_S hE zEok_0 (c_shifted _ _ _) dT_close_66 (gd_S b_73 b_74 b_1 b_75) rfl qT_shifted.2 ⟨rfl, rfl⟩ (by rw [hR]; decide) (by rw [hR, hC, hS]; decide) rfl (Nat.le_of_ble_eq_true rfl)) (fun r hr => ?_)
  subst hr
  simp only [zpush, zv]
  refine z_ldc (v := 32768) dT_close_69 (bwT b_72) ?_
  refine z_iload_n dT_close_71 rfl ?_
  refine z_imul dT_close_72 ?_
  refine z_sipush (v := 27439) dT_close_73 (by decide) ?_
  refine z_iload_n dT_close_76 rfl ?_
  refine z_imul dT_close_77 ?_
  refine z_isub dT_close_78 ?_
  refine z_sipush (v := 5329) dT_close_79 (by decide) ?_
  refine z_iload dT_close_82 rfl ?_
  refine z_imul dT_close_84 ?_
  refine z_isub dT_close_85 ?_
  refine z_ldc (v := 8421375) dT_close_86 (bwT b_99) ?_
  refine z_iadd dT_close_88 ?_
  refine z_pure (z_S hE zEok_0 (c_shifted _ _ _) dT_close_89 (gd_S b_73 b_74 b_1 b_75) rfl qT_shifted.2 ⟨rfl, rfl⟩ (by rw [hR]; decide) (by rw [hR, hC, hS]; decide) rfl (Nat.le_of_ble_eq_true rfl)) (fun r hr => ?_)
  subst hr
  simp only [zpush, zv]
  refine z_same (z_V (C := RT) (b := 0) hE zEok_0 (c_setColours _ D ca ad f g w h p hp _ _ _) dT_close_92 (gd_V b_87 b_89 bs_3 b_1 b_90) rfl qT_setColours ⟨rfl, rfl⟩ (by rw [hR]; decide) (by rw [hR, hC, hS]; decide) rfl (Nat.le_of_ble_eq_true rfl) rfl rfl) (fun r aw1 hlen hr => ?_)
  obtain ⟨rfl, rfl⟩ := hr
  simp only [zpush]
  exact z_return dT_close_95 hret ⟨Nat.le_of_eq hC, Nat.le_of_eq hS⟩ rfl ⟨rfl, rfl⟩
set_option maxRecDepth 100000 in
set_option maxHeartbeats 4000000 in
theorem c_invert (l : Launch) (D : va_G) (ca : Nat → ClassId) (ad : Nat → Nat) (f g : Nat → Nat → Int32) (w h : Nat → Nat) (p : Nat) (hp : p < 1024) : zMet l yT_invert wT_invert (rmk 1 0 0) zE0 (gG D ca ad) (twn ca f g w h) [.ref 0, .int (nI p)] (fun r aw => r = none ∧ aw = twn ca (up3 f p (inC (f 0 p) (f 1 p) (f 2 p))) g w h) := by
  refine zMet.of (cc := cT_invert) (maxL := 2) (ret := none) (lv := [some (.ref 0), some (.int (nI p))]) (by decide) rfl (Nat.le_of_ble_eq_true rfl) rfl (fun M hl0 hR hC hS hE hret => ?_)
  refine z_aload_n dT_invert_0 rfl ?_
  refine z_iload_n dT_invert_1 rfl ?_
  refine z_sipush (v := 255) dT_invert_2 (by decide) ?_
  refine z_aload_n dT_invert_5 rfl ?_
  refine z_get (C := RT) (T := TT) (N := 1) (ref := "ToneMixer") 0 dT_invert_6 rfl rfl rfl (by decide) (fun w h => bwT (hbT w h)) (bwT b_44) rfl ?_
  refine z_iconst (v := 0) dT_invert_9 (by decide) ?_
  refine z_aaldN (t0 := 2) (k := 0) dT_invert_10 rfl rfl (rfl) (by decide) (by decide) rfl ?_
  refine z_get (C := RP) (T := TP) (N := 4) (ref := "ToneMixer$Plane") 0 dT_invert_11 rfl rfl rfl (by decide) (fun w h => bwT (hbP w h)) (bwT b_28) rfl ?_
  refine z_iload_n dT_invert_14 rfl ?_
  refine z_ialdN (t0 := 0) (k := p) dT_invert_15 rfl rfl (rfl) (hp) (by decide) ?_
  refine z_isub dT_invert_16 ?_
  refine z_sipush (v := 255) dT_invert_17 (by decide) ?_
  refine z_aload_n dT_invert_20 rfl ?_
  refine z_get (C := RT) (T := TT) (N := 1) (ref := "ToneMixer") 0 dT_invert_21 rfl rfl rfl (by decide) (fun w h => bwT (hbT w h)) (bwT b_44) rfl ?_
  refine z_iconst (v := 1) dT_invert_24 (by decide) ?_
  refine z_aaldN (t0 := 2) (k := 1) dT_invert_25 rfl rfl (rfl) (by decide) (by decide) rfl ?_
  refine z_get (C := RP) (T := TP) (N := 4) (ref := "ToneMixer$Plane") 0 dT_invert_26 rfl rfl rfl (by decide) (fun w h => bwT (hbP w h)) (bwT b_28) rfl ?_
  refine z_iload_n dT_invert_29 rfl ?_
  refine z_ialdN (t0 := 0) (k := p) dT_invert_30 rfl rfl (rfl) (hp) (by decide) ?_
  refine z_isub dT_invert_31 ?_
  refine z_sipush (v := 255) dT_invert_32 (by decide) ?_
  refine z_aload_n dT_invert_35 rfl ?_
  refine z_get (C := RT) (T := TT) (N := 1) (ref := "ToneMixer") 0 dT_invert_36 rfl rfl rfl (by decide) (fun w h => bwT (hbT w h)) (bwT b_44) rfl ?_
  refine z_iconst (v := 2) dT_invert_39 (by decide) ?_
  refine z_aaldN (t0 := 2) (k := 2) dT_invert_40 rfl rfl (rfl) (by decide) (by decide) rfl ?_
  refine z_get (C := RP) (T := TP) (N := 4) (ref := "ToneMixer$Plane") 0 dT_invert_41 rfl rfl rfl (by decide) (fun w h => bwT (hbP w h)) (bwT b_28) rfl ?_
  refine z_iload_n dT_invert_44 rfl ?_
  refine z_ialdN (t0 := 0) (k := p) dT_invert_45 rfl rfl (rfl) (hp) (by decide) ?_
  refine z_isub dT_invert_46 ?_
  refine z_same (z_V (C := RT) (b := 0) hE zEok_0 (c_setColours _ D ca ad f g w h p hp _ _ _) dT_invert_47 (gd_V b_87 b_89 bs_3 b_1 b_90) rfl qT_setColours ⟨rfl, rfl⟩ (by rw [hR]; decide) (by rw [hR, hC, hS]; decide) rfl (Nat.le_of_ble_eq_true rfl) rfl rfl) (fun r aw1 hlen hr => ?_)
  obtain ⟨rfl, rfl⟩ := hr
  simp only [zpush]
  exact z_return dT_invert_50 hret ⟨Nat.le_of_eq hC, Nat.le_of_eq hS⟩ rfl ⟨rfl, rfl⟩
set_option maxRecDepth 100000 in
set_option maxHeartbeats 4000000 in
theorem c_darken (l : Launch) (D : va_G) (ca : Nat → ClassId) (ad : Nat → Nat) (f g : Nat → Nat → Int32) (w h : Nat → Nat) (p : Nat) (hp : p < 1024) : zMet l yT_darken wT_darken (rmk 1 0 0) zE0 (gG D ca ad) (twn ca f g w h) [.ref 0, .int (nI p)] (fun r aw => r = none ∧ aw = twn ca (up3 f p (daC (f 0 p) (f 1 p) (f 2 p) (f 3 p))) g w h) := by
  refine zMet.of (cc := cT_darken) (maxL := 3) (ret := none) (lv := [some (.ref 0), some (.int (nI p)), none]) (by decide) rfl (Nat.le_of_ble_eq_true rfl) rfl (fun M hl0 hR hC hS hE hret => ?_)
  refine z_sipush (v := 255) dT_darken_0 (by decide) ?_
  refine z_aload_n dT_darken_3 rfl ?_
  refine z_get (C := RT) (T := TT) (N := 1) (ref := "ToneMixer") 0 dT_darken_4 rfl rfl rfl (by decide) (fun w h => bwT (hbT w h)) (bwT b_44) rfl ?_
  refine z_iconst (v := 3) dT_darken_7 (by decide) ?_
  refine z_aaldN (t0 := 2) (k := 3) dT_darken_8 rfl rfl (rfl) (by decide) (by decide) rfl ?_
  refine z_get (C := RP) (T := TP) (N := 4) (ref := "ToneMixer$Plane") 0 dT_darken_9 rfl rfl rfl (by decide) (fun w h => bwT (hbP w h)) (bwT b_28) rfl ?_
  refine z_iload_n dT_darken_12 rfl ?_
  refine z_ialdN (t0 := 0) (k := p) dT_darken_13 rfl rfl (rfl) (hp) (by decide) ?_
  refine z_isub dT_darken_14 ?_
  refine z_istore_n dT_darken_15 (by decide) rfl ?_
  try simp only [List.set_cons_succ, List.set_cons_zero]
  refine z_aload_n dT_darken_16 rfl ?_
  refine z_iload_n dT_darken_17 rfl ?_
  refine z_aload_n dT_darken_18 rfl ?_
  refine z_get (C := RT) (T := TT) (N := 1) (ref := "ToneMixer") 0 dT_darken_19 rfl rfl rfl (by decide) (fun w h => bwT (hbT w h)) (bwT b_44) rfl ?_
  refine z_iconst (v := 0) dT_darken_22 (by decide) ?_
  refine z_aaldN (t0 := 2) (k := 0) dT_darken_23 rfl rfl (rfl) (by decide) (by decide) rfl ?_
  refine z_get (C := RP) (T := TP) (N := 4) (ref := "ToneMixer$Plane") 0 dT_darken_24 rfl rfl rfl (by decide) (fun w h => bwT (hbP w h)) (bwT b_28) rfl ?_
  refine z_iload_n dT_darken_27 rfl ?_
  refine z_ialdN (t0 := 0) (k := p) dT_darken_28 rfl rfl (rfl) (hp) (by decide) ?_
  refine z_iload_n dT_darken_29 rfl ?_
  refine z_pure (z_S hE zEok_0 (c_darkened _ _ _ _) dT_darken_30 (gd_S b_108 b_109 b_1 b_110) rfl qT_darkened.2 ⟨rfl, rfl⟩ (by rw [hR]; decide) (by rw [hR, hC, hS]; decide) rfl (Nat.le_of_ble_eq_true rfl)) (fun r hr => ?_)
  subst hr
  simp only [zpush, zv]
  refine z_aload_n dT_darken_33 rfl ?_
  refine z_get (C := RT) (T := TT) (N := 1) (ref := "ToneMixer") 0 dT_darken_34 rfl rfl rfl (by decide) (fun w h => bwT (hbT w h)) (bwT b_44) rfl ?_
  refine z_iconst (v := 1) dT_darken_37 (by decide) ?_
  refine z_aaldN (t0 := 2) (k := 1) dT_darken_38 rfl rfl (rfl) (by decide) (by decide) rfl ?_
  refine z_get (C := RP) (T := TP) (N := 4) (ref := "ToneMixer$Plane") 0 dT_darken_39 rfl rfl rfl (by decide) (fun w h => bwT (hbP w h)) (bwT b_28) rfl ?_
  refine z_iload_n dT_darken_42 rfl ?_
  refine z_ialdN (t0 := 0) (k := p) dT_darken_43 rfl rfl (rfl) (hp) (by decide) ?_
  refine z_iload_n dT_darken_44 rfl ?_
  refine z_pure (z_S hE zEok_0 (c_darkened _ _ _ _) dT_darken_45 (gd_S b_108 b_109 b_1 b_110) rfl qT_darkened.2 ⟨rfl, rfl⟩ (by rw [hR]; decide) (by rw [hR, hC, hS]; decide) rfl (Nat.le_of_ble_eq_true rfl)) (fun r hr => ?_)
  subst hr
  simp only [zpush, zv]
  refine z_aload_n dT_darken_48 rfl ?_
  refine z_get (C := RT) (T := TT) (N := 1) (ref := "ToneMixer") 0 dT_darken_49 rfl rfl rfl (by decide) (fun w h => bwT (hbT w h)) (bwT b_44) rfl ?_
  refine z_iconst (v := 2) dT_darken_52 (by decide) ?_
  refine z_aaldN (t0 := 2) (k := 2) dT_darken_53 rfl rfl (rfl) (by decide) (by decide) rfl ?_
  refine z_get (C := RP) (T := TP) (N := 4) (ref := "ToneMixer$Plane") 0 dT_darken_54 rfl rfl rfl (by decide) (fun w h => bwT (hbP w h)) (bwT b_28) rfl ?_
  refine z_iload_n dT_darken_57 rfl ?_
  refine z_ialdN (t0 := 0) (k := p) dT_darken_58 rfl rfl (rfl) (hp) (by decide) ?_
  refine z_iload_n dT_darken_59 rfl ?_
  refine z_pure (z_S hE zEok_0 (c_darkened _ _ _ _) dT_darken_60 (gd_S b_108 b_109 b_1 b_110) rfl qT_darkened.2 ⟨rfl, rfl⟩ (by rw [hR]; decide) (by rw [hR, hC, hS]; decide) rfl (Nat.le_of_ble_eq_true rfl)) (fun r hr => ?_)
  subst hr
  simp only [zpush, zv]
  refine z_same (z_V (C := RT) (b := 0) hE zEok_0 (c_setColours _ D ca ad f g w h p hp _ _ _) dT_darken_63 (gd_V b_87 b_89 bs_3 b_1 b_90) rfl qT_setColours ⟨rfl, rfl⟩ (by rw [hR]; decide) (by rw [hR, hC, hS]; decide) rfl (Nat.le_of_ble_eq_true rfl) rfl rfl) (fun r aw1 hlen hr => ?_)
  obtain ⟨rfl, rfl⟩ := hr
  simp only [zpush]
  exact z_return dT_darken_66 hret ⟨Nat.le_of_eq hC, Nat.le_of_eq hS⟩ rfl ⟨rfl, rfl⟩
set_option maxRecDepth 100000 in
set_option maxHeartbeats 4000000 in
theorem c_grey (l : Launch) (D : va_G) (ca : Nat → ClassId) (ad : Nat → Nat) (f g : Nat → Nat → Int32) (w h : Nat → Nat) (p : Nat) (hp : p < 1024) : zMet l yT_grey wT_grey (rmk 2 0 0) zE0 (gG D ca ad) (twn ca f g w h) [.ref 0, .int (nI p)] (fun r aw => r = none ∧ aw = twn ca (up3 f p (gyC (f 0 p) (f 1 p) (f 2 p))) g w h) := by
  refine zMet.of (cc := cT_grey) (maxL := 3) (ret := none) (lv := [some (.ref 0), some (.int (nI p)), none]) (by decide) rfl (Nat.le_of_ble_eq_true rfl) rfl (fun M hl0 hR hC hS hE hret => ?_)
  refine z_aload_n dT_grey_0 rfl ?_
  refine z_get (C := RT) (T := TT) (N := 1) (ref := "ToneMixer") 0 dT_grey_1 rfl rfl rfl (by decide) (fun w h => bwT (hbT w h)) (bwT b_44) rfl ?_
  refine z_iconst (v := 0) dT_grey_4 (by decide) ?_
  refine z_aaldN (t0 := 2) (k := 0) dT_grey_5 rfl rfl (rfl) (by decide) (by decide) rfl ?_
  refine z_get (C := RP) (T := TP) (N := 4) (ref := "ToneMixer$Plane") 0 dT_grey_6 rfl rfl rfl (by decide) (fun w h => bwT (hbP w h)) (bwT b_28) rfl ?_
  refine z_iload_n dT_grey_9 rfl ?_
  refine z_ialdN (t0 := 0) (k := p) dT_grey_10 rfl rfl (rfl) (hp) (by decide) ?_
  refine z_aload_n dT_grey_11 rfl ?_
  refine z_get (C := RT) (T := TT) (N := 1) (ref := "ToneMixer") 0 dT_grey_12 rfl rfl rfl (by decide) (fun w h => bwT (hbT w h)) (bwT b_44) rfl ?_
  refine z_iconst (v := 1) dT_grey_15 (by decide) ?_
  refine z_aaldN (t0 := 2) (k := 1) dT_grey_16 rfl rfl (rfl) (by decide) (by decide) rfl ?_
  refine z_get (C := RP) (T := TP) (N := 4) (ref := "ToneMixer$Plane") 0 dT_grey_17 rfl rfl rfl (by decide) (fun w h => bwT (hbP w h)) (bwT b_28) rfl ?_
  refine z_iload_n dT_grey_20 rfl ?_
  refine z_ialdN (t0 := 0) (k := p) dT_grey_21 rfl rfl (rfl) (hp) (by decide) ?_
  refine z_aload_n dT_grey_22 rfl ?_
  refine z_get (C := RT) (T := TT) (N := 1) (ref := "ToneMixer") 0 dT_grey_23 rfl rfl rfl (by decide) (fun w h => bwT (hbT w h)) (bwT b_44) rfl ?_
  refine z_iconst (v := 2) dT_grey_26 (by decide) ?_
  refine z_aaldN (t0 := 2) (k := 2) dT_grey_27 rfl rfl (rfl) (by decide) (by decide) rfl ?_
  refine z_get (C := RP) (T := TP) (N := 4) (ref := "ToneMixer$Plane") 0 dT_grey_28 rfl rfl rfl (by decide) (fun w h => bwT (hbP w h)) (bwT b_28) rfl ?_
  refine z_iload_n dT_grey_31 rfl ?_
  refine z_ialdN (t0 := 0) (k := p) dT_grey_32 rfl rfl (rfl) (hp) (by decide) ?_
  refine z_pure (z_S hE zEok_0 (c_brightness _ _ _ _ _) dT_grey_33 (gd_S b_95 b_96 b_1 b_97) rfl qT_brightness.2 ⟨rfl, rfl⟩ (by rw [hR]; decide) (by rw [hR, hC, hS]; decide) rfl (Nat.le_of_ble_eq_true rfl)) (fun r hr => ?_)
  subst hr
  simp only [zpush, zv]
  refine z_istore_n dT_grey_36 (by decide) rfl ?_
  try simp only [List.set_cons_succ, List.set_cons_zero]
  refine z_aload_n dT_grey_37 rfl ?_
  refine z_iload_n dT_grey_38 rfl ?_
  refine z_iload_n dT_grey_39 rfl ?_
  refine z_iload_n dT_grey_40 rfl ?_
  refine z_iload_n dT_grey_41 rfl ?_
  refine z_same (z_V (C := RT) (b := 0) hE zEok_0 (c_setColours _ D ca ad f g w h p hp _ _ _) dT_grey_42 (gd_V b_87 b_89 bs_3 b_1 b_90) rfl qT_setColours ⟨rfl, rfl⟩ (by rw [hR]; decide) (by rw [hR, hC, hS]; decide) rfl (Nat.le_of_ble_eq_true rfl) rfl rfl) (fun r aw1 hlen hr => ?_)
  obtain ⟨rfl, rfl⟩ := hr
  simp only [zpush]
  exact z_return dT_grey_45 hret ⟨Nat.le_of_eq hC, Nat.le_of_eq hS⟩ rfl ⟨rfl, rfl⟩
set_option maxRecDepth 100000 in
set_option maxHeartbeats 4000000 in
theorem c_mixPlace (l : Launch) (D : va_G) (ca : Nat → ClassId) (ad : Nat → Nat) (f g : Nat → Nat → Int32) (w h : Nat → Nat) (v p : Nat) (hv : v ≤ 6) (hp : p < 1024) : zMet l yT_mixPlace wT_mixPlace (rmk 3 0 0) zE0 (gG D ca ad) (twn ca f g w h) [.ref 0, .int (nI v), .int (nI p)] (fun r aw => r = none ∧ aw = twn ca (up3 f p (mxP v (f 0 p) (f 1 p) (f 2 p) (f 3 p))) g w h) := by
  refine zMet.of (cc := cT_mixPlace) (maxL := 3) (ret := none) (lv := [some (.ref 0), some (.int (nI v)), some (.int (nI p))]) (by decide) rfl (Nat.le_of_ble_eq_true rfl) rfl (fun M hl0 hR hC hS hE hret => ?_)
  refine z_iload_n dT_mixPlace_0 rfl ?_
  rcases (show v = 0 ∨ v = 1 ∨ v = 2 ∨ v = 3 ∨ v = 4 ∨ v = 5 ∨ v = 6 by omega) with rfl | rfl | rfl | rfl | rfl | rfl | rfl
  · refine z_tableIn (off := 43) (tgt := 44) dT_mixPlace_1 (by decide) (by decide) rfl (by decide) ?_
    refine z_aload_n dT_mixPlace_44 rfl ?_
    refine z_iload_n dT_mixPlace_45 rfl ?_
    refine z_same (z_V (C := RT) (b := 0) hE zEok_0 (c_open _ D ca ad f g w h p hp) dT_mixPlace_46 (gd_V b_67 b_69 bs_2 b_1 b_70) rfl qT_open ⟨rfl, rfl⟩ (by rw [hR]; decide) (by rw [hR, hC, hS]; decide) rfl (Nat.le_of_ble_eq_true rfl) rfl rfl) (fun r aw1 hlen hr => ?_)
    obtain ⟨rfl, rfl⟩ := hr
    simp only [zpush]
    refine z_goto (tgt := 110) dT_mixPlace_49 (by decide) ?_
    exact z_return dT_mixPlace_110 hret ⟨Nat.le_of_eq hC, Nat.le_of_eq hS⟩ rfl ⟨rfl, rfl⟩
  · refine z_tableIn (off := 51) (tgt := 52) dT_mixPlace_1 (by decide) (by decide) rfl (by decide) ?_
    refine z_aload_n dT_mixPlace_52 rfl ?_
    refine z_iload_n dT_mixPlace_53 rfl ?_
    refine z_same (z_V (C := RT) (b := 0) hE zEok_0 (c_close _ D ca ad f g w h p hp) dT_mixPlace_54 (gd_V b_91 b_93 bs_4 b_1 b_94) rfl qT_close ⟨rfl, rfl⟩ (by rw [hR]; decide) (by rw [hR, hC, hS]; decide) rfl (Nat.le_of_ble_eq_true rfl) rfl rfl) (fun r aw1 hlen hr => ?_)
    obtain ⟨rfl, rfl⟩ := hr
    simp only [zpush]
    refine z_goto (tgt := 110) dT_mixPlace_57 (by decide) ?_
    exact z_return dT_mixPlace_110 hret ⟨Nat.le_of_eq hC, Nat.le_of_eq hS⟩ rfl ⟨rfl, rfl⟩
  · refine z_tableIn (off := 59) (tgt := 60) dT_mixPlace_1 (by decide) (by decide) rfl (by decide) ?_
    refine z_aload_n dT_mixPlace_60 rfl ?_
    refine z_iload_n dT_mixPlace_61 rfl ?_
    refine z_same (z_V (C := RT) (b := 0) hE zEok_0 (c_invert _ D ca ad f g w h p hp) dT_mixPlace_62 (gd_V b_100 b_102 bs_5 b_1 b_103) rfl qT_invert ⟨rfl, rfl⟩ (by rw [hR]; decide) (by rw [hR, hC, hS]; decide) rfl (Nat.le_of_ble_eq_true rfl) rfl rfl) (fun r aw1 hlen hr => ?_)
    obtain ⟨rfl, rfl⟩ := hr
    simp only [zpush]
    refine z_goto (tgt := 110) dT_mixPlace_65 (by decide) ?_
    exact z_return dT_mixPlace_110 hret ⟨Nat.le_of_eq hC, Nat.le_of_eq hS⟩ rfl ⟨rfl, rfl⟩
  · refine z_tableIn (off := 67) (tgt := 68) dT_mixPlace_1 (by decide) (by decide) rfl (by decide) ?_
    refine z_aload_n dT_mixPlace_68 rfl ?_
    refine z_iload_n dT_mixPlace_69 rfl ?_
    refine z_same (z_V (C := RT) (b := 0) hE zEok_0 (c_darken _ D ca ad f g w h p hp) dT_mixPlace_70 (gd_V b_104 b_106 bs_6 b_1 b_107) rfl qT_darken ⟨rfl, rfl⟩ (by rw [hR]; decide) (by rw [hR, hC, hS]; decide) rfl (Nat.le_of_ble_eq_true rfl) rfl rfl) (fun r aw1 hlen hr => ?_)
    obtain ⟨rfl, rfl⟩ := hr
    simp only [zpush]
    refine z_goto (tgt := 110) dT_mixPlace_73 (by decide) ?_
    exact z_return dT_mixPlace_110 hret ⟨Nat.le_of_eq hC, Nat.le_of_eq hS⟩ rfl ⟨rfl, rfl⟩
  · refine z_tableIn (off := 75) (tgt := 76) dT_mixPlace_1 (by decide) (by decide) rfl (by decide) ?_
    refine z_aload_n dT_mixPlace_76 rfl ?_
    refine z_iload_n dT_mixPlace_77 rfl ?_
    refine z_same (z_V (C := RT) (b := 0) hE zEok_0 (c_grey _ D ca ad f g w h p hp) dT_mixPlace_78 (gd_V b_111 b_113 bs_7 b_1 b_114) rfl qT_grey ⟨rfl, rfl⟩ (by rw [hR]; decide) (by rw [hR, hC, hS]; decide) rfl (Nat.le_of_ble_eq_true rfl) rfl rfl) (fun r aw1 hlen hr => ?_)
    obtain ⟨rfl, rfl⟩ := hr
    simp only [zpush]
    refine z_goto (tgt := 110) dT_mixPlace_81 (by decide) ?_
    exact z_return dT_mixPlace_110 hret ⟨Nat.le_of_eq hC, Nat.le_of_eq hS⟩ rfl ⟨rfl, rfl⟩
  · refine z_tableIn (off := 83) (tgt := 84) dT_mixPlace_1 (by decide) (by decide) rfl (by decide) ?_
    refine z_aload_n dT_mixPlace_84 rfl ?_
    refine z_iload_n dT_mixPlace_85 rfl ?_
    refine z_same (z_V (C := RT) (b := 0) hE zEok_0 (c_open _ D ca ad f g w h p hp) dT_mixPlace_86 (gd_V b_67 b_69 bs_2 b_1 b_70) rfl qT_open ⟨rfl, rfl⟩ (by rw [hR]; decide) (by rw [hR, hC, hS]; decide) rfl (Nat.le_of_ble_eq_true rfl) rfl rfl) (fun r aw1 hlen hr => ?_)
    obtain ⟨rfl, rfl⟩ := hr
    simp only [zpush]
    refine z_aload_n dT_mixPlace_89 rfl ?_
    refine z_iload_n dT_mixPlace_90 rfl ?_
    refine z_same (z_V (C := RT) (b := 0) hE zEok_0 (c_invert _ D ca ad (up3 f p (opC (f 0 p) (f 1 p) (f 2 p))) g w h p hp) dT_mixPlace_91 (gd_V b_100 b_102 bs_5 b_1 b_103) rfl qT_invert ⟨rfl, rfl⟩ (by rw [hR]; decide) (by rw [hR, hC, hS]; decide) rfl (Nat.le_of_ble_eq_true rfl) rfl rfl) (fun r aw1 hlen hr => ?_)
    obtain ⟨rfl, rfl⟩ := hr
    simp only [zpush]
    rw [up3_up3, (up3_at _ _ _).1, (up3_at _ _ _).2.1, (up3_at _ _ _).2.2.1]
    refine z_goto (tgt := 110) dT_mixPlace_94 (by decide) ?_
    exact z_return dT_mixPlace_110 hret ⟨Nat.le_of_eq hC, Nat.le_of_eq hS⟩ rfl ⟨rfl, rfl⟩
  · refine z_tableIn (off := 96) (tgt := 97) dT_mixPlace_1 (by decide) (by decide) rfl (by decide) ?_
    refine z_aload_n dT_mixPlace_97 rfl ?_
    refine z_iload_n dT_mixPlace_98 rfl ?_
    refine z_same (z_V (C := RT) (b := 0) hE zEok_0 (c_invert _ D ca ad f g w h p hp) dT_mixPlace_99 (gd_V b_100 b_102 bs_5 b_1 b_103) rfl qT_invert ⟨rfl, rfl⟩ (by rw [hR]; decide) (by rw [hR, hC, hS]; decide) rfl (Nat.le_of_ble_eq_true rfl) rfl rfl) (fun r aw1 hlen hr => ?_)
    obtain ⟨rfl, rfl⟩ := hr
    simp only [zpush]
    refine z_aload_n dT_mixPlace_102 rfl ?_
    refine z_iload_n dT_mixPlace_103 rfl ?_
    refine z_same (z_V (C := RT) (b := 0) hE zEok_0 (c_close _ D ca ad (up3 f p (inC (f 0 p) (f 1 p) (f 2 p))) g w h p hp) dT_mixPlace_104 (gd_V b_91 b_93 bs_4 b_1 b_94) rfl qT_close ⟨rfl, rfl⟩ (by rw [hR]; decide) (by rw [hR, hC, hS]; decide) rfl (Nat.le_of_ble_eq_true rfl) rfl rfl) (fun r aw1 hlen hr => ?_)
    obtain ⟨rfl, rfl⟩ := hr
    simp only [zpush]
    rw [up3_up3, (up3_at _ _ _).1, (up3_at _ _ _).2.1, (up3_at _ _ _).2.2.1]
    refine z_goto (tgt := 110) dT_mixPlace_107 (by decide) ?_
    exact z_return dT_mixPlace_110 hret ⟨Nat.le_of_eq hC, Nat.le_of_eq hS⟩ rfl ⟨rfl, rfl⟩
def sameS (c : Nat) (w h : Nat → Nat) : Prop := ∀ i, 1 ≤ i → i < c → w i = w 0 ∧ h i = h 0
set_option maxRecDepth 100000 in
set_option maxHeartbeats 4000000 in
theorem c_first3 (l : Launch) (D : va_G) (ca : Nat → ClassId) (ad : Nat → Nat) (f g : Nat → Nat → Int32) (w h : Nat → Nat) (hwh : okW w h) : zMet l yT_firstAreOfOneSize wT_firstAreOfOneSize (rmk 1 0 0) zE0 (gG D ca ad) (twn ca f g w h) [.ref 0, .int 3] (fun r aw => aw = twn ca f g w h ∧ ((sameS 3 w h ∧ r = some (.int 1)) ∨ (¬ sameS 3 w h ∧ r = some (.int 0)))) := by
  refine zMet.of (cc := cT_firstAreOfOneSize) (maxL := 3) (ret := (some .boolean)) (lv := [some (.ref 0), some (.int 3), none]) (by decide) rfl (Nat.le_of_ble_eq_true rfl) rfl (fun M hl0 hR hC hS hE hret => ?_)
  have b0 := hwh 0 (by omega)
  refine z_iconst (v := 1) dT_firstAreOfOneSize_0 (by decide) ?_
  refine z_istore_n dT_firstAreOfOneSize_1 (by decide) rfl ?_
  try simp only [List.set_cons_succ, List.set_cons_zero]
  have b1 := hwh 1 (by omega)
  refine z_iload_n dT_firstAreOfOneSize_2 rfl ?_
  refine z_iload_n dT_firstAreOfOneSize_3 rfl ?_
  refine z_icmp_ge (tgt := 33) dT_firstAreOfOneSize_4 (by decide) (fun hc9 => absurd hc9 (by decide)) (fun _ => ?_)
  refine z_aload_n dT_firstAreOfOneSize_7 rfl ?_
  refine z_get (C := RT) (T := TT) (N := 1) (ref := "ToneMixer") 0 dT_firstAreOfOneSize_8 rfl rfl rfl (by decide) (fun w h => bwT (hbT w h)) (bwT b_44) rfl ?_
  refine z_iload_n dT_firstAreOfOneSize_11 rfl ?_
  refine z_aaldN (t0 := 2) (k := 1) dT_firstAreOfOneSize_12 rfl rfl (rfl) (by decide) (by decide) rfl ?_
  refine z_aload_n dT_firstAreOfOneSize_13 rfl ?_
  refine z_get (C := RT) (T := TT) (N := 1) (ref := "ToneMixer") 0 dT_firstAreOfOneSize_14 rfl rfl rfl (by decide) (fun w h => bwT (hbT w h)) (bwT b_44) rfl ?_
  refine z_iconst (v := 0) dT_firstAreOfOneSize_17 (by decide) ?_
  refine z_aaldN (t0 := 2) (k := 0) dT_firstAreOfOneSize_18 rfl rfl (rfl) (by decide) (by decide) rfl ?_
  refine z_part (plx 1 ++ plx 0) (z_V (C := RP) (b := 0) hE zEok_0 (c_isOfSizeOf _ D ca _ (f 1) (g 1) (nI (w 1)) (nI (h 1)) (f 0) (g 0) (nI (w 0)) (nI (h 0))) dT_firstAreOfOneSize_19 (gd_V b_56 b_57 b_58 b_2 b_59) rfl qP_isOfSizeOf ⟨rfl, rfl⟩ (by rw [hR]; decide) (by rw [hR, hC, hS]; decide) rfl (Nat.le_of_ble_eq_true rfl) rfl rfl) (by decide) rfl (fun r aw1 hlen hr => ?_)
  obtain ⟨rfl, rfl⟩ := hr
  rw [tw_put6 (i := 1) (j := 0) (by decide) (by decide) (by decide), va_upk f, va_upk f, va_upk g, va_upk g, va_upk (fun k => nI (w k)), va_upk (fun k => nI (w k)), va_upk (fun k => nI (h k)), va_upk (fun k => nI (h k))]
  simp only [zpush, zv]
  by_cases s1 : w 1 = w 0 ∧ h 1 = h 0
  rotate_left
  · rw [if_neg (fun q : nI (w 1) = nI (w 0) ∧ nI (h 1) = nI (h 0) => s1 ⟨(nI_eq (by omega) (by omega)).mp q.1, (nI_eq (by omega) (by omega)).mp q.2⟩)]
    refine z_if_ne (tgt := 27) dT_firstAreOfOneSize_22 (by decide) (fun hc9 => absurd hc9 (by decide)) (fun _ => ?_)
    refine z_iconst (v := 0) dT_firstAreOfOneSize_25 (by decide) ?_
    exact z_ireturn dT_firstAreOfOneSize_26 rfl hret ⟨Nat.le_of_eq hC, Nat.le_of_eq hS⟩ rfl ⟨rfl, Or.inr ⟨fun q => s1 (q 1 (by omega) (by omega)), rfl⟩⟩
  rw [if_pos (show nI (w 1) = nI (w 0) ∧ nI (h 1) = nI (h 0) from ⟨by rw [s1.1], by rw [s1.2]⟩)]
  refine z_if_ne (tgt := 27) dT_firstAreOfOneSize_22 (by decide) (fun _ => ?_) (fun hc9 => absurd hc9 (by decide))
  refine z_iinc1 dT_firstAreOfOneSize_27 (by decide) rfl rfl ?_
  try simp only [List.set_cons_succ, List.set_cons_zero]
  refine z_goto (tgt := 2) dT_firstAreOfOneSize_30 (by decide) ?_
  rw [show ((1 : Int32) + 1) = 2 from rfl]
  have b2 := hwh 2 (by omega)
  refine z_iload_n dT_firstAreOfOneSize_2 rfl ?_
  refine z_iload_n dT_firstAreOfOneSize_3 rfl ?_
  refine z_icmp_ge (tgt := 33) dT_firstAreOfOneSize_4 (by decide) (fun hc9 => absurd hc9 (by decide)) (fun _ => ?_)
  refine z_aload_n dT_firstAreOfOneSize_7 rfl ?_
  refine z_get (C := RT) (T := TT) (N := 1) (ref := "ToneMixer") 0 dT_firstAreOfOneSize_8 rfl rfl rfl (by decide) (fun w h => bwT (hbT w h)) (bwT b_44) rfl ?_
  refine z_iload_n dT_firstAreOfOneSize_11 rfl ?_
  refine z_aaldN (t0 := 2) (k := 2) dT_firstAreOfOneSize_12 rfl rfl (rfl) (by decide) (by decide) rfl ?_
  refine z_aload_n dT_firstAreOfOneSize_13 rfl ?_
  refine z_get (C := RT) (T := TT) (N := 1) (ref := "ToneMixer") 0 dT_firstAreOfOneSize_14 rfl rfl rfl (by decide) (fun w h => bwT (hbT w h)) (bwT b_44) rfl ?_
  refine z_iconst (v := 0) dT_firstAreOfOneSize_17 (by decide) ?_
  refine z_aaldN (t0 := 2) (k := 0) dT_firstAreOfOneSize_18 rfl rfl (rfl) (by decide) (by decide) rfl ?_
  refine z_part (plx 2 ++ plx 0) (z_V (C := RP) (b := 0) hE zEok_0 (c_isOfSizeOf _ D ca _ (f 2) (g 2) (nI (w 2)) (nI (h 2)) (f 0) (g 0) (nI (w 0)) (nI (h 0))) dT_firstAreOfOneSize_19 (gd_V b_56 b_57 b_58 b_2 b_59) rfl qP_isOfSizeOf ⟨rfl, rfl⟩ (by rw [hR]; decide) (by rw [hR, hC, hS]; decide) rfl (Nat.le_of_ble_eq_true rfl) rfl rfl) (by decide) rfl (fun r aw1 hlen hr => ?_)
  obtain ⟨rfl, rfl⟩ := hr
  rw [tw_put6 (i := 2) (j := 0) (by decide) (by decide) (by decide), va_upk f, va_upk f, va_upk g, va_upk g, va_upk (fun k => nI (w k)), va_upk (fun k => nI (w k)), va_upk (fun k => nI (h k)), va_upk (fun k => nI (h k))]
  simp only [zpush, zv]
  by_cases s2 : w 2 = w 0 ∧ h 2 = h 0
  rotate_left
  · rw [if_neg (fun q : nI (w 2) = nI (w 0) ∧ nI (h 2) = nI (h 0) => s2 ⟨(nI_eq (by omega) (by omega)).mp q.1, (nI_eq (by omega) (by omega)).mp q.2⟩)]
    refine z_if_ne (tgt := 27) dT_firstAreOfOneSize_22 (by decide) (fun hc9 => absurd hc9 (by decide)) (fun _ => ?_)
    refine z_iconst (v := 0) dT_firstAreOfOneSize_25 (by decide) ?_
    exact z_ireturn dT_firstAreOfOneSize_26 rfl hret ⟨Nat.le_of_eq hC, Nat.le_of_eq hS⟩ rfl ⟨rfl, Or.inr ⟨fun q => s2 (q 2 (by omega) (by omega)), rfl⟩⟩
  rw [if_pos (show nI (w 2) = nI (w 0) ∧ nI (h 2) = nI (h 0) from ⟨by rw [s2.1], by rw [s2.2]⟩)]
  refine z_if_ne (tgt := 27) dT_firstAreOfOneSize_22 (by decide) (fun _ => ?_) (fun hc9 => absurd hc9 (by decide))
  refine z_iinc1 dT_firstAreOfOneSize_27 (by decide) rfl rfl ?_
  try simp only [List.set_cons_succ, List.set_cons_zero]
  refine z_goto (tgt := 2) dT_firstAreOfOneSize_30 (by decide) ?_
  rw [show ((2 : Int32) + 1) = 3 from rfl]
  refine z_iload_n dT_firstAreOfOneSize_2 rfl ?_
  refine z_iload_n dT_firstAreOfOneSize_3 rfl ?_
  refine z_icmp_ge (tgt := 33) dT_firstAreOfOneSize_4 (by decide) (fun _ => ?_) (fun hc9 => absurd hc9 (by decide))
  refine z_iconst (v := 1) dT_firstAreOfOneSize_33 (by decide) ?_
  refine z_ireturn dT_firstAreOfOneSize_34 rfl hret ⟨Nat.le_of_eq hC, Nat.le_of_eq hS⟩ rfl ⟨rfl, Or.inl ⟨fun i h1 h2 => ?_, rfl⟩⟩
  rcases (show i = 1 ∨ i = 2 by omega) with rfl | rfl
  · exact s1
  · exact s2
set_option maxRecDepth 100000 in
set_option maxHeartbeats 4000000 in
theorem c_first4 (l : Launch) (D : va_G) (ca : Nat → ClassId) (ad : Nat → Nat) (f g : Nat → Nat → Int32) (w h : Nat → Nat) (hwh : okW w h) : zMet l yT_firstAreOfOneSize wT_firstAreOfOneSize (rmk 1 0 0) zE0 (gG D ca ad) (twn ca f g w h) [.ref 0, .int 4] (fun r aw => aw = twn ca f g w h ∧ ((sameS 4 w h ∧ r = some (.int 1)) ∨ (¬ sameS 4 w h ∧ r = some (.int 0)))) := by
  refine zMet.of (cc := cT_firstAreOfOneSize) (maxL := 3) (ret := (some .boolean)) (lv := [some (.ref 0), some (.int 4), none]) (by decide) rfl (Nat.le_of_ble_eq_true rfl) rfl (fun M hl0 hR hC hS hE hret => ?_)
  have b0 := hwh 0 (by omega)
  refine z_iconst (v := 1) dT_firstAreOfOneSize_0 (by decide) ?_
  refine z_istore_n dT_firstAreOfOneSize_1 (by decide) rfl ?_
  try simp only [List.set_cons_succ, List.set_cons_zero]
  have b1 := hwh 1 (by omega)
  refine z_iload_n dT_firstAreOfOneSize_2 rfl ?_
  refine z_iload_n dT_firstAreOfOneSize_3 rfl ?_
  refine z_icmp_ge (tgt := 33) dT_firstAreOfOneSize_4 (by decide) (fun hc9 => absurd hc9 (by decide)) (fun _ => ?_)
  refine z_aload_n dT_firstAreOfOneSize_7 rfl ?_
  refine z_get (C := RT) (T := TT) (N := 1) (ref := "ToneMixer") 0 dT_firstAreOfOneSize_8 rfl rfl rfl (by decide) (fun w h => bwT (hbT w h)) (bwT b_44) rfl ?_
  refine z_iload_n dT_firstAreOfOneSize_11 rfl ?_
  refine z_aaldN (t0 := 2) (k := 1) dT_firstAreOfOneSize_12 rfl rfl (rfl) (by decide) (by decide) rfl ?_
  refine z_aload_n dT_firstAreOfOneSize_13 rfl ?_
  refine z_get (C := RT) (T := TT) (N := 1) (ref := "ToneMixer") 0 dT_firstAreOfOneSize_14 rfl rfl rfl (by decide) (fun w h => bwT (hbT w h)) (bwT b_44) rfl ?_
  refine z_iconst (v := 0) dT_firstAreOfOneSize_17 (by decide) ?_
  refine z_aaldN (t0 := 2) (k := 0) dT_firstAreOfOneSize_18 rfl rfl (rfl) (by decide) (by decide) rfl ?_
  refine z_part (plx 1 ++ plx 0) (z_V (C := RP) (b := 0) hE zEok_0 (c_isOfSizeOf _ D ca _ (f 1) (g 1) (nI (w 1)) (nI (h 1)) (f 0) (g 0) (nI (w 0)) (nI (h 0))) dT_firstAreOfOneSize_19 (gd_V b_56 b_57 b_58 b_2 b_59) rfl qP_isOfSizeOf ⟨rfl, rfl⟩ (by rw [hR]; decide) (by rw [hR, hC, hS]; decide) rfl (Nat.le_of_ble_eq_true rfl) rfl rfl) (by decide) rfl (fun r aw1 hlen hr => ?_)
  obtain ⟨rfl, rfl⟩ := hr
  rw [tw_put6 (i := 1) (j := 0) (by decide) (by decide) (by decide), va_upk f, va_upk f, va_upk g, va_upk g, va_upk (fun k => nI (w k)), va_upk (fun k => nI (w k)), va_upk (fun k => nI (h k)), va_upk (fun k => nI (h k))]
  simp only [zpush, zv]
  by_cases s1 : w 1 = w 0 ∧ h 1 = h 0
  rotate_left
  · rw [if_neg (fun q : nI (w 1) = nI (w 0) ∧ nI (h 1) = nI (h 0) => s1 ⟨(nI_eq (by omega) (by omega)).mp q.1, (nI_eq (by omega) (by omega)).mp q.2⟩)]
    refine z_if_ne (tgt := 27) dT_firstAreOfOneSize_22 (by decide) (fun hc9 => absurd hc9 (by decide)) (fun _ => ?_)
    refine z_iconst (v := 0) dT_firstAreOfOneSize_25 (by decide) ?_
    exact z_ireturn dT_firstAreOfOneSize_26 rfl hret ⟨Nat.le_of_eq hC, Nat.le_of_eq hS⟩ rfl ⟨rfl, Or.inr ⟨fun q => s1 (q 1 (by omega) (by omega)), rfl⟩⟩
  rw [if_pos (show nI (w 1) = nI (w 0) ∧ nI (h 1) = nI (h 0) from ⟨by rw [s1.1], by rw [s1.2]⟩)]
  refine z_if_ne (tgt := 27) dT_firstAreOfOneSize_22 (by decide) (fun _ => ?_) (fun hc9 => absurd hc9 (by decide))
  refine z_iinc1 dT_firstAreOfOneSize_27 (by decide) rfl rfl ?_
  try simp only [List.set_cons_succ, List.set_cons_zero]
  refine z_goto (tgt := 2) dT_firstAreOfOneSize_30 (by decide) ?_
  rw [show ((1 : Int32) + 1) = 2 from rfl]
  have b2 := hwh 2 (by omega)
  refine z_iload_n dT_firstAreOfOneSize_2 rfl ?_
  refine z_iload_n dT_firstAreOfOneSize_3 rfl ?_
  refine z_icmp_ge (tgt := 33) dT_firstAreOfOneSize_4 (by decide) (fun hc9 => absurd hc9 (by decide)) (fun _ => ?_)
  refine z_aload_n dT_firstAreOfOneSize_7 rfl ?_
  refine z_get (C := RT) (T := TT) (N := 1) (ref := "ToneMixer") 0 dT_firstAreOfOneSize_8 rfl rfl rfl (by decide) (fun w h => bwT (hbT w h)) (bwT b_44) rfl ?_
  refine z_iload_n dT_firstAreOfOneSize_11 rfl ?_
  refine z_aaldN (t0 := 2) (k := 2) dT_firstAreOfOneSize_12 rfl rfl (rfl) (by decide) (by decide) rfl ?_
  refine z_aload_n dT_firstAreOfOneSize_13 rfl ?_
  refine z_get (C := RT) (T := TT) (N := 1) (ref := "ToneMixer") 0 dT_firstAreOfOneSize_14 rfl rfl rfl (by decide) (fun w h => bwT (hbT w h)) (bwT b_44) rfl ?_
  refine z_iconst (v := 0) dT_firstAreOfOneSize_17 (by decide) ?_
  refine z_aaldN (t0 := 2) (k := 0) dT_firstAreOfOneSize_18 rfl rfl (rfl) (by decide) (by decide) rfl ?_
  refine z_part (plx 2 ++ plx 0) (z_V (C := RP) (b := 0) hE zEok_0 (c_isOfSizeOf _ D ca _ (f 2) (g 2) (nI (w 2)) (nI (h 2)) (f 0) (g 0) (nI (w 0)) (nI (h 0))) dT_firstAreOfOneSize_19 (gd_V b_56 b_57 b_58 b_2 b_59) rfl qP_isOfSizeOf ⟨rfl, rfl⟩ (by rw [hR]; decide) (by rw [hR, hC, hS]; decide) rfl (Nat.le_of_ble_eq_true rfl) rfl rfl) (by decide) rfl (fun r aw1 hlen hr => ?_)
  obtain ⟨rfl, rfl⟩ := hr
  rw [tw_put6 (i := 2) (j := 0) (by decide) (by decide) (by decide), va_upk f, va_upk f, va_upk g, va_upk g, va_upk (fun k => nI (w k)), va_upk (fun k => nI (w k)), va_upk (fun k => nI (h k)), va_upk (fun k => nI (h k))]
  simp only [zpush, zv]
  by_cases s2 : w 2 = w 0 ∧ h 2 = h 0
  rotate_left
  · rw [if_neg (fun q : nI (w 2) = nI (w 0) ∧ nI (h 2) = nI (h 0) => s2 ⟨(nI_eq (by omega) (by omega)).mp q.1, (nI_eq (by omega) (by omega)).mp q.2⟩)]
    refine z_if_ne (tgt := 27) dT_firstAreOfOneSize_22 (by decide) (fun hc9 => absurd hc9 (by decide)) (fun _ => ?_)
    refine z_iconst (v := 0) dT_firstAreOfOneSize_25 (by decide) ?_
    exact z_ireturn dT_firstAreOfOneSize_26 rfl hret ⟨Nat.le_of_eq hC, Nat.le_of_eq hS⟩ rfl ⟨rfl, Or.inr ⟨fun q => s2 (q 2 (by omega) (by omega)), rfl⟩⟩
  rw [if_pos (show nI (w 2) = nI (w 0) ∧ nI (h 2) = nI (h 0) from ⟨by rw [s2.1], by rw [s2.2]⟩)]
  refine z_if_ne (tgt := 27) dT_firstAreOfOneSize_22 (by decide) (fun _ => ?_) (fun hc9 => absurd hc9 (by decide))
  refine z_iinc1 dT_firstAreOfOneSize_27 (by decide) rfl rfl ?_
  try simp only [List.set_cons_succ, List.set_cons_zero]
  refine z_goto (tgt := 2) dT_firstAreOfOneSize_30 (by decide) ?_
  rw [show ((2 : Int32) + 1) = 3 from rfl]
  have b3 := hwh 3 (by omega)
  refine z_iload_n dT_firstAreOfOneSize_2 rfl ?_
  refine z_iload_n dT_firstAreOfOneSize_3 rfl ?_
  refine z_icmp_ge (tgt := 33) dT_firstAreOfOneSize_4 (by decide) (fun hc9 => absurd hc9 (by decide)) (fun _ => ?_)
  refine z_aload_n dT_firstAreOfOneSize_7 rfl ?_
  refine z_get (C := RT) (T := TT) (N := 1) (ref := "ToneMixer") 0 dT_firstAreOfOneSize_8 rfl rfl rfl (by decide) (fun w h => bwT (hbT w h)) (bwT b_44) rfl ?_
  refine z_iload_n dT_firstAreOfOneSize_11 rfl ?_
  refine z_aaldN (t0 := 2) (k := 3) dT_firstAreOfOneSize_12 rfl rfl (rfl) (by decide) (by decide) rfl ?_
  refine z_aload_n dT_firstAreOfOneSize_13 rfl ?_
  refine z_get (C := RT) (T := TT) (N := 1) (ref := "ToneMixer") 0 dT_firstAreOfOneSize_14 rfl rfl rfl (by decide) (fun w h => bwT (hbT w h)) (bwT b_44) rfl ?_
  refine z_iconst (v := 0) dT_firstAreOfOneSize_17 (by decide) ?_
  refine z_aaldN (t0 := 2) (k := 0) dT_firstAreOfOneSize_18 rfl rfl (rfl) (by decide) (by decide) rfl ?_
  refine z_part (plx 3 ++ plx 0) (z_V (C := RP) (b := 0) hE zEok_0 (c_isOfSizeOf _ D ca _ (f 3) (g 3) (nI (w 3)) (nI (h 3)) (f 0) (g 0) (nI (w 0)) (nI (h 0))) dT_firstAreOfOneSize_19 (gd_V b_56 b_57 b_58 b_2 b_59) rfl qP_isOfSizeOf ⟨rfl, rfl⟩ (by rw [hR]; decide) (by rw [hR, hC, hS]; decide) rfl (Nat.le_of_ble_eq_true rfl) rfl rfl) (by decide) rfl (fun r aw1 hlen hr => ?_)
  obtain ⟨rfl, rfl⟩ := hr
  rw [tw_put6 (i := 3) (j := 0) (by decide) (by decide) (by decide), va_upk f, va_upk f, va_upk g, va_upk g, va_upk (fun k => nI (w k)), va_upk (fun k => nI (w k)), va_upk (fun k => nI (h k)), va_upk (fun k => nI (h k))]
  simp only [zpush, zv]
  by_cases s3 : w 3 = w 0 ∧ h 3 = h 0
  rotate_left
  · rw [if_neg (fun q : nI (w 3) = nI (w 0) ∧ nI (h 3) = nI (h 0) => s3 ⟨(nI_eq (by omega) (by omega)).mp q.1, (nI_eq (by omega) (by omega)).mp q.2⟩)]
    refine z_if_ne (tgt := 27) dT_firstAreOfOneSize_22 (by decide) (fun hc9 => absurd hc9 (by decide)) (fun _ => ?_)
    refine z_iconst (v := 0) dT_firstAreOfOneSize_25 (by decide) ?_
    exact z_ireturn dT_firstAreOfOneSize_26 rfl hret ⟨Nat.le_of_eq hC, Nat.le_of_eq hS⟩ rfl ⟨rfl, Or.inr ⟨fun q => s3 (q 3 (by omega) (by omega)), rfl⟩⟩
  rw [if_pos (show nI (w 3) = nI (w 0) ∧ nI (h 3) = nI (h 0) from ⟨by rw [s3.1], by rw [s3.2]⟩)]
  refine z_if_ne (tgt := 27) dT_firstAreOfOneSize_22 (by decide) (fun _ => ?_) (fun hc9 => absurd hc9 (by decide))
  refine z_iinc1 dT_firstAreOfOneSize_27 (by decide) rfl rfl ?_
  try simp only [List.set_cons_succ, List.set_cons_zero]
  refine z_goto (tgt := 2) dT_firstAreOfOneSize_30 (by decide) ?_
  rw [show ((3 : Int32) + 1) = 4 from rfl]
  refine z_iload_n dT_firstAreOfOneSize_2 rfl ?_
  refine z_iload_n dT_firstAreOfOneSize_3 rfl ?_
  refine z_icmp_ge (tgt := 33) dT_firstAreOfOneSize_4 (by decide) (fun _ => ?_) (fun hc9 => absurd hc9 (by decide))
  refine z_iconst (v := 1) dT_firstAreOfOneSize_33 (by decide) ?_
  refine z_ireturn dT_firstAreOfOneSize_34 rfl hret ⟨Nat.le_of_eq hC, Nat.le_of_eq hS⟩ rfl ⟨rfl, Or.inl ⟨fun i h1 h2 => ?_, rfl⟩⟩
  rcases (show i = 1 ∨ i = 2 ∨ i = 3 by omega) with rfl | rfl | rfl
  · exact s1
  · exact s2
  · exact s3
def mxX (v y : Nat) (f : Nat → Nat → Int32) : Nat → (Nat → Nat → Int32)
  | 0 => f
  | x + 1 => up3 (mxX v y f x) (y * 32 + x) (mxP v (mxX v y f x 0 (y * 32 + x)) (mxX v y f x 1 (y * 32 + x)) (mxX v y f x 2 (y * 32 + x)) (mxX v y f x 3 (y * 32 + x)))
def mxA (v w : Nat) (f : Nat → Nat → Int32) : Nat → (Nat → Nat → Int32)
  | 0 => f
  | y + 1 => mxX v y (mxA v w f y) w
section
variable {M : zM} {D : va_G} {ca : Nat → ClassId} {ad : Nat → Nat} {f g : Nat → Nat → Int32} {w h : Nat → Nat} {v : Nat}
set_option maxRecDepth 100000 in
set_option maxHeartbeats 4000000 in
theorem l_mix_x (hwh : okW w h) (hv : v ≤ 6) (hR : zroom M = rmk 4 0 0) (hC : zcells M = 0) (hS : zslots M = 0) (hE : zEn M zE0) {y : Nat} (hy : y < h 0)
    (k : Zj M (gG D ca ad) cT_mix 4 RT wT_mix (some .boolean) (twn ca (mxX v y f (w 0)) g w h) [some (.ref 0), some (.int (nI v)), some (.int (nI y)), some (.int (nI (w 0)))] [] 77) :
    ∀ n x, x + n = w 0 → Zj M (gG D ca ad) cT_mix 4 RT wT_mix (some .boolean) (twn ca (mxX v y f x) g w h) [some (.ref 0), some (.int (nI v)), some (.int (nI y)), some (.int (nI x))] [] 48 := by
  obtain ⟨b1, b2, b3, b4⟩ := hwh 0 (by omega)
  intro n
  induction n with
  | zero =>
    intro x hx
    obtain rfl : x = w 0 := by omega
    refine z_iload_n dT_mix_48 rfl ?_
    refine z_aload_n dT_mix_49 rfl ?_
    refine z_get (C := RT) (T := TT) (N := 1) (ref := "ToneMixer") 0 dT_mix_50 rfl rfl rfl (by decide) (fun w h => bwT (hbT w h)) (bwT b_44) rfl ?_
    refine z_iconst (v := 0) dT_mix_53 (by decide) ?_
    refine z_aaldN (t0 := 2) (k := 0) dT_mix_54 rfl rfl (rfl) (by decide) (by decide) rfl ?_
    refine z_get (C := RP) (T := TP) (N := 4) (ref := "ToneMixer$Plane") 1 dT_mix_55 rfl rfl rfl (by decide) (fun w h => bwT (hbP w h)) (bwT b_30) rfl ?_
    exact z_icmp_ge (tgt := 77) dT_mix_58 (by decide) (fun _ => k) (fun hc => absurd (nI_le (Nat.le_refl _) (by omega)) hc)
  | succ n ih =>
    intro x hx
    refine z_iload_n dT_mix_48 rfl ?_
    refine z_aload_n dT_mix_49 rfl ?_
    refine z_get (C := RT) (T := TT) (N := 1) (ref := "ToneMixer") 0 dT_mix_50 rfl rfl rfl (by decide) (fun w h => bwT (hbT w h)) (bwT b_44) rfl ?_
    refine z_iconst (v := 0) dT_mix_53 (by decide) ?_
    refine z_aaldN (t0 := 2) (k := 0) dT_mix_54 rfl rfl (rfl) (by decide) (by decide) rfl ?_
    refine z_get (C := RP) (T := TP) (N := 4) (ref := "ToneMixer$Plane") 1 dT_mix_55 rfl rfl rfl (by decide) (fun w h => bwT (hbP w h)) (bwT b_30) rfl ?_
    refine z_icmp_ge (tgt := 77) dT_mix_58 (by decide) (fun hc => absurd hc (nI_ge (by omega) (by omega))) (fun _ => ?_)
    refine z_aload_n dT_mix_61 rfl ?_
    refine z_iload_n dT_mix_62 rfl ?_
    refine z_iload_n dT_mix_63 rfl ?_
    refine z_iload_n dT_mix_64 rfl ?_
    refine z_pure (z_S hE zEok_0 (c_placeOf _ _ _ _) dT_mix_65 (gd_S b_60 b_61 b_1 b_62) rfl qT_placeOf.2 ⟨rfl, rfl⟩ (by rw [hR]; decide) (by rw [hR, hC, hS]; decide) rfl (Nat.le_of_ble_eq_true rfl)) (fun r hr => ?_)
    subst hr
    simp only [zpush, zv]
    rw [z_pl]
    refine z_same (z_V (C := RT) (b := 0) hE zEok_0 (c_mixPlace _ D ca ad (mxX v y f x) g w h v (y * 32 + x) hv (by omega)) dT_mix_68 (gd_V b_63 b_65 bs_1 b_1 b_66) rfl qT_mixPlace ⟨rfl, rfl⟩ (by rw [hR]; decide) (by rw [hR, hC, hS]; decide) rfl (Nat.le_of_ble_eq_true rfl) rfl rfl) (fun r aw1 hlen hr => ?_)
    obtain ⟨rfl, rfl⟩ := hr
    simp only [zpush]
    refine z_iinc1 dT_mix_71 (by decide) rfl rfl ?_
    try simp only [List.set_cons_succ, List.set_cons_zero]
    refine z_goto (tgt := 48) dT_mix_74 (by decide) ?_
    rw [nI_1]
    exact ih (x + 1) (by omega)
set_option maxRecDepth 100000 in
set_option maxHeartbeats 4000000 in
theorem l_mix_y (hwh : okW w h) (hv : v ≤ 6) (hR : zroom M = rmk 4 0 0) (hC : zcells M = 0) (hS : zslots M = 0) (hE : zEn M zE0)
    (k : ∀ o, Zj M (gG D ca ad) cT_mix 4 RT wT_mix (some .boolean) (twn ca (mxA v (w 0) f (h 0)) g w h) [some (.ref 0), some (.int (nI v)), some (.int (nI (h 0))), o] [] 83) :
    ∀ n y, y + n = h 0 → ∀ o, Zj M (gG D ca ad) cT_mix 4 RT wT_mix (some .boolean) (twn ca (mxA v (w 0) f y) g w h) [some (.ref 0), some (.int (nI v)), some (.int (nI y)), o] [] 33 := by
  obtain ⟨b1, b2, b3, b4⟩ := hwh 0 (by omega)
  intro n
  induction n with
  | zero =>
    intro y hy o
    obtain rfl : y = h 0 := by omega
    refine z_iload_n dT_mix_33 rfl ?_
    refine z_aload_n dT_mix_34 rfl ?_
    refine z_get (C := RT) (T := TT) (N := 1) (ref := "ToneMixer") 0 dT_mix_35 rfl rfl rfl (by decide) (fun w h => bwT (hbT w h)) (bwT b_44) rfl ?_
    refine z_iconst (v := 0) dT_mix_38 (by decide) ?_
    refine z_aaldN (t0 := 2) (k := 0) dT_mix_39 rfl rfl (rfl) (by decide) (by decide) rfl ?_
    refine z_get (C := RP) (T := TP) (N := 4) (ref := "ToneMixer$Plane") 2 dT_mix_40 rfl rfl rfl (by decide) (fun w h => bwT (hbP w h)) (bwT b_32) rfl ?_
    exact z_icmp_ge (tgt := 83) dT_mix_43 (by decide) (fun _ => k o) (fun hc => absurd (nI_le (Nat.le_refl _) (by omega)) hc)
  | succ n ih =>
    intro y hy o
    refine z_iload_n dT_mix_33 rfl ?_
    refine z_aload_n dT_mix_34 rfl ?_
    refine z_get (C := RT) (T := TT) (N := 1) (ref := "ToneMixer") 0 dT_mix_35 rfl rfl rfl (by decide) (fun w h => bwT (hbT w h)) (bwT b_44) rfl ?_
    refine z_iconst (v := 0) dT_mix_38 (by decide) ?_
    refine z_aaldN (t0 := 2) (k := 0) dT_mix_39 rfl rfl (rfl) (by decide) (by decide) rfl ?_
    refine z_get (C := RP) (T := TP) (N := 4) (ref := "ToneMixer$Plane") 2 dT_mix_40 rfl rfl rfl (by decide) (fun w h => bwT (hbP w h)) (bwT b_32) rfl ?_
    refine z_icmp_ge (tgt := 83) dT_mix_43 (by decide) (fun hc => absurd hc (nI_ge (by omega) (by omega))) (fun _ => ?_)
    refine z_iconst (v := 0) dT_mix_46 (by decide) ?_
    refine z_istore_n dT_mix_47 (by decide) rfl ?_
    try simp only [List.set_cons_succ, List.set_cons_zero]
    refine l_mix_x (f := mxA v (w 0) f y) hwh hv hR hC hS hE (y := y) (by omega) ?_ (w 0) 0 (by omega)
    refine z_iinc1 dT_mix_77 (by decide) rfl rfl ?_
    try simp only [List.set_cons_succ, List.set_cons_zero]
    refine z_goto (tgt := 33) dT_mix_80 (by decide) ?_
    rw [nI_1]
    exact ih (y + 1) (by omega) _
end
def mix0 (n : Int32) (w h : Nat → Nat) : Prop := n < 0 ∨ 6 < n ∨ ¬ sameS (if n = 3 then 4 else 3) w h
set_option maxRecDepth 100000 in
set_option maxHeartbeats 4000000 in
theorem c_mix (l : Launch) (D : va_G) (ca : Nat → ClassId) (ad : Nat → Nat) (f g : Nat → Nat → Int32) (w h : Nat → Nat) (hwh : okW w h) (n : Int32) : zMet l yT_mix wT_mix (rmk 4 0 0) zE0 (gG D ca ad) (twn ca f g w h) [.ref 0, .int n] (fun r aw => (mix0 n w h ∧ r = some (.int 0) ∧ aw = twn ca f g w h) ∨ ∃ v : Nat, v ≤ 6 ∧ n = nI v ∧ sameS (if n = 3 then 4 else 3) w h ∧ r = some (.int 1) ∧ aw = twn ca (mxA v (w 0) f (h 0)) g w h) := by
  refine zMet.of (cc := cT_mix) (maxL := 4) (ret := (some .boolean)) (lv := [some (.ref 0), some (.int n), none, none]) (by decide) rfl (Nat.le_of_ble_eq_true rfl) rfl (fun M hl0 hR hC hS hE hret => ?_)
  have k10 : (n < 0 ∨ 6 < n) → Zj M (gG D ca ad) cT_mix 4 RT wT_mix (some .boolean) (twn ca f g w h) [some (.ref 0), some (.int n), none, none] [] 10 := fun hb => by
    refine z_iconst (v := 0) dT_mix_10 (by decide) ?_
    exact z_ireturn dT_mix_11 rfl hret ⟨Nat.le_of_eq hC, Nat.le_of_eq hS⟩ rfl (Or.inl ⟨hb.elim Or.inl (fun q => Or.inr (Or.inl q)), rfl, rfl⟩)
  refine z_iload_n dT_mix_0 rfl ?_
  refine z_if_lt (tgt := 10) dT_mix_1 (by decide) (fun c1 => k10 (Or.inl c1)) (fun c1 => ?_)
  refine z_iload_n dT_mix_4 rfl ?_
  refine z_bipush (v := 6) dT_mix_5 (by decide) ?_
  refine z_icmp_le (tgt := 12) dT_mix_7 (by decide) (fun c2 => ?_) (fun c2 => k10 (Or.inr (Int32.not_le.mp c2)))
  obtain ⟨v, hv, rfl⟩ := nI_of2 (M := 6) (n := 6) (by decide) c1 c2
  have k31 : sameS (if nI v = 3 then 4 else 3) w h → Zj M (gG D ca ad) cT_mix 4 RT wT_mix (some .boolean) (twn ca f g w h) [some (.ref 0), some (.int (nI v)), none, none] [] 31 := fun hs => by
    refine z_iconst (v := 0) dT_mix_31 (by decide) ?_
    refine z_istore_n dT_mix_32 (by decide) rfl ?_
    try simp only [List.set_cons_succ, List.set_cons_zero]
    refine l_mix_y hwh hv hR hC hS hE (fun o => ?_) (h 0) 0 (by omega) none
    refine z_iconst (v := 1) dT_mix_83 (by decide) ?_
    exact z_ireturn dT_mix_84 rfl hret ⟨Nat.le_of_eq hC, Nat.le_of_eq hS⟩ rfl (Or.inr ⟨v, hv, rfl, hs, rfl, rfl⟩)
  have k29 : ¬ sameS (if nI v = 3 then 4 else 3) w h → Zj M (gG D ca ad) cT_mix 4 RT wT_mix (some .boolean) (twn ca f g w h) [some (.ref 0), some (.int (nI v)), none, none] [] 29 := fun hs => by
    refine z_iconst (v := 0) dT_mix_29 (by decide) ?_
    exact z_ireturn dT_mix_30 rfl hret ⟨Nat.le_of_eq hC, Nat.le_of_eq hS⟩ rfl (Or.inl ⟨Or.inr (Or.inr hs), rfl, rfl⟩)
  refine z_aload_n dT_mix_12 rfl ?_
  refine z_iload_n dT_mix_13 rfl ?_
  refine z_iconst (v := 3) dT_mix_14 (by decide) ?_
  refine z_icmp_ne (tgt := 22) dT_mix_15 (by decide) (fun c => ?_) (fun c => ?_)
  · rw [if_neg c] at k31 k29
    refine z_iconst (v := 3) dT_mix_22 (by decide) ?_
    refine z_same (z_V (C := RT) (b := 0) hE zEok_0 (c_first3 _ D ca ad f g w h hwh) dT_mix_23 (gd_V b_52 b_54 bs_0 b_1 b_55) rfl qT_firstAreOfOneSize ⟨rfl, rfl⟩ (by rw [hR]; decide) (by rw [hR, hC, hS]; decide) rfl (Nat.le_of_ble_eq_true rfl) rfl rfl) (fun r aw1 hlen hr => ?_)
    obtain ⟨rfl, ⟨hs, rfl⟩ | ⟨hs, rfl⟩⟩ := hr
    · simp only [zpush, zv]
      exact z_if_ne (tgt := 31) dT_mix_26 (by decide) (fun _ => k31 hs) (fun hc => absurd hc (by decide))
    · simp only [zpush, zv]
      exact z_if_ne (tgt := 31) dT_mix_26 (by decide) (fun hc => absurd rfl hc) (fun _ => k29 hs)
  · rw [if_pos c] at k31 k29
    refine z_iconst (v := 4) dT_mix_18 (by decide) ?_
    refine z_goto (tgt := 23) dT_mix_19 (by decide) ?_
    refine z_same (z_V (C := RT) (b := 0) hE zEok_0 (c_first4 _ D ca ad f g w h hwh) dT_mix_23 (gd_V b_52 b_54 bs_0 b_1 b_55) rfl qT_firstAreOfOneSize ⟨rfl, rfl⟩ (by rw [hR]; decide) (by rw [hR, hC, hS]; decide) rfl (Nat.le_of_ble_eq_true rfl) rfl rfl) (fun r aw1 hlen hr => ?_)
    obtain ⟨rfl, ⟨hs, rfl⟩ | ⟨hs, rfl⟩⟩ := hr
    · simp only [zpush, zv]
      exact z_if_ne (tgt := 31) dT_mix_26 (by decide) (fun _ => k31 hs) (fun hc => absurd hc (by decide))
    · simp only [zpush, zv]
      exact z_if_ne (tgt := 31) dT_mix_26 (by decide) (fun hc => absurd rfl hc) (fun _ => k29 hs)
end
section
/-! the reference: its object, its sides, its samples, what it keeps of a plane -/
abbrev mw (ca : Nat → ClassId) (th : Int32) (W H S O : Nat → Int32) (ow oh : Int32) : List va_E := [.inr (2, [.int th, .ref 1, .ref 2, .ref 3, .ref 4, .int ow, .int oh]), .inl (ca 0, 4, .inl W), .inl (ca 0, 4, .inl H), .inl (ca 0, 4096, .inl S), .inl (ca 0, 1024, .inl O)]
abbrev mwn (ca : Nat → ClassId) (th : Int32) (w h : Nat → Nat) (S O : Nat → Int32) (ow oh : Int32) : List va_E := mw ca th (fun j => nI (w j)) (fun j => nI (h j)) S O ow oh
theorem updn (w : Nat → Nat) (k n : Nat) : upd (fun j => nI (w j)) k (nI n) = fun j => nI (va_up w k n j) := by
  funext j
  by_cases h : j = k
  · subst h; rw [pk_us, va_up_self]
  · rw [pk_un h, va_up_ne _ _ h]
def bI (b : Bool) : Int32 := if b = true then 1 else 0
def inB (v lo hi : Int32) : Bool := decide (¬ v < lo ∧ ¬ hi < v)
set_option maxRecDepth 100000 in
set_option maxHeartbeats 4000000 in
theorem m_in (l : Launch) (G : zG) (v a b : Int32) : zMet l yM_in wM_in (rmk 0 0 0) zE0 G [] [.int v, .int a, .int b] (fun r _ => r = some (.int (bI (inB v a b)))) := by
  refine zMet.of (cc := cM_in) (maxL := 3) (ret := (some .boolean)) (lv := [some (.int v), some (.int a), some (.int b)]) (by decide) rfl (Nat.le_of_ble_eq_true rfl) rfl (fun M hl0 hR hC hS hE hret => ?_)
  have k14 : inB v a b = false → Zj M G cM_in 3 RM wM_in (some .boolean) [] [some (.int v), some (.int a), some (.int b)] [] 14 := fun hb => by
    refine z_iconst (v := 0) dM_in_14 (by decide) ?_
    refine z_ireturn dM_in_15 rfl hret ⟨Nat.le_of_eq hC, Nat.le_of_eq hS⟩ rfl ?_
    rw [hb]; rfl
  refine z_iload_n dM_in_0 rfl ?_
  refine z_iload_n dM_in_1 rfl ?_
  refine z_icmp_lt (tgt := 14) dM_in_2 (by decide) (fun c1 => k14 (by simp [inB, c1])) (fun c1 => ?_)
  refine z_iload_n dM_in_5 rfl ?_
  refine z_iload_n dM_in_6 rfl ?_
  refine z_icmp_gt (tgt := 14) dM_in_7 (by decide) (fun c2 => k14 (by simp [inB, c2])) (fun c2 => ?_)
  refine z_iconst (v := 1) dM_in_10 (by decide) ?_
  refine z_goto (tgt := 15) dM_in_11 (by decide) ?_
  refine z_ireturn dM_in_15 rfl hret ⟨Nat.le_of_eq hC, Nat.le_of_eq hS⟩ rfl ?_
  rw [show inB v a b = true by simp [inB, c1, c2]]; rfl
set_option maxRecDepth 100000 in
set_option maxHeartbeats 4000000 in
theorem m_isPlane (l : Launch) (G : zG) (p : Int32) : zMet l yM_isPlane wM_isPlane (rmk 1 0 0) zE0 G [] [.int p] (fun r _ => r = some (.int (bI (inB p 0 3)))) := by
  refine zMet.of (cc := cM_isPlane) (maxL := 1) (ret := (some .boolean)) (lv := [some (.int p)]) (by decide) rfl (Nat.le_of_ble_eq_true rfl) rfl (fun M hl0 hR hC hS hE hret => ?_)
  refine z_iload_n dM_isPlane_0 rfl ?_
  refine z_iconst (v := 0) dM_isPlane_1 (by decide) ?_
  refine z_iconst (v := 3) dM_isPlane_2 (by decide) ?_
  refine z_pure (z_S hE zEok_0 (m_in _ _ _ _ _) dM_isPlane_3 (gd_S b_419 b_420 b_3 b_421) rfl qM_in.2 ⟨rfl, rfl⟩ (by rw [hR]; decide) (by rw [hR, hC, hS]; decide) rfl (Nat.le_of_ble_eq_true rfl)) (fun r hr => ?_)
  subst hr
  simp only [zpush, zv]
  exact z_ireturn dM_isPlane_6 (by unfold bI; split <;> rfl) hret ⟨Nat.le_of_eq hC, Nat.le_of_eq hS⟩ rfl rfl
set_option maxRecDepth 100000 in
set_option maxHeartbeats 4000000 in
theorem m_cell (l : Launch) (G : zG) (p x y : Int32) : zMet l yM_cell wM_cell (rmk 0 0 0) zE0 G [] [.int p, .int x, .int y] (fun r _ => r = some (.int (1024 * p + 32 * y + x))) := by
  refine zMet.of (cc := cM_cell) (maxL := 3) (ret := (some .int)) (lv := [some (.int p), some (.int x), some (.int y)]) (by decide) rfl (Nat.le_of_ble_eq_true rfl) rfl (fun M hl0 hR hC hS hE hret => ?_)
  refine z_sipush (v := 1024) dM_cell_0 (by decide) ?_
  refine z_iload_n dM_cell_3 rfl ?_
  refine z_imul dM_cell_4 ?_
  refine z_bipush (v := 32) dM_cell_5 (by decide) ?_
  refine z_iload_n dM_cell_7 rfl ?_
  refine z_imul dM_cell_8 ?_
  refine z_iadd dM_cell_9 ?_
  refine z_iload_n dM_cell_10 rfl ?_
  refine z_iadd dM_cell_11 ?_
  exact z_ireturn dM_cell_12 rfl hret ⟨Nat.le_of_eq hC, Nat.le_of_eq hS⟩ rfl rfl
def mlim (v : Int32) : Int32 := if v < 0 then 0 else if 255 < v then 255 else v
set_option maxRecDepth 100000 in
set_option maxHeartbeats 4000000 in
theorem m_limit (l : Launch) (G : zG) (v : Int32) : zMet l yM_limit wM_limit (rmk 0 0 0) zE0 G [] [.int v] (fun r _ => r = some (.int (mlim v))) := by
  refine zMet.of (cc := cM_limit) (maxL := 1) (ret := (some .int)) (lv := [some (.int v)]) (by decide) rfl (Nat.le_of_ble_eq_true rfl) rfl (fun M hl0 hR hC hS hE hret => ?_)
  refine z_iload_n dM_limit_0 rfl ?_
  refine z_if_ge (tgt := 8) dM_limit_1 (by decide) (fun c1 => ?_) (fun c1 => ?_)
  · have c1' : ¬ v < 0 := Int32.not_lt.mpr c1
    refine z_iload_n dM_limit_8 rfl ?_
    refine z_sipush (v := 255) dM_limit_9 (by decide) ?_
    refine z_icmp_le (tgt := 21) dM_limit_12 (by decide) (fun c2 => ?_) (fun c2 => ?_)
    · skip
      refine z_iload_n dM_limit_21 rfl ?_
      exact z_ireturn dM_limit_22 rfl hret ⟨Nat.le_of_eq hC, Nat.le_of_eq hS⟩ rfl (by rw [mlim, if_neg c1', if_neg (Int32.not_lt.mpr c2)])
    · skip
      refine z_sipush (v := 255) dM_limit_15 (by decide) ?_
      refine z_goto (tgt := 22) dM_limit_18 (by decide) ?_
      exact z_ireturn dM_limit_22 rfl hret ⟨Nat.le_of_eq hC, Nat.le_of_eq hS⟩ rfl (by rw [mlim, if_neg c1', if_pos (Int32.not_le.mp c2)])
  · skip
    refine z_iconst (v := 0) dM_limit_4 (by decide) ?_
    refine z_goto (tgt := 22) dM_limit_5 (by decide) ?_
    exact z_ireturn dM_limit_22 rfl hret ⟨Nat.le_of_eq hC, Nat.le_of_eq hS⟩ rfl (by rw [mlim, if_pos (Int32.not_le.mp c1)])
set_option maxRecDepth 100000 in
set_option maxHeartbeats 4000000 in
theorem m_grey (l : Launch) (G : zG) (a b c : Int32) : zMet l yM_grey wM_grey (rmk 0 0 0) zE0 G [] [.int a, .int b, .int c] (fun r _ => r = some (.int (bri a b c))) := by
  refine zMet.of (cc := cM_grey) (maxL := 3) (ret := (some .int)) (lv := [some (.int a), some (.int b), some (.int c)]) (by decide) rfl (Nat.le_of_ble_eq_true rfl) rfl (fun M hl0 hR hC hS hE hret => ?_)
  refine z_sipush (v := 19595) dM_grey_0 (by decide) ?_
  refine z_iload_n dM_grey_3 rfl ?_
  refine z_imul dM_grey_4 ?_
  refine z_ldc (v := 38470) dM_grey_5 (bwT b_491) ?_
  refine z_iload_n dM_grey_7 rfl ?_
  refine z_imul dM_grey_8 ?_
  refine z_iadd dM_grey_9 ?_
  refine z_sipush (v := 7471) dM_grey_10 (by decide) ?_
  refine z_iload_n dM_grey_13 rfl ?_
  refine z_imul dM_grey_14 ?_
  refine z_iadd dM_grey_15 ?_
  refine z_ldc (v := 32768) dM_grey_16 (bwT b_484) ?_
  refine z_iadd dM_grey_18 ?_
  refine z_bipush (v := 16) dM_grey_19 (by decide) ?_
  refine z_ishr dM_grey_21 ?_
  exact z_ireturn dM_grey_22 rfl hret ⟨Nat.le_of_eq hC, Nat.le_of_eq hS⟩ rfl rfl
set_option maxRecDepth 100000 in
set_option maxHeartbeats 4000000 in
theorem m_thrown (l : Launch) (D : va_G) (ca : Nat → ClassId) (ad : Nat → Nat) (th : Int32) (w h : Nat → Nat) (S O : Nat → Int32) (ow oh : Int32)  : zMet l yM_thrown wM_thrown (rmk 0 0 0) zE0 (gG D ca ad) (mwn ca th w h S O ow oh) [.ref 0] (fun r aw => r = some (.int th) ∧ aw = mwn ca th w h S O ow oh) := by
  refine zMet.of (cc := cM_thrown) (maxL := 1) (ret := (some .int)) (lv := [some (.ref 0)]) (by decide) rfl (Nat.le_of_ble_eq_true rfl) rfl (fun M hl0 hR hC hS hE hret => ?_)
  refine z_aload_n dM_thrown_0 rfl ?_
  refine z_get (C := RM) (T := TM) (N := 7) (ref := "ToneMixerModel") 0 dM_thrown_1 rfl rfl rfl (by decide) (fun w h => bwT (hbM w h)) (bwT b_386) rfl ?_
  exact z_ireturn dM_thrown_4 rfl hret ⟨Nat.le_of_eq hC, Nat.le_of_eq hS⟩ rfl ⟨rfl, rfl⟩
def thv (a b : Bool) : Int32 := if a = true then (if b = true then 0 else 2) else 1
set_option maxRecDepth 100000 in
set_option maxHeartbeats 4000000 in
theorem m_goes (l : Launch) (D : va_G) (ca : Nat → ClassId) (ad : Nat → Nat) (th : Int32) (w h : Nat → Nat) (S O : Nat → Int32) (ow oh : Int32) (a b : Bool) : zMet l yM_goes wM_goes (rmk 0 0 0) zE0 (gG D ca ad) (mwn ca th w h S O ow oh) [.ref 0, .int (bI a), .int (bI b)] (fun r aw => r = some (.int (bI (a && b))) ∧ aw = mwn ca (thv a b) w h S O ow oh) := by
  refine zMet.of (cc := cM_goes) (maxL := 3) (ret := (some .boolean)) (lv := [some (.ref 0), some (.int (bI a)), some (.int (bI b))]) (by decide) rfl (Nat.le_of_ble_eq_true rfl) rfl (fun M hl0 hR hC hS hE hret => ?_)
  cases a <;> cases b
  · skip
    refine z_aload_n dM_goes_0 rfl ?_
    refine z_iload_n dM_goes_1 rfl ?_
    refine z_if_ne (tgt := 9) dM_goes_2 (by decide) (fun hc9 => absurd hc9 (by decide)) (fun _ => ?_)
    refine z_iconst (v := 1) dM_goes_5 (by decide) ?_
    refine z_goto (tgt := 18) dM_goes_6 (by decide) ?_
    refine z_put (C := RM) (T := TM) (N := 7) (ref := "ToneMixerModel") (ty := .int) 0 tyM dM_goes_18 rfl rfl (by decide) (fun w h => bwT (hbM w h)) (bwT b_386) rfl tyM_ok nmM rfl (by decide +kernel) (fun _ => ⟨rfl, rfl⟩) (Nat.le_of_ble_eq_true rfl) ?_
    try simp only [List.set_cons_succ, List.set_cons_zero]
    refine z_aload_n dM_goes_21 rfl ?_
    refine z_get (C := RM) (T := TM) (N := 7) (ref := "ToneMixerModel") 0 dM_goes_22 rfl rfl rfl (by decide) (fun w h => bwT (hbM w h)) (bwT b_386) rfl ?_
    refine z_if_ne (tgt := 32) dM_goes_25 (by decide) (fun _ => ?_) (fun hc9 => absurd hc9 (by decide))
    refine z_iconst (v := 0) dM_goes_32 (by decide) ?_
    exact z_ireturn dM_goes_33 rfl hret ⟨Nat.le_of_eq hC, Nat.le_of_eq hS⟩ rfl ⟨rfl, rfl⟩
  · skip
    refine z_aload_n dM_goes_0 rfl ?_
    refine z_iload_n dM_goes_1 rfl ?_
    refine z_if_ne (tgt := 9) dM_goes_2 (by decide) (fun hc9 => absurd hc9 (by decide)) (fun _ => ?_)
    refine z_iconst (v := 1) dM_goes_5 (by decide) ?_
    refine z_goto (tgt := 18) dM_goes_6 (by decide) ?_
    refine z_put (C := RM) (T := TM) (N := 7) (ref := "ToneMixerModel") (ty := .int) 0 tyM dM_goes_18 rfl rfl (by decide) (fun w h => bwT (hbM w h)) (bwT b_386) rfl tyM_ok nmM rfl (by decide +kernel) (fun _ => ⟨rfl, rfl⟩) (Nat.le_of_ble_eq_true rfl) ?_
    try simp only [List.set_cons_succ, List.set_cons_zero]
    refine z_aload_n dM_goes_21 rfl ?_
    refine z_get (C := RM) (T := TM) (N := 7) (ref := "ToneMixerModel") 0 dM_goes_22 rfl rfl rfl (by decide) (fun w h => bwT (hbM w h)) (bwT b_386) rfl ?_
    refine z_if_ne (tgt := 32) dM_goes_25 (by decide) (fun _ => ?_) (fun hc9 => absurd hc9 (by decide))
    refine z_iconst (v := 0) dM_goes_32 (by decide) ?_
    exact z_ireturn dM_goes_33 rfl hret ⟨Nat.le_of_eq hC, Nat.le_of_eq hS⟩ rfl ⟨rfl, rfl⟩
  · skip
    refine z_aload_n dM_goes_0 rfl ?_
    refine z_iload_n dM_goes_1 rfl ?_
    refine z_if_ne (tgt := 9) dM_goes_2 (by decide) (fun _ => ?_) (fun hc9 => absurd hc9 (by decide))
    refine z_iload_n dM_goes_9 rfl ?_
    refine z_if_ne (tgt := 17) dM_goes_10 (by decide) (fun hc9 => absurd hc9 (by decide)) (fun _ => ?_)
    refine z_iconst (v := 2) dM_goes_13 (by decide) ?_
    refine z_goto (tgt := 18) dM_goes_14 (by decide) ?_
    refine z_put (C := RM) (T := TM) (N := 7) (ref := "ToneMixerModel") (ty := .int) 0 tyM dM_goes_18 rfl rfl (by decide) (fun w h => bwT (hbM w h)) (bwT b_386) rfl tyM_ok nmM rfl (by decide +kernel) (fun _ => ⟨rfl, rfl⟩) (Nat.le_of_ble_eq_true rfl) ?_
    try simp only [List.set_cons_succ, List.set_cons_zero]
    refine z_aload_n dM_goes_21 rfl ?_
    refine z_get (C := RM) (T := TM) (N := 7) (ref := "ToneMixerModel") 0 dM_goes_22 rfl rfl rfl (by decide) (fun w h => bwT (hbM w h)) (bwT b_386) rfl ?_
    refine z_if_ne (tgt := 32) dM_goes_25 (by decide) (fun _ => ?_) (fun hc9 => absurd hc9 (by decide))
    refine z_iconst (v := 0) dM_goes_32 (by decide) ?_
    exact z_ireturn dM_goes_33 rfl hret ⟨Nat.le_of_eq hC, Nat.le_of_eq hS⟩ rfl ⟨rfl, rfl⟩
  · skip
    refine z_aload_n dM_goes_0 rfl ?_
    refine z_iload_n dM_goes_1 rfl ?_
    refine z_if_ne (tgt := 9) dM_goes_2 (by decide) (fun _ => ?_) (fun hc9 => absurd hc9 (by decide))
    refine z_iload_n dM_goes_9 rfl ?_
    refine z_if_ne (tgt := 17) dM_goes_10 (by decide) (fun _ => ?_) (fun hc9 => absurd hc9 (by decide))
    refine z_iconst (v := 0) dM_goes_17 (by decide) ?_
    refine z_put (C := RM) (T := TM) (N := 7) (ref := "ToneMixerModel") (ty := .int) 0 tyM dM_goes_18 rfl rfl (by decide) (fun w h => bwT (hbM w h)) (bwT b_386) rfl tyM_ok nmM rfl (by decide +kernel) (fun _ => ⟨rfl, rfl⟩) (Nat.le_of_ble_eq_true rfl) ?_
    try simp only [List.set_cons_succ, List.set_cons_zero]
    refine z_aload_n dM_goes_21 rfl ?_
    refine z_get (C := RM) (T := TM) (N := 7) (ref := "ToneMixerModel") 0 dM_goes_22 rfl rfl rfl (by decide) (fun w h => bwT (hbM w h)) (bwT b_386) rfl ?_
    refine z_if_ne (tgt := 32) dM_goes_25 (by decide) (fun hc9 => absurd hc9 (by decide)) (fun _ => ?_)
    refine z_iconst (v := 1) dM_goes_28 (by decide) ?_
    refine z_goto (tgt := 33) dM_goes_29 (by decide) ?_
    exact z_ireturn dM_goes_33 rfl hret ⟨Nat.le_of_eq hC, Nat.le_of_eq hS⟩ rfl ⟨rfl, rfl⟩
theorem inP (p : Int32) : (inB p 0 3 = false ∧ noP p) ∨ (inB p 0 3 = true ∧ ∃ k : Nat, k < 4 ∧ p = nI k) := by
  by_cases h1 : p < 0
  · exact Or.inl ⟨by simp [inB, h1], Or.inl h1⟩
  · by_cases h2 : 3 < p
    · refine Or.inl ⟨by simp [inB, h2], Or.inr ?_⟩
      rw [Int32.le_iff_toInt_le]
      rw [Int32.lt_iff_toInt_lt] at h2
      rw [show (3 : Int32).toInt = 3 by decide] at h2
      rw [show (4 : Int32).toInt = 4 by decide]
      omega
    · obtain ⟨k, hk, rfl⟩ := nI_of2 (M := 3) (n := 3) (by decide) h1 (Int32.not_lt.mp h2)
      exact Or.inr ⟨by simp [inB, h1, h2], k, by omega, rfl⟩
theorem inB_has {w : Nat} (h1 : 1 ≤ w) (h2 : w ≤ 32) (x : Int32) : inB x 0 (nI w - 1) = decide (¬ x < 0 ∧ ¬ nI w ≤ x) := by
  rw [z_m1 h1]
  unfold inB
  have e : (nI (w - 1) < x) ↔ (nI w ≤ x) := by
    rw [Int32.lt_iff_toInt_lt, Int32.le_iff_toInt_le, nI_toInt (by omega), nI_toInt (by omega)]
    omega
  simp only [e]
/-- is (x, y) a sample of plane p -/
def isS (w h : Nat → Nat) (p x y : Int32) (b : Bool) : Prop := (noP p ∧ b = false) ∨ ∃ k : Nat, k < 4 ∧ p = nI k ∧ b = hasB (nI (w k)) (nI (h k)) x y
set_option maxRecDepth 100000 in
set_option maxHeartbeats 4000000 in
theorem m_isSample (l : Launch) (D : va_G) (ca : Nat → ClassId) (ad : Nat → Nat) (th : Int32) (w h : Nat → Nat) (S O : Nat → Int32) (ow oh : Int32) (hwh : okW w h) (p x y : Int32) : zMet l yM_isSample wM_isSample (rmk 2 0 0) zE0 (gG D ca ad) (mwn ca th w h S O ow oh) [.ref 0, .int p, .int x, .int y] (fun r aw => aw = mwn ca th w h S O ow oh ∧ ∃ b : Bool, r = some (.int (bI b)) ∧ isS w h p x y b) := by
  refine zMet.of (cc := cM_isSample) (maxL := 4) (ret := (some .boolean)) (lv := [some (.ref 0), some (.int p), some (.int x), some (.int y)]) (by decide) rfl (Nat.le_of_ble_eq_true rfl) rfl (fun M hl0 hR hC hS hE hret => ?_)
  have k43 : isS w h p x y false → Zj M (gG D ca ad) cM_isSample 4 RM wM_isSample (some .boolean) (mwn ca th w h S O ow oh) [some (.ref 0), some (.int p), some (.int x), some (.int y)] [] 43 := fun hb => by
    refine z_iconst (v := 0) dM_isSample_43 (by decide) ?_
    exact z_ireturn dM_isSample_44 rfl hret ⟨Nat.le_of_eq hC, Nat.le_of_eq hS⟩ rfl ⟨rfl, false, rfl, hb⟩
  refine z_iload_n dM_isSample_0 rfl ?_
  refine z_pure (z_S hE zEok_0 (m_isPlane _ _ _) dM_isSample_1 (gd_S b_416 b_417 b_3 b_418) rfl qM_isPlane.2 ⟨rfl, rfl⟩ (by rw [hR]; decide) (by rw [hR, hC, hS]; decide) rfl (Nat.le_of_ble_eq_true rfl)) (fun r hr => ?_)
  subst hr
  simp only [zpush, zv]
  rcases inP p with ⟨e1, h1⟩ | ⟨e1, k, hk, rfl⟩
  · rw [e1]
    exact z_if_eq (tgt := 43) dM_isSample_4 (by decide) (fun _ => k43 (Or.inl ⟨h1, rfl⟩)) (fun hc => absurd rfl hc)
  rw [e1]
  obtain ⟨b1, b2, b3, b4⟩ := hwh k hk
  refine z_if_eq (tgt := 43) dM_isSample_4 (by decide) (fun hc => absurd hc (by decide)) (fun _ => ?_)
  refine z_iload_n dM_isSample_7 rfl ?_
  refine z_iconst (v := 0) dM_isSample_8 (by decide) ?_
  refine z_aload_n dM_isSample_9 rfl ?_
  refine z_get (C := RM) (T := TM) (N := 7) (ref := "ToneMixerModel") 1 dM_isSample_10 rfl rfl rfl (by decide) (fun w h => bwT (hbM w h)) (bwT b_387) rfl ?_
  refine z_iload_n dM_isSample_13 rfl ?_
  refine z_ialdN (t0 := 0) (k := k) dM_isSample_14 rfl rfl (rfl) (hk) (by decide) ?_
  refine z_iconst (v := 1) dM_isSample_15 (by decide) ?_
  refine z_isub dM_isSample_16 ?_
  refine z_pure (z_S hE zEok_0 (m_in _ _ _ _ _) dM_isSample_17 (gd_S b_419 b_420 b_3 b_421) rfl qM_in.2 ⟨rfl, rfl⟩ (by rw [hR]; decide) (by rw [hR, hC, hS]; decide) rfl (Nat.le_of_ble_eq_true rfl)) (fun r hr => ?_)
  subst hr
  simp only [zpush, zv]
  rw [inB_has b1 b2]
  by_cases hx : ¬ x < 0 ∧ ¬ nI (w k) ≤ x
  rotate_left
  · rw [decide_eq_false hx]
    exact z_if_eq (tgt := 43) dM_isSample_20 (by decide) (fun _ => k43 (Or.inr ⟨k, hk, rfl, (by rw [hasB]; exact (decide_eq_false (fun q => hx ⟨q.1, q.2.1⟩)).symm)⟩)) (fun hc => absurd rfl hc)
  rw [decide_eq_true hx]
  refine z_if_eq (tgt := 43) dM_isSample_20 (by decide) (fun hc => absurd hc (by decide)) (fun _ => ?_)
  refine z_iload_n dM_isSample_23 rfl ?_
  refine z_iconst (v := 0) dM_isSample_24 (by decide) ?_
  refine z_aload_n dM_isSample_25 rfl ?_
  refine z_get (C := RM) (T := TM) (N := 7) (ref := "ToneMixerModel") 2 dM_isSample_26 rfl rfl rfl (by decide) (fun w h => bwT (hbM w h)) (bwT b_388) rfl ?_
  refine z_iload_n dM_isSample_29 rfl ?_
  refine z_ialdN (t0 := 0) (k := k) dM_isSample_30 rfl rfl (rfl) (hk) (by decide) ?_
  refine z_iconst (v := 1) dM_isSample_31 (by decide) ?_
  refine z_isub dM_isSample_32 ?_
  refine z_pure (z_S hE zEok_0 (m_in _ _ _ _ _) dM_isSample_33 (gd_S b_419 b_420 b_3 b_421) rfl qM_in.2 ⟨rfl, rfl⟩ (by rw [hR]; decide) (by rw [hR, hC, hS]; decide) rfl (Nat.le_of_ble_eq_true rfl)) (fun r hr => ?_)
  subst hr
  simp only [zpush, zv]
  rw [inB_has b3 b4]
  by_cases hy : ¬ y < 0 ∧ ¬ nI (h k) ≤ y
  rotate_left
  · rw [decide_eq_false hy]
    exact z_if_eq (tgt := 43) dM_isSample_36 (by decide) (fun _ => k43 (Or.inr ⟨k, hk, rfl, (by rw [hasB]; exact (decide_eq_false (fun q => hy ⟨q.2.2.1, q.2.2.2⟩)).symm)⟩)) (fun hc => absurd rfl hc)
  rw [decide_eq_true hy]
  refine z_if_eq (tgt := 43) dM_isSample_36 (by decide) (fun hc => absurd hc (by decide)) (fun _ => ?_)
  refine z_iconst (v := 1) dM_isSample_39 (by decide) ?_
  refine z_goto (tgt := 44) dM_isSample_40 (by decide) ?_
  exact z_ireturn dM_isSample_44 rfl hret ⟨Nat.le_of_eq hC, Nat.le_of_eq hS⟩ rfl ⟨rfl, true, rfl, Or.inr ⟨k, hk, rfl, (by rw [hasB]; exact (decide_eq_true ⟨hx.1, hx.2, hy.1, hy.2⟩).symm)⟩⟩
def mkp (S O : Nat → Int32) (k : Nat) : Nat → (Nat → Int32)
  | 0 => O
  | i + 1 => upd (mkp S O k i) i (S (1024 * k + i))
theorem z_cell (k x y : Nat) : (1024 : Int32) * nI k + 32 * nI y + nI x = nI (1024 * k + 32 * y + x) := by
  rw [za, za, zm, zm]; rfl
theorem z_1k (k i : Nat) : (1024 : Int32) * nI k + nI i = nI (1024 * k + i) := by
  rw [za, zm]; rfl
section
variable {M : zM} {D : va_G} {ca : Nat → ClassId} {ad : Nat → Nat} {th : Int32} {w h : Nat → Nat} {S O : Nat → Int32} {ow oh : Int32} {k : Nat}
set_option maxRecDepth 100000 in
set_option maxHeartbeats 4000000 in
theorem n_keep (hk : k < 4) (kx : Zj M (gG D ca ad) cM_keep 3 RM wM_keep none (mwn ca th w h S (mkp S O k 1024) ow oh) [some (.ref 0), some (.int (nI k)), some (.int (nI 1024))] [] 53) :
    ∀ n i, i + n = 1024 → Zj M (gG D ca ad) cM_keep 3 RM wM_keep none (mwn ca th w h S (mkp S O k i) ow oh) [some (.ref 0), some (.int (nI k)), some (.int (nI i))] [] 22 := by
  intro n
  induction n with
  | zero =>
    intro i hi
    obtain rfl : i = 1024 := by omega
    refine z_iload_n dM_keep_22 rfl ?_
    refine z_sipush (v := 1024) dM_keep_23 (by decide) ?_
    exact z_icmp_ge (tgt := 53) dM_keep_26 (by decide) (fun _ => kx) (fun hc => absurd (by decide) hc)
  | succ n ih =>
    intro i hi
    refine z_iload_n dM_keep_22 rfl ?_
    refine z_sipush (v := 1024) dM_keep_23 (by decide) ?_
    rw [show (1024 : Int32) = nI 1024 from rfl]
    refine z_icmp_ge (tgt := 53) dM_keep_26 (by decide) (fun hc => absurd hc (nI_ge (by omega) (by omega))) (fun _ => ?_)
    refine z_aload_n dM_keep_29 rfl ?_
    refine z_get (C := RM) (T := TM) (N := 7) (ref := "ToneMixerModel") 4 dM_keep_30 rfl rfl rfl (by decide) (fun w h => bwT (hbM w h)) (bwT b_390) rfl ?_
    refine z_iload_n dM_keep_33 rfl ?_
    refine z_aload_n dM_keep_34 rfl ?_
    refine z_get (C := RM) (T := TM) (N := 7) (ref := "ToneMixerModel") 3 dM_keep_35 rfl rfl rfl (by decide) (fun w h => bwT (hbM w h)) (bwT b_389) rfl ?_
    refine z_sipush (v := 1024) dM_keep_38 (by decide) ?_
    refine z_iload_n dM_keep_41 rfl ?_
    refine z_imul dM_keep_42 ?_
    refine z_iload_n dM_keep_43 rfl ?_
    refine z_iadd dM_keep_44 ?_
    refine z_ialdN (t0 := 0) (k := 1024 * k + i) dM_keep_45 rfl rfl (z_1k _ _) (by omega) (by decide) ?_
    refine z_iastN (t0 := 0) (k := i) dM_keep_46 rfl rfl (rfl) (by omega) (by decide) ?_
    try simp only [List.set_cons_succ, List.set_cons_zero]
    refine z_iinc1 dM_keep_47 (by decide) rfl rfl ?_
    try simp only [List.set_cons_succ, List.set_cons_zero]
    refine z_goto (tgt := 22) dM_keep_50 (by decide) ?_
    rw [nI_1]
    exact ih (i + 1) (by omega)
end
set_option maxRecDepth 100000 in
set_option maxHeartbeats 4000000 in
theorem m_keep (l : Launch) (D : va_G) (ca : Nat → ClassId) (ad : Nat → Nat) (th : Int32) (w h : Nat → Nat) (S O : Nat → Int32) (ow oh : Int32) (k : Nat) (hk : k < 4) : zMet l yM_keep wM_keep (rmk 0 0 0) zE0 (gG D ca ad) (mwn ca th w h S O ow oh) [.ref 0, .int (nI k)] (fun r aw => r = none ∧ aw = mwn ca th w h S (mkp S O k 1024) (nI (w k)) (nI (h k))) := by
  refine zMet.of (cc := cM_keep) (maxL := 3) (ret := none) (lv := [some (.ref 0), some (.int (nI k)), none]) (by decide) rfl (Nat.le_of_ble_eq_true rfl) rfl (fun M hl0 hR hC hS hE hret => ?_)
  refine z_aload_n dM_keep_0 rfl ?_
  refine z_aload_n dM_keep_1 rfl ?_
  refine z_get (C := RM) (T := TM) (N := 7) (ref := "ToneMixerModel") 1 dM_keep_2 rfl rfl rfl (by decide) (fun w h => bwT (hbM w h)) (bwT b_387) rfl ?_
  refine z_iload_n dM_keep_5 rfl ?_
  refine z_ialdN (t0 := 0) (k := k) dM_keep_6 rfl rfl (rfl) (hk) (by decide) ?_
  refine z_put (C := RM) (T := TM) (N := 7) (ref := "ToneMixerModel") (ty := .int) 5 tyM dM_keep_7 rfl rfl (by decide) (fun w h => bwT (hbM w h)) (bwT b_391) rfl tyM_ok nmM rfl (by decide +kernel) (fun _ => ⟨rfl, rfl⟩) (Nat.le_of_ble_eq_true rfl) ?_
  try simp only [List.set_cons_succ, List.set_cons_zero]
  refine z_aload_n dM_keep_10 rfl ?_
  refine z_aload_n dM_keep_11 rfl ?_
  refine z_get (C := RM) (T := TM) (N := 7) (ref := "ToneMixerModel") 2 dM_keep_12 rfl rfl rfl (by decide) (fun w h => bwT (hbM w h)) (bwT b_388) rfl ?_
  refine z_iload_n dM_keep_15 rfl ?_
  refine z_ialdN (t0 := 0) (k := k) dM_keep_16 rfl rfl (rfl) (hk) (by decide) ?_
  refine z_put (C := RM) (T := TM) (N := 7) (ref := "ToneMixerModel") (ty := .int) 6 tyM dM_keep_17 rfl rfl (by decide) (fun w h => bwT (hbM w h)) (bwT b_392) rfl tyM_ok nmM rfl (by decide +kernel) (fun _ => ⟨rfl, rfl⟩) (Nat.le_of_ble_eq_true rfl) ?_
  try simp only [List.set_cons_succ, List.set_cons_zero]
  refine z_iconst (v := 0) dM_keep_20 (by decide) ?_
  refine z_istore_n dM_keep_21 (by decide) rfl ?_
  try simp only [List.set_cons_succ, List.set_cons_zero]
  refine n_keep hk ?_ 1024 0 (by omega)
  exact z_return dM_keep_53 hret ⟨Nat.le_of_eq hC, Nat.le_of_eq hS⟩ rfl ⟨rfl, rfl⟩
/-- a place within 0 .. n - 1 -/
def clI (x : Int32) (n : Nat) : Nat := if x < 0 then 0 else if x < nI n then x.toNatClampNeg else n - 1
theorem clI_lt {x : Int32} {n : Nat} (h1 : 1 ≤ n) (h2 : n ≤ 32) : clI x n < n := by
  unfold clI
  by_cases c1 : x < 0
  · rw [if_pos c1]; omega
  · rw [if_neg c1]
    by_cases c2 : x < nI n
    · rw [if_pos c2]
      obtain ⟨a, ha, rfl⟩ := nI_of c1
      rw [nI_clamp ha]
      exact (nI_ltI ha (by omega)).mp c2
    · rw [if_neg c2]; omega
theorem clI_nI {a n : Nat} (ha : a < 2 ^ 31) (h2 : n ≤ 32) : clI (nI a) n = if a < n then a else n - 1 := by
  unfold clI
  rw [if_neg (nI_pos ha)]
  by_cases c : a < n
  · rw [if_pos (nI_lt c (by omega)), if_pos c, nI_clamp ha]
  · rw [if_neg (nI_nlt (by omega) ha), if_neg c]
theorem clI_m1 {a n : Nat} (ha : a ≤ n) (h1 : 1 ≤ n) (h2 : n ≤ 32) : clI (nI a - 1) n = a - 1 := by
  rcases Nat.eq_zero_or_pos a with rfl | q
  · unfold clI; rw [if_pos (by decide)]
  · rw [z_m1 q, clI_nI (by omega) h2, if_pos (by omega)]
set_option maxRecDepth 100000 in
set_option maxHeartbeats 4000000 in
theorem m_was (l : Launch) (D : va_G) (ca : Nat → ClassId) (ad : Nat → Nat) (th : Int32) (w h : Nat → Nat) (S O : Nat → Int32) (a b : Nat) (a1 : 1 ≤ a) (a2 : a ≤ 32) (b1 : 1 ≤ b) (b2 : b ≤ 32) (x y : Int32) : zMet l yM_was wM_was (rmk 0 0 0) zE0 (gG D ca ad) (mwn ca th w h S O (nI a) (nI b)) [.ref 0, .int x, .int y] (fun r aw => r = some (.int (O (32 * clI y b + clI x a))) ∧ aw = mwn ca th w h S O (nI a) (nI b)) := by
  refine zMet.of (cc := cM_was) (maxL := 5) (ret := (some .int)) (lv := [some (.ref 0), some (.int x), some (.int y), none, none]) (by decide) rfl (Nat.le_of_ble_eq_true rfl) rfl (fun M hl0 hR hC hS hE hret => ?_)
  have la := clI_lt (x := x) a1 a2
  have lb := clI_lt (x := y) b1 b2
  have k26 : Zj M (gG D ca ad) cM_was 5 RM wM_was (some .int) (mwn ca th w h S O (nI a) (nI b)) [some (.ref 0), some (.int x), some (.int y), none, none] [.int (nI (clI x a))] 26 := by
    refine z_istore_n dM_was_26 (by decide) rfl ?_
    try simp only [List.set_cons_succ, List.set_cons_zero]
    have k53 : Zj M (gG D ca ad) cM_was 5 RM wM_was (some .int) (mwn ca th w h S O (nI a) (nI b)) [some (.ref 0), some (.int x), some (.int y), some (.int (nI (clI x a))), none] [.int (nI (clI y b))] 53 := by
      refine z_istore dM_was_53 (by decide) rfl ?_
      try simp only [List.set_cons_succ, List.set_cons_zero]
      refine z_aload_n dM_was_55 rfl ?_
      refine z_get (C := RM) (T := TM) (N := 7) (ref := "ToneMixerModel") 4 dM_was_56 rfl rfl rfl (by decide) (fun w h => bwT (hbM w h)) (bwT b_390) rfl ?_
      refine z_bipush (v := 32) dM_was_59 (by decide) ?_
      refine z_iload dM_was_61 rfl ?_
      refine z_imul dM_was_63 ?_
      refine z_iload_n dM_was_64 rfl ?_
      refine z_iadd dM_was_65 ?_
      refine z_ialdN (t0 := 0) (k := 32 * clI y b + clI x a) dM_was_66 rfl rfl (by rw [za, zm]; rfl) (by omega) (by decide) ?_
      exact z_ireturn dM_was_67 rfl hret ⟨Nat.le_of_eq hC, Nat.le_of_eq hS⟩ rfl ⟨rfl, rfl⟩
    refine z_iload_n dM_was_27 rfl ?_
    refine z_if_ge (tgt := 35) dM_was_28 (by decide) (fun c1 => ?_) (fun c1 => ?_)
    · have c1' : ¬ y < 0 := Int32.not_lt.mpr c1
      refine z_iload_n dM_was_35 rfl ?_
      refine z_aload_n dM_was_36 rfl ?_
      refine z_get (C := RM) (T := TM) (N := 7) (ref := "ToneMixerModel") 6 dM_was_37 rfl rfl rfl (by decide) (fun w h => bwT (hbM w h)) (bwT b_392) rfl ?_
      refine z_icmp_lt (tgt := 52) dM_was_40 (by decide) (fun c2 => ?_) (fun c2 => ?_)
      · skip
        refine z_iload_n dM_was_52 rfl ?_
        rw [show nI (clI y b) = y by rw [clI, if_neg c1', if_pos c2]; obtain ⟨q, hq, rfl⟩ := nI_of c1'; rw [nI_clamp hq]] at k53
        exact k53
      · skip
        refine z_aload_n dM_was_43 rfl ?_
        refine z_get (C := RM) (T := TM) (N := 7) (ref := "ToneMixerModel") 6 dM_was_44 rfl rfl rfl (by decide) (fun w h => bwT (hbM w h)) (bwT b_392) rfl ?_
        refine z_iconst (v := 1) dM_was_47 (by decide) ?_
        refine z_isub dM_was_48 ?_
        refine z_goto (tgt := 53) dM_was_49 (by decide) ?_
        rw [z_m1 b1]
        rw [show clI y b = b - 1 by rw [clI, if_neg c1', if_neg c2]] at k53
        exact k53
    · skip
      refine z_iconst (v := 0) dM_was_31 (by decide) ?_
      refine z_goto (tgt := 53) dM_was_32 (by decide) ?_
      rw [show clI y b = 0 by rw [clI, if_pos (Int32.not_le.mp c1)]] at k53
      exact k53
  refine z_iload_n dM_was_0 rfl ?_
  refine z_if_ge (tgt := 8) dM_was_1 (by decide) (fun c1 => ?_) (fun c1 => ?_)
  · have c1' : ¬ x < 0 := Int32.not_lt.mpr c1
    refine z_iload_n dM_was_8 rfl ?_
    refine z_aload_n dM_was_9 rfl ?_
    refine z_get (C := RM) (T := TM) (N := 7) (ref := "ToneMixerModel") 5 dM_was_10 rfl rfl rfl (by decide) (fun w h => bwT (hbM w h)) (bwT b_391) rfl ?_
    refine z_icmp_lt (tgt := 25) dM_was_13 (by decide) (fun c2 => ?_) (fun c2 => ?_)
    · skip
      refine z_iload_n dM_was_25 rfl ?_
      rw [show nI (clI x a) = x by rw [clI, if_neg c1', if_pos c2]; obtain ⟨q, hq, rfl⟩ := nI_of c1'; rw [nI_clamp hq]] at k26
      exact k26
    · skip
      refine z_aload_n dM_was_16 rfl ?_
      refine z_get (C := RM) (T := TM) (N := 7) (ref := "ToneMixerModel") 5 dM_was_17 rfl rfl rfl (by decide) (fun w h => bwT (hbM w h)) (bwT b_391) rfl ?_
      refine z_iconst (v := 1) dM_was_20 (by decide) ?_
      refine z_isub dM_was_21 ?_
      refine z_goto (tgt := 26) dM_was_22 (by decide) ?_
      rw [z_m1 a1]
      rw [show clI x a = a - 1 by rw [clI, if_neg c1', if_neg c2]] at k26
      exact k26
  · skip
    refine z_iconst (v := 0) dM_was_4 (by decide) ?_
    refine z_goto (tgt := 26) dM_was_5 (by decide) ?_
    rw [show clI x a = 0 by rw [clI, if_pos (Int32.not_le.mp c1)]] at k26
    exact k26
end
section
/-- after a call that isn't done nothing but 'thrown' is other -/
def mfil (S : Nat → Int32) (k : Nat) : Nat → (Nat → Int32)
  | 0 => S
  | i + 1 => upd (mfil S k i) (1024 * k + i) 0
theorem inS (p q : Int32) : (inB p 1 32 && inB q 1 32) = true ∧ ¬ badS p q ∨ (inB p 1 32 && inB q 1 32) = false ∧ badS p q := by
  by_cases h : badS p q
  · right
    refine ⟨?_, h⟩
    rcases h with h | h | h | h <;> simp [inB, h]
  · left
    refine ⟨?_, h⟩
    have h1 : ¬ p < 1 := fun q => h (Or.inl q)
    have h2 : ¬ 32 < p := fun q => h (Or.inr (Or.inl q))
    have h3 : ¬ q < 1 := fun q => h (Or.inr (Or.inr (Or.inl q)))
    have h4 : ¬ 32 < q := fun q => h (Or.inr (Or.inr (Or.inr q)))
    simp [inB, h1, h2, h3, h4]
section
variable {M : zM} {D : va_G} {ca : Nat → ClassId} {ad : Nat → Nat} {th : Int32} {w h : Nat → Nat} {S O : Nat → Int32} {ow oh : Int32} {k : Nat} {p q : Int32}
set_option maxRecDepth 100000 in
set_option maxHeartbeats 4000000 in
theorem n_size (hk : k < 4) (kx : Zj M (gG D ca ad) cM_size 5 RM wM_size none (mwn ca th w h (mfil S k 1024) O ow oh) [some (.ref 0), some (.int (nI k)), some (.int p), some (.int q), some (.int (nI 1024))] [] 82) :
    ∀ n i, i + n = 1024 → Zj M (gG D ca ad) cM_size 5 RM wM_size none (mwn ca th w h (mfil S k i) O ow oh) [some (.ref 0), some (.int (nI k)), some (.int p), some (.int q), some (.int (nI i))] [] 54 := by
  intro n
  induction n with
  | zero =>
    intro i hi
    obtain rfl : i = 1024 := by omega
    refine z_iload dM_size_54 rfl ?_
    refine z_sipush (v := 1024) dM_size_56 (by decide) ?_
    exact z_icmp_ge (tgt := 82) dM_size_59 (by decide) (fun _ => kx) (fun hc => absurd (by decide) hc)
  | succ n ih =>
    intro i hi
    refine z_iload dM_size_54 rfl ?_
    refine z_sipush (v := 1024) dM_size_56 (by decide) ?_
    rw [show (1024 : Int32) = nI 1024 from rfl]
    refine z_icmp_ge (tgt := 82) dM_size_59 (by decide) (fun hc => absurd hc (nI_ge (by omega) (by omega))) (fun _ => ?_)
    refine z_aload_n dM_size_62 rfl ?_
    refine z_get (C := RM) (T := TM) (N := 7) (ref := "ToneMixerModel") 3 dM_size_63 rfl rfl rfl (by decide) (fun w h => bwT (hbM w h)) (bwT b_389) rfl ?_
    refine z_sipush (v := 1024) dM_size_66 (by decide) ?_
    refine z_iload_n dM_size_69 rfl ?_
    refine z_imul dM_size_70 ?_
    refine z_iload dM_size_71 rfl ?_
    refine z_iadd dM_size_73 ?_
    refine z_iconst (v := 0) dM_size_74 (by decide) ?_
    refine z_iastN (t0 := 0) (k := 1024 * k + i) dM_size_75 rfl rfl (z_1k _ _) (by omega) (by decide) ?_
    try simp only [List.set_cons_succ, List.set_cons_zero]
    refine z_iinc1 dM_size_76 (by decide) rfl rfl ?_
    try simp only [List.set_cons_succ, List.set_cons_zero]
    refine z_goto (tgt := 54) dM_size_79 (by decide) ?_
    rw [nI_1]
    exact ih (i + 1) (by omega)
end
set_option maxRecDepth 100000 in
set_option maxHeartbeats 4000000 in
theorem m_size (l : Launch) (D : va_G) (ca : Nat → ClassId) (ad : Nat → Nat) (th : Int32) (w h : Nat → Nat) (S O : Nat → Int32) (ow oh : Int32) (n p q : Int32) : zMet l yM_size wM_size (rmk 3 0 0) zE0 (gG D ca ad) (mwn ca th w h S O ow oh) [.ref 0, .int n, .int p, .int q] (fun r aw => r = none ∧ ((noP n ∧ aw = (mwn ca 1 w h S O ow oh)) ∨ (¬ noP n ∧ badS p q ∧ aw = (mwn ca 2 w h S O ow oh)) ∨ ∃ k w2 h2 : Nat, k < 4 ∧ n = nI k ∧ p = nI w2 ∧ q = nI h2 ∧ 1 ≤ w2 ∧ w2 ≤ 32 ∧ 1 ≤ h2 ∧ h2 ≤ 32 ∧ aw = (mwn ca 0 (va_up w k w2) (va_up h k h2) (mfil S k 1024) O ow oh))) := by
  refine zMet.of (cc := cM_size) (maxL := 5) (ret := none) (lv := [some (.ref 0), some (.int n), some (.int p), some (.int q), none]) (by decide) rfl (Nat.le_of_ble_eq_true rfl) rfl (fun M hl0 hR hC hS hE hret => ?_)
  have k30 : Zj M (gG D ca ad) cM_size 5 RM wM_size none (mwn ca th w h S O ow oh) [some (.ref 0), some (.int n), some (.int p), some (.int q), none] [.int (bI (inB p 1 32 && inB q 1 32)), .int (bI (inB n 0 3)), .ref 0] 30 := by
    refine z_same (z_V (C := RM) (b := 0) hE zEok_0 (m_goes _ D ca ad th w h S O ow oh (inB n 0 3) (inB p 1 32 && inB q 1 32)) dM_size_30 (gd_V b_422 b_424 bs_14 b_3 b_425) rfl qM_goes ⟨rfl, rfl⟩ (by rw [hR]; decide) (by rw [hR, hC, hS]; decide) rfl (Nat.le_of_ble_eq_true rfl) rfl rfl) (fun r aw1 hlen hr => ?_)
    obtain ⟨rfl, rfl⟩ := hr
    simp only [zpush, zv]
    rcases inP n with ⟨e1, h1⟩ | ⟨e1, k, hk, rfl⟩
    · rw [e1]
      refine z_if_ne (tgt := 37) dM_size_33 (by decide) (fun hc9 => absurd hc9 (fun q => q rfl)) (fun _ => ?_)
      exact z_return dM_size_36 hret ⟨Nat.le_of_eq hC, Nat.le_of_eq hS⟩ rfl ⟨rfl, Or.inl ⟨h1, rfl⟩⟩
    · rw [e1]
      rcases inS p q with ⟨e2, h2⟩ | ⟨e2, h2⟩
      · rw [e2]
        obtain ⟨w2, rfl, b1, b2⟩ := in32 (fun q => h2 (Or.inl q)) (fun q => h2 (Or.inr (Or.inl q)))
        obtain ⟨h2', rfl, b3, b4⟩ := in32 (fun q => h2 (Or.inr (Or.inr (Or.inl q)))) (fun q => h2 (Or.inr (Or.inr (Or.inr q))))
        refine z_if_ne (tgt := 37) dM_size_33 (by decide) (fun _ => ?_) (fun hc9 => absurd hc9 (by decide))
        refine z_aload_n dM_size_37 rfl ?_
        refine z_get (C := RM) (T := TM) (N := 7) (ref := "ToneMixerModel") 1 dM_size_38 rfl rfl rfl (by decide) (fun w h => bwT (hbM w h)) (bwT b_387) rfl ?_
        refine z_iload_n dM_size_41 rfl ?_
        refine z_iload_n dM_size_42 rfl ?_
        refine z_iastN (t0 := 0) (k := k) dM_size_43 rfl rfl (rfl) (hk) (by decide) ?_
        try simp only [List.set_cons_succ, List.set_cons_zero]
        refine z_aload_n dM_size_44 rfl ?_
        refine z_get (C := RM) (T := TM) (N := 7) (ref := "ToneMixerModel") 2 dM_size_45 rfl rfl rfl (by decide) (fun w h => bwT (hbM w h)) (bwT b_388) rfl ?_
        refine z_iload_n dM_size_48 rfl ?_
        refine z_iload_n dM_size_49 rfl ?_
        refine z_iastN (t0 := 0) (k := k) dM_size_50 rfl rfl (rfl) (hk) (by decide) ?_
        try simp only [List.set_cons_succ, List.set_cons_zero]
        refine z_iconst (v := 0) dM_size_51 (by decide) ?_
        refine z_istore dM_size_52 (by decide) rfl ?_
        try simp only [List.set_cons_succ, List.set_cons_zero]
        rw [updn, updn]
        refine n_size hk ?_ 1024 0 (by omega)
        exact z_return dM_size_82 hret ⟨Nat.le_of_eq hC, Nat.le_of_eq hS⟩ rfl ⟨rfl, Or.inr (Or.inr ⟨k, w2, h2', hk, rfl, rfl, rfl, b1, b2, b3, b4, rfl⟩)⟩
      · rw [e2]
        refine z_if_ne (tgt := 37) dM_size_33 (by decide) (fun hc9 => absurd hc9 (by decide)) (fun _ => ?_)
        exact z_return dM_size_36 hret ⟨Nat.le_of_eq hC, Nat.le_of_eq hS⟩ rfl ⟨rfl, Or.inr (Or.inl ⟨noP_k hk, h2, rfl⟩)⟩
  refine z_aload_n dM_size_0 rfl ?_
  refine z_iload_n dM_size_1 rfl ?_
  refine z_pure (z_S hE zEok_0 (m_isPlane _ _ _) dM_size_2 (gd_S b_416 b_417 b_3 b_418) rfl qM_isPlane.2 ⟨rfl, rfl⟩ (by rw [hR]; decide) (by rw [hR, hC, hS]; decide) rfl (Nat.le_of_ble_eq_true rfl)) (fun r hr => ?_)
  subst hr
  simp only [zpush, zv]
  refine z_iload_n dM_size_5 rfl ?_
  refine z_iconst (v := 1) dM_size_6 (by decide) ?_
  refine z_bipush (v := 32) dM_size_7 (by decide) ?_
  refine z_pure (z_S hE zEok_0 (m_in _ _ _ _ _) dM_size_9 (gd_S b_419 b_420 b_3 b_421) rfl qM_in.2 ⟨rfl, rfl⟩ (by rw [hR]; decide) (by rw [hR, hC, hS]; decide) rfl (Nat.le_of_ble_eq_true rfl)) (fun r hr => ?_)
  subst hr
  simp only [zpush, zv]
  cases e1 : inB p 1 32 with
  | false =>
    refine z_if_eq (tgt := 29) dM_size_12 (by decide) (fun _ => ?_) (fun hc9 => absurd hc9 (by decide))
    refine z_iconst (v := 0) dM_size_29 (by decide) ?_
    rw [e1] at k30
    exact k30
  | true =>
    refine z_if_eq (tgt := 29) dM_size_12 (by decide) (fun hc9 => absurd hc9 (by decide)) (fun _ => ?_)
    refine z_iload_n dM_size_15 rfl ?_
    refine z_iconst (v := 1) dM_size_16 (by decide) ?_
    refine z_bipush (v := 32) dM_size_17 (by decide) ?_
    refine z_pure (z_S hE zEok_0 (m_in _ _ _ _ _) dM_size_19 (gd_S b_419 b_420 b_3 b_421) rfl qM_in.2 ⟨rfl, rfl⟩ (by rw [hR]; decide) (by rw [hR, hC, hS]; decide) rfl (Nat.le_of_ble_eq_true rfl)) (fun r hr => ?_)
    subst hr
    simp only [zpush, zv]
    rw [e1] at k30
    cases e2 : inB q 1 32 with
    | false =>
      refine z_if_eq (tgt := 29) dM_size_22 (by decide) (fun _ => ?_) (fun hc9 => absurd hc9 (by decide))
      refine z_iconst (v := 0) dM_size_29 (by decide) ?_
      rw [e2] at k30
      exact k30
    | true =>
      refine z_if_eq (tgt := 29) dM_size_22 (by decide) (fun hc9 => absurd hc9 (by decide)) (fun _ => ?_)
      refine z_iconst (v := 1) dM_size_25 (by decide) ?_
      refine z_goto (tgt := 30) dM_size_26 (by decide) ?_
      rw [e2] at k30
      exact k30
theorem in255 (v : Int32) : (inB v 0 255 = true ∧ ∃ c : Nat, c ≤ 255 ∧ v = nI c) ∨ (inB v 0 255 = false ∧ (v < 0 ∨ 255 < v)) := by
  by_cases h1 : v < 0
  · exact Or.inr ⟨by simp [inB, h1], Or.inl h1⟩
  · by_cases h2 : 255 < v
    · exact Or.inr ⟨by simp [inB, h2], Or.inr h2⟩
    · obtain ⟨c, hc, rfl⟩ := nI_of2 (M := 255) (n := 255) (by decide) h1 (Int32.not_lt.mp h2)
      exact Or.inl ⟨by simp [inB, h1, h2], c, hc, rfl⟩
/-- no such sample, or the plane and the place -/
theorem isS_of {w h : Nat → Nat} (hwh : okW w h) {p x y : Int32} {b : Bool} (hs : isS w h p x y b) : (b = false ∧ (noP p ∨ ∃ k : Nat, k < 4 ∧ p = nI k ∧ hasB (nI (w k)) (nI (h k)) x y = false)) ∨ (b = true ∧ ∃ k a c : Nat, k < 4 ∧ p = nI k ∧ a < w k ∧ c < h k ∧ x = nI a ∧ y = nI c) := by
  rcases hs with ⟨h1, rfl⟩ | ⟨k, hk, rfl, rfl⟩
  · exact Or.inl ⟨rfl, Or.inl h1⟩
  · cases e : hasB (nI (w k)) (nI (h k)) x y with
    | false => exact Or.inl ⟨rfl, Or.inr ⟨k, hk, rfl, e⟩⟩
    | true =>
      obtain ⟨a, c, ha, hc, rfl, rfl⟩ := hasB_of (hwh k hk).2.1 (hwh k hk).2.2.2 e
      exact Or.inr ⟨rfl, k, a, c, hk, rfl, ha, hc, rfl, rfl⟩
set_option maxRecDepth 100000 in
set_option maxHeartbeats 4000000 in
theorem m_put (l : Launch) (D : va_G) (ca : Nat → ClassId) (ad : Nat → Nat) (th : Int32) (w h : Nat → Nat) (S O : Nat → Int32) (ow oh : Int32) (hwh : okW w h) (n x y v : Int32) : zMet l yM_put wM_put (rmk 3 0 0) zE0 (gG D ca ad) (mwn ca th w h S O ow oh) [.ref 0, .int n, .int x, .int y, .int v] (fun r aw => r = none ∧ (((noP n ∨ ∃ k : Nat, k < 4 ∧ n = nI k ∧ hasB (nI (w k)) (nI (h k)) x y = false) ∧ aw = (mwn ca 1 w h S O ow oh)) ∨ ∃ k a b : Nat, k < 4 ∧ n = nI k ∧ a < w k ∧ b < h k ∧ x = nI a ∧ y = nI b ∧ (((v < 0 ∨ 255 < v) ∧ aw = (mwn ca 2 w h S O ow oh)) ∨ ∃ c : Nat, c ≤ 255 ∧ v = nI c ∧ aw = (mwn ca 0 w h (upd S (1024 * k + 32 * b + a) v) O ow oh)))) := by
  refine zMet.of (cc := cM_put) (maxL := 5) (ret := none) (lv := [some (.ref 0), some (.int n), some (.int x), some (.int y), some (.int v)]) (by decide) rfl (Nat.le_of_ble_eq_true rfl) rfl (fun M hl0 hR hC hS hE hret => ?_)
  refine z_aload_n dM_put_0 rfl ?_
  refine z_aload_n dM_put_1 rfl ?_
  refine z_iload_n dM_put_2 rfl ?_
  refine z_iload_n dM_put_3 rfl ?_
  refine z_iload_n dM_put_4 rfl ?_
  refine z_same (z_V (C := RM) (b := 0) hE zEok_0 (m_isSample _ D ca ad th w h S O ow oh hwh n x y) dM_put_5 (gd_V b_430 b_432 bs_15 b_3 b_433) rfl qM_isSample ⟨rfl, rfl⟩ (by rw [hR]; decide) (by rw [hR, hC, hS]; decide) rfl (Nat.le_of_ble_eq_true rfl) rfl rfl) (fun r aw1 hlen hr => ?_)
  obtain ⟨rfl, bb, rfl, hbb⟩ := hr
  simp only [zpush, zv]
  refine z_iload dM_put_8 rfl ?_
  refine z_iconst (v := 0) dM_put_10 (by decide) ?_
  refine z_sipush (v := 255) dM_put_11 (by decide) ?_
  refine z_pure (z_S hE zEok_0 (m_in _ _ _ _ _) dM_put_14 (gd_S b_419 b_420 b_3 b_421) rfl qM_in.2 ⟨rfl, rfl⟩ (by rw [hR]; decide) (by rw [hR, hC, hS]; decide) rfl (Nat.le_of_ble_eq_true rfl)) (fun r hr => ?_)
  subst hr
  simp only [zpush, zv]
  refine z_same (z_V (C := RM) (b := 0) hE zEok_0 (m_goes _ D ca ad th w h S O ow oh (bb) (inB v 0 255)) dM_put_17 (gd_V b_422 b_424 bs_14 b_3 b_425) rfl qM_goes ⟨rfl, rfl⟩ (by rw [hR]; decide) (by rw [hR, hC, hS]; decide) rfl (Nat.le_of_ble_eq_true rfl) rfl rfl) (fun r aw1 hlen hr => ?_)
  obtain ⟨rfl, rfl⟩ := hr
  simp only [zpush, zv]
  rcases isS_of hwh hbb with ⟨rfl, hno⟩ | ⟨rfl, k, a, b, hk, rfl, ha, hb, rfl, rfl⟩
  · skip
    refine z_if_eq (tgt := 36) dM_put_20 (by decide) (fun _ => ?_) (fun hc9 => absurd hc9 (fun q => q rfl))
    exact z_return dM_put_36 hret ⟨Nat.le_of_eq hC, Nat.le_of_eq hS⟩ rfl ⟨rfl, Or.inl ⟨hno, rfl⟩⟩
  · obtain ⟨hk1, hk2, hk3, hk4⟩ := hwh k hk
    rcases in255 v with ⟨e, c, hc, rfl⟩ | ⟨e, hv⟩
    · rw [e]
      refine z_if_eq (tgt := 36) dM_put_20 (by decide) (fun hc9 => absurd hc9 (by decide)) (fun _ => ?_)
      refine z_aload_n dM_put_23 rfl ?_
      refine z_get (C := RM) (T := TM) (N := 7) (ref := "ToneMixerModel") 3 dM_put_24 rfl rfl rfl (by decide) (fun w h => bwT (hbM w h)) (bwT b_389) rfl ?_
      refine z_iload_n dM_put_27 rfl ?_
      refine z_iload_n dM_put_28 rfl ?_
      refine z_iload_n dM_put_29 rfl ?_
      refine z_pure (z_S hE zEok_0 (m_cell _ _ _ _ _) dM_put_30 (gd_S b_434 b_435 b_3 b_436) rfl qM_cell.2 ⟨rfl, rfl⟩ (by rw [hR]; decide) (by rw [hR, hC, hS]; decide) rfl (Nat.le_of_ble_eq_true rfl)) (fun r hr => ?_)
      subst hr
      simp only [zpush, zv]
      rw [z_cell]
      refine z_iload dM_put_33 rfl ?_
      refine z_iastN (t0 := 0) (k := 1024 * k + 32 * b + a) dM_put_35 rfl rfl (rfl) (by omega) (by decide) ?_
      try simp only [List.set_cons_succ, List.set_cons_zero]
      exact z_return dM_put_36 hret ⟨Nat.le_of_eq hC, Nat.le_of_eq hS⟩ rfl ⟨rfl, Or.inr ⟨k, a, b, hk, rfl, ha, hb, rfl, rfl, Or.inr ⟨c, hc, rfl, rfl⟩⟩⟩
    · rw [e]
      refine z_if_eq (tgt := 36) dM_put_20 (by decide) (fun _ => ?_) (fun hc9 => absurd hc9 (by decide))
      exact z_return dM_put_36 hret ⟨Nat.le_of_eq hC, Nat.le_of_eq hS⟩ rfl ⟨rfl, Or.inr ⟨k, a, b, hk, rfl, ha, hb, rfl, rfl, Or.inl ⟨hv, rfl⟩⟩⟩
set_option maxRecDepth 100000 in
set_option maxHeartbeats 4000000 in
theorem m_at (l : Launch) (D : va_G) (ca : Nat → ClassId) (ad : Nat → Nat) (th : Int32) (w h : Nat → Nat) (S O : Nat → Int32) (ow oh : Int32) (hwh : okW w h) (n x y : Int32) : zMet l yM_at wM_at (rmk 3 0 0) zE0 (gG D ca ad) (mwn ca th w h S O ow oh) [.ref 0, .int n, .int x, .int y] (fun r aw => (((noP n ∨ ∃ k : Nat, k < 4 ∧ n = nI k ∧ hasB (nI (w k)) (nI (h k)) x y = false) ∧ r = some (.int 0) ∧ aw = (mwn ca 1 w h S O ow oh)) ∨ ∃ k a b : Nat, k < 4 ∧ n = nI k ∧ a < w k ∧ b < h k ∧ x = nI a ∧ y = nI b ∧ r = some (.int (S (1024 * k + 32 * b + a))) ∧ aw = (mwn ca 0 w h S O ow oh))) := by
  refine zMet.of (cc := cM_at) (maxL := 4) (ret := (some .int)) (lv := [some (.ref 0), some (.int n), some (.int x), some (.int y)]) (by decide) rfl (Nat.le_of_ble_eq_true rfl) rfl (fun M hl0 hR hC hS hE hret => ?_)
  refine z_aload_n dM_at_0 rfl ?_
  refine z_aload_n dM_at_1 rfl ?_
  refine z_iload_n dM_at_2 rfl ?_
  refine z_iload_n dM_at_3 rfl ?_
  refine z_iload_n dM_at_4 rfl ?_
  refine z_same (z_V (C := RM) (b := 0) hE zEok_0 (m_isSample _ D ca ad th w h S O ow oh hwh n x y) dM_at_5 (gd_V b_430 b_432 bs_15 b_3 b_433) rfl qM_isSample ⟨rfl, rfl⟩ (by rw [hR]; decide) (by rw [hR, hC, hS]; decide) rfl (Nat.le_of_ble_eq_true rfl) rfl rfl) (fun r aw1 hlen hr => ?_)
  obtain ⟨rfl, bb, rfl, hbb⟩ := hr
  simp only [zpush, zv]
  refine z_iconst (v := 1) dM_at_8 (by decide) ?_
  refine z_same (z_V (C := RM) (b := 0) hE zEok_0 (m_goes _ D ca ad th w h S O ow oh (bb) (true)) dM_at_9 (gd_V b_422 b_424 bs_14 b_3 b_425) rfl qM_goes ⟨rfl, rfl⟩ (by rw [hR]; decide) (by rw [hR, hC, hS]; decide) rfl (Nat.le_of_ble_eq_true rfl) rfl rfl) (fun r aw1 hlen hr => ?_)
  obtain ⟨rfl, rfl⟩ := hr
  simp only [zpush, zv]
  rcases isS_of hwh hbb with ⟨rfl, hno⟩ | ⟨rfl, k, a, b, hk, rfl, ha, hb, rfl, rfl⟩
  · skip
    refine z_if_eq (tgt := 29) dM_at_12 (by decide) (fun _ => ?_) (fun hc9 => absurd hc9 (by decide))
    refine z_iconst (v := 0) dM_at_29 (by decide) ?_
    exact z_ireturn dM_at_30 rfl hret ⟨Nat.le_of_eq hC, Nat.le_of_eq hS⟩ rfl (Or.inl ⟨hno, rfl, rfl⟩)
  · obtain ⟨hk1, hk2, hk3, hk4⟩ := hwh k hk
    refine z_if_eq (tgt := 29) dM_at_12 (by decide) (fun hc9 => absurd hc9 (by decide)) (fun _ => ?_)
    refine z_aload_n dM_at_15 rfl ?_
    refine z_get (C := RM) (T := TM) (N := 7) (ref := "ToneMixerModel") 3 dM_at_16 rfl rfl rfl (by decide) (fun w h => bwT (hbM w h)) (bwT b_389) rfl ?_
    refine z_iload_n dM_at_19 rfl ?_
    refine z_iload_n dM_at_20 rfl ?_
    refine z_iload_n dM_at_21 rfl ?_
    refine z_pure (z_S hE zEok_0 (m_cell _ _ _ _ _) dM_at_22 (gd_S b_434 b_435 b_3 b_436) rfl qM_cell.2 ⟨rfl, rfl⟩ (by rw [hR]; decide) (by rw [hR, hC, hS]; decide) rfl (Nat.le_of_ble_eq_true rfl)) (fun r hr => ?_)
    subst hr
    simp only [zpush, zv]
    rw [z_cell]
    refine z_ialdN (t0 := 0) (k := 1024 * k + 32 * b + a) dM_at_25 rfl rfl (rfl) (by omega) (by decide) ?_
    refine z_goto (tgt := 30) dM_at_26 (by decide) ?_
    exact z_ireturn dM_at_30 rfl hret ⟨Nat.le_of_eq hC, Nat.le_of_eq hS⟩ rfl (Or.inr ⟨k, a, b, hk, rfl, ha, hb, rfl, rfl, rfl, rfl⟩)
def mrv (e : Int64) (i : Nat) : Int32 := ((e >>> (((56 : Int32) - 8 * nI i).toInt64 &&& 63)) &&& 255).toInt32
def mrw (e : Int64) (S : Nat → Int32) (k a b : Nat) : Nat → (Nat → Int32)
  | 0 => S
  | i + 1 => upd (mrw e S k a b i) (1024 * k + 32 * b + (a + i)) (mrv e i)
section
variable {M : zM} {D : va_G} {ca : Nat → ClassId} {ad : Nat → Nat} {th : Int32} {w h : Nat → Nat} {S O : Nat → Int32} {ow oh : Int32} {k : Nat} {a b : Nat} {e : Int64}
set_option maxRecDepth 100000 in
set_option maxHeartbeats 4000000 in
theorem n_row (hwh : okW w h) (hk : k < 4) (ha : a < w k) (hb : b < h k) (hR : zroom M = rmk 3 0 0) (hC : zcells M = 0) (hS : zslots M = 0) (hE : zEn M zE0) (kx : Zj M (gG D ca ad) cM_row 7 RM wM_row none (mwn ca th w h (mrw e S k a b (mn 8 (w k - a))) O ow oh) [some (.ref 0), some (.int (nI k)), some (.int (nI a)), some (.int (nI b)), some (.long e), none, some (.int (nI (mn 8 (w k - a))))] [] 75) :
    ∀ n i, i + n = (mn 8 (w k - a)) → Zj M (gG D ca ad) cM_row 7 RM wM_row none (mwn ca th w h (mrw e S k a b i) O ow oh) [some (.ref 0), some (.int (nI k)), some (.int (nI a)), some (.int (nI b)), some (.long e), none, some (.int (nI i))] [] 19 := by
  obtain ⟨hk1, hk2, hk3, hk4⟩ := hwh k hk
  have hm : mn 8 (w k - a) ≤ 8 ∧ mn 8 (w k - a) ≤ w k - a ∧ (mn 8 (w k - a) = 8 ∨ mn 8 (w k - a) = w k - a) := by
    unfold mn; split <;> omega
  obtain ⟨hm1, hm2, hm3⟩ := hm
  intro n
  induction n with
  | zero =>
    intro i hi
    obtain rfl : i = (mn 8 (w k - a)) := by omega
    refine z_iload dM_row_19 rfl ?_
    refine z_bipush (v := 8) dM_row_21 (by decide) ?_
    rw [show (8 : Int32) = nI 8 from rfl]
    refine z_icmp_ge (tgt := 75) dM_row_23 (by decide) (fun _ => kx) (fun hc => ?_)
    have h8 : mn 8 (w k - a) < 8 := by
      rcases Nat.lt_or_ge (mn 8 (w k - a)) 8 with q | q
      · exact q
      · exact absurd (nI_le q (by omega)) hc
    refine z_iload_n dM_row_26 rfl ?_
    refine z_iload dM_row_27 rfl ?_
    refine z_iadd dM_row_29 ?_
    refine z_aload_n dM_row_30 rfl ?_
    refine z_get (C := RM) (T := TM) (N := 7) (ref := "ToneMixerModel") 1 dM_row_31 rfl rfl rfl (by decide) (fun w h => bwT (hbM w h)) (bwT b_387) rfl ?_
    refine z_iload_n dM_row_34 rfl ?_
    refine z_ialdN (t0 := 0) (k := k) dM_row_35 rfl rfl (rfl) (hk) (by decide) ?_
    rw [nI_add]
    exact z_icmp_ge (tgt := 75) dM_row_36 (by decide) (fun _ => kx) (fun hc => absurd (nI_le (by omega) (by omega)) hc)
  | succ n ih =>
    intro i hi
    refine z_iload dM_row_19 rfl ?_
    refine z_bipush (v := 8) dM_row_21 (by decide) ?_
    rw [show (8 : Int32) = nI 8 from rfl]
    refine z_icmp_ge (tgt := 75) dM_row_23 (by decide) (fun hc => absurd hc (nI_ge (by omega) (by omega))) (fun _ => ?_)
    refine z_iload_n dM_row_26 rfl ?_
    refine z_iload dM_row_27 rfl ?_
    refine z_iadd dM_row_29 ?_
    refine z_aload_n dM_row_30 rfl ?_
    refine z_get (C := RM) (T := TM) (N := 7) (ref := "ToneMixerModel") 1 dM_row_31 rfl rfl rfl (by decide) (fun w h => bwT (hbM w h)) (bwT b_387) rfl ?_
    refine z_iload_n dM_row_34 rfl ?_
    refine z_ialdN (t0 := 0) (k := k) dM_row_35 rfl rfl (rfl) (hk) (by decide) ?_
    rw [nI_add]
    refine z_icmp_ge (tgt := 75) dM_row_36 (by decide) (fun hc => absurd hc (nI_ge (by omega) (by omega))) (fun _ => ?_)
    refine z_aload_n dM_row_39 rfl ?_
    refine z_get (C := RM) (T := TM) (N := 7) (ref := "ToneMixerModel") 3 dM_row_40 rfl rfl rfl (by decide) (fun w h => bwT (hbM w h)) (bwT b_389) rfl ?_
    refine z_iload_n dM_row_43 rfl ?_
    refine z_iload_n dM_row_44 rfl ?_
    refine z_iload dM_row_45 rfl ?_
    refine z_iadd dM_row_47 ?_
    refine z_iload_n dM_row_48 rfl ?_
    rw [nI_add]
    refine z_pure (z_S hE zEok_0 (m_cell _ _ _ _ _) dM_row_49 (gd_S b_434 b_435 b_3 b_436) rfl qM_cell.2 ⟨rfl, rfl⟩ (by rw [hR]; decide) (by rw [hR, hC, hS]; decide) rfl (Nat.le_of_ble_eq_true rfl)) (fun r hr => ?_)
    subst hr
    simp only [zpush, zv]
    rw [z_cell]
    refine z_lload dM_row_52 rfl ?_
    refine z_bipush (v := 56) dM_row_54 (by decide) ?_
    refine z_bipush (v := 8) dM_row_56 (by decide) ?_
    refine z_iload dM_row_58 rfl ?_
    refine z_imul dM_row_60 ?_
    refine z_isub dM_row_61 ?_
    refine z_lshr dM_row_62 ?_
    refine z_ldc2 (v := 255) dM_row_63 (bwT b_441) ?_
    refine z_land dM_row_66 ?_
    refine z_l2i dM_row_67 ?_
    refine z_iastN (t0 := 0) (k := 1024 * k + 32 * b + (a + i)) dM_row_68 rfl rfl (rfl) (by omega) (by decide) ?_
    try simp only [List.set_cons_succ, List.set_cons_zero]
    refine z_iinc1 dM_row_69 (by decide) rfl rfl ?_
    try simp only [List.set_cons_succ, List.set_cons_zero]
    refine z_goto (tgt := 19) dM_row_72 (by decide) ?_
    rw [nI_1]
    exact ih (i + 1) (by omega)
end
set_option maxRecDepth 100000 in
set_option maxHeartbeats 4000000 in
theorem m_row (l : Launch) (D : va_G) (ca : Nat → ClassId) (ad : Nat → Nat) (th : Int32) (w h : Nat → Nat) (S O : Nat → Int32) (ow oh : Int32) (hwh : okW w h) (n x y : Int32) (e : Int64) : zMet l yM_row wM_row (rmk 3 0 0) zE0 (gG D ca ad) (mwn ca th w h S O ow oh) [.ref 0, .int n, .int x, .int y, .long e] (fun r aw => r = none ∧ (((noP n ∨ ∃ k : Nat, k < 4 ∧ n = nI k ∧ hasB (nI (w k)) (nI (h k)) x y = false) ∧ aw = (mwn ca 1 w h S O ow oh)) ∨ ∃ k a b : Nat, k < 4 ∧ n = nI k ∧ a < w k ∧ b < h k ∧ x = nI a ∧ y = nI b ∧ aw = (mwn ca 0 w h (mrw e S k a b (mn 8 (w k - a))) O ow oh))) := by
  refine zMet.of (cc := cM_row) (maxL := 7) (ret := none) (lv := [some (.ref 0), some (.int n), some (.int x), some (.int y), some (.long e), none, none]) (by decide) rfl (Nat.le_of_ble_eq_true rfl) rfl (fun M hl0 hR hC hS hE hret => ?_)
  refine z_aload_n dM_row_0 rfl ?_
  refine z_aload_n dM_row_1 rfl ?_
  refine z_iload_n dM_row_2 rfl ?_
  refine z_iload_n dM_row_3 rfl ?_
  refine z_iload_n dM_row_4 rfl ?_
  refine z_same (z_V (C := RM) (b := 0) hE zEok_0 (m_isSample _ D ca ad th w h S O ow oh hwh n x y) dM_row_5 (gd_V b_430 b_432 bs_15 b_3 b_433) rfl qM_isSample ⟨rfl, rfl⟩ (by rw [hR]; decide) (by rw [hR, hC, hS]; decide) rfl (Nat.le_of_ble_eq_true rfl) rfl rfl) (fun r aw1 hlen hr => ?_)
  obtain ⟨rfl, bb, rfl, hbb⟩ := hr
  simp only [zpush, zv]
  refine z_iconst (v := 1) dM_row_8 (by decide) ?_
  refine z_same (z_V (C := RM) (b := 0) hE zEok_0 (m_goes _ D ca ad th w h S O ow oh (bb) (true)) dM_row_9 (gd_V b_422 b_424 bs_14 b_3 b_425) rfl qM_goes ⟨rfl, rfl⟩ (by rw [hR]; decide) (by rw [hR, hC, hS]; decide) rfl (Nat.le_of_ble_eq_true rfl) rfl rfl) (fun r aw1 hlen hr => ?_)
  obtain ⟨rfl, rfl⟩ := hr
  simp only [zpush, zv]
  rcases isS_of hwh hbb with ⟨rfl, hno⟩ | ⟨rfl, k, a, b, hk, rfl, ha, hb, rfl, rfl⟩
  · skip
    refine z_if_ne (tgt := 16) dM_row_12 (by decide) (fun hc9 => absurd hc9 (by decide)) (fun _ => ?_)
    exact z_return dM_row_15 hret ⟨Nat.le_of_eq hC, Nat.le_of_eq hS⟩ rfl ⟨rfl, Or.inl ⟨hno, rfl⟩⟩
  · skip
    refine z_if_ne (tgt := 16) dM_row_12 (by decide) (fun _ => ?_) (fun hc9 => absurd hc9 (by decide))
    refine z_iconst (v := 0) dM_row_16 (by decide) ?_
    refine z_istore dM_row_17 (by decide) rfl ?_
    try simp only [List.set_cons_succ, List.set_cons_zero]
    refine n_row hwh hk ha hb hR hC hS hE ?_ (mn 8 (w k - a)) 0 (by omega)
    exact z_return dM_row_75 hret ⟨Nat.le_of_eq hC, Nat.le_of_eq hS⟩ rfl ⟨rfl, Or.inr ⟨k, a, b, hk, rfl, ha, hb, rfl, rfl, rfl⟩⟩
theorem inC2 (w h : Nat) (p q : Int32) : (inB p 1 (nI w) = true ∧ inB q 1 (nI h) = true ∧ ¬ badC w h p q) ∨ (badC w h p q ∧ (inB p 1 (nI w) = false ∨ (inB p 1 (nI w) = true ∧ inB q 1 (nI h) = false))) := by
  by_cases c1 : p < 1
  · exact Or.inr ⟨Or.inl c1, Or.inl (by simp [inB, c1])⟩
  by_cases c2 : nI w < p
  · exact Or.inr ⟨Or.inr (Or.inl c2), Or.inl (by simp [inB, c2])⟩
  by_cases c3 : q < 1
  · exact Or.inr ⟨Or.inr (Or.inr (Or.inl c3)), Or.inr ⟨by simp [inB, c1, c2], by simp [inB, c3]⟩⟩
  by_cases c4 : nI h < q
  · exact Or.inr ⟨Or.inr (Or.inr (Or.inr c4)), Or.inr ⟨by simp [inB, c1, c2], by simp [inB, c4]⟩⟩
  refine Or.inl ⟨by simp [inB, c1, c2], by simp [inB, c3, c4], ?_⟩
  rintro (r | r | r | r)
  · exact c1 r
  · exact c2 r
  · exact c3 r
  · exact c4 r
set_option maxRecDepth 100000 in
set_option maxHeartbeats 4000000 in
theorem m_cut (l : Launch) (D : va_G) (ca : Nat → ClassId) (ad : Nat → Nat) (th : Int32) (w h : Nat → Nat) (S O : Nat → Int32) (ow oh : Int32) (hwh : okW w h) (n p q : Int32) : zMet l yM_cut wM_cut (rmk 3 0 0) zE0 (gG D ca ad) (mwn ca th w h S O ow oh) [.ref 0, .int n, .int p, .int q] (fun r aw => ((noP n ∧ r = some (.int 0) ∧ aw = (mwn ca 1 w h S O ow oh)) ∨ ∃ k : Nat, k < 4 ∧ n = nI k ∧ ((badC (w k) (h k) p q ∧ r = some (.int 0) ∧ aw = (mwn ca 0 w h S O ow oh)) ∨ ∃ w2 h2 : Nat, ¬ badC (w k) (h k) p q ∧ p = nI w2 ∧ q = nI h2 ∧ r = some (.int 1) ∧ aw = (mwn ca 0 (va_up w k w2) (va_up h k h2) S O ow oh)))) := by
  refine zMet.of (cc := cM_cut) (maxL := 4) (ret := (some .boolean)) (lv := [some (.ref 0), some (.int n), some (.int p), some (.int q)]) (by decide) rfl (Nat.le_of_ble_eq_true rfl) rfl (fun M hl0 hR hC hS hE hret => ?_)
  refine z_aload_n dM_cut_0 rfl ?_
  refine z_iload_n dM_cut_1 rfl ?_
  refine z_pure (z_S hE zEok_0 (m_isPlane _ _ _) dM_cut_2 (gd_S b_416 b_417 b_3 b_418) rfl qM_isPlane.2 ⟨rfl, rfl⟩ (by rw [hR]; decide) (by rw [hR, hC, hS]; decide) rfl (Nat.le_of_ble_eq_true rfl)) (fun r hr => ?_)
  subst hr
  simp only [zpush, zv]
  refine z_iconst (v := 1) dM_cut_5 (by decide) ?_
  refine z_same (z_V (C := RM) (b := 0) hE zEok_0 (m_goes _ D ca ad th w h S O ow oh (inB n 0 3) (true)) dM_cut_6 (gd_V b_422 b_424 bs_14 b_3 b_425) rfl qM_goes ⟨rfl, rfl⟩ (by rw [hR]; decide) (by rw [hR, hC, hS]; decide) rfl (Nat.le_of_ble_eq_true rfl) rfl rfl) (fun r aw1 hlen hr => ?_)
  obtain ⟨rfl, rfl⟩ := hr
  simp only [zpush, zv]
  rcases inP n with ⟨e1, h1⟩ | ⟨e1, k, hk, rfl⟩
  · rw [e1]
    refine z_if_eq (tgt := 40) dM_cut_9 (by decide) (fun _ => ?_) (fun hc9 => absurd hc9 (by decide))
    refine z_iconst (v := 0) dM_cut_40 (by decide) ?_
    exact z_ireturn dM_cut_41 rfl hret ⟨Nat.le_of_eq hC, Nat.le_of_eq hS⟩ rfl (Or.inl ⟨h1, rfl, rfl⟩)
  rw [e1]
  obtain ⟨hk1, hk2, hk3, hk4⟩ := hwh k hk
  have k40 : badC (w k) (h k) p q → Zj M (gG D ca ad) cM_cut 4 RM wM_cut (some .boolean) (mwn ca 0 w h S O ow oh) [some (.ref 0), some (.int (nI k)), some (.int p), some (.int q)] [] 40 := fun hb => by
    refine z_iconst (v := 0) dM_cut_40 (by decide) ?_
    exact z_ireturn dM_cut_41 rfl hret ⟨Nat.le_of_eq hC, Nat.le_of_eq hS⟩ rfl (Or.inr ⟨k, hk, rfl, Or.inl ⟨hb, rfl, rfl⟩⟩)
  refine z_if_eq (tgt := 40) dM_cut_9 (by decide) (fun hc9 => absurd hc9 (by decide)) (fun _ => ?_)
  refine z_iload_n dM_cut_12 rfl ?_
  refine z_iconst (v := 1) dM_cut_13 (by decide) ?_
  refine z_aload_n dM_cut_14 rfl ?_
  refine z_get (C := RM) (T := TM) (N := 7) (ref := "ToneMixerModel") 1 dM_cut_15 rfl rfl rfl (by decide) (fun w h => bwT (hbM w h)) (bwT b_387) rfl ?_
  refine z_iload_n dM_cut_18 rfl ?_
  refine z_ialdN (t0 := 0) (k := k) dM_cut_19 rfl rfl (rfl) (hk) (by decide) ?_
  refine z_pure (z_S hE zEok_0 (m_in _ _ _ _ _) dM_cut_20 (gd_S b_419 b_420 b_3 b_421) rfl qM_in.2 ⟨rfl, rfl⟩ (by rw [hR]; decide) (by rw [hR, hC, hS]; decide) rfl (Nat.le_of_ble_eq_true rfl)) (fun r hr => ?_)
  subst hr
  simp only [zpush, zv]
  rcases inC2 (w k) (h k) p q with ⟨e2, e3, hb⟩ | ⟨hb, e2 | ⟨e2, e3⟩⟩
  · rw [e2]
    refine z_if_eq (tgt := 40) dM_cut_23 (by decide) (fun hc9 => absurd hc9 (by decide)) (fun _ => ?_)
    refine z_iload_n dM_cut_26 rfl ?_
    refine z_iconst (v := 1) dM_cut_27 (by decide) ?_
    refine z_aload_n dM_cut_28 rfl ?_
    refine z_get (C := RM) (T := TM) (N := 7) (ref := "ToneMixerModel") 2 dM_cut_29 rfl rfl rfl (by decide) (fun w h => bwT (hbM w h)) (bwT b_388) rfl ?_
    refine z_iload_n dM_cut_32 rfl ?_
    refine z_ialdN (t0 := 0) (k := k) dM_cut_33 rfl rfl (rfl) (hk) (by decide) ?_
    refine z_pure (z_S hE zEok_0 (m_in _ _ _ _ _) dM_cut_34 (gd_S b_419 b_420 b_3 b_421) rfl qM_in.2 ⟨rfl, rfl⟩ (by rw [hR]; decide) (by rw [hR, hC, hS]; decide) rfl (Nat.le_of_ble_eq_true rfl)) (fun r hr => ?_)
    subst hr
    simp only [zpush, zv]
    rw [e3]
    obtain ⟨w2, rfl, b1, b2⟩ := inN (by omega : w k < 2 ^ 31) (fun q => hb (Or.inl q)) (fun q => hb (Or.inr (Or.inl q)))
    obtain ⟨h2, rfl, b3, b4⟩ := inN (by omega : h k < 2 ^ 31) (fun q => hb (Or.inr (Or.inr (Or.inl q)))) (fun q => hb (Or.inr (Or.inr (Or.inr q))))
    refine z_if_ne (tgt := 42) dM_cut_37 (by decide) (fun _ => ?_) (fun hc9 => absurd hc9 (by decide))
    refine z_aload_n dM_cut_42 rfl ?_
    refine z_get (C := RM) (T := TM) (N := 7) (ref := "ToneMixerModel") 1 dM_cut_43 rfl rfl rfl (by decide) (fun w h => bwT (hbM w h)) (bwT b_387) rfl ?_
    refine z_iload_n dM_cut_46 rfl ?_
    refine z_iload_n dM_cut_47 rfl ?_
    refine z_iastN (t0 := 0) (k := k) dM_cut_48 rfl rfl (rfl) (hk) (by decide) ?_
    try simp only [List.set_cons_succ, List.set_cons_zero]
    refine z_aload_n dM_cut_49 rfl ?_
    refine z_get (C := RM) (T := TM) (N := 7) (ref := "ToneMixerModel") 2 dM_cut_50 rfl rfl rfl (by decide) (fun w h => bwT (hbM w h)) (bwT b_388) rfl ?_
    refine z_iload_n dM_cut_53 rfl ?_
    refine z_iload_n dM_cut_54 rfl ?_
    refine z_iastN (t0 := 0) (k := k) dM_cut_55 rfl rfl (rfl) (hk) (by decide) ?_
    try simp only [List.set_cons_succ, List.set_cons_zero]
    refine z_iconst (v := 1) dM_cut_56 (by decide) ?_
    rw [updn, updn]
    exact z_ireturn dM_cut_57 rfl hret ⟨Nat.le_of_eq hC, Nat.le_of_eq hS⟩ rfl (Or.inr ⟨k, hk, rfl, Or.inr ⟨w2, h2, hb, rfl, rfl, rfl, rfl⟩⟩)
  · rw [e2]
    refine z_if_eq (tgt := 40) dM_cut_23 (by decide) (fun _ => ?_) (fun hc9 => absurd hc9 (by decide))
    exact k40 hb
  · rw [e2]
    refine z_if_eq (tgt := 40) dM_cut_23 (by decide) (fun hc9 => absurd hc9 (by decide)) (fun _ => ?_)
    refine z_iload_n dM_cut_26 rfl ?_
    refine z_iconst (v := 1) dM_cut_27 (by decide) ?_
    refine z_aload_n dM_cut_28 rfl ?_
    refine z_get (C := RM) (T := TM) (N := 7) (ref := "ToneMixerModel") 2 dM_cut_29 rfl rfl rfl (by decide) (fun w h => bwT (hbM w h)) (bwT b_388) rfl ?_
    refine z_iload_n dM_cut_32 rfl ?_
    refine z_ialdN (t0 := 0) (k := k) dM_cut_33 rfl rfl (rfl) (hk) (by decide) ?_
    refine z_pure (z_S hE zEok_0 (m_in _ _ _ _ _) dM_cut_34 (gd_S b_419 b_420 b_3 b_421) rfl qM_in.2 ⟨rfl, rfl⟩ (by rw [hR]; decide) (by rw [hR, hC, hS]; decide) rfl (Nat.le_of_ble_eq_true rfl)) (fun r hr => ?_)
    subst hr
    simp only [zpush, zv]
    rw [e3]
    refine z_if_ne (tgt := 42) dM_cut_37 (by decide) (fun hc9 => absurd hc9 (by decide)) (fun _ => ?_)
    exact k40 hb
end
