/-! a machine state as DATA: the world a list of cells that name each other by their places in it; 'ad' says where a place lies -/
def zv (ad : Nat → Nat) : Value → Value
  | .ref i => .ref (ad i)
  | v => v
def zc (ad : Nat → Nat) : va_E → va_E
  | .inl (cA, n, .inr (.inr (.inr (.inr f)))) => .inl (cA, n, .inr (.inr (.inr (.inr (fun j => (f j).map ad)))))
  | .inl x => .inl x
  | .inr (ci, fs) => .inr (ci, fs.map (zv ad))
def zw (ad : Nat → Nat) (aw : List va_E) : va_W := aw.mapIdx (fun i e => (ad i, zc ad e))
theorem zw_at (ad : Nat → Nat) (aw : List va_E) (i : Nat) : (zw ad aw)[i]? = (aw[i]?).map (fun e => (ad i, zc ad e)) := by
  simp [zw, List.getElem?_mapIdx]
theorem zw_get {ad : Nat → Nat} {aw : List va_E} {i : Nat} {e : va_E} (h : aw[i]? = some e) : (zw ad aw)[i]? = some (ad i, zc ad e) := by
  rw [zw_at, h]; rfl
theorem zw_set (ad : Nat → Nat) (aw : List va_E) (i : Nat) (e : va_E) : zw ad (aw.set i e) = (zw ad aw).set i (ad i, zc ad e) := by
  apply List.ext_getElem?
  intro j
  rw [zw_at, List.getElem?_set, List.getElem?_set, zw_at]
  by_cases h : i = j
  · subst h
    rw [if_pos rfl, if_pos rfl]
    simp only [zw, List.length_mapIdx]
    by_cases hl : i < aw.length
    · rw [if_pos hl, if_pos hl]; rfl
    · rw [if_neg hl, if_neg hl]; rfl
  · rw [if_neg h, if_neg h]
theorem zw_len (ad : Nat → Nat) (aw : List va_E) : (zw ad aw).length = aw.length := by simp [zw]
theorem zv_cat (ad : Nat → Nat) (v : Value) : (zv ad v).category = v.category := by cases v <;> rfl
theorem zv_cats (ad : Nat → Nat) (st : List Value) : ((st.map (zv ad)).map fun v => v.category) = st.map (fun v => v.category) := by
  rw [List.map_map]; apply List.map_congr_left; intro v _; exact zv_cat ad v
/-- the locals by slots: none where nothing is known (or a long's second half) -/
def zh (ad : Nat → Nat) (ls : Array Slot) (nL : Nat) (lv : List (Option Value)) : Prop := ls.size = nL ∧ lv_wf ls ∧ ∀ (i : Nat) (v : Value), lv[i]? = some (some v) → ls[i]? = some (.val (zv ad v))
def zl (ad : Nat → Nat) (lv : List (Option Value)) : List (Nat × Value) := (List.range lv.length).filterMap (fun i => match lv[i]? with | some (some v) => some (i, zv ad v) | _ => none)
theorem zl_mem {ad : Nat → Nat} {lv : List (Option Value)} {i : Nat} {v : Value} (h : lv[i]? = some (some v)) : (i, zv ad v) ∈ zl ad lv :=
  List.mem_filterMap.mpr ⟨i, List.mem_range.mpr (List.getElem?_eq_some_iff.mp h).1, by rw [h]⟩
theorem zl_of {ad : Nat → Nat} {lv : List (Option Value)} {q : Nat × Value} (h : q ∈ zl ad lv) : ∃ v, lv[q.1]? = some (some v) ∧ q.2 = zv ad v := by
  obtain ⟨i, -, hi⟩ := List.mem_filterMap.mp h
  split at hi
  · next v hv => cases hi; exact ⟨v, hv, rfl⟩
  · cases hi
theorem zh_has {ad : Nat → Nat} {ls : Array Slot} {nL : Nat} {lv : List (Option Value)} (h : zh ad ls nL lv) : lv_has ls nL (zl ad lv) :=
  ⟨h.1, h.2.1, fun q hq => by obtain ⟨v, h1, h2⟩ := zl_of hq; rw [h2]; exact h.2.2 _ _ h1⟩
/-- nothing of two slots stands just ahead of slot i -/
def zsok (lv : List (Option Value)) (i : Nat) : Bool := match i with
  | 0 => true
  | j + 1 => match lv[j]? with
    | some (some v) => v.category == 1
    | _ => true
theorem zh_store1 {ad : Nat → Nat} {ls' : Array Slot} {nL i : Nat} {lv : List (Option Value)} {v : Value} (hok : zsok lv i = true) (h : lv_has ls' nL ((i, zv ad v) :: (zl ad lv).filter (fun q => !(q.1 == i) && !(q.1 + 1 == i && q.2.category == 2)))) : zh ad ls' nL (lv.set i (some v)) := by
  refine ⟨h.1, h.2.1, fun j w hj => ?_⟩
  rw [List.getElem?_set] at hj
  by_cases e : i = j
  · subst e
    rw [if_pos rfl] at hj
    split at hj
    · cases hj; exact h.2.2 (i, zv ad v) List.mem_cons_self
    · cases hj
  · rw [if_neg e] at hj
    refine h.2.2 (j, zv ad w) (List.mem_cons_of_mem _ (List.mem_filter.mpr ⟨zl_mem hj, ?_⟩))
    have h1 : (j == i) = false := by simp; exact fun q => e q.symm
    by_cases e2 : j + 1 = i
    · subst e2
      simp only [zsok, hj] at hok
      have h3 : w.category = 1 := by simpa using hok
      simp [zv_cat, h3]
    · have : (j + 1 == i) = false := by simp [e2]
      simp [h1, this]
theorem zh_store2 {ad : Nat → Nat} {ls' : Array Slot} {nL i : Nat} {lv : List (Option Value)} {v : Value} (hok : zsok lv i = true) (h : lv_has ls' nL ((i, zv ad v) :: (zl ad lv).filter (fun q => !(q.1 == i) && (!(q.1 == i + 1) && !(q.1 + 1 == i && q.2.category == 2))))) : zh ad ls' nL ((lv.set i (some v)).set (i + 1) none) := by
  refine ⟨h.1, h.2.1, fun j w hj => ?_⟩
  rw [List.getElem?_set] at hj
  by_cases e0 : i + 1 = j
  · rw [if_pos e0] at hj
    split at hj <;> cases hj
  rw [if_neg e0] at hj
  rw [List.getElem?_set] at hj
  by_cases e : i = j
  · subst e
    rw [if_pos rfl] at hj
    split at hj
    · cases hj; exact h.2.2 (i, zv ad v) List.mem_cons_self
    · cases hj
  · rw [if_neg e] at hj
    refine h.2.2 (j, zv ad w) (List.mem_cons_of_mem _ (List.mem_filter.mpr ⟨zl_mem hj, ?_⟩))
    have h1 : (j == i) = false := by simp; exact fun q => e q.symm
    have h2 : (j == i + 1) = false := by simp; exact fun q => e0 q.symm
    by_cases e2 : j + 1 = i
    · subst e2
      simp only [zsok, hj] at hok
      have h3 : w.category = 1 := by simpa using hok
      simp [zv_cat, h3]
      omega
    · have : (j + 1 == i) = false := by simp [e2]
      simp [h1, h2, this]
/-- the machine: p l e R s m args below meth c Q A cells slots -/
abbrev zM : Type := Program × Launch × Env × Room × State × MethodId × Array Value × List Frame × Method × Code × (State → Prop) × (Nat → Prop) × Nat × Nat
/-- the tables: D, classes, array types, addresses -/
abbrev zG : Type := va_G × List vw_C × List (ClassId × FieldType) × (Nat → Nat)
/-- what stays: the code, the words, the tables -/
def zFx (M : zM) (G : zG) (cc : ByteArray) (nL : Nat) (own : String) (Ts : List Cond) (rt : Option FieldType) : Prop := match M, G with
  | (p, _, _, _, s, m, args, _, meth, c, _, A, _, _), (D, cl, tys, _) => CallFix p m c cc nL s args Ts own ∧ meth.sig.returnType = rt ∧ meth.locks = false ∧ va_K D cl tys s ∧ ∀ q, s.heap.size ≤ q → A q
/-- the machine, in any heap that holds the world, comes to its end -/
def Zj (M : zM) (G : zG) (cc : ByteArray) (nL : Nat) (own : String) (Ts : List Cond) (rt : Option FieldType) (aw : List va_E) (lv : List (Option Value)) (st : List Value) (pc : Nat) : Prop := match M, G with
  | (p, l, e, R, s, m, args, below, meth, c, Q, A, cells, slots), (D, cl, tys, ad) => zFx (p, l, e, R, s, m, args, below, meth, c, Q, A, cells, slots) (D, cl, tys, ad) cc nL own Ts rt → ∀ (H : Heap) (locs : List Loc) (ls : Array Slot), va_P D cl (zw ad aw) H → va_D A (zw ad aw) → va_S A s.heap H locs → zh ad ls nL lv → W p l e R s m args below meth c H locs cells slots Q (F0 m pc ls (st.map (zv ad)))
section ZR
variable {M : zM} {G : zG} {cc : ByteArray} {nL : Nat} {own : String} {Ts : List Cond} {rt : Option FieldType} {aw : List va_E} {lv : List (Option Value)} {st : List Value} {pc : Nat}
theorem z_iconst {n : Int} {v : Int32} (hdg : decode cc pc = .ok (.iconst n, 1)) (hv : Int32.ofInt n = v) (kk : Zj M G cc nL own Ts rt aw lv (.int v :: st) (pc + 1)) : Zj M G cc nL own Ts rt aw lv (st) pc := by
  obtain ⟨p, l, e, R, s, m, args, below, meth, c, Q, A, cells, slots⟩ := M
  obtain ⟨D, cl, tys, ad⟩ := G
  intro hF H locs ls hP hD hS hl
  obtain ⟨⟨hx, hb, hml, hown, hts⟩, hr, hlk, hK, hA⟩ := id hF
  exact lv_iconst hx hb hdg hv (kk hF H locs ls hP hD hS hl)
theorem z_bipush {n : Int} {v : Int32} (hdg : decode cc pc = .ok (.bipush n, 2)) (hv : (Int8.ofInt n).toInt32 = v) (kk : Zj M G cc nL own Ts rt aw lv (.int v :: st) (pc + 2)) : Zj M G cc nL own Ts rt aw lv (st) pc := by
  obtain ⟨p, l, e, R, s, m, args, below, meth, c, Q, A, cells, slots⟩ := M
  obtain ⟨D, cl, tys, ad⟩ := G
  intro hF H locs ls hP hD hS hl
  obtain ⟨⟨hx, hb, hml, hown, hts⟩, hr, hlk, hK, hA⟩ := id hF
  exact lv_bipush hx hb hdg hv (kk hF H locs ls hP hD hS hl)
theorem z_sipush {n : Int} {v : Int32} (hdg : decode cc pc = .ok (.sipush n, 3)) (hv : (Int16.ofInt n).toInt32 = v) (kk : Zj M G cc nL own Ts rt aw lv (.int v :: st) (pc + 3)) : Zj M G cc nL own Ts rt aw lv (st) pc := by
  obtain ⟨p, l, e, R, s, m, args, below, meth, c, Q, A, cells, slots⟩ := M
  obtain ⟨D, cl, tys, ad⟩ := G
  intro hF H locs ls hP hD hS hl
  obtain ⟨⟨hx, hb, hml, hown, hts⟩, hr, hlk, hK, hA⟩ := id hF
  exact lv_sipush hx hb hdg hv (kk hF H locs ls hP hD hS hl)
theorem z_lconst {n : Fin 2} {v : Int64} (hdg : decode cc pc = .ok (.lconst n, 1)) (hv : Int64.ofNat (n : Nat) = v) (kk : Zj M G cc nL own Ts rt aw lv (.long v :: st) (pc + 1)) : Zj M G cc nL own Ts rt aw lv (st) pc := by
  obtain ⟨p, l, e, R, s, m, args, below, meth, c, Q, A, cells, slots⟩ := M
  obtain ⟨D, cl, tys, ad⟩ := G
  intro hF H locs ls hP hD hS hl
  obtain ⟨⟨hx, hb, hml, hown, hts⟩, hr, hlk, hK, hA⟩ := id hF
  exact lv_lconst hx hb hdg hv (kk hF H locs ls hP hD hS hl)
theorem z_ldc {index : Nat} {v : Int32} (hdg : decode cc pc = .ok (.ldc index, 2)) (hc : Jvm.Cond.constant own index v ∈ Ts) (kk : Zj M G cc nL own Ts rt aw lv (.int v :: st) (pc + 2)) : Zj M G cc nL own Ts rt aw lv (st) pc := by
  obtain ⟨p, l, e, R, s, m, args, below, meth, c, Q, A, cells, slots⟩ := M
  obtain ⟨D, cl, tys, ad⟩ := G
  intro hF H locs ls hP hD hS hl
  obtain ⟨⟨hx, hb, hml, hown, hts⟩, hr, hlk, hK, hA⟩ := id hF
  exact lv_ldc hx hb hown (hts _ hc) hdg (kk hF H locs ls hP hD hS hl)
theorem z_ldcw {index : Nat} {v : Int32} (hdg : decode cc pc = .ok (.ldc_w index, 3)) (hc : Jvm.Cond.constant own index v ∈ Ts) (kk : Zj M G cc nL own Ts rt aw lv (.int v :: st) (pc + 3)) : Zj M G cc nL own Ts rt aw lv (st) pc := by
  obtain ⟨p, l, e, R, s, m, args, below, meth, c, Q, A, cells, slots⟩ := M
  obtain ⟨D, cl, tys, ad⟩ := G
  intro hF H locs ls hP hD hS hl
  obtain ⟨⟨hx, hb, hml, hown, hts⟩, hr, hlk, hK, hA⟩ := id hF
  exact lv_ldcw hx hb hown (hts _ hc) hdg (kk hF H locs ls hP hD hS hl)
theorem z_ldc2 {index : Nat} {v : Int64} (hdg : decode cc pc = .ok (.ldc2_w index, 3)) (hc : Jvm.Cond.constantLong own index v ∈ Ts) (kk : Zj M G cc nL own Ts rt aw lv (.long v :: st) (pc + 3)) : Zj M G cc nL own Ts rt aw lv (st) pc := by
  obtain ⟨p, l, e, R, s, m, args, below, meth, c, Q, A, cells, slots⟩ := M
  obtain ⟨D, cl, tys, ad⟩ := G
  intro hF H locs ls hP hD hS hl
  obtain ⟨⟨hx, hb, hml, hown, hts⟩, hr, hlk, hK, hA⟩ := id hF
  exact lv_ldc2 hx hb hown (hts _ hc) hdg (kk hF H locs ls hP hD hS hl)
theorem z_iload_n {k : Fin 4} {x : Int32} (hdg : decode cc pc = .ok (.iload_n k, 1)) (hv : lv[(k : Nat)]? = some (some (.int x))) (kk : Zj M G cc nL own Ts rt aw lv (.int x :: st) (pc + 1)) : Zj M G cc nL own Ts rt aw lv (st) pc := by
  obtain ⟨p, l, e, R, s, m, args, below, meth, c, Q, A, cells, slots⟩ := M
  obtain ⟨D, cl, tys, ad⟩ := G
  intro hF H locs ls hP hD hS hl
  obtain ⟨⟨hx, hb, hml, hown, hts⟩, hr, hlk, hK, hA⟩ := id hF
  exact lv_iload_n hx hb hdg rfl (hl.2.2 _ _ hv) (kk hF H locs ls hP hD hS hl)
theorem z_iload {i : Nat} {x : Int32} (hdg : decode cc pc = .ok (.iload i, 2)) (hv : lv[i]? = some (some (.int x))) (kk : Zj M G cc nL own Ts rt aw lv (.int x :: st) (pc + 2)) : Zj M G cc nL own Ts rt aw lv (st) pc := by
  obtain ⟨p, l, e, R, s, m, args, below, meth, c, Q, A, cells, slots⟩ := M
  obtain ⟨D, cl, tys, ad⟩ := G
  intro hF H locs ls hP hD hS hl
  obtain ⟨⟨hx, hb, hml, hown, hts⟩, hr, hlk, hK, hA⟩ := id hF
  exact lv_iload hx hb hdg (hl.2.2 _ _ hv) (kk hF H locs ls hP hD hS hl)
theorem z_lload_n {k : Fin 4} {x : Int64} (hdg : decode cc pc = .ok (.lload_n k, 1)) (hv : lv[(k : Nat)]? = some (some (.long x))) (kk : Zj M G cc nL own Ts rt aw lv (.long x :: st) (pc + 1)) : Zj M G cc nL own Ts rt aw lv (st) pc := by
  obtain ⟨p, l, e, R, s, m, args, below, meth, c, Q, A, cells, slots⟩ := M
  obtain ⟨D, cl, tys, ad⟩ := G
  intro hF H locs ls hP hD hS hl
  obtain ⟨⟨hx, hb, hml, hown, hts⟩, hr, hlk, hK, hA⟩ := id hF
  exact lv_lload_n hx hb hdg rfl (hl.2.2 _ _ hv) (kk hF H locs ls hP hD hS hl)
theorem z_lload {i : Nat} {x : Int64} (hdg : decode cc pc = .ok (.lload i, 2)) (hv : lv[i]? = some (some (.long x))) (kk : Zj M G cc nL own Ts rt aw lv (.long x :: st) (pc + 2)) : Zj M G cc nL own Ts rt aw lv (st) pc := by
  obtain ⟨p, l, e, R, s, m, args, below, meth, c, Q, A, cells, slots⟩ := M
  obtain ⟨D, cl, tys, ad⟩ := G
  intro hF H locs ls hP hD hS hl
  obtain ⟨⟨hx, hb, hml, hown, hts⟩, hr, hlk, hK, hA⟩ := id hF
  exact lv_lload hx hb hdg (hl.2.2 _ _ hv) (kk hF H locs ls hP hD hS hl)
theorem z_aload_n {k : Fin 4} {x : Nat} (hdg : decode cc pc = .ok (.aload_n k, 1)) (hv : lv[(k : Nat)]? = some (some (.ref x))) (kk : Zj M G cc nL own Ts rt aw lv (.ref x :: st) (pc + 1)) : Zj M G cc nL own Ts rt aw lv (st) pc := by
  obtain ⟨p, l, e, R, s, m, args, below, meth, c, Q, A, cells, slots⟩ := M
  obtain ⟨D, cl, tys, ad⟩ := G
  intro hF H locs ls hP hD hS hl
  obtain ⟨⟨hx, hb, hml, hown, hts⟩, hr, hlk, hK, hA⟩ := id hF
  exact lv_aload_n hx hb hdg rfl (hl.2.2 _ _ hv) (kk hF H locs ls hP hD hS hl)
theorem z_aload {i : Nat} {x : Nat} (hdg : decode cc pc = .ok (.aload i, 2)) (hv : lv[i]? = some (some (.ref x))) (kk : Zj M G cc nL own Ts rt aw lv (.ref x :: st) (pc + 2)) : Zj M G cc nL own Ts rt aw lv (st) pc := by
  obtain ⟨p, l, e, R, s, m, args, below, meth, c, Q, A, cells, slots⟩ := M
  obtain ⟨D, cl, tys, ad⟩ := G
  intro hF H locs ls hP hD hS hl
  obtain ⟨⟨hx, hb, hml, hown, hts⟩, hr, hlk, hK, hA⟩ := id hF
  exact lv_aload hx hb hdg (hl.2.2 _ _ hv) (kk hF H locs ls hP hD hS hl)
theorem z_istore_n {k : Fin 4} {x : Int32} (hdg : decode cc pc = .ok (.istore_n k, 1)) (hn : (k : Nat) < nL) (hok : zsok lv (k : Nat) = true) (kk : Zj M G cc nL own Ts rt aw (lv.set (k : Nat) (some (.int x))) st (pc + 1)) : Zj M G cc nL own Ts rt aw lv (.int x :: st) pc := by
  obtain ⟨p, l, e, R, s, m, args, below, meth, c, Q, A, cells, slots⟩ := M
  obtain ⟨D, cl, tys, ad⟩ := G
  intro hF H locs ls hP hD hS hl
  obtain ⟨⟨hx, hb, hml, hown, hts⟩, hr, hlk, hK, hA⟩ := id hF
  exact lv_istore_n hx hb hdg rfl (zh_has hl) hn rfl (fun ls' hl' => kk hF H locs ls' hP hD hS (zh_store1 hok hl'))
theorem z_istore {i : Nat} {x : Int32} (hdg : decode cc pc = .ok (.istore i, 2)) (hn : i < nL) (hok : zsok lv i = true) (kk : Zj M G cc nL own Ts rt aw (lv.set i (some (.int x))) st (pc + 2)) : Zj M G cc nL own Ts rt aw lv (.int x :: st) pc := by
  obtain ⟨p, l, e, R, s, m, args, below, meth, c, Q, A, cells, slots⟩ := M
  obtain ⟨D, cl, tys, ad⟩ := G
  intro hF H locs ls hP hD hS hl
  obtain ⟨⟨hx, hb, hml, hown, hts⟩, hr, hlk, hK, hA⟩ := id hF
  exact lv_istore hx hb hdg (zh_has hl) hn rfl (fun ls' hl' => kk hF H locs ls' hP hD hS (zh_store1 hok hl'))
theorem z_astore_n {k : Fin 4} {x : Nat} (hdg : decode cc pc = .ok (.astore_n k, 1)) (hn : (k : Nat) < nL) (hok : zsok lv (k : Nat) = true) (kk : Zj M G cc nL own Ts rt aw (lv.set (k : Nat) (some (.ref x))) st (pc + 1)) : Zj M G cc nL own Ts rt aw lv (.ref x :: st) pc := by
  obtain ⟨p, l, e, R, s, m, args, below, meth, c, Q, A, cells, slots⟩ := M
  obtain ⟨D, cl, tys, ad⟩ := G
  intro hF H locs ls hP hD hS hl
  obtain ⟨⟨hx, hb, hml, hown, hts⟩, hr, hlk, hK, hA⟩ := id hF
  exact lv_astore_n hx hb hdg rfl (zh_has hl) hn rfl (fun ls' hl' => kk hF H locs ls' hP hD hS (zh_store1 hok hl'))
theorem z_astore {i : Nat} {x : Nat} (hdg : decode cc pc = .ok (.astore i, 2)) (hn : i < nL) (hok : zsok lv i = true) (kk : Zj M G cc nL own Ts rt aw (lv.set i (some (.ref x))) st (pc + 2)) : Zj M G cc nL own Ts rt aw lv (.ref x :: st) pc := by
  obtain ⟨p, l, e, R, s, m, args, below, meth, c, Q, A, cells, slots⟩ := M
  obtain ⟨D, cl, tys, ad⟩ := G
  intro hF H locs ls hP hD hS hl
  obtain ⟨⟨hx, hb, hml, hown, hts⟩, hr, hlk, hK, hA⟩ := id hF
  exact lv_astore hx hb hdg (zh_has hl) hn rfl (fun ls' hl' => kk hF H locs ls' hP hD hS (zh_store1 hok hl'))
theorem z_lstore_n {k : Fin 4} {x : Int64} (hdg : decode cc pc = .ok (.lstore_n k, 1)) (hn : (k : Nat) + 1 < nL) (hok : zsok lv (k : Nat) = true) (kk : Zj M G cc nL own Ts rt aw ((lv.set (k : Nat) (some (.long x))).set ((k : Nat) + 1) none) st (pc + 1)) : Zj M G cc nL own Ts rt aw lv (.long x :: st) pc := by
  obtain ⟨p, l, e, R, s, m, args, below, meth, c, Q, A, cells, slots⟩ := M
  obtain ⟨D, cl, tys, ad⟩ := G
  intro hF H locs ls hP hD hS hl
  obtain ⟨⟨hx, hb, hml, hown, hts⟩, hr, hlk, hK, hA⟩ := id hF
  exact lv_lstore_n hx hb hdg rfl (zh_has hl) hn rfl (fun ls' hl' => kk hF H locs ls' hP hD hS (zh_store2 hok hl'))
theorem z_lstore {i : Nat} {x : Int64} (hdg : decode cc pc = .ok (.lstore i, 2)) (hn : i + 1 < nL) (hok : zsok lv i = true) (kk : Zj M G cc nL own Ts rt aw ((lv.set i (some (.long x))).set (i + 1) none) st (pc + 2)) : Zj M G cc nL own Ts rt aw lv (.long x :: st) pc := by
  obtain ⟨p, l, e, R, s, m, args, below, meth, c, Q, A, cells, slots⟩ := M
  obtain ⟨D, cl, tys, ad⟩ := G
  intro hF H locs ls hP hD hS hl
  obtain ⟨⟨hx, hb, hml, hown, hts⟩, hr, hlk, hK, hA⟩ := id hF
  exact lv_lstore hx hb hdg (zh_has hl) hn rfl (fun ls' hl' => kk hF H locs ls' hP hD hS (zh_store2 hok hl'))
theorem z_iinc {i : Nat} {n : Int} {x v : Int32} (hdg : decode cc pc = .ok (.iinc i n, 3)) (hn : i < nL) (hok : zsok lv i = true) (hv : lv[i]? = some (some (.int x))) (hw : x + Int32.ofInt n = v) (kk : Zj M G cc nL own Ts rt aw (lv.set i (some (.int v))) st (pc + 3)) : Zj M G cc nL own Ts rt aw lv st pc := by
  obtain ⟨p, l, e, R, s, m, args, below, meth, c, Q, A, cells, slots⟩ := M
  obtain ⟨D, cl, tys, ad⟩ := G
  intro hF H locs ls hP hD hS hl
  obtain ⟨⟨hx, hb, hml, hown, hts⟩, hr, hlk, hK, hA⟩ := id hF
  obtain ⟨k, hk⟩ := List.getElem?_of_mem (zl_mem (ad := ad) hv)
  exact lv_iinc hx hb hdg (zh_has hl) hk hw hn rfl (fun ls' hl' => kk hF H locs ls' hP hD hS (zh_store1 (v := .int v) hok hl'))
theorem z_iadd {x y : Int32} (hdg : decode cc pc = .ok (.iadd, 1)) (kk : Zj M G cc nL own Ts rt aw lv (.int (x + y) :: st) (pc + 1)) : Zj M G cc nL own Ts rt aw lv (.int y :: .int x :: st) pc := by
  obtain ⟨p, l, e, R, s, m, args, below, meth, c, Q, A, cells, slots⟩ := M
  obtain ⟨D, cl, tys, ad⟩ := G
  intro hF H locs ls hP hD hS hl
  obtain ⟨⟨hx, hb, hml, hown, hts⟩, hr, hlk, hK, hA⟩ := id hF
  exact lv_iadd hx hb hdg (kk hF H locs ls hP hD hS hl)
theorem z_isub {x y : Int32} (hdg : decode cc pc = .ok (.isub, 1)) (kk : Zj M G cc nL own Ts rt aw lv (.int (x - y) :: st) (pc + 1)) : Zj M G cc nL own Ts rt aw lv (.int y :: .int x :: st) pc := by
  obtain ⟨p, l, e, R, s, m, args, below, meth, c, Q, A, cells, slots⟩ := M
  obtain ⟨D, cl, tys, ad⟩ := G
  intro hF H locs ls hP hD hS hl
  obtain ⟨⟨hx, hb, hml, hown, hts⟩, hr, hlk, hK, hA⟩ := id hF
  exact lv_isub hx hb hdg (kk hF H locs ls hP hD hS hl)
theorem z_imul {x y : Int32} (hdg : decode cc pc = .ok (.imul, 1)) (kk : Zj M G cc nL own Ts rt aw lv (.int (x * y) :: st) (pc + 1)) : Zj M G cc nL own Ts rt aw lv (.int y :: .int x :: st) pc := by
  obtain ⟨p, l, e, R, s, m, args, below, meth, c, Q, A, cells, slots⟩ := M
  obtain ⟨D, cl, tys, ad⟩ := G
  intro hF H locs ls hP hD hS hl
  obtain ⟨⟨hx, hb, hml, hown, hts⟩, hr, hlk, hK, hA⟩ := id hF
  exact lv_imul hx hb hdg (kk hF H locs ls hP hD hS hl)
theorem z_iand {x y : Int32} (hdg : decode cc pc = .ok (.iand, 1)) (kk : Zj M G cc nL own Ts rt aw lv (.int (x &&& y) :: st) (pc + 1)) : Zj M G cc nL own Ts rt aw lv (.int y :: .int x :: st) pc := by
  obtain ⟨p, l, e, R, s, m, args, below, meth, c, Q, A, cells, slots⟩ := M
  obtain ⟨D, cl, tys, ad⟩ := G
  intro hF H locs ls hP hD hS hl
  obtain ⟨⟨hx, hb, hml, hown, hts⟩, hr, hlk, hK, hA⟩ := id hF
  exact lv_iand hx hb hdg (kk hF H locs ls hP hD hS hl)
theorem z_ior {x y : Int32} (hdg : decode cc pc = .ok (.ior, 1)) (kk : Zj M G cc nL own Ts rt aw lv (.int (x ||| y) :: st) (pc + 1)) : Zj M G cc nL own Ts rt aw lv (.int y :: .int x :: st) pc := by
  obtain ⟨p, l, e, R, s, m, args, below, meth, c, Q, A, cells, slots⟩ := M
  obtain ⟨D, cl, tys, ad⟩ := G
  intro hF H locs ls hP hD hS hl
  obtain ⟨⟨hx, hb, hml, hown, hts⟩, hr, hlk, hK, hA⟩ := id hF
  exact lv_ior hx hb hdg (kk hF H locs ls hP hD hS hl)
theorem z_ixor {x y : Int32} (hdg : decode cc pc = .ok (.ixor, 1)) (kk : Zj M G cc nL own Ts rt aw lv (.int (x ^^^ y) :: st) (pc + 1)) : Zj M G cc nL own Ts rt aw lv (.int y :: .int x :: st) pc := by
  obtain ⟨p, l, e, R, s, m, args, below, meth, c, Q, A, cells, slots⟩ := M
  obtain ⟨D, cl, tys, ad⟩ := G
  intro hF H locs ls hP hD hS hl
  obtain ⟨⟨hx, hb, hml, hown, hts⟩, hr, hlk, hK, hA⟩ := id hF
  exact lv_ixor hx hb hdg (kk hF H locs ls hP hD hS hl)
theorem z_ishl {x y : Int32} (hdg : decode cc pc = .ok (.ishl, 1)) (kk : Zj M G cc nL own Ts rt aw lv (.int (x <<< (y &&& 31)) :: st) (pc + 1)) : Zj M G cc nL own Ts rt aw lv (.int y :: .int x :: st) pc := by
  obtain ⟨p, l, e, R, s, m, args, below, meth, c, Q, A, cells, slots⟩ := M
  obtain ⟨D, cl, tys, ad⟩ := G
  intro hF H locs ls hP hD hS hl
  obtain ⟨⟨hx, hb, hml, hown, hts⟩, hr, hlk, hK, hA⟩ := id hF
  exact lv_ishl hx hb hdg (kk hF H locs ls hP hD hS hl)
theorem z_ishr {x y : Int32} (hdg : decode cc pc = .ok (.ishr, 1)) (kk : Zj M G cc nL own Ts rt aw lv (.int (x >>> (y &&& 31)) :: st) (pc + 1)) : Zj M G cc nL own Ts rt aw lv (.int y :: .int x :: st) pc := by
  obtain ⟨p, l, e, R, s, m, args, below, meth, c, Q, A, cells, slots⟩ := M
  obtain ⟨D, cl, tys, ad⟩ := G
  intro hF H locs ls hP hD hS hl
  obtain ⟨⟨hx, hb, hml, hown, hts⟩, hr, hlk, hK, hA⟩ := id hF
  exact lv_ishr hx hb hdg (kk hF H locs ls hP hD hS hl)
theorem z_idiv {x y : Int32} (hdg : decode cc pc = .ok (.idiv, 1)) (hne : ¬ y = 0) (kk : Zj M G cc nL own Ts rt aw lv (.int (x / y) :: st) (pc + 1)) : Zj M G cc nL own Ts rt aw lv (.int y :: .int x :: st) pc := by
  obtain ⟨p, l, e, R, s, m, args, below, meth, c, Q, A, cells, slots⟩ := M
  obtain ⟨D, cl, tys, ad⟩ := G
  intro hF H locs ls hP hD hS hl
  obtain ⟨⟨hx, hb, hml, hown, hts⟩, hr, hlk, hK, hA⟩ := id hF
  exact lv_idiv hx hb hdg hne (kk hF H locs ls hP hD hS hl)
theorem z_irem {x y : Int32} (hdg : decode cc pc = .ok (.irem, 1)) (hne : ¬ y = 0) (kk : Zj M G cc nL own Ts rt aw lv (.int (x - x / y * y) :: st) (pc + 1)) : Zj M G cc nL own Ts rt aw lv (.int y :: .int x :: st) pc := by
  obtain ⟨p, l, e, R, s, m, args, below, meth, c, Q, A, cells, slots⟩ := M
  obtain ⟨D, cl, tys, ad⟩ := G
  intro hF H locs ls hP hD hS hl
  obtain ⟨⟨hx, hb, hml, hown, hts⟩, hr, hlk, hK, hA⟩ := id hF
  exact lv_irem hx hb hdg hne (kk hF H locs ls hP hD hS hl)
theorem z_ineg {x : Int32} (hdg : decode cc pc = .ok (.ineg, 1)) (kk : Zj M G cc nL own Ts rt aw lv (.int (-x) :: st) (pc + 1)) : Zj M G cc nL own Ts rt aw lv (.int x :: st) pc := by
  obtain ⟨p, l, e, R, s, m, args, below, meth, c, Q, A, cells, slots⟩ := M
  obtain ⟨D, cl, tys, ad⟩ := G
  intro hF H locs ls hP hD hS hl
  obtain ⟨⟨hx, hb, hml, hown, hts⟩, hr, hlk, hK, hA⟩ := id hF
  exact lv_ineg hx hb hdg (kk hF H locs ls hP hD hS hl)
theorem z_iushr {x y : Int32} (hdg : decode cc pc = .ok (.iushr, 1)) (kk : Zj M G cc nL own Ts rt aw lv (.int ((x.toUInt32 >>> (y.toUInt32 &&& Int32.toUInt32 31)).toInt32) :: st) (pc + 1)) : Zj M G cc nL own Ts rt aw lv (.int y :: .int x :: st) pc := by
  obtain ⟨p, l, e, R, s, m, args, below, meth, c, Q, A, cells, slots⟩ := M
  obtain ⟨D, cl, tys, ad⟩ := G
  intro hF H locs ls hP hD hS hl
  obtain ⟨⟨hx, hb, hml, hown, hts⟩, hr, hlk, hK, hA⟩ := id hF
  exact lv_iushr hx hb hdg rfl (kk hF H locs ls hP hD hS hl)
theorem z_ladd {x y : Int64} (hdg : decode cc pc = .ok (.ladd, 1)) (kk : Zj M G cc nL own Ts rt aw lv (.long (x + y) :: st) (pc + 1)) : Zj M G cc nL own Ts rt aw lv (.long y :: .long x :: st) pc := by
  obtain ⟨p, l, e, R, s, m, args, below, meth, c, Q, A, cells, slots⟩ := M
  obtain ⟨D, cl, tys, ad⟩ := G
  intro hF H locs ls hP hD hS hl
  obtain ⟨⟨hx, hb, hml, hown, hts⟩, hr, hlk, hK, hA⟩ := id hF
  exact lv_ladd hx hb hdg (kk hF H locs ls hP hD hS hl)
theorem z_lsub {x y : Int64} (hdg : decode cc pc = .ok (.lsub, 1)) (kk : Zj M G cc nL own Ts rt aw lv (.long (x - y) :: st) (pc + 1)) : Zj M G cc nL own Ts rt aw lv (.long y :: .long x :: st) pc := by
  obtain ⟨p, l, e, R, s, m, args, below, meth, c, Q, A, cells, slots⟩ := M
  obtain ⟨D, cl, tys, ad⟩ := G
  intro hF H locs ls hP hD hS hl
  obtain ⟨⟨hx, hb, hml, hown, hts⟩, hr, hlk, hK, hA⟩ := id hF
  exact lv_lsub hx hb hdg (kk hF H locs ls hP hD hS hl)
theorem z_lmul {x y : Int64} (hdg : decode cc pc = .ok (.lmul, 1)) (kk : Zj M G cc nL own Ts rt aw lv (.long (x * y) :: st) (pc + 1)) : Zj M G cc nL own Ts rt aw lv (.long y :: .long x :: st) pc := by
  obtain ⟨p, l, e, R, s, m, args, below, meth, c, Q, A, cells, slots⟩ := M
  obtain ⟨D, cl, tys, ad⟩ := G
  intro hF H locs ls hP hD hS hl
  obtain ⟨⟨hx, hb, hml, hown, hts⟩, hr, hlk, hK, hA⟩ := id hF
  exact lv_lmul hx hb hdg (kk hF H locs ls hP hD hS hl)
theorem z_land {x y : Int64} (hdg : decode cc pc = .ok (.land, 1)) (kk : Zj M G cc nL own Ts rt aw lv (.long (x &&& y) :: st) (pc + 1)) : Zj M G cc nL own Ts rt aw lv (.long y :: .long x :: st) pc := by
  obtain ⟨p, l, e, R, s, m, args, below, meth, c, Q, A, cells, slots⟩ := M
  obtain ⟨D, cl, tys, ad⟩ := G
  intro hF H locs ls hP hD hS hl
  obtain ⟨⟨hx, hb, hml, hown, hts⟩, hr, hlk, hK, hA⟩ := id hF
  exact lv_land hx hb hdg (kk hF H locs ls hP hD hS hl)
theorem z_lor {x y : Int64} (hdg : decode cc pc = .ok (.lor, 1)) (kk : Zj M G cc nL own Ts rt aw lv (.long (x ||| y) :: st) (pc + 1)) : Zj M G cc nL own Ts rt aw lv (.long y :: .long x :: st) pc := by
  obtain ⟨p, l, e, R, s, m, args, below, meth, c, Q, A, cells, slots⟩ := M
  obtain ⟨D, cl, tys, ad⟩ := G
  intro hF H locs ls hP hD hS hl
  obtain ⟨⟨hx, hb, hml, hown, hts⟩, hr, hlk, hK, hA⟩ := id hF
  exact lv_lor hx hb hdg (kk hF H locs ls hP hD hS hl)
theorem z_lxor {x y : Int64} (hdg : decode cc pc = .ok (.lxor, 1)) (kk : Zj M G cc nL own Ts rt aw lv (.long (x ^^^ y) :: st) (pc + 1)) : Zj M G cc nL own Ts rt aw lv (.long y :: .long x :: st) pc := by
  obtain ⟨p, l, e, R, s, m, args, below, meth, c, Q, A, cells, slots⟩ := M
  obtain ⟨D, cl, tys, ad⟩ := G
  intro hF H locs ls hP hD hS hl
  obtain ⟨⟨hx, hb, hml, hown, hts⟩, hr, hlk, hK, hA⟩ := id hF
  exact lv_lxor hx hb hdg (kk hF H locs ls hP hD hS hl)
theorem z_lushr {x : Int64} {y : Int32} (hdg : decode cc pc = .ok (.lushr, 1)) (kk : Zj M G cc nL own Ts rt aw lv (.long ((x.toUInt64 >>> (y.toInt64.toUInt64 &&& Int64.toUInt64 63)).toInt64) :: st) (pc + 1)) : Zj M G cc nL own Ts rt aw lv (.int y :: .long x :: st) pc := by
  obtain ⟨p, l, e, R, s, m, args, below, meth, c, Q, A, cells, slots⟩ := M
  obtain ⟨D, cl, tys, ad⟩ := G
  intro hF H locs ls hP hD hS hl
  obtain ⟨⟨hx, hb, hml, hown, hts⟩, hr, hlk, hK, hA⟩ := id hF
  exact lv_lushr hx hb hdg rfl (kk hF H locs ls hP hD hS hl)
theorem z_lshl {x : Int64} {y : Int32} (hdg : decode cc pc = .ok (.lshl, 1)) (kk : Zj M G cc nL own Ts rt aw lv (.long (x <<< (y.toInt64 &&& 63)) :: st) (pc + 1)) : Zj M G cc nL own Ts rt aw lv (.int y :: .long x :: st) pc := by
  obtain ⟨p, l, e, R, s, m, args, below, meth, c, Q, A, cells, slots⟩ := M
  obtain ⟨D, cl, tys, ad⟩ := G
  intro hF H locs ls hP hD hS hl
  obtain ⟨⟨hx, hb, hml, hown, hts⟩, hr, hlk, hK, hA⟩ := id hF
  exact lv_lshl hx hb hdg rfl (kk hF H locs ls hP hD hS hl)
theorem z_lshr {x : Int64} {y : Int32} (hdg : decode cc pc = .ok (.lshr, 1)) (kk : Zj M G cc nL own Ts rt aw lv (.long (x >>> (y.toInt64 &&& 63)) :: st) (pc + 1)) : Zj M G cc nL own Ts rt aw lv (.int y :: .long x :: st) pc := by
  obtain ⟨p, l, e, R, s, m, args, below, meth, c, Q, A, cells, slots⟩ := M
  obtain ⟨D, cl, tys, ad⟩ := G
  intro hF H locs ls hP hD hS hl
  obtain ⟨⟨hx, hb, hml, hown, hts⟩, hr, hlk, hK, hA⟩ := id hF
  exact lv_lshr hx hb hdg rfl (kk hF H locs ls hP hD hS hl)
theorem z_i2l {x : Int32} (hdg : decode cc pc = .ok (.i2l, 1)) (kk : Zj M G cc nL own Ts rt aw lv (.long x.toInt64 :: st) (pc + 1)) : Zj M G cc nL own Ts rt aw lv (.int x :: st) pc := by
  obtain ⟨p, l, e, R, s, m, args, below, meth, c, Q, A, cells, slots⟩ := M
  obtain ⟨D, cl, tys, ad⟩ := G
  intro hF H locs ls hP hD hS hl
  obtain ⟨⟨hx, hb, hml, hown, hts⟩, hr, hlk, hK, hA⟩ := id hF
  exact lv_i2l hx hb hdg rfl (kk hF H locs ls hP hD hS hl)
theorem z_l2i {x : Int64} (hdg : decode cc pc = .ok (.l2i, 1)) (kk : Zj M G cc nL own Ts rt aw lv (.int x.toInt32 :: st) (pc + 1)) : Zj M G cc nL own Ts rt aw lv (.long x :: st) pc := by
  obtain ⟨p, l, e, R, s, m, args, below, meth, c, Q, A, cells, slots⟩ := M
  obtain ⟨D, cl, tys, ad⟩ := G
  intro hF H locs ls hP hD hS hl
  obtain ⟨⟨hx, hb, hml, hown, hts⟩, hr, hlk, hK, hA⟩ := id hF
  exact lv_l2i hx hb hdg rfl (kk hF H locs ls hP hD hS hl)
theorem z_i2b {x : Int32} (hdg : decode cc pc = .ok (.i2b, 1)) (kk : Zj M G cc nL own Ts rt aw lv (.int x.toInt8.toInt32 :: st) (pc + 1)) : Zj M G cc nL own Ts rt aw lv (.int x :: st) pc := by
  obtain ⟨p, l, e, R, s, m, args, below, meth, c, Q, A, cells, slots⟩ := M
  obtain ⟨D, cl, tys, ad⟩ := G
  intro hF H locs ls hP hD hS hl
  obtain ⟨⟨hx, hb, hml, hown, hts⟩, hr, hlk, hK, hA⟩ := id hF
  exact lv_i2b hx hb hdg rfl (kk hF H locs ls hP hD hS hl)
theorem z_lcmp {x y : Int64} (hdg : decode cc pc = .ok (.lcmp, 1)) (kk : Zj M G cc nL own Ts rt aw lv (.int (lg_cmp x y) :: st) (pc + 1)) : Zj M G cc nL own Ts rt aw lv (.long y :: .long x :: st) pc := by
  obtain ⟨p, l, e, R, s, m, args, below, meth, c, Q, A, cells, slots⟩ := M
  obtain ⟨D, cl, tys, ad⟩ := G
  intro hF H locs ls hP hD hS hl
  obtain ⟨⟨hx, hb, hml, hown, hts⟩, hr, hlk, hK, hA⟩ := id hF
  exact W.lcmp hx hb hdg (kk hF H locs ls hP hD hS hl)
theorem z_dup {va : Value} (hdg : decode cc pc = .ok (.dup, 1)) (hva : va.category = 1) (kk : Zj M G cc nL own Ts rt aw lv (va :: va :: st) (pc + 1)) : Zj M G cc nL own Ts rt aw lv (va :: st) pc := by
  obtain ⟨p, l, e, R, s, m, args, below, meth, c, Q, A, cells, slots⟩ := M
  obtain ⟨D, cl, tys, ad⟩ := G
  intro hF H locs ls hP hD hS hl
  obtain ⟨⟨hx, hb, hml, hown, hts⟩, hr, hlk, hK, hA⟩ := id hF
  exact lv_dup hx hb hdg ((zv_cat ad va).trans hva) (kk hF H locs ls hP hD hS hl)
theorem z_pop {va : Value} (hdg : decode cc pc = .ok (.pop, 1)) (hva : va.category = 1) (kk : Zj M G cc nL own Ts rt aw lv (st) (pc + 1)) : Zj M G cc nL own Ts rt aw lv (va :: st) pc := by
  obtain ⟨p, l, e, R, s, m, args, below, meth, c, Q, A, cells, slots⟩ := M
  obtain ⟨D, cl, tys, ad⟩ := G
  intro hF H locs ls hP hD hS hl
  obtain ⟨⟨hx, hb, hml, hown, hts⟩, hr, hlk, hK, hA⟩ := id hF
  exact lv_pop hx hb hdg ((zv_cat ad va).trans hva) (kk hF H locs ls hP hD hS hl)
theorem z_pop2_2 {va : Value} (hdg : decode cc pc = .ok (.pop2, 1)) (hva : va.category = 2) (kk : Zj M G cc nL own Ts rt aw lv (st) (pc + 1)) : Zj M G cc nL own Ts rt aw lv (va :: st) pc := by
  obtain ⟨p, l, e, R, s, m, args, below, meth, c, Q, A, cells, slots⟩ := M
  obtain ⟨D, cl, tys, ad⟩ := G
  intro hF H locs ls hP hD hS hl
  obtain ⟨⟨hx, hb, hml, hown, hts⟩, hr, hlk, hK, hA⟩ := id hF
  exact lv_pop2_2 hx hb hdg ((zv_cat ad va).trans hva) (kk hF H locs ls hP hD hS hl)
theorem z_dup_x1 {va vb : Value} (hdg : decode cc pc = .ok (.dup_x1, 1)) (hva : va.category = 1) (hvb : vb.category = 1) (kk : Zj M G cc nL own Ts rt aw lv (va :: vb :: va :: st) (pc + 1)) : Zj M G cc nL own Ts rt aw lv (va :: vb :: st) pc := by
  obtain ⟨p, l, e, R, s, m, args, below, meth, c, Q, A, cells, slots⟩ := M
  obtain ⟨D, cl, tys, ad⟩ := G
  intro hF H locs ls hP hD hS hl
  obtain ⟨⟨hx, hb, hml, hown, hts⟩, hr, hlk, hK, hA⟩ := id hF
  exact lv_dup_x1 hx hb hdg ((zv_cat ad va).trans hva) ((zv_cat ad vb).trans hvb) (kk hF H locs ls hP hD hS hl)
theorem z_dup_x2 {va vb vd : Value} (hdg : decode cc pc = .ok (.dup_x2, 1)) (hva : va.category = 1) (hvb : vb.category = 1) (hvd : vd.category = 1) (kk : Zj M G cc nL own Ts rt aw lv (va :: vb :: vd :: va :: st) (pc + 1)) : Zj M G cc nL own Ts rt aw lv (va :: vb :: vd :: st) pc := by
  obtain ⟨p, l, e, R, s, m, args, below, meth, c, Q, A, cells, slots⟩ := M
  obtain ⟨D, cl, tys, ad⟩ := G
  intro hF H locs ls hP hD hS hl
  obtain ⟨⟨hx, hb, hml, hown, hts⟩, hr, hlk, hK, hA⟩ := id hF
  exact lv_dup_x2 hx hb hdg ((zv_cat ad va).trans hva) ((zv_cat ad vb).trans hvb) ((zv_cat ad vd).trans hvd) (kk hF H locs ls hP hD hS hl)
theorem z_dup2_11 {va vb : Value} (hdg : decode cc pc = .ok (.dup2, 1)) (hva : va.category = 1) (hvb : vb.category = 1) (kk : Zj M G cc nL own Ts rt aw lv (va :: vb :: va :: vb :: st) (pc + 1)) : Zj M G cc nL own Ts rt aw lv (va :: vb :: st) pc := by
  obtain ⟨p, l, e, R, s, m, args, below, meth, c, Q, A, cells, slots⟩ := M
  obtain ⟨D, cl, tys, ad⟩ := G
  intro hF H locs ls hP hD hS hl
  obtain ⟨⟨hx, hb, hml, hown, hts⟩, hr, hlk, hK, hA⟩ := id hF
  exact lv_dup2_11 hx hb hdg ((zv_cat ad va).trans hva) ((zv_cat ad vb).trans hvb) (kk hF H locs ls hP hD hS hl)
theorem z_dup2_2 {va : Value} (hdg : decode cc pc = .ok (.dup2, 1)) (hva : va.category = 2) (kk : Zj M G cc nL own Ts rt aw lv (va :: va :: st) (pc + 1)) : Zj M G cc nL own Ts rt aw lv (va :: st) pc := by
  obtain ⟨p, l, e, R, s, m, args, below, meth, c, Q, A, cells, slots⟩ := M
  obtain ⟨D, cl, tys, ad⟩ := G
  intro hF H locs ls hP hD hS hl
  obtain ⟨⟨hx, hb, hml, hown, hts⟩, hr, hlk, hK, hA⟩ := id hF
  exact lv_dup2_2 hx hb hdg ((zv_cat ad va).trans hva) (kk hF H locs ls hP hD hS hl)
theorem z_if_eq {x : Int32} {off : Int} {tgt : Nat} (hdg : decode cc pc = .ok (.ifCond .eq off, 3)) (ht : (pc : Int) + off = (tgt : Int)) (kt : x = 0 → Zj M G cc nL own Ts rt aw lv st tgt) (kf : ¬ x = 0 → Zj M G cc nL own Ts rt aw lv st (pc + 3)) : Zj M G cc nL own Ts rt aw lv (.int x :: st) pc := by
  obtain ⟨p, l, e, R, s, m, args, below, meth, c, Q, A, cells, slots⟩ := M
  obtain ⟨D, cl, tys, ad⟩ := G
  intro hF H locs ls hP hD hS hl
  obtain ⟨⟨hx, hb, hml, hown, hts⟩, hr, hlk, hK, hA⟩ := id hF
  exact lv_if_eq hx hb hdg ht (fun h => kt h hF H locs ls hP hD hS hl) (fun h => kf h hF H locs ls hP hD hS hl)
theorem z_icmp_eq {x y : Int32} {off : Int} {tgt : Nat} (hdg : decode cc pc = .ok (.if_icmp .eq off, 3)) (ht : (pc : Int) + off = (tgt : Int)) (kt : x = y → Zj M G cc nL own Ts rt aw lv st tgt) (kf : ¬ x = y → Zj M G cc nL own Ts rt aw lv st (pc + 3)) : Zj M G cc nL own Ts rt aw lv (.int y :: .int x :: st) pc := by
  obtain ⟨p, l, e, R, s, m, args, below, meth, c, Q, A, cells, slots⟩ := M
  obtain ⟨D, cl, tys, ad⟩ := G
  intro hF H locs ls hP hD hS hl
  obtain ⟨⟨hx, hb, hml, hown, hts⟩, hr, hlk, hK, hA⟩ := id hF
  exact lv_icmp_eq hx hb hdg ht (fun h => kt h hF H locs ls hP hD hS hl) (fun h => kf h hF H locs ls hP hD hS hl)
theorem z_if_ne {x : Int32} {off : Int} {tgt : Nat} (hdg : decode cc pc = .ok (.ifCond .ne off, 3)) (ht : (pc : Int) + off = (tgt : Int)) (kt : ¬ x = 0 → Zj M G cc nL own Ts rt aw lv st tgt) (kf : x = 0 → Zj M G cc nL own Ts rt aw lv st (pc + 3)) : Zj M G cc nL own Ts rt aw lv (.int x :: st) pc := by
  obtain ⟨p, l, e, R, s, m, args, below, meth, c, Q, A, cells, slots⟩ := M
  obtain ⟨D, cl, tys, ad⟩ := G
  intro hF H locs ls hP hD hS hl
  obtain ⟨⟨hx, hb, hml, hown, hts⟩, hr, hlk, hK, hA⟩ := id hF
  exact lv_if_ne hx hb hdg ht (fun h => kt h hF H locs ls hP hD hS hl) (fun h => kf h hF H locs ls hP hD hS hl)
theorem z_icmp_ne {x y : Int32} {off : Int} {tgt : Nat} (hdg : decode cc pc = .ok (.if_icmp .ne off, 3)) (ht : (pc : Int) + off = (tgt : Int)) (kt : ¬ x = y → Zj M G cc nL own Ts rt aw lv st tgt) (kf : x = y → Zj M G cc nL own Ts rt aw lv st (pc + 3)) : Zj M G cc nL own Ts rt aw lv (.int y :: .int x :: st) pc := by
  obtain ⟨p, l, e, R, s, m, args, below, meth, c, Q, A, cells, slots⟩ := M
  obtain ⟨D, cl, tys, ad⟩ := G
  intro hF H locs ls hP hD hS hl
  obtain ⟨⟨hx, hb, hml, hown, hts⟩, hr, hlk, hK, hA⟩ := id hF
  exact lv_icmp_ne hx hb hdg ht (fun h => kt h hF H locs ls hP hD hS hl) (fun h => kf h hF H locs ls hP hD hS hl)
theorem z_if_lt {x : Int32} {off : Int} {tgt : Nat} (hdg : decode cc pc = .ok (.ifCond .lt off, 3)) (ht : (pc : Int) + off = (tgt : Int)) (kt : x < 0 → Zj M G cc nL own Ts rt aw lv st tgt) (kf : ¬ x < 0 → Zj M G cc nL own Ts rt aw lv st (pc + 3)) : Zj M G cc nL own Ts rt aw lv (.int x :: st) pc := by
  obtain ⟨p, l, e, R, s, m, args, below, meth, c, Q, A, cells, slots⟩ := M
  obtain ⟨D, cl, tys, ad⟩ := G
  intro hF H locs ls hP hD hS hl
  obtain ⟨⟨hx, hb, hml, hown, hts⟩, hr, hlk, hK, hA⟩ := id hF
  exact lv_if_lt hx hb hdg ht (fun h => kt h hF H locs ls hP hD hS hl) (fun h => kf h hF H locs ls hP hD hS hl)
theorem z_icmp_lt {x y : Int32} {off : Int} {tgt : Nat} (hdg : decode cc pc = .ok (.if_icmp .lt off, 3)) (ht : (pc : Int) + off = (tgt : Int)) (kt : x < y → Zj M G cc nL own Ts rt aw lv st tgt) (kf : ¬ x < y → Zj M G cc nL own Ts rt aw lv st (pc + 3)) : Zj M G cc nL own Ts rt aw lv (.int y :: .int x :: st) pc := by
  obtain ⟨p, l, e, R, s, m, args, below, meth, c, Q, A, cells, slots⟩ := M
  obtain ⟨D, cl, tys, ad⟩ := G
  intro hF H locs ls hP hD hS hl
  obtain ⟨⟨hx, hb, hml, hown, hts⟩, hr, hlk, hK, hA⟩ := id hF
  exact lv_icmp_lt hx hb hdg ht (fun h => kt h hF H locs ls hP hD hS hl) (fun h => kf h hF H locs ls hP hD hS hl)
theorem z_if_ge {x : Int32} {off : Int} {tgt : Nat} (hdg : decode cc pc = .ok (.ifCond .ge off, 3)) (ht : (pc : Int) + off = (tgt : Int)) (kt : 0 ≤ x → Zj M G cc nL own Ts rt aw lv st tgt) (kf : ¬ 0 ≤ x → Zj M G cc nL own Ts rt aw lv st (pc + 3)) : Zj M G cc nL own Ts rt aw lv (.int x :: st) pc := by
  obtain ⟨p, l, e, R, s, m, args, below, meth, c, Q, A, cells, slots⟩ := M
  obtain ⟨D, cl, tys, ad⟩ := G
  intro hF H locs ls hP hD hS hl
  obtain ⟨⟨hx, hb, hml, hown, hts⟩, hr, hlk, hK, hA⟩ := id hF
  exact lv_if_ge hx hb hdg ht (fun h => kt h hF H locs ls hP hD hS hl) (fun h => kf h hF H locs ls hP hD hS hl)
theorem z_icmp_ge {x y : Int32} {off : Int} {tgt : Nat} (hdg : decode cc pc = .ok (.if_icmp .ge off, 3)) (ht : (pc : Int) + off = (tgt : Int)) (kt : y ≤ x → Zj M G cc nL own Ts rt aw lv st tgt) (kf : ¬ y ≤ x → Zj M G cc nL own Ts rt aw lv st (pc + 3)) : Zj M G cc nL own Ts rt aw lv (.int y :: .int x :: st) pc := by
  obtain ⟨p, l, e, R, s, m, args, below, meth, c, Q, A, cells, slots⟩ := M
  obtain ⟨D, cl, tys, ad⟩ := G
  intro hF H locs ls hP hD hS hl
  obtain ⟨⟨hx, hb, hml, hown, hts⟩, hr, hlk, hK, hA⟩ := id hF
  exact lv_icmp_ge hx hb hdg ht (fun h => kt h hF H locs ls hP hD hS hl) (fun h => kf h hF H locs ls hP hD hS hl)
theorem z_if_gt {x : Int32} {off : Int} {tgt : Nat} (hdg : decode cc pc = .ok (.ifCond .gt off, 3)) (ht : (pc : Int) + off = (tgt : Int)) (kt : 0 < x → Zj M G cc nL own Ts rt aw lv st tgt) (kf : ¬ 0 < x → Zj M G cc nL own Ts rt aw lv st (pc + 3)) : Zj M G cc nL own Ts rt aw lv (.int x :: st) pc := by
  obtain ⟨p, l, e, R, s, m, args, below, meth, c, Q, A, cells, slots⟩ := M
  obtain ⟨D, cl, tys, ad⟩ := G
  intro hF H locs ls hP hD hS hl
  obtain ⟨⟨hx, hb, hml, hown, hts⟩, hr, hlk, hK, hA⟩ := id hF
  exact lv_if_gt hx hb hdg ht (fun h => kt h hF H locs ls hP hD hS hl) (fun h => kf h hF H locs ls hP hD hS hl)
theorem z_icmp_gt {x y : Int32} {off : Int} {tgt : Nat} (hdg : decode cc pc = .ok (.if_icmp .gt off, 3)) (ht : (pc : Int) + off = (tgt : Int)) (kt : y < x → Zj M G cc nL own Ts rt aw lv st tgt) (kf : ¬ y < x → Zj M G cc nL own Ts rt aw lv st (pc + 3)) : Zj M G cc nL own Ts rt aw lv (.int y :: .int x :: st) pc := by
  obtain ⟨p, l, e, R, s, m, args, below, meth, c, Q, A, cells, slots⟩ := M
  obtain ⟨D, cl, tys, ad⟩ := G
  intro hF H locs ls hP hD hS hl
  obtain ⟨⟨hx, hb, hml, hown, hts⟩, hr, hlk, hK, hA⟩ := id hF
  exact lv_icmp_gt hx hb hdg ht (fun h => kt h hF H locs ls hP hD hS hl) (fun h => kf h hF H locs ls hP hD hS hl)
theorem z_if_le {x : Int32} {off : Int} {tgt : Nat} (hdg : decode cc pc = .ok (.ifCond .le off, 3)) (ht : (pc : Int) + off = (tgt : Int)) (kt : x ≤ 0 → Zj M G cc nL own Ts rt aw lv st tgt) (kf : ¬ x ≤ 0 → Zj M G cc nL own Ts rt aw lv st (pc + 3)) : Zj M G cc nL own Ts rt aw lv (.int x :: st) pc := by
  obtain ⟨p, l, e, R, s, m, args, below, meth, c, Q, A, cells, slots⟩ := M
  obtain ⟨D, cl, tys, ad⟩ := G
  intro hF H locs ls hP hD hS hl
  obtain ⟨⟨hx, hb, hml, hown, hts⟩, hr, hlk, hK, hA⟩ := id hF
  exact lv_if_le hx hb hdg ht (fun h => kt h hF H locs ls hP hD hS hl) (fun h => kf h hF H locs ls hP hD hS hl)
theorem z_icmp_le {x y : Int32} {off : Int} {tgt : Nat} (hdg : decode cc pc = .ok (.if_icmp .le off, 3)) (ht : (pc : Int) + off = (tgt : Int)) (kt : x ≤ y → Zj M G cc nL own Ts rt aw lv st tgt) (kf : ¬ x ≤ y → Zj M G cc nL own Ts rt aw lv st (pc + 3)) : Zj M G cc nL own Ts rt aw lv (.int y :: .int x :: st) pc := by
  obtain ⟨p, l, e, R, s, m, args, below, meth, c, Q, A, cells, slots⟩ := M
  obtain ⟨D, cl, tys, ad⟩ := G
  intro hF H locs ls hP hD hS hl
  obtain ⟨⟨hx, hb, hml, hown, hts⟩, hr, hlk, hK, hA⟩ := id hF
  exact lv_icmp_le hx hb hdg ht (fun h => kt h hF H locs ls hP hD hS hl) (fun h => kf h hF H locs ls hP hD hS hl)
theorem z_goto {off : Int} {tgt : Nat} (hdg : decode cc pc = .ok (.goto off, 3)) (ht : (pc : Int) + off = (tgt : Int)) (kk : Zj M G cc nL own Ts rt aw lv st tgt) : Zj M G cc nL own Ts rt aw lv st pc := by
  obtain ⟨p, l, e, R, s, m, args, below, meth, c, Q, A, cells, slots⟩ := M
  obtain ⟨D, cl, tys, ad⟩ := G
  intro hF H locs ls hP hD hS hl
  obtain ⟨⟨hx, hb, hml, hown, hts⟩, hr, hlk, hK, hA⟩ := id hF
  exact lv_goto hx hb hdg ht (kk hF H locs ls hP hD hS hl)
theorem z_tableIn {dflt lo hi : Int} {offs : Array Int} {len : Nat} {x : Int32} {off : Int} {tgt : Nat} (hdg : decode cc pc = .ok (.tableswitch dflt lo hi offs, len)) (h1 : ¬ x.toInt < lo) (h2 : ¬ hi < x.toInt) (ho : offs[(x.toInt - lo).toNat]? = some off) (ht : (pc : Int) + off = (tgt : Int)) (kk : Zj M G cc nL own Ts rt aw lv st tgt) : Zj M G cc nL own Ts rt aw lv (.int x :: st) pc := by
  obtain ⟨p, l, e, R, s, m, args, below, meth, c, Q, A, cells, slots⟩ := M
  obtain ⟨D, cl, tys, ad⟩ := G
  intro hF H locs ls hP hD hS hl
  obtain ⟨⟨hx, hb, hml, hown, hts⟩, hr, hlk, hK, hA⟩ := id hF
  exact lv_tableIn hx hb hdg h1 h2 ho ht (kk hF H locs ls hP hD hS hl)
theorem z_tableOut {dflt lo hi : Int} {offs : Array Int} {len : Nat} {x : Int32} {tgt : Nat} (hdg : decode cc pc = .ok (.tableswitch dflt lo hi offs, len)) (h : x.toInt < lo ∨ hi < x.toInt) (ht : (pc : Int) + dflt = (tgt : Int)) (kk : Zj M G cc nL own Ts rt aw lv st tgt) : Zj M G cc nL own Ts rt aw lv (.int x :: st) pc := by
  obtain ⟨p, l, e, R, s, m, args, below, meth, c, Q, A, cells, slots⟩ := M
  obtain ⟨D, cl, tys, ad⟩ := G
  intro hF H locs ls hP hD hS hl
  obtain ⟨⟨hx, hb, hml, hown, hts⟩, hr, hlk, hK, hA⟩ := id hF
  exact lv_tableOut hx hb hdg h ht (kk hF H locs ls hP hD hS hl)
theorem z_topi {x : Int32} (k : ∀ y : Int32, y = x → Zj M G cc nL own Ts rt aw lv (.int y :: st) pc) : Zj M G cc nL own Ts rt aw lv (.int x :: st) pc := k x rfl
theorem z_topl {x : Int64} (k : ∀ y : Int64, y = x → Zj M G cc nL own Ts rt aw lv (.long y :: st) pc) : Zj M G cc nL own Ts rt aw lv (.long x :: st) pc := k x rfl
theorem z_get {C ref : String} {T : u_T} {N ci index i : Nat} {fs : List Value} {v : Value} (k : Nat) (hdg : decode cc pc = .ok (.getfield index, 3)) (he : aw[i]? = some (.inr (ci, fs))) (hc : G.2.1[ci]? = some (C, T, N)) (hv : fs[k]? = some v) (hk : k < N) (hin : ∀ w ∈ u_ws C T N, w ∈ Ts) (hlink : Cond.fieldLink own index ref (T k).2.1 (T k).2.2.1 ∈ Ts) (hsame : (T k).1 = ref) (kk : Zj M G cc nL own Ts rt aw lv (v :: st) (pc + 3)) : Zj M G cc nL own Ts rt aw lv (.ref i :: st) pc := by
  obtain ⟨p, l, e, R, s, m, args, below, meth, c, Q, A, cells, slots⟩ := M
  obtain ⟨D, cl, tys, ad⟩ := G
  intro hF H locs ls hP hD hS hl
  obtain ⟨⟨hx, hb, hml, hown, hts⟩, hr, hlk, hK, hA⟩ := id hF
  have he' : (zw ad aw)[i]? = some (ad i, .inr (ci, fs.map (zv ad))) := zw_get he
  exact va_get hx hb hts hin hown hK hP i he' hc k hk (hts _ hlink) (fun x h => by rw [← hsame]; exact h) (v := zv ad v) (by rw [List.getElem?_map, hv]; rfl) hdg (kk hF H locs ls hP hD hS hl)
theorem z_put {C ref : String} {T : u_T} {N ci index i : Nat} {fs : List Value} {v : Value} {ty : FieldType} (k : Nat) (ty0 : Nat → FieldType) (hdg : decode cc pc = .ok (.putfield index, 3)) (he : aw[i]? = some (.inr (ci, fs))) (hc : G.2.1[ci]? = some (C, T, N)) (hk : k < N) (hin : ∀ w ∈ u_ws C T N, w ∈ Ts) (hlink : Cond.fieldLink own index ref (T k).2.1 (T k).2.2.1 ∈ Ts) (hsame : (T k).1 = ref) (hty : ∀ k, k < N → parseFieldDescriptor (T k).2.2.1 = some (ty0 k)) (hnm : ∀ a, a < N → ∀ b, b < N → a ≠ b → (T a).2.1 ≠ (T b).2.1) (hfin : (T k).2.2.2 = false) (hd : parseFieldDescriptor (T k).2.2.1 = some ty) (hn : ∀ f : Nat → Nat, narrow ty (zv f v) = zv f v ∧ fits ty (zv f v) = true) (hl9 : k < fs.length) (kk : Zj M G cc nL own Ts rt (aw.set i (.inr (ci, fs.set k v))) lv st (pc + 3)) : Zj M G cc nL own Ts rt aw lv (v :: .ref i :: st) pc := by
  obtain ⟨p, l, e, R, s, m, args, below, meth, c, Q, A, cells, slots⟩ := M
  obtain ⟨D, cl, tys, ad⟩ := G
  intro hF H locs ls hP hD hS hl
  obtain ⟨⟨hx, hb, hml, hown, hts⟩, hr, hlk, hK, hA⟩ := id hF
  have he' : (zw ad aw)[i]? = some (ad i, .inr (ci, fs.map (zv ad))) := zw_get he
  refine va_put hx hb hts hin ty0 hty hnm hown hK hP hD hS i he' hc k hk (hts _ hlink) (fun x h => by rw [← hsame]; exact h) hfin hd (hn ad).1 (hn ad).2 (by rw [List.length_map]; exact hl9) hdg (fun H1 locs1 hP1 hD1 hS1 => ?_)
  have e9 : (zw ad aw).set i (ad i, .inr (ci, (fs.map (zv ad)).set k (zv ad v))) = zw ad (aw.set i (.inr (ci, fs.set k v))) := by
    rw [zw_set]; simp only [zc, List.map_set]
  rw [e9] at hP1 hD1
  exact kk hF H1 locs1 ls hP1 hD1 hS1 hl
theorem z_iald {cA : ClassId} {n a t0 : Nat} {f : Nat → Int32} {i : Int32} (hdg : decode cc pc = .ok (.iaload, 1)) (ha : aw[a]? = some (.inl (cA, n, .inl f))) (ht : G.2.2.1[t0]? = some (cA, .int)) (hin : vp_in i n) (kk : Zj M G cc nL own Ts rt aw lv (.int (f i.toNatClampNeg) :: st) (pc + 1)) : Zj M G cc nL own Ts rt aw lv (.int i :: .ref a :: st) pc := by
  obtain ⟨p, l, e, R, s, m, args, below, meth, c, Q, A, cells, slots⟩ := M
  obtain ⟨D, cl, tys, ad⟩ := G
  intro hF H locs ls hP hD hS hl
  obtain ⟨⟨hx, hb, hml, hown, hts⟩, hr, hlk, hK, hA⟩ := id hF
  have he' : (zw ad aw)[a]? = some (ad a, .inl (cA, n, .inl f)) := zw_get ha
  exact va_iald hx hb hK hP a t0 he' ht hin hdg (kk hF H locs ls hP hD hS hl)
theorem z_lald {cA : ClassId} {n a t0 : Nat} {f : Nat → Int64} {i : Int32} (hdg : decode cc pc = .ok (.laload, 1)) (ha : aw[a]? = some (.inl (cA, n, .inr (.inl f)))) (ht : G.2.2.1[t0]? = some (cA, .long)) (hin : vp_in i n) (kk : Zj M G cc nL own Ts rt aw lv (.long (f i.toNatClampNeg) :: st) (pc + 1)) : Zj M G cc nL own Ts rt aw lv (.int i :: .ref a :: st) pc := by
  obtain ⟨p, l, e, R, s, m, args, below, meth, c, Q, A, cells, slots⟩ := M
  obtain ⟨D, cl, tys, ad⟩ := G
  intro hF H locs ls hP hD hS hl
  obtain ⟨⟨hx, hb, hml, hown, hts⟩, hr, hlk, hK, hA⟩ := id hF
  have he' : (zw ad aw)[a]? = some (ad a, .inl (cA, n, .inr (.inl f))) := zw_get ha
  exact va_lald hx hb hK hP a t0 he' ht hin hdg (kk hF H locs ls hP hD hS hl)
theorem z_aald {cA : ClassId} {n a t0 b : Nat} {C : String} {f : Nat → Option Nat} {i : Int32} (hdg : decode cc pc = .ok (.aaload, 1)) (ha : aw[a]? = some (.inl (cA, n, .inr (.inr (.inr (.inr f)))))) (ht : G.2.2.1[t0]? = some (cA, .object C)) (hin : vp_in i n) (hb9 : f i.toNatClampNeg = some b) (kk : Zj M G cc nL own Ts rt aw lv (.ref b :: st) (pc + 1)) : Zj M G cc nL own Ts rt aw lv (.int i :: .ref a :: st) pc := by
  obtain ⟨p, l, e, R, s, m, args, below, meth, c, Q, A, cells, slots⟩ := M
  obtain ⟨D, cl, tys, ad⟩ := G
  intro hF H locs ls hP hD hS hl
  obtain ⟨⟨hx, hb, hml, hown, hts⟩, hr, hlk, hK, hA⟩ := id hF
  have he' : (zw ad aw)[a]? = some (ad a, .inl (cA, n, .inr (.inr (.inr (.inr (fun j => (f j).map ad)))))) := zw_get ha
  refine va_aldq hx hb hK hP a t0 he' ht hin hdg ?_
  simp only [hb9]
  exact kk hF H locs ls hP hD hS hl
theorem z_iast {cA : ClassId} {n a t0 : Nat} {f : Nat → Int32} {i x : Int32} (hdg : decode cc pc = .ok (.iastore, 1)) (ha : aw[a]? = some (.inl (cA, n, .inl f))) (ht : G.2.2.1[t0]? = some (cA, .int)) (hin : vp_in i n) (kk : Zj M G cc nL own Ts rt (aw.set a (.inl (cA, n, .inl (upd f i.toNatClampNeg x)))) lv st (pc + 1)) : Zj M G cc nL own Ts rt aw lv (.int x :: .int i :: .ref a :: st) pc := by
  obtain ⟨p, l, e, R, s, m, args, below, meth, c, Q, A, cells, slots⟩ := M
  obtain ⟨D, cl, tys, ad⟩ := G
  intro hF H locs ls hP hD hS hl
  obtain ⟨⟨hx, hb, hml, hown, hts⟩, hr, hlk, hK, hA⟩ := id hF
  have he' : (zw ad aw)[a]? = some (ad a, .inl (cA, n, .inl f)) := zw_get ha
  refine va_iast hx hb hK hP hD hS a t0 he' ht hin hdg (fun H1 locs1 hP1 hD1 hS1 => ?_)
  have e9 : (zw ad aw).set a (ad a, .inl (cA, n, .inl (upd f i.toNatClampNeg x))) = zw ad (aw.set a (.inl (cA, n, .inl (upd f i.toNatClampNeg x)))) := by
    rw [zw_set]; rfl
  rw [e9] at hP1 hD1
  exact kk hF H1 locs1 ls hP1 hD1 hS1 hl
theorem z_last {cA : ClassId} {n a t0 : Nat} {f : Nat → Int64} {i : Int32} {x : Int64} (hdg : decode cc pc = .ok (.lastore, 1)) (ha : aw[a]? = some (.inl (cA, n, .inr (.inl f)))) (ht : G.2.2.1[t0]? = some (cA, .long)) (hin : vp_in i n) (kk : Zj M G cc nL own Ts rt (aw.set a (.inl (cA, n, .inr (.inl (vp_updL f i.toNatClampNeg x))))) lv st (pc + 1)) : Zj M G cc nL own Ts rt aw lv (.long x :: .int i :: .ref a :: st) pc := by
  obtain ⟨p, l, e, R, s, m, args, below, meth, c, Q, A, cells, slots⟩ := M
  obtain ⟨D, cl, tys, ad⟩ := G
  intro hF H locs ls hP hD hS hl
  obtain ⟨⟨hx, hb, hml, hown, hts⟩, hr, hlk, hK, hA⟩ := id hF
  have he' : (zw ad aw)[a]? = some (ad a, .inl (cA, n, .inr (.inl f))) := zw_get ha
  refine va_last hx hb hK hP hD hS a t0 he' ht hin hdg (fun H1 locs1 hP1 hD1 hS1 => ?_)
  have e9 : (zw ad aw).set a (ad a, .inl (cA, n, .inr (.inl (vp_updL f i.toNatClampNeg x)))) = zw ad (aw.set a (.inl (cA, n, .inr (.inl (vp_updL f i.toNatClampNeg x))))) := by
    rw [zw_set]; rfl
  rw [e9] at hP1 hD1
  exact kk hF H1 locs1 ls hP1 hD1 hS1 hl
theorem z_alen {cA : ClassId} {a t0 : Nat} {x : vp_A} {ty : FieldType} {v : Int32} (hdg : decode cc pc = .ok (.arraylength, 1)) (ha : aw[a]? = some (.inl (cA, x))) (ht : G.2.2.1[t0]? = some (cA, ty)) (hv : Int32.ofNat x.1 = v) (kk : Zj M G cc nL own Ts rt aw lv (.int v :: st) (pc + 1)) : Zj M G cc nL own Ts rt aw lv (.ref a :: st) pc := by
  obtain ⟨p, l, e, R, s, m, args, below, meth, c, Q, A, cells, slots⟩ := M
  obtain ⟨D, cl, tys, ad⟩ := G
  intro hF H locs ls hP hD hS hl
  obtain ⟨⟨hx, hb, hml, hown, hts⟩, hr, hlk, hK, hA⟩ := id hF
  obtain ⟨n, x⟩ := x
  have h9 : ∃ y : vp_A, y.1 = n ∧ zc ad (.inl (cA, (n, x))) = .inl (cA, y) := by
    rcases x with f | f | f | f | f
    · exact ⟨_, rfl, rfl⟩
    · exact ⟨_, rfl, rfl⟩
    · exact ⟨_, rfl, rfl⟩
    · exact ⟨_, rfl, rfl⟩
    · exact ⟨(n, .inr (.inr (.inr (.inr (fun j => (f j).map ad))))), rfl, rfl⟩
  obtain ⟨y, e1, e2⟩ := h9
  have he' := zw_get (ad := ad) ha
  rw [e2] at he'
  exact va_alen hx hb hK hP a t0 he' ht (v := v) (by rw [e1]; exact hv) hdg (kk hF H locs ls hP hD hS hl)
theorem z_iinc1 {i : Nat} {x : Int32} (hdg : decode cc pc = .ok (.iinc i 1, 3)) (hn : i < nL) (hok : zsok lv i = true) (hv : lv[i]? = some (some (.int x))) (kk : Zj M G cc nL own Ts rt aw (lv.set i (some (.int (x + 1)))) st (pc + 3)) : Zj M G cc nL own Ts rt aw lv st pc := z_iinc hdg hn hok hv rfl kk
theorem z_ialdN {cA : ClassId} {n a t0 k : Nat} {f : Nat → Int32} {i : Int32} (hdg : decode cc pc = .ok (.iaload, 1)) (ha : aw[a]? = some (.inl (cA, n, .inl f))) (ht : G.2.2.1[t0]? = some (cA, .int)) (hi : i = nI k) (hk : k < n) (hn : n < 2 ^ 31) (kk : Zj M G cc nL own Ts rt aw lv (.int (f k) :: st) (pc + 1)) : Zj M G cc nL own Ts rt aw lv (.int i :: .ref a :: st) pc := by
  subst hi
  refine z_iald hdg ha ht (vp_in_nI hk hn) ?_
  rw [nI_clamp (by omega)]
  exact kk
theorem z_laldN {cA : ClassId} {n a t0 k : Nat} {f : Nat → Int64} {i : Int32} (hdg : decode cc pc = .ok (.laload, 1)) (ha : aw[a]? = some (.inl (cA, n, .inr (.inl f)))) (ht : G.2.2.1[t0]? = some (cA, .long)) (hi : i = nI k) (hk : k < n) (hn : n < 2 ^ 31) (kk : Zj M G cc nL own Ts rt aw lv (.long (f k) :: st) (pc + 1)) : Zj M G cc nL own Ts rt aw lv (.int i :: .ref a :: st) pc := by
  subst hi
  refine z_lald hdg ha ht (vp_in_nI hk hn) ?_
  rw [nI_clamp (by omega)]
  exact kk
theorem z_aaldN {cA : ClassId} {n a t0 b k : Nat} {C : String} {f : Nat → Option Nat} {i : Int32} (hdg : decode cc pc = .ok (.aaload, 1)) (ha : aw[a]? = some (.inl (cA, n, .inr (.inr (.inr (.inr f)))))) (ht : G.2.2.1[t0]? = some (cA, .object C)) (hi : i = nI k) (hk : k < n) (hn : n < 2 ^ 31) (hb9 : f k = some b) (kk : Zj M G cc nL own Ts rt aw lv (.ref b :: st) (pc + 1)) : Zj M G cc nL own Ts rt aw lv (.int i :: .ref a :: st) pc := by
  subst hi
  exact z_aald hdg ha ht (vp_in_nI hk hn) (by rw [nI_clamp (by omega)]; exact hb9) kk
theorem z_iastN {cA : ClassId} {n a t0 k : Nat} {f : Nat → Int32} {i x : Int32} (hdg : decode cc pc = .ok (.iastore, 1)) (ha : aw[a]? = some (.inl (cA, n, .inl f))) (ht : G.2.2.1[t0]? = some (cA, .int)) (hi : i = nI k) (hk : k < n) (hn : n < 2 ^ 31) (kk : Zj M G cc nL own Ts rt (aw.set a (.inl (cA, n, .inl (upd f k x)))) lv st (pc + 1)) : Zj M G cc nL own Ts rt aw lv (.int x :: .int i :: .ref a :: st) pc := by
  subst hi
  refine z_iast hdg ha ht (vp_in_nI hk hn) ?_
  rw [nI_clamp (by omega)]
  exact kk
theorem z_lastN {cA : ClassId} {n a t0 k : Nat} {f : Nat → Int64} {i : Int32} {x : Int64} (hdg : decode cc pc = .ok (.lastore, 1)) (ha : aw[a]? = some (.inl (cA, n, .inr (.inl f)))) (ht : G.2.2.1[t0]? = some (cA, .long)) (hi : i = nI k) (hk : k < n) (hn : n < 2 ^ 31) (kk : Zj M G cc nL own Ts rt (aw.set a (.inl (cA, n, .inr (.inl (vp_updL f k x))))) lv st (pc + 1)) : Zj M G cc nL own Ts rt aw lv (.long x :: .int i :: .ref a :: st) pc := by
  subst hi
  refine z_last hdg ha ht (vp_in_nI hk hn) ?_
  rw [nI_clamp (by omega)]
  exact kk
theorem z_copyi {cA : ClassId} {n0 n1 a b t0 index s9 d9 k9 : Nat} {f g : Nat → Int32} {sp dp n : Int32} (hdg : decode cc pc = .ok (.invokestatic index, 3)) (h1 : Cond.methodLink own index arraycopyName ∈ Ts) (h2 : Cond.native arraycopyName ∈ Ts) (h3 : Cond.static arraycopyName ∈ Ts) (h4 : Cond.initialized "java/lang/System" ∈ Ts) (ha : aw[a]? = some (.inl (cA, n0, .inl f))) (hb9 : aw[b]? = some (.inl (cA, n1, .inl g))) (ht : G.2.2.1[t0]? = some (cA, .int)) (hs : sp = nI s9) (hd : dp = nI d9) (hk : n = nI k9) (l1 : s9 + k9 ≤ n0) (l2 : d9 + k9 ≤ n1) (l3 : n0 < 2 ^ 31) (l4 : n1 < 2 ^ 31) (hR : 1 ≤ M.2.2.2.1.frames ∧ (st.map fun v => v.category).sum + (nativeFrameWords "java/lang/System" "arraycopy" 5 + 11) ≤ M.2.2.2.1.locals) (kk : Zj M G cc nL own Ts rt (aw.set b (.inl (cA, n1, .inl (va_cpy f g s9 d9 k9)))) lv st (pc + 3)) : Zj M G cc nL own Ts rt aw lv (.int n :: .int dp :: .ref b :: .int sp :: .ref a :: st) pc := by
  obtain ⟨p, l, e, R, s, m, args, below, meth, c, Q, A, cells, slots⟩ := M
  obtain ⟨D, cl, tys, ad⟩ := G
  intro hF H locs ls hP hD hS hl
  obtain ⟨⟨hx, hb, hml, hown, hts⟩, hr, hlk, hK, hA⟩ := id hF
  subst hs; subst hd; subst hk
  have ha' : (zw ad aw)[a]? = some (ad a, .inl (cA, n0, .inl f)) := zw_get ha
  have hb' : (zw ad aw)[b]? = some (ad b, .inl (cA, n1, .inl g)) := zw_get hb9
  refine va_copyi hx hb (hml.trans hl.1.symm) hown (hts _ h1) (hts _ h2) (hts _ h3) (hts _ h4) hK hP hD hS a b t0 t0 ha' hb' ht ht rfl (nI_pos (by omega)) (nI_pos (by omega)) (nI_pos (by omega)) (by rw [nI_clamp (by omega), nI_clamp (by omega)]; exact l1) (by rw [nI_clamp (by omega), nI_clamp (by omega)]; exact l2) (fun i _ => rfl) hR.1 (by rw [zv_cats]; exact hR.2) hdg (fun H1 locs1 hP1 hD1 hS1 => ?_)
  rw [nI_clamp (by omega), nI_clamp (by omega), nI_clamp (by omega)] at hP1 hD1
  have e9 : (zw ad aw).set b (ad b, .inl (cA, n1, .inl (va_cpy f g s9 d9 k9))) = zw ad (aw.set b (.inl (cA, n1, .inl (va_cpy f g s9 d9 k9)))) := by
    rw [zw_set]; rfl
  rw [e9] at hP1 hD1
  exact kk hF H1 locs1 ls hP1 hD1 hS1 hl
theorem z_mmax {x y : Int32} {index : Nat} (hdg : decode cc pc = .ok (.invokestatic index, 3)) (h1 : Cond.methodLink own index Lib.Math.max.name ∈ Ts) (h2 : Cond.static Lib.Math.max.name ∈ Ts) (h3 : Cond.initialized "java/lang/Math" ∈ Ts) (h4 : Cond.code Lib.Math.max.name Lib.Math.max.code 2 (some .int) ∈ Ts) (hR : 1 ≤ M.2.2.2.1.frames ∧ (st.map fun v => v.category).sum + 13 ≤ M.2.2.2.1.locals) (hcs : M.2.2.2.2.2.2.2.2.2.2.2.2.1 ≤ M.2.2.2.1.cells ∧ M.2.2.2.2.2.2.2.2.2.2.2.2.2 ≤ M.2.2.2.1.slots) (kk : Zj M G cc nL own Ts rt aw lv (.int (if x < y then y else x) :: st) (pc + 3)) : Zj M G cc nL own Ts rt aw lv (.int y :: .int x :: st) pc := by
  obtain ⟨p, l, e, R, s, m, args, below, meth, c, Q, A, cells, slots⟩ := M
  obtain ⟨D, cl, tys, ad⟩ := G
  intro hF H locs ls hP hD hS hl
  obtain ⟨⟨hx, hb, hml, hown, hts⟩, hr, hlk, hK, hA⟩ := id hF
  exact va_mmax hx hb (hml.trans hl.1.symm) hown (hts _ h1) (hts _ h2) (hts _ h3) (hts _ h4) hR.1 (by rw [zv_cats]; exact hR.2) hcs.1 hcs.2 hdg (kk hF H locs ls hP hD hS hl)
theorem z_mmin {x y : Int32} {index : Nat} (hdg : decode cc pc = .ok (.invokestatic index, 3)) (h1 : Cond.methodLink own index Lib.Math.min.name ∈ Ts) (h2 : Cond.static Lib.Math.min.name ∈ Ts) (h3 : Cond.initialized "java/lang/Math" ∈ Ts) (h4 : Cond.code Lib.Math.min.name Lib.Math.min.code 2 (some .int) ∈ Ts) (hR : 1 ≤ M.2.2.2.1.frames ∧ (st.map fun v => v.category).sum + 13 ≤ M.2.2.2.1.locals) (hcs : M.2.2.2.2.2.2.2.2.2.2.2.2.1 ≤ M.2.2.2.1.cells ∧ M.2.2.2.2.2.2.2.2.2.2.2.2.2 ≤ M.2.2.2.1.slots) (kk : Zj M G cc nL own Ts rt aw lv (.int (if y < x then y else x) :: st) (pc + 3)) : Zj M G cc nL own Ts rt aw lv (.int y :: .int x :: st) pc := by
  obtain ⟨p, l, e, R, s, m, args, below, meth, c, Q, A, cells, slots⟩ := M
  obtain ⟨D, cl, tys, ad⟩ := G
  intro hF H locs ls hP hD hS hl
  obtain ⟨⟨hx, hb, hml, hown, hts⟩, hr, hlk, hK, hA⟩ := id hF
  exact va_mmin hx hb (hml.trans hl.1.symm) hown (hts _ h1) (hts _ h2) (hts _ h3) (hts _ h4) hR.1 (by rw [zv_cats]; exact hR.2) hcs.1 hcs.2 hdg (kk hF H locs ls hP hD hS hl)
theorem z_mabs {x : Int32} {index : Nat} (hdg : decode cc pc = .ok (.invokestatic index, 3)) (h1 : Cond.methodLink own index Lib.Math.abs.name ∈ Ts) (h2 : Cond.static Lib.Math.abs.name ∈ Ts) (h3 : Cond.initialized "java/lang/Math" ∈ Ts) (h4 : Cond.code Lib.Math.abs.name Lib.Math.abs.code 1 (some .int) ∈ Ts) (hR : 1 ≤ M.2.2.2.1.frames ∧ (st.map fun v => v.category).sum + 13 ≤ M.2.2.2.1.locals) (hcs : M.2.2.2.2.2.2.2.2.2.2.2.2.1 ≤ M.2.2.2.1.cells ∧ M.2.2.2.2.2.2.2.2.2.2.2.2.2 ≤ M.2.2.2.1.slots) (kk : Zj M G cc nL own Ts rt aw lv (.int (if 0 ≤ x then x else 0 - x) :: st) (pc + 3)) : Zj M G cc nL own Ts rt aw lv (.int x :: st) pc := by
  obtain ⟨p, l, e, R, s, m, args, below, meth, c, Q, A, cells, slots⟩ := M
  obtain ⟨D, cl, tys, ad⟩ := G
  intro hF H locs ls hP hD hS hl
  obtain ⟨⟨hx, hb, hml, hown, hts⟩, hr, hlk, hK, hA⟩ := id hF
  exact va_mabs hx hb (hml.trans hl.1.symm) hown (hts _ h1) (hts _ h2) (hts _ h3) (hts _ h4) hR.1 (by rw [zv_cats]; exact hR.2) hcs.1 hcs.2 hdg (kk hF H locs ls hP hD hS hl)
end ZR
