/-! new cells: the addresses grow -/
def zvb (n : Nat) : Value → Bool
  | .ref i => decide (i < n) || decide (1000 ≤ i)
  | _ => true
/-- no reference at all -/
def zvn : Value → Bool
  | .ref _ => false
  | _ => true
theorem zvn_v {v : Value} (h : zvn v = true) (ad : Nat → Nat) : zv ad v = v := by cases v <;> first | rfl | cases h
/-- a cell that names no place behind n -/
def zokb (n : Nat) : va_E → Bool
  | .inl (_, k, .inr (.inr (.inr (.inr f)))) => (List.range k).all (fun j => match f j with | none => true | some i => decide (i < n))
  | .inl _ => true
  | .inr (_, fs) => fs.all (zvb n)
def zlb (n : Nat) (lv : List (Option Value)) : Bool := lv.all (fun o => match o with | none => true | some v => zvb n v)
/-- the same addresses below n, and behind 1000: such places are fixed addresses -/
def zag (n : Nat) (ad ad2 : Nat → Nat) : Prop := ∀ j, (j < n ∨ 1000 ≤ j) → ad2 j = ad j
theorem zag.v {n : Nat} {ad ad2 : Nat → Nat} (h : zag n ad ad2) {v : Value} (hv : zvb n v = true) : zv ad2 v = zv ad v := by
  cases v with
  | ref i => simp only [zv]; rw [h i (by simpa [zvb] using hv)]
  | _ => rfl
theorem zag.vs {n : Nat} {ad ad2 : Nat → Nat} (h : zag n ad ad2) {vs : List Value} (hv : vs.all (zvb n) = true) : vs.map (zv ad2) = vs.map (zv ad) :=
  List.map_congr_left (fun v hm => h.v (List.all_eq_true.mp hv v hm))
theorem va_q_ext {D : va_G} {cl : List vw_C} {a n : Nat} {cA : ClassId} {f f' : Nat → Option Nat} {H : Heap} (hf : ∀ j, j < n → f j = f' j) (h : va_at D cl (a, .inl (cA, n, .inr (.inr (.inr (.inr f))))) H) : va_at D cl (a, .inl (cA, n, .inr (.inr (.inr (.inr f'))))) H := by
  have h1 : H[a]? = some (arrV cA n (fun j => va_rf (f j))) := h
  show H[a]? = some (arrV cA n (fun j => va_rf (f' j)))
  rw [h1]
  have e : (Array.ofFn (n := n) fun j => va_rf (f j.val)) = (Array.ofFn (n := n) fun j => va_rf (f' j.val)) := by
    congr 1
    funext j
    rw [hf j.val j.isLt]
  simp only [arrV, e]
theorem zag.at {n : Nat} {ad ad2 : Nat → Nat} (h : zag n ad ad2) {D : va_G} {cl : List vw_C} {a : Nat} {e : va_E} {H : Heap} (he : zokb n e = true) (hP : va_at D cl (a, zc ad e) H) : va_at D cl (a, zc ad2 e) H := by
  rcases e with ⟨cA, k, f⟩ | ⟨ci, fs⟩
  · rcases f with f | f | f | f | f
    · exact hP
    · exact hP
    · exact hP
    · exact hP
    · refine va_q_ext (fun j hj => ?_) hP
      have h1 := List.all_eq_true.mp he j (List.mem_range.mpr hj)
      cases h2 : f j with
      | none => rfl
      | some i =>
        rw [h2] at h1
        simp only [Option.map_some]
        rw [h i (Or.inl (of_decide_eq_true h1))]
  · have e9 : zc ad2 (.inr (ci, fs)) = zc ad (.inr (ci, fs)) := by simp only [zc]; rw [h.vs he]
    rw [e9]; exact hP
theorem zag.P {n : Nat} {ad ad2 : Nat → Nat} (h : zag n ad ad2) {D : va_G} {cl : List vw_C} {aw : List va_E} {H : Heap} (hn : aw.length ≤ n) (he : aw.all (zokb n) = true) (hP : va_P D cl (zw ad aw) H) : va_P D cl (zw ad2 aw) H := by
  intro k q hq
  rw [zw_at] at hq
  obtain ⟨e, hk, rfl⟩ := Option.map_eq_some_iff.mp hq
  have hl := (List.getElem?_eq_some_iff.mp hk).1
  rw [h k (Or.inl (by omega))]
  exact h.at (List.all_eq_true.mp he e (List.mem_of_getElem? hk)) (hP k _ (zw_get hk))
theorem zag.l {n : Nat} {ad ad2 : Nat → Nat} (h : zag n ad ad2) {ls : Array Slot} {nL : Nat} {lv : List (Option Value)} (he : zlb n lv = true) (hl : zh ad ls nL lv) : zh ad2 ls nL lv := by
  refine ⟨hl.1, hl.2.1, fun i v hv => ?_⟩
  have h1 := List.all_eq_true.mp he _ (List.mem_of_getElem? hv)
  rw [h.v h1]
  exact hl.2.2 i v hv
theorem zw_one (ad : Nat → Nat) (aw : List va_E) (e : va_E) : zw ad (aw ++ [e]) = zw ad aw ++ [(ad aw.length, zc ad e)] := by
  simp [zw, List.mapIdx_append]
def adx (ad : Nat → Nat) (n q : Nat) : Nat → Nat := fun j => if j = n then q else ad j
theorem adx_ag (ad : Nat → Nat) {n : Nat} (hn : n < 1000) (q : Nat) : zag n ad (adx ad n q) := fun j hj => by
  unfold adx; rw [if_neg (by omega)]
theorem adx_at (ad : Nat → Nat) (n q : Nat) : adx ad n q n = q := by simp [adx]
/-- the addresses of a world are all that va_D speaks of -/
theorem zD_adr {A : Nat → Prop} {ws ws2 : va_W} (hD : va_D A ws) (h : ws2.map Prod.fst = ws.map Prod.fst) : va_D A ws2 := by
  have key : ∀ (i : Nat) (q : Nat × va_E), ws2[i]? = some q → ∃ q', ws[i]? = some q' ∧ q'.1 = q.1 := by
    intro i q hq
    have h1 : (ws2.map Prod.fst)[i]? = some q.1 := by rw [List.getElem?_map, hq]; rfl
    rw [h, List.getElem?_map] at h1
    obtain ⟨q', h2, h3⟩ := Option.map_eq_some_iff.mp h1
    exact ⟨q', h2, h3⟩
  refine ⟨fun i j x y hx hy hxy => ?_, fun k q hk => ?_⟩
  · obtain ⟨x', h1, h2⟩ := key i x hx
    obtain ⟨y', h3, h4⟩ := key j y hy
    exact hD.1 i j x' y' h1 h3 (by rw [h2, h4]; exact hxy)
  · obtain ⟨q', h1, h2⟩ := key k q hk
    rw [← h2]; exact hD.2 k q' h1
/-- one more cell at q: the same world by places -/
theorem zgrow {D : va_G} {cl : List vw_C} {A : Nat → Prop} {ad : Nat → Nat} {aw : List va_E} {q : Nat} {e e' : va_E} {H : Heap} (hn : aw.length < 1000) (he : aw.all (zokb aw.length) = true) (hz : zc (adx ad aw.length q) e = e') (hP : va_P D cl (zw ad aw ++ [(q, e')]) H) (hD : va_D A (zw ad aw ++ [(q, e')])) : va_P D cl (zw (adx ad aw.length q) (aw ++ [e])) H ∧ va_D A (zw (adx ad aw.length q) (aw ++ [e])) := by
  have e1 : zw (adx ad aw.length q) (aw ++ [e]) = zw (adx ad aw.length q) aw ++ [(q, e')] := by rw [zw_one, adx_at, hz]
  have hP0 : va_P D cl (zw ad aw) H := fun k x hk => hP k x (by
    rw [List.getElem?_append_left (List.getElem?_eq_some_iff.mp hk).1]; exact hk)
  have hP1 : va_P D cl [(q, e')] H := fun k x hk => by
    have h0 : k = 0 := by have := (List.getElem?_eq_some_iff.mp hk).1; simp at this; omega
    subst h0
    refine hP (zw ad aw).length x ?_
    rw [List.getElem?_append_right (Nat.le_refl _), Nat.sub_self]; exact hk
  rw [e1]
  refine ⟨va_P.app ((adx_ag ad hn q).P (Nat.le_refl _) he hP0) hP1, zD_adr hD ?_⟩
  rw [List.map_append, List.map_append]
  congr 1
  apply List.ext_getElem?
  intro k
  rw [List.getElem?_map, List.getElem?_map, zw_at, zw_at]
  cases hk : aw[k]? with
  | none => rfl
  | some x =>
    have := (List.getElem?_eq_some_iff.mp hk).1
    simp only [Option.map_some]
    rw [adx_ag ad hn q k (Or.inl this)]
section ZN
variable {M : zM} {D : va_G} {cl : List vw_C} {tys : List (ClassId × FieldType)} {ad : Nat → Nat} {cc : ByteArray} {nL : Nat} {own : String} {Ts : List Cond} {rt : Option FieldType} {aw : List va_E} {lv : List (Option Value)} {st : List Value} {pc : Nat}
theorem zFx.up {M : zM} {G G2 : zG} {a b : Nat} (h1 : G2.1 = G.1) (h2 : G2.2.1 = G.2.1) (h3 : G2.2.2.1 = G.2.2.1) (h : zFx M G cc nL own Ts rt) : zFx (zup M a b) G2 cc nL own Ts rt := by
  obtain ⟨p, l, e, R, s, m, args, below, meth, c, Q, A, cells, slots⟩ := M
  obtain ⟨D, cl, tys, ad⟩ := G
  obtain ⟨D2, cl2, tys2, ad2⟩ := G2
  cases h1; cases h2; cases h3
  exact h
def zpr (f : (Nat → Int32) ⊕ (Nat → Int64)) : (Nat → Int32) ⊕ (Nat → Int64) ⊕ (Nat → UInt32) ⊕ (Nat → UInt64) ⊕ (Nat → Option Nat) := match f with
  | .inl g => .inl g
  | .inr g => .inr (.inl g)
/-- a new array of numbers -/
theorem z_newa {atype : ArrayType} {ty : FieldType} {n : Int32} {N' : Nat} {cA : ClassId} {f : (Nat → Int32) ⊕ (Nat → Int64)} (t0 : Nat) (hdg : decode cc pc = .ok (.newarray atype, 2)) (hcl : Cond.arrayClass (newarray.typeOf atype) ∈ Ts) (hty : newarray.typeOf atype = ty) (ht : tys[t0]? = some (cA, ty)) (hf : (ty = .int ∧ f = .inl (fun _ => 0)) ∨ (ty = .long ∧ f = .inr (fun _ => 0))) (hn : ¬ n < 0) (hN : n.toNatClampNeg = N') (hbytes : N' * componentBytes ty ≤ 536870912) (hR : zcells M + 1 ≤ (zroom M).cells ∧ zslots M + N' ≤ (zroom M).slots)
    (hok : (aw.all (zokb aw.length) && zlb aw.length lv && st.all (zvb aw.length) && decide (aw.length < 1000)) = true)
    (kk : ∀ ad2 : Nat → Nat, zag aw.length ad ad2 → Zj (zup M 1 N') (D, cl, tys, ad2) cc nL own Ts rt (aw ++ [.inl (cA, N', zpr f)]) lv (.ref aw.length :: st) (pc + 2)) : Zj M (D, cl, tys, ad) cc nL own Ts rt aw lv (.int n :: st) pc := by
  obtain ⟨p, l, e, R, s, m, args, below, meth, c, Q, A, cells, slots⟩ := M
  intro hF H locs ls hP hD hS hl
  obtain ⟨⟨hx, hb, hml, hown, hts⟩, hr, hlk, hK, hA⟩ := id hF
  rw [Bool.and_eq_true, Bool.and_eq_true, Bool.and_eq_true] at hok
  obtain ⟨⟨⟨ho1, ho2⟩, ho3⟩, ho4⟩ := hok
  have ho4 := of_decide_eq_true ho4
  refine va_newa (a0 := (N', zpr f)) hx hb (hts _ hcl) hty hK hP hD hS hA (fun cA => ?_) hn hN hbytes hR.1 hR.2 hdg (fun q cA2 H1 hK1 hP1 hD1 hS1 => ?_)
  · rcases hf with ⟨rfl, rfl⟩ | ⟨rfl, rfl⟩ <;> rfl
  · have ea : cA2 = cA := by
      have h1 := (hK1.2 tys.length (cA2, ty) (by simp)).2
      have h2 := (hK.2 t0 _ ht).2
      rcases hf with ⟨rfl, -⟩ | ⟨rfl, -⟩
      · exact Option.some.inj ((show _ = some cA2 from h1).symm.trans h2)
      · exact Option.some.inj ((show _ = some cA2 from h1).symm.trans h2)
    subst ea
    have hz : zc (adx ad aw.length q) (.inl (cA2, N', zpr f)) = .inl (cA2, N', zpr f) := by
      cases f <;> rfl
    obtain ⟨hP2, hD2⟩ := zgrow ho4 ho1 hz hP1 hD1
    have hag := adx_ag ad ho4 q
    have h9 := kk _ hag (zFx.up (a := 1) (b := N') rfl rfl rfl hF) H1 locs ls hP2 hD2 hS1 (hag.l ho2 hl)
    rw [List.map_cons, hag.vs ho3] at h9
    simp only [zv, adx_at] at h9
    exact h9
/-- a new array of references -/
theorem z_newq {C : String} {index : Nat} {n : Int32} {N' : Nat} {cA : ClassId} (t0 : Nat) (hdg : decode cc pc = .ok (.anewarray index, 3)) (hcl : Cond.classLink own index C ∈ Ts) (hover : va_AO C M.2.2.2.2.1) (ht : tys[t0]? = some (cA, .object C)) (hn : ¬ n < 0) (hN : n.toNatClampNeg = N') (hbytes : N' * 4 ≤ 536870912) (hR : zcells M + 1 ≤ (zroom M).cells ∧ zslots M + N' ≤ (zroom M).slots)
    (hok : (aw.all (zokb aw.length) && zlb aw.length lv && st.all (zvb aw.length) && decide (aw.length < 1000)) = true)
    (kk : ∀ ad2 : Nat → Nat, zag aw.length ad ad2 → Zj (zup M 1 N') (D, cl, tys, ad2) cc nL own Ts rt (aw ++ [.inl (cA, N', .inr (.inr (.inr (.inr (fun _ => none)))))]) lv (.ref aw.length :: st) (pc + 3)) : Zj M (D, cl, tys, ad) cc nL own Ts rt aw lv (.int n :: st) pc := by
  obtain ⟨p, l, e, R, s, m, args, below, meth, c, Q, A, cells, slots⟩ := M
  intro hF H locs ls hP hD hS hl
  obtain ⟨⟨hx, hb, hml, hown, hts⟩, hr, hlk, hK, hA⟩ := id hF
  rw [Bool.and_eq_true, Bool.and_eq_true, Bool.and_eq_true] at hok
  obtain ⟨⟨⟨ho1, ho2⟩, ho3⟩, ho4⟩ := hok
  have ho4 := of_decide_eq_true ho4
  refine va_newq hx hb hown (hts _ hcl) hover hK hP hD hS hA hn hN hbytes hR.1 hR.2 hdg (fun q cA2 H1 hK1 hP1 hD1 hS1 => ?_)
  have ea : cA2 = cA := by
    obtain ⟨-, -, -, -, -, h1⟩ := (hK1.2 tys.length (cA2, .object C) (by simp)).2
    obtain ⟨-, -, -, -, -, h2⟩ := (hK.2 t0 _ ht).2
    exact Option.some.inj (h1.symm.trans h2)
  subst ea
  obtain ⟨hP2, hD2⟩ := zgrow (e := .inl (cA2, N', .inr (.inr (.inr (.inr (fun _ => none)))))) ho4 ho1 rfl hP1 hD1
  have hag := adx_ag ad ho4 q
  have h9 := kk _ hag (zFx.up (a := 1) (b := N') rfl rfl rfl hF) H1 locs ls hP2 hD2 hS1 (hag.l ho2 hl)
  rw [List.map_cons, hag.vs ho3] at h9
  simp only [zv, adx_at] at h9
  exact h9
/-- a new object -/
theorem z_new {C : String} {T : u_T} {N ci index : Nat} {fs : List Value} (ty : Nat → FieldType) (hty : ∀ k, k < N → parseFieldDescriptor (T k).2.2.1 = some (ty k)) (hdg : decode cc pc = .ok (.new index, 3)) (hc : cl[ci]? = some (C, T, N)) (hin : ∀ w ∈ u_ws C T N, w ∈ Ts) (h1 : Cond.classLink own index C ∈ Ts) (h2 : Cond.instantiable C N ∈ Ts) (h3 : Cond.initialized C ∈ Ts) (hfs : ∀ j, j < N → defaultValue (ty j) = vp_V fs j) (hnr : fs.all zvn = true) (hR : zcells M + 1 ≤ (zroom M).cells ∧ zslots M + N ≤ (zroom M).slots)
    (hok : (aw.all (zokb aw.length) && zlb aw.length lv && st.all (zvb aw.length) && decide (aw.length < 1000)) = true)
    (kk : ∀ ad2 : Nat → Nat, zag aw.length ad ad2 → Zj (zup M 1 N) (D, cl, tys, ad2) cc nL own Ts rt (aw ++ [.inr (ci, fs)]) lv (.ref aw.length :: st) (pc + 3)) : Zj M (D, cl, tys, ad) cc nL own Ts rt aw lv st pc := by
  obtain ⟨p, l, e, R, s, m, args, below, meth, c, Q, A, cells, slots⟩ := M
  intro hF H locs ls hP hD hS hl
  obtain ⟨⟨hx, hb, hml, hown, hts⟩, hr, hlk, hK, hA⟩ := id hF
  rw [Bool.and_eq_true, Bool.and_eq_true, Bool.and_eq_true] at hok
  obtain ⟨⟨⟨ho1, ho2⟩, ho3⟩, ho4⟩ := hok
  have ho4 := of_decide_eq_true ho4
  refine va_new hx hb hts hin ty hty hown (hts _ h1) (hts _ h2) (hts _ h3) hK hP hD hS hA hc hfs hR.1 hR.2 hdg (fun q H1 hP1 hD1 hS1 => ?_)
  have hz : zc (adx ad aw.length q) (.inr (ci, fs)) = .inr (ci, fs) := by
    simp only [zc]
    congr 2
    exact (List.map_congr_left (fun v hm => zvn_v (List.all_eq_true.mp hnr v hm) _)).trans (List.map_id' fs)
  obtain ⟨hP2, hD2⟩ := zgrow ho4 ho1 hz hP1 hD1
  have hag := adx_ag ad ho4 q
  have h9 := kk _ hag (zFx.up (a := 1) (b := N) rfl rfl rfl hF) H1 locs ls hP2 hD2 hS1 (hag.l ho2 hl)
  rw [List.map_cons, hag.vs ho3] at h9
  simp only [zv, adx_at] at h9
  exact h9
/-- a final field, in the constructor -/
theorem z_putF {C ref : String} {T : u_T} {N ci index i : Nat} {fs : List Value} {v : Value} {ty : FieldType} (k : Nat) (ty0 : Nat → FieldType) (hini : M.2.2.2.2.2.2.2.2.1.name = "<init>") (hdg : decode cc pc = .ok (.putfield index, 3)) (he : aw[i]? = some (.inr (ci, fs))) (hc : cl[ci]? = some (C, T, N)) (hk : k < N) (hin : ∀ w ∈ u_ws C T N, w ∈ Ts) (hlink : Cond.fieldLink own index ref (T k).2.1 (T k).2.2.1 ∈ Ts) (hsame : (T k).1 = ref) (hty : ∀ k, k < N → parseFieldDescriptor (T k).2.2.1 = some (ty0 k)) (hnm : ∀ a, a < N → ∀ b, b < N → a ≠ b → (T a).2.1 ≠ (T b).2.1) (hfin : (T k).2.2.2 = true) (hdecl : (T k).1 = own) (hd : parseFieldDescriptor (T k).2.2.1 = some ty) (hn : ∀ f : Nat → Nat, narrow ty (zv f v) = zv f v ∧ fits ty (zv f v) = true) (hl9 : k < fs.length) (kk : Zj M (D, cl, tys, ad) cc nL own Ts rt (aw.set i (.inr (ci, fs.set k v))) lv st (pc + 3)) : Zj M (D, cl, tys, ad) cc nL own Ts rt aw lv (v :: .ref i :: st) pc := by
  obtain ⟨p, l, e, R, s, m, args, below, meth, c, Q, A, cells, slots⟩ := M
  intro hF H locs ls hP hD hS hl
  obtain ⟨⟨hx, hb, hml, hown, hts⟩, hr, hlk, hK, hA⟩ := id hF
  have he' : (zw ad aw)[i]? = some (ad i, .inr (ci, fs.map (zv ad))) := zw_get he
  refine va_putF hx hb hts hin ty0 hty hnm hown hK hP hD hS i he' hc k hk (hts _ hlink) (fun x h => by rw [← hsame]; exact h) hfin hini hdecl hd (hn ad).1 (hn ad).2 (by rw [List.length_map]; exact hl9) hdg (fun H1 locs1 hP1 hD1 hS1 => ?_)
  have e9 : (zw ad aw).set i (ad i, .inr (ci, (fs.map (zv ad)).set k (zv ad v))) = zw ad (aw.set i (.inr (ci, fs.set k v))) := by
    rw [zw_set]; simp only [zc, List.map_set]
  rw [e9] at hP1 hD1
  exact kk hF H1 locs1 ls hP1 hD1 hS1 hl
/-- a reference into an array -/
theorem z_aastN {cA : ClassId} {n a t0 b k ci : Nat} {r : vw_C} {vs : List Value} {f : Nat → Option Nat} {i : Int32} (hdg : decode cc pc = .ok (.aastore, 1)) (ha : aw[a]? = some (.inl (cA, n, .inr (.inr (.inr (.inr f)))))) (ht : tys[t0]? = some (cA, .object r.1)) (hb9 : aw[b]? = some (.inr (ci, vs))) (hc : cl[ci]? = some r) (hi : i = nI k) (hk : k < n) (hn : n < 2 ^ 31) (kk : Zj M (D, cl, tys, ad) cc nL own Ts rt (aw.set a (.inl (cA, n, .inr (.inr (.inr (.inr (va_up f k (some b)))))))) lv st (pc + 1)) : Zj M (D, cl, tys, ad) cc nL own Ts rt aw lv (.ref b :: .int i :: .ref a :: st) pc := by
  obtain ⟨p, l, e, R, s, m, args, below, meth, c, Q, A, cells, slots⟩ := M
  intro hF H locs ls hP hD hS hl
  obtain ⟨⟨hx, hb, hml, hown, hts⟩, hr, hlk, hK, hA⟩ := id hF
  subst hi
  have ha' : (zw ad aw)[a]? = some (ad a, .inl (cA, n, .inr (.inr (.inr (.inr (fun j => (f j).map ad)))))) := zw_get ha
  have hb' : (zw ad aw)[b]? = some (ad b, .inr (ci, vs.map (zv ad))) := zw_get hb9
  refine va_astq hx hb hK hP hD hS a t0 b ci ha' ht hb' hc (vp_in_nI hk hn) hdg (fun H1 locs1 hP1 hD1 hS1 => ?_)
  rw [nI_clamp (by omega)] at hP1 hD1
  have e8 : va_up (fun j => (f j).map ad) k (some (ad b)) = fun j => (va_up f k (some b) j).map ad := by
    funext j; unfold va_up; split <;> rfl
  have e9 : (zw ad aw).set a (ad a, .inl (cA, n, .inr (.inr (.inr (.inr (va_up (fun j => (f j).map ad) k (some (ad b)))))))) = zw ad (aw.set a (.inl (cA, n, .inr (.inr (.inr (.inr (va_up f k (some b)))))))) := by
    rw [zw_set, e8]; rfl
  rw [e9] at hP1 hD1
  exact kk hF H1 locs1 ls hP1 hD1 hS1 hl
/-- an array of references by what stands in it -/
theorem z_qext {cA : ClassId} {n a : Nat} {f : Nat → Option Nat} (f' : Nat → Option Nat) (ha : aw[a]? = some (.inl (cA, n, .inr (.inr (.inr (.inr f)))))) (hf : ∀ j, j < n → f j = f' j) (kk : Zj M (D, cl, tys, ad) cc nL own Ts rt (aw.set a (.inl (cA, n, .inr (.inr (.inr (.inr f')))))) lv st pc) : Zj M (D, cl, tys, ad) cc nL own Ts rt aw lv st pc := by
  obtain ⟨p, l, e, R, s, m, args, below, meth, c, Q, A, cells, slots⟩ := M
  intro hF H locs ls hP hD hS hl
  refine kk hF H locs ls (fun k q hq => ?_) (zD_len hD (by rw [List.length_set])) hS hl
  rw [zw_set, List.getElem?_set] at hq
  split at hq
  · next h =>
    subst h
    split at hq
    · cases hq
      refine va_q_ext (f := fun j => (f j).map ad) (fun j hj => by rw [hf j hj]) (hP a _ (zw_get ha))
    · cases hq
  · exact hP k q hq
/-- Object's constructor -/
theorem z_obj {i index : Nat} (hdg : decode cc pc = .ok (.invokespecial index, 3)) (h1 : Cond.methodLink own index Lib.objectInit ∈ Ts) (h2 : Cond.instanceMethod Lib.objectInit ∈ Ts) (h3 : Cond.code Lib.objectInit ⟨#[0xb1]⟩ 1 none ∈ Ts) (hR : 1 ≤ (zroom M).frames ∧ (st.map fun v => v.category).sum + 12 ≤ (zroom M).locals) (kk : Zj M (D, cl, tys, ad) cc nL own Ts rt aw lv st (pc + 3)) : Zj M (D, cl, tys, ad) cc nL own Ts rt aw lv (.ref i :: st) pc := by
  obtain ⟨p, l, e, R, s, m, args, below, meth, c, Q, A, cells, slots⟩ := M
  intro hF H locs ls hP hD hS hl
  obtain ⟨⟨hx, hb, hml, hown, hts⟩, hr, hlk, hK, hA⟩ := id hF
  exact W.objInit hx hb hown (hts _ h1) (hts _ h2) (hts _ h3) rfl (hl.1.trans hml.symm) rfl hdg hR.1 (by rw [zv_cats]; have h9 : (st.map fun v => v.category).sum + 12 ≤ R.locals := hR.2; show 2 * 0 + _ + 12 ≤ _; omega) (kk hF H locs ls hP hD hS hl)
end ZN
/-! constructors: the world grows -/
def zQC (G : zG) (aw0 : List va_E) (sz : Nat) (post : List va_E → Prop) : Array Value → State → Outcome → State → Prop := fun _ st oc t => (∃ (ad2 : Nat → Nat) (aw : List va_E), oc = .returned none ∧ zag aw0.length G.2.2.2 ad2 ∧ post aw ∧ zB (G.1, G.2.1, G.2.2.1, ad2) (zA G aw0 sz) aw t) ∧ va_F (zA G aw0 sz) st t
def zCet (l : Launch) (y : MethodName) (ws : List Cond) (rm : Room) (mc ms : Nat) (E : (Nat → Prop) → State → Prop) (G : zG) (aw : List va_E) (As : List Value) (post : List va_E → Prop) : Prop := ∀ sz, Met l y ws rm (zPc G aw As sz E) (zQC G aw sz post) mc ms (zA G aw sz)
def zRetC (M : zM) (G : zG) (aw0 : List va_E) (post : List va_E → Prop) (mc ms : Nat) : Prop := match M with
  | (_, _, _, _, s, _, args, below, _, _, Q, A, _, _) => ∃ sz, A = zA G aw0 sz ∧ Q = MQ below (zQC G aw0 sz post) args s mc ms (zA G aw0 sz)
theorem zup_RetC {M : zM} {G : zG} {aw0 : List va_E} {post : List va_E → Prop} {mc ms a b : Nat} (h : zRetC M G aw0 post mc ms) : zRetC (zup M a b) G aw0 post mc ms := by
  obtain ⟨p, l, e, R, s, m, args, below, meth, c, Q, A, cells, slots⟩ := M
  exact h
theorem zCet.of {l : Launch} {y : MethodName} {ws ws' : List Cond} {rm : Room} {mc ms : Nat} {E : (Nat → Prop) → State → Prop} {G : zG} {aw : List va_E} {As : List Value} {post : List va_E → Prop} {cc : ByteArray} {maxL : Nat} {ret : Option FieldType} {lv : List (Option Value)}
    (hy : plainName y.cls = true) (hy2 : y.name = "<init>") (hw : ws = Cond.code y cc maxL ret :: ws') (hlen : (lg_sl (As.map (zv G.2.2.2))).length ≤ maxL) (hlv : zargs As ++ List.replicate (maxL - (lg_sl (As.map (zv G.2.2.2))).length) none = lv)
    (body : ∀ M : zM, zl0 M = l → zroom M = rm → zcells M = 0 → zslots M = 0 → M.2.2.2.2.2.2.2.2.1.name = "<init>" → zEn M E → zRetC M G aw post mc ms → Zj M G cc maxL y.cls ws ret aw lv [] 0) : zCet l y ws rm mc ms E G aw As post := by
  intro sz
  refine Met.ofW (cc := cc) (maxL := maxL) (ret := ret) hy hw ?_
  intro p e s m args below meth c s₁ B hml hv
  obtain ⟨D, cl, tys, ad⟩ := G
  obtain ⟨rfl, hsz, ⟨hP, hK, hD0⟩, hE⟩ := hv
  subst hsz
  rw [lg_entry_eq]
  exact body (p, l, e, (headSpec ws rm).room, s, m, _, below, meth, c, _, zA (D, cl, tys, ad) aw s.heap.size, 0, 0) rfl rfl rfl rfl ((name_of_methodNamed B.named B.method).1.trans hy2) hE ⟨s.heap.size, rfl, rfl⟩
    ⟨⟨B.exec, B.bytes, hml, findClass_of_methodNamed B.named, atoms_spec (ws := ws) B.pre⟩, B.returns, B.notSynchronized, hK, fun q h => Or.inr h⟩ s.heap [] _ hP (hD0.self) va_S.rf (zh_entry hlv hlen)
theorem z_returnC {M : zM} {D : va_G} {cl : List vw_C} {tys : List (ClassId × FieldType)} {ad ad0 : Nat → Nat} {cc : ByteArray} {nL : Nat} {own : String} {Ts : List Cond} {aw aw0 : List va_E} {lv : List (Option Value)} {pc mc ms : Nat} {post : List va_E → Prop} (hdg : decode cc pc = .ok (.return_, 1)) (hret : zRetC M (D, cl, tys, ad0) aw0 post mc ms) (hc : zcells M ≤ mc ∧ zslots M ≤ ms) (hag : zag aw0.length ad0 ad) (hp : post aw) : Zj M (D, cl, tys, ad) cc nL own Ts none aw lv [] pc := by
  obtain ⟨p, l, e, R, s, m, args, below, meth, c, Q, A, cells, slots⟩ := M
  intro hF H locs ls hP hD hS hl
  obtain ⟨⟨hx, hb, hml, hown, hts⟩, hr, hlk, hK, hA⟩ := hF
  obtain ⟨sz, rfl, rfl⟩ := hret
  refine W.widen hc.1 hc.2 ?_
  exact W.vret hx hb hr (fun t ht hW => ⟨⟨ad, aw, rfl, hag, hp, by rw [ht]; exact hP, va_K.moved hW.alike hK, hD⟩, hS.F ht⟩) hS.2.2 hdg hlk
/-- the address of a callee's new cells -/
def adc (ad ad1 : Nat → Nat) (p : Nat) : Nat → Nat := fun j => if j < p ∨ 1000 ≤ j then ad j else ad1 (j - p)
theorem adc_lo {ad ad1 : Nat → Nat} {p j : Nat} (h : j < p ∨ 1000 ≤ j) : adc ad ad1 p j = ad j := by unfold adc; rw [if_pos h]
theorem adc_hi (ad ad1 : Nat → Nat) {p j : Nat} (h : p + j < 1000) : adc ad ad1 p (p + j) = ad1 j := by
  unfold adc; rw [if_neg (by omega)]; congr 1; omega
/-- invokespecial of a constructor of ours: how the machine does it -/
def zCN (M : zM) (own : String) (Ts : List Cond) (index : Nat) (y : MethodName) : Prop := Cond.methodLink own index y ∈ Ts ∨ ∃ host, va_Nw (.methodLinkNest own index y host) M.2.2.2.2.1
section ZI
variable {M : zM} {D : va_G} {cl : List vw_C} {tys : List (ClassId × FieldType)} {ad : Nat → Nat} {cc : ByteArray} {nL : Nat} {own : String} {Ts ws ws' : List Cond} {rt : Option FieldType} {awp : List va_E} {lv : List (Option Value)} {st : List Value} {pc mc ms index maxL : Nat} {y : MethodName} {rm : Room} {bytes : ByteArray} {E E' : (Nat → Prop) → State → Prop} {post : List va_E → Prop} {e0 : va_E}
theorem z_I (hE : zEn M E) (hEE : zEok E E') (hM : ∀ a0 : Nat → Nat, zCet (zl0 M) y ws rm mc ms E' (D, cl, tys, a0) [e0] [.ref 0] post) (hdg : decode cc pc = .ok (.invokespecial index, 3)) (hG : GoodIn Ts ws) (hw : ws = Cond.code y bytes maxL none :: ws') (hlink : zCN M own Ts index y) (hini : Cond.initialized y.cls ∈ Ts) (hinst : Cond.instanceMethod y ∈ Ts) (hy : y.name = "<init>")
    (hd : y.cls ≠ "java/lang/invoke/MethodHandle" ∧ y.cls ≠ "java/lang/invoke/VarHandle" ∧ (parseMethodDescriptor y.desc).map (fun d => d.parameters.length) = some 0) (hrm : rm.cells = mc ∧ rm.slots = ms) (hR : rm.frames + 1 ≤ (zroom M).frames ∧ 8 + (maxL + 11) + rm.locals ≤ (zroom M).locals) (hcs : zcells M + mc ≤ (zroom M).cells ∧ zslots M + ms ≤ (zroom M).slots) (hst : (st.map fun v => v.category).sum ≤ 8)
    (hne : ∀ a : Nat → Nat, zc a e0 = e0) (hok : (awp.all (zokb awp.length) && zlb (awp.length + 1) lv && st.all (zvb (awp.length + 1))) = true) (hpo : ∀ aw1, post aw1 → (aw1.all (zokb aw1.length) && decide (awp.length + aw1.length ≤ 1000) && decide (1 ≤ aw1.length)) = true)
    (kk : ∀ (ad2 : Nat → Nat) (aw1 : List va_E), zag (awp.length + 1) ad ad2 → post aw1 → Zj (zup M mc ms) (D, cl, tys, ad2) cc nL own Ts rt (awp ++ aw1.map (zc (fun j => awp.length + j))) lv st (pc + 3)) : Zj M (D, cl, tys, ad) cc nL own Ts rt (awp ++ [e0]) lv (.ref awp.length :: st) pc := by
  obtain ⟨p, l, e, R, s, m, args, below, meth, c, Q, A, cells, slots⟩ := M
  intro hF H locs ls hP hD hS hl
  obtain ⟨hfix, hr, hlk, hK, hA⟩ := id hF
  rw [Bool.and_eq_true, Bool.and_eq_true] at hok
  obtain ⟨⟨ho1, ho2⟩, ho3⟩ := hok
  have hat : (zw ad (awp ++ [e0]))[awp.length]? = some (ad awp.length, e0) := by
    have h1 := zw_get (ad := ad) (show (awp ++ [e0])[awp.length]? = some e0 by simp)
    rw [hne] at h1
    exact h1
  have ec : zw (fun j => ad (awp.length + j)) [e0] = [(ad awp.length, e0)] := by
    show [(ad (awp.length + 0), zc _ e0)] = _
    rw [hne]; rfl
  have hPc : va_P D cl (zw (fun j => ad (awp.length + j)) [e0]) H := by
    rw [ec]; exact fun k q hk => by
      have h0 : k = 0 := by have := (List.getElem?_eq_some_iff.mp hk).1; simp at this; omega
      subst h0; cases hk
      exact hP awp.length _ hat
  have hDc : va_D A (zw (fun j => ad (awp.length + j)) [e0]) := by
    rw [ec]
    refine ⟨fun i j x y hx hy _ => ?_, fun k q hk => ?_⟩
    · have := (List.getElem?_eq_some_iff.mp hx).1; have := (List.getElem?_eq_some_iff.mp hy).1; simp at *; omega
    · have h0 : k = 0 := by have := (List.getElem?_eq_some_iff.mp hk).1; simp at this; omega
      subst h0; cases hk
      exact hD.2 awp.length _ hat
  have hfree : ∀ q, zA (D, cl, tys, fun j => ad (awp.length + j)) [e0] H.size q → A q := fun q hq => by
    rcases hq with ⟨k, e, hk⟩ | hq
    · exact hDc.2 k _ hk
    · exact hA q (Nat.le_trans hS.1 hq)
  have hpre : PreS s H (zPc (D, cl, tys, fun j => ad (awp.length + j)) [e0] [.ref 0] H.size E') (.ref (ad awp.length) :: []) := ⟨z_blind hEE.2, fun U hU hW => ⟨rfl, by rw [hU], ⟨by rw [hU]; exact hPc, va_K.moved hW.alike hK, hDc.weaken (fun _ _ _ _ => trivial)⟩, hEE.1 A _ s U locs hE (by rw [hU]; exact hS) hfree hW⟩⟩
  have hcat : 2 * 0 + ((st.map (zv ad)).map fun v => v.category).sum ≤ 8 := by rw [zv_cats]; omega
  have hrun : va_Run p l e R s m args below meth c H locs cells slots mc ms (F0 m pc ls (.ref (ad awp.length) :: st.map (zv ad))) (st.map (zv ad)) (zQC (D, cl, tys, fun j => ad (awp.length + j)) [e0] H.size post #[.ref (ad awp.length)]) (zA (D, cl, tys, fun j => ad (awp.length + j)) [e0] H.size) := by
    rcases hlink with h | ⟨host, h⟩
    · exact va_runI (As := []) (b := ad awp.length) hfix (hM _ H.size) (cwI 0 hfix.2.2.2.2 hG hw hrm.1 hrm.2 (hfix.2.2.2.2 _ hini) (hfix.2.2.2.2 _ h) (hfix.2.2.2.2 _ hinst) hy hd hR) hpre rfl rfl hl.1 rfl hcat hdg hcs
    · exact va_runIN (As := []) (b := ad awp.length) hfix (hM _ H.size) ⟨va_cnB 0 hfix.2.2.2.2 hG hw hrm.1 hrm.2 h (hfix.2.2.2.2 _ hini) hd hR, hy, hfix.2.2.2.2 _ hinst⟩ hpre rfl rfl hl.1 rfl hcat hdg hcs
  intro T hT X
  obtain ⟨v, st₀, t, T', L, h0, X', hL, e1, e2, ⟨⟨ad1, aw1, hv, hag, hpo1, hP1, hK1, hD1⟩, hz, hk⟩, stp⟩ := hrun T hT X
  cases hv
  rw [h0] at hz hk
  have h7 := hpo aw1 hpo1
  rw [Bool.and_eq_true, Bool.and_eq_true] at h7
  obtain ⟨⟨h71, h72⟩, h73⟩ := h7
  have h72 := of_decide_eq_true h72
  have h73 := of_decide_eq_true h73
  have ha0 : ad1 0 = ad awp.length := hag 0 (Or.inl (by simp))
  have hag2 : zag (awp.length + 1) ad (adc ad ad1 awp.length) := fun j hj => by
    by_cases h : j < awp.length ∨ 1000 ≤ j
    · exact adc_lo h
    · have : j = awp.length + 0 := by omega
      rw [this, adc_hi ad ad1 (by omega)]; exact ha0
  have hag3 : zag awp.length ad (adc ad ad1 awp.length) := fun j hj => hag2 j (by omega)
  have hag4 : zag aw1.length ad1 (fun j => adc ad ad1 awp.length (awp.length + j)) := fun j hj => by
    rcases hj with hj | hj
    · exact adc_hi ad ad1 (by omega)
    · show adc ad ad1 awp.length (awp.length + j) = _
      rw [adc_lo (Or.inr (by omega))]
      exact (hag j (Or.inr hj)).symm
  have ew : zw (adc ad ad1 awp.length) (awp ++ aw1.map (zc (fun j => awp.length + j))) = zw (adc ad ad1 awp.length) awp ++ zw (fun j => adc ad ad1 awp.length (awp.length + j)) aw1 := by
    apply List.ext_getElem?
    intro k
    rw [zw_at, List.getElem?_append, List.getElem?_append, zw_len]
    split
    · rw [zw_at]
    · next h =>
      rw [zw_at, List.getElem?_map, Option.map_map]
      cases aw1[k - awp.length]? with
      | none => rfl
      | some x =>
        have hk9 : k = awp.length + (k - awp.length) := by omega
        simp only [Option.map_some, Function.comp]
        rw [← zc_comp, ← hk9]
  have hD1 : va_D (zA (D, cl, tys, fun j => ad (awp.length + j)) [e0] H.size) (zw (fun j => adc ad ad1 awp.length (awp.length + j)) aw1) := zD_adr hD1 (by
    apply List.ext_getElem?
    intro k
    rw [List.getElem?_map, List.getElem?_map, zw_at, zw_at]
    cases hk9 : aw1[k]? with
    | none => rfl
    | some x =>
      have := (List.getElem?_eq_some_iff.mp hk9).1
      simp only [Option.map_some]
      exact congrArg some (hag4 k (Or.inl this)))
  have hP1 : va_P D cl (zw (fun j => adc ad ad1 awp.length (awp.length + j)) aw1) t.heap := hag4.P (Nat.le_refl _) h71 hP1
  have hPp : va_P D cl (zw ad awp) H := fun k q hk => hP k q (by
    rw [zw_at] at hk ⊢
    rw [List.getElem?_append_left (by obtain ⟨x, hx, -⟩ := Option.map_eq_some_iff.mp hk; exact (List.getElem?_eq_some_iff.mp hx).1)]
    exact hk)
  have hapart : ∀ (k : Nat) (q : Nat × va_E), (zw ad awp)[k]? = some q → q.1 < H.size ∧ ¬ zA (D, cl, tys, fun j => ad (awp.length + j)) [e0] H.size q.1 := fun k q hk9 => by
    have hlt := (hPp k q hk9).lt
    refine ⟨hlt, ?_⟩
    rintro (⟨j, e', hj⟩ | hq)
    · have hj : (zw (fun j => ad (awp.length + j)) [e0])[j]? = some (q.1, e') := hj
      rw [ec] at hj
      have hj0 : j = 0 := by have := (List.getElem?_eq_some_iff.mp hj).1; simp at this; omega
      subst hj0
      have hq1 : ad awp.length = q.1 := congrArg Prod.fst (Option.some.inj hj)
      have hkl : k < awp.length := by have := (List.getElem?_eq_some_iff.mp hk9).1; rw [zw_len] at this; exact this
      have hk8 : (zw ad (awp ++ [e0]))[k]? = some q := by
        rw [zw_at] at hk9 ⊢
        rw [List.getElem?_append_left hkl]
        exact hk9
      have := hD.1 k awp.length _ _ hk8 hat hq1.symm
      omega
    · exact absurd hlt (Nat.not_lt.mpr hq)
  have hPp1 : va_P D cl (zw ad awp) T'.heap := hPp.kept (fun k q hk9 => by rw [e1]; exact hk q.1 (hapart k q hk9).1 (hapart k q hk9).2)
  have hP2 : va_P D cl (zw (adc ad ad1 awp.length) (awp ++ aw1.map (zc (fun j => awp.length + j)))) T'.heap := by
    rw [ew]
    exact va_P.app (hag3.P (Nat.le_refl _) ho1 hPp1) (by rw [e1]; exact hP1)
  have hDp : va_D A (zw ad awp) := by
    have key : ∀ (k : Nat) (q : Nat × va_E), (zw ad awp)[k]? = some q → (zw ad (awp ++ [e0]))[k]? = some q := fun k q hk9 => by
      have hkl : k < awp.length := by have := (List.getElem?_eq_some_iff.mp hk9).1; rw [zw_len] at this; exact this
      rw [zw_at] at hk9 ⊢
      rw [List.getElem?_append_left hkl]
      exact hk9
    exact ⟨fun i j x y hx hy hxy => hD.1 i j x y (key i x hx) (key j y hy) hxy, fun k q hk9 => hD.2 k q (key k q hk9)⟩
  have hD2 : va_D A (zw (adc ad ad1 awp.length) (awp ++ aw1.map (zc (fun j => awp.length + j)))) := by
    rw [ew]
    have hDa : va_D A (zw (adc ad ad1 awp.length) awp) := zD_adr hDp (by
      apply List.ext_getElem?
      intro k
      rw [List.getElem?_map, List.getElem?_map, zw_at, zw_at]
      cases hk9 : awp[k]? with
      | none => rfl
      | some x =>
        have := (List.getElem?_eq_some_iff.mp hk9).1
        simp only [Option.map_some]
        rw [hag3 k (Or.inl this)])
    refine va_D.app hDa (hD1.weaken (fun k q _ h => hfree _ h)) (fun i j x y hx hy hxy => ?_)
    have hx9 : ∃ x', (zw ad awp)[i]? = some x' ∧ x'.1 = x.1 := by
      rw [zw_at] at hx
      obtain ⟨z, h1, rfl⟩ := Option.map_eq_some_iff.mp hx
      exact ⟨_, zw_get h1, (hag3 i (Or.inl (List.getElem?_eq_some_iff.mp h1).1)).symm⟩
    obtain ⟨x', h1, h2⟩ := hx9
    exact (hapart i x' h1).2 (by rw [h2, hxy]; exact hD1.2 j y hy)
  have hz' : H.size ≤ T'.heap.size := by rw [e1]; exact hz
  have hS' : va_S A s.heap T'.heap (locs ++ L) := ⟨Nat.le_trans hS.1 hz', fun q h1 h2 => by
      rw [e1, hk q (Nat.lt_of_lt_of_le h1 hS.1) (fun z => h2 (hfree q z))]; exact hS.2.1 q h1 h2, fun q hq => by
      rcases List.mem_append.mp hq with h | h
      · exact hS.2.2 q h
      · exact hfree _ (hL q h)⟩
  obtain ⟨t2, a1, b1⟩ := kk (adc ad ad1 awp.length) aw1 hag2 hpo1 (zFx.up (a := mc) (b := ms) rfl rfl rfl hF) T'.heap (locs ++ L) ls hP2 hD2 hS' (hag2.l ho2 hl) T' rfl X'
  rw [hag2.vs ho3] at a1
  exact ⟨t2, stp t2 a1, b1⟩
end ZI
