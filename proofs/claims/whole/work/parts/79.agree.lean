/-! the two sides agree, call by call -/
def Agr (ca : Nat → ClassId) (rk : Option Value) (awk awm : List va_E) (chk : (Nat → Int64) → Prop) : Prop := ∃ (f g : Nat → Nat → Int32) (w h : Nat → Nat) (S O : Nat → Int32) (ow oh th : Int32) (u : Nat → Int64), awk = twn ca f g w h ++ [oc ca u] ∧ awm = mwn ca th w h S O ow oh ∧ Rel f w h S ∧ rk = some (.int th) ∧ (th = 0 → chk u)
theorem nIj {a b : Nat} (h : nI a = nI b) (ha : a < 2 ^ 31 := by omega) (hb : b < 2 ^ 31 := by omega) : a = b := (nI_eq ha hb).mp h
theorem nbS {a b : Nat} (h1 : 1 ≤ a) (h2 : a ≤ 32) (h3 : 1 ≤ b) (h4 : b ≤ 32) : ¬ badS (nI a) (nI b) := by
  rintro (q | q | q | q)
  · exact nI_nlt (b := 1) h1 (by omega) q
  · exact nI_nlt (a := 32) h2 (by omega) q
  · exact nI_nlt (b := 1) h3 (by omega) q
  · exact nI_nlt (a := 32) h4 (by omega) q
theorem nv255 {c : Nat} (h : c ≤ 255) : ¬ (nI c < 0 ∨ 255 < nI c) := by
  rintro (q | q)
  · exact nI_pos (by omega) q
  · exact nI_nlt (a := 255) h (by omega) q
theorem IAEO : ¬ IAE = IOB := by decide
/-- no plane, or no sample there -/
def noS (w h : Nat → Nat) (n x y : Int32) : Prop := noP n ∨ ∃ k : Nat, k < 4 ∧ n = nI k ∧ hasB (nI (w k)) (nI (h k)) x y = false
theorem noS_k {w h : Nat → Nat} {k a b : Nat} (hW : okW w h) (hk : k < 4) (ha : a < w k) (hb : b < h k) : ¬ noS w h (nI k) (nI a) (nI b) := by
  have hw := hW k hk
  rintro (q | ⟨k', hk', e, q⟩)
  · exact noP_k hk q
  · have := nIj e
    subst this
    rw [hasB_nI ha hb (by omega) (by omega)] at q
    cases q
theorem a_size {ca : Nat → ClassId} {f g : Nat → Nat → Int32} {w h : Nat → Nat} {S O : Nat → Int32} {ow oh : Int32} {u : Nat → Int64} {rk rm : Option Value} {awk awm : List va_E} {n p q : Int32} (hR : Rel f w h S) (hk : (fun (r : Option Value) (aw : List va_E) => (r = some (.int 0) ∧ ∃ (r1 : Option Value) (aw1 : List va_E), (fun (r : Option Value) (aw : List va_E) => ∃ k w2 h2 : Nat, k < 4 ∧ n = nI k ∧ p = nI w2 ∧ q = nI h2 ∧ 1 ≤ w2 ∧ w2 ≤ 32 ∧ 1 ≤ h2 ∧ h2 ≤ 32 ∧ r = none ∧ aw = twn ca (va_up f k (fil 0 (f k) 1024)) g (va_up w k w2) (va_up h k h2)) r1 aw1 ∧ aw = aw1 ++ [oc ca u]) ∨ (∃ E : String, (fun E : String => (E = IOB ∧ noP n) ∨ (E = IAE ∧ ¬ noP n ∧ badS p q)) E ∧ r = some (.int (if E = IOB then 1 else 2)) ∧ aw = twn ca f g w h ++ [oc ca u])) rk awk) (hm : (fun (r : Option Value) (aw : List va_E) => r = none ∧ ((noP n ∧ aw = (mwn ca 1 w h S O ow oh)) ∨ (¬ noP n ∧ badS p q ∧ aw = (mwn ca 2 w h S O ow oh)) ∨ ∃ k w2 h2 : Nat, k < 4 ∧ n = nI k ∧ p = nI w2 ∧ q = nI h2 ∧ 1 ≤ w2 ∧ w2 ≤ 32 ∧ 1 ≤ h2 ∧ h2 ≤ 32 ∧ aw = (mwn ca 0 (va_up w k w2) (va_up h k h2) (mfil S k 1024) O ow oh))) rm awm) : Agr ca rk awk awm (fun _ => True) := by
  rcases hk with ⟨rfl, r1, aw1, ⟨k, w2, h2, hk, rfl, rfl, rfl, a1, a2, a3, a4, -, rfl⟩, rfl⟩ | ⟨E, hE, rfl, rfl⟩
  · rcases hm with ⟨-, ⟨hn, -⟩ | ⟨-, hb, -⟩ | ⟨k', w', h', hk', e1, e2, e3, b1, b2, b3, b4, rfl⟩⟩
    · exact absurd hn (noP_k hk)
    · exact absurd hb (nbS a1 a2 a3 a4)
    · obtain rfl := nIj e1
      obtain rfl := nIj e2
      obtain rfl := nIj e3
      exact ⟨_, _, _, _, _, _, _, _, _, _, rfl, rfl, r_size hR a1 a2 a3 a4, rfl, fun _ => trivial⟩
  · rcases hE with ⟨rfl, hn⟩ | ⟨rfl, hn, hb⟩
    · rcases hm with ⟨-, ⟨-, rfl⟩ | ⟨hn', -⟩ | ⟨k', w', h', hk', rfl, -⟩⟩
      · exact ⟨f, g, w, h, S, O, ow, oh, 1, u, rfl, rfl, hR, rfl, fun q => absurd q (by decide)⟩
      · exact absurd hn hn'
      · exact absurd hn (noP_k hk')
    · rcases hm with ⟨-, ⟨hn', -⟩ | ⟨-, -, rfl⟩ | ⟨k', w', h', hk', rfl, rfl, rfl, b1, b2, b3, b4, -⟩⟩
      · exact absurd hn' hn
      · exact ⟨f, g, w, h, S, O, ow, oh, 2, u, rfl, rfl, hR, rfl, fun q => absurd q (by decide)⟩
      · exact absurd hb (nbS b1 b2 b3 b4)
theorem a_put {ca : Nat → ClassId} {f g : Nat → Nat → Int32} {w h : Nat → Nat} {S O : Nat → Int32} {ow oh : Int32} {u : Nat → Int64} {rk rm : Option Value} {awk awm : List va_E} {n x y v : Int32} (hR : Rel f w h S) (hk : (fun (r : Option Value) (aw : List va_E) => (r = some (.int 0) ∧ ∃ (r1 : Option Value) (aw1 : List va_E), (fun (r : Option Value) (aw : List va_E) => ∃ k a b c : Nat, k < 4 ∧ n = nI k ∧ a < w k ∧ b < h k ∧ x = nI a ∧ y = nI b ∧ v = nI c ∧ c ≤ 255 ∧ r = none ∧ aw = twn ca (va_up f k (upd (f k) (b * 32 + a) v)) g w h) r1 aw1 ∧ aw = aw1 ++ [oc ca u]) ∨ (∃ E : String, (fun E : String => (E = IOB ∧ (noP n ∨ ∃ k : Nat, k < 4 ∧ n = nI k ∧ hasB (nI (w k)) (nI (h k)) x y = false)) ∨ (E = IAE ∧ ¬ (noP n ∨ ∃ k : Nat, k < 4 ∧ n = nI k ∧ hasB (nI (w k)) (nI (h k)) x y = false) ∧ (v < 0 ∨ 255 < v))) E ∧ r = some (.int (if E = IOB then 1 else 2)) ∧ aw = twn ca f g w h ++ [oc ca u])) rk awk) (hm : (fun (r : Option Value) (aw : List va_E) => r = none ∧ (((noP n ∨ ∃ k : Nat, k < 4 ∧ n = nI k ∧ hasB (nI (w k)) (nI (h k)) x y = false) ∧ aw = (mwn ca 1 w h S O ow oh)) ∨ ∃ k a b : Nat, k < 4 ∧ n = nI k ∧ a < w k ∧ b < h k ∧ x = nI a ∧ y = nI b ∧ (((v < 0 ∨ 255 < v) ∧ aw = (mwn ca 2 w h S O ow oh)) ∨ ∃ c : Nat, c ≤ 255 ∧ v = nI c ∧ aw = (mwn ca 0 w h (upd S (1024 * k + 32 * b + a) v) O ow oh)))) rm awm) : Agr ca rk awk awm (fun _ => True) := by
  have hW := hR.1
  rcases hk with ⟨rfl, r1, aw1, ⟨k, a, b, c, hk, rfl, ha, hb, rfl, rfl, rfl, hc, -, rfl⟩, rfl⟩ | ⟨E, hE, rfl, rfl⟩
  · rcases hm with ⟨-, ⟨hn, -⟩ | ⟨k', a', b', hk', e1, ha', hb', e2, e3, ⟨hv, -⟩ | ⟨c', hc', -, rfl⟩⟩⟩
    · exact absurd hn (noS_k hW hk ha hb)
    · exact absurd hv (nv255 hc)
    · obtain rfl := nIj e1
      have := hW k hk
      obtain rfl := nIj e2
      obtain rfl := nIj e3
      exact ⟨_, _, _, _, _, _, _, _, _, _, rfl, rfl, r_put hR hk ha hb hc, rfl, fun _ => trivial⟩
  · rcases hE with ⟨rfl, hn⟩ | ⟨rfl, hn, hv⟩
    · rcases hm with ⟨-, ⟨-, rfl⟩ | ⟨k', a', b', hk', rfl, ha', hb', rfl, rfl, -⟩⟩
      · exact ⟨f, g, w, h, S, O, ow, oh, 1, u, rfl, rfl, hR, rfl, fun q => absurd q (by decide)⟩
      · exact absurd hn (noS_k hW hk' ha' hb')
    · rcases hm with ⟨-, ⟨hn', -⟩ | ⟨k', a', b', hk', e1, ha', hb', e2, e3, ⟨-, rfl⟩ | ⟨c', hc', rfl, -⟩⟩⟩
      · exact absurd hn' hn
      · exact ⟨f, g, w, h, S, O, ow, oh, 2, u, rfl, rfl, hR, rfl, fun q => absurd q (by decide)⟩
      · exact absurd hv (nv255 hc')
theorem a_row {ca : Nat → ClassId} {f g : Nat → Nat → Int32} {w h : Nat → Nat} {S O : Nat → Int32} {ow oh : Int32} {u : Nat → Int64} {rk rm : Option Value} {awk awm : List va_E} {n x y : Int32} {e : Int64} (hR : Rel f w h S) (hk : (fun (r : Option Value) (aw : List va_E) => (r = some (.int 0) ∧ ∃ (r1 : Option Value) (aw1 : List va_E), (fun (r : Option Value) (aw : List va_E) => ∃ k a b : Nat, k < 4 ∧ n = nI k ∧ a < w k ∧ b < h k ∧ x = nI a ∧ y = nI b ∧ r = none ∧ aw = twn ca (va_up f k (rwL e (f k) a b (mn 8 (w k - a)))) g w h) r1 aw1 ∧ aw = aw1 ++ [oc ca u]) ∨ (∃ E : String, (fun E : String => E = IOB ∧ (noP n ∨ ∃ k : Nat, k < 4 ∧ n = nI k ∧ hasB (nI (w k)) (nI (h k)) x y = false)) E ∧ r = some (.int (if E = IOB then 1 else 2)) ∧ aw = twn ca f g w h ++ [oc ca u])) rk awk) (hm : (fun (r : Option Value) (aw : List va_E) => r = none ∧ (((noP n ∨ ∃ k : Nat, k < 4 ∧ n = nI k ∧ hasB (nI (w k)) (nI (h k)) x y = false) ∧ aw = (mwn ca 1 w h S O ow oh)) ∨ ∃ k a b : Nat, k < 4 ∧ n = nI k ∧ a < w k ∧ b < h k ∧ x = nI a ∧ y = nI b ∧ aw = (mwn ca 0 w h (mrw e S k a b (mn 8 (w k - a))) O ow oh))) rm awm) : Agr ca rk awk awm (fun _ => True) := by
  have hW := hR.1
  rcases hk with ⟨rfl, r1, aw1, ⟨k, a, b, hk, rfl, ha, hb, rfl, rfl, -, rfl⟩, rfl⟩ | ⟨E, ⟨rfl, hn⟩, rfl, rfl⟩
  · rcases hm with ⟨-, ⟨hn, -⟩ | ⟨k', a', b', hk', e1, ha', hb', e2, e3, rfl⟩⟩
    · exact absurd hn (noS_k hW hk ha hb)
    · obtain rfl := nIj e1
      have := hW k hk
      obtain rfl := nIj e2
      obtain rfl := nIj e3
      exact ⟨_, _, _, _, _, _, _, _, _, _, rfl, rfl, r_row hR hk ha hb, rfl, fun _ => trivial⟩
  · rcases hm with ⟨-, ⟨-, rfl⟩ | ⟨k', a', b', hk', rfl, ha', hb', rfl, rfl, -⟩⟩
    · exact ⟨f, g, w, h, S, O, ow, oh, 1, u, rfl, rfl, hR, rfl, fun q => absurd q (by decide)⟩
    · exact absurd hn (noS_k hW hk' ha' hb')
theorem a_copy {ca : Nat → ClassId} {f g : Nat → Nat → Int32} {w h : Nat → Nat} {S O : Nat → Int32} {ow oh : Int32} {u : Nat → Int64} {rk rm : Option Value} {awk awm : List va_E} {n m : Int32} (hR : Rel f w h S) (hk : (fun (r : Option Value) (aw : List va_E) => (r = some (.int 0) ∧ ∃ (r1 : Option Value) (aw1 : List va_E), (fun (r : Option Value) (aw : List va_E) => ∃ k k2 : Nat, k < 4 ∧ k2 < 4 ∧ n = nI k ∧ m = nI k2 ∧ r = none ∧ aw = twn ca (va_up f k2 (va_cpy (f k) (f k2) 0 0 1024)) g (va_up w k2 (w k)) (va_up h k2 (h k))) r1 aw1 ∧ aw = aw1 ++ [oc ca u]) ∨ (∃ E : String, (fun E : String => E = IOB ∧ (noP n ∨ noP m)) E ∧ r = some (.int (if E = IOB then 1 else 2)) ∧ aw = twn ca f g w h ++ [oc ca u])) rk awk) (hm : (fun (r : Option Value) (aw : List va_E) => r = none ∧ (((noP n ∨ noP m) ∧ aw = (mwn ca 1 w h S O ow oh)) ∨ ∃ k k2 : Nat, k < 4 ∧ k2 < 4 ∧ n = nI k ∧ m = nI k2 ∧ aw = (mwn ca 0 (va_up w k2 (w k)) (va_up h k2 (h k)) (mcp S k k2 1024) O ow oh))) rm awm) : Agr ca rk awk awm (fun _ => True) := by
  rcases hk with ⟨rfl, r1, aw1, ⟨k, k2, hk, hk2, rfl, rfl, -, rfl⟩, rfl⟩ | ⟨E, ⟨rfl, hn⟩, rfl, rfl⟩
  · rcases hm with ⟨-, ⟨hn | hn, -⟩ | ⟨k', k3, hk', hk3, e1, e2, rfl⟩⟩
    · exact absurd hn (noP_k hk)
    · exact absurd hn (noP_k hk2)
    · obtain rfl := nIj e1
      obtain rfl := nIj e2
      exact ⟨_, _, _, _, _, _, _, _, _, _, rfl, rfl, r_copy hR hk, rfl, fun _ => trivial⟩
  · rcases hm with ⟨-, ⟨-, rfl⟩ | ⟨k', k3, hk', hk3, rfl, rfl, -⟩⟩
    · exact ⟨f, g, w, h, S, O, ow, oh, 1, u, rfl, rfl, hR, rfl, fun q => absurd q (by decide)⟩
    · rcases hn with hn | hn
      · exact absurd hn (noP_k hk')
      · exact absurd hn (noP_k hk3)
theorem a_grow {ca : Nat → ClassId} {f g : Nat → Nat → Int32} {w h : Nat → Nat} {S O : Nat → Int32} {ow oh : Int32} {u : Nat → Int64} {rk rm : Option Value} {awk awm : List va_E} {n how : Int32} (hR : Rel f w h S) (hk : (fun (r : Option Value) (aw : List va_E) => (r = some (.int 0) ∧ ∃ (r1 : Option Value) (aw1 : List va_E), (fun (r : Option Value) (aw : List va_E) => ∃ k : Nat, k < 4 ∧ n = nI k ∧ ((grow0 how (w k) (h k) ∧ r = some (.int 0) ∧ aw = twn ca f g w h) ∨ ∃ v : Nat, v < 6 ∧ how = nI v ∧ ¬ tooL v (w k) (h k) ∧ r = some (.int 1) ∧ aw = twn ca (va_up f k (gro v (f k) (g k) (w k) (h k)).1) (va_up g k (gro v (f k) (g k) (w k) (h k)).2.1) (va_up w k (gro v (f k) (g k) (w k) (h k)).2.2.1) (va_up h k (gro v (f k) (g k) (w k) (h k)).2.2.2))) r1 aw1 ∧ aw = aw1 ++ [oc ca (vp_updL u 0 (o64 true r1))]) ∨ (∃ E : String, (fun E : String => E = IOB ∧ noP n) E ∧ r = some (.int (if E = IOB then 1 else 2)) ∧ aw = twn ca f g w h ++ [oc ca u])) rk awk) (hm : (fun (r : Option Value) (aw : List va_E) => ((noP n ∧ r = some (.int 0) ∧ aw = (mwn ca 1 w h S O ow oh)) ∨ ∃ k : Nat, k < 4 ∧ n = nI k ∧ ((grow0 how (w k) (h k) ∧ r = some (.int 0) ∧ aw = (mwn ca 0 w h S O ow oh)) ∨ ∃ v : Nat, v < 6 ∧ how = nI v ∧ ¬ tooL v (w k) (h k) ∧ r = some (.int 1) ∧ ∃ O2 ow2 oh2, aw = mwn ca 0 (va_up w k (mgro v S O (w k) (h k) k).2.1) (va_up h k (mgro v S O (w k) (h k) k).2.2) (mgro v S O (w k) (h k) k).1 O2 ow2 oh2))) rm awm) : Agr ca rk awk awm (fun u => u 0 = o64 true rm) := by
  rcases hk with ⟨rfl, r1, aw1, ⟨k, hk, rfl, hh⟩, rfl⟩ | ⟨E, ⟨rfl, hn⟩, rfl, rfl⟩
  · rcases hm with ⟨hn, -⟩ | ⟨k', hk', e1, hm⟩
    · exact absurd hn (noP_k hk)
    · obtain rfl := nIj e1
      rcases hh with ⟨g0, rfl, rfl⟩ | ⟨v, hv, rfl, hT, rfl, rfl⟩
      · rcases hm with ⟨-, rfl, rfl⟩ | ⟨v', hv', rfl, hT', -⟩
        · exact ⟨f, g, w, h, S, O, ow, oh, 0, _, rfl, rfl, hR, rfl, fun _ => rfl⟩
        · rcases g0 with q | q | ⟨v, hv, e, q⟩
          · exact absurd q (nI_pos (by omega))
          · exact absurd q (nI_nlt (a := 5) (by omega) (by omega))
          · obtain rfl := nIj e
            exact absurd q hT'
      · rcases hm with ⟨g0, -⟩ | ⟨v', hv', e2, hT', rfl, O2, ow2, oh2, rfl⟩
        · rcases g0 with q | q | ⟨v', hv', e, q⟩
          · exact absurd q (nI_pos (by omega))
          · exact absurd q (nI_nlt (a := 5) (by omega) (by omega))
          · obtain rfl := nIj e
            exact absurd q hT
        · obtain rfl := nIj e2
          obtain ⟨q1, q2, q3⟩ := r_grow (g := g) (O := O) hR hk hT
          rw [q1, q2]
          exact ⟨_, _, _, _, _, _, _, _, _, _, rfl, rfl, q3, rfl, fun _ => rfl⟩
  · rcases hm with ⟨-, -, rfl⟩ | ⟨k', hk', rfl, -⟩
    · exact ⟨f, g, w, h, S, O, ow, oh, 1, u, rfl, rfl, hR, rfl, fun q => absurd q (by decide)⟩
    · exact absurd hn (noP_k hk')
theorem a_shrink {ca : Nat → ClassId} {f g : Nat → Nat → Int32} {w h : Nat → Nat} {S O : Nat → Int32} {ow oh : Int32} {u : Nat → Int64} {rk rm : Option Value} {awk awm : List va_E} {n how : Int32} (hR : Rel f w h S) (hk : (fun (r : Option Value) (aw : List va_E) => (r = some (.int 0) ∧ ∃ (r1 : Option Value) (aw1 : List va_E), (fun (r : Option Value) (aw : List va_E) => ∃ k : Nat, k < 4 ∧ n = nI k ∧ (((how.toInt < 0 ∨ 2 < how.toInt) ∧ r = some (.int 0) ∧ aw = twn ca f g w h) ∨ ∃ v : Nat, v < 3 ∧ how = nI v ∧ r = some (.int 1) ∧ aw = twn ca (va_up f k (shr v (f k) (w k) (h k)).1) g (va_up w k (shr v (f k) (w k) (h k)).2.1) (va_up h k (shr v (f k) (w k) (h k)).2.2))) r1 aw1 ∧ aw = aw1 ++ [oc ca (vp_updL u 0 (o64 true r1))]) ∨ (∃ E : String, (fun E : String => E = IOB ∧ noP n) E ∧ r = some (.int (if E = IOB then 1 else 2)) ∧ aw = twn ca f g w h ++ [oc ca u])) rk awk) (hm : (fun (r : Option Value) (aw : List va_E) => ((noP n ∧ r = some (.int 0) ∧ aw = (mwn ca 1 w h S O ow oh)) ∨ ∃ k : Nat, k < 4 ∧ n = nI k ∧ (((how < 0 ∨ 2 < how) ∧ r = some (.int 0) ∧ aw = (mwn ca 0 w h S O ow oh)) ∨ ∃ v : Nat, v < 3 ∧ how = nI v ∧ r = some (.int 1) ∧ ∃ O2 ow2 oh2, aw = mwn ca 0 (va_up w k (shw v (w k))) (va_up h k (shh v (h k))) (ndY (msv v (mkp S O k 1024) (w k) (h k)) k (shw v (w k)) S (shh v (h k))) O2 ow2 oh2))) rm awm) : Agr ca rk awk awm (fun u => u 0 = o64 true rm) := by
  rcases hk with ⟨rfl, r1, aw1, ⟨k, hk, rfl, hh⟩, rfl⟩ | ⟨E, ⟨rfl, hn⟩, rfl, rfl⟩
  · rcases hm with ⟨hn, -⟩ | ⟨k', hk', e1, hm⟩
    · exact absurd hn (noP_k hk)
    · obtain rfl := nIj e1
      rcases hh with ⟨g0, rfl, rfl⟩ | ⟨v, hv, rfl, rfl, rfl⟩
      · rcases hm with ⟨-, rfl, rfl⟩ | ⟨v', hv', rfl, -⟩
        · exact ⟨f, g, w, h, S, O, ow, oh, 0, _, rfl, rfl, hR, rfl, fun _ => rfl⟩
        · rw [nI_toInt (by omega)] at g0
          omega
      · rcases hm with ⟨g0, -⟩ | ⟨v', hv', e2, rfl, O2, ow2, oh2, rfl⟩
        · rcases g0 with q | q
          · exact absurd q (nI_pos (by omega))
          · exact absurd q (nI_nlt (a := 2) (by omega) (by omega))
        · obtain rfl := nIj e2
          obtain ⟨q1, q2, q3⟩ := r_shrink (O := O) hR hk hv
          rw [q1, q2]
          exact ⟨_, _, _, _, _, _, _, _, _, _, rfl, rfl, q3, rfl, fun _ => rfl⟩
  · rcases hm with ⟨-, -, rfl⟩ | ⟨k', hk', rfl, -⟩
    · exact ⟨f, g, w, h, S, O, ow, oh, 1, u, rfl, rfl, hR, rfl, fun q => absurd q (by decide)⟩
    · exact absurd hn (noP_k hk')
theorem a_extend {ca : Nat → ClassId} {f g : Nat → Nat → Int32} {w h : Nat → Nat} {S O : Nat → Int32} {ow oh : Int32} {u : Nat → Int64} {rk rm : Option Value} {awk awm : List va_E} {n p q : Int32} (hR : Rel f w h S) (hk : (fun (r : Option Value) (aw : List va_E) => (r = some (.int 0) ∧ ∃ (r1 : Option Value) (aw1 : List va_E), (fun (r : Option Value) (aw : List va_E) => ∃ k : Nat, k < 4 ∧ n = nI k ∧ ((badE (w k) (h k) p q ∧ r = some (.int 0) ∧ aw = twn ca f g w h) ∨ ∃ w2 h2 : Nat, ¬ badE (w k) (h k) p q ∧ p = nI w2 ∧ q = nI h2 ∧ w k ≤ w2 ∧ w2 ≤ 32 ∧ h k ≤ h2 ∧ h2 ≤ 32 ∧ r = some (.int 1) ∧ aw = twn ca (va_up f k (dpn (h k) h2 (wdn (w k) w2 (f k) (h k)) w2)) g (va_up w k w2) (va_up h k h2))) r1 aw1 ∧ aw = aw1 ++ [oc ca (vp_updL u 0 (o64 true r1))]) ∨ (∃ E : String, (fun E : String => E = IOB ∧ noP n) E ∧ r = some (.int (if E = IOB then 1 else 2)) ∧ aw = twn ca f g w h ++ [oc ca u])) rk awk) (hm : (fun (r : Option Value) (aw : List va_E) => ((noP n ∧ r = some (.int 0) ∧ aw = (mwn ca 1 w h S O ow oh)) ∨ ∃ k : Nat, k < 4 ∧ n = nI k ∧ ((badE (w k) (h k) p q ∧ r = some (.int 0) ∧ aw = (mwn ca 0 w h S O ow oh)) ∨ ∃ w2 h2 : Nat, ¬ badE (w k) (h k) p q ∧ p = nI w2 ∧ q = nI h2 ∧ w2 ≤ 32 ∧ h2 ≤ 32 ∧ r = some (.int 1) ∧ ∃ O2 ow2 oh2, aw = mwn ca 0 (va_up w k w2) (va_up h k h2) (ndY (mev (mkp S O k 1024) (w k) (h k)) k w2 S h2) O2 ow2 oh2))) rm awm) : Agr ca rk awk awm (fun u => u 0 = o64 true rm) := by
  rcases hk with ⟨rfl, r1, aw1, ⟨k, hk, rfl, hh⟩, rfl⟩ | ⟨E, ⟨rfl, hn⟩, rfl, rfl⟩
  · rcases hm with ⟨hn, -⟩ | ⟨k', hk', e1, hm⟩
    · exact absurd hn (noP_k hk)
    · obtain rfl := nIj e1
      rcases hh with ⟨g0, rfl, rfl⟩ | ⟨w2, h2, hb, rfl, rfl, a1, a2, a3, a4, rfl, rfl⟩
      · rcases hm with ⟨-, rfl, rfl⟩ | ⟨w', h', hb', -⟩
        · exact ⟨f, g, w, h, S, O, ow, oh, 0, _, rfl, rfl, hR, rfl, fun _ => rfl⟩
        · exact absurd g0 hb'
      · rcases hm with ⟨g0, -⟩ | ⟨w', h', hb', e2, e3, b1, b2, rfl, O2, ow2, oh2, rfl⟩
        · exact absurd g0 hb
        · obtain rfl := nIj e2
          obtain rfl := nIj e3
          exact ⟨_, _, _, _, _, _, _, _, _, _, rfl, rfl, r_extend hR hk a1 a2 a3 a4, rfl, fun _ => rfl⟩
  · rcases hm with ⟨-, -, rfl⟩ | ⟨k', hk', rfl, -⟩
    · exact ⟨f, g, w, h, S, O, ow, oh, 1, u, rfl, rfl, hR, rfl, fun q => absurd q (by decide)⟩
    · exact absurd hn (noP_k hk')
theorem a_cut {ca : Nat → ClassId} {f g : Nat → Nat → Int32} {w h : Nat → Nat} {S O : Nat → Int32} {ow oh : Int32} {u : Nat → Int64} {rk rm : Option Value} {awk awm : List va_E} {n p q : Int32} (hR : Rel f w h S) (hk : (fun (r : Option Value) (aw : List va_E) => (r = some (.int 0) ∧ ∃ (r1 : Option Value) (aw1 : List va_E), (fun (r : Option Value) (aw : List va_E) => ∃ k : Nat, k < 4 ∧ n = nI k ∧ ((badC (w k) (h k) p q ∧ r = some (.int 0) ∧ aw = twn ca f g w h) ∨ ∃ w2 h2 : Nat, ¬ badC (w k) (h k) p q ∧ p = nI w2 ∧ q = nI h2 ∧ 1 ≤ w2 ∧ w2 ≤ w k ∧ 1 ≤ h2 ∧ h2 ≤ h k ∧ r = some (.int 1) ∧ aw = twn ca f g (va_up w k w2) (va_up h k h2))) r1 aw1 ∧ aw = aw1 ++ [oc ca (vp_updL u 0 (o64 true r1))]) ∨ (∃ E : String, (fun E : String => E = IOB ∧ noP n) E ∧ r = some (.int (if E = IOB then 1 else 2)) ∧ aw = twn ca f g w h ++ [oc ca u])) rk awk) (hm : (fun (r : Option Value) (aw : List va_E) => ((noP n ∧ r = some (.int 0) ∧ aw = (mwn ca 1 w h S O ow oh)) ∨ ∃ k : Nat, k < 4 ∧ n = nI k ∧ ((badC (w k) (h k) p q ∧ r = some (.int 0) ∧ aw = (mwn ca 0 w h S O ow oh)) ∨ ∃ w2 h2 : Nat, ¬ badC (w k) (h k) p q ∧ p = nI w2 ∧ q = nI h2 ∧ r = some (.int 1) ∧ aw = (mwn ca 0 (va_up w k w2) (va_up h k h2) S O ow oh)))) rm awm) : Agr ca rk awk awm (fun u => u 0 = o64 true rm) := by
  rcases hk with ⟨rfl, r1, aw1, ⟨k, hk, rfl, hh⟩, rfl⟩ | ⟨E, ⟨rfl, hn⟩, rfl, rfl⟩
  · rcases hm with ⟨hn, -⟩ | ⟨k', hk', e1, hm⟩
    · exact absurd hn (noP_k hk)
    · obtain rfl := nIj e1
      rcases hh with ⟨g0, rfl, rfl⟩ | ⟨w2, h2, hb, rfl, rfl, a1, a2, a3, a4, rfl, rfl⟩
      · rcases hm with ⟨-, rfl, rfl⟩ | ⟨w', h', hb', -⟩
        · exact ⟨f, g, w, h, S, O, ow, oh, 0, _, rfl, rfl, hR, rfl, fun _ => rfl⟩
        · exact absurd g0 hb'
      · rcases hm with ⟨g0, -⟩ | ⟨w', h', hb', e2, e3, rfl, rfl⟩
        · exact absurd g0 hb
        · have z2 : mwn ca 0 (va_up w k w') (va_up h k h') S O ow oh = mwn ca 0 (va_up w k w2) (va_up h k h2) S O ow oh := by
            unfold mwn
            rw [← va_upn, ← va_upn, ← va_upn, ← va_upn, e2, e3]
          rw [z2]
          exact ⟨_, _, _, _, _, _, _, _, _, _, rfl, rfl, r_cut hR hk a1 a2 a3 a4, rfl, fun _ => rfl⟩
  · rcases hm with ⟨-, -, rfl⟩ | ⟨k', hk', rfl, -⟩
    · exact ⟨f, g, w, h, S, O, ow, oh, 1, u, rfl, rfl, hR, rfl, fun q => absurd q (by decide)⟩
    · exact absurd hn (noP_k hk')
theorem a_at {ca : Nat → ClassId} {f g : Nat → Nat → Int32} {w h : Nat → Nat} {S O : Nat → Int32} {ow oh : Int32} {u : Nat → Int64} {rk rm : Option Value} {awk awm : List va_E} {n x y : Int32} (hR : Rel f w h S) (hk : (fun (r : Option Value) (aw : List va_E) => (r = some (.int 0) ∧ ∃ (r1 : Option Value) (aw1 : List va_E), (fun (r : Option Value) (aw : List va_E) => ∃ k a b : Nat, k < 4 ∧ n = nI k ∧ a < w k ∧ b < h k ∧ x = nI a ∧ y = nI b ∧ r = some (.int (f k (b * 32 + a))) ∧ aw = twn ca f g w h) r1 aw1 ∧ aw = aw1 ++ [oc ca (vp_updL u 0 (o64 false r1))]) ∨ (∃ E : String, (fun E : String => E = IOB ∧ (noP n ∨ ∃ k : Nat, k < 4 ∧ n = nI k ∧ hasB (nI (w k)) (nI (h k)) x y = false)) E ∧ r = some (.int (if E = IOB then 1 else 2)) ∧ aw = twn ca f g w h ++ [oc ca u])) rk awk) (hm : (fun (r : Option Value) (aw : List va_E) => (((noP n ∨ ∃ k : Nat, k < 4 ∧ n = nI k ∧ hasB (nI (w k)) (nI (h k)) x y = false) ∧ r = some (.int 0) ∧ aw = (mwn ca 1 w h S O ow oh)) ∨ ∃ k a b : Nat, k < 4 ∧ n = nI k ∧ a < w k ∧ b < h k ∧ x = nI a ∧ y = nI b ∧ r = some (.int (S (1024 * k + 32 * b + a))) ∧ aw = (mwn ca 0 w h S O ow oh))) rm awm) : Agr ca rk awk awm (fun u => u 0 = o64 false rm) := by
  have hW := hR.1
  rcases hk with ⟨rfl, r1, aw1, ⟨k, a, b, hk, rfl, ha, hb, rfl, rfl, rfl, rfl⟩, rfl⟩ | ⟨E, ⟨rfl, hn⟩, rfl, rfl⟩
  · rcases hm with ⟨hn, -⟩ | ⟨k', a', b', hk', e1, ha', hb', e2, e3, rfl, rfl⟩
    · exact absurd hn (noS_k hW hk ha hb)
    · obtain rfl := nIj e1
      have := hW k hk
      obtain rfl := nIj e2
      obtain rfl := nIj e3
      refine ⟨_, _, _, _, _, _, _, _, _, _, rfl, rfl, hR, rfl, fun _ => ?_⟩
      rw [(hR.2 k hk _ hb _ ha).1]
      rfl
  · rcases hm with ⟨-, -, rfl⟩ | ⟨k', a', b', hk', rfl, ha', hb', rfl, rfl, -⟩
    · exact ⟨f, g, w, h, S, O, ow, oh, 1, u, rfl, rfl, hR, rfl, fun q => absurd q (by decide)⟩
    · exact absurd hn (noS_k hW hk' ha' hb')
theorem a_eight {ca : Nat → ClassId} {f g : Nat → Nat → Int32} {w h : Nat → Nat} {S O : Nat → Int32} {ow oh : Int32} {u : Nat → Int64} {rk rm : Option Value} {awk awm : List va_E} {n x y : Int32} (hR : Rel f w h S) (hk : (fun (r : Option Value) (aw : List va_E) => (r = some (.int 0) ∧ ∃ (r1 : Option Value) (aw1 : List va_E), (fun (r : Option Value) (aw : List va_E) => ∃ k : Nat, k < 4 ∧ n = nI k ∧ r = some (.long (eiL (f k) (w k) (h k) x y 8)) ∧ aw = twn ca f g w h) r1 aw1 ∧ aw = aw1 ++ [oc ca (vp_updL u 0 (o64 false r1))]) ∨ (∃ E : String, (fun E : String => E = IOB ∧ noP n) E ∧ r = some (.int (if E = IOB then 1 else 2)) ∧ aw = twn ca f g w h ++ [oc ca u])) rk awk) (hm : (fun (r : Option Value) (aw : List va_E) => ((noP n ∧ r = some (.long 0) ∧ aw = (mwn ca 1 w h S O ow oh)) ∨ ∃ k : Nat, k < 4 ∧ n = nI k ∧ r = some (.long (meL S k (w k) (h k) x y 8)) ∧ aw = (mwn ca 0 w h S O ow oh))) rm awm) : Agr ca rk awk awm (fun u => u 0 = o64 false rm) := by
  rcases hk with ⟨rfl, r1, aw1, ⟨k, hk, rfl, rfl, rfl⟩, rfl⟩ | ⟨E, ⟨rfl, hn⟩, rfl, rfl⟩
  · rcases hm with ⟨hn, -⟩ | ⟨k', hk', e1, rfl, rfl⟩
    · exact absurd hn (noP_k hk)
    · obtain rfl := nIj e1
      refine ⟨_, _, _, _, _, _, _, _, _, _, rfl, rfl, hR, rfl, fun _ => ?_⟩
      rw [r_eight hR hk]
      rfl
  · rcases hm with ⟨-, -, rfl⟩ | ⟨k', hk', rfl, -⟩
    · exact ⟨f, g, w, h, S, O, ow, oh, 1, u, rfl, rfl, hR, rfl, fun q => absurd q (by decide)⟩
    · exact absurd hn (noP_k hk')
theorem a_apart {ca : Nat → ClassId} {f g : Nat → Nat → Int32} {w h : Nat → Nat} {S O : Nat → Int32} {ow oh : Int32} {u : Nat → Int64} {rk rm : Option Value} {awk awm : List va_E} {n m : Int32} (hR : Rel f w h S) (hk : (fun (r : Option Value) (aw : List va_E) => (r = some (.int 0) ∧ ∃ (r1 : Option Value) (aw1 : List va_E), (fun (r : Option Value) (aw : List va_E) => ∃ k k2 : Nat, k < 4 ∧ k2 < 4 ∧ n = nI k ∧ m = nI k2 ∧ aw = twn ca f g w h ∧ r = some (.int (if w k = w k2 ∧ h k = h k2 then allF (fun a b => if a < b then b else a) (fun j => zab (f k j - f k2 j)) (w k) (h k) 0 else -1))) r1 aw1 ∧ aw = aw1 ++ [oc ca (vp_updL u 0 (o64 false r1))]) ∨ (∃ E : String, (fun E : String => E = IOB ∧ (noP n ∨ noP m)) E ∧ r = some (.int (if E = IOB then 1 else 2)) ∧ aw = twn ca f g w h ++ [oc ca u])) rk awk) (hm : (fun (r : Option Value) (aw : List va_E) => (((noP n ∨ noP m) ∧ r = some (.int 0) ∧ aw = (mwn ca 1 w h S O ow oh)) ∨ ∃ k k2 : Nat, k < 4 ∧ k2 < 4 ∧ n = nI k ∧ m = nI k2 ∧ aw = (mwn ca 0 w h S O ow oh) ∧ r = some (.int (if w k = w k2 ∧ h k = h k2 then allF (fun a b => if a < b then b else a) (fun j => zab (S (1024 * k + j) - S (1024 * k2 + j))) (w k) (h k) 0 else -1)))) rm awm) : Agr ca rk awk awm (fun u => u 0 = o64 false rm) := by
  rcases hk with ⟨rfl, r1, aw1, ⟨k, k2, hk, hk2, rfl, rfl, rfl, rfl⟩, rfl⟩ | ⟨E, ⟨rfl, hn⟩, rfl, rfl⟩
  · rcases hm with ⟨hn | hn, -⟩ | ⟨k', k3, hk', hk3, e1, e2, rfl, rfl⟩
    · exact absurd hn (noP_k hk)
    · exact absurd hn (noP_k hk2)
    · obtain rfl := nIj e1
      obtain rfl := nIj e2
      refine ⟨_, _, _, _, _, _, _, _, _, _, rfl, rfl, hR, rfl, fun _ => ?_⟩
      rw [r_apart hR hk hk2]
      rfl
  · rcases hm with ⟨-, -, rfl⟩ | ⟨k', k3, hk', hk3, rfl, rfl, -⟩
    · exact ⟨f, g, w, h, S, O, ow, oh, 1, u, rfl, rfl, hR, rfl, fun q => absurd q (by decide)⟩
    · rcases hn with hn | hn
      · exact absurd hn (noP_k hk')
      · exact absurd hn (noP_k hk3)
theorem a_look {ca : Nat → ClassId} {f g : Nat → Nat → Int32} {w h : Nat → Nat} {S O : Nat → Int32} {ow oh : Int32} {u : Nat → Int64} {rk rm : Option Value} {awk awm : List va_E} {n how : Int32} (hR : Rel f w h S) (hk : (fun (r : Option Value) (aw : List va_E) => (r = some (.int 0) ∧ ∃ (r1 : Option Value) (aw1 : List va_E), (fun (r : Option Value) (aw : List va_E) => ∃ k : Nat, k < 4 ∧ n = nI k ∧ aw = twn ca f g w h ∧ (((how.toInt < 0 ∨ 4 < how.toInt) ∧ r = some (.int (-1))) ∨ ∃ v : Nat, v < 5 ∧ how = nI v ∧ r = some (.int (lkv v (f k) (w k) (h k))))) r1 aw1 ∧ aw = aw1 ++ [oc ca (vp_updL u 0 (o64 false r1))]) ∨ (∃ E : String, (fun E : String => E = IOB ∧ noP n) E ∧ r = some (.int (if E = IOB then 1 else 2)) ∧ aw = twn ca f g w h ++ [oc ca u])) rk awk) (hm : (fun (r : Option Value) (aw : List va_E) => ((noP n ∧ r = some (.int 0) ∧ aw = (mwn ca 1 w h S O ow oh)) ∨ ∃ k : Nat, k < 4 ∧ n = nI k ∧ aw = (mwn ca 0 w h S O ow oh) ∧ (((how.toInt < 0 ∨ 4 < how.toInt) ∧ r = some (.int (-1))) ∨ ∃ v : Nat, v < 5 ∧ how = nI v ∧ r = some (.int (lkv v (fun j => S (1024 * k + j)) (w k) (h k)))))) rm awm) : Agr ca rk awk awm (fun u => u 0 = o64 false rm) := by
  rcases hk with ⟨rfl, r1, aw1, ⟨k, hk, rfl, rfl, hh⟩, rfl⟩ | ⟨E, ⟨rfl, hn⟩, rfl, rfl⟩
  · rcases hm with ⟨hn, -⟩ | ⟨k', hk', e1, rfl, hm⟩
    · exact absurd hn (noP_k hk)
    · obtain rfl := nIj e1
      refine ⟨_, _, _, _, _, _, _, _, _, _, rfl, rfl, hR, rfl, fun _ => ?_⟩
      rcases hh with ⟨g0, rfl⟩ | ⟨v, hv, rfl, rfl⟩
      · rcases hm with ⟨-, rfl⟩ | ⟨v', hv', rfl, -⟩
        · rfl
        · rw [nI_toInt (by omega)] at g0
          omega
      · rcases hm with ⟨g0, -⟩ | ⟨v', hv', e2, rfl⟩
        · rw [nI_toInt (by omega)] at g0
          omega
        · obtain rfl := nIj e2
          rw [r_look hR hk]
          rfl
  · rcases hm with ⟨-, -, rfl⟩ | ⟨k', hk', rfl, -⟩
    · exact ⟨f, g, w, h, S, O, ow, oh, 1, u, rfl, rfl, hR, rfl, fun q => absurd q (by decide)⟩
    · exact absurd hn (noP_k hk')
