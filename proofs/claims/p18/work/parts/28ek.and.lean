/-! two contracts of one call: both hold -/
theorem ended_inj {s : State} {below : List Frame} {v1 v2 : Option Value} (h1 : Ended s below (.returned v1)) (h2 : Ended s below (.returned v2)) : v1 = v2 := by
  have opt : ∀ {a b : Option Value} {S : List Value}, a.toList ++ S = b.toList ++ S → a = b := by
    intro a b S h
    have h := List.append_cancel_right h
    cases a with
    | none =>
      cases b with
      | none => rfl
      | some y => cases h
    | some x =>
      cases b with
      | none => cases h
      | some y => cases h; rfl
  cases below with
  | nil => exact h1.1.trans h2.1.symm
  | cons x r =>
    cases x with
    | java g =>
      obtain ⟨c1, i1, l1, a1, b1, f1⟩ := h1
      obtain ⟨c2, i2, l2, a2, b2, f2⟩ := h2
      rw [f1] at f2
      have h3 := (List.cons.inj f2).1
      have h4 := Frame.java.inj h3
      exact opt (congrArg JFrame.stack h4)
    | native g =>
      have f1 : s.frames = _ := h1
      have f2 : s.frames = _ := h2
      rw [f1] at f2
      have h3 := Frame.native.inj (List.cons.inj f2).1
      have h4 := congrArg NFrame.answer h3
      exact Outcome.returned.inj (Option.some.inj h4)
    | proc g =>
      have f1 : s.frames = _ := h1
      have f2 : s.frames = _ := h2
      rw [f1] at f2
      have h3 := Frame.proc.inj (List.cons.inj f2).1
      have h4 := congrArg PFrame.answer h3
      exact Outcome.returned.inj (Option.some.inj h4)
    | _ => exact h1.1.trans h2.1.symm
/-- two pictures of one heap -/
def Same2 (G : KG) (w1 w2 : va_W) : Prop := ∃ H : Heap, va_P G.1 vwCl w1 H ∧ va_P G.1 vwCl w2 H
theorem Ct.and {l : Launch} {G : KG} {y : MethodName} {cc : ByteArray} {mx : Nat} {ret : Option FieldType} {rm : Room} {av : List Value} {w0 wc : va_W} {post1 post2 : Option Value → va_W → Prop} (h1 : Ct l G y cc mx ret rm av w0 post1) (h2 : Ct l G y cc mx ret rm av wc post2) (is : List Nat) (hw : is.map (fun i => w0[i]?) = wc.map some) (hn : va_nd is = true) : Ct l G y cc mx ret rm av w0 (fun r w1 => post1 r w1 ∧ ∃ w2, post2 r w2 ∧ Same2 G w1 w2) := by
  intro sz p e ha hc hk s m args below hf happ hP hK
  have hP2 : Pcx G av wc sz args s := by
    obtain ⟨q0, q1, qP, qK, qD⟩ := hP
    exact ⟨q0, q1, va_Ppick qP is hw, qK, qD.sub is hn hw⟩
  obtain ⟨n1, o1, a1, b1, c1, ⟨⟨r1, w1, hr1, p1, P1, D1⟩, F1⟩, hL⟩ := h1 sz p e ha hc hk s m args below hf happ hP hK
  obtain ⟨n2, o2, a2, b2, c2, ⟨⟨r2, w2, hr2, p2, P2, D2⟩, F2⟩, -⟩ := h2 sz p e ha hc hk s m args below hf happ hP2 hK
  have en : n1 = n2 := by
    rcases Nat.lt_trichotomy n1 n2 with h | h | h
    · exact absurd (a2 n1 h) c1.not_within
    · exact h
    · exact absurd (a1 n2 h) c2.not_within
  subst en
  subst hr1
  subst hr2
  have er := ended_inj c1 c2
  subst er
  exact ⟨n1, .returned r1, a1, b1, c1, ⟨⟨r1, w1, rfl, ⟨p1, w2, p2, _, P1, P2⟩, P1, D1⟩, F1⟩, hL⟩
theorem same_at {G : KG} {w1 w2 : va_W} (h : Same2 G w1 w2) {k j a : Nat} {e1 e2 : va_E} (h1 : w1[k]? = some (a, e1)) (h2 : w2[j]? = some (a, e2)) : ∃ H : Heap, va_at G.1 vwCl (a, e1) H ∧ va_at G.1 vwCl (a, e2) H := by
  obtain ⟨H, p1, p2⟩ := h
  exact ⟨H, p1 k _ h1, p2 j _ h2⟩
theorem same_I {G : KG} {w1 w2 : va_W} (h : Same2 G w1 w2) {k j a n : Nat} {f g : Nat → Int32} (h1 : w1[k]? = some (a, aI G n f)) (h2 : w2[j]? = some (a, aI G n g)) : ∀ i, i < n → f i = g i := by
  obtain ⟨H, p1, p2⟩ := same_at h h1 h2
  have p1 : H[a]? = some (arrV (cyI G) n (fun j => .int (f j))) := p1
  have p2 : H[a]? = some (arrV (cyI G) n (fun j => .int (g j))) := p2
  rw [p1] at p2
  have e := congrArg Cell.slots (Option.some.inj p2)
  intro i hi
  have e2 : (Array.ofFn (n := n) fun j => Value.int (f j.val))[i]? = (Array.ofFn (n := n) fun j => Value.int (g j.val))[i]? := congrArg (fun q : Array Value => q[i]?) e
  rw [Array.getElem?_ofFn, Array.getElem?_ofFn, dif_pos hi, dif_pos hi] at e2
  exact Value.int.inj (Option.some.inj e2)
theorem same_O {G : KG} {w1 w2 : va_W} (h : Same2 G w1 w2) {k j a ci : Nat} {fs gs : List Value} {q : vw_C} (hq : vwCl[ci]? = some q) (h1 : w1[k]? = some (a, ob ci fs)) (h2 : w2[j]? = some (a, ob ci gs)) : ∀ i, i < q.2.2 → vp_V fs i = vp_V gs i := by
  obtain ⟨H, p1, p2⟩ := same_at h h1 h2
  obtain ⟨q1, z1, cell1, c1, -, -, s1⟩ := p1
  obtain ⟨q2, z2, cell2, c2, -, -, s2⟩ := p2
  have z1 : vwCl[ci]? = some q1 := z1
  have z2 : vwCl[ci]? = some q2 := z2
  rw [hq] at z1 z2
  cases z1
  cases z2
  have c1 : H[a]? = some cell1 := c1
  have c2 : H[a]? = some cell2 := c2
  rw [c1] at c2
  cases c2
  intro i hi
  have t1 := s1 i hi
  have t2 := s2 i hi
  rw [t1] at t2
  exact Option.some.inj t2
/-- a field by the other picture -/
theorem same_f {G : KG} {w1 w2 : va_W} (h : Same2 G w1 w2) {k j a ci i : Nat} {fs gs : List Value} {q : vw_C} {v : Value} (hq : vwCl[ci]? = some q) (h1 : w1[k]? = some (a, ob ci fs)) (h2 : w2[j]? = some (a, ob ci gs)) (hi : i < q.2.2) (hl : fs.length = q.2.2) (hv : gs[i]? = some v) : fget w1 k i = some v := by
  have e := same_O h hq h1 h2 i hi
  unfold fget
  rw [h1]
  show fs[i]? = some v
  have hi2 : i < fs.length := by rw [hl]; exact hi
  unfold vp_V at e
  rw [List.getD_eq_getElem?_getD, List.getD_eq_getElem?_getD, hv, List.getElem?_eq_getElem hi2] at e
  rw [List.getElem?_eq_getElem hi2]
  exact congrArg some e
