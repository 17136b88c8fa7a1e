/-! the law: a case -/
def AOK : List VT → List Value → Prop
  | [], [] => True
  | t :: ts, v :: vs => (∀ ad, vty ad t v) ∧ AOK ts vs
  | _, _ => False
theorem aok_get : ∀ (ts : List VT) (vs : List Value), AOK ts vs → ∀ (j : Nat) (t : VT), ts[j]? = some t → ∀ ad, vty ad t ((vs[j]?).getD .null)
  | [], _, _, j, t, h, _ => by cases h
  | t0 :: ts, [], h, _, _, _, _ => h.elim
  | t0 :: ts, v :: vs, h, 0, t, hj, ad => by
    cases hj
    exact h.1 ad
  | t0 :: ts, v :: vs, h, j + 1, t, hj, ad => aok_get ts vs h.2 j t hj ad
theorem aok_len : ∀ (ts : List VT) (vs : List Value), AOK ts vs → ts.length = vs.length
  | [], [], _ => rfl
  | [], _ :: _, h => h.elim
  | _ :: _, [], h => h.elim
  | _ :: ts, _ :: vs, h => congrArg Nat.succ (aok_len ts vs h.2)
theorem pre_args {C : CE} {ts : List VT} {As : List Value} {x : Nat} (h1 : C.1 = (2, 0, 0) :: ts) (h2 : C.2.1 = []) (h3 : C.2.2.1 = []) (hA : AOK ts As) (ad : Nat → Nat) (w0 : va_W) (he : ad 0 = x) : ∃ μ, PRE ad C μ w0 ∧ (List.range C.1.length).map μ = .ref x :: As := by
  refine ⟨fun k => ((Value.ref x :: As)[k]?).getD .null, ⟨fun j t hj => ?_, fun j q hj => ?_, fun q hq => ?_⟩, ?_⟩
  · rw [h1] at hj
    match j, hj with
    | 0, hj =>
      cases hj
      exact Or.inr (Or.inr (Or.inl ⟨rfl, by show Value.ref x = .ref (ad 0); rw [he]⟩))
    | j + 1, hj => exact aok_get ts As hA j t hj ad
  · rw [h2] at hj; cases hj
  · rw [h3] at hq; cases hq
  · rw [h1]
    have hl : ((2, 0, 0) :: ts : List VT).length = (Value.ref x :: As).length := congrArg Nat.succ (aok_len ts As hA)
    rw [hl]
    refine List.ext_getElem (by simp) (fun k q1 q2 => ?_)
    rw [List.getElem_map, List.getElem_range, List.getElem?_eq_getElem q2]
    rfl
theorem lw_in {L : Nat} {i : Int32} {k : Int32} (hi0 : 0 ≤ i.toInt) (hi1 : i.toInt + 10 ≤ (L : Int) ∧ L ≤ 5120) (k0 : 0 ≤ k.toInt) (k1 : k.toInt ≤ 9) : vp_in (i + k) L := by
  have e : (i + k).toInt = i.toInt + k.toInt := tI_add rfl rfl (by omega)
  exact vp_of (by omega) (by omega)
