/-! for proofs by hand, between segments -/
section HL
variable {p : Program} {l : Launch} {e : Env} {R : Room} {s : State} {m : MethodId} {args : Array Value} {below : List Frame} {meth : Method} {c : Code} {nL : Nat} {G : KG} {A : Nat → Prop} {Q : State → Prop} {cc : ByteArray} {own : String} {ret : Option FieldType} {nm : String} {kc ks : Nat}
variable {ad : Nat → Nat} {T : List TE} {mk : List (Nat × Nat)} {w0 : va_W} {pin : List (Nat × Value)}
variable {lv : ALv} {st : List Nat} {ev : AEv} {ca : ACa} {rl : ARl} {nx pc : Nat} {ν : Nat → Value} {ws : va_W} {lw : List (Nat × Value)} {sw : List Value}
theorem put_row (X : ZC p s m args meth c cc nL own G A ret nm) {idx ci j kd : Nat} (hP : PA own idx ci j kd) {t : VT} (hk : kOK kd t = true) (hdg : decode cc pc = .ok (.putfield idx, 3)) {k a : Nat} {fs : List Value} {v : Value} {rest : List Value} (w1 : ws[k]? = some (a, ob ci fs)) (w2 : j < fs.length) (w3 : vty ad t v) (kz : Z p l e R s m args below meth c nL G A Q (pc + 3) lw rest (ws.set k (a, ob ci (fs.set j v))) kc ks) : Z p l e R s m args below meth c nL G A Q pc lw (v :: .ref a :: rest) ws kc ks := by
  obtain ⟨hF2, C, Tt, N, ty, p1, p2, p3, p4⟩ := hP
  have fin : narrow ty v = v ∧ fits ty v = true := by
    unfold kOK at hk
    rcases p4 with ⟨k0, rfl⟩ | ⟨k0, rfl⟩ | ⟨k0, rfl⟩
    · rw [k0] at hk
      have hk : (Nat.beq t.1 0 && true) = true := hk
      obtain ⟨x, rfl, -⟩ := vty0 w3 (Nat.eq_of_beq_eq_true (and2 hk).1)
      exact ⟨rfl, rfl⟩
    · rw [k0] at hk
      have hk : Nat.beq t.1 1 = true := hk
      obtain ⟨x, rfl, -⟩ := vty1 w3 (Nat.eq_of_beq_eq_true hk)
      exact ⟨rfl, rfl⟩
    · rw [k0] at hk
      have hk : (Nat.beq t.1 0 && (decide (0 ≤ t.2.1) && decide (t.2.2 ≤ 1))) = true := hk
      obtain ⟨g1, g2⟩ := and2 hk
      obtain ⟨g2, g3⟩ := and2 g2
      obtain ⟨x, rfl, x1, x2⟩ := vty0 w3 (Nat.eq_of_beq_eq_true g1)
      have g2 := of_decide_eq_true g2
      have g3 := of_decide_eq_true g3
      exact ⟨nar_z (by omega) (by omega), fit_z (by omega) (by omega)⟩
  rcases hF2 with hF2 | hF2
  · exact z_put X hF2 hdg _ w1 p1 (Or.inl p2) p3 fin.1 fin.2 w2 rfl kz
  · exact z_putN X hF2 hdg _ w1 p1 p2 p3 fin.1 fin.2 w2 rfl kz
theorem AG.put {r x j ci : Nat} {ts : List VT} {t : VT} (h : AG G ad T mk w0 pin (lv, x :: r :: st, ev, ca, rl, nx) ν lw sw ws) (hr : (aty ev r).1 = 2) (hT : T[(aty ev r).2.1.toNat]? = some (.inl (ci, ts))) (ht : ts[j]? = some t) (hm : mkq mk (aty ev r).2.1.toNat j = true)
    (hW : ∀ fs, ws[(aty ev r).2.1.toNat]? = some (ad (aty ev r).2.1.toNat, ob ci fs) → WT G ad T (ws.set (aty ev r).2.1.toNat (ad (aty ev r).2.1.toNat, ob ci (fs.set j (ν x))))) :
    ∃ fs, ws[(aty ev r).2.1.toNat]? = some (ad (aty ev r).2.1.toNat, ob ci fs) ∧ j < fs.length ∧ sw = ν x :: .ref (ad (aty ev r).2.1.toNat) :: st.map ν ∧ AG G ad T mk w0 pin (lv, st, ev, ((aty ev r).2.1.toNat, j, x) :: acut (aty ev r).2.1.toNat j ca, rl, nx) ν lw (st.map ν) (ws.set (aty ev r).2.1.toNat (ad (aty ev r).2.1.toNat, ob ci (fs.set j (ν x)))) := by
  obtain ⟨h1, h2, h3⟩ := h
  have h3 : AK G ad T mk w0 pin (lv, st, ev, ca, rl, nx) ν ws := h3
  have h2' : sw = ν x :: ν r :: st.map ν := h2
  obtain ⟨fs, v, q1, q2, q3, q4⟩ := h3.2.2.2.2.2.1.obj hT ht
  have hj := lt_of_getE q3
  refine ⟨fs, q1, hj, by rw [h2', h3.ref hr], h1, rfl, h3.1, h3.2.1, fun q hq => ?_, h3.2.2.2.1, h3.2.2.2.2.1, hW fs q1, ?_⟩
  · rcases List.mem_cons.mp hq with e | hq
    · rw [e]
      show fget _ _ j = some (ν x)
      rw [fget_of (set_same q1), List.getElem?_set_self hj]
    · obtain ⟨m1, m2⟩ := List.mem_filter.mp hq
      rw [fget_set q1]
      · exact h3.2.2.1 q m1
      · rintro ⟨e1, e2⟩
        rw [e1, e2] at m2
        simp at m2
  · obtain ⟨f1, f2⟩ := h3.2.2.2.2.2.2
    refine ⟨by rw [List.length_set]; exact f1, fun k' j' hk => ?_⟩
    rw [cget_set q1]
    · exact f2 k' j' hk
    · rintro ⟨e1, e2⟩
      rw [e1, e2, hm] at hk
      cases hk
/-- the arrays that lean on a field: one alone -/
def onlyB (T : List TE) (cell j ka : Nat) : Bool := T.zipIdx.all (fun q => match q.1 with
  | .inr o => !(Nat.ble 2 o.2.2.1 && (Nat.beq (pcl o.2.2.1) cell && Nat.beq (pfl o.2.2.1) j)) || Nat.beq q.2 ka
  | .inl _ => true)
theorem onlyB_ok {cell j ka k' n kd : Nat} {t' : VT} (h : onlyB T cell j ka = true) (g1 : T[k']? = some (.inr (kd, n, t'))) (g2 : 2 ≤ t'.1) (g3 : pcl t'.1 = cell) (g4 : pfl t'.1 = j) : k' = ka := by
  have h1 := List.all_eq_true.mp h (.inr (kd, n, t'), k') (List.mem_zipIdx_iff_getElem?.mpr g1)
  have h1 : (!(Nat.ble 2 t'.1 && (Nat.beq (pcl t'.1) cell && Nat.beq (pfl t'.1) j)) || Nat.beq k' ka) = true := h1
  have e : (Nat.ble 2 t'.1 && (Nat.beq (pcl t'.1) cell && Nat.beq (pfl t'.1) j)) = true := by
    rw [Bool.and_eq_true, Bool.and_eq_true, g3, g4]
    exact ⟨Nat.ble_eq.mpr g2, Nat.beq_refl _, Nat.beq_refl _⟩
  rw [e] at h1
  exact Nat.eq_of_beq_eq_true h1
/-- a field that tells how many are good goes up by one: the next is good -/
theorem WT.inc (h : WT G ad T ws) {k ci j ka n : Nat} {ts : List VT} {t ta : VT} {fs : List Value} {o x : Int32} {f : Nat → Int32} (hT : T[k]? = some (.inl (ci, ts))) (ht : ts[j]? = some t) (hw : ws[k]? = some (ad k, ob ci fs)) (hv : vty ad t (.int x)) (ho : fs[j]? = some (.int o)) (hx : x.toInt ≤ o.toInt + 1) (hTa : T[ka]? = some (.inr (0, n, ta))) (hf : ws[ka]? = some (ad ka, aI G n f)) (hk1 : pkd ta.1 ≤ 1) (hgood : ((pkd ta.1 : Nat) : Int) ≤ (f o.toInt.toNat).toInt) (hon : onlyB T k j ka = true) (h0 : 0 ≤ o.toInt) : WT G ad T (ws.set k (ad k, ob ci (fs.set j (.int x)))) := by
  have hka : ka ≠ k := by
    intro e
    subst e
    rw [hw] at hf
    cases hf
  refine ⟨by rw [List.length_set]; exact h.1, fun k' te hT' => ?_, ?_⟩
  · by_cases e : k' = k
    · subst e
      rw [hT] at hT'
      cases hT'
      obtain ⟨en, h1, fs', rfl, h2, h3⟩ := h.2.1 k' _ hT
      rw [hw] at h1
      cases h1
      refine ⟨_, set_same hw, _, rfl, by rw [List.length_set]; exact h2, fun j' t' v' ht' hv' => ?_⟩
      by_cases e : j' = j
      · subst e
        rw [ht] at ht'
        cases ht'
        rw [List.getElem?_set_self (lt_of_getE ho)] at hv'
        cases hv'
        exact hv
      · rw [List.getElem?_set_ne (fun h => e h.symm)] at hv'
        exact h3 j' t' v' ht' hv'
    · obtain ⟨en, h1, h2⟩ := h.2.1 k' te hT'
      exact ⟨en, by rw [set_other (fun h => e h.symm)]; exact h1, h2⟩
  · intro k' n' t' a f' c i hT' h2 hw' hf' hi
    have hk : k' ≠ k := by
      intro e
      subst e
      rw [set_same hw] at hw'
      cases hw'
    rw [set_other (fun h => hk h.symm)] at hw'
    by_cases e : pcl t'.1 = k ∧ pfl t'.1 = j
    · have e2 := onlyB_ok hon hT' h2 e.1 e.2
      subst e2
      rw [hTa] at hT'
      cases hT'
      rw [hf] at hw'
      have ef : f = f' := by
        have := congrArg Prod.snd (Option.some.inj hw')
        exact Sum.inl.inj (congrArg (fun z => z.2.2) (Sum.inl.inj this))
      subst ef
      rw [e.1, e.2, fget_of (set_same hw), List.getElem?_set_self (lt_of_getE ho)] at hf'
      cases hf'
      refine Or.inl ⟨hk1, fun hic => ?_⟩
      by_cases hlt : (i : Int) < o.toInt
      · rcases h.2.2 k' n ta _ f o i hTa h2 hf (by rw [e.1, e.2, fget_of hw]; exact ho) hi with ⟨_, hp⟩ | ⟨hp, _⟩
        · exact hp hlt
        · omega
      · have : i = o.toInt.toNat := by omega
        rw [this]
        exact hgood
    · rw [fget_set hw e] at hf'
      exact h.2.2 k' n' t' a f' c i hT' h2 hw' hf' hi
/-- what is not masked is as it was -/
theorem FRM.arr (h : FRM mk w0 ws) {k a : Nat} {y : ClassId × vp_A} (hm : mkq mk k 0 = false) (hw : w0[k]? = some (a, .inl y)) : ∃ b, ws[k]? = some (b, .inl y) := by
  have h1 := h.2 k 0 hm
  unfold cget at h1
  rw [hw] at h1
  cases h2 : ws[k]? with
  | none => rw [h2] at h1; cases h1
  | some q =>
    rw [h2] at h1
    obtain ⟨b, en⟩ := q
    cases en with
    | inl y' =>
      have h1 : (some (.inr y') : Option (Value ⊕ (ClassId × vp_A))) = some (.inr y) := h1
      cases h1
      exact ⟨b, rfl⟩
    | inr o =>
      have h1 : (o.2[0]?).map Sum.inl = (some (.inr y) : Option (Value ⊕ (ClassId × vp_A))) := h1
      cases h3 : o.2[0]? with
      | none => rw [h3] at h1; cases h1
      | some v => rw [h3] at h1; cases h1
theorem WT.adr {T : List TE} (h : WT G ad T ws) {k b : Nat} {te : TE} {en : va_E} (hT : T[k]? = some te) (hw : ws[k]? = some (b, en)) : b = ad k := by
  obtain ⟨en', h1, -⟩ := h.2.1 k te hT
  rw [hw] at h1
  exact congrArg Prod.fst (Option.some.inj h1)
theorem WT.ints (h : WT G ad T ws) {k n : Nat} {t : VT} (hT : T[k]? = some (.inr (0, n, t))) : ∃ f, ws[k]? = some (ad k, aI G n f) ∧ aint n t f := by
  obtain ⟨en, h1, h2⟩ := h.arr hT
  rcases h2 with ⟨-, f, rfl, h3⟩ | ⟨h9, -⟩ | ⟨h9, -⟩ | ⟨h9, -⟩
  · exact ⟨f, h1, h3⟩
  · cases h9
  · cases h9
  · cases h9
theorem POST.mono {C C' : CE} {μ : Nat → Value} {wa : va_W} {r : Option Value} {w1 : va_W} (h : POST G ad T C μ wa r w1) (hA : C.2.2.2.1 = C'.2.2.2.1) (hF : FRM C'.2.2.2.2.1 w0 wa) (hc : cov C'.2.2.2.2.1 C.2.2.2.2.1 = true) : POST G ad T C' μ w0 r w1 := by
  obtain ⟨A, h1, μ', h2, h3, h4, h5, h6, h7, h8, h9⟩ := h
  exact ⟨A, by rw [← hA]; exact h1, μ', h2, h3, h4, h5, h6, h7, h8, frm_trans hF h9 hc⟩
end HL
