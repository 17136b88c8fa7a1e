section HL3
variable {p : Program} {l : Launch} {e : Env} {R : Room} {s : State} {m : MethodId} {args : Array Value} {below : List Frame} {meth : Method} {c : Code} {nL : Nat} {G : KG} {A : Nat → Prop} {Q : State → Prop} {cc : ByteArray} {own : String} {ret : Option FieldType} {nm : String} {kc ks : Nat}
variable {ad : Nat → Nat} {T : List TE} {mk : List (Nat × Nat)} {w0 : va_W} {pin : List (Nat × Value)}
variable {lv : ALv} {st : List Nat} {ev : AEv} {ca : ACa} {rl : ARl} {nx pc : Nat} {ν : Nat → Value} {ws : va_W} {lw : List (Nat × Value)} {sw : List Value}
/-- a name that a state doesn't use -/
def nfree (n : Nat) (lv : ALv) (st : List Nat) (ev : AEv) (ca : ACa) (rl : ARl) : Bool := lv.all (fun q => !Nat.beq q.2.1 n) && (st.all (fun i => !Nat.beq i n) && (ev.all (fun q => !Nat.beq q.1 n) && (ca.all (fun q => !Nat.beq q.2.2 n) && rl.all (fun q => !Nat.beq q.1 n && !Nat.beq q.2.1 n))))
theorem nbq {a b : Nat} (h : (!Nat.beq a b) = true) : a ≠ b := by
  intro e
  rw [e, Nat.beq_refl] at h
  cases h
/-- a value gets a name of its own: pushed, pinned -/
theorem AG.pushN {n : Nat} {t : VT} {v : Value} (h : AG G ad T mk w0 pin (lv, st, ev, ca, rl, nx) ν lw sw ws) (hn : nfree n lv st ev ca rl = true) (h9 : n < 1000) (hp : ∀ q ∈ pin, q.1 ≠ n) (hv : vty ad t v) : AG G ad T mk w0 ((n, v) :: pin) (lv, n :: st, (n, t) :: ev, ca, rl, nx) (nup ν n v) lw (v :: sw) ws := by
  unfold nfree at hn
  obtain ⟨n1, hn⟩ := and2 hn
  obtain ⟨n2, hn⟩ := and2 hn
  obtain ⟨n3, hn⟩ := and2 hn
  obtain ⟨n4, n5⟩ := and2 hn
  have e1 : ∀ i, i ≠ n → nup ν n v i = ν i := fun i hi => if_neg hi
  obtain ⟨h1, h2, h3⟩ := h
  have m1 : ∀ q ∈ lv, nup ν n v q.2.1 = ν q.2.1 := fun q hq => e1 _ (nbq (List.all_eq_true.mp n1 q hq))
  have m2 : ∀ i ∈ st, nup ν n v i = ν i := fun q hq => e1 _ (nbq (List.all_eq_true.mp n2 q hq))
  refine ⟨?_, ?_, fun q hq => ?_, fun q hq => ?_, fun q hq => ?_, fun q hq => ?_, fun q hq => ?_, h3.2.2.2.2.2.1, h3.2.2.2.2.2.2⟩
  · rw [h1]
    exact (List.map_congr_left (fun q hq => by rw [m1 q hq])).symm
  · show v :: sw = nup ν n v n :: st.map (nup ν n v)
    rw [nup_eq, h2]
    exact congrArg _ (List.map_congr_left (fun q hq => (m2 q hq).symm))
  · show (nup ν n v q.2.1).category = _
    rw [m1 q hq]; exact h3.1 q hq
  · rcases List.mem_cons.mp hq with e | hq
    · rw [e]; show vty ad t (nup ν n v n); rw [nup_eq]; exact hv
    · rw [e1 _ (nbq (List.all_eq_true.mp n3 q hq))]; exact h3.2.1 q hq
  · rw [e1 _ (nbq (List.all_eq_true.mp n4 q hq))]; exact h3.2.2.1 q hq
  · obtain ⟨a1, a2⟩ := and2 (List.all_eq_true.mp n5 q hq)
    rw [e1 _ (nbq a1), e1 _ (nbq a2)]; exact h3.2.2.2.1 q hq
  · rcases List.mem_cons.mp hq with e | hq
    · rw [e]; exact ⟨h9, nup_eq⟩
    · exact ⟨(h3.2.2.2.2.1 q hq).1, by rw [e1 _ (hp q hq)]; exact (h3.2.2.2.2.1 q hq).2⟩
/-- pins of one's own -/
theorem AG.pins {pin2 : List (Nat × Value)} {σ : AS} (h : AG G ad T mk w0 pin σ ν lw sw ws) (hp : ∀ q ∈ pin2, q.1 < 1000 ∧ ν q.1 = q.2) : AG G ad T mk w0 pin2 σ ν lw sw ws := ⟨h.1, h.2.1, h.2.2.1, h.2.2.2.1, h.2.2.2.2.1, h.2.2.2.2.2.1, hp, h.2.2.2.2.2.2.2⟩
theorem vp_of {x : Int32} {n : Nat} (h1 : 0 ≤ x.toInt) (h2 : x.toInt < (n : Int)) : vp_in x n := by
  unfold vp_in
  rintro (h | h)
  · have := Int32.lt_iff_toInt_lt.mp h
    have e0 : (0 : Int32).toInt = 0 := rfl
    omega
  · have e0 : x.toNatClampNeg = x.toInt.toNat := rfl
    omega
/-- what a name's type says -/
theorem AK.rng {σ : AS} (h : AK G ad T mk w0 pin σ ν ws) {i : Nat} {a b : Int} (hm : (i, (0, a, b)) ∈ σ.2.2.1) : ∃ x : Int32, ν i = .int x ∧ a ≤ x.toInt ∧ x.toInt ≤ b := vty0 (h.2.1 _ hm) rfl
/-- an int of an array, on top of the index: the array, the place, the value -/
theorem AG.elem {i r k n : Nat} {a b : Int} {t : VT} (h : AG G ad T mk w0 pin (lv, i :: r :: st, ev, ca, rl, nx) ν lw sw ws) (hi : (i, (0, a, b)) ∈ ev) (ha : 0 ≤ a) (hb : b < (n : Int)) (hr : (aty ev r).1 = 2) (hk : (aty ev r).2.1.toNat = k) (hT : T[k]? = some (.inr (0, n, t))) : ∃ (x : Int32) (f : Nat → Int32), ν i = .int x ∧ sw = .int x :: .ref (ad k) :: st.map ν ∧ ws[k]? = some (ad k, aI G n f) ∧ aint n t f ∧ vp_in x n ∧ 0 ≤ x.toInt ∧ x.toInt < (n : Int) ∧ x.toNatClampNeg < n := by
  obtain ⟨h1, h2, h3⟩ := h
  obtain ⟨x, hx, x1, x2⟩ := h3.rng hi
  obtain ⟨f, w1, w2⟩ := WT.ints h3.2.2.2.2.2.1 hT
  have h2 : sw = ν i :: ν r :: st.map ν := h2
  have hr' := h3.ref (i := r) hr
  rw [hk] at hr'
  have e0 : x.toNatClampNeg = x.toInt.toNat := rfl
  exact ⟨x, f, hx, by rw [h2, hx, hr'], w1, w2, vp_of (by omega) (by omega), by omega, by omega, by omega⟩
/-- back at a head: its own names -/
theorem AG.arrive {d : CUT} {pids : List Nat} {σ : AS} (h : AG G ad T mk w0 pin σ ν lw sw ws) (hp : ∀ q ∈ pin, q.1 ∈ pids) (ha : aarr pids none d σ = true) (hr : rposB d = true) : ∃ (ν' : Nat → Value) (lw' : List (Nat × Value)), AG G ad T mk w0 pin d.2.1 ν' lw' sw ws ∧ ∀ q ∈ lw', q ∈ lw := by
  obtain ⟨ν', lw', q1, q2, -, -⟩ := aarr_ok h hp ha hr
  exact ⟨ν', lw', q1, q2⟩
end HL3
theorem Ct.weak {l : Launch} {G : KG} {y : MethodName} {cc : ByteArray} {maxL : Nat} {ret : Option FieldType} {rm : Room} {av : List Value} {w0 : va_W} {post post' : Option Value → va_W → Prop} (h : Ct l G y cc maxL ret rm av w0 post) (hi : ∀ r w1, post r w1 → post' r w1) : Ct l G y cc maxL ret rm av w0 post' := by
  intro sz
  have h0 := h sz
  unfold Met at h0 ⊢
  unfold MetFree at h0 ⊢
  intro p e ha hc s m args below hf happ hP hK hT
  obtain ⟨n, o, h1, h2, h3, h4⟩ := h0 p e ha hc s m args below hf happ hP hK hT
  refine ⟨n, o, h1, h2, h3, ?_⟩
  obtain ⟨⟨⟨r, w1, e1, e2, e3⟩, e4⟩, e5⟩ := h4
  exact ⟨⟨⟨r, w1, e1, hi r w1 e2, e3⟩, e4⟩, e5⟩
