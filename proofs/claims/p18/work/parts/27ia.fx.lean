/-! what a call leaves as it was -/
def FX (M : List (Nat × Nat)) (n : Nat) (w0 w1 : va_W) : Prop := ∀ k j, k < n → mkq M k j = false → cget w1 k j = cget w0 k j
theorem FX.refl {M : List (Nat × Nat)} {n : Nat} {w : va_W} : FX M n w w := fun _ _ _ _ => rfl
theorem FX.trans {M : List (Nat × Nat)} {n : Nat} {w0 w1 w2 : va_W} (h1 : FX M n w0 w1) (h2 : FX M n w1 w2) : FX M n w0 w2 := fun k j hk hM => (h2 k j hk hM).trans (h1 k j hk hM)
def msub (n : Nat) (m M : List (Nat × Nat)) : Bool := m.all (fun q => Nat.ble n q.1 || mkq M q.1 q.2)
theorem msub_ok {n : Nat} {m M : List (Nat × Nat)} (h : msub n m M = true) {k j : Nat} (hk : k < n) (hM : mkq M k j = false) : mkq m k j = false := by
  cases hb : mkq m k j with
  | false => rfl
  | true =>
    exfalso
    obtain ⟨q, hq, hb⟩ := List.any_eq_true.mp hb
    obtain ⟨b1, b2⟩ := and2 hb
    have b1 := Nat.eq_of_beq_eq_true b1
    have h1 := List.all_eq_true.mp h q hq
    rw [Bool.or_eq_true] at h1
    rcases h1 with h1 | h1
    · have := Nat.le_of_ble_eq_true h1
      omega
    · obtain ⟨r, hr, hc⟩ := List.any_eq_true.mp h1
      obtain ⟨c1, c2⟩ := and2 hc
      have c1 := Nat.eq_of_beq_eq_true c1
      have hT : mkq M k j = true := by
        refine List.any_eq_true.mpr ⟨r, hr, ?_⟩
        rw [Bool.or_eq_true] at b2 c2
        have e1 : Nat.beq r.1 k = true := by rw [c1, b1]; exact Nat.beq_refl k
        rw [e1, Bool.true_and, Bool.or_eq_true]
        rcases c2 with c2 | c2
        · have c2 := Nat.eq_of_beq_eq_true c2
          rcases b2 with b2 | b2
          · have b2 := Nat.eq_of_beq_eq_true b2
            exact Or.inl (by rw [c2, b2]; exact Nat.beq_refl j)
          · have b2 := Nat.eq_of_beq_eq_true b2
            exact Or.inr (by rw [c2, b2]; rfl)
        · exact Or.inr c2
      rw [hM] at hT
      cases hT
theorem FX.frm {m M : List (Nat × Nat)} {n : Nat} {w0 wa wb : va_W} (h : FX M n w0 wa) (hF : FRM m wa wb) (hs : msub n m M = true) : FX M n w0 wb := fun k j hk hM => (hF.2 k j (msub_ok hs hk hM)).trans (h k j hk hM)
theorem FX.weak {m M : List (Nat × Nat)} {n : Nat} {w0 w1 : va_W} (h : FX m n w0 w1) (hs : msub n m M = true) : FX M n w0 w1 := fun k j hk hM => h k j hk (msub_ok hs hk hM)
theorem FX.get {M : List (Nat × Nat)} {n : Nat} {w0 w1 : va_W} (h : FX M n w0 w1) {k j : Nat} {v : Value} (hk : k < n) (hM : mkq M k j = false) (hf : fget w0 k j = some v) : fget w1 k j = some v := by
  have h1 := h k j hk hM
  unfold fget at hf ⊢
  unfold cget at h1
  cases e0 : w0[k]? with
  | none => rw [e0] at hf; cases hf
  | some q =>
    obtain ⟨a, en⟩ := q
    rw [e0] at hf h1
    cases en with
    | inl x => cases hf
    | inr ob0 =>
      have hf : ob0.2[j]? = some v := hf
      have h1 : _ = (ob0.2[j]?).map Sum.inl := h1
      rw [hf] at h1
      cases e1 : w1[k]? with
      | none => rw [e1] at h1; cases h1
      | some r =>
        obtain ⟨b, en2⟩ := r
        rw [e1] at h1
        cases en2 with
        | inl x => cases h1
        | inr ob1 =>
          have h1 : (ob1.2[j]?).map Sum.inl = some (Sum.inl v) := h1
          cases e2 : ob1.2[j]? with
          | none => rw [e2] at h1; cases h1
          | some u =>
            rw [e2] at h1
            have h2 := Sum.inl.inj (Option.some.inj h1)
            subst h2
            exact e2
theorem fx_app {M : List (Nat × Nat)} {w0 w1 wc : va_W} (h : FX M 109 w0 w1) (h0 : 109 ≤ w0.length) (h1 : 109 ≤ w1.length) : FX M 109 (w0 ++ wc) (w1 ++ wc) := by
  intro k j hk hM
  have := h k j hk hM
  unfold cget at this ⊢
  rw [List.getElem?_append_left (by omega), List.getElem?_append_left (by omega)]
  exact this
/-- what next and enough may write of the class's cells -/
abbrev mk_nxe : List (Nat × Nat) := [(0, 15), (1, 999), (2, 999), (29, 999), (30, 999), (31, 999)]
def GF (G : KG) (ω w : va_W) : Prop := GC G w ∧ FX mk_nxe 109 ω w
theorem GF.frm {G : KG} {m : List (Nat × Nat)} {ω wa wb : va_W} (h : GF G ω wa) (hF : FRM m wa wb) (hm : mkq m 111 0 = false ∧ msub 109 m mk_nxe = true) : GF G ω wb := ⟨h.1.frm hF hm.1, h.2.frm hF hm.2⟩
theorem GC.setA {G : KG} {ws : va_W} (h : GC G ws) {k a : Nat} {en : va_E} (hk : k ≠ 111) : GC G (ws.set k (a, en)) := by
  obtain ⟨b, f, h1, h2⟩ := h
  exact ⟨b, f, by rw [set_other hk]; exact h1, h2⟩
theorem GF.setA {G : KG} {ω ws : va_W} (h : GF G ω ws) {k a : Nat} {en : va_E} (hk : k ≠ 111 ∧ 109 ≤ k) : GF G ω (ws.set k (a, en)) :=
  ⟨h.1.setA hk.1, fun i j hi hM => by
    rw [cget_arr (show i ≠ k by omega)]
    exact h.2 i j hi hM⟩
