/-! the law: values told exactly; the relation of the two worlds -/
def muF (x : Nat) (As Fs : List Value) : Nat → Value := fun k => if k < 100 then ((Value.ref x :: As)[k]?).getD .null else (Fs[k - 100]?).getD .null
theorem pre_F {C : CE} {ts : List VT} {As : List Value} {x k0 j0 : Nat} {f : Value} {t0 : VT} (h1 : C.1 = (2, 0, 0) :: ts) (h2 : C.2.1 = [(k0, j0, t0)]) (hl : As.length < 99) (hA : AOK ts As) (ht : ∀ ad, vty ad t0 f) (hr : ∀ q ∈ C.2.2.1, vI (muF x As [f] q.1) ≤ vI (muF x As [f] q.2.1) + q.2.2) (ad : Nat → Nat) (w0 : va_W) (he : ad 0 = x) (hf : fget w0 k0 j0 = some f) : PRE ad C (muF x As [f]) w0 := by
  refine ⟨fun j t hj => ?_, fun j q hj => ?_, hr⟩
  · rw [h1] at hj
    have hlt : j < 100 := by
      have h3 := (List.getElem?_eq_some_iff.mp hj).1
      rw [List.length_cons, aok_len ts As hA] at h3
      omega
    have e : muF x As [f] j = ((Value.ref x :: As)[j]?).getD .null := if_pos hlt
    rw [e]
    match j, hj with
    | 0, hj =>
      cases hj
      exact Or.inr (Or.inr (Or.inl ⟨rfl, by show Value.ref x = .ref (ad 0); rw [he]⟩))
    | j + 1, hj => exact aok_get ts As hA j t hj ad
  · rw [h2] at hj
    match j, hj with
    | 0, hj =>
      cases hj
      exact ⟨ht ad, hf⟩
    | j + 1, hj => cases hj
theorem pz_a {ad : Nat → Nat} {C : CE} {n : Nat} {μ : Nat → Value} {w0 w1 : va_W} {r : Option Value} {A : ALT} (h : PZ ad C n μ w0 r w1) (hC : C.2.2.2.1 = [A]) {t : VT} (ha : A.1 = some t) (ht : t.1 = 0) : ∃ (v : Int32) (ν : Nat → Value), r = some (.int v) ∧ t.2.1 ≤ v.toInt ∧ v.toInt ≤ t.2.2 ∧ ν 50 = .int v ∧ (∀ i, i < 50 → ν i = μ i) ∧ (∀ i, 100 ≤ i → i < 200 → ν i = μ i) ∧ (∀ k q, A.2.2.1[k]? = some q → vty ad q.2.2 (ν (200 + k)) ∧ fget w1 q.1 q.2.1 = some (ν (200 + k))) ∧ (∀ q ∈ A.2.2.2, vI (ν q.1) ≤ vI (ν q.2.1) + q.2.2) := by
  obtain ⟨A1, hA1, μ2, p1, p2, q3, q4, q5, q6, q7⟩ := h
  rw [hC] at hA1
  have ee := List.mem_singleton.mp hA1
  subst ee
  rw [ha] at q3
  obtain ⟨r1, r2⟩ := q3
  obtain ⟨v, ev, v0, v1⟩ := vty0 r2 ht
  exact ⟨v, μ2, by rw [r1, ev], v0, v1, ev, p1, p2, q5, q6⟩
/-- as many signs on both tapes -/
def RelT (wx wm : va_W) : Prop := ∃ n : Int32, 0 ≤ n.toInt ∧ n.toInt ≤ 80 ∧ fget wx 3 1 = some (.int n) ∧ fget wm 0 19 = some (.int n)
theorem RelT.keep {wx wm wx' wm' : va_W} {m m' : List (Nat × Nat)} (h : RelT wx wm) (h1 : FX m 109 wx wx') (h2 : FX m' 47 wm wm') (hm : mkq m 3 1 = false ∧ mkq m' 0 19 = false) : RelT wx' wm' := by
  obtain ⟨n, n0, n1, f1, f2⟩ := h
  exact ⟨n, n0, n1, h1.get (by decide) hm.1 f1, h2.get (by decide) hm.2 f2⟩
/-- what stands of CROSS, on both sides -/
def RelC (G : KG) (wx wm : va_W) : Prop := ∃ f g : Nat → Int32, cget wx 103 0 = some (.inr (cyI G, 4, .inl f)) ∧ cget wm 15 0 = some (.inr (cyI G, 4, .inl g)) ∧ ∀ k, k < 4 → f k = g k
theorem RelC.keep {G : KG} {wx wm wx' wm' : va_W} {m m' : List (Nat × Nat)} (h : RelC G wx wm) (h1 : FX m 109 wx wx') (h2 : FX m' 47 wm wm') (hm : mkq m 103 0 = false ∧ mkq m' 15 0 = false) : RelC G wx' wm' := by
  obtain ⟨f, g, f1, f2, f3⟩ := h
  exact ⟨f, g, (h1 103 0 (by decide) hm.1).trans f1, (h2 15 0 (by decide) hm.2).trans f2, f3⟩
/-- the reference's mill: its tape is empty afterwards -/
abbrev C_mill1 : CE := ([(2, 0, 0)], [], [], [(some (0, -2147483648, 2147483647), [], [(0, 19, (0, 0, 0))], [])], C_z_X11_mill_0.2.2.2.2.1, C_z_X11_mill_0.2.2.2.2.2.1, C_z_X11_mill_0.2.2.2.2.2.2)
theorem ac_mill1 (l : Launch) (G : KG) : ACt l G TM yX11_mill cX11_mill 10 (some .int) C_mill1 := by
  intro ad w0 μ hW hPre
  obtain ⟨h, h1, h2, h3⟩ := fget_int (T := TM) (k := 0) (j := 3) hW rfl rfl
  obtain ⟨z, z1, z2, z3⟩ := fget_int (T := TM) (k := 0) (j := 10) hW rfl rfl
  obtain ⟨μ', hμ⟩ : ∃ μ' : Nat → Value, μ' = fun k => if k = 100 then .int h else if k = 101 then .int z else μ k := ⟨_, rfl⟩
  have m0 : μ' 0 = μ 0 := by rw [hμ]; rfl
  have m1 : μ' 100 = .int h := by rw [hμ]; rfl
  have m2 : μ' 101 = .int z := by rw [hμ]; rfl
  have hp : PRE ad C_z_X11_mill_0 μ' w0 := by
    refine ⟨fun j t hj => ?_, fun j q hj => ?_, fun q hq => (by cases hq)⟩
    · match j, hj with
      | 0, hj => cases hj; rw [m0]; exact hPre.1 0 _ rfl
      | j + 1, hj => cases hj
    · match j, hj with
      | 0, hj => cases hj; exact ⟨by rw [m1]; exact vty_i h2 h3, by show fget w0 0 3 = some (μ' 100); rw [m1]; exact h1⟩
      | 1, hj => cases hj; exact ⟨by rw [m2]; exact vty_i z2 z3, by show fget w0 0 10 = some (μ' 101); rw [m2]; exact z1⟩
      | j + 2, hj => cases hj
  have hct := ac_mill l G ad w0 μ' hW hp
  have e0 : (List.range C_z_X11_mill_0.1.length).map μ' = (List.range C_mill1.1.length).map μ := by show [μ' 0] = [μ 0]; rw [m0]
  rw [e0] at hct
  refine Ct.weak hct (fun r w1 hq => ?_)
  have hr : RT 0 r := rt_of (k := 0) hq (by decide) (Or.inr (Or.inl rfl))
  obtain ⟨A1, hA1, μ2, -, -, -, -, q5, -, q7, q8⟩ := hq
  have ee := List.mem_singleton.mp hA1
  subst ee
  have f3 := q5 3 _ rfl
  rcases hr with ⟨h, -⟩ | ⟨-, v, rfl⟩ | ⟨h, -⟩
  · exact absurd h (by decide)
  · refine ⟨_, List.mem_cons_self, nup (nup μ 50 (.int v)) 200 (μ2 203), fun i hi => by rw [nup_ne (by omega), nup_ne hi], fun i hi hi2 => by rw [nup_ne (by omega)]; exact if_neg (by omega), (show resOK ad (some _) (some (.int v)) (nup (nup μ 50 (.int v)) 200 (μ2 203) 50) from ⟨by rw [nup_ne (by decide), nup_eq], by rw [nup_ne (by decide), nup_eq]; exact vty_i0 v⟩), fun q hq => absurd hq List.not_mem_nil, fun n q hq => ?_, fun q hq => absurd hq List.not_mem_nil, q7, q8⟩
    match n, hq with
    | 0, hq =>
      cases hq
      exact ⟨by rw [nup_eq]; exact f3.1, by rw [nup_eq]; exact f3.2⟩
    | n + 1, hq => cases hq
  · exact absurd h (by decide)
