def nup (ν : Nat → Value) (n : Nat) (v : Value) : Nat → Value := fun i => if i = n then v else ν i
theorem nup_eq {ν : Nat → Value} {n : Nat} {v : Value} : nup ν n v n = v := if_pos rfl
theorem nup_ne {ν : Nat → Value} {n i : Nat} {v : Value} (h : i < n) : nup ν n v i = ν i := if_neg (Nat.ne_of_lt h)
/-- all names below the next one -/
def afr (σ : AS) : Bool := Nat.ble 1000 σ.2.2.2.2.2 && (σ.1.all (fun q => Nat.blt q.2.1 σ.2.2.2.2.2) && (σ.2.1.all (fun i => Nat.blt i σ.2.2.2.2.2) && (σ.2.2.1.all (fun q => Nat.blt q.1 σ.2.2.2.2.2) && (σ.2.2.2.1.all (fun q => Nat.blt q.2.2 σ.2.2.2.2.2) && σ.2.2.2.2.1.all (fun q => Nat.blt q.1 σ.2.2.2.2.2 && Nat.blt q.2.1 σ.2.2.2.2.2)))))
theorem blt_lt {a b : Nat} (h : Nat.blt a b = true) : a < b := Nat.le_of_ble_eq_true h
theorem afr_ok {lv : ALv} {st : List Nat} {ev : AEv} {ca : ACa} {rl : ARl} {nx : Nat} (h : afr (lv, st, ev, ca, rl, nx) = true) : 1000 ≤ nx ∧ (∀ q ∈ lv, q.2.1 < nx) ∧ (∀ i ∈ st, i < nx) ∧ (∀ q ∈ ev, q.1 < nx) ∧ (∀ q ∈ ca, q.2.2 < nx) ∧ ∀ q ∈ rl, q.1 < nx ∧ q.2.1 < nx := by
  unfold afr at h
  simp only [Bool.and_eq_true, List.all_eq_true] at h
  obtain ⟨h0, h1, h2, h3, h4, h5⟩ := h
  exact ⟨Nat.le_of_ble_eq_true h0, fun q hq => blt_lt (h1 q hq), fun q hq => blt_lt (h2 q hq), fun q hq => blt_lt (h3 q hq), fun q hq => blt_lt (h4 q hq), fun q hq => ⟨blt_lt (h5 q hq).1, blt_lt (h5 q hq).2⟩⟩
def fget (ws : va_W) (k j : Nat) : Option Value := match ws[k]? with
  | some (_, .inr o) => o.2[j]?
  | _ => none
def cget (ws : va_W) (k j : Nat) : Option (Value ⊕ (ClassId × vp_A)) := match ws[k]? with
  | some (_, .inr o) => (o.2[j]?).map Sum.inl
  | some (_, .inl a) => some (.inr a)
  | none => none
/-- which fields, which arrays (999) may be written -/
def mkq (mk : List (Nat × Nat)) (k j : Nat) : Bool := mk.any (fun q => Nat.beq q.1 k && (Nat.beq q.2 j || Nat.beq q.2 999))
def FRM (mk : List (Nat × Nat)) (w0 ws : va_W) : Prop := ws.length = w0.length ∧ ∀ k j, mkq mk k j = false → cget ws k j = cget w0 k j
/-- what lies in the kept array, by its place -/
def KTY (k : Nat) : Int × Int := bif Nat.beq (k % 154) 0 then (-1, 15) else bif Nat.ble 2 (k % 154) && Nat.blt (k % 154) 18 then (0, 9) else bif Nat.beq (k % 154) 44 then (0, 12) else bif Nat.ble 45 (k % 154) && Nat.beq ((k % 154 - 45) % 9) 0 then (0, 5) else (iMin, iMax)
def aint (n : Nat) (t : VT) (f : Nat → Int32) : Prop := ∀ k, k < n → t.2.1 ≤ (f k).toInt ∧ (f k).toInt ≤ t.2.2 ∧ (t.1 = 1 → (KTY k).1 ≤ (f k).toInt ∧ (f k).toInt ≤ (KTY k).2)
/-- a code of an array's elements and a field: 0, 1: as many of the first as the field tells are no less than that; 2: each is 0 or less than the field -/
def pcl (c : Nat) : Nat := (c - 2) / 512
def pfl (c : Nat) : Nat := (c - 2) / 4 % 128
def pkd (c : Nat) : Nat := (c - 2) % 4
def PP (c i : Nat) (v F : Int) : Prop := (pkd c ≤ 1 ∧ ((i : Int) < F → ((pkd c : Nat) : Int) ≤ v)) ∨ (2 ≤ pkd c ∧ (v = 0 ∨ v < F))
def pord (c : Nat) (x o : Int) : Prop := (pkd c ≤ 1 ∧ x ≤ o) ∨ (2 ≤ pkd c ∧ o ≤ x)
theorem PP.mono {c i : Nat} {v o x : Int} (h : PP c i v o) (h2 : pord c x o) : PP c i v x := by
  rcases h with ⟨h1, h⟩ | ⟨h1, h⟩
  · rcases h2 with ⟨_, h2⟩ | ⟨h3, _⟩
    · exact Or.inl ⟨h1, fun hi => h (by omega)⟩
    · omega
  · rcases h2 with ⟨h3, _⟩ | ⟨_, h2⟩
    · omega
    · exact Or.inr ⟨h1, h.imp id (fun h => by omega)⟩
def PFX (G : KG) (T : List TE) (ws : va_W) : Prop := ∀ (k n : Nat) (t : VT) (a : Nat) (f : Nat → Int32) (c : Int32) (i : Nat), T[k]? = some (.inr (0, n, t)) → 2 ≤ t.1 → ws[k]? = some (a, aI G n f) → fget ws (pcl t.1) (pfl t.1) = some (.int c) → i < n → PP t.1 i (f i).toInt c.toInt
def ety (G : KG) (ad : Nat → Nat) : TE → va_E → Prop
  | .inl (ci, ts), en => ∃ fs, en = ob ci fs ∧ fs.length = ts.length ∧ ∀ (j : Nat) (t : VT) (v : Value), ts[j]? = some t → fs[j]? = some v → vty ad t v
  | .inr (kd, n, t), en => (kd = 0 ∧ ∃ f, en = aI G n f ∧ aint n t f) ∨ (kd = 1 ∧ ∃ f : Nat → Int64, en = aJ G n f) ∨ (kd = 2 ∧ ∃ f, en = aZ G n f ∧ aint n t f) ∨ (kd = 3 ∧ ∃ f, en = aO G n f ∧ ∀ k, k < n → f k = some (ad (t.2.1.toNat + k * t.2.2.toNat)))
def WT (G : KG) (ad : Nat → Nat) (T : List TE) (ws : va_W) : Prop := T.length ≤ ws.length ∧ (∀ (k : Nat) (te : TE), T[k]? = some te → ∃ en, ws[k]? = some (ad k, en) ∧ ety G ad te en) ∧ PFX G T ws
/-- the state σ is so, by the names ν -/
def AK (G : KG) (ad : Nat → Nat) (T : List TE) (mk : List (Nat × Nat)) (w0 : va_W) (pin : List (Nat × Value)) (σ : AS) (ν : Nat → Value) (ws : va_W) : Prop :=
  (∀ q ∈ σ.1, (ν q.2.1).category = bif q.2.2 then 2 else 1) ∧ (∀ q ∈ σ.2.2.1, vty ad q.2 (ν q.1)) ∧ (∀ q ∈ σ.2.2.2.1, fget ws q.1 q.2.1 = some (ν q.2.2)) ∧ (∀ q ∈ σ.2.2.2.2.1, vI (ν q.1) ≤ vI (ν q.2.1) + q.2.2) ∧ (∀ q ∈ pin, q.1 < 1000 ∧ ν q.1 = q.2) ∧ WT G ad T ws ∧ FRM mk w0 ws
def AG (G : KG) (ad : Nat → Nat) (T : List TE) (mk : List (Nat × Nat)) (w0 : va_W) (pin : List (Nat × Value)) (σ : AS) (ν : Nat → Value) (lv : List (Nat × Value)) (st : List Value) (ws : va_W) : Prop :=
  lv = σ.1.map (fun q => (q.1, ν q.2.1)) ∧ st = σ.2.1.map ν ∧ AK G ad T mk w0 pin σ ν ws
section AGS
variable {G : KG} {ad : Nat → Nat} {T : List TE} {mk : List (Nat × Nat)} {w0 : va_W} {pin : List (Nat × Value)} {ν : Nat → Value} {ws : va_W}
variable {lv : ALv} {st : List Nat} {ev : AEv} {ca : ACa} {rl : ARl} {nx : Nat}
theorem AK.cong {ν' : Nat → Value} (h : AK G ad T mk w0 pin (lv, st, ev, ca, rl, nx) ν ws) (hf : afr (lv, st, ev, ca, rl, nx) = true) (e : ∀ i, i < nx → ν' i = ν i) : AK G ad T mk w0 pin (lv, st, ev, ca, rl, nx) ν' ws := by
  obtain ⟨f0, f1, f2, f3, f4, f5⟩ := afr_ok hf
  obtain ⟨h1, h2, h3, h4, h5, h6⟩ := h
  refine ⟨fun q hq => ?_, fun q hq => ?_, fun q hq => ?_, fun q hq => ?_, fun q hq => ?_, h6⟩
  · rw [e _ (f1 q hq)]; exact h1 q hq
  · rw [e _ (f3 q hq)]; exact h2 q hq
  · rw [e _ (f4 q hq)]; exact h3 q hq
  · rw [e _ (f5 q hq).1, e _ (f5 q hq).2]; exact h4 q hq
  · refine ⟨(h5 q hq).1, ?_⟩
    rw [e _ (Nat.lt_of_lt_of_le (h5 q hq).1 f0)]; exact (h5 q hq).2
theorem lvs_cong {ν' : Nat → Value} (hf : afr (lv, st, ev, ca, rl, nx) = true) (e : ∀ i, i < nx → ν' i = ν i) : lv.map (fun q => (q.1, ν' q.2.1)) = lv.map (fun q => (q.1, ν q.2.1)) := by
  obtain ⟨f0, f1, f2, f3, f4, f5⟩ := afr_ok hf
  refine List.map_congr_left (fun q hq => ?_)
  rw [e _ (f1 q hq)]
theorem sts_cong {ν' : Nat → Value} (hf : afr (lv, st, ev, ca, rl, nx) = true) (e : ∀ i, i < nx → ν' i = ν i) : st.map ν' = st.map ν := by
  obtain ⟨f0, f1, f2, f3, f4, f5⟩ := afr_ok hf
  exact List.map_congr_left (fun q hq => e _ (f2 q hq))
/-- a new name of type t, its relations nr -/
theorem AK.new {t : VT} {v : Value} {nr : ARl} (h : AK G ad T mk w0 pin (lv, st, ev, ca, rl, nx) ν ws) (hf : afr (lv, st, ev, ca, rl, nx) = true) (hv : vty ad t v) (hr : ∀ q ∈ nr, vI (nup ν nx v q.1) ≤ vI (nup ν nx v q.2.1) + q.2.2) : AK G ad T mk w0 pin (lv, st, (nx, t) :: ev, ca, nr ++ rl, nx + 1) (nup ν nx v) ws := by
  obtain ⟨h1, h2, h3, h4, h5, h6⟩ := h.cong hf (ν' := nup ν nx v) (fun i hi => nup_ne hi)
  refine ⟨h1, fun q hq => ?_, h3, fun q hq => ?_, h5, h6⟩
  · rcases List.mem_cons.mp hq with e | hq
    · rw [e]
      show vty ad t (nup ν nx v nx)
      rw [nup_eq]
      exact hv
    · exact h2 q hq
  · rcases List.mem_append.mp hq with hq | hq
    · exact hr q hq
    · exact h4 q hq
theorem AK.stk {st' : List Nat} (h : AK G ad T mk w0 pin (lv, st, ev, ca, rl, nx) ν ws) : AK G ad T mk w0 pin (lv, st', ev, ca, rl, nx) ν ws := h
theorem AG.push {t : VT} {v : Value} {nr : ARl} {lw : List (Nat × Value)} {sw : List Value} (h : AG G ad T mk w0 pin (lv, st, ev, ca, rl, nx) ν lw sw ws) (hf : afr (lv, st, ev, ca, rl, nx) = true) (hv : vty ad t v) (hr : ∀ q ∈ nr, vI (nup ν nx v q.1) ≤ vI (nup ν nx v q.2.1) + q.2.2) : AG G ad T mk w0 pin (lv, nx :: st, (nx, t) :: ev, ca, nr ++ rl, nx + 1) (nup ν nx v) lw (v :: sw) ws := by
  obtain ⟨h1, h2, h3⟩ := h
  have e : ∀ i, i < nx → nup ν nx v i = ν i := fun i hi => nup_ne hi
  refine ⟨?_, ?_, AK.stk (h3.new hf hv hr)⟩
  · show lw = lv.map (fun q => (q.1, nup ν nx v q.2.1))
    rw [lvs_cong hf e]; exact h1
  · show v :: sw = nup ν nx v nx :: st.map (nup ν nx v)
    rw [sts_cong hf e, nup_eq]
    exact congrArg _ h2
/-- popping: the freshness of what is left -/
theorem afr_pop {i : Nat} (hf : afr (lv, i :: st, ev, ca, rl, nx) = true) : afr (lv, st, ev, ca, rl, nx) = true := by
  unfold afr at hf ⊢
  simp only [Bool.and_eq_true, List.all_cons] at hf ⊢
  exact ⟨hf.1, hf.2.1, hf.2.2.1.2, hf.2.2.2⟩
theorem AK.hi (h : AK G ad T mk w0 pin (lv, st, ev, ca, rl, nx) ν ws) {i : Nat} {x : Int} {n : Nat} (e : ahi ev rl n i = some x) : vI (ν i) ≤ x := ahi_ok h.2.1 h.2.2.2.1 n i x e
theorem AK.lo (h : AK G ad T mk w0 pin (lv, st, ev, ca, rl, nx) ν ws) {i : Nat} {x : Int} {n : Nat} (e : alo ev rl n i = some x) : x ≤ vI (ν i) := alo_ok h.2.1 h.2.2.2.1 n i x e
theorem AK.dif (h : AK G ad T mk w0 pin (lv, st, ev, ca, rl, nx) ν ws) {a b : Nat} {x : Int} {n : Nat} (e : adif ev rl b n a = some x) : vI (ν a) - vI (ν b) ≤ x := adif_ok h.2.1 h.2.2.2.1 b n a x e
theorem AK.int (h : AK G ad T mk w0 pin (lv, st, ev, ca, rl, nx) ν ws) {i : Nat} (e : (aty ev i).1 = 0) : ∃ x : Int32, ν i = .int x := by
  obtain ⟨x, hx, -⟩ := vty0 (aty_of h.2.1 e (by decide)) e
  exact ⟨x, hx⟩
theorem AK.long (h : AK G ad T mk w0 pin (lv, st, ev, ca, rl, nx) ν ws) {i : Nat} (e : (aty ev i).1 = 1) : ∃ x : Int64, ν i = .long x := by
  obtain ⟨x, hx, -⟩ := vty1 (aty_of h.2.1 e (by decide)) e
  exact ⟨x, hx⟩
theorem AK.ref (h : AK G ad T mk w0 pin (lv, st, ev, ca, rl, nx) ν ws) {i : Nat} (e : (aty ev i).1 = 2) : ν i = .ref (ad (aty ev i).2.1.toNat) := vty2 (aty_of h.2.1 e (by decide)) e
end AGS
/-- bounds of a name -/
def xlo (ev : AEv) (rl : ARl) (i : Nat) : Int := (alo ev rl 2 i).getD lMin
def xhi (ev : AEv) (rl : ARl) (i : Nat) : Int := (ahi ev rl 2 i).getD lMax
theorem vI_lo (v : Value) : lMin ≤ vI v := by
  unfold vI
  split
  · rename_i x
    have := i32_lo x
    unfold iMin at this
    unfold lMin
    omega
  · exact i64_lo _
  · decide
theorem vI_hi (v : Value) : vI v ≤ lMax := by
  unfold vI
  split
  · rename_i x
    have := i32_hi x
    unfold iMax at this
    unfold lMax
    omega
  · exact i64_hi _
  · decide
section AGT
variable {G : KG} {ad : Nat → Nat} {T : List TE} {mk : List (Nat × Nat)} {w0 : va_W} {pin : List (Nat × Value)} {ν : Nat → Value} {ws : va_W}
variable {lv : ALv} {st : List Nat} {ev : AEv} {ca : ACa} {rl : ARl} {nx : Nat}
theorem AK.lo2 (h : AK G ad T mk w0 pin (lv, st, ev, ca, rl, nx) ν ws) (i : Nat) : xlo ev rl i ≤ vI (ν i) := by
  show (alo ev rl 2 i).getD lMin ≤ vI (ν i)
  cases e : alo ev rl 2 i with
  | none => exact vI_lo _
  | some x => exact h.lo e
theorem AK.hi2 (h : AK G ad T mk w0 pin (lv, st, ev, ca, rl, nx) ν ws) (i : Nat) : vI (ν i) ≤ xhi ev rl i := by
  show vI (ν i) ≤ (ahi ev rl 2 i).getD lMax
  cases e : ahi ev rl 2 i with
  | none => exact vI_hi _
  | some x => exact h.hi e
end AGT
