/-! contracts in names: 0 .. 49 the arguments, 50 the answer, 100 .. fields before, 200 .. fields after -/
abbrev ALT : Type := Option VT × List (Nat × VT) × List (Nat × Nat × VT) × ARl
abbrev CE : Type := List VT × List (Nat × Nat × VT) × ARl × List ALT × List (Nat × Nat) × Nat × Nat
def PRE (ad : Nat → Nat) (C : CE) (μ : Nat → Value) (w0 : va_W) : Prop := (∀ j t, C.1[j]? = some t → vty ad t (μ j)) ∧ (∀ n q, C.2.1[n]? = some q → vty ad q.2.2 (μ (100 + n)) ∧ fget w0 q.1 q.2.1 = some (μ (100 + n))) ∧ ∀ q ∈ C.2.2.1, vI (μ q.1) ≤ vI (μ q.2.1) + q.2.2
def resOK (ad : Nat → Nat) (t : Option VT) (r : Option Value) (v : Value) : Prop := match t with
  | none => r = none
  | some t => r = some v ∧ vty ad t v
def POST (G : KG) (ad : Nat → Nat) (T : List TE) (C : CE) (μ : Nat → Value) (w0 : va_W) (r : Option Value) (w1 : va_W) : Prop :=
  ∃ A ∈ C.2.2.2.1, ∃ μ' : Nat → Value, (∀ i, i < 50 → μ' i = μ i) ∧ (∀ i, 100 ≤ i → i < 200 → μ' i = μ i) ∧ resOK ad A.1 r (μ' 50) ∧ (∀ q ∈ A.2.1, vty ad q.2 (μ' q.1)) ∧ (∀ n q, A.2.2.1[n]? = some q → vty ad q.2.2 (μ' (200 + n)) ∧ fget w1 q.1 q.2.1 = some (μ' (200 + n))) ∧ (∀ q ∈ A.2.2.2, vI (μ' q.1) ≤ vI (μ' q.2.1) + q.2.2) ∧ WT G ad T w1 ∧ FRM C.2.2.2.2.1 w0 w1
abbrev rmOf (C : CE) : Room := { frames := C.2.2.2.2.2.1, cells := 0, slots := 0, locals := C.2.2.2.2.2.2 }
def ACt (l : Launch) (G : KG) (T : List TE) (y : MethodName) (cc : ByteArray) (maxL : Nat) (ret : Option FieldType) (C : CE) : Prop := ∀ (ad : Nat → Nat) (w0 : va_W) (μ : Nat → Value), WT G ad T w0 → PRE ad C μ w0 → Ct l G y cc maxL ret (rmOf C) ((List.range C.1.length).map μ) w0 (fun r w1 => POST G ad T C μ w0 r w1)
def acaf : ACa → Nat → Nat → Option Nat
  | [], _, _ => none
  | q :: l, k, j => bif Nat.beq q.1 k && Nat.beq q.2.1 j then some q.2.2 else acaf l k j
theorem acaf_mem : ∀ (ca : ACa) (k j i : Nat), acaf ca k j = some i → (k, j, i) ∈ ca
  | [], k, j, i, h => by cases h
  | q :: l, k, j, i, h => by
    unfold acaf at h
    cases hb : (Nat.beq q.1 k && Nat.beq q.2.1 j) with
    | true =>
      rw [hb] at h
      cases h
      rw [Bool.and_eq_true] at hb
      have e1 : q.1 = k := Nat.eq_of_beq_eq_true hb.1
      have e2 : q.2.1 = j := Nat.eq_of_beq_eq_true hb.2
      subst e1; subst e2
      exact List.mem_cons_self
    | false =>
      rw [hb] at h
      exact List.mem_cons_of_mem _ (acaf_mem l k j i h)
def dle1 (n : Nat) (ev : AEv) (rl : ARl) (a b : Nat) (c : Int) : Bool := match adif ev rl b n a with
  | some d => decide (d ≤ c)
  | none => false
def dle (ev : AEv) (rl : ARl) (a b : Nat) (c : Int) : Bool := dle1 3 ev rl a b c || dle1 4 ev rl a b c
/-- the fields' names: of what is held -/
def acas (ca : ACa) : List (Nat × Nat × VT) → Option (List Nat)
  | [] => some []
  | q :: l => match acaf ca q.1 q.2.1, acas ca l with
    | some i, some is => some (i :: is)
    | _, _ => none
theorem acas_ok {ca : ACa} : ∀ (l : List (Nat × Nat × VT)) (is : List Nat), acas ca l = some is → is.length = l.length ∧ ∀ n q, l[n]? = some q → (q.1, q.2.1, is.getD n 0) ∈ ca
  | [], is, h => by
    cases h
    exact ⟨rfl, fun n q hq => by simp at hq⟩
  | q :: l, is, h => by
    unfold acas at h
    cases h1 : acaf ca q.1 q.2.1 with
    | none => rw [h1] at h; cases h
    | some i =>
      cases h2 : acas ca l with
      | none => rw [h1, h2] at h; cases h
      | some is2 =>
        rw [h1, h2] at h
        cases h
        obtain ⟨q1, q2⟩ := acas_ok l is2 h2
        refine ⟨by simp [q1], fun n p hp => ?_⟩
        cases n with
        | zero =>
          cases hp
          exact acaf_mem ca _ _ i h1
        | succ n => exact q2 n p (by simpa using hp)
def cmap (as ps : List Nat) (nx : Nat) (i : Nat) : Nat := bif Nat.blt i 50 then as.getD i 0 else bif Nat.beq i 50 then nx else bif Nat.blt i 200 then ps.getD (i - 100) 0 else nx + 1 + (i - 200)
def vrefB (i : Nat) : Bool := Nat.ble i 50 || Nat.ble 100 i
/-- the state behind a call, by the answer A -/
def aafter (as ps : List Nat) (A : ALT) (msk : List (Nat × Nat)) (lv : ALv) (st : List Nat) (ev : AEv) (ca : ACa) (rl : ARl) (nx : Nat) : AS :=
  (lv, (match A.1 with | some _ => nx :: st | none => st), A.2.1.map (fun q => (cmap as ps nx q.1, q.2)) ++ ((match A.1 with | some t => [(nx, t)] | none => []) ++ (A.2.2.1.zipIdx.map (fun q => (nx + 1 + q.2, q.1.2.2)) ++ ev)),
   A.2.2.1.zipIdx.map (fun q => (q.1.1, q.1.2.1, nx + 1 + q.2)) ++ ca.filter (fun q => !(mkq msk q.1 q.2.1)), A.2.2.2.map (fun q => (cmap as ps nx q.1, cmap as ps nx q.2.1, q.2.2)) ++ rl, nx + 1 + A.2.2.1.length)
def altB (A : ALT) : Bool := A.2.1.all (fun q => vrefB q.1) && A.2.2.2.all (fun q => vrefB q.1 && vrefB q.2.1)
def cov (mk msk : List (Nat × Nat)) : Bool := msk.all (fun q => bif Nat.beq q.2 999 then mk.any (fun p => Nat.beq p.1 q.1 && Nat.beq p.2 999) else mkq mk q.1 q.2)
theorem cov_ok {mk msk : List (Nat × Nat)} (h : cov mk msk = true) {k j : Nat} (hk : mkq mk k j = false) : mkq msk k j = false := by
  cases e : mkq msk k j with
  | false => rfl
  | true =>
    unfold mkq at e
    obtain ⟨q, hq, e⟩ := List.any_eq_true.mp e
    rw [Bool.and_eq_true] at e
    have e1 : q.1 = k := Nat.eq_of_beq_eq_true e.1
    have h1 := List.all_eq_true.mp h q hq
    cases h9 : Nat.beq q.2 999 with
    | true =>
      rw [h9] at h1
      have h1 : mk.any (fun p => Nat.beq p.1 q.1 && Nat.beq p.2 999) = true := h1
      rw [e1] at h1
      rw [mkq_arr h1] at hk
      cases hk
    | false =>
      rw [h9] at h1
      have h1 : mkq mk q.1 q.2 = true := h1
      rw [h9, Bool.or_false] at e
      have e2 : q.2 = j := Nat.eq_of_beq_eq_true e.2
      rw [e1, e2, hk] at h1
      cases h1
section AZ4
variable {ZZ : ZZT} {G : KG} {ad : Nat → Nat} {T : List TE} {mk : List (Nat × Nat)} {w0 : va_W} {pin : List (Nat × Value)} {ν : Nat → Value} {ws : va_W}
variable {lv : ALv} {st : List Nat} {ev : AEv} {ca : ACa} {rl : ARl} {nx pc pc' : Nat}
theorem AK.dl1 (h : AK G ad T mk w0 pin (lv, st, ev, ca, rl, nx) ν ws) {n a b : Nat} {c : Int} (e : dle1 n ev rl a b c = true) : vI (ν a) ≤ vI (ν b) + c := by
  unfold dle1 at e
  cases h1 : adif ev rl b n a with
  | none => rw [h1] at e; cases e
  | some d =>
    rw [h1] at e
    have h2 := h.dif h1
    have h3 := of_decide_eq_true e
    omega
theorem AK.dl (h : AK G ad T mk w0 pin (lv, st, ev, ca, rl, nx) ν ws) {a b : Nat} {c : Int} (e : dle ev rl a b c = true) : vI (ν a) ≤ vI (ν b) + c := by
  unfold dle at e
  rw [Bool.or_eq_true] at e
  exact e.elim h.dl1 h.dl1
theorem afr_of_app {as : List Nat} (hf : afr (lv, as ++ st, ev, ca, rl, nx) = true) : afr (lv, st, ev, ca, rl, nx) = true := by
  induction as with
  | nil => exact hf
  | cons a as ih => exact ih (afr_pop hf)
theorem az_touch {k j ci : Nat} {ts : List VT} {t : VT} (hT : T[k]? = some (.inl (ci, ts))) (ht : ts[j]? = some t) (hf : afr (lv, st, ev, ca, rl, nx) = true)
    (kk : AZ ZZ G ad T mk w0 pin (lv, st, (nx, t) :: ev, (k, j, nx) :: ca, rl, nx + 1) pc) : AZ ZZ G ad T mk w0 pin (lv, st, ev, ca, rl, nx) pc := by
  intro ν lw sw ws h
  obtain ⟨h1, h2, h3⟩ := h
  obtain ⟨fs, v, q1, q2, q3, q4⟩ := h3.2.2.2.2.2.1.obj hT ht
  have g := h3.new (nr := []) (v := v) (t := t) hf q4 (fun q hq => by cases hq)
  refine kk _ lw sw ws ⟨?_, ?_, g.1, g.2.1, fun q hq => ?_, g.2.2.2⟩
  · show lw = lv.map (fun q => (q.1, nup ν nx v q.2.1))
    rw [lvs_cong hf (fun i hi => nup_ne hi)]; exact h1
  · show sw = st.map (nup ν nx v)
    rw [sts_cong hf (fun i hi => nup_ne hi)]; exact h2
  · rcases List.mem_cons.mp hq with e | hq
    · rw [e]
      show fget ws k j = some (nup ν nx v nx)
      rw [nup_eq, fget_of q1]
      exact q3
    · exact g.2.2.1 q hq
theorem zipIdx_mem {α : Type} {l : List α} {q : α × Nat} (h : q ∈ l.zipIdx) : l[q.2]? = some q.1 := by
  obtain ⟨a, i⟩ := q
  exact List.mem_zipIdx_iff_getElem?.mp h
theorem fget_frame {msk : List (Nat × Nat)} {wa wb : va_W} (h : FRM msk wa wb) {k j : Nat} {v : Value} (hm : mkq msk k j = false) (hf : fget wa k j = some v) : fget wb k j = some v := by
  have h1 := h.2 k j hm
  unfold fget at hf ⊢
  unfold cget at h1
  cases ha : wa[k]? with
  | none => rw [ha] at hf; cases hf
  | some q =>
    obtain ⟨a, e⟩ := q
    cases e with
    | inl e => rw [ha] at hf; cases hf
    | inr o =>
      rw [ha] at hf h1
      have hf : o.2[j]? = some v := hf
      have h1 : _ = (o.2[j]?).map Sum.inl := h1
      rw [hf] at h1
      cases hb : wb[k]? with
      | none => rw [hb] at h1; cases h1
      | some q2 =>
        obtain ⟨a2, e2⟩ := q2
        cases e2 with
        | inl e2 =>
          rw [hb] at h1
          cases h1
        | inr o2 =>
          rw [hb] at h1
          have h1 : (o2.2[j]?).map Sum.inl = some (Sum.inl v) := h1
          cases h2 : o2.2[j]? with
          | none => rw [h2] at h1; cases h1
          | some v2 =>
            rw [h2] at h1
            cases h1
            exact h2
theorem frm_trans {mk msk : List (Nat × Nat)} {wa wb wc : va_W} (h1 : FRM mk wa wb) (h2 : FRM msk wb wc) (hc : cov mk msk = true) : FRM mk wa wc := ⟨h2.1.trans h1.1, fun k j hk => (h2.2 k j (cov_ok hc hk)).trans (h1.2 k j hk)⟩
theorem az_call {PR : List Value → Prop} {C : CE} {as ps : List Nat} (hPR : ∀ (ν : Nat → Value) (ws : va_W), AK G ad T mk w0 pin (lv, st, ev, ca, rl, nx) ν ws → PR (st.map ν)) (hf : afr (lv, as.reverse ++ st, ev, ca, rl, nx) = true) (hn : as.length = C.1.length) (hp : acas ca C.2.1 = some ps)
    (ha : (C.1.zipIdx.all fun q => vsub ev rl (as.getD q.2 0) q.1) = true) (hpf : (C.2.1.zipIdx.all fun q => vsub ev rl (ps.getD q.2 0) q.1.2.2) = true) (hrl : (C.2.2.1.all fun q => dle ev rl (cmap as ps nx q.1) (cmap as ps nx q.2.1) q.2.2 && (Nat.blt q.1 50 || (Nat.ble 100 q.1 && Nat.blt q.1 200)) && (Nat.blt q.2.1 50 || (Nat.ble 100 q.2.1 && Nat.blt q.2.1 200))) = true) (hal : C.2.2.2.1.all altB = true) (hcv : cov mk C.2.2.2.2.1 = true)
    (hl1 : C.1.length ≤ 50) (hl2 : C.2.1.length ≤ 100)
    (row : ∀ (lw : List (Nat × Value)) (rest : List Value) (ws : va_W) (μ : Nat → Value), PR rest → WT G ad T ws → PRE ad C μ ws → (∀ (r : Option Value) (w1 : va_W), POST G ad T C μ ws r w1 → ZZ pc' lw (r.toList ++ rest) w1) → ZZ pc lw (((List.range C.1.length).map μ).reverse ++ rest) ws)
    (k : ∀ A ∈ C.2.2.2.1, AZ ZZ G ad T mk w0 pin (aafter as ps A C.2.2.2.2.1 lv st ev ca rl nx) pc') : AZ ZZ G ad T mk w0 pin (lv, as.reverse ++ st, ev, ca, rl, nx) pc := by
  intro ν lw sw ws h
  obtain ⟨h1, h2, h3⟩ := h
  obtain ⟨f0, f1, f2, f3, f4, f5⟩ := afr_ok hf
  obtain ⟨p1, p2⟩ := acas_ok _ _ hp
  have hasl : ∀ i, as.getD i 0 < nx := by
    intro i
    by_cases hi : i < as.length
    · have e : as.getD i 0 = as[i] := by simp [List.getD, List.getElem?_eq_getElem hi]
      rw [e]
      exact f2 _ (List.mem_append_left _ (List.mem_reverse.mpr (List.getElem_mem hi)))
    · have e : as.getD i 0 = 0 := by simp [List.getD, List.getElem?_eq_none (Nat.le_of_not_lt hi)]
      rw [e]
      omega
  have hpsl : ∀ i, ps.getD i 0 < nx := by
    intro i
    by_cases hi : i < C.2.1.length
    · exact f4 _ (p2 i _ (List.getElem?_eq_getElem hi))
    · have e : ps.getD i 0 = 0 := by simp [List.getD, List.getElem?_eq_none (show ps.length ≤ i by omega)]
      rw [e]
      omega
  have hm1 : ∀ i, i < 50 → cmap as ps nx i = as.getD i 0 := by
    intro i hi
    unfold cmap
    rw [show Nat.blt i 50 = true from Nat.ble_eq_true_of_le hi]
    rfl
  have hm2 : ∀ i, 100 ≤ i → i < 200 → cmap as ps nx i = ps.getD (i - 100) 0 := by
    intro i hi hj
    unfold cmap
    have e1 : Nat.blt i 50 = false := by
      cases e : Nat.blt i 50 with
      | false => rfl
      | true => have := blt_lt e; omega
    have e2 : Nat.beq i 50 = false := by
      cases e : Nat.beq i 50 with
      | false => rfl
      | true => have := Nat.eq_of_beq_eq_true e; omega
    rw [e1, e2, show Nat.blt i 200 = true from Nat.ble_eq_true_of_le hj]
    rfl
  have hm3 : ∀ i, 200 ≤ i → cmap as ps nx i = nx + 1 + (i - 200) := by
    intro i hi
    unfold cmap
    have e1 : Nat.blt i 50 = false := by
      cases e : Nat.blt i 50 with
      | false => rfl
      | true => have := blt_lt e; omega
    have e2 : Nat.beq i 50 = false := by
      cases e : Nat.beq i 50 with
      | false => rfl
      | true => have := Nat.eq_of_beq_eq_true e; omega
    have e3 : Nat.blt i 200 = false := by
      cases e : Nat.blt i 200 with
      | false => rfl
      | true => have := blt_lt e; omega
    rw [e1, e2, e3]
    rfl
  have hm5 : cmap as ps nx 50 = nx := rfl
  have hargs : sw = ((List.range C.1.length).map (fun i => ν (cmap as ps nx i))).reverse ++ st.map ν := by
    have h2 : sw = (as.reverse ++ st).map ν := h2
    rw [h2, List.map_append, List.map_reverse]
    congr 2
    refine List.ext_getElem (by simp [hn]) (fun i q1 q2 => ?_)
    have hi : i < as.length := by simpa using q1
    simp only [List.getElem_map, List.getElem_range]
    rw [hm1 i (by omega)]
    simp [List.getD, List.getElem?_eq_getElem hi]
  have h3 : AK G ad T mk w0 pin (lv, st, ev, ca, rl, nx) ν ws := h3
  rw [hargs]
  refine row lw (st.map ν) ws (fun i => ν (cmap as ps nx i)) (hPR ν ws h3) h3.2.2.2.2.2.1 ⟨fun j t hj => ?_, fun n q hq => ?_, fun q hq => ?_⟩ (fun r w1 hP => ?_)
  · have hj2 := lt_of_getE hj
    show vty ad t (ν (cmap as ps nx j))
    rw [hm1 j (by omega)]
    exact h3.sub (List.all_eq_true.mp ha (t, j) (List.mem_zipIdx_iff_getElem?.mpr hj))
  · have hn2 := lt_of_getE hq
    have e : cmap as ps nx (100 + n) = ps.getD n 0 := by
      rw [hm2 (100 + n) (by omega) (by omega), Nat.add_sub_cancel_left]
    refine ⟨?_, ?_⟩
    · show vty ad q.2.2 (ν (cmap as ps nx (100 + n)))
      rw [e]
      exact h3.sub (List.all_eq_true.mp hpf (q, n) (List.mem_zipIdx_iff_getElem?.mpr hq))
    · show fget ws q.1 q.2.1 = some (ν (cmap as ps nx (100 + n)))
      rw [e]
      exact h3.2.2.1 _ (p2 n q hq)
  · have := List.all_eq_true.mp hrl q hq
    simp only [Bool.and_eq_true] at this
    exact h3.dl this.1.1
  · obtain ⟨A, hA, μ', m1, m2, m3, m4, m5, m6, m7, m8⟩ := hP
    obtain ⟨ν', hν'⟩ : ∃ ν' : Nat → Value, ν' = fun i => if i < nx then ν i else if i = nx then μ' 50 else μ' (200 + (i - (nx + 1))) := ⟨_, rfl⟩
    have n1 : ∀ i, i < nx → ν' i = ν i := fun i hi => by rw [hν']; exact if_pos hi
    have n2 : ν' nx = μ' 50 := by
      rw [hν']
      show (if nx < nx then _ else if nx = nx then _ else _) = _
      rw [if_neg (Nat.lt_irrefl nx), if_pos rfl]
    have n3 : ∀ n, ν' (nx + 1 + n) = μ' (200 + n) := fun n => by
      rw [hν']
      show (if nx + 1 + n < nx then _ else if nx + 1 + n = nx then _ else _) = _
      rw [if_neg (by omega), if_neg (by omega), Nat.add_sub_cancel_left]
    have hmap : ∀ i, vrefB i = true → ν' (cmap as ps nx i) = μ' i := by
      intro i hi
      by_cases c1 : i < 50
      · rw [n1 _ (by rw [hm1 i c1]; exact hasl i), m1 i c1]
      · by_cases c2 : i = 50
        · rw [c2, hm5, n2]
        · have c3 : 100 ≤ i := by
            unfold vrefB at hi
            rcases Bool.or_eq_true _ _ ▸ hi with e | e
            · have := Nat.le_of_ble_eq_true e; omega
            · exact Nat.le_of_ble_eq_true e
          by_cases c4 : i < 200
          · rw [n1 _ (by rw [hm2 i c3 c4]; exact hpsl _), m2 i c3 c4]
          · rw [hm3 i (by omega), n3, show 200 + (i - 200) = i from by omega]
    have hAB := List.all_eq_true.mp hal A hA
    unfold altB at hAB
    rw [Bool.and_eq_true, List.all_eq_true, List.all_eq_true] at hAB
    have g := h3.cong (afr_of_app hf) n1
    refine k A hA ν' lw (r.toList ++ st.map ν) w1 ⟨?_, ?_, g.1, fun q hq => ?_, fun q hq => ?_, fun q hq => ?_, g.2.2.2.2.1, m7, frm_trans h3.2.2.2.2.2.2 m8 hcv⟩
    · show lw = lv.map (fun q => (q.1, ν' q.2.1))
      rw [lvs_cong hf n1]; exact h1
    · have e : st.map ν' = st.map ν := List.map_congr_left (fun i hi => n1 i (f2 i (List.mem_append_right _ hi)))
      unfold resOK at m3
      show r.toList ++ st.map ν = (match A.1 with | some _ => nx :: st | none => st).map ν'
      cases hA1 : A.1 with
      | none =>
        rw [hA1] at m3
        have m3 : r = none := m3
        rw [m3]
        exact e.symm
      | some t =>
        rw [hA1] at m3
        obtain ⟨m3, -⟩ := m3
        rw [m3]
        show μ' 50 :: st.map ν = ν' nx :: st.map ν'
        rw [e, n2]
    · rcases List.mem_append.mp hq with hq | hq
      · obtain ⟨q0, hq0, rfl⟩ := List.mem_map.mp hq
        show vty ad q0.2 (ν' (cmap as ps nx q0.1))
        rw [hmap _ (hAB.1 q0 hq0)]
        exact m4 q0 hq0
      · rcases List.mem_append.mp hq with hq | hq
        · cases hA1 : A.1 with
          | none => rw [hA1] at hq; cases hq
          | some t =>
            rw [hA1] at hq m3
            rw [List.mem_singleton.mp hq]
            show vty ad t (ν' nx)
            rw [n2]
            exact m3.2
        · rcases List.mem_append.mp hq with hq | hq
          · obtain ⟨q0, hq0, rfl⟩ := List.mem_map.mp hq
            show vty ad q0.1.2.2 (ν' (nx + 1 + q0.2))
            rw [n3]
            exact (m5 q0.2 q0.1 (zipIdx_mem hq0)).1
          · exact g.2.1 q hq
    · rcases List.mem_append.mp hq with hq | hq
      · obtain ⟨q0, hq0, rfl⟩ := List.mem_map.mp hq
        show fget w1 q0.1.1 q0.1.2.1 = some (ν' (nx + 1 + q0.2))
        rw [n3]
        exact (m5 q0.2 q0.1 (zipIdx_mem hq0)).2
      · obtain ⟨q1, q2⟩ := List.mem_filter.mp hq
        have q2 : mkq C.2.2.2.2.1 q.1 q.2.1 = false := by simpa using q2
        exact fget_frame m8 q2 (g.2.2.1 q q1)
    · rcases List.mem_append.mp hq with hq | hq
      · obtain ⟨q0, hq0, rfl⟩ := List.mem_map.mp hq
        have hb := hAB.2 q0 hq0
        rw [Bool.and_eq_true] at hb
        show vI (ν' (cmap as ps nx q0.1)) ≤ vI (ν' (cmap as ps nx q0.2.1)) + q0.2.2
        rw [hmap _ hb.1, hmap _ hb.2]
        exact m6 q0 hq0
      · exact g.2.2.2.1 q hq
end AZ4
