/-! the end of a method; places where a state is told by itself (cuts), with what gets less -/
def arn (r : Nat) (ps : List Nat) (i : Nat) : Nat := bif Nat.beq i 50 then r else bif Nat.blt i 200 then i else ps.getD (i - 200) 0
def vrefR (n p i : Nat) : Bool := Nat.blt i n || (Nat.beq i 50 || ((Nat.ble 100 i && Nat.blt i (100 + p)) || Nat.ble 200 i))
def aretA (n p : Nat) (A : ALT) (stk : List Nat) (ev : AEv) (ca : ACa) (rl : ARl) : Bool := match acas ca A.2.2.1 with
  | none => false
  | some ps => (match A.1, stk with
      | some t, [r] => vsub ev rl r t
      | none, [] => true
      | _, _ => false) && (A.2.1.all (fun q => vrefR n p q.1 && vsub ev rl (arn (stk.headD 0) ps q.1) q.2) && (A.2.2.1.zipIdx.all (fun q => vsub ev rl (ps.getD q.2 0) q.1.2.2) && A.2.2.2.all (fun q => vrefR n p q.1 && (vrefR n p q.2.1 && dle ev rl (arn (stk.headD 0) ps q.1) (arn (stk.headD 0) ps q.2.1) q.2.2))))
abbrev CUT : Type := Nat × AS × Int × List (Int × Nat)
def mfind : List (Nat × Nat) → Nat → Nat
  | [], _ => 0
  | q :: l, i => bif Nat.beq q.1 i then q.2 else mfind l i
def alv2 : ALv → Nat → Option (Nat × Bool)
  | [], _ => none
  | q :: l, i => bif Nat.beq q.1 i then some q.2 else alv2 l i
theorem alv2_mem : ∀ (lv : ALv) (i : Nat) (q : Nat × Bool), alv2 lv i = some q → (i, q) ∈ lv
  | [], i, n, h => by cases h
  | q :: l, i, n, h => by
    unfold alv2 at h
    cases hb : Nat.beq q.1 i with
    | true =>
      rw [hb] at h
      cases h
      have e : q.1 = i := Nat.eq_of_beq_eq_true hb
      subst e
      exact List.mem_cons_self
    | false =>
      rw [hb] at h
      exact List.mem_cons_of_mem _ (alv2_mem l i n h)
def mpL (lv : ALv) : ALv → Option (List (Nat × Nat))
  | [] => some []
  | q :: l => match alv2 lv q.1, mpL lv l with
    | some z, some r => bif z.2 == q.2.2 then some ((q.2.1, z.1) :: r) else none
    | _, _ => none
def mpS : List Nat → List Nat → Option (List (Nat × Nat))
  | [], [] => some []
  | a :: l, b :: r => match mpS l r with
    | some m => some ((a, b) :: m)
    | none => none
  | _, _ => none
def mpC (ca : ACa) : ACa → Option (List (Nat × Nat))
  | [] => some []
  | q :: l => match acaf ca q.1 q.2.1, mpC ca l with
    | some i, some r => some ((q.2.2, i) :: r)
    | _, _ => none
def amap (pids : List Nat) (σ σc : AS) : Option (List (Nat × Nat)) := match mpL σ.1 σc.1, mpS σc.2.1 σ.2.1, mpC σ.2.2.2.1 σc.2.2.2.1 with
  | some a, some b, some c => some (pids.map (fun i => (i, i)) ++ (a ++ (b ++ c)))
  | _, _, _ => none
def asubB (m : List (Nat × Nat)) (ev : AEv) (rl : ARl) (σc : AS) : Bool := m.all (fun q => Nat.beq (mfind m q.1) q.2) && (σc.2.2.1.all (fun q => vsub ev rl (mfind m q.1) q.2) && σc.2.2.2.2.1.all (fun q => dle ev rl (mfind m q.1) (mfind m q.2.1) q.2.2))
def rsum (ts : List (Int × Nat)) (ν : Nat → Value) : Int := match ts with
  | [] => 0
  | q :: l => q.1 * vI (ν q.2) + rsum l ν
/-- the most that a term may be -/
def tub (ev : AEv) (rl : ARl) (w : Int) (i : Nat) : Int := bif decide (0 ≤ w) then w * xhi ev rl i else w * xlo ev rl i
/-- the most of start's terms less the end's -/
def rub (ev : AEv) (rl : ARl) (m : List (Nat × Nat)) : List (Int × Nat) → List (Int × Nat) → Option Int
  | [], [] => some 0
  | s :: ss, e :: es => match rub ev rl m ss es with
    | none => none
    | some r => bif decide (s.1 = e.1) then (bif decide (0 ≤ s.1) then (match adif ev rl (mfind m e.2) 3 s.2 with
        | some d => some (s.1 * d + r)
        | none => none) else (match adif ev rl s.2 3 (mfind m e.2) with
        | some d => some (-s.1 * d + r)
        | none => none)) else some (tub ev rl s.1 s.2 + tub ev rl (-e.1) (mfind m e.2) + r)
  | _, _ => none
def rdec (ev : AEv) (rl : ARl) (m : List (Nat × Nat)) (sr : Option (Int × List (Int × Nat))) (d : CUT) : Bool := match sr with
  | none => true
  | some s => match rub ev rl m s.2 d.2.2.2 with
    | some r => decide (r + d.2.2.1 < s.1)
    | none => false
/-- arriving at a cut -/
def aarr (pids : List Nat) (sr : Option (Int × List (Int × Nat))) (d : CUT) (σ : AS) : Bool := match amap pids σ d.2.1 with
  | none => false
  | some m => asubB m σ.2.2.1 σ.2.2.2.2.1 d.2.1 && rdec σ.2.2.1 σ.2.2.2.2.1 m sr d
def rposB (d : CUT) : Bool := decide (d.2.2.2.foldr (fun q acc => tub d.2.1.2.2.1 d.2.1.2.2.2.2.1 q.1 q.2 + acc) 0 ≤ d.2.2.1)
section AZ5
variable {ZZ : ZZT} {G : KG} {ad : Nat → Nat} {T : List TE} {mk : List (Nat × Nat)} {w0 : va_W} {pin : List (Nat × Value)} {ν : Nat → Value} {ws : va_W}
variable {lv : ALv} {st : List Nat} {ev : AEv} {ca : ACa} {rl : ARl} {nx pc pc' : Nat}
theorem AG.ret {C : CE} {A : ALT} {μ : Nat → Value} {lw : List (Nat × Value)} {sw : List Value} (hA : A ∈ C.2.2.2.1) (h : AG G ad T C.2.2.2.2.1 w0 pin (lv, st, ev, ca, rl, nx) ν lw sw ws) (hp1 : ∀ j, j < C.1.length → (j, μ j) ∈ pin) (hp2 : ∀ j, j < C.2.1.length → (100 + j, μ (100 + j)) ∈ pin) (hl1 : C.1.length ≤ 50) (hl2 : C.2.1.length ≤ 100) (e : aretA C.1.length C.2.1.length A st ev ca rl = true) : ∃ r, sw = r.toList ∧ POST G ad T C μ w0 r ws ∧ ∃ v, resOK ad A.1 r v := by
  obtain ⟨h1, h2, h3⟩ := h
  unfold aretA at e
  cases hc : acas ca A.2.2.1 with
  | none => rw [hc] at e; cases e
  | some ps =>
    rw [hc] at e
    simp only [Bool.and_eq_true] at e
    obtain ⟨e1, e2, e3, e4⟩ := e
    obtain ⟨p1, p2⟩ := acas_ok _ _ hc
    obtain ⟨μ', hμ⟩ : ∃ μ' : Nat → Value, μ' = fun i => if i < 50 ∨ (100 ≤ i ∧ i < 200) then μ i else ν (arn (st.headD 0) ps i) := ⟨_, rfl⟩
    have m1 : ∀ i, i < 50 → μ' i = μ i := fun i hi => by rw [hμ]; exact if_pos (Or.inl hi)
    have m2 : ∀ i, 100 ≤ i → i < 200 → μ' i = μ i := fun i hi hj => by rw [hμ]; exact if_pos (Or.inr ⟨hi, hj⟩)
    have m3 : ∀ i, ¬ (i < 50 ∨ (100 ≤ i ∧ i < 200)) → μ' i = ν (arn (st.headD 0) ps i) := fun i hi => by rw [hμ]; exact if_neg hi
    have a50 : arn (st.headD 0) ps 50 = st.headD 0 := rfl
    have a1 : ∀ i, i ≠ 50 → i < 200 → arn (st.headD 0) ps i = i := by
      intro i hi hj
      unfold arn
      have e1 : Nat.beq i 50 = false := by
        cases e : Nat.beq i 50 with
        | false => rfl
        | true => have := Nat.eq_of_beq_eq_true e; omega
      rw [e1, show Nat.blt i 200 = true from Nat.ble_eq_true_of_le hj]
      rfl
    have a2 : ∀ n, arn (st.headD 0) ps (200 + n) = ps.getD n 0 := by
      intro n
      unfold arn
      have e1 : Nat.beq (200 + n) 50 = false := by
        cases e : Nat.beq (200 + n) 50 with
        | false => rfl
        | true => have := Nat.eq_of_beq_eq_true e; omega
      have e3 : Nat.blt (200 + n) 200 = false := by
        cases e : Nat.blt (200 + n) 200 with
        | false => rfl
        | true => have := blt_lt e; omega
      rw [e1, e3, Nat.add_sub_cancel_left]
      rfl
    have hv : ∀ i, vrefR C.1.length C.2.1.length i = true → μ' i = ν (arn (st.headD 0) ps i) := by
      intro i hi
      unfold vrefR at hi
      simp only [Bool.or_eq_true, Bool.and_eq_true] at hi
      rcases hi with hi | hi | ⟨hi, hj⟩ | hi
      · have hi := blt_lt hi
        rw [m1 i (by omega), a1 i (by omega) (by omega)]
        exact (h3.2.2.2.2.1 _ (hp1 i hi)).2.symm
      · have hi := Nat.eq_of_beq_eq_true hi
        exact m3 i (by omega)
      · have hi := Nat.le_of_ble_eq_true hi
        have hj := blt_lt hj
        rw [m2 i hi (by omega), a1 i (by omega) (by omega)]
        have := (h3.2.2.2.2.1 _ (hp2 (i - 100) (by omega))).2
        rw [show 100 + (i - 100) = i from by omega] at this
        exact this.symm
      · have hi := Nat.le_of_ble_eq_true hi
        exact m3 i (by omega)
    have hst : ∃ r, sw = r.toList ∧ resOK ad A.1 r (μ' 50) := by
      have h2 : sw = st.map ν := h2
      cases hA1 : A.1 with
      | none =>
        rw [hA1] at e1
        match st, e1, h2 with
        | [], _, h2 => exact ⟨none, h2, rfl⟩
      | some t =>
        rw [hA1] at e1
        match st, e1, h2, h3, hv with
        | [r], e1, h2, h3, hv =>
          refine ⟨some (ν r), h2, ?_⟩
          have : μ' 50 = ν r := hv 50 (by unfold vrefR; simp)
          rw [this]
          exact ⟨rfl, AK.sub h3 e1⟩
    obtain ⟨r, r1, r2⟩ := hst
    refine ⟨r, r1, ⟨A, hA, μ', m1, m2, r2, fun q hq => ?_, fun n q hq => ?_, fun q hq => ?_, h3.2.2.2.2.2.1, h3.2.2.2.2.2.2⟩, μ' 50, r2⟩
    · have := List.all_eq_true.mp e2 q hq
      rw [Bool.and_eq_true] at this
      rw [hv _ this.1]
      exact AK.sub h3 this.2
    · have e5 : μ' (200 + n) = ν (ps.getD n 0) := by rw [m3 _ (by omega), a2]
      rw [e5]
      exact ⟨AK.sub h3 (List.all_eq_true.mp e3 (q, n) (List.mem_zipIdx_iff_getElem?.mpr hq)), h3.2.2.1 _ (p2 n q hq)⟩
    · have := List.all_eq_true.mp e4 q hq
      simp only [Bool.and_eq_true] at this
      rw [hv _ this.1, hv _ this.2.1]
      exact AK.dl h3 this.2.2
theorem mpL_ok {lv : ALv} : ∀ (l : ALv) (r : List (Nat × Nat)), mpL lv l = some r → ∀ q ∈ l, ∃ i, (q.1, i, q.2.2) ∈ lv ∧ (q.2.1, i) ∈ r
  | [], r, h, q, hq => by cases hq
  | p :: l, r, h, q, hq => by
    unfold mpL at h
    cases h1 : alv2 lv p.1 with
    | none => rw [h1] at h; cases h
    | some z =>
      cases h2 : mpL lv l with
      | none => rw [h1, h2] at h; cases h
      | some r2 =>
        rw [h1, h2] at h
        cases hb : (z.2 == p.2.2) with
        | false => simp only [hb, cond_false] at h; cases h
        | true =>
          simp only [hb, cond_true] at h
          cases h
          rcases List.mem_cons.mp hq with e | hq
          · rw [e]
            have hz : z.2 = p.2.2 := by simpa using hb
            refine ⟨z.1, ?_, List.mem_cons_self⟩
            rw [← hz]
            exact alv2_mem lv _ z h1
          · obtain ⟨i, g1, g2⟩ := mpL_ok l r2 h2 q hq
            exact ⟨i, g1, List.mem_cons_of_mem _ g2⟩
theorem mpS_ok {f : Nat → Nat} : ∀ (a b : List Nat) (r : List (Nat × Nat)), mpS a b = some r → (∀ q ∈ r, f q.1 = q.2) → a.map f = b
  | [], [], r, h, _ => rfl
  | a :: l, b :: s, r, h, hf => by
    unfold mpS at h
    cases h1 : mpS l s with
    | none => rw [h1] at h; cases h
    | some m =>
      rw [h1] at h
      cases h
      rw [List.map_cons, hf _ List.mem_cons_self, mpS_ok l s m h1 (fun q hq => hf q (List.mem_cons_of_mem _ hq))]
  | [], b :: s, r, h, _ => by cases h
  | a :: l, [], r, h, _ => by cases h
theorem mpC_ok {ca : ACa} : ∀ (l : ACa) (r : List (Nat × Nat)), mpC ca l = some r → ∀ q ∈ l, ∃ i, (q.1, q.2.1, i) ∈ ca ∧ (q.2.2, i) ∈ r
  | [], r, h, q, hq => by cases hq
  | p :: l, r, h, q, hq => by
    unfold mpC at h
    cases h1 : acaf ca p.1 p.2.1 with
    | none => rw [h1] at h; cases h
    | some z =>
      cases h2 : mpC ca l with
      | none => rw [h1, h2] at h; cases h
      | some r2 =>
        rw [h1, h2] at h
        cases h
        rcases List.mem_cons.mp hq with e | hq
        · rw [e]
          exact ⟨z, acaf_mem ca _ _ z h1, List.mem_cons_self⟩
        · obtain ⟨i, g1, g2⟩ := mpC_ok l r2 h2 q hq
          exact ⟨i, g1, List.mem_cons_of_mem _ g2⟩
theorem mfind_pid {l : List (Nat × Nat)} : ∀ (pids : List Nat) (i : Nat), i ∈ pids → mfind (pids.map (fun i => (i, i)) ++ l) i = i
  | p :: ps, i, h => by
    show (bif Nat.beq p i then p else mfind (ps.map (fun i => (i, i)) ++ l) i) = i
    cases hb : Nat.beq p i with
    | true => exact Nat.eq_of_beq_eq_true hb
    | false =>
      rcases List.mem_cons.mp h with e | h
      · rw [e, Nat.beq_refl] at hb; cases hb
      · exact mfind_pid ps i h
theorem AG.sub {pids : List Nat} {σc : AS} {m : List (Nat × Nat)} {lw : List (Nat × Value)} {sw : List Value} (h : AG G ad T mk w0 pin (lv, st, ev, ca, rl, nx) ν lw sw ws) (hpin : ∀ q ∈ pin, q.1 ∈ pids) (hm : amap pids (lv, st, ev, ca, rl, nx) σc = some m) (hb : asubB m ev rl σc = true) : AG G ad T mk w0 pin σc (fun i => ν (mfind m i)) (σc.1.map (fun q => (q.1, ν (mfind m q.2.1)))) sw ws ∧ ∀ q ∈ σc.1.map (fun q => (q.1, ν (mfind m q.2.1))), q ∈ lw := by
  obtain ⟨lvc, stc, evc, cac, rlc, nxc⟩ := σc
  obtain ⟨h1, h2, h3⟩ := h
  have h3 : AK G ad T mk w0 pin (lv, st, ev, ca, rl, nx) ν ws := h3
  unfold asubB at hb
  simp only [Bool.and_eq_true, List.all_eq_true] at hb
  obtain ⟨b1, b2, b3⟩ := hb
  have hf : ∀ q ∈ m, mfind m q.1 = q.2 := fun q hq => Nat.eq_of_beq_eq_true (b1 q hq)
  unfold amap at hm
  cases c1 : mpL lv lvc with
  | none => simp only [c1] at hm; cases hm
  | some a =>
    cases c2 : mpS stc st with
    | none => simp only [c1, c2] at hm; cases hm
    | some b =>
      cases c3 : mpC ca cac with
      | none => simp only [c1, c2, c3] at hm; cases hm
      | some c =>
        simp only [c1, c2, c3] at hm
        have hm : pids.map (fun i => (i, i)) ++ (a ++ (b ++ c)) = m := Option.some.inj hm
        have ha : ∀ q ∈ a, q ∈ m := fun q hq => by rw [← hm]; exact List.mem_append_right _ (List.mem_append_left _ hq)
        have hbm : ∀ q ∈ b, q ∈ m := fun q hq => by rw [← hm]; exact List.mem_append_right _ (List.mem_append_right _ (List.mem_append_left _ hq))
        have hcm : ∀ q ∈ c, q ∈ m := fun q hq => by rw [← hm]; exact List.mem_append_right _ (List.mem_append_right _ (List.mem_append_right _ hq))
        have hL : ∀ q ∈ lvc, (q.1, mfind m q.2.1, q.2.2) ∈ lv := by
          intro q hq
          obtain ⟨i, g1, g2⟩ := mpL_ok lvc a c1 q hq
          have := hf _ (ha _ g2)
          rw [this]
          exact g1
        have hC : ∀ q ∈ cac, (q.1, q.2.1, mfind m q.2.2) ∈ ca := by
          intro q hq
          obtain ⟨i, g1, g2⟩ := mpC_ok cac c c3 q hq
          have := hf _ (hcm _ g2)
          rw [this]
          exact g1
        refine ⟨⟨rfl, ?_, fun q hq => ?_, fun q hq => ?_, fun q hq => ?_, fun q hq => ?_, fun q hq => ⟨(h3.2.2.2.2.1 q hq).1, ?_⟩, h3.2.2.2.2.2⟩, fun q hq => ?_⟩
        · have h2 : sw = st.map ν := h2
          show sw = stc.map (fun i => ν (mfind m i))
          rw [h2, ← mpS_ok (f := mfind m) stc st b c2 (fun q hq => hf _ (hbm _ hq)), List.map_map]
          rfl
        · exact h3.1 _ (hL q hq)
        · exact h3.sub (b2 q hq)
        · exact h3.2.2.1 _ (hC q hq)
        · exact h3.dl (b3 q hq)
        · show ν (mfind m q.1) = q.2
          rw [← hm, mfind_pid pids q.1 (hpin q hq)]
          exact (h3.2.2.2.2.1 q hq).2
        · obtain ⟨q0, hq0, rfl⟩ := List.mem_map.mp hq
          rw [h1]
          exact List.mem_map.mpr ⟨_, hL q0 hq0, rfl⟩
theorem AK.sTub (h : AK G ad T mk w0 pin (lv, st, ev, ca, rl, nx) ν ws) (w : Int) (i : Nat) : w * vI (ν i) ≤ tub ev rl w i := by
  show w * vI (ν i) ≤ bif decide (0 ≤ w) then w * xhi ev rl i else w * xlo ev rl i
  by_cases hw : 0 ≤ w
  · rw [decide_eq_true hw]
    exact Int.mul_le_mul_of_nonneg_left (h.hi2 i) hw
  · rw [decide_eq_false hw]
    exact Int.mul_le_mul_of_nonpos_left (by omega) (h.lo2 i)
theorem AK.sRub (h : AK G ad T mk w0 pin (lv, st, ev, ca, rl, nx) ν ws) {m : List (Nat × Nat)} : ∀ (ss es : List (Int × Nat)) (r : Int), rub ev rl m ss es = some r → rsum ss ν - rsum es (fun i => ν (mfind m i)) ≤ r
  | [], [], r, e => by
    cases e
    show (0 : Int) - 0 ≤ 0
    omega
  | s :: ss, e :: es, r, he => by
    unfold rub at he
    cases h1 : rub ev rl m ss es with
    | none => rw [h1] at he; cases he
    | some r1 =>
      have ih := AK.sRub h ss es r1 h1
      rw [h1] at he
      show s.1 * vI (ν s.2) + rsum ss ν - (e.1 * vI (ν (mfind m e.2)) + rsum es (fun i => ν (mfind m i))) ≤ r
      by_cases hw : s.1 = e.1
      · simp only [decide_eq_true hw, cond_true] at he
        rw [← hw]
        by_cases h0 : 0 ≤ s.1
        · simp only [decide_eq_true h0, cond_true] at he
          cases h2 : adif ev rl (mfind m e.2) 3 s.2 with
          | none => rw [h2] at he; cases he
          | some d =>
            rw [h2] at he
            cases he
            have h3 := h.dif h2
            have h4 := Int.mul_le_mul_of_nonneg_left h3 h0
            rw [Int.mul_sub] at h4
            omega
        · simp only [decide_eq_false h0, cond_false] at he
          cases h2 : adif ev rl s.2 3 (mfind m e.2) with
          | none => rw [h2] at he; cases he
          | some d =>
            rw [h2] at he
            cases he
            have h3 := h.dif h2
            have h4 := Int.mul_le_mul_of_nonneg_left h3 (show 0 ≤ -s.1 by omega)
            rw [Int.mul_sub, Int.neg_mul, Int.neg_mul] at h4
            omega
      · simp only [decide_eq_false hw, cond_false] at he
        cases he
        have h3 := h.sTub s.1 s.2
        have h4 := h.sTub (-e.1) (mfind m e.2)
        rw [Int.neg_mul] at h4
        omega
  | [], e :: es, r, he => by cases he
  | s :: ss, [], r, he => by cases he
end AZ5
