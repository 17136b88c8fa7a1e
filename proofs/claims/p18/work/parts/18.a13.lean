/-! the run of a method from its start and from each cut; its contract -/
def acutAt : List CUT → Nat → Option CUT
  | [], _ => none
  | d :: l, pc => bif Nat.beq d.1 pc then some d else acutAt l pc
theorem acutAt_mem : ∀ (l : List CUT) (pc : Nat) (d : CUT), acutAt l pc = some d → d ∈ l ∧ d.1 = pc
  | [], pc, d, h => by cases h
  | p :: l, pc, d, h => by
    unfold acutAt at h
    cases hb : Nat.beq p.1 pc with
    | true =>
      rw [hb] at h
      cases h
      exact ⟨List.mem_cons_self, Nat.eq_of_beq_eq_true hb⟩
    | false =>
      rw [hb] at h
      obtain ⟨h1, h2⟩ := acutAt_mem l pc d h
      exact ⟨List.mem_cons_of_mem _ h1, h2⟩
def aK (cuts : List CUT) (pids : List Nat) (sr : Option (Int × List (Int × Nat))) (X : KT) : KT := fun pc σ => match acutAt cuts pc with
  | some _ => cuts.any (fun d => Nat.beq d.1 pc && aarr pids sr d σ)
  | none => X pc σ
/-- hooks: steps of one's own -/
abbrev HKT : Type := Nat → AS → Option (List (Nat × AS))
def hk0 : HKT := fun _ _ => none
def aexec (hk : HKT) (tab : DT) (nL : Nat) (T : List TE) (fld : List (Nat × Nat × Nat)) (put : List (Nat × Nat × Nat × Nat)) (cst cstl : List (Nat × Int)) (cal : List CAL) (rk : Nat) (C : CE) (cuts : List CUT) (pids : List Nat) (sr : Option (Int × List (Int × Nat))) : Nat → KT
  | 0, _, _ => false
  | n + 1, pc, σ => afr σ && (match hk pc σ with
    | some L => L.all (fun q => aK cuts pids sr (aexec hk tab nL T fld put cst cstl cal rk C cuts pids sr n) q.1 q.2)
    | none => (match dlook tab pc with
      | some q => sIns tab nL T C.2.2.2.2.1 fld put cst cstl cal C.2.2.2.2.2.1 C.2.2.2.2.2.2 rk C (aK cuts pids sr (aexec hk tab nL T fld put cst cstl cal rk C cuts pids sr n)) pc q.2 q.1 σ.1 σ.2.1 σ.2.2.1 σ.2.2.2.1 σ.2.2.2.2.1 σ.2.2.2.2.2
      | none => false))
def alv0 : Nat → Nat → List VT → ALv
  | _, _, [] => []
  | i, j, t :: ts => (i, j, Nat.beq t.1 1) :: alv0 (bif Nat.beq t.1 1 then i + 2 else i + 1) (j + 1) ts
def aslots : List VT → Nat
  | [] => 0
  | t :: ts => (bif Nat.beq t.1 1 then 2 else 1) + aslots ts
def ast0 (C : CE) : AS := (alv0 0 0 C.1, [], C.1.zipIdx.map (fun q => (q.2, q.1)) ++ C.2.1.zipIdx.map (fun q => (100 + q.2, q.1.2.2)), C.2.1.zipIdx.map (fun q => (q.1.1, q.1.2.1, 100 + q.2)), C.2.2.1, 1000)
def apids (C : CE) : List Nat := List.range C.1.length ++ (List.range C.2.1.length).map (fun j => 100 + j)
def acheckH (hk : HKT) (tab : DT) (nL : Nat) (T : List TE) (fld : List (Nat × Nat × Nat)) (put : List (Nat × Nat × Nat × Nat)) (cst cstl : List (Nat × Int)) (cal : List CAL) (rk : Nat) (C : CE) (cuts : List CUT) (fuel : Nat) : Bool :=
  Nat.ble C.1.length 50 && (Nat.ble C.2.1.length 100 && (Nat.ble (aslots C.1) nL && (C.1.all (fun t => Nat.ble t.1 2) && (cuts.all (fun d => rposB d && (d.2.2.2.all (fun q => Nat.blt q.2 1000) && aexec hk tab nL T fld put cst cstl cal rk C cuts (apids C) (some (d.2.2.1, d.2.2.2)) fuel d.1 d.2.1)) && aK cuts (apids C) none (aexec hk tab nL T fld put cst cstl cal rk C cuts (apids C) none fuel) 0 (ast0 C)))))
def acheck (tab : DT) (nL : Nat) (T : List TE) (fld : List (Nat × Nat × Nat)) (put : List (Nat × Nat × Nat × Nat)) (cst cstl : List (Nat × Int)) (cal : List CAL) (rk : Nat) (C : CE) (cuts : List CUT) (fuel : Nat) : Bool := acheckH hk0 tab nL T fld put cst cstl cal rk C cuts fuel
/-- a run from a state to its exits -/
def acheckS (hk : HKT) (tab : DT) (nL : Nat) (T : List TE) (fld : List (Nat × Nat × Nat)) (put : List (Nat × Nat × Nat × Nat)) (cst cstl : List (Nat × Int)) (cal : List CAL) (rk : Nat) (C : CE) (cuts exs : List CUT) (pids : List Nat) (fuel pc : Nat) (σ : AS) : Bool :=
  Nat.ble C.1.length 50 && (Nat.ble C.2.1.length 100 && (cuts.all (fun d => rposB d && (d.2.2.2.all (fun q => Nat.blt q.2 1000) && aexec hk tab nL T fld put cst cstl cal rk C (cuts ++ exs) pids (some (d.2.2.1, d.2.2.2)) fuel d.1 d.2.1)) && (exs.all (fun d => rposB d) && aexec hk tab nL T fld put cst cstl cal rk C (cuts ++ exs) pids none fuel pc σ)))
/-- the hooks are sound -/
def HOK (l : Launch) (G : KG) (T : List TE) (own : String) (cc : ByteArray) (nL : Nat) (ret : Option FieldType) (Rf Rl : Nat) (hk : HKT) : Prop := ∀ {p : Program} {e : Env} {R : Room} {s : State} {m : MethodId} {args : Array Value} {below : List Frame} {meth : Method} {c : Code} {A : Nat → Prop} {nm : String} {Q : State → Prop} {kc ks : Nat}, ZC p s m args meth c cc nL own G A ret nm → Rf = R.frames → Rl = R.locals → kc ≤ R.cells → ks ≤ R.slots → ∀ (ad : Nat → Nat) (mk : List (Nat × Nat)) (w0 : va_W) (pin : List (Nat × Value)) (pc : Nat) (σ : AS) (L : List (Nat × AS)), afr σ = true → hk pc σ = some L → (∀ q ∈ L, AQ p l e R s m args below meth c nL G A Q kc ks ad T mk w0 pin q.2 q.1) → AQ p l e R s m args below meth c nL G A Q kc ks ad T mk w0 pin σ pc
theorem hok0 {l : Launch} {G : KG} {T : List TE} {own : String} {cc : ByteArray} {nL : Nat} {ret : Option FieldType} {Rf Rl : Nat} : HOK l G T own cc nL ret Rf Rl hk0 := fun _ _ _ _ _ _ _ _ _ _ _ _ _ h => by cases h
section AZB
variable {p : Program} {l : Launch} {e : Env} {R : Room} {s : State} {m : MethodId} {args : Array Value} {below : List Frame} {meth : Method} {c : Code} {nL : Nat} {G : KG} {A : Nat → Prop} {cc : ByteArray} {own : String} {ret : Option FieldType} {nm : String} {kc ks mc ms : Nat}
variable {ad : Nat → Nat} {T : List TE} {w0 : va_W} {pin : List (Nat × Value)} {C : CE} {μ : Nat → Value} {PO : Option Value → va_W → Prop}
variable {lv : ALv} {st : List Nat} {ev : AEv} {ca : ACa} {rl : ARl} {nx pc rk : Nat} {K : KT}
variable {hk : HKT}
variable {fld : List (Nat × Nat × Nat)} {put : List (Nat × Nat × Nat × Nat)} {cst cstl : List (Nat × Int)} {cal : List CAL}
theorem aK_ok {cuts : List CUT} {pids : List Nat} {sr : Option (Int × List (Int × Nat))} {X : KT} (hcut : ∀ d pc σ, d ∈ cuts ∧ d.1 = pc → aarr pids sr d σ = true → AR p l e R s m args below meth c nL G A mc ms kc ks ad T C PO w0 pin σ pc) (hX : ∀ pc σ, X pc σ = true → AR p l e R s m args below meth c nL G A mc ms kc ks ad T C PO w0 pin σ pc) : ∀ pc σ, aK cuts pids sr X pc σ = true → AR p l e R s m args below meth c nL G A mc ms kc ks ad T C PO w0 pin σ pc := by
  intro pc σ h
  unfold aK at h
  cases hd : acutAt cuts pc with
  | none => rw [hd] at h; exact hX pc σ h
  | some d0 =>
    rw [hd] at h
    obtain ⟨d, d1, d2⟩ := List.any_eq_true.mp h
    obtain ⟨d2, d3⟩ := and2 d2
    exact hcut d pc σ ⟨d1, Nat.eq_of_beq_eq_true d2⟩ d3
theorem aexec_ok {tab : DT} (htab : ∀ q ∈ tab, decode cc q.1 = .ok q.2) (X : ZC p s m args meth c cc nL own G A ret nm) (hR1 : C.2.2.2.2.2.1 = R.frames) (hR2 : C.2.2.2.2.2.2 = R.locals) (hhk : HOK l G T own cc nL ret C.2.2.2.2.2.1 C.2.2.2.2.2.2 hk) (hrk : RK rk ret) (hc : kc ≤ mc) (hs : ks ≤ ms) (hp1 : ∀ j, j < C.1.length → (j, μ j) ∈ pin) (hp2 : ∀ j, j < C.2.1.length → (100 + j, μ (100 + j)) ∈ pin) (hl1 : C.1.length ≤ 50) (hl2 : C.2.1.length ≤ 100) (hPO : ∀ r w1, POST G ad T C μ w0 r w1 → PO r w1)
    (hF : ∀ q ∈ fld, FL own q.1 q.2.1 q.2.2 ∨ FN own q.1 q.2.1 q.2.2) (hP : ∀ q ∈ put, PA own q.1 q.2.1 q.2.2.1 q.2.2.2) (hC : ∀ q ∈ cst, ∃ x : Int32, x.toInt = q.2 ∧ Jvm.Cond.constant own q.1 x ∈ BIG) (hCl : ∀ q ∈ cstl, ∃ x : Int64, x.toInt = q.2 ∧ Jvm.Cond.constantLong own q.1 x ∈ BIG) (hcal : ∀ q ∈ cal, COK l G own T q) (hkc : kc ≤ R.cells) (hks : ks ≤ R.slots)
    {cuts : List CUT} {pids : List Nat} {sr : Option (Int × List (Int × Nat))} (hcut : ∀ d pc σ, d ∈ cuts ∧ d.1 = pc → aarr pids sr d σ = true → AR p l e R s m args below meth c nL G A mc ms kc ks ad T C PO w0 pin σ pc) : ∀ (n pc : Nat) (σ : AS), aexec hk tab nL T fld put cst cstl cal rk C cuts pids sr n pc σ = true → AR p l e R s m args below meth c nL G A mc ms kc ks ad T C PO w0 pin σ pc
  | 0, pc, σ, h => by cases h
  | n + 1, pc, σ, h => by
    unfold aexec at h
    obtain ⟨hf, h⟩ := and2 h
    have ih := aexec_ok htab X hR1 hR2 hhk hrk hc hs hp1 hp2 hl1 hl2 hPO hF hP hC hCl hcal hkc hks hcut n
    cases hh : hk pc σ with
    | some L =>
      rw [hh] at h
      exact hhk X hR1 hR2 hkc hks ad _ w0 pin pc σ L hf hh (fun q hq => aK_ok hcut ih _ _ (List.all_eq_true.mp h q hq))
    | none =>
      rw [hh] at h
      cases hd0 : dlook tab pc with
      | none => rw [hd0] at h; cases h
      | some z =>
        rw [hd0] at h
        have hd := htab _ (dlook_mem tab _ _ hd0)
        obtain ⟨i, len⟩ := z
        obtain ⟨lv, st, ev, ca, rl, nx⟩ := σ
        have h : sIns tab nL T C.2.2.2.2.1 fld put cst cstl cal C.2.2.2.2.2.1 C.2.2.2.2.2.2 rk C (aK cuts pids sr (aexec hk tab nL T fld put cst cstl cal rk C cuts pids sr n)) pc len i lv st ev ca rl nx = true := h
        rw [hR1, hR2] at h
        exact sIns_ok X htab hd hrk hc hs hp1 hp2 hl1 hl2 hPO hF hP hC hCl hcal hkc hks hf (aK_ok hcut ih) h
theorem rpos_ok {ν : Nat → Value} {mk : List (Nat × Nat)} {ws : va_W} (h : AK G ad T mk w0 pin (lv, st, ev, ca, rl, nx) ν ws) : ∀ (ts : List (Int × Nat)), rsum ts ν ≤ ts.foldr (fun q acc => tub ev rl q.1 q.2 + acc) 0
  | [] => Int.le_refl _
  | q :: ts => by
    have h1 := h.sTub q.1 q.2
    have h2 := rpos_ok h ts
    show q.1 * vI (ν q.2) + rsum ts ν ≤ tub ev rl q.1 q.2 + _
    omega
theorem rsum_pin {ν ν' : Nat → Value} : ∀ (ts : List (Int × Nat)), (∀ q ∈ ts, ν' q.2 = ν q.2) → rsum ts ν' = rsum ts ν
  | [], _ => rfl
  | q :: ts, h => by
    show q.1 * vI (ν' q.2) + rsum ts ν' = q.1 * vI (ν q.2) + rsum ts ν
    rw [h q List.mem_cons_self, rsum_pin ts (fun q hq => h q (List.mem_cons_of_mem _ hq))]
theorem AG.weak {mk : List (Nat × Nat)} {pin2 : List (Nat × Value)} {σ : AS} {ν : Nat → Value} {lw : List (Nat × Value)} {sw : List Value} {ws : va_W} (h : AG G ad T mk w0 pin2 σ ν lw sw ws) (hp : ∀ q ∈ pin, q ∈ pin2) : AG G ad T mk w0 pin σ ν lw sw ws := ⟨h.1, h.2.1, h.2.2.1, h.2.2.2.1, h.2.2.2.2.1, h.2.2.2.2.2.1, fun q hq => h.2.2.2.2.2.2.1 q (hp q hq), h.2.2.2.2.2.2.2⟩
theorem Z.mono {Q : State → Prop} {lw lw' : List (Nat × Value)} {sw : List Value} {ws : va_W} (h : ∀ q ∈ lw', q ∈ lw) (k : Z p l e R s m args below meth c nL G A Q pc lw' sw ws kc ks) : Z p l e R s m args below meth c nL G A Q pc lw sw ws kc ks := fun H locs ls hP hD hS hl => k H locs ls hP hD hS ⟨hl.1, hl.2.1, fun q hq => hl.2.2 q (h q hq)⟩
/-- arriving at a cut: its own state, nearer to the end -/
theorem aarr_ok {mk : List (Nat × Nat)} {pids : List Nat} {sr : Option (Int × List (Int × Nat))} {d : CUT} {σ : AS} {ν : Nat → Value} {lw : List (Nat × Value)} {sw : List Value} {ws : va_W} (hg : AG G ad T mk w0 pin σ ν lw sw ws) (hpin : ∀ q ∈ pin, q.1 ∈ pids) (h : aarr pids sr d σ = true) (hpos : rposB d = true) : ∃ (ν' : Nat → Value) (lw' : List (Nat × Value)), AG G ad T mk w0 pin d.2.1 ν' lw' sw ws ∧ (∀ q ∈ lw', q ∈ lw) ∧ 0 ≤ d.2.2.1 - rsum d.2.2.2 ν' ∧ ∀ s0, sr = some s0 → d.2.2.1 - rsum d.2.2.2 ν' < s0.1 - rsum s0.2 ν := by
  obtain ⟨lv, st, ev, ca, rl, nx⟩ := σ
  unfold aarr at h
  cases hm : amap pids (lv, st, ev, ca, rl, nx) d.2.1 with
  | none => simp only [hm] at h; cases h
  | some mm =>
    simp only [hm] at h
    obtain ⟨h1, h2⟩ := and2 h
    obtain ⟨g1, g2⟩ := hg.sub hpin hm h1
    refine ⟨_, _, g1, g2, ?_, fun s0 hs0 => ?_⟩
    · have hp := of_decide_eq_true hpos
      obtain ⟨pcd, ⟨lvd, std, evd, cad, rld, nxd⟩, Kd, td⟩ := d
      have h3 := rpos_ok (lv := lvd) (st := std) (ev := evd) (ca := cad) (rl := rld) (nx := nxd) g1.2.2 td
      have hp : td.foldr (fun q acc => tub evd rld q.1 q.2 + acc) 0 ≤ Kd := hp
      show 0 ≤ Kd - rsum td _
      omega
    · subst hs0
      have h2 : rdec ev rl mm (some s0) d = true := h2
      unfold rdec at h2
      cases hr : rub ev rl mm s0.2 d.2.2.2 with
      | none => simp only [hr] at h2; cases h2
      | some r =>
        simp only [hr] at h2
        have h2 := of_decide_eq_true h2
        have h3 := AK.sRub (lv := lv) (st := st) (ca := ca) (nx := nx) hg.2.2 s0.2 d.2.2.2 r hr
        omega
theorem lv0_ok {ad : Nat → Nat} : ∀ (ts : List VT) (i j : Nat), (∀ t ∈ ts, t.1 ≤ 2) → (∀ k t, ts[k]? = some t → vty ad t (μ (j + k))) → lv_args i ((List.range' j ts.length).map μ) = (alv0 i j ts).map (fun q => (q.1, μ q.2.1)) ∧ (∀ q ∈ alv0 i j ts, (μ q.2.1).category = bif q.2.2 then 2 else 1) ∧ (lg_sl ((List.range' j ts.length).map μ)).length = aslots ts
  | [], i, j, _, _ => ⟨rfl, fun q hq => (by cases hq), rfl⟩
  | t :: ts, i, j, h2, h => by
    have h0 := h 0 t rfl
    have hc : (μ j).category = bif Nat.beq t.1 1 then 2 else 1 := by
      rcases h0 with ⟨e, ⟨x, hx⟩, -⟩ | ⟨e, ⟨x, hx⟩, -⟩ | ⟨e, hx⟩ | ⟨e, -⟩
      · rw [show μ (j + 0) = μ j from rfl] at hx
        rw [e, hx]; rfl
      · rw [show μ (j + 0) = μ j from rfl] at hx
        rw [e, hx]; rfl
      · rw [show μ (j + 0) = μ j from rfl] at hx
        rw [e, hx]; rfl
      · have := h2 t List.mem_cons_self
        omega
    obtain ⟨r1, r2, r3⟩ := lv0_ok ts (bif Nat.beq t.1 1 then i + 2 else i + 1) (j + 1) (fun t ht => h2 t (List.mem_cons_of_mem _ ht)) (fun k t' hk => by
      have := h (k + 1) t' (by simpa using hk)
      rw [show j + 1 + k = j + (k + 1) by omega]
      exact this)
    have hi : (if (μ j).category = 2 then i + 2 else i + 1) = bif Nat.beq t.1 1 then i + 2 else i + 1 := by
      rw [hc]
      cases Nat.beq t.1 1 <;> rfl
    refine ⟨?_, fun q hq => ?_, ?_⟩
    · show lv_args i (μ j :: (List.range' (j + 1) ts.length).map μ) = (i, μ j) :: (alv0 _ (j + 1) ts).map (fun q => (q.1, μ q.2.1))
      show (i, μ j) :: lv_args (if (μ j).category = 2 then i + 2 else i + 1) ((List.range' (j + 1) ts.length).map μ) = _
      rw [hi, r1]
    · rcases List.mem_cons.mp hq with e | hq
      · rw [e]; exact hc
      · exact r2 q hq
    · show (lg_sl (μ j :: (List.range' (j + 1) ts.length).map μ)).length = (bif Nat.beq t.1 1 then 2 else 1) + aslots ts
      unfold lg_sl at r3 ⊢
      rw [List.flatMap_cons, List.length_append, r3]
      congr 1
      cases hb : Nat.beq t.1 1 with
      | true =>
        rw [hb] at hc
        have hc : (μ j).category = 2 := hc
        rw [if_pos hc]; rfl
      | false =>
        rw [hb] at hc
        have hc : (μ j).category = 1 := hc
        rw [if_neg (by omega)]; rfl
set_option maxHeartbeats 1000000 in
/-- a method's contract, by its check -/
theorem acertH {y : MethodName} {tab : DT} {cuts : List CUT} {fuel : Nat} (hy : plainName y.cls = true) (hrk : RK rk ret)
    (hF : ∀ q ∈ fld, FL y.cls q.1 q.2.1 q.2.2 ∨ FN y.cls q.1 q.2.1 q.2.2) (hP : ∀ q ∈ put, PA y.cls q.1 q.2.1 q.2.2.1 q.2.2.2) (hC : ∀ q ∈ cst, ∃ x : Int32, x.toInt = q.2 ∧ Jvm.Cond.constant y.cls q.1 x ∈ BIG) (hCl : ∀ q ∈ cstl, ∃ x : Int64, x.toInt = q.2 ∧ Jvm.Cond.constantLong y.cls q.1 x ∈ BIG) (hcal : ∀ q ∈ cal, COK l G y.cls T q) (htab : dtOK cc tab = true) (hhk : HOK l G T y.cls cc nL ret C.2.2.2.2.2.1 C.2.2.2.2.2.2 hk)
    (h : acheckH hk tab nL T fld put cst cstl cal rk C cuts fuel = true) : ACt l G T y cc nL ret C := by
  unfold acheckH at h
  obtain ⟨c1, h⟩ := and2 h
  obtain ⟨c2, h⟩ := and2 h
  obtain ⟨c3, h⟩ := and2 h
  obtain ⟨c4, h⟩ := and2 h
  obtain ⟨c5, h⟩ := and2 h
  have c1 := Nat.le_of_ble_eq_true c1
  have c2 := Nat.le_of_ble_eq_true c2
  intro ad w0 μ hW hPre
  obtain ⟨r1, r2, r3⟩ := lv0_ok (μ := μ) (ad := ad) C.1 0 0 (fun t ht => Nat.le_of_ble_eq_true (List.all_eq_true.mp c4 t ht)) (fun k t hk => by rw [Nat.zero_add]; exact hPre.1 k t hk)
  rw [List.range_eq_range']
  refine ct_of _ hy (by rw [r3]; exact Nat.le_of_ble_eq_true c3) rfl ?_
  intro p e s m args below meth c A X
  obtain ⟨pin, hpin⟩ : ∃ pin : List (Nat × Value), pin = (List.range C.1.length).map (fun j => (j, μ j)) ++ (List.range C.2.1.length).map (fun j => (100 + j, μ (100 + j))) := ⟨_, rfl⟩
  have hp1 : ∀ j, j < C.1.length → (j, μ j) ∈ pin := fun j hj => by rw [hpin]; exact List.mem_append_left _ (List.mem_map.mpr ⟨j, List.mem_range.mpr hj, rfl⟩)
  have hp2 : ∀ j, j < C.2.1.length → (100 + j, μ (100 + j)) ∈ pin := fun j hj => by rw [hpin]; exact List.mem_append_right _ (List.mem_map.mpr ⟨j, List.mem_range.mpr hj, rfl⟩)
  have hpids : ∀ q ∈ pin, q.1 ∈ apids C := by
    intro q hq
    rw [hpin] at hq
    unfold apids
    rcases List.mem_append.mp hq with hq | hq
    · obtain ⟨j, hj, rfl⟩ := List.mem_map.mp hq
      exact List.mem_append_left _ hj
    · obtain ⟨j, hj, rfl⟩ := List.mem_map.mp hq
      exact List.mem_append_right _ (List.mem_map.mpr ⟨j, hj, rfl⟩)
  have hpin2 : ∀ q ∈ pin, q.1 < 1000 ∧ μ q.1 = q.2 := by
    intro q hq
    rw [hpin] at hq
    rcases List.mem_append.mp hq with hq | hq
    · obtain ⟨j, hj, rfl⟩ := List.mem_map.mp hq
      have := List.mem_range.mp hj
      exact ⟨by show j < 1000; omega, rfl⟩
    · obtain ⟨j, hj, rfl⟩ := List.mem_map.mp hq
      have := List.mem_range.mp hj
      exact ⟨by show 100 + j < 1000; omega, rfl⟩
  have main : ∀ (N : Nat) (d : CUT), d ∈ cuts → ∀ (ν : Nat → Value) (lw : List (Nat × Value)) (sw : List Value) (ws : va_W), AG G ad T C.2.2.2.2.1 w0 pin d.2.1 ν lw sw ws → (d.2.2.1 - rsum d.2.2.2 ν).toNat < N → Z p l e (rmOf C) s m args below meth c nL G A (MQ below (QQ G A (fun r w1 => POST G ad T C μ w0 r w1)) args s (rmOf C).cells (rmOf C).slots A) d.1 lw sw ws 0 0 := by
    intro N
    induction N with
    | zero => intro d _ ν lw sw ws _ h9; exact absurd h9 (Nat.not_lt_zero _)
    | succ N ih =>
      intro d hd ν lw sw ws hg hN
      have hdc := List.all_eq_true.mp c5 d hd
      obtain ⟨d1, d2⟩ := and2 hdc
      obtain ⟨d2, d3⟩ := and2 d2
      obtain ⟨pin', hpin'⟩ : ∃ pin' : List (Nat × Value), pin' = pin ++ d.2.2.2.map (fun q => (q.2, ν q.2)) := ⟨_, rfl⟩
      have hsub : ∀ q ∈ pin, q ∈ pin' := fun q hq => by rw [hpin']; exact List.mem_append_left _ hq
      have hg' : AG G ad T C.2.2.2.2.1 w0 pin' d.2.1 ν lw sw ws := by
        refine ⟨hg.1, hg.2.1, hg.2.2.1, hg.2.2.2.1, hg.2.2.2.2.1, hg.2.2.2.2.2.1, fun q hq => ?_, hg.2.2.2.2.2.2.2⟩
        rw [hpin'] at hq
        rcases List.mem_append.mp hq with hq | hq
        · exact hg.2.2.2.2.2.2.1 q hq
        · obtain ⟨z, hz, rfl⟩ := List.mem_map.mp hq
          exact ⟨blt_lt (List.all_eq_true.mp d2 z hz), rfl⟩
      refine aexec_ok (dt_ok htab) (R := rmOf C) (pin := pin') X rfl rfl hhk hrk (Nat.le_refl 0) (Nat.le_refl 0) (fun j hj => hsub _ (hp1 j hj)) (fun j hj => hsub _ (hp2 j hj)) c1 c2 (fun _ _ h => h) hF hP hC hCl hcal (Nat.le_refl 0) (Nat.le_refl 0) ?_ fuel d.1 d.2.1 d3 ν lw sw ws hg'
      intro d' pc' σ hd' ha ν2 lw2 sw2 ws2 hg2
      obtain ⟨m1, m2⟩ := hd'
      obtain ⟨ν3, lw3, q1, q2, q3, q4⟩ := aarr_ok (hg2.weak hsub) hpids ha (and2 (List.all_eq_true.mp c5 d' m1)).1
      have q4 := q4 _ rfl
      have e1 : rsum d.2.2.2 ν2 = rsum d.2.2.2 ν := rsum_pin _ (fun z hz => by
        have := (hg2.2.2.2.2.2.2.1 (z.2, ν z.2) (by rw [hpin']; exact List.mem_append_right _ (List.mem_map.mpr ⟨z, hz, rfl⟩))).2
        exact this)
      have q4 : d'.2.2.1 - rsum d'.2.2.2 ν3 < d.2.2.1 - rsum d.2.2.2 ν2 := q4
      rw [e1] at q4
      rw [← m2]
      exact Z.mono q2 (ih d' m1 ν3 lw3 sw2 ws2 q1 (by omega))
  have hcut0 : ∀ d pc σ, d ∈ cuts ∧ d.1 = pc → aarr (apids C) none d σ = true → AR p l e (rmOf C) s m args below meth c nL G A (rmOf C).cells (rmOf C).slots 0 0 ad T C (fun r w1 => POST G ad T C μ w0 r w1) w0 pin σ pc := by
    intro d' pc' σ hd' ha ν2 lw2 sw2 ws2 hg2
    obtain ⟨m1, m2⟩ := hd'
    obtain ⟨ν3, lw3, q1, q2, -, -⟩ := aarr_ok hg2 hpids ha (and2 (List.all_eq_true.mp c5 d' m1)).1
    rw [← m2]
    exact Z.mono q2 (main _ d' m1 ν3 lw3 sw2 ws2 q1 (Nat.lt_succ_self _))
  have hrun := aK_ok hcut0 (aexec_ok (dt_ok htab) (R := rmOf C) (pin := pin) X rfl rfl hhk hrk (Nat.le_refl 0) (Nat.le_refl 0) hp1 hp2 c1 c2 (fun _ _ h => h) hF hP hC hCl hcal (Nat.le_refl 0) (Nat.le_refl 0) hcut0 fuel) 0 (ast0 C) h
  refine hrun μ _ [] w0 ⟨r1, rfl, r2, fun q hq => ?_, fun q hq => ?_, hPre.2.2, hpin2, hW, rfl, fun k j _ => rfl⟩
  · rcases List.mem_append.mp hq with hq | hq
    · obtain ⟨z, hz, rfl⟩ := List.mem_map.mp hq
      exact hPre.1 z.2 z.1 (zipIdx_mem hz)
    · obtain ⟨z, hz, rfl⟩ := List.mem_map.mp hq
      exact (hPre.2.1 z.2 z.1 (zipIdx_mem hz)).1
  · obtain ⟨z, hz, rfl⟩ := List.mem_map.mp hq
    exact (hPre.2.1 z.2 z.1 (zipIdx_mem hz)).2
theorem acert {y : MethodName} {tab : DT} {cuts : List CUT} {fuel : Nat} (hy : plainName y.cls = true) (hrk : RK rk ret)
    (hF : ∀ q ∈ fld, FL y.cls q.1 q.2.1 q.2.2 ∨ FN y.cls q.1 q.2.1 q.2.2) (hP : ∀ q ∈ put, PA y.cls q.1 q.2.1 q.2.2.1 q.2.2.2) (hC : ∀ q ∈ cst, ∃ x : Int32, x.toInt = q.2 ∧ Jvm.Cond.constant y.cls q.1 x ∈ BIG) (hCl : ∀ q ∈ cstl, ∃ x : Int64, x.toInt = q.2 ∧ Jvm.Cond.constantLong y.cls q.1 x ∈ BIG) (hcal : ∀ q ∈ cal, COK l G y.cls T q) (htab : dtOK cc tab = true)
    (h : acheck tab nL T fld put cst cstl cal rk C cuts fuel = true) : ACt l G T y cc nL ret C := acertH hy hrk hF hP hC hCl hcal htab hok0 h
set_option maxHeartbeats 1000000 in
/-- from a state to the exits -/
theorem aseg {tab : DT} {cuts exs : List CUT} {pids : List Nat} {fuel : Nat} {σ : AS} (htab : dtOK cc tab = true) (X : ZC p s m args meth c cc nL own G A ret nm) (hR1 : C.2.2.2.2.2.1 = R.frames) (hR2 : C.2.2.2.2.2.2 = R.locals) (hhk : HOK l G T own cc nL ret C.2.2.2.2.2.1 C.2.2.2.2.2.2 hk) (hrk : RK rk ret) (hc : kc ≤ mc) (hs : ks ≤ ms) (hp1 : ∀ j, j < C.1.length → (j, μ j) ∈ pin) (hp2 : ∀ j, j < C.2.1.length → (100 + j, μ (100 + j)) ∈ pin) (hPO : ∀ r w1, POST G ad T C μ w0 r w1 → PO r w1)
    (hF : ∀ q ∈ fld, FL own q.1 q.2.1 q.2.2 ∨ FN own q.1 q.2.1 q.2.2) (hP : ∀ q ∈ put, PA own q.1 q.2.1 q.2.2.1 q.2.2.2) (hC : ∀ q ∈ cst, ∃ x : Int32, x.toInt = q.2 ∧ Jvm.Cond.constant own q.1 x ∈ BIG) (hCl : ∀ q ∈ cstl, ∃ x : Int64, x.toInt = q.2 ∧ Jvm.Cond.constantLong own q.1 x ∈ BIG) (hcal : ∀ q ∈ cal, COK l G own T q) (hkc : kc ≤ R.cells) (hks : ks ≤ R.slots)
    (hpids : ∀ q ∈ pin, q.1 ∈ pids) (h : acheckS hk tab nL T fld put cst cstl cal rk C cuts exs pids fuel pc σ = true)
    (hx : ∀ d ∈ exs, ∀ (ν : Nat → Value) (lw : List (Nat × Value)) (sw : List Value) (ws : va_W), AG G ad T C.2.2.2.2.1 w0 pin d.2.1 ν lw sw ws → Z p l e R s m args below meth c nL G A (MQ below (QQ G A PO) args s mc ms A) d.1 lw sw ws kc ks) : AR p l e R s m args below meth c nL G A mc ms kc ks ad T C PO w0 pin σ pc := by
  unfold acheckS at h
  obtain ⟨c1, h⟩ := and2 h
  obtain ⟨c2, h⟩ := and2 h
  obtain ⟨c5, h⟩ := and2 h
  obtain ⟨c6, h⟩ := and2 h
  have c1 := Nat.le_of_ble_eq_true c1
  have c2 := Nat.le_of_ble_eq_true c2
  have rp : ∀ d ∈ cuts ++ exs, rposB d = true := fun d hd => (List.mem_append.mp hd).elim (fun m1 => (and2 (List.all_eq_true.mp c5 d m1)).1) (fun m1 => List.all_eq_true.mp c6 d m1)
  have main : ∀ (N : Nat) (d : CUT), d ∈ cuts → ∀ (ν : Nat → Value) (lw : List (Nat × Value)) (sw : List Value) (ws : va_W), AG G ad T C.2.2.2.2.1 w0 pin d.2.1 ν lw sw ws → (d.2.2.1 - rsum d.2.2.2 ν).toNat < N → Z p l e R s m args below meth c nL G A (MQ below (QQ G A PO) args s mc ms A) d.1 lw sw ws kc ks := by
    intro N
    induction N with
    | zero => intro d _ ν lw sw ws _ h9; exact absurd h9 (Nat.not_lt_zero _)
    | succ N ih =>
      intro d hd ν lw sw ws hg hN
      have hdc := List.all_eq_true.mp c5 d hd
      obtain ⟨d1, d2⟩ := and2 hdc
      obtain ⟨d2, d3⟩ := and2 d2
      obtain ⟨pin', hpin'⟩ : ∃ pin' : List (Nat × Value), pin' = pin ++ d.2.2.2.map (fun q => (q.2, ν q.2)) := ⟨_, rfl⟩
      have hsub : ∀ q ∈ pin, q ∈ pin' := fun q hq => by rw [hpin']; exact List.mem_append_left _ hq
      have hg' : AG G ad T C.2.2.2.2.1 w0 pin' d.2.1 ν lw sw ws := by
        refine ⟨hg.1, hg.2.1, hg.2.2.1, hg.2.2.2.1, hg.2.2.2.2.1, hg.2.2.2.2.2.1, fun q hq => ?_, hg.2.2.2.2.2.2.2⟩
        rw [hpin'] at hq
        rcases List.mem_append.mp hq with hq | hq
        · exact hg.2.2.2.2.2.2.1 q hq
        · obtain ⟨z, hz, rfl⟩ := List.mem_map.mp hq
          exact ⟨blt_lt (List.all_eq_true.mp d2 z hz), rfl⟩
      refine aexec_ok (dt_ok htab) (pin := pin') X hR1 hR2 hhk hrk hc hs (fun j hj => hsub _ (hp1 j hj)) (fun j hj => hsub _ (hp2 j hj)) c1 c2 hPO hF hP hC hCl hcal hkc hks ?_ fuel d.1 d.2.1 d3 ν lw sw ws hg'
      intro d' pc' σ hd' ha ν2 lw2 sw2 ws2 hg2
      obtain ⟨m1, m2⟩ := hd'
      obtain ⟨ν3, lw3, q1, q2, q3, q4⟩ := aarr_ok (hg2.weak hsub) hpids ha (rp d' m1)
      have q4 := q4 _ rfl
      have e1 : rsum d.2.2.2 ν2 = rsum d.2.2.2 ν := rsum_pin _ (fun z hz => by
        have := (hg2.2.2.2.2.2.2.1 (z.2, ν z.2) (by rw [hpin']; exact List.mem_append_right _ (List.mem_map.mpr ⟨z, hz, rfl⟩))).2
        exact this)
      have q4 : d'.2.2.1 - rsum d'.2.2.2 ν3 < d.2.2.1 - rsum d.2.2.2 ν2 := q4
      rw [e1] at q4
      rw [← m2]
      rcases List.mem_append.mp m1 with m1 | m1
      · exact Z.mono q2 (ih d' m1 ν3 lw3 sw2 ws2 q1 (by omega))
      · exact Z.mono q2 (hx d' m1 ν3 lw3 sw2 ws2 q1)
  have hcut0 : ∀ d pc σ, d ∈ cuts ++ exs ∧ d.1 = pc → aarr pids none d σ = true → AR p l e R s m args below meth c nL G A mc ms kc ks ad T C PO w0 pin σ pc := by
    intro d' pc' σ hd' ha ν2 lw2 sw2 ws2 hg2
    obtain ⟨m1, m2⟩ := hd'
    obtain ⟨ν3, lw3, q1, q2, -, -⟩ := aarr_ok hg2 hpids ha (rp d' m1)
    rw [← m2]
    rcases List.mem_append.mp m1 with m1 | m1
    · exact Z.mono q2 (main _ d' m1 ν3 lw3 sw2 ws2 q1 (Nat.lt_succ_self _))
    · exact Z.mono q2 (hx d' m1 ν3 lw3 sw2 ws2 q1)
  exact aexec_ok (dt_ok htab) X hR1 hR2 hhk hrk hc hs hp1 hp2 c1 c2 hPO hF hP hC hCl hcal hkc hks hcut0 fuel pc σ h
end AZB
