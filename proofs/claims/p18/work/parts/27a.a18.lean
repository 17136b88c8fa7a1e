/-! the runner, with hooks that lean on the world of the start -/
def HOKP (l : Launch) (G : KG) (T : List TE) (own : String) (cc : ByteArray) (nL : Nat) (ret : Option FieldType) (Rf Rl : Nat) (hk : HKT) (mk : List (Nat × Nat)) (w0 : va_W) : Prop := ∀ {p : Program} {e : Env} {R : Room} {s : State} {m : MethodId} {args : Array Value} {below : List Frame} {meth : Method} {c : Code} {A : Nat → Prop} {nm : String} {Q : State → Prop} {kc ks : Nat}, ZC p s m args meth c cc nL own G A ret nm → Rf = R.frames → Rl = R.locals → kc ≤ R.cells → ks ≤ R.slots → ∀ (ad : Nat → Nat) (pin : List (Nat × Value)) (pc : Nat) (σ : AS) (L : List (Nat × AS)), afr σ = true → hk pc σ = some L → (∀ q ∈ L, AQ p l e R s m args below meth c nL G A Q kc ks ad T mk w0 pin q.2 q.1) → AQ p l e R s m args below meth c nL G A Q kc ks ad T mk w0 pin σ pc
/-- a contract, of worlds that are so -/
def ACtP (Φ : va_W → Prop) (l : Launch) (G : KG) (T : List TE) (y : MethodName) (cc : ByteArray) (maxL : Nat) (ret : Option FieldType) (C : CE) : Prop := ∀ (ad : Nat → Nat) (w0 : va_W) (μ : Nat → Value), WT G ad T w0 → PRE ad C μ w0 → Φ w0 → Ct l G y cc maxL ret (rmOf C) ((List.range C.1.length).map μ) w0 (fun r w1 => POST G ad T C μ w0 r w1)
section AZB
variable {p : Program} {l : Launch} {e : Env} {R : Room} {s : State} {m : MethodId} {args : Array Value} {below : List Frame} {meth : Method} {c : Code} {nL : Nat} {G : KG} {A : Nat → Prop} {cc : ByteArray} {own : String} {ret : Option FieldType} {nm : String} {kc ks mc ms : Nat}
variable {ad : Nat → Nat} {T : List TE} {w0 : va_W} {pin : List (Nat × Value)} {C : CE} {μ : Nat → Value} {PO : Option Value → va_W → Prop}
variable {lv : ALv} {st : List Nat} {ev : AEv} {ca : ACa} {rl : ARl} {nx pc rk : Nat} {K : KT}
variable {hk : HKT}
variable {fld : List (Nat × Nat × Nat)} {put : List (Nat × Nat × Nat × Nat)} {cst cstl : List (Nat × Int)} {cal : List CAL}
set_option maxHeartbeats 1000000 in
theorem aexec_okP {tab : DT} (htab : ∀ q ∈ tab, decode cc q.1 = .ok q.2) (X : ZC p s m args meth c cc nL own G A ret nm) (hR1 : C.2.2.2.2.2.1 = R.frames) (hR2 : C.2.2.2.2.2.2 = R.locals) (hhk : HOKP l G T own cc nL ret C.2.2.2.2.2.1 C.2.2.2.2.2.2 hk C.2.2.2.2.1 w0) (hrk : RK rk ret) (hc : kc ≤ mc) (hs : ks ≤ ms) (hp1 : ∀ j, j < C.1.length → (j, μ j) ∈ pin) (hp2 : ∀ j, j < C.2.1.length → (100 + j, μ (100 + j)) ∈ pin) (hl1 : C.1.length ≤ 50) (hl2 : C.2.1.length ≤ 100) (hPO : ∀ r w1, POST G ad T C μ w0 r w1 → PO r w1)
    (hF : ∀ q ∈ fld, FL own q.1 q.2.1 q.2.2 ∨ FN own q.1 q.2.1 q.2.2) (hP : ∀ q ∈ put, PA own q.1 q.2.1 q.2.2.1 q.2.2.2) (hC : ∀ q ∈ cst, ∃ x : Int32, x.toInt = q.2 ∧ Jvm.Cond.constant own q.1 x ∈ BIG) (hCl : ∀ q ∈ cstl, ∃ x : Int64, x.toInt = q.2 ∧ Jvm.Cond.constantLong own q.1 x ∈ BIG) (hcal : ∀ q ∈ cal, COK l G own T q) (hkc : kc ≤ R.cells) (hks : ks ≤ R.slots)
    {cuts : List CUT} {pids : List Nat} {sr : Option (Int × List (Int × Nat))} (hcut : ∀ d pc σ, d ∈ cuts ∧ d.1 = pc → aarr pids sr d σ = true → AR p l e R s m args below meth c nL G A mc ms kc ks ad T C PO w0 pin σ pc) : ∀ (n pc : Nat) (σ : AS), aexec hk tab nL T fld put cst cstl cal rk C cuts pids sr n pc σ = true → AR p l e R s m args below meth c nL G A mc ms kc ks ad T C PO w0 pin σ pc
  | 0, pc, σ, h => by cases h
  | n + 1, pc, σ, h => by
    unfold aexec at h
    obtain ⟨hf, h⟩ := and2 h
    have ih := aexec_okP htab X hR1 hR2 hhk hrk hc hs hp1 hp2 hl1 hl2 hPO hF hP hC hCl hcal hkc hks hcut n
    cases hh : hk pc σ with
    | some L =>
      rw [hh] at h
      exact hhk X hR1 hR2 hkc hks ad pin pc σ L hf hh (fun q hq => aK_ok hcut ih _ _ (List.all_eq_true.mp h q hq))
    | none =>
      rw [hh] at h
      cases hd0 : dlook tab pc with
      | none => rw [hd0] at h; cases h
      | some z =>
        rw [hd0] at h
        have hd := htab _ (dlook_mem tab _ _ hd0)
        obtain ⟨i, len⟩ := z
        obtain ⟨lv, st, ev, ca, rl, nx⟩ := σ
        have h : sIns tab nL T C.2.2.2.2.1 fld put cst cstl cal C.2.2.2.2.2.1 C.2.2.2.2.2.2 rk C (aK cuts pids sr (aexec hk tab nL T fld put cst cstl cal rk C cuts pids sr n)) pc len i lv st ev ca rl nx = true := h
        rw [hR1, hR2] at h
        exact sIns_ok X htab hd hrk hc hs hp1 hp2 hl1 hl2 hPO hF hP hC hCl hcal hkc hks hf (aK_ok hcut ih) h
set_option maxHeartbeats 1000000 in
theorem acertP {Φ : va_W → Prop} {y : MethodName} {tab : DT} {cuts : List CUT} {fuel : Nat} (hy : plainName y.cls = true) (hrk : RK rk ret)
    (hF : ∀ q ∈ fld, FL y.cls q.1 q.2.1 q.2.2 ∨ FN y.cls q.1 q.2.1 q.2.2) (hP : ∀ q ∈ put, PA y.cls q.1 q.2.1 q.2.2.1 q.2.2.2) (hC : ∀ q ∈ cst, ∃ x : Int32, x.toInt = q.2 ∧ Jvm.Cond.constant y.cls q.1 x ∈ BIG) (hCl : ∀ q ∈ cstl, ∃ x : Int64, x.toInt = q.2 ∧ Jvm.Cond.constantLong y.cls q.1 x ∈ BIG) (hcal : ∀ q ∈ cal, COK l G y.cls T q) (htab : dtOK cc tab = true) (hhk : ∀ w0, Φ w0 → HOKP l G T y.cls cc nL ret C.2.2.2.2.2.1 C.2.2.2.2.2.2 hk C.2.2.2.2.1 w0)
    (h : acheckH hk tab nL T fld put cst cstl cal rk C cuts fuel = true) : ACtP Φ l G T y cc nL ret C := by
  unfold acheckH at h
  obtain ⟨c1, h⟩ := and2 h
  obtain ⟨c2, h⟩ := and2 h
  obtain ⟨c3, h⟩ := and2 h
  obtain ⟨c4, h⟩ := and2 h
  obtain ⟨c5, h⟩ := and2 h
  have c1 := Nat.le_of_ble_eq_true c1
  have c2 := Nat.le_of_ble_eq_true c2
  intro ad w0 μ hW hPre hΦ
  obtain ⟨r1, r2, r3⟩ := lv0_ok (μ := μ) (ad := ad) C.1 0 0 (fun t ht => Nat.le_of_ble_eq_true (List.all_eq_true.mp c4 t ht)) (fun k t hk => by rw [Nat.zero_add]; exact hPre.1 k t hk)
  rw [List.range_eq_range']
  refine ct_of _ hy (by rw [r3]; exact Nat.le_of_ble_eq_true c3) rfl ?_
  intro p e s m args below meth c A X
  obtain ⟨pin, hpin⟩ : ∃ pin : List (Nat × Value), pin = (List.range C.1.length).map (fun j => (j, μ j)) ++ (List.range C.2.1.length).map (fun j => (100 + j, μ (100 + j))) := ⟨_, rfl⟩
  have hp1 : ∀ j, j < C.1.length → (j, μ j) ∈ pin := fun j hj => by rw [hpin]; exact List.mem_append_left _ (List.mem_map.mpr ⟨j, List.mem_range.mpr hj, rfl⟩)
  have hp2 : ∀ j, j < C.2.1.length → (100 + j, μ (100 + j)) ∈ pin := fun j hj => by rw [hpin]; exact List.mem_append_right _ (List.mem_map.mpr ⟨j, List.mem_range.mpr hj, rfl⟩)
  have hpids : ∀ q ∈ pin, q.1 ∈ apids C := by
    intro q hq
    rw [hpin] at hq
    unfold apids
    rcases List.mem_append.mp hq with hq | hq
    · obtain ⟨j, hj, rfl⟩ := List.mem_map.mp hq
      exact List.mem_append_left _ hj
    · obtain ⟨j, hj, rfl⟩ := List.mem_map.mp hq
      exact List.mem_append_right _ (List.mem_map.mpr ⟨j, hj, rfl⟩)
  have hpin2 : ∀ q ∈ pin, q.1 < 1000 ∧ μ q.1 = q.2 := by
    intro q hq
    rw [hpin] at hq
    rcases List.mem_append.mp hq with hq | hq
    · obtain ⟨j, hj, rfl⟩ := List.mem_map.mp hq
      have := List.mem_range.mp hj
      exact ⟨by show j < 1000; omega, rfl⟩
    · obtain ⟨j, hj, rfl⟩ := List.mem_map.mp hq
      have := List.mem_range.mp hj
      exact ⟨by show 100 + j < 1000; omega, rfl⟩
  have main : ∀ (N : Nat) (d : CUT), d ∈ cuts → ∀ (ν : Nat → Value) (lw : List (Nat × Value)) (sw : List Value) (ws : va_W), AG G ad T C.2.2.2.2.1 w0 pin d.2.1 ν lw sw ws → (d.2.2.1 - rsum d.2.2.2 ν).toNat < N → Z p l e (rmOf C) s m args below meth c nL G A (MQ below (QQ G A (fun r w1 => POST G ad T C μ w0 r w1)) args s (rmOf C).cells (rmOf C).slots A) d.1 lw sw ws 0 0 := by
    intro N
    induction N with
    | zero => intro d _ ν lw sw ws _ h9; exact absurd h9 (Nat.not_lt_zero _)
    | succ N ih =>
      intro d hd ν lw sw ws hg hN
      have hdc := List.all_eq_true.mp c5 d hd
      obtain ⟨d1, d2⟩ := and2 hdc
      obtain ⟨d2, d3⟩ := and2 d2
      obtain ⟨pin', hpin'⟩ : ∃ pin' : List (Nat × Value), pin' = pin ++ d.2.2.2.map (fun q => (q.2, ν q.2)) := ⟨_, rfl⟩
      have hsub : ∀ q ∈ pin, q ∈ pin' := fun q hq => by rw [hpin']; exact List.mem_append_left _ hq
      have hg' : AG G ad T C.2.2.2.2.1 w0 pin' d.2.1 ν lw sw ws := by
        refine ⟨hg.1, hg.2.1, hg.2.2.1, hg.2.2.2.1, hg.2.2.2.2.1, hg.2.2.2.2.2.1, fun q hq => ?_, hg.2.2.2.2.2.2.2⟩
        rw [hpin'] at hq
        rcases List.mem_append.mp hq with hq | hq
        · exact hg.2.2.2.2.2.2.1 q hq
        · obtain ⟨z, hz, rfl⟩ := List.mem_map.mp hq
          exact ⟨blt_lt (List.all_eq_true.mp d2 z hz), rfl⟩
      refine aexec_okP (dt_ok htab) (R := rmOf C) (pin := pin') X rfl rfl (hhk w0 hΦ) hrk (Nat.le_refl 0) (Nat.le_refl 0) (fun j hj => hsub _ (hp1 j hj)) (fun j hj => hsub _ (hp2 j hj)) c1 c2 (fun _ _ h => h) hF hP hC hCl hcal (Nat.le_refl 0) (Nat.le_refl 0) ?_ fuel d.1 d.2.1 d3 ν lw sw ws hg'
      intro d' pc' σ hd' ha ν2 lw2 sw2 ws2 hg2
      obtain ⟨m1, m2⟩ := hd'
      obtain ⟨ν3, lw3, q1, q2, q3, q4⟩ := aarr_ok (hg2.weak hsub) hpids ha (and2 (List.all_eq_true.mp c5 d' m1)).1
      have q4 := q4 _ rfl
      have e1 : rsum d.2.2.2 ν2 = rsum d.2.2.2 ν := rsum_pin _ (fun z hz => by
        have := (hg2.2.2.2.2.2.2.1 (z.2, ν z.2) (by rw [hpin']; exact List.mem_append_right _ (List.mem_map.mpr ⟨z, hz, rfl⟩))).2
        exact this)
      have q4 : d'.2.2.1 - rsum d'.2.2.2 ν3 < d.2.2.1 - rsum d.2.2.2 ν2 := q4
      rw [e1] at q4
      rw [← m2]
      exact Z.mono q2 (ih d' m1 ν3 lw3 sw2 ws2 q1 (by omega))
  have hcut0 : ∀ d pc σ, d ∈ cuts ∧ d.1 = pc → aarr (apids C) none d σ = true → AR p l e (rmOf C) s m args below meth c nL G A (rmOf C).cells (rmOf C).slots 0 0 ad T C (fun r w1 => POST G ad T C μ w0 r w1) w0 pin σ pc := by
    intro d' pc' σ hd' ha ν2 lw2 sw2 ws2 hg2
    obtain ⟨m1, m2⟩ := hd'
    obtain ⟨ν3, lw3, q1, q2, -, -⟩ := aarr_ok hg2 hpids ha (and2 (List.all_eq_true.mp c5 d' m1)).1
    rw [← m2]
    exact Z.mono q2 (main _ d' m1 ν3 lw3 sw2 ws2 q1 (Nat.lt_succ_self _))
  have hrun := aK_ok hcut0 (aexec_okP (dt_ok htab) (R := rmOf C) (pin := pin) X rfl rfl (hhk w0 hΦ) hrk (Nat.le_refl 0) (Nat.le_refl 0) hp1 hp2 c1 c2 (fun _ _ h => h) hF hP hC hCl hcal (Nat.le_refl 0) (Nat.le_refl 0) hcut0 fuel) 0 (ast0 C) h
  refine hrun μ _ [] w0 ⟨r1, rfl, r2, fun q hq => ?_, fun q hq => ?_, hPre.2.2, hpin2, hW, rfl, fun k j _ => rfl⟩
  · rcases List.mem_append.mp hq with hq | hq
    · obtain ⟨z, hz, rfl⟩ := List.mem_map.mp hq
      exact hPre.1 z.2 z.1 (zipIdx_mem hz)
    · obtain ⟨z, hz, rfl⟩ := List.mem_map.mp hq
      exact (hPre.2.1 z.2 z.1 (zipIdx_mem hz)).1
  · obtain ⟨z, hz, rfl⟩ := List.mem_map.mp hq
    exact (hPre.2.1 z.2 z.1 (zipIdx_mem hz)).2
set_option maxHeartbeats 1000000 in
theorem asegP {tab : DT} {cuts exs : List CUT} {pids : List Nat} {fuel : Nat} {σ : AS} (htab : dtOK cc tab = true) (X : ZC p s m args meth c cc nL own G A ret nm) (hR1 : C.2.2.2.2.2.1 = R.frames) (hR2 : C.2.2.2.2.2.2 = R.locals) (hhk : HOKP l G T own cc nL ret C.2.2.2.2.2.1 C.2.2.2.2.2.2 hk C.2.2.2.2.1 w0) (hrk : RK rk ret) (hc : kc ≤ mc) (hs : ks ≤ ms) (hp1 : ∀ j, j < C.1.length → (j, μ j) ∈ pin) (hp2 : ∀ j, j < C.2.1.length → (100 + j, μ (100 + j)) ∈ pin) (hPO : ∀ r w1, POST G ad T C μ w0 r w1 → PO r w1)
    (hF : ∀ q ∈ fld, FL own q.1 q.2.1 q.2.2 ∨ FN own q.1 q.2.1 q.2.2) (hP : ∀ q ∈ put, PA own q.1 q.2.1 q.2.2.1 q.2.2.2) (hC : ∀ q ∈ cst, ∃ x : Int32, x.toInt = q.2 ∧ Jvm.Cond.constant own q.1 x ∈ BIG) (hCl : ∀ q ∈ cstl, ∃ x : Int64, x.toInt = q.2 ∧ Jvm.Cond.constantLong own q.1 x ∈ BIG) (hcal : ∀ q ∈ cal, COK l G own T q) (hkc : kc ≤ R.cells) (hks : ks ≤ R.slots)
    (hpids : ∀ q ∈ pin, q.1 ∈ pids) (h : acheckS hk tab nL T fld put cst cstl cal rk C cuts exs pids fuel pc σ = true)
    (hx : ∀ d ∈ exs, ∀ (ν : Nat → Value) (lw : List (Nat × Value)) (sw : List Value) (ws : va_W), AG G ad T C.2.2.2.2.1 w0 pin d.2.1 ν lw sw ws → Z p l e R s m args below meth c nL G A (MQ below (QQ G A PO) args s mc ms A) d.1 lw sw ws kc ks) : AR p l e R s m args below meth c nL G A mc ms kc ks ad T C PO w0 pin σ pc := by
  unfold acheckS at h
  obtain ⟨c1, h⟩ := and2 h
  obtain ⟨c2, h⟩ := and2 h
  obtain ⟨c5, h⟩ := and2 h
  obtain ⟨c6, h⟩ := and2 h
  have c1 := Nat.le_of_ble_eq_true c1
  have c2 := Nat.le_of_ble_eq_true c2
  have rp : ∀ d ∈ cuts ++ exs, rposB d = true := fun d hd => (List.mem_append.mp hd).elim (fun m1 => (and2 (List.all_eq_true.mp c5 d m1)).1) (fun m1 => List.all_eq_true.mp c6 d m1)
  have main : ∀ (N : Nat) (d : CUT), d ∈ cuts → ∀ (ν : Nat → Value) (lw : List (Nat × Value)) (sw : List Value) (ws : va_W), AG G ad T C.2.2.2.2.1 w0 pin d.2.1 ν lw sw ws → (d.2.2.1 - rsum d.2.2.2 ν).toNat < N → Z p l e R s m args below meth c nL G A (MQ below (QQ G A PO) args s mc ms A) d.1 lw sw ws kc ks := by
    intro N
    induction N with
    | zero => intro d _ ν lw sw ws _ h9; exact absurd h9 (Nat.not_lt_zero _)
    | succ N ih =>
      intro d hd ν lw sw ws hg hN
      have hdc := List.all_eq_true.mp c5 d hd
      obtain ⟨d1, d2⟩ := and2 hdc
      obtain ⟨d2, d3⟩ := and2 d2
      obtain ⟨pin', hpin'⟩ : ∃ pin' : List (Nat × Value), pin' = pin ++ d.2.2.2.map (fun q => (q.2, ν q.2)) := ⟨_, rfl⟩
      have hsub : ∀ q ∈ pin, q ∈ pin' := fun q hq => by rw [hpin']; exact List.mem_append_left _ hq
      have hg' : AG G ad T C.2.2.2.2.1 w0 pin' d.2.1 ν lw sw ws := by
        refine ⟨hg.1, hg.2.1, hg.2.2.1, hg.2.2.2.1, hg.2.2.2.2.1, hg.2.2.2.2.2.1, fun q hq => ?_, hg.2.2.2.2.2.2.2⟩
        rw [hpin'] at hq
        rcases List.mem_append.mp hq with hq | hq
        · exact hg.2.2.2.2.2.2.1 q hq
        · obtain ⟨z, hz, rfl⟩ := List.mem_map.mp hq
          exact ⟨blt_lt (List.all_eq_true.mp d2 z hz), rfl⟩
      refine aexec_okP (dt_ok htab) (pin := pin') X hR1 hR2 hhk hrk hc hs (fun j hj => hsub _ (hp1 j hj)) (fun j hj => hsub _ (hp2 j hj)) c1 c2 hPO hF hP hC hCl hcal hkc hks ?_ fuel d.1 d.2.1 d3 ν lw sw ws hg'
      intro d' pc' σ hd' ha ν2 lw2 sw2 ws2 hg2
      obtain ⟨m1, m2⟩ := hd'
      obtain ⟨ν3, lw3, q1, q2, q3, q4⟩ := aarr_ok (hg2.weak hsub) hpids ha (rp d' m1)
      have q4 := q4 _ rfl
      have e1 : rsum d.2.2.2 ν2 = rsum d.2.2.2 ν := rsum_pin _ (fun z hz => by
        have := (hg2.2.2.2.2.2.2.1 (z.2, ν z.2) (by rw [hpin']; exact List.mem_append_right _ (List.mem_map.mpr ⟨z, hz, rfl⟩))).2
        exact this)
      have q4 : d'.2.2.1 - rsum d'.2.2.2 ν3 < d.2.2.1 - rsum d.2.2.2 ν2 := q4
      rw [e1] at q4
      rw [← m2]
      rcases List.mem_append.mp m1 with m1 | m1
      · exact Z.mono q2 (ih d' m1 ν3 lw3 sw2 ws2 q1 (by omega))
      · exact Z.mono q2 (hx d' m1 ν3 lw3 sw2 ws2 q1)
  have hcut0 : ∀ d pc σ, d ∈ cuts ++ exs ∧ d.1 = pc → aarr pids none d σ = true → AR p l e R s m args below meth c nL G A mc ms kc ks ad T C PO w0 pin σ pc := by
    intro d' pc' σ hd' ha ν2 lw2 sw2 ws2 hg2
    obtain ⟨m1, m2⟩ := hd'
    obtain ⟨ν3, lw3, q1, q2, -, -⟩ := aarr_ok hg2 hpids ha (rp d' m1)
    rw [← m2]
    rcases List.mem_append.mp m1 with m1 | m1
    · exact Z.mono q2 (main _ d' m1 ν3 lw3 sw2 ws2 q1 (Nat.lt_succ_self _))
    · exact Z.mono q2 (hx d' m1 ν3 lw3 sw2 ws2 q1)
  exact aexec_okP (dt_ok htab) X hR1 hR2 hhk hrk hc hs hp1 hp2 c1 c2 hPO hF hP hC hCl hcal hkc hks hcut0 fuel pc σ h
end AZB
