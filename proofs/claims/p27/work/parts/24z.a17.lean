/-! methods of java/lang/Math that the machine runs as bytecode -/
theorem Met.ofWF {l : Launch} {y : MethodName} {ws ws' : List Cond} {rm : Room} {Pc : Array Value → State → Prop} {Qc : Array Value → State → Outcome → State → Prop} {mc ms : Nat} {free : Addr → Prop} {cc : ByteArray} {maxL : Nat} {ret : Option FieldType}
    (hy : plainFor y = true) (hw : ws = Cond.code y cc maxL ret :: ws')
    (body : ∀ p e s m args below meth c s₁, BodyLoose p l y (headSpec ws rm) cc maxL ret e s m args below meth c s₁ → c.maxLocals = maxL → Pc args s →
      W p l e (headSpec ws rm).room s m args below meth c s.heap [] 0 0 (MQ below Qc args s mc ms free) (entryFrame m args maxL)) : Met l y ws rm Pc Qc mc ms free := by
  refine MetFree.of_bodySF (code := cc) (maxLocals := maxL) (ret := ret) hy ?_ ?_
  · intro args s m h hn
    obtain ⟨meth, c, h1, h2, h3, h4, h5, h6, -, -⟩ := Cond.code_spec hn (atoms_spec (ws := ws) h _ (by rw [hw]; exact List.mem_cons_self))
    exact ⟨meth, c, h1, h2, h3, h4, h5, h6⟩
  · intro p e s m args below meth c s₁ B hml hP _
    have hh0 : s₁.heap = s.heap := by rw [B.state]; rfl
    obtain ⟨t, a1, o, b1, b2, b3⟩ := body p e s m args below meth c s₁ B hml hP s₁ hh0 (Stand.of_body B)
    exact ⟨t, o, a1, b1, b2, ⟨b3.1, b3.2⟩⟩
set_option maxHeartbeats 4000000 in
theorem ct_ofF {l : Launch} {G : KG} {y : MethodName} {cc : ByteArray} {maxL : Nat} {ret : Option FieldType} {rm : Room} {av : List Value} {w0 : va_W} {post : Option Value → va_W → Prop} (lv : List (Nat × Value)) (hy : plainFor y = true) (hlen : (lg_sl av).length ≤ maxL) (hlv : lv_args 0 av = lv)
    (body : ∀ (p : Program) (e : Env) (s : State) (m : MethodId) (args : Array Value) (below : List Frame) (meth : Method) (c : Code) (A : Nat → Prop), ZC p s m args meth c cc maxL y.cls G A ret y.name →
      Z p l e rm s m args below meth c maxL G A (MQ below (QQ G A post) args s rm.cells rm.slots A) 0 lv [] w0 0 0) : Ct l G y cc maxL ret rm av w0 post := by
  intro sz
  refine Met.ofWF (cc := cc) (maxL := maxL) (ret := ret) hy rfl ?_
  intro p e s m args below meth c s₁ B hml hv
  obtain ⟨rfl, hsz, hP, hK, hD0⟩ := hv
  have hts := atoms_spec (ws := wsOf y cc maxL ret) B.pre
  have hown : s.vm.findClass y.cls = some m.cls := findClass_of_methodNamed B.named
  subst hsz
  have hD := hD0.self (sz := s.heap.size)
  have hA : ∀ q : Nat, s.heap.size ≤ q → va_A w0 s.heap.size q := fun q h => Or.inr h
  have hl := lv_entry av (n := maxL) hlen
  rw [lg_entry_eq]
  rw [hlv] at hl
  have hn : meth.name = y.name := (name_of_methodNamed B.named B.method).1
  exact body p e s m av.toArray below meth c (va_A w0 s.heap.size) ⟨B.exec, B.bytes, hml, hown, fun w hw => hts w (List.mem_cons_of_mem _ hw), hK, hA, B.notSynchronized, B.returns, hn⟩ s.heap [] _ hP hD va_S.rf hl
section AZF
variable {p : Program} {l : Launch} {e : Env} {R : Room} {s : State} {m : MethodId} {args : Array Value} {below : List Frame} {meth : Method} {c : Code} {nL : Nat} {G : KG} {A : Nat → Prop} {cc : ByteArray} {own : String} {ret : Option FieldType} {nm : String} {kc ks mc ms : Nat}
variable {ad : Nat → Nat} {T : List TE} {w0 : va_W} {pin : List (Nat × Value)} {C : CE} {μ : Nat → Value} {PO : Option Value → va_W → Prop}
variable {lv : ALv} {st : List Nat} {ev : AEv} {ca : ACa} {rl : ARl} {nx pc rk : Nat} {K : KT}
variable {hk : HKT}
variable {fld : List (Nat × Nat × Nat)} {put : List (Nat × Nat × Nat × Nat)} {cst cstl : List (Nat × Int)} {cal : List CAL}
set_option maxHeartbeats 1000000 in
/-- a method's contract, by its check -/
theorem acertF {y : MethodName} {tab : DT} {cuts : List CUT} {fuel : Nat} (hy : plainFor y = true) (hrk : RK rk ret)
    (hF : ∀ q ∈ fld, FL y.cls q.1 q.2.1 q.2.2 ∨ FN y.cls q.1 q.2.1 q.2.2) (hP : ∀ q ∈ put, PA y.cls q.1 q.2.1 q.2.2.1 q.2.2.2) (hC : ∀ q ∈ cst, ∃ x : Int32, x.toInt = q.2 ∧ Jvm.Cond.constant y.cls q.1 x ∈ BIG) (hCl : ∀ q ∈ cstl, ∃ x : Int64, x.toInt = q.2 ∧ Jvm.Cond.constantLong y.cls q.1 x ∈ BIG) (hcal : ∀ q ∈ cal, COK l G y.cls T q) (htab : dtOK cc tab = true) (hhk : HOK l G T y.cls cc nL ret C.2.2.2.2.2.1 C.2.2.2.2.2.2 hk)
    (h : xcheckH hk tab nL T fld put cst cstl cal rk C cuts fuel = true) : ACt l G T y cc nL ret C := by
  rw [xcheckH_eq] at h
  unfold acheckH at h
  obtain ⟨c1, h⟩ := and2 h
  obtain ⟨c2, h⟩ := and2 h
  obtain ⟨c3, h⟩ := and2 h
  obtain ⟨c4, h⟩ := and2 h
  obtain ⟨c5, h⟩ := and2 h
  have c1 := Nat.le_of_ble_eq_true c1
  have c2 := Nat.le_of_ble_eq_true c2
  intro ad w0 μ hW hPre
  obtain ⟨r1, r2, r3⟩ := lv0_ok (μ := μ) (ad := ad) C.1 0 0 (fun t ht => Nat.le_of_ble_eq_true (List.all_eq_true.mp c4 t ht)) (fun k t hk => by rw [Nat.zero_add]; exact hPre.1 k t hk)
  rw [List.range_eq_range']
  refine ct_ofF _ hy (by rw [r3]; exact Nat.le_of_ble_eq_true c3) rfl ?_
  intro p e s m args below meth c A X
  obtain ⟨pin, hpin⟩ : ∃ pin : List (Nat × Value), pin = (List.range C.1.length).map (fun j => (j, μ j)) ++ (List.range C.2.1.length).map (fun j => (100 + j, μ (100 + j))) := ⟨_, rfl⟩
  have hp1 : ∀ j, j < C.1.length → (j, μ j) ∈ pin := fun j hj => by rw [hpin]; exact List.mem_append_left _ (List.mem_map.mpr ⟨j, List.mem_range.mpr hj, rfl⟩)
  have hp2 : ∀ j, j < C.2.1.length → (100 + j, μ (100 + j)) ∈ pin := fun j hj => by rw [hpin]; exact List.mem_append_right _ (List.mem_map.mpr ⟨j, List.mem_range.mpr hj, rfl⟩)
  have hpids : ∀ q ∈ pin, q.1 ∈ apids C := by
    intro q hq
    rw [hpin] at hq
    unfold apids
    rcases List.mem_append.mp hq with hq | hq
    · obtain ⟨j, hj, rfl⟩ := List.mem_map.mp hq
      exact List.mem_append_left _ hj
    · obtain ⟨j, hj, rfl⟩ := List.mem_map.mp hq
      exact List.mem_append_right _ (List.mem_map.mpr ⟨j, hj, rfl⟩)
  have hpin2 : ∀ q ∈ pin, q.1 < 1000 ∧ μ q.1 = q.2 := by
    intro q hq
    rw [hpin] at hq
    rcases List.mem_append.mp hq with hq | hq
    · obtain ⟨j, hj, rfl⟩ := List.mem_map.mp hq
      have := List.mem_range.mp hj
      exact ⟨by show j < 1000; omega, rfl⟩
    · obtain ⟨j, hj, rfl⟩ := List.mem_map.mp hq
      have := List.mem_range.mp hj
      exact ⟨by show 100 + j < 1000; omega, rfl⟩
  have main : ∀ (N : Nat) (d : CUT), d ∈ cuts → ∀ (ν : Nat → Value) (lw : List (Nat × Value)) (sw : List Value) (ws : va_W), AG G ad T C.2.2.2.2.1 w0 pin d.2.1 ν lw sw ws → (d.2.2.1 - rsum d.2.2.2 ν).toNat < N → Z p l e (rmOf C) s m args below meth c nL G A (MQ below (QQ G A (fun r w1 => POST G ad T C μ w0 r w1)) args s (rmOf C).cells (rmOf C).slots A) d.1 lw sw ws 0 0 := by
    intro N
    induction N with
    | zero => intro d _ ν lw sw ws _ h9; exact absurd h9 (Nat.not_lt_zero _)
    | succ N ih =>
      intro d hd ν lw sw ws hg hN
      have hdc := List.all_eq_true.mp c5 d hd
      obtain ⟨d1, d2⟩ := and2 hdc
      obtain ⟨d2, d3⟩ := and2 d2
      obtain ⟨pin', hpin'⟩ : ∃ pin' : List (Nat × Value), pin' = pin ++ d.2.2.2.map (fun q => (q.2, ν q.2)) := ⟨_, rfl⟩
      have hsub : ∀ q ∈ pin, q ∈ pin' := fun q hq => by rw [hpin']; exact List.mem_append_left _ hq
      have hg' : AG G ad T C.2.2.2.2.1 w0 pin' d.2.1 ν lw sw ws := by
        refine ⟨hg.1, hg.2.1, hg.2.2.1, hg.2.2.2.1, hg.2.2.2.2.1, hg.2.2.2.2.2.1, fun q hq => ?_, hg.2.2.2.2.2.2.2⟩
        rw [hpin'] at hq
        rcases List.mem_append.mp hq with hq | hq
        · exact hg.2.2.2.2.2.2.1 q hq
        · obtain ⟨z, hz, rfl⟩ := List.mem_map.mp hq
          exact ⟨blt_lt (List.all_eq_true.mp d2 z hz), rfl⟩
      refine aexec_ok (dt_ok htab) (R := rmOf C) (pin := pin') X rfl rfl hhk hrk (Nat.le_refl 0) (Nat.le_refl 0) (fun j hj => hsub _ (hp1 j hj)) (fun j hj => hsub _ (hp2 j hj)) c1 c2 (fun _ _ h => h) hF hP hC hCl hcal (Nat.le_refl 0) (Nat.le_refl 0) ?_ fuel d.1 d.2.1 d3 ν lw sw ws hg'
      intro d' pc' σ hd' ha ν2 lw2 sw2 ws2 hg2
      obtain ⟨m1, m2⟩ := hd'
      obtain ⟨ν3, lw3, q1, q2, q3, q4⟩ := aarr_ok (hg2.weak hsub) hpids ha (and2 (List.all_eq_true.mp c5 d' m1)).1
      have q4 := q4 _ rfl
      have e1 : rsum d.2.2.2 ν2 = rsum d.2.2.2 ν := rsum_pin _ (fun z hz => by
        have := (hg2.2.2.2.2.2.2.1 (z.2, ν z.2) (by rw [hpin']; exact List.mem_append_right _ (List.mem_map.mpr ⟨z, hz, rfl⟩))).2
        exact this)
      have q4 : d'.2.2.1 - rsum d'.2.2.2 ν3 < d.2.2.1 - rsum d.2.2.2 ν2 := q4
      rw [e1] at q4
      rw [← m2]
      exact Z.mono q2 (ih d' m1 ν3 lw3 sw2 ws2 q1 (by omega))
  have hcut0 : ∀ d pc σ, d ∈ cuts ∧ d.1 = pc → aarr (apids C) none d σ = true → AR p l e (rmOf C) s m args below meth c nL G A (rmOf C).cells (rmOf C).slots 0 0 ad T C (fun r w1 => POST G ad T C μ w0 r w1) w0 pin σ pc := by
    intro d' pc' σ hd' ha ν2 lw2 sw2 ws2 hg2
    obtain ⟨m1, m2⟩ := hd'
    obtain ⟨ν3, lw3, q1, q2, -, -⟩ := aarr_ok hg2 hpids ha (and2 (List.all_eq_true.mp c5 d' m1)).1
    rw [← m2]
    exact Z.mono q2 (main _ d' m1 ν3 lw3 sw2 ws2 q1 (Nat.lt_succ_self _))
  have hrun := aK_ok hcut0 (aexec_ok (dt_ok htab) (R := rmOf C) (pin := pin) X rfl rfl hhk hrk (Nat.le_refl 0) (Nat.le_refl 0) hp1 hp2 c1 c2 (fun _ _ h => h) hF hP hC hCl hcal (Nat.le_refl 0) (Nat.le_refl 0) hcut0 fuel) 0 (ast0 C) h
  refine hrun μ _ [] w0 ⟨r1, rfl, r2, fun q hq => ?_, fun q hq => ?_, hPre.2.2, hpin2, hW, rfl, fun k j _ => rfl⟩
  · rcases List.mem_append.mp hq with hq | hq
    · obtain ⟨z, hz, rfl⟩ := List.mem_map.mp hq
      exact hPre.1 z.2 z.1 (zipIdx_mem hz)
    · obtain ⟨z, hz, rfl⟩ := List.mem_map.mp hq
      exact (hPre.2.1 z.2 z.1 (zipIdx_mem hz)).1
  · obtain ⟨z, hz, rfl⟩ := List.mem_map.mp hq
    exact (hPre.2.1 z.2 z.1 (zipIdx_mem hz)).2
end AZF
