/-! throws, with the world that is left -/
abbrev XCp (G : KG) (Rw : va_W → Prop) (A : Nat → Prop) : String → State → State → Prop := vx_X (fun _ : Unit => True) (fun E _ t => E = NSE ∧ ∃ w1, Rw w1 ∧ va_P G.1 vwCl w1 t.heap ∧ va_D A w1) A
def CtU (l : Launch) (G : KG) (y : MethodName) (cc : ByteArray) (maxL : Nat) (ret : Option FieldType) (rm : Room) (av : List Value) (w0 : va_W) (post : Option Value → va_W → Prop) (Rw : va_W → Prop) : Prop := ∀ sz : Nat, vx_Met l y (wsOf y cc maxL ret) rm (Pcy G av w0 sz) (Qcx G w0 sz post) (XCp G Rw (va_A w0 sz)) rm.cells rm.slots (va_A w0 sz)
set_option maxHeartbeats 4000000 in
theorem ctU_of {Rw : va_W → Prop} {post : Option Value → va_W → Prop} {l : Launch} {G : KG} {y : MethodName} {cc : ByteArray} {maxL : Nat} {ret : Option FieldType} {rm : Room} {av : List Value} {w0 : va_W} (lv : List (Nat × Value)) (hy : plainName y.cls = true) (hlen : (lg_sl av).length ≤ maxL) (hlv : lv_args 0 av = lv)
    (body : ∀ (p : Program) (e : Env) (s : State) (m : MethodId) (args : Array Value) (below : List Frame) (meth : Method) (c : Code) (A : Nat → Prop), ZC p s m args meth c cc maxL y.cls G A ret y.name → EXs A s s.heap → (∀ x ∈ c.exceptionTable.toList, False) →
      Z p l e rm s m args below meth c maxL G A (vx_MQ below (QQ G A post) (XCp G Rw A) args s rm.cells rm.slots A) 0 lv [] w0 0 0) : CtU l G y cc maxL ret rm av w0 post Rw := by
  intro sz
  refine vx_ofW (cc := cc) (maxL := maxL) (ret := ret) hy rfl ?_
  intro p e s m args below meth c s₁ B hml hno hv
  obtain ⟨rfl, ⟨hsz, hP, hK, hD0⟩, hE⟩ := hv
  have hts := atoms_spec (ws := wsOf y cc maxL ret) B.pre
  have hown : s.vm.findClass y.cls = some m.cls := findClass_of_methodNamed B.named
  subst hsz
  have hD := hD0.self (sz := s.heap.size)
  have hA : ∀ q : Nat, s.heap.size ≤ q → va_A w0 s.heap.size q := fun q h => Or.inr h
  have hl := lv_entry av (n := maxL) hlen
  rw [lg_entry_eq]
  rw [hlv] at hl
  have hn : meth.name = y.name := (name_of_methodNamed B.named B.method).1
  exact body p e s m av.toArray below meth c (va_A w0 s.heap.size) ⟨B.exec, B.bytes, hml, hown, fun w hw => hts w (List.mem_cons_of_mem _ hw), hK, hA, B.notSynchronized, B.returns, hn⟩ hE hno s.heap [] _ hP hD va_S.rf hl
theorem xw_k : Cond.classLink RX10 109 NSE ∈ BIG := List.mem_filter.mpr ⟨by decide +kernel, by decide +kernel⟩
theorem xw_i : Cond.initialized NSE ∈ BIG := List.mem_filter.mpr ⟨by decide +kernel, by decide +kernel⟩
section ZT
variable {p : Program} {l : Launch} {e : Env} {R : Room} {s : State} {m : MethodId} {args : Array Value} {below : List Frame} {meth : Method} {c : Code} {nL : Nat} {G : KG} {A : Nat → Prop} {Qc : Array Value → State → Outcome → State → Prop} {cc : ByteArray} {ret : Option FieldType} {nm : String}
variable {pc : Nat} {st : List Value} {ws : va_W} {kc ks mc ms : Nat} {lv : List (Nat × Value)}
theorem z_throwU {Rw : va_W → Prop} (hRw : Rw ws) (X : ZC p s m args meth c cc nL RX10 G A ret nm) (hE : EXs A s s.heap) (hst : l.stackTraces = false) (hno : ∀ x ∈ c.exceptionTable.toList, False) {is : Nat} {text : String} (hstr : xn_st is text s)
    (d0 : decode cc pc = .ok (.new 109, 3)) (d3 : decode cc (pc + 3) = .ok (.dup, 1)) (d4 : decode cc (pc + 4) = .ok (.ldc is, 2)) (d6 : decode cc (pc + 6) = .ok (.invokespecial 113, 3)) (d9 : decode cc (pc + 9) = .ok (.athrow, 1))
    (hR : 2 + 3 < R.frames ∧ (st.map fun v => v.category).sum + (13 * (2 + 1) + 43) ≤ R.locals ∧ kc + 1 ≤ R.cells ∧ ks + 6 ≤ R.slots) (hm : kc + 1 ≤ mc ∧ ks + 6 ≤ ms) :
    Z p l e R s m args below meth c nL G A (vx_MQ below Qc (XCp G Rw A) args s mc ms A) pc lv st ws kc ks := by
  intro H locs ls hP hD hS hl
  obtain ⟨sa, hsa⟩ := hstr _ X.2.2.2.1
  exact xn_throwS (rest := st) X.1 X.2.1 hst X.2.2.2.1 (X.2.2.2.2.1 _ xw_k) (X.2.2.2.2.1 _ xw_i) hsa (z_xat X hE) xw_ot hE.1 hE.2.1 hS (hl.1.trans X.2.2.1.symm) d0 d3 d4 d6 d9 (fun x hx => (hno x hx).elim) hR.1 hR.2.1 hR.2.2.1 hR.2.2.2 X.2.2.2.2.2.2.2.1
    (fun t _ h2 h3 => ⟨(), trivial, ⟨rfl, ws, hRw, hP.kept (fun k q hk => h3 q.1 (hP k q hk).lt), hD⟩, Nat.le_trans hS.1 h2, fun q h4 h5 => (h3 q (Nat.lt_of_lt_of_le h4 hS.1)).trans (hS.2.1 q h4 h5)⟩) hS.2.2 hm.1 hm.2
theorem z_throwWU {Rw : va_W → Prop} (hRw : Rw ws) (X : ZC p s m args meth c cc nL RX10 G A ret nm) (hE : EXs A s s.heap) (hst : l.stackTraces = false) (hno : ∀ x ∈ c.exceptionTable.toList, False) {is : Nat} {text : String} (hstr : xn_st is text s)
    (d0 : decode cc pc = .ok (.new 109, 3)) (d3 : decode cc (pc + 3) = .ok (.dup, 1)) (d4 : decode cc (pc + 4) = .ok (.ldc_w is, 3)) (d7 : decode cc (pc + 7) = .ok (.invokespecial 113, 3)) (d10 : decode cc (pc + 10) = .ok (.athrow, 1))
    (hR : 2 + 3 < R.frames ∧ (st.map fun v => v.category).sum + (13 * (2 + 1) + 43) ≤ R.locals ∧ kc + 1 ≤ R.cells ∧ ks + 6 ≤ R.slots) (hm : kc + 1 ≤ mc ∧ ks + 6 ≤ ms) :
    Z p l e R s m args below meth c nL G A (vx_MQ below Qc (XCp G Rw A) args s mc ms A) pc lv st ws kc ks := by
  intro H locs ls hP hD hS hl
  obtain ⟨sa, hsa⟩ := hstr _ X.2.2.2.1
  exact xn_throwSW (rest := st) X.1 X.2.1 hst X.2.2.2.1 (X.2.2.2.2.1 _ xw_k) (X.2.2.2.2.1 _ xw_i) hsa (z_xat X hE) xw_ot hE.1 hE.2.1 hS (hl.1.trans X.2.2.1.symm) d0 d3 d4 d7 d10 (fun x hx => (hno x hx).elim) hR.1 hR.2.1 hR.2.2.1 hR.2.2.2 X.2.2.2.2.2.2.2.1
    (fun t _ h2 h3 => ⟨(), trivial, ⟨rfl, ws, hRw, hP.kept (fun k q hk => h3 q.1 (hP k q hk).lt), hD⟩, Nat.le_trans hS.1 h2, fun q h4 h5 => (h3 q (Nat.lt_of_lt_of_le h4 hS.1)).trans (hS.2.1 q h4 h5)⟩) hS.2.2 hm.1 hm.2
theorem z_lift {Q2 : Array Value → State → Outcome → State → Prop} {XC : String → State → State → Prop} (h : Z p l e R s m args below meth c nL G A (MQ below Q2 args s mc ms A) pc lv st ws kc ks) : Z p l e R s m args below meth c nL G A (vx_MQ below Q2 XC args s mc ms A) pc lv st ws kc ks := fun H locs ls hP hD hS hl => vx_ret (h H locs ls hP hD hS hl)
end ZT
theorem vx_toRun {p : Program} {l : Launch} {e : Env} {R : Room} {s : State} {m : MethodId} {args : Array Value} {below : List Frame} {meth : Method} {c : Code} {H : Heap} {locs : List Loc} {kc ks mc ms : Nat} {g : JFrame} {rest : List Value} {Qa : State → Outcome → State → Prop} {free : Addr → Prop} (hr : vx_Run p l e R s m args below meth c H locs kc ks mc ms g rest Qa (fun _ _ _ => False) free) : va_Run p l e R s m args below meth c H locs kc ks mc ms g rest Qa free := by
  intro T hT X
  rcases hr T hT X with h | ⟨q, st₀, t, T', L, E, ce, h0, X', hL, e1, e2, hx, -⟩
  · exact h
  · exact hx.elim
section ZCB
variable {p : Program} {l : Launch} {e : Env} {R : Room} {s : State} {m : MethodId} {args : Array Value} {below : List Frame} {meth : Method} {c : Code} {nL : Nat} {G : KG} {A : Nat → Prop} {Q : State → Prop} {cc : ByteArray} {own : String} {ret : Option FieldType} {nm : String}
variable {pc : Nat} {rest st : List Value} {ws : va_W} {kc ks : Nat} {lv : List (Nat × Value)} {post : Option Value → va_W → Prop}
variable {y : MethodName} {cy : ByteArray} {maxL n idx : Nat} {rt : Option FieldType} {rm : Room} {w0 wr : va_W} {b : Nat} {As : List Value}
theorem pre_y {H : Heap} {locs : List Loc} (X : ZC p s m args meth c cc nL own G A ret nm) (hE : EXs A s s.heap) (hP : va_P G.1 vwCl ws H) (hD : va_D A ws) (hS : va_S A s.heap H locs) (isC : List Nat) (hC : isC.map (fun i => ws[i]?) = w0.map some) (hnC : va_nd isC = true) (av : List Value) : ∀ U : State, U.heap = H → s.WarmedH U.vm → Pcy G av w0 H.size av.toArray U := by
  intro U hU hW
  have h1 : EXs (va_A w0 H.size) U U.heap := by
    rw [hU]
    exact ((hE.kept hS.2.1).narrow (va_free hD hS X.2.2.2.2.2.2.1 isC hC)).warm hW
  exact ⟨rfl, ⟨by rw [hU], by rw [hU]; exact va_Ppick hP isC hC, X.2.2.2.2.2.1.warm hW, (hD.sub isC hnC hC).weaken (fun _ _ _ _ => trivial)⟩, h1⟩
set_option maxHeartbeats 4000000 in
/-- a call that throws NSE, caught by the method's own table -/
theorem z_catchU {C : String} {Rw : va_W → Prop} (X : ZC p s m args meth c cc nL own G A ret nm) (hE : EXs A s s.heap) (K : LkV own idx C y cy maxL rt n) (hM : CtU l G y cy maxL rt rm (.ref b :: As) w0 post Rw) (hdg : decode cc pc = .ok (.invokevirtual idx, 3)) (q0 : Nat) {ci : Nat} {fs : List Value} (he : ws[q0]? = some (b, .inr (ci, fs))) {q : vw_C} (hc : vwCl[ci]? = some q) (hqC : q.1 = C) (hR : rm.frames + 1 ≤ R.frames ∧ 8 + (maxL + 11) + rm.locals ≤ R.locals) (hf : kc + rm.cells ≤ R.cells ∧ ks + rm.slots ≤ R.slots) (hn : As.length = n) (hst : st = As.reverse ++ .ref b :: rest) (hcat : (rest.map fun v => v.category).sum ≤ 8) (isC isR : List Nat) (hC : isC.map (fun i => ws[i]?) = w0.map some) (hnC : va_nd isC = true) (hRw : isR.map (fun i => ws[i]?) = wr.map some) (hnR : va_nd isR = true) (hdis : (isR.all fun i => decide (i ∉ isC)) = true)
    (x : ExceptionTableEntry) (htab : c.exceptionTable.toList = [x]) (hcov : covers x pc = true) (h0 : x.catchType ≠ 0) (hlink : Cond.classLink own x.catchType NSE ∈ BIG)
    (k1k : ∀ (r : Option Value) (w1 : va_W), post r w1 → Z p l e R s m args below meth c nL G A Q (pc + 3) lv (r.toList ++ rest) (wr ++ w1) (kc + rm.cells) (ks + rm.slots))
    (kk : ∀ (q9 : Nat) (w1 : va_W), Rw w1 → Z p l e R s m args below meth c nL G A Q x.handlerPc lv [.ref q9] (wr ++ w1) (kc + rm.cells) (ks + rm.slots)) : Z p l e R s m args below meth c nL G A Q pc lv st ws kc ks := by
  obtain ⟨k1, k2, k3, k4, k5, k6, k7, k8, k9⟩ := K
  subst hst
  intro H locs ls hP hD hS hl
  have hts := X.2.2.2.2.1
  obtain ⟨cell, c1, c2, c3⟩ := recv_v X hP q0 he hc
  rw [hqC] at c3
  have hGI : GoodIn BIG (wsV own idx C y (wsOf y cy maxL rt)) := by
    intro w hw
    rcases List.mem_append.mp hw with h | h
    · have : w ∈ BIG := by
        rcases List.mem_cons.mp h with e | h
        · rw [e]; exact k1
        rcases List.mem_cons.mp h with e | h
        · rw [e]; exact k2
        rcases List.mem_cons.mp h with e | h
        · rw [e]; exact k3
        rcases List.mem_cons.mp h with e | h
        · rw [e]; exact k4
        cases h
      exact ⟨this, big_good this⟩
    · exact goodIn_wsOf k5 w h
  have hF : ∀ q, va_A w0 H.size q → A q := va_free hD hS X.2.2.2.2.2.2.1 isC hC
  have hr := vx_runV (p := p) (l := l) (e := e) (R := R) (below := below) (meth := meth) (locs := locs) (cells := kc) (slots := ks) (g := F0 m pc ls (As.reverse ++ .ref b :: rest)) (As := As) (rest := rest) ⟨X.1, X.2.1, X.2.2.1, X.2.2.2.1, hts⟩ (hM H.size) (cwV n hts hGI rfl rfl rfl ⟨k6, k7, k8, k9⟩ hR) ⟨Pcy.blind, ⟨cell, c1, c2, c3⟩, pre_y (locs := locs) X hE hP hD hS isC hC hnC _⟩ rfl hn hl.1 rfl (lv_room hcat) hdg hf
  intro T hT X9
  rcases hr T hT X9 with ⟨v, st₀, t, T', L, z0, X', hL, e1, e2, ⟨⟨r, w1, hv, hp, hP1, hD1⟩, hz, hk⟩, sp⟩ | ⟨q9, st₀, t, T', L, E, ce, z0, X', hL, e1, e2, ⟨u, hp, ⟨hb, w1, hRw1, hP1, hD1⟩, hz, hk⟩, hce, hcv, hcl, sp⟩
  · cases hv
    rw [z0] at hz hk
    have hk1 : ∀ q : Nat, q < H.size → ¬ va_A w0 H.size q → t.heap[q]? = H[q]? := hk
    obtain ⟨hP2, hD2⟩ := va_join hP hD isC isR hC hRw hnR (fun i hi => of_decide_eq_true (List.all_eq_true.mp hdis i hi)) hk1 hF hP1 hD1
    have hS2 : va_S A s.heap t.heap (locs ++ L) := ⟨Nat.le_trans hS.1 hz, fun q h1 h2 => (hk q (Nat.lt_of_lt_of_le h1 hS.1) (fun z => h2 (hF q z))).trans (hS.2.1 q h1 h2), fun q hq => by
        rcases List.mem_append.mp hq with h | h
        · exact hS.2.2 q h
        · exact hF _ (hL q h)⟩
    obtain ⟨t2, a1, b1⟩ := k1k v w1 hp t.heap (locs ++ L) ls hP2 hD2 hS2 hl T' e1 X'
    exact ⟨t2, sp t2 a1, b1⟩
  · have hb : E = NSE := hb
    subst hb
    rw [z0] at hz hk
    have hk1 : ∀ q : Nat, q < H.size → ¬ va_A w0 H.size q → t.heap[q]? = H[q]? := hk
    obtain ⟨hP2, hD2⟩ := va_join hP hD isC isR hC hRw hnR (fun i hi => of_decide_eq_true (List.all_eq_true.mp hdis i hi)) hk1 hF hP1 hD1
    have hS2 : va_S A s.heap t.heap (locs ++ L) := ⟨Nat.le_trans hS.1 hz, fun q h1 h2 => (hk q (Nat.lt_of_lt_of_le h1 hS.1) (fun z => h2 (hF q z))).trans (hS.2.1 q h1 h2), fun q hq => by
        rcases List.mem_append.mp hq with h | h
        · exact hS.2.2 q h
        · exact hF _ (hL q h)⟩
    obtain ⟨t2, a1, b1⟩ := vx_catch (ls := ls) (rest := rest) X.2.2.2.1 [] x [] htab (fun z hz => nomatch hz) hcov h0 (hts _ hlink) (va_Nw.use rfl hE.2.2.1) hce hcv hcl (kk q9 w1 hRw1 t.heap (locs ++ L) ls hP2 hD2 hS2 hl) T' e1 X'
    exact ⟨t2, sp.trans a1, b1⟩
/-- a static method with a table of its own, by its place in the constant pool -/
def LkSW (own : String) (idx : Nat) (y : MethodName) (cc : ByteArray) (maxL : Nat) (ret : Option FieldType) (hh : List (Nat × Nat × Nat × Nat)) (n : Nat) : Prop := Cond.methodLink own idx y ∈ BIG ∧ Cond.static y ∈ BIG ∧ Cond.initialized y.cls ∈ BIG ∧ Cond.codeWith y cc maxL ret hh ∈ BIG ∧ y.cls ≠ "java/lang/invoke/MethodHandle" ∧ y.cls ≠ "java/lang/invoke/VarHandle" ∧ (parseMethodDescriptor y.desc).map (fun d => d.parameters.length) = some n
set_option maxHeartbeats 4000000 in
theorem z_callSX {hh : List (Nat × Nat × Nat × Nat)} (X : ZC p s m args meth c cc nL own G A ret nm) (K : LkSW own idx y cy maxL rt hh n) (hM : CtW l G y cy maxL rt hh rm As w0 post) (hE : EXs A s s.heap) (hdg : decode cc pc = .ok (.invokestatic idx, 3)) (hR : rm.frames + 1 ≤ R.frames ∧ 8 + (maxL + 11) + rm.locals ≤ R.locals) (hf : kc + rm.cells ≤ R.cells ∧ ks + rm.slots ≤ R.slots) (hn : As.length = n) (hst : st = As.reverse ++ rest) (hcat : (rest.map fun v => v.category).sum ≤ 8) (isC isR : List Nat) (hC : isC.map (fun i => ws[i]?) = w0.map some) (hnC : va_nd isC = true) (hRw : isR.map (fun i => ws[i]?) = wr.map some) (hnR : va_nd isR = true) (hdis : (isR.all fun i => decide (i ∉ isC)) = true)
    (kk : ∀ (r : Option Value) (w1 : va_W), post r w1 → Z p l e R s m args below meth c nL G A Q (pc + 3) lv (r.toList ++ rest) (wr ++ w1) (kc + rm.cells) (ks + rm.slots)) : Z p l e R s m args below meth c nL G A Q pc lv st ws kc ks := by
  obtain ⟨k1, k2, k3, k5, k7, k8, k9⟩ := K
  subst hst
  intro H locs ls hP hD hS hl
  have hts := X.2.2.2.2.1
  have hGI : GoodIn BIG (va_wsS own idx y (wsW y cy maxL rt hh)) := by
    intro w hw
    rcases List.mem_append.mp hw with h | h
    · have : w ∈ BIG := by
        rcases List.mem_cons.mp h with e | h
        · rw [e]; exact k1
        rcases List.mem_cons.mp h with e | h
        · rw [e]; exact k2
        rcases List.mem_cons.mp h with e | h
        · rw [e]; exact k3
        cases h
      exact ⟨this, big_good this⟩
    · exact goodIn_wsW k5 w h
  exact z_cont (vx_toRun (vx_runSX (As := As) (rest := rest) ⟨X.1, X.2.1, X.2.2.1, X.2.2.2.1, hts⟩ (hM H.size) (vx_cwSW n hts hGI rfl rfl rfl ⟨k7, k8, k9⟩ hR) ⟨Pcy.blind, pre_y (locs := locs) X hE hP hD hS isC hC hnC _⟩ rfl hn hl.1 rfl (lv_room hcat) hdg hf)) X.2.2.2.2.2.2.1 hP hD hS hl isC isR hC hRw hnR hdis kk
end ZCB
