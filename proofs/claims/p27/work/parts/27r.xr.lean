section
/-! throws, with the world that is left -/
abbrev XCp (G : KG) (Rw : va_W → Prop) (A : Nat → Prop) : String → State → State → Prop := vx_X (fun _ : Unit => True) (fun E _ t => E = NSE ∧ ∃ w1, Rw w1 ∧ va_P G.1 vwCl w1 t.heap ∧ va_D A w1) A
def CtU (l : Launch) (G : KG) (y : MethodName) (cc : ByteArray) (maxL : Nat) (ret : Option FieldType) (rm : Room) (av : List Value) (w0 : va_W) (post : Option Value → va_W → Prop) (Rw : va_W → Prop) : Prop := ∀ sz : Nat, vx_Met l y (wsOf y cc maxL ret) rm (Pcy G av w0 sz) (Qcx G w0 sz post) (XCp G Rw (va_A w0 sz)) rm.cells rm.slots (va_A w0 sz)
set_option maxHeartbeats 4000000 in
theorem ctU_of {Rw : va_W → Prop} {post : Option Value → va_W → Prop} {l : Launch} {G : KG} {y : MethodName} {cc : ByteArray} {maxL : Nat} {ret : Option FieldType} {rm : Room} {av : List Value} {w0 : va_W} (lv : List (Nat × Value)) (hy : plainName y.cls = true) (hlen : (lg_sl av).length ≤ maxL) (hlv : lv_args 0 av = lv)
    (body : ∀ (p : Program) (e : Env) (s : State) (m : MethodId) (args : Array Value) (below : List Frame) (meth : Method) (c : Code) (A : Nat → Prop), ZC p s m args meth c cc maxL y.cls G A ret y.name → EXs A s s.heap → (∀ x ∈ c.exceptionTable.toList, False) →
      Z p l e rm s m args below meth c maxL G A (vx_MQ below (QQ G A post) (XCp G Rw A) args s rm.cells rm.slots A) 0 lv [] w0 0 0) : CtU l G y cc maxL ret rm av w0 post Rw := by
  intro sz
  refine vx_ofW (cc := cc) (maxL := maxL) (ret := ret) hy rfl ?_
  intro p e s m args below meth c s₁ B hml hno hv
  obtain ⟨rfl, ⟨hsz, hP, hK, hD0⟩, hE⟩ := hv
  have hts := atoms_spec (ws := wsOf y cc maxL ret) B.pre
  have hown : s.vm.findClass y.cls = some m.cls := findClass_of_methodNamed B.named
  subst hsz
  have hD := hD0.self (sz := s.heap.size)
  have hA : ∀ q : Nat, s.heap.size ≤ q → va_A w0 s.heap.size q := fun q h => Or.inr h
  have hl := lv_entry av (n := maxL) hlen
  rw [lg_entry_eq]
  rw [hlv] at hl
  have hn : meth.name = y.name := (name_of_methodNamed B.named B.method).1
  exact body p e s m av.toArray below meth c (va_A w0 s.heap.size) ⟨B.exec, B.bytes, hml, hown, fun w hw => hts w (List.mem_cons_of_mem _ hw), hK, hA, B.notSynchronized, B.returns, hn⟩ hE hno s.heap [] _ hP hD va_S.rf hl
theorem xw_k : Cond.classLink RX10 109 NSE ∈ BIG := List.mem_filter.mpr ⟨by decide +kernel, by decide +kernel⟩
theorem xw_i : Cond.initialized NSE ∈ BIG := List.mem_filter.mpr ⟨by decide +kernel, by decide +kernel⟩
section ZT
variable {p : Program} {l : Launch} {e : Env} {R : Room} {s : State} {m : MethodId} {args : Array Value} {below : List Frame} {meth : Method} {c : Code} {nL : Nat} {G : KG} {A : Nat → Prop} {Qc : Array Value → State → Outcome → State → Prop} {cc : ByteArray} {ret : Option FieldType} {nm : String}
variable {pc : Nat} {st : List Value} {ws : va_W} {kc ks mc ms : Nat} {lv : List (Nat × Value)}
theorem z_throwU {Rw : va_W → Prop} (hRw : Rw ws) (X : ZC p s m args meth c cc nL RX10 G A ret nm) (hE : EXs A s s.heap) (hst : l.stackTraces = false) (hno : ∀ x ∈ c.exceptionTable.toList, False) {is : Nat} {text : String} (hstr : xn_st is text s)
    (d0 : decode cc pc = .ok (.new 109, 3)) (d3 : decode cc (pc + 3) = .ok (.dup, 1)) (d4 : decode cc (pc + 4) = .ok (.ldc is, 2)) (d6 : decode cc (pc + 6) = .ok (.invokespecial 113, 3)) (d9 : decode cc (pc + 9) = .ok (.athrow, 1))
    (hR : 2 + 3 < R.frames ∧ (st.map fun v => v.category).sum + (13 * (2 + 1) + 43) ≤ R.locals ∧ kc + 1 ≤ R.cells ∧ ks + 6 ≤ R.slots) (hm : kc + 1 ≤ mc ∧ ks + 6 ≤ ms) :
    Z p l e R s m args below meth c nL G A (vx_MQ below Qc (XCp G Rw A) args s mc ms A) pc lv st ws kc ks := by
  intro H locs ls hP hD hS hl
  obtain ⟨sa, hsa⟩ := hstr _ X.2.2.2.1
  exact xn_throwS (rest := st) X.1 X.2.1 hst X.2.2.2.1 (X.2.2.2.2.1 _ xw_k) (X.2.2.2.2.1 _ xw_i) hsa (z_xat X hE) xw_ot hE.1 hE.2.1 hS (hl.1.trans X.2.2.1.symm) d0 d3 d4 d6 d9 (fun x hx => (hno x hx).elim) hR.1 hR.2.1 hR.2.2.1 hR.2.2.2 X.2.2.2.2.2.2.2.1
    (fun t _ h2 h3 => ⟨(), trivial, ⟨rfl, ws, hRw, hP.kept (fun k q hk => h3 q.1 (hP k q hk).lt), hD⟩, Nat.le_trans hS.1 h2, fun q h4 h5 => (h3 q (Nat.lt_of_lt_of_le h4 hS.1)).trans (hS.2.1 q h4 h5)⟩) hS.2.2 hm.1 hm.2
theorem z_throwWU {Rw : va_W → Prop} (hRw : Rw ws) (X : ZC p s m args meth c cc nL RX10 G A ret nm) (hE : EXs A s s.heap) (hst : l.stackTraces = false) (hno : ∀ x ∈ c.exceptionTable.toList, False) {is : Nat} {text : String} (hstr : xn_st is text s)
    (d0 : decode cc pc = .ok (.new 109, 3)) (d3 : decode cc (pc + 3) = .ok (.dup, 1)) (d4 : decode cc (pc + 4) = .ok (.ldc_w is, 3)) (d7 : decode cc (pc + 7) = .ok (.invokespecial 113, 3)) (d10 : decode cc (pc + 10) = .ok (.athrow, 1))
    (hR : 2 + 3 < R.frames ∧ (st.map fun v => v.category).sum + (13 * (2 + 1) + 43) ≤ R.locals ∧ kc + 1 ≤ R.cells ∧ ks + 6 ≤ R.slots) (hm : kc + 1 ≤ mc ∧ ks + 6 ≤ ms) :
    Z p l e R s m args below meth c nL G A (vx_MQ below Qc (XCp G Rw A) args s mc ms A) pc lv st ws kc ks := by
  intro H locs ls hP hD hS hl
  obtain ⟨sa, hsa⟩ := hstr _ X.2.2.2.1
  exact xn_throwSW (rest := st) X.1 X.2.1 hst X.2.2.2.1 (X.2.2.2.2.1 _ xw_k) (X.2.2.2.2.1 _ xw_i) hsa (z_xat X hE) xw_ot hE.1 hE.2.1 hS (hl.1.trans X.2.2.1.symm) d0 d3 d4 d7 d10 (fun x hx => (hno x hx).elim) hR.1 hR.2.1 hR.2.2.1 hR.2.2.2 X.2.2.2.2.2.2.2.1
    (fun t _ h2 h3 => ⟨(), trivial, ⟨rfl, ws, hRw, hP.kept (fun k q hk => h3 q.1 (hP k q hk).lt), hD⟩, Nat.le_trans hS.1 h2, fun q h4 h5 => (h3 q (Nat.lt_of_lt_of_le h4 hS.1)).trans (hS.2.1 q h4 h5)⟩) hS.2.2 hm.1 hm.2
theorem z_lift {Q2 : Array Value → State → Outcome → State → Prop} {XC : String → State → State → Prop} (h : Z p l e R s m args below meth c nL G A (MQ below Q2 args s mc ms A) pc lv st ws kc ks) : Z p l e R s m args below meth c nL G A (vx_MQ below Q2 XC args s mc ms A) pc lv st ws kc ks := fun H locs ls hP hD hS hl => vx_ret (h H locs ls hP hD hS hl)
end ZT
theorem vx_toRun {p : Program} {l : Launch} {e : Env} {R : Room} {s : State} {m : MethodId} {args : Array Value} {below : List Frame} {meth : Method} {c : Code} {H : Heap} {locs : List Loc} {kc ks mc ms : Nat} {g : JFrame} {rest : List Value} {Qa : State → Outcome → State → Prop} {free : Addr → Prop} (hr : vx_Run p l e R s m args below meth c H locs kc ks mc ms g rest Qa (fun _ _ _ => False) free) : va_Run p l e R s m args below meth c H locs kc ks mc ms g rest Qa free := by
  intro T hT X
  rcases hr T hT X with h | ⟨q, st₀, t, T', L, E, ce, h0, X', hL, e1, e2, hx, -⟩
  · exact h
  · exact hx.elim
section ZCB
variable {p : Program} {l : Launch} {e : Env} {R : Room} {s : State} {m : MethodId} {args : Array Value} {below : List Frame} {meth : Method} {c : Code} {nL : Nat} {G : KG} {A : Nat → Prop} {Q : State → Prop} {cc : ByteArray} {own : String} {ret : Option FieldType} {nm : String}
variable {pc : Nat} {rest st : List Value} {ws : va_W} {kc ks : Nat} {lv : List (Nat × Value)} {post : Option Value → va_W → Prop}
variable {y : MethodName} {cy : ByteArray} {maxL n idx : Nat} {rt : Option FieldType} {rm : Room} {w0 wr : va_W} {b : Nat} {As : List Value}
theorem pre_y {H : Heap} {locs : List Loc} (X : ZC p s m args meth c cc nL own G A ret nm) (hE : EXs A s s.heap) (hP : va_P G.1 vwCl ws H) (hD : va_D A ws) (hS : va_S A s.heap H locs) (isC : List Nat) (hC : isC.map (fun i => ws[i]?) = w0.map some) (hnC : va_nd isC = true) (av : List Value) : ∀ U : State, U.heap = H → s.WarmedH U.vm → Pcy G av w0 H.size av.toArray U := by
  intro U hU hW
  have h1 : EXs (va_A w0 H.size) U U.heap := by
    rw [hU]
    exact ((hE.kept hS.2.1).narrow (va_free hD hS X.2.2.2.2.2.2.1 isC hC)).warm hW
  exact ⟨rfl, ⟨by rw [hU], by rw [hU]; exact va_Ppick hP isC hC, X.2.2.2.2.2.1.warm hW, (hD.sub isC hnC hC).weaken (fun _ _ _ _ => trivial)⟩, h1⟩
set_option maxHeartbeats 4000000 in
/-- a call that throws NSE, caught by the method's own table -/
theorem z_catchU {C : String} {Rw : va_W → Prop} (X : ZC p s m args meth c cc nL own G A ret nm) (hE : EXs A s s.heap) (K : LkV own idx C y cy maxL rt n) (hM : CtU l G y cy maxL rt rm (.ref b :: As) w0 post Rw) (hdg : decode cc pc = .ok (.invokevirtual idx, 3)) (q0 : Nat) {ci : Nat} {fs : List Value} (he : ws[q0]? = some (b, .inr (ci, fs))) {q : vw_C} (hc : vwCl[ci]? = some q) (hqC : q.1 = C) (hR : rm.frames + 1 ≤ R.frames ∧ 8 + (maxL + 11) + rm.locals ≤ R.locals) (hf : kc + rm.cells ≤ R.cells ∧ ks + rm.slots ≤ R.slots) (hn : As.length = n) (hst : st = As.reverse ++ .ref b :: rest) (hcat : (rest.map fun v => v.category).sum ≤ 8) (isC isR : List Nat) (hC : isC.map (fun i => ws[i]?) = w0.map some) (hnC : va_nd isC = true) (hRw : isR.map (fun i => ws[i]?) = wr.map some) (hnR : va_nd isR = true) (hdis : (isR.all fun i => decide (i ∉ isC)) = true)
    (x : ExceptionTableEntry) (htab : c.exceptionTable.toList = [x]) (hcov : covers x pc = true) (h0 : x.catchType ≠ 0) (hlink : Cond.classLink own x.catchType NSE ∈ BIG)
    (k1k : ∀ (r : Option Value) (w1 : va_W), post r w1 → Z p l e R s m args below meth c nL G A Q (pc + 3) lv (r.toList ++ rest) (wr ++ w1) (kc + rm.cells) (ks + rm.slots))
    (kk : ∀ (q9 : Nat) (w1 : va_W), Rw w1 → Z p l e R s m args below meth c nL G A Q x.handlerPc lv [.ref q9] (wr ++ w1) (kc + rm.cells) (ks + rm.slots)) : Z p l e R s m args below meth c nL G A Q pc lv st ws kc ks := by
  obtain ⟨k1, k2, k3, k4, k5, k6, k7, k8, k9⟩ := K
  subst hst
  intro H locs ls hP hD hS hl
  have hts := X.2.2.2.2.1
  obtain ⟨cell, c1, c2, c3⟩ := recv_v X hP q0 he hc
  rw [hqC] at c3
  have hGI : GoodIn BIG (wsV own idx C y (wsOf y cy maxL rt)) := by
    intro w hw
    rcases List.mem_append.mp hw with h | h
    · have : w ∈ BIG := by
        rcases List.mem_cons.mp h with e | h
        · rw [e]; exact k1
        rcases List.mem_cons.mp h with e | h
        · rw [e]; exact k2
        rcases List.mem_cons.mp h with e | h
        · rw [e]; exact k3
        rcases List.mem_cons.mp h with e | h
        · rw [e]; exact k4
        cases h
      exact ⟨this, big_good this⟩
    · exact goodIn_wsOf k5 w h
  have hF : ∀ q, va_A w0 H.size q → A q := va_free hD hS X.2.2.2.2.2.2.1 isC hC
  have hr := vx_runV (p := p) (l := l) (e := e) (R := R) (below := below) (meth := meth) (locs := locs) (cells := kc) (slots := ks) (g := F0 m pc ls (As.reverse ++ .ref b :: rest)) (As := As) (rest := rest) ⟨X.1, X.2.1, X.2.2.1, X.2.2.2.1, hts⟩ (hM H.size) (cwV n hts hGI rfl rfl rfl ⟨k6, k7, k8, k9⟩ hR) ⟨Pcy.blind, ⟨cell, c1, c2, c3⟩, pre_y (locs := locs) X hE hP hD hS isC hC hnC _⟩ rfl hn hl.1 rfl (lv_room hcat) hdg hf
  intro T hT X9
  rcases hr T hT X9 with ⟨v, st₀, t, T', L, z0, X', hL, e1, e2, ⟨⟨r, w1, hv, hp, hP1, hD1⟩, hz, hk⟩, sp⟩ | ⟨q9, st₀, t, T', L, E, ce, z0, X', hL, e1, e2, ⟨u, hp, ⟨hb, w1, hRw1, hP1, hD1⟩, hz, hk⟩, hce, hcv, hcl, sp⟩
  · cases hv
    rw [z0] at hz hk
    have hk1 : ∀ q : Nat, q < H.size → ¬ va_A w0 H.size q → t.heap[q]? = H[q]? := hk
    obtain ⟨hP2, hD2⟩ := va_join hP hD isC isR hC hRw hnR (fun i hi => of_decide_eq_true (List.all_eq_true.mp hdis i hi)) hk1 hF hP1 hD1
    have hS2 : va_S A s.heap t.heap (locs ++ L) := ⟨Nat.le_trans hS.1 hz, fun q h1 h2 => (hk q (Nat.lt_of_lt_of_le h1 hS.1) (fun z => h2 (hF q z))).trans (hS.2.1 q h1 h2), fun q hq => by
        rcases List.mem_append.mp hq with h | h
        · exact hS.2.2 q h
        · exact hF _ (hL q h)⟩
    obtain ⟨t2, a1, b1⟩ := k1k v w1 hp t.heap (locs ++ L) ls hP2 hD2 hS2 hl T' e1 X'
    exact ⟨t2, sp t2 a1, b1⟩
  · have hb : E = NSE := hb
    subst hb
    rw [z0] at hz hk
    have hk1 : ∀ q : Nat, q < H.size → ¬ va_A w0 H.size q → t.heap[q]? = H[q]? := hk
    obtain ⟨hP2, hD2⟩ := va_join hP hD isC isR hC hRw hnR (fun i hi => of_decide_eq_true (List.all_eq_true.mp hdis i hi)) hk1 hF hP1 hD1
    have hS2 : va_S A s.heap t.heap (locs ++ L) := ⟨Nat.le_trans hS.1 hz, fun q h1 h2 => (hk q (Nat.lt_of_lt_of_le h1 hS.1) (fun z => h2 (hF q z))).trans (hS.2.1 q h1 h2), fun q hq => by
        rcases List.mem_append.mp hq with h | h
        · exact hS.2.2 q h
        · exact hF _ (hL q h)⟩
    obtain ⟨t2, a1, b1⟩ := vx_catch (ls := ls) (rest := rest) X.2.2.2.1 [] x [] htab (fun z hz => nomatch hz) hcov h0 (hts _ hlink) (va_Nw.use rfl hE.2.2.1) hce hcv hcl (kk q9 w1 hRw1 t.heap (locs ++ L) ls hP2 hD2 hS2 hl) T' e1 X'
    exact ⟨t2, sp.trans a1, b1⟩
/-- a static method with a table of its own, by its place in the constant pool -/
def LkSW (own : String) (idx : Nat) (y : MethodName) (cc : ByteArray) (maxL : Nat) (ret : Option FieldType) (hh : List (Nat × Nat × Nat × Nat)) (n : Nat) : Prop := Cond.methodLink own idx y ∈ BIG ∧ Cond.static y ∈ BIG ∧ Cond.initialized y.cls ∈ BIG ∧ Cond.codeWith y cc maxL ret hh ∈ BIG ∧ y.cls ≠ "java/lang/invoke/MethodHandle" ∧ y.cls ≠ "java/lang/invoke/VarHandle" ∧ (parseMethodDescriptor y.desc).map (fun d => d.parameters.length) = some n
set_option maxHeartbeats 4000000 in
theorem z_callSX {hh : List (Nat × Nat × Nat × Nat)} (X : ZC p s m args meth c cc nL own G A ret nm) (K : LkSW own idx y cy maxL rt hh n) (hM : CtW l G y cy maxL rt hh rm As w0 post) (hE : EXs A s s.heap) (hdg : decode cc pc = .ok (.invokestatic idx, 3)) (hR : rm.frames + 1 ≤ R.frames ∧ 8 + (maxL + 11) + rm.locals ≤ R.locals) (hf : kc + rm.cells ≤ R.cells ∧ ks + rm.slots ≤ R.slots) (hn : As.length = n) (hst : st = As.reverse ++ rest) (hcat : (rest.map fun v => v.category).sum ≤ 8) (isC isR : List Nat) (hC : isC.map (fun i => ws[i]?) = w0.map some) (hnC : va_nd isC = true) (hRw : isR.map (fun i => ws[i]?) = wr.map some) (hnR : va_nd isR = true) (hdis : (isR.all fun i => decide (i ∉ isC)) = true)
    (kk : ∀ (r : Option Value) (w1 : va_W), post r w1 → Z p l e R s m args below meth c nL G A Q (pc + 3) lv (r.toList ++ rest) (wr ++ w1) (kc + rm.cells) (ks + rm.slots)) : Z p l e R s m args below meth c nL G A Q pc lv st ws kc ks := by
  obtain ⟨k1, k2, k3, k5, k7, k8, k9⟩ := K
  subst hst
  intro H locs ls hP hD hS hl
  have hts := X.2.2.2.2.1
  have hGI : GoodIn BIG (va_wsS own idx y (wsW y cy maxL rt hh)) := by
    intro w hw
    rcases List.mem_append.mp hw with h | h
    · have : w ∈ BIG := by
        rcases List.mem_cons.mp h with e | h
        · rw [e]; exact k1
        rcases List.mem_cons.mp h with e | h
        · rw [e]; exact k2
        rcases List.mem_cons.mp h with e | h
        · rw [e]; exact k3
        cases h
      exact ⟨this, big_good this⟩
    · exact goodIn_wsW k5 w h
  exact z_cont (vx_toRun (vx_runSX (As := As) (rest := rest) ⟨X.1, X.2.1, X.2.2.1, X.2.2.2.1, hts⟩ (hM H.size) (vx_cwSW n hts hGI rfl rfl rfl ⟨k7, k8, k9⟩ hR) ⟨Pcy.blind, pre_y (locs := locs) X hE hP hD hS isC hC hnC _⟩ rfl hn hl.1 rfl (lv_room hcat) hdg hf)) X.2.2.2.2.2.2.1 hP hD hS hl isC isR hC hRw hnR hdis kk
end ZCB
end
section
/-! the class's hole, row: an answer or a throw -/
abbrev cL_law : ByteArray := code
abbrev cL_hole : ByteArray := method_3_code
def yL_hole : MethodName := ⟨RL, "hole", "(LStoneThatShakes;II[J)I"⟩
abbrev cL_row : ByteArray := method_4_code
def yL_row : MethodName := ⟨RL, "row", "(LStoneThatShakes;I[J)I"⟩
abbrev hL_hole : List (Nat × Nat × Nat × Nat) := [(0, 10, 13, 13)]
abbrev hL_row : List (Nat × Nat × Nat × Nat) := [(0, 8, 11, 13)]
theorem cl_L_13 : Cond.classLink RL 13 NSE ∈ BIG := big_5 (List.mem_of_getElem? (i := 123) rfl) rfl
theorem k_L_38 : LkSW RL 38 yL_hole cL_hole 5 (some .int) hL_hole 4 := ⟨big_5 (List.mem_of_getElem? (i := 120) rfl) rfl, big_5 (List.mem_of_getElem? (i := 121) rfl) rfl, big_1 (List.mem_of_getElem? (i := 0) rfl) rfl, big_5 (List.mem_of_getElem? (i := 122) rfl) rfl, by decide, by decide, by decide⟩
theorem k_L_228 : LkSW RL 228 yL_row cL_row 4 (some .int) hL_row 3 := ⟨big_5 (List.mem_of_getElem? (i := 195) rfl) rfl, big_5 (List.mem_of_getElem? (i := 196) rfl) rfl, big_1 (List.mem_of_getElem? (i := 0) rfl) rfl, big_5 (List.mem_of_getElem? (i := 197) rfl) rfl, by decide, by decide, by decide⟩
theorem d_ho_0 : decode cX10_hole 0 = .ok (.aload_n 0, 1) := by decide +kernel
theorem d_ho_1 : decode cX10_hole 1 = .ok (.getfield 26, 3) := by decide +kernel
theorem d_ho_4 : decode cX10_hole 4 = .ok (.iload_n 1, 1) := by decide +kernel
theorem d_ho_5 : decode cX10_hole 5 = .ok (.invokevirtual 106, 3) := by decide +kernel
theorem d_ho_8 : decode cX10_hole 8 = .ok (.ifCond .ne 13, 3) := by decide +kernel
theorem d_ho_11 : decode cX10_hole 11 = .ok (.new 109, 3) := by decide +kernel
theorem d_ho_14 : decode cX10_hole 14 = .ok (.dup, 1) := by decide +kernel
theorem d_ho_15 : decode cX10_hole 15 = .ok (.ldc 111, 2) := by decide +kernel
theorem d_ho_17 : decode cX10_hole 17 = .ok (.invokespecial 113, 3) := by decide +kernel
theorem d_ho_20 : decode cX10_hole 20 = .ok (.athrow, 1) := by decide +kernel
theorem d_ho_21 : decode cX10_hole 21 = .ok (.iload_n 2, 1) := by decide +kernel
theorem d_ho_22 : decode cX10_hole 22 = .ok (.tableswitch 98 0 5 #[38, 48, 58, 68, 78, 88], 38) := by decide +kernel
theorem d_ho_60 : decode cX10_hole 60 = .ok (.aload_n 0, 1) := by decide +kernel
theorem d_ho_61 : decode cX10_hole 61 = .ok (.getfield 26, 3) := by decide +kernel
theorem d_ho_64 : decode cX10_hole 64 = .ok (.getfield 116, 3) := by decide +kernel
theorem d_ho_67 : decode cX10_hole 67 = .ok (.iload_n 1, 1) := by decide +kernel
theorem d_ho_68 : decode cX10_hole 68 = .ok (.iaload, 1) := by decide +kernel
theorem d_ho_69 : decode cX10_hole 69 = .ok (.ireturn, 1) := by decide +kernel
theorem d_ho_70 : decode cX10_hole 70 = .ok (.aload_n 0, 1) := by decide +kernel
theorem d_ho_71 : decode cX10_hole 71 = .ok (.getfield 26, 3) := by decide +kernel
theorem d_ho_74 : decode cX10_hole 74 = .ok (.getfield 119, 3) := by decide +kernel
theorem d_ho_77 : decode cX10_hole 77 = .ok (.iload_n 1, 1) := by decide +kernel
theorem d_ho_78 : decode cX10_hole 78 = .ok (.iaload, 1) := by decide +kernel
theorem d_ho_79 : decode cX10_hole 79 = .ok (.ireturn, 1) := by decide +kernel
theorem d_ho_80 : decode cX10_hole 80 = .ok (.aload_n 0, 1) := by decide +kernel
theorem d_ho_81 : decode cX10_hole 81 = .ok (.getfield 26, 3) := by decide +kernel
theorem d_ho_84 : decode cX10_hole 84 = .ok (.getfield 122, 3) := by decide +kernel
theorem d_ho_87 : decode cX10_hole 87 = .ok (.iload_n 1, 1) := by decide +kernel
theorem d_ho_88 : decode cX10_hole 88 = .ok (.iaload, 1) := by decide +kernel
theorem d_ho_89 : decode cX10_hole 89 = .ok (.ireturn, 1) := by decide +kernel
theorem d_ho_90 : decode cX10_hole 90 = .ok (.aload_n 0, 1) := by decide +kernel
theorem d_ho_91 : decode cX10_hole 91 = .ok (.getfield 26, 3) := by decide +kernel
theorem d_ho_94 : decode cX10_hole 94 = .ok (.getfield 125, 3) := by decide +kernel
theorem d_ho_97 : decode cX10_hole 97 = .ok (.iload_n 1, 1) := by decide +kernel
theorem d_ho_98 : decode cX10_hole 98 = .ok (.iaload, 1) := by decide +kernel
theorem d_ho_99 : decode cX10_hole 99 = .ok (.ireturn, 1) := by decide +kernel
theorem d_ho_100 : decode cX10_hole 100 = .ok (.aload_n 0, 1) := by decide +kernel
theorem d_ho_101 : decode cX10_hole 101 = .ok (.getfield 26, 3) := by decide +kernel
theorem d_ho_104 : decode cX10_hole 104 = .ok (.getfield 128, 3) := by decide +kernel
theorem d_ho_107 : decode cX10_hole 107 = .ok (.iload_n 1, 1) := by decide +kernel
theorem d_ho_108 : decode cX10_hole 108 = .ok (.iaload, 1) := by decide +kernel
theorem d_ho_109 : decode cX10_hole 109 = .ok (.ireturn, 1) := by decide +kernel
theorem d_ho_110 : decode cX10_hole 110 = .ok (.aload_n 0, 1) := by decide +kernel
theorem d_ho_111 : decode cX10_hole 111 = .ok (.getfield 26, 3) := by decide +kernel
theorem d_ho_114 : decode cX10_hole 114 = .ok (.getfield 131, 3) := by decide +kernel
theorem d_ho_117 : decode cX10_hole 117 = .ok (.iload_n 1, 1) := by decide +kernel
theorem d_ho_118 : decode cX10_hole 118 = .ok (.iaload, 1) := by decide +kernel
theorem d_ho_119 : decode cX10_hole 119 = .ok (.ireturn, 1) := by decide +kernel
theorem d_ho_120 : decode cX10_hole 120 = .ok (.new 109, 3) := by decide +kernel
theorem d_ho_123 : decode cX10_hole 123 = .ok (.dup, 1) := by decide +kernel
theorem d_ho_124 : decode cX10_hole 124 = .ok (.ldc 134, 2) := by decide +kernel
theorem d_ho_126 : decode cX10_hole 126 = .ok (.invokespecial 113, 3) := by decide +kernel
theorem d_ho_129 : decode cX10_hole 129 = .ok (.athrow, 1) := by decide +kernel
theorem d_ro_0 : decode cX10_row 0 = .ok (.iload_n 1, 1) := by decide +kernel
theorem d_ro_1 : decode cX10_row 1 = .ok (.ifCond .lt 14, 3) := by decide +kernel
theorem d_ro_4 : decode cX10_row 4 = .ok (.iload_n 1, 1) := by decide +kernel
theorem d_ro_5 : decode cX10_row 5 = .ok (.aload_n 0, 1) := by decide +kernel
theorem d_ro_6 : decode cX10_row 6 = .ok (.getfield 12, 3) := by decide +kernel
theorem d_ro_9 : decode cX10_row 9 = .ok (.getfield 492, 3) := by decide +kernel
theorem d_ro_12 : decode cX10_row 12 = .ok (.if_icmp .lt 14, 3) := by decide +kernel
theorem d_ro_15 : decode cX10_row 15 = .ok (.new 109, 3) := by decide +kernel
theorem d_ro_18 : decode cX10_row 18 = .ok (.dup, 1) := by decide +kernel
theorem d_ro_19 : decode cX10_row 19 = .ok (.ldc_w 496, 3) := by decide +kernel
theorem d_ro_22 : decode cX10_row 22 = .ok (.invokespecial 113, 3) := by decide +kernel
theorem d_ro_25 : decode cX10_row 25 = .ok (.athrow, 1) := by decide +kernel
theorem d_ro_26 : decode cX10_row 26 = .ok (.aload_n 0, 1) := by decide +kernel
theorem d_ro_27 : decode cX10_row 27 = .ok (.getfield 12, 3) := by decide +kernel
theorem d_ro_30 : decode cX10_row 30 = .ok (.getfield 498, 3) := by decide +kernel
theorem d_ro_33 : decode cX10_row 33 = .ok (.iload_n 1, 1) := by decide +kernel
theorem d_ro_34 : decode cX10_row 34 = .ok (.laload, 1) := by decide +kernel
theorem d_ro_35 : decode cX10_row 35 = .ok (.lreturn, 1) := by decide +kernel
theorem d_lh_0 : decode cL_hole 0 = .ok (.aload_n 3, 1) := by decide +kernel
theorem d_lh_1 : decode cL_hole 1 = .ok (.iconst 0, 1) := by decide +kernel
theorem d_lh_2 : decode cL_hole 2 = .ok (.aload_n 0, 1) := by decide +kernel
theorem d_lh_3 : decode cL_hole 3 = .ok (.iload_n 1, 1) := by decide +kernel
theorem d_lh_4 : decode cL_hole 4 = .ok (.iload_n 2, 1) := by decide +kernel
theorem d_lh_5 : decode cL_hole 5 = .ok (.invokevirtual 7, 3) := by decide +kernel
theorem d_lh_8 : decode cL_hole 8 = .ok (.i2l, 1) := by decide +kernel
theorem d_lh_9 : decode cL_hole 9 = .ok (.lastore, 1) := by decide +kernel
theorem d_lh_10 : decode cL_hole 10 = .ok (.goto 7, 3) := by decide +kernel
theorem d_lh_13 : decode cL_hole 13 = .ok (.astore 4, 2) := by decide +kernel
theorem d_lh_15 : decode cL_hole 15 = .ok (.iconst 1, 1) := by decide +kernel
theorem d_lh_16 : decode cL_hole 16 = .ok (.ireturn, 1) := by decide +kernel
theorem d_lh_17 : decode cL_hole 17 = .ok (.iconst 0, 1) := by decide +kernel
theorem d_lh_18 : decode cL_hole 18 = .ok (.ireturn, 1) := by decide +kernel
theorem d_lr_0 : decode cL_row 0 = .ok (.aload_n 2, 1) := by decide +kernel
theorem d_lr_1 : decode cL_row 1 = .ok (.iconst 0, 1) := by decide +kernel
theorem d_lr_2 : decode cL_row 2 = .ok (.aload_n 0, 1) := by decide +kernel
theorem d_lr_3 : decode cL_row 3 = .ok (.iload_n 1, 1) := by decide +kernel
theorem d_lr_4 : decode cL_row 4 = .ok (.invokevirtual 15, 3) := by decide +kernel
theorem d_lr_7 : decode cL_row 7 = .ok (.lastore, 1) := by decide +kernel
theorem d_lr_8 : decode cL_row 8 = .ok (.goto 6, 3) := by decide +kernel
theorem d_lr_11 : decode cL_row 11 = .ok (.astore_n 3, 1) := by decide +kernel
theorem d_lr_12 : decode cL_row 12 = .ok (.iconst 1, 1) := by decide +kernel
theorem d_lr_13 : decode cL_row 13 = .ok (.ireturn, 1) := by decide +kernel
theorem d_lr_14 : decode cL_row 14 = .ok (.iconst 0, 1) := by decide +kernel
theorem d_lr_15 : decode cL_row 15 = .ok (.ireturn, 1) := by decide +kernel
abbrev rm_h : Room := { frames := 6, cells := 1, slots := 6, locals := 82 }
def Wsame (G : KG) (ad : Nat → Nat) (w0 : va_W) : va_W → Prop := fun w1 => WT G ad TX w1 ∧ FRM [] w0 w1
theorem cu_hole (l : Launch) (hst : l.stackTraces = false) (G : KG) {ad : Nat → Nat} {w0 : va_W} (hW : WT G ad TX w0) (i k : Int32) : CtU l G yX10_hole cX10_hole 3 (some .int) rm_h [.ref (ad 0), .int i, .int k] w0 (fun r w1 => (∃ v : Int32, r = some (.int v)) ∧ Wsame G ad w0 w1) (Wsame G ad w0) := by
  refine ctU_of [(0, .ref (ad 0)), (1, .int i), (2, .int k)] (by decide) (Nat.le_of_ble_eq_true rfl) rfl ?_
  intro p e s m args below meth c A X hE hno
  refine z_aload_n X d_ho_0 rfl 0 rfl ?_
  refine hget (T := TX) X hW (idx := 26) (fld_10_ok _ (by decide : (26, 10, 2) ∈ fld_10)) d_ho_1 rfl (fget_ref hW rfl rfl) ?_
  refine z_iload_n X d_ho_4 rfl 1 rfl ?_
  obtain ⟨μ, hμ⟩ : ∃ q : Nat → Value, q = fun k => if k = 0 then .ref (ad 5) else .int i := ⟨_, rfl⟩
  have m0 : μ 0 = .ref (ad 5) := by rw [hμ]; rfl
  have m1 : μ 1 = .int i := by rw [hμ]; rfl
  have hpre : PRE ad C_X5_isHole_0 μ w0 := by
    refine ⟨fun k t hk => ?_, fun k q hk => ?_, fun q hq => ?_⟩
    · match k, hk with
      | 0, hk => cases hk; rw [m0]; exact Or.inr (Or.inr (Or.inl ⟨rfl, rfl⟩))
      | 1, hk => cases hk; rw [m1]; exact vty_i0 _
      | N + 2, hk => cases hk
    · cases hk
    · cases hq
  have hct := ac_X5_isHole_0 l G ad w0 μ hW hpre
  have e0 : (List.range C_X5_isHole_0.1.length).map μ = [.ref (ad 5), .int i] := by show [μ 0, μ 1] = _; rw [m0, m1]
  rw [e0] at hct
  refine hcallV (T := TX) (k := 5) (rest := []) (avs := [.int i]) X k_10_106 hct d_ho_5 hW rfl rfl rfl rfl ⟨by decide, by decide⟩ ⟨by decide, by decide⟩ (by decide) rfl (fun r w1 hp => ?_)
  obtain ⟨A1, hA1, μ2, q1, -, q3, q4, -, -, q7, q8⟩ := hp
  have hRw : Wsame G ad w0 w1 := ⟨q7, q8⟩
  have hv : ∃ v : Int32, r = some (.int v) ∧ (v.toInt ≠ 0 → 0 ≤ i.toInt ∧ i.toInt ≤ 15) := by
    have hA1 : A1 ∈ [_, _] := hA1
    rcases List.mem_cons.mp hA1 with e | hA1
    · subst e
      obtain ⟨r1, r2⟩ := q3
      obtain ⟨v, ev, v0, v1⟩ := vty0 r2 rfl
      have v0 : (0 : Int) ≤ v.toInt := v0
      have v1 : v.toInt ≤ 0 := v1
      exact ⟨v, by rw [r1, ev], fun h => absurd (show v.toInt = 0 by omega) h⟩
    · have e := List.mem_singleton.mp hA1
      subst e
      obtain ⟨r1, r2⟩ := q3
      obtain ⟨v, ev, -⟩ := vty0 r2 rfl
      have h5 := q4 (1, (0, 0, 15)) (by decide)
      have h5 : vty ad (0, 0, 15) (μ2 1) := h5
      rw [q1 1 (by decide), m1] at h5
      obtain ⟨x, ex, x0, x1⟩ := vty0 h5 rfl
      have ex : i = x := by injection ex
      subst ex
      exact ⟨v, by rw [r1, ev], fun _ => ⟨x0, x1⟩⟩
  obtain ⟨v, rfl, hvi⟩ := hv
  refine zi_ne X d_ho_8 (tgt := 21) (by decide) (a := v.toInt) rfl (fun hne => ?_) (fun _ => ?_)
  rotate_left
  · exact z_throwU hRw X hE hst hno hE.2.2.2.2.1 d_ho_11 d_ho_14 d_ho_15 d_ho_17 d_ho_20 ⟨by decide, by decide, by decide, by decide⟩ ⟨by decide, by decide⟩
  obtain ⟨i0, i1⟩ := hvi hne
  have vi : vp_in i 16 := vp_of i0 (by omega)
  refine z_iload_n X d_ho_21 rfl 2 rfl ?_
  rcases (by omega : (k.toInt < 0 ∨ 5 < k.toInt) ∨ k.toInt = 0 ∨ k.toInt = 1 ∨ k.toInt = 2 ∨ k.toInt = 3 ∨ k.toInt = 4 ∨ k.toInt = 5) with hk | hk | hk | hk | hk | hk | hk
  · refine z_tableOut X d_ho_22 hk (tgt := 120) (by decide) ?_
    exact z_throwU hRw X hE hst hno hE.2.2.2.2.2.1 d_ho_120 d_ho_123 d_ho_124 d_ho_126 d_ho_129 ⟨by decide, by decide, by decide, by decide⟩ ⟨by decide, by decide⟩
  · refine z_tableIn X d_ho_22 (by rw [hk]; decide) (by rw [hk]; decide) (off := 38) (tgt := 60) (by rw [hk]; rfl) (by decide) ?_
    obtain ⟨f, hf, -⟩ := WT.ints (T := TX) (k := 6) (n := 16) q7 rfl
    refine z_aload_n X d_ho_60 rfl 0 rfl ?_
    refine hget (T := TX) X q7 (idx := 26) (fld_10_ok _ (by decide : (26, 10, 2) ∈ fld_10)) d_ho_61 rfl (fget_ref q7 rfl rfl) ?_
    refine hget (T := TX) X q7 (idx := 116) (fld_10_ok _ (by decide : (116, 5, 1) ∈ fld_10)) d_ho_64 rfl (fget_ref q7 rfl rfl) ?_
    refine z_iload_n X d_ho_67 rfl 1 rfl ?_
    refine z_iald X d_ho_68 6 (hf) (vi) rfl ?_
    exact z_lift (z_iret X rfl d_ho_69 (Nat.zero_le _) (Nat.zero_le _) ⟨⟨_, rfl⟩, hRw⟩)
  · refine z_tableIn X d_ho_22 (by rw [hk]; decide) (by rw [hk]; decide) (off := 48) (tgt := 70) (by rw [hk]; rfl) (by decide) ?_
    obtain ⟨f, hf, -⟩ := WT.ints (T := TX) (k := 7) (n := 16) q7 rfl
    refine z_aload_n X d_ho_70 rfl 0 rfl ?_
    refine hget (T := TX) X q7 (idx := 26) (fld_10_ok _ (by decide : (26, 10, 2) ∈ fld_10)) d_ho_71 rfl (fget_ref q7 rfl rfl) ?_
    refine hget (T := TX) X q7 (idx := 119) (fld_10_ok _ (by decide : (119, 5, 2) ∈ fld_10)) d_ho_74 rfl (fget_ref q7 rfl rfl) ?_
    refine z_iload_n X d_ho_77 rfl 1 rfl ?_
    refine z_iald X d_ho_78 7 (hf) (vi) rfl ?_
    exact z_lift (z_iret X rfl d_ho_79 (Nat.zero_le _) (Nat.zero_le _) ⟨⟨_, rfl⟩, hRw⟩)
  · refine z_tableIn X d_ho_22 (by rw [hk]; decide) (by rw [hk]; decide) (off := 58) (tgt := 80) (by rw [hk]; rfl) (by decide) ?_
    obtain ⟨f, hf, -⟩ := WT.ints (T := TX) (k := 8) (n := 16) q7 rfl
    refine z_aload_n X d_ho_80 rfl 0 rfl ?_
    refine hget (T := TX) X q7 (idx := 26) (fld_10_ok _ (by decide : (26, 10, 2) ∈ fld_10)) d_ho_81 rfl (fget_ref q7 rfl rfl) ?_
    refine hget (T := TX) X q7 (idx := 122) (fld_10_ok _ (by decide : (122, 5, 3) ∈ fld_10)) d_ho_84 rfl (fget_ref q7 rfl rfl) ?_
    refine z_iload_n X d_ho_87 rfl 1 rfl ?_
    refine z_iald X d_ho_88 8 (hf) (vi) rfl ?_
    exact z_lift (z_iret X rfl d_ho_89 (Nat.zero_le _) (Nat.zero_le _) ⟨⟨_, rfl⟩, hRw⟩)
  · refine z_tableIn X d_ho_22 (by rw [hk]; decide) (by rw [hk]; decide) (off := 68) (tgt := 90) (by rw [hk]; rfl) (by decide) ?_
    obtain ⟨f, hf, -⟩ := WT.ints (T := TX) (k := 9) (n := 16) q7 rfl
    refine z_aload_n X d_ho_90 rfl 0 rfl ?_
    refine hget (T := TX) X q7 (idx := 26) (fld_10_ok _ (by decide : (26, 10, 2) ∈ fld_10)) d_ho_91 rfl (fget_ref q7 rfl rfl) ?_
    refine hget (T := TX) X q7 (idx := 125) (fld_10_ok _ (by decide : (125, 5, 4) ∈ fld_10)) d_ho_94 rfl (fget_ref q7 rfl rfl) ?_
    refine z_iload_n X d_ho_97 rfl 1 rfl ?_
    refine z_iald X d_ho_98 9 (hf) (vi) rfl ?_
    exact z_lift (z_iret X rfl d_ho_99 (Nat.zero_le _) (Nat.zero_le _) ⟨⟨_, rfl⟩, hRw⟩)
  · refine z_tableIn X d_ho_22 (by rw [hk]; decide) (by rw [hk]; decide) (off := 78) (tgt := 100) (by rw [hk]; rfl) (by decide) ?_
    obtain ⟨f, hf, -⟩ := WT.ints (T := TX) (k := 10) (n := 16) q7 rfl
    refine z_aload_n X d_ho_100 rfl 0 rfl ?_
    refine hget (T := TX) X q7 (idx := 26) (fld_10_ok _ (by decide : (26, 10, 2) ∈ fld_10)) d_ho_101 rfl (fget_ref q7 rfl rfl) ?_
    refine hget (T := TX) X q7 (idx := 128) (fld_10_ok _ (by decide : (128, 5, 5) ∈ fld_10)) d_ho_104 rfl (fget_ref q7 rfl rfl) ?_
    refine z_iload_n X d_ho_107 rfl 1 rfl ?_
    refine z_iald X d_ho_108 10 (hf) (vi) rfl ?_
    exact z_lift (z_iret X rfl d_ho_109 (Nat.zero_le _) (Nat.zero_le _) ⟨⟨_, rfl⟩, hRw⟩)
  · refine z_tableIn X d_ho_22 (by rw [hk]; decide) (by rw [hk]; decide) (off := 88) (tgt := 110) (by rw [hk]; rfl) (by decide) ?_
    obtain ⟨f, hf, -⟩ := WT.ints (T := TX) (k := 11) (n := 16) q7 rfl
    refine z_aload_n X d_ho_110 rfl 0 rfl ?_
    refine hget (T := TX) X q7 (idx := 26) (fld_10_ok _ (by decide : (26, 10, 2) ∈ fld_10)) d_ho_111 rfl (fget_ref q7 rfl rfl) ?_
    refine hget (T := TX) X q7 (idx := 131) (fld_10_ok _ (by decide : (131, 5, 6) ∈ fld_10)) d_ho_114 rfl (fget_ref q7 rfl rfl) ?_
    refine z_iload_n X d_ho_117 rfl 1 rfl ?_
    refine z_iald X d_ho_118 11 (hf) (vi) rfl ?_
    exact z_lift (z_iret X rfl d_ho_119 (Nat.zero_le _) (Nat.zero_le _) ⟨⟨_, rfl⟩, hRw⟩)
theorem cu_row (l : Launch) (hst : l.stackTraces = false) (G : KG) {ad : Nat → Nat} {w0 : va_W} (hW : WT G ad TX w0) (i : Int32) : CtU l G yX10_row cX10_row 2 (some .long) rm_h [.ref (ad 0), .int i] w0 (fun r w1 => (∃ v : Int64, r = some (.long v)) ∧ Wsame G ad w0 w1) (Wsame G ad w0) := by
  refine ctU_of [(0, .ref (ad 0)), (1, .int i)] (by decide) (Nat.le_of_ble_eq_true rfl) rfl ?_
  intro p e s m args below meth c A X hE hno
  have hRw : Wsame G ad w0 w0 := ⟨hW, rfl, fun _ _ _ => rfl⟩
  obtain ⟨n, hn, n0, n1⟩ := fget_int (T := TX) (k := 1) (j := 1) hW rfl rfl
  have thr : ∀ (lw : List (Nat × Value)), Z p l e rm_h s m args below meth c 2 G A (vx_MQ below (QQ G A (fun r w1 => (∃ v : Int64, r = some (.long v)) ∧ Wsame G ad w0 w1)) (XCp G (Wsame G ad w0) A) args s rm_h.cells rm_h.slots A) 15 lw [] w0 0 0 := fun lw => z_throwWU hRw X hE hst hno hE.2.2.2.2.2.2 d_ro_15 d_ro_18 d_ro_19 d_ro_22 d_ro_25 ⟨by decide, by decide, by decide, by decide⟩ ⟨by decide, by decide⟩
  refine z_iload_n X d_ro_0 rfl 1 rfl ?_
  refine zi_lt X d_ro_1 (tgt := 15) (by decide) (a := i.toInt) rfl (fun _ => thr _) (fun i0 => ?_)
  refine z_iload_n X d_ro_4 rfl 1 rfl ?_
  refine z_aload_n X d_ro_5 rfl 0 rfl ?_
  refine hget (T := TX) X hW (idx := 12) (fld_10_ok _ (by decide : (12, 10, 0) ∈ fld_10)) d_ro_6 rfl (fget_ref hW rfl rfl) ?_
  refine hget (T := TX) X hW (idx := 492) (fld_10_ok _ (by decide : (492, 8, 1) ∈ fld_10)) d_ro_9 rfl (hn) ?_
  refine zc_lt X d_ro_12 (tgt := 26) (by decide) (a := i.toInt) (b := n.toInt) rfl rfl (fun hlt => ?_) (fun _ => thr _)
  have vi : vp_in i 16 := vp_of i0 (by omega)
  obtain ⟨e1, h1, h2⟩ := hW.arr (k := 2) rfl
  obtain ⟨f, rfl⟩ : ∃ f : Nat → Int64, e1 = aJ G 16 f := by
    rcases h2 with ⟨h9, -⟩ | ⟨-, f, rfl⟩ | ⟨h9, -⟩ | ⟨h9, -⟩
    · exact absurd h9 (by decide)
    · exact ⟨f, rfl⟩
    · exact absurd h9 (by decide)
    · exact absurd h9 (by decide)
  refine z_aload_n X d_ro_26 rfl 0 rfl ?_
  refine hget (T := TX) X hW (idx := 12) (fld_10_ok _ (by decide : (12, 10, 0) ∈ fld_10)) d_ro_27 rfl (fget_ref hW rfl rfl) ?_
  refine hget (T := TX) X hW (idx := 498) (fld_10_ok _ (by decide : (498, 8, 0) ∈ fld_10)) d_ro_30 rfl (fget_ref hW rfl rfl) ?_
  refine z_iload_n X d_ro_33 rfl 1 rfl ?_
  refine z_lald X d_ro_34 2 (h1) (vi) rfl ?_
  exact z_lift (z_lret X rfl d_ro_35 (Nat.zero_le _) (Nat.zero_le _) ⟨⟨_, rfl⟩, hRw⟩)
/-- behind the law's own calls of hole and row -/
def LHpo (G : KG) (ad : Nat → Nat) (w0 : va_W) (oa : Nat) : Option Value → va_W → Prop := fun r w => (∃ v : Int32, r = some (.int v)) ∧ ∃ (f : Nat → Int64) (w1 : va_W), w = [(oa, aJ G 1 f)] ++ w1 ∧ Wsame G ad w0 w1
theorem isc {w0 : va_W} {x : Nat × va_E} (hl : w0.length = 109) : (List.range 109).map (fun i => (w0 ++ [x])[i]?) = w0.map some := by
  have h9 := range_pick w0
  rw [hl] at h9
  rw [← h9]
  refine List.map_congr_left (fun i hi => ?_)
  have := List.mem_range.mp hi
  exact List.getElem?_append_left (by omega)
theorem isr {w0 : va_W} {x : Nat × va_E} (hl : w0.length = 109) : [109].map (fun i => (w0 ++ [x])[i]?) = [x].map some := by
  show [(w0 ++ [x])[109]?] = _
  rw [List.getElem?_append_right (by omega), hl]
  rfl
theorem cl_hole (l : Launch) (hst : l.stackTraces = false) (G : KG) {ad : Nat → Nat} {w0 : va_W} (hW : WT G ad TX w0) (hl : w0.length = 109) (i k : Int32) (oa : Nat) (f : Nat → Int64) : CtW l G yL_hole cL_hole 5 (some .int) hL_hole { frames := 7, cells := 1, slots := 6, locals := 104 } [.ref (ad 0), .int i, .int k, .ref oa] (w0 ++ [(oa, aJ G 1 f)]) (LHpo G ad w0 oa) := by
  refine ctW_of [(0, .ref (ad 0)), (1, .int i), (2, .int k), (3, .ref oa)] (by decide) (Nat.le_of_ble_eq_true rfl) rfl ?_
  intro p e s m args below meth c A X hE htab
  obtain ⟨en, w1, fs, rfl, -⟩ := hW.2.1 0 _ rfl
  refine z_aload_n X d_lh_0 rfl 3 rfl ?_
  refine z_iconst X d_lh_1 (v := 0) (by decide) ?_
  refine z_aload_n X d_lh_2 rfl 0 rfl ?_
  refine z_iload_n X d_lh_3 rfl 1 rfl ?_
  refine z_iload_n X d_lh_4 rfl 2 rfl ?_
  refine z_catchU X hE k_L_7 (cu_hole l hst G hW i k) d_lh_5 0 (by rw [List.getElem?_append_left (by omega)]; exact w1) rfl rfl ⟨Nat.le_of_ble_eq_true rfl, Nat.le_of_ble_eq_true rfl⟩ ⟨Nat.le_of_ble_eq_true rfl, Nat.le_of_ble_eq_true rfl⟩ rfl (rest := [.int 0, .ref oa]) (As := [.int i, .int k]) rfl (Nat.le_of_ble_eq_true rfl) (List.range 109) [109] (isc hl) (va_nd_range _) (wr := [(oa, aJ G 1 f)]) (isr hl) (by decide) (by decide) ⟨0, 10, 13, 13⟩ htab (by decide) (by decide) cl_L_13 (fun r w2 hp => ?_) (fun q9 w2 hp => ?_)
  · obtain ⟨⟨v, rfl⟩, hs⟩ := hp
    refine z_i2l X d_lh_8 rfl ?_
    refine z_last X d_lh_9 0 rfl (n := 1) (vp_of (by decide) (by decide)) rfl ?_
    refine z_goto X d_lh_10 (tgt := 17) (by decide) ?_
    refine z_iconst X d_lh_17 (v := 0) (by decide) ?_
    exact z_iret X rfl d_lh_18 (Nat.le_refl _) (Nat.le_refl _) ⟨⟨_, rfl⟩, _, w2, rfl, hs⟩
  · skip
    refine z_astore X d_lh_13 (by decide) (lv' := [(4, .ref (q9)), (0, .ref (ad 0)), (1, .int (i)), (2, .int (k)), (3, .ref (oa))]) rfl ?_
    refine z_iconst X d_lh_15 (v := 1) (by decide) ?_
    exact z_iret X rfl d_lh_16 (Nat.le_refl _) (Nat.le_refl _) ⟨⟨_, rfl⟩, f, w2, rfl, hp⟩
theorem cl_row (l : Launch) (hst : l.stackTraces = false) (G : KG) {ad : Nat → Nat} {w0 : va_W} (hW : WT G ad TX w0) (hl : w0.length = 109) (i : Int32) (oa : Nat) (f : Nat → Int64) : CtW l G yL_row cL_row 4 (some .int) hL_row { frames := 7, cells := 1, slots := 6, locals := 103 } [.ref (ad 0), .int i, .ref oa] (w0 ++ [(oa, aJ G 1 f)]) (LHpo G ad w0 oa) := by
  refine ctW_of [(0, .ref (ad 0)), (1, .int i), (2, .ref oa)] (by decide) (Nat.le_of_ble_eq_true rfl) rfl ?_
  intro p e s m args below meth c A X hE htab
  obtain ⟨en, w1, fs, rfl, -⟩ := hW.2.1 0 _ rfl
  refine z_aload_n X d_lr_0 rfl 2 rfl ?_
  refine z_iconst X d_lr_1 (v := 0) (by decide) ?_
  refine z_aload_n X d_lr_2 rfl 0 rfl ?_
  refine z_iload_n X d_lr_3 rfl 1 rfl ?_
  refine z_catchU X hE k_L_15 (cu_row l hst G hW i) d_lr_4 0 (by rw [List.getElem?_append_left (by omega)]; exact w1) rfl rfl ⟨Nat.le_of_ble_eq_true rfl, Nat.le_of_ble_eq_true rfl⟩ ⟨Nat.le_of_ble_eq_true rfl, Nat.le_of_ble_eq_true rfl⟩ rfl (rest := [.int 0, .ref oa]) (As := [.int i]) rfl (Nat.le_of_ble_eq_true rfl) (List.range 109) [109] (isc hl) (va_nd_range _) (wr := [(oa, aJ G 1 f)]) (isr hl) (by decide) (by decide) ⟨0, 8, 11, 13⟩ htab (by decide) (by decide) cl_L_13 (fun r w2 hp => ?_) (fun q9 w2 hp => ?_)
  · obtain ⟨⟨v, rfl⟩, hs⟩ := hp
    refine z_last X d_lr_7 0 rfl (n := 1) (vp_of (by decide) (by decide)) rfl ?_
    refine z_goto X d_lr_8 (tgt := 14) (by decide) ?_
    refine z_iconst X d_lr_14 (v := 0) (by decide) ?_
    exact z_iret X rfl d_lr_15 (Nat.le_refl _) (Nat.le_refl _) ⟨⟨_, rfl⟩, _, w2, rfl, hs⟩
  · skip
    refine z_astore_n X d_lr_11 rfl (by decide) (lv' := [(3, .ref (q9)), (0, .ref (ad 0)), (1, .int (i)), (2, .ref (oa))]) rfl ?_
    refine z_iconst X d_lr_12 (v := 1) (by decide) ?_
    exact z_iret X rfl d_lr_13 (Nat.le_refl _) (Nat.le_refl _) ⟨⟨_, rfl⟩, f, w2, rfl, hp⟩
end
section
/-! the law: a call of the middle part of a world -/
theorem sh_pick (a b c : va_W) : (List.range' a.length b.length).map (fun i => (a ++ b ++ c)[i]?) = b.map some := by
  refine List.ext_getElem (by simp) (fun i q1 q2 => ?_)
  have hi : i < b.length := by simpa using q2
  rw [List.getElem_map, List.getElem_range', List.getElem_map, List.append_assoc, List.getElem?_append_right (by omega), List.getElem?_append_left (by omega)]
  rw [show a.length + 1 * i - a.length = i by omega]
  exact List.getElem?_eq_getElem hi
theorem sh_rest (a b c : va_W) : (List.range a.length ++ List.range' (a.length + b.length) c.length).map (fun i => (a ++ b ++ c)[i]?) = (a ++ c).map some := by
  rw [List.map_append, List.map_append]
  congr 1
  · rw [← range_pick a]
    refine List.map_congr_left (fun i hi => ?_)
    have := List.mem_range.mp hi
    rw [List.append_assoc, List.getElem?_append_left this]
  · have h := sh_pick (a ++ b) c []
    rw [List.length_append, List.append_nil] at h
    exact h
theorem sh_nd (n m k : Nat) (h : n ≤ m) : va_nd (List.range n ++ List.range' m k) = true := by
  refine va_nd_of _ (List.nodup_append.mpr ⟨List.nodup_range, List.nodup_range' , fun x hx y hy => ?_⟩)
  have h1 := List.mem_range.mp hx
  have h2 := (List.mem_range'_1.mp hy).1
  omega
theorem sh_dis (n m k : Nat) : ((List.range n ++ List.range' (n + m) k).all fun i => decide (i ∉ List.range' n m)) = true := by
  refine List.all_eq_true.mpr (fun i hi => decide_eq_true (fun h => ?_))
  obtain ⟨h1, h2⟩ := List.mem_range'_1.mp h
  rcases List.mem_append.mp hi with h3 | h3
  · have := List.mem_range.mp h3; omega
  · have := (List.mem_range'_1.mp h3).1; omega
theorem sh_swap (a c b : va_W) : (List.range a.length ++ (List.range' (a.length + c.length) b.length ++ List.range' a.length c.length)).map (fun i => (a ++ c ++ b)[i]?) = (a ++ b ++ c).map some := by
  have h1 : (List.range a.length).map (fun i => (a ++ c ++ b)[i]?) = a.map some := by
    rw [← range_pick a]
    refine List.map_congr_left (fun i hi => ?_)
    have := List.mem_range.mp hi
    rw [List.append_assoc, List.getElem?_append_left this]
  have h2 : (List.range' (a.length + c.length) b.length).map (fun i => (a ++ c ++ b)[i]?) = b.map some := by
    have h := sh_pick (a ++ c) b []
    rw [List.length_append, List.append_nil] at h
    exact h
  have h3 := sh_pick a c b
  rw [List.map_append, List.map_append, h1, h2, h3, List.map_append, List.map_append, List.append_assoc]
theorem sh_swap_nd (n m k : Nat) : va_nd (List.range n ++ (List.range' (n + m) k ++ List.range' n m)) = true := by
  refine va_nd_of _ (List.nodup_append.mpr ⟨List.nodup_range, List.nodup_append.mpr ⟨List.nodup_range', List.nodup_range', fun x hx y hy => ?_⟩, fun x hx y hy => ?_⟩)
  · have h1 := (List.mem_range'_1.mp hx).1
    have h2 := (List.mem_range'_1.mp hy).2
    omega
  · have h1 := List.mem_range.mp hx
    rcases List.mem_append.mp hy with h | h
    · have := (List.mem_range'_1.mp h).1; omega
    · have := (List.mem_range'_1.mp h).1; omega
section LAW0
variable {p : Program} {l : Launch} {e : Env} {R : Room} {s : State} {m : MethodId} {args : Array Value} {below : List Frame} {meth : Method} {c : Code} {nL : Nat} {G : KG} {A : Nat → Prop} {Q : State → Prop} {cc : ByteArray} {own : String} {ret : Option FieldType} {nm : String} {kc ks pc : Nat} {lv : List (Nat × Value)} {st : List Value}
/-- the world, reordered -/
theorem Z.mid {wa wb wc : va_W} (lz : lv_pick lv (List.range lv.length) = lv) (h : Z p l e R s m args below meth c nL G A Q pc lv st (wa ++ wb ++ wc) kc ks) : Z p l e R s m args below meth c nL G A Q pc lv st (wa ++ wc ++ wb) kc ks :=
  Z.sub (List.range lv.length) lz _ (sh_swap wa wc wb) (sh_swap_nd _ _ _) h
theorem mid_callV {idx mx n : Nat} {Cn : String} {y : MethodName} {cy : ByteArray} {rt : Option FieldType} {rm : Room} {As rest : List Value} {post : Option Value → va_W → Prop} {wa wb wc : va_W} {b ci : Nat} {fs : List Value} {q : vw_C} (X : ZC p s m args meth c cc nL own G A ret nm) (K : LkV own idx Cn y cy mx rt n) (hM : Ct l G y cy mx rt rm (.ref b :: As) wb post) (hdg : decode cc pc = .ok (.invokevirtual idx, 3)) (he : wb[0]? = some (b, .inr (ci, fs))) (hc : vwCl[ci]? = some q) (hqC : q.1 = Cn) (hR : rm.frames + 1 ≤ R.frames ∧ 8 + (mx + 11) + rm.locals ≤ R.locals) (hf : kc + rm.cells ≤ R.cells ∧ ks + rm.slots ≤ R.slots) (hn : As.length = n) (hst : st = As.reverse ++ .ref b :: rest) (hcat : (rest.map fun v => v.category).sum ≤ 8) (lz : lv_pick lv (List.range lv.length) = lv)
    (kk : ∀ (r : Option Value) (w1 : va_W), post r w1 → Z p l e R s m args below meth c nL G A Q (pc + 3) lv (r.toList ++ rest) (wa ++ w1 ++ wc) (kc + rm.cells) (ks + rm.slots)) : Z p l e R s m args below meth c nL G A Q pc lv st (wa ++ wb ++ wc) kc ks := by
  have hlt : 0 < wb.length := (List.getElem?_eq_some_iff.mp he).1
  have he2 : (wa ++ wb ++ wc)[wa.length]? = some (b, .inr (ci, fs)) := by
    rw [List.append_assoc, List.getElem?_append_right (Nat.le_refl _), Nat.sub_self, List.getElem?_append_left hlt]
    exact he
  exact z_callV (wr := wa ++ wc) X K hM hdg wa.length he2 hc hqC hR hf hn hst hcat (List.range' wa.length wb.length) (List.range wa.length ++ List.range' (wa.length + wb.length) wc.length) (sh_pick wa wb wc) (va_nd_of _ List.nodup_range') (sh_rest wa wb wc) (sh_nd _ _ _ (Nat.le_add_right _ _)) (sh_dis _ _ _) (fun r w1 hp => Z.mid lz (kk r w1 hp))
end LAW0
end
section
/-! the law: the class's world, and a call of one of its methods -/
theorem nopfxX {G : KG} {ws : va_W} : PFX G TX ws := by
  intro k n t a f c i h1 h2 _ _ _
  have h9 : TX.all (fun te => match te with | .inr o => !(Nat.beq o.1 0) || Nat.ble o.2.2.1 1 | .inl _ => true) = true := by decide
  have h8 := List.all_eq_true.mp h9 _ (List.mem_of_getElem? h1)
  have h8 : Nat.ble t.1 1 = true := h8
  have := Nat.le_of_ble_eq_true h8
  omega
theorem TX_len {k : Nat} {te : TE} (h : TX[k]? = some te) : k < 109 := (List.getElem?_eq_some_iff.mp h).1
theorem TXP_len {k : Nat} {te : TE} (h : TXP[k]? = some te) : k < 116 := (List.getElem?_eq_some_iff.mp h).1
theorem wt_take {G : KG} {ad : Nat → Nat} {w : va_W} (hW : WT G ad TXP w) (hl : w.length = 116) : WT G ad TX (w.take 109) := by
  refine ⟨by rw [List.length_take, hl]; show 109 ≤ min 109 116; decide, fun k te hk => ?_, nopfxX⟩
  have hk9 := TX_len hk
  rw [List.getElem?_take_of_lt hk9]
  rcases Nat.eq_zero_or_pos k with h0 | h0
  · subst h0
    obtain ⟨en, e1, fs, f1, f2, f3⟩ := hW.2.1 0 _ rfl
    have hte := Option.some.inj hk
    refine ⟨en, e1, ?_⟩
    rw [← hte]
    refine ⟨fs, f1, f2, fun j t v g1 g2 => ?_⟩
    have g1' : fty TX[0]? j = some t := g1
    rcases Nat.decEq 15 j with hj | hj
    · have hlt : j < 16 := (List.getElem?_eq_some_iff.mp g1).1
      rw [fty_eq j hlt hj] at g1'
      exact f3 j t v g1' g2
    · subst hj
      have h5 := f3 15 (2, 109, 0) v rfl g2
      have g4 := Option.some.inj g1
      rw [← g4, vty2 h5 rfl]
      exact Or.inr (Or.inr (Or.inr ⟨rfl, Or.inr ⟨_, rfl⟩⟩))
  · rw [← TXP_eq hk9 h0] at hk
    exact hW.2.1 k _ hk
theorem wt_join {G : KG} {ad : Nat → Nat} {w w1 : va_W} (hW1 : WT G ad TX w1) (hl1 : w1.length = 109) (hp : fget w1 0 15 = some (.ref (ad 109))) (hW : WT G ad TXP w) (hl : w.length = 116) : WT G ad TXP (w1 ++ w.drop 109) := by
  refine ⟨by rw [List.length_append, List.length_drop, hl, hl1]; show 116 ≤ 109 + (116 - 109); decide, fun k te hk => ?_, nopfx⟩
  have hk9 := TXP_len hk
  rcases Nat.lt_or_ge k 109 with h | h
  · rw [List.getElem?_append_left (by omega)]
    rcases Nat.eq_zero_or_pos k with h0 | h0
    · subst h0
      obtain ⟨en, e1, fs, f1, f2, f3⟩ := hW1.2.1 0 _ rfl
      have hte := Option.some.inj hk
      refine ⟨en, e1, ?_⟩
      rw [← hte]
      refine ⟨fs, f1, f2, fun j t v g1 g2 => ?_⟩
      have g1' : fty TXP[0]? j = some t := g1
      rcases Nat.decEq 15 j with hj | hj
      · have hlt : j < 16 := (List.getElem?_eq_some_iff.mp g1).1
        rw [← fty_eq j hlt hj] at g1'
        exact f3 j t v g1' g2
      · subst hj
        have g4 := Option.some.inj g1
        rw [f1] at e1
        rw [fget_of e1, g2] at hp
        rw [← g4, Option.some.inj hp]
        exact Or.inr (Or.inr (Or.inl ⟨rfl, rfl⟩))
    · rw [TXP_eq h h0] at hk
      exact hW1.2.1 k _ hk
  · rw [List.getElem?_append_right (by omega), hl1, List.getElem?_drop, show 109 + (k - 109) = k by omega]
    exact hW.2.1 k _ hk
def RT (k : Nat) (r : Option Value) : Prop := (k = 9 ∧ r = none) ∨ (k = 0 ∧ ∃ v : Int32, r = some (.int v)) ∨ (k = 1 ∧ ∃ v : Int64, r = some (.long v))
def rtag : Option VT → Nat
  | none => 9
  | some t => t.1
theorem rt_of {G : KG} {ad : Nat → Nat} {T : List TE} {C : CE} {μ : Nat → Value} {w0 w1 : va_W} {r : Option Value} {k : Nat} (h : POST G ad T C μ w0 r w1) (hk : C.2.2.2.1.all (fun A => Nat.beq (rtag A.1) k) = true) (h2 : k = 9 ∨ k = 0 ∨ k = 1) : RT k r := by
  obtain ⟨A1, hA1, μ2, -, -, q3, -⟩ := h
  have h3 := Nat.eq_of_beq_eq_true (List.all_eq_true.mp hk A1 hA1)
  cases h4 : A1.1 with
  | none =>
    rw [h4] at h3 q3
    have h3 : 9 = k := h3
    exact Or.inl ⟨h3.symm, q3⟩
  | some t =>
    rw [h4] at h3 q3
    have h3 : t.1 = k := h3
    obtain ⟨r1, r2⟩ := q3
    rcases h2 with e | e | e
    · exfalso
      rcases r2 with ⟨h, -⟩ | ⟨h, -⟩ | ⟨h, -⟩ | ⟨h, -⟩ <;> omega
    · obtain ⟨x, ex, -⟩ := vty0 r2 (h3.trans e)
      exact Or.inr (Or.inl ⟨e, x, by rw [r1, ex]⟩)
    · obtain ⟨x, ex, -⟩ := vty1 r2 (h3.trans e)
      exact Or.inr (Or.inr ⟨e, x, by rw [r1, ex]⟩)
section LAW1
variable {p : Program} {l : Launch} {e : Env} {R : Room} {s : State} {m : MethodId} {args : Array Value} {below : List Frame} {meth : Method} {c : Code} {nL : Nat} {G : KG} {A : Nat → Prop} {Q : State → Prop} {cc : ByteArray} {own : String} {ret : Option FieldType} {nm : String} {kc ks pc : Nat} {lv : List (Nat × Value)} {st : List Value}
theorem cx_callV {idx mx n x k : Nat} {y : MethodName} {cy : ByteArray} {rt : Option FieldType} {C : CE} {As rest : List Value} {wx wc : va_W} (X : ZC p s m args meth c cc nL own G A ret nm) (K : LkV own idx RX10 y cy mx rt n) (hA : ACt l G TX y cy mx rt C) (hm : mkq C.2.2.2.2.1 0 15 = false) (hkr : C.2.2.2.1.all (fun A => Nat.beq (rtag A.1) k) = true) (hk3 : k = 9 ∨ k = 0 ∨ k = 1) (hw : CWx G x wx) (hpre : ∀ (ad : Nat → Nat) (w0 : va_W), ad 0 = x → ∃ μ, PRE ad C μ w0 ∧ (List.range C.1.length).map μ = .ref x :: As) (hdg : decode cc pc = .ok (.invokevirtual idx, 3)) (hR : C.2.2.2.2.2.1 + 1 ≤ R.frames ∧ 8 + (mx + 11) + C.2.2.2.2.2.2 ≤ R.locals) (hf : kc ≤ R.cells ∧ ks ≤ R.slots) (hn : As.length = n) (hst : st = As.reverse ++ .ref x :: rest) (hcat : (rest.map fun v => v.category).sum ≤ 8) (lz : lv_pick lv (List.range lv.length) = lv)
    (kk : ∀ (r : Option Value) (wx' : va_W), RT k r → CWx G x wx' → wx'.length = wx.length → Z p l e R s m args below meth c nL G A Q (pc + 3) lv (r.toList ++ rest) (wx' ++ wc) kc ks) : Z p l e R s m args below meth c nL G A Q pc lv st (wx ++ wc) kc ks := by
  obtain ⟨ad, e0, h⟩ := hw
  rcases h with ⟨hW, hl, hnull⟩ | ⟨hW, hl, hG⟩
  · obtain ⟨μ, h1, h2⟩ := hpre ad wx e0
    have hct := hA ad wx μ hW h1
    rw [h2] at hct
    obtain ⟨en, w1, fs, rfl, -⟩ := hW.2.1 0 _ rfl
    rw [e0] at w1
    refine mid_callV (wa := []) (wb := wx) (wc := wc) X K hct hdg w1 rfl rfl hR hf hn hst hcat lz (fun r w2 hp => ?_)
    have hrt := rt_of hp hkr hk3
    obtain ⟨-, -, μ2, -, -, -, -, -, -, q7, q8⟩ := hp
    exact kk r w2 hrt ⟨ad, e0, Or.inl ⟨q7, q8.1.trans hl, fget_frame q8 hm hnull⟩⟩ q8.1
  · have hWt := wt_take hW hl
    obtain ⟨μ, h1, h2⟩ := hpre ad (wx.take 109) e0
    have hct := hA ad (wx.take 109) μ hWt h1
    rw [h2] at hct
    obtain ⟨en, w1, fs, rfl, -⟩ := hWt.2.1 0 _ rfl
    rw [e0] at w1
    have ew : wx ++ wc = [] ++ wx.take 109 ++ (wx.drop 109 ++ wc) := by rw [List.nil_append, ← List.append_assoc, List.take_append_drop]
    rw [ew]
    refine mid_callV (wa := []) (wb := wx.take 109) (wc := wx.drop 109 ++ wc) X K hct hdg w1 rfl rfl hR hf hn hst hcat lz (fun r w2 hp => ?_)
    have hrt := rt_of hp hkr hk3
    obtain ⟨-, -, μ2, -, -, -, -, -, -, q7, q8⟩ := hp
    have hl2 : w2.length = 109 := by rw [q8.1, List.length_take, hl]; rfl
    have hpl : fget (wx.take 109) 0 15 = some (.ref (ad 109)) := by
      have h5 : fget wx 0 15 = some (.ref (ad 109)) := fget_ref hW rfl rfl
      unfold fget at h5 ⊢
      rw [List.getElem?_take_of_lt (by decide)]
      exact h5
    have hj := wt_join q7 hl2 (fget_frame q8 hm hpl) hW hl
    have hlj : (w2 ++ wx.drop 109).length = 116 := by rw [List.length_append, hl2, List.length_drop, hl]
    have hGj : GC G (w2 ++ wx.drop 109) := by
      obtain ⟨a, f, g1, g2⟩ := hG
      exact ⟨a, f, by rw [List.getElem?_append_right (by omega), hl2, List.getElem?_drop]; exact g1, g2⟩
    have h9 := kk r (w2 ++ wx.drop 109) hrt ⟨ad, e0, Or.inr ⟨hj, hlj, hGj⟩⟩ (hlj.trans hl.symm)
    rw [List.append_assoc] at h9
    exact h9
/-- the reference's world -/
def MWx (G : KG) (x : Nat) (w : va_W) : Prop := ∃ ad : Nat → Nat, ad 0 = x ∧ WT G ad TM w
theorem mx_callV {idx mx n x k : Nat} {y : MethodName} {cy : ByteArray} {rt : Option FieldType} {C : CE} {As rest : List Value} {wa wm wc : va_W} (X : ZC p s m args meth c cc nL own G A ret nm) (K : LkV own idx RX11 y cy mx rt n) (hA : ACt l G TM y cy mx rt C) (hkr : C.2.2.2.1.all (fun A => Nat.beq (rtag A.1) k) = true) (hk3 : k = 9 ∨ k = 0 ∨ k = 1) (hw : MWx G x wm) (hpre : ∀ (ad : Nat → Nat) (w0 : va_W), ad 0 = x → ∃ μ, PRE ad C μ w0 ∧ (List.range C.1.length).map μ = .ref x :: As) (hdg : decode cc pc = .ok (.invokevirtual idx, 3)) (hR : C.2.2.2.2.2.1 + 1 ≤ R.frames ∧ 8 + (mx + 11) + C.2.2.2.2.2.2 ≤ R.locals) (hf : kc ≤ R.cells ∧ ks ≤ R.slots) (hn : As.length = n) (hst : st = As.reverse ++ .ref x :: rest) (hcat : (rest.map fun v => v.category).sum ≤ 8) (lz : lv_pick lv (List.range lv.length) = lv)
    (kk : ∀ (r : Option Value) (wm' : va_W), RT k r → MWx G x wm' → Z p l e R s m args below meth c nL G A Q (pc + 3) lv (r.toList ++ rest) (wa ++ wm' ++ wc) kc ks) : Z p l e R s m args below meth c nL G A Q pc lv st (wa ++ wm ++ wc) kc ks := by
  obtain ⟨ad, e0, hW⟩ := hw
  obtain ⟨μ, h1, h2⟩ := hpre ad wm e0
  have hct := hA ad wm μ hW h1
  rw [h2] at hct
  obtain ⟨en, w1, fs, rfl, -⟩ := hW.2.1 0 _ rfl
  rw [e0] at w1
  refine mid_callV X K hct hdg w1 rfl rfl hR hf hn hst hcat lz (fun r w2 hp => ?_)
  have hrt := rt_of hp hkr hk3
  obtain ⟨-, -, μ2, -, -, -, -, -, -, q7, q8⟩ := hp
  exact kk r w2 hrt ⟨ad, e0, q7⟩
end LAW1
end
section
/-! the law: its own calls of hole and row -/
theorem sh_dis2 (n m k : Nat) : ((List.range' n m).all fun i => decide (i ∉ List.range n ++ List.range' (n + m) k)) = true := by
  refine List.all_eq_true.mpr (fun i hi => decide_eq_true (fun h => ?_))
  obtain ⟨h1, h2⟩ := List.mem_range'_1.mp hi
  rcases List.mem_append.mp h with h3 | h3
  · have := List.mem_range.mp h3; omega
  · have := (List.mem_range'_1.mp h3).1; omega
section LAW3
variable {p : Program} {l : Launch} {e : Env} {R : Room} {s : State} {m : MethodId} {args : Array Value} {below : List Frame} {meth : Method} {c : Code} {nL : Nat} {G : KG} {A : Nat → Prop} {Q : State → Prop} {cc : ByteArray} {own : String} {ret : Option FieldType} {nm : String} {kc ks pc : Nat} {lv : List (Nat × Value)} {st : List Value}
theorem sx_call {idx mx n x oa : Nat} {y : MethodName} {cy : ByteArray} {rt : Option FieldType} {hh : List (Nat × Nat × Nat × Nat)} {rm : Room} {As rest : List Value} {wx wm : va_W} {f : Nat → Int64} (X : ZC p s m args meth c cc nL own G A ret nm) (K : LkSW own idx y cy mx rt hh n) (hE : EXs A s s.heap)
    (hM : ∀ (ad : Nat → Nat) (w0 : va_W), WT G ad TX w0 → w0.length = 109 → ad 0 = x → CtW l G y cy mx rt hh rm As (w0 ++ [(oa, aJ G 1 f)]) (LHpo G ad w0 oa)) (hw : CWx G x wx) (hdg : decode cc pc = .ok (.invokestatic idx, 3)) (hR : rm.frames + 1 ≤ R.frames ∧ 8 + (mx + 11) + rm.locals ≤ R.locals) (hf : kc + rm.cells ≤ R.cells ∧ ks + rm.slots ≤ R.slots) (hn : As.length = n) (hst : st = As.reverse ++ rest) (hcat : (rest.map fun v => v.category).sum ≤ 8) (lz : lv_pick lv (List.range lv.length) = lv)
    (kk : ∀ (v : Int32) (wx' : va_W) (f' : Nat → Int64), CWx G x wx' → wx'.length = wx.length → Z p l e R s m args below meth c nL G A Q (pc + 3) lv (.int v :: rest) (wx' ++ wm ++ [(oa, aJ G 1 f')]) (kc + rm.cells) (ks + rm.slots)) : Z p l e R s m args below meth c nL G A Q pc lv st (wx ++ wm ++ [(oa, aJ G 1 f)]) kc ks := by
  obtain ⟨ad, e0, h⟩ := hw
  have main : ∀ (wb : va_W) (wt : va_W), WT G ad TX wt → wt.length = 109 → wx = wt ++ wb → (∀ w1, Wsame G ad wt w1 → CWx G x (w1 ++ wb)) → Z p l e R s m args below meth c nL G A Q pc lv st (wx ++ wm ++ [(oa, aJ G 1 f)]) kc ks := by
    intro wb wt hWt hlt ew hback
    have e1 : wx ++ wm ++ [(oa, aJ G 1 f)] = wt ++ (wb ++ wm) ++ [(oa, aJ G 1 f)] := by rw [ew]; simp only [List.append_assoc]
    rw [e1]
    refine z_callSX (wr := wb ++ wm) X K (hM ad wt hWt hlt e0) hE hdg hR hf hn hst hcat (List.range wt.length ++ List.range' (wt.length + (wb ++ wm).length) [(oa, aJ G 1 f)].length) (List.range' wt.length (wb ++ wm).length) (sh_rest wt (wb ++ wm) _) (sh_nd _ _ _ (Nat.le_add_right _ _)) (sh_pick wt (wb ++ wm) _) (va_nd_of _ List.nodup_range') (sh_dis2 _ _ _) (fun r w hp => ?_)
    obtain ⟨⟨v, rfl⟩, f', w1, rfl, hs⟩ := hp
    have h9 := kk v (w1 ++ wb) f' (hback w1 hs) (by rw [ew, List.length_append, List.length_append, hs.2.1])
    have e2 : w1 ++ wb ++ wm ++ [(oa, aJ G 1 f')] = [] ++ w1 ++ (wb ++ wm ++ [(oa, aJ G 1 f')]) := by simp only [List.append_assoc, List.nil_append]
    have e3 : wb ++ wm ++ ([(oa, aJ G 1 f')] ++ w1) = [] ++ (wb ++ wm ++ [(oa, aJ G 1 f')]) ++ w1 := by simp only [List.append_assoc, List.nil_append]
    rw [e2] at h9
    rw [e3]
    exact Z.mid lz h9
  rcases h with ⟨hW, hl, hnull⟩ | ⟨hW, hl, hG⟩
  · refine main [] wx hW hl (by rw [List.append_nil]) (fun w1 hs => ?_)
    rw [List.append_nil]
    exact ⟨ad, e0, Or.inl ⟨hs.1, hs.2.1.trans hl, fget_frame hs.2 rfl hnull⟩⟩
  · have hWt := wt_take hW hl
    have hlt : (wx.take 109).length = 109 := by rw [List.length_take, hl]; rfl
    refine main (wx.drop 109) (wx.take 109) hWt hlt (List.take_append_drop 109 wx).symm (fun w1 hs => ?_)
    have hl2 : w1.length = 109 := hs.2.1.trans hlt
    have hpl : fget (wx.take 109) 0 15 = some (.ref (ad 109)) := by
      have h5 : fget wx 0 15 = some (.ref (ad 109)) := fget_ref hW rfl rfl
      unfold fget at h5 ⊢
      rw [List.getElem?_take_of_lt (by decide)]
      exact h5
    have hj := wt_join hs.1 hl2 (fget_frame hs.2 rfl hpl) hW hl
    refine ⟨ad, e0, Or.inr ⟨hj, by rw [List.length_append, hl2, List.length_drop, hl], ?_⟩⟩
    obtain ⟨a, f9, g1, g2⟩ := hG
    exact ⟨a, f9, by rw [List.getElem?_append_right (by omega), hl2, List.getElem?_drop]; exact g1, g2⟩
end LAW3
end
section
/-! THE CLAIM OUT OF ONE WALK OF THE LAW'S BODY. Your part is whole_start (and what it stands on); all else here is the same for every law, but numbers. -/
def R_law : String := "StoneThatShakesLaw"
def lw_P (b : Addr) (xs : List Int32) (args : Array Value) (s : State) : Prop := args = #[.ref b] ∧ s.IntsAt b xs ∧ xs.length ≤ 5120 ∧ (Jvm.Cond.and given_1 narrow_1).before args s = true
def lw_Q (_ : Array Value) (s : State) (o : Outcome) (t : State) : Prop := o = .returned (some (.int 1)) ∧ Framed s o t [] 601024 7293034
def lw_Z (below : List Frame) (a : Array Value) (s : State) : State → Prop := fun t => ∃ o, t.status = .running ∧ Ended t below o ∧ lw_Q a s o t
/-- the law's own end, with 1 on the stack, nothing written that was there before, its room as the claim has it -/
theorem lw_ret {p : Program} {l : Launch} {e : Env} {s : State} {m : MethodId} {below : List Frame} {meth : Method} {c : Code} {b : Nat} (hx : p.tables.exec = Jvm.exec) (hb : c.code = code) (hr : meth.sig.returnType = ret) (hlocks : meth.locks = false) {pc : Nat} {H : Heap} {ls : Array Slot} (hdg : decode code pc = .ok (.ireturn, 1)) : W p l e room_1 s m #[Value.ref b] below meth c H [] 601024 7293034 (lw_Z below #[Value.ref b] s) (F0 m pc ls [.int 1]) := by
  intro T hT X
  obtain ⟨fs, hret, hrun, hended, hW, hframe⟩ := X.leave (v := some (.int 1)) (hlocks := hlocks) (fun h => by rw [hr] at h; cases h)
  have hmeth' : T.vm.method? m = some meth := X.method'
  refine ⟨T.setFrames fs, ?_, .returned (some (.int 1)), hrun, hended, rfl, ⟨_, rfl⟩, hW, hframe⟩
  jvm_step X.here [X.here.top, hx, hb, hdg, hmeth', hr, ret, narrow_b1]
  (try refine ⟨rfl, ?_⟩); (try refine ⟨rfl, ?_⟩)
  first | (intro acts; rw [hret _ acts rfl rfl rfl]) | rw [hret _ _ rfl rfl rfl]
  exact Steps.refl _
/-- what holds at the law's entry: the machine, the code, the tables' words (any of lw_tbl by 'hts w (by decide +kernel)'), the script of L ints xs at the cell b, what the Statement gives of the start (any of its parts by flat_of_before) -/
def lw_At (p : Program) (s : State) (m : MethodId) (meth : Method) (c : Code) (b L : Nat) (xs : Nat → Int32) : Prop :=
  p.tables.exec = Jvm.exec ∧ c.code = code ∧ meth.sig.returnType = ret ∧ c.maxLocals = 8 ∧ s.vm.findClass R_law = some m.cls ∧ (∀ w ∈ lw_tbl, w.before #[Value.ref b] s = true) ∧ va_X b L xs s s.heap ∧ b < s.heap.size ∧ meth.locks = false ∧ (Jvm.Cond.and given_1 narrow_1).before #[Value.ref b] s = true
section ZLAW
variable {p : Program} {l : Launch} {e : Env} {s : State} {m : MethodId} {below : List Frame} {meth : Method} {c : Code} {nL : Nat} {G : KG} {A : Nat → Prop} {Q : State → Prop} {cc : ByteArray} {own : String} {rt : Option FieldType} {nm : String} {b : Nat} {xs : Nat → Int32}
variable {pc : Nat} {rest : List Value} {ws : va_W} {kc ks : Nat} {lv : List (Nat × Value)}
theorem z_slen {L : Nat} (X : ZC p s m #[Value.ref b] meth c cc nL own G A rt nm) (hX : va_X b L xs s s.heap) (hbl : b < s.heap.size) (hbA : ¬ A b) (hdg : decode cc pc = .ok (.arraylength, 1)) {v : Int32} (hv : Int32.ofNat L = v) (kz : Z p l e room_1 s m #[Value.ref b] below meth c nL G A Q (pc + 1) lv (.int v :: rest) ws kc ks) : Z p l e room_1 s m #[Value.ref b] below meth c nL G A Q pc lv (.ref b :: rest) ws kc ks := by
  subst hv
  exact fun H locs ls hP hD hS hl => va_slen X.1 X.2.1 hX hbl hbA hS hdg (kz H locs ls hP hD hS hl)
theorem z_sld {L : Nat} (X : ZC p s m #[Value.ref b] meth c cc nL own G A rt nm) (hX : va_X b L xs s s.heap) (hbl : b < s.heap.size) (hbA : ¬ A b) {i : Int32} (hin : vp_in i L) (hdg : decode cc pc = .ok (.iaload, 1)) {v : Int32} (hv : xs i.toNatClampNeg = v) (kz : Z p l e room_1 s m #[Value.ref b] below meth c nL G A Q (pc + 1) lv (.int v :: rest) ws kc ks) : Z p l e room_1 s m #[Value.ref b] below meth c nL G A Q pc lv (.int i :: .ref b :: rest) ws kc ks := by
  subst hv
  exact fun H locs ls hP hD hS hl => va_sld X.1 X.2.1 hX hbl hbA hS hin hdg (kz H locs ls hP hD hS hl)
theorem z_lwret (X : ZC p s m #[Value.ref b] meth c code nL own G (fun q : Nat => s.heap.size ≤ q) ret nm) (hdg : decode code pc = .ok (.ireturn, 1)) (h1 : kc ≤ 601024) (h2 : ks ≤ 7293034) : Z p l e room_1 s m #[Value.ref b] below meth c nL G (fun q : Nat => s.heap.size ≤ q) (lw_Z below #[Value.ref b] s) pc lv [.int 1] ws kc ks :=
  fun _ _ _ _ _ hS _ => va_forget (fun q hq => hS.2.2 q hq) (W.widen h1 h2 (lw_ret X.1 X.2.1 X.2.2.2.2.2.2.2.2.1 X.2.2.2.2.2.2.2.1 hdg))
end ZLAW
theorem tys_in {s : State} {args : Array Value} {ty : FieldType} (hty : ty = .int ∨ ty = .long ∨ ty = .boolean) (h : (Cond.arrayClass ty).before args s = true) : ∃ cA : ClassId, ArrOfT s cA ty ∧ va_RA s cA ty := by
  obtain ⟨cA, k, comp, h1, h2, h3⟩ := Cond.arrayClass_spec h
  refine ⟨cA, fun n z => ⟨fun q hq => (by cases hq), k, h2, comp, h3⟩, ?_⟩
  rcases hty with rfl | rfl | rfl <;> exact h1
theorem tys_ob {s : State} {args : Array Value} {C : String} (h : (Cond.arrayOver (.object C)).before args s = true) : ∃ cA : ClassId, ArrOfT s cA (.object C) ∧ va_RA s cA (.object C) := by
  obtain ⟨comp, cA, k, h1, h2, h3, h4, h5⟩ := Cond.arrayOver_spec h
  exact ⟨cA, fun n z => ⟨fun q hq => (by cases hq), k, h3, comp, h4⟩, k, comp, h3, h4, h1, h5⟩
end
