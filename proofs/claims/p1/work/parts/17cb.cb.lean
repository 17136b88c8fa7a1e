theorem qfI_no (A : Nat → Prop) (a : Array Value) (st : State) (v : Option Value) (t : State) : ¬ QfI A a st (.returned v) t := by
  rintro ⟨⟨r, u, -, h, -⟩, -⟩
  exact h
theorem qfL_no (A : Nat → Prop) (a : Array Value) (st : State) (v : Option Value) (t : State) : ¬ QfL A a st (.returned v) t := by
  rintro ⟨⟨r, u, -, h, -⟩, -⟩
  exact h
theorem vx_toRun {p : Program} {l : Launch} {e : Env} {R : Room} {s : State} {m : MethodId} {args : Array Value} {below : List Frame} {meth : Method} {c : Code} {H : Heap} {locs : List Loc} {kc ks mc ms : Nat} {g : JFrame} {rest : List Value} {Qa : State → Outcome → State → Prop} {free : Addr → Prop} (hr : vx_Run p l e R s m args below meth c H locs kc ks mc ms g rest Qa (fun _ _ _ => False) free) : va_Run p l e R s m args below meth c H locs kc ks mc ms g rest Qa free := by
  intro T hT X
  rcases hr T hT X with h | ⟨q, st₀, t, T', L, E, ce, h0, X', hL, e1, e2, hx, -⟩
  · exact h
  · exact hx.elim
section ZCB
variable {p : Program} {l : Launch} {e : Env} {R : Room} {s : State} {m : MethodId} {args : Array Value} {below : List Frame} {meth : Method} {c : Code} {nL : Nat} {G : KG} {A : Nat → Prop} {Q : State → Prop} {cc : ByteArray} {own : String} {ret : Option FieldType} {nm : String}
variable {pc : Nat} {rest st : List Value} {ws : va_W} {kc ks : Nat} {lv : List (Nat × Value)} {post : Option Value → va_W → Prop}
variable {y : MethodName} {cy : ByteArray} {maxL n idx : Nat} {rt : Option FieldType} {rm : Room} {w0 wr : va_W} {b : Nat} {As : List Value}
theorem pre_y {H : Heap} {locs : List Loc} (X : ZC p s m args meth c cc nL own G A ret nm) (hE : EXs A s s.heap) (hP : va_P G.1 vwCl ws H) (hD : va_D A ws) (hS : va_S A s.heap H locs) (isC : List Nat) (hC : isC.map (fun i => ws[i]?) = w0.map some) (hnC : va_nd isC = true) (av : List Value) : ∀ U : State, U.heap = H → s.WarmedH U.vm → Pcy G av w0 H.size av.toArray U := by
  intro U hU hW
  have h1 : EXs (va_A w0 H.size) U U.heap := by
    rw [hU]
    exact ((hE.kept hS.2.1).narrow (va_free hD hS X.2.2.2.2.2.2.1 isC hC)).warm hW
  exact ⟨rfl, ⟨by rw [hU], by rw [hU]; exact va_Ppick hP isC hC, X.2.2.2.2.2.1.warm hW, (hD.sub isC hnC hC).weaken (fun _ _ _ _ => trivial)⟩, h1⟩
set_option maxHeartbeats 4000000 in
/-- a call that throws NSE, caught by the method's own table -/
theorem z_catchV {C : String} {Qf : (Nat → Prop) → Array Value → State → Outcome → State → Prop} (X : ZC p s m args meth c cc nL own G A ret nm) (hE : EXs A s s.heap) (K : LkV own idx C y cy maxL rt n) (hM : CtT l G y cy maxL rt rm (.ref b :: As) w0 Qf) (hno : ∀ (A : Nat → Prop) (a : Array Value) (st : State) (v : Option Value) (t : State), ¬ Qf A a st (.returned v) t) (hdg : decode cc pc = .ok (.invokevirtual idx, 3)) (q0 : Nat) {ci : Nat} {fs : List Value} (he : ws[q0]? = some (b, .inr (ci, fs))) {q : vw_C} (hc : vwCl[ci]? = some q) (hqC : q.1 = C) (hR : rm.frames + 1 ≤ R.frames ∧ 8 + (maxL + 11) + rm.locals ≤ R.locals) (hf : kc + rm.cells ≤ R.cells ∧ ks + rm.slots ≤ R.slots) (hn : As.length = n) (hst : st = As.reverse ++ .ref b :: rest) (hcat : (rest.map fun v => v.category).sum ≤ 8) (isC isR : List Nat) (hC : isC.map (fun i => ws[i]?) = w0.map some) (hnC : va_nd isC = true) (hRw : isR.map (fun i => ws[i]?) = wr.map some) (hnR : va_nd isR = true) (hdis : (isR.all fun i => decide (i ∉ isC)) = true)
    (x : ExceptionTableEntry) (htab : c.exceptionTable.toList = [x]) (hcov : covers x pc = true) (h0 : x.catchType ≠ 0) (hlink : Cond.classLink own x.catchType NSE ∈ BIG)
    (kk : ∀ q9 : Nat, Z p l e R s m args below meth c nL G A Q x.handlerPc lv [.ref q9] wr (kc + rm.cells) (ks + rm.slots)) : Z p l e R s m args below meth c nL G A Q pc lv st ws kc ks := by
  obtain ⟨k1, k2, k3, k4, k5, k6, k7, k8, k9⟩ := K
  subst hst
  intro H locs ls hP hD hS hl
  have hts := X.2.2.2.2.1
  obtain ⟨cell, c1, c2, c3⟩ := recv_v X hP q0 he hc
  rw [hqC] at c3
  have hGI : GoodIn BIG (wsV own idx C y (wsOf y cy maxL rt)) := by
    intro w hw
    rcases List.mem_append.mp hw with h | h
    · have : w ∈ BIG := by
        rcases List.mem_cons.mp h with e | h
        · rw [e]; exact k1
        rcases List.mem_cons.mp h with e | h
        · rw [e]; exact k2
        rcases List.mem_cons.mp h with e | h
        · rw [e]; exact k3
        rcases List.mem_cons.mp h with e | h
        · rw [e]; exact k4
        cases h
      exact ⟨this, big_good this⟩
    · exact goodIn_wsOf k5 w h
  have hF : ∀ q, va_A w0 H.size q → A q := va_free hD hS X.2.2.2.2.2.2.1 isC hC
  have hr := vx_runV (p := p) (l := l) (e := e) (R := R) (below := below) (meth := meth) (locs := locs) (cells := kc) (slots := ks) (g := F0 m pc ls (As.reverse ++ .ref b :: rest)) (As := As) (rest := rest) ⟨X.1, X.2.1, X.2.2.1, X.2.2.2.1, hts⟩ (hM H.size) (cwV n hts hGI rfl rfl rfl ⟨k6, k7, k8, k9⟩ hR) ⟨Pcy.blind, ⟨cell, c1, c2, c3⟩, pre_y (locs := locs) X hE hP hD hS isC hC hnC _⟩ rfl hn hl.1 rfl (lv_room hcat) hdg hf
  intro T hT X9
  rcases hr T hT X9 with ⟨v, st₀, t, T', L, z0, X', hL, e1, e2, hq, sp⟩ | ⟨q9, st₀, t, T', L, E, ce, z0, X', hL, e1, e2, ⟨u, hp, hb, hz, hk⟩, hce, hcv, hcl, sp⟩
  · exact absurd hq (hno _ _ _ _ _)
  · have hb : E = NSE := hb
    subst hb
    rw [z0] at hz hk
    have hk1 : ∀ q : Nat, q < H.size → ¬ va_A w0 H.size q → t.heap[q]? = H[q]? := hk
    obtain ⟨hP2, hD2⟩ := va_join (w1 := []) hP hD isC isR hC hRw hnR (fun i hi => of_decide_eq_true (List.all_eq_true.mp hdis i hi)) hk1 hF (fun k q h => by simp at h) ⟨fun i j p q h => by simp at h, fun k q h => by simp at h⟩
    rw [List.append_nil] at hP2 hD2
    have hS2 : va_S A s.heap t.heap (locs ++ L) := ⟨Nat.le_trans hS.1 hz, fun q h1 h2 => (hk q (Nat.lt_of_lt_of_le h1 hS.1) (fun z => h2 (hF q z))).trans (hS.2.1 q h1 h2), fun q hq => by
        rcases List.mem_append.mp hq with h | h
        · exact hS.2.2 q h
        · exact hF _ (hL q h)⟩
    obtain ⟨t2, a1, b1⟩ := vx_catch (ls := ls) (rest := rest) X.2.2.2.1 [] x [] htab (fun z hz => nomatch hz) hcov h0 (hts _ hlink) (va_Nw.use rfl hE.2.2.1) hce hcv hcl (kk q9 t.heap (locs ++ L) ls hP2 hD2 hS2 hl) T' e1 X'
    exact ⟨t2, sp.trans a1, b1⟩
/-- a static method with a table of its own, by its place in the constant pool -/
def LkSW (own : String) (idx : Nat) (y : MethodName) (cc : ByteArray) (maxL : Nat) (ret : Option FieldType) (hh : List (Nat × Nat × Nat × Nat)) (n : Nat) : Prop := Cond.methodLink own idx y ∈ BIG ∧ Cond.static y ∈ BIG ∧ Cond.initialized y.cls ∈ BIG ∧ Cond.codeWith y cc maxL ret hh ∈ BIG ∧ y.cls ≠ "java/lang/invoke/MethodHandle" ∧ y.cls ≠ "java/lang/invoke/VarHandle" ∧ (parseMethodDescriptor y.desc).map (fun d => d.parameters.length) = some n
set_option maxHeartbeats 4000000 in
theorem z_callSX {hh : List (Nat × Nat × Nat × Nat)} (X : ZC p s m args meth c cc nL own G A ret nm) (K : LkSW own idx y cy maxL rt hh n) (hM : CtW l G y cy maxL rt hh rm As w0 post) (hE : EXs A s s.heap) (hdg : decode cc pc = .ok (.invokestatic idx, 3)) (hR : rm.frames + 1 ≤ R.frames ∧ 8 + (maxL + 11) + rm.locals ≤ R.locals) (hf : kc + rm.cells ≤ R.cells ∧ ks + rm.slots ≤ R.slots) (hn : As.length = n) (hst : st = As.reverse ++ rest) (hcat : (rest.map fun v => v.category).sum ≤ 8) (isC isR : List Nat) (hC : isC.map (fun i => ws[i]?) = w0.map some) (hnC : va_nd isC = true) (hRw : isR.map (fun i => ws[i]?) = wr.map some) (hnR : va_nd isR = true) (hdis : (isR.all fun i => decide (i ∉ isC)) = true)
    (kk : ∀ (r : Option Value) (w1 : va_W), post r w1 → Z p l e R s m args below meth c nL G A Q (pc + 3) lv (r.toList ++ rest) (wr ++ w1) (kc + rm.cells) (ks + rm.slots)) : Z p l e R s m args below meth c nL G A Q pc lv st ws kc ks := by
  obtain ⟨k1, k2, k3, k5, k7, k8, k9⟩ := K
  subst hst
  intro H locs ls hP hD hS hl
  have hts := X.2.2.2.2.1
  have hGI : GoodIn BIG (va_wsS own idx y (wsW y cy maxL rt hh)) := by
    intro w hw
    rcases List.mem_append.mp hw with h | h
    · have : w ∈ BIG := by
        rcases List.mem_cons.mp h with e | h
        · rw [e]; exact k1
        rcases List.mem_cons.mp h with e | h
        · rw [e]; exact k2
        rcases List.mem_cons.mp h with e | h
        · rw [e]; exact k3
        cases h
      exact ⟨this, big_good this⟩
    · exact goodIn_wsW k5 w h
  exact z_cont (vx_toRun (vx_runSX (As := As) (rest := rest) ⟨X.1, X.2.1, X.2.2.1, X.2.2.2.1, hts⟩ (hM H.size) (vx_cwSW n hts hGI rfl rfl rfl ⟨k7, k8, k9⟩ hR) ⟨Pcy.blind, pre_y (locs := locs) X hE hP hD hS isC hC hnC _⟩ rfl hn hl.1 rfl (lv_room hcat) hdg hf)) X.2.2.2.2.2.2.1 hP hD hS hl isC isR hC hRw hnR hdis kk
end ZCB
abbrev hL_hole : List (Nat × Nat × Nat × Nat) := [(0, 10, 13, 13)]
theorem k_L_38 : LkSW RL 38 yL_hole cL_hole 5 (some .int) hL_hole 4 := ⟨big_5 (List.mem_of_getElem? (i := 120) rfl) rfl, big_5 (List.mem_of_getElem? (i := 121) rfl) rfl, big_1 (List.mem_of_getElem? (i := 0) rfl) rfl, big_5 (List.mem_of_getElem? (i := 122) rfl) rfl, by decide, by decide, by decide⟩
abbrev hL_row : List (Nat × Nat × Nat × Nat) := [(0, 8, 11, 13)]
theorem k_L_231 : LkSW RL 231 yL_row cL_row 4 (some .int) hL_row 3 := ⟨big_5 (List.mem_of_getElem? (i := 195) rfl) rfl, big_5 (List.mem_of_getElem? (i := 196) rfl) rfl, big_1 (List.mem_of_getElem? (i := 0) rfl) rfl, big_5 (List.mem_of_getElem? (i := 197) rfl) rfl, by decide, by decide, by decide⟩
theorem cl_L_13 : Cond.classLink RL 13 NSE ∈ BIG := big_5 (List.mem_of_getElem? (i := 123) rfl) rfl
theorem d_L_hole_5 : decode cL_hole 5 = .ok (.invokevirtual 7, 3) := by decide +kernel
theorem d_L_hole_16 : decode cL_hole 16 = .ok (.ireturn, 1) := by decide +kernel
abbrev bb_L_hole_0_5 : ZB := [(.aload_n 3, .null), (.iconst 0, .int 0), (.aload_n 0, .null), (.iload_n 1, .null), (.iload_n 2, .null)]
theorem bk_L_hole_0_5 : zchk cL_hole bb_L_hole_0_5 0 = true ∧ zpc bb_L_hole_0_5 0 = 5 := ⟨by decide +kernel, rfl⟩
abbrev bb_L_hole_13_16 : ZB := [(.astore 4, .null), (.iconst 1, .int 1)]
theorem bk_L_hole_13_16 : zchk cL_hole bb_L_hole_13_16 13 = true ∧ zpc bb_L_hole_13_16 13 = 16 := ⟨by decide +kernel, rfl⟩
set_option maxHeartbeats 4000000 in
set_option maxRecDepth 100000 in
theorem c_L_hole (l : Launch) (hst : l.stackTraces = false) (G : KG) (x : Nat) (told : Nat) (reader : Nat) (ring : Nat) (speeds : Nat) (wheel : Nat) (trials : Nat) (span : Nat) (search : Nat) (kept : Nat) (crosses : Nat) (trueM : Nat) (thought : Nat) (up : Nat) (low : Nat) (fits : Nat) (rp : Nat) (rx : Nat) (ry : Nat) (rr : Nat) (rh : Nat) (rd : Nat) (outa : Nat) (i : Int32) (k : Int32) : CtW l G yL_hole cL_hole 5 (some .int) hL_hole { frames := 7, cells := 1, slots := 6, locals := 104 } [.ref x, .int i, .int k, .ref outa] [(x, ob 10 [.ref told, .ref reader, .ref ring, .ref speeds, .ref wheel, .ref trials, .ref span, .ref search, .ref kept, .ref crosses, .ref trueM, .ref thought, .ref up, .ref low, .ref fits, .null]), (ring, ob 5 [.int 0, .ref rp, .ref rx, .ref ry, .ref rr, .ref rh, .ref rd, .int (-1), .int 0])] (fun r _ => r = some (.int 1)) := by
  refine ctW_of [(0, .ref x), (1, .int i), (2, .int k), (3, .ref outa)] (by decide) (Nat.le_of_ble_eq_true rfl) rfl ?_
  intro p0 e0 s0 m0 args0 below0 meth0 c0 A X hE htab
  refine z_run X bb_L_hole_0_5 bk_L_hole_0_5 (lv' := [(0, .ref x), (1, .int i), (2, .int k), (3, .ref outa)]) (st' := [.int k, .int i, .ref x, .int 0, .ref outa]) rfl ?_
  refine z_catchV X hE k_L_7 (cx_hole l hst G x told reader ring speeds wheel trials span search kept crosses trueM thought up low fits rp rx ry rr rh rd i k i.toInt rfl) qfI_no d_L_hole_5 0 rfl rfl rfl ⟨Nat.le_of_ble_eq_true rfl, Nat.le_of_ble_eq_true rfl⟩ ⟨Nat.le_of_ble_eq_true rfl, Nat.le_of_ble_eq_true rfl⟩ rfl (rest := [.int 0, .ref outa]) (As := [.int i, .int k]) rfl (Nat.le_of_ble_eq_true rfl) [0, 1] [] rfl (by decide) (wr := []) rfl (by decide) (by decide) ⟨0, 10, 13, 13⟩ htab (by decide) (by decide) cl_L_13 ?_
  intro q9
  refine z_run X bb_L_hole_13_16 bk_L_hole_13_16 (lv' := [(4, .ref q9), (0, .ref x), (1, .int i), (2, .int k), (3, .ref outa)]) (st' := [.int 1]) rfl ?_
  exact z_iret X rfl d_L_hole_16 (Nat.le_of_ble_eq_true rfl) (Nat.le_of_ble_eq_true rfl) rfl
theorem d_L_row_4 : decode cL_row 4 = .ok (.invokevirtual 15, 3) := by decide +kernel
theorem d_L_row_13 : decode cL_row 13 = .ok (.ireturn, 1) := by decide +kernel
abbrev bb_L_row_0_4 : ZB := [(.aload_n 2, .null), (.iconst 0, .int 0), (.aload_n 0, .null), (.iload_n 1, .null)]
theorem bk_L_row_0_4 : zchk cL_row bb_L_row_0_4 0 = true ∧ zpc bb_L_row_0_4 0 = 4 := ⟨by decide +kernel, rfl⟩
abbrev bb_L_row_11_13 : ZB := [(.astore_n 3, .null), (.iconst 1, .int 1)]
theorem bk_L_row_11_13 : zchk cL_row bb_L_row_11_13 11 = true ∧ zpc bb_L_row_11_13 11 = 13 := ⟨by decide +kernel, rfl⟩
set_option maxHeartbeats 4000000 in
set_option maxRecDepth 100000 in
theorem c_L_row (l : Launch) (hst : l.stackTraces = false) (G : KG) (x : Nat) (told : Nat) (reader : Nat) (ring : Nat) (speeds : Nat) (wheel : Nat) (trials : Nat) (span : Nat) (search : Nat) (kept : Nat) (crosses : Nat) (trueM : Nat) (thought : Nat) (up : Nat) (low : Nat) (fits : Nat) (tn : Nat) (outa : Nat) (i : Int32) : CtW l G yL_row cL_row 4 (some .int) hL_row { frames := 7, cells := 1, slots := 6, locals := 103 } [.ref x, .int i, .ref outa] [(x, ob 10 [.ref told, .ref reader, .ref ring, .ref speeds, .ref wheel, .ref trials, .ref span, .ref search, .ref kept, .ref crosses, .ref trueM, .ref thought, .ref up, .ref low, .ref fits, .null]), (told, ob 8 [.ref tn, .int 0])] (fun r _ => r = some (.int 1)) := by
  refine ctW_of [(0, .ref x), (1, .int i), (2, .ref outa)] (by decide) (Nat.le_of_ble_eq_true rfl) rfl ?_
  intro p0 e0 s0 m0 args0 below0 meth0 c0 A X hE htab
  refine z_run X bb_L_row_0_4 bk_L_row_0_4 (lv' := [(0, .ref x), (1, .int i), (2, .ref outa)]) (st' := [.int i, .ref x, .int 0, .ref outa]) rfl ?_
  refine z_catchV X hE k_L_15 (cx_row l hst G x told reader ring speeds wheel trials span search kept crosses trueM thought up low fits tn i i.toInt rfl) qfL_no d_L_row_4 0 rfl rfl rfl ⟨Nat.le_of_ble_eq_true rfl, Nat.le_of_ble_eq_true rfl⟩ ⟨Nat.le_of_ble_eq_true rfl, Nat.le_of_ble_eq_true rfl⟩ rfl (rest := [.int 0, .ref outa]) (As := [.int i]) rfl (Nat.le_of_ble_eq_true rfl) [0, 1] [] rfl (by decide) (wr := []) rfl (by decide) (by decide) ⟨0, 8, 11, 13⟩ htab (by decide) (by decide) cl_L_13 ?_
  intro q9
  refine z_run X bb_L_row_11_13 bk_L_row_11_13 (lv' := [(3, .ref q9), (0, .ref x), (1, .int i), (2, .ref outa)]) (st' := [.int 1]) rfl ?_
  exact z_iret X rfl d_L_row_13 (Nat.le_of_ble_eq_true rfl) (Nat.le_of_ble_eq_true rfl) rfl
