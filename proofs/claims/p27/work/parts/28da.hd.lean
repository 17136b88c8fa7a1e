section
/-! the law: a case -/
def AOK : List VT → List Value → Prop
  | [], [] => True
  | t :: ts, v :: vs => (∀ ad, vty ad t v) ∧ AOK ts vs
  | _, _ => False
theorem aok_get : ∀ (ts : List VT) (vs : List Value), AOK ts vs → ∀ (j : Nat) (t : VT), ts[j]? = some t → ∀ ad, vty ad t ((vs[j]?).getD .null)
  | [], _, _, j, t, h, _ => by cases h
  | t0 :: ts, [], h, _, _, _, _ => h.elim
  | t0 :: ts, v :: vs, h, 0, t, hj, ad => by
    cases hj
    exact h.1 ad
  | t0 :: ts, v :: vs, h, j + 1, t, hj, ad => aok_get ts vs h.2 j t hj ad
theorem aok_len : ∀ (ts : List VT) (vs : List Value), AOK ts vs → ts.length = vs.length
  | [], [], _ => rfl
  | [], _ :: _, h => h.elim
  | _ :: _, [], h => h.elim
  | _ :: ts, _ :: vs, h => congrArg Nat.succ (aok_len ts vs h.2)
theorem pre_args {C : CE} {ts : List VT} {As : List Value} {x : Nat} (h1 : C.1 = (2, 0, 0) :: ts) (h2 : C.2.1 = []) (h3 : C.2.2.1 = []) (hA : AOK ts As) (ad : Nat → Nat) (w0 : va_W) (he : ad 0 = x) : ∃ μ, PRE ad C μ w0 ∧ (List.range C.1.length).map μ = .ref x :: As := by
  refine ⟨fun k => ((Value.ref x :: As)[k]?).getD .null, ⟨fun j t hj => ?_, fun j q hj => ?_, fun q hq => ?_⟩, ?_⟩
  · rw [h1] at hj
    match j, hj with
    | 0, hj =>
      cases hj
      exact Or.inr (Or.inr (Or.inl ⟨rfl, by show Value.ref x = .ref (ad 0); rw [he]⟩))
    | j + 1, hj => exact aok_get ts As hA j t hj ad
  · rw [h2] at hj; cases hj
  · rw [h3] at hq; cases hq
  · rw [h1]
    have hl : ((2, 0, 0) :: ts : List VT).length = (Value.ref x :: As).length := congrArg Nat.succ (aok_len ts As hA)
    rw [hl]
    refine List.ext_getElem (by simp) (fun k q1 q2 => ?_)
    rw [List.getElem_map, List.getElem_range, List.getElem?_eq_getElem q2]
    rfl
theorem lw_in {L : Nat} {i : Int32} {k : Int32} (hi0 : 0 ≤ i.toInt) (hi1 : i.toInt + 10 ≤ (L : Int) ∧ L ≤ 5120) (k0 : 0 ≤ k.toInt) (k1 : k.toInt ≤ 9) : vp_in (i + k) L := by
  have e : (i + k).toInt = i.toInt + k.toInt := tI_add rfl rfl (by omega)
  exact vp_of (by omega) (by omega)
end
section
/-! a call whose cost hangs on its end -/
abbrev PVT := Nat → Nat → Option Value → va_W → Prop
def MQV (below : List Frame) (G : KG) (PV : PVT) (args : Array Value) (s : State) (A : Nat → Prop) : State → Prop := fun t => ∃ k n, MQ below (QQ G A (PV k n)) args s k n A t
def CtV (l : Launch) (G : KG) (y : MethodName) (cc : ByteArray) (maxL : Nat) (ret : Option FieldType) (rm : Room) (av : List Value) (w0 : va_W) (PV : PVT) : Prop := ∀ sz : Nat, MetFree l y (headSpec (wsOf y cc maxL ret) rm) (Pcx G av w0 sz) (fun _ _ _ _ _ => True) (fun a st o t => ∃ k n, Qcx G w0 sz (PV k n) a st o t ∧ ∃ L, FrameEnd st o t L k n ∧ ∀ q ∈ L, va_A w0 sz q.base)
section VARA
variable {p : Program} {l : Launch} {e : Env} {R : Room} {s : State} {m : MethodId} {args : Array Value} {below : List Frame} {meth : Method} {c : Code} {nL : Nat} {G : KG} {A : Nat → Prop} {Q Q' : State → Prop} {cc : ByteArray} {own : String} {ret : Option FieldType} {nm : String} {kc ks pc : Nat} {lv : List (Nat × Value)} {st rest : List Value} {ws : va_W}
theorem Z.imp (hQ : ∀ t, Q t → Q' t) (h : Z p l e R s m args below meth c nL G A Q pc lv st ws kc ks) : Z p l e R s m args below meth c nL G A Q' pc lv st ws kc ks := by
  intro H locs ls hP hD hS hl T hT X
  obtain ⟨t, a, b⟩ := h H locs ls hP hD hS hl T hT X
  exact ⟨t, a, hQ t b⟩
theorem mqv_of {PV : PVT} {PO : Option Value → va_W → Prop} {k n : Nat} (h : ∀ r w, PO r w → PV k n r w) : ∀ t, MQ below (QQ G A PO) args s k n A t → MQV below G PV args s A t := by
  rintro t ⟨o, a1, a2, ⟨⟨r, w1, b1, b2, b3⟩, b4⟩, b5⟩
  exact ⟨k, n, o, a1, a2, ⟨⟨r, w1, b1, h r w1 b2, b3⟩, b4⟩, b5⟩
set_option maxHeartbeats 4000000 in
theorem ctV_of {l : Launch} {G : KG} {y : MethodName} {cc : ByteArray} {maxL : Nat} {ret : Option FieldType} {rm : Room} {av : List Value} {w0 : va_W} {PV : PVT} (lv : List (Nat × Value)) (hy : plainName y.cls = true) (hlen : (lg_sl av).length ≤ maxL) (hlv : lv_args 0 av = lv)
    (body : ∀ (p : Program) (e : Env) (s : State) (m : MethodId) (args : Array Value) (below : List Frame) (meth : Method) (c : Code) (A : Nat → Prop), ZC p s m args meth c cc maxL y.cls G A ret y.name →
      Z p l e rm s m args below meth c maxL G A (MQV below G PV args s A) 0 lv [] w0 0 0) : CtV l G y cc maxL ret rm av w0 PV := by
  intro sz
  refine MetFree.of_bodyS (code := cc) (maxLocals := maxL) (ret := ret) hy ?_ ?_
  · intro args s m h hn
    obtain ⟨meth, c, h1, h2, h3, h4, h5, h6, -, -⟩ := Cond.code_spec hn (atoms_spec (ws := wsOf y cc maxL ret) h _ List.mem_cons_self)
    exact ⟨meth, c, h1, h2, h3, h4, h5, h6⟩
  · intro p e s m args below meth c s₁ B hml hv _
    obtain ⟨rfl, hsz, hP, hK, hD0⟩ := hv
    have hts := atoms_spec (ws := wsOf y cc maxL ret) B.pre
    have hown : s.vm.findClass y.cls = some m.cls := findClass_of_methodNamed B.named
    subst hsz
    have hD := hD0.self (sz := s.heap.size)
    have hA : ∀ q : Nat, s.heap.size ≤ q → va_A w0 s.heap.size q := fun q h => Or.inr h
    have hl := lv_entry av (n := maxL) hlen
    rw [hlv] at hl
    have hn : meth.name = y.name := (name_of_methodNamed B.named B.method).1
    have hh0 : s₁.heap = s.heap := by rw [B.state]; rfl
    have hw := body p e s m av.toArray below meth c (va_A w0 s.heap.size) ⟨B.exec, B.bytes, hml, hown, fun w hw => hts w (List.mem_cons_of_mem _ hw), hK, hA, B.notSynchronized, B.returns, hn⟩ s.heap [] _ hP hD va_S.rf hl
    rw [← lg_entry_eq] at hw
    obtain ⟨t, a1, k, n, o, b1, b2, b3⟩ := hw s₁ hh0 (Stand.of_body B)
    exact ⟨t, o, a1, b1, b2, k, n, b3.1, b3.2⟩
def PostV (PQ : Nat → Nat → Array Value → State → Outcome → State → Prop) (mc ms : Nat) (free : Addr → Prop) : Pt → Array Value → Option Value → Pt → Prop := fun A a v B => ∃ k n, PostOf (PQ k n) k n free A a v B
set_option maxHeartbeats 1000000 in
theorem z_callVV {idx mx n b : Nat} {C : String} {y : MethodName} {cy : ByteArray} {rt : Option FieldType} {rm : Room} {As : List Value} {w0 wr : va_W} {PV : PVT} (X : ZC p s m args meth c cc nL own G A ret nm) (K : LkV own idx C y cy mx rt n) (hM : CtV l G y cy mx rt rm (.ref b :: As) w0 PV) (hdg : decode cc pc = .ok (.invokevirtual idx, 3)) (q0 : Nat) {ci : Nat} {fs : List Value} (he : ws[q0]? = some (b, .inr (ci, fs))) {q : vw_C} (hc : vwCl[ci]? = some q) (hqC : q.1 = C) (hR : rm.frames + 1 ≤ R.frames ∧ 8 + (mx + 11) + rm.locals ≤ R.locals) (hf : kc + rm.cells ≤ R.cells ∧ ks + rm.slots ≤ R.slots) (hn : As.length = n) (hst : st = As.reverse ++ .ref b :: rest) (hcat : (rest.map fun v => v.category).sum ≤ 8) (isC isR : List Nat) (hC : isC.map (fun i => ws[i]?) = w0.map some) (hnC : va_nd isC = true) (hRw : isR.map (fun i => ws[i]?) = wr.map some) (hnR : va_nd isR = true) (hdis : (isR.all fun i => decide (i ∉ isC)) = true)
    (kk : ∀ (k n : Nat) (r : Option Value) (w1 : va_W), PV k n r w1 → Z p l e R s m args below meth c nL G A Q (pc + 3) lv (r.toList ++ rest) (wr ++ w1) (kc + k) (ks + n)) : Z p l e R s m args below meth c nL G A Q pc lv st ws kc ks := by
  obtain ⟨k1, k2, k3, k4, k5, k6, k7, k8, k9⟩ := K
  subst hst
  intro H locs ls hP hD hS hl
  have hts := X.2.2.2.2.1
  obtain ⟨cell, c1, c2, c3⟩ := recv_v X hP q0 he hc
  rw [hqC] at c3
  have hGI : GoodIn BIG (wsV own idx C y (wsOf y cy mx rt)) := by
    intro w hw
    rcases List.mem_append.mp hw with h | h
    · have : w ∈ BIG := by
        rcases List.mem_cons.mp h with e | h
        · rw [e]; exact k1
        rcases List.mem_cons.mp h with e | h
        · rw [e]; exact k2
        rcases List.mem_cons.mp h with e | h
        · rw [e]; exact k3
        rcases List.mem_cons.mp h with e | h
        · rw [e]; exact k4
        cases h
      exact ⟨this, big_good this⟩
    · exact goodIn_wsOf k5 w h
  have cw := cwV (R := R) (own := own) (index := idx) (C := C) (y := y) (bytes := cy) (maxL := mx) (ret := rt) (rm := rm) (mc := rm.cells) (ms := rm.slots) n hts hGI rfl rfl rfl ⟨k6, k7, k8, k9⟩ hR
  have hpre := pre_v (locs := locs) X hP hD isC hC hnC (.ref b :: As)
  have hF : ∀ q, va_A w0 H.size q → A q := va_free hD hS X.2.2.2.2.2.2.1 isC hC
  obtain ⟨⟨hrc, hrs, hfr, hlo, hws, hcw, hcode, hini, hy, hlen, hl9⟩, hin, hse⟩ := cw
  have hK : Back l R p e below s args y 3 8 (PreOf R rm.cells rm.slots (Pcx G (.ref b :: As) w0 H.size)) (PostV (fun k n => Qcx G w0 H.size (PV k n)) 0 0 (va_A w0 H.size)) := by
    refine Back.of_free (S := headSpec (wsOf y cy mx rt) rm) (P := Pcx G (.ref b :: As) w0 H.size) (K := fun _ _ _ _ _ => True) (Q := fun a st o t => ∃ k n, Qcx G w0 H.size (PV k n) a st o t ∧ ∃ L, FrameEnd st o t L k n ∧ ∀ q ∈ L, va_A w0 H.size q.base) (bytes := cy) (maxL := mx) (ret := rt)
      (E := fun a st o t L k n => Qcx G w0 H.size (PV k n) a st o t ∧ ∀ q ∈ L, va_A w0 H.size q.base) (hM H.size) hfr hlo ?_ ?_ (fun _ _ _ _ _ _ _ _ _ => trivial) ?_ ?_
    · intro m meth c A a X hp
      exact ⟨atoms_intro fun w hw => hws w hw _ _ X.warmed, hws _ hcw _ _ X.warmed, word_at X.warmed (Or.inl (by first | rfl | simp [Cond.onTables, Cond.keeps, Cond.steady])) hini, hp.1, hp.2.1⟩
    · intro m meth c A a g mk X hp
      exact Pcx.blind _ _ _ _ hp.2.2
    · rintro a st o t ⟨k, n, hq, L, hF, hL⟩
      exact ⟨L, k, n, hF, hq, hL⟩
    · intro m meth c A a g mk v t L k n X hp hq hF ⟨e1, hL⟩
      exact ⟨k, n, g, mk, t, L, rfl, rfl, e1, rfl, hL, rfl, rfl⟩
  intro T hT X9
  obtain ⟨v, vm₁, ⟨U', l2, c2', s2⟩, hW₁, X', ⟨k, n', g', mk, t, L, e1, e2, hq, h1, hL, h2, h3⟩, stp⟩ := callV X9 X.1 (C := C) (bytes := cy) (maxL := mx) (ret := rt) X.2.2.2.1 hl9 hin hse hcode hy hK (by rw [hT]; exact c1) c2 c3 rfl (hl.1.trans X.2.2.1.symm) (argsL := As) (rest := rest) (fun sig h => hn.trans (hlen sig h)) rfl (lv_room hcat) (by rw [X.2.1]; exact hdg)
    (fun vm₁ hW₁ => ⟨hf.1, hf.2, hpre (T.setVm vm₁) hT hW₁⟩)
  dsimp only [Pt.U, Pt.locs, Pt.cells, Pt.slots] at X' e1 e2 h1 h2 h3 stp
  subst h1; subst h2; subst h3
  obtain ⟨⟨r, w1, hv, hp, hP1, hD1⟩, hz, hk⟩ := hq
  cases hv
  rw [show ((T.setVm vm₁).calling g' mk (Value.ref b :: As).toArray).heap = H from hT] at hz hk
  have hk1 : ∀ q : Nat, q < H.size → ¬ va_A w0 H.size q → t.heap[q]? = H[q]? := hk
  obtain ⟨hP2, hD2⟩ := va_join hP hD isC isR hC hRw hnR (fun i hi => of_decide_eq_true (List.all_eq_true.mp hdis i hi)) hk1 hF hP1 hD1
  have hS2 : va_S A s.heap t.heap (locs ++ L) := ⟨Nat.le_trans hS.1 hz, fun q h1 h2 => (hk q (Nat.lt_of_lt_of_le h1 hS.1) (fun z => h2 (hF q z))).trans (hS.2.1 q h1 h2), fun q hq => by
      rcases List.mem_append.mp hq with h | h
      · exact hS.2.2 q h
      · exact hF _ (hL q h)⟩
  obtain ⟨t2, a1, b1⟩ := kk k n' v w1 hp t.heap (locs ++ L) ls hP2 hD2 hS2 hl U' e1 X'
  exact ⟨t2, stp t2 a1, b1⟩
theorem mid_callVV {idx mx n : Nat} {Cn : String} {y : MethodName} {cy : ByteArray} {rt : Option FieldType} {rm : Room} {As : List Value} {PV : PVT} {wa wb wc : va_W} {b ci : Nat} {fs : List Value} {q : vw_C} (X : ZC p s m args meth c cc nL own G A ret nm) (K : LkV own idx Cn y cy mx rt n) (hM : CtV l G y cy mx rt rm (.ref b :: As) wb PV) (hdg : decode cc pc = .ok (.invokevirtual idx, 3)) (he : wb[0]? = some (b, .inr (ci, fs))) (hc : vwCl[ci]? = some q) (hqC : q.1 = Cn) (hR : rm.frames + 1 ≤ R.frames ∧ 8 + (mx + 11) + rm.locals ≤ R.locals) (hf : kc + rm.cells ≤ R.cells ∧ ks + rm.slots ≤ R.slots) (hn : As.length = n) (hst : st = As.reverse ++ .ref b :: rest) (hcat : (rest.map fun v => v.category).sum ≤ 8) (lz : lv_pick lv (List.range lv.length) = lv)
    (kk : ∀ (k n : Nat) (r : Option Value) (w1 : va_W), PV k n r w1 → Z p l e R s m args below meth c nL G A Q (pc + 3) lv (r.toList ++ rest) (wa ++ w1 ++ wc) (kc + k) (ks + n)) : Z p l e R s m args below meth c nL G A Q pc lv st (wa ++ wb ++ wc) kc ks := by
  have hlt : 0 < wb.length := (List.getElem?_eq_some_iff.mp he).1
  have he2 : (wa ++ wb ++ wc)[wa.length]? = some (b, .inr (ci, fs)) := by
    rw [List.append_assoc, List.getElem?_append_right (Nat.le_refl _), Nat.sub_self, List.getElem?_append_left hlt]
    exact he
  exact z_callVV (wr := wa ++ wc) X K hM hdg wa.length he2 hc hqC hR hf hn hst hcat (List.range' wa.length wb.length) (List.range wa.length ++ List.range' (wa.length + wb.length) wc.length) (sh_pick wa wb wc) (va_nd_of _ List.nodup_range') (sh_rest wa wb wc) (sh_nd _ _ _ (Nat.le_add_right _ _)) (sh_dis _ _ _) (fun k n r w1 hp => Z.mid lz (kk k n r w1 hp))
end VARA
end
section
/-! the runner, with any ends -/
section AZA
variable {p : Program} {l : Launch} {e : Env} {R : Room} {s : State} {m : MethodId} {args : Array Value} {below : List Frame} {meth : Method} {c : Code} {nL : Nat} {G : KG} {A : Nat → Prop} {cc : ByteArray} {own : String} {ret : Option FieldType} {nm : String} {kc ks mc ms : Nat}
variable {ad : Nat → Nat} {T : List TE} {w0 : va_W} {pin : List (Nat × Value)} {C : CE} {μ : Nat → Value} {PO : Option Value → va_W → Prop}
variable {lv : ALv} {st : List Nat} {ev : AEv} {ca : ACa} {rl : ARl} {nx pc rk : Nat} {K : KT}
variable {Q : State → Prop}
theorem sRetQ_ok (hQ : ∀ t, MQ below (QQ G A PO) args s mc ms A t → Q t) (X : ZC p s m args meth c cc nL own G A ret nm) (hrk : RK rk ret) (hdg : (rk = 0 → decode cc pc = .ok (.return_, 1)) ∧ (rk = 1 ∨ rk = 3 → decode cc pc = .ok (.ireturn, 1)) ∧ (rk = 2 → decode cc pc = .ok (.lreturn, 1))) (hc : kc ≤ mc) (hs : ks ≤ ms) (hp1 : ∀ j, j < C.1.length → (j, μ j) ∈ pin) (hp2 : ∀ j, j < C.2.1.length → (100 + j, μ (100 + j)) ∈ pin) (hl1 : C.1.length ≤ 50) (hl2 : C.2.1.length ≤ 100) (hPO : ∀ r w1, POST G ad T C μ w0 r w1 → PO r w1) (h : sRet C rk st ev ca rl = true) : AQ p l e R s m args below meth c nL G A Q kc ks ad T C.2.2.2.2.1 w0 pin (lv, st, ev, ca, rl, nx) pc :=
  fun ν lw sw ws hg => Z.imp hQ (sRet_ok (C := C) (μ := μ) (PO := PO) X hrk hdg hc hs hp1 hp2 hl1 hl2 hPO h ν lw sw ws hg)
set_option maxHeartbeats 8000000 in
theorem sInsQ_ok (hQ : ∀ t, MQ below (QQ G A PO) args s mc ms A t → Q t) (X : ZC p s m args meth c cc nL own G A ret nm) {fld : List (Nat × Nat × Nat)} {put : List (Nat × Nat × Nat × Nat)} {cst cstl : List (Nat × Int)} {cal : List CAL} {tab : DT} (htab : ∀ q ∈ tab, decode cc q.1 = .ok q.2) {i : Instr} {len : Nat} (hdg : decode cc pc = .ok (i, len)) (hrk : RK rk ret) (hc : kc ≤ mc) (hs : ks ≤ ms) (hp1 : ∀ j, j < C.1.length → (j, μ j) ∈ pin) (hp2 : ∀ j, j < C.2.1.length → (100 + j, μ (100 + j)) ∈ pin) (hl1 : C.1.length ≤ 50) (hl2 : C.2.1.length ≤ 100) (hPO : ∀ r w1, POST G ad T C μ w0 r w1 → PO r w1)
    (hF : ∀ q ∈ fld, FL own q.1 q.2.1 q.2.2 ∨ FN own q.1 q.2.1 q.2.2) (hP : ∀ q ∈ put, PA own q.1 q.2.1 q.2.2.1 q.2.2.2) (hC : ∀ q ∈ cst, ∃ x : Int32, x.toInt = q.2 ∧ Jvm.Cond.constant own q.1 x ∈ BIG) (hCl : ∀ q ∈ cstl, ∃ x : Int64, x.toInt = q.2 ∧ Jvm.Cond.constantLong own q.1 x ∈ BIG) (hcal : ∀ q ∈ cal, COK l G own T q) (hkc : kc ≤ R.cells) (hks : ks ≤ R.slots)
    (hf : afr (lv, st, ev, ca, rl, nx) = true) (hK : ∀ pc σ, K pc σ = true → AQ p l e R s m args below meth c nL G A Q kc ks ad T C.2.2.2.2.1 w0 pin σ pc) (h : sIns tab nL T C.2.2.2.2.1 fld put cst cstl cal R.frames R.locals rk C K pc len i lv st ev ca rl nx = true) : AQ p l e R s m args below meth c nL G A Q kc ks ad T C.2.2.2.2.1 w0 pin (lv, st, ev, ca, rl, nx) pc := by
  cases i with
  | iconst n =>
    obtain ⟨hl, h⟩ := and2 h
    have hl : len = 1 := Nat.eq_of_beq_eq_true hl
    rw [hl] at hdg
    obtain ⟨h1, h⟩ := and2 h
    obtain ⟨h2, h⟩ := and2 h
    have h1 := of_decide_eq_true h1
    have h2 := of_decide_eq_true h2
    exact sCon_ok hK hf (ofI32 (by omega) (by omega)) (fun lw rest ws kz => z_iconst X hdg rfl kz) h
  | bipush n =>
    obtain ⟨hl, h⟩ := and2 h
    have hl : len = 2 := Nat.eq_of_beq_eq_true hl
    rw [hl] at hdg
    obtain ⟨h1, h⟩ := and2 h
    obtain ⟨h2, h⟩ := and2 h
    exact sCon_ok hK hf (ofI8 (of_decide_eq_true h1) (of_decide_eq_true h2)) (fun lw rest ws kz => z_bipush X hdg rfl kz) h
  | sipush n =>
    obtain ⟨hl, h⟩ := and2 h
    have hl : len = 3 := Nat.eq_of_beq_eq_true hl
    rw [hl] at hdg
    obtain ⟨h1, h⟩ := and2 h
    obtain ⟨h2, h⟩ := and2 h
    exact sCon_ok hK hf (ofI16 (of_decide_eq_true h1) (of_decide_eq_true h2)) (fun lw rest ws kz => z_sipush X hdg rfl kz) h
  | lconst n =>
    obtain ⟨hl, h⟩ := and2 h
    have hl : len = 1 := Nat.eq_of_beq_eq_true hl
    rw [hl] at hdg
    exact az_con (fun lw rest ws kz => z_lconst X hdg rfl kz) hf (vty_l (by rw [ofL2]; exact Int.le_refl _) (by rw [ofL2]; exact Int.le_refl _)) (hK _ _ h)
  | ldc idx =>
    obtain ⟨hl, h⟩ := and2 h
    have hl : len = 2 := Nat.eq_of_beq_eq_true hl
    rw [hl] at hdg
    exact sLdc_ok hC hK hf (fun v hv lw rest ws kz => z_ldc X hdg hv kz) h
  | ldc_w idx =>
    obtain ⟨hl, h⟩ := and2 h
    have hl : len = 3 := Nat.eq_of_beq_eq_true hl
    rw [hl] at hdg
    exact sLdc_ok hC hK hf (fun v hv lw rest ws kz => z_ldcw X hdg hv kz) h
  | ldc2_w idx =>
    obtain ⟨hl, h⟩ := and2 h
    have hl : len = 3 := Nat.eq_of_beq_eq_true hl
    rw [hl] at hdg
    exact sLdcL_ok X hdg hCl hK hf h
  | iload k =>
    obtain ⟨hl, h⟩ := and2 h
    have hl : len = 2 := Nat.eq_of_beq_eq_true hl
    rw [hl] at hdg
    exact sLoad_ok (by decide) hK (by rintro _ lw rest ws q hq ⟨a, rfl⟩ kz; exact z_iload X hdg q hq kz) h
  | lload k =>
    obtain ⟨hl, h⟩ := and2 h
    have hl : len = 2 := Nat.eq_of_beq_eq_true hl
    rw [hl] at hdg
    exact sLoad_ok (by decide) hK (by rintro _ lw rest ws q hq ⟨a, rfl⟩ kz; exact z_lload X hdg q hq kz) h
  | aload k =>
    obtain ⟨hl, h⟩ := and2 h
    have hl : len = 2 := Nat.eq_of_beq_eq_true hl
    rw [hl] at hdg
    exact sLoad_ok (by decide) hK (by rintro _ lw rest ws q hq ⟨a, rfl⟩ kz; exact z_aload X hdg q hq kz) h
  | iload_n k =>
    obtain ⟨hl, h⟩ := and2 h
    have hl : len = 1 := Nat.eq_of_beq_eq_true hl
    rw [hl] at hdg
    exact sLoad_ok (by decide) hK (by rintro _ lw rest ws q hq ⟨a, rfl⟩ kz; exact z_iload_n X hdg rfl q hq kz) h
  | lload_n k =>
    obtain ⟨hl, h⟩ := and2 h
    have hl : len = 1 := Nat.eq_of_beq_eq_true hl
    rw [hl] at hdg
    exact sLoad_ok (by decide) hK (by rintro _ lw rest ws q hq ⟨a, rfl⟩ kz; exact z_lload_n X hdg rfl q hq kz) h
  | aload_n k =>
    obtain ⟨hl, h⟩ := and2 h
    have hl : len = 1 := Nat.eq_of_beq_eq_true hl
    rw [hl] at hdg
    exact sLoad_ok (by decide) hK (by rintro _ lw rest ws q hq ⟨a, rfl⟩ kz; exact z_aload_n X hdg rfl q hq kz) h
  | istore k =>
    obtain ⟨hl, h⟩ := and2 h
    have hl : len = 2 := Nat.eq_of_beq_eq_true hl
    rw [hl] at hdg
    exact sStore_ok (by decide) hK (by rintro hn _ lw rest ws ⟨a, rfl⟩ kz; exact zst1 X hdg hn kz) h
  | istore_n k =>
    obtain ⟨hl, h⟩ := and2 h
    have hl : len = 1 := Nat.eq_of_beq_eq_true hl
    rw [hl] at hdg
    exact sStore_ok (by decide) hK (by rintro hn _ lw rest ws ⟨a, rfl⟩ kz; exact zst2 X hdg hn kz) h
  | astore k =>
    obtain ⟨hl, h⟩ := and2 h
    have hl : len = 2 := Nat.eq_of_beq_eq_true hl
    rw [hl] at hdg
    exact sStore_ok (by decide) hK (by rintro hn _ lw rest ws ⟨a, rfl⟩ kz; exact zst3 X hdg hn kz) h
  | astore_n k =>
    obtain ⟨hl, h⟩ := and2 h
    have hl : len = 1 := Nat.eq_of_beq_eq_true hl
    rw [hl] at hdg
    exact sStore_ok (by decide) hK (by rintro hn _ lw rest ws ⟨a, rfl⟩ kz; exact zst4 X hdg hn kz) h
  | lstore k =>
    obtain ⟨hl, h⟩ := and2 h
    have hl : len = 2 := Nat.eq_of_beq_eq_true hl
    rw [hl] at hdg
    exact sStore_ok (by decide) hK (by rintro hn _ lw rest ws ⟨a, rfl⟩ kz; exact zst5 X hdg hn kz) h
  | lstore_n k =>
    obtain ⟨hl, h⟩ := and2 h
    have hl : len = 1 := Nat.eq_of_beq_eq_true hl
    rw [hl] at hdg
    exact sStore_ok (by decide) hK (by rintro hn _ lw rest ws ⟨a, rfl⟩ kz; exact zst6 X hdg hn kz) h
  | iinc k n =>
    obtain ⟨hl, h⟩ := and2 h
    have hl : len = 3 := Nat.eq_of_beq_eq_true hl
    rw [hl] at hdg
    exact sInc_ok X hdg hK hf h
  | pop =>
    obtain ⟨hl, h⟩ := and2 h
    have hl : len = 1 := Nat.eq_of_beq_eq_true hl
    rw [hl] at hdg
    exact sPop_ok X hdg hK h
  | dup =>
    obtain ⟨hl, h⟩ := and2 h
    have hl : len = 1 := Nat.eq_of_beq_eq_true hl
    rw [hl] at hdg
    exact sDup_ok X hdg hK h
  | dup2 =>
    obtain ⟨hl, h⟩ := and2 h
    have hl : len = 1 := Nat.eq_of_beq_eq_true hl
    rw [hl] at hdg
    exact sDup2_ok X hdg hK h
  | getfield idx =>
    obtain ⟨hl, h⟩ := and2 h
    have hl : len = 3 := Nat.eq_of_beq_eq_true hl
    rw [hl] at hdg
    exact sGet_ok X hdg hF hK hf h
  | putfield idx =>
    obtain ⟨hl, h⟩ := and2 h
    have hl : len = 3 := Nat.eq_of_beq_eq_true hl
    rw [hl] at hdg
    exact sPut_ok X hdg hP hK h
  | iaload =>
    obtain ⟨hl, h⟩ := and2 h
    have hl : len = 1 := Nat.eq_of_beq_eq_true hl
    rw [hl] at hdg
    exact sAld_ok X (by decide) ⟨fun _ => hdg, fun q => absurd q (by decide), fun q => absurd q (by decide)⟩ hK hf h
  | laload =>
    obtain ⟨hl, h⟩ := and2 h
    have hl : len = 1 := Nat.eq_of_beq_eq_true hl
    rw [hl] at hdg
    exact sAld_ok X (by decide) ⟨fun q => absurd q (by decide), fun _ => hdg, fun q => absurd q (by decide)⟩ hK hf h
  | baload =>
    obtain ⟨hl, h⟩ := and2 h
    have hl : len = 1 := Nat.eq_of_beq_eq_true hl
    rw [hl] at hdg
    exact sAld_ok X (by decide) ⟨fun q => absurd q (by decide), fun q => absurd q (by decide), fun _ => hdg⟩ hK hf h
  | iastore =>
    obtain ⟨hl, h⟩ := and2 h
    have hl : len = 1 := Nat.eq_of_beq_eq_true hl
    rw [hl] at hdg
    exact sAst_ok X (by decide) ⟨fun _ => hdg, fun q => absurd q (by decide), fun q => absurd q (by decide)⟩ hK h
  | lastore =>
    obtain ⟨hl, h⟩ := and2 h
    have hl : len = 1 := Nat.eq_of_beq_eq_true hl
    rw [hl] at hdg
    exact sAst_ok X (by decide) ⟨fun q => absurd q (by decide), fun _ => hdg, fun q => absurd q (by decide)⟩ hK h
  | bastore =>
    obtain ⟨hl, h⟩ := and2 h
    have hl : len = 1 := Nat.eq_of_beq_eq_true hl
    rw [hl] at hdg
    exact sAst_ok X (by decide) ⟨fun q => absurd q (by decide), fun q => absurd q (by decide), fun _ => hdg⟩ hK h
  | aaload =>
    obtain ⟨hl, h⟩ := and2 h
    have hl : len = 1 := Nat.eq_of_beq_eq_true hl
    rw [hl] at hdg
    exact sAld3_ok X hdg hK hf h
  | if_icmp co off =>
    obtain ⟨hl, h⟩ := and2 h
    have hl : len = 3 := Nat.eq_of_beq_eq_true hl
    rw [hl] at hdg
    exact sBr_ok X hdg hK h
  | ifCond co off =>
    obtain ⟨hl, h⟩ := and2 h
    have hl : len = 3 := Nat.eq_of_beq_eq_true hl
    rw [hl] at hdg
    exact sBr0_ok X hdg hf hK h
  | lcmp =>
    obtain ⟨hl, h⟩ := and2 h
    have hl : len = 1 := Nat.eq_of_beq_eq_true hl
    rw [hl] at hdg
    cases hd0 : dlook tab (pc + 1) with
    | none => rw [hd0] at h; cases h
    | some z =>
      obtain ⟨i2, n2⟩ := z
      rw [hd0] at h
      have hd := htab _ (dlook_mem tab _ _ hd0)
      cases i2 with
      | ifCond co off =>
        obtain ⟨h1, h2⟩ := and2 h
        have h1 : n2 = 3 := Nat.eq_of_beq_eq_true h1
        have hd : decode cc (pc + 1) = .ok (.ifCond co off, n2) := hd
        rw [h1] at hd
        exact sBrL_ok X hdg hd hK h2
      | _ => cases h
  | arraylength =>
    obtain ⟨hl, h⟩ := and2 h
    have hl : len = 1 := Nat.eq_of_beq_eq_true hl
    rw [hl] at hdg
    exact sLen_ok X hdg hf hK h
  | ifnull off =>
    obtain ⟨hl, h⟩ := and2 h
    have hl : len = 3 := Nat.eq_of_beq_eq_true hl
    rw [hl] at hdg
    exact sNul_ok X ⟨fun _ => hdg, fun q => absurd q (by decide)⟩ hK h
  | ifnonnull off =>
    obtain ⟨hl, h⟩ := and2 h
    have hl : len = 3 := Nat.eq_of_beq_eq_true hl
    rw [hl] at hdg
    exact sNul_ok X ⟨fun q => absurd q (by decide), fun _ => hdg⟩ hK h
  | lookupswitch dflt ps =>
    exact sLook_ok X hdg hK h
  | goto off =>
    obtain ⟨hl, h⟩ := and2 h
    have hl : len = 3 := Nat.eq_of_beq_eq_true hl
    rw [hl] at hdg
    exact sGo_ok X hdg hK h
  | tableswitch dflt lo hi offs =>
    exact sTab_ok X hdg hK h
  | invokevirtual idx =>
    obtain ⟨hl, h⟩ := and2 h
    have hl : len = 3 := Nat.eq_of_beq_eq_true hl
    rw [hl] at hdg
    exact sCall_ok X hcal ⟨fun _ => hdg, fun q => absurd q (by decide)⟩ hkc hks hf hK h
  | invokestatic idx =>
    obtain ⟨hl, h⟩ := and2 h
    have hl : len = 3 := Nat.eq_of_beq_eq_true hl
    rw [hl] at hdg
    exact sCall_ok X hcal ⟨fun q => absurd q (by decide), fun _ => hdg⟩ hkc hks hf hK h
  | ireturn =>
    obtain ⟨hl, h⟩ := and2 h
    have hl : len = 1 := Nat.eq_of_beq_eq_true hl
    rw [hl] at hdg
    obtain ⟨h1, h⟩ := and2 h
    rw [Bool.or_eq_true] at h1
    have h1 : rk = 1 ∨ rk = 3 := h1.imp Nat.eq_of_beq_eq_true Nat.eq_of_beq_eq_true
    exact sRetQ_ok hQ X hrk ⟨fun q => by omega, fun _ => hdg, fun q => by omega⟩ hc hs hp1 hp2 hl1 hl2 hPO h
  | lreturn =>
    obtain ⟨hl, h⟩ := and2 h
    have hl : len = 1 := Nat.eq_of_beq_eq_true hl
    rw [hl] at hdg
    obtain ⟨h1, h⟩ := and2 h
    have h1 : rk = 2 := Nat.eq_of_beq_eq_true h1
    exact sRetQ_ok hQ X hrk ⟨fun q => by omega, fun q => by omega, fun _ => hdg⟩ hc hs hp1 hp2 hl1 hl2 hPO h
  | return_ =>
    obtain ⟨hl, h⟩ := and2 h
    have hl : len = 1 := Nat.eq_of_beq_eq_true hl
    rw [hl] at hdg
    obtain ⟨h1, h⟩ := and2 h
    have h1 : rk = 0 := Nat.eq_of_beq_eq_true h1
    exact sRetQ_ok hQ X hrk ⟨fun _ => hdg, fun q => by omega, fun q => by omega⟩ hc hs hp1 hp2 hl1 hl2 hPO h
  | ineg =>
    obtain ⟨hl, h⟩ := and2 h
    have hl : len = 1 := Nat.eq_of_beq_eq_true hl
    rw [hl] at hdg
    exact sUn_ok X hdg hK hf h
  | lneg =>
    obtain ⟨hl, h⟩ := and2 h
    have hl : len = 1 := Nat.eq_of_beq_eq_true hl
    rw [hl] at hdg
    exact sUn_ok X hdg hK hf h
  | i2l =>
    obtain ⟨hl, h⟩ := and2 h
    have hl : len = 1 := Nat.eq_of_beq_eq_true hl
    rw [hl] at hdg
    exact sUn_ok X hdg hK hf h
  | l2i =>
    obtain ⟨hl, h⟩ := and2 h
    have hl : len = 1 := Nat.eq_of_beq_eq_true hl
    rw [hl] at hdg
    exact sUn_ok X hdg hK hf h
  | i2b =>
    obtain ⟨hl, h⟩ := and2 h
    have hl : len = 1 := Nat.eq_of_beq_eq_true hl
    rw [hl] at hdg
    exact sUn_ok X hdg hK hf h
  | i2s =>
    obtain ⟨hl, h⟩ := and2 h
    have hl : len = 1 := Nat.eq_of_beq_eq_true hl
    rw [hl] at hdg
    exact sUn_ok X hdg hK hf h
  | _ =>
    obtain ⟨hl, h⟩ := and2 h
    have hl : len = 1 := Nat.eq_of_beq_eq_true hl
    rw [hl] at hdg
    exact sBin_ok X hdg hK hf h
end AZA
section AZB
variable {p : Program} {l : Launch} {e : Env} {R : Room} {s : State} {m : MethodId} {args : Array Value} {below : List Frame} {meth : Method} {c : Code} {nL : Nat} {G : KG} {A : Nat → Prop} {cc : ByteArray} {own : String} {ret : Option FieldType} {nm : String} {kc ks mc ms : Nat}
variable {ad : Nat → Nat} {T : List TE} {w0 : va_W} {pin : List (Nat × Value)} {C : CE} {μ : Nat → Value} {PO : Option Value → va_W → Prop}
variable {lv : ALv} {st : List Nat} {ev : AEv} {ca : ACa} {rl : ARl} {nx pc rk : Nat} {K : KT}
variable {hk : HKT}
variable {fld : List (Nat × Nat × Nat)} {put : List (Nat × Nat × Nat × Nat)} {cst cstl : List (Nat × Int)} {cal : List CAL}
variable {Q : State → Prop}
theorem aKQ_ok {cuts : List CUT} {pids : List Nat} {sr : Option (Int × List (Int × Nat))} {X : KT} (hcut : ∀ d pc σ, d ∈ cuts ∧ d.1 = pc → aarr pids sr d σ = true → AQ p l e R s m args below meth c nL G A Q kc ks ad T C.2.2.2.2.1 w0 pin σ pc) (hX : ∀ pc σ, X pc σ = true → AQ p l e R s m args below meth c nL G A Q kc ks ad T C.2.2.2.2.1 w0 pin σ pc) : ∀ pc σ, aK cuts pids sr X pc σ = true → AQ p l e R s m args below meth c nL G A Q kc ks ad T C.2.2.2.2.1 w0 pin σ pc := by
  intro pc σ h
  unfold aK at h
  cases hd : acutAt cuts pc with
  | none => rw [hd] at h; exact hX pc σ h
  | some d0 =>
    rw [hd] at h
    obtain ⟨d, d1, d2⟩ := List.any_eq_true.mp h
    obtain ⟨d2, d3⟩ := and2 d2
    exact hcut d pc σ ⟨d1, Nat.eq_of_beq_eq_true d2⟩ d3
theorem aexecQ_ok {tab : DT} (hQ : ∀ t, MQ below (QQ G A PO) args s mc ms A t → Q t) (htab : ∀ q ∈ tab, decode cc q.1 = .ok q.2) (X : ZC p s m args meth c cc nL own G A ret nm) (hR1 : C.2.2.2.2.2.1 = R.frames) (hR2 : C.2.2.2.2.2.2 = R.locals) (hhk : HOK l G T own cc nL ret C.2.2.2.2.2.1 C.2.2.2.2.2.2 hk) (hrk : RK rk ret) (hc : kc ≤ mc) (hs : ks ≤ ms) (hp1 : ∀ j, j < C.1.length → (j, μ j) ∈ pin) (hp2 : ∀ j, j < C.2.1.length → (100 + j, μ (100 + j)) ∈ pin) (hl1 : C.1.length ≤ 50) (hl2 : C.2.1.length ≤ 100) (hPO : ∀ r w1, POST G ad T C μ w0 r w1 → PO r w1)
    (hF : ∀ q ∈ fld, FL own q.1 q.2.1 q.2.2 ∨ FN own q.1 q.2.1 q.2.2) (hP : ∀ q ∈ put, PA own q.1 q.2.1 q.2.2.1 q.2.2.2) (hC : ∀ q ∈ cst, ∃ x : Int32, x.toInt = q.2 ∧ Jvm.Cond.constant own q.1 x ∈ BIG) (hCl : ∀ q ∈ cstl, ∃ x : Int64, x.toInt = q.2 ∧ Jvm.Cond.constantLong own q.1 x ∈ BIG) (hcal : ∀ q ∈ cal, COK l G own T q) (hkc : kc ≤ R.cells) (hks : ks ≤ R.slots)
    {cuts : List CUT} {pids : List Nat} {sr : Option (Int × List (Int × Nat))} (hcut : ∀ d pc σ, d ∈ cuts ∧ d.1 = pc → aarr pids sr d σ = true → AQ p l e R s m args below meth c nL G A Q kc ks ad T C.2.2.2.2.1 w0 pin σ pc) : ∀ (n pc : Nat) (σ : AS), aexec hk tab nL T fld put cst cstl cal rk C cuts pids sr n pc σ = true → AQ p l e R s m args below meth c nL G A Q kc ks ad T C.2.2.2.2.1 w0 pin σ pc
  | 0, pc, σ, h => by cases h
  | n + 1, pc, σ, h => by
    unfold aexec at h
    obtain ⟨hf, h⟩ := and2 h
    have ih := aexecQ_ok hQ htab X hR1 hR2 hhk hrk hc hs hp1 hp2 hl1 hl2 hPO hF hP hC hCl hcal hkc hks hcut n
    cases hh : hk pc σ with
    | some L =>
      rw [hh] at h
      exact hhk X hR1 hR2 hkc hks ad _ w0 pin pc σ L hf hh (fun q hq => aKQ_ok hcut ih _ _ (List.all_eq_true.mp h q hq))
    | none =>
      rw [hh] at h
      cases hd0 : dlook tab pc with
      | none => rw [hd0] at h; cases h
      | some z =>
        rw [hd0] at h
        have hd := htab _ (dlook_mem tab _ _ hd0)
        obtain ⟨i, len⟩ := z
        obtain ⟨lv, st, ev, ca, rl, nx⟩ := σ
        have h : sIns tab nL T C.2.2.2.2.1 fld put cst cstl cal C.2.2.2.2.2.1 C.2.2.2.2.2.2 rk C (aK cuts pids sr (aexec hk tab nL T fld put cst cstl cal rk C cuts pids sr n)) pc len i lv st ev ca rl nx = true := h
        rw [hR1, hR2] at h
        exact sInsQ_ok hQ X htab hd hrk hc hs hp1 hp2 hl1 hl2 hPO hF hP hC hCl hcal hkc hks hf (aKQ_ok hcut ih) h
set_option maxHeartbeats 1000000 in
/-- from a state to the exits -/
theorem asegQ {tab : DT} {cuts exs : List CUT} {pids : List Nat} {fuel : Nat} {σ : AS} (hQ : ∀ t, MQ below (QQ G A PO) args s mc ms A t → Q t) (htab : dtOK cc tab = true) (X : ZC p s m args meth c cc nL own G A ret nm) (hR1 : C.2.2.2.2.2.1 = R.frames) (hR2 : C.2.2.2.2.2.2 = R.locals) (hhk : HOK l G T own cc nL ret C.2.2.2.2.2.1 C.2.2.2.2.2.2 hk) (hrk : RK rk ret) (hc : kc ≤ mc) (hs : ks ≤ ms) (hp1 : ∀ j, j < C.1.length → (j, μ j) ∈ pin) (hp2 : ∀ j, j < C.2.1.length → (100 + j, μ (100 + j)) ∈ pin) (hPO : ∀ r w1, POST G ad T C μ w0 r w1 → PO r w1)
    (hF : ∀ q ∈ fld, FL own q.1 q.2.1 q.2.2 ∨ FN own q.1 q.2.1 q.2.2) (hP : ∀ q ∈ put, PA own q.1 q.2.1 q.2.2.1 q.2.2.2) (hC : ∀ q ∈ cst, ∃ x : Int32, x.toInt = q.2 ∧ Jvm.Cond.constant own q.1 x ∈ BIG) (hCl : ∀ q ∈ cstl, ∃ x : Int64, x.toInt = q.2 ∧ Jvm.Cond.constantLong own q.1 x ∈ BIG) (hcal : ∀ q ∈ cal, COK l G own T q) (hkc : kc ≤ R.cells) (hks : ks ≤ R.slots)
    (hpids : ∀ q ∈ pin, q.1 ∈ pids) (h : xcheckS hk tab nL T fld put cst cstl cal rk C cuts exs pids fuel pc σ = true)
    (hx : ∀ d ∈ exs, ∀ (ν : Nat → Value) (lw : List (Nat × Value)) (sw : List Value) (ws : va_W), AG G ad T C.2.2.2.2.1 w0 pin d.2.1 ν lw sw ws → Z p l e R s m args below meth c nL G A Q d.1 lw sw ws kc ks) : AQ p l e R s m args below meth c nL G A Q kc ks ad T C.2.2.2.2.1 w0 pin σ pc := by
  rw [xcheckS_eq] at h
  unfold acheckS at h
  obtain ⟨c1, h⟩ := and2 h
  obtain ⟨c2, h⟩ := and2 h
  obtain ⟨c5, h⟩ := and2 h
  obtain ⟨c6, h⟩ := and2 h
  have c1 := Nat.le_of_ble_eq_true c1
  have c2 := Nat.le_of_ble_eq_true c2
  have rp : ∀ d ∈ cuts ++ exs, rposB d = true := fun d hd => (List.mem_append.mp hd).elim (fun m1 => (and2 (List.all_eq_true.mp c5 d m1)).1) (fun m1 => List.all_eq_true.mp c6 d m1)
  have main : ∀ (N : Nat) (d : CUT), d ∈ cuts → ∀ (ν : Nat → Value) (lw : List (Nat × Value)) (sw : List Value) (ws : va_W), AG G ad T C.2.2.2.2.1 w0 pin d.2.1 ν lw sw ws → (d.2.2.1 - rsum d.2.2.2 ν).toNat < N → Z p l e R s m args below meth c nL G A Q d.1 lw sw ws kc ks := by
    intro N
    induction N with
    | zero => intro d _ ν lw sw ws _ h9; exact absurd h9 (Nat.not_lt_zero _)
    | succ N ih =>
      intro d hd ν lw sw ws hg hN
      have hdc := List.all_eq_true.mp c5 d hd
      obtain ⟨d1, d2⟩ := and2 hdc
      obtain ⟨d2, d3⟩ := and2 d2
      obtain ⟨pin', hpin'⟩ : ∃ pin' : List (Nat × Value), pin' = pin ++ d.2.2.2.map (fun q => (q.2, ν q.2)) := ⟨_, rfl⟩
      have hsub : ∀ q ∈ pin, q ∈ pin' := fun q hq => by rw [hpin']; exact List.mem_append_left _ hq
      have hg' : AG G ad T C.2.2.2.2.1 w0 pin' d.2.1 ν lw sw ws := by
        refine ⟨hg.1, hg.2.1, hg.2.2.1, hg.2.2.2.1, hg.2.2.2.2.1, hg.2.2.2.2.2.1, fun q hq => ?_, hg.2.2.2.2.2.2.2⟩
        rw [hpin'] at hq
        rcases List.mem_append.mp hq with hq | hq
        · exact hg.2.2.2.2.2.2.1 q hq
        · obtain ⟨z, hz, rfl⟩ := List.mem_map.mp hq
          exact ⟨blt_lt (List.all_eq_true.mp d2 z hz), rfl⟩
      refine aexecQ_ok hQ (dt_ok htab) (pin := pin') X hR1 hR2 hhk hrk hc hs (fun j hj => hsub _ (hp1 j hj)) (fun j hj => hsub _ (hp2 j hj)) c1 c2 hPO hF hP hC hCl hcal hkc hks ?_ fuel d.1 d.2.1 d3 ν lw sw ws hg'
      intro d' pc' σ hd' ha ν2 lw2 sw2 ws2 hg2
      obtain ⟨m1, m2⟩ := hd'
      obtain ⟨ν3, lw3, q1, q2, q3, q4⟩ := aarr_ok (hg2.weak hsub) hpids ha (rp d' m1)
      have q4 := q4 _ rfl
      have e1 : rsum d.2.2.2 ν2 = rsum d.2.2.2 ν := rsum_pin _ (fun z hz => by
        have := (hg2.2.2.2.2.2.2.1 (z.2, ν z.2) (by rw [hpin']; exact List.mem_append_right _ (List.mem_map.mpr ⟨z, hz, rfl⟩))).2
        exact this)
      have q4 : d'.2.2.1 - rsum d'.2.2.2 ν3 < d.2.2.1 - rsum d.2.2.2 ν2 := q4
      rw [e1] at q4
      rw [← m2]
      rcases List.mem_append.mp m1 with m1 | m1
      · exact Z.mono q2 (ih d' m1 ν3 lw3 sw2 ws2 q1 (by omega))
      · exact Z.mono q2 (hx d' m1 ν3 lw3 sw2 ws2 q1)
  have hcut0 : ∀ d pc σ, d ∈ cuts ++ exs ∧ d.1 = pc → aarr pids none d σ = true → AQ p l e R s m args below meth c nL G A Q kc ks ad T C.2.2.2.2.1 w0 pin σ pc := by
    intro d' pc' σ hd' ha ν2 lw2 sw2 ws2 hg2
    obtain ⟨m1, m2⟩ := hd'
    obtain ⟨ν3, lw3, q1, q2, -, -⟩ := aarr_ok hg2 hpids ha (rp d' m1)
    rw [← m2]
    rcases List.mem_append.mp m1 with m1 | m1
    · exact Z.mono q2 (main _ d' m1 ν3 lw3 sw2 ws2 q1 (Nat.lt_succ_self _))
    · exact Z.mono q2 (hx d' m1 ν3 lw3 sw2 ws2 q1)
  exact aexecQ_ok hQ (dt_ok htab) X hR1 hR2 hhk hrk hc hs hp1 hp2 c1 c2 hPO hF hP hC hCl hcal hkc hks hcut0 fuel pc σ h
end AZB
end
section
/-! next, enough: what they cost -/
section HLV
variable {l : Launch} {G : KG} {T : List TE} {cc : ByteArray} {nL : Nat} {ret : Option FieldType} {C : CE} {y : MethodName}
/-- from its start, in a room of one's own -/
theorem hand_ofV {rm : Room} {PV : PVT} {ad : Nat → Nat} {w0 : va_W} {μ : Nat → Value} (hW : WT G ad T w0) (hPre : PRE ad C μ w0) (hy : plainName y.cls = true) (c3 : aslots C.1 ≤ nL) (c4 : ∀ t ∈ C.1, t.1 ≤ 2) (c1 : C.1.length ≤ 50) (c2 : C.2.1.length ≤ 100)
    (body : ∀ (p : Program) (e : Env) (s : State) (m : MethodId) (args : Array Value) (below : List Frame) (meth : Method) (c : Code) (A : Nat → Prop), ZC p s m args meth c cc nL y.cls G A ret y.name → ∀ (lw : List (Nat × Value)), AG G ad T C.2.2.2.2.1 w0 (spin C μ) (ast0 C) μ lw [] w0 → Z p l e rm s m args below meth c nL G A (MQV below G PV args s A) 0 lw [] w0 0 0) : CtV l G y cc nL ret rm ((List.range C.1.length).map μ) w0 PV := by
  obtain ⟨r1, r2, r3⟩ := lv0_ok (μ := μ) (ad := ad) C.1 0 0 c4 (fun k t hk => by rw [Nat.zero_add]; exact hPre.1 k t hk)
  rw [List.range_eq_range']
  refine ctV_of _ hy (by rw [r3]; exact c3) rfl ?_
  intro p e s m args below meth c A X
  refine body p e s m args below meth c A X _ ⟨r1, rfl, r2, fun q hq => ?_, fun q hq => ?_, hPre.2.2, ?_, hW, rfl, fun k j _ => rfl⟩
  · rcases List.mem_append.mp hq with hq | hq
    · obtain ⟨z, hz, rfl⟩ := List.mem_map.mp hq
      exact hPre.1 z.2 z.1 (zipIdx_mem hz)
    · obtain ⟨z, hz, rfl⟩ := List.mem_map.mp hq
      exact (hPre.2.1 z.2 z.1 (zipIdx_mem hz)).1
  · obtain ⟨z, hz, rfl⟩ := List.mem_map.mp hq
    exact (hPre.2.1 z.2 z.1 (zipIdx_mem hz)).2
  · intro q hq
    rcases List.mem_append.mp hq with hq | hq
    · obtain ⟨j, hj, rfl⟩ := List.mem_map.mp hq
      have := List.mem_range.mp hj
      exact ⟨by show j < 1000; omega, rfl⟩
    · obtain ⟨j, hj, rfl⟩ := List.mem_map.mp hq
      have := List.mem_range.mp hj
      exact ⟨by show 100 + j < 1000; omega, rfl⟩
end HLV
/-- an int, and the class's world: as long as it was at no cost, or its pulls made -/
def vPO (G : KG) (x : Nat) (w0 : va_W) : PVT := fun k n r w1 => (∃ v : Int32, r = some (.int v)) ∧ ((k = 0 ∧ n = 0 ∧ w1.length = w0.length) ∨ (k = 7 ∧ n = 80434 ∧ w0.length = 109 ∧ w1.length = 116)) ∧ CWx G x w1 ∧ FX mk_nxe 109 w0 w1
theorem ac_nxV (l : Launch) (G : KG) {ad : Nat → Nat} {w0 : va_W} (a b : Int32) (hW : WT G ad TX w0) (hl : w0.length = 109) (hn : fget w0 0 15 = some .null) : CtV l G yX10_next cX10_next 5 (some .int) (rm_nx 7 80434) [.ref (ad 0), .int a, .int b] w0 (vPO G (ad 0) w0) := by
  obtain ⟨μ, hμ⟩ : ∃ q : Nat → Value, q = fun k => if k = 0 then .ref (ad 0) else if k = 1 then .int a else .int b := ⟨_, rfl⟩
  have m0 : μ 0 = .ref (ad 0) := by rw [hμ]; rfl
  have m1 : μ 1 = .int a := by rw [hμ]; rfl
  have m2 : μ 2 = .int b := by rw [hμ]; rfl
  have hpre : PRE ad C_nx μ w0 := by
    refine ⟨fun k t hk => ?_, fun k q hk => ?_, fun q hq => ?_⟩
    · match k, hk with
      | 0, hk => cases hk; rw [m0]; exact Or.inr (Or.inr (Or.inl ⟨rfl, rfl⟩))
      | 1, hk => cases hk; rw [m1]; exact vty_i0 _
      | 2, hk => cases hk; rw [m2]; exact vty_i0 _
      | N + 3, hk => cases hk
    · cases hk
    · cases hq
  have he : (List.range C_nx.1.length).map μ = [.ref (ad 0), .int a, .int b] := by show [μ 0, μ 1, μ 2] = _; rw [m0, m1, m2]
  rw [← he]
  refine hand_ofV (C := C_nx) (rm := rm_nx 7 80434) (PV := vPO G (ad 0) w0) hW hpre (by decide) (by decide) (by decide) (by decide) (by decide) ?_
  intro p e s m args below meth c A X lw hg
  have hPO : ∀ r w1, POST G ad TX sC_nxA μ w0 r w1 → vPO G (ad 0) w0 0 0 r w1 := by
    intro r w1 hp
    obtain ⟨A1, hA1, μ9, -, -, q3, -, -, -, q7, q8⟩ := hp
    have ee := List.mem_singleton.mp hA1
    subst ee
    obtain ⟨rr, r2⟩ := q3
    obtain ⟨v, ev', -⟩ := vty0 r2 rfl
    exact ⟨⟨v, by rw [rr, ev']⟩, Or.inl ⟨rfl, rfl, q8.1⟩, ⟨ad, rfl, Or.inl ⟨q7, q8.1.trans hl, fget_frame q8 (by decide) hn⟩⟩, FX.refl.frm q8 (by decide)⟩
  refine asegQ (Q := MQV below G (vPO G (ad 0) w0) args s A) (mc := 0) (ms := 0) (C := sC_nxA) (R := rm_nx 7 80434) (PO := vPO G (ad 0) w0 0 0) (fld := fld_10) (put := put_10) (cst := cst_10) (cstl := cstl_10) (hk := hk0) (tab := D_X10_next) (rk := 1) (pids := [0, 1, 2]) (mqv_of (fun _ _ h => h)) D_X10_next_ok X rfl rfl hok0 (Or.inr (Or.inl ⟨rfl, rfl⟩)) (Nat.zero_le _) (Nat.zero_le _) (spin1 (C := C_nx)) (spin2 (C := C_nx)) hPO fld_10_ok put_10_ok cst_10_ok cstl_10_ok (sl_nxA_ok l G) (Nat.zero_le _) (Nat.zero_le _) spin3 sg_nxA (fun d9 hd ν2 lw2 sw2 ws2 hg2 => ?_) μ lw [] w0 hg
  rw [List.mem_singleton.mp hd] at hg2 ⊢
  have h3 := hg2.2.2
  have e0 : ν2 0 = .ref (ad 0) := h3.ref (i := 0) rfl
  obtain ⟨v1, e1, p0, p1⟩ := h3.rng (i := 1) (a := 0) (b := 5) (by decide)
  obtain ⟨v2, e2, o0, o1⟩ := h3.rng (i := 2) (a := 1) (b := 4) (by decide)
  have el : lw2 = [(0, ν2 0), (1, ν2 1), (2, ν2 2)] := hg2.1
  have es : sw2 = [ν2 0] := hg2.2.1
  have hW2 := h3.2.2.2.2.2.1
  have hF2 := h3.2.2.2.2.2.2
  rw [el, es, e0, e1, e2]
  refine hcallV (T := TX) (k := 0) (rest := []) (avs := []) X k_10_264 (ac_gpN l G hW2 (hF2.1.trans hl) (fget_frame hF2 (by decide) hn)) d_nx_38 hW2 rfl rfl rfl rfl ⟨by decide, by decide⟩ ⟨Nat.le_of_ble_eq_true rfl, Nat.le_of_ble_eq_true rfl⟩ (by decide) rfl (fun r w1 hp => ?_)
  obtain ⟨ad', a1, rfl, a2, a3, a4⟩ := hp
  rw [← a1 0 (by decide)]
  exact Z.imp (mqv_of (k := 7) (n := 80434) (PO := vPO G (ad' 0) w0 7 80434) (fun _ _ h => h)) (nx_tail (ad := ad') X a2 a3 (by decide) (by decide) (Nat.le_refl _) (Nat.le_refl _) (Nat.le_refl _) (Nat.le_refl _) p0 p1 o0 o1 (fun v w2 g1 g2 g3 => ⟨⟨v, rfl⟩, Or.inr ⟨rfl, rfl, hl, g3.trans a4⟩, ⟨ad', rfl, Or.inr ⟨g1, g3.trans a4, g2.1⟩⟩, (FX.refl.frm hF2 (by decide)).trans g2.2⟩))
theorem ac_enV (l : Launch) (G : KG) {ad : Nat → Nat} {w0 : va_W} (a b d : Int32) (hW : WT G ad TX w0) (hl : w0.length = 109) (hn : fget w0 0 15 = some .null) : CtV l G yX10_enough cX10_enough 7 (some .int) (rm_en 7 80434) [.ref (ad 0), .int a, .int b, .int d] w0 (vPO G (ad 0) w0) := by
  obtain ⟨μ, hμ⟩ : ∃ q : Nat → Value, q = fun k => if k = 0 then .ref (ad 0) else if k = 1 then .int a else if k = 2 then .int b else .int d := ⟨_, rfl⟩
  have m0 : μ 0 = .ref (ad 0) := by rw [hμ]; rfl
  have m1 : μ 1 = .int a := by rw [hμ]; rfl
  have m2 : μ 2 = .int b := by rw [hμ]; rfl
  have m3 : μ 3 = .int d := by rw [hμ]; rfl
  have hpre : PRE ad C_en μ w0 := by
    refine ⟨fun k t hk => ?_, fun k q hk => ?_, fun q hq => ?_⟩
    · match k, hk with
      | 0, hk => cases hk; rw [m0]; exact Or.inr (Or.inr (Or.inl ⟨rfl, rfl⟩))
      | 1, hk => cases hk; rw [m1]; exact vty_i0 _
      | 2, hk => cases hk; rw [m2]; exact vty_i0 _
      | 3, hk => cases hk; rw [m3]; exact vty_i0 _
      | N + 4, hk => cases hk
    · cases hk
    · cases hq
  have he : (List.range C_en.1.length).map μ = [.ref (ad 0), .int a, .int b, .int d] := by show [μ 0, μ 1, μ 2, μ 3] = _; rw [m0, m1, m2, m3]
  rw [← he]
  refine hand_ofV (C := C_en) (rm := rm_en 7 80434) (PV := vPO G (ad 0) w0) hW hpre (by decide) (by decide) (by decide) (by decide) (by decide) ?_
  intro p e s m args below meth c A X lw hg
  have hPO : ∀ r w1, POST G ad TX sC_enA μ w0 r w1 → vPO G (ad 0) w0 0 0 r w1 := by
    intro r w1 hp
    obtain ⟨A1, hA1, μ9, -, -, q3, -, -, -, q7, q8⟩ := hp
    have ee := List.mem_singleton.mp hA1
    subst ee
    obtain ⟨rr, r2⟩ := q3
    obtain ⟨v, ev', -⟩ := vty0 r2 rfl
    exact ⟨⟨v, by rw [rr, ev']⟩, Or.inl ⟨rfl, rfl, q8.1⟩, ⟨ad, rfl, Or.inl ⟨q7, q8.1.trans hl, fget_frame q8 (by decide) hn⟩⟩, FX.refl.frm q8 (by decide)⟩
  refine asegQ (Q := MQV below G (vPO G (ad 0) w0) args s A) (mc := 0) (ms := 0) (C := sC_enA) (R := rm_en 7 80434) (PO := vPO G (ad 0) w0 0 0) (fld := fld_10) (put := put_10) (cst := cst_10) (cstl := cstl_10) (hk := hk0) (tab := D_X10_enough) (rk := 1) (pids := [0, 1, 2, 3]) (mqv_of (fun _ _ h => h)) D_X10_enough_ok X rfl rfl hok0 (Or.inr (Or.inl ⟨rfl, rfl⟩)) (Nat.zero_le _) (Nat.zero_le _) (spin1 (C := C_en)) (spin2 (C := C_en)) hPO fld_10_ok put_10_ok cst_10_ok cstl_10_ok (sl_enA_ok l G) (Nat.zero_le _) (Nat.zero_le _) spin3 sg_enA (fun d9 hd ν2 lw2 sw2 ws2 hg2 => ?_) μ lw [] w0 hg
  rw [List.mem_singleton.mp hd] at hg2 ⊢
  have h3 := hg2.2.2
  have e0 : ν2 0 = .ref (ad 0) := h3.ref (i := 0) rfl
  obtain ⟨v1, e1, p0, p1⟩ := h3.rng (i := 1) (a := 0) (b := 5) (by decide)
  obtain ⟨v2, e2, x0, x1⟩ := h3.rng (i := 2) (a := -60) (b := 60) (by decide)
  obtain ⟨v3, e3, y0, y1⟩ := h3.rng (i := 3) (a := -60) (b := 60) (by decide)
  have el : lw2 = [(0, ν2 0), (1, ν2 1), (2, ν2 2), (3, ν2 3)] := hg2.1
  have es : sw2 = [ν2 0] := hg2.2.1
  have hW2 := h3.2.2.2.2.2.1
  have hF2 := h3.2.2.2.2.2.2
  rw [el, es, e0, e1, e2, e3]
  refine hcallV (T := TX) (k := 0) (rest := []) (avs := []) X k_10_264 (ac_gpN l G hW2 (hF2.1.trans hl) (fget_frame hF2 (by decide) hn)) d_en_63 hW2 rfl rfl rfl rfl ⟨by decide, by decide⟩ ⟨Nat.le_of_ble_eq_true rfl, Nat.le_of_ble_eq_true rfl⟩ (by decide) rfl (fun r w1 hp => ?_)
  obtain ⟨ad', a1, rfl, a2, a3, a4⟩ := hp
  rw [← a1 0 (by decide)]
  exact Z.imp (mqv_of (k := 7) (n := 80434) (PO := vPO G (ad' 0) w0 7 80434) (fun _ _ h => h)) (en_tail (ad := ad') X a2 a3 (by decide) (by decide) (Nat.le_refl _) (Nat.le_refl _) (Nat.le_refl _) (Nat.le_refl _) p0 p1 x0 x1 y0 y1 (fun v w2 g1 g2 g3 => ⟨⟨v, rfl⟩, Or.inr ⟨rfl, rfl, hl, g3.trans a4⟩, ⟨ad', rfl, Or.inr ⟨g1, g3.trans a4, g2.1⟩⟩, (FX.refl.frm hF2 (by decide)).trans g2.2⟩))
theorem CWx.len {G : KG} {x : Nat} {w : va_W} (h : CWx G x w) : w.length = 109 ∨ w.length = 116 := by
  obtain ⟨ad, -, h⟩ := h
  exact h.imp (fun h => h.2.1) (fun h => h.2.1)
section LAWV
variable {p : Program} {l : Launch} {e : Env} {R : Room} {s : State} {m : MethodId} {args : Array Value} {below : List Frame} {meth : Method} {c : Code} {nL : Nat} {G : KG} {A : Nat → Prop} {Q : State → Prop} {cc : ByteArray} {own : String} {ret : Option FieldType} {nm : String} {kc ks pc : Nat} {lv : List (Nat × Value)} {st : List Value}
theorem cx_growV {idx mx n x : Nat} {y : MethodName} {cy : ByteArray} {rt : Option FieldType} {rN rR : Room} {As rest : List Value} {wx wc : va_W} (X : ZC p s m args meth c cc nL own G A ret nm) (K : LkV own idx RX10 y cy mx rt n)
    (hN : ∀ (ad : Nat → Nat) (w0 : va_W), WT G ad TX w0 → w0.length = 109 → fget w0 0 15 = some .null → CtV l G y cy mx rt rN (.ref (ad 0) :: As) w0 (vPO G (ad 0) w0))
    (hP : ∀ (ad : Nat → Nat) (w0 : va_W), WT G ad TXP w0 → w0.length = 116 → GC G w0 → Ct l G y cy mx rt rR (.ref (ad 0) :: As) w0 (iPO G (ad 0) w0))
    (hw : CWx G x wx) (hdg : decode cc pc = .ok (.invokevirtual idx, 3)) (hR1 : rN.frames + 1 ≤ R.frames ∧ 8 + (mx + 11) + rN.locals ≤ R.locals) (hR2 : rR.frames + 1 ≤ R.frames ∧ 8 + (mx + 11) + rR.locals ≤ R.locals) (hf1 : wx.length = 109 → kc + rN.cells ≤ R.cells ∧ ks + rN.slots ≤ R.slots) (hf2 : kc + rR.cells ≤ R.cells ∧ ks + rR.slots ≤ R.slots) (hr : rR.cells = 0 ∧ rR.slots = 0) (hn : As.length = n) (hst : st = As.reverse ++ .ref x :: rest) (hcat : (rest.map fun v => v.category).sum ≤ 8) (lz : lv_pick lv (List.range lv.length) = lv)
    (kk : ∀ (k n : Nat) (v : Int32) (wx' : va_W), CWx G x wx' → FX mk_nxe 109 wx wx' → ((k = 0 ∧ n = 0 ∧ wx'.length = wx.length) ∨ (k = 7 ∧ n = 80434 ∧ wx.length = 109 ∧ wx'.length = 116)) → Z p l e R s m args below meth c nL G A Q (pc + 3) lv (.int v :: rest) (wx' ++ wc) (kc + k) (ks + n)) : Z p l e R s m args below meth c nL G A Q pc lv st (wx ++ wc) kc ks := by
  obtain ⟨ad, e0, h⟩ := hw
  subst e0
  rcases h with ⟨hW, hl, hnull⟩ | ⟨hW, hl, hG⟩
  · obtain ⟨en, w1, fs, rfl, -⟩ := hW.2.1 0 _ rfl
    refine mid_callVV (wa := []) (wb := wx) (wc := wc) X K (hN ad wx hW hl hnull) hdg w1 rfl rfl hR1 (hf1 hl) hn hst hcat lz (fun k n r w2 hp => ?_)
    obtain ⟨⟨v, rfl⟩, h1, h2, h3⟩ := hp
    exact kk k n v w2 h2 h3 h1
  · obtain ⟨en, w1, fs, rfl, -⟩ := hW.2.1 0 _ rfl
    refine mid_callV (wa := []) (wb := wx) (wc := wc) X K (hP ad wx hW hl hG) hdg w1 rfl rfl hR2 hf2 hn hst hcat lz (fun r w2 hp => ?_)
    obtain ⟨⟨v, rfl⟩, h1, h2, h3⟩ := hp
    rw [hr.1, hr.2]
    refine kk 0 0 v w2 h2 h3 (Or.inl ⟨rfl, rfl, ?_⟩)
    rcases h2.len with h | h
    · omega
    · exact h.trans hl.symm
end LAWV
end
section
/-! the law: calls, with all that their contracts tell -/
/-- what a contract tells of its end, of cells below n -/
def PZ (ad : Nat → Nat) (C : CE) (n : Nat) (μ : Nat → Value) (w0 : va_W) (r : Option Value) (w1 : va_W) : Prop :=
  ∃ A ∈ C.2.2.2.1, ∃ μ' : Nat → Value, (∀ i, i < 50 → μ' i = μ i) ∧ (∀ i, 100 ≤ i → i < 200 → μ' i = μ i) ∧ resOK ad A.1 r (μ' 50) ∧ (∀ q ∈ A.2.1, vty ad q.2 (μ' q.1)) ∧ (∀ k q, A.2.2.1[k]? = some q → vty ad q.2.2 (μ' (200 + k)) ∧ fget w1 q.1 q.2.1 = some (μ' (200 + k))) ∧ (∀ q ∈ A.2.2.2, vI (μ' q.1) ≤ vI (μ' q.2.1) + q.2.2) ∧ FX C.2.2.2.2.1 n w0 w1
theorem pz_of {G : KG} {ad : Nat → Nat} {T : List TE} {C : CE} {n : Nat} {μ : Nat → Value} {w0 w1 : va_W} {r : Option Value} (h : POST G ad T C μ w0 r w1) : PZ ad C n μ w0 r w1 := by
  obtain ⟨A1, hA1, μ2, p1, p2, q3, q4, q5, q6, q7, q8⟩ := h
  exact ⟨A1, hA1, μ2, p1, p2, q3, q4, q5, q6, fun k j _ hM => q8.2 k j hM⟩
def posL (n : Nat) (C : CE) : Bool := C.2.2.2.1.all (fun A => A.2.2.1.all (fun q => Nat.blt q.1 n))
theorem fget_app {w wc : va_W} {k j : Nat} (h : k < w.length) : fget (w ++ wc) k j = fget w k j := by
  unfold fget
  rw [List.getElem?_append_left h]
theorem pz_app {ad : Nat → Nat} {C : CE} {μ : Nat → Value} {w0 w1 wc : va_W} {r : Option Value} (h : PZ ad C 109 μ w0 r w1) (hC : posL 109 C = true) (h0 : w0.length = 109) (h1 : w1.length = 109) : PZ ad C 109 μ (w0 ++ wc) r (w1 ++ wc) := by
  obtain ⟨A1, hA1, μ2, p1, p2, q3, q4, q5, q6, q7⟩ := h
  refine ⟨A1, hA1, μ2, p1, p2, q3, q4, fun k q hk => ⟨(q5 k q hk).1, ?_⟩, q6, fx_app q7 (by omega) (by omega)⟩
  have hq := blt_lt (List.all_eq_true.mp (List.all_eq_true.mp hC A1 hA1) q (List.mem_of_getElem? hk))
  rw [fget_app (by omega)]
  exact (q5 k q hk).2
theorem pz_rt {ad : Nat → Nat} {C : CE} {n : Nat} {μ : Nat → Value} {w0 w1 : va_W} {r : Option Value} {k : Nat} (h : PZ ad C n μ w0 r w1) (hk : C.2.2.2.1.all (fun A => Nat.beq (rtag A.1) k) = true) (h2 : k = 9 ∨ k = 0 ∨ k = 1) : RT k r := by
  obtain ⟨A1, hA1, μ2, -, -, q3, -⟩ := h
  have h3 := Nat.eq_of_beq_eq_true (List.all_eq_true.mp hk A1 hA1)
  cases h4 : A1.1 with
  | none =>
    rw [h4] at h3 q3
    have h3 : 9 = k := h3
    exact Or.inl ⟨h3.symm, q3⟩
  | some t =>
    rw [h4] at h3 q3
    have h3 : t.1 = k := h3
    obtain ⟨r1, r2⟩ := q3
    rcases h2 with e | e | e
    · exfalso
      rcases r2 with ⟨h, -⟩ | ⟨h, -⟩ | ⟨h, -⟩ | ⟨h, -⟩ <;> omega
    · obtain ⟨x, ex, -⟩ := vty0 r2 (h3.trans e)
      exact Or.inr (Or.inl ⟨e, x, by rw [r1, ex]⟩)
    · obtain ⟨x, ex, -⟩ := vty1 r2 (h3.trans e)
      exact Or.inr (Or.inr ⟨e, x, by rw [r1, ex]⟩)
theorem pz_fx {ad : Nat → Nat} {C : CE} {n : Nat} {μ : Nat → Value} {w0 w1 : va_W} {r : Option Value} (h : PZ ad C n μ w0 r w1) : FX C.2.2.2.2.1 n w0 w1 := by
  obtain ⟨A1, hA1, μ2, -, -, -, -, -, -, q7⟩ := h
  exact q7
section LAW1
variable {p : Program} {l : Launch} {e : Env} {R : Room} {s : State} {m : MethodId} {args : Array Value} {below : List Frame} {meth : Method} {c : Code} {nL : Nat} {G : KG} {A : Nat → Prop} {Q : State → Prop} {cc : ByteArray} {own : String} {ret : Option FieldType} {nm : String} {kc ks pc : Nat} {lv : List (Nat × Value)} {st : List Value}
theorem cx_callP {idx mx n x : Nat} {y : MethodName} {cy : ByteArray} {rt : Option FieldType} {C : CE} {As rest : List Value} {wx wc : va_W} {μ : Nat → Value} (X : ZC p s m args meth c cc nL own G A ret nm) (K : LkV own idx RX10 y cy mx rt n) (hA : ACt l G TX y cy mx rt C) (hm : (mkq C.2.2.2.2.1 0 15 = false) ∧ posL 109 C = true) (hw : CWx G x wx) (hpre : ∀ (ad : Nat → Nat) (w0 : va_W), ad 0 = x → (∀ k j, k < 109 → fget w0 k j = fget wx k j) → PRE ad C μ w0) (hmap : (List.range C.1.length).map μ = .ref x :: As) (hdg : decode cc pc = .ok (.invokevirtual idx, 3)) (hR : C.2.2.2.2.2.1 + 1 ≤ R.frames ∧ 8 + (mx + 11) + C.2.2.2.2.2.2 ≤ R.locals) (hf : kc ≤ R.cells ∧ ks ≤ R.slots) (hn : As.length = n) (hst : st = As.reverse ++ .ref x :: rest) (hcat : (rest.map fun v => v.category).sum ≤ 8) (lz : lv_pick lv (List.range lv.length) = lv)
    (kk : ∀ (ad : Nat → Nat) (r : Option Value) (wx' : va_W), PZ ad C 109 μ wx r wx' → CWx G x wx' → wx'.length = wx.length → Z p l e R s m args below meth c nL G A Q (pc + 3) lv (r.toList ++ rest) (wx' ++ wc) kc ks) : Z p l e R s m args below meth c nL G A Q pc lv st (wx ++ wc) kc ks := by
  obtain ⟨ad, e0, h⟩ := hw
  rcases h with ⟨hW, hl, hnull⟩ | ⟨hW, hl, hG⟩
  · have h1 := hpre ad wx e0 (fun _ _ _ => rfl)
    have hct := hA ad wx μ hW h1
    rw [hmap] at hct
    obtain ⟨en, w1, fs, rfl, -⟩ := hW.2.1 0 _ rfl
    rw [e0] at w1
    refine mid_callV (wa := []) (wb := wx) (wc := wc) X K hct hdg w1 rfl rfl hR hf hn hst hcat lz (fun r w2 hp => ?_)
    have hz : PZ ad C 109 μ wx r w2 := pz_of hp
    obtain ⟨-, -, μ2, -, -, -, -, -, -, q7, q8⟩ := hp
    exact kk ad r w2 hz ⟨ad, e0, Or.inl ⟨q7, q8.1.trans hl, fget_frame q8 hm.1 hnull⟩⟩ q8.1
  · have hWt := wt_take hW hl
    have hlt : (wx.take 109).length = 109 := by rw [List.length_take, hl]; rfl
    have h1 := hpre ad (wx.take 109) e0 (fun k j hk => by
      unfold fget
      rw [List.getElem?_take_of_lt hk])
    have hct := hA ad (wx.take 109) μ hWt h1
    rw [hmap] at hct
    obtain ⟨en, w1, fs, rfl, -⟩ := hWt.2.1 0 _ rfl
    rw [e0] at w1
    have ew : wx ++ wc = [] ++ wx.take 109 ++ (wx.drop 109 ++ wc) := by rw [List.nil_append, ← List.append_assoc, List.take_append_drop]
    rw [ew]
    refine mid_callV (wa := []) (wb := wx.take 109) (wc := wx.drop 109 ++ wc) X K hct hdg w1 rfl rfl hR hf hn hst hcat lz (fun r w2 hp => ?_)
    have hz0 : PZ ad C 109 μ (wx.take 109) r w2 := pz_of hp
    obtain ⟨-, -, μ2, -, -, -, -, -, -, q7, q8⟩ := hp
    have hl2 : w2.length = 109 := q8.1.trans hlt
    have hz := pz_app (wc := wx.drop 109) hz0 hm.2 hlt hl2
    rw [List.take_append_drop] at hz
    have hpl : fget (wx.take 109) 0 15 = some (.ref (ad 109)) := by
      have h5 : fget wx 0 15 = some (.ref (ad 109)) := fget_ref hW rfl rfl
      unfold fget at h5 ⊢
      rw [List.getElem?_take_of_lt (by decide)]
      exact h5
    have hj := wt_join q7 hl2 (fget_frame q8 hm.1 hpl) hW hl
    have hlj : (w2 ++ wx.drop 109).length = 116 := by rw [List.length_append, hl2, List.length_drop, hl]
    have hGj : GC G (w2 ++ wx.drop 109) := by
      obtain ⟨a, f, g1, g2⟩ := hG
      exact ⟨a, f, by rw [List.getElem?_append_right (by omega), hl2, List.getElem?_drop]; exact g1, g2⟩
    have h9 := kk ad r (w2 ++ wx.drop 109) hz ⟨ad, e0, Or.inr ⟨hj, hlj, hGj⟩⟩ (hlj.trans hl.symm)
    rw [List.append_assoc] at h9
    exact h9
theorem mx_callP {idx mx n x : Nat} {y : MethodName} {cy : ByteArray} {rt : Option FieldType} {C : CE} {As rest : List Value} {wa wm wc : va_W} {μ : Nat → Value} (X : ZC p s m args meth c cc nL own G A ret nm) (K : LkV own idx RX11 y cy mx rt n) (hA : ACt l G TM y cy mx rt C) (hw : MWx G x wm) (hpre : ∀ (ad : Nat → Nat), ad 0 = x → PRE ad C μ wm) (hmap : (List.range C.1.length).map μ = .ref x :: As) (hdg : decode cc pc = .ok (.invokevirtual idx, 3)) (hR : C.2.2.2.2.2.1 + 1 ≤ R.frames ∧ 8 + (mx + 11) + C.2.2.2.2.2.2 ≤ R.locals) (hf : kc ≤ R.cells ∧ ks ≤ R.slots) (hn : As.length = n) (hst : st = As.reverse ++ .ref x :: rest) (hcat : (rest.map fun v => v.category).sum ≤ 8) (lz : lv_pick lv (List.range lv.length) = lv)
    (kk : ∀ (ad : Nat → Nat) (r : Option Value) (wm' : va_W), PZ ad C 47 μ wm r wm' → MWx G x wm' → Z p l e R s m args below meth c nL G A Q (pc + 3) lv (r.toList ++ rest) (wa ++ wm' ++ wc) kc ks) : Z p l e R s m args below meth c nL G A Q pc lv st (wa ++ wm ++ wc) kc ks := by
  obtain ⟨ad, e0, hW⟩ := hw
  have hct := hA ad wm μ hW (hpre ad e0)
  rw [hmap] at hct
  obtain ⟨en, w1, fs, rfl, -⟩ := hW.2.1 0 _ rfl
  rw [e0] at w1
  refine mid_callV X K hct hdg w1 rfl rfl hR hf hn hst hcat lz (fun r w2 hp => ?_)
  have hz : PZ ad C 47 μ wm r w2 := pz_of hp
  obtain ⟨-, -, μ2, -, -, -, -, -, -, q7, q8⟩ := hp
  exact kk ad r w2 hz ⟨ad, e0, q7⟩
/-- simple arguments: those of its types -/
theorem cx_callF {idx mx n x k : Nat} {y : MethodName} {cy : ByteArray} {rt : Option FieldType} {C : CE} {As rest : List Value} {wx wc : va_W} (X : ZC p s m args meth c cc nL own G A ret nm) (K : LkV own idx RX10 y cy mx rt n) (hA : ACt l G TX y cy mx rt C) (hm : (mkq C.2.2.2.2.1 0 15 = false) ∧ posL 109 C = true) (hkr : C.2.2.2.1.all (fun A => Nat.beq (rtag A.1) k) = true) (hk3 : k = 9 ∨ k = 0 ∨ k = 1) (hw : CWx G x wx) {μ : Nat → Value} (hpre : ∀ (ad : Nat → Nat) (w0 : va_W), ad 0 = x → PRE ad C μ w0) (hmap : (List.range C.1.length).map μ = .ref x :: As) (hdg : decode cc pc = .ok (.invokevirtual idx, 3)) (hR : C.2.2.2.2.2.1 + 1 ≤ R.frames ∧ 8 + (mx + 11) + C.2.2.2.2.2.2 ≤ R.locals) (hf : kc ≤ R.cells ∧ ks ≤ R.slots) (hn : As.length = n) (hst : st = As.reverse ++ .ref x :: rest) (hcat : (rest.map fun v => v.category).sum ≤ 8) (lz : lv_pick lv (List.range lv.length) = lv)
    (kk : ∀ (r : Option Value) (wx' : va_W), RT k r → CWx G x wx' → wx'.length = wx.length → FX C.2.2.2.2.1 109 wx wx' → Z p l e R s m args below meth c nL G A Q (pc + 3) lv (r.toList ++ rest) (wx' ++ wc) kc ks) : Z p l e R s m args below meth c nL G A Q pc lv st (wx ++ wc) kc ks :=
  cx_callP X K hA hm hw (fun ad w0 he _ => hpre ad w0 he) hmap hdg hR hf hn hst hcat lz (fun ad r wx' hz hx' hl' => kk r wx' (pz_rt hz hkr hk3) hx' hl' (pz_fx hz))
theorem mx_callF {idx mx n x k : Nat} {y : MethodName} {cy : ByteArray} {rt : Option FieldType} {C : CE} {As rest : List Value} {wa wm wc : va_W} (X : ZC p s m args meth c cc nL own G A ret nm) (K : LkV own idx RX11 y cy mx rt n) (hA : ACt l G TM y cy mx rt C) (hkr : C.2.2.2.1.all (fun A => Nat.beq (rtag A.1) k) = true) (hk3 : k = 9 ∨ k = 0 ∨ k = 1) (hw : MWx G x wm) {μ : Nat → Value} (hpre : ∀ (ad : Nat → Nat) (w0 : va_W), ad 0 = x → PRE ad C μ w0) (hmap : (List.range C.1.length).map μ = .ref x :: As) (hdg : decode cc pc = .ok (.invokevirtual idx, 3)) (hR : C.2.2.2.2.2.1 + 1 ≤ R.frames ∧ 8 + (mx + 11) + C.2.2.2.2.2.2 ≤ R.locals) (hf : kc ≤ R.cells ∧ ks ≤ R.slots) (hn : As.length = n) (hst : st = As.reverse ++ .ref x :: rest) (hcat : (rest.map fun v => v.category).sum ≤ 8) (lz : lv_pick lv (List.range lv.length) = lv)
    (kk : ∀ (r : Option Value) (wm' : va_W), RT k r → MWx G x wm' → FX C.2.2.2.2.1 47 wm wm' → Z p l e R s m args below meth c nL G A Q (pc + 3) lv (r.toList ++ rest) (wa ++ wm' ++ wc) kc ks) : Z p l e R s m args below meth c nL G A Q pc lv st (wa ++ wm ++ wc) kc ks :=
  mx_callP X K hA hw (fun ad he => hpre ad wm he) hmap hdg hR hf hn hst hcat lz (fun ad r wm' hz hy' => kk r wm' (pz_rt hz hkr hk3) hy' (pz_fx hz))
theorem cx_callG {idx mx n x : Nat} {y : MethodName} {cy : ByteArray} {rt : Option FieldType} {rm : Room} {m0 : List (Nat × Nat)} {Ψ : Option Value → va_W → Prop} {As rest : List Value} {wx wc : va_W} (X : ZC p s m args meth c cc nL own G A ret nm) (K : LkV own idx RX10 y cy mx rt n) (hM : ∀ (ad : Nat → Nat) (w0 : va_W), WT G ad TX w0 → (∀ k j, k < 109 → cget w0 k j = cget wx k j) → Ct l G y cy mx rt rm (.ref (ad 0) :: As) w0 (fun r w1 => WT G ad TX w1 ∧ FRM m0 w0 w1 ∧ Ψ r w1)) (hrm : rm.cells = 0 ∧ rm.slots = 0) (hm : mkq m0 0 15 = false) (hΨ : ∀ r w1 wc, w1.length = 109 → Ψ r w1 → Ψ r (w1 ++ wc)) (hw : CWx G x wx) (hdg : decode cc pc = .ok (.invokevirtual idx, 3)) (hR : rm.frames + 1 ≤ R.frames ∧ 8 + (mx + 11) + rm.locals ≤ R.locals) (hf : kc ≤ R.cells ∧ ks ≤ R.slots) (hn : As.length = n) (hst : st = As.reverse ++ .ref x :: rest) (hcat : (rest.map fun v => v.category).sum ≤ 8) (lz : lv_pick lv (List.range lv.length) = lv)
    (kk : ∀ (r : Option Value) (wx' : va_W), Ψ r wx' → CWx G x wx' → wx'.length = wx.length → FX m0 109 wx wx' → Z p l e R s m args below meth c nL G A Q (pc + 3) lv (r.toList ++ rest) (wx' ++ wc) kc ks) : Z p l e R s m args below meth c nL G A Q pc lv st (wx ++ wc) kc ks := by
  obtain ⟨ad, e0, h⟩ := hw
  subst e0
  have hf2 : kc + rm.cells ≤ R.cells ∧ ks + rm.slots ≤ R.slots := by rw [hrm.1, hrm.2]; exact hf
  rcases h with ⟨hW, hl, hnull⟩ | ⟨hW, hl, hG⟩
  · have hct := hM ad wx hW (fun _ _ _ => rfl)
    obtain ⟨en, w1, fs, rfl, -⟩ := hW.2.1 0 _ rfl
    refine mid_callV (wa := []) (wb := wx) (wc := wc) X K hct hdg w1 rfl rfl hR hf2 hn hst hcat lz (fun r w2 hp => ?_)
    obtain ⟨q7, q8, q9⟩ := hp
    have h9 := kk r w2 q9 ⟨ad, rfl, Or.inl ⟨q7, q8.1.trans hl, fget_frame q8 hm hnull⟩⟩ q8.1 (fun k j _ hM => q8.2 k j hM)
    rw [hrm.1, hrm.2]
    exact h9
  · have hWt := wt_take hW hl
    have hlt : (wx.take 109).length = 109 := by rw [List.length_take, hl]; rfl
    have hct := hM ad (wx.take 109) hWt (fun k j hk => by
      unfold cget
      rw [List.getElem?_take_of_lt hk])
    obtain ⟨en, w1, fs, rfl, -⟩ := hWt.2.1 0 _ rfl
    have ew : wx ++ wc = [] ++ wx.take 109 ++ (wx.drop 109 ++ wc) := by rw [List.nil_append, ← List.append_assoc, List.take_append_drop]
    rw [ew]
    refine mid_callV (wa := []) (wb := wx.take 109) (wc := wx.drop 109 ++ wc) X K hct hdg w1 rfl rfl hR hf2 hn hst hcat lz (fun r w2 hp => ?_)
    obtain ⟨q7, q8, q9⟩ := hp
    have hl2 : w2.length = 109 := q8.1.trans hlt
    have hpl : fget (wx.take 109) 0 15 = some (.ref (ad 109)) := by
      have h5 : fget wx 0 15 = some (.ref (ad 109)) := fget_ref hW rfl rfl
      unfold fget at h5 ⊢
      rw [List.getElem?_take_of_lt (by decide)]
      exact h5
    have hj := wt_join q7 hl2 (fget_frame q8 hm hpl) hW hl
    have hlj : (w2 ++ wx.drop 109).length = 116 := by rw [List.length_append, hl2, List.length_drop, hl]
    have hGj : GC G (w2 ++ wx.drop 109) := by
      obtain ⟨a, f, g1, g2⟩ := hG
      exact ⟨a, f, by rw [List.getElem?_append_right (by omega), hl2, List.getElem?_drop]; exact g1, g2⟩
    have hfx : FX m0 109 wx (w2 ++ wx.drop 109) := by
      have h0 : FX m0 109 (wx.take 109 ++ wx.drop 109) (w2 ++ wx.drop 109) := fx_app (fun k j _ hM => q8.2 k j hM) (by omega) (by omega)
      rw [List.take_append_drop] at h0
      exact h0
    have h9 := kk r (w2 ++ wx.drop 109) (hΨ _ _ _ hl2 q9) ⟨ad, rfl, Or.inr ⟨hj, hlj, hGj⟩⟩ (hlj.trans hl.symm) hfx
    rw [List.append_assoc] at h9
    rw [hrm.1, hrm.2]
    exact h9
theorem mx_callG {idx mx n x : Nat} {y : MethodName} {cy : ByteArray} {rt : Option FieldType} {rm : Room} {m0 : List (Nat × Nat)} {Ψ : Option Value → va_W → Prop} {As rest : List Value} {wa wm wc : va_W} (X : ZC p s m args meth c cc nL own G A ret nm) (K : LkV own idx RX11 y cy mx rt n) (hM : ∀ (ad : Nat → Nat), WT G ad TM wm → Ct l G y cy mx rt rm (.ref (ad 0) :: As) wm (fun r w1 => WT G ad TM w1 ∧ FRM m0 wm w1 ∧ Ψ r w1)) (hrm : rm.cells = 0 ∧ rm.slots = 0) (hw : MWx G x wm) (hdg : decode cc pc = .ok (.invokevirtual idx, 3)) (hR : rm.frames + 1 ≤ R.frames ∧ 8 + (mx + 11) + rm.locals ≤ R.locals) (hf : kc ≤ R.cells ∧ ks ≤ R.slots) (hn : As.length = n) (hst : st = As.reverse ++ .ref x :: rest) (hcat : (rest.map fun v => v.category).sum ≤ 8) (lz : lv_pick lv (List.range lv.length) = lv)
    (kk : ∀ (r : Option Value) (wm' : va_W), Ψ r wm' → MWx G x wm' → FX m0 47 wm wm' → Z p l e R s m args below meth c nL G A Q (pc + 3) lv (r.toList ++ rest) (wa ++ wm' ++ wc) kc ks) : Z p l e R s m args below meth c nL G A Q pc lv st (wa ++ wm ++ wc) kc ks := by
  obtain ⟨ad, e0, hW⟩ := hw
  subst e0
  have hct := hM ad hW
  obtain ⟨en, w1, fs, rfl, -⟩ := hW.2.1 0 _ rfl
  refine mid_callV X K hct hdg w1 rfl rfl hR (by rw [hrm.1, hrm.2]; exact hf) hn hst hcat lz (fun r w2 hp => ?_)
  obtain ⟨q7, q8, q9⟩ := hp
  rw [hrm.1, hrm.2]
  exact kk r w2 q9 ⟨ad, rfl, q7⟩ (fun k j _ hM => q8.2 k j hM)
end LAW1
section LAW3F
variable {p : Program} {l : Launch} {e : Env} {R : Room} {s : State} {m : MethodId} {args : Array Value} {below : List Frame} {meth : Method} {c : Code} {nL : Nat} {G : KG} {A : Nat → Prop} {Q : State → Prop} {cc : ByteArray} {own : String} {ret : Option FieldType} {nm : String} {kc ks pc : Nat} {lv : List (Nat × Value)} {st : List Value}
theorem sx_callF {idx mx n x oa : Nat} {y : MethodName} {cy : ByteArray} {rt : Option FieldType} {hh : List (Nat × Nat × Nat × Nat)} {rm : Room} {As rest : List Value} {wx wm : va_W} {f : Nat → Int64} (X : ZC p s m args meth c cc nL own G A ret nm) (K : LkSW own idx y cy mx rt hh n) (hE : EXs A s s.heap)
    (hM : ∀ (ad : Nat → Nat) (w0 : va_W), WT G ad TX w0 → w0.length = 109 → ad 0 = x → CtW l G y cy mx rt hh rm As (w0 ++ [(oa, aJ G 1 f)]) (LHpo G ad w0 oa)) (hw : CWx G x wx) (hdg : decode cc pc = .ok (.invokestatic idx, 3)) (hR : rm.frames + 1 ≤ R.frames ∧ 8 + (mx + 11) + rm.locals ≤ R.locals) (hf : kc + rm.cells ≤ R.cells ∧ ks + rm.slots ≤ R.slots) (hn : As.length = n) (hst : st = As.reverse ++ rest) (hcat : (rest.map fun v => v.category).sum ≤ 8) (lz : lv_pick lv (List.range lv.length) = lv)
    (kk : ∀ (v : Int32) (wx' : va_W) (f' : Nat → Int64), CWx G x wx' → wx'.length = wx.length → FX [] 109 wx wx' → Z p l e R s m args below meth c nL G A Q (pc + 3) lv (.int v :: rest) (wx' ++ wm ++ [(oa, aJ G 1 f')]) (kc + rm.cells) (ks + rm.slots)) : Z p l e R s m args below meth c nL G A Q pc lv st (wx ++ wm ++ [(oa, aJ G 1 f)]) kc ks := by
  obtain ⟨ad, e0, h⟩ := hw
  have main : ∀ (wb : va_W) (wt : va_W), WT G ad TX wt → wt.length = 109 → wx = wt ++ wb → (∀ w1, Wsame G ad wt w1 → CWx G x (w1 ++ wb)) → Z p l e R s m args below meth c nL G A Q pc lv st (wx ++ wm ++ [(oa, aJ G 1 f)]) kc ks := by
    intro wb wt hWt hlt ew hback
    have e1 : wx ++ wm ++ [(oa, aJ G 1 f)] = wt ++ (wb ++ wm) ++ [(oa, aJ G 1 f)] := by rw [ew]; simp only [List.append_assoc]
    rw [e1]
    refine z_callSX (wr := wb ++ wm) X K (hM ad wt hWt hlt e0) hE hdg hR hf hn hst hcat (List.range wt.length ++ List.range' (wt.length + (wb ++ wm).length) [(oa, aJ G 1 f)].length) (List.range' wt.length (wb ++ wm).length) (sh_rest wt (wb ++ wm) _) (sh_nd _ _ _ (Nat.le_add_right _ _)) (sh_pick wt (wb ++ wm) _) (va_nd_of _ List.nodup_range') (sh_dis2 _ _ _) (fun r w hp => ?_)
    obtain ⟨⟨v, rfl⟩, f', w1, rfl, hs⟩ := hp
    have h9 := kk v (w1 ++ wb) f' (hback w1 hs) (by rw [ew, List.length_append, List.length_append, hs.2.1]) (by rw [ew]; exact fx_app (FX.refl.frm hs.2 rfl) (by omega) (by rw [hs.2.1]; omega))
    have e2 : w1 ++ wb ++ wm ++ [(oa, aJ G 1 f')] = [] ++ w1 ++ (wb ++ wm ++ [(oa, aJ G 1 f')]) := by simp only [List.append_assoc, List.nil_append]
    have e3 : wb ++ wm ++ ([(oa, aJ G 1 f')] ++ w1) = [] ++ (wb ++ wm ++ [(oa, aJ G 1 f')]) ++ w1 := by simp only [List.append_assoc, List.nil_append]
    rw [e2] at h9
    rw [e3]
    exact Z.mid lz h9
  rcases h with ⟨hW, hl, hnull⟩ | ⟨hW, hl, hG⟩
  · refine main [] wx hW hl (by rw [List.append_nil]) (fun w1 hs => ?_)
    rw [List.append_nil]
    exact ⟨ad, e0, Or.inl ⟨hs.1, hs.2.1.trans hl, fget_frame hs.2 rfl hnull⟩⟩
  · have hWt := wt_take hW hl
    have hlt : (wx.take 109).length = 109 := by rw [List.length_take, hl]; rfl
    refine main (wx.drop 109) (wx.take 109) hWt hlt (List.take_append_drop 109 wx).symm (fun w1 hs => ?_)
    have hl2 : w1.length = 109 := hs.2.1.trans hlt
    have hpl : fget (wx.take 109) 0 15 = some (.ref (ad 109)) := by
      have h5 : fget wx 0 15 = some (.ref (ad 109)) := fget_ref hW rfl rfl
      unfold fget at h5 ⊢
      rw [List.getElem?_take_of_lt (by decide)]
      exact h5
    have hj := wt_join hs.1 hl2 (fget_frame hs.2 rfl hpl) hW hl
    refine ⟨ad, e0, Or.inr ⟨hj, by rw [List.length_append, hl2, List.length_drop, hl], ?_⟩⟩
    obtain ⟨a, f9, g1, g2⟩ := hG
    exact ⟨a, f9, by rw [List.getElem?_append_right (by omega), hl2, List.getElem?_drop]; exact g1, g2⟩
end LAW3F
theorem pre_mu {C : CE} {ts : List VT} {As : List Value} {x : Nat} {μ : Nat → Value} (hμ : μ = fun k => ((Value.ref x :: As)[k]?).getD .null) (h1 : C.1 = (2, 0, 0) :: ts) (h2 : C.2.1 = []) (h3 : C.2.2.1 = []) (hA : AOK ts As) (ad : Nat → Nat) (w0 : va_W) (he : ad 0 = x) : PRE ad C μ w0 := by
  subst hμ
  refine ⟨fun j t hj => ?_, fun j q hj => ?_, fun q hq => ?_⟩
  · rw [h1] at hj
    match j, hj with
    | 0, hj =>
      cases hj
      exact Or.inr (Or.inr (Or.inl ⟨rfl, by show Value.ref x = .ref (ad 0); rw [he]⟩))
    | j + 1, hj => exact aok_get ts As hA j t hj ad
  · rw [h2] at hj; cases hj
  · rw [h3] at hq; cases hq
theorem map_mu {x : Nat} {As : List Value} (n : Nat) (h : n = As.length + 1) : (List.range n).map (fun k => ((Value.ref x :: As)[k]?).getD .null) = .ref x :: As := by
  subst h
  refine List.ext_getElem (by simp) (fun k q1 q2 => ?_)
  rw [List.getElem_map, List.getElem_range, List.getElem?_eq_getElem q2]
  rfl
end
section
/-! sign, end: exact, by what lay on the tape -/
abbrev C_v_X4_append_c0 : CE := ([(2, 3, 0), (0, -2147483648, 2147483647)], [(3, 1, (0, 0, 76))], [], [(some (0, 4, 80), [], [(3, 1, (0, 4, 80))], [(100, 50, -4), (50, 100, 4), (100, 200, -4), (200, 100, 4), (50, 200, 0), (200, 50, 0)])], [(3, 1), (4, 999)], 0, 0)
theorem ac_v_X4_append_c0 (l : Launch) (G : KG) : ACt l G TX yX4_append cX4_append 3 (some .int) C_v_X4_append_c0 := acert (tab := D_X4_append) (fld := fld_4) (put := put_4) (cst := cst_4) (cstl := cstl_4) (cal := []) (rk := 1) (cuts := []) (fuel := 4000) (by decide) (Or.inr (Or.inl ⟨rfl, rfl⟩)) fld_4_ok put_4_ok cst_4_ok cstl_4_ok (fun _ h => absurd h List.not_mem_nil) D_X4_append_ok (by decide +kernel)
abbrev C_v_X10_sign_0 : CE := ([(2, 0, 0), (0, -2147483648, 2147483647)], [(3, 1, (0, 0, 76))], [], [(some (0, 4, 80), [], [(3, 1, (0, 4, 80))], [(100, 50, -4), (50, 100, 4), (100, 200, -4), (200, 100, 4), (50, 200, 0), (200, 50, 0)])], [(3, 1), (4, 999)], 1, 22)
theorem ac_v_X10_sign_0 (l : Launch) (G : KG) : ACt l G TX yX10_sign cX10_sign 2 (some .int) C_v_X10_sign_0 := acert (tab := D_X10_sign) (fld := fld_10) (put := put_10) (cst := cst_10) (cstl := cstl_10) (cal := [(91, 0, 3, C_v_X4_append_c0)]) (rk := 1) (cuts := []) (fuel := 4000) (by decide) (Or.inr (Or.inl ⟨rfl, rfl⟩)) fld_10_ok put_10_ok cst_10_ok cstl_10_ok (List.forall_mem_cons.mpr ⟨cok_v k_10_91 (ac_v_X4_append_c0 l G) rfl rfl rfl rfl rfl rfl, fun _ h => absurd h List.not_mem_nil⟩) D_X10_sign_ok (by decide +kernel)
abbrev C_v_X4_append_c1 : CE := ([(2, 3, 0), (0, -2147483648, 2147483647)], [(3, 1, (0, 77, 80))], [], [(some (0, -1, -1), [], [], [])], [], 0, 0)
theorem ac_v_X4_append_c1 (l : Launch) (G : KG) : ACt l G TX yX4_append cX4_append 3 (some .int) C_v_X4_append_c1 := acert (tab := D_X4_append) (fld := fld_4) (put := put_4) (cst := cst_4) (cstl := cstl_4) (cal := []) (rk := 1) (cuts := []) (fuel := 4000) (by decide) (Or.inr (Or.inl ⟨rfl, rfl⟩)) fld_4_ok put_4_ok cst_4_ok cstl_4_ok (fun _ h => absurd h List.not_mem_nil) D_X4_append_ok (by decide +kernel)
abbrev C_v_X10_sign_1 : CE := ([(2, 0, 0), (0, -2147483648, 2147483647)], [(3, 1, (0, 77, 80))], [], [(some (0, -1, -1), [], [], [])], [], 1, 22)
theorem ac_v_X10_sign_1 (l : Launch) (G : KG) : ACt l G TX yX10_sign cX10_sign 2 (some .int) C_v_X10_sign_1 := acert (tab := D_X10_sign) (fld := fld_10) (put := put_10) (cst := cst_10) (cstl := cstl_10) (cal := [(91, 0, 3, C_v_X4_append_c1)]) (rk := 1) (cuts := []) (fuel := 4000) (by decide) (Or.inr (Or.inl ⟨rfl, rfl⟩)) fld_10_ok put_10_ok cst_10_ok cstl_10_ok (List.forall_mem_cons.mpr ⟨cok_v k_10_91 (ac_v_X4_append_c1 l G) rfl rfl rfl rfl rfl rfl, fun _ h => absurd h List.not_mem_nil⟩) D_X10_sign_ok (by decide +kernel)
abbrev C_v_X4_cutTo_c0 : CE := ([(2, 3, 0), (0, -2147483648, -1)], [(3, 1, (0, 0, 80))], [(1, 100, -1)], [(some (0, 0, 0), [], [], [])], [], 0, 0)
theorem ac_v_X4_cutTo_c0 (l : Launch) (G : KG) : ACt l G TX yX4_cutTo cX4_cutTo 2 (some .boolean) C_v_X4_cutTo_c0 := acert (tab := D_X4_cutTo) (fld := fld_4) (put := put_4) (cst := cst_4) (cstl := cstl_4) (cal := []) (rk := 3) (cuts := []) (fuel := 4000) (by decide) (Or.inr (Or.inr (Or.inr ⟨rfl, rfl⟩))) fld_4_ok put_4_ok cst_4_ok cstl_4_ok (fun _ h => absurd h List.not_mem_nil) D_X4_cutTo_ok (by decide +kernel)
abbrev C_v_X10_end_0 : CE := ([(2, 0, 0), (0, -2147483648, -1)], [(3, 1, (0, 0, 80))], [], [(some (0, 0, 0), [], [], [])], [], 1, 21)
theorem ac_v_X10_end_0 (l : Launch) (G : KG) : ACt l G TX yX10_end cX10_end 2 (some .boolean) C_v_X10_end_0 := acert (tab := D_X10_end) (fld := fld_10) (put := put_10) (cst := cst_10) (cstl := cstl_10) (cal := [(95, 0, 2, C_v_X4_cutTo_c0)]) (rk := 3) (cuts := []) (fuel := 4000) (by decide) (Or.inr (Or.inr (Or.inr ⟨rfl, rfl⟩))) fld_10_ok put_10_ok cst_10_ok cstl_10_ok (List.forall_mem_cons.mpr ⟨cok_v k_10_95 (ac_v_X4_cutTo_c0 l G) rfl rfl rfl rfl rfl rfl, fun _ h => absurd h List.not_mem_nil⟩) D_X10_end_ok (by decide +kernel)
abbrev C_v_X4_cutTo_c1 : CE := ([(2, 3, 0), (0, 0, 80)], [(3, 1, (0, 0, 80))], [(1, 100, 0)], [(some (0, 1, 1), [], [(3, 1, (0, 0, 80))], [(1, 100, 0), (1, 200, 0), (200, 1, 0), (200, 100, 0)])], [(3, 1)], 0, 0)
theorem ac_v_X4_cutTo_c1 (l : Launch) (G : KG) : ACt l G TX yX4_cutTo cX4_cutTo 2 (some .boolean) C_v_X4_cutTo_c1 := acert (tab := D_X4_cutTo) (fld := fld_4) (put := put_4) (cst := cst_4) (cstl := cstl_4) (cal := []) (rk := 3) (cuts := []) (fuel := 4000) (by decide) (Or.inr (Or.inr (Or.inr ⟨rfl, rfl⟩))) fld_4_ok put_4_ok cst_4_ok cstl_4_ok (fun _ h => absurd h List.not_mem_nil) D_X4_cutTo_ok (by decide +kernel)
abbrev C_v_X10_end_1 : CE := ([(2, 0, 0), (0, 0, 80)], [(3, 1, (0, 0, 80))], [(1, 100, 0)], [(some (0, 1, 1), [], [(3, 1, (0, 0, 80))], [(1, 100, 0), (1, 200, 0), (200, 1, 0), (200, 100, 0)])], [(3, 1)], 1, 21)
theorem ac_v_X10_end_1 (l : Launch) (G : KG) : ACt l G TX yX10_end cX10_end 2 (some .boolean) C_v_X10_end_1 := acert (tab := D_X10_end) (fld := fld_10) (put := put_10) (cst := cst_10) (cstl := cstl_10) (cal := [(95, 0, 2, C_v_X4_cutTo_c1)]) (rk := 3) (cuts := []) (fuel := 4000) (by decide) (Or.inr (Or.inr (Or.inr ⟨rfl, rfl⟩))) fld_10_ok put_10_ok cst_10_ok cstl_10_ok (List.forall_mem_cons.mpr ⟨cok_v k_10_95 (ac_v_X4_cutTo_c1 l G) rfl rfl rfl rfl rfl rfl, fun _ h => absurd h List.not_mem_nil⟩) D_X10_end_ok (by decide +kernel)
abbrev C_v_X4_cutTo_c2 : CE := ([(2, 3, 0), (0, 1, 2147483647)], [(3, 1, (0, 0, 80))], [(100, 1, -1)], [(some (0, 0, 0), [], [], [(100, 1, -1)])], [], 0, 0)
theorem ac_v_X4_cutTo_c2 (l : Launch) (G : KG) : ACt l G TX yX4_cutTo cX4_cutTo 2 (some .boolean) C_v_X4_cutTo_c2 := acert (tab := D_X4_cutTo) (fld := fld_4) (put := put_4) (cst := cst_4) (cstl := cstl_4) (cal := []) (rk := 3) (cuts := []) (fuel := 4000) (by decide) (Or.inr (Or.inr (Or.inr ⟨rfl, rfl⟩))) fld_4_ok put_4_ok cst_4_ok cstl_4_ok (fun _ h => absurd h List.not_mem_nil) D_X4_cutTo_ok (by decide +kernel)
abbrev C_v_X10_end_2 : CE := ([(2, 0, 0), (0, 0, 2147483647)], [(3, 1, (0, 0, 80))], [(100, 1, -1)], [(some (0, 0, 0), [(1, (0, 1, 2147483647))], [], [(100, 1, -1)])], [], 1, 21)
theorem ac_v_X10_end_2 (l : Launch) (G : KG) : ACt l G TX yX10_end cX10_end 2 (some .boolean) C_v_X10_end_2 := acert (tab := D_X10_end) (fld := fld_10) (put := put_10) (cst := cst_10) (cstl := cstl_10) (cal := [(95, 0, 2, C_v_X4_cutTo_c2)]) (rk := 3) (cuts := []) (fuel := 4000) (by decide) (Or.inr (Or.inr (Or.inr ⟨rfl, rfl⟩))) fld_10_ok put_10_ok cst_10_ok cstl_10_ok (List.forall_mem_cons.mpr ⟨cok_v k_10_95 (ac_v_X4_cutTo_c2 l G) rfl rfl rfl rfl rfl rfl, fun _ h => absurd h List.not_mem_nil⟩) D_X10_end_ok (by decide +kernel)
abbrev C_v_X11_sign_0 : CE := ([(2, 0, 0), (0, -2147483648, 2147483647)], [(0, 19, (0, 0, 76))], [], [(some (0, 4, 80), [], [(0, 0, (0, 0, 0)), (0, 19, (0, 4, 80))], [(100, 50, -4), (50, 100, 4), (100, 201, -4), (201, 100, 4), (50, 201, 0), (201, 50, 0)])], [(0, 0), (0, 19), (14, 999)], 0, 0)
theorem ac_v_X11_sign_0 (l : Launch) (G : KG) : ACt l G TM yX11_sign cX11_sign 3 (some .int) C_v_X11_sign_0 := acert (tab := D_X11_sign) (fld := fld_11) (put := put_11) (cst := cst_11) (cstl := cstl_11) (cal := []) (rk := 1) (cuts := []) (fuel := 4000) (by decide) (Or.inr (Or.inl ⟨rfl, rfl⟩)) fld_11_ok put_11_ok cst_11_ok cstl_11_ok (fun _ h => absurd h List.not_mem_nil) D_X11_sign_ok (by decide +kernel)
abbrev C_v_X11_sign_1 : CE := ([(2, 0, 0), (0, -2147483648, 2147483647)], [(0, 19, (0, 77, 80))], [], [(some (0, -1, -1), [], [(0, 0, (0, 0, 0))], [])], [(0, 0)], 0, 0)
theorem ac_v_X11_sign_1 (l : Launch) (G : KG) : ACt l G TM yX11_sign cX11_sign 3 (some .int) C_v_X11_sign_1 := acert (tab := D_X11_sign) (fld := fld_11) (put := put_11) (cst := cst_11) (cstl := cstl_11) (cal := []) (rk := 1) (cuts := []) (fuel := 4000) (by decide) (Or.inr (Or.inl ⟨rfl, rfl⟩)) fld_11_ok put_11_ok cst_11_ok cstl_11_ok (fun _ h => absurd h List.not_mem_nil) D_X11_sign_ok (by decide +kernel)
abbrev C_v_X11_in_c0 : CE := ([(1, -2147483648, -1), (1, 0, 0), (1, 0, 80)], [], [(0, 2, -1)], [(some (0, 0, 0), [], [], [])], [], 0, 0)
theorem ac_v_X11_in_c0 (l : Launch) (G : KG) : ACt l G TM yX11_in cX11_in 6 (some .boolean) C_v_X11_in_c0 := acert (tab := D_X11_in) (fld := fld_11) (put := put_11) (cst := cst_11) (cstl := cstl_11) (cal := []) (rk := 3) (cuts := []) (fuel := 4000) (by decide) (Or.inr (Or.inr (Or.inr ⟨rfl, rfl⟩))) fld_11_ok put_11_ok cst_11_ok cstl_11_ok (fun _ h => absurd h List.not_mem_nil) D_X11_in_ok (by decide +kernel)
abbrev C_v_X11_end_0 : CE := ([(2, 0, 0), (0, -2147483648, -1)], [(0, 19, (0, 0, 80))], [], [(some (0, 0, 0), [], [(0, 0, (0, 0, 0))], [])], [(0, 0)], 1, 25)
theorem ac_v_X11_end_0 (l : Launch) (G : KG) : ACt l G TM yX11_end cX11_end 2 (some .boolean) C_v_X11_end_0 := acert (tab := D_X11_end) (fld := fld_11) (put := put_11) (cst := cst_11) (cstl := cstl_11) (cal := [(29, 1, 6, C_v_X11_in_c0)]) (rk := 3) (cuts := []) (fuel := 4000) (by decide) (Or.inr (Or.inr (Or.inr ⟨rfl, rfl⟩))) fld_11_ok put_11_ok cst_11_ok cstl_11_ok (List.forall_mem_cons.mpr ⟨cok_s k_11_29 (ac_v_X11_in_c0 l G) rfl, fun _ h => absurd h List.not_mem_nil⟩) D_X11_end_ok (by decide +kernel)
abbrev C_v_X11_in_c1 : CE := ([(1, 0, 80), (1, 0, 0), (1, 0, 80)], [], [(0, 2, 0)], [(some (0, 1, 1), [], [], [(0, 2, 0)])], [], 0, 0)
theorem ac_v_X11_in_c1 (l : Launch) (G : KG) : ACt l G TM yX11_in cX11_in 6 (some .boolean) C_v_X11_in_c1 := acert (tab := D_X11_in) (fld := fld_11) (put := put_11) (cst := cst_11) (cstl := cstl_11) (cal := []) (rk := 3) (cuts := []) (fuel := 4000) (by decide) (Or.inr (Or.inr (Or.inr ⟨rfl, rfl⟩))) fld_11_ok put_11_ok cst_11_ok cstl_11_ok (fun _ h => absurd h List.not_mem_nil) D_X11_in_ok (by decide +kernel)
abbrev C_v_X11_end_1 : CE := ([(2, 0, 0), (0, 0, 80)], [(0, 19, (0, 0, 80))], [(1, 100, 0)], [(some (0, 1, 1), [], [(0, 0, (0, 0, 0)), (0, 19, (0, 0, 80))], [(1, 100, 0), (1, 201, 0), (201, 1, 0), (201, 100, 0)])], [(0, 0), (0, 19)], 1, 25)
theorem ac_v_X11_end_1 (l : Launch) (G : KG) : ACt l G TM yX11_end cX11_end 2 (some .boolean) C_v_X11_end_1 := acert (tab := D_X11_end) (fld := fld_11) (put := put_11) (cst := cst_11) (cstl := cstl_11) (cal := [(29, 1, 6, C_v_X11_in_c1)]) (rk := 3) (cuts := []) (fuel := 4000) (by decide) (Or.inr (Or.inr (Or.inr ⟨rfl, rfl⟩))) fld_11_ok put_11_ok cst_11_ok cstl_11_ok (List.forall_mem_cons.mpr ⟨cok_s k_11_29 (ac_v_X11_in_c1 l G) rfl, fun _ h => absurd h List.not_mem_nil⟩) D_X11_end_ok (by decide +kernel)
abbrev C_v_X11_in_c2 : CE := ([(1, 1, 2147483647), (1, 0, 0), (1, 0, 80)], [], [(2, 0, -1)], [(some (0, 0, 0), [], [], [(2, 0, -1)])], [], 0, 0)
theorem ac_v_X11_in_c2 (l : Launch) (G : KG) : ACt l G TM yX11_in cX11_in 6 (some .boolean) C_v_X11_in_c2 := acert (tab := D_X11_in) (fld := fld_11) (put := put_11) (cst := cst_11) (cstl := cstl_11) (cal := []) (rk := 3) (cuts := []) (fuel := 4000) (by decide) (Or.inr (Or.inr (Or.inr ⟨rfl, rfl⟩))) fld_11_ok put_11_ok cst_11_ok cstl_11_ok (fun _ h => absurd h List.not_mem_nil) D_X11_in_ok (by decide +kernel)
abbrev C_v_X11_end_2 : CE := ([(2, 0, 0), (0, 0, 2147483647)], [(0, 19, (0, 0, 80))], [(100, 1, -1)], [(some (0, 0, 0), [(1, (0, 1, 2147483647))], [(0, 0, (0, 0, 0))], [(100, 1, -1)])], [(0, 0)], 1, 25)
theorem ac_v_X11_end_2 (l : Launch) (G : KG) : ACt l G TM yX11_end cX11_end 2 (some .boolean) C_v_X11_end_2 := acert (tab := D_X11_end) (fld := fld_11) (put := put_11) (cst := cst_11) (cstl := cstl_11) (cal := [(29, 1, 6, C_v_X11_in_c2)]) (rk := 3) (cuts := []) (fuel := 4000) (by decide) (Or.inr (Or.inr (Or.inr ⟨rfl, rfl⟩))) fld_11_ok put_11_ok cst_11_ok cstl_11_ok (List.forall_mem_cons.mpr ⟨cok_s k_11_29 (ac_v_X11_in_c2 l G) rfl, fun _ h => absurd h List.not_mem_nil⟩) D_X11_end_ok (by decide +kernel)
end
section
/-! the law: values told exactly; the relation of the two worlds -/
def muF (x : Nat) (As Fs : List Value) : Nat → Value := fun k => if k < 100 then ((Value.ref x :: As)[k]?).getD .null else (Fs[k - 100]?).getD .null
theorem pre_F {C : CE} {ts : List VT} {As : List Value} {x k0 j0 : Nat} {f : Value} {t0 : VT} (h1 : C.1 = (2, 0, 0) :: ts) (h2 : C.2.1 = [(k0, j0, t0)]) (hl : As.length < 99) (hA : AOK ts As) (ht : ∀ ad, vty ad t0 f) (hr : ∀ q ∈ C.2.2.1, vI (muF x As [f] q.1) ≤ vI (muF x As [f] q.2.1) + q.2.2) (ad : Nat → Nat) (w0 : va_W) (he : ad 0 = x) (hf : fget w0 k0 j0 = some f) : PRE ad C (muF x As [f]) w0 := by
  refine ⟨fun j t hj => ?_, fun j q hj => ?_, hr⟩
  · rw [h1] at hj
    have hlt : j < 100 := by
      have h3 := (List.getElem?_eq_some_iff.mp hj).1
      rw [List.length_cons, aok_len ts As hA] at h3
      omega
    have e : muF x As [f] j = ((Value.ref x :: As)[j]?).getD .null := if_pos hlt
    rw [e]
    match j, hj with
    | 0, hj =>
      cases hj
      exact Or.inr (Or.inr (Or.inl ⟨rfl, by show Value.ref x = .ref (ad 0); rw [he]⟩))
    | j + 1, hj => exact aok_get ts As hA j t hj ad
  · rw [h2] at hj
    match j, hj with
    | 0, hj =>
      cases hj
      exact ⟨ht ad, hf⟩
    | j + 1, hj => cases hj
theorem pz_a {ad : Nat → Nat} {C : CE} {n : Nat} {μ : Nat → Value} {w0 w1 : va_W} {r : Option Value} {A : ALT} (h : PZ ad C n μ w0 r w1) (hC : C.2.2.2.1 = [A]) {t : VT} (ha : A.1 = some t) (ht : t.1 = 0) : ∃ (v : Int32) (ν : Nat → Value), r = some (.int v) ∧ t.2.1 ≤ v.toInt ∧ v.toInt ≤ t.2.2 ∧ ν 50 = .int v ∧ (∀ i, i < 50 → ν i = μ i) ∧ (∀ i, 100 ≤ i → i < 200 → ν i = μ i) ∧ (∀ k q, A.2.2.1[k]? = some q → vty ad q.2.2 (ν (200 + k)) ∧ fget w1 q.1 q.2.1 = some (ν (200 + k))) ∧ (∀ q ∈ A.2.2.2, vI (ν q.1) ≤ vI (ν q.2.1) + q.2.2) := by
  obtain ⟨A1, hA1, μ2, p1, p2, q3, q4, q5, q6, q7⟩ := h
  rw [hC] at hA1
  have ee := List.mem_singleton.mp hA1
  subst ee
  rw [ha] at q3
  obtain ⟨r1, r2⟩ := q3
  obtain ⟨v, ev, v0, v1⟩ := vty0 r2 ht
  exact ⟨v, μ2, by rw [r1, ev], v0, v1, ev, p1, p2, q5, q6⟩
/-- as many signs on both tapes -/
def RelT (wx wm : va_W) : Prop := ∃ n : Int32, 0 ≤ n.toInt ∧ n.toInt ≤ 80 ∧ fget wx 3 1 = some (.int n) ∧ fget wm 0 19 = some (.int n)
theorem RelT.keep {wx wm wx' wm' : va_W} {m m' : List (Nat × Nat)} (h : RelT wx wm) (h1 : FX m 109 wx wx') (h2 : FX m' 47 wm wm') (hm : mkq m 3 1 = false ∧ mkq m' 0 19 = false) : RelT wx' wm' := by
  obtain ⟨n, n0, n1, f1, f2⟩ := h
  exact ⟨n, n0, n1, h1.get (by decide) hm.1 f1, h2.get (by decide) hm.2 f2⟩
/-- what stands of CROSS, on both sides -/
def RelC (G : KG) (wx wm : va_W) : Prop := ∃ f g : Nat → Int32, cget wx 103 0 = some (.inr (cyI G, 4, .inl f)) ∧ cget wm 15 0 = some (.inr (cyI G, 4, .inl g)) ∧ ∀ k, k < 4 → f k = g k
theorem RelC.keep {G : KG} {wx wm wx' wm' : va_W} {m m' : List (Nat × Nat)} (h : RelC G wx wm) (h1 : FX m 109 wx wx') (h2 : FX m' 47 wm wm') (hm : mkq m 103 0 = false ∧ mkq m' 15 0 = false) : RelC G wx' wm' := by
  obtain ⟨f, g, f1, f2, f3⟩ := h
  exact ⟨f, g, (h1 103 0 (by decide) hm.1).trans f1, (h2 15 0 (by decide) hm.2).trans f2, f3⟩
/-- the reference's mill: its tape is empty afterwards -/
abbrev C_mill1 : CE := ([(2, 0, 0)], [], [], [(some (0, -2147483648, 2147483647), [], [(0, 19, (0, 0, 0))], [])], C_z_X11_mill_0.2.2.2.2.1, C_z_X11_mill_0.2.2.2.2.2.1, C_z_X11_mill_0.2.2.2.2.2.2)
theorem ac_mill1 (l : Launch) (G : KG) : ACt l G TM yX11_mill cX11_mill 10 (some .int) C_mill1 := by
  intro ad w0 μ hW hPre
  obtain ⟨h, h1, h2, h3⟩ := fget_int (T := TM) (k := 0) (j := 3) hW rfl rfl
  obtain ⟨z, z1, z2, z3⟩ := fget_int (T := TM) (k := 0) (j := 10) hW rfl rfl
  obtain ⟨μ', hμ⟩ : ∃ μ' : Nat → Value, μ' = fun k => if k = 100 then .int h else if k = 101 then .int z else μ k := ⟨_, rfl⟩
  have m0 : μ' 0 = μ 0 := by rw [hμ]; rfl
  have m1 : μ' 100 = .int h := by rw [hμ]; rfl
  have m2 : μ' 101 = .int z := by rw [hμ]; rfl
  have hp : PRE ad C_z_X11_mill_0 μ' w0 := by
    refine ⟨fun j t hj => ?_, fun j q hj => ?_, fun q hq => (by cases hq)⟩
    · match j, hj with
      | 0, hj => cases hj; rw [m0]; exact hPre.1 0 _ rfl
      | j + 1, hj => cases hj
    · match j, hj with
      | 0, hj => cases hj; exact ⟨by rw [m1]; exact vty_i h2 h3, by show fget w0 0 3 = some (μ' 100); rw [m1]; exact h1⟩
      | 1, hj => cases hj; exact ⟨by rw [m2]; exact vty_i z2 z3, by show fget w0 0 10 = some (μ' 101); rw [m2]; exact z1⟩
      | j + 2, hj => cases hj
  have hct := ac_mill l G ad w0 μ' hW hp
  have e0 : (List.range C_z_X11_mill_0.1.length).map μ' = (List.range C_mill1.1.length).map μ := by show [μ' 0] = [μ 0]; rw [m0]
  rw [e0] at hct
  refine Ct.weak hct (fun r w1 hq => ?_)
  have hr : RT 0 r := rt_of (k := 0) hq (by decide) (Or.inr (Or.inl rfl))
  obtain ⟨A1, hA1, μ2, -, -, -, -, q5, -, q7, q8⟩ := hq
  have ee := List.mem_singleton.mp hA1
  subst ee
  have f3 := q5 3 _ rfl
  rcases hr with ⟨h, -⟩ | ⟨-, v, rfl⟩ | ⟨h, -⟩
  · exact absurd h (by decide)
  · refine ⟨_, List.mem_cons_self, nup (nup μ 50 (.int v)) 200 (μ2 203), fun i hi => by rw [nup_ne (by omega), nup_ne hi], fun i hi hi2 => by rw [nup_ne (by omega)]; exact if_neg (by omega), (show resOK ad (some _) (some (.int v)) (nup (nup μ 50 (.int v)) 200 (μ2 203) 50) from ⟨by rw [nup_ne (by decide), nup_eq], by rw [nup_ne (by decide), nup_eq]; exact vty_i0 v⟩), fun q hq => absurd hq List.not_mem_nil, fun n q hq => ?_, fun q hq => absurd hq List.not_mem_nil, q7, q8⟩
    match n, hq with
    | 0, hq =>
      cases hq
      exact ⟨by rw [nup_eq]; exact f3.1, by rw [nup_eq]; exact f3.2⟩
    | n + 1, hq => cases hq
  · exact absurd h (by decide)
end
section
/-! cross: bad arguments; good ones -/
abbrev C_x_X10_isOneOfTwo_c0 : CE := ([(0, -2147483648, -1)], [], [], [(some (0, 0, 0), [], [], [])], [], 0, 0)
theorem ac_x_X10_isOneOfTwo_c0 (l : Launch) (G : KG) : ACt l G TX yX10_isOneOfTwo cX10_isOneOfTwo 1 (some .boolean) C_x_X10_isOneOfTwo_c0 := acert (tab := D_X10_isOneOfTwo) (fld := fld_10) (put := put_10) (cst := cst_10) (cstl := cstl_10) (cal := []) (rk := 3) (cuts := []) (fuel := 4000) (by decide) (Or.inr (Or.inr (Or.inr ⟨rfl, rfl⟩))) fld_10_ok put_10_ok cst_10_ok cstl_10_ok (fun _ h => absurd h List.not_mem_nil) D_X10_isOneOfTwo_ok (by decide +kernel)
abbrev C_x_X10_cross_1 : CE := ([(2, 0, 0), (0, -2147483648, -1), (0, -2147483648, 2147483647), (0, -2147483648, 2147483647)], [], [], [(some (0, -1, -1), [], [], [])], [], 1, 20)
theorem ac_x_X10_cross_1 (l : Launch) (G : KG) : ACt l G TX yX10_cross cX10_cross 5 (some .int) C_x_X10_cross_1 := acert (tab := D_X10_cross) (fld := fld_10) (put := put_10) (cst := cst_10) (cstl := cstl_10) (cal := [(156, 1, 1, C_x_X10_isOneOfTwo_c0)]) (rk := 1) (cuts := []) (fuel := 4000) (by decide) (Or.inr (Or.inl ⟨rfl, rfl⟩)) fld_10_ok put_10_ok cst_10_ok cstl_10_ok (List.forall_mem_cons.mpr ⟨cok_s k_10_156 (ac_x_X10_isOneOfTwo_c0 l G) rfl, fun _ h => absurd h List.not_mem_nil⟩) D_X10_cross_ok (by decide +kernel)
abbrev C_x_X11_in_c0 : CE := ([(1, -2147483648, -1), (1, 0, 0), (1, 1, 1)], [], [], [(some (0, 0, 0), [], [], [])], [], 0, 0)
theorem ac_x_X11_in_c0 (l : Launch) (G : KG) : ACt l G TM yX11_in cX11_in 6 (some .boolean) C_x_X11_in_c0 := acert (tab := D_X11_in) (fld := fld_11) (put := put_11) (cst := cst_11) (cstl := cstl_11) (cal := []) (rk := 3) (cuts := []) (fuel := 4000) (by decide) (Or.inr (Or.inr (Or.inr ⟨rfl, rfl⟩))) fld_11_ok put_11_ok cst_11_ok cstl_11_ok (fun _ h => absurd h List.not_mem_nil) D_X11_in_ok (by decide +kernel)
abbrev C_x_X11_isPlane_c0 : CE := ([(0, -2147483648, -1)], [], [], [(some (0, 0, 0), [], [], [])], [], 1, 25)
theorem ac_x_X11_isPlane_c0 (l : Launch) (G : KG) : ACt l G TM yX11_isPlane cX11_isPlane 1 (some .boolean) C_x_X11_isPlane_c0 := acert (tab := D_X11_isPlane) (fld := fld_11) (put := put_11) (cst := cst_11) (cstl := cstl_11) (cal := [(29, 1, 6, C_x_X11_in_c0)]) (rk := 3) (cuts := []) (fuel := 4000) (by decide) (Or.inr (Or.inr (Or.inr ⟨rfl, rfl⟩))) fld_11_ok put_11_ok cst_11_ok cstl_11_ok (List.forall_mem_cons.mpr ⟨cok_s k_11_29 (ac_x_X11_in_c0 l G) rfl, fun _ h => absurd h List.not_mem_nil⟩) D_X11_isPlane_ok (by decide +kernel)
abbrev C_x_X11_cross_1 : CE := ([(2, 0, 0), (0, -2147483648, -1), (0, -2147483648, 2147483647), (0, -2147483648, 2147483647)], [], [], [(some (0, -1, -1), [], [(0, 0, (0, 0, 0))], [])], [(0, 0)], 2, 45)
theorem ac_x_X11_cross_1 (l : Launch) (G : KG) : ACt l G TM yX11_cross cX11_cross 5 (some .int) C_x_X11_cross_1 := acert (tab := D_X11_cross) (fld := fld_11) (put := put_11) (cst := cst_11) (cstl := cstl_11) (cal := [(130, 1, 1, C_x_X11_isPlane_c0)]) (rk := 1) (cuts := []) (fuel := 4000) (by decide) (Or.inr (Or.inl ⟨rfl, rfl⟩)) fld_11_ok put_11_ok cst_11_ok cstl_11_ok (List.forall_mem_cons.mpr ⟨cok_s k_11_130 (ac_x_X11_isPlane_c0 l G) rfl, fun _ h => absurd h List.not_mem_nil⟩) D_X11_cross_ok (by decide +kernel)
abbrev C_x_X10_isOneOfTwo_c1 : CE := ([(0, 2, 2147483647)], [], [], [(some (0, 0, 0), [], [], [])], [], 0, 0)
theorem ac_x_X10_isOneOfTwo_c1 (l : Launch) (G : KG) : ACt l G TX yX10_isOneOfTwo cX10_isOneOfTwo 1 (some .boolean) C_x_X10_isOneOfTwo_c1 := acert (tab := D_X10_isOneOfTwo) (fld := fld_10) (put := put_10) (cst := cst_10) (cstl := cstl_10) (cal := []) (rk := 3) (cuts := []) (fuel := 4000) (by decide) (Or.inr (Or.inr (Or.inr ⟨rfl, rfl⟩))) fld_10_ok put_10_ok cst_10_ok cstl_10_ok (fun _ h => absurd h List.not_mem_nil) D_X10_isOneOfTwo_ok (by decide +kernel)
abbrev C_x_X10_cross_2 : CE := ([(2, 0, 0), (0, 2, 2147483647), (0, -2147483648, 2147483647), (0, -2147483648, 2147483647)], [], [], [(some (0, -1, -1), [], [], [])], [], 1, 20)
theorem ac_x_X10_cross_2 (l : Launch) (G : KG) : ACt l G TX yX10_cross cX10_cross 5 (some .int) C_x_X10_cross_2 := acert (tab := D_X10_cross) (fld := fld_10) (put := put_10) (cst := cst_10) (cstl := cstl_10) (cal := [(156, 1, 1, C_x_X10_isOneOfTwo_c1)]) (rk := 1) (cuts := []) (fuel := 4000) (by decide) (Or.inr (Or.inl ⟨rfl, rfl⟩)) fld_10_ok put_10_ok cst_10_ok cstl_10_ok (List.forall_mem_cons.mpr ⟨cok_s k_10_156 (ac_x_X10_isOneOfTwo_c1 l G) rfl, fun _ h => absurd h List.not_mem_nil⟩) D_X10_cross_ok (by decide +kernel)
abbrev C_x_X11_in_c1 : CE := ([(1, 2, 2147483647), (1, 0, 0), (1, 1, 1)], [], [], [(some (0, 0, 0), [], [], [])], [], 0, 0)
theorem ac_x_X11_in_c1 (l : Launch) (G : KG) : ACt l G TM yX11_in cX11_in 6 (some .boolean) C_x_X11_in_c1 := acert (tab := D_X11_in) (fld := fld_11) (put := put_11) (cst := cst_11) (cstl := cstl_11) (cal := []) (rk := 3) (cuts := []) (fuel := 4000) (by decide) (Or.inr (Or.inr (Or.inr ⟨rfl, rfl⟩))) fld_11_ok put_11_ok cst_11_ok cstl_11_ok (fun _ h => absurd h List.not_mem_nil) D_X11_in_ok (by decide +kernel)
abbrev C_x_X11_isPlane_c1 : CE := ([(0, 2, 2147483647)], [], [], [(some (0, 0, 0), [], [], [])], [], 1, 25)
theorem ac_x_X11_isPlane_c1 (l : Launch) (G : KG) : ACt l G TM yX11_isPlane cX11_isPlane 1 (some .boolean) C_x_X11_isPlane_c1 := acert (tab := D_X11_isPlane) (fld := fld_11) (put := put_11) (cst := cst_11) (cstl := cstl_11) (cal := [(29, 1, 6, C_x_X11_in_c1)]) (rk := 3) (cuts := []) (fuel := 4000) (by decide) (Or.inr (Or.inr (Or.inr ⟨rfl, rfl⟩))) fld_11_ok put_11_ok cst_11_ok cstl_11_ok (List.forall_mem_cons.mpr ⟨cok_s k_11_29 (ac_x_X11_in_c1 l G) rfl, fun _ h => absurd h List.not_mem_nil⟩) D_X11_isPlane_ok (by decide +kernel)
abbrev C_x_X11_cross_2 : CE := ([(2, 0, 0), (0, 2, 2147483647), (0, -2147483648, 2147483647), (0, -2147483648, 2147483647)], [], [], [(some (0, -1, -1), [], [(0, 0, (0, 0, 0))], [])], [(0, 0)], 2, 45)
theorem ac_x_X11_cross_2 (l : Launch) (G : KG) : ACt l G TM yX11_cross cX11_cross 5 (some .int) C_x_X11_cross_2 := acert (tab := D_X11_cross) (fld := fld_11) (put := put_11) (cst := cst_11) (cstl := cstl_11) (cal := [(130, 1, 1, C_x_X11_isPlane_c1)]) (rk := 1) (cuts := []) (fuel := 4000) (by decide) (Or.inr (Or.inl ⟨rfl, rfl⟩)) fld_11_ok put_11_ok cst_11_ok cstl_11_ok (List.forall_mem_cons.mpr ⟨cok_s k_11_130 (ac_x_X11_isPlane_c1 l G) rfl, fun _ h => absurd h List.not_mem_nil⟩) D_X11_cross_ok (by decide +kernel)
abbrev C_x_X10_isOneOfTwo_c2 : CE := ([(0, 0, 1)], [], [], [(some (0, 1, 1), [], [], [])], [], 0, 0)
theorem ac_x_X10_isOneOfTwo_c2 (l : Launch) (G : KG) : ACt l G TX yX10_isOneOfTwo cX10_isOneOfTwo 1 (some .boolean) C_x_X10_isOneOfTwo_c2 := acert (tab := D_X10_isOneOfTwo) (fld := fld_10) (put := put_10) (cst := cst_10) (cstl := cstl_10) (cal := []) (rk := 3) (cuts := []) (fuel := 4000) (by decide) (Or.inr (Or.inr (Or.inr ⟨rfl, rfl⟩))) fld_10_ok put_10_ok cst_10_ok cstl_10_ok (fun _ h => absurd h List.not_mem_nil) D_X10_isOneOfTwo_ok (by decide +kernel)
abbrev C_x_X10_cross_3 : CE := ([(2, 0, 0), (0, 0, 1), (0, -2147483648, -1), (0, -2147483648, 2147483647)], [], [], [(some (0, -1, -1), [], [], [])], [], 1, 20)
theorem ac_x_X10_cross_3 (l : Launch) (G : KG) : ACt l G TX yX10_cross cX10_cross 5 (some .int) C_x_X10_cross_3 := acert (tab := D_X10_cross) (fld := fld_10) (put := put_10) (cst := cst_10) (cstl := cstl_10) (cal := [(156, 1, 1, C_x_X10_isOneOfTwo_c2), (156, 1, 1, C_x_X10_isOneOfTwo_c0)]) (rk := 1) (cuts := []) (fuel := 4000) (by decide) (Or.inr (Or.inl ⟨rfl, rfl⟩)) fld_10_ok put_10_ok cst_10_ok cstl_10_ok (List.forall_mem_cons.mpr ⟨cok_s k_10_156 (ac_x_X10_isOneOfTwo_c2 l G) rfl, List.forall_mem_cons.mpr ⟨cok_s k_10_156 (ac_x_X10_isOneOfTwo_c0 l G) rfl, fun _ h => absurd h List.not_mem_nil⟩⟩) D_X10_cross_ok (by decide +kernel)
abbrev C_x_X11_in_c2 : CE := ([(1, 0, 1), (1, 0, 0), (1, 1, 1)], [], [], [(some (0, 1, 1), [], [], [])], [], 0, 0)
theorem ac_x_X11_in_c2 (l : Launch) (G : KG) : ACt l G TM yX11_in cX11_in 6 (some .boolean) C_x_X11_in_c2 := acert (tab := D_X11_in) (fld := fld_11) (put := put_11) (cst := cst_11) (cstl := cstl_11) (cal := []) (rk := 3) (cuts := []) (fuel := 4000) (by decide) (Or.inr (Or.inr (Or.inr ⟨rfl, rfl⟩))) fld_11_ok put_11_ok cst_11_ok cstl_11_ok (fun _ h => absurd h List.not_mem_nil) D_X11_in_ok (by decide +kernel)
abbrev C_x_X11_isPlane_c2 : CE := ([(0, 0, 1)], [], [], [(some (0, 1, 1), [], [], [])], [], 1, 25)
theorem ac_x_X11_isPlane_c2 (l : Launch) (G : KG) : ACt l G TM yX11_isPlane cX11_isPlane 1 (some .boolean) C_x_X11_isPlane_c2 := acert (tab := D_X11_isPlane) (fld := fld_11) (put := put_11) (cst := cst_11) (cstl := cstl_11) (cal := [(29, 1, 6, C_x_X11_in_c2)]) (rk := 3) (cuts := []) (fuel := 4000) (by decide) (Or.inr (Or.inr (Or.inr ⟨rfl, rfl⟩))) fld_11_ok put_11_ok cst_11_ok cstl_11_ok (List.forall_mem_cons.mpr ⟨cok_s k_11_29 (ac_x_X11_in_c2 l G) rfl, fun _ h => absurd h List.not_mem_nil⟩) D_X11_isPlane_ok (by decide +kernel)
abbrev C_x_X11_cross_3 : CE := ([(2, 0, 0), (0, 0, 1), (0, -2147483648, -1), (0, -2147483648, 2147483647)], [], [], [(some (0, -1, -1), [], [(0, 0, (0, 0, 0))], [])], [(0, 0)], 2, 45)
theorem ac_x_X11_cross_3 (l : Launch) (G : KG) : ACt l G TM yX11_cross cX11_cross 5 (some .int) C_x_X11_cross_3 := acert (tab := D_X11_cross) (fld := fld_11) (put := put_11) (cst := cst_11) (cstl := cstl_11) (cal := [(130, 1, 1, C_x_X11_isPlane_c2), (130, 1, 1, C_x_X11_isPlane_c0)]) (rk := 1) (cuts := []) (fuel := 4000) (by decide) (Or.inr (Or.inl ⟨rfl, rfl⟩)) fld_11_ok put_11_ok cst_11_ok cstl_11_ok (List.forall_mem_cons.mpr ⟨cok_s k_11_130 (ac_x_X11_isPlane_c2 l G) rfl, List.forall_mem_cons.mpr ⟨cok_s k_11_130 (ac_x_X11_isPlane_c0 l G) rfl, fun _ h => absurd h List.not_mem_nil⟩⟩) D_X11_cross_ok (by decide +kernel)
abbrev C_x_X10_cross_4 : CE := ([(2, 0, 0), (0, 0, 1), (0, 2, 2147483647), (0, -2147483648, 2147483647)], [], [], [(some (0, -1, -1), [], [], [])], [], 1, 20)
theorem ac_x_X10_cross_4 (l : Launch) (G : KG) : ACt l G TX yX10_cross cX10_cross 5 (some .int) C_x_X10_cross_4 := acert (tab := D_X10_cross) (fld := fld_10) (put := put_10) (cst := cst_10) (cstl := cstl_10) (cal := [(156, 1, 1, C_x_X10_isOneOfTwo_c2), (156, 1, 1, C_x_X10_isOneOfTwo_c1)]) (rk := 1) (cuts := []) (fuel := 4000) (by decide) (Or.inr (Or.inl ⟨rfl, rfl⟩)) fld_10_ok put_10_ok cst_10_ok cstl_10_ok (List.forall_mem_cons.mpr ⟨cok_s k_10_156 (ac_x_X10_isOneOfTwo_c2 l G) rfl, List.forall_mem_cons.mpr ⟨cok_s k_10_156 (ac_x_X10_isOneOfTwo_c1 l G) rfl, fun _ h => absurd h List.not_mem_nil⟩⟩) D_X10_cross_ok (by decide +kernel)
abbrev C_x_X11_cross_4 : CE := ([(2, 0, 0), (0, 0, 1), (0, 2, 2147483647), (0, -2147483648, 2147483647)], [], [], [(some (0, -1, -1), [], [(0, 0, (0, 0, 0))], [])], [(0, 0)], 2, 45)
theorem ac_x_X11_cross_4 (l : Launch) (G : KG) : ACt l G TM yX11_cross cX11_cross 5 (some .int) C_x_X11_cross_4 := acert (tab := D_X11_cross) (fld := fld_11) (put := put_11) (cst := cst_11) (cstl := cstl_11) (cal := [(130, 1, 1, C_x_X11_isPlane_c2), (130, 1, 1, C_x_X11_isPlane_c1)]) (rk := 1) (cuts := []) (fuel := 4000) (by decide) (Or.inr (Or.inl ⟨rfl, rfl⟩)) fld_11_ok put_11_ok cst_11_ok cstl_11_ok (List.forall_mem_cons.mpr ⟨cok_s k_11_130 (ac_x_X11_isPlane_c2 l G) rfl, List.forall_mem_cons.mpr ⟨cok_s k_11_130 (ac_x_X11_isPlane_c1 l G) rfl, fun _ h => absurd h List.not_mem_nil⟩⟩) D_X11_cross_ok (by decide +kernel)
abbrev C_x_X10_isWithin_c0 : CE := ([(0, -2147483648, -10), (0, 9, 9)], [], [], [(some (0, 0, 0), [], [], [])], [], 0, 0)
theorem ac_x_X10_isWithin_c0 (l : Launch) (G : KG) : ACt l G TX yX10_isWithin cX10_isWithin 2 (some .boolean) C_x_X10_isWithin_c0 := acert (tab := D_X10_isWithin) (fld := fld_10) (put := put_10) (cst := cst_10) (cstl := cstl_10) (cal := []) (rk := 3) (cuts := []) (fuel := 4000) (by decide) (Or.inr (Or.inr (Or.inr ⟨rfl, rfl⟩))) fld_10_ok put_10_ok cst_10_ok cstl_10_ok (fun _ h => absurd h List.not_mem_nil) D_X10_isWithin_ok (by decide +kernel)
abbrev C_x_X10_cross_5 : CE := ([(2, 0, 0), (0, 0, 1), (0, 0, 1), (0, -2147483648, -10)], [], [], [(some (0, -1, -1), [], [], [])], [], 1, 21)
theorem ac_x_X10_cross_5 (l : Launch) (G : KG) : ACt l G TX yX10_cross cX10_cross 5 (some .int) C_x_X10_cross_5 := acert (tab := D_X10_cross) (fld := fld_10) (put := put_10) (cst := cst_10) (cstl := cstl_10) (cal := [(156, 1, 1, C_x_X10_isOneOfTwo_c2), (159, 1, 2, C_x_X10_isWithin_c0)]) (rk := 1) (cuts := []) (fuel := 4000) (by decide) (Or.inr (Or.inl ⟨rfl, rfl⟩)) fld_10_ok put_10_ok cst_10_ok cstl_10_ok (List.forall_mem_cons.mpr ⟨cok_s k_10_156 (ac_x_X10_isOneOfTwo_c2 l G) rfl, List.forall_mem_cons.mpr ⟨cok_s k_10_159 (ac_x_X10_isWithin_c0 l G) rfl, fun _ h => absurd h List.not_mem_nil⟩⟩) D_X10_cross_ok (by decide +kernel)
abbrev C_x_X11_in_c3 : CE := ([(1, -2147483648, -10), (1, -9, -9), (1, 9, 9)], [], [], [(some (0, 0, 0), [], [], [])], [], 0, 0)
theorem ac_x_X11_in_c3 (l : Launch) (G : KG) : ACt l G TM yX11_in cX11_in 6 (some .boolean) C_x_X11_in_c3 := acert (tab := D_X11_in) (fld := fld_11) (put := put_11) (cst := cst_11) (cstl := cstl_11) (cal := []) (rk := 3) (cuts := []) (fuel := 4000) (by decide) (Or.inr (Or.inr (Or.inr ⟨rfl, rfl⟩))) fld_11_ok put_11_ok cst_11_ok cstl_11_ok (fun _ h => absurd h List.not_mem_nil) D_X11_in_ok (by decide +kernel)
abbrev C_x_X11_cross_5 : CE := ([(2, 0, 0), (0, 0, 1), (0, 0, 1), (0, -2147483648, -10)], [], [], [(some (0, -1, -1), [], [(0, 0, (0, 0, 0))], [])], [(0, 0)], 2, 45)
theorem ac_x_X11_cross_5 (l : Launch) (G : KG) : ACt l G TM yX11_cross cX11_cross 5 (some .int) C_x_X11_cross_5 := acert (tab := D_X11_cross) (fld := fld_11) (put := put_11) (cst := cst_11) (cstl := cstl_11) (cal := [(130, 1, 1, C_x_X11_isPlane_c2), (29, 1, 6, C_x_X11_in_c3)]) (rk := 1) (cuts := []) (fuel := 4000) (by decide) (Or.inr (Or.inl ⟨rfl, rfl⟩)) fld_11_ok put_11_ok cst_11_ok cstl_11_ok (List.forall_mem_cons.mpr ⟨cok_s k_11_130 (ac_x_X11_isPlane_c2 l G) rfl, List.forall_mem_cons.mpr ⟨cok_s k_11_29 (ac_x_X11_in_c3 l G) rfl, fun _ h => absurd h List.not_mem_nil⟩⟩) D_X11_cross_ok (by decide +kernel)
abbrev C_x_X10_isWithin_c1 : CE := ([(0, 10, 2147483647), (0, 9, 9)], [], [], [(some (0, 0, 0), [], [], [])], [], 0, 0)
theorem ac_x_X10_isWithin_c1 (l : Launch) (G : KG) : ACt l G TX yX10_isWithin cX10_isWithin 2 (some .boolean) C_x_X10_isWithin_c1 := acert (tab := D_X10_isWithin) (fld := fld_10) (put := put_10) (cst := cst_10) (cstl := cstl_10) (cal := []) (rk := 3) (cuts := []) (fuel := 4000) (by decide) (Or.inr (Or.inr (Or.inr ⟨rfl, rfl⟩))) fld_10_ok put_10_ok cst_10_ok cstl_10_ok (fun _ h => absurd h List.not_mem_nil) D_X10_isWithin_ok (by decide +kernel)
abbrev C_x_X10_cross_6 : CE := ([(2, 0, 0), (0, 0, 1), (0, 0, 1), (0, 10, 2147483647)], [], [], [(some (0, -1, -1), [], [], [])], [], 1, 21)
theorem ac_x_X10_cross_6 (l : Launch) (G : KG) : ACt l G TX yX10_cross cX10_cross 5 (some .int) C_x_X10_cross_6 := acert (tab := D_X10_cross) (fld := fld_10) (put := put_10) (cst := cst_10) (cstl := cstl_10) (cal := [(156, 1, 1, C_x_X10_isOneOfTwo_c2), (159, 1, 2, C_x_X10_isWithin_c1)]) (rk := 1) (cuts := []) (fuel := 4000) (by decide) (Or.inr (Or.inl ⟨rfl, rfl⟩)) fld_10_ok put_10_ok cst_10_ok cstl_10_ok (List.forall_mem_cons.mpr ⟨cok_s k_10_156 (ac_x_X10_isOneOfTwo_c2 l G) rfl, List.forall_mem_cons.mpr ⟨cok_s k_10_159 (ac_x_X10_isWithin_c1 l G) rfl, fun _ h => absurd h List.not_mem_nil⟩⟩) D_X10_cross_ok (by decide +kernel)
abbrev C_x_X11_in_c4 : CE := ([(1, 10, 2147483647), (1, -9, -9), (1, 9, 9)], [], [], [(some (0, 0, 0), [], [], [])], [], 0, 0)
theorem ac_x_X11_in_c4 (l : Launch) (G : KG) : ACt l G TM yX11_in cX11_in 6 (some .boolean) C_x_X11_in_c4 := acert (tab := D_X11_in) (fld := fld_11) (put := put_11) (cst := cst_11) (cstl := cstl_11) (cal := []) (rk := 3) (cuts := []) (fuel := 4000) (by decide) (Or.inr (Or.inr (Or.inr ⟨rfl, rfl⟩))) fld_11_ok put_11_ok cst_11_ok cstl_11_ok (fun _ h => absurd h List.not_mem_nil) D_X11_in_ok (by decide +kernel)
abbrev C_x_X11_cross_6 : CE := ([(2, 0, 0), (0, 0, 1), (0, 0, 1), (0, 10, 2147483647)], [], [], [(some (0, -1, -1), [], [(0, 0, (0, 0, 0))], [])], [(0, 0)], 2, 45)
theorem ac_x_X11_cross_6 (l : Launch) (G : KG) : ACt l G TM yX11_cross cX11_cross 5 (some .int) C_x_X11_cross_6 := acert (tab := D_X11_cross) (fld := fld_11) (put := put_11) (cst := cst_11) (cstl := cstl_11) (cal := [(130, 1, 1, C_x_X11_isPlane_c2), (29, 1, 6, C_x_X11_in_c4)]) (rk := 1) (cuts := []) (fuel := 4000) (by decide) (Or.inr (Or.inl ⟨rfl, rfl⟩)) fld_11_ok put_11_ok cst_11_ok cstl_11_ok (List.forall_mem_cons.mpr ⟨cok_s k_11_130 (ac_x_X11_isPlane_c2 l G) rfl, List.forall_mem_cons.mpr ⟨cok_s k_11_29 (ac_x_X11_in_c4 l G) rfl, fun _ h => absurd h List.not_mem_nil⟩⟩) D_X11_cross_ok (by decide +kernel)
abbrev C_x_X10_isWithin_c2 : CE := ([(0, -9, 9), (0, 9, 9)], [], [], [(some (0, 1, 1), [], [], [])], [], 0, 0)
theorem ac_x_X10_isWithin_c2 (l : Launch) (G : KG) : ACt l G TX yX10_isWithin cX10_isWithin 2 (some .boolean) C_x_X10_isWithin_c2 := acert (tab := D_X10_isWithin) (fld := fld_10) (put := put_10) (cst := cst_10) (cstl := cstl_10) (cal := []) (rk := 3) (cuts := []) (fuel := 4000) (by decide) (Or.inr (Or.inr (Or.inr ⟨rfl, rfl⟩))) fld_10_ok put_10_ok cst_10_ok cstl_10_ok (fun _ h => absurd h List.not_mem_nil) D_X10_isWithin_ok (by decide +kernel)
abbrev C_x_X11_in_c5 : CE := ([(1, -9, 9), (1, -9, -9), (1, 9, 9)], [], [], [(some (0, 1, 1), [], [], [])], [], 0, 0)
theorem ac_x_X11_in_c5 (l : Launch) (G : KG) : ACt l G TM yX11_in cX11_in 6 (some .boolean) C_x_X11_in_c5 := acert (tab := D_X11_in) (fld := fld_11) (put := put_11) (cst := cst_11) (cstl := cstl_11) (cal := []) (rk := 3) (cuts := []) (fuel := 4000) (by decide) (Or.inr (Or.inr (Or.inr ⟨rfl, rfl⟩))) fld_11_ok put_11_ok cst_11_ok cstl_11_ok (fun _ h => absurd h List.not_mem_nil) D_X11_in_ok (by decide +kernel)
theorem mkq_cons {a k0 : Nat} {m : List (Nat × Nat)} {k j : Nat} (h : mkq ((k0, 999) :: m) k j = false) : k0 ≠ k ∧ mkq m k j = false := by
  have h : ((Nat.beq k0 k && (Nat.beq 999 j || true)) || mkq m k j) = false := h
  obtain ⟨h1, h2⟩ := Bool.or_eq_false_iff.mp h
  refine ⟨fun e => ?_, h2⟩
  rw [e, Nat.beq_refl, Bool.or_true] at h1
  cases h1
theorem cget_I {G : KG} {w : va_W} {k a n : Nat} {f : Nat → Int32} (h : w[k]? = some (a, aI G n f)) (j : Nat) : cget w k j = some (.inr (cyI G, n, .inl f)) := by
  unfold cget
  rw [h]
theorem arr_inj {c : ClassId} {n : Nat} {f g : Nat → Int32} (h : (some (.inr (c, n, .inl f)) : Option (Value ⊕ (ClassId × vp_A))) = some (.inr (c, n, .inl g))) : f = g := by
  have h1 := Sum.inr.inj (Option.some.inj h)
  have h2 := congrArg (fun q => q.2.2) h1
  exact Sum.inl.inj h2
/-- the end of cross: what stood there; there stands v -/
def CXpo (G : KG) (ad : Nat → Nat) (T : List TE) (k : Nat) (m : List (Nat × Nat)) (w0 : va_W) (f : Nat → Int32) (j : Nat) (v : Int32) : Option Value → va_W → Prop := fun r w1 => r = some (.int (f j)) ∧ WT G ad T w1 ∧ FRM ((k, 999) :: m) w0 w1 ∧ cget w1 k 0 = some (.inr (cyI G, 4, .inl (upd f j v)))
theorem cx_end {G : KG} {ad : Nat → Nat} {T : List TE} {k : Nat} {m : List (Nat × Nat)} {w0 ws : va_W} {f g : Nat → Int32} {j : Nat} {a b : Int} {x : Int32} (hW : WT G ad T ws) (hF : FRM m w0 ws) (hT : T[k]? = some (.inr (0, 4, (0, a, b)))) (hg : ws[k]? = some (ad k, aI G 4 g)) (hf : cget w0 k 0 = some (.inr (cyI G, 4, .inl f))) (hm : mkq m k 0 = false) (h1 : a ≤ x.toInt) (h2 : x.toInt ≤ b) : CXpo G ad T k m w0 f j x (some (.int (g j))) (ws.set k (ad k, aI G 4 (upd g j x))) := by
  have e : g = f := arr_inj ((cget_I hg 0).symm.trans ((hF.2 k 0 hm).trans hf))
  subst e
  refine ⟨rfl, WT.wr hW hT hg h1 h2, ⟨by rw [List.length_set]; exact hF.1, fun i q hi => ?_⟩, ?_⟩
  · obtain ⟨n1, n2⟩ := mkq_cons (a := 0) hi
    rw [cget_arr (Ne.symm n1)]
    exact hF.2 i q n2
  · unfold cget
    rw [set_same hg]
abbrev C_cxr : CE := ([(2, 0, 0), (0, 0, 1), (0, 0, 1), (0, -9, 9)], [], [], [], [], 1, 21)
abbrev rm_cxr : Room := { frames := 1, cells := 0, slots := 0, locals := 21 }
theorem d_cxr_25 : decode cX10_cross 25 = .ok (.aload_n 0, 1) := by decide +kernel
theorem d_cxr_26 : decode cX10_cross 26 = .ok (.getfield 71, 3) := by decide +kernel
theorem d_cxr_29 : decode cX10_cross 29 = .ok (.iconst 2, 1) := by decide +kernel
theorem d_cxr_30 : decode cX10_cross 30 = .ok (.iload_n 1, 1) := by decide +kernel
theorem d_cxr_31 : decode cX10_cross 31 = .ok (.imul, 1) := by decide +kernel
theorem d_cxr_32 : decode cX10_cross 32 = .ok (.iload_n 2, 1) := by decide +kernel
theorem d_cxr_33 : decode cX10_cross 33 = .ok (.iadd, 1) := by decide +kernel
theorem d_cxr_34 : decode cX10_cross 34 = .ok (.iaload, 1) := by decide +kernel
theorem d_cxr_35 : decode cX10_cross 35 = .ok (.istore 4, 2) := by decide +kernel
theorem d_cxr_37 : decode cX10_cross 37 = .ok (.aload_n 0, 1) := by decide +kernel
theorem d_cxr_38 : decode cX10_cross 38 = .ok (.getfield 71, 3) := by decide +kernel
theorem d_cxr_41 : decode cX10_cross 41 = .ok (.iconst 2, 1) := by decide +kernel
theorem d_cxr_42 : decode cX10_cross 42 = .ok (.iload_n 1, 1) := by decide +kernel
theorem d_cxr_43 : decode cX10_cross 43 = .ok (.imul, 1) := by decide +kernel
theorem d_cxr_44 : decode cX10_cross 44 = .ok (.iload_n 2, 1) := by decide +kernel
theorem d_cxr_45 : decode cX10_cross 45 = .ok (.iadd, 1) := by decide +kernel
theorem d_cxr_46 : decode cX10_cross 46 = .ok (.iload_n 3, 1) := by decide +kernel
theorem d_cxr_47 : decode cX10_cross 47 = .ok (.iastore, 1) := by decide +kernel
theorem d_cxr_48 : decode cX10_cross 48 = .ok (.iload 4, 2) := by decide +kernel
theorem d_cxr_50 : decode cX10_cross 50 = .ok (.ireturn, 1) := by decide +kernel
abbrev sC_cxr : CE := C_cxr
def sl_cxr : List CAL := [(156, 1, 1, C_x_X10_isOneOfTwo_c2), (159, 1, 2, C_x_X10_isWithin_c2)]
theorem sl_cxr_ok (l : Launch) (G : KG) : ∀ q ∈ sl_cxr, COK l G RX10 TX q := List.forall_mem_cons.mpr ⟨cok_s k_10_156 (ac_x_X10_isOneOfTwo_c2 l G) rfl, List.forall_mem_cons.mpr ⟨cok_s k_10_159 (ac_x_X10_isWithin_c2 l G) rfl, fun _ h => absurd h List.not_mem_nil⟩⟩
def sk_cxr : List CUT := []
abbrev se_cxr_25 : CUT := (25, ([(0, 0, false), (1, 1, false), (2, 2, false), (3, 3, false)], [], [(0, (2, 0, 0)), (1, (0, 0, 1)), (2, (0, 0, 1)), (3, (0, -9, 9))], [], [], 1000), 0, [(0, 0)])
def sx_cxr : List CUT := [se_cxr_25]
abbrev ss_cxr : AS := ([(0, 0, false), (1, 1, false), (2, 2, false), (3, 3, false)], [], [(0, (2, 0, 0)), (1, (0, 0, 1)), (2, (0, 0, 1)), (3, (0, -9, 9))], [], [], 1000)
theorem sg_cxr : xcheckS hk0 D_X10_cross 5 TX fld_10 put_10 cst_10 cstl_10 sl_cxr 1 sC_cxr sk_cxr sx_cxr [0, 1, 2, 3] 4000 0 ss_cxr = true := by decide +kernel
theorem ac_cxr (l : Launch) (G : KG) {ad : Nat → Nat} {w0 : va_W} {f : Nat → Int32} (b q v : Int32) (hW : WT G ad TX w0) (hf : cget w0 103 0 = some (.inr (cyI G, 4, .inl f))) (hb : b = 0 ∨ b = 1) (hq : q = 0 ∨ q = 1) (v0 : -9 ≤ v.toInt) (v1 : v.toInt ≤ 9) : Ct l G yX10_cross cX10_cross 5 (some .int) rm_cxr [.ref (ad 0), .int b, .int q, .int v] w0 (CXpo G ad TX 103 [] w0 f (2 * b + q).toNatClampNeg v) := by
  have b01 : 0 ≤ b.toInt ∧ b.toInt ≤ 1 := by rcases hb with rfl | rfl <;> exact ⟨by decide, by decide⟩
  have q01 : 0 ≤ q.toInt ∧ q.toInt ≤ 1 := by rcases hq with rfl | rfl <;> exact ⟨by decide, by decide⟩
  obtain ⟨μ, hμ⟩ : ∃ z : Nat → Value, z = fun k => if k = 0 then .ref (ad 0) else if k = 1 then .int b else if k = 2 then .int q else .int v := ⟨_, rfl⟩
  have m0 : μ 0 = .ref (ad 0) := by rw [hμ]; rfl
  have m1 : μ 1 = .int b := by rw [hμ]; rfl
  have m2 : μ 2 = .int q := by rw [hμ]; rfl
  have m3 : μ 3 = .int v := by rw [hμ]; rfl
  have hpre : PRE ad C_cxr μ w0 := by
    refine ⟨fun k t hk => ?_, fun k z hk => ?_, fun z hz => ?_⟩
    · match k, hk with
      | 0, hk => cases hk; rw [m0]; exact Or.inr (Or.inr (Or.inl ⟨rfl, rfl⟩))
      | 1, hk => cases hk; rw [m1]; exact vty_i b01.1 b01.2
      | 2, hk => cases hk; rw [m2]; exact vty_i q01.1 q01.2
      | 3, hk => cases hk; rw [m3]; exact vty_i v0 v1
      | N + 4, hk => cases hk
    · cases hk
    · cases hz
  have he : (List.range C_cxr.1.length).map μ = [.ref (ad 0), .int b, .int q, .int v] := by show [μ 0, μ 1, μ 2, μ 3] = _; rw [m0, m1, m2, m3]
  rw [← he]
  refine hand_ofR (C := C_cxr) (rm := rm_cxr) (PO := CXpo G ad TX 103 [] w0 f (2 * b + q).toNatClampNeg v) hW hpre (by decide) (by decide) (by decide) (by decide) (by decide) ?_
  intro p e s m args below meth c A X lw hg
  have hPO : ∀ r w1, POST G ad TX sC_cxr μ w0 r w1 → CXpo G ad TX 103 [] w0 f (2 * b + q).toNatClampNeg v r w1 := by
    intro r w1 hp
    obtain ⟨A1, hA1, -⟩ := hp
    cases hA1
  refine aseg (C := sC_cxr) (R := rm_cxr) (PO := CXpo G ad TX 103 [] w0 f (2 * b + q).toNatClampNeg v) (fld := fld_10) (put := put_10) (cst := cst_10) (cstl := cstl_10) (hk := hk0) (tab := D_X10_cross) (rk := 1) (pids := [0, 1, 2, 3]) D_X10_cross_ok X rfl rfl hok0 (Or.inr (Or.inl ⟨rfl, rfl⟩)) (Nat.zero_le _) (Nat.zero_le _) (spin1 (C := C_cxr)) (spin2 (C := C_cxr)) hPO fld_10_ok put_10_ok cst_10_ok cstl_10_ok (sl_cxr_ok l G) (Nat.zero_le _) (Nat.zero_le _) spin3 sg_cxr (fun d9 hd ν2 lw2 sw2 ws2 hg2 => ?_) μ lw [] w0 hg
  rw [List.mem_singleton.mp hd] at hg2 ⊢
  have h3 := hg2.2.2
  have e0 : ν2 0 = .ref (ad 0) := ((h3.2.2.2.2.1 _ (spin1 (C := C_cxr) 0 (by decide))).2).trans m0
  have e1 : ν2 1 = .int b := ((h3.2.2.2.2.1 _ (spin1 (C := C_cxr) 1 (by decide))).2).trans m1
  have e2 : ν2 2 = .int q := ((h3.2.2.2.2.1 _ (spin1 (C := C_cxr) 2 (by decide))).2).trans m2
  have e3 : ν2 3 = .int v := ((h3.2.2.2.2.1 _ (spin1 (C := C_cxr) 3 (by decide))).2).trans m3
  have el : lw2 = [(0, ν2 0), (1, ν2 1), (2, ν2 2), (3, ν2 3)] := hg2.1
  have es : sw2 = [] := hg2.2.1
  have hW2 := h3.2.2.2.2.2.1
  have hF2 := h3.2.2.2.2.2.2
  rw [el, es, e0, e1, e2, e3]
  obtain ⟨g, hg9, -⟩ := WT.ints (T := TX) (k := 103) (n := 4) hW2 rfl
  have hvp : vp_in (2 * b + q) 4 := by
    rcases hb with rfl | rfl <;> rcases hq with rfl | rfl <;> (unfold vp_in; decide)
  refine z_aload_n X d_cxr_25 rfl 0 rfl ?_
  refine hget (T := TX) X hW2 (idx := 71) (fld_10_ok _ (by decide : (71, 10, 9) ∈ fld_10)) d_cxr_26 rfl (fget_ref hW2 rfl rfl) ?_
  refine z_iconst X d_cxr_29 (v := 2) (by decide) ?_
  refine z_iload_n X d_cxr_30 rfl 1 rfl ?_
  refine z_imul X d_cxr_31 ?_
  refine z_iload_n X d_cxr_32 rfl 2 rfl ?_
  refine z_iadd X d_cxr_33 ?_
  refine z_iald X d_cxr_34 103 (hg9) (hvp) rfl ?_
  refine z_istore X d_cxr_35 (by decide) (lv' := [(4, .int (g ((((((2 : Int32)) * (b))) + (q))).toNatClampNeg)), (0, .ref (ad 0)), (1, .int (b)), (2, .int (q)), (3, .int (v))]) rfl ?_
  refine z_aload_n X d_cxr_37 rfl 1 rfl ?_
  refine hget (T := TX) X hW2 (idx := 71) (fld_10_ok _ (by decide : (71, 10, 9) ∈ fld_10)) d_cxr_38 rfl (fget_ref hW2 rfl rfl) ?_
  refine z_iconst X d_cxr_41 (v := 2) (by decide) ?_
  refine z_iload_n X d_cxr_42 rfl 2 rfl ?_
  refine z_imul X d_cxr_43 ?_
  refine z_iload_n X d_cxr_44 rfl 3 rfl ?_
  refine z_iadd X d_cxr_45 ?_
  refine z_iload_n X d_cxr_46 rfl 4 rfl ?_
  refine z_iast X d_cxr_47 103 (hg9) (hvp) rfl ?_
  refine z_iload X d_cxr_48 0 rfl ?_
  exact z_iret X rfl d_cxr_50 (Nat.zero_le _) (Nat.zero_le _) (cx_end (a := -2147483648) (b := 2147483647) (j := (2 * b + q).toNatClampNeg) hW2 hF2 rfl hg9 hf (by decide) (i32_lo v) (i32_hi v))
abbrev C_cmr : CE := ([(2, 0, 0), (0, 0, 1), (0, 0, 1), (0, -9, 9)], [], [], [], [(0, 0)], 2, 45)
abbrev rm_cmr : Room := { frames := 2, cells := 0, slots := 0, locals := 45 }
theorem d_cmr_35 : decode cX11_cross 35 = .ok (.aload_n 0, 1) := by decide +kernel
theorem d_cmr_36 : decode cX11_cross 36 = .ok (.getfield 135, 3) := by decide +kernel
theorem d_cmr_39 : decode cX11_cross 39 = .ok (.iconst 2, 1) := by decide +kernel
theorem d_cmr_40 : decode cX11_cross 40 = .ok (.iload_n 1, 1) := by decide +kernel
theorem d_cmr_41 : decode cX11_cross 41 = .ok (.imul, 1) := by decide +kernel
theorem d_cmr_42 : decode cX11_cross 42 = .ok (.iload_n 2, 1) := by decide +kernel
theorem d_cmr_43 : decode cX11_cross 43 = .ok (.iadd, 1) := by decide +kernel
theorem d_cmr_44 : decode cX11_cross 44 = .ok (.iaload, 1) := by decide +kernel
theorem d_cmr_45 : decode cX11_cross 45 = .ok (.istore 4, 2) := by decide +kernel
theorem d_cmr_47 : decode cX11_cross 47 = .ok (.aload_n 0, 1) := by decide +kernel
theorem d_cmr_48 : decode cX11_cross 48 = .ok (.getfield 135, 3) := by decide +kernel
theorem d_cmr_51 : decode cX11_cross 51 = .ok (.iconst 2, 1) := by decide +kernel
theorem d_cmr_52 : decode cX11_cross 52 = .ok (.iload_n 1, 1) := by decide +kernel
theorem d_cmr_53 : decode cX11_cross 53 = .ok (.imul, 1) := by decide +kernel
theorem d_cmr_54 : decode cX11_cross 54 = .ok (.iload_n 2, 1) := by decide +kernel
theorem d_cmr_55 : decode cX11_cross 55 = .ok (.iadd, 1) := by decide +kernel
theorem d_cmr_56 : decode cX11_cross 56 = .ok (.iload_n 3, 1) := by decide +kernel
theorem d_cmr_57 : decode cX11_cross 57 = .ok (.iastore, 1) := by decide +kernel
theorem d_cmr_58 : decode cX11_cross 58 = .ok (.iload 4, 2) := by decide +kernel
theorem d_cmr_60 : decode cX11_cross 60 = .ok (.ireturn, 1) := by decide +kernel
abbrev sC_cmr : CE := C_cmr
def sl_cmr : List CAL := [(130, 1, 1, C_x_X11_isPlane_c2), (29, 1, 6, C_x_X11_in_c5)]
theorem sl_cmr_ok (l : Launch) (G : KG) : ∀ q ∈ sl_cmr, COK l G RX11 TM q := List.forall_mem_cons.mpr ⟨cok_s k_11_130 (ac_x_X11_isPlane_c2 l G) rfl, List.forall_mem_cons.mpr ⟨cok_s k_11_29 (ac_x_X11_in_c5 l G) rfl, fun _ h => absurd h List.not_mem_nil⟩⟩
def sk_cmr : List CUT := []
abbrev se_cmr_35 : CUT := (35, ([(0, 0, false), (1, 1, false), (2, 2, false), (3, 3, false)], [], [(0, (2, 0, 0)), (1, (0, 0, 1)), (2, (0, 0, 1)), (3, (0, -9, 9)), (500, (0, 0, 0))], [(0, 0, 500)], [], 1000), 0, [(0, 0)])
def sx_cmr : List CUT := [se_cmr_35]
abbrev ss_cmr : AS := ([(0, 0, false), (1, 1, false), (2, 2, false), (3, 3, false)], [], [(0, (2, 0, 0)), (1, (0, 0, 1)), (2, (0, 0, 1)), (3, (0, -9, 9))], [], [], 1000)
theorem sg_cmr : xcheckS hk0 D_X11_cross 5 TM fld_11 put_11 cst_11 cstl_11 sl_cmr 1 sC_cmr sk_cmr sx_cmr [0, 1, 2, 3] 4000 0 ss_cmr = true := by decide +kernel
theorem ac_cmr (l : Launch) (G : KG) {ad : Nat → Nat} {w0 : va_W} {f : Nat → Int32} (b q v : Int32) (hW : WT G ad TM w0) (hf : cget w0 15 0 = some (.inr (cyI G, 4, .inl f))) (hb : b = 0 ∨ b = 1) (hq : q = 0 ∨ q = 1) (v0 : -9 ≤ v.toInt) (v1 : v.toInt ≤ 9) : Ct l G yX11_cross cX11_cross 5 (some .int) rm_cmr [.ref (ad 0), .int b, .int q, .int v] w0 (CXpo G ad TM 15 [(0, 0)] w0 f (2 * b + q).toNatClampNeg v) := by
  have b01 : 0 ≤ b.toInt ∧ b.toInt ≤ 1 := by rcases hb with rfl | rfl <;> exact ⟨by decide, by decide⟩
  have q01 : 0 ≤ q.toInt ∧ q.toInt ≤ 1 := by rcases hq with rfl | rfl <;> exact ⟨by decide, by decide⟩
  obtain ⟨μ, hμ⟩ : ∃ z : Nat → Value, z = fun k => if k = 0 then .ref (ad 0) else if k = 1 then .int b else if k = 2 then .int q else .int v := ⟨_, rfl⟩
  have m0 : μ 0 = .ref (ad 0) := by rw [hμ]; rfl
  have m1 : μ 1 = .int b := by rw [hμ]; rfl
  have m2 : μ 2 = .int q := by rw [hμ]; rfl
  have m3 : μ 3 = .int v := by rw [hμ]; rfl
  have hpre : PRE ad C_cmr μ w0 := by
    refine ⟨fun k t hk => ?_, fun k z hk => ?_, fun z hz => ?_⟩
    · match k, hk with
      | 0, hk => cases hk; rw [m0]; exact Or.inr (Or.inr (Or.inl ⟨rfl, rfl⟩))
      | 1, hk => cases hk; rw [m1]; exact vty_i b01.1 b01.2
      | 2, hk => cases hk; rw [m2]; exact vty_i q01.1 q01.2
      | 3, hk => cases hk; rw [m3]; exact vty_i v0 v1
      | N + 4, hk => cases hk
    · cases hk
    · cases hz
  have he : (List.range C_cmr.1.length).map μ = [.ref (ad 0), .int b, .int q, .int v] := by show [μ 0, μ 1, μ 2, μ 3] = _; rw [m0, m1, m2, m3]
  rw [← he]
  refine hand_ofR (C := C_cmr) (rm := rm_cmr) (PO := CXpo G ad TM 15 [(0, 0)] w0 f (2 * b + q).toNatClampNeg v) hW hpre (by decide) (by decide) (by decide) (by decide) (by decide) ?_
  intro p e s m args below meth c A X lw hg
  have hPO : ∀ r w1, POST G ad TM sC_cmr μ w0 r w1 → CXpo G ad TM 15 [(0, 0)] w0 f (2 * b + q).toNatClampNeg v r w1 := by
    intro r w1 hp
    obtain ⟨A1, hA1, -⟩ := hp
    cases hA1
  refine aseg (C := sC_cmr) (R := rm_cmr) (PO := CXpo G ad TM 15 [(0, 0)] w0 f (2 * b + q).toNatClampNeg v) (fld := fld_11) (put := put_11) (cst := cst_11) (cstl := cstl_11) (hk := hk0) (tab := D_X11_cross) (rk := 1) (pids := [0, 1, 2, 3]) D_X11_cross_ok X rfl rfl hok0 (Or.inr (Or.inl ⟨rfl, rfl⟩)) (Nat.zero_le _) (Nat.zero_le _) (spin1 (C := C_cmr)) (spin2 (C := C_cmr)) hPO fld_11_ok put_11_ok cst_11_ok cstl_11_ok (sl_cmr_ok l G) (Nat.zero_le _) (Nat.zero_le _) spin3 sg_cmr (fun d9 hd ν2 lw2 sw2 ws2 hg2 => ?_) μ lw [] w0 hg
  rw [List.mem_singleton.mp hd] at hg2 ⊢
  have h3 := hg2.2.2
  have e0 : ν2 0 = .ref (ad 0) := ((h3.2.2.2.2.1 _ (spin1 (C := C_cmr) 0 (by decide))).2).trans m0
  have e1 : ν2 1 = .int b := ((h3.2.2.2.2.1 _ (spin1 (C := C_cmr) 1 (by decide))).2).trans m1
  have e2 : ν2 2 = .int q := ((h3.2.2.2.2.1 _ (spin1 (C := C_cmr) 2 (by decide))).2).trans m2
  have e3 : ν2 3 = .int v := ((h3.2.2.2.2.1 _ (spin1 (C := C_cmr) 3 (by decide))).2).trans m3
  have el : lw2 = [(0, ν2 0), (1, ν2 1), (2, ν2 2), (3, ν2 3)] := hg2.1
  have es : sw2 = [] := hg2.2.1
  have hW2 := h3.2.2.2.2.2.1
  have hF2 := h3.2.2.2.2.2.2
  rw [el, es, e0, e1, e2, e3]
  obtain ⟨g, hg9, -⟩ := WT.ints (T := TM) (k := 15) (n := 4) hW2 rfl
  have hvp : vp_in (2 * b + q) 4 := by
    rcases hb with rfl | rfl <;> rcases hq with rfl | rfl <;> (unfold vp_in; decide)
  refine z_aload_n X d_cmr_35 rfl 0 rfl ?_
  refine hget (T := TM) X hW2 (idx := 135) (fld_11_ok _ (by decide : (135, 11, 23) ∈ fld_11)) d_cmr_36 rfl (fget_ref hW2 rfl rfl) ?_
  refine z_iconst X d_cmr_39 (v := 2) (by decide) ?_
  refine z_iload_n X d_cmr_40 rfl 1 rfl ?_
  refine z_imul X d_cmr_41 ?_
  refine z_iload_n X d_cmr_42 rfl 2 rfl ?_
  refine z_iadd X d_cmr_43 ?_
  refine z_iald X d_cmr_44 15 (hg9) (hvp) rfl ?_
  refine z_istore X d_cmr_45 (by decide) (lv' := [(4, .int (g ((((((2 : Int32)) * (b))) + (q))).toNatClampNeg)), (0, .ref (ad 0)), (1, .int (b)), (2, .int (q)), (3, .int (v))]) rfl ?_
  refine z_aload_n X d_cmr_47 rfl 1 rfl ?_
  refine hget (T := TM) X hW2 (idx := 135) (fld_11_ok _ (by decide : (135, 11, 23) ∈ fld_11)) d_cmr_48 rfl (fget_ref hW2 rfl rfl) ?_
  refine z_iconst X d_cmr_51 (v := 2) (by decide) ?_
  refine z_iload_n X d_cmr_52 rfl 2 rfl ?_
  refine z_imul X d_cmr_53 ?_
  refine z_iload_n X d_cmr_54 rfl 3 rfl ?_
  refine z_iadd X d_cmr_55 ?_
  refine z_iload_n X d_cmr_56 rfl 4 rfl ?_
  refine z_iast X d_cmr_57 15 (hg9) (hvp) rfl ?_
  refine z_iload X d_cmr_58 0 rfl ?_
  exact z_iret X rfl d_cmr_60 (Nat.zero_le _) (Nat.zero_le _) (cx_end (a := -9) (b := 9) (j := (2 * b + q).toNatClampNeg) hW2 hF2 rfl hg9 hf (by decide) v0 v1)
end
section
/-! two contracts of one call: both hold -/
theorem ended_inj {s : State} {below : List Frame} {v1 v2 : Option Value} (h1 : Ended s below (.returned v1)) (h2 : Ended s below (.returned v2)) : v1 = v2 := by
  have opt : ∀ {a b : Option Value} {S : List Value}, a.toList ++ S = b.toList ++ S → a = b := by
    intro a b S h
    have h := List.append_cancel_right h
    cases a with
    | none =>
      cases b with
      | none => rfl
      | some y => cases h
    | some x =>
      cases b with
      | none => cases h
      | some y => cases h; rfl
  cases below with
  | nil => exact h1.1.trans h2.1.symm
  | cons x r =>
    cases x with
    | java g =>
      obtain ⟨c1, i1, l1, a1, b1, f1⟩ := h1
      obtain ⟨c2, i2, l2, a2, b2, f2⟩ := h2
      rw [f1] at f2
      have h3 := (List.cons.inj f2).1
      have h4 := Frame.java.inj h3
      exact opt (congrArg JFrame.stack h4)
    | native g =>
      have f1 : s.frames = _ := h1
      have f2 : s.frames = _ := h2
      rw [f1] at f2
      have h3 := Frame.native.inj (List.cons.inj f2).1
      have h4 := congrArg NFrame.answer h3
      exact Outcome.returned.inj (Option.some.inj h4)
    | proc g =>
      have f1 : s.frames = _ := h1
      have f2 : s.frames = _ := h2
      rw [f1] at f2
      have h3 := Frame.proc.inj (List.cons.inj f2).1
      have h4 := congrArg PFrame.answer h3
      exact Outcome.returned.inj (Option.some.inj h4)
    | _ => exact h1.1.trans h2.1.symm
/-- two pictures of one heap -/
def Same2 (G : KG) (w1 w2 : va_W) : Prop := ∃ H : Heap, va_P G.1 vwCl w1 H ∧ va_P G.1 vwCl w2 H
theorem Ct.and {l : Launch} {G : KG} {y : MethodName} {cc : ByteArray} {mx : Nat} {ret : Option FieldType} {rm : Room} {av : List Value} {w0 wc : va_W} {post1 post2 : Option Value → va_W → Prop} (h1 : Ct l G y cc mx ret rm av w0 post1) (h2 : Ct l G y cc mx ret rm av wc post2) (is : List Nat) (hw : is.map (fun i => w0[i]?) = wc.map some) (hn : va_nd is = true) : Ct l G y cc mx ret rm av w0 (fun r w1 => post1 r w1 ∧ ∃ w2, post2 r w2 ∧ Same2 G w1 w2) := by
  intro sz p e ha hc hk s m args below hf happ hP hK
  have hP2 : Pcx G av wc sz args s := by
    obtain ⟨q0, q1, qP, qK, qD⟩ := hP
    exact ⟨q0, q1, va_Ppick qP is hw, qK, qD.sub is hn hw⟩
  obtain ⟨n1, o1, a1, b1, c1, ⟨⟨r1, w1, hr1, p1, P1, D1⟩, F1⟩, hL⟩ := h1 sz p e ha hc hk s m args below hf happ hP hK
  obtain ⟨n2, o2, a2, b2, c2, ⟨⟨r2, w2, hr2, p2, P2, D2⟩, F2⟩, -⟩ := h2 sz p e ha hc hk s m args below hf happ hP2 hK
  have en : n1 = n2 := by
    rcases Nat.lt_trichotomy n1 n2 with h | h | h
    · exact absurd (a2 n1 h) c1.not_within
    · exact h
    · exact absurd (a1 n2 h) c2.not_within
  subst en
  subst hr1
  subst hr2
  have er := ended_inj c1 c2
  subst er
  exact ⟨n1, .returned r1, a1, b1, c1, ⟨⟨r1, w1, rfl, ⟨p1, w2, p2, _, P1, P2⟩, P1, D1⟩, F1⟩, hL⟩
theorem same_at {G : KG} {w1 w2 : va_W} (h : Same2 G w1 w2) {k j a : Nat} {e1 e2 : va_E} (h1 : w1[k]? = some (a, e1)) (h2 : w2[j]? = some (a, e2)) : ∃ H : Heap, va_at G.1 vwCl (a, e1) H ∧ va_at G.1 vwCl (a, e2) H := by
  obtain ⟨H, p1, p2⟩ := h
  exact ⟨H, p1 k _ h1, p2 j _ h2⟩
theorem same_I {G : KG} {w1 w2 : va_W} (h : Same2 G w1 w2) {k j a n : Nat} {f g : Nat → Int32} (h1 : w1[k]? = some (a, aI G n f)) (h2 : w2[j]? = some (a, aI G n g)) : ∀ i, i < n → f i = g i := by
  obtain ⟨H, p1, p2⟩ := same_at h h1 h2
  have p1 : H[a]? = some (arrV (cyI G) n (fun j => .int (f j))) := p1
  have p2 : H[a]? = some (arrV (cyI G) n (fun j => .int (g j))) := p2
  rw [p1] at p2
  have e := congrArg Cell.slots (Option.some.inj p2)
  intro i hi
  have e2 : (Array.ofFn (n := n) fun j => Value.int (f j.val))[i]? = (Array.ofFn (n := n) fun j => Value.int (g j.val))[i]? := congrArg (fun q : Array Value => q[i]?) e
  rw [Array.getElem?_ofFn, Array.getElem?_ofFn, dif_pos hi, dif_pos hi] at e2
  exact Value.int.inj (Option.some.inj e2)
theorem same_O {G : KG} {w1 w2 : va_W} (h : Same2 G w1 w2) {k j a ci : Nat} {fs gs : List Value} {q : vw_C} (hq : vwCl[ci]? = some q) (h1 : w1[k]? = some (a, ob ci fs)) (h2 : w2[j]? = some (a, ob ci gs)) : ∀ i, i < q.2.2 → vp_V fs i = vp_V gs i := by
  obtain ⟨H, p1, p2⟩ := same_at h h1 h2
  obtain ⟨q1, z1, cell1, c1, -, -, s1⟩ := p1
  obtain ⟨q2, z2, cell2, c2, -, -, s2⟩ := p2
  have z1 : vwCl[ci]? = some q1 := z1
  have z2 : vwCl[ci]? = some q2 := z2
  rw [hq] at z1 z2
  cases z1
  cases z2
  have c1 : H[a]? = some cell1 := c1
  have c2 : H[a]? = some cell2 := c2
  rw [c1] at c2
  cases c2
  intro i hi
  have t1 := s1 i hi
  have t2 := s2 i hi
  rw [t1] at t2
  exact Option.some.inj t2
/-- a field by the other picture -/
theorem same_f {G : KG} {w1 w2 : va_W} (h : Same2 G w1 w2) {k j a ci i : Nat} {fs gs : List Value} {q : vw_C} {v : Value} (hq : vwCl[ci]? = some q) (h1 : w1[k]? = some (a, ob ci fs)) (h2 : w2[j]? = some (a, ob ci gs)) (hi : i < q.2.2) (hl : fs.length = q.2.2) (hv : gs[i]? = some v) : fget w1 k i = some v := by
  have e := same_O h hq h1 h2 i hi
  unfold fget
  rw [h1]
  show fs[i]? = some v
  have hi2 : i < fs.length := by rw [hl]; exact hi
  unfold vp_V at e
  rw [List.getD_eq_getElem?_getD, List.getD_eq_getElem?_getD, hv, List.getElem?_eq_getElem hi2] at e
  rw [List.getElem?_eq_getElem hi2]
  exact congrArg some e
end
section
/-! the mill, as a function of what lies on the tape -/
/-- the sign c, if it stands at p -/
def tk (f : Nat → Int32) (L p c : Int32) : Bool × Int32 := if p.toInt < L.toInt ∧ (f p.toNatClampNeg).toInt = c.toInt then (true, p + 1) else (false, p)
/-- a number of one or two digits, lo .. hi -/
def num (f : Nat → Int32) (L p lo hi : Int32) : Bool × Int32 × Int32 :=
  if p.toInt < L.toInt ∧ 48 ≤ (f p.toNatClampNeg).toInt ∧ (f p.toNatClampNeg).toInt ≤ 57 then
    if p.toInt + 1 < L.toInt ∧ 48 ≤ (f (p + 1).toNatClampNeg).toInt ∧ (f (p + 1).toNatClampNeg).toInt ≤ 57 then
      if lo.toInt ≤ 10 * ((f p.toNatClampNeg).toInt - 48) + (f (p + 1).toNatClampNeg).toInt - 48 ∧ 10 * ((f p.toNatClampNeg).toInt - 48) + (f (p + 1).toNatClampNeg).toInt - 48 ≤ hi.toInt then (true, p + 1 + 1, 10 * (f p.toNatClampNeg - 48) + f (p + 1).toNatClampNeg - 48) else (false, p + 1 + 1 - 1, 0)
    else if lo.toInt ≤ (f p.toNatClampNeg).toInt - 48 ∧ (f p.toNatClampNeg).toInt - 48 ≤ hi.toInt then (true, p + 1, f p.toNatClampNeg - 48) else (false, p + 1 - 1, 0)
  else (false, p, 0)
/-- a number with its sign -/
def sg (f : Nat → Int32) (L p : Int32) : Bool × Int32 × Int32 :=
  ((num f L (tk f L p 45).2 0 99).1, (num f L (tk f L p 45).2 0 99).2.1, if (tk f L p 45).1 = true then -(num f L (tk f L p 45).2 0 99).2.2 else (num f L (tk f L p 45).2 0 99).2.2)
/-- a line of a hole, from its letter at p, into place s -/
def hA (f : Nat → Int32) (L p : Int32) := num f L (p + 1) 0 1
def hB (f : Nat → Int32) (L p : Int32) := tk f L (hA f L p).2.1 44
def hC (f : Nat → Int32) (L p : Int32) := sg f L (hB f L p).2
def hD (f : Nat → Int32) (L p : Int32) := tk f L (hC f L p).2.1 44
def hE (f : Nat → Int32) (L p : Int32) := sg f L (hD f L p).2
def hF (f : Nat → Int32) (L p : Int32) := tk f L (hE f L p).2.1 44
def hG (f : Nat → Int32) (L p : Int32) := num f L (hF f L p).2 0 9
def hol (f : Nat → Int32) (L p : Int32) (s : Int) : Bool × Int32 :=
  if 16 ≤ s then (false, p)
  else if (hA f L p).1 = true then
    if (hB f L p).1 = true then
      if (hC f L p).1 = true then
        if (hD f L p).1 = true then
          if (hE f L p).1 = true then
            if (hF f L p).1 = true then ((hG f L p).1, (hG f L p).2.1)
            else (false, (hF f L p).2)
          else (false, (hE f L p).2.1)
        else (false, (hD f L p).2)
      else (false, (hC f L p).2.1)
    else (false, (hB f L p).2)
  else (false, (hA f L p).2.1)
/-- a line of a speed -/
def pA (f : Nat → Int32) (L p : Int32) := num f L (p + 1) 1 9
def pB (f : Nat → Int32) (L p : Int32) := tk f L (pA f L p).2.1 44
def pC (f : Nat → Int32) (L p : Int32) := num f L (pB f L p).2 0 9
def spd (f : Nat → Int32) (L p : Int32) (s : Int) : Bool × Int32 :=
  if 6 ≤ s then (false, p)
  else if (pA f L p).1 = true then
    if (pB f L p).1 = true then ((pC f L p).1, (pC f L p).2.1)
    else (false, (pB f L p).2)
  else (false, (pA f L p).2.1)
/-- a line of a cog -/
def cA (f : Nat → Int32) (L p : Int32) := num f L (p + 1) 0 99
def cog (f : Nat → Int32) (L p : Int32) (s : Int) : Bool × Int32 :=
  if 8 ≤ s then (false, p) else ((cA f L p).1, (cA f L p).2.1)
theorem upd_at {f : Nat → Int32} {k : Nat} {x : Int32} : upd f k x k = x := if_pos rfl
theorem upd_off {f : Nat → Int32} {k j : Nat} {x : Int32} (h : j ≠ k) : upd f k x j = f j := if_neg h
/-- four signs more, at N -/
def w4 (f : Nat → Int32) (N : Nat) (v : Int32) : Nat → Int32 := fun k => if k = N + 3 then (v >>> (0 &&& 31)) &&& 255 else if k = N + 2 then (v >>> (8 &&& 31)) &&& 255 else if k = N + 1 then (v >>> (16 &&& 31)) &&& 255 else if k = N + 0 then (v >>> (24 &&& 31)) &&& 255 else f k
section MDL
variable {f : Nat → Int32} {L p : Int32} {s : Int}
theorem hol_0 (h : 16 ≤ s) : hol f L p s = (false, p) := if_pos h
theorem hol_1 (h0 : ¬ 16 ≤ s) (h1 : ¬ (hA f L p).1 = true) : hol f L p s = (false, (hA f L p).2.1) := by
  unfold hol
  rw [if_neg h0, if_neg h1]
theorem hol_2 (h0 : ¬ 16 ≤ s) (h1 : (hA f L p).1 = true) (h2 : ¬ (hB f L p).1 = true) : hol f L p s = (false, (hB f L p).2) := by
  unfold hol
  rw [if_neg h0, if_pos h1, if_neg h2]
theorem hol_3 (h0 : ¬ 16 ≤ s) (h1 : (hA f L p).1 = true) (h2 : (hB f L p).1 = true) (h3 : ¬ (hC f L p).1 = true) : hol f L p s = (false, (hC f L p).2.1) := by
  unfold hol
  rw [if_neg h0, if_pos h1, if_pos h2, if_neg h3]
theorem hol_4 (h0 : ¬ 16 ≤ s) (h1 : (hA f L p).1 = true) (h2 : (hB f L p).1 = true) (h3 : (hC f L p).1 = true) (h4 : ¬ (hD f L p).1 = true) : hol f L p s = (false, (hD f L p).2) := by
  unfold hol
  rw [if_neg h0, if_pos h1, if_pos h2, if_pos h3, if_neg h4]
theorem hol_5 (h0 : ¬ 16 ≤ s) (h1 : (hA f L p).1 = true) (h2 : (hB f L p).1 = true) (h3 : (hC f L p).1 = true) (h4 : (hD f L p).1 = true) (h5 : ¬ (hE f L p).1 = true) : hol f L p s = (false, (hE f L p).2.1) := by
  unfold hol
  rw [if_neg h0, if_pos h1, if_pos h2, if_pos h3, if_pos h4, if_neg h5]
theorem hol_6 (h0 : ¬ 16 ≤ s) (h1 : (hA f L p).1 = true) (h2 : (hB f L p).1 = true) (h3 : (hC f L p).1 = true) (h4 : (hD f L p).1 = true) (h5 : (hE f L p).1 = true) (h6 : ¬ (hF f L p).1 = true) : hol f L p s = (false, (hF f L p).2) := by
  unfold hol
  rw [if_neg h0, if_pos h1, if_pos h2, if_pos h3, if_pos h4, if_pos h5, if_neg h6]
theorem hol_7 (h0 : ¬ 16 ≤ s) (h1 : (hA f L p).1 = true) (h2 : (hB f L p).1 = true) (h3 : (hC f L p).1 = true) (h4 : (hD f L p).1 = true) (h5 : (hE f L p).1 = true) (h6 : (hF f L p).1 = true) : hol f L p s = ((hG f L p).1, (hG f L p).2.1) := by
  unfold hol
  rw [if_neg h0, if_pos h1, if_pos h2, if_pos h3, if_pos h4, if_pos h5, if_pos h6]
theorem spd_0 (h : 6 ≤ s) : spd f L p s = (false, p) := if_pos h
theorem spd_1 (h0 : ¬ 6 ≤ s) (h1 : ¬ (pA f L p).1 = true) : spd f L p s = (false, (pA f L p).2.1) := by
  unfold spd
  rw [if_neg h0, if_neg h1]
theorem spd_2 (h0 : ¬ 6 ≤ s) (h1 : (pA f L p).1 = true) (h2 : ¬ (pB f L p).1 = true) : spd f L p s = (false, (pB f L p).2) := by
  unfold spd
  rw [if_neg h0, if_pos h1, if_neg h2]
theorem spd_3 (h0 : ¬ 6 ≤ s) (h1 : (pA f L p).1 = true) (h2 : (pB f L p).1 = true) : spd f L p s = ((pC f L p).1, (pC f L p).2.1) := by
  unfold spd
  rw [if_neg h0, if_pos h1, if_pos h2]
theorem cog_0 (h : 8 ≤ s) : cog f L p s = (false, p) := if_pos h
theorem cog_1 (h0 : ¬ 8 ≤ s) : cog f L p s = ((cA f L p).1, (cA f L p).2.1) := if_neg h0
end MDL
/-- a line, by its letter -/
def lin (f : Nat → Int32) (L p : Int32) (h s c : Int) : Bool × Int32 :=
  if p.toInt < L.toInt ∧ (f p.toNatClampNeg).toInt = 104 then hol f L p h
  else if p.toInt < L.toInt ∧ (f p.toNatClampNeg).toInt = 115 then spd f L p s
  else if p.toInt < L.toInt ∧ (f p.toNatClampNeg).toInt = 99 then cog f L p c
  else (false, p)
theorem lin_h {f : Nat → Int32} {L p : Int32} {h s c : Int} (h1 : p.toInt < L.toInt) (h2 : (f p.toNatClampNeg).toInt = 104) : lin f L p h s c = hol f L p h := if_pos ⟨h1, h2⟩
theorem lin_s {f : Nat → Int32} {L p : Int32} {h s c : Int} (h1 : p.toInt < L.toInt) (h2 : (f p.toNatClampNeg).toInt = 115) : lin f L p h s c = spd f L p s := by
  unfold lin
  rw [if_neg (by omega), if_pos ⟨h1, h2⟩]
theorem lin_c {f : Nat → Int32} {L p : Int32} {h s c : Int} (h1 : p.toInt < L.toInt) (h2 : (f p.toNatClampNeg).toInt = 99) : lin f L p h s c = cog f L p c := by
  unfold lin
  rw [if_neg (by omega), if_neg (by omega), if_pos ⟨h1, h2⟩]
theorem lin_0 {f : Nat → Int32} {L p : Int32} {h s c : Int} (h1 : p.toInt < L.toInt → (f p.toNatClampNeg).toInt ≠ 104 ∧ (f p.toNatClampNeg).toInt ≠ 115 ∧ (f p.toNatClampNeg).toInt ≠ 99) : lin f L p h s c = (false, p) := by
  unfold lin
  rw [if_neg (fun g => (h1 g.1).1 g.2), if_neg (fun g => (h1 g.1).2.1 g.2), if_neg (fun g => (h1 g.1).2.2 g.2)]
/-- what a line adds: a hole, a speed, a cog -/
def dl (c : Int) (f : Nat → Int32) (p : Int32) : Int := if (f p.toNatClampNeg).toInt = c then 1 else 0
theorem dl_1 {c : Int} {f : Nat → Int32} {p : Int32} (h : (f p.toNatClampNeg).toInt = c) : dl c f p = 1 := if_pos h
theorem dl_0 {c : Int} {f : Nat → Int32} {p : Int32} (h : (f p.toNatClampNeg).toInt ≠ c) : dl c f p = 0 := if_neg h
/-- the places of the lines that fill the slots -/
def nx (c : Int) (f : Nat → Int32) (p : Int32) (n : Int) (g : Nat → Int32) : Nat → Int32 := if (f p.toNatClampNeg).toInt = c then upd g n.toNat p else g
/-- line by line: whether the last one stands, where it ended, how many, the counts, where each slot's line began -/
def run (f : Nat → Int32) (L : Int32) : Nat → Int32 → Int → Int → Int → Int → (Nat → Int32) → (Nat → Int32) → (Nat → Int32) → Bool × Int32 × Int × Int × Int × Int × (Nat → Int32) × (Nat → Int32) × (Nat → Int32)
  | 0, p, h, s, c, k, a, b, d => (false, p, k, h, s, c, a, b, d)
  | n + 1, p, h, s, c, k, a, b, d =>
    if (lin f L p h s c).1 = true then
      if (tk f L (lin f L p h s c).2 59).1 = true then run f L n (tk f L (lin f L p h s c).2 59).2 (h + dl 104 f p) (s + dl 115 f p) (c + dl 99 f p) (k + 1) (nx 104 f p h a) (nx 115 f p s b) (nx 99 f p c d)
      else (true, (tk f L (lin f L p h s c).2 59).2, k + 1, h + dl 104 f p, s + dl 115 f p, c + dl 99 f p, nx 104 f p h a, nx 115 f p s b, nx 99 f p c d)
    else (false, (lin f L p h s c).2, k, h, s, c, a, b, d)
/-- what mill answers of n signs -/
def mil (f : Nat → Int32) (n : Int32) (r : Bool × Int32 × Int × Int × Int × Int × (Nat → Int32) × (Nat → Int32) × (Nat → Int32)) : Int :=
  if r.1 = true ∧ r.2.1.toInt = n.toInt then r.2.2.1 else -1 - r.2.1.toInt
end
section
/-! the mill: what holds at the head of the loop of lines -/
abbrev RR9 := Bool × Int32 × Int × Int × Int × Int × (Nat → Int32) × (Nat → Int32) × (Nat → Int32)
def zf : Nat → Int32 := fun _ => 0
def run0 (f : Nat → Int32) (L : Int32) (h s c : Int) : RR9 := run f L 60 0 h s c 0 zf zf zf
section MDL2
variable {f : Nat → Int32} {L p q : Int32} {h s c H S C j : Int} {a b d : Nat → Int32}
theorem tk_no {x : Int32} (h : ¬ (tk f L p x).1 = true) : (tk f L p x).2 = p := by
  unfold tk at h ⊢
  split
  · next g => rw [if_pos g] at h; exact absurd rfl h
  · rfl
theorem tk_far {x : Int32} (h : ¬ p.toInt < L.toInt) : ¬ (tk f L p x).1 = true := by
  unfold tk
  rw [if_neg (fun g => h g.1)]
  exact Bool.false_ne_true
theorem tk_yes {x : Int32} (h : (tk f L p x).1 = true) : (tk f L p x).2 = p + 1 ∧ p.toInt < L.toInt := by
  unfold tk at h ⊢
  split
  · next g => exact ⟨rfl, g.1⟩
  · next g => rw [if_neg g] at h; cases h
theorem lin_lt (h : (lin f L p H S C).1 = true) : p.toInt < L.toInt := by
  apply Classical.byContradiction
  intro g
  rw [lin_0 (fun q => absurd q g)] at h
  cases h
theorem lin_room (h : (lin f L p H S C).1 = true) (h1 : H ≤ 16) (h2 : S ≤ 6) (h3 : C ≤ 8) : (0 ≤ dl 104 f p ∧ dl 104 f p ≤ 1) ∧ (0 ≤ dl 115 f p ∧ dl 115 f p ≤ 1) ∧ (0 ≤ dl 99 f p ∧ dl 99 f p ≤ 1) ∧ H + dl 104 f p ≤ 16 ∧ S + dl 115 f p ≤ 6 ∧ C + dl 99 f p ≤ 8 := by
  have hp := lin_lt h
  have d1 : 0 ≤ dl 104 f p ∧ dl 104 f p ≤ 1 := by unfold dl; split <;> omega
  have d2 : 0 ≤ dl 115 f p ∧ dl 115 f p ≤ 1 := by unfold dl; split <;> omega
  have d3 : 0 ≤ dl 99 f p ∧ dl 99 f p ≤ 1 := by unfold dl; split <;> omega
  refine ⟨d1, d2, d3, ?_, ?_, ?_⟩
  · by_cases e : (f p.toNatClampNeg).toInt = 104
    · rw [lin_h hp e] at h
      by_cases g : 16 ≤ H
      · rw [hol_0 g] at h
        cases h
      · omega
    · rw [dl_0 e]; omega
  · by_cases e : (f p.toNatClampNeg).toInt = 115
    · rw [lin_s hp e] at h
      by_cases g : 6 ≤ S
      · rw [spd_0 g] at h
        cases h
      · omega
    · rw [dl_0 e]; omega
  · by_cases e : (f p.toNatClampNeg).toInt = 99
    · rw [lin_c hp e] at h
      by_cases g : 8 ≤ C
      · rw [cog_0 g] at h
        cases h
      · omega
    · rw [dl_0 e]; omega
/-- at the head: j lines were told -/
def MI (f : Nat → Int32) (L : Int32) (h s c : Int) (j : Int) (p : Int32) (H S C : Int) (a b d : Nat → Int32) : Prop :=
  0 ≤ j ∧ j ≤ p.toInt ∧ p.toInt ≤ 60 ∧ (h ≤ H ∧ H ≤ 16) ∧ (s ≤ S ∧ S ≤ 6) ∧ (c ≤ C ∧ C ≤ 8) ∧ run f L (60 - j).toNat p H S C j a b d = run0 f L h s c
theorem MI.zero (h1 : h ≤ 16) (h2 : s ≤ 6) (h3 : c ≤ 8) : MI f L h s c 0 0 h s c zf zf zf := ⟨by decide, by decide, by decide, ⟨Int.le_refl _, h1⟩, ⟨Int.le_refl _, h2⟩, ⟨Int.le_refl _, h3⟩, rfl⟩
theorem MI.bad (M : MI f L h s c j p H S C a b d) (hL : L.toInt ≤ 60) (hn : ¬ (lin f L p H S C).1 = true) : run0 f L h s c = (false, (lin f L p H S C).2, j, H, S, C, a, b, d) := by
  obtain ⟨j0, jp, p6, -, -, -, e⟩ := M
  rw [← e]
  by_cases g : j < 60
  · obtain ⟨n, hn2⟩ : ∃ n, (60 - j).toNat = n + 1 := ⟨(60 - j).toNat - 1, by omega⟩
    rw [hn2]
    show (if (lin f L p H S C).1 = true then _ else _) = _
    rw [if_neg hn]
  · have e2 : (60 - j).toNat = 0 := by omega
    rw [e2, lin_0 (fun q => absurd q (by omega))]
    rfl
theorem MI.late (M : MI f L h s c j p H S C a b d) (g : 60 ≤ j) : run0 f L h s c = (false, p, j, H, S, C, a, b, d) := by
  obtain ⟨j0, jp, p6, -, -, -, e⟩ := M
  rw [← e]
  have e2 : (60 - j).toNat = 0 := by omega
  rw [e2]
  rfl
theorem MI.last (M : MI f L h s c j p H S C a b d) (hL : L.toInt ≤ 60) (hy : (lin f L p H S C).1 = true) (hn : ¬ (tk f L (lin f L p H S C).2 59).1 = true) : run0 f L h s c = (true, (lin f L p H S C).2, j + 1, H + dl 104 f p, S + dl 115 f p, C + dl 99 f p, nx 104 f p H a, nx 115 f p S b, nx 99 f p C d) := by
  obtain ⟨j0, jp, p6, -, -, -, e⟩ := M
  have hp := lin_lt hy
  obtain ⟨n, hn2⟩ : ∃ n, (60 - j).toNat = n + 1 := ⟨(60 - j).toNat - 1, by omega⟩
  rw [← e, hn2]
  show (if (lin f L p H S C).1 = true then (if (tk f L (lin f L p H S C).2 59).1 = true then _ else _) else _) = _
  rw [if_pos hy, if_neg hn, tk_no hn]
theorem MI.step (M : MI f L h s c j p H S C a b d) (hL : L.toInt ≤ 60) (hy : (lin f L p H S C).1 = true) (hq : p.toInt ≤ (lin f L p H S C).2.toInt ∧ (lin f L p H S C).2.toInt ≤ 60) (ht : (tk f L (lin f L p H S C).2 59).1 = true) : MI f L h s c (j + 1) (tk f L (lin f L p H S C).2 59).2 (H + dl 104 f p) (S + dl 115 f p) (C + dl 99 f p) (nx 104 f p H a) (nx 115 f p S b) (nx 99 f p C d) := by
  obtain ⟨j0, jp, p6, h1, h2, h3, e⟩ := M
  have hp := lin_lt hy
  obtain ⟨t1, t2⟩ := tk_yes ht
  have r := lin_room hy h1.2 h2.2 h3.2
  have eq : ((lin f L p H S C).2 + 1).toInt = (lin f L p H S C).2.toInt + 1 := tI_add rfl (show (1 : Int32).toInt = 1 from by decide) (by omega)
  refine ⟨by omega, by rw [t1]; omega, by rw [t1]; omega, by omega, by omega, by omega, ?_⟩
  obtain ⟨n, hn2⟩ : ∃ n, (60 - j).toNat = n + 1 := ⟨(60 - j).toNat - 1, by omega⟩
  have e3 : (60 - (j + 1)).toNat = n := by omega
  rw [← e, hn2, e3]
  show _ = (if (lin f L p H S C).1 = true then (if (tk f L (lin f L p H S C).2 59).1 = true then _ else _) else _)
  rw [if_pos hy, if_pos ht]
/-- an array: before c as it was, from c to H as the places say -/
def AF (val : Int32 → Int32) (g0 g : Nat → Int32) (c H : Int) (a : Nat → Int32) : Prop := (∀ k : Nat, (k : Int) < c → g k = g0 k) ∧ (∀ k : Nat, c ≤ (k : Int) → (k : Int) < H → g k = val (a k))
variable {val : Int32 → Int32} {g0 g g2 : Nat → Int32} {n : Nat} {w : Int}
theorem AF.zero : AF val g0 g0 c c a := ⟨fun _ _ => rfl, fun k h1 h2 => absurd h1 (by omega)⟩
theorem AF.cut (h : AF val g0 g c H a) : AF val g0 g c c b := ⟨h.1, fun k h1 h2 => absurd h1 (by omega)⟩
theorem AF.off (h : AF val g0 g c H a) (hc : c ≤ H) (hs : (n : Int) = H) (hO : ∀ k, k ≠ n → g2 k = g k) : AF val g0 g2 c H a := ⟨fun k hk => (hO k (by omega)).trans (h.1 k hk), fun k h1 h2 => (hO k (by omega)).trans (h.2 k h1 h2)⟩
theorem AF.on (h : AF val g0 g c H a) (hc : c ≤ H) (hs : (n : Int) = H) (hO : ∀ k, k ≠ n → g2 k = g k) (hS : (f p.toNatClampNeg).toInt = w → g2 n = val p) : AF val g0 g2 c (H + dl w f p) (nx w f p H a) := by
  by_cases e : (f p.toNatClampNeg).toInt = w
  · rw [dl_1 e]
    have ea : nx w f p H a = upd a H.toNat p := if_pos e
    have es : H.toNat = n := by omega
    rw [ea, es]
    refine ⟨fun k hk => (hO k (by omega)).trans (h.1 k hk), fun k h1 h2 => ?_⟩
    by_cases ek : k = n
    · subst ek
      rw [hS e, upd_at]
    · rw [hO k ek, upd_off ek]
      exact h.2 k h1 (by omega)
  · have ea : nx w f p H a = a := if_neg e
    rw [dl_0 e, ea, Int.add_zero]
    exact h.off hc hs hO
/-- what mill answers, and the counts afterwards -/
def okR (n : Int32) (R : RR9) : Prop := R.1 = true ∧ R.2.1.toInt = n.toInt
def CN (n : Int32) (R : RR9) (v h s c h2 s2 c2 : Int) : Prop :=
  (n.toInt ≤ 0 → v = 0) ∧ (0 < n.toInt → okR n R → v = R.2.2.1) ∧ (0 < n.toInt → ¬ okR n R → v = -1 - R.2.1.toInt) ∧ (okR n R → h2 = R.2.2.2.1 ∧ s2 = R.2.2.2.2.1 ∧ c2 = R.2.2.2.2.2.1) ∧ (¬ okR n R → h2 = h ∧ s2 = s ∧ c2 = c)
variable {N : Int32} {R : RR9} {v k : Int} {t : Bool}
theorem CN.zero (h0 : N.toInt = 0) (hL : L.toInt ≤ 0) : CN N (run0 f L h s c) 0 h s c h s c := by
  have e : (run0 f L h s c).1 = false := by
    show (if (lin f L 0 h s c).1 = true then _ else _ : RR9).1 = _
    have z0 : (0 : Int32).toInt = 0 := by decide
    rw [lin_0 (f := f) (L := L) (p := 0) (fun q => absurd q (by omega))]
    rfl
  have n0 : ¬ okR N (run0 f L h s c) := fun g => by rw [g.1] at e; cases e
  exact ⟨fun _ => rfl, fun q => absurd q (by omega), fun q => absurd q (by omega), fun g => absurd g n0, fun _ => ⟨rfl, rfl, rfl⟩⟩
theorem CN.bad (hR : R = (false, q, k, H, S, C, a, b, d)) (h0 : 0 < N.toInt) (hv : v = -1 - q.toInt) : CN N R v h s c h s c := by
  subst hR
  have n0 : ¬ okR N (false, q, k, H, S, C, a, b, d) := fun g => by cases g.1
  exact ⟨fun g => absurd g (by omega), fun _ g => absurd g n0, fun _ _ => hv, fun g => absurd g n0, fun _ => ⟨rfl, rfl, rfl⟩⟩
theorem CN.far (hR : R = (t, q, k, H, S, C, a, b, d)) (h0 : 0 < N.toInt) (hq : q.toInt ≠ N.toInt) (hv : v = -1 - q.toInt) : CN N R v h s c h s c := by
  subst hR
  have n0 : ¬ okR N (t, q, k, H, S, C, a, b, d) := fun g => hq g.2
  exact ⟨fun g => absurd g (by omega), fun _ g => absurd g n0, fun _ _ => hv, fun g => absurd g n0, fun _ => ⟨rfl, rfl, rfl⟩⟩
theorem CN.good (hR : R = (true, q, k, H, S, C, a, b, d)) (h0 : 0 < N.toInt) (hq : q.toInt = N.toInt) (hv : v = k) : CN N R v h s c H S C := by
  subst hR
  have y0 : okR N (true, q, k, H, S, C, a, b, d) := ⟨rfl, hq⟩
  exact ⟨fun g => absurd g (by omega), fun _ _ => hv, fun _ g => absurd y0 g, fun _ => ⟨rfl, rfl, rfl⟩, fun g => absurd y0 g⟩
/-- one answer on both sides -/
theorem CN.same {v1 v2 h1 s1 c1 h2 s2 c2 : Int} (A : CN N R v1 h s c h1 s1 c1) (B : CN N R v2 h s c h2 s2 c2) : v1 = v2 ∧ h1 = h2 ∧ s1 = s2 ∧ c1 = c2 := by
  obtain ⟨a1, a2, a3, a4, a5⟩ := A
  obtain ⟨b1, b2, b3, b4, b5⟩ := B
  by_cases g : okR N R
  · have e1 := a4 g
    have e2 := b4 g
    refine ⟨?_, by omega, by omega, by omega⟩
    by_cases z : N.toInt ≤ 0
    · rw [a1 z, b1 z]
    · rw [a2 (by omega) g, b2 (by omega) g]
  · have e1 := a5 g
    have e2 := b5 g
    refine ⟨?_, by omega, by omega, by omega⟩
    by_cases z : N.toInt ≤ 0
    · rw [a1 z, b1 z]
    · rw [a3 (by omega) g, b3 (by omega) g]
/-- the arrays of what is told -/
def A7 (f : Nat → Int32) (L : Int32) (h s c : Int) (p0 x0 y0 r0 f0 o0 w0 p1 x1 y1 r1 f1 o1 w1 : Nat → Int32) (H S C : Int) (a b d : Nat → Int32) : Prop :=
  AF (fun p => (hA f L p).2.2) p0 p1 h H a ∧ AF (fun p => (hC f L p).2.2) x0 x1 h H a ∧ AF (fun p => (hE f L p).2.2) y0 y1 h H a ∧ AF (fun p => (hG f L p).2.2) r0 r1 h H a ∧ AF (fun p => (pA f L p).2.2) f0 f1 s S b ∧ AF (fun p => (pC f L p).2.2) o0 o1 s S b ∧ AF (fun p => (cA f L p).2.2) w0 w1 c C d
variable {p0 x0 y0 r0 f0 o0 w0 p1 x1 y1 r1 f1 o1 w1 p2 x2 y2 r2 f2 o2 w2 a2 b2 d2 : Nat → Int32} {nh ns nc : Nat}
theorem A7.zero : A7 f L h s c p0 x0 y0 r0 f0 o0 w0 p0 x0 y0 r0 f0 o0 w0 h s c a b d := ⟨AF.zero, AF.zero, AF.zero, AF.zero, AF.zero, AF.zero, AF.zero⟩
theorem A7.cut (A : A7 f L h s c p0 x0 y0 r0 f0 o0 w0 p1 x1 y1 r1 f1 o1 w1 H S C a b d) : A7 f L h s c p0 x0 y0 r0 f0 o0 w0 p1 x1 y1 r1 f1 o1 w1 h s c a2 b2 d2 := by
  obtain ⟨z1, z2, z3, z4, z5, z6, z7⟩ := A
  exact ⟨z1.cut, z2.cut, z3.cut, z4.cut, z5.cut, z6.cut, z7.cut⟩
theorem A7.off (A : A7 f L h s c p0 x0 y0 r0 f0 o0 w0 p1 x1 y1 r1 f1 o1 w1 H S C a b d) (hb : h ≤ H ∧ s ≤ S ∧ c ≤ C) (hn : (nh : Int) = H ∧ (ns : Int) = S ∧ (nc : Int) = C) (hO : (∀ k, k ≠ nh → p2 k = p1 k) ∧ (∀ k, k ≠ nh → x2 k = x1 k) ∧ (∀ k, k ≠ nh → y2 k = y1 k) ∧ (∀ k, k ≠ nh → r2 k = r1 k) ∧ (∀ k, k ≠ ns → f2 k = f1 k) ∧ (∀ k, k ≠ ns → o2 k = o1 k) ∧ (∀ k, k ≠ nc → w2 k = w1 k)) : A7 f L h s c p0 x0 y0 r0 f0 o0 w0 p2 x2 y2 r2 f2 o2 w2 H S C a b d := by
  obtain ⟨z1, z2, z3, z4, z5, z6, z7⟩ := A
  obtain ⟨o1, o2, o3, o4, o5, o6, o7⟩ := hO
  exact ⟨z1.off hb.1 hn.1 o1, z2.off hb.1 hn.1 o2, z3.off hb.1 hn.1 o3, z4.off hb.1 hn.1 o4, z5.off hb.2.1 hn.2.1 o5, z6.off hb.2.1 hn.2.1 o6, z7.off hb.2.2 hn.2.2 o7⟩
theorem A7.on (A : A7 f L h s c p0 x0 y0 r0 f0 o0 w0 p1 x1 y1 r1 f1 o1 w1 H S C a b d) (hb : h ≤ H ∧ s ≤ S ∧ c ≤ C) (hn : (nh : Int) = H ∧ (ns : Int) = S ∧ (nc : Int) = C) (hO : (∀ k, k ≠ nh → p2 k = p1 k) ∧ (∀ k, k ≠ nh → x2 k = x1 k) ∧ (∀ k, k ≠ nh → y2 k = y1 k) ∧ (∀ k, k ≠ nh → r2 k = r1 k) ∧ (∀ k, k ≠ ns → f2 k = f1 k) ∧ (∀ k, k ≠ ns → o2 k = o1 k) ∧ (∀ k, k ≠ nc → w2 k = w1 k))
    (hS : ((f p.toNatClampNeg).toInt = 104 → p2 nh = (hA f L p).2.2) ∧ ((f p.toNatClampNeg).toInt = 104 → x2 nh = (hC f L p).2.2) ∧ ((f p.toNatClampNeg).toInt = 104 → y2 nh = (hE f L p).2.2) ∧ ((f p.toNatClampNeg).toInt = 104 → r2 nh = (hG f L p).2.2) ∧ ((f p.toNatClampNeg).toInt = 115 → f2 ns = (pA f L p).2.2) ∧ ((f p.toNatClampNeg).toInt = 115 → o2 ns = (pC f L p).2.2) ∧ ((f p.toNatClampNeg).toInt = 99 → w2 nc = (cA f L p).2.2)) : A7 f L h s c p0 x0 y0 r0 f0 o0 w0 p2 x2 y2 r2 f2 o2 w2 (H + dl 104 f p) (S + dl 115 f p) (C + dl 99 f p) (nx 104 f p H a) (nx 115 f p S b) (nx 99 f p C d) := by
  obtain ⟨z1, z2, z3, z4, z5, z6, z7⟩ := A
  obtain ⟨o1, o2, o3, o4, o5, o6, o7⟩ := hO
  obtain ⟨s1, s2, s3, s4, s5, s6, s7⟩ := hS
  exact ⟨z1.on hb.1 hn.1 o1 s1, z2.on hb.1 hn.1 o2 s2, z3.on hb.1 hn.1 o3 s3, z4.on hb.1 hn.1 o4 s4, z5.on hb.2.1 hn.2.1 o5 s5, z6.on hb.2.1 hn.2.1 o6 s6, z7.on hb.2.2 hn.2.2 o7 s7⟩
end MDL2
theorem CN.cast {N : Int32} {R : RR9} {v h s c h2 s2 c2 v' h2' s2' c2' : Int} (A : CN N R v h s c h2 s2 c2) (e1 : v' = v) (e2 : h2' = h2) (e3 : s2' = s2) (e4 : c2' = c2) : CN N R v' h s c h2' s2' c2' := by
  subst e1
  subst e2
  subst e3
  subst e4
  exact A
theorem A7.cast {f : Nat → Int32} {L : Int32} {h s c H S C H' S' C' : Int} {p0 x0 y0 r0 f0 o0 w0 p1 x1 y1 r1 f1 o1 w1 a b d : Nat → Int32} (A : A7 f L h s c p0 x0 y0 r0 f0 o0 w0 p1 x1 y1 r1 f1 o1 w1 H S C a b d) (e2 : H' = H) (e3 : S' = S) (e4 : C' = C) : A7 f L h s c p0 x0 y0 r0 f0 o0 w0 p1 x1 y1 r1 f1 o1 w1 H' S' C' a b d := by
  subst e2
  subst e3
  subst e4
  exact A
theorem AF.cast {val : Int32 → Int32} {g0 g a : Nat → Int32} {c H H' : Int} (A : AF val g0 g c H a) (e : H' = H) : AF val g0 g c H' a := by
  subst e
  exact A
theorem MI.cast {f : Nat → Int32} {L : Int32} {h s c j H S C j' H' S' C' : Int} {p p' : Int32} {a b d : Nat → Int32} (M : MI f L h s c j p H S C a b d) (e0 : j' = j) (e1 : p' = p) (e2 : H' = H) (e3 : S' = S) (e4 : C' = C) : MI f L h s c j' p' H' S' C' a b d := by
  subst e0
  subst e1
  subst e2
  subst e3
  subst e4
  exact M
/-- a slot's number -/
theorem slot_of {a b : Int32} {x y : Int} (ha : a.toInt = x) (hb : b.toInt = y) (h : 0 ≤ x ∧ x ≤ 100 ∧ 0 ≤ y ∧ y ≤ 100) : ((a + b).toNatClampNeg : Int) = x + y := by
  have e : (a + b).toInt = x + y := tI_add ha hb (by omega)
  show ((a + b).toInt.toNat : Int) = x + y
  omega
theorem slot_of1 {a : Int32} {x : Int} (ha : a.toInt = x) (h : 0 ≤ x) : (a.toNatClampNeg : Int) = x := by
  show (a.toInt.toNat : Int) = x
  omega
end
