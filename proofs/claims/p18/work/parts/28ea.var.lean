/-! a call whose cost hangs on its end -/
abbrev PVT := Nat → Nat → Option Value → va_W → Prop
def MQV (below : List Frame) (G : KG) (PV : PVT) (args : Array Value) (s : State) (A : Nat → Prop) : State → Prop := fun t => ∃ k n, MQ below (QQ G A (PV k n)) args s k n A t
def CtV (l : Launch) (G : KG) (y : MethodName) (cc : ByteArray) (maxL : Nat) (ret : Option FieldType) (rm : Room) (av : List Value) (w0 : va_W) (PV : PVT) : Prop := ∀ sz : Nat, MetFree l y (headSpec (wsOf y cc maxL ret) rm) (Pcx G av w0 sz) (fun _ _ _ _ _ => True) (fun a st o t => ∃ k n, Qcx G w0 sz (PV k n) a st o t ∧ ∃ L, FrameEnd st o t L k n ∧ ∀ q ∈ L, va_A w0 sz q.base)
section VARA
variable {p : Program} {l : Launch} {e : Env} {R : Room} {s : State} {m : MethodId} {args : Array Value} {below : List Frame} {meth : Method} {c : Code} {nL : Nat} {G : KG} {A : Nat → Prop} {Q Q' : State → Prop} {cc : ByteArray} {own : String} {ret : Option FieldType} {nm : String} {kc ks pc : Nat} {lv : List (Nat × Value)} {st rest : List Value} {ws : va_W}
theorem Z.imp (hQ : ∀ t, Q t → Q' t) (h : Z p l e R s m args below meth c nL G A Q pc lv st ws kc ks) : Z p l e R s m args below meth c nL G A Q' pc lv st ws kc ks := by
  intro H locs ls hP hD hS hl T hT X
  obtain ⟨t, a, b⟩ := h H locs ls hP hD hS hl T hT X
  exact ⟨t, a, hQ t b⟩
theorem mqv_of {PV : PVT} {PO : Option Value → va_W → Prop} {k n : Nat} (h : ∀ r w, PO r w → PV k n r w) : ∀ t, MQ below (QQ G A PO) args s k n A t → MQV below G PV args s A t := by
  rintro t ⟨o, a1, a2, ⟨⟨r, w1, b1, b2, b3⟩, b4⟩, b5⟩
  exact ⟨k, n, o, a1, a2, ⟨⟨r, w1, b1, h r w1 b2, b3⟩, b4⟩, b5⟩
set_option maxHeartbeats 4000000 in
theorem ctV_of {l : Launch} {G : KG} {y : MethodName} {cc : ByteArray} {maxL : Nat} {ret : Option FieldType} {rm : Room} {av : List Value} {w0 : va_W} {PV : PVT} (lv : List (Nat × Value)) (hy : plainName y.cls = true) (hlen : (lg_sl av).length ≤ maxL) (hlv : lv_args 0 av = lv)
    (body : ∀ (p : Program) (e : Env) (s : State) (m : MethodId) (args : Array Value) (below : List Frame) (meth : Method) (c : Code) (A : Nat → Prop), ZC p s m args meth c cc maxL y.cls G A ret y.name →
      Z p l e rm s m args below meth c maxL G A (MQV below G PV args s A) 0 lv [] w0 0 0) : CtV l G y cc maxL ret rm av w0 PV := by
  intro sz
  refine MetFree.of_bodyS (code := cc) (maxLocals := maxL) (ret := ret) hy ?_ ?_
  · intro args s m h hn
    obtain ⟨meth, c, h1, h2, h3, h4, h5, h6, -, -⟩ := Cond.code_spec hn (atoms_spec (ws := wsOf y cc maxL ret) h _ List.mem_cons_self)
    exact ⟨meth, c, h1, h2, h3, h4, h5, h6⟩
  · intro p e s m args below meth c s₁ B hml hv _
    obtain ⟨rfl, hsz, hP, hK, hD0⟩ := hv
    have hts := atoms_spec (ws := wsOf y cc maxL ret) B.pre
    have hown : s.vm.findClass y.cls = some m.cls := findClass_of_methodNamed B.named
    subst hsz
    have hD := hD0.self (sz := s.heap.size)
    have hA : ∀ q : Nat, s.heap.size ≤ q → va_A w0 s.heap.size q := fun q h => Or.inr h
    have hl := lv_entry av (n := maxL) hlen
    rw [hlv] at hl
    have hn : meth.name = y.name := (name_of_methodNamed B.named B.method).1
    have hh0 : s₁.heap = s.heap := by rw [B.state]; rfl
    have hw := body p e s m av.toArray below meth c (va_A w0 s.heap.size) ⟨B.exec, B.bytes, hml, hown, fun w hw => hts w (List.mem_cons_of_mem _ hw), hK, hA, B.notSynchronized, B.returns, hn⟩ s.heap [] _ hP hD va_S.rf hl
    rw [← lg_entry_eq] at hw
    obtain ⟨t, a1, k, n, o, b1, b2, b3⟩ := hw s₁ hh0 (Stand.of_body B)
    exact ⟨t, o, a1, b1, b2, k, n, b3.1, b3.2⟩
def PostV (PQ : Nat → Nat → Array Value → State → Outcome → State → Prop) (mc ms : Nat) (free : Addr → Prop) : Pt → Array Value → Option Value → Pt → Prop := fun A a v B => ∃ k n, PostOf (PQ k n) k n free A a v B
set_option maxHeartbeats 1000000 in
theorem z_callVV {idx mx n b : Nat} {C : String} {y : MethodName} {cy : ByteArray} {rt : Option FieldType} {rm : Room} {As : List Value} {w0 wr : va_W} {PV : PVT} (X : ZC p s m args meth c cc nL own G A ret nm) (K : LkV own idx C y cy mx rt n) (hM : CtV l G y cy mx rt rm (.ref b :: As) w0 PV) (hdg : decode cc pc = .ok (.invokevirtual idx, 3)) (q0 : Nat) {ci : Nat} {fs : List Value} (he : ws[q0]? = some (b, .inr (ci, fs))) {q : vw_C} (hc : vwCl[ci]? = some q) (hqC : q.1 = C) (hR : rm.frames + 1 ≤ R.frames ∧ 8 + (mx + 11) + rm.locals ≤ R.locals) (hf : kc + rm.cells ≤ R.cells ∧ ks + rm.slots ≤ R.slots) (hn : As.length = n) (hst : st = As.reverse ++ .ref b :: rest) (hcat : (rest.map fun v => v.category).sum ≤ 8) (isC isR : List Nat) (hC : isC.map (fun i => ws[i]?) = w0.map some) (hnC : va_nd isC = true) (hRw : isR.map (fun i => ws[i]?) = wr.map some) (hnR : va_nd isR = true) (hdis : (isR.all fun i => decide (i ∉ isC)) = true)
    (kk : ∀ (k n : Nat) (r : Option Value) (w1 : va_W), PV k n r w1 → Z p l e R s m args below meth c nL G A Q (pc + 3) lv (r.toList ++ rest) (wr ++ w1) (kc + k) (ks + n)) : Z p l e R s m args below meth c nL G A Q pc lv st ws kc ks := by
  obtain ⟨k1, k2, k3, k4, k5, k6, k7, k8, k9⟩ := K
  subst hst
  intro H locs ls hP hD hS hl
  have hts := X.2.2.2.2.1
  obtain ⟨cell, c1, c2, c3⟩ := recv_v X hP q0 he hc
  rw [hqC] at c3
  have hGI : GoodIn BIG (wsV own idx C y (wsOf y cy mx rt)) := by
    intro w hw
    rcases List.mem_append.mp hw with h | h
    · have : w ∈ BIG := by
        rcases List.mem_cons.mp h with e | h
        · rw [e]; exact k1
        rcases List.mem_cons.mp h with e | h
        · rw [e]; exact k2
        rcases List.mem_cons.mp h with e | h
        · rw [e]; exact k3
        rcases List.mem_cons.mp h with e | h
        · rw [e]; exact k4
        cases h
      exact ⟨this, big_good this⟩
    · exact goodIn_wsOf k5 w h
  have cw := cwV (R := R) (own := own) (index := idx) (C := C) (y := y) (bytes := cy) (maxL := mx) (ret := rt) (rm := rm) (mc := rm.cells) (ms := rm.slots) n hts hGI rfl rfl rfl ⟨k6, k7, k8, k9⟩ hR
  have hpre := pre_v (locs := locs) X hP hD isC hC hnC (.ref b :: As)
  have hF : ∀ q, va_A w0 H.size q → A q := va_free hD hS X.2.2.2.2.2.2.1 isC hC
  obtain ⟨⟨hrc, hrs, hfr, hlo, hws, hcw, hcode, hini, hy, hlen, hl9⟩, hin, hse⟩ := cw
  have hK : Back l R p e below s args y 3 8 (PreOf R rm.cells rm.slots (Pcx G (.ref b :: As) w0 H.size)) (PostV (fun k n => Qcx G w0 H.size (PV k n)) 0 0 (va_A w0 H.size)) := by
    refine Back.of_free (S := headSpec (wsOf y cy mx rt) rm) (P := Pcx G (.ref b :: As) w0 H.size) (K := fun _ _ _ _ _ => True) (Q := fun a st o t => ∃ k n, Qcx G w0 H.size (PV k n) a st o t ∧ ∃ L, FrameEnd st o t L k n ∧ ∀ q ∈ L, va_A w0 H.size q.base) (bytes := cy) (maxL := mx) (ret := rt)
      (E := fun a st o t L k n => Qcx G w0 H.size (PV k n) a st o t ∧ ∀ q ∈ L, va_A w0 H.size q.base) (hM H.size) hfr hlo ?_ ?_ (fun _ _ _ _ _ _ _ _ _ => trivial) ?_ ?_
    · intro m meth c A a X hp
      exact ⟨atoms_intro fun w hw => hws w hw _ _ X.warmed, hws _ hcw _ _ X.warmed, word_at X.warmed (Or.inl (by first | rfl | simp [Cond.onTables, Cond.keeps, Cond.steady])) hini, hp.1, hp.2.1⟩
    · intro m meth c A a g mk X hp
      exact Pcx.blind _ _ _ _ hp.2.2
    · rintro a st o t ⟨k, n, hq, L, hF, hL⟩
      exact ⟨L, k, n, hF, hq, hL⟩
    · intro m meth c A a g mk v t L k n X hp hq hF ⟨e1, hL⟩
      exact ⟨k, n, g, mk, t, L, rfl, rfl, e1, rfl, hL, rfl, rfl⟩
  intro T hT X9
  obtain ⟨v, vm₁, ⟨U', l2, c2', s2⟩, hW₁, X', ⟨k, n', g', mk, t, L, e1, e2, hq, h1, hL, h2, h3⟩, stp⟩ := callV X9 X.1 (C := C) (bytes := cy) (maxL := mx) (ret := rt) X.2.2.2.1 hl9 hin hse hcode hy hK (by rw [hT]; exact c1) c2 c3 rfl (hl.1.trans X.2.2.1.symm) (argsL := As) (rest := rest) (fun sig h => hn.trans (hlen sig h)) rfl (lv_room hcat) (by rw [X.2.1]; exact hdg)
    (fun vm₁ hW₁ => ⟨hf.1, hf.2, hpre (T.setVm vm₁) hT hW₁⟩)
  dsimp only [Pt.U, Pt.locs, Pt.cells, Pt.slots] at X' e1 e2 h1 h2 h3 stp
  subst h1; subst h2; subst h3
  obtain ⟨⟨r, w1, hv, hp, hP1, hD1⟩, hz, hk⟩ := hq
  cases hv
  rw [show ((T.setVm vm₁).calling g' mk (Value.ref b :: As).toArray).heap = H from hT] at hz hk
  have hk1 : ∀ q : Nat, q < H.size → ¬ va_A w0 H.size q → t.heap[q]? = H[q]? := hk
  obtain ⟨hP2, hD2⟩ := va_join hP hD isC isR hC hRw hnR (fun i hi => of_decide_eq_true (List.all_eq_true.mp hdis i hi)) hk1 hF hP1 hD1
  have hS2 : va_S A s.heap t.heap (locs ++ L) := ⟨Nat.le_trans hS.1 hz, fun q h1 h2 => (hk q (Nat.lt_of_lt_of_le h1 hS.1) (fun z => h2 (hF q z))).trans (hS.2.1 q h1 h2), fun q hq => by
      rcases List.mem_append.mp hq with h | h
      · exact hS.2.2 q h
      · exact hF _ (hL q h)⟩
  obtain ⟨t2, a1, b1⟩ := kk k n' v w1 hp t.heap (locs ++ L) ls hP2 hD2 hS2 hl U' e1 X'
  exact ⟨t2, stp t2 a1, b1⟩
theorem mid_callVV {idx mx n : Nat} {Cn : String} {y : MethodName} {cy : ByteArray} {rt : Option FieldType} {rm : Room} {As : List Value} {PV : PVT} {wa wb wc : va_W} {b ci : Nat} {fs : List Value} {q : vw_C} (X : ZC p s m args meth c cc nL own G A ret nm) (K : LkV own idx Cn y cy mx rt n) (hM : CtV l G y cy mx rt rm (.ref b :: As) wb PV) (hdg : decode cc pc = .ok (.invokevirtual idx, 3)) (he : wb[0]? = some (b, .inr (ci, fs))) (hc : vwCl[ci]? = some q) (hqC : q.1 = Cn) (hR : rm.frames + 1 ≤ R.frames ∧ 8 + (mx + 11) + rm.locals ≤ R.locals) (hf : kc + rm.cells ≤ R.cells ∧ ks + rm.slots ≤ R.slots) (hn : As.length = n) (hst : st = As.reverse ++ .ref b :: rest) (hcat : (rest.map fun v => v.category).sum ≤ 8) (lz : lv_pick lv (List.range lv.length) = lv)
    (kk : ∀ (k n : Nat) (r : Option Value) (w1 : va_W), PV k n r w1 → Z p l e R s m args below meth c nL G A Q (pc + 3) lv (r.toList ++ rest) (wa ++ w1 ++ wc) (kc + k) (ks + n)) : Z p l e R s m args below meth c nL G A Q pc lv st (wa ++ wb ++ wc) kc ks := by
  have hlt : 0 < wb.length := (List.getElem?_eq_some_iff.mp he).1
  have he2 : (wa ++ wb ++ wc)[wa.length]? = some (b, .inr (ci, fs)) := by
    rw [List.append_assoc, List.getElem?_append_right (Nat.le_refl _), Nat.sub_self, List.getElem?_append_left hlt]
    exact he
  exact z_callVV (wr := wa ++ wc) X K hM hdg wa.length he2 hc hqC hR hf hn hst hcat (List.range' wa.length wb.length) (List.range wa.length ++ List.range' (wa.length + wb.length) wc.length) (sh_pick wa wb wc) (va_nd_of _ List.nodup_range') (sh_rest wa wb wc) (sh_nd _ _ _ (Nat.le_add_right _ _)) (sh_dis _ _ _) (fun k n r w1 hp => Z.mid lz (kk k n r w1 hp))
end VARA
