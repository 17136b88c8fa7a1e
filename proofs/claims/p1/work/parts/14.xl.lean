/-! my layer for the two methods that throw, and for the law's helpers that catch -/
abbrev NSE : String := "java/util/NoSuchElementException"
abbrev RTE : List String := ["java/lang/RuntimeException", "java/lang/Exception"]
theorem xw_all : ∀ w ∈ vx_atS RX10 113 NSE RTE, w ∈ lw_tbl ∧ (goodWord w = true ∨ w = .castable NSE NSE) := sorry
theorem xw_ot : ∀ w ∈ Cond.classLink RX10 109 NSE :: Cond.initialized NSE :: vx_atS RX10 113 NSE RTE, vx_ot w = true := by decide +kernel
def EXs (A : Nat → Prop) (U : State) (H : Heap) : Prop := vx_Zq Bundle.tN "UNASSIGNED_STACK" Bundle.steD A U H ∧ vx_Zq Bundle.tN "SUPPRESSED_SENTINEL" Bundle.listD A U H ∧ va_Nw (.castable NSE NSE) U
theorem EXs.warm {A : Nat → Prop} {s U : State} {H : Heap} (hW : s.WarmedH U.vm) (h : EXs A s H) : EXs A U H := ⟨h.1.moved hW.alike, h.2.1.moved hW.alike, va_Nw.warmC hW h.2.2⟩
theorem EXs.same {A : Nat → Prop} {u U : State} {H : Heap} (e : u.vm = U.vm) (h : EXs A u H) : EXs A U H := ⟨h.1.moved (by rw [← e]; exact Vm.Alike.refl u.vm), h.2.1.moved (by rw [← e]; exact Vm.Alike.refl u.vm), va_Nw.same rfl e h.2.2⟩
theorem EXs.kept {A : Nat → Prop} {U : State} {H H1 : Heap} (h : EXs A U H) (hq : ∀ a : Nat, a < H.size → ¬ A a → H1[a]? = H[a]?) : EXs A U H1 := ⟨h.1.kept hq, h.2.1.kept hq, h.2.2⟩
theorem EXs.narrow {A B : Nat → Prop} {U : State} {H : Heap} (h : EXs A U H) (hAB : ∀ q, B q → A q) : EXs B U H := ⟨h.1.narrow hAB, h.2.1.narrow hAB, h.2.2⟩
def Pcy (G : KG) (av : List Value) (w0 : va_W) (sz : Nat) : Array Value → State → Prop := va_Pc av (fun U => (U.heap.size = sz ∧ va_P G.1 vwCl w0 U.heap ∧ KK G U ∧ va_D (fun _ => True) w0) ∧ EXs (va_A w0 sz) U U.heap)
theorem Pcy.blind {G : KG} {av : List Value} {w0 : va_W} {sz : Nat} : FrameBlind (Pcy G av w0 sz) := by
  intro a U g mk q
  obtain ⟨q0, ⟨q1, qP, qK, qD⟩, qE⟩ := q
  exact ⟨q0, ⟨q1, qP, KK.same (u := U) (U := U.calling g mk a) rfl qK, qD⟩, EXs.same (u := U) (U := U.calling g mk a) rfl qE⟩
abbrev XCn (A : Nat → Prop) : String → State → State → Prop := vx_X (fun _ : Unit => True) (fun E _ _ => E = NSE) A
def CtT (l : Launch) (G : KG) (y : MethodName) (cc : ByteArray) (maxL : Nat) (ret : Option FieldType) (rm : Room) (av : List Value) (w0 : va_W) (Qf : (Nat → Prop) → Array Value → State → Outcome → State → Prop) : Prop := ∀ sz : Nat, vx_Met l y (wsOf y cc maxL ret) rm (Pcy G av w0 sz) (Qf (va_A w0 sz)) (XCn (va_A w0 sz)) rm.cells rm.slots (va_A w0 sz)
abbrev QfI (A : Nat → Prop) : Array Value → State → Outcome → State → Prop := va_Qi (fun (_ : Int32) (_ : Unit) => False) (fun _ _ => True) A
abbrev QfL (A : Nat → Prop) : Array Value → State → Outcome → State → Prop := va_Ql (fun (_ : Int64) (_ : Unit) => False) (fun _ _ => True) A
set_option maxHeartbeats 4000000 in
theorem ctT_of {l : Launch} {G : KG} {y : MethodName} {cc : ByteArray} {maxL : Nat} {ret : Option FieldType} {rm : Room} {av : List Value} {w0 : va_W} {Qf : (Nat → Prop) → Array Value → State → Outcome → State → Prop} (lv : List (Nat × Value)) (hy : plainName y.cls = true) (hlen : (lg_sl av).length ≤ maxL) (hlv : lv_args 0 av = lv)
    (body : ∀ (p : Program) (e : Env) (s : State) (m : MethodId) (args : Array Value) (below : List Frame) (meth : Method) (c : Code) (A : Nat → Prop), ZC p s m args meth c cc maxL y.cls G A ret y.name → EXs A s s.heap → (∀ x ∈ c.exceptionTable.toList, False) →
      Z p l e rm s m args below meth c maxL G A (vx_MQ below (Qf A) (XCn A) args s rm.cells rm.slots A) 0 lv [] w0 0 0) : CtT l G y cc maxL ret rm av w0 Qf := by
  intro sz
  refine vx_ofW (cc := cc) (maxL := maxL) (ret := ret) hy rfl ?_
  intro p e s m args below meth c s₁ B hml hno hv
  obtain ⟨rfl, ⟨hsz, hP, hK, hD0⟩, hE⟩ := hv
  have hts := atoms_spec (ws := wsOf y cc maxL ret) B.pre
  have hown : s.vm.findClass y.cls = some m.cls := findClass_of_methodNamed B.named
  subst hsz
  have hD := hD0.self (sz := s.heap.size)
  have hA : ∀ q : Nat, s.heap.size ≤ q → va_A w0 s.heap.size q := fun q h => Or.inr h
  have hl := lv_entry av (n := maxL) hlen
  rw [lg_entry_eq]
  rw [hlv] at hl
  have hn : meth.name = y.name := (name_of_methodNamed B.named B.method).1
  exact body p e s m av.toArray below meth c (va_A w0 s.heap.size) ⟨B.exec, B.bytes, hml, hown, fun w hw => hts w (List.mem_cons_of_mem _ hw), hK, hA, B.notSynchronized, B.returns, hn⟩ hE hno s.heap [] _ hP hD va_S.rf hl
def wsW (y : MethodName) (cc : ByteArray) (n : Nat) (r : Option FieldType) (hh : List (Nat × Nat × Nat × Nat)) : List Cond := Cond.codeWith y cc n r hh :: BIG
theorem goodIn_wsW {y : MethodName} {cc : ByteArray} {n : Nat} {r : Option FieldType} {hh : List (Nat × Nat × Nat × Nat)} (h : Cond.codeWith y cc n r hh ∈ BIG) : GoodIn BIG (wsW y cc n r hh) := by
  intro w hw
  rcases List.mem_cons.mp hw with e | e
  · rw [e]
    exact ⟨h, big_good h⟩
  · exact ⟨e, big_good e⟩
def CtW (l : Launch) (G : KG) (y : MethodName) (cc : ByteArray) (maxL : Nat) (ret : Option FieldType) (hh : List (Nat × Nat × Nat × Nat)) (rm : Room) (av : List Value) (w0 : va_W) (post : Option Value → va_W → Prop) : Prop := ∀ sz : Nat, vx_Met l y (wsW y cc maxL ret hh) rm (Pcy G av w0 sz) (Qcx G w0 sz post) (fun _ _ _ => False) rm.cells rm.slots (va_A w0 sz)
set_option maxHeartbeats 4000000 in
theorem ctW_of {l : Launch} {G : KG} {y : MethodName} {cc : ByteArray} {maxL : Nat} {ret : Option FieldType} {hh : List (Nat × Nat × Nat × Nat)} {rm : Room} {av : List Value} {w0 : va_W} {post : Option Value → va_W → Prop} (lv : List (Nat × Value)) (hy : plainName y.cls = true) (hlen : (lg_sl av).length ≤ maxL) (hlv : lv_args 0 av = lv)
    (body : ∀ (p : Program) (e : Env) (s : State) (m : MethodId) (args : Array Value) (below : List Frame) (meth : Method) (c : Code) (A : Nat → Prop), ZC p s m args meth c cc maxL y.cls G A ret y.name → EXs A s s.heap → c.exceptionTable.toList = tableOf hh →
      Z p l e rm s m args below meth c maxL G A (MQ below (QQ G A post) args s rm.cells rm.slots A) 0 lv [] w0 0 0) : CtW l G y cc maxL ret hh rm av w0 post := by
  intro sz
  refine vx_ofWH (cc := cc) (maxL := maxL) (ret := ret) (hh := hh) hy rfl ?_
  intro p e s m args below meth c s₁ B hml hv
  obtain ⟨rfl, ⟨hsz, hP, hK, hD0⟩, hE⟩ := hv
  have hts := atoms_spec (ws := wsW y cc maxL ret hh) B.pre
  have hown : s.vm.findClass y.cls = some m.cls := findClass_of_methodNamed B.named
  have htab := vx_table (x := y) B (hts _ List.mem_cons_self)
  subst hsz
  have hD := hD0.self (sz := s.heap.size)
  have hA : ∀ q : Nat, s.heap.size ≤ q → va_A w0 s.heap.size q := fun q h => Or.inr h
  have hl := lv_entry av (n := maxL) hlen
  rw [lg_entry_eq]
  rw [hlv] at hl
  have hn : meth.name = y.name := (name_of_methodNamed B.named B.method).1
  exact vx_ret (body p e s m av.toArray below meth c (va_A w0 s.heap.size) ⟨B.exec, B.bytes, hml, hown, fun w hw => hts w (List.mem_cons_of_mem _ hw), hK, hA, B.notSynchronized, B.returns, hn⟩ hE htab s.heap [] _ hP hD va_S.rf hl)
section ZX
variable {p : Program} {l : Launch} {e : Env} {R : Room} {s : State} {m : MethodId} {args : Array Value} {below : List Frame} {meth : Method} {c : Code} {nL : Nat} {G : KG} {A : Nat → Prop} {Q : State → Prop} {cc : ByteArray} {own : String} {ret : Option FieldType} {nm : String}
variable {pc : Nat} {rest st : List Value} {ws : va_W} {kc ks mc ms : Nat} {lv : List (Nat × Value)} {post : Option Value → va_W → Prop}
theorem z_xat (X : ZC p s m args meth c cc nL RX10 G A ret nm) (hE : EXs A s s.heap) : ∀ w ∈ vx_atS RX10 113 NSE RTE, w.before args s = true := by
  intro w hw
  obtain ⟨h1, h2 | h2⟩ := xw_all w hw
  · exact X.2.2.2.2.1 w (List.mem_filter.mpr ⟨h1, h2⟩)
  · rw [h2]
    exact va_Nw.use rfl hE.2.2
theorem z_str {is : Nat} {text : String} (X : ZC p s m args meth c cc nL RX10 G A ret nm) (h : Cond.stringRef RX10 is text ∈ BIG) : ∃ sa, vk_R RX10 is text sa s := by
  obtain ⟨k, cf, i, a, -, -, -, -, -, hev⟩ := Cond.stringRef_spec X.2.2.2.1 (X.2.2.2.2.1 _ h)
  exact ⟨a, vk_R.of (X.2.2.2.2.1 _ h) hev⟩
end ZX
