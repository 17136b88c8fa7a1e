/-! MY OWN LAYER over the kit's rows: one judgement Z whose state is data (place, locals, stack, world), a runner of straight blocks, and contracts Ct. -/
abbrev KG : Type := va_G × (ClassId × ClassId × ClassId × ClassId)
abbrev cyI (G : KG) : ClassId := G.2.1
abbrev cyJ (G : KG) : ClassId := G.2.2.1
abbrev cyZ (G : KG) : ClassId := G.2.2.2.1
abbrev cyO (G : KG) : ClassId := G.2.2.2.2
abbrev TYS (G : KG) : List (ClassId × FieldType) := [(cyI G, .int), (cyJ G, .long), (cyZ G, .boolean), (cyO G, .object "StoneThatShakes$Kept")]
abbrev aI (G : KG) (n : Nat) (f : Nat → Int32) : va_E := .inl (cyI G, n, .inl f)
abbrev aJ (G : KG) (n : Nat) (f : Nat → Int64) : va_E := .inl (cyJ G, n, .inr (.inl f))
abbrev aZ (G : KG) (n : Nat) (f : Nat → Int32) : va_E := .inl (cyZ G, n, .inl f)
abbrev aO (G : KG) (n : Nat) (f : Nat → Option Nat) : va_E := .inl (cyO G, n, .inr (.inr (.inr (.inr f))))
abbrev ob (ci : Nat) (fs : List Value) : va_E := .inr (ci, fs)
def BIG : List Cond := lw_tbl.filter goodWord
theorem big_in {w : Cond} (i : Nat) (h : lw_tbl[i]? = some w) (g : goodWord w = true) : w ∈ BIG := List.mem_filter.mpr ⟨List.mem_of_getElem? h, g⟩
theorem big_tbl {w : Cond} (h : w ∈ BIG) : w ∈ lw_tbl := (List.mem_filter.mp h).1
theorem big_good {w : Cond} (h : w ∈ BIG) : (w.onTables && w.keeps) = true ∨ ∃ ty, w = .arrayClass ty := good_of_word (List.mem_filter.mp h).2
def wsOf (y : MethodName) (cc : ByteArray) (n : Nat) (r : Option FieldType) : List Cond := Cond.code y cc n r :: BIG
theorem goodIn_wsOf {y : MethodName} {cc : ByteArray} {n : Nat} {r : Option FieldType} (h : Cond.code y cc n r ∈ BIG) : GoodIn BIG (wsOf y cc n r) := by
  intro w hw
  rcases List.mem_cons.mp hw with e | e
  · rw [e]
    exact ⟨h, big_good h⟩
  · exact ⟨e, big_good e⟩
def isNest : Cond → Bool
  | .fieldLinkNest .. => true
  | .methodLinkNest .. => true
  | _ => false
def NW : List Cond := lw_tbl.filter isNest
abbrev AOW : Cond := .arrayOver (.object "StoneThatShakes$Kept")
def NWs (U : State) : Prop := (∀ w ∈ NW, va_Nw w U) ∧ va_AO "StoneThatShakes$Kept" U
theorem nest_in {w : Cond} (i : Nat) (h : lw_tbl[i]? = some w) (g : isNest w = true) : w ∈ NW := List.mem_filter.mpr ⟨List.mem_of_getElem? h, g⟩
theorem nest_tab {w : Cond} (h : isNest w = true) : w.onTables = true := by
  cases w <;> first | rfl | cases h
theorem NWs.warm {s U : State} (hW : s.WarmedH U.vm) (h : NWs s) : NWs U := by
  refine ⟨?_, va_AO.moved hW.alike h.2⟩
  intro w hw
  have h0 := h.1 w hw
  have h1 : isNest w = true := (List.mem_filter.mp hw).2
  cases w <;> first | cases h1; done | exact va_Nw.warmF hW h0 | exact va_Nw.warmM hW h0
theorem NWs.same {u U : State} (e : u.vm = U.vm) (h : NWs u) : NWs U := ⟨fun w hw => va_Nw.same (nest_tab (List.mem_filter.mp hw).2) e (h.1 w hw), va_AO.moved (by rw [← e]; exact Vm.Alike.refl u.vm) h.2⟩
theorem NWs.of {A : Array Value} {U : State} (h : ∀ w ∈ lw_tbl, w.before A U = true) (hA : AOW ∈ lw_tbl) : NWs U := ⟨fun w hw => va_Nw.of (nest_tab (List.mem_filter.mp hw).2) (h w (List.mem_filter.mp hw).1), va_AO.of (h _ hA)⟩
theorem NWs.use {A : Array Value} {U : State} (h : NWs U) {w : Cond} (hw : w ∈ NW) : w.before A U = true := va_Nw.use (nest_tab (List.mem_filter.mp hw).2) (h.1 w hw)
def KK (G : KG) (U : State) : Prop := va_K G.1 vwCl (TYS G) U ∧ NWs U
theorem KK.warm {G : KG} {s U : State} (hW : s.WarmedH U.vm) (h : KK G s) : KK G U := ⟨va_K.moved hW.alike h.1, h.2.warm hW⟩
theorem KK.same {G : KG} {u U : State} (e : u.vm = U.vm) (h : KK G u) : KK G U := ⟨va_K.moved (by rw [← e]; exact Vm.Alike.refl u.vm) h.1, h.2.same e⟩
def Pcx (G : KG) (av : List Value) (w0 : va_W) (sz : Nat) : Array Value → State → Prop := va_Pc av (fun U => U.heap.size = sz ∧ va_P G.1 vwCl w0 U.heap ∧ KK G U ∧ va_D (fun _ => True) w0)
theorem Pcx.blind {G : KG} {av : List Value} {w0 : va_W} {sz : Nat} : FrameBlind (Pcx G av w0 sz) := by
  intro a U g mk q
  obtain ⟨q0, q1, qP, qK, qD⟩ := q
  exact ⟨q0, q1, qP, KK.same (u := U) (U := U.calling g mk a) rfl qK, qD⟩
def Qcx (G : KG) (w0 : va_W) (sz : Nat) (post : Option Value → va_W → Prop) : Array Value → State → Outcome → State → Prop := fun _ st oc t => (∃ (r : Option Value) (w1 : va_W), oc = .returned r ∧ post r w1 ∧ va_P G.1 vwCl w1 t.heap ∧ va_D (va_A w0 sz) w1) ∧ va_F (va_A w0 sz) st t
abbrev QQ (G : KG) (A : Nat → Prop) (post : Option Value → va_W → Prop) : Array Value → State → Outcome → State → Prop := fun _ st oc t => (∃ (r : Option Value) (w1 : va_W), oc = .returned r ∧ post r w1 ∧ va_P G.1 vwCl w1 t.heap ∧ va_D A w1) ∧ va_F A st t
/-- a contract: from the world w0 the method returns, and 'post answer world' -/
def Ct (l : Launch) (G : KG) (y : MethodName) (cc : ByteArray) (maxL : Nat) (ret : Option FieldType) (rm : Room) (av : List Value) (w0 : va_W) (post : Option Value → va_W → Prop) : Prop := ∀ sz : Nat, Met l y (wsOf y cc maxL ret) rm (Pcx G av w0 sz) (Qcx G w0 sz post) rm.cells rm.slots (va_A w0 sz)
abbrev ZC (p : Program) (s : State) (m : MethodId) (args : Array Value) (meth : Method) (c : Code) (cc : ByteArray) (nL : Nat) (own : String) (G : KG) (A : Nat → Prop) (ret : Option FieldType) (nm : String) : Prop :=
  p.tables.exec = Jvm.exec ∧ c.code = cc ∧ c.maxLocals = nL ∧ s.vm.findClass own = some m.cls ∧ (∀ w ∈ BIG, w.before args s = true) ∧ KK G s ∧ (∀ q : Nat, s.heap.size ≤ q → A q) ∧ meth.locks = false ∧ meth.sig.returnType = ret ∧ meth.name = nm
def Z (p : Program) (l : Launch) (e : Env) (R : Room) (s : State) (m : MethodId) (args : Array Value) (below : List Frame) (meth : Method) (c : Code) (nL : Nat) (G : KG) (A : Nat → Prop) (Q : State → Prop) (pc : Nat) (lv : List (Nat × Value)) (st : List Value) (ws : va_W) (kc ks : Nat) : Prop :=
  ∀ (H : Heap) (locs : List Loc) (ls : Array Slot), va_P G.1 vwCl ws H → va_D A ws → va_S A s.heap H locs → lv_has ls nL lv → W p l e R s m args below meth c H locs kc ks Q (F0 m pc ls st)
set_option maxHeartbeats 4000000 in
theorem ct_of {l : Launch} {G : KG} {y : MethodName} {cc : ByteArray} {maxL : Nat} {ret : Option FieldType} {rm : Room} {av : List Value} {w0 : va_W} {post : Option Value → va_W → Prop} (lv : List (Nat × Value)) (hy : plainName y.cls = true) (hlen : (lg_sl av).length ≤ maxL) (hlv : lv_args 0 av = lv)
    (body : ∀ (p : Program) (e : Env) (s : State) (m : MethodId) (args : Array Value) (below : List Frame) (meth : Method) (c : Code) (A : Nat → Prop), ZC p s m args meth c cc maxL y.cls G A ret y.name →
      Z p l e rm s m args below meth c maxL G A (MQ below (QQ G A post) args s rm.cells rm.slots A) 0 lv [] w0 0 0) : Ct l G y cc maxL ret rm av w0 post := by
  intro sz
  refine Met.ofW (cc := cc) (maxL := maxL) (ret := ret) hy rfl ?_
  intro p e s m args below meth c s₁ B hml hv
  obtain ⟨rfl, hsz, hP, hK, hD0⟩ := hv
  have hts := atoms_spec (ws := wsOf y cc maxL ret) B.pre
  have hown : s.vm.findClass y.cls = some m.cls := findClass_of_methodNamed B.named
  subst hsz
  have hD := hD0.self (sz := s.heap.size)
  have hA : ∀ q : Nat, s.heap.size ≤ q → va_A w0 s.heap.size q := fun q h => Or.inr h
  have hl := lv_entry av (n := maxL) hlen
  rw [lg_entry_eq]
  rw [hlv] at hl
  have hn : meth.name = y.name := (name_of_methodNamed B.named B.method).1
  exact body p e s m av.toArray below meth c (va_A w0 s.heap.size) ⟨B.exec, B.bytes, hml, hown, fun w hw => hts w (List.mem_cons_of_mem _ hw), hK, hA, B.notSynchronized, B.returns, hn⟩ s.heap [] _ hP hD va_S.rf hl
section ZROWS
variable {p : Program} {l : Launch} {e : Env} {R : Room} {s : State} {m : MethodId} {args : Array Value} {below : List Frame} {meth : Method} {c : Code} {nL : Nat} {G : KG} {A : Nat → Prop} {Q : State → Prop} {cc : ByteArray} {own : String} {ret : Option FieldType} {nm : String}
variable {pc : Nat} {rest st : List Value} {ws : va_W} {kc ks : Nat}
theorem z_iconst (X : ZC p s m args meth c cc nL own G A ret nm) {lv : List (Nat × Value)} {n : Int} {v : Int32} (hdg : decode cc pc = .ok (.iconst n, 1)) (hv : Int32.ofInt n = v) (kz : Z p l e R s m args below meth c nL G A Q (pc + 1) lv (.int v :: rest) ws kc ks) : Z p l e R s m args below meth c nL G A Q pc lv (rest) ws kc ks := fun H locs ls hP hD hS hl => lv_iconst X.1 X.2.1 hdg hv (kz H locs ls hP hD hS hl)
theorem z_bipush (X : ZC p s m args meth c cc nL own G A ret nm) {lv : List (Nat × Value)} {n : Int} {v : Int32} (hdg : decode cc pc = .ok (.bipush n, 2)) (hv : (Int8.ofInt n).toInt32 = v) (kz : Z p l e R s m args below meth c nL G A Q (pc + 2) lv (.int v :: rest) ws kc ks) : Z p l e R s m args below meth c nL G A Q pc lv (rest) ws kc ks := fun H locs ls hP hD hS hl => lv_bipush X.1 X.2.1 hdg hv (kz H locs ls hP hD hS hl)
theorem z_sipush (X : ZC p s m args meth c cc nL own G A ret nm) {lv : List (Nat × Value)} {n : Int} {v : Int32} (hdg : decode cc pc = .ok (.sipush n, 3)) (hv : (Int16.ofInt n).toInt32 = v) (kz : Z p l e R s m args below meth c nL G A Q (pc + 3) lv (.int v :: rest) ws kc ks) : Z p l e R s m args below meth c nL G A Q pc lv (rest) ws kc ks := fun H locs ls hP hD hS hl => lv_sipush X.1 X.2.1 hdg hv (kz H locs ls hP hD hS hl)
theorem z_lconst (X : ZC p s m args meth c cc nL own G A ret nm) {lv : List (Nat × Value)} {n : Fin 2} {v : Int64} (hdg : decode cc pc = .ok (.lconst n, 1)) (hv : Int64.ofNat (n : Nat) = v) (kz : Z p l e R s m args below meth c nL G A Q (pc + 1) lv (.long v :: rest) ws kc ks) : Z p l e R s m args below meth c nL G A Q pc lv (rest) ws kc ks := fun H locs ls hP hD hS hl => lv_lconst X.1 X.2.1 hdg hv (kz H locs ls hP hD hS hl)
theorem z_iload_n (X : ZC p s m args meth c cc nL own G A ret nm) {lv : List (Nat × Value)} {k : Fin 4} {i : Nat} {x : Int32} (hdg : decode cc pc = .ok (.iload_n k, 1)) (hi : (k : Nat) = i) (q : Nat) (hq : lv[q]? = some (i, .int x)) (kz : Z p l e R s m args below meth c nL G A Q (pc + 1) lv (.int x :: rest) ws kc ks) : Z p l e R s m args below meth c nL G A Q pc lv (rest) ws kc ks := fun H locs ls hP hD hS hl => lv_iload_n X.1 X.2.1 hdg hi (lv_at hl q hq) (kz H locs ls hP hD hS hl)
theorem z_iload (X : ZC p s m args meth c cc nL own G A ret nm) {lv : List (Nat × Value)} {i : Nat} {x : Int32} (hdg : decode cc pc = .ok (.iload i, 2)) (q : Nat) (hq : lv[q]? = some (i, .int x)) (kz : Z p l e R s m args below meth c nL G A Q (pc + 2) lv (.int x :: rest) ws kc ks) : Z p l e R s m args below meth c nL G A Q pc lv (rest) ws kc ks := fun H locs ls hP hD hS hl => lv_iload X.1 X.2.1 hdg (lv_at hl q hq) (kz H locs ls hP hD hS hl)
theorem z_lload_n (X : ZC p s m args meth c cc nL own G A ret nm) {lv : List (Nat × Value)} {k : Fin 4} {i : Nat} {x : Int64} (hdg : decode cc pc = .ok (.lload_n k, 1)) (hi : (k : Nat) = i) (q : Nat) (hq : lv[q]? = some (i, .long x)) (kz : Z p l e R s m args below meth c nL G A Q (pc + 1) lv (.long x :: rest) ws kc ks) : Z p l e R s m args below meth c nL G A Q pc lv (rest) ws kc ks := fun H locs ls hP hD hS hl => lv_lload_n X.1 X.2.1 hdg hi (lv_at hl q hq) (kz H locs ls hP hD hS hl)
theorem z_lload (X : ZC p s m args meth c cc nL own G A ret nm) {lv : List (Nat × Value)} {i : Nat} {x : Int64} (hdg : decode cc pc = .ok (.lload i, 2)) (q : Nat) (hq : lv[q]? = some (i, .long x)) (kz : Z p l e R s m args below meth c nL G A Q (pc + 2) lv (.long x :: rest) ws kc ks) : Z p l e R s m args below meth c nL G A Q pc lv (rest) ws kc ks := fun H locs ls hP hD hS hl => lv_lload X.1 X.2.1 hdg (lv_at hl q hq) (kz H locs ls hP hD hS hl)
theorem z_aload_n (X : ZC p s m args meth c cc nL own G A ret nm) {lv : List (Nat × Value)} {k : Fin 4} {i : Nat} {x : Nat} (hdg : decode cc pc = .ok (.aload_n k, 1)) (hi : (k : Nat) = i) (q : Nat) (hq : lv[q]? = some (i, .ref x)) (kz : Z p l e R s m args below meth c nL G A Q (pc + 1) lv (.ref x :: rest) ws kc ks) : Z p l e R s m args below meth c nL G A Q pc lv (rest) ws kc ks := fun H locs ls hP hD hS hl => lv_aload_n X.1 X.2.1 hdg hi (lv_at hl q hq) (kz H locs ls hP hD hS hl)
theorem z_aload (X : ZC p s m args meth c cc nL own G A ret nm) {lv : List (Nat × Value)} {i : Nat} {x : Nat} (hdg : decode cc pc = .ok (.aload i, 2)) (q : Nat) (hq : lv[q]? = some (i, .ref x)) (kz : Z p l e R s m args below meth c nL G A Q (pc + 2) lv (.ref x :: rest) ws kc ks) : Z p l e R s m args below meth c nL G A Q pc lv (rest) ws kc ks := fun H locs ls hP hD hS hl => lv_aload X.1 X.2.1 hdg (lv_at hl q hq) (kz H locs ls hP hD hS hl)
theorem z_istore_n (X : ZC p s m args meth c cc nL own G A ret nm) {lv lv' : List (Nat × Value)} {k : Fin 4} {i : Nat} {x : Int32} (hdg : decode cc pc = .ok (.istore_n k, 1)) (hi : (k : Nat) = i) (hn : i < nL) (he : (i, Value.int x) :: lv.filter (fun q => !(q.1 == i) && !(q.1 + 1 == i && q.2.category == 2)) = lv') (kk : Z p l e R s m args below meth c nL G A Q (pc + 1) lv' rest ws kc ks) : Z p l e R s m args below meth c nL G A Q pc lv (.int x :: rest) ws kc ks := fun H locs ls hP hD hS hl => lv_istore_n X.1 X.2.1 hdg hi hl hn he (fun ls' hl' => kk H locs ls' hP hD hS hl')
theorem z_istore (X : ZC p s m args meth c cc nL own G A ret nm) {lv lv' : List (Nat × Value)} {i : Nat} {x : Int32} (hdg : decode cc pc = .ok (.istore i, 2)) (hn : i < nL) (he : (i, Value.int x) :: lv.filter (fun q => !(q.1 == i) && !(q.1 + 1 == i && q.2.category == 2)) = lv') (kk : Z p l e R s m args below meth c nL G A Q (pc + 2) lv' rest ws kc ks) : Z p l e R s m args below meth c nL G A Q pc lv (.int x :: rest) ws kc ks := fun H locs ls hP hD hS hl => lv_istore X.1 X.2.1 hdg hl hn he (fun ls' hl' => kk H locs ls' hP hD hS hl')
theorem z_lstore_n (X : ZC p s m args meth c cc nL own G A ret nm) {lv lv' : List (Nat × Value)} {k : Fin 4} {i : Nat} {x : Int64} (hdg : decode cc pc = .ok (.lstore_n k, 1)) (hi : (k : Nat) = i) (hn : i + 1 < nL) (he : (i, Value.long x) :: lv.filter (fun q => !(q.1 == i) && (!(q.1 == i + 1) && !(q.1 + 1 == i && q.2.category == 2))) = lv') (kk : Z p l e R s m args below meth c nL G A Q (pc + 1) lv' rest ws kc ks) : Z p l e R s m args below meth c nL G A Q pc lv (.long x :: rest) ws kc ks := fun H locs ls hP hD hS hl => lv_lstore_n X.1 X.2.1 hdg hi hl hn he (fun ls' hl' => kk H locs ls' hP hD hS hl')
theorem z_lstore (X : ZC p s m args meth c cc nL own G A ret nm) {lv lv' : List (Nat × Value)} {i : Nat} {x : Int64} (hdg : decode cc pc = .ok (.lstore i, 2)) (hn : i + 1 < nL) (he : (i, Value.long x) :: lv.filter (fun q => !(q.1 == i) && (!(q.1 == i + 1) && !(q.1 + 1 == i && q.2.category == 2))) = lv') (kk : Z p l e R s m args below meth c nL G A Q (pc + 2) lv' rest ws kc ks) : Z p l e R s m args below meth c nL G A Q pc lv (.long x :: rest) ws kc ks := fun H locs ls hP hD hS hl => lv_lstore X.1 X.2.1 hdg hl hn he (fun ls' hl' => kk H locs ls' hP hD hS hl')
theorem z_astore_n (X : ZC p s m args meth c cc nL own G A ret nm) {lv lv' : List (Nat × Value)} {k : Fin 4} {i : Nat} {x : Nat} (hdg : decode cc pc = .ok (.astore_n k, 1)) (hi : (k : Nat) = i) (hn : i < nL) (he : (i, Value.ref x) :: lv.filter (fun q => !(q.1 == i) && !(q.1 + 1 == i && q.2.category == 2)) = lv') (kk : Z p l e R s m args below meth c nL G A Q (pc + 1) lv' rest ws kc ks) : Z p l e R s m args below meth c nL G A Q pc lv (.ref x :: rest) ws kc ks := fun H locs ls hP hD hS hl => lv_astore_n X.1 X.2.1 hdg hi hl hn he (fun ls' hl' => kk H locs ls' hP hD hS hl')
theorem z_astore (X : ZC p s m args meth c cc nL own G A ret nm) {lv lv' : List (Nat × Value)} {i : Nat} {x : Nat} (hdg : decode cc pc = .ok (.astore i, 2)) (hn : i < nL) (he : (i, Value.ref x) :: lv.filter (fun q => !(q.1 == i) && !(q.1 + 1 == i && q.2.category == 2)) = lv') (kk : Z p l e R s m args below meth c nL G A Q (pc + 2) lv' rest ws kc ks) : Z p l e R s m args below meth c nL G A Q pc lv (.ref x :: rest) ws kc ks := fun H locs ls hP hD hS hl => lv_astore X.1 X.2.1 hdg hl hn he (fun ls' hl' => kk H locs ls' hP hD hS hl')
theorem z_iinc (X : ZC p s m args meth c cc nL own G A ret nm) {lv lv' : List (Nat × Value)} {i k : Nat} {n : Int} {x v : Int32} (hdg : decode cc pc = .ok (.iinc i n, 3)) (hk : lv[k]? = some (i, .int x)) (hv : x + Int32.ofInt n = v) (hn : i < nL) (he : (i, Value.int v) :: lv.filter (fun q => !(q.1 == i) && !(q.1 + 1 == i && q.2.category == 2)) = lv') (kk : Z p l e R s m args below meth c nL G A Q (pc + 3) lv' rest ws kc ks) : Z p l e R s m args below meth c nL G A Q pc lv rest ws kc ks := fun H locs ls hP hD hS hl => lv_iinc X.1 X.2.1 hdg hl hk hv hn he (fun ls' hl' => kk H locs ls' hP hD hS hl')
theorem z_iadd (X : ZC p s m args meth c cc nL own G A ret nm) {lv : List (Nat × Value)} {x y : Int32} (hdg : decode cc pc = .ok (.iadd, 1)) (kz : Z p l e R s m args below meth c nL G A Q (pc + 1) lv (.int (x + y) :: rest) ws kc ks) : Z p l e R s m args below meth c nL G A Q pc lv (.int y :: .int x :: rest) ws kc ks := fun H locs ls hP hD hS hl => lv_iadd X.1 X.2.1 hdg (kz H locs ls hP hD hS hl)
theorem z_isub (X : ZC p s m args meth c cc nL own G A ret nm) {lv : List (Nat × Value)} {x y : Int32} (hdg : decode cc pc = .ok (.isub, 1)) (kz : Z p l e R s m args below meth c nL G A Q (pc + 1) lv (.int (x - y) :: rest) ws kc ks) : Z p l e R s m args below meth c nL G A Q pc lv (.int y :: .int x :: rest) ws kc ks := fun H locs ls hP hD hS hl => lv_isub X.1 X.2.1 hdg (kz H locs ls hP hD hS hl)
theorem z_imul (X : ZC p s m args meth c cc nL own G A ret nm) {lv : List (Nat × Value)} {x y : Int32} (hdg : decode cc pc = .ok (.imul, 1)) (kz : Z p l e R s m args below meth c nL G A Q (pc + 1) lv (.int (x * y) :: rest) ws kc ks) : Z p l e R s m args below meth c nL G A Q pc lv (.int y :: .int x :: rest) ws kc ks := fun H locs ls hP hD hS hl => lv_imul X.1 X.2.1 hdg (kz H locs ls hP hD hS hl)
theorem z_iand (X : ZC p s m args meth c cc nL own G A ret nm) {lv : List (Nat × Value)} {x y : Int32} (hdg : decode cc pc = .ok (.iand, 1)) (kz : Z p l e R s m args below meth c nL G A Q (pc + 1) lv (.int (x &&& y) :: rest) ws kc ks) : Z p l e R s m args below meth c nL G A Q pc lv (.int y :: .int x :: rest) ws kc ks := fun H locs ls hP hD hS hl => lv_iand X.1 X.2.1 hdg (kz H locs ls hP hD hS hl)
theorem z_ior (X : ZC p s m args meth c cc nL own G A ret nm) {lv : List (Nat × Value)} {x y : Int32} (hdg : decode cc pc = .ok (.ior, 1)) (kz : Z p l e R s m args below meth c nL G A Q (pc + 1) lv (.int (x ||| y) :: rest) ws kc ks) : Z p l e R s m args below meth c nL G A Q pc lv (.int y :: .int x :: rest) ws kc ks := fun H locs ls hP hD hS hl => lv_ior X.1 X.2.1 hdg (kz H locs ls hP hD hS hl)
theorem z_ixor (X : ZC p s m args meth c cc nL own G A ret nm) {lv : List (Nat × Value)} {x y : Int32} (hdg : decode cc pc = .ok (.ixor, 1)) (kz : Z p l e R s m args below meth c nL G A Q (pc + 1) lv (.int (x ^^^ y) :: rest) ws kc ks) : Z p l e R s m args below meth c nL G A Q pc lv (.int y :: .int x :: rest) ws kc ks := fun H locs ls hP hD hS hl => lv_ixor X.1 X.2.1 hdg (kz H locs ls hP hD hS hl)
theorem z_idiv (X : ZC p s m args meth c cc nL own G A ret nm) {lv : List (Nat × Value)} {x y : Int32} (hdg : decode cc pc = .ok (.idiv, 1)) (hne : ¬ y = 0) (kz : Z p l e R s m args below meth c nL G A Q (pc + 1) lv (.int (x / y) :: rest) ws kc ks) : Z p l e R s m args below meth c nL G A Q pc lv (.int y :: .int x :: rest) ws kc ks := fun H locs ls hP hD hS hl => lv_idiv X.1 X.2.1 hdg hne (kz H locs ls hP hD hS hl)
theorem z_irem (X : ZC p s m args meth c cc nL own G A ret nm) {lv : List (Nat × Value)} {x y : Int32} (hdg : decode cc pc = .ok (.irem, 1)) (hne : ¬ y = 0) (kz : Z p l e R s m args below meth c nL G A Q (pc + 1) lv (.int (x - x / y * y) :: rest) ws kc ks) : Z p l e R s m args below meth c nL G A Q pc lv (.int y :: .int x :: rest) ws kc ks := fun H locs ls hP hD hS hl => lv_irem X.1 X.2.1 hdg hne (kz H locs ls hP hD hS hl)
theorem z_ineg (X : ZC p s m args meth c cc nL own G A ret nm) {lv : List (Nat × Value)} {x : Int32} (hdg : decode cc pc = .ok (.ineg, 1)) (kz : Z p l e R s m args below meth c nL G A Q (pc + 1) lv (.int (-x) :: rest) ws kc ks) : Z p l e R s m args below meth c nL G A Q pc lv (.int x :: rest) ws kc ks := fun H locs ls hP hD hS hl => lv_ineg X.1 X.2.1 hdg (kz H locs ls hP hD hS hl)
theorem z_ladd (X : ZC p s m args meth c cc nL own G A ret nm) {lv : List (Nat × Value)} {x y : Int64} (hdg : decode cc pc = .ok (.ladd, 1)) (kz : Z p l e R s m args below meth c nL G A Q (pc + 1) lv (.long (x + y) :: rest) ws kc ks) : Z p l e R s m args below meth c nL G A Q pc lv (.long y :: .long x :: rest) ws kc ks := fun H locs ls hP hD hS hl => lv_ladd X.1 X.2.1 hdg (kz H locs ls hP hD hS hl)
theorem z_lsub (X : ZC p s m args meth c cc nL own G A ret nm) {lv : List (Nat × Value)} {x y : Int64} (hdg : decode cc pc = .ok (.lsub, 1)) (kz : Z p l e R s m args below meth c nL G A Q (pc + 1) lv (.long (x - y) :: rest) ws kc ks) : Z p l e R s m args below meth c nL G A Q pc lv (.long y :: .long x :: rest) ws kc ks := fun H locs ls hP hD hS hl => lv_lsub X.1 X.2.1 hdg (kz H locs ls hP hD hS hl)
theorem z_lmul (X : ZC p s m args meth c cc nL own G A ret nm) {lv : List (Nat × Value)} {x y : Int64} (hdg : decode cc pc = .ok (.lmul, 1)) (kz : Z p l e R s m args below meth c nL G A Q (pc + 1) lv (.long (x * y) :: rest) ws kc ks) : Z p l e R s m args below meth c nL G A Q pc lv (.long y :: .long x :: rest) ws kc ks := fun H locs ls hP hD hS hl => lv_lmul X.1 X.2.1 hdg (kz H locs ls hP hD hS hl)
theorem z_land (X : ZC p s m args meth c cc nL own G A ret nm) {lv : List (Nat × Value)} {x y : Int64} (hdg : decode cc pc = .ok (.land, 1)) (kz : Z p l e R s m args below meth c nL G A Q (pc + 1) lv (.long (x &&& y) :: rest) ws kc ks) : Z p l e R s m args below meth c nL G A Q pc lv (.long y :: .long x :: rest) ws kc ks := fun H locs ls hP hD hS hl => lv_land X.1 X.2.1 hdg (kz H locs ls hP hD hS hl)
theorem z_lor (X : ZC p s m args meth c cc nL own G A ret nm) {lv : List (Nat × Value)} {x y : Int64} (hdg : decode cc pc = .ok (.lor, 1)) (kz : Z p l e R s m args below meth c nL G A Q (pc + 1) lv (.long (x ||| y) :: rest) ws kc ks) : Z p l e R s m args below meth c nL G A Q pc lv (.long y :: .long x :: rest) ws kc ks := fun H locs ls hP hD hS hl => lv_lor X.1 X.2.1 hdg (kz H locs ls hP hD hS hl)
theorem z_lxor (X : ZC p s m args meth c cc nL own G A ret nm) {lv : List (Nat × Value)} {x y : Int64} (hdg : decode cc pc = .ok (.lxor, 1)) (kz : Z p l e R s m args below meth c nL G A Q (pc + 1) lv (.long (x ^^^ y) :: rest) ws kc ks) : Z p l e R s m args below meth c nL G A Q pc lv (.long y :: .long x :: rest) ws kc ks := fun H locs ls hP hD hS hl => lv_lxor X.1 X.2.1 hdg (kz H locs ls hP hD hS hl)
theorem z_ldiv (X : ZC p s m args meth c cc nL own G A ret nm) {lv : List (Nat × Value)} {x y : Int64} (hdg : decode cc pc = .ok (.ldiv, 1)) (hne : ¬ y = 0) (kz : Z p l e R s m args below meth c nL G A Q (pc + 1) lv (.long (x / y) :: rest) ws kc ks) : Z p l e R s m args below meth c nL G A Q pc lv (.long y :: .long x :: rest) ws kc ks := fun H locs ls hP hD hS hl => lv_ldiv X.1 X.2.1 hdg hne (kz H locs ls hP hD hS hl)
theorem z_lrem (X : ZC p s m args meth c cc nL own G A ret nm) {lv : List (Nat × Value)} {x y : Int64} (hdg : decode cc pc = .ok (.lrem, 1)) (hne : ¬ y = 0) (kz : Z p l e R s m args below meth c nL G A Q (pc + 1) lv (.long (x - x / y * y) :: rest) ws kc ks) : Z p l e R s m args below meth c nL G A Q pc lv (.long y :: .long x :: rest) ws kc ks := fun H locs ls hP hD hS hl => lv_lrem X.1 X.2.1 hdg hne (kz H locs ls hP hD hS hl)
theorem z_lneg (X : ZC p s m args meth c cc nL own G A ret nm) {lv : List (Nat × Value)} {x : Int64} (hdg : decode cc pc = .ok (.lneg, 1)) (kz : Z p l e R s m args below meth c nL G A Q (pc + 1) lv (.long (-x) :: rest) ws kc ks) : Z p l e R s m args below meth c nL G A Q pc lv (.long x :: rest) ws kc ks := fun H locs ls hP hD hS hl => lv_lneg X.1 X.2.1 hdg (kz H locs ls hP hD hS hl)
theorem z_ishl (X : ZC p s m args meth c cc nL own G A ret nm) {lv : List (Nat × Value)} {x y : Int32} (hdg : decode cc pc = .ok (.ishl, 1)) (kz : Z p l e R s m args below meth c nL G A Q (pc + 1) lv (.int (x <<< (y &&& 31)) :: rest) ws kc ks) : Z p l e R s m args below meth c nL G A Q pc lv (.int y :: .int x :: rest) ws kc ks := fun H locs ls hP hD hS hl => lv_ishl X.1 X.2.1 hdg (kz H locs ls hP hD hS hl)
theorem z_ishr (X : ZC p s m args meth c cc nL own G A ret nm) {lv : List (Nat × Value)} {x y : Int32} (hdg : decode cc pc = .ok (.ishr, 1)) (kz : Z p l e R s m args below meth c nL G A Q (pc + 1) lv (.int (x >>> (y &&& 31)) :: rest) ws kc ks) : Z p l e R s m args below meth c nL G A Q pc lv (.int y :: .int x :: rest) ws kc ks := fun H locs ls hP hD hS hl => lv_ishr X.1 X.2.1 hdg (kz H locs ls hP hD hS hl)
theorem z_i2l (X : ZC p s m args meth c cc nL own G A ret nm) {lv : List (Nat × Value)} {x : Int32} {v : Int64} (hdg : decode cc pc = .ok (.i2l, 1)) (hv : x.toInt64 = v) (kz : Z p l e R s m args below meth c nL G A Q (pc + 1) lv (.long v :: rest) ws kc ks) : Z p l e R s m args below meth c nL G A Q pc lv (.int x :: rest) ws kc ks := fun H locs ls hP hD hS hl => lv_i2l X.1 X.2.1 hdg hv (kz H locs ls hP hD hS hl)
theorem z_l2i (X : ZC p s m args meth c cc nL own G A ret nm) {lv : List (Nat × Value)} {x : Int64} {v : Int32} (hdg : decode cc pc = .ok (.l2i, 1)) (hv : x.toInt32 = v) (kz : Z p l e R s m args below meth c nL G A Q (pc + 1) lv (.int v :: rest) ws kc ks) : Z p l e R s m args below meth c nL G A Q pc lv (.long x :: rest) ws kc ks := fun H locs ls hP hD hS hl => lv_l2i X.1 X.2.1 hdg hv (kz H locs ls hP hD hS hl)
theorem z_i2b (X : ZC p s m args meth c cc nL own G A ret nm) {lv : List (Nat × Value)} {x : Int32} {v : Int32} (hdg : decode cc pc = .ok (.i2b, 1)) (hv : x.toInt8.toInt32 = v) (kz : Z p l e R s m args below meth c nL G A Q (pc + 1) lv (.int v :: rest) ws kc ks) : Z p l e R s m args below meth c nL G A Q pc lv (.int x :: rest) ws kc ks := fun H locs ls hP hD hS hl => lv_i2b X.1 X.2.1 hdg hv (kz H locs ls hP hD hS hl)
theorem z_i2s (X : ZC p s m args meth c cc nL own G A ret nm) {lv : List (Nat × Value)} {x : Int32} {v : Int32} (hdg : decode cc pc = .ok (.i2s, 1)) (hv : x.toInt16.toInt32 = v) (kz : Z p l e R s m args below meth c nL G A Q (pc + 1) lv (.int v :: rest) ws kc ks) : Z p l e R s m args below meth c nL G A Q pc lv (.int x :: rest) ws kc ks := fun H locs ls hP hD hS hl => lv_i2s X.1 X.2.1 hdg hv (kz H locs ls hP hD hS hl)
theorem z_iushr (X : ZC p s m args meth c cc nL own G A ret nm) {lv : List (Nat × Value)} {x y v : Int32} (hdg : decode cc pc = .ok (.iushr, 1)) (hv : (x.toUInt32 >>> (y.toUInt32 &&& Int32.toUInt32 31)).toInt32 = v) (kz : Z p l e R s m args below meth c nL G A Q (pc + 1) lv (.int v :: rest) ws kc ks) : Z p l e R s m args below meth c nL G A Q pc lv (.int y :: .int x :: rest) ws kc ks := fun H locs ls hP hD hS hl => lv_iushr X.1 X.2.1 hdg hv (kz H locs ls hP hD hS hl)
theorem z_lushr (X : ZC p s m args meth c cc nL own G A ret nm) {lv : List (Nat × Value)} {x v : Int64} {y : Int32} (hdg : decode cc pc = .ok (.lushr, 1)) (hv : (x.toUInt64 >>> (y.toInt64.toUInt64 &&& Int64.toUInt64 63)).toInt64 = v) (kz : Z p l e R s m args below meth c nL G A Q (pc + 1) lv (.long v :: rest) ws kc ks) : Z p l e R s m args below meth c nL G A Q pc lv (.int y :: .long x :: rest) ws kc ks := fun H locs ls hP hD hS hl => lv_lushr X.1 X.2.1 hdg hv (kz H locs ls hP hD hS hl)
theorem z_lshl (X : ZC p s m args meth c cc nL own G A ret nm) {lv : List (Nat × Value)} {x v : Int64} {y : Int32} (hdg : decode cc pc = .ok (.lshl, 1)) (hv : x <<< (y.toInt64 &&& 63) = v) (kz : Z p l e R s m args below meth c nL G A Q (pc + 1) lv (.long v :: rest) ws kc ks) : Z p l e R s m args below meth c nL G A Q pc lv (.int y :: .long x :: rest) ws kc ks := fun H locs ls hP hD hS hl => lv_lshl X.1 X.2.1 hdg hv (kz H locs ls hP hD hS hl)
theorem z_dup (X : ZC p s m args meth c cc nL own G A ret nm) {lv : List (Nat × Value)} {va : Value} (hdg : decode cc pc = .ok (.dup, 1)) (hva : va.category = 1) (kz : Z p l e R s m args below meth c nL G A Q (pc + 1) lv (va :: va :: rest) ws kc ks) : Z p l e R s m args below meth c nL G A Q pc lv (va :: rest) ws kc ks := fun H locs ls hP hD hS hl => lv_dup X.1 X.2.1 hdg hva (kz H locs ls hP hD hS hl)
theorem z_pop (X : ZC p s m args meth c cc nL own G A ret nm) {lv : List (Nat × Value)} {va : Value} (hdg : decode cc pc = .ok (.pop, 1)) (hva : va.category = 1) (kz : Z p l e R s m args below meth c nL G A Q (pc + 1) lv (rest) ws kc ks) : Z p l e R s m args below meth c nL G A Q pc lv (va :: rest) ws kc ks := fun H locs ls hP hD hS hl => lv_pop X.1 X.2.1 hdg hva (kz H locs ls hP hD hS hl)
theorem z_dup2_11 (X : ZC p s m args meth c cc nL own G A ret nm) {lv : List (Nat × Value)} {va vb : Value} (hdg : decode cc pc = .ok (.dup2, 1)) (hva : va.category = 1) (hvb : vb.category = 1) (kz : Z p l e R s m args below meth c nL G A Q (pc + 1) lv (va :: vb :: va :: vb :: rest) ws kc ks) : Z p l e R s m args below meth c nL G A Q pc lv (va :: vb :: rest) ws kc ks := fun H locs ls hP hD hS hl => lv_dup2_11 X.1 X.2.1 hdg hva hvb (kz H locs ls hP hD hS hl)
theorem z_dup2_2 (X : ZC p s m args meth c cc nL own G A ret nm) {lv : List (Nat × Value)} {va : Value} (hdg : decode cc pc = .ok (.dup2, 1)) (hva : va.category = 2) (kz : Z p l e R s m args below meth c nL G A Q (pc + 1) lv (va :: va :: rest) ws kc ks) : Z p l e R s m args below meth c nL G A Q pc lv (va :: rest) ws kc ks := fun H locs ls hP hD hS hl => lv_dup2_2 X.1 X.2.1 hdg hva (kz H locs ls hP hD hS hl)
theorem z_if_eq (X : ZC p s m args meth c cc nL own G A ret nm) {lv : List (Nat × Value)} {x : Int32} {off : Int} {tgt : Nat} (hdg : decode cc pc = .ok (.ifCond .eq off, 3)) (ht : (pc : Int) + off = (tgt : Int)) (kt : x = 0 → Z p l e R s m args below meth c nL G A Q tgt lv rest ws kc ks) (kf : ¬ x = 0 → Z p l e R s m args below meth c nL G A Q (pc + 3) lv rest ws kc ks) : Z p l e R s m args below meth c nL G A Q pc lv (.int x :: rest) ws kc ks := fun H locs ls hP hD hS hl => lv_if_eq X.1 X.2.1 hdg ht (fun h => kt h H locs ls hP hD hS hl) (fun h => kf h H locs ls hP hD hS hl)
theorem z_icmp_eq (X : ZC p s m args meth c cc nL own G A ret nm) {lv : List (Nat × Value)} {x y : Int32} {off : Int} {tgt : Nat} (hdg : decode cc pc = .ok (.if_icmp .eq off, 3)) (ht : (pc : Int) + off = (tgt : Int)) (kt : x = y → Z p l e R s m args below meth c nL G A Q tgt lv rest ws kc ks) (kf : ¬ x = y → Z p l e R s m args below meth c nL G A Q (pc + 3) lv rest ws kc ks) : Z p l e R s m args below meth c nL G A Q pc lv (.int y :: .int x :: rest) ws kc ks := fun H locs ls hP hD hS hl => lv_icmp_eq X.1 X.2.1 hdg ht (fun h => kt h H locs ls hP hD hS hl) (fun h => kf h H locs ls hP hD hS hl)
theorem z_if_ne (X : ZC p s m args meth c cc nL own G A ret nm) {lv : List (Nat × Value)} {x : Int32} {off : Int} {tgt : Nat} (hdg : decode cc pc = .ok (.ifCond .ne off, 3)) (ht : (pc : Int) + off = (tgt : Int)) (kt : ¬ x = 0 → Z p l e R s m args below meth c nL G A Q tgt lv rest ws kc ks) (kf : x = 0 → Z p l e R s m args below meth c nL G A Q (pc + 3) lv rest ws kc ks) : Z p l e R s m args below meth c nL G A Q pc lv (.int x :: rest) ws kc ks := fun H locs ls hP hD hS hl => lv_if_ne X.1 X.2.1 hdg ht (fun h => kt h H locs ls hP hD hS hl) (fun h => kf h H locs ls hP hD hS hl)
theorem z_icmp_ne (X : ZC p s m args meth c cc nL own G A ret nm) {lv : List (Nat × Value)} {x y : Int32} {off : Int} {tgt : Nat} (hdg : decode cc pc = .ok (.if_icmp .ne off, 3)) (ht : (pc : Int) + off = (tgt : Int)) (kt : ¬ x = y → Z p l e R s m args below meth c nL G A Q tgt lv rest ws kc ks) (kf : x = y → Z p l e R s m args below meth c nL G A Q (pc + 3) lv rest ws kc ks) : Z p l e R s m args below meth c nL G A Q pc lv (.int y :: .int x :: rest) ws kc ks := fun H locs ls hP hD hS hl => lv_icmp_ne X.1 X.2.1 hdg ht (fun h => kt h H locs ls hP hD hS hl) (fun h => kf h H locs ls hP hD hS hl)
theorem z_if_lt (X : ZC p s m args meth c cc nL own G A ret nm) {lv : List (Nat × Value)} {x : Int32} {off : Int} {tgt : Nat} (hdg : decode cc pc = .ok (.ifCond .lt off, 3)) (ht : (pc : Int) + off = (tgt : Int)) (kt : x < 0 → Z p l e R s m args below meth c nL G A Q tgt lv rest ws kc ks) (kf : ¬ x < 0 → Z p l e R s m args below meth c nL G A Q (pc + 3) lv rest ws kc ks) : Z p l e R s m args below meth c nL G A Q pc lv (.int x :: rest) ws kc ks := fun H locs ls hP hD hS hl => lv_if_lt X.1 X.2.1 hdg ht (fun h => kt h H locs ls hP hD hS hl) (fun h => kf h H locs ls hP hD hS hl)
theorem z_icmp_lt (X : ZC p s m args meth c cc nL own G A ret nm) {lv : List (Nat × Value)} {x y : Int32} {off : Int} {tgt : Nat} (hdg : decode cc pc = .ok (.if_icmp .lt off, 3)) (ht : (pc : Int) + off = (tgt : Int)) (kt : x < y → Z p l e R s m args below meth c nL G A Q tgt lv rest ws kc ks) (kf : ¬ x < y → Z p l e R s m args below meth c nL G A Q (pc + 3) lv rest ws kc ks) : Z p l e R s m args below meth c nL G A Q pc lv (.int y :: .int x :: rest) ws kc ks := fun H locs ls hP hD hS hl => lv_icmp_lt X.1 X.2.1 hdg ht (fun h => kt h H locs ls hP hD hS hl) (fun h => kf h H locs ls hP hD hS hl)
theorem z_if_ge (X : ZC p s m args meth c cc nL own G A ret nm) {lv : List (Nat × Value)} {x : Int32} {off : Int} {tgt : Nat} (hdg : decode cc pc = .ok (.ifCond .ge off, 3)) (ht : (pc : Int) + off = (tgt : Int)) (kt : 0 ≤ x → Z p l e R s m args below meth c nL G A Q tgt lv rest ws kc ks) (kf : ¬ 0 ≤ x → Z p l e R s m args below meth c nL G A Q (pc + 3) lv rest ws kc ks) : Z p l e R s m args below meth c nL G A Q pc lv (.int x :: rest) ws kc ks := fun H locs ls hP hD hS hl => lv_if_ge X.1 X.2.1 hdg ht (fun h => kt h H locs ls hP hD hS hl) (fun h => kf h H locs ls hP hD hS hl)
theorem z_icmp_ge (X : ZC p s m args meth c cc nL own G A ret nm) {lv : List (Nat × Value)} {x y : Int32} {off : Int} {tgt : Nat} (hdg : decode cc pc = .ok (.if_icmp .ge off, 3)) (ht : (pc : Int) + off = (tgt : Int)) (kt : y ≤ x → Z p l e R s m args below meth c nL G A Q tgt lv rest ws kc ks) (kf : ¬ y ≤ x → Z p l e R s m args below meth c nL G A Q (pc + 3) lv rest ws kc ks) : Z p l e R s m args below meth c nL G A Q pc lv (.int y :: .int x :: rest) ws kc ks := fun H locs ls hP hD hS hl => lv_icmp_ge X.1 X.2.1 hdg ht (fun h => kt h H locs ls hP hD hS hl) (fun h => kf h H locs ls hP hD hS hl)
theorem z_if_gt (X : ZC p s m args meth c cc nL own G A ret nm) {lv : List (Nat × Value)} {x : Int32} {off : Int} {tgt : Nat} (hdg : decode cc pc = .ok (.ifCond .gt off, 3)) (ht : (pc : Int) + off = (tgt : Int)) (kt : 0 < x → Z p l e R s m args below meth c nL G A Q tgt lv rest ws kc ks) (kf : ¬ 0 < x → Z p l e R s m args below meth c nL G A Q (pc + 3) lv rest ws kc ks) : Z p l e R s m args below meth c nL G A Q pc lv (.int x :: rest) ws kc ks := fun H locs ls hP hD hS hl => lv_if_gt X.1 X.2.1 hdg ht (fun h => kt h H locs ls hP hD hS hl) (fun h => kf h H locs ls hP hD hS hl)
theorem z_icmp_gt (X : ZC p s m args meth c cc nL own G A ret nm) {lv : List (Nat × Value)} {x y : Int32} {off : Int} {tgt : Nat} (hdg : decode cc pc = .ok (.if_icmp .gt off, 3)) (ht : (pc : Int) + off = (tgt : Int)) (kt : y < x → Z p l e R s m args below meth c nL G A Q tgt lv rest ws kc ks) (kf : ¬ y < x → Z p l e R s m args below meth c nL G A Q (pc + 3) lv rest ws kc ks) : Z p l e R s m args below meth c nL G A Q pc lv (.int y :: .int x :: rest) ws kc ks := fun H locs ls hP hD hS hl => lv_icmp_gt X.1 X.2.1 hdg ht (fun h => kt h H locs ls hP hD hS hl) (fun h => kf h H locs ls hP hD hS hl)
theorem z_if_le (X : ZC p s m args meth c cc nL own G A ret nm) {lv : List (Nat × Value)} {x : Int32} {off : Int} {tgt : Nat} (hdg : decode cc pc = .ok (.ifCond .le off, 3)) (ht : (pc : Int) + off = (tgt : Int)) (kt : x ≤ 0 → Z p l e R s m args below meth c nL G A Q tgt lv rest ws kc ks) (kf : ¬ x ≤ 0 → Z p l e R s m args below meth c nL G A Q (pc + 3) lv rest ws kc ks) : Z p l e R s m args below meth c nL G A Q pc lv (.int x :: rest) ws kc ks := fun H locs ls hP hD hS hl => lv_if_le X.1 X.2.1 hdg ht (fun h => kt h H locs ls hP hD hS hl) (fun h => kf h H locs ls hP hD hS hl)
theorem z_icmp_le (X : ZC p s m args meth c cc nL own G A ret nm) {lv : List (Nat × Value)} {x y : Int32} {off : Int} {tgt : Nat} (hdg : decode cc pc = .ok (.if_icmp .le off, 3)) (ht : (pc : Int) + off = (tgt : Int)) (kt : x ≤ y → Z p l e R s m args below meth c nL G A Q tgt lv rest ws kc ks) (kf : ¬ x ≤ y → Z p l e R s m args below meth c nL G A Q (pc + 3) lv rest ws kc ks) : Z p l e R s m args below meth c nL G A Q pc lv (.int y :: .int x :: rest) ws kc ks := fun H locs ls hP hD hS hl => lv_icmp_le X.1 X.2.1 hdg ht (fun h => kt h H locs ls hP hD hS hl) (fun h => kf h H locs ls hP hD hS hl)
theorem z_goto (X : ZC p s m args meth c cc nL own G A ret nm) {lv : List (Nat × Value)} {off : Int} {tgt : Nat} (hdg : decode cc pc = .ok (.goto off, 3)) (ht : (pc : Int) + off = (tgt : Int)) (kz : Z p l e R s m args below meth c nL G A Q tgt lv rest ws kc ks) : Z p l e R s m args below meth c nL G A Q pc lv rest ws kc ks := fun H locs ls hP hD hS hl => lv_goto X.1 X.2.1 hdg ht (kz H locs ls hP hD hS hl)
theorem z_tableOut (X : ZC p s m args meth c cc nL own G A ret nm) {lv : List (Nat × Value)} {dflt lo hi : Int} {offs : Array Int} {len : Nat} {x : Int32} {tgt : Nat} (hdg : decode cc pc = .ok (.tableswitch dflt lo hi offs, len)) (h : x.toInt < lo ∨ hi < x.toInt) (ht : (pc : Int) + dflt = (tgt : Int)) (kz : Z p l e R s m args below meth c nL G A Q tgt lv rest ws kc ks) : Z p l e R s m args below meth c nL G A Q pc lv (.int x :: rest) ws kc ks := fun H locs ls hP hD hS hl => lv_tableOut X.1 X.2.1 hdg h ht (kz H locs ls hP hD hS hl)
theorem z_tableIn (X : ZC p s m args meth c cc nL own G A ret nm) {lv : List (Nat × Value)} {dflt lo hi : Int} {offs : Array Int} {len : Nat} {x : Int32} {off : Int} {tgt : Nat} (hdg : decode cc pc = .ok (.tableswitch dflt lo hi offs, len)) (h1 : ¬ x.toInt < lo) (h2 : ¬ hi < x.toInt) (ho : offs[(x.toInt - lo).toNat]? = some off) (ht : (pc : Int) + off = (tgt : Int)) (kz : Z p l e R s m args below meth c nL G A Q tgt lv rest ws kc ks) : Z p l e R s m args below meth c nL G A Q pc lv (.int x :: rest) ws kc ks := fun H locs ls hP hD hS hl => lv_tableIn X.1 X.2.1 hdg h1 h2 ho ht (kz H locs ls hP hD hS hl)
theorem z_lookup (X : ZC p s m args meth c cc nL own G A ret nm) {lv : List (Nat × Value)} {dflt : Int} {ps : Array (Int × Int)} {len : Nat} {x : Int32} {off : Int} {tgt : Nat} (hdg : decode cc pc = .ok (.lookupswitch dflt ps, len)) (hp : (ps.toList.zip (ps.toList.drop 1)).all (fun (a, next) => a.1 < next.1) = true) (ho : Op.lookupswitch.offset ps.toList dflt x.toInt = off) (ht : (pc : Int) + off = (tgt : Int)) (kz : Z p l e R s m args below meth c nL G A Q tgt lv rest ws kc ks) : Z p l e R s m args below meth c nL G A Q pc lv (.int x :: rest) ws kc ks := fun H locs ls hP hD hS hl => lv_lookup X.1 X.2.1 hdg hp ho ht (kz H locs ls hP hD hS hl)
theorem z_ifnonnull (X : ZC p s m args meth c cc nL own G A ret nm) {lv : List (Nat × Value)} {x : Nat} {off : Int} {tgt : Nat} (hdg : decode cc pc = .ok (.ifnonnull off, 3)) (ht : (pc : Int) + off = (tgt : Int)) (kz : Z p l e R s m args below meth c nL G A Q tgt lv rest ws kc ks) : Z p l e R s m args below meth c nL G A Q pc lv (.ref x :: rest) ws kc ks := fun H locs ls hP hD hS hl => lv_ifnonnull X.1 X.2.1 hdg ht (kz H locs ls hP hD hS hl)
theorem z_ifnull (X : ZC p s m args meth c cc nL own G A ret nm) {lv : List (Nat × Value)} {x : Nat} {off : Int} (hdg : decode cc pc = .ok (.ifnull off, 3)) (kz : Z p l e R s m args below meth c nL G A Q (pc + 3) lv rest ws kc ks) : Z p l e R s m args below meth c nL G A Q pc lv (.ref x :: rest) ws kc ks := fun H locs ls hP hD hS hl => lv_ifnull X.1 X.2.1 hdg (kz H locs ls hP hD hS hl)
theorem z_ifnullN (X : ZC p s m args meth c cc nL own G A ret nm) {lv : List (Nat × Value)} {off : Int} {tgt : Nat} (hdg : decode cc pc = .ok (.ifnull off, 3)) (ht : (pc : Int) + off = (tgt : Int)) (kz : Z p l e R s m args below meth c nL G A Q tgt lv rest ws kc ks) : Z p l e R s m args below meth c nL G A Q pc lv (.null :: rest) ws kc ks := fun H locs ls hP hD hS hl => lv_ifnullN X.1 X.2.1 hdg ht (kz H locs ls hP hD hS hl)
theorem z_ifnonnullN (X : ZC p s m args meth c cc nL own G A ret nm) {lv : List (Nat × Value)} {off : Int} (hdg : decode cc pc = .ok (.ifnonnull off, 3)) (kz : Z p l e R s m args below meth c nL G A Q (pc + 3) lv rest ws kc ks) : Z p l e R s m args below meth c nL G A Q pc lv (.null :: rest) ws kc ks := fun H locs ls hP hD hS hl => lv_ifnonnullN X.1 X.2.1 hdg (kz H locs ls hP hD hS hl)
theorem z_lcmp (X : ZC p s m args meth c cc nL own G A ret nm) {lv : List (Nat × Value)} {x y : Int64} (hdg : decode cc pc = .ok (.lcmp, 1)) (kz : Z p l e R s m args below meth c nL G A Q (pc + 1) lv (.int (lg_cmp x y) :: rest) ws kc ks) : Z p l e R s m args below meth c nL G A Q pc lv (.long y :: .long x :: rest) ws kc ks := fun H locs ls hP hD hS hl => W.lcmp X.1 X.2.1 hdg (kz H locs ls hP hD hS hl)
theorem z_ldc (X : ZC p s m args meth c cc nL own G A ret nm) {lv : List (Nat × Value)} {index : Nat} {v : Int32} (hdg : decode cc pc = .ok (.ldc index, 2)) (hc : Jvm.Cond.constant own index v ∈ BIG) (kz : Z p l e R s m args below meth c nL G A Q (pc + 2) lv (.int v :: rest) ws kc ks) : Z p l e R s m args below meth c nL G A Q pc lv rest ws kc ks := fun H locs ls hP hD hS hl => lv_ldc X.1 X.2.1 X.2.2.2.1 (X.2.2.2.2.1 _ hc) hdg (kz H locs ls hP hD hS hl)
theorem z_ldcw (X : ZC p s m args meth c cc nL own G A ret nm) {lv : List (Nat × Value)} {index : Nat} {v : Int32} (hdg : decode cc pc = .ok (.ldc_w index, 3)) (hc : Jvm.Cond.constant own index v ∈ BIG) (kz : Z p l e R s m args below meth c nL G A Q (pc + 3) lv (.int v :: rest) ws kc ks) : Z p l e R s m args below meth c nL G A Q pc lv rest ws kc ks := fun H locs ls hP hD hS hl => lv_ldcw X.1 X.2.1 X.2.2.2.1 (X.2.2.2.2.1 _ hc) hdg (kz H locs ls hP hD hS hl)
theorem z_ldc2 (X : ZC p s m args meth c cc nL own G A ret nm) {lv : List (Nat × Value)} {index : Nat} {v : Int64} (hdg : decode cc pc = .ok (.ldc2_w index, 3)) (hc : Jvm.Cond.constantLong own index v ∈ BIG) (kz : Z p l e R s m args below meth c nL G A Q (pc + 3) lv (.long v :: rest) ws kc ks) : Z p l e R s m args below meth c nL G A Q pc lv rest ws kc ks := fun H locs ls hP hD hS hl => lv_ldc2 X.1 X.2.1 X.2.2.2.1 (X.2.2.2.2.1 _ hc) hdg (kz H locs ls hP hD hS hl)
/-- the same state, told otherwise -/
theorem Z.cg {lv lv' : List (Nat × Value)} {st st' : List Value} {ws ws' : va_W} (h1 : lv = lv') (h2 : st = st') (h3 : ws = ws') (kz : Z p l e R s m args below meth c nL G A Q pc lv' st' ws' kc ks) : Z p l e R s m args below meth c nL G A Q pc lv st ws kc ks := by subst h1; subst h2; subst h3; exact kz
theorem Z.at {lv : List (Nat × Value)} {pc' : Nat} {st' : List Value} {ws' : va_W} {kc' ks' : Nat} (h0 : pc = pc') (h1 : st = st') (h2 : ws = ws') (h3 : kc = kc') (h4 : ks = ks') (kz : Z p l e R s m args below meth c nL G A Q pc' lv st' ws' kc' ks') : Z p l e R s m args below meth c nL G A Q pc lv st ws kc ks := by subst h0; subst h1; subst h2; subst h3; subst h4; exact kz
/-- fewer locals, fewer cells, in another order -/
theorem Z.sub {lv lv' : List (Nat × Value)} {ws ws' : va_W} (il : List Nat) (hl : lv_pick lv il = lv') (is : List Nat) (hw : is.map (fun i => ws[i]?) = ws'.map some) (hn : va_nd is = true) (kz : Z p l e R s m args below meth c nL G A Q pc lv' st ws' kc ks) : Z p l e R s m args below meth c nL G A Q pc lv st ws kc ks := by
  intro H locs ls hP hD hS hh
  refine kz H locs ls ?_ (hD.sub is hn hw) hS (lv_sub hh il hl)
  intro k q hk
  have h1 : (is.map (fun i => ws[i]?))[k]? = some (some q) := by rw [hw, List.getElem?_map, hk]; rfl
  rw [List.getElem?_map] at h1
  cases hi : is[k]? with
  | none => rw [hi] at h1; cases h1
  | some i => rw [hi] at h1; exact hP i q (Option.some.inj h1)
theorem Z.widen {lv : List (Nat × Value)} {k2 s2 : Nat} (h1 : kc ≤ k2) (h2 : ks ≤ s2) (kz : Z p l e R s m args below meth c nL G A Q pc lv st ws k2 s2) : Z p l e R s m args below meth c nL G A Q pc lv st ws kc ks := fun H locs ls hP hD hS hl => W.widen h1 h2 (kz H locs ls hP hD hS hl)
/-- a field of a class by its place in the constant pool -/
def FL (own : String) (idx ci k : Nat) : Prop := ∃ (C : String) (T : u_T) (N : Nat) (ty0 : Nat → FieldType), vwCl[ci]? = some (C, T, N) ∧ k < N ∧ (∀ w ∈ u_ws C T N, w ∈ BIG) ∧ Cond.fieldLink own idx (T k).1 (T k).2.1 (T k).2.2.1 ∈ BIG ∧ (∀ k, k < N → parseFieldDescriptor (T k).2.2.1 = some (ty0 k)) ∧ (∀ a, a < N → ∀ b, b < N → a ≠ b → (T a).2.1 ≠ (T b).2.1)
def FN (own : String) (idx ci k : Nat) : Prop := ∃ (C : String) (T : u_T) (N : Nat) (ty0 : Nat → FieldType) (host : String), vwCl[ci]? = some (C, T, N) ∧ k < N ∧ (∀ w ∈ u_ws C T N, w ∈ BIG) ∧ Cond.fieldLinkNest own idx (T k).1 (T k).2.1 (T k).2.2.1 host ∈ NW ∧ (∀ k, k < N → parseFieldDescriptor (T k).2.2.1 = some (ty0 k)) ∧ (∀ a, a < N → ∀ b, b < N → a ≠ b → (T a).2.1 ≠ (T b).2.1)
theorem z_get (X : ZC p s m args meth c cc nL own G A ret nm) {lv : List (Nat × Value)} {idx ci k : Nat} {a : Nat} (F : FL own idx ci k) (hdg : decode cc pc = .ok (.getfield idx, 3)) (q0 : Nat) {fs : List Value} (he : ws[q0]? = some (a, .inr (ci, fs))) {v : Value} (hv : fs[k]? = some v) (kz : Z p l e R s m args below meth c nL G A Q (pc + 3) lv (v :: rest) ws kc ks) : Z p l e R s m args below meth c nL G A Q pc lv (.ref a :: rest) ws kc ks := by
  obtain ⟨C, T, N, ty0, hc, hk, hin, hlk, -, -⟩ := F
  intro H locs ls hP hD hS hl
  exact va_get X.1 X.2.1 X.2.2.2.2.1 hin X.2.2.2.1 X.2.2.2.2.2.1.1 hP q0 he hc k hk (X.2.2.2.2.1 _ hlk) (fun _ h9 => h9) hv hdg (kz H locs ls hP hD hS hl)
theorem z_getN (X : ZC p s m args meth c cc nL own G A ret nm) {lv : List (Nat × Value)} {idx ci k : Nat} {a : Nat} (F : FN own idx ci k) (hdg : decode cc pc = .ok (.getfield idx, 3)) (q0 : Nat) {fs : List Value} (he : ws[q0]? = some (a, .inr (ci, fs))) {v : Value} (hv : fs[k]? = some v) (kz : Z p l e R s m args below meth c nL G A Q (pc + 3) lv (v :: rest) ws kc ks) : Z p l e R s m args below meth c nL G A Q pc lv (.ref a :: rest) ws kc ks := by
  obtain ⟨C, T, N, ty0, host, hc, hk, hin, hlk, -, -⟩ := F
  intro H locs ls hP hD hS hl
  exact va_getN X.1 X.2.1 X.2.2.2.2.1 hin X.2.2.2.1 X.2.2.2.2.2.1.1 hP q0 he hc k hk (X.2.2.2.2.2.1.2.use hlk) (fun _ h9 => h9) hv hdg (kz H locs ls hP hD hS hl)
theorem z_put (X : ZC p s m args meth c cc nL own G A ret nm) {lv : List (Nat × Value)} {idx ci k : Nat} {a : Nat} (F : FL own idx ci k) (hdg : decode cc pc = .ok (.putfield idx, 3)) (q0 : Nat) {fs : List Value} (he : ws[q0]? = some (a, .inr (ci, fs))) {ty : FieldType} {v : Value} {C : String} {T : u_T} {N : Nat} (hT : vwCl[ci]? = some (C, T, N)) (hf : (T k).2.2.2 = false ∨ ((T k).2.2.2 = true ∧ nm = "<init>" ∧ (T k).1 = own)) (hd : parseFieldDescriptor (T k).2.2.1 = some ty) (hn : narrow ty v = v) (hfit : fits ty v = true) (hl0 : k < fs.length) {ws' : va_W} (hw : ws.set q0 (a, .inr (ci, fs.set k v)) = ws') (kz : Z p l e R s m args below meth c nL G A Q (pc + 3) lv rest ws' kc ks) : Z p l e R s m args below meth c nL G A Q pc lv (v :: .ref a :: rest) ws kc ks := by
  obtain ⟨C', T', N', ty0, hc, hk, hin, hlk, hty, hnm⟩ := F
  rw [hT] at hc
  cases hc
  subst hw
  intro H locs ls hP hD hS hl
  rcases hf with hf | ⟨hf, hf2, hf3⟩
  · exact va_put X.1 X.2.1 X.2.2.2.2.1 hin ty0 hty hnm X.2.2.2.1 X.2.2.2.2.2.1.1 hP hD hS q0 he hT k hk (X.2.2.2.2.1 _ hlk) (fun _ h9 => h9) hf hd hn hfit hl0 hdg (fun H1 locs1 hP hD hS => kz H1 locs1 ls hP hD hS hl)
  · exact va_putF X.1 X.2.1 X.2.2.2.2.1 hin ty0 hty hnm X.2.2.2.1 X.2.2.2.2.2.1.1 hP hD hS q0 he hT k hk (X.2.2.2.2.1 _ hlk) (fun _ h9 => h9) hf (X.2.2.2.2.2.2.2.2.2.trans hf2) hf3 hd hn hfit hl0 hdg (fun H1 locs1 hP hD hS => kz H1 locs1 ls hP hD hS hl)
theorem z_putN (X : ZC p s m args meth c cc nL own G A ret nm) {lv : List (Nat × Value)} {idx ci k : Nat} {a : Nat} (F : FN own idx ci k) (hdg : decode cc pc = .ok (.putfield idx, 3)) (q0 : Nat) {fs : List Value} (he : ws[q0]? = some (a, .inr (ci, fs))) {ty : FieldType} {v : Value} {C : String} {T : u_T} {N : Nat} (hT : vwCl[ci]? = some (C, T, N)) (hf : (T k).2.2.2 = false) (hd : parseFieldDescriptor (T k).2.2.1 = some ty) (hn : narrow ty v = v) (hfit : fits ty v = true) (hl0 : k < fs.length) {ws' : va_W} (hw : ws.set q0 (a, .inr (ci, fs.set k v)) = ws') (kz : Z p l e R s m args below meth c nL G A Q (pc + 3) lv rest ws' kc ks) : Z p l e R s m args below meth c nL G A Q pc lv (v :: .ref a :: rest) ws kc ks := by
  obtain ⟨C', T', N', ty0, host, hc, hk, hin, hlk, hty, hnm⟩ := F
  rw [hT] at hc
  cases hc
  subst hw
  intro H locs ls hP hD hS hl
  exact va_putN X.1 X.2.1 X.2.2.2.2.1 hin ty0 hty hnm X.2.2.2.1 X.2.2.2.2.2.1.1 hP hD hS q0 he hT k hk (X.2.2.2.2.2.1.2.use hlk) (fun _ h9 => h9) hf hd hn hfit hl0 hdg (fun H1 locs1 hP hD hS => kz H1 locs1 ls hP hD hS hl)
theorem z_iald (X : ZC p s m args meth c cc nL own G A ret nm) {lv : List (Nat × Value)} {a n : Nat} (hdg : decode cc pc = .ok (.iaload, 1)) (q0 : Nat) {f : Nat → Int32} (ha : ws[q0]? = some (a, aI G n f)) {i : Int32} (hin : vp_in i n) {v : Int32} (hv : f i.toNatClampNeg = v) (kz : Z p l e R s m args below meth c nL G A Q (pc + 1) lv (.int v :: rest) ws kc ks) : Z p l e R s m args below meth c nL G A Q pc lv (.int i :: .ref a :: rest) ws kc ks := by
  subst hv
  exact fun H locs ls hP hD hS hl => va_iald X.1 X.2.1 X.2.2.2.2.2.1.1 hP q0 0 ha rfl hin hdg (kz H locs ls hP hD hS hl)
theorem z_lald (X : ZC p s m args meth c cc nL own G A ret nm) {lv : List (Nat × Value)} {a n : Nat} (hdg : decode cc pc = .ok (.laload, 1)) (q0 : Nat) {f : Nat → Int64} (ha : ws[q0]? = some (a, aJ G n f)) {i : Int32} (hin : vp_in i n) {v : Int64} (hv : f i.toNatClampNeg = v) (kz : Z p l e R s m args below meth c nL G A Q (pc + 1) lv (.long v :: rest) ws kc ks) : Z p l e R s m args below meth c nL G A Q pc lv (.int i :: .ref a :: rest) ws kc ks := by
  subst hv
  exact fun H locs ls hP hD hS hl => va_lald X.1 X.2.1 X.2.2.2.2.2.1.1 hP q0 1 ha rfl hin hdg (kz H locs ls hP hD hS hl)
theorem z_zald (X : ZC p s m args meth c cc nL own G A ret nm) {lv : List (Nat × Value)} {a n : Nat} (hdg : decode cc pc = .ok (.baload, 1)) (q0 : Nat) {f : Nat → Int32} (ha : ws[q0]? = some (a, aZ G n f)) {i : Int32} (hin : vp_in i n) {v : Int32} (hv : f i.toNatClampNeg = v) (kz : Z p l e R s m args below meth c nL G A Q (pc + 1) lv (.int v :: rest) ws kc ks) : Z p l e R s m args below meth c nL G A Q pc lv (.int i :: .ref a :: rest) ws kc ks := by
  subst hv
  exact fun H locs ls hP hD hS hl => va_zald X.1 X.2.1 X.2.2.2.2.2.1.1 hP q0 2 ha rfl hin hdg (kz H locs ls hP hD hS hl)
theorem z_oald (X : ZC p s m args meth c cc nL own G A ret nm) {lv : List (Nat × Value)} {a n : Nat} (hdg : decode cc pc = .ok (.aaload, 1)) (q0 : Nat) {f : Nat → Option Nat} (ha : ws[q0]? = some (a, aO G n f)) {i : Int32} (hin : vp_in i n) {v : Value} (hv : va_rf (f i.toNatClampNeg) = v) (kz : Z p l e R s m args below meth c nL G A Q (pc + 1) lv (v :: rest) ws kc ks) : Z p l e R s m args below meth c nL G A Q pc lv (.int i :: .ref a :: rest) ws kc ks := by
  subst hv
  exact fun H locs ls hP hD hS hl => va_aldq X.1 X.2.1 X.2.2.2.2.2.1.1 hP q0 3 ha rfl hin hdg (kz H locs ls hP hD hS hl)
theorem z_iast (X : ZC p s m args meth c cc nL own G A ret nm) {lv : List (Nat × Value)} {a n : Nat} (hdg : decode cc pc = .ok (.iastore, 1)) (q0 : Nat) {f : Nat → Int32} (ha : ws[q0]? = some (a, aI G n f)) {i x : Int32} (hin : vp_in i n) {ws' : va_W} (hw : ws.set q0 (a, aI G n (upd f i.toNatClampNeg x)) = ws') (kz : Z p l e R s m args below meth c nL G A Q (pc + 1) lv rest ws' kc ks) : Z p l e R s m args below meth c nL G A Q pc lv (.int x :: .int i :: .ref a :: rest) ws kc ks := by
  subst hw
  exact fun H locs ls hP hD hS hl => va_iast X.1 X.2.1 X.2.2.2.2.2.1.1 hP hD hS q0 0 ha rfl hin hdg (fun H1 locs1 hP hD hS => kz H1 locs1 ls hP hD hS hl)
theorem z_last (X : ZC p s m args meth c cc nL own G A ret nm) {lv : List (Nat × Value)} {a n : Nat} (hdg : decode cc pc = .ok (.lastore, 1)) (q0 : Nat) {f : Nat → Int64} (ha : ws[q0]? = some (a, aJ G n f)) {i : Int32} {x : Int64} (hin : vp_in i n) {ws' : va_W} (hw : ws.set q0 (a, aJ G n (vp_updL f i.toNatClampNeg x)) = ws') (kz : Z p l e R s m args below meth c nL G A Q (pc + 1) lv rest ws' kc ks) : Z p l e R s m args below meth c nL G A Q pc lv (.long x :: .int i :: .ref a :: rest) ws kc ks := by
  subst hw
  exact fun H locs ls hP hD hS hl => va_last X.1 X.2.1 X.2.2.2.2.2.1.1 hP hD hS q0 1 ha rfl hin hdg (fun H1 locs1 hP hD hS => kz H1 locs1 ls hP hD hS hl)
theorem z_zast (X : ZC p s m args meth c cc nL own G A ret nm) {lv : List (Nat × Value)} {a n : Nat} (hdg : decode cc pc = .ok (.bastore, 1)) (q0 : Nat) {f : Nat → Int32} (ha : ws[q0]? = some (a, aZ G n f)) {i x : Int32} (hin : vp_in i n) {ws' : va_W} (hw : ws.set q0 (a, aZ G n (upd f i.toNatClampNeg (vp_nar .boolean x))) = ws') (kz : Z p l e R s m args below meth c nL G A Q (pc + 1) lv rest ws' kc ks) : Z p l e R s m args below meth c nL G A Q pc lv (.int x :: .int i :: .ref a :: rest) ws kc ks := by
  subst hw
  exact fun H locs ls hP hD hS hl => va_zast X.1 X.2.1 X.2.2.2.2.2.1.1 hP hD hS q0 2 ha rfl hin hdg (fun H1 locs1 hP hD hS => kz H1 locs1 ls hP hD hS hl)
theorem z_oast (X : ZC p s m args meth c cc nL own G A ret nm) {lv : List (Nat × Value)} {a n v qk ci : Nat} (hdg : decode cc pc = .ok (.aastore, 1)) (q0 : Nat) {f : Nat → Option Nat} {vs : List Value} {r : vw_C} (ha : ws[q0]? = some (a, aO G n f)) (hr : r.1 = "StoneThatShakes$Kept") (hv : ws[qk]? = some (v, .inr (ci, vs))) (hc : vwCl[ci]? = some r) {i : Int32} (hin : vp_in i n) {ws' : va_W} (hw : ws.set q0 (a, aO G n (va_up f i.toNatClampNeg (some v))) = ws') (kz : Z p l e R s m args below meth c nL G A Q (pc + 1) lv rest ws' kc ks) : Z p l e R s m args below meth c nL G A Q pc lv (.ref v :: .int i :: .ref a :: rest) ws kc ks := by
  subst hw
  exact fun H locs ls hP hD hS hl => va_astq X.1 X.2.1 X.2.2.2.2.2.1.1 hP hD hS q0 3 qk ci ha (by rw [hr]; rfl) hv hc hin hdg (fun H1 locs1 hP hD hS => kz H1 locs1 ls hP hD hS hl)
theorem z_alen (X : ZC p s m args meth c cc nL own G A ret nm) {lv : List (Nat × Value)} {a : Nat} (hdg : decode cc pc = .ok (.arraylength, 1)) (q0 t0 : Nat) {cA : ClassId} {x : vp_A} (ha : ws[q0]? = some (a, .inl (cA, x))) {ty : FieldType} (ht : (TYS G)[t0]? = some (cA, ty)) {v : Int32} (hv : Int32.ofNat x.1 = v) (kz : Z p l e R s m args below meth c nL G A Q (pc + 1) lv (.int v :: rest) ws kc ks) : Z p l e R s m args below meth c nL G A Q pc lv (.ref a :: rest) ws kc ks :=
  fun H locs ls hP hD hS hl => va_alen X.1 X.2.1 X.2.2.2.2.2.1.1 hP q0 t0 ha ht hv hdg (kz H locs ls hP hD hS hl)
end ZROWS
section ZRET
variable {p : Program} {l : Launch} {e : Env} {R : Room} {s : State} {m : MethodId} {args : Array Value} {below : List Frame} {meth : Method} {c : Code} {nL : Nat} {G : KG} {A : Nat → Prop} {Q : State → Prop} {cc : ByteArray} {own : String} {ret : Option FieldType} {nm : String}
variable {pc : Nat} {rest st : List Value} {ws : va_W} {kc ks mc ms : Nat} {lv : List (Nat × Value)} {post : Option Value → va_W → Prop}
theorem z_iret (X : ZC p s m args meth c cc nL own G A ret nm) {v : Int32} (hr : ret = some .int) (hdg : decode cc pc = .ok (.ireturn, 1)) (hc : kc ≤ mc) (hs : ks ≤ ms) (hq : post (some (.int v)) ws) : Z p l e R s m args below meth c nL G A (MQ below (QQ G A post) args s mc ms A) pc lv [.int v] ws kc ks :=
  fun _ _ _ hP hD hS _ => W.widen hc hs (W.iret (v := v) X.1 X.2.1 (X.2.2.2.2.2.2.2.2.1.trans hr) (fun t ht _ => ⟨⟨_, ws, rfl, hq, by rw [ht]; exact hP, hD⟩, hS.F ht⟩) hS.2.2 hdg X.2.2.2.2.2.2.2.1)
theorem z_zret (X : ZC p s m args meth c cc nL own G A ret nm) {v : Int32} {ty : FieldType} (hr : ret = some ty) (hn : narrow ty (.int v) = .int v) (hdg : decode cc pc = .ok (.ireturn, 1)) (hc : kc ≤ mc) (hs : ks ≤ ms) (hq : post (some (.int v)) ws) : Z p l e R s m args below meth c nL G A (MQ below (QQ G A post) args s mc ms A) pc lv [.int v] ws kc ks :=
  fun _ _ _ hP hD hS _ => W.widen hc hs (W.zret (v := v) X.1 X.2.1 (X.2.2.2.2.2.2.2.2.1.trans hr) hn (fun t ht _ => ⟨⟨_, ws, rfl, hq, by rw [ht]; exact hP, hD⟩, hS.F ht⟩) hS.2.2 hdg X.2.2.2.2.2.2.2.1)
theorem z_lret (X : ZC p s m args meth c cc nL own G A ret nm) {v : Int64} (hr : ret = some .long) (hdg : decode cc pc = .ok (.lreturn, 1)) (hc : kc ≤ mc) (hs : ks ≤ ms) (hq : post (some (.long v)) ws) : Z p l e R s m args below meth c nL G A (MQ below (QQ G A post) args s mc ms A) pc lv [.long v] ws kc ks :=
  fun _ _ _ hP hD hS _ => W.widen hc hs (W.lret (v := v) X.1 X.2.1 (X.2.2.2.2.2.2.2.2.1.trans hr) (fun t ht _ => ⟨⟨_, ws, rfl, hq, by rw [ht]; exact hP, hD⟩, hS.F ht⟩) hS.2.2 hdg X.2.2.2.2.2.2.2.1)
theorem z_aret (X : ZC p s m args meth c cc nL own G A ret nm) {a : Nat} {rt : FieldType} (hr : ret = some rt) (hrt : (∃ n, rt = .object n) ∨ ∃ t, rt = .array t) (hdg : decode cc pc = .ok (.areturn, 1)) (hc : kc ≤ mc) (hs : ks ≤ ms) (hq : post (some (.ref a)) ws) : Z p l e R s m args below meth c nL G A (MQ below (QQ G A post) args s mc ms A) pc lv [.ref a] ws kc ks :=
  fun _ _ _ hP hD hS _ => W.widen hc hs (W.aret X.1 X.2.1 (X.2.2.2.2.2.2.2.2.1.trans hr) hrt (Or.inr ⟨a, rfl⟩) (fun t ht _ => ⟨⟨_, ws, rfl, hq, by rw [ht]; exact hP, hD⟩, hS.F ht⟩) hS.2.2 hdg X.2.2.2.2.2.2.2.1)
theorem z_vret (X : ZC p s m args meth c cc nL own G A ret nm) (hr : ret = none) (hdg : decode cc pc = .ok (.return_, 1)) (hc : kc ≤ mc) (hs : ks ≤ ms) (hq : post none ws) : Z p l e R s m args below meth c nL G A (MQ below (QQ G A post) args s mc ms A) pc lv [] ws kc ks :=
  fun _ _ _ hP hD hS _ => W.widen hc hs (W.vret X.1 X.2.1 (X.2.2.2.2.2.2.2.2.1.trans hr) (fun t ht _ => ⟨⟨_, ws, rfl, hq, by rw [ht]; exact hP, hD⟩, hS.F ht⟩) hS.2.2 hdg X.2.2.2.2.2.2.2.1)
/-- a nested world of the whole -/
theorem va_Ppick {D : va_G} {cl : List vw_C} {ws ws' : va_W} {H : Heap} (hP : va_P D cl ws H) (is : List Nat) (hw : is.map (fun i => ws[i]?) = ws'.map some) : va_P D cl ws' H := by
  intro k q hk
  have h1 : (is.map (fun i => ws[i]?))[k]? = some (some q) := by rw [hw, List.getElem?_map, hk]; rfl
  rw [List.getElem?_map] at h1
  cases hi : is[k]? with
  | none => rw [hi] at h1; cases h1
  | some i => rw [hi] at h1; exact hP i q (Option.some.inj h1)
set_option maxHeartbeats 1000000 in
theorem z_cont {H : Heap} {locs : List Loc} {ls : Array Slot} {w0 wr : va_W} {a : Array Value} (hr : va_Run p l e R s m args below meth c H locs kc ks mc ms (F0 m pc ls st) rest (Qcx G w0 H.size post a) (va_A w0 H.size)) (hA0 : ∀ q : Nat, s.heap.size ≤ q → A q) (hP : va_P G.1 vwCl ws H) (hD : va_D A ws) (hS : va_S A s.heap H locs) (hl : lv_has ls nL lv) (isC isR : List Nat) (hC : isC.map (fun i => ws[i]?) = w0.map some) (hR : isR.map (fun i => ws[i]?) = wr.map some) (hn : va_nd isR = true) (hdis : (isR.all fun i => decide (i ∉ isC)) = true)
    (kk : ∀ (r : Option Value) (w1 : va_W), post r w1 → Z p l e R s m args below meth c nL G A Q (pc + 3) lv (r.toList ++ rest) (wr ++ w1) (kc + mc) (ks + ms)) : W p l e R s m args below meth c H locs kc ks Q (F0 m pc ls st) := by
  have hF : ∀ q, va_A w0 H.size q → A q := va_free hD hS hA0 isC hC
  intro T hT X
  obtain ⟨v, st₀, t, T', L, h0, X', hL, e1, e2, ⟨⟨r, w1, hv, hp, hP1, hD1⟩, hz, hk⟩, stp⟩ := hr T hT X
  cases hv
  rw [h0] at hz hk
  have hk1 : ∀ q : Nat, q < H.size → ¬ va_A w0 H.size q → t.heap[q]? = H[q]? := hk
  obtain ⟨hP2, hD2⟩ := va_join hP hD isC isR hC hR hn (fun i hi => of_decide_eq_true (List.all_eq_true.mp hdis i hi)) hk1 hF hP1 hD1
  have hS2 : va_S A s.heap t.heap (locs ++ L) := ⟨Nat.le_trans hS.1 hz, fun q h1 h2 => (hk q (Nat.lt_of_lt_of_le h1 hS.1) (fun z => h2 (hF q z))).trans (hS.2.1 q h1 h2), fun q hq => by
      rcases List.mem_append.mp hq with h | h
      · exact hS.2.2 q h
      · exact hF _ (hL q h)⟩
  obtain ⟨t2, a1, b1⟩ := kk v w1 hp t.heap (locs ++ L) ls hP2 hD2 hS2 hl T' e1 X'
  exact ⟨t2, stp t2 a1, b1⟩
/-- a method by its place in the constant pool: by a virtual call, a static one, a constructor; of a nest mate -/
def LkV (own : String) (idx : Nat) (C : String) (y : MethodName) (cc : ByteArray) (maxL : Nat) (ret : Option FieldType) (n : Nat) : Prop := Cond.methodLink own idx y ∈ BIG ∧ Cond.instanceMethod y ∈ BIG ∧ Cond.selects C y y ∈ BIG ∧ Cond.initialized C ∈ BIG ∧ Cond.code y cc maxL ret ∈ BIG ∧ y.cls = C ∧ y.cls ≠ "java/lang/invoke/MethodHandle" ∧ y.cls ≠ "java/lang/invoke/VarHandle" ∧ (parseMethodDescriptor y.desc).map (fun d => d.parameters.length) = some n
def LkS (own : String) (idx : Nat) (y : MethodName) (cc : ByteArray) (maxL : Nat) (ret : Option FieldType) (n : Nat) : Prop := Cond.methodLink own idx y ∈ BIG ∧ Cond.static y ∈ BIG ∧ Cond.initialized y.cls ∈ BIG ∧ Cond.code y cc maxL ret ∈ BIG ∧ y.cls ≠ "java/lang/invoke/MethodHandle" ∧ y.cls ≠ "java/lang/invoke/VarHandle" ∧ (parseMethodDescriptor y.desc).map (fun d => d.parameters.length) = some n
def LkI (own : String) (idx : Nat) (y : MethodName) (cc : ByteArray) (maxL : Nat) (n : Nat) : Prop := Cond.methodLink own idx y ∈ BIG ∧ Cond.instanceMethod y ∈ BIG ∧ Cond.initialized y.cls ∈ BIG ∧ Cond.code y cc maxL none ∈ BIG ∧ y.name = "<init>" ∧ y.cls ≠ "java/lang/invoke/MethodHandle" ∧ y.cls ≠ "java/lang/invoke/VarHandle" ∧ (parseMethodDescriptor y.desc).map (fun d => d.parameters.length) = some n
def LnV (own : String) (idx : Nat) (C : String) (y : MethodName) (cc : ByteArray) (maxL : Nat) (ret : Option FieldType) (n : Nat) : Prop := (∃ host : String, Cond.methodLinkNest own idx y host ∈ NW) ∧ Cond.instanceMethod y ∈ BIG ∧ Cond.selects C y y ∈ BIG ∧ Cond.initialized y.cls ∈ BIG ∧ Cond.code y cc maxL ret ∈ BIG ∧ y.cls ≠ "java/lang/invoke/MethodHandle" ∧ y.cls ≠ "java/lang/invoke/VarHandle" ∧ (parseMethodDescriptor y.desc).map (fun d => d.parameters.length) = some n
def LnS (own : String) (idx : Nat) (y : MethodName) (cc : ByteArray) (maxL : Nat) (ret : Option FieldType) (n : Nat) : Prop := (∃ host : String, Cond.methodLinkNest own idx y host ∈ NW) ∧ Cond.static y ∈ BIG ∧ Cond.initialized y.cls ∈ BIG ∧ Cond.code y cc maxL ret ∈ BIG ∧ y.cls ≠ "java/lang/invoke/MethodHandle" ∧ y.cls ≠ "java/lang/invoke/VarHandle" ∧ (parseMethodDescriptor y.desc).map (fun d => d.parameters.length) = some n
def LnI (own : String) (idx : Nat) (y : MethodName) (cc : ByteArray) (maxL : Nat) (n : Nat) : Prop := (∃ host : String, Cond.methodLinkNest own idx y host ∈ NW) ∧ Cond.instanceMethod y ∈ BIG ∧ Cond.initialized y.cls ∈ BIG ∧ Cond.code y cc maxL none ∈ BIG ∧ y.name = "<init>" ∧ y.cls ≠ "java/lang/invoke/MethodHandle" ∧ y.cls ≠ "java/lang/invoke/VarHandle" ∧ (parseMethodDescriptor y.desc).map (fun d => d.parameters.length) = some n
variable {y : MethodName} {cy : ByteArray} {maxL n idx : Nat} {rt : Option FieldType} {rm : Room} {w0 wr : va_W} {b : Nat} {As : List Value}
theorem pre_v {H : Heap} {locs : List Loc} (X : ZC p s m args meth c cc nL own G A ret nm) (hP : va_P G.1 vwCl ws H) (hD : va_D A ws) (isC : List Nat) (hC : isC.map (fun i => ws[i]?) = w0.map some) (hnC : va_nd isC = true) (av : List Value) : ∀ U : State, U.heap = H → s.WarmedH U.vm → Pcx G av w0 H.size av.toArray U :=
  fun U hU hW => ⟨rfl, by rw [hU], by rw [hU]; exact va_Ppick hP isC hC, X.2.2.2.2.2.1.warm hW, (hD.sub isC hnC hC).weaken (fun _ _ _ _ => trivial)⟩
theorem recv_v {H : Heap} (X : ZC p s m args meth c cc nL own G A ret nm) (hP : va_P G.1 vwCl ws H) (q0 : Nat) {ci : Nat} {fs : List Value} (he : ws[q0]? = some (b, .inr (ci, fs))) {q : vw_C} (hc : vwCl[ci]? = some q) : ∃ cell : Cell, H[b]? = some cell ∧ cell.vm.isStatics = false ∧ s.vm.findClass q.1 = some cell.cls := va_recv X.2.2.2.2.2.1.1 hP hc he
theorem z_callV {C : String} (X : ZC p s m args meth c cc nL own G A ret nm) (K : LkV own idx C y cy maxL rt n) (hM : Ct l G y cy maxL rt rm (.ref b :: As) w0 post) (hdg : decode cc pc = .ok (.invokevirtual idx, 3)) (q0 : Nat) {ci : Nat} {fs : List Value} (he : ws[q0]? = some (b, .inr (ci, fs))) {q : vw_C} (hc : vwCl[ci]? = some q) (hqC : q.1 = C) (hR : rm.frames + 1 ≤ R.frames ∧ 8 + (maxL + 11) + rm.locals ≤ R.locals) (hf : kc + rm.cells ≤ R.cells ∧ ks + rm.slots ≤ R.slots) (hn : As.length = n) (hst : st = As.reverse ++ .ref b :: rest) (hcat : (rest.map fun v => v.category).sum ≤ 8) (isC isR : List Nat) (hC : isC.map (fun i => ws[i]?) = w0.map some) (hnC : va_nd isC = true) (hRw : isR.map (fun i => ws[i]?) = wr.map some) (hnR : va_nd isR = true) (hdis : (isR.all fun i => decide (i ∉ isC)) = true)
    (kk : ∀ (r : Option Value) (w1 : va_W), post r w1 → Z p l e R s m args below meth c nL G A Q (pc + 3) lv (r.toList ++ rest) (wr ++ w1) (kc + rm.cells) (ks + rm.slots)) : Z p l e R s m args below meth c nL G A Q pc lv st ws kc ks := by
  obtain ⟨k1, k2, k3, k4, k5, k6, k7, k8, k9⟩ := K
  subst hst
  intro H locs ls hP hD hS hl
  have hts := X.2.2.2.2.1
  obtain ⟨cell, c1, c2, c3⟩ := recv_v X hP q0 he hc
  rw [hqC] at c3
  have hGI : GoodIn BIG (wsV own idx C y (wsOf y cy maxL rt)) := by
    intro w hw
    rcases List.mem_append.mp hw with h | h
    · have : w ∈ BIG := by
        rcases List.mem_cons.mp h with e | h
        · rw [e]; exact k1
        rcases List.mem_cons.mp h with e | h
        · rw [e]; exact k2
        rcases List.mem_cons.mp h with e | h
        · rw [e]; exact k3
        rcases List.mem_cons.mp h with e | h
        · rw [e]; exact k4
        cases h
      exact ⟨this, big_good this⟩
    · exact goodIn_wsOf k5 w h
  exact z_cont (va_runV (As := As) (rest := rest) ⟨X.1, X.2.1, X.2.2.1, X.2.2.2.1, hts⟩ (hM H.size) (cwV n hts hGI rfl rfl rfl ⟨k6, k7, k8, k9⟩ hR) ⟨Pcx.blind, ⟨cell, c1, c2, c3⟩, pre_v (locs := locs) X hP hD isC hC hnC _⟩ rfl hn hl.1 rfl (lv_room hcat) hdg hf) X.2.2.2.2.2.2.1 hP hD hS hl isC isR hC hRw hnR hdis kk
theorem z_callVN {C : String} (X : ZC p s m args meth c cc nL own G A ret nm) (K : LnV own idx C y cy maxL rt n) (hM : Ct l G y cy maxL rt rm (.ref b :: As) w0 post) (hdg : decode cc pc = .ok (.invokevirtual idx, 3)) (q0 : Nat) {ci : Nat} {fs : List Value} (he : ws[q0]? = some (b, .inr (ci, fs))) {q : vw_C} (hc : vwCl[ci]? = some q) (hqC : q.1 = C) (hR : rm.frames + 1 ≤ R.frames ∧ 8 + (maxL + 11) + rm.locals ≤ R.locals) (hf : kc + rm.cells ≤ R.cells ∧ ks + rm.slots ≤ R.slots) (hn : As.length = n) (hst : st = As.reverse ++ .ref b :: rest) (hcat : (rest.map fun v => v.category).sum ≤ 8) (isC isR : List Nat) (hC : isC.map (fun i => ws[i]?) = w0.map some) (hnC : va_nd isC = true) (hRw : isR.map (fun i => ws[i]?) = wr.map some) (hnR : va_nd isR = true) (hdis : (isR.all fun i => decide (i ∉ isC)) = true)
    (kk : ∀ (r : Option Value) (w1 : va_W), post r w1 → Z p l e R s m args below meth c nL G A Q (pc + 3) lv (r.toList ++ rest) (wr ++ w1) (kc + rm.cells) (ks + rm.slots)) : Z p l e R s m args below meth c nL G A Q pc lv st ws kc ks := by
  obtain ⟨⟨host, k1⟩, k2, k3, k4, k5, k7, k8, k9⟩ := K
  subst hst
  intro H locs ls hP hD hS hl
  have hts := X.2.2.2.2.1
  obtain ⟨cell, c1, c2, c3⟩ := recv_v X hP q0 he hc
  rw [hqC] at c3
  exact z_cont (va_runVN (As := As) (rest := rest) (host := host) ⟨X.1, X.2.1, X.2.2.1, X.2.2.2.1, hts⟩ (hM H.size) ⟨va_cnB n hts (goodIn_wsOf k5) rfl rfl rfl (X.2.2.2.2.2.1.2.1 _ k1) (hts _ k4) ⟨k7, k8, k9⟩ hR, hts _ k2, hts _ k3⟩ ⟨Pcx.blind, ⟨cell, c1, c2, c3⟩, pre_v (locs := locs) X hP hD isC hC hnC _⟩ rfl hn hl.1 rfl (lv_room hcat) hdg hf) X.2.2.2.2.2.2.1 hP hD hS hl isC isR hC hRw hnR hdis kk
theorem z_callS (X : ZC p s m args meth c cc nL own G A ret nm) (K : LkS own idx y cy maxL rt n) (hM : Ct l G y cy maxL rt rm As w0 post) (hdg : decode cc pc = .ok (.invokestatic idx, 3)) (hR : rm.frames + 1 ≤ R.frames ∧ 8 + (maxL + 11) + rm.locals ≤ R.locals) (hf : kc + rm.cells ≤ R.cells ∧ ks + rm.slots ≤ R.slots) (hn : As.length = n) (hst : st = As.reverse ++ rest) (hcat : (rest.map fun v => v.category).sum ≤ 8) (isC isR : List Nat) (hC : isC.map (fun i => ws[i]?) = w0.map some) (hnC : va_nd isC = true) (hRw : isR.map (fun i => ws[i]?) = wr.map some) (hnR : va_nd isR = true) (hdis : (isR.all fun i => decide (i ∉ isC)) = true)
    (kk : ∀ (r : Option Value) (w1 : va_W), post r w1 → Z p l e R s m args below meth c nL G A Q (pc + 3) lv (r.toList ++ rest) (wr ++ w1) (kc + rm.cells) (ks + rm.slots)) : Z p l e R s m args below meth c nL G A Q pc lv st ws kc ks := by
  obtain ⟨k1, k2, k3, k5, k7, k8, k9⟩ := K
  subst hst
  intro H locs ls hP hD hS hl
  have hts := X.2.2.2.2.1
  exact z_cont (va_runS (As := As) (rest := rest) ⟨X.1, X.2.1, X.2.2.1, X.2.2.2.1, hts⟩ (hM H.size) ⟨callB_of n hts (goodIn_wsOf k5) rfl rfl rfl (hts _ k3) (hts _ k1) ⟨k7, k8, k9⟩ hR, hts _ k2⟩ ⟨Pcx.blind, pre_v (locs := locs) X hP hD isC hC hnC _⟩ rfl hn hl.1 rfl (lv_room hcat) hdg hf) X.2.2.2.2.2.2.1 hP hD hS hl isC isR hC hRw hnR hdis kk
theorem z_callSN (X : ZC p s m args meth c cc nL own G A ret nm) (K : LnS own idx y cy maxL rt n) (hM : Ct l G y cy maxL rt rm As w0 post) (hdg : decode cc pc = .ok (.invokestatic idx, 3)) (hR : rm.frames + 1 ≤ R.frames ∧ 8 + (maxL + 11) + rm.locals ≤ R.locals) (hf : kc + rm.cells ≤ R.cells ∧ ks + rm.slots ≤ R.slots) (hn : As.length = n) (hst : st = As.reverse ++ rest) (hcat : (rest.map fun v => v.category).sum ≤ 8) (isC isR : List Nat) (hC : isC.map (fun i => ws[i]?) = w0.map some) (hnC : va_nd isC = true) (hRw : isR.map (fun i => ws[i]?) = wr.map some) (hnR : va_nd isR = true) (hdis : (isR.all fun i => decide (i ∉ isC)) = true)
    (kk : ∀ (r : Option Value) (w1 : va_W), post r w1 → Z p l e R s m args below meth c nL G A Q (pc + 3) lv (r.toList ++ rest) (wr ++ w1) (kc + rm.cells) (ks + rm.slots)) : Z p l e R s m args below meth c nL G A Q pc lv st ws kc ks := by
  obtain ⟨⟨host, k1⟩, k2, k4, k5, k7, k8, k9⟩ := K
  subst hst
  intro H locs ls hP hD hS hl
  have hts := X.2.2.2.2.1
  exact z_cont (va_runSN (As := As) (rest := rest) (host := host) ⟨X.1, X.2.1, X.2.2.1, X.2.2.2.1, hts⟩ (hM H.size) ⟨va_cnB n hts (goodIn_wsOf k5) rfl rfl rfl (X.2.2.2.2.2.1.2.1 _ k1) (hts _ k4) ⟨k7, k8, k9⟩ hR, hts _ k2, trivial⟩ ⟨Pcx.blind, pre_v (locs := locs) X hP hD isC hC hnC _⟩ rfl hn hl.1 rfl (lv_room hcat) hdg hf) X.2.2.2.2.2.2.1 hP hD hS hl isC isR hC hRw hnR hdis kk
theorem z_callI (X : ZC p s m args meth c cc nL own G A ret nm) (K : LkI own idx y cy maxL n) (hM : Ct l G y cy maxL none rm (.ref b :: As) w0 post) (hdg : decode cc pc = .ok (.invokespecial idx, 3)) (hR : rm.frames + 1 ≤ R.frames ∧ 8 + (maxL + 11) + rm.locals ≤ R.locals) (hf : kc + rm.cells ≤ R.cells ∧ ks + rm.slots ≤ R.slots) (hn : As.length = n) (hst : st = As.reverse ++ .ref b :: rest) (hcat : (rest.map fun v => v.category).sum ≤ 8) (isC isR : List Nat) (hC : isC.map (fun i => ws[i]?) = w0.map some) (hnC : va_nd isC = true) (hRw : isR.map (fun i => ws[i]?) = wr.map some) (hnR : va_nd isR = true) (hdis : (isR.all fun i => decide (i ∉ isC)) = true)
    (kk : ∀ (r : Option Value) (w1 : va_W), post r w1 → Z p l e R s m args below meth c nL G A Q (pc + 3) lv (r.toList ++ rest) (wr ++ w1) (kc + rm.cells) (ks + rm.slots)) : Z p l e R s m args below meth c nL G A Q pc lv st ws kc ks := by
  obtain ⟨k1, k2, k4, k5, k6, k7, k8, k9⟩ := K
  subst hst
  intro H locs ls hP hD hS hl
  have hts := X.2.2.2.2.1
  exact z_cont (va_runI (As := As) (rest := rest) ⟨X.1, X.2.1, X.2.2.1, X.2.2.2.1, hts⟩ (hM H.size) (cwI n hts (goodIn_wsOf k5) rfl rfl rfl (hts _ k4) (hts _ k1) (hts _ k2) k6 ⟨k7, k8, k9⟩ hR) ⟨Pcx.blind, pre_v (locs := locs) X hP hD isC hC hnC _⟩ rfl hn hl.1 rfl (lv_room hcat) hdg hf) X.2.2.2.2.2.2.1 hP hD hS hl isC isR hC hRw hnR hdis kk
theorem z_callIN (X : ZC p s m args meth c cc nL own G A ret nm) (K : LnI own idx y cy maxL n) (hM : Ct l G y cy maxL none rm (.ref b :: As) w0 post) (hdg : decode cc pc = .ok (.invokespecial idx, 3)) (hR : rm.frames + 1 ≤ R.frames ∧ 8 + (maxL + 11) + rm.locals ≤ R.locals) (hf : kc + rm.cells ≤ R.cells ∧ ks + rm.slots ≤ R.slots) (hn : As.length = n) (hst : st = As.reverse ++ .ref b :: rest) (hcat : (rest.map fun v => v.category).sum ≤ 8) (isC isR : List Nat) (hC : isC.map (fun i => ws[i]?) = w0.map some) (hnC : va_nd isC = true) (hRw : isR.map (fun i => ws[i]?) = wr.map some) (hnR : va_nd isR = true) (hdis : (isR.all fun i => decide (i ∉ isC)) = true)
    (kk : ∀ (r : Option Value) (w1 : va_W), post r w1 → Z p l e R s m args below meth c nL G A Q (pc + 3) lv (r.toList ++ rest) (wr ++ w1) (kc + rm.cells) (ks + rm.slots)) : Z p l e R s m args below meth c nL G A Q pc lv st ws kc ks := by
  obtain ⟨⟨host, k1⟩, k2, k4, k5, k6, k7, k8, k9⟩ := K
  subst hst
  intro H locs ls hP hD hS hl
  have hts := X.2.2.2.2.1
  exact z_cont (va_runIN (As := As) (rest := rest) (host := host) ⟨X.1, X.2.1, X.2.2.1, X.2.2.2.1, hts⟩ (hM H.size) ⟨va_cnB n hts (goodIn_wsOf k5) rfl rfl rfl (X.2.2.2.2.2.1.2.1 _ k1) (hts _ k4) ⟨k7, k8, k9⟩ hR, k6, hts _ k2⟩ ⟨Pcx.blind, pre_v (locs := locs) X hP hD isC hC hnC _⟩ rfl hn hl.1 rfl (lv_room hcat) hdg hf) X.2.2.2.2.2.2.1 hP hD hS hl isC isR hC hRw hnR hdis kk
theorem z_objInit (X : ZC p s m args meth c cc nL own G A ret nm) {a : Nat} (h1 : Cond.methodLink own idx Lib.objectInit ∈ BIG) (h2 : Cond.instanceMethod Lib.objectInit ∈ BIG) (h3 : Cond.code Lib.objectInit ⟨#[0xb1]⟩ 1 none ∈ BIG) (hdg : decode cc pc = .ok (.invokespecial idx, 3)) (hR : 1 ≤ R.frames ∧ 20 ≤ R.locals) (hcat : (rest.map fun v => v.category).sum ≤ 8) (kz : Z p l e R s m args below meth c nL G A Q (pc + 3) lv rest ws kc ks) : Z p l e R s m args below meth c nL G A Q pc lv (.ref a :: rest) ws kc ks := by
  intro H locs ls hP hD hS hl
  have hts := X.2.2.2.2.1
  refine W.objInit X.1 X.2.1 X.2.2.2.1 (hts _ h1) (hts _ h2) (hts _ h3) rfl (by rw [X.2.2.1]; exact hl.1) rfl hdg hR.1 ?_ (kz H locs ls hP hD hS hl)
  have := lv_room (pc := pc) (ls := ls) (m := m) (rest := rest) hcat
  have e : (F0 m pc ls (.ref a :: rest)).monitorRoom = (F0 m pc ls rest).monitorRoom := rfl
  rw [e]
  have h20 := hR.2
  omega
theorem z_new {C : String} {T : u_T} {N ci : Nat} (X : ZC p s m args meth c cc nL own G A ret nm) (hc : vwCl[ci]? = some (C, T, N)) (hin : ∀ w ∈ u_ws C T N, w ∈ BIG) (ty : Nat → FieldType) (hty : ∀ k, k < N → parseFieldDescriptor (T k).2.2.1 = some (ty k)) (h1 : Cond.classLink own idx C ∈ BIG) (h2 : Cond.instantiable C N ∈ BIG) (h3 : Cond.initialized C ∈ BIG) {fs : List Value} (hfs : ∀ j, j < N → defaultValue (ty j) = vp_V fs j) (hcells : kc + 1 ≤ R.cells) (hslots : ks + N ≤ R.slots) (hdg : decode cc pc = .ok (.new idx, 3))
    (kz : ∀ q : Nat, Z p l e R s m args below meth c nL G A Q (pc + 3) lv (.ref q :: rest) (ws ++ [(q, .inr (ci, fs))]) (kc + 1) (ks + N)) : Z p l e R s m args below meth c nL G A Q pc lv rest ws kc ks := by
  intro H locs ls hP hD hS hl
  have hts := X.2.2.2.2.1
  exact va_new X.1 X.2.1 hts hin ty hty X.2.2.2.1 (hts _ h1) (hts _ h2) (hts _ h3) X.2.2.2.2.2.1.1 hP hD hS X.2.2.2.2.2.2.1 hc hfs hcells hslots hdg (fun q H1 hP hD hS => kz q H1 locs ls hP hD hS hl)
theorem cls_eq {cA : ClassId} {tys : List (ClassId × FieldType)} {ty : FieldType} (hty : ty = .int ∨ ty = .long ∨ ty = .boolean) {cB : ClassId} (h1 : va_RA s cA ty) (h2 : va_RA s cB ty) : cA = cB := by
  rcases hty with rfl | rfl | rfl <;> exact Option.some.inj (Eq.trans (Eq.symm h1) h2)
theorem z_newa {atype : ArrayType} {ty : FieldType} (X : ZC p s m args meth c cc nL own G A ret nm) (harr : Cond.arrayClass (newarray.typeOf atype) ∈ BIG) (hty : newarray.typeOf atype = ty) (hty3 : ty = .int ∨ ty = .long ∨ ty = .boolean) (t0 : Nat) {cB : ClassId} (ht : (TYS G)[t0]? = some (cB, ty)) {n : Int32} {N' : Nat} {a0 : vp_A} (ha : ∀ cA : ClassId, vp_cell cA a0 = arrV cA N' (fun _ => defaultValue ty)) (hn : ¬ n < 0) (hN : n.toNatClampNeg = N') (hbytes : N' * componentBytes ty ≤ 536870912) (hcells : kc + 1 ≤ R.cells) (hslots : ks + N' ≤ R.slots) (hdg : decode cc pc = .ok (.newarray atype, 2))
    (kz : ∀ q : Nat, Z p l e R s m args below meth c nL G A Q (pc + 2) lv (.ref q :: rest) (ws ++ [(q, .inl (cB, a0))]) (kc + 1) (ks + N')) : Z p l e R s m args below meth c nL G A Q pc lv (.int n :: rest) ws kc ks := by
  intro H locs ls hP hD hS hl
  have hts := X.2.2.2.2.1
  refine va_newa X.1 X.2.1 (hts _ harr) hty X.2.2.2.2.2.1.1 hP hD hS X.2.2.2.2.2.2.1 ha hn hN hbytes hcells hslots hdg (fun q cA H1 hK hP hD hS => ?_)
  have e : cA = cB := cls_eq (tys := TYS G) hty3 (hK.2 _ _ (show (TYS G ++ [(cA, ty)])[4]? = some (cA, ty) from rfl)).2 (X.2.2.2.2.2.1.1.2 _ _ ht).2
  subst e
  exact kz q H1 locs ls hP hD hS hl
theorem z_newq {C : String} (X : ZC p s m args meth c cc nL own G A ret nm) (h1 : Cond.classLink own idx C ∈ BIG) (h2 : C = "StoneThatShakes$Kept") (t0 : Nat) {cB : ClassId} (ht : (TYS G)[t0]? = some (cB, .object C)) {n : Int32} {N' : Nat} (hn : ¬ n < 0) (hN : n.toNatClampNeg = N') (hbytes : N' * 4 ≤ 536870912) (hcells : kc + 1 ≤ R.cells) (hslots : ks + N' ≤ R.slots) (hdg : decode cc pc = .ok (.anewarray idx, 3))
    (kz : ∀ q : Nat, Z p l e R s m args below meth c nL G A Q (pc + 3) lv (.ref q :: rest) (ws ++ [(q, .inl (cB, N', .inr (.inr (.inr (.inr (fun _ => none))))))]) (kc + 1) (ks + N')) : Z p l e R s m args below meth c nL G A Q pc lv (.int n :: rest) ws kc ks := by
  intro H locs ls hP hD hS hl
  have hts := X.2.2.2.2.1
  refine va_newq X.1 X.2.1 X.2.2.2.1 (hts _ h1) (h2 ▸ X.2.2.2.2.2.1.2.2) X.2.2.2.2.2.1.1 hP hD hS X.2.2.2.2.2.2.1 hn hN hbytes hcells hslots hdg (fun q cA H1 hK hP hD hS => ?_)
  have e1 := (hK.2 _ _ (show (TYS G ++ [(cA, .object C)])[4]? = some (cA, .object C) from rfl)).2
  have e2 := (X.2.2.2.2.2.1.1.2 _ _ ht).2
  obtain ⟨kA, comp, a1, a2, a3, a4⟩ := e1
  obtain ⟨kB, comp2, b1, b2, b3, b4⟩ := e2
  have e : cA = cB := Option.some.inj (a4.symm.trans b4)
  subst e
  exact kz q H1 locs ls hP hD hS hl
end ZRET
/-! the runner of straight blocks -/
def zl : List (Nat × Value) → Nat → Option Value
  | [], _ => none
  | q :: lv, i => if q.1 = i then some q.2 else zl lv i
theorem zl_mem : ∀ (lv : List (Nat × Value)) (i : Nat) (v : Value), zl lv i = some v → (i, v) ∈ lv
  | [], i, v, h => by cases h
  | q :: lv, i, v, h => by
    unfold zl at h
    by_cases e : q.1 = i
    · rw [if_pos e] at h
      cases h
      subst e
      exact List.mem_cons_self
    · rw [if_neg e] at h
      exact List.mem_cons_of_mem _ (zl_mem lv i v h)
def zs1 (i : Nat) (v : Value) (lv : List (Nat × Value)) : List (Nat × Value) := (i, v) :: lv.filter (fun q => !(q.1 == i) && !(q.1 + 1 == i && q.2.category == 2))
def zs2 (i : Nat) (v : Value) (lv : List (Nat × Value)) : List (Nat × Value) := (i, v) :: lv.filter (fun q => !(q.1 == i) && (!(q.1 == i + 1) && !(q.1 + 1 == i && q.2.category == 2)))
/-- one plain instruction; cv: the constant that it puts -/
def zst (nL : Nat) (i : Instr) (cv : Value) (lv : List (Nat × Value)) (st : List Value) : Option (List (Nat × Value) × List Value) := match i with
  | .iconst _ => some (lv, cv :: st)
  | .bipush _ => some (lv, cv :: st)
  | .sipush _ => some (lv, cv :: st)
  | .lconst _ => some (lv, cv :: st)
  | .iload k => match zl lv k with
    | some (.int x) => some (lv, .int x :: st)
    | _ => none
  | .iload_n k => match zl lv k with
    | some (.int x) => some (lv, .int x :: st)
    | _ => none
  | .lload k => match zl lv k with
    | some (.long x) => some (lv, .long x :: st)
    | _ => none
  | .lload_n k => match zl lv k with
    | some (.long x) => some (lv, .long x :: st)
    | _ => none
  | .aload k => match zl lv k with
    | some (.ref x) => some (lv, .ref x :: st)
    | _ => none
  | .aload_n k => match zl lv k with
    | some (.ref x) => some (lv, .ref x :: st)
    | _ => none
  | .istore k => match st with
    | .int x :: st => if k < nL then some (zs1 k (.int x) lv, st) else none
    | _ => none
  | .istore_n k => match st with
    | .int x :: st => if (k : Nat) < nL then some (zs1 k (.int x) lv, st) else none
    | _ => none
  | .astore k => match st with
    | .ref x :: st => if k < nL then some (zs1 k (.ref x) lv, st) else none
    | _ => none
  | .astore_n k => match st with
    | .ref x :: st => if (k : Nat) < nL then some (zs1 k (.ref x) lv, st) else none
    | _ => none
  | .lstore k => match st with
    | .long x :: st => if k + 1 < nL then some (zs2 k (.long x) lv, st) else none
    | _ => none
  | .lstore_n k => match st with
    | .long x :: st => if (k : Nat) + 1 < nL then some (zs2 k (.long x) lv, st) else none
    | _ => none
  | .iadd => match st with
    | .int y :: .int x :: st => some (lv, .int (x + y) :: st)
    | _ => none
  | .isub => match st with
    | .int y :: .int x :: st => some (lv, .int (x - y) :: st)
    | _ => none
  | .imul => match st with
    | .int y :: .int x :: st => some (lv, .int (x * y) :: st)
    | _ => none
  | .iand => match st with
    | .int y :: .int x :: st => some (lv, .int (x &&& y) :: st)
    | _ => none
  | .ior => match st with
    | .int y :: .int x :: st => some (lv, .int (x ||| y) :: st)
    | _ => none
  | .ixor => match st with
    | .int y :: .int x :: st => some (lv, .int (x ^^^ y) :: st)
    | _ => none
  | .ineg => match st with
    | .int x :: st => some (lv, .int (-x) :: st)
    | _ => none
  | .ishl => match st with
    | .int y :: .int x :: st => some (lv, .int (x <<< (y &&& 31)) :: st)
    | _ => none
  | .ishr => match st with
    | .int y :: .int x :: st => some (lv, .int (x >>> (y &&& 31)) :: st)
    | _ => none
  | .ladd => match st with
    | .long y :: .long x :: st => some (lv, .long (x + y) :: st)
    | _ => none
  | .lsub => match st with
    | .long y :: .long x :: st => some (lv, .long (x - y) :: st)
    | _ => none
  | .lmul => match st with
    | .long y :: .long x :: st => some (lv, .long (x * y) :: st)
    | _ => none
  | .land => match st with
    | .long y :: .long x :: st => some (lv, .long (x &&& y) :: st)
    | _ => none
  | .lor => match st with
    | .long y :: .long x :: st => some (lv, .long (x ||| y) :: st)
    | _ => none
  | .lneg => match st with
    | .long x :: st => some (lv, .long (-x) :: st)
    | _ => none
  | .i2l => match st with
    | .int x :: st => some (lv, .long x.toInt64 :: st)
    | _ => none
  | .l2i => match st with
    | .long x :: st => some (lv, .int x.toInt32 :: st)
    | _ => none
  | .i2b => match st with
    | .int x :: st => some (lv, .int x.toInt8.toInt32 :: st)
    | _ => none
  | .i2s => match st with
    | .int x :: st => some (lv, .int x.toInt16.toInt32 :: st)
    | _ => none
  | .lshl => match st with
    | .int y :: .long x :: st => some (lv, .long (x <<< (y.toInt64 &&& 63)) :: st)
    | _ => none
  | .lcmp => match st with
    | .long y :: .long x :: st => some (lv, .int (lg_cmp x y) :: st)
    | _ => none
  | .iinc k _ => match cv, zl lv k with
    | .int d, some (.int x) => if k < nL then some (zs1 k (.int (x + d)) lv, st) else none
    | _, _ => none
  | .dup => match st with
    | .int x :: st => some (lv, .int x :: .int x :: st)
    | .ref x :: st => some (lv, .ref x :: .ref x :: st)
    | _ => none
  | .dup2 => match st with
    | .int x :: .ref y :: st => some (lv, .int x :: .ref y :: .int x :: .ref y :: st)
    | .int x :: .int y :: st => some (lv, .int x :: .int y :: .int x :: .int y :: st)
    | .long x :: st => some (lv, .long x :: .long x :: st)
    | _ => none
  | .pop => match st with
    | .int _ :: st => some (lv, st)
    | .ref _ :: st => some (lv, st)
    | _ => none
  | _ => none
/-- the constant that an instruction puts -/
def zcv : Instr → Value → Bool
  | .iconst n, .int v => decide (Int32.ofInt n = v)
  | .bipush n, .int v => decide ((Int8.ofInt n).toInt32 = v)
  | .sipush n, .int v => decide ((Int16.ofInt n).toInt32 = v)
  | .lconst n, .long v => decide (Int64.ofNat (n : Nat) = v)
  | .iinc _ n, .int v => decide (Int32.ofInt n = v)
  | .iinc _ _, _ => false
  | .iconst _, _ => false
  | .bipush _, _ => false
  | .sipush _, _ => false
  | .lconst _, _ => false
  | _, _ => true
def zlen : Instr → Nat
  | .iload _ => 2
  | .lload _ => 2
  | .aload _ => 2
  | .istore _ => 2
  | .astore _ => 2
  | .lstore _ => 2
  | .bipush _ => 2
  | .sipush _ => 3
  | .iinc _ _ => 3
  | _ => 1
abbrev ZB : Type := List (Instr × Value)
def zchk (cc : ByteArray) : ZB → Nat → Bool
  | [], _ => true
  | x :: b, pc => decide (decode cc pc = .ok (x.1, zlen x.1)) && (zcv x.1 x.2 && zchk cc b (pc + zlen x.1))
def zpc : ZB → Nat → Nat
  | [], pc => pc
  | x :: b, pc => zpc b (pc + zlen x.1)
def zrun (nL : Nat) : ZB → List (Nat × Value) → List Value → Option (List (Nat × Value) × List Value)
  | [], lv, st => some (lv, st)
  | x :: b, lv, st => match zst nL x.1 x.2 lv st with
    | some q => zrun nL b q.1 q.2
    | none => none
section ZRUN
variable {p : Program} {l : Launch} {e : Env} {R : Room} {s : State} {m : MethodId} {args : Array Value} {below : List Frame} {meth : Method} {c : Code} {nL : Nat} {G : KG} {A : Nat → Prop} {Q : State → Prop} {cc : ByteArray} {own : String} {ret : Option FieldType} {nm : String}
variable {ws : va_W} {kc ks : Nat}
set_option maxHeartbeats 4000000 in
theorem zst_ok {pc : Nat} (X : ZC p s m args meth c cc nL own G A ret nm) {i : Instr} {cv : Value} {lv lv' : List (Nat × Value)} {st st' : List Value} (hdg : decode cc pc = .ok (i, zlen i)) (hcv : zcv i cv = true) (h : zst nL i cv lv st = some (lv', st')) (kz : Z p l e R s m args below meth c nL G A Q (pc + zlen i) lv' st' ws kc ks) : Z p l e R s m args below meth c nL G A Q pc lv st ws kc ks := by
  cases i with
  | iconst n =>
    cases cv with
    | int v =>
      cases h
      exact z_iconst X hdg (of_decide_eq_true hcv) kz
    | _ => cases hcv
  | bipush n =>
    cases cv with
    | int v =>
      cases h
      exact z_bipush X hdg (of_decide_eq_true hcv) kz
    | _ => cases hcv
  | sipush n =>
    cases cv with
    | int v =>
      cases h
      exact z_sipush X hdg (of_decide_eq_true hcv) kz
    | _ => cases hcv
  | lconst n =>
    cases cv with
    | long v =>
      cases h
      exact z_lconst X hdg (of_decide_eq_true hcv) kz
    | _ => cases hcv
  | iload k =>
    dsimp only [zst] at h
    cases hz : zl lv k with
    | none =>
      rw [hz] at h
      cases h
    | some v =>
      rw [hz] at h
      cases v with
      | int x =>
        cases h
        obtain ⟨q, hq⟩ := List.getElem?_of_mem (zl_mem _ _ _ hz)
        exact z_iload X hdg q hq kz
      | _ => cases h
  | iload_n k =>
    dsimp only [zst] at h
    cases hz : zl lv (k : Nat) with
    | none =>
      rw [hz] at h
      cases h
    | some v =>
      rw [hz] at h
      cases v with
      | int x =>
        cases h
        obtain ⟨q, hq⟩ := List.getElem?_of_mem (zl_mem _ _ _ hz)
        exact z_iload_n X hdg rfl q hq kz
      | _ => cases h
  | lload k =>
    dsimp only [zst] at h
    cases hz : zl lv k with
    | none =>
      rw [hz] at h
      cases h
    | some v =>
      rw [hz] at h
      cases v with
      | long x =>
        cases h
        obtain ⟨q, hq⟩ := List.getElem?_of_mem (zl_mem _ _ _ hz)
        exact z_lload X hdg q hq kz
      | _ => cases h
  | lload_n k =>
    dsimp only [zst] at h
    cases hz : zl lv (k : Nat) with
    | none =>
      rw [hz] at h
      cases h
    | some v =>
      rw [hz] at h
      cases v with
      | long x =>
        cases h
        obtain ⟨q, hq⟩ := List.getElem?_of_mem (zl_mem _ _ _ hz)
        exact z_lload_n X hdg rfl q hq kz
      | _ => cases h
  | aload k =>
    dsimp only [zst] at h
    cases hz : zl lv k with
    | none =>
      rw [hz] at h
      cases h
    | some v =>
      rw [hz] at h
      cases v with
      | ref x =>
        cases h
        obtain ⟨q, hq⟩ := List.getElem?_of_mem (zl_mem _ _ _ hz)
        exact z_aload X hdg q hq kz
      | _ => cases h
  | aload_n k =>
    dsimp only [zst] at h
    cases hz : zl lv (k : Nat) with
    | none =>
      rw [hz] at h
      cases h
    | some v =>
      rw [hz] at h
      cases v with
      | ref x =>
        cases h
        obtain ⟨q, hq⟩ := List.getElem?_of_mem (zl_mem _ _ _ hz)
        exact z_aload_n X hdg rfl q hq kz
      | _ => cases h
  | istore k =>
    dsimp only [zst] at h
    cases st with
    | nil => cases h
    | cons a st =>
      cases a with
      | int x =>
        by_cases hk : k < nL
        · simp only [if_pos hk] at h
          cases h
          exact z_istore X hdg hk rfl kz
        · simp only [if_neg hk] at h
          cases h
      | _ => cases h
  | istore_n k =>
    dsimp only [zst] at h
    cases st with
    | nil => cases h
    | cons a st =>
      cases a with
      | int x =>
        by_cases hk : (k : Nat) < nL
        · simp only [if_pos hk] at h
          cases h
          exact z_istore_n X hdg rfl hk rfl kz
        · simp only [if_neg hk] at h
          cases h
      | _ => cases h
  | astore k =>
    dsimp only [zst] at h
    cases st with
    | nil => cases h
    | cons a st =>
      cases a with
      | ref x =>
        by_cases hk : k < nL
        · simp only [if_pos hk] at h
          cases h
          exact z_astore X hdg hk rfl kz
        · simp only [if_neg hk] at h
          cases h
      | _ => cases h
  | astore_n k =>
    dsimp only [zst] at h
    cases st with
    | nil => cases h
    | cons a st =>
      cases a with
      | ref x =>
        by_cases hk : (k : Nat) < nL
        · simp only [if_pos hk] at h
          cases h
          exact z_astore_n X hdg rfl hk rfl kz
        · simp only [if_neg hk] at h
          cases h
      | _ => cases h
  | lstore k =>
    dsimp only [zst] at h
    cases st with
    | nil => cases h
    | cons a st =>
      cases a with
      | long x =>
        by_cases hk : k + 1 < nL
        · simp only [if_pos hk] at h
          cases h
          exact z_lstore X hdg hk rfl kz
        · simp only [if_neg hk] at h
          cases h
      | _ => cases h
  | lstore_n k =>
    dsimp only [zst] at h
    cases st with
    | nil => cases h
    | cons a st =>
      cases a with
      | long x =>
        by_cases hk : (k : Nat) + 1 < nL
        · simp only [if_pos hk] at h
          cases h
          exact z_lstore_n X hdg rfl hk rfl kz
        · simp only [if_neg hk] at h
          cases h
      | _ => cases h
  | iadd =>
    dsimp only [zst] at h
    cases st with
    | nil => cases h
    | cons a st =>
      cases a with
      | int y =>
        cases st with
        | nil => cases h
        | cons a st =>
          cases a with
          | int x =>
            cases h
            exact z_iadd X hdg kz
          | _ => cases h
      | _ => cases h
  | isub =>
    dsimp only [zst] at h
    cases st with
    | nil => cases h
    | cons a st =>
      cases a with
      | int y =>
        cases st with
        | nil => cases h
        | cons a st =>
          cases a with
          | int x =>
            cases h
            exact z_isub X hdg kz
          | _ => cases h
      | _ => cases h
  | imul =>
    dsimp only [zst] at h
    cases st with
    | nil => cases h
    | cons a st =>
      cases a with
      | int y =>
        cases st with
        | nil => cases h
        | cons a st =>
          cases a with
          | int x =>
            cases h
            exact z_imul X hdg kz
          | _ => cases h
      | _ => cases h
  | iand =>
    dsimp only [zst] at h
    cases st with
    | nil => cases h
    | cons a st =>
      cases a with
      | int y =>
        cases st with
        | nil => cases h
        | cons a st =>
          cases a with
          | int x =>
            cases h
            exact z_iand X hdg kz
          | _ => cases h
      | _ => cases h
  | ior =>
    dsimp only [zst] at h
    cases st with
    | nil => cases h
    | cons a st =>
      cases a with
      | int y =>
        cases st with
        | nil => cases h
        | cons a st =>
          cases a with
          | int x =>
            cases h
            exact z_ior X hdg kz
          | _ => cases h
      | _ => cases h
  | ixor =>
    dsimp only [zst] at h
    cases st with
    | nil => cases h
    | cons a st =>
      cases a with
      | int y =>
        cases st with
        | nil => cases h
        | cons a st =>
          cases a with
          | int x =>
            cases h
            exact z_ixor X hdg kz
          | _ => cases h
      | _ => cases h
  | ishl =>
    dsimp only [zst] at h
    cases st with
    | nil => cases h
    | cons a st =>
      cases a with
      | int y =>
        cases st with
        | nil => cases h
        | cons a st =>
          cases a with
          | int x =>
            cases h
            exact z_ishl X hdg kz
          | _ => cases h
      | _ => cases h
  | ishr =>
    dsimp only [zst] at h
    cases st with
    | nil => cases h
    | cons a st =>
      cases a with
      | int y =>
        cases st with
        | nil => cases h
        | cons a st =>
          cases a with
          | int x =>
            cases h
            exact z_ishr X hdg kz
          | _ => cases h
      | _ => cases h
  | ladd =>
    dsimp only [zst] at h
    cases st with
    | nil => cases h
    | cons a st =>
      cases a with
      | long y =>
        cases st with
        | nil => cases h
        | cons a st =>
          cases a with
          | long x =>
            cases h
            exact z_ladd X hdg kz
          | _ => cases h
      | _ => cases h
  | lsub =>
    dsimp only [zst] at h
    cases st with
    | nil => cases h
    | cons a st =>
      cases a with
      | long y =>
        cases st with
        | nil => cases h
        | cons a st =>
          cases a with
          | long x =>
            cases h
            exact z_lsub X hdg kz
          | _ => cases h
      | _ => cases h
  | lmul =>
    dsimp only [zst] at h
    cases st with
    | nil => cases h
    | cons a st =>
      cases a with
      | long y =>
        cases st with
        | nil => cases h
        | cons a st =>
          cases a with
          | long x =>
            cases h
            exact z_lmul X hdg kz
          | _ => cases h
      | _ => cases h
  | land =>
    dsimp only [zst] at h
    cases st with
    | nil => cases h
    | cons a st =>
      cases a with
      | long y =>
        cases st with
        | nil => cases h
        | cons a st =>
          cases a with
          | long x =>
            cases h
            exact z_land X hdg kz
          | _ => cases h
      | _ => cases h
  | lor =>
    dsimp only [zst] at h
    cases st with
    | nil => cases h
    | cons a st =>
      cases a with
      | long y =>
        cases st with
        | nil => cases h
        | cons a st =>
          cases a with
          | long x =>
            cases h
            exact z_lor X hdg kz
          | _ => cases h
      | _ => cases h
  | lcmp =>
    dsimp only [zst] at h
    cases st with
    | nil => cases h
    | cons a st =>
      cases a with
      | long y =>
        cases st with
        | nil => cases h
        | cons a st =>
          cases a with
          | long x =>
            cases h
            exact z_lcmp X hdg kz
          | _ => cases h
      | _ => cases h
  | ineg =>
    dsimp only [zst] at h
    cases st with
    | nil => cases h
    | cons a st =>
      cases a with
      | int x =>
        cases h
        exact z_ineg X hdg kz
      | _ => cases h
  | lneg =>
    dsimp only [zst] at h
    cases st with
    | nil => cases h
    | cons a st =>
      cases a with
      | long x =>
        cases h
        exact z_lneg X hdg kz
      | _ => cases h
  | i2l =>
    dsimp only [zst] at h
    cases st with
    | nil => cases h
    | cons a st =>
      cases a with
      | int x =>
        cases h
        exact z_i2l X hdg rfl kz
      | _ => cases h
  | l2i =>
    dsimp only [zst] at h
    cases st with
    | nil => cases h
    | cons a st =>
      cases a with
      | long x =>
        cases h
        exact z_l2i X hdg rfl kz
      | _ => cases h
  | i2b =>
    dsimp only [zst] at h
    cases st with
    | nil => cases h
    | cons a st =>
      cases a with
      | int x =>
        cases h
        exact z_i2b X hdg rfl kz
      | _ => cases h
  | i2s =>
    dsimp only [zst] at h
    cases st with
    | nil => cases h
    | cons a st =>
      cases a with
      | int x =>
        cases h
        exact z_i2s X hdg rfl kz
      | _ => cases h
  | lshl =>
    dsimp only [zst] at h
    cases st with
    | nil => cases h
    | cons a st =>
      cases a with
      | int y =>
        cases st with
        | nil => cases h
        | cons a st =>
          cases a with
          | long x =>
            cases h
            exact z_lshl X hdg rfl kz
          | _ => cases h
      | _ => cases h
  | iinc k n =>
    dsimp only [zst] at h
    cases cv with
    | int d =>
      cases hz : zl lv k with
      | none =>
        rw [hz] at h
        cases h
      | some v =>
        rw [hz] at h
        cases v with
        | int x =>
          by_cases hk : k < nL
          · simp only [if_pos hk] at h
            cases h
            obtain ⟨q, hq⟩ := List.getElem?_of_mem (zl_mem _ _ _ hz)
            have hd : Int32.ofInt n = d := of_decide_eq_true hcv
            exact z_iinc X hdg hq (by rw [hd]) hk rfl kz
          · simp only [if_neg hk] at h
            cases h
        | _ => cases h
    | _ => cases hcv
  | dup =>
    dsimp only [zst] at h
    cases st with
    | nil => cases h
    | cons a st =>
      cases a with
      | int x =>
        cases h
        exact z_dup X hdg rfl kz
      | ref x =>
        cases h
        exact z_dup X hdg rfl kz
      | _ => cases h
  | dup2 =>
    dsimp only [zst] at h
    cases st with
    | nil => cases h
    | cons a st =>
      cases a with
      | int x =>
        cases st with
        | nil => cases h
        | cons b st =>
          cases b with
          | int y =>
            cases h
            exact z_dup2_11 X hdg rfl rfl kz
          | ref y =>
            cases h
            exact z_dup2_11 X hdg rfl rfl kz
          | _ => cases h
      | long x =>
        cases h
        exact z_dup2_2 X hdg rfl kz
      | _ => cases h
  | pop =>
    dsimp only [zst] at h
    cases st with
    | nil => cases h
    | cons a st =>
      cases a with
      | int x =>
        cases h
        exact z_pop X hdg rfl kz
      | ref x =>
        cases h
        exact z_pop X hdg rfl kz
      | _ => cases h
  | _ => exact absurd h (by simp [zst])
theorem zrun_ok (X : ZC p s m args meth c cc nL own G A ret nm) : ∀ (b : ZB) {pc : Nat} {lv lv' : List (Nat × Value)} {st st' : List Value}, zchk cc b pc = true → zrun nL b lv st = some (lv', st') → Z p l e R s m args below meth c nL G A Q (zpc b pc) lv' st' ws kc ks → Z p l e R s m args below meth c nL G A Q pc lv st ws kc ks
  | [], pc, lv, lv', st, st', _, h, kz => by
    cases h
    exact kz
  | x :: b, pc, lv, lv', st, st', hc, h, kz => by
    unfold zchk at hc
    unfold zrun at h
    simp only [Bool.and_eq_true, decide_eq_true_eq] at hc
    cases hz : zst nL x.1 x.2 lv st with
    | none =>
      rw [hz] at h
      cases h
    | some q =>
      rw [hz] at h
      exact zst_ok X hc.1 hc.2.1 hz (zrun_ok X b hc.2.2 h kz)
/-- a straight block b from pc to pc2 -/
theorem z_run (X : ZC p s m args meth c cc nL own G A ret nm) (b : ZB) {pc pc2 : Nat} {lv lv' : List (Nat × Value)} {st st' : List Value} (hc : zchk cc b pc = true ∧ zpc b pc = pc2) (h : zrun nL b lv st = some (lv', st')) (kz : Z p l e R s m args below meth c nL G A Q pc2 lv' st' ws kc ks) : Z p l e R s m args below meth c nL G A Q pc lv st ws kc ks := zrun_ok X b hc.1 h (by rw [hc.2]; exact kz)
end ZRUN
