section
/-! the checks are sound -/
theorem ofI32 {n : Int} (h1 : -2147483648 ≤ n) (h2 : n < 2147483648) : (Int32.ofInt n).toInt = n := by rw [Int32.toInt_ofInt]; exact b32 h1 h2
theorem and2 {a b : Bool} (h : (a && b) = true) : a = true ∧ b = true := by rw [Bool.and_eq_true] at h; exact h
/-- a field that may be written -/
def PA (own : String) (idx ci k kd : Nat) : Prop := (FL own idx ci k ∨ FN own idx ci k) ∧ ∃ (C : String) (Tt : u_T) (N : Nat) (ty : FieldType), vwCl[ci]? = some (C, Tt, N) ∧ (Tt k).2.2.2 = false ∧ parseFieldDescriptor (Tt k).2.2.1 = some ty ∧ ((kd = 0 ∧ ty = .int) ∨ (kd = 1 ∧ ty = .long) ∨ (kd = 2 ∧ ty = .boolean))
theorem fit_z {x : Int32} (h1 : 0 ≤ x.toInt) (h2 : x.toInt ≤ 1) : fits .boolean (.int x) = true := by
  rcases (by omega : x.toInt = 0 ∨ x.toInt = 1) with e | e
  · have : x = 0 := Int32.toInt_inj.mp (by rw [e]; rfl)
    rw [this]; rfl
  · have : x = 1 := Int32.toInt_inj.mp (by rw [e]; rfl)
    rw [this]; rfl
section AZ8
variable {p : Program} {l : Launch} {e : Env} {R : Room} {s : State} {m : MethodId} {args : Array Value} {below : List Frame} {meth : Method} {c : Code} {nL : Nat} {G : KG} {A : Nat → Prop} {Q : State → Prop} {cc : ByteArray} {own : String} {ret : Option FieldType} {nm : String} {kc ks : Nat}
variable {ad : Nat → Nat} {T : List TE} {mk : List (Nat × Nat)} {w0 : va_W} {pin : List (Nat × Value)}
variable {lv : ALv} {st : List Nat} {ev : AEv} {ca : ACa} {rl : ARl} {nx pc : Nat} {K : KT}
abbrev AQ (p : Program) (l : Launch) (e : Env) (R : Room) (s : State) (m : MethodId) (args : Array Value) (below : List Frame) (meth : Method) (c : Code) (nL : Nat) (G : KG) (A : Nat → Prop) (Q : State → Prop) (kc ks : Nat) (ad : Nat → Nat) (T : List TE) (mk : List (Nat × Nat)) (w0 : va_W) (pin : List (Nat × Value)) (σ : AS) (pc : Nat) : Prop := AZ (ZF p l e R s m args below meth c nL G A Q kc ks) G ad T mk w0 pin σ pc
theorem sCon_ok {len : Nat} {n : Int} {v : Int32} (hK : ∀ pc σ, K pc σ = true → AQ p l e R s m args below meth c nL G A Q kc ks ad T mk w0 pin σ pc) (hf : afr (lv, st, ev, ca, rl, nx) = true) (hv : v.toInt = n) (row : ∀ (lw : List (Nat × Value)) (rest : List Value) (ws : va_W), ZF p l e R s m args below meth c nL G A Q kc ks (pc + len) lw (.int v :: rest) ws → ZF p l e R s m args below meth c nL G A Q kc ks pc lw rest ws) (h : sCon K pc len n lv st ev ca rl nx = true) : AQ p l e R s m args below meth c nL G A Q kc ks ad T mk w0 pin (lv, st, ev, ca, rl, nx) pc :=
  az_con row hf (vty_i (by omega) (by omega)) (hK _ _ h)
theorem sLoad_ok {len k kx : Nat} (hk : kx ≤ 2) (hK : ∀ pc σ, K pc σ = true → AQ p l e R s m args below meth c nL G A Q kc ks ad T mk w0 pin σ pc) (row : ∀ (v : Value) (lw : List (Nat × Value)) (rest : List Value) (ws : va_W) (q : Nat), lw[q]? = some (k, v) → tagv kx v → ZF p l e R s m args below meth c nL G A Q kc ks (pc + len) lw (v :: rest) ws → ZF p l e R s m args below meth c nL G A Q kc ks pc lw rest ws) (h : sLoad K pc len k kx lv st ev ca rl nx = true) : AQ p l e R s m args below meth c nL G A Q kc ks ad T mk w0 pin (lv, st, ev, ca, rl, nx) pc := by
  unfold sLoad at h
  cases hx : alv lv k with
  | none => rw [hx] at h; cases h
  | some x =>
    rw [hx] at h
    obtain ⟨h1, h2⟩ := and2 h
    exact az_load hk row hx (pId_ok h1) (hK _ _ h2)
theorem sStore_ok {len k kx : Nat} (hk : kx ≤ 2) (hK : ∀ pc σ, K pc σ = true → AQ p l e R s m args below meth c nL G A Q kc ks ad T mk w0 pin σ pc) (row : (bif Nat.beq kx 1 then k + 1 else k) < nL → ∀ (v : Value) (lw : List (Nat × Value)) (rest : List Value) (ws : va_W), tagv kx v → ZF p l e R s m args below meth c nL G A Q kc ks (pc + len) (bif Nat.beq kx 1 then zs2 k v lw else zs1 k v lw) rest ws → ZF p l e R s m args below meth c nL G A Q kc ks pc lw (v :: rest) ws) (h : sStore nL K pc len k kx lv st ev ca rl nx = true) : AQ p l e R s m args below meth c nL G A Q kc ks ad T mk w0 pin (lv, st, ev, ca, rl, nx) pc := by
  match st, h with
  | x :: st, h =>
    obtain ⟨h1, h2⟩ := and2 h
    obtain ⟨h2, h3⟩ := and2 h2
    exact az_store hk rfl (row (blt_lt h2)) (pId_ok h1) (hK _ _ h3)
  | [], h => cases h
theorem sBin_ok (X : ZC p s m args meth c cc nL own G A ret nm) {i : Instr} (hdg : decode cc pc = .ok (i, 1)) (hK : ∀ pc σ, K pc σ = true → AQ p l e R s m args below meth c nL G A Q kc ks ad T mk w0 pin σ pc) (hf : afr (lv, st, ev, ca, rl, nx) = true) (h : sBin K pc i lv st ev ca rl nx = true) : AQ p l e R s m args below meth c nL G A Q kc ks ad T mk w0 pin (lv, st, ev, ca, rl, nx) pc := by
  match st, h, hf with
  | y :: x :: st, h, hf =>
    unfold sBin at h
    cases ht : abinT i ev rl x y nx with
    | none => simp only [ht] at h; cases h
    | some t =>
      simp only [ht] at h
      obtain ⟨kx, ky, t, nr⟩ := t
      obtain ⟨h1, h2⟩ := and2 h
      obtain ⟨h2, h3⟩ := and2 h2
      exact s_bin X hdg ht (pId_ok h1) (pId_ok h2) hf (hK _ _ h3)
  | [], h, hf => cases h
  | [x], h, hf => cases h
theorem sUn_ok (X : ZC p s m args meth c cc nL own G A ret nm) {i : Instr} (hdg : decode cc pc = .ok (i, 1)) (hK : ∀ pc σ, K pc σ = true → AQ p l e R s m args below meth c nL G A Q kc ks ad T mk w0 pin σ pc) (hf : afr (lv, st, ev, ca, rl, nx) = true) (h : sUn K pc i lv st ev ca rl nx = true) : AQ p l e R s m args below meth c nL G A Q kc ks ad T mk w0 pin (lv, st, ev, ca, rl, nx) pc := by
  match st, h, hf with
  | x :: st, h, hf =>
    unfold sUn at h
    cases ht : aunT i ev rl x nx with
    | none => simp only [ht] at h; cases h
    | some t =>
      simp only [ht] at h
      obtain ⟨kx, t, nr⟩ := t
      obtain ⟨h1, h2⟩ := and2 h
      exact s_un X hdg ht (pId_ok h1) hf (hK _ _ h2)
  | [], h, hf => cases h
theorem ziinc (X : ZC p s m args meth c cc nL own G A ret nm) {lw : List (Nat × Value)} {rest : List Value} {ws : va_W} {i q : Nat} {n : Int} {x : Int32} (hdg : decode cc pc = .ok (.iinc i n, 3)) (hq : lw[q]? = some (i, .int x)) (hn : i < nL) (kk : Z p l e R s m args below meth c nL G A Q (pc + 3) (zs1 i (.int (x + Int32.ofInt n)) lw) rest ws kc ks) : Z p l e R s m args below meth c nL G A Q pc lw rest ws kc ks := z_iinc X hdg hq rfl hn rfl kk
theorem sInc_ok (X : ZC p s m args meth c cc nL own G A ret nm) {k : Nat} {n : Int} (hdg : decode cc pc = .ok (.iinc k n, 3)) (hK : ∀ pc σ, K pc σ = true → AQ p l e R s m args below meth c nL G A Q kc ks ad T mk w0 pin σ pc) (hf : afr (lv, st, ev, ca, rl, nx) = true) (h : sInc nL K pc k n lv st ev ca rl nx = true) : AQ p l e R s m args below meth c nL G A Q kc ks ad T mk w0 pin (lv, st, ev, ca, rl, nx) pc := by
  unfold sInc at h
  cases hx : alv lv k with
  | none => rw [hx] at h; cases h
  | some x =>
    rw [hx] at h
    obtain ⟨h1, h⟩ := and2 h
    obtain ⟨h2, h⟩ := and2 h
    obtain ⟨h3, h⟩ := and2 h
    obtain ⟨h4, h⟩ := and2 h
    have h2 := of_decide_eq_true h2
    have h3 := of_decide_eq_true h3
    intro ν lw sw ws hg
    obtain ⟨g1, g2, g3⟩ := hg
    obtain ⟨b, hm⟩ := alv_mem lv k x hx
    obtain ⟨a, ha⟩ := g3.int (pId_ok h1)
    have hxn : x < nx := (afr_ok hf).2.1 _ hm
    have hm2 : (k, Value.int a) ∈ lw := by
      rw [g1, ← ha]
      exact List.mem_map.mpr ⟨_, hm, rfl⟩
    obtain ⟨q, hq⟩ := List.getElem?_of_mem hm2
    refine ziinc X hdg hq (blt_lt h4) (hK _ _ h (nup ν nx (.int (a + Int32.ofInt n))) _ sw ws ?_)
    have l1 := g3.lo2 x
    have l2 := g3.hi2 x
    rw [ha] at l1 l2
    have l1 : xlo ev rl x ≤ a.toInt := l1
    have l2 : a.toInt ≤ xhi ev rl x := l2
    have en : (Int32.ofInt n).toInt = n := ofI32 (by omega) (by omega)
    have key : fits32 (xlo ev rl x + n) (xhi ev rl x + n) = true → (a + Int32.ofInt n).toInt = a.toInt + n := by
      intro q
      unfold fits32 at q
      rw [Bool.and_eq_true, decide_eq_true_eq, decide_eq_true_eq] at q
      unfold iMin iMax at q
      exact tI_add rfl en (by omega)
    have gn : AK G ad T mk w0 pin (lv, st, (nx, fitI (xlo ev rl x + n) (xhi ev rl x + n)) :: ev, ca, mnz (fits32 (xlo ev rl x + n) (xhi ev rl x + n)) [(nx, x, n), (x, nx, -n)] ++ rl, nx + 1) (nup ν nx (.int (a + Int32.ofInt n))) ws := by
      refine g3.new hf (fitI_ok (fun q => by rw [key q]; omega)) (mnz_ok (fun q => ?_))
      have vn : vI (nup ν nx (.int (a + Int32.ofInt n)) nx) = a.toInt + n := by rw [nup_eq]; exact key q
      have vx : vI (nup ν nx (.int (a + Int32.ofInt n)) x) = a.toInt := by rw [nup_ne hxn, ha]; rfl
      exact rel2 (by rw [vn, vx]; omega) (by rw [vn, vx]; omega)
    have hc : ∀ q ∈ lv, (nup ν nx (.int (a + Int32.ofInt n)) q.2.1).category = bif q.2.2 then 2 else 1 := gn.1
    refine ⟨?_, ?_, aset_cat hc (by rw [nup_eq]; rfl), gn.2⟩
    · have e1 := aset1 (ν := nup ν nx (.int (a + Int32.ofInt n))) lv hc k nx
      rw [nup_eq, lvs_cong (ν' := nup ν nx (.int (a + Int32.ofInt n))) hf (fun i hi => nup_ne hi)] at e1
      show zs1 k (.int (a + Int32.ofInt n)) lw = _
      rw [g1]
      exact e1.symm
    · show sw = st.map (nup ν nx (.int (a + Int32.ofInt n)))
      rw [sts_cong hf (fun i hi => nup_ne hi)]; exact g2
theorem p02_ok {i : Nat} (h : p02 ev i = true) : (aty ev i).1 = 0 ∨ (aty ev i).1 = 2 := by
  unfold p02 at h
  rw [Bool.or_eq_true] at h
  exact h.imp pId_ok pId_ok
theorem sPop_ok (X : ZC p s m args meth c cc nL own G A ret nm) (hdg : decode cc pc = .ok (.pop, 1)) (hK : ∀ pc σ, K pc σ = true → AQ p l e R s m args below meth c nL G A Q kc ks ad T mk w0 pin σ pc) (h : sPop K pc lv st ev ca rl nx = true) : AQ p l e R s m args below meth c nL G A Q kc ks ad T mk w0 pin (lv, st, ev, ca, rl, nx) pc := by
  match st, h with
  | x :: st, h =>
    obtain ⟨h1, h2⟩ := and2 h
    exact az_pop (p02_ok h1) (fun v lw rest ws hc kz => z_pop X hdg hc kz) (hK _ _ h2)
  | [], h => cases h
theorem sDup_ok (X : ZC p s m args meth c cc nL own G A ret nm) (hdg : decode cc pc = .ok (.dup, 1)) (hK : ∀ pc σ, K pc σ = true → AQ p l e R s m args below meth c nL G A Q kc ks ad T mk w0 pin σ pc) (h : sDup K pc lv st ev ca rl nx = true) : AQ p l e R s m args below meth c nL G A Q kc ks ad T mk w0 pin (lv, st, ev, ca, rl, nx) pc := by
  match st, h with
  | x :: st, h =>
    obtain ⟨h1, h2⟩ := and2 h
    exact az_dup (p02_ok h1) (fun v lw rest ws hc kz => z_dup X hdg hc kz) (hK _ _ h2)
  | [], h => cases h
theorem sDup2_ok (X : ZC p s m args meth c cc nL own G A ret nm) (hdg : decode cc pc = .ok (.dup2, 1)) (hK : ∀ pc σ, K pc σ = true → AQ p l e R s m args below meth c nL G A Q kc ks ad T mk w0 pin σ pc) (h : sDup2 K pc lv st ev ca rl nx = true) : AQ p l e R s m args below meth c nL G A Q kc ks ad T mk w0 pin (lv, st, ev, ca, rl, nx) pc := by
  match st, h with
  | x :: y :: st, h =>
    obtain ⟨h1, h2⟩ := and2 h
    obtain ⟨h2, h3⟩ := and2 h2
    exact az_dup2 (p02_ok h1) (p02_ok h2) (fun va vb lw rest ws hc hd kz => z_dup2_11 X hdg hc hd kz) (hK _ _ h3)
  | [], h => cases h
  | [x], h => cases h
theorem sLdc_ok {cst : List (Nat × Int)} {len idx : Nat} (hC : ∀ q ∈ cst, ∃ x : Int32, x.toInt = q.2 ∧ Jvm.Cond.constant own q.1 x ∈ BIG) (hK : ∀ pc σ, K pc σ = true → AQ p l e R s m args below meth c nL G A Q kc ks ad T mk w0 pin σ pc) (hf : afr (lv, st, ev, ca, rl, nx) = true) (row : ∀ (v : Int32), Jvm.Cond.constant own idx v ∈ BIG → ∀ (lw : List (Nat × Value)) (rest : List Value) (ws : va_W), ZF p l e R s m args below meth c nL G A Q kc ks (pc + len) lw (.int v :: rest) ws → ZF p l e R s m args below meth c nL G A Q kc ks pc lw rest ws) (h : sLdc cst K pc len idx lv st ev ca rl nx = true) : AQ p l e R s m args below meth c nL G A Q kc ks ad T mk w0 pin (lv, st, ev, ca, rl, nx) pc := by
  unfold sLdc at h
  cases hx : fndC cst idx with
  | none => rw [hx] at h; cases h
  | some n =>
    rw [hx] at h
    obtain ⟨x, x1, x2⟩ := hC _ (fndC_mem cst idx n hx)
    exact az_con (row x x2) hf (vty_i (by simpa using Int.le_of_eq x1.symm) (by simpa using Int.le_of_eq x1)) (hK _ _ h)
theorem sLdcL_ok (X : ZC p s m args meth c cc nL own G A ret nm) {cstl : List (Nat × Int)} {idx : Nat} (hdg : decode cc pc = .ok (.ldc2_w idx, 3)) (hC : ∀ q ∈ cstl, ∃ x : Int64, x.toInt = q.2 ∧ Jvm.Cond.constantLong own q.1 x ∈ BIG) (hK : ∀ pc σ, K pc σ = true → AQ p l e R s m args below meth c nL G A Q kc ks ad T mk w0 pin σ pc) (hf : afr (lv, st, ev, ca, rl, nx) = true) (h : sLdcL cstl K pc idx lv st ev ca rl nx = true) : AQ p l e R s m args below meth c nL G A Q kc ks ad T mk w0 pin (lv, st, ev, ca, rl, nx) pc := by
  unfold sLdcL at h
  cases hx : fndC cstl idx with
  | none => rw [hx] at h; cases h
  | some n =>
    rw [hx] at h
    obtain ⟨x, x1, x2⟩ := hC _ (fndC_mem cstl idx n hx)
    exact az_con (fun lw rest ws kz => z_ldc2 X hdg x2 kz) hf (vty_l (by simpa using Int.le_of_eq x1.symm) (by simpa using Int.le_of_eq x1)) (hK _ _ h)
theorem sGet_ok (X : ZC p s m args meth c cc nL own G A ret nm) {fld : List (Nat × Nat × Nat)} {idx : Nat} (hdg : decode cc pc = .ok (.getfield idx, 3)) (hF : ∀ q ∈ fld, FL own q.1 q.2.1 q.2.2 ∨ FN own q.1 q.2.1 q.2.2) (hK : ∀ pc σ, K pc σ = true → AQ p l e R s m args below meth c nL G A Q kc ks ad T mk w0 pin σ pc) (hf : afr (lv, st, ev, ca, rl, nx) = true) (h : sGet T fld K pc idx lv st ev ca rl nx = true) : AQ p l e R s m args below meth c nL G A Q kc ks ad T mk w0 pin (lv, st, ev, ca, rl, nx) pc := by
  unfold sGet at h
  cases hx : fnd3 fld idx with
  | none => rw [hx] at h; cases h
  | some q =>
    rw [hx] at h
    match st, h, hf with
    | [], h, _ => cases h
    | r :: st, h, hf =>
      obtain ⟨h1, h⟩ := and2 h
      cases hT : T[(aty ev r).2.1.toNat]? with
      | none => rw [hT] at h; cases h
      | some te =>
        rw [hT] at h
        cases te with
        | inr o => cases h
        | inl o =>
          obtain ⟨ci, ts⟩ := o
          obtain ⟨h2, h⟩ := and2 h
          have e2 : ci = q.1 := Nat.eq_of_beq_eq_true h2
          subst e2
          have hF2 := hF _ (fnd3_mem fld idx q hx)
          have row : ∀ (a : Nat) (fs : List Value) (v : Value) (lw : List (Nat × Value)) (rest : List Value) (ws : va_W), ws[(aty ev r).2.1.toNat]? = some (a, ob q.1 fs) → fs[q.2]? = some v → ZF p l e R s m args below meth c nL G A Q kc ks (pc + 3) lw (v :: rest) ws → ZF p l e R s m args below meth c nL G A Q kc ks pc lw (.ref a :: rest) ws := by
            intro a fs v lw rest ws w1 w2 kz
            rcases hF2 with hF2 | hF2
            · exact z_get X hF2 hdg _ w1 w2 kz
            · exact z_getN X hF2 hdg _ w1 w2 kz
          cases ht : ts[q.2]? with
          | none => simp only [ht] at h; cases h
          | some t =>
            simp only [ht] at h
            cases hc : acaf ca (aty ev r).2.1.toNat q.2 with
            | none =>
              rw [hc] at h
              exact az_get (pId_ok h1) hT ht hf row (hK _ _ h)
            | some i =>
              rw [hc] at h
              exact az_getc (pId_ok h1) hT ht (acaf_mem ca _ _ i hc) row (hK _ _ h)
theorem sPut_ok (X : ZC p s m args meth c cc nL own G A ret nm) {put : List (Nat × Nat × Nat × Nat)} {idx : Nat} (hdg : decode cc pc = .ok (.putfield idx, 3)) (hF : ∀ q ∈ put, PA own q.1 q.2.1 q.2.2.1 q.2.2.2) (hK : ∀ pc σ, K pc σ = true → AQ p l e R s m args below meth c nL G A Q kc ks ad T mk w0 pin σ pc) (h : sPut T mk put K pc idx lv st ev ca rl nx = true) : AQ p l e R s m args below meth c nL G A Q kc ks ad T mk w0 pin (lv, st, ev, ca, rl, nx) pc := by
  unfold sPut at h
  cases hx : fnd4 put idx with
  | none => rw [hx] at h; cases h
  | some q =>
    rw [hx] at h
    match st, h with
    | [], h => cases h
    | [x], h => cases h
    | x :: r :: st, h =>
      obtain ⟨h1, h⟩ := and2 h
      cases hT : T[(aty ev r).2.1.toNat]? with
      | none => rw [hT] at h; cases h
      | some te =>
        rw [hT] at h
        cases te with
        | inr o => cases h
        | inl o =>
          obtain ⟨ci, ts⟩ := o
          obtain ⟨h2, h⟩ := and2 h
          have e2 : ci = q.1 := Nat.eq_of_beq_eq_true h2
          subst e2
          obtain ⟨hF2, C, Tt, N, ty, p1, p2, p3, p4⟩ := hF _ (fnd4_mem put idx q hx)
          cases ht : ts[q.2.1]? with
          | none => simp only [ht] at h; cases h
          | some t =>
            simp only [ht] at h
            obtain ⟨h3, h⟩ := and2 h
            obtain ⟨h4, h⟩ := and2 h
            obtain ⟨h5, h⟩ := and2 h
            obtain ⟨h5, h6⟩ := and2 h5
            refine az_put (pId_ok h1) hT ht h4 h5 (fun ν ws hk k' n t' g1 g2 g3 g4 => pputB_ok h6 hk g1 g2 g3 g4) (fun a fs v lw rest ws w1 w2 w3 kz => ?_) (hK _ _ h)
            have fin : narrow ty v = v ∧ fits ty v = true := by
              unfold kOK at h3
              rcases p4 with ⟨k0, rfl⟩ | ⟨k0, rfl⟩ | ⟨k0, rfl⟩
              · have k0 : q.2.2 = 0 := k0
                rw [k0] at h3
                have h3 : (Nat.beq t.1 0 && true) = true := h3
                obtain ⟨x, rfl, -⟩ := vty0 w3 (Nat.eq_of_beq_eq_true (and2 h3).1)
                exact ⟨rfl, rfl⟩
              · have k0 : q.2.2 = 1 := k0
                rw [k0] at h3
                have h3 : Nat.beq t.1 1 = true := h3
                obtain ⟨x, rfl, -⟩ := vty1 w3 (Nat.eq_of_beq_eq_true h3)
                exact ⟨rfl, rfl⟩
              · have k0 : q.2.2 = 2 := k0
                rw [k0] at h3
                have h3 : (Nat.beq t.1 0 && (decide (0 ≤ t.2.1) && decide (t.2.2 ≤ 1))) = true := h3
                obtain ⟨g1, g2⟩ := and2 h3
                obtain ⟨g2, g3⟩ := and2 g2
                obtain ⟨x, rfl, x1, x2⟩ := vty0 w3 (Nat.eq_of_beq_eq_true g1)
                have g2 := of_decide_eq_true g2
                have g3 := of_decide_eq_true g3
                exact ⟨nar_z (by omega) (by omega), fit_z (by omega) (by omega)⟩
            rcases hF2 with hF2 | hF2
            · exact z_put X hF2 hdg _ w1 p1 (Or.inl p2) p3 fin.1 fin.2 w2 rfl kz
            · exact z_putN X hF2 hdg _ w1 p1 p2 p3 fin.1 fin.2 w2 rfl kz
variable {ν : Nat → Value} {ws : va_W}
theorem tnc {x : Int32} (h : 0 ≤ x.toInt) : (x.toNatClampNeg : Int) = x.toInt := by
  show ((x.toInt).toNat : Int) = x.toInt
  omega
theorem AK.ex (h : AK G ad T mk w0 pin (lv, st, ev, ca, rl, nx) ν ws) {i : Nat} {x : Int32} (hx : ν i = .int x) (e : xlo ev rl i = xhi ev rl i) : x.toInt = xlo ev rl i := by
  have h1 := h.lo2 i
  have h2 := h.hi2 i
  rw [hx] at h1 h2
  have h1 : xlo ev rl i ≤ x.toInt := h1
  have h2 : x.toInt ≤ xhi ev rl i := h2
  omega
theorem aldT_ok {i n cell b : Nat} {t : VT} {f : Nat → Int32} {x : Int32} (hT : T[cell]? = some (.inr (0, n, t))) (hk : AK G ad T mk w0 pin (lv, st, ev, ca, rl, nx) ν ws) (hw : ws[cell]? = some (b, aI G n f)) (hx : ν i = .int x) (hn : x.toNatClampNeg < n) (ha : aint n t f) (h0 : 0 ≤ x.toInt) : vty ad (aldT ev rl ca i 0 t) (.int (f x.toNatClampNeg)) := by
  have hb := ha _ hn
  have dflt : vty ad (atyA 0 t) (.int (f x.toNatClampNeg)) := vty_i hb.1 hb.2.1
  unfold aldT
  show vty ad (bif Nat.beq t.1 1 then (bif decide (xlo ev rl i = xhi ev rl i) then (0, (KTY (xlo ev rl i).toNat).1, (KTY (xlo ev rl i).toNat).2) else atyA 0 t) else bif Nat.ble 2 t.1 && Nat.ble (pkd t.1) 1 then (match acaf ca (pcl t.1) (pfl t.1) with
    | some o => bif pId ev o 0 && dle ev rl i o (-1) then (0, max t.2.1 ((pkd t.1 : Nat) : Int), t.2.2) else atyA 0 t
    | none => atyA 0 t) else atyA 0 t) _
  cases e1 : Nat.beq t.1 1 with
  | true =>
    cases e2 : decide (xlo ev rl i = xhi ev rl i) with
    | false => exact dflt
    | true =>
      have h1 := hk.ex hx (of_decide_eq_true e2)
      have h2 := hb.2.2 (Nat.eq_of_beq_eq_true e1)
      have h3 : (xlo ev rl i).toNat = x.toNatClampNeg := by rw [← h1]; rfl
      show vty ad (0, (KTY (xlo ev rl i).toNat).1, (KTY (xlo ev rl i).toNat).2) _
      rw [h3]
      exact vty_i h2.1 h2.2
  | false =>
    cases e2 : (Nat.ble 2 t.1 && Nat.ble (pkd t.1) 1) with
    | false => exact dflt
    | true =>
      obtain ⟨k2, k1⟩ := and2 e2
      have k1 := Nat.le_of_ble_eq_true k1
      cases e3 : acaf ca (pcl t.1) (pfl t.1) with
      | none => exact dflt
      | some o =>
        cases e4 : (pId ev o 0 && dle ev rl i o (-1)) with
        | false => simp only [e4]; exact dflt
        | true =>
          simp only [e4]
          obtain ⟨q1, q2⟩ := and2 e4
          obtain ⟨cv, hc⟩ := hk.int (pId_ok q1)
          have hle := hk.dl q2
          rw [hx, hc] at hle
          have hle : x.toInt ≤ cv.toInt + -1 := hle
          have hg := hk.2.2.1 _ (acaf_mem ca _ _ o e3)
          have hg : fget ws (pcl t.1) (pfl t.1) = some (ν o) := hg
          rw [hc] at hg
          rcases hk.2.2.2.2.2.1.2.2 cell n t b f cv x.toNatClampNeg hT (Nat.le_of_ble_eq_true k2) hw hg hn with ⟨_, hp⟩ | ⟨hp, _⟩
          · have hp := hp (by rw [tnc h0]; omega)
            exact vty_i (by show max t.2.1 ((pkd t.1 : Nat) : Int) ≤ _; omega) hb.2.1
          · omega
theorem aldN_ok {i n cell : Nat} {t : VT} {v : Value} (hT : T[cell]? = some (.inr (0, n, t))) (hk : AK G ad T mk w0 pin (lv, st, ev, ca, rl, nx) ν ws) (hv : ∀ (b : Nat) (f : Nat → Int32) (x : Int32), ws[cell]? = some (b, aI G n f) → ν i = .int x → x.toNatClampNeg < n → v = .int (f x.toNatClampNeg)) (hi : ∃ x : Int32, ν i = .int x ∧ x.toNatClampNeg < n) : ∀ q ∈ aldN ev rl ca nx 0 t, vI (nup ν nx v q.1) ≤ vI (nup ν nx v q.2.1) + q.2.2 := by
  unfold aldN
  intro q hq
  cases e2 : (Nat.beq 0 0 && (Nat.ble 2 t.1 && Nat.ble 2 (pkd t.1))) with
  | false => rw [e2] at hq; cases hq
  | true =>
    rw [e2] at hq
    obtain ⟨-, k2⟩ := and2 e2
    obtain ⟨k2, k1⟩ := and2 k2
    have k1 := Nat.le_of_ble_eq_true k1
    cases e3 : acaf ca (pcl t.1) (pfl t.1) with
    | none => rw [e3] at hq; cases hq
    | some o =>
      rw [e3] at hq
      cases e4 : (pId ev o 0 && (decide (1 ≤ xlo ev rl o) && Nat.blt o nx)) with
      | false => simp only [e4] at hq; cases hq
      | true =>
        simp only [e4] at hq
        obtain ⟨q1, q2⟩ := and2 e4
        obtain ⟨q2, q3⟩ := and2 q2
        have q2 := of_decide_eq_true q2
        have q3 := blt_lt q3
        have e5 : q = (nx, o, -1) := List.mem_singleton.mp hq
        obtain ⟨cv, hc⟩ := hk.int (pId_ok q1)
        have hl := hk.lo2 o
        rw [hc] at hl
        have hl : xlo ev rl o ≤ cv.toInt := hl
        have hg := hk.2.2.1 _ (acaf_mem ca _ _ o e3)
        have hg : fget ws (pcl t.1) (pfl t.1) = some (ν o) := hg
        rw [hc] at hg
        obtain ⟨x, hx, hn⟩ := hi
        obtain ⟨en, w1, w2⟩ := hk.2.2.2.2.2.1.arr hT
        rcases w2 with ⟨-, f, rfl, -⟩ | ⟨h9, -⟩ | ⟨h9, -⟩ | ⟨h9, -⟩
        · rw [hv _ f x w1 hx hn, e5]
          show vI (nup ν nx (.int (f x.toNatClampNeg)) nx) ≤ vI (nup ν nx (.int (f x.toNatClampNeg)) o) + -1
          rw [nup_eq, nup_ne q3, hc]
          show (f x.toNatClampNeg).toInt ≤ cv.toInt + -1
          rcases hk.2.2.2.2.2.1.2.2 cell n t _ f cv x.toNatClampNeg hT (Nat.le_of_ble_eq_true k2) w1 hg hn with ⟨hp, _⟩ | ⟨_, hp⟩
          · omega
          · rcases hp with hp | hp <;> omega
        · cases h9
        · cases h9
        · cases h9
theorem astB_ok {i v : Nat} {t : VT} {x y : Int32} (hk : AK G ad T mk w0 pin (lv, st, ev, ca, rl, nx) ν ws) (h : astB ev rl ca i v 0 t = true) (hx : ν i = .int x) (hy : ν v = .int y) (h0 : 0 ≤ x.toInt) : (t.1 = 1 → (KTY x.toNatClampNeg).1 ≤ y.toInt ∧ y.toInt ≤ (KTY x.toNatClampNeg).2) ∧ (2 ≤ t.1 → ∀ c : Int32, fget ws (pcl t.1) (pfl t.1) = some (.int c) → PP t.1 x.toNatClampNeg y.toInt c.toInt) := by
  have v1 := hk.lo2 v
  have v2 := hk.hi2 v
  rw [hy] at v1 v2
  have v1 : xlo ev rl v ≤ y.toInt := v1
  have v2 : y.toInt ≤ xhi ev rl v := v2
  have h : (bif Nat.beq t.1 1 then decide (xlo ev rl i = xhi ev rl i) && (decide ((KTY (xlo ev rl i).toNat).1 ≤ xlo ev rl v) && decide (xhi ev rl v ≤ (KTY (xlo ev rl i).toNat).2)) else bif Nat.ble 2 t.1 then (bif Nat.ble 2 (pkd t.1) then (decide (xlo ev rl v = 0) && decide (xhi ev rl v = 0)) || (match acaf ca (pcl t.1) (pfl t.1) with
    | some o => pId ev o 0 && dle ev rl v o (-1)
    | none => false) else (decide (((pkd t.1 : Nat) : Int) ≤ xlo ev rl v) || (match acaf ca (pcl t.1) (pfl t.1) with
    | some o => pId ev o 0 && dle ev rl o i 0
    | none => false))) else true) = true := h
  refine ⟨fun e => ?_, fun e c hc => ?_⟩
  · have e1 : Nat.beq t.1 1 = true := by rw [e]; rfl
    rw [e1] at h
    obtain ⟨q1, q2⟩ := and2 h
    obtain ⟨q2, q3⟩ := and2 q2
    have h1 := hk.ex hx (of_decide_eq_true q1)
    have h3 : (xlo ev rl i).toNat = x.toNatClampNeg := by rw [← h1]; rfl
    have q2 := of_decide_eq_true q2
    have q3 := of_decide_eq_true q3
    rw [h3] at q2 q3
    exact ⟨by omega, by omega⟩
  · have e1 : Nat.beq t.1 1 = false := by
      cases h9 : Nat.beq t.1 1 with
      | false => rfl
      | true => have := Nat.eq_of_beq_eq_true h9; omega
    rw [e1, Nat.ble_eq.mpr e] at h
    have cached : ∀ o, acaf ca (pcl t.1) (pfl t.1) = some o → ν o = .int c := fun o e3 => by
      have hg := hk.2.2.1 _ (acaf_mem ca _ _ o e3)
      have hg : fget ws (pcl t.1) (pfl t.1) = some (ν o) := hg
      rw [hc] at hg
      exact (Option.some.inj hg).symm
    cases e2 : Nat.ble 2 (pkd t.1) with
    | true =>
      have h : (bif Nat.ble 2 (pkd t.1) then (decide (xlo ev rl v = 0) && decide (xhi ev rl v = 0)) || (match acaf ca (pcl t.1) (pfl t.1) with
        | some o => pId ev o 0 && dle ev rl v o (-1)
        | none => false) else _) = true := h
      rw [e2] at h
      have h : ((decide (xlo ev rl v = 0) && decide (xhi ev rl v = 0)) || (match acaf ca (pcl t.1) (pfl t.1) with
        | some o => pId ev o 0 && dle ev rl v o (-1)
        | none => false)) = true := h
      rw [Bool.or_eq_true] at h
      refine Or.inr ⟨Nat.le_of_ble_eq_true e2, ?_⟩
      rcases h with h | h
      · obtain ⟨z1, z2⟩ := and2 h
        have z1 := of_decide_eq_true z1
        have z2 := of_decide_eq_true z2
        exact Or.inl (by omega)
      · cases e3 : acaf ca (pcl t.1) (pfl t.1) with
        | none => rw [e3] at h; cases h
        | some o =>
          rw [e3] at h
          obtain ⟨q1, q2⟩ := and2 h
          have hle := hk.dl q2
          rw [hy, cached o e3] at hle
          have hle : y.toInt ≤ c.toInt + -1 := hle
          exact Or.inr (by omega)
    | false =>
      have h : (bif Nat.ble 2 (pkd t.1) then _ else (decide (((pkd t.1 : Nat) : Int) ≤ xlo ev rl v) || (match acaf ca (pcl t.1) (pfl t.1) with
        | some o => pId ev o 0 && dle ev rl o i 0
        | none => false))) = true := h
      rw [e2] at h
      have h : (decide (((pkd t.1 : Nat) : Int) ≤ xlo ev rl v) || (match acaf ca (pcl t.1) (pfl t.1) with
        | some o => pId ev o 0 && dle ev rl o i 0
        | none => false)) = true := h
      have hk1 : pkd t.1 ≤ 1 := by
        rcases Nat.lt_or_ge (pkd t.1) 2 with h9 | h9
        · omega
        · rw [Nat.ble_eq.mpr h9] at e2
          cases e2
      rw [Bool.or_eq_true] at h
      refine Or.inl ⟨hk1, fun hi => ?_⟩
      rcases h with h | h
      · have h := of_decide_eq_true h
        omega
      · cases e3 : acaf ca (pcl t.1) (pfl t.1) with
        | none => rw [e3] at h; cases h
        | some o =>
          rw [e3] at h
          obtain ⟨q1, q2⟩ := and2 h
          have hle := hk.dl q2
          rw [hx, cached o e3] at hle
          have hle : c.toInt ≤ x.toInt + 0 := hle
          rw [tnc h0] at hi
          omega
theorem sAld_ok (X : ZC p s m args meth c cc nL own G A ret nm) {kd : Nat} (hk : kd ≤ 2) (hdg : (kd = 0 → decode cc pc = .ok (.iaload, 1)) ∧ (kd = 1 → decode cc pc = .ok (.laload, 1)) ∧ (kd = 2 → decode cc pc = .ok (.baload, 1))) (hK : ∀ pc σ, K pc σ = true → AQ p l e R s m args below meth c nL G A Q kc ks ad T mk w0 pin σ pc) (hf : afr (lv, st, ev, ca, rl, nx) = true) (h : sAld T K pc kd lv st ev ca rl nx = true) : AQ p l e R s m args below meth c nL G A Q kc ks ad T mk w0 pin (lv, st, ev, ca, rl, nx) pc := by
  match st, h, hf with
  | [], h, _ => cases h
  | [x], h, _ => cases h
  | i :: a :: st, h, hf =>
    obtain ⟨h1, h⟩ := and2 h
    obtain ⟨h2, h⟩ := and2 h
    cases hT : T[(aty ev a).2.1.toNat]? with
    | none => rw [hT] at h; cases h
    | some te =>
      rw [hT] at h
      cases te with
      | inl o => cases h
      | inr o =>
        obtain ⟨kd', n, t⟩ := o
        obtain ⟨h3, h⟩ := and2 h
        obtain ⟨h4, h⟩ := and2 h
        have e3 : kd' = kd := Nat.eq_of_beq_eq_true h3
        subst e3
        refine az_ald hk (pId_ok h1) hT (pId_ok h2) h4 hf (fun ν ws g1 v hv => ?_) (fun k0 => by
          cases kd' with
          | zero => exact absurd rfl k0
          | succ n => rfl) (fun k0 ν ws g1 b f x g2 g3 g4 g5 g6 => by subst k0; exact aldT_ok hT g1 g2 g3 g4 g5 g6) (fun k0 => by
          cases kd' with
          | zero => exact absurd rfl k0
          | succ n => rfl) (fun k0 b f x lw rest ws w1 w2 kz => z_iald X (hdg.1 k0) _ w1 w2 rfl kz) (fun k0 b f x lw rest ws w1 w2 kz => z_lald X (hdg.2.1 k0) _ w1 w2 rfl kz) (fun k0 b f x lw rest ws w1 w2 kz => z_zald X (hdg.2.2 k0) _ w1 w2 rfl kz) (hK _ _ h)
        cases kd' with
        | zero =>
          obtain ⟨x, hx⟩ := g1.int (pId_ok h2)
          have hin := g1.inr h4 hx
          exact aldN_ok hT g1 (fun b f x w1 w2 w3 => hv b f x rfl w1 w2 w3) ⟨x, hx, hin.2⟩
        | succ n => exact fun q hq => by cases hq
theorem sAst_ok (X : ZC p s m args meth c cc nL own G A ret nm) {kd : Nat} (hk : kd ≤ 2) (hdg : (kd = 0 → decode cc pc = .ok (.iastore, 1)) ∧ (kd = 1 → decode cc pc = .ok (.lastore, 1)) ∧ (kd = 2 → decode cc pc = .ok (.bastore, 1))) (hK : ∀ pc σ, K pc σ = true → AQ p l e R s m args below meth c nL G A Q kc ks ad T mk w0 pin σ pc) (h : sAst T mk K pc kd lv st ev ca rl nx = true) : AQ p l e R s m args below meth c nL G A Q kc ks ad T mk w0 pin (lv, st, ev, ca, rl, nx) pc := by
  match st, h with
  | [], h => cases h
  | [x], h => cases h
  | [x, y], h => cases h
  | v :: i :: a :: st, h =>
    obtain ⟨h1, h⟩ := and2 h
    obtain ⟨h2, h⟩ := and2 h
    cases hT : T[(aty ev a).2.1.toNat]? with
    | none => rw [hT] at h; cases h
    | some te =>
      rw [hT] at h
      cases te with
      | inl o => cases h
      | inr o =>
        obtain ⟨kd', n, t⟩ := o
        obtain ⟨h3, hB⟩ := and2 h
        obtain ⟨h4, hB2⟩ := and2 hB
        obtain ⟨h5, hB3⟩ := and2 hB2
        obtain ⟨h6, hB4⟩ := and2 hB3
        obtain ⟨h7, hB5⟩ := and2 hB4
        have e3 : kd' = kd := Nat.eq_of_beq_eq_true h3
        subst e3
        refine az_ast hk (pId_ok h1) hT (pId_ok h2) h4 h5 (fun k0 => ?_) (fun k0 ν ws g1 x y g2 g3 g4 => by subst k0; exact astB_ok g1 h6 g2 g3 g4) h7 (fun k0 b f x y lw rest ws w1 w2 kz => z_iast X (hdg.1 k0) _ w1 w2 rfl kz) (fun k0 b f x y lw rest ws w1 w2 kz => z_last X (hdg.2.1 k0) _ w1 w2 rfl kz) (fun k0 b f x y lw rest ws w1 w2 kz => z_zast X (hdg.2.2 k0) _ w1 w2 rfl kz) (hK _ _ hB5)
        rw [k0] at h6
        obtain ⟨g1, g3⟩ := and2 h6
        obtain ⟨g1, g2⟩ := and2 g1
        exact ⟨⟨of_decide_eq_true g1, of_decide_eq_true g2⟩, Nat.eq_of_beq_eq_true g3⟩
theorem sAld3_ok (X : ZC p s m args meth c cc nL own G A ret nm) (hdg : decode cc pc = .ok (.aaload, 1)) (hK : ∀ pc σ, K pc σ = true → AQ p l e R s m args below meth c nL G A Q kc ks ad T mk w0 pin σ pc) (hf : afr (lv, st, ev, ca, rl, nx) = true) (h : sAld3 T K pc lv st ev ca rl nx = true) : AQ p l e R s m args below meth c nL G A Q kc ks ad T mk w0 pin (lv, st, ev, ca, rl, nx) pc := by
  match st, h, hf with
  | [], h, _ => cases h
  | [x], h, _ => cases h
  | i :: a :: st, h, hf =>
    obtain ⟨h1, h⟩ := and2 h
    obtain ⟨h2, h⟩ := and2 h
    cases hT : T[(aty ev a).2.1.toNat]? with
    | none => rw [hT] at h; cases h
    | some te =>
      rw [hT] at h
      cases te with
      | inl o => cases h
      | inr o =>
        obtain ⟨kd', n, t⟩ := o
        obtain ⟨h3, h⟩ := and2 h
        obtain ⟨h4, h⟩ := and2 h
        have e3 : kd' = 3 := Nat.eq_of_beq_eq_true h3
        subst e3
        exact az_ald3 (pId_ok h1) hT (pId_ok h2) h4 hf (fun b f x z lw rest ws w1 w2 w3 kz => z_oald X hdg _ w1 w2 (by rw [w3]; rfl) kz) (fun j hj => hK _ _ (List.all_eq_true.mp h j hj))
end AZ8
end
section
/-! branches, calls, ends: sound -/
theorem va_nd_of : ∀ (l : List Nat), l.Nodup → va_nd l = true
  | [], _ => rfl
  | a :: l, h => by
    have h1 := List.nodup_cons.mp h
    show (decide (a ∉ l) && va_nd l) = true
    rw [decide_eq_true h1.1, va_nd_of l h1.2]
    rfl
theorem va_nd_range (n : Nat) : va_nd (List.range n) = true := va_nd_of _ List.nodup_range
theorem range_pick {α : Type} (ws : List α) : (List.range ws.length).map (fun i => ws[i]?) = ws.map some := by
  refine List.ext_getElem (by simp) (fun i q1 q2 => ?_)
  have hi : i < ws.length := by simpa using q2
  simp [List.getElem?_eq_getElem hi]
/-- a static method that the library runs: its row -/
def MROW (l : Launch) (G : KG) (own : String) (T : List TE) (q : CAL) : Prop := ∀ {p : Program} {e : Env} {R : Room} {s : State} {m : MethodId} {args : Array Value} {below : List Frame} {meth : Method} {c : Code} {nL : Nat} {A : Nat → Prop} {Q : State → Prop} {cc : ByteArray} {ret : Option FieldType} {nm : String} {kc ks pc : Nat} {ad : Nat → Nat}, ZC p s m args meth c cc nL own G A ret nm → decode cc pc = .ok (.invokestatic q.1, 3) → q.2.2.2.2.2.2.2.2.1 + 1 ≤ R.frames → 8 + (q.2.2.1 + 11) + q.2.2.2.2.2.2.2.2.2 ≤ R.locals → kc ≤ R.cells → ks ≤ R.slots →
    ∀ (lw : List (Nat × Value)) (rest : List Value) (ws : va_W) (μ : Nat → Value), (rest.map fun v => v.category).sum ≤ 8 → WT G ad T ws → PRE ad q.2.2.2 μ ws → (∀ (r : Option Value) (w1 : va_W), POST G ad T q.2.2.2 μ ws r w1 → Z p l e R s m args below meth c nL G A Q (pc + 3) lw (r.toList ++ rest) w1 kc ks) → Z p l e R s m args below meth c nL G A Q pc lw (((List.range q.2.2.2.1.length).map μ).reverse ++ rest) ws kc ks
def COK (l : Launch) (G : KG) (own : String) (T : List TE) (q : CAL) : Prop :=
  (q.2.1 = 0 ∧ ∃ (Cn : String) (y : MethodName) (cy : ByteArray) (rt : Option FieldType) (n k ci : Nat) (ts : List VT) (t : VT) (vc : vw_C), (LkV own q.1 Cn y cy q.2.2.1 rt n ∨ LnV own q.1 Cn y cy q.2.2.1 rt n) ∧ ACt l G T y cy q.2.2.1 rt q.2.2.2 ∧ q.2.2.2.1.length = n + 1 ∧ q.2.2.2.1[0]? = some t ∧ t.1 = 2 ∧ t.2.1.toNat = k ∧ T[k]? = some (.inl (ci, ts)) ∧ vwCl[ci]? = some vc ∧ vc.1 = Cn) ∨
  (q.2.1 = 1 ∧ ∃ (y : MethodName) (cy : ByteArray) (rt : Option FieldType) (n : Nat), (LkS own q.1 y cy q.2.2.1 rt n ∨ LnS own q.1 y cy q.2.2.1 rt n) ∧ ACt l G T y cy q.2.2.1 rt q.2.2.2 ∧ q.2.2.2.1.length = n) ∨
  (q.2.1 = 1 ∧ MROW l G own T q)
section AZ9
variable {p : Program} {l : Launch} {e : Env} {R : Room} {s : State} {m : MethodId} {args : Array Value} {below : List Frame} {meth : Method} {c : Code} {nL : Nat} {G : KG} {A : Nat → Prop} {Q : State → Prop} {cc : ByteArray} {own : String} {ret : Option FieldType} {nm : String} {kc ks : Nat}
variable {ad : Nat → Nat} {T : List TE} {mk : List (Nat × Nat)} {w0 : va_W} {pin : List (Nat × Value)}
variable {lv : ALv} {st : List Nat} {ev : AEv} {ca : ACa} {rl : ARl} {nx pc : Nat} {K : KT}
theorem tgt_eq {pc : Nat} {off : Int} (h : 0 ≤ (pc : Int) + off) : (pc : Int) + off = (tgtOf pc off : Int) := by
  unfold tgtOf
  omega
theorem sJ_ok {σ : Option (AEv × ARl)} (hK : ∀ pc σ, K pc σ = true → AQ p l e R s m args below meth c nL G A Q kc ks ad T mk w0 pin σ pc) (h : sJ K pc lv st ca nx σ = true) : ∀ q, σ = some q → AQ p l e R s m args below meth c nL G A Q kc ks ad T mk w0 pin (lv, st, q.1, ca, q.2, nx) pc := by
  intro q e
  subst e
  exact hK _ _ h
set_option maxHeartbeats 1000000 in
theorem sBr_ok (X : ZC p s m args meth c cc nL own G A ret nm) {co : Jvm.ClassFile.Cond} {off : Int} (hdg : decode cc pc = .ok (.if_icmp co off, 3)) (hK : ∀ pc σ, K pc σ = true → AQ p l e R s m args below meth c nL G A Q kc ks ad T mk w0 pin σ pc) (h : sBr K pc (ccode co) off lv st ev ca rl nx = true) : AQ p l e R s m args below meth c nL G A Q kc ks ad T mk w0 pin (lv, st, ev, ca, rl, nx) pc := by
  match st, h with
  | [], h => cases h
  | [x], h => cases h
  | y :: x :: st, h =>
    obtain ⟨h1, h⟩ := and2 h
    obtain ⟨h2, h⟩ := and2 h
    obtain ⟨h3, h⟩ := and2 h
    obtain ⟨h4, h5⟩ := and2 h
    have ht := tgt_eq (of_decide_eq_true h3)
    refine az_br (by decide) (pId_ok h1) (pId_ok h2) ?_ (sJ_ok hK h4) (sJ_ok hK h5)
    rintro _ _ lw rest ws ⟨a, rfl⟩ ⟨b, rfl⟩ kt kf
    cases co with
    | eq => exact zc_eq X hdg ht rfl rfl kt kf
    | ne => exact zc_ne X hdg ht rfl rfl kt kf
    | lt => exact zc_lt X hdg ht rfl rfl kt kf
    | ge => exact zc_ge X hdg ht rfl rfl kt kf
    | gt => exact zc_gt X hdg ht rfl rfl kt kf
    | le => exact zc_le X hdg ht rfl rfl kt kf
set_option maxHeartbeats 1000000 in
theorem sBr0_ok (X : ZC p s m args meth c cc nL own G A ret nm) {co : Jvm.ClassFile.Cond} {off : Int} (hdg : decode cc pc = .ok (.ifCond co off, 3)) (hf : afr (lv, st, ev, ca, rl, nx) = true) (hK : ∀ pc σ, K pc σ = true → AQ p l e R s m args below meth c nL G A Q kc ks ad T mk w0 pin σ pc) (h : sBr0 K pc (ccode co) off lv st ev ca rl nx = true) : AQ p l e R s m args below meth c nL G A Q kc ks ad T mk w0 pin (lv, st, ev, ca, rl, nx) pc := by
  match st, h, hf with
  | [], h, _ => cases h
  | x :: st, h, hf =>
    obtain ⟨h1, h⟩ := and2 h
    obtain ⟨h3, h⟩ := and2 h
    obtain ⟨h4, h5⟩ := and2 h
    have ht := tgt_eq (of_decide_eq_true h3)
    refine az_br0 (pId_ok h1) hf ?_ (sJ_ok hK h4) (sJ_ok hK h5)
    rintro _ lw rest ws ⟨a, rfl⟩ kt kf
    cases co with
    | eq => exact zi_eq X hdg ht rfl kt kf
    | ne => exact zi_ne X hdg ht rfl kt kf
    | lt => exact zi_lt X hdg ht rfl kt kf
    | ge => exact zi_ge X hdg ht rfl kt kf
    | gt => exact zi_gt X hdg ht rfl kt kf
    | le => exact zi_le X hdg ht rfl kt kf
theorem sJn_ok {co x y : Nat} {ν : Nat → Value} {lw : List (Nat × Value)} {ws : va_W} (hK : ∀ pc σ, K pc σ = true → AQ p l e R s m args below meth c nL G A Q kc ks ad T mk w0 pin σ pc) (h : sJn K pc co x y lv st ev ca rl nx = true) (h1 : lw = lv.map (fun q => (q.1, ν q.2.1))) (h3 : AK G ad T mk w0 pin (lv, st, ev, ca, rl, nx) ν ws) (hc : chold co (vI (ν x)) (vI (ν y))) : ZF p l e R s m args below meth c nL G A Q kc ks pc lw (st.map ν) ws := by
  have go : ∀ k, chold k (vI (ν x)) (vI (ν y)) → sJ K pc lv st ca nx (atk k x y ev rl) = true → ZF p l e R s m args below meth c nL G A Q kc ks pc lw (st.map ν) ws := by
    intro k hk hj
    obtain ⟨q, e, h4⟩ := h3.tk hk
    exact sJ_ok hK hj q e ν _ _ ws ⟨h1, rfl, h4⟩
  unfold sJn at h
  cases hb : Nat.beq co 1 with
  | false =>
    rw [hb] at h
    exact go co hc h
  | true =>
    rw [hb] at h
    obtain ⟨g1, g2⟩ := and2 h
    have e1 : co = 1 := Nat.eq_of_beq_eq_true hb
    subst e1
    have hc : vI (ν x) ≠ vI (ν y) := hc
    rcases Int.lt_or_gt_of_ne hc with h5 | h5
    · exact go 2 h5 g1
    · exact go 4 h5 g2
set_option maxHeartbeats 1000000 in
theorem sBrL_ok (X : ZC p s m args meth c cc nL own G A ret nm) {co : Jvm.ClassFile.Cond} {off : Int} (hd0 : decode cc pc = .ok (.lcmp, 1)) (hdg : decode cc (pc + 1) = .ok (.ifCond co off, 3)) (hK : ∀ pc σ, K pc σ = true → AQ p l e R s m args below meth c nL G A Q kc ks ad T mk w0 pin σ pc) (h : sBrL K pc (ccode co) off lv st ev ca rl nx = true) : AQ p l e R s m args below meth c nL G A Q kc ks ad T mk w0 pin (lv, st, ev, ca, rl, nx) pc := by
  match st, h with
  | [], h => cases h
  | [x], h => cases h
  | y :: x :: st, h =>
    obtain ⟨h1, h⟩ := and2 h
    obtain ⟨h2, h⟩ := and2 h
    obtain ⟨h3, h⟩ := and2 h
    obtain ⟨h4, h5⟩ := and2 h
    have ht := tgt_eq (of_decide_eq_true h3)
    intro ν lw sw ws hg
    obtain ⟨g1, g2, g3⟩ := hg
    have g3 : AK G ad T mk w0 pin (lv, st, ev, ca, rl, nx) ν ws := g3
    have g2 : sw = ν y :: ν x :: st.map ν := g2
    obtain ⟨a, ha⟩ := g3.long (pId_ok h1)
    obtain ⟨b, hb⟩ := g3.long (pId_ok h2)
    have kt : chold (ccode co) a.toInt b.toInt → ZF p l e R s m args below meth c nL G A Q kc ks (tgtOf (pc + 1) off) lw (st.map ν) ws := fun q => sJn_ok hK h4 g1 g3 (by rw [ha, hb]; exact q)
    have kf : chold (cneg (ccode co)) a.toInt b.toInt → ZF p l e R s m args below meth c nL G A Q kc ks (pc + 4) lw (st.map ν) ws := fun q => sJn_ok hK h5 g1 g3 (by rw [ha, hb]; exact q)
    rw [g2, ha, hb]
    cases co with
    | eq => exact zl_eq X hd0 hdg ht rfl rfl kt kf
    | ne => exact zl_ne X hd0 hdg ht rfl rfl kt kf
    | lt => exact zl_lt X hd0 hdg ht rfl rfl kt kf
    | ge => exact zl_ge X hd0 hdg ht rfl rfl kt kf
    | gt => exact zl_gt X hd0 hdg ht rfl rfl kt kf
    | le => exact zl_le X hd0 hdg ht rfl rfl kt kf
theorem sGo_ok (X : ZC p s m args meth c cc nL own G A ret nm) {off : Int} {σ : AS} (hdg : decode cc pc = .ok (.goto off, 3)) (hK : ∀ pc σ, K pc σ = true → AQ p l e R s m args below meth c nL G A Q kc ks ad T mk w0 pin σ pc) (h : sGo K pc off σ = true) : AQ p l e R s m args below meth c nL G A Q kc ks ad T mk w0 pin σ pc := by
  obtain ⟨h1, h2⟩ := and2 h
  intro ν lw sw ws hg
  exact z_goto X hdg (tgt_eq (of_decide_eq_true h1)) (hK _ _ h2 ν lw sw ws hg)
theorem sTab_ok (X : ZC p s m args meth c cc nL own G A ret nm) {dflt lo hi : Int} {offs : Array Int} {len : Nat} (hdg : decode cc pc = .ok (.tableswitch dflt lo hi offs, len)) (hK : ∀ pc σ, K pc σ = true → AQ p l e R s m args below meth c nL G A Q kc ks ad T mk w0 pin σ pc) (h : sTab K pc dflt lo hi offs.toList lv st ev ca rl nx = true) : AQ p l e R s m args below meth c nL G A Q kc ks ad T mk w0 pin (lv, st, ev, ca, rl, nx) pc := by
  match st, h with
  | [], h => cases h
  | x :: st, h =>
    obtain ⟨h1, h⟩ := and2 h
    obtain ⟨h2, h⟩ := and2 h
    obtain ⟨h3, h⟩ := and2 h
    obtain ⟨h4, h⟩ := and2 h
    obtain ⟨h5, h6⟩ := and2 h
    refine az_table (pId_ok h1) (of_decide_eq_true h2) rfl h3 (of_decide_eq_true h4) (fun v lw rest ws w1 kz => z_tableOut X hdg w1 (tgt_eq (of_decide_eq_true h2)) kz) (fun v off tgt lw rest ws w1 w2 w3 w4 kz => z_tableIn X hdg w1 w2 (by rw [← Array.getElem?_toList]; exact w3) w4 kz) (fun q => ?_) (fun q hq => hK _ _ (List.all_eq_true.mp h6 q hq))
    rw [q] at h5
    exact hK _ _ h5
theorem sLen_ok (X : ZC p s m args meth c cc nL own G A ret nm) (hdg : decode cc pc = .ok (.arraylength, 1)) (hf : afr (lv, st, ev, ca, rl, nx) = true) (hK : ∀ pc σ, K pc σ = true → AQ p l e R s m args below meth c nL G A Q kc ks ad T mk w0 pin σ pc) (h : sLen T K pc lv st ev ca rl nx = true) : AQ p l e R s m args below meth c nL G A Q kc ks ad T mk w0 pin (lv, st, ev, ca, rl, nx) pc := by
  match st, h, hf with
  | [], h, _ => cases h
  | a :: st, h, hf =>
    obtain ⟨h1, h⟩ := and2 h
    cases hT : T[(aty ev a).2.1.toNat]? with
    | none => rw [hT] at h; cases h
    | some te =>
      rw [hT] at h
      cases te with
      | inl o => cases h
      | inr o =>
        obtain ⟨kd, n, t⟩ := o
        obtain ⟨h2, h3⟩ := and2 h
        have h2 : n ≤ 2147483647 := Nat.le_of_ble_eq_true h2
        intro ν lw sw ws hg
        obtain ⟨g1, g2, g3⟩ := hg
        have g3 : AK G ad T mk w0 pin (lv, st, ev, ca, rl, nx) ν ws := g3
        have g2 : sw = ν a :: st.map ν := g2
        rw [g2, g3.ref (pId_ok h1)]
        have hn : (Int32.ofNat n).toInt = (n : Int) := tI_nI (n := n) (by omega)
        have kz := hK _ _ h3 _ lw _ ws (AG.push (st := st) (nr := []) (v := .int (Int32.ofNat n)) ⟨g1, rfl, g3⟩ (afr_pop hf) (vty_i (by rw [hn]; exact Int.le_refl _) (by rw [hn]; exact Int.le_refl _)) (fun q hq => by cases hq))
        obtain ⟨en, q1, q2⟩ := g3.2.2.2.2.2.1.arr hT
        rcases q2 with ⟨rfl, f, rfl, q3⟩ | ⟨rfl, f, rfl⟩ | ⟨rfl, f, rfl, q3⟩ | ⟨rfl, f, rfl, q3⟩
        · exact z_alen X hdg _ 0 q1 rfl rfl kz
        · exact z_alen X hdg _ 1 q1 rfl rfl kz
        · exact z_alen X hdg _ 2 q1 rfl rfl kz
        · exact z_alen X hdg _ 3 q1 rfl rfl kz
theorem sNul_ok (X : ZC p s m args meth c cc nL own G A ret nm) {off : Int} {j : Bool} (hdg : (j = false → decode cc pc = .ok (.ifnull off, 3)) ∧ (j = true → decode cc pc = .ok (.ifnonnull off, 3))) (hK : ∀ pc σ, K pc σ = true → AQ p l e R s m args below meth c nL G A Q kc ks ad T mk w0 pin σ pc) (h : sNul K pc off j lv st ev ca rl nx = true) : AQ p l e R s m args below meth c nL G A Q kc ks ad T mk w0 pin (lv, st, ev, ca, rl, nx) pc := by
  match st, h with
  | [], h => cases h
  | a :: st, h =>
    obtain ⟨h1, h⟩ := and2 h
    intro ν lw sw ws hg
    obtain ⟨g1, g2, g3⟩ := hg
    have g3 : AK G ad T mk w0 pin (lv, st, ev, ca, rl, nx) ν ws := g3
    have g2 : sw = ν a :: st.map ν := g2
    rw [g2, g3.ref (pId_ok h1)]
    cases j with
    | false => exact z_ifnull X (hdg.1 rfl) (hK _ _ h ν lw _ ws ⟨g1, rfl, g3⟩)
    | true =>
      obtain ⟨h2, h3⟩ := and2 h
      exact z_ifnonnull X (hdg.2 rfl) (tgt_eq (of_decide_eq_true h2)) (hK _ _ h3 ν lw _ ws ⟨g1, rfl, g3⟩)
theorem look_off (ps : List (Int × Int)) (d k : Int) : Op.lookupswitch.offset ps d k = d ∨ ∃ q ∈ ps, q.1 = k ∧ Op.lookupswitch.offset ps d k = q.2 := by
  cases hf : ps.find? (fun q => q.1 == k) with
  | none => exact Or.inl (Op.lookupswitch.offset_none hf)
  | some q =>
    obtain ⟨a, o⟩ := q
    have h1 := List.find?_some hf
    exact Or.inr ⟨(a, o), List.mem_of_find?_eq_some hf, by simpa using h1, Op.lookupswitch.offset_some hf⟩
theorem sLook_ok (X : ZC p s m args meth c cc nL own G A ret nm) {dflt : Int} {ps : Array (Int × Int)} {len : Nat} (hdg : decode cc pc = .ok (.lookupswitch dflt ps, len)) (hK : ∀ pc σ, K pc σ = true → AQ p l e R s m args below meth c nL G A Q kc ks ad T mk w0 pin σ pc) (h : sLook K pc dflt ps.toList lv st ev ca rl nx = true) : AQ p l e R s m args below meth c nL G A Q kc ks ad T mk w0 pin (lv, st, ev, ca, rl, nx) pc := by
  match st, h with
  | [], h => cases h
  | x :: st, h =>
    obtain ⟨h1, h⟩ := and2 h
    obtain ⟨h2, h⟩ := and2 h
    obtain ⟨h3, h⟩ := and2 h
    obtain ⟨h4, h5⟩ := and2 h
    intro ν lw sw ws hg
    obtain ⟨g1, g2, g3⟩ := hg
    have g3 : AK G ad T mk w0 pin (lv, st, ev, ca, rl, nx) ν ws := g3
    have g2 : sw = ν x :: st.map ν := g2
    obtain ⟨a, ha⟩ := g3.int (pId_ok h1)
    rw [g2, ha]
    rcases look_off ps.toList dflt a.toInt with e | ⟨q, hq, e1, e2⟩
    · exact z_lookup X hdg h2 e (tgt_eq (of_decide_eq_true h3)) (hK _ _ h4 ν lw _ ws ⟨g1, rfl, g3⟩)
    · obtain ⟨k1, k2⟩ := and2 (List.all_eq_true.mp h5 q hq)
      exact z_lookup X hdg h2 e2 (tgt_eq (of_decide_eq_true k1)) (hK _ _ k2 ν lw _ ws ⟨g1, rfl, g3.is (pId_ok h1) (by rw [ha]; exact e1.symm)⟩)
theorem scat_ok {ν : Nat → Value} {ws : va_W} (h : AK G ad T mk w0 pin (lv, st, ev, ca, rl, nx) ν ws) : ∀ (l : List Nat), scat ev l ≤ 8 → ((l.map ν).map fun v => v.category).sum ≤ scat ev l
  | [], _ => by simp [scat]
  | i :: l, hs => by
    have h0 : (bif Nat.beq (aty ev i).1 1 then 2 else bif Nat.ble (aty ev i).1 3 then 1 else 9) + scat ev l ≤ 8 := hs
    have ih := scat_ok h l (by omega)
    have h1 : (ν i).category ≤ bif Nat.beq (aty ev i).1 1 then 2 else bif Nat.ble (aty ev i).1 3 then 1 else 9 := by
      rcases aty_sound (ad := ad) (ν := ν) ev i h.2.1 with e9 | ht
      · rw [e9] at h0
        have h0 : 9 + scat ev l ≤ 8 := h0
        omega
      · rcases ht with ⟨e, ⟨x, hx⟩, -⟩ | ⟨e, ⟨x, hx⟩, -⟩ | ⟨e, hx⟩ | ⟨e, hx | ⟨a, hx⟩⟩
        all_goals (rw [e, hx]; first | exact Nat.le_refl 1 | exact Nat.le_refl 2)
    simp only [List.map_cons, List.sum_cons]
    show _ ≤ (bif Nat.beq (aty ev i).1 1 then 2 else bif Nat.ble (aty ev i).1 3 then 1 else 9) + scat ev l
    omega
theorem atch_ok {ZZ : ZZT} : ∀ (l : List (Nat × Nat × VT)) (ev : AEv) (ca : ACa) (nx : Nat) (q : AEv × ACa × Nat), atch T l ev ca nx = some q → afr (lv, st, q.1, q.2.1, rl, q.2.2) = true → afr (lv, st, ev, ca, rl, nx) = true → AZ ZZ G ad T mk w0 pin (lv, st, q.1, q.2.1, rl, q.2.2) pc → AZ ZZ G ad T mk w0 pin (lv, st, ev, ca, rl, nx) pc
  | [], ev, ca, nx, q, h, _, _, k => by
    cases h
    exact k
  | f :: l, ev, ca, nx, q, h, hq, hf, k => by
    unfold atch at h
    cases h1 : acaf ca f.1 f.2.1 with
    | some i =>
      rw [h1] at h
      exact atch_ok l ev ca nx q h hq hf k
    | none =>
      rw [h1] at h
      cases hT : T[f.1]? with
      | none => rw [hT] at h; cases h
      | some te =>
        rw [hT] at h
        cases te with
        | inr o => cases h
        | inl o =>
          obtain ⟨ci, ts⟩ := o
          cases ht : ts[f.2.1]? with
          | none => simp only [ht] at h; cases h
          | some t =>
            simp only [ht] at h
            refine az_touch hT ht hf (atch_ok l _ _ _ q h hq ?_ k)
            obtain ⟨f0, f1, f2, f3, f4, f5⟩ := afr_ok hf
            refine afr_mk ⟨by omega, fun q hq => Nat.lt_succ_of_lt (f1 q hq), fun q hq => Nat.lt_succ_of_lt (f2 q hq), fun q hq => ?_, fun q hq => ?_, fun q hq => ⟨Nat.lt_succ_of_lt (f5 q hq).1, Nat.lt_succ_of_lt (f5 q hq).2⟩⟩
            · rcases List.mem_cons.mp hq with e | hq
              · rw [e]; exact Nat.lt_succ_self nx
              · exact Nat.lt_succ_of_lt (f3 q hq)
            · rcases List.mem_cons.mp hq with e | hq
              · rw [e]; exact Nat.lt_succ_self nx
              · exact Nat.lt_succ_of_lt (f4 q hq)
theorem atg_ok {ZZ : ZZT} {is : List Nat} {σ : AS} (k : AZ ZZ G ad T mk w0 pin (atg is σ) pc) : AZ ZZ G ad T mk w0 pin σ pc := by
  obtain ⟨lv, st, ev, ca, rl, nx⟩ := σ
  intro ν lw sw ws h
  obtain ⟨h1, h2, h3⟩ := h
  have h3 : AK G ad T mk w0 pin (lv, st, ev, ca, rl, nx) ν ws := h3
  refine k ν lw sw ws ⟨h1, h2, h3.1, fun q hq => ?_, h3.2.2⟩
  rcases List.mem_append.mp hq with hq | hq
  · obtain ⟨i, hi, rfl⟩ := List.mem_map.mp hq
    have hn : isNum (aty ev i) = true := (List.mem_filter.mp hi).2
    have hv : vty ad (aty ev i) (ν i) := (aty_sound ev i h3.2.1).resolve_left (fun e => by
      have : (aty ev i).1 ≤ 1 := Nat.le_of_ble_eq_true hn
      omega)
    exact vty_cut hv hn (h3.lo2 i) (h3.hi2 i)
  · exact h3.2.1 q hq
set_option maxHeartbeats 1000000 in
theorem call_row (X : ZC p s m args meth c cc nL own G A ret nm) {q : CAL} (hcok : COK l G own T q) (hdg : (q.2.1 = 0 → decode cc pc = .ok (.invokevirtual q.1, 3)) ∧ (q.2.1 = 1 → decode cc pc = .ok (.invokestatic q.1, 3))) (hR1 : q.2.2.2.2.2.2.2.2.1 + 1 ≤ R.frames) (hR2 : 8 + (q.2.2.1 + 11) + q.2.2.2.2.2.2.2.2.2 ≤ R.locals) (hkc : kc ≤ R.cells) (hks : ks ≤ R.slots)
    (lw : List (Nat × Value)) (rest : List Value) (ws : va_W) (μ : Nat → Value) (hcat : (rest.map fun v => v.category).sum ≤ 8) (hW : WT G ad T ws) (hP : PRE ad q.2.2.2 μ ws) (kk : ∀ (r : Option Value) (w1 : va_W), POST G ad T q.2.2.2 μ ws r w1 → ZF p l e R s m args below meth c nL G A Q kc ks (pc + 3) lw (r.toList ++ rest) w1) : ZF p l e R s m args below meth c nL G A Q kc ks pc lw (((List.range q.2.2.2.1.length).map μ).reverse ++ rest) ws := by
  rcases hcok with ⟨k0, Cn, y, cy, rt, n, k, ci, ts, t, vc, hL, hA, hn, ht0, ht1, ht2, hT, hv1, hv2⟩ | ⟨k0, y, cy, rt, n, hL, hA, hn⟩ | ⟨k0, hM⟩
  · have hM := hA ad ws μ hW hP
    have hd := hdg.1 k0
    have e0 : μ 0 = .ref (ad k) := by
      have := vty2 (hP.1 0 t ht0) ht1
      rw [ht2] at this
      exact this
    have eA : (List.range q.2.2.2.1.length).map μ = .ref (ad k) :: (List.range n).map (fun i => μ (i + 1)) := by
      rw [hn, List.range_succ_eq_map, List.map_cons, e0, List.map_map]
      rfl
    rw [eA] at hM ⊢
    obtain ⟨en, w1, fs, rfl, w2, w3⟩ := hW.2.1 k _ hT
    have est : ((.ref (ad k) :: (List.range n).map (fun i => μ (i + 1))).reverse ++ rest : List Value) = ((List.range n).map (fun i => μ (i + 1))).reverse ++ .ref (ad k) :: rest := by simp
    rcases hL with hL | hL
    · exact z_callV (wr := []) (rm := rmOf q.2.2.2) X hL hM hd k w1 hv1 hv2 ⟨hR1, hR2⟩ ⟨hkc, hks⟩ (by simp) est hcat (List.range ws.length) [] (range_pick ws) (va_nd_range _) rfl rfl rfl (fun r w1 hp => kk r w1 hp)
    · exact z_callVN (wr := []) (rm := rmOf q.2.2.2) X hL hM hd k w1 hv1 hv2 ⟨hR1, hR2⟩ ⟨hkc, hks⟩ (by simp) est hcat (List.range ws.length) [] (range_pick ws) (va_nd_range _) rfl rfl rfl (fun r w1 hp => kk r w1 hp)
  · have hM := hA ad ws μ hW hP
    have hd := hdg.2 k0
    rcases hL with hL | hL
    · exact z_callS (wr := []) (rm := rmOf q.2.2.2) X hL hM hd ⟨hR1, hR2⟩ ⟨hkc, hks⟩ (by simp [hn]) rfl hcat (List.range ws.length) [] (range_pick ws) (va_nd_range _) rfl rfl rfl (fun r w1 hp => kk r w1 hp)
    · exact z_callSN (wr := []) (rm := rmOf q.2.2.2) X hL hM hd ⟨hR1, hR2⟩ ⟨hkc, hks⟩ (by simp [hn]) rfl hcat (List.range ws.length) [] (range_pick ws) (va_nd_range _) rfl rfl rfl (fun r w1 hp => kk r w1 hp)
  · exact hM X (hdg.2 k0) hR1 hR2 hkc hks lw rest ws μ hcat hW hP kk
theorem sCall_ok (X : ZC p s m args meth c cc nL own G A ret nm) {cal : List CAL} {kd idx : Nat} (hcal : ∀ q ∈ cal, COK l G own T q) (hdg : (kd = 0 → decode cc pc = .ok (.invokevirtual idx, 3)) ∧ (kd = 1 → decode cc pc = .ok (.invokestatic idx, 3))) (hkc : kc ≤ R.cells) (hks : ks ≤ R.slots) (hf : afr (lv, st, ev, ca, rl, nx) = true) (hK : ∀ pc σ, K pc σ = true → AQ p l e R s m args below meth c nL G A Q kc ks ad T mk w0 pin σ pc) (h : sCall T mk cal R.frames R.locals K pc kd idx lv st ev ca rl nx = true) : AQ p l e R s m args below meth c nL G A Q kc ks ad T mk w0 pin (lv, st, ev, ca, rl, nx) pc := by
  unfold sCall at h
  obtain ⟨q, hq, hh⟩ := List.any_eq_true.mp h
  obtain ⟨b1, hh2⟩ := and2 hh
  obtain ⟨b2, h⟩ := and2 hh2
  obtain ⟨-, h⟩ := and2 h
  have h1 : idx = q.1 := (Nat.eq_of_beq_eq_true b1).symm
  have h2 : kd = q.2.1 := (Nat.eq_of_beq_eq_true b2).symm
  rw [h1, h2] at hdg
  unfold sCall1 at h
  cases ht : atch T q.2.2.2.2.1 ev ca nx with
  | none => simp only [ht] at h; cases h
  | some z =>
    obtain ⟨ev2, ca2, nx2⟩ := z
    simp only [ht] at h
    cases hp : acas ca2 q.2.2.2.2.1 with
    | none => simp only [hp] at h; cases h
    | some ps =>
      simp only [hp] at h
      obtain ⟨g1, h⟩ := and2 h
      obtain ⟨g2, h⟩ := and2 h
      obtain ⟨g3, h⟩ := and2 h
      obtain ⟨g4, h⟩ := and2 h
      obtain ⟨g5, h⟩ := and2 h
      obtain ⟨g6, h⟩ := and2 h
      obtain ⟨g7, h⟩ := and2 h
      obtain ⟨g8, h⟩ := and2 h
      obtain ⟨g9, h⟩ := and2 h
      obtain ⟨g10, h⟩ := and2 h
      obtain ⟨g11, h⟩ := and2 h
      obtain ⟨g12, h⟩ := and2 h
      refine atch_ok _ _ _ _ _ ht g1 hf ?_
      have est : st = ((st.take q.2.2.2.1.length).reverse).reverse ++ st.drop q.2.2.2.1.length := by rw [List.reverse_reverse, List.take_append_drop]
      have hn := Nat.le_of_ble_eq_true g2
      show AZ _ G ad T mk w0 pin (lv, st, ev2, ca2, rl, nx2) pc
      rw [est] at g1
      have hgoal : AZ (ZF p l e R s m args below meth c nL G A Q kc ks) G ad T mk w0 pin (lv, ((st.take q.2.2.2.1.length).reverse).reverse ++ st.drop q.2.2.2.1.length, ev2, ca2, rl, nx2) pc :=
        az_call (PR := fun rest => (rest.map fun v => v.category).sum ≤ 8) (fun ν ws hA => Nat.le_trans (scat_ok hA _ (Nat.le_of_ble_eq_true g7)) (Nat.le_of_ble_eq_true g7)) g1 (by simp [hn]) hp g8 g9 g10 g11 g12 (Nat.le_of_ble_eq_true g3) (Nat.le_of_ble_eq_true g4) (fun lw rest ws μ w0 w1 w2 w3 => call_row X (hcal q hq) hdg (Nat.le_of_ble_eq_true g5) (Nat.le_of_ble_eq_true g6) hkc hks lw rest ws μ w0 w1 w2 w3) (fun A' hA' => atg_ok (hK _ _ (List.all_eq_true.mp h A' hA')))
      rw [← est] at hgoal
      exact hgoal
end AZ9
end
section
/-! the end; every instruction; the run; a method's contract by its check -/
def RK (rk : Nat) (ret : Option FieldType) : Prop := (rk = 0 ∧ ret = none) ∨ (rk = 1 ∧ ret = some .int) ∨ (rk = 2 ∧ ret = some .long) ∨ (rk = 3 ∧ ret = some .boolean)
section AZA
variable {p : Program} {l : Launch} {e : Env} {R : Room} {s : State} {m : MethodId} {args : Array Value} {below : List Frame} {meth : Method} {c : Code} {nL : Nat} {G : KG} {A : Nat → Prop} {cc : ByteArray} {own : String} {ret : Option FieldType} {nm : String} {kc ks mc ms : Nat}
variable {ad : Nat → Nat} {T : List TE} {w0 : va_W} {pin : List (Nat × Value)} {C : CE} {μ : Nat → Value} {PO : Option Value → va_W → Prop}
variable {lv : ALv} {st : List Nat} {ev : AEv} {ca : ACa} {rl : ARl} {nx pc rk : Nat} {K : KT}
abbrev AR (p : Program) (l : Launch) (e : Env) (R : Room) (s : State) (m : MethodId) (args : Array Value) (below : List Frame) (meth : Method) (c : Code) (nL : Nat) (G : KG) (A : Nat → Prop) (mc ms kc ks : Nat) (ad : Nat → Nat) (T : List TE) (C : CE) (PO : Option Value → va_W → Prop) (w0 : va_W) (pin : List (Nat × Value)) (σ : AS) (pc : Nat) : Prop := AQ p l e R s m args below meth c nL G A (MQ below (QQ G A PO) args s mc ms A) kc ks ad T C.2.2.2.2.1 w0 pin σ pc
theorem sRet_ok (X : ZC p s m args meth c cc nL own G A ret nm) (hrk : RK rk ret) (hdg : (rk = 0 → decode cc pc = .ok (.return_, 1)) ∧ (rk = 1 ∨ rk = 3 → decode cc pc = .ok (.ireturn, 1)) ∧ (rk = 2 → decode cc pc = .ok (.lreturn, 1))) (hc : kc ≤ mc) (hs : ks ≤ ms) (hp1 : ∀ j, j < C.1.length → (j, μ j) ∈ pin) (hp2 : ∀ j, j < C.2.1.length → (100 + j, μ (100 + j)) ∈ pin) (hl1 : C.1.length ≤ 50) (hl2 : C.2.1.length ≤ 100) (hPO : ∀ r w1, POST G ad T C μ w0 r w1 → PO r w1) (h : sRet C rk st ev ca rl = true) : AR p l e R s m args below meth c nL G A mc ms kc ks ad T C PO w0 pin (lv, st, ev, ca, rl, nx) pc := by
  unfold sRet at h
  obtain ⟨A', hA, h⟩ := List.any_eq_true.mp h
  obtain ⟨h1, h2⟩ := and2 h
  intro ν lw sw ws hg
  obtain ⟨r, r1, r2, v, r3⟩ := AG.ret hA hg hp1 hp2 hl1 hl2 h2
  rw [r1]
  rcases hrk with ⟨rfl, e2⟩ | ⟨rfl, e2⟩ | ⟨rfl, e2⟩ | ⟨rfl, e2⟩
  · cases ha : A'.1 with
    | some t => rw [ha] at h1; cases h1
    | none =>
      rw [ha] at r3
      have r3 : r = none := r3
      subst r3
      exact z_vret X e2 (hdg.1 rfl) hc hs (hPO _ _ r2)
  · cases ha : A'.1 with
    | none => rw [ha] at h1; cases h1
    | some t =>
      rw [ha] at r3 h1
      obtain ⟨r4, r5⟩ := r3
      obtain ⟨x, rfl, -⟩ := vty0 r5 (Nat.eq_of_beq_eq_true h1)
      subst r4
      exact z_iret X e2 (hdg.2.1 (Or.inl rfl)) hc hs (hPO _ _ r2)
  · cases ha : A'.1 with
    | none => rw [ha] at h1; cases h1
    | some t =>
      rw [ha] at r3 h1
      obtain ⟨r4, r5⟩ := r3
      obtain ⟨x, rfl, -⟩ := vty1 r5 (Nat.eq_of_beq_eq_true h1)
      subst r4
      exact z_lret X e2 (hdg.2.2 rfl) hc hs (hPO _ _ r2)
  · cases ha : A'.1 with
    | none => rw [ha] at h1; cases h1
    | some t =>
      rw [ha] at r3 h1
      obtain ⟨r4, r5⟩ := r3
      obtain ⟨g1, g2⟩ := and2 h1
      obtain ⟨g2, g3⟩ := and2 g2
      have g2 := of_decide_eq_true g2
      have g3 := of_decide_eq_true g3
      obtain ⟨x, rfl, x1, x2⟩ := vty0 r5 (Nat.eq_of_beq_eq_true g1)
      subst r4
      exact z_zret X e2 (nar_z (by omega) (by omega)) (hdg.2.1 (Or.inr rfl)) hc hs (hPO _ _ r2)
theorem ofI8 {n : Int} (h1 : -128 ≤ n) (h2 : n ≤ 127) : (Int8.ofInt n).toInt32.toInt = n := by
  rw [Int8.toInt_toInt32, Int8.toInt_ofInt]
  show n.bmod 256 = n
  exact Int.bmod_eq_of_le (by omega) (by omega)
theorem ofI16 {n : Int} (h1 : -32768 ≤ n) (h2 : n ≤ 32767) : (Int16.ofInt n).toInt32.toInt = n := by
  rw [Int16.toInt_toInt32, Int16.toInt_ofInt]
  show n.bmod 65536 = n
  exact Int.bmod_eq_of_le (by omega) (by omega)
theorem ofL2 (n : Fin 2) : (Int64.ofNat (n : Nat)).toInt = ((n : Nat) : Int) := by
  match n with
  | 0 => rfl
  | 1 => rfl
theorem zst1 (X : ZC p s m args meth c cc nL own G A ret nm) {Q : State → Prop} {i : Nat} {x : Int32} {lw : List (Nat × Value)} {rest : List Value} {ws : va_W} (hdg : decode cc pc = .ok (.istore i, 2)) (hn : i < nL) (kk : Z p l e R s m args below meth c nL G A Q (pc + 2) (zs1 i (.int x) lw) rest ws kc ks) : Z p l e R s m args below meth c nL G A Q pc lw (.int x :: rest) ws kc ks := z_istore X hdg hn rfl kk
theorem zst2 (X : ZC p s m args meth c cc nL own G A ret nm) {Q : State → Prop} {i : Fin 4} {x : Int32} {lw : List (Nat × Value)} {rest : List Value} {ws : va_W} (hdg : decode cc pc = .ok (.istore_n i, 1)) (hn : (i : Nat) < nL) (kk : Z p l e R s m args below meth c nL G A Q (pc + 1) (zs1 i (.int x) lw) rest ws kc ks) : Z p l e R s m args below meth c nL G A Q pc lw (.int x :: rest) ws kc ks := z_istore_n X hdg rfl hn rfl kk
theorem zst3 (X : ZC p s m args meth c cc nL own G A ret nm) {Q : State → Prop} {i : Nat} {x : Nat} {lw : List (Nat × Value)} {rest : List Value} {ws : va_W} (hdg : decode cc pc = .ok (.astore i, 2)) (hn : i < nL) (kk : Z p l e R s m args below meth c nL G A Q (pc + 2) (zs1 i (.ref x) lw) rest ws kc ks) : Z p l e R s m args below meth c nL G A Q pc lw (.ref x :: rest) ws kc ks := z_astore X hdg hn rfl kk
theorem zst4 (X : ZC p s m args meth c cc nL own G A ret nm) {Q : State → Prop} {i : Fin 4} {x : Nat} {lw : List (Nat × Value)} {rest : List Value} {ws : va_W} (hdg : decode cc pc = .ok (.astore_n i, 1)) (hn : (i : Nat) < nL) (kk : Z p l e R s m args below meth c nL G A Q (pc + 1) (zs1 i (.ref x) lw) rest ws kc ks) : Z p l e R s m args below meth c nL G A Q pc lw (.ref x :: rest) ws kc ks := z_astore_n X hdg rfl hn rfl kk
theorem zst5 (X : ZC p s m args meth c cc nL own G A ret nm) {Q : State → Prop} {i : Nat} {x : Int64} {lw : List (Nat × Value)} {rest : List Value} {ws : va_W} (hdg : decode cc pc = .ok (.lstore i, 2)) (hn : i + 1 < nL) (kk : Z p l e R s m args below meth c nL G A Q (pc + 2) (zs2 i (.long x) lw) rest ws kc ks) : Z p l e R s m args below meth c nL G A Q pc lw (.long x :: rest) ws kc ks := z_lstore X hdg hn rfl kk
theorem zst6 (X : ZC p s m args meth c cc nL own G A ret nm) {Q : State → Prop} {i : Fin 4} {x : Int64} {lw : List (Nat × Value)} {rest : List Value} {ws : va_W} (hdg : decode cc pc = .ok (.lstore_n i, 1)) (hn : (i : Nat) + 1 < nL) (kk : Z p l e R s m args below meth c nL G A Q (pc + 1) (zs2 i (.long x) lw) rest ws kc ks) : Z p l e R s m args below meth c nL G A Q pc lw (.long x :: rest) ws kc ks := z_lstore_n X hdg rfl hn rfl kk
set_option maxHeartbeats 8000000 in
theorem sIns_ok (X : ZC p s m args meth c cc nL own G A ret nm) {fld : List (Nat × Nat × Nat)} {put : List (Nat × Nat × Nat × Nat)} {cst cstl : List (Nat × Int)} {cal : List CAL} {tab : DT} (htab : ∀ q ∈ tab, decode cc q.1 = .ok q.2) {i : Instr} {len : Nat} (hdg : decode cc pc = .ok (i, len)) (hrk : RK rk ret) (hc : kc ≤ mc) (hs : ks ≤ ms) (hp1 : ∀ j, j < C.1.length → (j, μ j) ∈ pin) (hp2 : ∀ j, j < C.2.1.length → (100 + j, μ (100 + j)) ∈ pin) (hl1 : C.1.length ≤ 50) (hl2 : C.2.1.length ≤ 100) (hPO : ∀ r w1, POST G ad T C μ w0 r w1 → PO r w1)
    (hF : ∀ q ∈ fld, FL own q.1 q.2.1 q.2.2 ∨ FN own q.1 q.2.1 q.2.2) (hP : ∀ q ∈ put, PA own q.1 q.2.1 q.2.2.1 q.2.2.2) (hC : ∀ q ∈ cst, ∃ x : Int32, x.toInt = q.2 ∧ Jvm.Cond.constant own q.1 x ∈ BIG) (hCl : ∀ q ∈ cstl, ∃ x : Int64, x.toInt = q.2 ∧ Jvm.Cond.constantLong own q.1 x ∈ BIG) (hcal : ∀ q ∈ cal, COK l G own T q) (hkc : kc ≤ R.cells) (hks : ks ≤ R.slots)
    (hf : afr (lv, st, ev, ca, rl, nx) = true) (hK : ∀ pc σ, K pc σ = true → AR p l e R s m args below meth c nL G A mc ms kc ks ad T C PO w0 pin σ pc) (h : sIns tab nL T C.2.2.2.2.1 fld put cst cstl cal R.frames R.locals rk C K pc len i lv st ev ca rl nx = true) : AR p l e R s m args below meth c nL G A mc ms kc ks ad T C PO w0 pin (lv, st, ev, ca, rl, nx) pc := by
  cases i with
  | iconst n =>
    obtain ⟨hl, h⟩ := and2 h
    have hl : len = 1 := Nat.eq_of_beq_eq_true hl
    rw [hl] at hdg
    obtain ⟨h1, h⟩ := and2 h
    obtain ⟨h2, h⟩ := and2 h
    have h1 := of_decide_eq_true h1
    have h2 := of_decide_eq_true h2
    exact sCon_ok hK hf (ofI32 (by omega) (by omega)) (fun lw rest ws kz => z_iconst X hdg rfl kz) h
  | bipush n =>
    obtain ⟨hl, h⟩ := and2 h
    have hl : len = 2 := Nat.eq_of_beq_eq_true hl
    rw [hl] at hdg
    obtain ⟨h1, h⟩ := and2 h
    obtain ⟨h2, h⟩ := and2 h
    exact sCon_ok hK hf (ofI8 (of_decide_eq_true h1) (of_decide_eq_true h2)) (fun lw rest ws kz => z_bipush X hdg rfl kz) h
  | sipush n =>
    obtain ⟨hl, h⟩ := and2 h
    have hl : len = 3 := Nat.eq_of_beq_eq_true hl
    rw [hl] at hdg
    obtain ⟨h1, h⟩ := and2 h
    obtain ⟨h2, h⟩ := and2 h
    exact sCon_ok hK hf (ofI16 (of_decide_eq_true h1) (of_decide_eq_true h2)) (fun lw rest ws kz => z_sipush X hdg rfl kz) h
  | lconst n =>
    obtain ⟨hl, h⟩ := and2 h
    have hl : len = 1 := Nat.eq_of_beq_eq_true hl
    rw [hl] at hdg
    exact az_con (fun lw rest ws kz => z_lconst X hdg rfl kz) hf (vty_l (by rw [ofL2]; exact Int.le_refl _) (by rw [ofL2]; exact Int.le_refl _)) (hK _ _ h)
  | ldc idx =>
    obtain ⟨hl, h⟩ := and2 h
    have hl : len = 2 := Nat.eq_of_beq_eq_true hl
    rw [hl] at hdg
    exact sLdc_ok hC hK hf (fun v hv lw rest ws kz => z_ldc X hdg hv kz) h
  | ldc_w idx =>
    obtain ⟨hl, h⟩ := and2 h
    have hl : len = 3 := Nat.eq_of_beq_eq_true hl
    rw [hl] at hdg
    exact sLdc_ok hC hK hf (fun v hv lw rest ws kz => z_ldcw X hdg hv kz) h
  | ldc2_w idx =>
    obtain ⟨hl, h⟩ := and2 h
    have hl : len = 3 := Nat.eq_of_beq_eq_true hl
    rw [hl] at hdg
    exact sLdcL_ok X hdg hCl hK hf h
  | iload k =>
    obtain ⟨hl, h⟩ := and2 h
    have hl : len = 2 := Nat.eq_of_beq_eq_true hl
    rw [hl] at hdg
    exact sLoad_ok (by decide) hK (by rintro _ lw rest ws q hq ⟨a, rfl⟩ kz; exact z_iload X hdg q hq kz) h
  | lload k =>
    obtain ⟨hl, h⟩ := and2 h
    have hl : len = 2 := Nat.eq_of_beq_eq_true hl
    rw [hl] at hdg
    exact sLoad_ok (by decide) hK (by rintro _ lw rest ws q hq ⟨a, rfl⟩ kz; exact z_lload X hdg q hq kz) h
  | aload k =>
    obtain ⟨hl, h⟩ := and2 h
    have hl : len = 2 := Nat.eq_of_beq_eq_true hl
    rw [hl] at hdg
    exact sLoad_ok (by decide) hK (by rintro _ lw rest ws q hq ⟨a, rfl⟩ kz; exact z_aload X hdg q hq kz) h
  | iload_n k =>
    obtain ⟨hl, h⟩ := and2 h
    have hl : len = 1 := Nat.eq_of_beq_eq_true hl
    rw [hl] at hdg
    exact sLoad_ok (by decide) hK (by rintro _ lw rest ws q hq ⟨a, rfl⟩ kz; exact z_iload_n X hdg rfl q hq kz) h
  | lload_n k =>
    obtain ⟨hl, h⟩ := and2 h
    have hl : len = 1 := Nat.eq_of_beq_eq_true hl
    rw [hl] at hdg
    exact sLoad_ok (by decide) hK (by rintro _ lw rest ws q hq ⟨a, rfl⟩ kz; exact z_lload_n X hdg rfl q hq kz) h
  | aload_n k =>
    obtain ⟨hl, h⟩ := and2 h
    have hl : len = 1 := Nat.eq_of_beq_eq_true hl
    rw [hl] at hdg
    exact sLoad_ok (by decide) hK (by rintro _ lw rest ws q hq ⟨a, rfl⟩ kz; exact z_aload_n X hdg rfl q hq kz) h
  | istore k =>
    obtain ⟨hl, h⟩ := and2 h
    have hl : len = 2 := Nat.eq_of_beq_eq_true hl
    rw [hl] at hdg
    exact sStore_ok (by decide) hK (by rintro hn _ lw rest ws ⟨a, rfl⟩ kz; exact zst1 X hdg hn kz) h
  | istore_n k =>
    obtain ⟨hl, h⟩ := and2 h
    have hl : len = 1 := Nat.eq_of_beq_eq_true hl
    rw [hl] at hdg
    exact sStore_ok (by decide) hK (by rintro hn _ lw rest ws ⟨a, rfl⟩ kz; exact zst2 X hdg hn kz) h
  | astore k =>
    obtain ⟨hl, h⟩ := and2 h
    have hl : len = 2 := Nat.eq_of_beq_eq_true hl
    rw [hl] at hdg
    exact sStore_ok (by decide) hK (by rintro hn _ lw rest ws ⟨a, rfl⟩ kz; exact zst3 X hdg hn kz) h
  | astore_n k =>
    obtain ⟨hl, h⟩ := and2 h
    have hl : len = 1 := Nat.eq_of_beq_eq_true hl
    rw [hl] at hdg
    exact sStore_ok (by decide) hK (by rintro hn _ lw rest ws ⟨a, rfl⟩ kz; exact zst4 X hdg hn kz) h
  | lstore k =>
    obtain ⟨hl, h⟩ := and2 h
    have hl : len = 2 := Nat.eq_of_beq_eq_true hl
    rw [hl] at hdg
    exact sStore_ok (by decide) hK (by rintro hn _ lw rest ws ⟨a, rfl⟩ kz; exact zst5 X hdg hn kz) h
  | lstore_n k =>
    obtain ⟨hl, h⟩ := and2 h
    have hl : len = 1 := Nat.eq_of_beq_eq_true hl
    rw [hl] at hdg
    exact sStore_ok (by decide) hK (by rintro hn _ lw rest ws ⟨a, rfl⟩ kz; exact zst6 X hdg hn kz) h
  | iinc k n =>
    obtain ⟨hl, h⟩ := and2 h
    have hl : len = 3 := Nat.eq_of_beq_eq_true hl
    rw [hl] at hdg
    exact sInc_ok X hdg hK hf h
  | pop =>
    obtain ⟨hl, h⟩ := and2 h
    have hl : len = 1 := Nat.eq_of_beq_eq_true hl
    rw [hl] at hdg
    exact sPop_ok X hdg hK h
  | dup =>
    obtain ⟨hl, h⟩ := and2 h
    have hl : len = 1 := Nat.eq_of_beq_eq_true hl
    rw [hl] at hdg
    exact sDup_ok X hdg hK h
  | dup2 =>
    obtain ⟨hl, h⟩ := and2 h
    have hl : len = 1 := Nat.eq_of_beq_eq_true hl
    rw [hl] at hdg
    exact sDup2_ok X hdg hK h
  | getfield idx =>
    obtain ⟨hl, h⟩ := and2 h
    have hl : len = 3 := Nat.eq_of_beq_eq_true hl
    rw [hl] at hdg
    exact sGet_ok X hdg hF hK hf h
  | putfield idx =>
    obtain ⟨hl, h⟩ := and2 h
    have hl : len = 3 := Nat.eq_of_beq_eq_true hl
    rw [hl] at hdg
    exact sPut_ok X hdg hP hK h
  | iaload =>
    obtain ⟨hl, h⟩ := and2 h
    have hl : len = 1 := Nat.eq_of_beq_eq_true hl
    rw [hl] at hdg
    exact sAld_ok X (by decide) ⟨fun _ => hdg, fun q => absurd q (by decide), fun q => absurd q (by decide)⟩ hK hf h
  | laload =>
    obtain ⟨hl, h⟩ := and2 h
    have hl : len = 1 := Nat.eq_of_beq_eq_true hl
    rw [hl] at hdg
    exact sAld_ok X (by decide) ⟨fun q => absurd q (by decide), fun _ => hdg, fun q => absurd q (by decide)⟩ hK hf h
  | baload =>
    obtain ⟨hl, h⟩ := and2 h
    have hl : len = 1 := Nat.eq_of_beq_eq_true hl
    rw [hl] at hdg
    exact sAld_ok X (by decide) ⟨fun q => absurd q (by decide), fun q => absurd q (by decide), fun _ => hdg⟩ hK hf h
  | iastore =>
    obtain ⟨hl, h⟩ := and2 h
    have hl : len = 1 := Nat.eq_of_beq_eq_true hl
    rw [hl] at hdg
    exact sAst_ok X (by decide) ⟨fun _ => hdg, fun q => absurd q (by decide), fun q => absurd q (by decide)⟩ hK h
  | lastore =>
    obtain ⟨hl, h⟩ := and2 h
    have hl : len = 1 := Nat.eq_of_beq_eq_true hl
    rw [hl] at hdg
    exact sAst_ok X (by decide) ⟨fun q => absurd q (by decide), fun _ => hdg, fun q => absurd q (by decide)⟩ hK h
  | bastore =>
    obtain ⟨hl, h⟩ := and2 h
    have hl : len = 1 := Nat.eq_of_beq_eq_true hl
    rw [hl] at hdg
    exact sAst_ok X (by decide) ⟨fun q => absurd q (by decide), fun q => absurd q (by decide), fun _ => hdg⟩ hK h
  | aaload =>
    obtain ⟨hl, h⟩ := and2 h
    have hl : len = 1 := Nat.eq_of_beq_eq_true hl
    rw [hl] at hdg
    exact sAld3_ok X hdg hK hf h
  | if_icmp co off =>
    obtain ⟨hl, h⟩ := and2 h
    have hl : len = 3 := Nat.eq_of_beq_eq_true hl
    rw [hl] at hdg
    exact sBr_ok X hdg hK h
  | ifCond co off =>
    obtain ⟨hl, h⟩ := and2 h
    have hl : len = 3 := Nat.eq_of_beq_eq_true hl
    rw [hl] at hdg
    exact sBr0_ok X hdg hf hK h
  | lcmp =>
    obtain ⟨hl, h⟩ := and2 h
    have hl : len = 1 := Nat.eq_of_beq_eq_true hl
    rw [hl] at hdg
    cases hd0 : dlook tab (pc + 1) with
    | none => rw [hd0] at h; cases h
    | some z =>
      obtain ⟨i2, n2⟩ := z
      rw [hd0] at h
      have hd := htab _ (dlook_mem tab _ _ hd0)
      cases i2 with
      | ifCond co off =>
        obtain ⟨h1, h2⟩ := and2 h
        have h1 : n2 = 3 := Nat.eq_of_beq_eq_true h1
        have hd : decode cc (pc + 1) = .ok (.ifCond co off, n2) := hd
        rw [h1] at hd
        exact sBrL_ok X hdg hd hK h2
      | _ => cases h
  | arraylength =>
    obtain ⟨hl, h⟩ := and2 h
    have hl : len = 1 := Nat.eq_of_beq_eq_true hl
    rw [hl] at hdg
    exact sLen_ok X hdg hf hK h
  | ifnull off =>
    obtain ⟨hl, h⟩ := and2 h
    have hl : len = 3 := Nat.eq_of_beq_eq_true hl
    rw [hl] at hdg
    exact sNul_ok X ⟨fun _ => hdg, fun q => absurd q (by decide)⟩ hK h
  | ifnonnull off =>
    obtain ⟨hl, h⟩ := and2 h
    have hl : len = 3 := Nat.eq_of_beq_eq_true hl
    rw [hl] at hdg
    exact sNul_ok X ⟨fun q => absurd q (by decide), fun _ => hdg⟩ hK h
  | lookupswitch dflt ps =>
    exact sLook_ok X hdg hK h
  | goto off =>
    obtain ⟨hl, h⟩ := and2 h
    have hl : len = 3 := Nat.eq_of_beq_eq_true hl
    rw [hl] at hdg
    exact sGo_ok X hdg hK h
  | tableswitch dflt lo hi offs =>
    exact sTab_ok X hdg hK h
  | invokevirtual idx =>
    obtain ⟨hl, h⟩ := and2 h
    have hl : len = 3 := Nat.eq_of_beq_eq_true hl
    rw [hl] at hdg
    exact sCall_ok X hcal ⟨fun _ => hdg, fun q => absurd q (by decide)⟩ hkc hks hf hK h
  | invokestatic idx =>
    obtain ⟨hl, h⟩ := and2 h
    have hl : len = 3 := Nat.eq_of_beq_eq_true hl
    rw [hl] at hdg
    exact sCall_ok X hcal ⟨fun q => absurd q (by decide), fun _ => hdg⟩ hkc hks hf hK h
  | ireturn =>
    obtain ⟨hl, h⟩ := and2 h
    have hl : len = 1 := Nat.eq_of_beq_eq_true hl
    rw [hl] at hdg
    obtain ⟨h1, h⟩ := and2 h
    rw [Bool.or_eq_true] at h1
    have h1 : rk = 1 ∨ rk = 3 := h1.imp Nat.eq_of_beq_eq_true Nat.eq_of_beq_eq_true
    exact sRet_ok X hrk ⟨fun q => by omega, fun _ => hdg, fun q => by omega⟩ hc hs hp1 hp2 hl1 hl2 hPO h
  | lreturn =>
    obtain ⟨hl, h⟩ := and2 h
    have hl : len = 1 := Nat.eq_of_beq_eq_true hl
    rw [hl] at hdg
    obtain ⟨h1, h⟩ := and2 h
    have h1 : rk = 2 := Nat.eq_of_beq_eq_true h1
    exact sRet_ok X hrk ⟨fun q => by omega, fun q => by omega, fun _ => hdg⟩ hc hs hp1 hp2 hl1 hl2 hPO h
  | return_ =>
    obtain ⟨hl, h⟩ := and2 h
    have hl : len = 1 := Nat.eq_of_beq_eq_true hl
    rw [hl] at hdg
    obtain ⟨h1, h⟩ := and2 h
    have h1 : rk = 0 := Nat.eq_of_beq_eq_true h1
    exact sRet_ok X hrk ⟨fun _ => hdg, fun q => by omega, fun q => by omega⟩ hc hs hp1 hp2 hl1 hl2 hPO h
  | ineg =>
    obtain ⟨hl, h⟩ := and2 h
    have hl : len = 1 := Nat.eq_of_beq_eq_true hl
    rw [hl] at hdg
    exact sUn_ok X hdg hK hf h
  | lneg =>
    obtain ⟨hl, h⟩ := and2 h
    have hl : len = 1 := Nat.eq_of_beq_eq_true hl
    rw [hl] at hdg
    exact sUn_ok X hdg hK hf h
  | i2l =>
    obtain ⟨hl, h⟩ := and2 h
    have hl : len = 1 := Nat.eq_of_beq_eq_true hl
    rw [hl] at hdg
    exact sUn_ok X hdg hK hf h
  | l2i =>
    obtain ⟨hl, h⟩ := and2 h
    have hl : len = 1 := Nat.eq_of_beq_eq_true hl
    rw [hl] at hdg
    exact sUn_ok X hdg hK hf h
  | i2b =>
    obtain ⟨hl, h⟩ := and2 h
    have hl : len = 1 := Nat.eq_of_beq_eq_true hl
    rw [hl] at hdg
    exact sUn_ok X hdg hK hf h
  | i2s =>
    obtain ⟨hl, h⟩ := and2 h
    have hl : len = 1 := Nat.eq_of_beq_eq_true hl
    rw [hl] at hdg
    exact sUn_ok X hdg hK hf h
  | _ =>
    obtain ⟨hl, h⟩ := and2 h
    have hl : len = 1 := Nat.eq_of_beq_eq_true hl
    rw [hl] at hdg
    exact sBin_ok X hdg hK hf h
end AZA
end
section
/-! the run of a method from its start and from each cut; its contract -/
def acutAt : List CUT → Nat → Option CUT
  | [], _ => none
  | d :: l, pc => bif Nat.beq d.1 pc then some d else acutAt l pc
theorem acutAt_mem : ∀ (l : List CUT) (pc : Nat) (d : CUT), acutAt l pc = some d → d ∈ l ∧ d.1 = pc
  | [], pc, d, h => by cases h
  | p :: l, pc, d, h => by
    unfold acutAt at h
    cases hb : Nat.beq p.1 pc with
    | true =>
      rw [hb] at h
      cases h
      exact ⟨List.mem_cons_self, Nat.eq_of_beq_eq_true hb⟩
    | false =>
      rw [hb] at h
      obtain ⟨h1, h2⟩ := acutAt_mem l pc d h
      exact ⟨List.mem_cons_of_mem _ h1, h2⟩
noncomputable def aK (cuts : List CUT) (pids : List Nat) (sr : Option (Int × List (Int × Nat))) (X : KT) : KT := fun pc σ => match acutAt cuts pc with
  | some _ => cuts.any (fun d => Nat.beq d.1 pc && aarr pids sr d σ)
  | none => X pc σ
/-- hooks: steps of one's own -/
abbrev HKT : Type := Nat → AS → Option (List (Nat × AS))
def hk0 : HKT := fun _ _ => none
noncomputable def aexec (hk : HKT) (tab : DT) (nL : Nat) (T : List TE) (fld : List (Nat × Nat × Nat)) (put : List (Nat × Nat × Nat × Nat)) (cst cstl : List (Nat × Int)) (cal : List CAL) (rk : Nat) (C : CE) (cuts : List CUT) (pids : List Nat) (sr : Option (Int × List (Int × Nat))) : Nat → KT
  | 0, _, _ => false
  | n + 1, pc, σ => afr σ && (match hk pc σ with
    | some L => L.all (fun q => aK cuts pids sr (aexec hk tab nL T fld put cst cstl cal rk C cuts pids sr n) q.1 q.2)
    | none => (match dlook tab pc with
      | some q => sIns tab nL T C.2.2.2.2.1 fld put cst cstl cal C.2.2.2.2.2.1 C.2.2.2.2.2.2 rk C (aK cuts pids sr (aexec hk tab nL T fld put cst cstl cal rk C cuts pids sr n)) pc q.2 q.1 σ.1 σ.2.1 σ.2.2.1 σ.2.2.2.1 σ.2.2.2.2.1 σ.2.2.2.2.2
      | none => false))
def alv0 : Nat → Nat → List VT → ALv
  | _, _, [] => []
  | i, j, t :: ts => (i, j, Nat.beq t.1 1) :: alv0 (bif Nat.beq t.1 1 then i + 2 else i + 1) (j + 1) ts
def aslots : List VT → Nat
  | [] => 0
  | t :: ts => (bif Nat.beq t.1 1 then 2 else 1) + aslots ts
def ast0 (C : CE) : AS := (alv0 0 0 C.1, [], C.1.zipIdx.map (fun q => (q.2, q.1)) ++ C.2.1.zipIdx.map (fun q => (100 + q.2, q.1.2.2)), C.2.1.zipIdx.map (fun q => (q.1.1, q.1.2.1, 100 + q.2)), C.2.2.1, 1000)
def apids (C : CE) : List Nat := List.range C.1.length ++ (List.range C.2.1.length).map (fun j => 100 + j)
noncomputable def acheckH (hk : HKT) (tab : DT) (nL : Nat) (T : List TE) (fld : List (Nat × Nat × Nat)) (put : List (Nat × Nat × Nat × Nat)) (cst cstl : List (Nat × Int)) (cal : List CAL) (rk : Nat) (C : CE) (cuts : List CUT) (fuel : Nat) : Bool :=
  Nat.ble C.1.length 50 && (Nat.ble C.2.1.length 100 && (Nat.ble (aslots C.1) nL && (C.1.all (fun t => Nat.ble t.1 2) && (cuts.all (fun d => rposB d && (d.2.2.2.all (fun q => Nat.blt q.2 1000) && aexec hk tab nL T fld put cst cstl cal rk C cuts (apids C) (some (d.2.2.1, d.2.2.2)) fuel d.1 d.2.1)) && aK cuts (apids C) none (aexec hk tab nL T fld put cst cstl cal rk C cuts (apids C) none fuel) 0 (ast0 C)))))
noncomputable def acheck (tab : DT) (nL : Nat) (T : List TE) (fld : List (Nat × Nat × Nat)) (put : List (Nat × Nat × Nat × Nat)) (cst cstl : List (Nat × Int)) (cal : List CAL) (rk : Nat) (C : CE) (cuts : List CUT) (fuel : Nat) : Bool := acheckH hk0 tab nL T fld put cst cstl cal rk C cuts fuel
/-- a run from a state to its exits -/
noncomputable def acheckS (hk : HKT) (tab : DT) (nL : Nat) (T : List TE) (fld : List (Nat × Nat × Nat)) (put : List (Nat × Nat × Nat × Nat)) (cst cstl : List (Nat × Int)) (cal : List CAL) (rk : Nat) (C : CE) (cuts exs : List CUT) (pids : List Nat) (fuel pc : Nat) (σ : AS) : Bool :=
  Nat.ble C.1.length 50 && (Nat.ble C.2.1.length 100 && (cuts.all (fun d => rposB d && (d.2.2.2.all (fun q => Nat.blt q.2 1000) && aexec hk tab nL T fld put cst cstl cal rk C (cuts ++ exs) pids (some (d.2.2.1, d.2.2.2)) fuel d.1 d.2.1)) && (exs.all (fun d => rposB d) && aexec hk tab nL T fld put cst cstl cal rk C (cuts ++ exs) pids none fuel pc σ)))
/-! the run, faster -/
noncomputable def xstep (hk : HKT) (tab : DT) (nL : Nat) (T : List TE) (fld : List (Nat × Nat × Nat)) (put : List (Nat × Nat × Nat × Nat)) (cst cstl : List (Nat × Int)) (cal : List CAL) (rk : Nat) (C : CE) (K : KT) (pc : Nat) (σ : AS) : Bool := match σ with
  | (lv, st, ev, ca, rl, nx) => brc (xafr lv st ev ca rl nx) (match hk pc (lv, st, ev, ca, rl, nx) with
    | some L => L.all (fun q => K q.1 q.2)
    | none => (match dlx (dch tab) pc with
      | some q => (xI q.1).1 tnx (tnx T) (xputB (T.filter cod)) (xfn fld) (xfn put) (xfn cst) (xfn cstl) (dlx (dch tab)) nL C.2.2.2.2.1 cal C.2.2.2.2.2.1 C.2.2.2.2.2.2 rk C K pc q.2 lv st ev ca rl nx
      | none => false)) false
noncomputable def xexec (hk : HKT) (tab : DT) (nL : Nat) (T : List TE) (fld : List (Nat × Nat × Nat)) (put : List (Nat × Nat × Nat × Nat)) (cst cstl : List (Nat × Int)) (cal : List CAL) (rk : Nat) (C : CE) (cuts : List CUT) (pids : List Nat) (sr : Option (Int × List (Int × Nat))) (n : Nat) : KT := Nat.rec (motive := fun _ => KT) (fun _ _ => false) (fun _ X pc σ => xstep hk tab nL T fld put cst cstl cal rk C (aK cuts pids sr X) pc σ) n
theorem xexec_eq (hk : HKT) (tab : DT) (nL : Nat) (T : List TE) (fld : List (Nat × Nat × Nat)) (put : List (Nat × Nat × Nat × Nat)) (cst cstl : List (Nat × Int)) (cal : List CAL) (rk : Nat) (C : CE) (cuts : List CUT) (pids : List Nat) (sr : Option (Int × List (Int × Nat))) : ∀ n : Nat, xexec hk tab nL T fld put cst cstl cal rk C cuts pids sr n = aexec hk tab nL T fld put cst cstl cal rk C cuts pids sr n
  | 0 => by
    funext pc σ
    rfl
  | n + 1 => by
    have ih := xexec_eq hk tab nL T fld put cst cstl cal rk C cuts pids sr n
    funext pc σ
    obtain ⟨lv, st, ev, ca, rl, nx⟩ := σ
    show xstep hk tab nL T fld put cst cstl cal rk C (aK cuts pids sr (xexec hk tab nL T fld put cst cstl cal rk C cuts pids sr n)) pc (lv, st, ev, ca, rl, nx) = _
    rw [ih]
    unfold xstep aexec
    show brc (xafr lv st ev ca rl nx) _ false = _
    rw [bnd, xafr_eq, dlx_eq]
    cases hk pc (lv, st, ev, ca, rl, nx) with
    | some L => rfl
    | none =>
      cases dlook tab pc with
      | none => rfl
      | some q =>
        have e := xI_eq tab nL T C.2.2.2.2.1 fld put cst cstl cal C.2.2.2.2.2.1 C.2.2.2.2.2.2 rk C (aK cuts pids sr (aexec hk tab nL T fld put cst cstl cal rk C cuts pids sr n)) pc q.2 q.1 lv st ev ca rl nx
        rw [dlx_eq] at e
        exact congrArg (fun z => afr (lv, st, ev, ca, rl, nx) && z) e
noncomputable def xcheckH (hk : HKT) (tab : DT) (nL : Nat) (T : List TE) (fld : List (Nat × Nat × Nat)) (put : List (Nat × Nat × Nat × Nat)) (cst cstl : List (Nat × Int)) (cal : List CAL) (rk : Nat) (C : CE) (cuts : List CUT) (fuel : Nat) : Bool :=
  Nat.ble C.1.length 50 && (Nat.ble C.2.1.length 100 && (Nat.ble (aslots C.1) nL && (C.1.all (fun t => Nat.ble t.1 2) && (cuts.all (fun d => rposB d && (d.2.2.2.all (fun q => Nat.blt q.2 1000) && xexec hk tab nL T fld put cst cstl cal rk C cuts (apids C) (some (d.2.2.1, d.2.2.2)) fuel d.1 d.2.1)) && aK cuts (apids C) none (xexec hk tab nL T fld put cst cstl cal rk C cuts (apids C) none fuel) 0 (ast0 C)))))
theorem xcheckH_eq (hk : HKT) (tab : DT) (nL : Nat) (T : List TE) (fld : List (Nat × Nat × Nat)) (put : List (Nat × Nat × Nat × Nat)) (cst cstl : List (Nat × Int)) (cal : List CAL) (rk : Nat) (C : CE) (cuts : List CUT) (fuel : Nat) : xcheckH hk tab nL T fld put cst cstl cal rk C cuts fuel = acheckH hk tab nL T fld put cst cstl cal rk C cuts fuel := by
  unfold xcheckH acheckH
  simp only [xexec_eq]
noncomputable def xcheckS (hk : HKT) (tab : DT) (nL : Nat) (T : List TE) (fld : List (Nat × Nat × Nat)) (put : List (Nat × Nat × Nat × Nat)) (cst cstl : List (Nat × Int)) (cal : List CAL) (rk : Nat) (C : CE) (cuts exs : List CUT) (pids : List Nat) (fuel pc : Nat) (σ : AS) : Bool :=
  Nat.ble C.1.length 50 && (Nat.ble C.2.1.length 100 && (cuts.all (fun d => rposB d && (d.2.2.2.all (fun q => Nat.blt q.2 1000) && xexec hk tab nL T fld put cst cstl cal rk C (cuts ++ exs) pids (some (d.2.2.1, d.2.2.2)) fuel d.1 d.2.1)) && (exs.all (fun d => rposB d) && xexec hk tab nL T fld put cst cstl cal rk C (cuts ++ exs) pids none fuel pc σ)))
theorem xcheckS_eq (hk : HKT) (tab : DT) (nL : Nat) (T : List TE) (fld : List (Nat × Nat × Nat)) (put : List (Nat × Nat × Nat × Nat)) (cst cstl : List (Nat × Int)) (cal : List CAL) (rk : Nat) (C : CE) (cuts exs : List CUT) (pids : List Nat) (fuel pc : Nat) (σ : AS) : xcheckS hk tab nL T fld put cst cstl cal rk C cuts exs pids fuel pc σ = acheckS hk tab nL T fld put cst cstl cal rk C cuts exs pids fuel pc σ := by
  unfold xcheckS acheckS
  simp only [xexec_eq]
/-- the hooks are sound -/
def HOK (l : Launch) (G : KG) (T : List TE) (own : String) (cc : ByteArray) (nL : Nat) (ret : Option FieldType) (Rf Rl : Nat) (hk : HKT) : Prop := ∀ {p : Program} {e : Env} {R : Room} {s : State} {m : MethodId} {args : Array Value} {below : List Frame} {meth : Method} {c : Code} {A : Nat → Prop} {nm : String} {Q : State → Prop} {kc ks : Nat}, ZC p s m args meth c cc nL own G A ret nm → Rf = R.frames → Rl = R.locals → kc ≤ R.cells → ks ≤ R.slots → ∀ (ad : Nat → Nat) (mk : List (Nat × Nat)) (w0 : va_W) (pin : List (Nat × Value)) (pc : Nat) (σ : AS) (L : List (Nat × AS)), afr σ = true → hk pc σ = some L → (∀ q ∈ L, AQ p l e R s m args below meth c nL G A Q kc ks ad T mk w0 pin q.2 q.1) → AQ p l e R s m args below meth c nL G A Q kc ks ad T mk w0 pin σ pc
theorem hok0 {l : Launch} {G : KG} {T : List TE} {own : String} {cc : ByteArray} {nL : Nat} {ret : Option FieldType} {Rf Rl : Nat} : HOK l G T own cc nL ret Rf Rl hk0 := fun _ _ _ _ _ _ _ _ _ _ _ _ _ h => by cases h
section AZB
variable {p : Program} {l : Launch} {e : Env} {R : Room} {s : State} {m : MethodId} {args : Array Value} {below : List Frame} {meth : Method} {c : Code} {nL : Nat} {G : KG} {A : Nat → Prop} {cc : ByteArray} {own : String} {ret : Option FieldType} {nm : String} {kc ks mc ms : Nat}
variable {ad : Nat → Nat} {T : List TE} {w0 : va_W} {pin : List (Nat × Value)} {C : CE} {μ : Nat → Value} {PO : Option Value → va_W → Prop}
variable {lv : ALv} {st : List Nat} {ev : AEv} {ca : ACa} {rl : ARl} {nx pc rk : Nat} {K : KT}
variable {hk : HKT}
variable {fld : List (Nat × Nat × Nat)} {put : List (Nat × Nat × Nat × Nat)} {cst cstl : List (Nat × Int)} {cal : List CAL}
theorem aK_ok {cuts : List CUT} {pids : List Nat} {sr : Option (Int × List (Int × Nat))} {X : KT} (hcut : ∀ d pc σ, d ∈ cuts ∧ d.1 = pc → aarr pids sr d σ = true → AR p l e R s m args below meth c nL G A mc ms kc ks ad T C PO w0 pin σ pc) (hX : ∀ pc σ, X pc σ = true → AR p l e R s m args below meth c nL G A mc ms kc ks ad T C PO w0 pin σ pc) : ∀ pc σ, aK cuts pids sr X pc σ = true → AR p l e R s m args below meth c nL G A mc ms kc ks ad T C PO w0 pin σ pc := by
  intro pc σ h
  unfold aK at h
  cases hd : acutAt cuts pc with
  | none => rw [hd] at h; exact hX pc σ h
  | some d0 =>
    rw [hd] at h
    obtain ⟨d, d1, d2⟩ := List.any_eq_true.mp h
    obtain ⟨d2, d3⟩ := and2 d2
    exact hcut d pc σ ⟨d1, Nat.eq_of_beq_eq_true d2⟩ d3
theorem aexec_ok {tab : DT} (htab : ∀ q ∈ tab, decode cc q.1 = .ok q.2) (X : ZC p s m args meth c cc nL own G A ret nm) (hR1 : C.2.2.2.2.2.1 = R.frames) (hR2 : C.2.2.2.2.2.2 = R.locals) (hhk : HOK l G T own cc nL ret C.2.2.2.2.2.1 C.2.2.2.2.2.2 hk) (hrk : RK rk ret) (hc : kc ≤ mc) (hs : ks ≤ ms) (hp1 : ∀ j, j < C.1.length → (j, μ j) ∈ pin) (hp2 : ∀ j, j < C.2.1.length → (100 + j, μ (100 + j)) ∈ pin) (hl1 : C.1.length ≤ 50) (hl2 : C.2.1.length ≤ 100) (hPO : ∀ r w1, POST G ad T C μ w0 r w1 → PO r w1)
    (hF : ∀ q ∈ fld, FL own q.1 q.2.1 q.2.2 ∨ FN own q.1 q.2.1 q.2.2) (hP : ∀ q ∈ put, PA own q.1 q.2.1 q.2.2.1 q.2.2.2) (hC : ∀ q ∈ cst, ∃ x : Int32, x.toInt = q.2 ∧ Jvm.Cond.constant own q.1 x ∈ BIG) (hCl : ∀ q ∈ cstl, ∃ x : Int64, x.toInt = q.2 ∧ Jvm.Cond.constantLong own q.1 x ∈ BIG) (hcal : ∀ q ∈ cal, COK l G own T q) (hkc : kc ≤ R.cells) (hks : ks ≤ R.slots)
    {cuts : List CUT} {pids : List Nat} {sr : Option (Int × List (Int × Nat))} (hcut : ∀ d pc σ, d ∈ cuts ∧ d.1 = pc → aarr pids sr d σ = true → AR p l e R s m args below meth c nL G A mc ms kc ks ad T C PO w0 pin σ pc) : ∀ (n pc : Nat) (σ : AS), aexec hk tab nL T fld put cst cstl cal rk C cuts pids sr n pc σ = true → AR p l e R s m args below meth c nL G A mc ms kc ks ad T C PO w0 pin σ pc
  | 0, pc, σ, h => by cases h
  | n + 1, pc, σ, h => by
    unfold aexec at h
    obtain ⟨hf, h⟩ := and2 h
    have ih := aexec_ok htab X hR1 hR2 hhk hrk hc hs hp1 hp2 hl1 hl2 hPO hF hP hC hCl hcal hkc hks hcut n
    cases hh : hk pc σ with
    | some L =>
      rw [hh] at h
      exact hhk X hR1 hR2 hkc hks ad _ w0 pin pc σ L hf hh (fun q hq => aK_ok hcut ih _ _ (List.all_eq_true.mp h q hq))
    | none =>
      rw [hh] at h
      cases hd0 : dlook tab pc with
      | none => rw [hd0] at h; cases h
      | some z =>
        rw [hd0] at h
        have hd := htab _ (dlook_mem tab _ _ hd0)
        obtain ⟨i, len⟩ := z
        obtain ⟨lv, st, ev, ca, rl, nx⟩ := σ
        have h : sIns tab nL T C.2.2.2.2.1 fld put cst cstl cal C.2.2.2.2.2.1 C.2.2.2.2.2.2 rk C (aK cuts pids sr (aexec hk tab nL T fld put cst cstl cal rk C cuts pids sr n)) pc len i lv st ev ca rl nx = true := h
        rw [hR1, hR2] at h
        exact sIns_ok X htab hd hrk hc hs hp1 hp2 hl1 hl2 hPO hF hP hC hCl hcal hkc hks hf (aK_ok hcut ih) h
theorem rpos_ok {ν : Nat → Value} {mk : List (Nat × Nat)} {ws : va_W} (h : AK G ad T mk w0 pin (lv, st, ev, ca, rl, nx) ν ws) : ∀ (ts : List (Int × Nat)), rsum ts ν ≤ ts.foldr (fun q acc => tub ev rl q.1 q.2 + acc) 0
  | [] => Int.le_refl _
  | q :: ts => by
    have h1 := h.sTub q.1 q.2
    have h2 := rpos_ok h ts
    show q.1 * vI (ν q.2) + rsum ts ν ≤ tub ev rl q.1 q.2 + _
    omega
theorem rsum_pin {ν ν' : Nat → Value} : ∀ (ts : List (Int × Nat)), (∀ q ∈ ts, ν' q.2 = ν q.2) → rsum ts ν' = rsum ts ν
  | [], _ => rfl
  | q :: ts, h => by
    show q.1 * vI (ν' q.2) + rsum ts ν' = q.1 * vI (ν q.2) + rsum ts ν
    rw [h q List.mem_cons_self, rsum_pin ts (fun q hq => h q (List.mem_cons_of_mem _ hq))]
theorem AG.weak {mk : List (Nat × Nat)} {pin2 : List (Nat × Value)} {σ : AS} {ν : Nat → Value} {lw : List (Nat × Value)} {sw : List Value} {ws : va_W} (h : AG G ad T mk w0 pin2 σ ν lw sw ws) (hp : ∀ q ∈ pin, q ∈ pin2) : AG G ad T mk w0 pin σ ν lw sw ws := ⟨h.1, h.2.1, h.2.2.1, h.2.2.2.1, h.2.2.2.2.1, h.2.2.2.2.2.1, fun q hq => h.2.2.2.2.2.2.1 q (hp q hq), h.2.2.2.2.2.2.2⟩
theorem Z.mono {Q : State → Prop} {lw lw' : List (Nat × Value)} {sw : List Value} {ws : va_W} (h : ∀ q ∈ lw', q ∈ lw) (k : Z p l e R s m args below meth c nL G A Q pc lw' sw ws kc ks) : Z p l e R s m args below meth c nL G A Q pc lw sw ws kc ks := fun H locs ls hP hD hS hl => k H locs ls hP hD hS ⟨hl.1, hl.2.1, fun q hq => hl.2.2 q (h q hq)⟩
/-- arriving at a cut: its own state, nearer to the end -/
theorem aarr_ok {mk : List (Nat × Nat)} {pids : List Nat} {sr : Option (Int × List (Int × Nat))} {d : CUT} {σ : AS} {ν : Nat → Value} {lw : List (Nat × Value)} {sw : List Value} {ws : va_W} (hg : AG G ad T mk w0 pin σ ν lw sw ws) (hpin : ∀ q ∈ pin, q.1 ∈ pids) (h : aarr pids sr d σ = true) (hpos : rposB d = true) : ∃ (ν' : Nat → Value) (lw' : List (Nat × Value)), AG G ad T mk w0 pin d.2.1 ν' lw' sw ws ∧ (∀ q ∈ lw', q ∈ lw) ∧ 0 ≤ d.2.2.1 - rsum d.2.2.2 ν' ∧ ∀ s0, sr = some s0 → d.2.2.1 - rsum d.2.2.2 ν' < s0.1 - rsum s0.2 ν := by
  obtain ⟨lv, st, ev, ca, rl, nx⟩ := σ
  unfold aarr at h
  cases hm : amap pids (lv, st, ev, ca, rl, nx) d.2.1 with
  | none => simp only [hm] at h; cases h
  | some mm =>
    simp only [hm] at h
    obtain ⟨h1, h2⟩ := and2 h
    obtain ⟨g1, g2⟩ := hg.sub hpin hm h1
    refine ⟨_, _, g1, g2, ?_, fun s0 hs0 => ?_⟩
    · have hp := of_decide_eq_true hpos
      obtain ⟨pcd, ⟨lvd, std, evd, cad, rld, nxd⟩, Kd, td⟩ := d
      have h3 := rpos_ok (lv := lvd) (st := std) (ev := evd) (ca := cad) (rl := rld) (nx := nxd) g1.2.2 td
      have hp : td.foldr (fun q acc => tub evd rld q.1 q.2 + acc) 0 ≤ Kd := hp
      show 0 ≤ Kd - rsum td _
      omega
    · subst hs0
      have h2 : rdec ev rl mm (some s0) d = true := h2
      unfold rdec at h2
      cases hr : rub ev rl mm s0.2 d.2.2.2 with
      | none => simp only [hr] at h2; cases h2
      | some r =>
        simp only [hr] at h2
        have h2 := of_decide_eq_true h2
        have h3 := AK.sRub (lv := lv) (st := st) (ca := ca) (nx := nx) hg.2.2 s0.2 d.2.2.2 r hr
        omega
theorem lv0_ok {ad : Nat → Nat} : ∀ (ts : List VT) (i j : Nat), (∀ t ∈ ts, t.1 ≤ 2) → (∀ k t, ts[k]? = some t → vty ad t (μ (j + k))) → lv_args i ((List.range' j ts.length).map μ) = (alv0 i j ts).map (fun q => (q.1, μ q.2.1)) ∧ (∀ q ∈ alv0 i j ts, (μ q.2.1).category = bif q.2.2 then 2 else 1) ∧ (lg_sl ((List.range' j ts.length).map μ)).length = aslots ts
  | [], i, j, _, _ => ⟨rfl, fun q hq => (by cases hq), rfl⟩
  | t :: ts, i, j, h2, h => by
    have h0 := h 0 t rfl
    have hc : (μ j).category = bif Nat.beq t.1 1 then 2 else 1 := by
      rcases h0 with ⟨e, ⟨x, hx⟩, -⟩ | ⟨e, ⟨x, hx⟩, -⟩ | ⟨e, hx⟩ | ⟨e, -⟩
      · rw [show μ (j + 0) = μ j from rfl] at hx
        rw [e, hx]; rfl
      · rw [show μ (j + 0) = μ j from rfl] at hx
        rw [e, hx]; rfl
      · rw [show μ (j + 0) = μ j from rfl] at hx
        rw [e, hx]; rfl
      · have := h2 t List.mem_cons_self
        omega
    obtain ⟨r1, r2, r3⟩ := lv0_ok ts (bif Nat.beq t.1 1 then i + 2 else i + 1) (j + 1) (fun t ht => h2 t (List.mem_cons_of_mem _ ht)) (fun k t' hk => by
      have := h (k + 1) t' (by simpa using hk)
      rw [show j + 1 + k = j + (k + 1) by omega]
      exact this)
    have hi : (if (μ j).category = 2 then i + 2 else i + 1) = bif Nat.beq t.1 1 then i + 2 else i + 1 := by
      rw [hc]
      cases Nat.beq t.1 1 <;> rfl
    refine ⟨?_, fun q hq => ?_, ?_⟩
    · show lv_args i (μ j :: (List.range' (j + 1) ts.length).map μ) = (i, μ j) :: (alv0 _ (j + 1) ts).map (fun q => (q.1, μ q.2.1))
      show (i, μ j) :: lv_args (if (μ j).category = 2 then i + 2 else i + 1) ((List.range' (j + 1) ts.length).map μ) = _
      rw [hi, r1]
    · rcases List.mem_cons.mp hq with e | hq
      · rw [e]; exact hc
      · exact r2 q hq
    · show (lg_sl (μ j :: (List.range' (j + 1) ts.length).map μ)).length = (bif Nat.beq t.1 1 then 2 else 1) + aslots ts
      unfold lg_sl at r3 ⊢
      rw [List.flatMap_cons, List.length_append, r3]
      congr 1
      cases hb : Nat.beq t.1 1 with
      | true =>
        rw [hb] at hc
        have hc : (μ j).category = 2 := hc
        rw [if_pos hc]; rfl
      | false =>
        rw [hb] at hc
        have hc : (μ j).category = 1 := hc
        rw [if_neg (by omega)]; rfl
set_option maxHeartbeats 1000000 in
/-- a method's contract, by its check -/
theorem acertH {y : MethodName} {tab : DT} {cuts : List CUT} {fuel : Nat} (hy : plainName y.cls = true) (hrk : RK rk ret)
    (hF : ∀ q ∈ fld, FL y.cls q.1 q.2.1 q.2.2 ∨ FN y.cls q.1 q.2.1 q.2.2) (hP : ∀ q ∈ put, PA y.cls q.1 q.2.1 q.2.2.1 q.2.2.2) (hC : ∀ q ∈ cst, ∃ x : Int32, x.toInt = q.2 ∧ Jvm.Cond.constant y.cls q.1 x ∈ BIG) (hCl : ∀ q ∈ cstl, ∃ x : Int64, x.toInt = q.2 ∧ Jvm.Cond.constantLong y.cls q.1 x ∈ BIG) (hcal : ∀ q ∈ cal, COK l G y.cls T q) (htab : dtOK cc tab = true) (hhk : HOK l G T y.cls cc nL ret C.2.2.2.2.2.1 C.2.2.2.2.2.2 hk)
    (h : xcheckH hk tab nL T fld put cst cstl cal rk C cuts fuel = true) : ACt l G T y cc nL ret C := by
  rw [xcheckH_eq] at h
  unfold acheckH at h
  obtain ⟨c1, h⟩ := and2 h
  obtain ⟨c2, h⟩ := and2 h
  obtain ⟨c3, h⟩ := and2 h
  obtain ⟨c4, h⟩ := and2 h
  obtain ⟨c5, h⟩ := and2 h
  have c1 := Nat.le_of_ble_eq_true c1
  have c2 := Nat.le_of_ble_eq_true c2
  intro ad w0 μ hW hPre
  obtain ⟨r1, r2, r3⟩ := lv0_ok (μ := μ) (ad := ad) C.1 0 0 (fun t ht => Nat.le_of_ble_eq_true (List.all_eq_true.mp c4 t ht)) (fun k t hk => by rw [Nat.zero_add]; exact hPre.1 k t hk)
  rw [List.range_eq_range']
  refine ct_of _ hy (by rw [r3]; exact Nat.le_of_ble_eq_true c3) rfl ?_
  intro p e s m args below meth c A X
  obtain ⟨pin, hpin⟩ : ∃ pin : List (Nat × Value), pin = (List.range C.1.length).map (fun j => (j, μ j)) ++ (List.range C.2.1.length).map (fun j => (100 + j, μ (100 + j))) := ⟨_, rfl⟩
  have hp1 : ∀ j, j < C.1.length → (j, μ j) ∈ pin := fun j hj => by rw [hpin]; exact List.mem_append_left _ (List.mem_map.mpr ⟨j, List.mem_range.mpr hj, rfl⟩)
  have hp2 : ∀ j, j < C.2.1.length → (100 + j, μ (100 + j)) ∈ pin := fun j hj => by rw [hpin]; exact List.mem_append_right _ (List.mem_map.mpr ⟨j, List.mem_range.mpr hj, rfl⟩)
  have hpids : ∀ q ∈ pin, q.1 ∈ apids C := by
    intro q hq
    rw [hpin] at hq
    unfold apids
    rcases List.mem_append.mp hq with hq | hq
    · obtain ⟨j, hj, rfl⟩ := List.mem_map.mp hq
      exact List.mem_append_left _ hj
    · obtain ⟨j, hj, rfl⟩ := List.mem_map.mp hq
      exact List.mem_append_right _ (List.mem_map.mpr ⟨j, hj, rfl⟩)
  have hpin2 : ∀ q ∈ pin, q.1 < 1000 ∧ μ q.1 = q.2 := by
    intro q hq
    rw [hpin] at hq
    rcases List.mem_append.mp hq with hq | hq
    · obtain ⟨j, hj, rfl⟩ := List.mem_map.mp hq
      have := List.mem_range.mp hj
      exact ⟨by show j < 1000; omega, rfl⟩
    · obtain ⟨j, hj, rfl⟩ := List.mem_map.mp hq
      have := List.mem_range.mp hj
      exact ⟨by show 100 + j < 1000; omega, rfl⟩
  have main : ∀ (N : Nat) (d : CUT), d ∈ cuts → ∀ (ν : Nat → Value) (lw : List (Nat × Value)) (sw : List Value) (ws : va_W), AG G ad T C.2.2.2.2.1 w0 pin d.2.1 ν lw sw ws → (d.2.2.1 - rsum d.2.2.2 ν).toNat < N → Z p l e (rmOf C) s m args below meth c nL G A (MQ below (QQ G A (fun r w1 => POST G ad T C μ w0 r w1)) args s (rmOf C).cells (rmOf C).slots A) d.1 lw sw ws 0 0 := by
    intro N
    induction N with
    | zero => intro d _ ν lw sw ws _ h9; exact absurd h9 (Nat.not_lt_zero _)
    | succ N ih =>
      intro d hd ν lw sw ws hg hN
      have hdc := List.all_eq_true.mp c5 d hd
      obtain ⟨d1, d2⟩ := and2 hdc
      obtain ⟨d2, d3⟩ := and2 d2
      obtain ⟨pin', hpin'⟩ : ∃ pin' : List (Nat × Value), pin' = pin ++ d.2.2.2.map (fun q => (q.2, ν q.2)) := ⟨_, rfl⟩
      have hsub : ∀ q ∈ pin, q ∈ pin' := fun q hq => by rw [hpin']; exact List.mem_append_left _ hq
      have hg' : AG G ad T C.2.2.2.2.1 w0 pin' d.2.1 ν lw sw ws := by
        refine ⟨hg.1, hg.2.1, hg.2.2.1, hg.2.2.2.1, hg.2.2.2.2.1, hg.2.2.2.2.2.1, fun q hq => ?_, hg.2.2.2.2.2.2.2⟩
        rw [hpin'] at hq
        rcases List.mem_append.mp hq with hq | hq
        · exact hg.2.2.2.2.2.2.1 q hq
        · obtain ⟨z, hz, rfl⟩ := List.mem_map.mp hq
          exact ⟨blt_lt (List.all_eq_true.mp d2 z hz), rfl⟩
      refine aexec_ok (dt_ok htab) (R := rmOf C) (pin := pin') X rfl rfl hhk hrk (Nat.le_refl 0) (Nat.le_refl 0) (fun j hj => hsub _ (hp1 j hj)) (fun j hj => hsub _ (hp2 j hj)) c1 c2 (fun _ _ h => h) hF hP hC hCl hcal (Nat.le_refl 0) (Nat.le_refl 0) ?_ fuel d.1 d.2.1 d3 ν lw sw ws hg'
      intro d' pc' σ hd' ha ν2 lw2 sw2 ws2 hg2
      obtain ⟨m1, m2⟩ := hd'
      obtain ⟨ν3, lw3, q1, q2, q3, q4⟩ := aarr_ok (hg2.weak hsub) hpids ha (and2 (List.all_eq_true.mp c5 d' m1)).1
      have q4 := q4 _ rfl
      have e1 : rsum d.2.2.2 ν2 = rsum d.2.2.2 ν := rsum_pin _ (fun z hz => by
        have := (hg2.2.2.2.2.2.2.1 (z.2, ν z.2) (by rw [hpin']; exact List.mem_append_right _ (List.mem_map.mpr ⟨z, hz, rfl⟩))).2
        exact this)
      have q4 : d'.2.2.1 - rsum d'.2.2.2 ν3 < d.2.2.1 - rsum d.2.2.2 ν2 := q4
      rw [e1] at q4
      rw [← m2]
      exact Z.mono q2 (ih d' m1 ν3 lw3 sw2 ws2 q1 (by omega))
  have hcut0 : ∀ d pc σ, d ∈ cuts ∧ d.1 = pc → aarr (apids C) none d σ = true → AR p l e (rmOf C) s m args below meth c nL G A (rmOf C).cells (rmOf C).slots 0 0 ad T C (fun r w1 => POST G ad T C μ w0 r w1) w0 pin σ pc := by
    intro d' pc' σ hd' ha ν2 lw2 sw2 ws2 hg2
    obtain ⟨m1, m2⟩ := hd'
    obtain ⟨ν3, lw3, q1, q2, -, -⟩ := aarr_ok hg2 hpids ha (and2 (List.all_eq_true.mp c5 d' m1)).1
    rw [← m2]
    exact Z.mono q2 (main _ d' m1 ν3 lw3 sw2 ws2 q1 (Nat.lt_succ_self _))
  have hrun := aK_ok hcut0 (aexec_ok (dt_ok htab) (R := rmOf C) (pin := pin) X rfl rfl hhk hrk (Nat.le_refl 0) (Nat.le_refl 0) hp1 hp2 c1 c2 (fun _ _ h => h) hF hP hC hCl hcal (Nat.le_refl 0) (Nat.le_refl 0) hcut0 fuel) 0 (ast0 C) h
  refine hrun μ _ [] w0 ⟨r1, rfl, r2, fun q hq => ?_, fun q hq => ?_, hPre.2.2, hpin2, hW, rfl, fun k j _ => rfl⟩
  · rcases List.mem_append.mp hq with hq | hq
    · obtain ⟨z, hz, rfl⟩ := List.mem_map.mp hq
      exact hPre.1 z.2 z.1 (zipIdx_mem hz)
    · obtain ⟨z, hz, rfl⟩ := List.mem_map.mp hq
      exact (hPre.2.1 z.2 z.1 (zipIdx_mem hz)).1
  · obtain ⟨z, hz, rfl⟩ := List.mem_map.mp hq
    exact (hPre.2.1 z.2 z.1 (zipIdx_mem hz)).2
theorem acert {y : MethodName} {tab : DT} {cuts : List CUT} {fuel : Nat} (hy : plainName y.cls = true) (hrk : RK rk ret)
    (hF : ∀ q ∈ fld, FL y.cls q.1 q.2.1 q.2.2 ∨ FN y.cls q.1 q.2.1 q.2.2) (hP : ∀ q ∈ put, PA y.cls q.1 q.2.1 q.2.2.1 q.2.2.2) (hC : ∀ q ∈ cst, ∃ x : Int32, x.toInt = q.2 ∧ Jvm.Cond.constant y.cls q.1 x ∈ BIG) (hCl : ∀ q ∈ cstl, ∃ x : Int64, x.toInt = q.2 ∧ Jvm.Cond.constantLong y.cls q.1 x ∈ BIG) (hcal : ∀ q ∈ cal, COK l G y.cls T q) (htab : dtOK cc tab = true)
    (h : xcheckH hk0 tab nL T fld put cst cstl cal rk C cuts fuel = true) : ACt l G T y cc nL ret C := acertH hy hrk hF hP hC hCl hcal htab hok0 h
set_option maxHeartbeats 1000000 in
/-- from a state to the exits -/
theorem aseg {tab : DT} {cuts exs : List CUT} {pids : List Nat} {fuel : Nat} {σ : AS} (htab : dtOK cc tab = true) (X : ZC p s m args meth c cc nL own G A ret nm) (hR1 : C.2.2.2.2.2.1 = R.frames) (hR2 : C.2.2.2.2.2.2 = R.locals) (hhk : HOK l G T own cc nL ret C.2.2.2.2.2.1 C.2.2.2.2.2.2 hk) (hrk : RK rk ret) (hc : kc ≤ mc) (hs : ks ≤ ms) (hp1 : ∀ j, j < C.1.length → (j, μ j) ∈ pin) (hp2 : ∀ j, j < C.2.1.length → (100 + j, μ (100 + j)) ∈ pin) (hPO : ∀ r w1, POST G ad T C μ w0 r w1 → PO r w1)
    (hF : ∀ q ∈ fld, FL own q.1 q.2.1 q.2.2 ∨ FN own q.1 q.2.1 q.2.2) (hP : ∀ q ∈ put, PA own q.1 q.2.1 q.2.2.1 q.2.2.2) (hC : ∀ q ∈ cst, ∃ x : Int32, x.toInt = q.2 ∧ Jvm.Cond.constant own q.1 x ∈ BIG) (hCl : ∀ q ∈ cstl, ∃ x : Int64, x.toInt = q.2 ∧ Jvm.Cond.constantLong own q.1 x ∈ BIG) (hcal : ∀ q ∈ cal, COK l G own T q) (hkc : kc ≤ R.cells) (hks : ks ≤ R.slots)
    (hpids : ∀ q ∈ pin, q.1 ∈ pids) (h : xcheckS hk tab nL T fld put cst cstl cal rk C cuts exs pids fuel pc σ = true)
    (hx : ∀ d ∈ exs, ∀ (ν : Nat → Value) (lw : List (Nat × Value)) (sw : List Value) (ws : va_W), AG G ad T C.2.2.2.2.1 w0 pin d.2.1 ν lw sw ws → Z p l e R s m args below meth c nL G A (MQ below (QQ G A PO) args s mc ms A) d.1 lw sw ws kc ks) : AR p l e R s m args below meth c nL G A mc ms kc ks ad T C PO w0 pin σ pc := by
  rw [xcheckS_eq] at h
  unfold acheckS at h
  obtain ⟨c1, h⟩ := and2 h
  obtain ⟨c2, h⟩ := and2 h
  obtain ⟨c5, h⟩ := and2 h
  obtain ⟨c6, h⟩ := and2 h
  have c1 := Nat.le_of_ble_eq_true c1
  have c2 := Nat.le_of_ble_eq_true c2
  have rp : ∀ d ∈ cuts ++ exs, rposB d = true := fun d hd => (List.mem_append.mp hd).elim (fun m1 => (and2 (List.all_eq_true.mp c5 d m1)).1) (fun m1 => List.all_eq_true.mp c6 d m1)
  have main : ∀ (N : Nat) (d : CUT), d ∈ cuts → ∀ (ν : Nat → Value) (lw : List (Nat × Value)) (sw : List Value) (ws : va_W), AG G ad T C.2.2.2.2.1 w0 pin d.2.1 ν lw sw ws → (d.2.2.1 - rsum d.2.2.2 ν).toNat < N → Z p l e R s m args below meth c nL G A (MQ below (QQ G A PO) args s mc ms A) d.1 lw sw ws kc ks := by
    intro N
    induction N with
    | zero => intro d _ ν lw sw ws _ h9; exact absurd h9 (Nat.not_lt_zero _)
    | succ N ih =>
      intro d hd ν lw sw ws hg hN
      have hdc := List.all_eq_true.mp c5 d hd
      obtain ⟨d1, d2⟩ := and2 hdc
      obtain ⟨d2, d3⟩ := and2 d2
      obtain ⟨pin', hpin'⟩ : ∃ pin' : List (Nat × Value), pin' = pin ++ d.2.2.2.map (fun q => (q.2, ν q.2)) := ⟨_, rfl⟩
      have hsub : ∀ q ∈ pin, q ∈ pin' := fun q hq => by rw [hpin']; exact List.mem_append_left _ hq
      have hg' : AG G ad T C.2.2.2.2.1 w0 pin' d.2.1 ν lw sw ws := by
        refine ⟨hg.1, hg.2.1, hg.2.2.1, hg.2.2.2.1, hg.2.2.2.2.1, hg.2.2.2.2.2.1, fun q hq => ?_, hg.2.2.2.2.2.2.2⟩
        rw [hpin'] at hq
        rcases List.mem_append.mp hq with hq | hq
        · exact hg.2.2.2.2.2.2.1 q hq
        · obtain ⟨z, hz, rfl⟩ := List.mem_map.mp hq
          exact ⟨blt_lt (List.all_eq_true.mp d2 z hz), rfl⟩
      refine aexec_ok (dt_ok htab) (pin := pin') X hR1 hR2 hhk hrk hc hs (fun j hj => hsub _ (hp1 j hj)) (fun j hj => hsub _ (hp2 j hj)) c1 c2 hPO hF hP hC hCl hcal hkc hks ?_ fuel d.1 d.2.1 d3 ν lw sw ws hg'
      intro d' pc' σ hd' ha ν2 lw2 sw2 ws2 hg2
      obtain ⟨m1, m2⟩ := hd'
      obtain ⟨ν3, lw3, q1, q2, q3, q4⟩ := aarr_ok (hg2.weak hsub) hpids ha (rp d' m1)
      have q4 := q4 _ rfl
      have e1 : rsum d.2.2.2 ν2 = rsum d.2.2.2 ν := rsum_pin _ (fun z hz => by
        have := (hg2.2.2.2.2.2.2.1 (z.2, ν z.2) (by rw [hpin']; exact List.mem_append_right _ (List.mem_map.mpr ⟨z, hz, rfl⟩))).2
        exact this)
      have q4 : d'.2.2.1 - rsum d'.2.2.2 ν3 < d.2.2.1 - rsum d.2.2.2 ν2 := q4
      rw [e1] at q4
      rw [← m2]
      rcases List.mem_append.mp m1 with m1 | m1
      · exact Z.mono q2 (ih d' m1 ν3 lw3 sw2 ws2 q1 (by omega))
      · exact Z.mono q2 (hx d' m1 ν3 lw3 sw2 ws2 q1)
  have hcut0 : ∀ d pc σ, d ∈ cuts ++ exs ∧ d.1 = pc → aarr pids none d σ = true → AR p l e R s m args below meth c nL G A mc ms kc ks ad T C PO w0 pin σ pc := by
    intro d' pc' σ hd' ha ν2 lw2 sw2 ws2 hg2
    obtain ⟨m1, m2⟩ := hd'
    obtain ⟨ν3, lw3, q1, q2, -, -⟩ := aarr_ok hg2 hpids ha (rp d' m1)
    rw [← m2]
    rcases List.mem_append.mp m1 with m1 | m1
    · exact Z.mono q2 (main _ d' m1 ν3 lw3 sw2 ws2 q1 (Nat.lt_succ_self _))
    · exact Z.mono q2 (hx d' m1 ν3 lw3 sw2 ws2 q1)
  exact aexec_ok (dt_ok htab) X hR1 hR2 hhk hrk hc hs hp1 hp2 c1 c2 hPO hF hP hC hCl hcal hkc hks hcut0 fuel pc σ h
end AZB
end
section
/-! calls, from a link and a contract -/
theorem cok_v {l : Launch} {G : KG} {own : String} {T : List TE} {idx mx : Nat} {Cn : String} {y : MethodName} {cy : ByteArray} {rt : Option FieldType} {n ci : Nat} {C : CE} {t : VT} {ts : List VT} {vc : vw_C} (hL : LkV own idx Cn y cy mx rt n) (hA : ACt l G T y cy mx rt C) (h1 : C.1.length = n + 1) (h2 : C.1[0]? = some t) (h3 : t.1 = 2) (hT : T[t.2.1.toNat]? = some (.inl (ci, ts))) (hv : vwCl[ci]? = some vc) (hn : vc.1 = Cn) : COK l G own T (idx, 0, mx, C) := Or.inl ⟨rfl, Cn, y, cy, rt, n, _, ci, ts, t, vc, Or.inl hL, hA, h1, h2, h3, rfl, hT, hv, hn⟩
theorem cok_vn {l : Launch} {G : KG} {own : String} {T : List TE} {idx mx : Nat} {Cn : String} {y : MethodName} {cy : ByteArray} {rt : Option FieldType} {n ci : Nat} {C : CE} {t : VT} {ts : List VT} {vc : vw_C} (hL : LnV own idx Cn y cy mx rt n) (hA : ACt l G T y cy mx rt C) (h1 : C.1.length = n + 1) (h2 : C.1[0]? = some t) (h3 : t.1 = 2) (hT : T[t.2.1.toNat]? = some (.inl (ci, ts))) (hv : vwCl[ci]? = some vc) (hn : vc.1 = Cn) : COK l G own T (idx, 0, mx, C) := Or.inl ⟨rfl, Cn, y, cy, rt, n, _, ci, ts, t, vc, Or.inr hL, hA, h1, h2, h3, rfl, hT, hv, hn⟩
theorem cok_s {l : Launch} {G : KG} {own : String} {T : List TE} {idx mx : Nat} {y : MethodName} {cy : ByteArray} {rt : Option FieldType} {n : Nat} {C : CE} (hL : LkS own idx y cy mx rt n) (hA : ACt l G T y cy mx rt C) (h1 : C.1.length = n) : COK l G own T (idx, 1, mx, C) := Or.inr (Or.inl ⟨rfl, y, cy, rt, n, Or.inl hL, hA, h1⟩)
theorem cok_sn {l : Launch} {G : KG} {own : String} {T : List TE} {idx mx : Nat} {y : MethodName} {cy : ByteArray} {rt : Option FieldType} {n : Nat} {C : CE} (hL : LnS own idx y cy mx rt n) (hA : ACt l G T y cy mx rt C) (h1 : C.1.length = n) : COK l G own T (idx, 1, mx, C) := Or.inr (Or.inl ⟨rfl, y, cy, rt, n, Or.inr hL, hA, h1⟩)
theorem cok_m {l : Launch} {G : KG} {own : String} {T : List TE} {idx mx : Nat} {C : CE} (h : MROW l G own T (idx, 1, mx, C)) : COK l G own T (idx, 1, mx, C) := Or.inr (Or.inr ⟨rfl, h⟩)
theorem post_pure {G : KG} {ad : Nat → Nat} {T : List TE} {C : CE} {μ : Nat → Value} {ws : va_W} {v : Value} {t : VT} {rl : ARl} (hA : ((some t, [], [], rl) : ALT) ∈ C.2.2.2.1) (hW : WT G ad T ws) (hv : vty ad t v) (hr : ∀ q ∈ rl, vI (nup μ 50 v q.1) ≤ vI (nup μ 50 v q.2.1) + q.2.2) : POST G ad T C μ ws (some v) ws :=
  ⟨_, hA, nup μ 50 v, fun i hi => nup_ne hi, fun i hi _ => if_neg (by omega), (show resOK ad (some t) (some v) (nup μ 50 v 50) from ⟨by rw [nup_eq], by rw [nup_eq]; exact hv⟩), fun q hq => absurd hq List.not_mem_nil, fun n q hq => (by have hq : ([] : List (Nat × Nat × VT))[n]? = some q := hq; simp at hq), hr, hW, rfl, fun k j _ => rfl⟩
abbrev C_mmin : CE := ([tI0, tI0], [], [], [(some tI0, [], [], [(50, 1, 0), (1, 50, 0), (1, 0, -1)]), (some tI0, [], [], [(50, 0, 0), (0, 50, 0), (0, 1, 0)])], [], 0, 0)
abbrev C_mmax : CE := ([tI0, tI0], [], [], [(some tI0, [], [], [(50, 1, 0), (1, 50, 0), (0, 1, -1)]), (some tI0, [], [], [(50, 0, 0), (0, 50, 0), (1, 0, 0)])], [], 0, 0)
abbrev C_mabs : CE := ([tI0], [], [], [(some tI0, [], [], [(50, 0, 0), (0, 50, 0)]), (some tI0, [], [], [])], [], 0, 1)
abbrev C_lmin : CE := ([tL0, tL0], [], [], [(some tL0, [], [], [(50, 1, 0), (1, 50, 0), (1, 0, -1)]), (some tL0, [], [], [(50, 0, 0), (0, 50, 0), (0, 1, 0)])], [], 0, 0)
abbrev C_lmax : CE := ([tL0, tL0], [], [], [(some tL0, [], [], [(50, 0, 0), (0, 50, 0), (1, 0, -1)]), (some tL0, [], [], [(50, 1, 0), (1, 50, 0), (0, 1, 0)])], [], 0, 0)
abbrev C_labs : CE := ([tL0], [], [], [(some tL0, [], [], [(50, 0, 0), (0, 50, 0)]), (some tL0, [], [], [])], [], 0, 0)
theorem rel3 {μ : Nat → Value} {a b c d u w : Nat} {c1 c2 c3 : Int} (h1 : vI (μ a) ≤ vI (μ b) + c1) (h2 : vI (μ c) ≤ vI (μ d) + c2) (h3 : vI (μ u) ≤ vI (μ w) + c3) : ∀ q ∈ [(a, b, c1), (c, d, c2), (u, w, c3)], vI (μ q.1) ≤ vI (μ q.2.1) + q.2.2 := by
  intro q hq
  rcases List.mem_cons.mp hq with e | hq
  · rw [e]; exact h1
  · rcases List.mem_cons.mp hq with e | hq
    · rw [e]; exact h2
    · rw [List.mem_singleton.mp hq]; exact h3
theorem row_mmin {l : Launch} {G : KG} {own : String} {T : List TE} {idx : Nat} (h1 : Cond.methodLink own idx Lib.Math.min.name ∈ BIG) (h2 : Cond.static Lib.Math.min.name ∈ BIG) (h3 : Cond.initialized "java/lang/Math" ∈ BIG) (h4 : Cond.code Lib.Math.min.name Lib.Math.min.code 2 (some .int) ∈ BIG) : MROW l G own T (idx, 1, 2, C_mmin) := by
  intro p e R s m args below meth c nL A Q cc ret nm kc ks pc ad X hdg hR1 hR2 hkc hks lw rest ws μ hcat hW hP kk
  obtain ⟨x, hx, -⟩ := vty0 (hP.1 0 _ rfl) rfl
  obtain ⟨y, hy, -⟩ := vty0 (hP.1 1 _ rfl) rfl
  have e0 : ((List.range (C_mmin).1.length).map μ).reverse ++ rest = .int y :: .int x :: rest := by
    show μ 1 :: μ 0 :: rest = _
    rw [hx, hy]
  rw [e0]
  have hR1 : 1 ≤ R.frames := hR1
  have hR2 : 8 + (2 + 11) + 0 ≤ R.locals := hR2
  have vx : ∀ v, vI (nup μ 50 v 0) = x.toInt := fun v => by rw [nup_ne (by decide), hx]; rfl
  have vy : ∀ v, vI (nup μ 50 v 1) = y.toInt := fun v => by rw [nup_ne (by decide), hy]; rfl
  have vr : ∀ v, vI (nup μ 50 v 50) = vI v := fun v => by rw [nup_eq]
  have hts := X.2.2.2.2.1
  intro H locs ls hP0 hD hS hl
  refine va_mmin X.1 X.2.1 (X.2.2.1.trans hl.1.symm) X.2.2.2.1 (hts _ h1) (hts _ h2) (hts _ h3) (hts _ h4) hR1 (by omega) hkc hks hdg ?_
  by_cases hc : y < x
  · rw [if_pos hc]
    have hc : y.toInt < x.toInt := Int32.lt_iff_toInt_lt.mp hc
    exact kk (some (.int y)) ws (post_pure List.mem_cons_self hW (vty_i0 _) (rel3 (by rw [vr, vy]; show (y).toInt ≤ _; omega) (by rw [vr, vy]; show _ ≤ (y).toInt + 0; omega) (by rw [vx, vy]; omega))) H locs ls hP0 hD hS hl
  · rw [if_neg hc]
    have hc : ¬ y.toInt < x.toInt := fun h => hc (Int32.lt_iff_toInt_lt.mpr h)
    exact kk (some (.int x)) ws (post_pure (List.mem_cons_of_mem _ List.mem_cons_self) hW (vty_i0 _) (rel3 (by rw [vr, vx]; show (x).toInt ≤ _; omega) (by rw [vr, vx]; show _ ≤ (x).toInt + 0; omega) (by rw [vx, vy]; omega))) H locs ls hP0 hD hS hl
theorem row_mmax {l : Launch} {G : KG} {own : String} {T : List TE} {idx : Nat} (h1 : Cond.methodLink own idx Lib.Math.max.name ∈ BIG) (h2 : Cond.static Lib.Math.max.name ∈ BIG) (h3 : Cond.initialized "java/lang/Math" ∈ BIG) (h4 : Cond.code Lib.Math.max.name Lib.Math.max.code 2 (some .int) ∈ BIG) : MROW l G own T (idx, 1, 2, C_mmax) := by
  intro p e R s m args below meth c nL A Q cc ret nm kc ks pc ad X hdg hR1 hR2 hkc hks lw rest ws μ hcat hW hP kk
  obtain ⟨x, hx, -⟩ := vty0 (hP.1 0 _ rfl) rfl
  obtain ⟨y, hy, -⟩ := vty0 (hP.1 1 _ rfl) rfl
  have e0 : ((List.range (C_mmax).1.length).map μ).reverse ++ rest = .int y :: .int x :: rest := by
    show μ 1 :: μ 0 :: rest = _
    rw [hx, hy]
  rw [e0]
  have hR1 : 1 ≤ R.frames := hR1
  have hR2 : 8 + (2 + 11) + 0 ≤ R.locals := hR2
  have vx : ∀ v, vI (nup μ 50 v 0) = x.toInt := fun v => by rw [nup_ne (by decide), hx]; rfl
  have vy : ∀ v, vI (nup μ 50 v 1) = y.toInt := fun v => by rw [nup_ne (by decide), hy]; rfl
  have vr : ∀ v, vI (nup μ 50 v 50) = vI v := fun v => by rw [nup_eq]
  have hts := X.2.2.2.2.1
  intro H locs ls hP0 hD hS hl
  refine va_mmax X.1 X.2.1 (X.2.2.1.trans hl.1.symm) X.2.2.2.1 (hts _ h1) (hts _ h2) (hts _ h3) (hts _ h4) hR1 (by omega) hkc hks hdg ?_
  by_cases hc : x < y
  · rw [if_pos hc]
    have hc : x.toInt < y.toInt := Int32.lt_iff_toInt_lt.mp hc
    exact kk (some (.int y)) ws (post_pure List.mem_cons_self hW (vty_i0 _) (rel3 (by rw [vr, vy]; show (y).toInt ≤ _; omega) (by rw [vr, vy]; show _ ≤ (y).toInt + 0; omega) (by rw [vx, vy]; omega))) H locs ls hP0 hD hS hl
  · rw [if_neg hc]
    have hc : ¬ x.toInt < y.toInt := fun h => hc (Int32.lt_iff_toInt_lt.mpr h)
    exact kk (some (.int x)) ws (post_pure (List.mem_cons_of_mem _ List.mem_cons_self) hW (vty_i0 _) (rel3 (by rw [vr, vx]; show (x).toInt ≤ _; omega) (by rw [vr, vx]; show _ ≤ (x).toInt + 0; omega) (by rw [vx, vy]; omega))) H locs ls hP0 hD hS hl
theorem row_lmin {l : Launch} {G : KG} {own : String} {T : List TE} {idx : Nat} (h1 : Cond.methodLink own idx Lib.MathLoose.min_long.x ∈ BIG) (h2 : Cond.static Lib.MathLoose.min_long.x ∈ BIG) (h3 : Cond.initialized "java/lang/Math" ∈ BIG) (h4 : Cond.code Lib.MathLoose.min_long.x Lib.MathLoose.min_long.code 4 (some .long) ∈ BIG) : MROW l G own T (idx, 1, 4, C_lmin) := by
  intro p e R s m args below meth c nL A Q cc ret nm kc ks pc ad X hdg hR1 hR2 hkc hks lw rest ws μ hcat hW hP kk
  obtain ⟨x, hx, -⟩ := vty1 (hP.1 0 _ rfl) rfl
  obtain ⟨y, hy, -⟩ := vty1 (hP.1 1 _ rfl) rfl
  have e0 : ((List.range (C_lmin).1.length).map μ).reverse ++ rest = .long y :: .long x :: rest := by
    show μ 1 :: μ 0 :: rest = _
    rw [hx, hy]
  rw [e0]
  have hR1 : 1 ≤ R.frames := hR1
  have hR2 : 8 + (4 + 11) + 0 ≤ R.locals := hR2
  have vx : ∀ v, vI (nup μ 50 v 0) = x.toInt := fun v => by rw [nup_ne (by decide), hx]; rfl
  have vy : ∀ v, vI (nup μ 50 v 1) = y.toInt := fun v => by rw [nup_ne (by decide), hy]; rfl
  have vr : ∀ v, vI (nup μ 50 v 50) = vI v := fun v => by rw [nup_eq]
  have hts := X.2.2.2.2.1
  intro H locs ls hP0 hD hS hl
  refine va_mmin_long X.1 X.2.1 (X.2.2.1.trans hl.1.symm) X.2.2.2.1 (hts _ h1) (hts _ h2) (hts _ h3) (hts _ h4) hR1 (by omega) hkc hks hdg ?_
  by_cases hc : y < x
  · rw [if_pos hc]
    have hc : y.toInt < x.toInt := Int64.lt_iff_toInt_lt.mp hc
    exact kk (some (.long y)) ws (post_pure List.mem_cons_self hW (vty_l0 _) (rel3 (by rw [vr, vy]; show (y).toInt ≤ _; omega) (by rw [vr, vy]; show _ ≤ (y).toInt + 0; omega) (by rw [vx, vy]; omega))) H locs ls hP0 hD hS hl
  · rw [if_neg hc]
    have hc : ¬ y.toInt < x.toInt := fun h => hc (Int64.lt_iff_toInt_lt.mpr h)
    exact kk (some (.long x)) ws (post_pure (List.mem_cons_of_mem _ List.mem_cons_self) hW (vty_l0 _) (rel3 (by rw [vr, vx]; show (x).toInt ≤ _; omega) (by rw [vr, vx]; show _ ≤ (x).toInt + 0; omega) (by rw [vx, vy]; omega))) H locs ls hP0 hD hS hl
theorem row_lmax {l : Launch} {G : KG} {own : String} {T : List TE} {idx : Nat} (h1 : Cond.methodLink own idx Lib.MathLoose.max_long.x ∈ BIG) (h2 : Cond.static Lib.MathLoose.max_long.x ∈ BIG) (h3 : Cond.initialized "java/lang/Math" ∈ BIG) (h4 : Cond.code Lib.MathLoose.max_long.x Lib.MathLoose.max_long.code 4 (some .long) ∈ BIG) : MROW l G own T (idx, 1, 4, C_lmax) := by
  intro p e R s m args below meth c nL A Q cc ret nm kc ks pc ad X hdg hR1 hR2 hkc hks lw rest ws μ hcat hW hP kk
  obtain ⟨x, hx, -⟩ := vty1 (hP.1 0 _ rfl) rfl
  obtain ⟨y, hy, -⟩ := vty1 (hP.1 1 _ rfl) rfl
  have e0 : ((List.range (C_lmax).1.length).map μ).reverse ++ rest = .long y :: .long x :: rest := by
    show μ 1 :: μ 0 :: rest = _
    rw [hx, hy]
  rw [e0]
  have hR1 : 1 ≤ R.frames := hR1
  have hR2 : 8 + (4 + 11) + 0 ≤ R.locals := hR2
  have vx : ∀ v, vI (nup μ 50 v 0) = x.toInt := fun v => by rw [nup_ne (by decide), hx]; rfl
  have vy : ∀ v, vI (nup μ 50 v 1) = y.toInt := fun v => by rw [nup_ne (by decide), hy]; rfl
  have vr : ∀ v, vI (nup μ 50 v 50) = vI v := fun v => by rw [nup_eq]
  have hts := X.2.2.2.2.1
  intro H locs ls hP0 hD hS hl
  refine va_mmax_long X.1 X.2.1 (X.2.2.1.trans hl.1.symm) X.2.2.2.1 (hts _ h1) (hts _ h2) (hts _ h3) (hts _ h4) hR1 (by omega) hkc hks hdg ?_
  by_cases hc : y < x
  · rw [if_pos hc]
    have hc : y.toInt < x.toInt := Int64.lt_iff_toInt_lt.mp hc
    exact kk (some (.long x)) ws (post_pure List.mem_cons_self hW (vty_l0 _) (rel3 (by rw [vr, vx]; show (x).toInt ≤ _; omega) (by rw [vr, vx]; show _ ≤ (x).toInt + 0; omega) (by rw [vx, vy]; omega))) H locs ls hP0 hD hS hl
  · rw [if_neg hc]
    have hc : ¬ y.toInt < x.toInt := fun h => hc (Int64.lt_iff_toInt_lt.mpr h)
    exact kk (some (.long y)) ws (post_pure (List.mem_cons_of_mem _ List.mem_cons_self) hW (vty_l0 _) (rel3 (by rw [vr, vy]; show (y).toInt ≤ _; omega) (by rw [vr, vy]; show _ ≤ (y).toInt + 0; omega) (by rw [vx, vy]; omega))) H locs ls hP0 hD hS hl
theorem row_mabs {l : Launch} {G : KG} {own : String} {T : List TE} {idx : Nat} (h1 : Cond.methodLink own idx Lib.Math.abs.name ∈ BIG) (h2 : Cond.static Lib.Math.abs.name ∈ BIG) (h3 : Cond.initialized "java/lang/Math" ∈ BIG) (h4 : Cond.code Lib.Math.abs.name Lib.Math.abs.code 1 (some .int) ∈ BIG) : MROW l G own T (idx, 1, 1, C_mabs) := by
  intro p e R s m args below meth c nL A Q cc ret nm kc ks pc ad X hdg hR1 hR2 hkc hks lw rest ws μ hcat hW hP kk
  obtain ⟨x, hx, -⟩ := vty0 (hP.1 0 _ rfl) rfl
  have e0 : ((List.range (C_mabs).1.length).map μ).reverse ++ rest = .int x :: rest := by
    show μ 0 :: rest = _
    rw [hx]
  rw [e0]
  have hR1 : 1 ≤ R.frames := hR1
  have hR2 : 8 + (1 + 11) + 1 ≤ R.locals := hR2
  have vx : ∀ v, vI (nup μ 50 v 0) = x.toInt := fun v => by rw [nup_ne (by decide), hx]; rfl
  have vr : ∀ v, vI (nup μ 50 v 50) = vI v := fun v => by rw [nup_eq]
  have hts := X.2.2.2.2.1
  have hcat : (rest.map fun v => v.category).sum + 13 ≤ R.locals := by omega
  intro H locs ls hP0 hD hS hl
  refine va_mabs X.1 X.2.1 (X.2.2.1.trans hl.1.symm) X.2.2.2.1 (hts _ h1) (hts _ h2) (hts _ h3) (hts _ h4) hR1 (by omega) hkc hks hdg ?_
  by_cases hc : 0 ≤ x
  · rw [if_pos hc]
    exact kk (some (.int x)) ws (post_pure List.mem_cons_self hW (vty_i0 _) (rel2 (by rw [vr, vx]; show x.toInt ≤ _; omega) (by rw [vr, vx]; show _ ≤ x.toInt + 0; omega))) H locs ls hP0 hD hS hl
  · rw [if_neg hc]
    exact kk (some (.int (0 - x))) ws (post_pure (List.mem_cons_of_mem _ List.mem_cons_self) hW (vty_i0 _) (fun q hq => by cases hq)) H locs ls hP0 hD hS hl
theorem row_labs {l : Launch} {G : KG} {own : String} {T : List TE} {idx : Nat} (h1 : Cond.methodLink own idx Lib.MathLoose.abs_long.x ∈ BIG) (h2 : Cond.static Lib.MathLoose.abs_long.x ∈ BIG) (h3 : Cond.initialized "java/lang/Math" ∈ BIG) (h4 : Cond.code Lib.MathLoose.abs_long.x Lib.MathLoose.abs_long.code 2 (some .long) ∈ BIG) : MROW l G own T (idx, 1, 2, C_labs) := by
  intro p e R s m args below meth c nL A Q cc ret nm kc ks pc ad X hdg hR1 hR2 hkc hks lw rest ws μ hcat hW hP kk
  obtain ⟨x, hx, -⟩ := vty1 (hP.1 0 _ rfl) rfl
  have e0 : ((List.range (C_labs).1.length).map μ).reverse ++ rest = .long x :: rest := by
    show μ 0 :: rest = _
    rw [hx]
  rw [e0]
  have hR1 : 1 ≤ R.frames := hR1
  have hR2 : 8 + (2 + 11) + 0 ≤ R.locals := hR2
  have vx : ∀ v, vI (nup μ 50 v 0) = x.toInt := fun v => by rw [nup_ne (by decide), hx]; rfl
  have vr : ∀ v, vI (nup μ 50 v 50) = vI v := fun v => by rw [nup_eq]
  have hts := X.2.2.2.2.1
  have hcat : (rest.map fun v => v.category).sum + 13 ≤ R.locals := by omega
  intro H locs ls hP0 hD hS hl
  refine va_mabs_long X.1 X.2.1 (X.2.2.1.trans hl.1.symm) X.2.2.2.1 (hts _ h1) (hts _ h2) (hts _ h3) (hts _ h4) hR1 (by omega) hkc hks hdg ?_
  by_cases hc : 0 < x
  · rw [if_pos hc]
    exact kk (some (.long x)) ws (post_pure List.mem_cons_self hW (vty_l0 _) (rel2 (by rw [vr, vx]; show x.toInt ≤ _; omega) (by rw [vr, vx]; show _ ≤ x.toInt + 0; omega))) H locs ls hP0 hD hS hl
  · rw [if_neg hc]
    exact kk (some (.long (-x))) ws (post_pure (List.mem_cons_of_mem _ List.mem_cons_self) hW (vty_l0 _) (fun q hq => by cases hq)) H locs ls hP0 hD hS hl
end
section
/-! hooks -/
/-- (x + y) / 2, three instructions in one -/
noncomputable def hkMid (p0 : Nat) : HKT := fun pc σ => bif Nat.beq pc p0 then (match σ.2.1 with
  | y :: x :: st => bif pId σ.2.2.1 x 0 && (pId σ.2.2.1 y 0 && (decide (0 ≤ xlo σ.2.2.1 σ.2.2.2.2.1 x) && (decide (0 ≤ xlo σ.2.2.1 σ.2.2.2.2.1 y) && (decide (xhi σ.2.2.1 σ.2.2.2.2.1 x + xhi σ.2.2.1 σ.2.2.2.2.1 y ≤ iMax) && dle σ.2.2.1 σ.2.2.2.2.1 x y 0)))) then (match adif σ.2.2.1 σ.2.2.2.2.1 x 3 y with
    | some d => some [(p0 + 3, (σ.1, σ.2.2.2.2.2 :: st, (σ.2.2.2.2.2, (0, xlo σ.2.2.1 σ.2.2.2.2.1 x, xhi σ.2.2.1 σ.2.2.2.2.1 y)) :: σ.2.2.1, σ.2.2.2.1, [(x, σ.2.2.2.2.2, 0), (σ.2.2.2.2.2, y, 0), (σ.2.2.2.2.2, x, d / 2), (y, σ.2.2.2.2.2, (d + 1) / 2)] ++ σ.2.2.2.2.1, σ.2.2.2.2.2 + 1))]
    | none => none) else none
  | _ => none) else none
theorem hkMid_ok {l : Launch} {G : KG} {T : List TE} {own : String} {cc : ByteArray} {nL : Nat} {ret : Option FieldType} {Rf Rl p0 : Nat} (d0 : decode cc p0 = .ok (.iadd, 1)) (d1 : decode cc (p0 + 1) = .ok (.iconst 2, 1)) (d2 : decode cc (p0 + 2) = .ok (.idiv, 1)) : HOK l G T own cc nL ret Rf Rl (hkMid p0) := by
  intro p e R s m args below meth c A nm Q kc ks X _ _ _ _ ad mk w0 pin pc σ L hf h k
  obtain ⟨lv, st, ev, ca, rl, nx⟩ := σ
  unfold hkMid at h
  cases hb : Nat.beq pc p0 with
  | false => rw [hb] at h; cases h
  | true =>
    have hb := Nat.eq_of_beq_eq_true hb
    subst hb
    rw [Nat.beq_refl] at h
    match st, h, hf with
    | [], h, _ => cases h
    | [x], h, _ => cases h
    | y :: x :: st, h, hf =>
      have h : (bif pId ev x 0 && (pId ev y 0 && (decide (0 ≤ xlo ev rl x) && (decide (0 ≤ xlo ev rl y) && (decide (xhi ev rl x + xhi ev rl y ≤ iMax) && dle ev rl x y 0)))) then (match adif ev rl x 3 y with
        | some d => some [(pc + 3, ((lv, nx :: st, (nx, (0, xlo ev rl x, xhi ev rl y)) :: ev, ca, [(x, nx, 0), (nx, y, 0), (nx, x, d / 2), (y, nx, (d + 1) / 2)] ++ rl, nx + 1) : AS))]
        | none => none) else none) = some L := h
      cases hc : (pId ev x 0 && (pId ev y 0 && (decide (0 ≤ xlo ev rl x) && (decide (0 ≤ xlo ev rl y) && (decide (xhi ev rl x + xhi ev rl y ≤ iMax) && dle ev rl x y 0))))) with
      | false => rw [hc] at h; cases h
      | true =>
        rw [hc] at h
        cases hd : adif ev rl x 3 y with
        | none => rw [hd] at h; cases h
        | some d =>
          rw [hd] at h
          cases h
          have k := k _ List.mem_cons_self
          obtain ⟨c1, hc⟩ := and2 hc
          obtain ⟨c2, hc⟩ := and2 hc
          obtain ⟨c3, hc⟩ := and2 hc
          obtain ⟨c4, hc⟩ := and2 hc
          obtain ⟨c5, c6⟩ := and2 hc
          have c3 := of_decide_eq_true c3
          have c4 := of_decide_eq_true c4
          have c5 := of_decide_eq_true c5
          unfold iMax at c5
          intro ν lw sw ws hg
          obtain ⟨h1, h2, h3⟩ := hg
          have h3 : AK G ad T mk w0 pin (lv, st, ev, ca, rl, nx) ν ws := h3
          have h2 : sw = ν y :: ν x :: st.map ν := h2
          obtain ⟨a, ha⟩ := h3.int (pId_ok c1)
          obtain ⟨b, hb⟩ := h3.int (pId_ok c2)
          have l1 := h3.lo2 x
          have l2 := h3.hi2 x
          have l3 := h3.lo2 y
          have l4 := h3.hi2 y
          have l5 := h3.dl c6
          have l6 := h3.dif hd
          rw [ha] at l1 l2
          rw [hb] at l3 l4
          rw [ha, hb] at l5 l6
          have l1 : xlo ev rl x ≤ a.toInt := l1
          have l2 : a.toInt ≤ xhi ev rl x := l2
          have l3 : xlo ev rl y ≤ b.toInt := l3
          have l4 : b.toInt ≤ xhi ev rl y := l4
          have l5 : a.toInt ≤ b.toInt + 0 := l5
          have l6 : b.toInt - a.toInt ≤ d := l6
          have e1 : (a + b).toInt = a.toInt + b.toInt := tI_add rfl rfl (by omega)
          have e2 : ((a + b) / 2).toInt = (a.toInt + b.toInt) / 2 := by
            rw [i32_div (by omega) (show (0 : Int) < (2 : Int32).toInt by decide), e1]
            rfl
          rw [h2, ha, hb]
          refine z_iadd X d0 (z_iconst X d1 (v := 2) rfl (z_idiv X d2 (by decide) ?_))
          have hxn : x < nx := (afr_ok hf).2.2.1 x (List.mem_cons_of_mem _ List.mem_cons_self)
          have hyn : y < nx := (afr_ok hf).2.2.1 y List.mem_cons_self
          refine k _ _ _ _ (AG.push (nr := [(x, nx, 0), (nx, y, 0), (nx, x, d / 2), (y, nx, (d + 1) / 2)]) ⟨h1, rfl, h3⟩ (afr_pop (afr_pop hf)) (vty_i (by rw [e2]; omega) (by rw [e2]; omega)) (fun q hq => ?_))
          have vx : ∀ v, vI (nup ν nx v x) = a.toInt := fun v => by rw [nup_ne hxn, ha]; rfl
          have vy : ∀ v, vI (nup ν nx v y) = b.toInt := fun v => by rw [nup_ne hyn, hb]; rfl
          have vn : ∀ v, vI (nup ν nx v nx) = vI v := fun v => by rw [nup_eq]
          have vv : vI (.int ((a + b) / 2)) = (a.toInt + b.toInt) / 2 := e2
          rcases List.mem_cons.mp hq with e | hq
          · rw [e, vx, vn, vv]; show _ ≤ _ + (0 : Int); omega
          rcases List.mem_cons.mp hq with e | hq
          · rw [e, vy, vn, vv]; show _ ≤ _ + (0 : Int); omega
          rcases List.mem_cons.mp hq with e | hq
          · rw [e, vx, vn, vv]; show _ ≤ _ + d / 2; omega
          rcases List.mem_cons.mp hq with e | hq
          · rw [e, vy, vn, vv]; show _ ≤ _ + (d + 1) / 2; omega
          · cases hq
end
