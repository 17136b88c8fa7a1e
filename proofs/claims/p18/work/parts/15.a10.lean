/-! the checks are sound -/
theorem ofI32 {n : Int} (h1 : -2147483648 ≤ n) (h2 : n < 2147483648) : (Int32.ofInt n).toInt = n := by rw [Int32.toInt_ofInt]; exact b32 h1 h2
theorem and2 {a b : Bool} (h : (a && b) = true) : a = true ∧ b = true := by rw [Bool.and_eq_true] at h; exact h
/-- a field that may be written -/
def PA (own : String) (idx ci k kd : Nat) : Prop := (FL own idx ci k ∨ FN own idx ci k) ∧ ∃ (C : String) (Tt : u_T) (N : Nat) (ty : FieldType), vwCl[ci]? = some (C, Tt, N) ∧ (Tt k).2.2.2 = false ∧ parseFieldDescriptor (Tt k).2.2.1 = some ty ∧ ((kd = 0 ∧ ty = .int) ∨ (kd = 1 ∧ ty = .long) ∨ (kd = 2 ∧ ty = .boolean))
theorem fit_z {x : Int32} (h1 : 0 ≤ x.toInt) (h2 : x.toInt ≤ 1) : fits .boolean (.int x) = true := by
  rcases (by omega : x.toInt = 0 ∨ x.toInt = 1) with e | e
  · have : x = 0 := Int32.toInt_inj.mp (by rw [e]; rfl)
    rw [this]; rfl
  · have : x = 1 := Int32.toInt_inj.mp (by rw [e]; rfl)
    rw [this]; rfl
section AZ8
variable {p : Program} {l : Launch} {e : Env} {R : Room} {s : State} {m : MethodId} {args : Array Value} {below : List Frame} {meth : Method} {c : Code} {nL : Nat} {G : KG} {A : Nat → Prop} {Q : State → Prop} {cc : ByteArray} {own : String} {ret : Option FieldType} {nm : String} {kc ks : Nat}
variable {ad : Nat → Nat} {T : List TE} {mk : List (Nat × Nat)} {w0 : va_W} {pin : List (Nat × Value)}
variable {lv : ALv} {st : List Nat} {ev : AEv} {ca : ACa} {rl : ARl} {nx pc : Nat} {K : KT}
abbrev AQ (p : Program) (l : Launch) (e : Env) (R : Room) (s : State) (m : MethodId) (args : Array Value) (below : List Frame) (meth : Method) (c : Code) (nL : Nat) (G : KG) (A : Nat → Prop) (Q : State → Prop) (kc ks : Nat) (ad : Nat → Nat) (T : List TE) (mk : List (Nat × Nat)) (w0 : va_W) (pin : List (Nat × Value)) (σ : AS) (pc : Nat) : Prop := AZ (ZF p l e R s m args below meth c nL G A Q kc ks) G ad T mk w0 pin σ pc
theorem sCon_ok {len : Nat} {n : Int} {v : Int32} (hK : ∀ pc σ, K pc σ = true → AQ p l e R s m args below meth c nL G A Q kc ks ad T mk w0 pin σ pc) (hf : afr (lv, st, ev, ca, rl, nx) = true) (hv : v.toInt = n) (row : ∀ (lw : List (Nat × Value)) (rest : List Value) (ws : va_W), ZF p l e R s m args below meth c nL G A Q kc ks (pc + len) lw (.int v :: rest) ws → ZF p l e R s m args below meth c nL G A Q kc ks pc lw rest ws) (h : sCon K pc len n lv st ev ca rl nx = true) : AQ p l e R s m args below meth c nL G A Q kc ks ad T mk w0 pin (lv, st, ev, ca, rl, nx) pc :=
  az_con row hf (vty_i (by omega) (by omega)) (hK _ _ h)
theorem sLoad_ok {len k kx : Nat} (hk : kx ≤ 2) (hK : ∀ pc σ, K pc σ = true → AQ p l e R s m args below meth c nL G A Q kc ks ad T mk w0 pin σ pc) (row : ∀ (v : Value) (lw : List (Nat × Value)) (rest : List Value) (ws : va_W) (q : Nat), lw[q]? = some (k, v) → tagv kx v → ZF p l e R s m args below meth c nL G A Q kc ks (pc + len) lw (v :: rest) ws → ZF p l e R s m args below meth c nL G A Q kc ks pc lw rest ws) (h : sLoad K pc len k kx lv st ev ca rl nx = true) : AQ p l e R s m args below meth c nL G A Q kc ks ad T mk w0 pin (lv, st, ev, ca, rl, nx) pc := by
  unfold sLoad at h
  cases hx : alv lv k with
  | none => rw [hx] at h; cases h
  | some x =>
    rw [hx] at h
    obtain ⟨h1, h2⟩ := and2 h
    exact az_load hk row hx (pId_ok h1) (hK _ _ h2)
theorem sStore_ok {len k kx : Nat} (hk : kx ≤ 2) (hK : ∀ pc σ, K pc σ = true → AQ p l e R s m args below meth c nL G A Q kc ks ad T mk w0 pin σ pc) (row : (bif Nat.beq kx 1 then k + 1 else k) < nL → ∀ (v : Value) (lw : List (Nat × Value)) (rest : List Value) (ws : va_W), tagv kx v → ZF p l e R s m args below meth c nL G A Q kc ks (pc + len) (bif Nat.beq kx 1 then zs2 k v lw else zs1 k v lw) rest ws → ZF p l e R s m args below meth c nL G A Q kc ks pc lw (v :: rest) ws) (h : sStore nL K pc len k kx lv st ev ca rl nx = true) : AQ p l e R s m args below meth c nL G A Q kc ks ad T mk w0 pin (lv, st, ev, ca, rl, nx) pc := by
  match st, h with
  | x :: st, h =>
    obtain ⟨h1, h2⟩ := and2 h
    obtain ⟨h2, h3⟩ := and2 h2
    exact az_store hk rfl (row (blt_lt h2)) (pId_ok h1) (hK _ _ h3)
  | [], h => cases h
theorem sBin_ok (X : ZC p s m args meth c cc nL own G A ret nm) {i : Instr} (hdg : decode cc pc = .ok (i, 1)) (hK : ∀ pc σ, K pc σ = true → AQ p l e R s m args below meth c nL G A Q kc ks ad T mk w0 pin σ pc) (hf : afr (lv, st, ev, ca, rl, nx) = true) (h : sBin K pc i lv st ev ca rl nx = true) : AQ p l e R s m args below meth c nL G A Q kc ks ad T mk w0 pin (lv, st, ev, ca, rl, nx) pc := by
  match st, h, hf with
  | y :: x :: st, h, hf =>
    unfold sBin at h
    cases ht : abinT i ev rl x y nx with
    | none => simp only [ht] at h; cases h
    | some t =>
      simp only [ht] at h
      obtain ⟨kx, ky, t, nr⟩ := t
      obtain ⟨h1, h2⟩ := and2 h
      obtain ⟨h2, h3⟩ := and2 h2
      exact s_bin X hdg ht (pId_ok h1) (pId_ok h2) hf (hK _ _ h3)
  | [], h, hf => cases h
  | [x], h, hf => cases h
theorem sUn_ok (X : ZC p s m args meth c cc nL own G A ret nm) {i : Instr} (hdg : decode cc pc = .ok (i, 1)) (hK : ∀ pc σ, K pc σ = true → AQ p l e R s m args below meth c nL G A Q kc ks ad T mk w0 pin σ pc) (hf : afr (lv, st, ev, ca, rl, nx) = true) (h : sUn K pc i lv st ev ca rl nx = true) : AQ p l e R s m args below meth c nL G A Q kc ks ad T mk w0 pin (lv, st, ev, ca, rl, nx) pc := by
  match st, h, hf with
  | x :: st, h, hf =>
    unfold sUn at h
    cases ht : aunT i ev rl x nx with
    | none => simp only [ht] at h; cases h
    | some t =>
      simp only [ht] at h
      obtain ⟨kx, t, nr⟩ := t
      obtain ⟨h1, h2⟩ := and2 h
      exact s_un X hdg ht (pId_ok h1) hf (hK _ _ h2)
  | [], h, hf => cases h
theorem ziinc (X : ZC p s m args meth c cc nL own G A ret nm) {lw : List (Nat × Value)} {rest : List Value} {ws : va_W} {i q : Nat} {n : Int} {x : Int32} (hdg : decode cc pc = .ok (.iinc i n, 3)) (hq : lw[q]? = some (i, .int x)) (hn : i < nL) (kk : Z p l e R s m args below meth c nL G A Q (pc + 3) (zs1 i (.int (x + Int32.ofInt n)) lw) rest ws kc ks) : Z p l e R s m args below meth c nL G A Q pc lw rest ws kc ks := z_iinc X hdg hq rfl hn rfl kk
theorem sInc_ok (X : ZC p s m args meth c cc nL own G A ret nm) {k : Nat} {n : Int} (hdg : decode cc pc = .ok (.iinc k n, 3)) (hK : ∀ pc σ, K pc σ = true → AQ p l e R s m args below meth c nL G A Q kc ks ad T mk w0 pin σ pc) (hf : afr (lv, st, ev, ca, rl, nx) = true) (h : sInc nL K pc k n lv st ev ca rl nx = true) : AQ p l e R s m args below meth c nL G A Q kc ks ad T mk w0 pin (lv, st, ev, ca, rl, nx) pc := by
  unfold sInc at h
  cases hx : alv lv k with
  | none => rw [hx] at h; cases h
  | some x =>
    rw [hx] at h
    obtain ⟨h1, h⟩ := and2 h
    obtain ⟨h2, h⟩ := and2 h
    obtain ⟨h3, h⟩ := and2 h
    obtain ⟨h4, h⟩ := and2 h
    have h2 := of_decide_eq_true h2
    have h3 := of_decide_eq_true h3
    intro ν lw sw ws hg
    obtain ⟨g1, g2, g3⟩ := hg
    obtain ⟨b, hm⟩ := alv_mem lv k x hx
    obtain ⟨a, ha⟩ := g3.int (pId_ok h1)
    have hxn : x < nx := (afr_ok hf).2.1 _ hm
    have hm2 : (k, Value.int a) ∈ lw := by
      rw [g1, ← ha]
      exact List.mem_map.mpr ⟨_, hm, rfl⟩
    obtain ⟨q, hq⟩ := List.getElem?_of_mem hm2
    refine ziinc X hdg hq (blt_lt h4) (hK _ _ h (nup ν nx (.int (a + Int32.ofInt n))) _ sw ws ?_)
    have l1 := g3.lo2 x
    have l2 := g3.hi2 x
    rw [ha] at l1 l2
    have l1 : xlo ev rl x ≤ a.toInt := l1
    have l2 : a.toInt ≤ xhi ev rl x := l2
    have en : (Int32.ofInt n).toInt = n := ofI32 (by omega) (by omega)
    have key : fits32 (xlo ev rl x + n) (xhi ev rl x + n) = true → (a + Int32.ofInt n).toInt = a.toInt + n := by
      intro q
      unfold fits32 at q
      rw [Bool.and_eq_true, decide_eq_true_eq, decide_eq_true_eq] at q
      unfold iMin iMax at q
      exact tI_add rfl en (by omega)
    have gn : AK G ad T mk w0 pin (lv, st, (nx, fitI (xlo ev rl x + n) (xhi ev rl x + n)) :: ev, ca, mnz (fits32 (xlo ev rl x + n) (xhi ev rl x + n)) [(nx, x, n), (x, nx, -n)] ++ rl, nx + 1) (nup ν nx (.int (a + Int32.ofInt n))) ws := by
      refine g3.new hf (fitI_ok (fun q => by rw [key q]; omega)) (mnz_ok (fun q => ?_))
      have vn : vI (nup ν nx (.int (a + Int32.ofInt n)) nx) = a.toInt + n := by rw [nup_eq]; exact key q
      have vx : vI (nup ν nx (.int (a + Int32.ofInt n)) x) = a.toInt := by rw [nup_ne hxn, ha]; rfl
      exact rel2 (by rw [vn, vx]; omega) (by rw [vn, vx]; omega)
    have hc : ∀ q ∈ lv, (nup ν nx (.int (a + Int32.ofInt n)) q.2.1).category = bif q.2.2 then 2 else 1 := gn.1
    refine ⟨?_, ?_, aset_cat hc (by rw [nup_eq]; rfl), gn.2⟩
    · have e1 := aset1 (ν := nup ν nx (.int (a + Int32.ofInt n))) lv hc k nx
      rw [nup_eq, lvs_cong (ν' := nup ν nx (.int (a + Int32.ofInt n))) hf (fun i hi => nup_ne hi)] at e1
      show zs1 k (.int (a + Int32.ofInt n)) lw = _
      rw [g1]
      exact e1.symm
    · show sw = st.map (nup ν nx (.int (a + Int32.ofInt n)))
      rw [sts_cong hf (fun i hi => nup_ne hi)]; exact g2
theorem p02_ok {i : Nat} (h : p02 ev i = true) : (aty ev i).1 = 0 ∨ (aty ev i).1 = 2 := by
  unfold p02 at h
  rw [Bool.or_eq_true] at h
  exact h.imp pId_ok pId_ok
theorem sPop_ok (X : ZC p s m args meth c cc nL own G A ret nm) (hdg : decode cc pc = .ok (.pop, 1)) (hK : ∀ pc σ, K pc σ = true → AQ p l e R s m args below meth c nL G A Q kc ks ad T mk w0 pin σ pc) (h : sPop K pc lv st ev ca rl nx = true) : AQ p l e R s m args below meth c nL G A Q kc ks ad T mk w0 pin (lv, st, ev, ca, rl, nx) pc := by
  match st, h with
  | x :: st, h =>
    obtain ⟨h1, h2⟩ := and2 h
    exact az_pop (p02_ok h1) (fun v lw rest ws hc kz => z_pop X hdg hc kz) (hK _ _ h2)
  | [], h => cases h
theorem sDup_ok (X : ZC p s m args meth c cc nL own G A ret nm) (hdg : decode cc pc = .ok (.dup, 1)) (hK : ∀ pc σ, K pc σ = true → AQ p l e R s m args below meth c nL G A Q kc ks ad T mk w0 pin σ pc) (h : sDup K pc lv st ev ca rl nx = true) : AQ p l e R s m args below meth c nL G A Q kc ks ad T mk w0 pin (lv, st, ev, ca, rl, nx) pc := by
  match st, h with
  | x :: st, h =>
    obtain ⟨h1, h2⟩ := and2 h
    exact az_dup (p02_ok h1) (fun v lw rest ws hc kz => z_dup X hdg hc kz) (hK _ _ h2)
  | [], h => cases h
theorem sDup2_ok (X : ZC p s m args meth c cc nL own G A ret nm) (hdg : decode cc pc = .ok (.dup2, 1)) (hK : ∀ pc σ, K pc σ = true → AQ p l e R s m args below meth c nL G A Q kc ks ad T mk w0 pin σ pc) (h : sDup2 K pc lv st ev ca rl nx = true) : AQ p l e R s m args below meth c nL G A Q kc ks ad T mk w0 pin (lv, st, ev, ca, rl, nx) pc := by
  match st, h with
  | x :: y :: st, h =>
    obtain ⟨h1, h2⟩ := and2 h
    obtain ⟨h2, h3⟩ := and2 h2
    exact az_dup2 (p02_ok h1) (p02_ok h2) (fun va vb lw rest ws hc hd kz => z_dup2_11 X hdg hc hd kz) (hK _ _ h3)
  | [], h => cases h
  | [x], h => cases h
theorem sLdc_ok {cst : List (Nat × Int)} {len idx : Nat} (hC : ∀ q ∈ cst, ∃ x : Int32, x.toInt = q.2 ∧ Jvm.Cond.constant own q.1 x ∈ BIG) (hK : ∀ pc σ, K pc σ = true → AQ p l e R s m args below meth c nL G A Q kc ks ad T mk w0 pin σ pc) (hf : afr (lv, st, ev, ca, rl, nx) = true) (row : ∀ (v : Int32), Jvm.Cond.constant own idx v ∈ BIG → ∀ (lw : List (Nat × Value)) (rest : List Value) (ws : va_W), ZF p l e R s m args below meth c nL G A Q kc ks (pc + len) lw (.int v :: rest) ws → ZF p l e R s m args below meth c nL G A Q kc ks pc lw rest ws) (h : sLdc cst K pc len idx lv st ev ca rl nx = true) : AQ p l e R s m args below meth c nL G A Q kc ks ad T mk w0 pin (lv, st, ev, ca, rl, nx) pc := by
  unfold sLdc at h
  cases hx : fndC cst idx with
  | none => rw [hx] at h; cases h
  | some n =>
    rw [hx] at h
    obtain ⟨x, x1, x2⟩ := hC _ (fndC_mem cst idx n hx)
    exact az_con (row x x2) hf (vty_i (by simpa using Int.le_of_eq x1.symm) (by simpa using Int.le_of_eq x1)) (hK _ _ h)
theorem sLdcL_ok (X : ZC p s m args meth c cc nL own G A ret nm) {cstl : List (Nat × Int)} {idx : Nat} (hdg : decode cc pc = .ok (.ldc2_w idx, 3)) (hC : ∀ q ∈ cstl, ∃ x : Int64, x.toInt = q.2 ∧ Jvm.Cond.constantLong own q.1 x ∈ BIG) (hK : ∀ pc σ, K pc σ = true → AQ p l e R s m args below meth c nL G A Q kc ks ad T mk w0 pin σ pc) (hf : afr (lv, st, ev, ca, rl, nx) = true) (h : sLdcL cstl K pc idx lv st ev ca rl nx = true) : AQ p l e R s m args below meth c nL G A Q kc ks ad T mk w0 pin (lv, st, ev, ca, rl, nx) pc := by
  unfold sLdcL at h
  cases hx : fndC cstl idx with
  | none => rw [hx] at h; cases h
  | some n =>
    rw [hx] at h
    obtain ⟨x, x1, x2⟩ := hC _ (fndC_mem cstl idx n hx)
    exact az_con (fun lw rest ws kz => z_ldc2 X hdg x2 kz) hf (vty_l (by simpa using Int.le_of_eq x1.symm) (by simpa using Int.le_of_eq x1)) (hK _ _ h)
theorem sGet_ok (X : ZC p s m args meth c cc nL own G A ret nm) {fld : List (Nat × Nat × Nat)} {idx : Nat} (hdg : decode cc pc = .ok (.getfield idx, 3)) (hF : ∀ q ∈ fld, FL own q.1 q.2.1 q.2.2 ∨ FN own q.1 q.2.1 q.2.2) (hK : ∀ pc σ, K pc σ = true → AQ p l e R s m args below meth c nL G A Q kc ks ad T mk w0 pin σ pc) (hf : afr (lv, st, ev, ca, rl, nx) = true) (h : sGet T fld K pc idx lv st ev ca rl nx = true) : AQ p l e R s m args below meth c nL G A Q kc ks ad T mk w0 pin (lv, st, ev, ca, rl, nx) pc := by
  unfold sGet at h
  cases hx : fnd3 fld idx with
  | none => rw [hx] at h; cases h
  | some q =>
    rw [hx] at h
    match st, h, hf with
    | [], h, _ => cases h
    | r :: st, h, hf =>
      obtain ⟨h1, h⟩ := and2 h
      cases hT : T[(aty ev r).2.1.toNat]? with
      | none => rw [hT] at h; cases h
      | some te =>
        rw [hT] at h
        cases te with
        | inr o => cases h
        | inl o =>
          obtain ⟨ci, ts⟩ := o
          obtain ⟨h2, h⟩ := and2 h
          have e2 : ci = q.1 := Nat.eq_of_beq_eq_true h2
          subst e2
          have hF2 := hF _ (fnd3_mem fld idx q hx)
          have row : ∀ (a : Nat) (fs : List Value) (v : Value) (lw : List (Nat × Value)) (rest : List Value) (ws : va_W), ws[(aty ev r).2.1.toNat]? = some (a, ob q.1 fs) → fs[q.2]? = some v → ZF p l e R s m args below meth c nL G A Q kc ks (pc + 3) lw (v :: rest) ws → ZF p l e R s m args below meth c nL G A Q kc ks pc lw (.ref a :: rest) ws := by
            intro a fs v lw rest ws w1 w2 kz
            rcases hF2 with hF2 | hF2
            · exact z_get X hF2 hdg _ w1 w2 kz
            · exact z_getN X hF2 hdg _ w1 w2 kz
          cases ht : ts[q.2]? with
          | none => simp only [ht] at h; cases h
          | some t =>
            simp only [ht] at h
            cases hc : acaf ca (aty ev r).2.1.toNat q.2 with
            | none =>
              rw [hc] at h
              exact az_get (pId_ok h1) hT ht hf row (hK _ _ h)
            | some i =>
              rw [hc] at h
              exact az_getc (pId_ok h1) hT ht (acaf_mem ca _ _ i hc) row (hK _ _ h)
theorem sPut_ok (X : ZC p s m args meth c cc nL own G A ret nm) {put : List (Nat × Nat × Nat × Nat)} {idx : Nat} (hdg : decode cc pc = .ok (.putfield idx, 3)) (hF : ∀ q ∈ put, PA own q.1 q.2.1 q.2.2.1 q.2.2.2) (hK : ∀ pc σ, K pc σ = true → AQ p l e R s m args below meth c nL G A Q kc ks ad T mk w0 pin σ pc) (h : sPut T mk put K pc idx lv st ev ca rl nx = true) : AQ p l e R s m args below meth c nL G A Q kc ks ad T mk w0 pin (lv, st, ev, ca, rl, nx) pc := by
  unfold sPut at h
  cases hx : fnd4 put idx with
  | none => rw [hx] at h; cases h
  | some q =>
    rw [hx] at h
    match st, h with
    | [], h => cases h
    | [x], h => cases h
    | x :: r :: st, h =>
      obtain ⟨h1, h⟩ := and2 h
      cases hT : T[(aty ev r).2.1.toNat]? with
      | none => rw [hT] at h; cases h
      | some te =>
        rw [hT] at h
        cases te with
        | inr o => cases h
        | inl o =>
          obtain ⟨ci, ts⟩ := o
          obtain ⟨h2, h⟩ := and2 h
          have e2 : ci = q.1 := Nat.eq_of_beq_eq_true h2
          subst e2
          obtain ⟨hF2, C, Tt, N, ty, p1, p2, p3, p4⟩ := hF _ (fnd4_mem put idx q hx)
          cases ht : ts[q.2.1]? with
          | none => simp only [ht] at h; cases h
          | some t =>
            simp only [ht] at h
            obtain ⟨h3, h⟩ := and2 h
            obtain ⟨h4, h⟩ := and2 h
            obtain ⟨h5, h⟩ := and2 h
            obtain ⟨h5, h6⟩ := and2 h5
            refine az_put (pId_ok h1) hT ht h4 h5 (fun ν ws hk k' n t' g1 g2 g3 g4 => pputB_ok h6 hk g1 g2 g3 g4) (fun a fs v lw rest ws w1 w2 w3 kz => ?_) (hK _ _ h)
            have fin : narrow ty v = v ∧ fits ty v = true := by
              unfold kOK at h3
              rcases p4 with ⟨k0, rfl⟩ | ⟨k0, rfl⟩ | ⟨k0, rfl⟩
              · have k0 : q.2.2 = 0 := k0
                rw [k0] at h3
                have h3 : (Nat.beq t.1 0 && true) = true := h3
                obtain ⟨x, rfl, -⟩ := vty0 w3 (Nat.eq_of_beq_eq_true (and2 h3).1)
                exact ⟨rfl, rfl⟩
              · have k0 : q.2.2 = 1 := k0
                rw [k0] at h3
                have h3 : Nat.beq t.1 1 = true := h3
                obtain ⟨x, rfl, -⟩ := vty1 w3 (Nat.eq_of_beq_eq_true h3)
                exact ⟨rfl, rfl⟩
              · have k0 : q.2.2 = 2 := k0
                rw [k0] at h3
                have h3 : (Nat.beq t.1 0 && (decide (0 ≤ t.2.1) && decide (t.2.2 ≤ 1))) = true := h3
                obtain ⟨g1, g2⟩ := and2 h3
                obtain ⟨g2, g3⟩ := and2 g2
                obtain ⟨x, rfl, x1, x2⟩ := vty0 w3 (Nat.eq_of_beq_eq_true g1)
                have g2 := of_decide_eq_true g2
                have g3 := of_decide_eq_true g3
                exact ⟨nar_z (by omega) (by omega), fit_z (by omega) (by omega)⟩
            rcases hF2 with hF2 | hF2
            · exact z_put X hF2 hdg _ w1 p1 (Or.inl p2) p3 fin.1 fin.2 w2 rfl kz
            · exact z_putN X hF2 hdg _ w1 p1 p2 p3 fin.1 fin.2 w2 rfl kz
variable {ν : Nat → Value} {ws : va_W}
theorem tnc {x : Int32} (h : 0 ≤ x.toInt) : (x.toNatClampNeg : Int) = x.toInt := by
  show ((x.toInt).toNat : Int) = x.toInt
  omega
theorem AK.ex (h : AK G ad T mk w0 pin (lv, st, ev, ca, rl, nx) ν ws) {i : Nat} {x : Int32} (hx : ν i = .int x) (e : xlo ev rl i = xhi ev rl i) : x.toInt = xlo ev rl i := by
  have h1 := h.lo2 i
  have h2 := h.hi2 i
  rw [hx] at h1 h2
  have h1 : xlo ev rl i ≤ x.toInt := h1
  have h2 : x.toInt ≤ xhi ev rl i := h2
  omega
theorem aldT_ok {i n cell b : Nat} {t : VT} {f : Nat → Int32} {x : Int32} (hT : T[cell]? = some (.inr (0, n, t))) (hk : AK G ad T mk w0 pin (lv, st, ev, ca, rl, nx) ν ws) (hw : ws[cell]? = some (b, aI G n f)) (hx : ν i = .int x) (hn : x.toNatClampNeg < n) (ha : aint n t f) (h0 : 0 ≤ x.toInt) : vty ad (aldT ev rl ca i 0 t) (.int (f x.toNatClampNeg)) := by
  have hb := ha _ hn
  have dflt : vty ad (atyA 0 t) (.int (f x.toNatClampNeg)) := vty_i hb.1 hb.2.1
  unfold aldT
  show vty ad (bif Nat.beq t.1 1 then (bif decide (xlo ev rl i = xhi ev rl i) then (0, (KTY (xlo ev rl i).toNat).1, (KTY (xlo ev rl i).toNat).2) else atyA 0 t) else bif Nat.ble 2 t.1 && Nat.ble (pkd t.1) 1 then (match acaf ca (pcl t.1) (pfl t.1) with
    | some o => bif pId ev o 0 && dle ev rl i o (-1) then (0, max t.2.1 ((pkd t.1 : Nat) : Int), t.2.2) else atyA 0 t
    | none => atyA 0 t) else atyA 0 t) _
  cases e1 : Nat.beq t.1 1 with
  | true =>
    cases e2 : decide (xlo ev rl i = xhi ev rl i) with
    | false => exact dflt
    | true =>
      have h1 := hk.ex hx (of_decide_eq_true e2)
      have h2 := hb.2.2 (Nat.eq_of_beq_eq_true e1)
      have h3 : (xlo ev rl i).toNat = x.toNatClampNeg := by rw [← h1]; rfl
      show vty ad (0, (KTY (xlo ev rl i).toNat).1, (KTY (xlo ev rl i).toNat).2) _
      rw [h3]
      exact vty_i h2.1 h2.2
  | false =>
    cases e2 : (Nat.ble 2 t.1 && Nat.ble (pkd t.1) 1) with
    | false => exact dflt
    | true =>
      obtain ⟨k2, k1⟩ := and2 e2
      have k1 := Nat.le_of_ble_eq_true k1
      cases e3 : acaf ca (pcl t.1) (pfl t.1) with
      | none => exact dflt
      | some o =>
        cases e4 : (pId ev o 0 && dle ev rl i o (-1)) with
        | false => simp only [e4]; exact dflt
        | true =>
          simp only [e4]
          obtain ⟨q1, q2⟩ := and2 e4
          obtain ⟨cv, hc⟩ := hk.int (pId_ok q1)
          have hle := hk.dl q2
          rw [hx, hc] at hle
          have hle : x.toInt ≤ cv.toInt + -1 := hle
          have hg := hk.2.2.1 _ (acaf_mem ca _ _ o e3)
          have hg : fget ws (pcl t.1) (pfl t.1) = some (ν o) := hg
          rw [hc] at hg
          rcases hk.2.2.2.2.2.1.2.2 cell n t b f cv x.toNatClampNeg hT (Nat.le_of_ble_eq_true k2) hw hg hn with ⟨_, hp⟩ | ⟨hp, _⟩
          · have hp := hp (by rw [tnc h0]; omega)
            exact vty_i (by show max t.2.1 ((pkd t.1 : Nat) : Int) ≤ _; omega) hb.2.1
          · omega
theorem aldN_ok {i n cell : Nat} {t : VT} {v : Value} (hT : T[cell]? = some (.inr (0, n, t))) (hk : AK G ad T mk w0 pin (lv, st, ev, ca, rl, nx) ν ws) (hv : ∀ (b : Nat) (f : Nat → Int32) (x : Int32), ws[cell]? = some (b, aI G n f) → ν i = .int x → x.toNatClampNeg < n → v = .int (f x.toNatClampNeg)) (hi : ∃ x : Int32, ν i = .int x ∧ x.toNatClampNeg < n) : ∀ q ∈ aldN ev rl ca nx 0 t, vI (nup ν nx v q.1) ≤ vI (nup ν nx v q.2.1) + q.2.2 := by
  unfold aldN
  intro q hq
  cases e2 : (Nat.beq 0 0 && (Nat.ble 2 t.1 && Nat.ble 2 (pkd t.1))) with
  | false => rw [e2] at hq; cases hq
  | true =>
    rw [e2] at hq
    obtain ⟨-, k2⟩ := and2 e2
    obtain ⟨k2, k1⟩ := and2 k2
    have k1 := Nat.le_of_ble_eq_true k1
    cases e3 : acaf ca (pcl t.1) (pfl t.1) with
    | none => rw [e3] at hq; cases hq
    | some o =>
      rw [e3] at hq
      cases e4 : (pId ev o 0 && (decide (1 ≤ xlo ev rl o) && Nat.blt o nx)) with
      | false => simp only [e4] at hq; cases hq
      | true =>
        simp only [e4] at hq
        obtain ⟨q1, q2⟩ := and2 e4
        obtain ⟨q2, q3⟩ := and2 q2
        have q2 := of_decide_eq_true q2
        have q3 := blt_lt q3
        have e5 : q = (nx, o, -1) := List.mem_singleton.mp hq
        obtain ⟨cv, hc⟩ := hk.int (pId_ok q1)
        have hl := hk.lo2 o
        rw [hc] at hl
        have hl : xlo ev rl o ≤ cv.toInt := hl
        have hg := hk.2.2.1 _ (acaf_mem ca _ _ o e3)
        have hg : fget ws (pcl t.1) (pfl t.1) = some (ν o) := hg
        rw [hc] at hg
        obtain ⟨x, hx, hn⟩ := hi
        obtain ⟨en, w1, w2⟩ := hk.2.2.2.2.2.1.arr hT
        rcases w2 with ⟨-, f, rfl, -⟩ | ⟨h9, -⟩ | ⟨h9, -⟩ | ⟨h9, -⟩
        · rw [hv _ f x w1 hx hn, e5]
          show vI (nup ν nx (.int (f x.toNatClampNeg)) nx) ≤ vI (nup ν nx (.int (f x.toNatClampNeg)) o) + -1
          rw [nup_eq, nup_ne q3, hc]
          show (f x.toNatClampNeg).toInt ≤ cv.toInt + -1
          rcases hk.2.2.2.2.2.1.2.2 cell n t _ f cv x.toNatClampNeg hT (Nat.le_of_ble_eq_true k2) w1 hg hn with ⟨hp, _⟩ | ⟨_, hp⟩
          · omega
          · rcases hp with hp | hp <;> omega
        · cases h9
        · cases h9
        · cases h9
theorem astB_ok {i v : Nat} {t : VT} {x y : Int32} (hk : AK G ad T mk w0 pin (lv, st, ev, ca, rl, nx) ν ws) (h : astB ev rl ca i v 0 t = true) (hx : ν i = .int x) (hy : ν v = .int y) (h0 : 0 ≤ x.toInt) : (t.1 = 1 → (KTY x.toNatClampNeg).1 ≤ y.toInt ∧ y.toInt ≤ (KTY x.toNatClampNeg).2) ∧ (2 ≤ t.1 → ∀ c : Int32, fget ws (pcl t.1) (pfl t.1) = some (.int c) → PP t.1 x.toNatClampNeg y.toInt c.toInt) := by
  have v1 := hk.lo2 v
  have v2 := hk.hi2 v
  rw [hy] at v1 v2
  have v1 : xlo ev rl v ≤ y.toInt := v1
  have v2 : y.toInt ≤ xhi ev rl v := v2
  have h : (bif Nat.beq t.1 1 then decide (xlo ev rl i = xhi ev rl i) && (decide ((KTY (xlo ev rl i).toNat).1 ≤ xlo ev rl v) && decide (xhi ev rl v ≤ (KTY (xlo ev rl i).toNat).2)) else bif Nat.ble 2 t.1 then (bif Nat.ble 2 (pkd t.1) then (decide (xlo ev rl v = 0) && decide (xhi ev rl v = 0)) || (match acaf ca (pcl t.1) (pfl t.1) with
    | some o => pId ev o 0 && dle ev rl v o (-1)
    | none => false) else (decide (((pkd t.1 : Nat) : Int) ≤ xlo ev rl v) || (match acaf ca (pcl t.1) (pfl t.1) with
    | some o => pId ev o 0 && dle ev rl o i 0
    | none => false))) else true) = true := h
  refine ⟨fun e => ?_, fun e c hc => ?_⟩
  · have e1 : Nat.beq t.1 1 = true := by rw [e]; rfl
    rw [e1] at h
    obtain ⟨q1, q2⟩ := and2 h
    obtain ⟨q2, q3⟩ := and2 q2
    have h1 := hk.ex hx (of_decide_eq_true q1)
    have h3 : (xlo ev rl i).toNat = x.toNatClampNeg := by rw [← h1]; rfl
    have q2 := of_decide_eq_true q2
    have q3 := of_decide_eq_true q3
    rw [h3] at q2 q3
    exact ⟨by omega, by omega⟩
  · have e1 : Nat.beq t.1 1 = false := by
      cases h9 : Nat.beq t.1 1 with
      | false => rfl
      | true => have := Nat.eq_of_beq_eq_true h9; omega
    rw [e1, Nat.ble_eq.mpr e] at h
    have cached : ∀ o, acaf ca (pcl t.1) (pfl t.1) = some o → ν o = .int c := fun o e3 => by
      have hg := hk.2.2.1 _ (acaf_mem ca _ _ o e3)
      have hg : fget ws (pcl t.1) (pfl t.1) = some (ν o) := hg
      rw [hc] at hg
      exact (Option.some.inj hg).symm
    cases e2 : Nat.ble 2 (pkd t.1) with
    | true =>
      have h : (bif Nat.ble 2 (pkd t.1) then (decide (xlo ev rl v = 0) && decide (xhi ev rl v = 0)) || (match acaf ca (pcl t.1) (pfl t.1) with
        | some o => pId ev o 0 && dle ev rl v o (-1)
        | none => false) else _) = true := h
      rw [e2] at h
      have h : ((decide (xlo ev rl v = 0) && decide (xhi ev rl v = 0)) || (match acaf ca (pcl t.1) (pfl t.1) with
        | some o => pId ev o 0 && dle ev rl v o (-1)
        | none => false)) = true := h
      rw [Bool.or_eq_true] at h
      refine Or.inr ⟨Nat.le_of_ble_eq_true e2, ?_⟩
      rcases h with h | h
      · obtain ⟨z1, z2⟩ := and2 h
        have z1 := of_decide_eq_true z1
        have z2 := of_decide_eq_true z2
        exact Or.inl (by omega)
      · cases e3 : acaf ca (pcl t.1) (pfl t.1) with
        | none => rw [e3] at h; cases h
        | some o =>
          rw [e3] at h
          obtain ⟨q1, q2⟩ := and2 h
          have hle := hk.dl q2
          rw [hy, cached o e3] at hle
          have hle : y.toInt ≤ c.toInt + -1 := hle
          exact Or.inr (by omega)
    | false =>
      have h : (bif Nat.ble 2 (pkd t.1) then _ else (decide (((pkd t.1 : Nat) : Int) ≤ xlo ev rl v) || (match acaf ca (pcl t.1) (pfl t.1) with
        | some o => pId ev o 0 && dle ev rl o i 0
        | none => false))) = true := h
      rw [e2] at h
      have h : (decide (((pkd t.1 : Nat) : Int) ≤ xlo ev rl v) || (match acaf ca (pcl t.1) (pfl t.1) with
        | some o => pId ev o 0 && dle ev rl o i 0
        | none => false)) = true := h
      have hk1 : pkd t.1 ≤ 1 := by
        rcases Nat.lt_or_ge (pkd t.1) 2 with h9 | h9
        · omega
        · rw [Nat.ble_eq.mpr h9] at e2
          cases e2
      rw [Bool.or_eq_true] at h
      refine Or.inl ⟨hk1, fun hi => ?_⟩
      rcases h with h | h
      · have h := of_decide_eq_true h
        omega
      · cases e3 : acaf ca (pcl t.1) (pfl t.1) with
        | none => rw [e3] at h; cases h
        | some o =>
          rw [e3] at h
          obtain ⟨q1, q2⟩ := and2 h
          have hle := hk.dl q2
          rw [hx, cached o e3] at hle
          have hle : c.toInt ≤ x.toInt + 0 := hle
          rw [tnc h0] at hi
          omega
theorem sAld_ok (X : ZC p s m args meth c cc nL own G A ret nm) {kd : Nat} (hk : kd ≤ 2) (hdg : (kd = 0 → decode cc pc = .ok (.iaload, 1)) ∧ (kd = 1 → decode cc pc = .ok (.laload, 1)) ∧ (kd = 2 → decode cc pc = .ok (.baload, 1))) (hK : ∀ pc σ, K pc σ = true → AQ p l e R s m args below meth c nL G A Q kc ks ad T mk w0 pin σ pc) (hf : afr (lv, st, ev, ca, rl, nx) = true) (h : sAld T K pc kd lv st ev ca rl nx = true) : AQ p l e R s m args below meth c nL G A Q kc ks ad T mk w0 pin (lv, st, ev, ca, rl, nx) pc := by
  match st, h, hf with
  | [], h, _ => cases h
  | [x], h, _ => cases h
  | i :: a :: st, h, hf =>
    obtain ⟨h1, h⟩ := and2 h
    obtain ⟨h2, h⟩ := and2 h
    cases hT : T[(aty ev a).2.1.toNat]? with
    | none => rw [hT] at h; cases h
    | some te =>
      rw [hT] at h
      cases te with
      | inl o => cases h
      | inr o =>
        obtain ⟨kd', n, t⟩ := o
        obtain ⟨h3, h⟩ := and2 h
        obtain ⟨h4, h⟩ := and2 h
        have e3 : kd' = kd := Nat.eq_of_beq_eq_true h3
        subst e3
        refine az_ald hk (pId_ok h1) hT (pId_ok h2) h4 hf (fun ν ws g1 v hv => ?_) (fun k0 => by
          cases kd' with
          | zero => exact absurd rfl k0
          | succ n => rfl) (fun k0 ν ws g1 b f x g2 g3 g4 g5 g6 => by subst k0; exact aldT_ok hT g1 g2 g3 g4 g5 g6) (fun k0 => by
          cases kd' with
          | zero => exact absurd rfl k0
          | succ n => rfl) (fun k0 b f x lw rest ws w1 w2 kz => z_iald X (hdg.1 k0) _ w1 w2 rfl kz) (fun k0 b f x lw rest ws w1 w2 kz => z_lald X (hdg.2.1 k0) _ w1 w2 rfl kz) (fun k0 b f x lw rest ws w1 w2 kz => z_zald X (hdg.2.2 k0) _ w1 w2 rfl kz) (hK _ _ h)
        cases kd' with
        | zero =>
          obtain ⟨x, hx⟩ := g1.int (pId_ok h2)
          have hin := g1.inr h4 hx
          exact aldN_ok hT g1 (fun b f x w1 w2 w3 => hv b f x rfl w1 w2 w3) ⟨x, hx, hin.2⟩
        | succ n => exact fun q hq => by cases hq
theorem sAst_ok (X : ZC p s m args meth c cc nL own G A ret nm) {kd : Nat} (hk : kd ≤ 2) (hdg : (kd = 0 → decode cc pc = .ok (.iastore, 1)) ∧ (kd = 1 → decode cc pc = .ok (.lastore, 1)) ∧ (kd = 2 → decode cc pc = .ok (.bastore, 1))) (hK : ∀ pc σ, K pc σ = true → AQ p l e R s m args below meth c nL G A Q kc ks ad T mk w0 pin σ pc) (h : sAst T mk K pc kd lv st ev ca rl nx = true) : AQ p l e R s m args below meth c nL G A Q kc ks ad T mk w0 pin (lv, st, ev, ca, rl, nx) pc := by
  match st, h with
  | [], h => cases h
  | [x], h => cases h
  | [x, y], h => cases h
  | v :: i :: a :: st, h =>
    obtain ⟨h1, h⟩ := and2 h
    obtain ⟨h2, h⟩ := and2 h
    cases hT : T[(aty ev a).2.1.toNat]? with
    | none => rw [hT] at h; cases h
    | some te =>
      rw [hT] at h
      cases te with
      | inl o => cases h
      | inr o =>
        obtain ⟨kd', n, t⟩ := o
        obtain ⟨h3, hB⟩ := and2 h
        obtain ⟨h4, hB2⟩ := and2 hB
        obtain ⟨h5, hB3⟩ := and2 hB2
        obtain ⟨h6, hB4⟩ := and2 hB3
        obtain ⟨h7, hB5⟩ := and2 hB4
        have e3 : kd' = kd := Nat.eq_of_beq_eq_true h3
        subst e3
        refine az_ast hk (pId_ok h1) hT (pId_ok h2) h4 h5 (fun k0 => ?_) (fun k0 ν ws g1 x y g2 g3 g4 => by subst k0; exact astB_ok g1 h6 g2 g3 g4) h7 (fun k0 b f x y lw rest ws w1 w2 kz => z_iast X (hdg.1 k0) _ w1 w2 rfl kz) (fun k0 b f x y lw rest ws w1 w2 kz => z_last X (hdg.2.1 k0) _ w1 w2 rfl kz) (fun k0 b f x y lw rest ws w1 w2 kz => z_zast X (hdg.2.2 k0) _ w1 w2 rfl kz) (hK _ _ hB5)
        rw [k0] at h6
        obtain ⟨g1, g3⟩ := and2 h6
        obtain ⟨g1, g2⟩ := and2 g1
        exact ⟨⟨of_decide_eq_true g1, of_decide_eq_true g2⟩, Nat.eq_of_beq_eq_true g3⟩
theorem sAld3_ok (X : ZC p s m args meth c cc nL own G A ret nm) (hdg : decode cc pc = .ok (.aaload, 1)) (hK : ∀ pc σ, K pc σ = true → AQ p l e R s m args below meth c nL G A Q kc ks ad T mk w0 pin σ pc) (hf : afr (lv, st, ev, ca, rl, nx) = true) (h : sAld3 T K pc lv st ev ca rl nx = true) : AQ p l e R s m args below meth c nL G A Q kc ks ad T mk w0 pin (lv, st, ev, ca, rl, nx) pc := by
  match st, h, hf with
  | [], h, _ => cases h
  | [x], h, _ => cases h
  | i :: a :: st, h, hf =>
    obtain ⟨h1, h⟩ := and2 h
    obtain ⟨h2, h⟩ := and2 h
    cases hT : T[(aty ev a).2.1.toNat]? with
    | none => rw [hT] at h; cases h
    | some te =>
      rw [hT] at h
      cases te with
      | inl o => cases h
      | inr o =>
        obtain ⟨kd', n, t⟩ := o
        obtain ⟨h3, h⟩ := and2 h
        obtain ⟨h4, h⟩ := and2 h
        have e3 : kd' = 3 := Nat.eq_of_beq_eq_true h3
        subst e3
        exact az_ald3 (pId_ok h1) hT (pId_ok h2) h4 hf (fun b f x z lw rest ws w1 w2 w3 kz => z_oald X hdg _ w1 w2 (by rw [w3]; rfl) kz) (fun j hj => hK _ _ (List.all_eq_true.mp h j hj))
end AZ8
