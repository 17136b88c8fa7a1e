/-! the runner, faster: what it does at an instruction is looked up, lists by List.rec -/
noncomputable def xmx {α : Type} (g : α → Nat) (l : List α) : Nat := lrc 0 (fun q r => brc (Nat.ble r (g q)) (g q) r) l
theorem xmx_eq {α : Type} (g : α → Nat) (l : List α) : xmx g l = mxq g l := rfl
theorem bnd (a b : Bool) : brc a b false = (a && b) := by cases a <;> rfl
noncomputable def xafr (lv : ALv) (st : List Nat) (ev : AEv) (ca : ACa) (rl : ARl) (nx : Nat) : Bool := brc (Nat.ble 1000 nx) (brc (Nat.blt (xmx (fun q => q.2.1) lv) nx) (brc (Nat.blt (xmx (fun i => i) st) nx) (brc (Nat.blt (xmx (fun q => q.1) ev) nx) (brc (Nat.blt (xmx (fun q => q.2.2) ca) nx) (brc (Nat.blt (xmx (fun q => q.1) rl) nx) (Nat.blt (xmx (fun q => q.2.1) rl) nx) false) false) false) false) false) false
theorem xafr_eq (lv : ALv) (st : List Nat) (ev : AEv) (ca : ACa) (rl : ARl) (nx : Nat) : xafr lv st ev ca rl nx = afr (lv, st, ev, ca, rl, nx) := by
  unfold xafr afr
  simp only [bnd, xmx_eq]
noncomputable def tnx {α : Type} (T : List α) : Nat → Option α := List.rec (motive := fun _ => Nat → Option α) (fun _ => none) (fun q _ r k => Nat.rec (motive := fun _ => Option α) (some q) (fun j _ => r j) k) T
theorem tnx_eq {α : Type} : ∀ (T : List α) (k : Nat), tnx T k = T[k]?
  | [], _ => rfl
  | _ :: _, 0 => rfl
  | _ :: l, k + 1 => tnx_eq l k
theorem fnd_3 : ∀ (l : List (Nat × Nat × Nat)) (i : Nat), fnd l i = fnd3 l i
  | [], _ => rfl
  | q :: l, i => by
    show (bif Nat.beq q.1 i then some q.2 else fnd l i) = bif Nat.beq q.1 i then some q.2 else fnd3 l i
    rw [fnd_3 l i]
theorem fnd_4 : ∀ (l : List (Nat × Nat × Nat × Nat)) (i : Nat), fnd l i = fnd4 l i
  | [], _ => rfl
  | q :: l, i => by
    show (bif Nat.beq q.1 i then some q.2 else fnd l i) = bif Nat.beq q.1 i then some q.2 else fnd4 l i
    rw [fnd_4 l i]
theorem fnd_C : ∀ (l : List (Nat × Int)) (i : Nat), fnd l i = fndC l i
  | [], _ => rfl
  | q :: l, i => by
    show (bif Nat.beq q.1 i then some q.2 else fnd l i) = bif Nat.beq q.1 i then some q.2 else fndC l i
    rw [fnd_C l i]
/-- a table in pieces -/
def dspl : Nat → DT → List DT
  | 0, l => [l]
  | n + 1, l => l.take 12 :: dspl n (l.drop 12)
theorem dspl_eq : ∀ (n : Nat) (l : DT), (dspl n l).flatten = l
  | 0, l => List.append_nil l
  | n + 1, l => by
    show l.take 12 ++ (dspl n (l.drop 12)).flatten = l
    rw [dspl_eq n]
    exact List.take_append_drop 12 l
noncomputable def dch (l : DT) : List (Nat × DT) := (dspl (Nat.div l.length 12) l).map (fun c => (mxq (fun q => q.1) c, c))
noncomputable def xfn {α : Type} (l : List (Nat × α)) (k : Nat) : Option α := lrc none (fun q r => brc (Nat.beq q.1 k) (some q.2) r) l
theorem xfn_eq {α : Type} (k : Nat) : ∀ l : List (Nat × α), xfn l k = fnd l k
  | [] => rfl
  | q :: l => by
    show brc (Nat.beq q.1 k) (some q.2) (xfn l k) = bif Nat.beq q.1 k then some q.2 else fnd l k
    rw [brc_eq, xfn_eq k l]
theorem xfn_dl : ∀ (l : DT) (k : Nat), xfn l k = dlook l k := fun _ _ => rfl
noncomputable def dlx (ch : List (Nat × DT)) (pc : Nat) : Option (Instr × Nat) := lrc none (fun q r => brc (Nat.ble pc q.1) (match xfn q.2 pc with
  | some v => some v
  | none => r) r) ch
theorem dlook_app (a b : DT) (pc : Nat) : dlook (a ++ b) pc = (match dlook a pc with
  | some v => some v
  | none => dlook b pc) := by
  induction a with
  | nil => rfl
  | cons q a ih =>
    show dlook (q :: (a ++ b)) pc = _
    rw [dlook_cons, dlook_cons, ih]
    cases Nat.beq q.1 pc <;> rfl
theorem dlook_none {pc : Nat} : ∀ {l : DT}, Nat.ble pc (mxq (fun q => q.1) l) = false → dlook l pc = none
  | [], _ => rfl
  | q :: l, h => by
    rw [mxq_cons] at h
    rw [dlook_cons]
    cases hb : Nat.ble (mxq (fun q => q.1) l) q.1 with
    | true =>
      rw [hb] at h
      have h : Nat.ble pc q.1 = false := h
      have h1 := Nat.le_of_ble_eq_true hb
      have h2 : ¬ pc ≤ q.1 := fun z => by rw [Nat.ble_eq_true_of_le z] at h; cases h
      have e : Nat.beq q.1 pc = false := by
        cases hc : Nat.beq q.1 pc with
        | true =>
          have := Nat.eq_of_beq_eq_true hc
          omega
        | false => rfl
      rw [e]
      refine dlook_none ?_
      cases hd : Nat.ble pc (mxq (fun q => q.1) l) with
      | true =>
        have := Nat.le_of_ble_eq_true hd
        omega
      | false => rfl
    | false =>
      rw [hb] at h
      have h : Nat.ble pc (mxq (fun q => q.1) l) = false := h
      have h2 : ¬ pc ≤ mxq (fun q => q.1) l := fun z => by rw [Nat.ble_eq_true_of_le z] at h; cases h
      have h3 : ¬ mxq (fun q => q.1) l ≤ q.1 := fun z => by rw [Nat.ble_eq_true_of_le z] at hb; cases hb
      have e : Nat.beq q.1 pc = false := by
        cases hc : Nat.beq q.1 pc with
        | true =>
          have := Nat.eq_of_beq_eq_true hc
          omega
        | false => rfl
      rw [e]
      exact dlook_none h
theorem dlx_map (pc : Nat) : ∀ (L : List DT), dlx (L.map (fun c => (mxq (fun q => q.1) c, c))) pc = dlook L.flatten pc
  | [] => rfl
  | c :: L => by
    have ih := dlx_map pc L
    show brc (Nat.ble pc (mxq (fun q => q.1) c)) (match xfn c pc with
      | some v => some v
      | none => dlx (L.map (fun c => (mxq (fun q => q.1) c, c))) pc) (dlx (L.map (fun c => (mxq (fun q => q.1) c, c))) pc) = dlook (c ++ L.flatten) pc
    rw [dlook_app, ih, brc_eq, xfn_dl]
    cases hb : Nat.ble pc (mxq (fun q => q.1) c) with
    | true => rfl
    | false =>
      rw [dlook_none hb]
      rfl
theorem dlx_eq (l : DT) : dlx (dch l) = dlook l := by
  funext pc
  unfold dch
  rw [dlx_map, dspl_eq]
/-- the cells whose contents hang on a field -/
def cod (te : TE) : Bool := match te with
  | .inr o => Nat.ble 2 o.2.2.1
  | .inl _ => false
noncomputable def xputB (T : List TE) (ev : AEv) (rl : ARl) (ca : ACa) (x cell j : Nat) (t : VT) : Bool := T.all (fun te => match te with
  | .inr o => bif Nat.ble 2 o.2.2.1 && (Nat.beq (pcl o.2.2.1) cell && Nat.beq (pfl o.2.2.1) j) then Nat.beq t.1 0 && (match acaf ca cell j with | some q => (bif Nat.ble 2 (pkd o.2.2.1) then dle ev rl q x 0 else dle ev rl x q 0) | none => false) else true
  | .inl _ => true)
theorem all_flt {α : Type} (c p : α → Bool) (h : ∀ x, c x = false → p x = true) : ∀ T : List α, (T.filter c).all p = T.all p
  | [] => rfl
  | x :: T => by
    have ih := all_flt c p h T
    rw [List.filter_cons, List.all_cons]
    cases hc : c x with
    | true =>
      show ((x :: T.filter c).all p) = _
      rw [List.all_cons, ih]
    | false =>
      show ((T.filter c).all p) = _
      rw [h x hc, Bool.true_and, ih]
theorem xputB_eq (T : List TE) : xputB (T.filter cod) = pputB T := by
  funext ev rl ca x cell j t
  refine all_flt cod _ (fun te hc => ?_) T
  cases te with
  | inl _ => rfl
  | inr o =>
    have hc : Nat.ble 2 o.2.2.1 = false := hc
    show (bif Nat.ble 2 o.2.2.1 && (Nat.beq (pcl o.2.2.1) cell && Nat.beq (pfl o.2.2.1) j) then _ else true) = true
    rw [hc]
    rfl
noncomputable def xLdc (cl : Nat → Option Int) (K : KT) (pc len idx : Nat) (lv : ALv) (st : List Nat) (ev : AEv) (ca : ACa) (rl : ARl) (nx : Nat) : Bool := match cl idx with
  | some n => K (pc + len) (lv, nx :: st, (nx, (0, n, n)) :: ev, ca, rl, nx + 1)
  | none => false
noncomputable def xLdcL (cl : Nat → Option Int) (K : KT) (pc idx : Nat) (lv : ALv) (st : List Nat) (ev : AEv) (ca : ACa) (rl : ARl) (nx : Nat) : Bool := match cl idx with
  | some n => K (pc + 3) (lv, nx :: st, (nx, (1, n, n)) :: ev, ca, rl, nx + 1)
  | none => false
noncomputable def xGet (gl : List VT → Nat → Option VT) (tl : Nat → Option TE) (fl : Nat → Option (Nat × Nat)) (K : KT) (pc idx : Nat) (lv : ALv) (st : List Nat) (ev : AEv) (ca : ACa) (rl : ARl) (nx : Nat) : Bool := match fl idx, st with
  | some q, r :: st => pId ev r 2 && (match tl (aty ev r).2.1.toNat with
    | some (.inl o) => Nat.beq o.1 q.1 && (match gl o.2 q.2 with
      | some t => (match acaf ca (aty ev r).2.1.toNat q.2 with
        | some i => K (pc + 3) (lv, i :: st, ev, ca, rl, nx)
        | none => K (pc + 3) (lv, nx :: st, (nx, t) :: ev, ((aty ev r).2.1.toNat, q.2, nx) :: ca, rl, nx + 1))
      | none => false)
    | _ => false)
  | _, _ => false
noncomputable def xPut (gl : List VT → Nat → Option VT) (tl : Nat → Option TE) (mk : List (Nat × Nat)) (pb : AEv → ARl → ACa → Nat → Nat → Nat → VT → Bool) (pl : Nat → Option (Nat × Nat × Nat)) (K : KT) (pc idx : Nat) (lv : ALv) (st : List Nat) (ev : AEv) (ca : ACa) (rl : ARl) (nx : Nat) : Bool := match pl idx, st with
  | some q, x :: r :: st => pId ev r 2 && (match tl (aty ev r).2.1.toNat with
    | some (.inl o) => Nat.beq o.1 q.1 && (match gl o.2 q.2.1 with
      | some t => kOK q.2.2 t && (vsub ev rl x t && (mkq mk (aty ev r).2.1.toNat q.2.1 && pb ev rl ca x (aty ev r).2.1.toNat q.2.1 t && K (pc + 3) (lv, st, ev, ((aty ev r).2.1.toNat, q.2.1, x) :: acut (aty ev r).2.1.toNat q.2.1 ca, rl, nx)))
      | none => false)
    | _ => false)
  | _, _ => false
noncomputable def xAld (tl : Nat → Option TE) (K : KT) (pc kd : Nat) (lv : ALv) (st : List Nat) (ev : AEv) (ca : ACa) (rl : ARl) (nx : Nat) : Bool := match st with
  | i :: a :: st => pId ev a 2 && (pId ev i 0 && (match tl (aty ev a).2.1.toNat with
    | some (.inr o) => Nat.beq o.1 kd && (ain ev rl i o.2.1 && K (pc + 1) (lv, nx :: st, (nx, aldT ev rl ca i kd o.2.2) :: ev, ca, aldN ev rl ca nx kd o.2.2 ++ rl, nx + 1))
    | _ => false))
  | _ => false
noncomputable def xAst (tl : Nat → Option TE) (mk : List (Nat × Nat)) (K : KT) (pc kd : Nat) (lv : ALv) (st : List Nat) (ev : AEv) (ca : ACa) (rl : ARl) (nx : Nat) : Bool := match st with
  | v :: i :: a :: st => pId ev a 2 && (pId ev i 0 && (match tl (aty ev a).2.1.toNat with
    | some (.inr o) => Nat.beq o.1 kd && (ain ev rl i o.2.1 && (vsub ev rl v (atyA kd o.2.2) && ((bif Nat.beq kd 2 then decide (0 ≤ o.2.2.2.1) && decide (o.2.2.2.2 ≤ 1) && Nat.beq o.2.2.1 0 else astB ev rl ca i v kd o.2.2) && (mk.any (fun q => Nat.beq q.1 (aty ev a).2.1.toNat && Nat.beq q.2 999) && K (pc + 1) (lv, st, ev, ca, rl, nx)))))
    | _ => false))
  | _ => false
noncomputable def xAld3 (tl : Nat → Option TE) (K : KT) (pc : Nat) (lv : ALv) (st : List Nat) (ev : AEv) (ca : ACa) (rl : ARl) (nx : Nat) : Bool := match st with
  | i :: a :: st => pId ev a 2 && (pId ev i 0 && (match tl (aty ev a).2.1.toNat with
    | some (.inr o) => Nat.beq o.1 3 && (ain ev rl i o.2.1 && ((arng o.2.1 0).filter (fun (j : Nat) => ible (xlo ev rl i) (j : Int) && ible (j : Int) (xhi ev rl i))).all (fun j => K (pc + 1) (lv, nx :: st, (i, (0, (j : Int), (j : Int))) :: (nx, (2, ((o.2.2.2.1.toNat + j * o.2.2.2.2.toNat : Nat) : Int), 0)) :: ev, ca, rl, nx + 1)))
    | _ => false))
  | _ => false
noncomputable def xLen (tl : Nat → Option TE) (K : KT) (pc : Nat) (lv : ALv) (st : List Nat) (ev : AEv) (ca : ACa) (rl : ARl) (nx : Nat) : Bool := match st with
  | a :: st => pId ev a 2 && (match tl (aty ev a).2.1.toNat with
    | some (.inr o) => Nat.ble o.2.1 2147483647 && K (pc + 1) (lv, nx :: st, (nx, (0, (o.2.1 : Int), (o.2.1 : Int))) :: ev, ca, rl, nx + 1)
    | _ => false)
  | _ => false
noncomputable def xatch (gl : List VT → Nat → Option VT) (tl : Nat → Option TE) : List (Nat × Nat × VT) → AEv → ACa → Nat → Option (AEv × ACa × Nat)
  | [], ev, ca, nx => some (ev, ca, nx)
  | q :: l, ev, ca, nx => match acaf ca q.1 q.2.1 with
    | some _ => xatch gl tl l ev ca nx
    | none => match tl q.1 with
      | some (.inl o) => match gl o.2 q.2.1 with
        | some t => xatch gl tl l ((nx, t) :: ev) ((q.1, q.2.1, nx) :: ca) (nx + 1)
        | none => none
      | _ => none
noncomputable def xCall1 (gl : List VT → Nat → Option VT) (tl : Nat → Option TE) (mk : List (Nat × Nat)) (Rf Rl : Nat) (K : KT) (pc maxL : Nat) (C : CE) (lv : ALv) (st : List Nat) (ev : AEv) (ca : ACa) (rl : ARl) (nx : Nat) : Bool := match xatch gl tl C.2.1 ev ca nx with
  | none => false
  | some (ev, ca, nx) => match acas ca C.2.1 with
    | none => false
    | some ps => afr (lv, st, ev, ca, rl, nx) && (Nat.ble C.1.length st.length && (Nat.ble C.1.length 50 && (Nat.ble C.2.1.length 100 && (Nat.ble (C.2.2.2.2.2.1 + 1) Rf && (Nat.ble (8 + (maxL + 11) + C.2.2.2.2.2.2) Rl && (Nat.ble (scat ev (st.drop C.1.length)) 8 &&
       ((C.1.zipIdx.all fun q => vsub ev rl ((st.take C.1.length).reverse.getD q.2 0) q.1) && ((C.2.1.zipIdx.all fun q => vsub ev rl (ps.getD q.2 0) q.1.2.2) && ((C.2.2.1.all fun q => dle ev rl (cmap (st.take C.1.length).reverse ps nx q.1) (cmap (st.take C.1.length).reverse ps nx q.2.1) q.2.2 && (Nat.blt q.1 50 || (Nat.ble 100 q.1 && Nat.blt q.1 200)) && (Nat.blt q.2.1 50 || (Nat.ble 100 q.2.1 && Nat.blt q.2.1 200))) && (C.2.2.2.1.all altB && (cov mk C.2.2.2.2.1 && C.2.2.2.1.all (fun A => K (pc + 3) (atg (nx :: arng A.2.2.1.length (nx + 1)) (aafter (st.take C.1.length).reverse ps A C.2.2.2.2.1 lv (st.drop C.1.length) ev ca rl nx))))))))))))))
noncomputable def xCall (gl : List VT → Nat → Option VT) (tl : Nat → Option TE) (mk : List (Nat × Nat)) (cal : List CAL) (Rf Rl : Nat) (K : KT) (pc kd idx : Nat) (lv : ALv) (st : List Nat) (ev : AEv) (ca : ACa) (rl : ARl) (nx : Nat) : Bool := cal.any (fun q => Nat.beq q.1 idx && (Nat.beq q.2.1 kd && (sQk ev ca q.2.2.2.2.1 && xCall1 gl tl mk Rf Rl K pc q.2.2.1 q.2.2.2 lv st ev ca rl nx)))
theorem xatch_eq (T : List TE) : ∀ (L : List (Nat × Nat × VT)) (ev : AEv) (ca : ACa) (nx : Nat), xatch (fun l k => l[k]?) (fun k => T[k]?) L ev ca nx = atch T L ev ca nx
  | [], _, _, _ => rfl
  | q :: L, ev, ca, nx => by
    unfold xatch atch
    simp only [xatch_eq T L]
    rfl
abbrev HD : Type := (List VT → Nat → Option VT) → (Nat → Option TE) → (AEv → ARl → ACa → Nat → Nat → Nat → VT → Bool) → (Nat → Option (Nat × Nat)) → (Nat → Option (Nat × Nat × Nat)) → (Nat → Option Int) → (Nat → Option Int) → (Nat → Option (Instr × Nat)) → Nat → List (Nat × Nat) → List CAL → Nat → Nat → Nat → CE → KT → Nat → Nat → ALv → List Nat → AEv → ACa → ARl → Nat → Bool
noncomputable def xI (i : Instr) : HD × Unit := match i with
  | .iconst n => (fun gl tl pb fl pl cl cll look nL mk cal Rf Rl rk C K pc len lv st ev ca rl nx => Nat.beq len 1 && (decide (-32768 ≤ n) && (decide (n ≤ 32767) && sCon K pc 1 n lv st ev ca rl nx)), ())
  | .bipush n => (fun gl tl pb fl pl cl cll look nL mk cal Rf Rl rk C K pc len lv st ev ca rl nx => Nat.beq len 2 && (decide (-128 ≤ n) && (decide (n ≤ 127) && sCon K pc 2 n lv st ev ca rl nx)), ())
  | .sipush n => (fun gl tl pb fl pl cl cll look nL mk cal Rf Rl rk C K pc len lv st ev ca rl nx => Nat.beq len 3 && (decide (-32768 ≤ n) && (decide (n ≤ 32767) && sCon K pc 3 n lv st ev ca rl nx)), ())
  | .lconst n => (fun gl tl pb fl pl cl cll look nL mk cal Rf Rl rk C K pc len lv st ev ca rl nx => Nat.beq len 1 && K (pc + 1) (lv, nx :: st, (nx, (1, (n : Nat), (n : Nat))) :: ev, ca, rl, nx + 1), ())
  | .ldc idx => (fun gl tl pb fl pl cl cll look nL mk cal Rf Rl rk C K pc len lv st ev ca rl nx => Nat.beq len 2 && xLdc cl K pc 2 idx lv st ev ca rl nx, ())
  | .ldc_w idx => (fun gl tl pb fl pl cl cll look nL mk cal Rf Rl rk C K pc len lv st ev ca rl nx => Nat.beq len 3 && xLdc cl K pc 3 idx lv st ev ca rl nx, ())
  | .ldc2_w idx => (fun gl tl pb fl pl cl cll look nL mk cal Rf Rl rk C K pc len lv st ev ca rl nx => Nat.beq len 3 && xLdcL cll K pc idx lv st ev ca rl nx, ())
  | .iload k => (fun gl tl pb fl pl cl cll look nL mk cal Rf Rl rk C K pc len lv st ev ca rl nx => Nat.beq len 2 && sLoad K pc 2 k 0 lv st ev ca rl nx, ())
  | .lload k => (fun gl tl pb fl pl cl cll look nL mk cal Rf Rl rk C K pc len lv st ev ca rl nx => Nat.beq len 2 && sLoad K pc 2 k 1 lv st ev ca rl nx, ())
  | .aload k => (fun gl tl pb fl pl cl cll look nL mk cal Rf Rl rk C K pc len lv st ev ca rl nx => Nat.beq len 2 && sLoad K pc 2 k 2 lv st ev ca rl nx, ())
  | .iload_n k => (fun gl tl pb fl pl cl cll look nL mk cal Rf Rl rk C K pc len lv st ev ca rl nx => Nat.beq len 1 && sLoad K pc 1 k 0 lv st ev ca rl nx, ())
  | .lload_n k => (fun gl tl pb fl pl cl cll look nL mk cal Rf Rl rk C K pc len lv st ev ca rl nx => Nat.beq len 1 && sLoad K pc 1 k 1 lv st ev ca rl nx, ())
  | .aload_n k => (fun gl tl pb fl pl cl cll look nL mk cal Rf Rl rk C K pc len lv st ev ca rl nx => Nat.beq len 1 && sLoad K pc 1 k 2 lv st ev ca rl nx, ())
  | .istore k => (fun gl tl pb fl pl cl cll look nL mk cal Rf Rl rk C K pc len lv st ev ca rl nx => Nat.beq len 2 && sStore nL K pc 2 k 0 lv st ev ca rl nx, ())
  | .lstore k => (fun gl tl pb fl pl cl cll look nL mk cal Rf Rl rk C K pc len lv st ev ca rl nx => Nat.beq len 2 && sStore nL K pc 2 k 1 lv st ev ca rl nx, ())
  | .astore k => (fun gl tl pb fl pl cl cll look nL mk cal Rf Rl rk C K pc len lv st ev ca rl nx => Nat.beq len 2 && sStore nL K pc 2 k 2 lv st ev ca rl nx, ())
  | .istore_n k => (fun gl tl pb fl pl cl cll look nL mk cal Rf Rl rk C K pc len lv st ev ca rl nx => Nat.beq len 1 && sStore nL K pc 1 k 0 lv st ev ca rl nx, ())
  | .lstore_n k => (fun gl tl pb fl pl cl cll look nL mk cal Rf Rl rk C K pc len lv st ev ca rl nx => Nat.beq len 1 && sStore nL K pc 1 k 1 lv st ev ca rl nx, ())
  | .astore_n k => (fun gl tl pb fl pl cl cll look nL mk cal Rf Rl rk C K pc len lv st ev ca rl nx => Nat.beq len 1 && sStore nL K pc 1 k 2 lv st ev ca rl nx, ())
  | .iinc k n => (fun gl tl pb fl pl cl cll look nL mk cal Rf Rl rk C K pc len lv st ev ca rl nx => Nat.beq len 3 && sInc nL K pc k n lv st ev ca rl nx, ())
  | .pop => (fun gl tl pb fl pl cl cll look nL mk cal Rf Rl rk C K pc len lv st ev ca rl nx => Nat.beq len 1 && sPop K pc lv st ev ca rl nx, ())
  | .dup => (fun gl tl pb fl pl cl cll look nL mk cal Rf Rl rk C K pc len lv st ev ca rl nx => Nat.beq len 1 && sDup K pc lv st ev ca rl nx, ())
  | .dup2 => (fun gl tl pb fl pl cl cll look nL mk cal Rf Rl rk C K pc len lv st ev ca rl nx => Nat.beq len 1 && sDup2 K pc lv st ev ca rl nx, ())
  | .getfield idx => (fun gl tl pb fl pl cl cll look nL mk cal Rf Rl rk C K pc len lv st ev ca rl nx => Nat.beq len 3 && xGet gl tl fl K pc idx lv st ev ca rl nx, ())
  | .putfield idx => (fun gl tl pb fl pl cl cll look nL mk cal Rf Rl rk C K pc len lv st ev ca rl nx => Nat.beq len 3 && xPut gl tl mk pb pl K pc idx lv st ev ca rl nx, ())
  | .iaload => (fun gl tl pb fl pl cl cll look nL mk cal Rf Rl rk C K pc len lv st ev ca rl nx => Nat.beq len 1 && xAld tl K pc 0 lv st ev ca rl nx, ())
  | .laload => (fun gl tl pb fl pl cl cll look nL mk cal Rf Rl rk C K pc len lv st ev ca rl nx => Nat.beq len 1 && xAld tl K pc 1 lv st ev ca rl nx, ())
  | .baload => (fun gl tl pb fl pl cl cll look nL mk cal Rf Rl rk C K pc len lv st ev ca rl nx => Nat.beq len 1 && xAld tl K pc 2 lv st ev ca rl nx, ())
  | .aaload => (fun gl tl pb fl pl cl cll look nL mk cal Rf Rl rk C K pc len lv st ev ca rl nx => Nat.beq len 1 && xAld3 tl K pc lv st ev ca rl nx, ())
  | .iastore => (fun gl tl pb fl pl cl cll look nL mk cal Rf Rl rk C K pc len lv st ev ca rl nx => Nat.beq len 1 && xAst tl mk K pc 0 lv st ev ca rl nx, ())
  | .lastore => (fun gl tl pb fl pl cl cll look nL mk cal Rf Rl rk C K pc len lv st ev ca rl nx => Nat.beq len 1 && xAst tl mk K pc 1 lv st ev ca rl nx, ())
  | .bastore => (fun gl tl pb fl pl cl cll look nL mk cal Rf Rl rk C K pc len lv st ev ca rl nx => Nat.beq len 1 && xAst tl mk K pc 2 lv st ev ca rl nx, ())
  | .if_icmp c off => (fun gl tl pb fl pl cl cll look nL mk cal Rf Rl rk C K pc len lv st ev ca rl nx => Nat.beq len 3 && sBr K pc (ccode c) off lv st ev ca rl nx, ())
  | .ifCond c off => (fun gl tl pb fl pl cl cll look nL mk cal Rf Rl rk C K pc len lv st ev ca rl nx => Nat.beq len 3 && sBr0 K pc (ccode c) off lv st ev ca rl nx, ())
  | .lcmp => (fun gl tl pb fl pl cl cll look nL mk cal Rf Rl rk C K pc len lv st ev ca rl nx => Nat.beq len 1 && (match look (pc + 1) with
    | some (.ifCond c off, n) => Nat.beq n 3 && sBrL K pc (ccode c) off lv st ev ca rl nx
    | _ => false), ())
  | .arraylength => (fun gl tl pb fl pl cl cll look nL mk cal Rf Rl rk C K pc len lv st ev ca rl nx => Nat.beq len 1 && xLen tl K pc lv st ev ca rl nx, ())
  | .ifnull off => (fun gl tl pb fl pl cl cll look nL mk cal Rf Rl rk C K pc len lv st ev ca rl nx => Nat.beq len 3 && sNul K pc off false lv st ev ca rl nx, ())
  | .ifnonnull off => (fun gl tl pb fl pl cl cll look nL mk cal Rf Rl rk C K pc len lv st ev ca rl nx => Nat.beq len 3 && sNul K pc off true lv st ev ca rl nx, ())
  | .lookupswitch dflt ps => (fun gl tl pb fl pl cl cll look nL mk cal Rf Rl rk C K pc len lv st ev ca rl nx => sLook K pc dflt ps.toList lv st ev ca rl nx, ())
  | .goto off => (fun gl tl pb fl pl cl cll look nL mk cal Rf Rl rk C K pc len lv st ev ca rl nx => Nat.beq len 3 && sGo K pc off (lv, st, ev, ca, rl, nx), ())
  | .tableswitch dflt lo hi offs => (fun gl tl pb fl pl cl cll look nL mk cal Rf Rl rk C K pc len lv st ev ca rl nx => sTab K pc dflt lo hi offs.toList lv st ev ca rl nx, ())
  | .invokevirtual idx => (fun gl tl pb fl pl cl cll look nL mk cal Rf Rl rk C K pc len lv st ev ca rl nx => Nat.beq len 3 && xCall gl tl mk cal Rf Rl K pc 0 idx lv st ev ca rl nx, ())
  | .invokestatic idx => (fun gl tl pb fl pl cl cll look nL mk cal Rf Rl rk C K pc len lv st ev ca rl nx => Nat.beq len 3 && xCall gl tl mk cal Rf Rl K pc 1 idx lv st ev ca rl nx, ())
  | .ireturn => (fun gl tl pb fl pl cl cll look nL mk cal Rf Rl rk C K pc len lv st ev ca rl nx => Nat.beq len 1 && ((Nat.beq rk 1 || Nat.beq rk 3) && sRet C rk st ev ca rl), ())
  | .lreturn => (fun gl tl pb fl pl cl cll look nL mk cal Rf Rl rk C K pc len lv st ev ca rl nx => Nat.beq len 1 && (Nat.beq rk 2 && sRet C rk st ev ca rl), ())
  | .return_ => (fun gl tl pb fl pl cl cll look nL mk cal Rf Rl rk C K pc len lv st ev ca rl nx => Nat.beq len 1 && (Nat.beq rk 0 && sRet C rk st ev ca rl), ())
  | .ineg => (fun gl tl pb fl pl cl cll look nL mk cal Rf Rl rk C K pc len lv st ev ca rl nx => Nat.beq len 1 && sUn K pc .ineg lv st ev ca rl nx, ())
  | .lneg => (fun gl tl pb fl pl cl cll look nL mk cal Rf Rl rk C K pc len lv st ev ca rl nx => Nat.beq len 1 && sUn K pc .lneg lv st ev ca rl nx, ())
  | .i2l => (fun gl tl pb fl pl cl cll look nL mk cal Rf Rl rk C K pc len lv st ev ca rl nx => Nat.beq len 1 && sUn K pc .i2l lv st ev ca rl nx, ())
  | .l2i => (fun gl tl pb fl pl cl cll look nL mk cal Rf Rl rk C K pc len lv st ev ca rl nx => Nat.beq len 1 && sUn K pc .l2i lv st ev ca rl nx, ())
  | .i2b => (fun gl tl pb fl pl cl cll look nL mk cal Rf Rl rk C K pc len lv st ev ca rl nx => Nat.beq len 1 && sUn K pc .i2b lv st ev ca rl nx, ())
  | .i2s => (fun gl tl pb fl pl cl cll look nL mk cal Rf Rl rk C K pc len lv st ev ca rl nx => Nat.beq len 1 && sUn K pc .i2s lv st ev ca rl nx, ())
  | i => (fun gl tl pb fl pl cl cll look nL mk cal Rf Rl rk C K pc len lv st ev ca rl nx => Nat.beq len 1 && sBin K pc i lv st ev ca rl nx, ())
set_option maxHeartbeats 4000000 in
theorem xI_eq (tab : DT) (nL : Nat) (T : List TE) (mk : List (Nat × Nat)) (fld : List (Nat × Nat × Nat)) (put : List (Nat × Nat × Nat × Nat)) (cst cstl : List (Nat × Int)) (cal : List CAL) (Rf Rl rk : Nat) (C : CE) (K : KT) (pc len : Nat) (i : Instr) (lv : ALv) (st : List Nat) (ev : AEv) (ca : ACa) (rl : ARl) (nx : Nat) : (xI i).1 tnx (tnx T) (xputB (T.filter cod)) (xfn fld) (xfn put) (xfn cst) (xfn cstl) (dlx (dch tab)) nL mk cal Rf Rl rk C K pc len lv st ev ca rl nx = sIns tab nL T mk fld put cst cstl cal Rf Rl rk C K pc len i lv st ev ca rl nx := by
  have ec : ∀ (R1 R2 : Nat) (K : KT) (p q : Nat), xCall (fun l k => l[k]?) (fun k => T[k]?) mk cal R1 R2 K p q = sCall T mk cal R1 R2 K p q := by
    intro R1 R2 K p q
    funext idx lv st ev ca rl
    unfold xCall sCall xCall1 sCall1
    simp only [xatch_eq T]
    rfl
  have eg : (tnx : List VT → Nat → Option VT) = fun l k => l[k]? := by
    funext l k
    exact tnx_eq l k
  rw [dlx_eq, xputB_eq, show tnx T = fun k => T[k]? from funext (tnx_eq T), show xfn fld = fnd3 fld from funext (fun i => (xfn_eq i fld).trans (fnd_3 fld i)), show xfn put = fnd4 put from funext (fun i => (xfn_eq i put).trans (fnd_4 put i)), show xfn cst = fndC cst from funext (fun i => (xfn_eq i cst).trans (fnd_C cst i)), show xfn cstl = fndC cstl from funext (fun i => (xfn_eq i cstl).trans (fnd_C cstl i)), eg]
  cases i
  case invokevirtual idx => exact congrArg (fun z => Nat.beq len 3 && z) (congrFun (congrFun (congrFun (congrFun (congrFun (congrFun (congrFun (ec Rf Rl K pc 0) idx) lv) st) ev) ca) rl) nx)
  case invokestatic idx => exact congrArg (fun z => Nat.beq len 3 && z) (congrFun (congrFun (congrFun (congrFun (congrFun (congrFun (congrFun (ec Rf Rl K pc 1) idx) lv) st) ev) ca) rl) nx)
  all_goals rfl
