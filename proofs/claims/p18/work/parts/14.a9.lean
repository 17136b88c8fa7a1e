/-! one instruction, checked; K: what is to hold behind it -/
abbrev KT : Type := Nat → AS → Bool
abbrev CAL : Type := Nat × Nat × Nat × CE
def pId (ev : AEv) (i k : Nat) : Bool := Nat.beq (aty ev i).1 k
theorem pId_ok {ev : AEv} {i k : Nat} (h : pId ev i k = true) : (aty ev i).1 = k := Nat.eq_of_beq_eq_true h
def sCon (K : KT) (pc len : Nat) (n : Int) (lv : ALv) (st : List Nat) (ev : AEv) (ca : ACa) (rl : ARl) (nx : Nat) : Bool := K (pc + len) (lv, nx :: st, (nx, (0, n, n)) :: ev, ca, rl, nx + 1)
def sLoad (K : KT) (pc len k kx : Nat) (lv : ALv) (st : List Nat) (ev : AEv) (ca : ACa) (rl : ARl) (nx : Nat) : Bool := match alv lv k with
  | some x => pId ev x kx && K (pc + len) (lv, x :: st, ev, ca, rl, nx)
  | none => false
def sStore (nL : Nat) (K : KT) (pc len k kx : Nat) (lv : ALv) (st : List Nat) (ev : AEv) (ca : ACa) (rl : ARl) (nx : Nat) : Bool := match st with
  | x :: st => pId ev x kx && (Nat.blt (bif Nat.beq kx 1 then k + 1 else k) nL && K (pc + len) (aset k x (Nat.beq kx 1) lv, st, ev, ca, rl, nx))
  | [] => false
def sBin (K : KT) (pc : Nat) (i : Instr) (lv : ALv) (st : List Nat) (ev : AEv) (ca : ACa) (rl : ARl) (nx : Nat) : Bool := match st with
  | y :: x :: st => match abinT i ev rl x y nx with
    | some t => pId ev x t.1 && (pId ev y t.2.1 && K (pc + 1) (lv, nx :: st, (nx, t.2.2.1) :: ev, ca, t.2.2.2 ++ rl, nx + 1))
    | none => false
  | _ => false
def sUn (K : KT) (pc : Nat) (i : Instr) (lv : ALv) (st : List Nat) (ev : AEv) (ca : ACa) (rl : ARl) (nx : Nat) : Bool := match st with
  | x :: st => match aunT i ev rl x nx with
    | some t => pId ev x t.1 && K (pc + 1) (lv, nx :: st, (nx, t.2.1) :: ev, ca, t.2.2 ++ rl, nx + 1)
    | none => false
  | _ => false
def sInc (nL : Nat) (K : KT) (pc k : Nat) (n : Int) (lv : ALv) (st : List Nat) (ev : AEv) (ca : ACa) (rl : ARl) (nx : Nat) : Bool := match alv lv k with
  | some x => pId ev x 0 && (decide (-32768 ≤ n) && (decide (n ≤ 32767) && (Nat.blt k nL && K (pc + 3) (aset k nx false lv, st, (nx, fitI (xlo ev rl x + n) (xhi ev rl x + n)) :: ev, ca, mnz (fits32 (xlo ev rl x + n) (xhi ev rl x + n)) [(nx, x, n), (x, nx, -n)] ++ rl, nx + 1))))
  | none => false
def p02 (ev : AEv) (i : Nat) : Bool := pId ev i 0 || pId ev i 2
def sPop (K : KT) (pc : Nat) (lv : ALv) (st : List Nat) (ev : AEv) (ca : ACa) (rl : ARl) (nx : Nat) : Bool := match st with
  | x :: st => p02 ev x && K (pc + 1) (lv, st, ev, ca, rl, nx)
  | _ => false
def sDup (K : KT) (pc : Nat) (lv : ALv) (st : List Nat) (ev : AEv) (ca : ACa) (rl : ARl) (nx : Nat) : Bool := match st with
  | x :: st => p02 ev x && K (pc + 1) (lv, x :: x :: st, ev, ca, rl, nx)
  | _ => false
def sDup2 (K : KT) (pc : Nat) (lv : ALv) (st : List Nat) (ev : AEv) (ca : ACa) (rl : ARl) (nx : Nat) : Bool := match st with
  | x :: y :: st => p02 ev x && (p02 ev y && K (pc + 1) (lv, x :: y :: x :: y :: st, ev, ca, rl, nx))
  | _ => false
def fnd3 : List (Nat × Nat × Nat) → Nat → Option (Nat × Nat)
  | [], _ => none
  | q :: l, i => bif Nat.beq q.1 i then some q.2 else fnd3 l i
theorem fnd3_mem : ∀ (l : List (Nat × Nat × Nat)) (i : Nat) (q : Nat × Nat), fnd3 l i = some q → (i, q) ∈ l
  | [], i, q, h => by cases h
  | p :: l, i, q, h => by
    unfold fnd3 at h
    cases hb : Nat.beq p.1 i with
    | true =>
      rw [hb] at h
      cases h
      have e : p.1 = i := Nat.eq_of_beq_eq_true hb
      subst e
      exact List.mem_cons_self
    | false =>
      rw [hb] at h
      exact List.mem_cons_of_mem _ (fnd3_mem l i q h)
def fnd4 : List (Nat × Nat × Nat × Nat) → Nat → Option (Nat × Nat × Nat)
  | [], _ => none
  | q :: l, i => bif Nat.beq q.1 i then some q.2 else fnd4 l i
theorem fnd4_mem : ∀ (l : List (Nat × Nat × Nat × Nat)) (i : Nat) (q : Nat × Nat × Nat), fnd4 l i = some q → (i, q) ∈ l
  | [], i, q, h => by cases h
  | p :: l, i, q, h => by
    unfold fnd4 at h
    cases hb : Nat.beq p.1 i with
    | true =>
      rw [hb] at h
      cases h
      have e : p.1 = i := Nat.eq_of_beq_eq_true hb
      subst e
      exact List.mem_cons_self
    | false =>
      rw [hb] at h
      exact List.mem_cons_of_mem _ (fnd4_mem l i q h)
def fndC : List (Nat × Int) → Nat → Option Int
  | [], _ => none
  | q :: l, i => bif Nat.beq q.1 i then some q.2 else fndC l i
theorem fndC_mem : ∀ (l : List (Nat × Int)) (i : Nat) (q : Int), fndC l i = some q → (i, q) ∈ l
  | [], i, q, h => by cases h
  | p :: l, i, q, h => by
    unfold fndC at h
    cases hb : Nat.beq p.1 i with
    | true =>
      rw [hb] at h
      cases h
      have e : p.1 = i := Nat.eq_of_beq_eq_true hb
      subst e
      exact List.mem_cons_self
    | false =>
      rw [hb] at h
      exact List.mem_cons_of_mem _ (fndC_mem l i q h)
def sLdc (cst : List (Nat × Int)) (K : KT) (pc len idx : Nat) (lv : ALv) (st : List Nat) (ev : AEv) (ca : ACa) (rl : ARl) (nx : Nat) : Bool := match fndC cst idx with
  | some n => K (pc + len) (lv, nx :: st, (nx, (0, n, n)) :: ev, ca, rl, nx + 1)
  | none => false
def sLdcL (cstl : List (Nat × Int)) (K : KT) (pc idx : Nat) (lv : ALv) (st : List Nat) (ev : AEv) (ca : ACa) (rl : ARl) (nx : Nat) : Bool := match fndC cstl idx with
  | some n => K (pc + 3) (lv, nx :: st, (nx, (1, n, n)) :: ev, ca, rl, nx + 1)
  | none => false
def sGet (T : List TE) (fld : List (Nat × Nat × Nat)) (K : KT) (pc idx : Nat) (lv : ALv) (st : List Nat) (ev : AEv) (ca : ACa) (rl : ARl) (nx : Nat) : Bool := match fnd3 fld idx, st with
  | some q, r :: st => pId ev r 2 && (match T[(aty ev r).2.1.toNat]? with
    | some (.inl o) => Nat.beq o.1 q.1 && (match o.2[q.2]? with
      | some t => (match acaf ca (aty ev r).2.1.toNat q.2 with
        | some i => K (pc + 3) (lv, i :: st, ev, ca, rl, nx)
        | none => K (pc + 3) (lv, nx :: st, (nx, t) :: ev, ((aty ev r).2.1.toNat, q.2, nx) :: ca, rl, nx + 1))
      | none => false)
    | _ => false)
  | _, _ => false
def kOK (kd : Nat) (t : VT) : Bool := bif Nat.beq kd 1 then Nat.beq t.1 1 else Nat.beq t.1 0 && (bif Nat.beq kd 2 then decide (0 ≤ t.2.1) && decide (t.2.2 ≤ 1) else Nat.beq kd 0)
def pputB (T : List TE) (ev : AEv) (rl : ARl) (ca : ACa) (x cell j : Nat) (t : VT) : Bool := T.all (fun te => match te with
  | .inr o => bif Nat.ble 2 o.2.2.1 && (Nat.beq (pcl o.2.2.1) cell && Nat.beq (pfl o.2.2.1) j) then Nat.beq t.1 0 && (match acaf ca cell j with | some q => (bif Nat.ble 2 (pkd o.2.2.1) then dle ev rl q x 0 else dle ev rl x q 0) | none => false) else true
  | .inl _ => true)
theorem pputB_ok {G : KG} {ad : Nat → Nat} {T : List TE} {mk : List (Nat × Nat)} {w0 : va_W} {pin : List (Nat × Value)} {lv : ALv} {st : List Nat} {ev : AEv} {ca : ACa} {rl : ARl} {nx x cell j k' n : Nat} {t t' : VT} {ν : Nat → Value} {ws : va_W} (h : pputB T ev rl ca x cell j t = true) (hk : AK G ad T mk w0 pin (lv, st, ev, ca, rl, nx) ν ws) (g1 : T[k']? = some (.inr (0, n, t'))) (g2 : 2 ≤ t'.1) (g3 : pcl t'.1 = cell) (g4 : pfl t'.1 = j) : t.1 = 0 ∧ ∃ o : Nat, fget ws cell j = some (ν o) ∧ pord t'.1 (vI (ν x)) (vI (ν o)) := by
  have h1 := List.all_eq_true.mp h _ (List.mem_of_getElem? g1)
  have e : (Nat.ble 2 t'.1 && (Nat.beq (pcl t'.1) cell && Nat.beq (pfl t'.1) j)) = true := by
    rw [Bool.and_eq_true, Bool.and_eq_true, g3, g4]
    exact ⟨Nat.ble_eq.mpr g2, Nat.beq_refl _, Nat.beq_refl _⟩
  have h1 : (bif (Nat.ble 2 t'.1 && (Nat.beq (pcl t'.1) cell && Nat.beq (pfl t'.1) j)) then Nat.beq t.1 0 && (match acaf ca cell j with | some q => (bif Nat.ble 2 (pkd t'.1) then dle ev rl q x 0 else dle ev rl x q 0) | none => false) else true) = true := h1
  rw [e] at h1
  obtain ⟨b1, b2⟩ := Bool.and_eq_true _ _ ▸ (show (Nat.beq t.1 0 && (match acaf ca cell j with | some q => (bif Nat.ble 2 (pkd t'.1) then dle ev rl q x 0 else dle ev rl x q 0) | none => false)) = true from h1)
  cases hc : acaf ca cell j with
  | none => rw [hc] at b2; cases b2
  | some q =>
    rw [hc] at b2
    refine ⟨Nat.eq_of_beq_eq_true b1, q, hk.2.2.1 _ (acaf_mem ca cell j q hc), ?_⟩
    cases e2 : Nat.ble 2 (pkd t'.1) with
    | true =>
      rw [e2] at b2
      have := hk.dl b2
      exact Or.inr ⟨Nat.le_of_ble_eq_true e2, by omega⟩
    | false =>
      rw [e2] at b2
      have := hk.dl b2
      refine Or.inl ⟨?_, by omega⟩
      rcases Nat.lt_or_ge (pkd t'.1) 2 with h9 | h9
      · omega
      · rw [Nat.ble_eq.mpr h9] at e2
        cases e2
/-- what an int array gives at an index, what it takes there -/
def aldT (ev : AEv) (rl : ARl) (ca : ACa) (i kd : Nat) (t : VT) : VT := bif Nat.beq kd 0 then (bif Nat.beq t.1 1 then (bif decide (xlo ev rl i = xhi ev rl i) then (0, (KTY (xlo ev rl i).toNat).1, (KTY (xlo ev rl i).toNat).2) else atyA kd t) else bif Nat.ble 2 t.1 && Nat.ble (pkd t.1) 1 then (match acaf ca (pcl t.1) (pfl t.1) with
  | some o => bif pId ev o 0 && dle ev rl i o (-1) then (0, max t.2.1 ((pkd t.1 : Nat) : Int), t.2.2) else atyA kd t
  | none => atyA kd t) else atyA kd t) else atyA kd t
def aldN (ev : AEv) (rl : ARl) (ca : ACa) (nx kd : Nat) (t : VT) : ARl := bif Nat.beq kd 0 && (Nat.ble 2 t.1 && Nat.ble 2 (pkd t.1)) then (match acaf ca (pcl t.1) (pfl t.1) with
  | some o => bif pId ev o 0 && (decide (1 ≤ xlo ev rl o) && Nat.blt o nx) then [(nx, o, -1)] else []
  | none => []) else []
def astB (ev : AEv) (rl : ARl) (ca : ACa) (i v kd : Nat) (t : VT) : Bool := bif Nat.beq kd 0 then (bif Nat.beq t.1 1 then decide (xlo ev rl i = xhi ev rl i) && (decide ((KTY (xlo ev rl i).toNat).1 ≤ xlo ev rl v) && decide (xhi ev rl v ≤ (KTY (xlo ev rl i).toNat).2)) else bif Nat.ble 2 t.1 then (bif Nat.ble 2 (pkd t.1) then (decide (xlo ev rl v = 0) && decide (xhi ev rl v = 0)) || (match acaf ca (pcl t.1) (pfl t.1) with
  | some o => pId ev o 0 && dle ev rl v o (-1)
  | none => false) else (decide (((pkd t.1 : Nat) : Int) ≤ xlo ev rl v) || (match acaf ca (pcl t.1) (pfl t.1) with
  | some o => pId ev o 0 && dle ev rl o i 0
  | none => false))) else true) else true
def sPut (T : List TE) (mk : List (Nat × Nat)) (put : List (Nat × Nat × Nat × Nat)) (K : KT) (pc idx : Nat) (lv : ALv) (st : List Nat) (ev : AEv) (ca : ACa) (rl : ARl) (nx : Nat) : Bool := match fnd4 put idx, st with
  | some q, x :: r :: st => pId ev r 2 && (match T[(aty ev r).2.1.toNat]? with
    | some (.inl o) => Nat.beq o.1 q.1 && (match o.2[q.2.1]? with
      | some t => kOK q.2.2 t && (vsub ev rl x t && (mkq mk (aty ev r).2.1.toNat q.2.1 && pputB T ev rl ca x (aty ev r).2.1.toNat q.2.1 t && K (pc + 3) (lv, st, ev, ((aty ev r).2.1.toNat, q.2.1, x) :: acut (aty ev r).2.1.toNat q.2.1 ca, rl, nx)))
      | none => false)
    | _ => false)
  | _, _ => false
def sAld (T : List TE) (K : KT) (pc kd : Nat) (lv : ALv) (st : List Nat) (ev : AEv) (ca : ACa) (rl : ARl) (nx : Nat) : Bool := match st with
  | i :: a :: st => pId ev a 2 && (pId ev i 0 && (match T[(aty ev a).2.1.toNat]? with
    | some (.inr o) => Nat.beq o.1 kd && (ain ev rl i o.2.1 && K (pc + 1) (lv, nx :: st, (nx, aldT ev rl ca i kd o.2.2) :: ev, ca, aldN ev rl ca nx kd o.2.2 ++ rl, nx + 1))
    | _ => false))
  | _ => false
def sAst (T : List TE) (mk : List (Nat × Nat)) (K : KT) (pc kd : Nat) (lv : ALv) (st : List Nat) (ev : AEv) (ca : ACa) (rl : ARl) (nx : Nat) : Bool := match st with
  | v :: i :: a :: st => pId ev a 2 && (pId ev i 0 && (match T[(aty ev a).2.1.toNat]? with
    | some (.inr o) => Nat.beq o.1 kd && (ain ev rl i o.2.1 && (vsub ev rl v (atyA kd o.2.2) && ((bif Nat.beq kd 2 then decide (0 ≤ o.2.2.2.1) && decide (o.2.2.2.2 ≤ 1) && Nat.beq o.2.2.1 0 else astB ev rl ca i v kd o.2.2) && (mk.any (fun q => Nat.beq q.1 (aty ev a).2.1.toNat && Nat.beq q.2 999) && K (pc + 1) (lv, st, ev, ca, rl, nx)))))
    | _ => false))
  | _ => false
def sAld3 (T : List TE) (K : KT) (pc : Nat) (lv : ALv) (st : List Nat) (ev : AEv) (ca : ACa) (rl : ARl) (nx : Nat) : Bool := match st with
  | i :: a :: st => pId ev a 2 && (pId ev i 0 && (match T[(aty ev a).2.1.toNat]? with
    | some (.inr o) => Nat.beq o.1 3 && (ain ev rl i o.2.1 && (arng o.2.1 0).all (fun j => K (pc + 1) (lv, nx :: st, (i, (0, (j : Int), (j : Int))) :: (nx, (2, ((o.2.2.2.1.toNat + j * o.2.2.2.2.toNat : Nat) : Int), 0)) :: ev, ca, rl, nx + 1)))
    | _ => false))
  | _ => false
def tgtOf (pc : Nat) (off : Int) : Nat := ((pc : Int) + off).toNat
def sJ (K : KT) (pc : Nat) (lv : ALv) (st : List Nat) (ca : ACa) (nx : Nat) (q : Option (AEv × ARl)) : Bool := match q with
  | some q => K pc (lv, st, q.1, ca, q.2, nx)
  | none => true
def sBr (K : KT) (pc c : Nat) (off : Int) (lv : ALv) (st : List Nat) (ev : AEv) (ca : ACa) (rl : ARl) (nx : Nat) : Bool := match st with
  | y :: x :: st => pId ev x 0 && (pId ev y 0 && (decide (0 ≤ (pc : Int) + off) && (sJ K (tgtOf pc off) lv st ca nx (atk c x y ev rl) && sJ K (pc + 3) lv st ca nx (atk (cneg c) x y ev rl))))
  | _ => false
/-- not alike: below or above, each by itself -/
def sJn (K : KT) (pc c x y : Nat) (lv : ALv) (st : List Nat) (ev : AEv) (ca : ACa) (rl : ARl) (nx : Nat) : Bool := bif Nat.beq c 1 then sJ K pc lv st ca nx (atk 2 x y ev rl) && sJ K pc lv st ca nx (atk 4 x y ev rl) else sJ K pc lv st ca nx (atk c x y ev rl)
def sBrL (K : KT) (pc c : Nat) (off : Int) (lv : ALv) (st : List Nat) (ev : AEv) (ca : ACa) (rl : ARl) (nx : Nat) : Bool := match st with
  | y :: x :: st => pId ev x 1 && (pId ev y 1 && (decide (0 ≤ ((pc + 1 : Nat) : Int) + off) && (sJn K (tgtOf (pc + 1) off) c x y lv st ev ca rl nx && sJn K (pc + 4) (cneg c) x y lv st ev ca rl nx)))
  | _ => false
def sBr0 (K : KT) (pc c : Nat) (off : Int) (lv : ALv) (st : List Nat) (ev : AEv) (ca : ACa) (rl : ARl) (nx : Nat) : Bool := match st with
  | x :: st => pId ev x 0 && (decide (0 ≤ (pc : Int) + off) && (sJ K (tgtOf pc off) lv st ca (nx + 1) (atk c x nx ((nx, (0, 0, 0)) :: ev) rl) && sJ K (pc + 3) lv st ca (nx + 1) (atk (cneg c) x nx ((nx, (0, 0, 0)) :: ev) rl)))
  | _ => false
def sGo (K : KT) (pc : Nat) (off : Int) (σ : AS) : Bool := decide (0 ≤ (pc : Int) + off) && K (tgtOf pc off) σ
def sTab (K : KT) (pc : Nat) (dflt lo hi : Int) (offs : List Int) (lv : ALv) (st : List Nat) (ev : AEv) (ca : ACa) (rl : ARl) (nx : Nat) : Bool := match st with
  | x :: st => pId ev x 0 && (decide (0 ≤ (pc : Int) + dflt) && (offs.all (fun o => decide (0 ≤ (pc : Int) + o)) && (decide (hi - lo + 1 = (offs.length : Int)) && ((bif decide (xlo ev rl x < lo) || decide (hi < xhi ev rl x) then K (tgtOf pc dflt) (lv, st, ev, ca, rl, nx) else true) && (aoffs pc lo 0 offs (xlo ev rl x) (xhi ev rl x)).all (fun q => K q.1 (lv, st, (x, (0, q.2, q.2)) :: ev, ca, rl, nx))))))
  | _ => false
def sLen (T : List TE) (K : KT) (pc : Nat) (lv : ALv) (st : List Nat) (ev : AEv) (ca : ACa) (rl : ARl) (nx : Nat) : Bool := match st with
  | a :: st => pId ev a 2 && (match T[(aty ev a).2.1.toNat]? with
    | some (.inr o) => Nat.ble o.2.1 2147483647 && K (pc + 1) (lv, nx :: st, (nx, (0, (o.2.1 : Int), (o.2.1 : Int))) :: ev, ca, rl, nx + 1)
    | _ => false)
  | _ => false
/-- a reference that is there -/
def sNul (K : KT) (pc : Nat) (off : Int) (jumps : Bool) (lv : ALv) (st : List Nat) (ev : AEv) (ca : ACa) (rl : ARl) (nx : Nat) : Bool := match st with
  | a :: st => pId ev a 2 && (bif jumps then decide (0 ≤ (pc : Int) + off) && K (tgtOf pc off) (lv, st, ev, ca, rl, nx) else K (pc + 3) (lv, st, ev, ca, rl, nx))
  | _ => false
def sLook (K : KT) (pc : Nat) (dflt : Int) (ps : List (Int × Int)) (lv : ALv) (st : List Nat) (ev : AEv) (ca : ACa) (rl : ARl) (nx : Nat) : Bool := match st with
  | x :: st => pId ev x 0 && ((ps.zip (ps.drop 1)).all (fun (a, next) => a.1 < next.1) && (decide (0 ≤ (pc : Int) + dflt) && (K (tgtOf pc dflt) (lv, st, ev, ca, rl, nx) && ps.all (fun q => decide (0 ≤ (pc : Int) + q.2) && K (tgtOf pc q.2) (lv, st, (x, (0, q.1, q.1)) :: ev, ca, rl, nx)))))
  | _ => false
def scat (ev : AEv) : List Nat → Nat
  | [] => 0
  | i :: l => (bif Nat.beq (aty ev i).1 1 then 2 else bif Nat.ble (aty ev i).1 3 then 1 else 9) + scat ev l
/-- fields whose names a contract wants, told -/
def atch (T : List TE) : List (Nat × Nat × VT) → AEv → ACa → Nat → Option (AEv × ACa × Nat)
  | [], ev, ca, nx => some (ev, ca, nx)
  | q :: l, ev, ca, nx => match acaf ca q.1 q.2.1 with
    | some _ => atch T l ev ca nx
    | none => match T[q.1]? with
      | some (.inl o) => match o.2[q.2.1]? with
        | some t => atch T l ((nx, t) :: ev) ((q.1, q.2.1, nx) :: ca) (nx + 1)
        | none => none
      | _ => none
/-- bounds of some names, told anew -/
def atg (is : List Nat) (σ : AS) : AS := (σ.1, σ.2.1, (is.filter (fun i => isNum (aty σ.2.2.1 i))).map (fun i => (i, ((aty σ.2.2.1 i).1, xlo σ.2.2.1 σ.2.2.2.2.1 i, xhi σ.2.2.1 σ.2.2.2.2.1 i))) ++ σ.2.2.1, σ.2.2.2)
def sCall1 (T : List TE) (mk : List (Nat × Nat)) (Rf Rl : Nat) (K : KT) (pc maxL : Nat) (C : CE) (lv : ALv) (st : List Nat) (ev : AEv) (ca : ACa) (rl : ARl) (nx : Nat) : Bool := match atch T C.2.1 ev ca nx with
  | none => false
  | some (ev, ca, nx) => match acas ca C.2.1 with
    | none => false
    | some ps => afr (lv, st, ev, ca, rl, nx) && (Nat.ble C.1.length st.length && (Nat.ble C.1.length 50 && (Nat.ble C.2.1.length 100 && (Nat.ble (C.2.2.2.2.2.1 + 1) Rf && (Nat.ble (8 + (maxL + 11) + C.2.2.2.2.2.2) Rl && (Nat.ble (scat ev (st.drop C.1.length)) 8 &&
       ((C.1.zipIdx.all fun q => vsub ev rl ((st.take C.1.length).reverse.getD q.2 0) q.1) && ((C.2.1.zipIdx.all fun q => vsub ev rl (ps.getD q.2 0) q.1.2.2) && ((C.2.2.1.all fun q => dle ev rl (cmap (st.take C.1.length).reverse ps nx q.1) (cmap (st.take C.1.length).reverse ps nx q.2.1) q.2.2 && (Nat.blt q.1 50 || (Nat.ble 100 q.1 && Nat.blt q.1 200)) && (Nat.blt q.2.1 50 || (Nat.ble 100 q.2.1 && Nat.blt q.2.1 200))) && (C.2.2.2.1.all altB && (cov mk C.2.2.2.2.1 && C.2.2.2.1.all (fun A => K (pc + 3) (atg (nx :: arng A.2.2.1.length (nx + 1)) (aafter (st.take C.1.length).reverse ps A C.2.2.2.2.1 lv (st.drop C.1.length) ev ca rl nx))))))))))))))
/-- a quick look first: a field told exactly -/
def sQk (ev : AEv) (ca : ACa) : List (Nat × Nat × VT) → Bool
  | q :: _ => bif decide (q.2.2.2.1 = q.2.2.2.2) then (match acaf ca q.1 q.2.1 with
    | some i => decide ((aty ev i).2.1 ≤ q.2.2.2.1) && decide (q.2.2.2.1 ≤ (aty ev i).2.2)
    | none => true) else true
  | [] => true
def sCall (T : List TE) (mk : List (Nat × Nat)) (cal : List CAL) (Rf Rl : Nat) (K : KT) (pc kd idx : Nat) (lv : ALv) (st : List Nat) (ev : AEv) (ca : ACa) (rl : ARl) (nx : Nat) : Bool := cal.any (fun q => Nat.beq q.1 idx && (Nat.beq q.2.1 kd && (sQk ev ca q.2.2.2.2.1 && sCall1 T mk Rf Rl K pc q.2.2.1 q.2.2.2 lv st ev ca rl nx)))
def retK (rk : Nat) (t : Option VT) : Bool := match rk, t with
  | 0, none => true
  | 1, some t => Nat.beq t.1 0
  | 2, some t => Nat.beq t.1 1
  | 3, some t => Nat.beq t.1 0 && (decide (0 ≤ t.2.1) && decide (t.2.2 ≤ 1))
  | _, _ => false
def sRet (C : CE) (rk : Nat) (st : List Nat) (ev : AEv) (ca : ACa) (rl : ARl) : Bool := C.2.2.2.1.any (fun A => retK rk A.1 && aretA C.1.length C.2.1.length A st ev ca rl)
def ccode : Jvm.ClassFile.Cond → Nat
  | .eq => 0
  | .ne => 1
  | .lt => 2
  | .ge => 3
  | .gt => 4
  | .le => 5
/-- a method's instructions, decoded once -/
abbrev DT : Type := List (Nat × Instr × Nat)
def dlook : DT → Nat → Option (Instr × Nat)
  | [], _ => none
  | q :: l, pc => bif Nat.beq q.1 pc then some q.2 else dlook l pc
theorem dlook_mem : ∀ (l : DT) (pc : Nat) (q : Instr × Nat), dlook l pc = some q → (pc, q) ∈ l
  | [], pc, q, h => by cases h
  | p :: l, pc, q, h => by
    unfold dlook at h
    cases hb : Nat.beq p.1 pc with
    | true =>
      rw [hb] at h
      cases h
      have e : p.1 = pc := Nat.eq_of_beq_eq_true hb
      subst e
      exact List.mem_cons_self
    | false =>
      rw [hb] at h
      exact List.mem_cons_of_mem _ (dlook_mem l pc q h)
def dtOK (cc : ByteArray) (tab : DT) : Bool := tab.all (fun q => decide (decode cc q.1 = .ok q.2))
theorem dt_ok {cc : ByteArray} {tab : DT} (h : dtOK cc tab = true) : ∀ q ∈ tab, decode cc q.1 = .ok q.2 := fun q hq => of_decide_eq_true (List.all_eq_true.mp h q hq)
def sIns (tab : DT) (nL : Nat) (T : List TE) (mk : List (Nat × Nat)) (fld : List (Nat × Nat × Nat)) (put : List (Nat × Nat × Nat × Nat)) (cst cstl : List (Nat × Int)) (cal : List CAL) (Rf Rl rk : Nat) (C : CE) (K : KT) (pc len : Nat) (i : Instr) (lv : ALv) (st : List Nat) (ev : AEv) (ca : ACa) (rl : ARl) (nx : Nat) : Bool := match i with
  | .iconst n => Nat.beq len 1 && (decide (-32768 ≤ n) && (decide (n ≤ 32767) && sCon K pc 1 n lv st ev ca rl nx))
  | .bipush n => Nat.beq len 2 && (decide (-128 ≤ n) && (decide (n ≤ 127) && sCon K pc 2 n lv st ev ca rl nx))
  | .sipush n => Nat.beq len 3 && (decide (-32768 ≤ n) && (decide (n ≤ 32767) && sCon K pc 3 n lv st ev ca rl nx))
  | .lconst n => Nat.beq len 1 && K (pc + 1) (lv, nx :: st, (nx, (1, (n : Nat), (n : Nat))) :: ev, ca, rl, nx + 1)
  | .ldc idx => Nat.beq len 2 && sLdc cst K pc 2 idx lv st ev ca rl nx
  | .ldc_w idx => Nat.beq len 3 && sLdc cst K pc 3 idx lv st ev ca rl nx
  | .ldc2_w idx => Nat.beq len 3 && sLdcL cstl K pc idx lv st ev ca rl nx
  | .iload k => Nat.beq len 2 && sLoad K pc 2 k 0 lv st ev ca rl nx
  | .lload k => Nat.beq len 2 && sLoad K pc 2 k 1 lv st ev ca rl nx
  | .aload k => Nat.beq len 2 && sLoad K pc 2 k 2 lv st ev ca rl nx
  | .iload_n k => Nat.beq len 1 && sLoad K pc 1 k 0 lv st ev ca rl nx
  | .lload_n k => Nat.beq len 1 && sLoad K pc 1 k 1 lv st ev ca rl nx
  | .aload_n k => Nat.beq len 1 && sLoad K pc 1 k 2 lv st ev ca rl nx
  | .istore k => Nat.beq len 2 && sStore nL K pc 2 k 0 lv st ev ca rl nx
  | .lstore k => Nat.beq len 2 && sStore nL K pc 2 k 1 lv st ev ca rl nx
  | .astore k => Nat.beq len 2 && sStore nL K pc 2 k 2 lv st ev ca rl nx
  | .istore_n k => Nat.beq len 1 && sStore nL K pc 1 k 0 lv st ev ca rl nx
  | .lstore_n k => Nat.beq len 1 && sStore nL K pc 1 k 1 lv st ev ca rl nx
  | .astore_n k => Nat.beq len 1 && sStore nL K pc 1 k 2 lv st ev ca rl nx
  | .iinc k n => Nat.beq len 3 && sInc nL K pc k n lv st ev ca rl nx
  | .pop => Nat.beq len 1 && sPop K pc lv st ev ca rl nx
  | .dup => Nat.beq len 1 && sDup K pc lv st ev ca rl nx
  | .dup2 => Nat.beq len 1 && sDup2 K pc lv st ev ca rl nx
  | .getfield idx => Nat.beq len 3 && sGet T fld K pc idx lv st ev ca rl nx
  | .putfield idx => Nat.beq len 3 && sPut T mk put K pc idx lv st ev ca rl nx
  | .iaload => Nat.beq len 1 && sAld T K pc 0 lv st ev ca rl nx
  | .laload => Nat.beq len 1 && sAld T K pc 1 lv st ev ca rl nx
  | .baload => Nat.beq len 1 && sAld T K pc 2 lv st ev ca rl nx
  | .aaload => Nat.beq len 1 && sAld3 T K pc lv st ev ca rl nx
  | .iastore => Nat.beq len 1 && sAst T mk K pc 0 lv st ev ca rl nx
  | .lastore => Nat.beq len 1 && sAst T mk K pc 1 lv st ev ca rl nx
  | .bastore => Nat.beq len 1 && sAst T mk K pc 2 lv st ev ca rl nx
  | .if_icmp c off => Nat.beq len 3 && sBr K pc (ccode c) off lv st ev ca rl nx
  | .ifCond c off => Nat.beq len 3 && sBr0 K pc (ccode c) off lv st ev ca rl nx
  | .lcmp => Nat.beq len 1 && (match dlook tab (pc + 1) with
    | some (.ifCond c off, n) => Nat.beq n 3 && sBrL K pc (ccode c) off lv st ev ca rl nx
    | _ => false)
  | .arraylength => Nat.beq len 1 && sLen T K pc lv st ev ca rl nx
  | .ifnull off => Nat.beq len 3 && sNul K pc off false lv st ev ca rl nx
  | .ifnonnull off => Nat.beq len 3 && sNul K pc off true lv st ev ca rl nx
  | .lookupswitch dflt ps => sLook K pc dflt ps.toList lv st ev ca rl nx
  | .goto off => Nat.beq len 3 && sGo K pc off (lv, st, ev, ca, rl, nx)
  | .tableswitch dflt lo hi offs => sTab K pc dflt lo hi offs.toList lv st ev ca rl nx
  | .invokevirtual idx => Nat.beq len 3 && sCall T mk cal Rf Rl K pc 0 idx lv st ev ca rl nx
  | .invokestatic idx => Nat.beq len 3 && sCall T mk cal Rf Rl K pc 1 idx lv st ev ca rl nx
  | .ireturn => Nat.beq len 1 && ((Nat.beq rk 1 || Nat.beq rk 3) && sRet C rk st ev ca rl)
  | .lreturn => Nat.beq len 1 && (Nat.beq rk 2 && sRet C rk st ev ca rl)
  | .return_ => Nat.beq len 1 && (Nat.beq rk 0 && sRet C rk st ev ca rl)
  | .ineg => Nat.beq len 1 && sUn K pc i lv st ev ca rl nx
  | .lneg => Nat.beq len 1 && sUn K pc i lv st ev ca rl nx
  | .i2l => Nat.beq len 1 && sUn K pc i lv st ev ca rl nx
  | .l2i => Nat.beq len 1 && sUn K pc i lv st ev ca rl nx
  | .i2b => Nat.beq len 1 && sUn K pc i lv st ev ca rl nx
  | .i2s => Nat.beq len 1 && sUn K pc i lv st ev ca rl nx
  | i => Nat.beq len 1 && sBin K pc i lv st ev ca rl nx
