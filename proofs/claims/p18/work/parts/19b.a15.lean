/-! hooks -/
/-- (x + y) / 2, three instructions in one -/
def hkMid (p0 : Nat) : HKT := fun pc σ => bif Nat.beq pc p0 then (match σ.2.1 with
  | y :: x :: st => bif pId σ.2.2.1 x 0 && (pId σ.2.2.1 y 0 && (decide (0 ≤ xlo σ.2.2.1 σ.2.2.2.2.1 x) && (decide (0 ≤ xlo σ.2.2.1 σ.2.2.2.2.1 y) && (decide (xhi σ.2.2.1 σ.2.2.2.2.1 x + xhi σ.2.2.1 σ.2.2.2.2.1 y ≤ iMax) && dle σ.2.2.1 σ.2.2.2.2.1 x y 0)))) then (match adif σ.2.2.1 σ.2.2.2.2.1 x 3 y with
    | some d => some [(p0 + 3, (σ.1, σ.2.2.2.2.2 :: st, (σ.2.2.2.2.2, (0, xlo σ.2.2.1 σ.2.2.2.2.1 x, xhi σ.2.2.1 σ.2.2.2.2.1 y)) :: σ.2.2.1, σ.2.2.2.1, [(x, σ.2.2.2.2.2, 0), (σ.2.2.2.2.2, y, 0), (σ.2.2.2.2.2, x, d / 2), (y, σ.2.2.2.2.2, (d + 1) / 2)] ++ σ.2.2.2.2.1, σ.2.2.2.2.2 + 1))]
    | none => none) else none
  | _ => none) else none
theorem hkMid_ok {l : Launch} {G : KG} {T : List TE} {own : String} {cc : ByteArray} {nL : Nat} {ret : Option FieldType} {Rf Rl p0 : Nat} (d0 : decode cc p0 = .ok (.iadd, 1)) (d1 : decode cc (p0 + 1) = .ok (.iconst 2, 1)) (d2 : decode cc (p0 + 2) = .ok (.idiv, 1)) : HOK l G T own cc nL ret Rf Rl (hkMid p0) := by
  intro p e R s m args below meth c A nm Q kc ks X _ _ _ _ ad mk w0 pin pc σ L hf h k
  obtain ⟨lv, st, ev, ca, rl, nx⟩ := σ
  unfold hkMid at h
  cases hb : Nat.beq pc p0 with
  | false => rw [hb] at h; cases h
  | true =>
    have hb := Nat.eq_of_beq_eq_true hb
    subst hb
    rw [Nat.beq_refl] at h
    match st, h, hf with
    | [], h, _ => cases h
    | [x], h, _ => cases h
    | y :: x :: st, h, hf =>
      have h : (bif pId ev x 0 && (pId ev y 0 && (decide (0 ≤ xlo ev rl x) && (decide (0 ≤ xlo ev rl y) && (decide (xhi ev rl x + xhi ev rl y ≤ iMax) && dle ev rl x y 0)))) then (match adif ev rl x 3 y with
        | some d => some [(pc + 3, ((lv, nx :: st, (nx, (0, xlo ev rl x, xhi ev rl y)) :: ev, ca, [(x, nx, 0), (nx, y, 0), (nx, x, d / 2), (y, nx, (d + 1) / 2)] ++ rl, nx + 1) : AS))]
        | none => none) else none) = some L := h
      cases hc : (pId ev x 0 && (pId ev y 0 && (decide (0 ≤ xlo ev rl x) && (decide (0 ≤ xlo ev rl y) && (decide (xhi ev rl x + xhi ev rl y ≤ iMax) && dle ev rl x y 0))))) with
      | false => rw [hc] at h; cases h
      | true =>
        rw [hc] at h
        cases hd : adif ev rl x 3 y with
        | none => rw [hd] at h; cases h
        | some d =>
          rw [hd] at h
          cases h
          have k := k _ List.mem_cons_self
          obtain ⟨c1, hc⟩ := and2 hc
          obtain ⟨c2, hc⟩ := and2 hc
          obtain ⟨c3, hc⟩ := and2 hc
          obtain ⟨c4, hc⟩ := and2 hc
          obtain ⟨c5, c6⟩ := and2 hc
          have c3 := of_decide_eq_true c3
          have c4 := of_decide_eq_true c4
          have c5 := of_decide_eq_true c5
          unfold iMax at c5
          intro ν lw sw ws hg
          obtain ⟨h1, h2, h3⟩ := hg
          have h3 : AK G ad T mk w0 pin (lv, st, ev, ca, rl, nx) ν ws := h3
          have h2 : sw = ν y :: ν x :: st.map ν := h2
          obtain ⟨a, ha⟩ := h3.int (pId_ok c1)
          obtain ⟨b, hb⟩ := h3.int (pId_ok c2)
          have l1 := h3.lo2 x
          have l2 := h3.hi2 x
          have l3 := h3.lo2 y
          have l4 := h3.hi2 y
          have l5 := h3.dl c6
          have l6 := h3.dif hd
          rw [ha] at l1 l2
          rw [hb] at l3 l4
          rw [ha, hb] at l5 l6
          have l1 : xlo ev rl x ≤ a.toInt := l1
          have l2 : a.toInt ≤ xhi ev rl x := l2
          have l3 : xlo ev rl y ≤ b.toInt := l3
          have l4 : b.toInt ≤ xhi ev rl y := l4
          have l5 : a.toInt ≤ b.toInt + 0 := l5
          have l6 : b.toInt - a.toInt ≤ d := l6
          have e1 : (a + b).toInt = a.toInt + b.toInt := tI_add rfl rfl (by omega)
          have e2 : ((a + b) / 2).toInt = (a.toInt + b.toInt) / 2 := by
            rw [i32_div (by omega) (show (0 : Int) < (2 : Int32).toInt by decide), e1]
            rfl
          rw [h2, ha, hb]
          refine z_iadd X d0 (z_iconst X d1 (v := 2) rfl (z_idiv X d2 (by decide) ?_))
          have hxn : x < nx := (afr_ok hf).2.2.1 x (List.mem_cons_of_mem _ List.mem_cons_self)
          have hyn : y < nx := (afr_ok hf).2.2.1 y List.mem_cons_self
          refine k _ _ _ _ (AG.push (nr := [(x, nx, 0), (nx, y, 0), (nx, x, d / 2), (y, nx, (d + 1) / 2)]) ⟨h1, rfl, h3⟩ (afr_pop (afr_pop hf)) (vty_i (by rw [e2]; omega) (by rw [e2]; omega)) (fun q hq => ?_))
          have vx : ∀ v, vI (nup ν nx v x) = a.toInt := fun v => by rw [nup_ne hxn, ha]; rfl
          have vy : ∀ v, vI (nup ν nx v y) = b.toInt := fun v => by rw [nup_ne hyn, hb]; rfl
          have vn : ∀ v, vI (nup ν nx v nx) = vI v := fun v => by rw [nup_eq]
          have vv : vI (.int ((a + b) / 2)) = (a.toInt + b.toInt) / 2 := e2
          rcases List.mem_cons.mp hq with e | hq
          · rw [e, vx, vn, vv]; show _ ≤ _ + (0 : Int); omega
          rcases List.mem_cons.mp hq with e | hq
          · rw [e, vy, vn, vv]; show _ ≤ _ + (0 : Int); omega
          rcases List.mem_cons.mp hq with e | hq
          · rw [e, vx, vn, vv]; show _ ≤ _ + d / 2; omega
          rcases List.mem_cons.mp hq with e | hq
          · rw [e, vy, vn, vv]; show _ ≤ _ + (d + 1) / 2; omega
          · cases hq
