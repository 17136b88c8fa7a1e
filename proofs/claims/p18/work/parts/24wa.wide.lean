/-! a call with more than eight words left below its arguments -/
section WIDE
variable {p : Program} {l : Launch} {e : Env} {R : Room} {s : State} {m : MethodId} {args : Array Value} {below : List Frame} {meth : Method} {c : Code} {nL : Nat} {G : KG} {A : Nat → Prop} {Q : State → Prop} {cc : ByteArray} {own : String} {ret : Option FieldType} {nm : String} {kc ks : Nat}
theorem lv_room12 {ls : Array Slot} {pc : Nat} {rest st : List Value} (h : (st.map fun v => v.category).sum ≤ 12) : 2 * (F0 m pc ls rest).monitorRoom + (st.map fun v => v.category).sum ≤ 12 := by
  show 2 * 0 + _ ≤ 12
  omega
theorem wide_back {index mc ms n maxL : Nat} {y : MethodName} {bytes : ByteArray} {rt : Option FieldType} {ws : List Cond} {rm : Room} {Pc : Array Value → State → Prop} {Qc : Array Value → State → Outcome → State → Prop} {free : Addr → Prop} (cb : CallB R s args own index y bytes maxL rt ws rm mc ms n) (hM : Met l y ws rm Pc Qc mc ms free) (hbl : FrameBlind Pc) (h12 : 12 + (maxL + 11) + rm.locals ≤ R.locals) : Back l R p e below s args y 3 12 (PreOf R mc ms Pc) (PostOf Qc mc ms free) := by
  obtain ⟨hrc, hrs, hfr, -, hws, hcw, -, hini, -⟩ := cb
  exact back_of (bytes := bytes) (maxL := maxL) (ret := rt) hM hbl hrc hrs hfr h12 hws hcw (fun a' U hW => word_at hW (Or.inl (by first | rfl | simp [Cond.onTables, Cond.keeps, Cond.steady])) hini)
theorem wide_runS {index mc ms n maxL cells slots : Nat} {y : MethodName} {bytes : ByteArray} {rt : Option FieldType} {ws : List Cond} {rm : Room} {Pc : Array Value → State → Prop} {Qc : Array Value → State → Outcome → State → Prop} {free : Addr → Prop} {Ts : List Cond} {H : Heap} {locs : List Loc} {g : JFrame} {As rest : List Value} (S : CallFix p m c cc nL s args Ts own) (hM : Met l y ws rm Pc Qc mc ms free) (cw : CallB R s args own index y bytes maxL rt ws rm mc ms n ∧ (Cond.static y).before args s = true) (h12 : 12 + (maxL + 11) + rm.locals ≤ R.locals) (hp : PreS s H Pc As)
    (hg : g.method = m) (hn : As.length = n) (hsize : g.locals.size = nL) (hstack : g.stack = As.reverse ++ rest) (hW : 2 * g.monitorRoom + (rest.map fun v => v.category).sum ≤ 12) (hdg : decode cc g.pc = .ok (.invokestatic index, 3)) (hf : cells + mc ≤ R.cells ∧ slots + ms ≤ R.slots) :
    va_Run p l e R s m args below meth c H locs cells slots mc ms g rest (Qc As.toArray) (free) := by
  have hK : Back l R p e below s args y 3 12 (PreOf R mc ms Pc) (PostOf Qc mc ms free) := wide_back cw.1 hM hp.1 h12
  obtain ⟨⟨-, -, -, -, -, -, hcode, hini, hy, hlen, hl⟩, hstt⟩ := cw
  obtain ⟨hx, hb, hml, ho, -⟩ := S
  intro T hT X
  obtain ⟨v, vm₁, ⟨U', l2, c2, s2⟩, hW₁, X', ⟨g', mk, t, L, e1, e2, hq, h1, hL, h2, h3⟩, st⟩ := callS X hx (bytes := bytes) (maxL := maxL) (ret := rt) ho hl hstt hini hcode hy hK hg (hsize.trans hml.symm) (argsL := As) (rest := rest) (fun sig h => hn.trans (hlen sig h)) hstack hW (by rw [hb]; exact hdg)
    (fun vm₁ hW₁ => ⟨hf.1, hf.2, hp.2 (T.setVm vm₁) hT hW₁⟩)
  dsimp only [Pt.U, Pt.locs, Pt.cells, Pt.slots] at X' e1 e2 h1 h2 h3 st
  subst h1; subst h2; subst h3
  exact ⟨v, (T.setVm vm₁).calling g' mk As.toArray, t, U', L, hT, X', hL, e1, e2, hq, st⟩
theorem wide_callS {idx mx n pc : Nat} {y : MethodName} {cy : ByteArray} {rt : Option FieldType} {rm : Room} {As rest st : List Value} {post : Option Value → va_W → Prop} {ws : va_W} {lw : List (Nat × Value)} (X : ZC p s m args meth c cc nL own G A ret nm) (K : LkS own idx y cy mx rt n) (hM : Ct l G y cy mx rt rm As ws post) (hdg : decode cc pc = .ok (.invokestatic idx, 3)) (hR : rm.frames + 1 ≤ R.frames ∧ 12 + (mx + 11) + rm.locals ≤ R.locals) (hf : kc + rm.cells ≤ R.cells ∧ ks + rm.slots ≤ R.slots) (hn : As.length = n) (hst : st = As.reverse ++ rest) (hcat : (rest.map fun v => v.category).sum ≤ 12)
    (kk : ∀ (r : Option Value) (w1 : va_W), post r w1 → Z p l e R s m args below meth c nL G A Q (pc + 3) lw (r.toList ++ rest) w1 (kc + rm.cells) (ks + rm.slots)) : Z p l e R s m args below meth c nL G A Q pc lw st ws kc ks := by
  obtain ⟨k1, k2, k3, k5, k7, k8, k9⟩ := K
  subst hst
  intro H locs ls hP hD hS hl
  have hts := X.2.2.2.2.1
  exact z_cont (wr := []) (wide_runS (As := As) (rest := rest) ⟨X.1, X.2.1, X.2.2.1, X.2.2.2.1, hts⟩ (hM H.size) ⟨callB_of n hts (goodIn_wsOf k5) rfl rfl rfl (hts _ k3) (hts _ k1) ⟨k7, k8, k9⟩ ⟨hR.1, by omega⟩, hts _ k2⟩ hR.2 ⟨Pcx.blind, pre_v (locs := locs) X hP hD (List.range ws.length) (range_pick ws) (va_nd_range _) _⟩ rfl hn hl.1 rfl (lv_room12 hcat) hdg hf) X.2.2.2.2.2.2.1 hP hD hS hl (List.range ws.length) [] (range_pick ws) rfl rfl rfl (fun r w1 hp => kk r w1 hp)
end WIDE
/-- the hook: a point's part, at the head of a long stack -/
def hkPt (p0 : Nat) : HKT := fun pc σ => bif Nat.beq pc p0 then (match σ.2.1 with
  | y :: x :: st => bif pId σ.2.2.1 x 1 && (pId σ.2.2.1 y 0 && Nat.ble (scat σ.2.2.1 st) 12) then some [(pc + 3, ((σ.1, σ.2.2.2.2.2 :: st, (σ.2.2.2.2.2, (1, lMin, lMax)) :: σ.2.2.1, σ.2.2.2.1, σ.2.2.2.2.1, σ.2.2.2.2.2 + 1) : AS))] else none
  | _ => none) else none
theorem cat12_ok {G : KG} {ad : Nat → Nat} {T : List TE} {mk : List (Nat × Nat)} {w0 : va_W} {pin : List (Nat × Value)} {lv : ALv} {st : List Nat} {ev : AEv} {ca : ACa} {rl : ARl} {nx : Nat} {ν : Nat → Value} {ws : va_W} (h : AK G ad T mk w0 pin (lv, st, ev, ca, rl, nx) ν ws) : ∀ (l : List Nat), ((l.map ν).map fun v => v.category).sum ≤ scat ev l
  | [] => by simp [scat]
  | i :: l => by
    have ih := cat12_ok h l
    have h1 : (ν i).category ≤ bif Nat.beq (aty ev i).1 1 then 2 else bif Nat.ble (aty ev i).1 3 then 1 else 9 := by
      rcases aty_sound (ad := ad) (ν := ν) ev i h.2.1 with e9 | ht
      · rw [e9]
        show (ν i).category ≤ 9
        cases ν i <;> first | exact (by decide : (1 : Nat) ≤ 9) | exact (by decide : (2 : Nat) ≤ 9)
      · rcases ht with ⟨e, ⟨x, hx⟩, -⟩ | ⟨e, ⟨x, hx⟩, -⟩ | ⟨e, hx⟩ | ⟨e, hx | ⟨a, hx⟩⟩
        all_goals (rw [e, hx]; first | exact Nat.le_refl 1 | exact Nat.le_refl 2)
    simp only [List.map_cons, List.sum_cons]
    show _ ≤ (bif Nat.beq (aty ev i).1 1 then 2 else bif Nat.ble (aty ev i).1 3 then 1 else 9) + scat ev l
    omega
theorem hkPt_ok {l : Launch} {G : KG} {cc : ByteArray} {nL : Nat} {ret : Option FieldType} {Rf Rl p0 : Nat} (d0 : decode cc p0 = .ok (.invokestatic 441, 3)) (hRf : 1 ≤ Rf) (hRl : 26 ≤ Rl) : HOK l G TM RX11 cc nL ret Rf Rl (hkPt p0) := by
  intro p e R s m args below meth c A nm Q kc ks X eRf eRl hkc hks ad mk w0 pin pc σ L hf h k
  obtain ⟨lv, st, ev, ca, rl, nx⟩ := σ
  unfold hkPt at h
  cases hb : Nat.beq pc p0 with
  | false => rw [hb] at h; cases h
  | true =>
    have hb := Nat.eq_of_beq_eq_true hb
    subst hb
    rw [Nat.beq_refl] at h
    match st, h, hf with
    | [], h, _ => cases h
    | [x], h, _ => cases h
    | y :: x :: st, h, hf =>
      have h : (bif pId ev x 1 && (pId ev y 0 && Nat.ble (scat ev st) 12) then some [(pc + 3, ((lv, nx :: st, (nx, (1, lMin, lMax)) :: ev, ca, rl, nx + 1) : AS))] else none) = some L := h
      cases hc : (pId ev x 1 && (pId ev y 0 && Nat.ble (scat ev st) 12)) with
      | false => rw [hc] at h; cases h
      | true =>
        rw [hc] at h
        cases h
        have k := k _ List.mem_cons_self
        obtain ⟨c1, hc⟩ := and2 hc
        obtain ⟨c2, c3⟩ := and2 hc
        intro ν lw sw ws hg
        obtain ⟨h1, h2, h3⟩ := hg
        have h3 : AK G ad TM mk w0 pin (lv, y :: x :: st, ev, ca, rl, nx) ν ws := h3
        have h2 : sw = ν y :: ν x :: st.map ν := h2
        obtain ⟨b, hb⟩ := h3.int (pId_ok c2)
        obtain ⟨a, ha⟩ := h3.long (pId_ok c1)
        have hW := h3.2.2.2.2.2.1
        obtain ⟨μ, hμ⟩ : ∃ μ : Nat → Value, μ = fun i => if i = 0 then .long a else .int b := ⟨_, rfl⟩
        have m0 : μ 0 = .long a := by rw [hμ]; rfl
        have m1 : μ 1 = .int b := by rw [hμ]; rfl
        have hpre : PRE ad C_X11_pointAt_0 μ ws := by
          refine ⟨fun j t hj => ?_, fun j q hj => ?_, fun q hq => ?_⟩
          · match j, hj with
            | 0, hj => cases hj; rw [m0]; exact vty_l0 _
            | 1, hj => cases hj; rw [m1]; exact vty_i0 _
            | n + 2, hj => cases hj
          · cases hj
          · cases hq
        have hct := ac_X11_pointAt_0 l G ad ws μ hW hpre
        have e0 : (List.range C_X11_pointAt_0.1.length).map μ = [.long a, .int b] := by show [μ 0, μ 1] = _; rw [m0, m1]
        rw [e0] at hct
        rw [h2, ha, hb]
        refine wide_callS (rest := st.map ν) X k_11_441 hct d0 ⟨by show 0 + 1 ≤ R.frames; omega, by show 12 + (3 + 11) + 0 ≤ R.locals; omega⟩ ⟨hkc, hks⟩ rfl rfl (Nat.le_trans (cat12_ok h3 st) (Nat.le_of_ble_eq_true c3)) (fun r w1 hp => ?_)
        obtain ⟨A1, hA1, μ2, -, -, q3, -, -, -, q7, q8⟩ := hp
        have e := List.mem_singleton.mp hA1
        subst e
        obtain ⟨r1, r2⟩ := q3
        obtain ⟨v, ev', -⟩ := vty1 r2 rfl
        rw [r1, ev']
        have g0 : AG G ad TM mk w0 pin (lv, st, ev, ca.filter (fun q => !(mkq [] q.1 q.2.1)), rl, nx) ν lw (st.map ν) w1 := AG.world (st2 := st) ⟨h1, h2, h3⟩ q7 q8 rfl
        have ef : ca.filter (fun q => !(mkq [] q.1 q.2.1)) = ca := List.filter_eq_self.mpr (fun q _ => rfl)
        rw [ef] at g0
        exact k _ _ _ _ (AG.push (nr := []) g0 (afr_pop (afr_pop hf)) (vty_l0 v) (fun q hq => absurd hq List.not_mem_nil))
