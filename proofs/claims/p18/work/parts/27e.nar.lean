/-! the hook: how many pulls make the size that most make -/
theorem afr_filter {lv : ALv} {st : List Nat} {ev : AEv} {ca : ACa} {rl : ARl} {nx : Nat} {f : Nat × Nat × Nat → Bool} (h : afr (lv, st, ev, ca, rl, nx) = true) : afr (lv, st, ev, ca.filter f, rl, nx) = true := by
  unfold afr at h ⊢
  simp only [Bool.and_eq_true, List.all_eq_true] at h ⊢
  obtain ⟨h0, h1, h2, h3, h4, h5⟩ := h
  exact ⟨h0, h1, h2, h3, fun q hq => h4 q (List.mem_filter.mp hq).1, h5⟩
abbrev mk_ma : List (Nat × Nat) := C_p_X3_mostAlike_0.2.2.2.2.1
def hkNar : HKT := fun pc σ => bif Nat.beq pc 67 then (match σ.2.1 with
  | y :: x :: st => bif pId σ.2.2.1 x 2 && (decide ((aty σ.2.2.1 x).2.1 = 109) && (pId σ.2.2.1 y 0 && Nat.ble (scat σ.2.2.1 st) 8)) then some [(70, ((σ.1, σ.2.2.2.2.2 :: st, (σ.2.2.2.2.2, tI0) :: σ.2.2.1, σ.2.2.2.1.filter (fun q => !(mkq mk_ma q.1 q.2.1)), σ.2.2.2.2.1, σ.2.2.2.2.2 + 1) : AS))] else none
  | _ => none) else none
theorem hkNar_ok {l : Launch} {G : KG} {cc : ByteArray} {nL : Nat} {ret : Option FieldType} {Rf Rl : Nat} {mk : List (Nat × Nat)} {w0 : va_W} (hP : GC G w0) (hmk : mkq mk 111 0 = false) (hcov : cov mk mk_ma = true) (hRf : C_p_X3_mostAlike_0.2.2.2.2.2.1 + 1 ≤ Rf) (hRl : 8 + (5 + 11) + C_p_X3_mostAlike_0.2.2.2.2.2.2 ≤ Rl) (d0 : decode cc 67 = .ok (.invokevirtual 300, 3)) : HOKP l G TXP RX10 cc nL ret Rf Rl hkNar mk w0 := by
  intro p e R s m args below meth c A nm Q kc ks X eRf eRl hkc hks ad pin pc σ L hf h k
  obtain ⟨lv, st, ev, ca, rl, nx⟩ := σ
  unfold hkNar at h
  cases hb : Nat.beq pc 67 with
  | false => rw [hb] at h; cases h
  | true =>
    have hb := Nat.eq_of_beq_eq_true hb
    subst hb
    rw [Nat.beq_refl] at h
    match st, h, hf with
    | [], h, _ => cases h
    | [x], h, _ => cases h
    | y :: x :: st, h, hf =>
      have h : (bif pId ev x 2 && (decide ((aty ev x).2.1 = 109) && (pId ev y 0 && Nat.ble (scat ev st) 8)) then some [(70, ((lv, nx :: st, (nx, tI0) :: ev, ca.filter (fun q => !(mkq mk_ma q.1 q.2.1)), rl, nx + 1) : AS))] else none) = some L := h
      cases hc : (pId ev x 2 && (decide ((aty ev x).2.1 = 109) && (pId ev y 0 && Nat.ble (scat ev st) 8))) with
      | false => rw [hc] at h; cases h
      | true =>
        rw [hc] at h
        cases h
        have k := k _ List.mem_cons_self
        obtain ⟨c0, hc⟩ := and2 hc
        obtain ⟨c1, hc⟩ := and2 hc
        obtain ⟨c2, c3⟩ := and2 hc
        have c1 := of_decide_eq_true c1
        intro ν lw sw ws hg
        obtain ⟨h1, h2, h3⟩ := hg
        have h3 : AK G ad TXP mk w0 pin (lv, y :: x :: st, ev, ca, rl, nx) ν ws := h3
        have h2 : sw = ν y :: ν x :: st.map ν := h2
        obtain ⟨b, hb⟩ := h3.int (pId_ok c2)
        have ht := h3.ref (pId_ok c0)
        rw [c1] at ht
        have ht : ν x = .ref (ad 109) := ht
        have hW := h3.2.2.2.2.2.1
        have hGC := hP.frm h3.2.2.2.2.2.2 hmk
        obtain ⟨μ, hμ⟩ : ∃ μ : Nat → Value, μ = fun i => if i = 0 then .ref (ad 109) else .int b := ⟨_, rfl⟩
        have m0 : μ 0 = .ref (ad 109) := by rw [hμ]; rfl
        have m1 : μ 1 = .int b := by rw [hμ]; rfl
        have hpre : PRE ad C_p_X3_mostAlike_0 μ ws := by
          refine ⟨fun j t hj => ?_, fun j q hj => ?_, fun q hq => ?_⟩
          · match j, hj with
            | 0, hj => cases hj; rw [m0]; exact Or.inr (Or.inr (Or.inl ⟨rfl, rfl⟩))
            | 1, hj => cases hj; rw [m1]; exact vty_i0 _
            | n + 2, hj => cases hj
          · cases hj
          · cases hq
        have hct := ac_p_X3_mostAlike_0 l G ad ws μ hW hpre hGC
        have e0 : (List.range C_p_X3_mostAlike_0.1.length).map μ = [.ref (ad 109), .int b] := by show [μ 0, μ 1] = _; rw [m0, m1]
        rw [e0] at hct
        rw [h2, ht, hb]
        refine hcallV (T := TXP) (k := 109) (rest := st.map ν) (avs := [.int b]) X k_10_300 hct d0 hW rfl rfl rfl rfl ⟨by rw [← eRf]; exact hRf, by rw [← eRl]; exact hRl⟩ ⟨hkc, hks⟩ (Nat.le_trans (cat12_ok h3 st) (Nat.le_of_ble_eq_true c3)) rfl (fun r w1 hp => ?_)
        obtain ⟨A1, hA1, μ2, -, -, q3, -, -, -, q7, q8⟩ := hp
        have e := List.mem_singleton.mp hA1
        subst e
        obtain ⟨r1, r2⟩ := q3
        obtain ⟨v, ev', -⟩ := vty0 r2 rfl
        rw [r1, ev']
        have g0 : AG G ad TXP mk w0 pin (lv, st, ev, ca.filter (fun q => !(mkq mk_ma q.1 q.2.1)), rl, nx) ν lw (st.map ν) w1 := AG.world (st2 := st) ⟨h1, h2, h3⟩ q7 q8 hcov
        exact k _ _ _ _ (AG.push (nr := []) g0 (afr_filter (afr_pop (afr_pop hf))) (vty_i0 v) (fun q hq => absurd hq List.not_mem_nil))
