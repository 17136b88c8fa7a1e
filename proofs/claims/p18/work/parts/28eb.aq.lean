/-! the runner, with any ends -/
section AZA
variable {p : Program} {l : Launch} {e : Env} {R : Room} {s : State} {m : MethodId} {args : Array Value} {below : List Frame} {meth : Method} {c : Code} {nL : Nat} {G : KG} {A : Nat → Prop} {cc : ByteArray} {own : String} {ret : Option FieldType} {nm : String} {kc ks mc ms : Nat}
variable {ad : Nat → Nat} {T : List TE} {w0 : va_W} {pin : List (Nat × Value)} {C : CE} {μ : Nat → Value} {PO : Option Value → va_W → Prop}
variable {lv : ALv} {st : List Nat} {ev : AEv} {ca : ACa} {rl : ARl} {nx pc rk : Nat} {K : KT}
variable {Q : State → Prop}
theorem sRetQ_ok (hQ : ∀ t, MQ below (QQ G A PO) args s mc ms A t → Q t) (X : ZC p s m args meth c cc nL own G A ret nm) (hrk : RK rk ret) (hdg : (rk = 0 → decode cc pc = .ok (.return_, 1)) ∧ (rk = 1 ∨ rk = 3 → decode cc pc = .ok (.ireturn, 1)) ∧ (rk = 2 → decode cc pc = .ok (.lreturn, 1))) (hc : kc ≤ mc) (hs : ks ≤ ms) (hp1 : ∀ j, j < C.1.length → (j, μ j) ∈ pin) (hp2 : ∀ j, j < C.2.1.length → (100 + j, μ (100 + j)) ∈ pin) (hl1 : C.1.length ≤ 50) (hl2 : C.2.1.length ≤ 100) (hPO : ∀ r w1, POST G ad T C μ w0 r w1 → PO r w1) (h : sRet C rk st ev ca rl = true) : AQ p l e R s m args below meth c nL G A Q kc ks ad T C.2.2.2.2.1 w0 pin (lv, st, ev, ca, rl, nx) pc :=
  fun ν lw sw ws hg => Z.imp hQ (sRet_ok (C := C) (μ := μ) (PO := PO) X hrk hdg hc hs hp1 hp2 hl1 hl2 hPO h ν lw sw ws hg)
set_option maxHeartbeats 8000000 in
theorem sInsQ_ok (hQ : ∀ t, MQ below (QQ G A PO) args s mc ms A t → Q t) (X : ZC p s m args meth c cc nL own G A ret nm) {fld : List (Nat × Nat × Nat)} {put : List (Nat × Nat × Nat × Nat)} {cst cstl : List (Nat × Int)} {cal : List CAL} {tab : DT} (htab : ∀ q ∈ tab, decode cc q.1 = .ok q.2) {i : Instr} {len : Nat} (hdg : decode cc pc = .ok (i, len)) (hrk : RK rk ret) (hc : kc ≤ mc) (hs : ks ≤ ms) (hp1 : ∀ j, j < C.1.length → (j, μ j) ∈ pin) (hp2 : ∀ j, j < C.2.1.length → (100 + j, μ (100 + j)) ∈ pin) (hl1 : C.1.length ≤ 50) (hl2 : C.2.1.length ≤ 100) (hPO : ∀ r w1, POST G ad T C μ w0 r w1 → PO r w1)
    (hF : ∀ q ∈ fld, FL own q.1 q.2.1 q.2.2 ∨ FN own q.1 q.2.1 q.2.2) (hP : ∀ q ∈ put, PA own q.1 q.2.1 q.2.2.1 q.2.2.2) (hC : ∀ q ∈ cst, ∃ x : Int32, x.toInt = q.2 ∧ Jvm.Cond.constant own q.1 x ∈ BIG) (hCl : ∀ q ∈ cstl, ∃ x : Int64, x.toInt = q.2 ∧ Jvm.Cond.constantLong own q.1 x ∈ BIG) (hcal : ∀ q ∈ cal, COK l G own T q) (hkc : kc ≤ R.cells) (hks : ks ≤ R.slots)
    (hf : afr (lv, st, ev, ca, rl, nx) = true) (hK : ∀ pc σ, K pc σ = true → AQ p l e R s m args below meth c nL G A Q kc ks ad T C.2.2.2.2.1 w0 pin σ pc) (h : sIns tab nL T C.2.2.2.2.1 fld put cst cstl cal R.frames R.locals rk C K pc len i lv st ev ca rl nx = true) : AQ p l e R s m args below meth c nL G A Q kc ks ad T C.2.2.2.2.1 w0 pin (lv, st, ev, ca, rl, nx) pc := by
  cases i with
  | iconst n =>
    obtain ⟨hl, h⟩ := and2 h
    have hl : len = 1 := Nat.eq_of_beq_eq_true hl
    rw [hl] at hdg
    obtain ⟨h1, h⟩ := and2 h
    obtain ⟨h2, h⟩ := and2 h
    have h1 := of_decide_eq_true h1
    have h2 := of_decide_eq_true h2
    exact sCon_ok hK hf (ofI32 (by omega) (by omega)) (fun lw rest ws kz => z_iconst X hdg rfl kz) h
  | bipush n =>
    obtain ⟨hl, h⟩ := and2 h
    have hl : len = 2 := Nat.eq_of_beq_eq_true hl
    rw [hl] at hdg
    obtain ⟨h1, h⟩ := and2 h
    obtain ⟨h2, h⟩ := and2 h
    exact sCon_ok hK hf (ofI8 (of_decide_eq_true h1) (of_decide_eq_true h2)) (fun lw rest ws kz => z_bipush X hdg rfl kz) h
  | sipush n =>
    obtain ⟨hl, h⟩ := and2 h
    have hl : len = 3 := Nat.eq_of_beq_eq_true hl
    rw [hl] at hdg
    obtain ⟨h1, h⟩ := and2 h
    obtain ⟨h2, h⟩ := and2 h
    exact sCon_ok hK hf (ofI16 (of_decide_eq_true h1) (of_decide_eq_true h2)) (fun lw rest ws kz => z_sipush X hdg rfl kz) h
  | lconst n =>
    obtain ⟨hl, h⟩ := and2 h
    have hl : len = 1 := Nat.eq_of_beq_eq_true hl
    rw [hl] at hdg
    exact az_con (fun lw rest ws kz => z_lconst X hdg rfl kz) hf (vty_l (by rw [ofL2]; exact Int.le_refl _) (by rw [ofL2]; exact Int.le_refl _)) (hK _ _ h)
  | ldc idx =>
    obtain ⟨hl, h⟩ := and2 h
    have hl : len = 2 := Nat.eq_of_beq_eq_true hl
    rw [hl] at hdg
    exact sLdc_ok hC hK hf (fun v hv lw rest ws kz => z_ldc X hdg hv kz) h
  | ldc_w idx =>
    obtain ⟨hl, h⟩ := and2 h
    have hl : len = 3 := Nat.eq_of_beq_eq_true hl
    rw [hl] at hdg
    exact sLdc_ok hC hK hf (fun v hv lw rest ws kz => z_ldcw X hdg hv kz) h
  | ldc2_w idx =>
    obtain ⟨hl, h⟩ := and2 h
    have hl : len = 3 := Nat.eq_of_beq_eq_true hl
    rw [hl] at hdg
    exact sLdcL_ok X hdg hCl hK hf h
  | iload k =>
    obtain ⟨hl, h⟩ := and2 h
    have hl : len = 2 := Nat.eq_of_beq_eq_true hl
    rw [hl] at hdg
    exact sLoad_ok (by decide) hK (by rintro _ lw rest ws q hq ⟨a, rfl⟩ kz; exact z_iload X hdg q hq kz) h
  | lload k =>
    obtain ⟨hl, h⟩ := and2 h
    have hl : len = 2 := Nat.eq_of_beq_eq_true hl
    rw [hl] at hdg
    exact sLoad_ok (by decide) hK (by rintro _ lw rest ws q hq ⟨a, rfl⟩ kz; exact z_lload X hdg q hq kz) h
  | aload k =>
    obtain ⟨hl, h⟩ := and2 h
    have hl : len = 2 := Nat.eq_of_beq_eq_true hl
    rw [hl] at hdg
    exact sLoad_ok (by decide) hK (by rintro _ lw rest ws q hq ⟨a, rfl⟩ kz; exact z_aload X hdg q hq kz) h
  | iload_n k =>
    obtain ⟨hl, h⟩ := and2 h
    have hl : len = 1 := Nat.eq_of_beq_eq_true hl
    rw [hl] at hdg
    exact sLoad_ok (by decide) hK (by rintro _ lw rest ws q hq ⟨a, rfl⟩ kz; exact z_iload_n X hdg rfl q hq kz) h
  | lload_n k =>
    obtain ⟨hl, h⟩ := and2 h
    have hl : len = 1 := Nat.eq_of_beq_eq_true hl
    rw [hl] at hdg
    exact sLoad_ok (by decide) hK (by rintro _ lw rest ws q hq ⟨a, rfl⟩ kz; exact z_lload_n X hdg rfl q hq kz) h
  | aload_n k =>
    obtain ⟨hl, h⟩ := and2 h
    have hl : len = 1 := Nat.eq_of_beq_eq_true hl
    rw [hl] at hdg
    exact sLoad_ok (by decide) hK (by rintro _ lw rest ws q hq ⟨a, rfl⟩ kz; exact z_aload_n X hdg rfl q hq kz) h
  | istore k =>
    obtain ⟨hl, h⟩ := and2 h
    have hl : len = 2 := Nat.eq_of_beq_eq_true hl
    rw [hl] at hdg
    exact sStore_ok (by decide) hK (by rintro hn _ lw rest ws ⟨a, rfl⟩ kz; exact zst1 X hdg hn kz) h
  | istore_n k =>
    obtain ⟨hl, h⟩ := and2 h
    have hl : len = 1 := Nat.eq_of_beq_eq_true hl
    rw [hl] at hdg
    exact sStore_ok (by decide) hK (by rintro hn _ lw rest ws ⟨a, rfl⟩ kz; exact zst2 X hdg hn kz) h
  | astore k =>
    obtain ⟨hl, h⟩ := and2 h
    have hl : len = 2 := Nat.eq_of_beq_eq_true hl
    rw [hl] at hdg
    exact sStore_ok (by decide) hK (by rintro hn _ lw rest ws ⟨a, rfl⟩ kz; exact zst3 X hdg hn kz) h
  | astore_n k =>
    obtain ⟨hl, h⟩ := and2 h
    have hl : len = 1 := Nat.eq_of_beq_eq_true hl
    rw [hl] at hdg
    exact sStore_ok (by decide) hK (by rintro hn _ lw rest ws ⟨a, rfl⟩ kz; exact zst4 X hdg hn kz) h
  | lstore k =>
    obtain ⟨hl, h⟩ := and2 h
    have hl : len = 2 := Nat.eq_of_beq_eq_true hl
    rw [hl] at hdg
    exact sStore_ok (by decide) hK (by rintro hn _ lw rest ws ⟨a, rfl⟩ kz; exact zst5 X hdg hn kz) h
  | lstore_n k =>
    obtain ⟨hl, h⟩ := and2 h
    have hl : len = 1 := Nat.eq_of_beq_eq_true hl
    rw [hl] at hdg
    exact sStore_ok (by decide) hK (by rintro hn _ lw rest ws ⟨a, rfl⟩ kz; exact zst6 X hdg hn kz) h
  | iinc k n =>
    obtain ⟨hl, h⟩ := and2 h
    have hl : len = 3 := Nat.eq_of_beq_eq_true hl
    rw [hl] at hdg
    exact sInc_ok X hdg hK hf h
  | pop =>
    obtain ⟨hl, h⟩ := and2 h
    have hl : len = 1 := Nat.eq_of_beq_eq_true hl
    rw [hl] at hdg
    exact sPop_ok X hdg hK h
  | dup =>
    obtain ⟨hl, h⟩ := and2 h
    have hl : len = 1 := Nat.eq_of_beq_eq_true hl
    rw [hl] at hdg
    exact sDup_ok X hdg hK h
  | dup2 =>
    obtain ⟨hl, h⟩ := and2 h
    have hl : len = 1 := Nat.eq_of_beq_eq_true hl
    rw [hl] at hdg
    exact sDup2_ok X hdg hK h
  | getfield idx =>
    obtain ⟨hl, h⟩ := and2 h
    have hl : len = 3 := Nat.eq_of_beq_eq_true hl
    rw [hl] at hdg
    exact sGet_ok X hdg hF hK hf h
  | putfield idx =>
    obtain ⟨hl, h⟩ := and2 h
    have hl : len = 3 := Nat.eq_of_beq_eq_true hl
    rw [hl] at hdg
    exact sPut_ok X hdg hP hK h
  | iaload =>
    obtain ⟨hl, h⟩ := and2 h
    have hl : len = 1 := Nat.eq_of_beq_eq_true hl
    rw [hl] at hdg
    exact sAld_ok X (by decide) ⟨fun _ => hdg, fun q => absurd q (by decide), fun q => absurd q (by decide)⟩ hK hf h
  | laload =>
    obtain ⟨hl, h⟩ := and2 h
    have hl : len = 1 := Nat.eq_of_beq_eq_true hl
    rw [hl] at hdg
    exact sAld_ok X (by decide) ⟨fun q => absurd q (by decide), fun _ => hdg, fun q => absurd q (by decide)⟩ hK hf h
  | baload =>
    obtain ⟨hl, h⟩ := and2 h
    have hl : len = 1 := Nat.eq_of_beq_eq_true hl
    rw [hl] at hdg
    exact sAld_ok X (by decide) ⟨fun q => absurd q (by decide), fun q => absurd q (by decide), fun _ => hdg⟩ hK hf h
  | iastore =>
    obtain ⟨hl, h⟩ := and2 h
    have hl : len = 1 := Nat.eq_of_beq_eq_true hl
    rw [hl] at hdg
    exact sAst_ok X (by decide) ⟨fun _ => hdg, fun q => absurd q (by decide), fun q => absurd q (by decide)⟩ hK h
  | lastore =>
    obtain ⟨hl, h⟩ := and2 h
    have hl : len = 1 := Nat.eq_of_beq_eq_true hl
    rw [hl] at hdg
    exact sAst_ok X (by decide) ⟨fun q => absurd q (by decide), fun _ => hdg, fun q => absurd q (by decide)⟩ hK h
  | bastore =>
    obtain ⟨hl, h⟩ := and2 h
    have hl : len = 1 := Nat.eq_of_beq_eq_true hl
    rw [hl] at hdg
    exact sAst_ok X (by decide) ⟨fun q => absurd q (by decide), fun q => absurd q (by decide), fun _ => hdg⟩ hK h
  | aaload =>
    obtain ⟨hl, h⟩ := and2 h
    have hl : len = 1 := Nat.eq_of_beq_eq_true hl
    rw [hl] at hdg
    exact sAld3_ok X hdg hK hf h
  | if_icmp co off =>
    obtain ⟨hl, h⟩ := and2 h
    have hl : len = 3 := Nat.eq_of_beq_eq_true hl
    rw [hl] at hdg
    exact sBr_ok X hdg hK h
  | ifCond co off =>
    obtain ⟨hl, h⟩ := and2 h
    have hl : len = 3 := Nat.eq_of_beq_eq_true hl
    rw [hl] at hdg
    exact sBr0_ok X hdg hf hK h
  | lcmp =>
    obtain ⟨hl, h⟩ := and2 h
    have hl : len = 1 := Nat.eq_of_beq_eq_true hl
    rw [hl] at hdg
    cases hd0 : dlook tab (pc + 1) with
    | none => rw [hd0] at h; cases h
    | some z =>
      obtain ⟨i2, n2⟩ := z
      rw [hd0] at h
      have hd := htab _ (dlook_mem tab _ _ hd0)
      cases i2 with
      | ifCond co off =>
        obtain ⟨h1, h2⟩ := and2 h
        have h1 : n2 = 3 := Nat.eq_of_beq_eq_true h1
        have hd : decode cc (pc + 1) = .ok (.ifCond co off, n2) := hd
        rw [h1] at hd
        exact sBrL_ok X hdg hd hK h2
      | _ => cases h
  | arraylength =>
    obtain ⟨hl, h⟩ := and2 h
    have hl : len = 1 := Nat.eq_of_beq_eq_true hl
    rw [hl] at hdg
    exact sLen_ok X hdg hf hK h
  | ifnull off =>
    obtain ⟨hl, h⟩ := and2 h
    have hl : len = 3 := Nat.eq_of_beq_eq_true hl
    rw [hl] at hdg
    exact sNul_ok X ⟨fun _ => hdg, fun q => absurd q (by decide)⟩ hK h
  | ifnonnull off =>
    obtain ⟨hl, h⟩ := and2 h
    have hl : len = 3 := Nat.eq_of_beq_eq_true hl
    rw [hl] at hdg
    exact sNul_ok X ⟨fun q => absurd q (by decide), fun _ => hdg⟩ hK h
  | lookupswitch dflt ps =>
    exact sLook_ok X hdg hK h
  | goto off =>
    obtain ⟨hl, h⟩ := and2 h
    have hl : len = 3 := Nat.eq_of_beq_eq_true hl
    rw [hl] at hdg
    exact sGo_ok X hdg hK h
  | tableswitch dflt lo hi offs =>
    exact sTab_ok X hdg hK h
  | invokevirtual idx =>
    obtain ⟨hl, h⟩ := and2 h
    have hl : len = 3 := Nat.eq_of_beq_eq_true hl
    rw [hl] at hdg
    exact sCall_ok X hcal ⟨fun _ => hdg, fun q => absurd q (by decide)⟩ hkc hks hf hK h
  | invokestatic idx =>
    obtain ⟨hl, h⟩ := and2 h
    have hl : len = 3 := Nat.eq_of_beq_eq_true hl
    rw [hl] at hdg
    exact sCall_ok X hcal ⟨fun q => absurd q (by decide), fun _ => hdg⟩ hkc hks hf hK h
  | ireturn =>
    obtain ⟨hl, h⟩ := and2 h
    have hl : len = 1 := Nat.eq_of_beq_eq_true hl
    rw [hl] at hdg
    obtain ⟨h1, h⟩ := and2 h
    rw [Bool.or_eq_true] at h1
    have h1 : rk = 1 ∨ rk = 3 := h1.imp Nat.eq_of_beq_eq_true Nat.eq_of_beq_eq_true
    exact sRetQ_ok hQ X hrk ⟨fun q => by omega, fun _ => hdg, fun q => by omega⟩ hc hs hp1 hp2 hl1 hl2 hPO h
  | lreturn =>
    obtain ⟨hl, h⟩ := and2 h
    have hl : len = 1 := Nat.eq_of_beq_eq_true hl
    rw [hl] at hdg
    obtain ⟨h1, h⟩ := and2 h
    have h1 : rk = 2 := Nat.eq_of_beq_eq_true h1
    exact sRetQ_ok hQ X hrk ⟨fun q => by omega, fun q => by omega, fun _ => hdg⟩ hc hs hp1 hp2 hl1 hl2 hPO h
  | return_ =>
    obtain ⟨hl, h⟩ := and2 h
    have hl : len = 1 := Nat.eq_of_beq_eq_true hl
    rw [hl] at hdg
    obtain ⟨h1, h⟩ := and2 h
    have h1 : rk = 0 := Nat.eq_of_beq_eq_true h1
    exact sRetQ_ok hQ X hrk ⟨fun _ => hdg, fun q => by omega, fun q => by omega⟩ hc hs hp1 hp2 hl1 hl2 hPO h
  | ineg =>
    obtain ⟨hl, h⟩ := and2 h
    have hl : len = 1 := Nat.eq_of_beq_eq_true hl
    rw [hl] at hdg
    exact sUn_ok X hdg hK hf h
  | lneg =>
    obtain ⟨hl, h⟩ := and2 h
    have hl : len = 1 := Nat.eq_of_beq_eq_true hl
    rw [hl] at hdg
    exact sUn_ok X hdg hK hf h
  | i2l =>
    obtain ⟨hl, h⟩ := and2 h
    have hl : len = 1 := Nat.eq_of_beq_eq_true hl
    rw [hl] at hdg
    exact sUn_ok X hdg hK hf h
  | l2i =>
    obtain ⟨hl, h⟩ := and2 h
    have hl : len = 1 := Nat.eq_of_beq_eq_true hl
    rw [hl] at hdg
    exact sUn_ok X hdg hK hf h
  | i2b =>
    obtain ⟨hl, h⟩ := and2 h
    have hl : len = 1 := Nat.eq_of_beq_eq_true hl
    rw [hl] at hdg
    exact sUn_ok X hdg hK hf h
  | i2s =>
    obtain ⟨hl, h⟩ := and2 h
    have hl : len = 1 := Nat.eq_of_beq_eq_true hl
    rw [hl] at hdg
    exact sUn_ok X hdg hK hf h
  | _ =>
    obtain ⟨hl, h⟩ := and2 h
    have hl : len = 1 := Nat.eq_of_beq_eq_true hl
    rw [hl] at hdg
    exact sBin_ok X hdg hK hf h
end AZA
section AZB
variable {p : Program} {l : Launch} {e : Env} {R : Room} {s : State} {m : MethodId} {args : Array Value} {below : List Frame} {meth : Method} {c : Code} {nL : Nat} {G : KG} {A : Nat → Prop} {cc : ByteArray} {own : String} {ret : Option FieldType} {nm : String} {kc ks mc ms : Nat}
variable {ad : Nat → Nat} {T : List TE} {w0 : va_W} {pin : List (Nat × Value)} {C : CE} {μ : Nat → Value} {PO : Option Value → va_W → Prop}
variable {lv : ALv} {st : List Nat} {ev : AEv} {ca : ACa} {rl : ARl} {nx pc rk : Nat} {K : KT}
variable {hk : HKT}
variable {fld : List (Nat × Nat × Nat)} {put : List (Nat × Nat × Nat × Nat)} {cst cstl : List (Nat × Int)} {cal : List CAL}
variable {Q : State → Prop}
theorem aKQ_ok {cuts : List CUT} {pids : List Nat} {sr : Option (Int × List (Int × Nat))} {X : KT} (hcut : ∀ d pc σ, d ∈ cuts ∧ d.1 = pc → aarr pids sr d σ = true → AQ p l e R s m args below meth c nL G A Q kc ks ad T C.2.2.2.2.1 w0 pin σ pc) (hX : ∀ pc σ, X pc σ = true → AQ p l e R s m args below meth c nL G A Q kc ks ad T C.2.2.2.2.1 w0 pin σ pc) : ∀ pc σ, aK cuts pids sr X pc σ = true → AQ p l e R s m args below meth c nL G A Q kc ks ad T C.2.2.2.2.1 w0 pin σ pc := by
  intro pc σ h
  unfold aK at h
  cases hd : acutAt cuts pc with
  | none => rw [hd] at h; exact hX pc σ h
  | some d0 =>
    rw [hd] at h
    obtain ⟨d, d1, d2⟩ := List.any_eq_true.mp h
    obtain ⟨d2, d3⟩ := and2 d2
    exact hcut d pc σ ⟨d1, Nat.eq_of_beq_eq_true d2⟩ d3
theorem aexecQ_ok {tab : DT} (hQ : ∀ t, MQ below (QQ G A PO) args s mc ms A t → Q t) (htab : ∀ q ∈ tab, decode cc q.1 = .ok q.2) (X : ZC p s m args meth c cc nL own G A ret nm) (hR1 : C.2.2.2.2.2.1 = R.frames) (hR2 : C.2.2.2.2.2.2 = R.locals) (hhk : HOK l G T own cc nL ret C.2.2.2.2.2.1 C.2.2.2.2.2.2 hk) (hrk : RK rk ret) (hc : kc ≤ mc) (hs : ks ≤ ms) (hp1 : ∀ j, j < C.1.length → (j, μ j) ∈ pin) (hp2 : ∀ j, j < C.2.1.length → (100 + j, μ (100 + j)) ∈ pin) (hl1 : C.1.length ≤ 50) (hl2 : C.2.1.length ≤ 100) (hPO : ∀ r w1, POST G ad T C μ w0 r w1 → PO r w1)
    (hF : ∀ q ∈ fld, FL own q.1 q.2.1 q.2.2 ∨ FN own q.1 q.2.1 q.2.2) (hP : ∀ q ∈ put, PA own q.1 q.2.1 q.2.2.1 q.2.2.2) (hC : ∀ q ∈ cst, ∃ x : Int32, x.toInt = q.2 ∧ Jvm.Cond.constant own q.1 x ∈ BIG) (hCl : ∀ q ∈ cstl, ∃ x : Int64, x.toInt = q.2 ∧ Jvm.Cond.constantLong own q.1 x ∈ BIG) (hcal : ∀ q ∈ cal, COK l G own T q) (hkc : kc ≤ R.cells) (hks : ks ≤ R.slots)
    {cuts : List CUT} {pids : List Nat} {sr : Option (Int × List (Int × Nat))} (hcut : ∀ d pc σ, d ∈ cuts ∧ d.1 = pc → aarr pids sr d σ = true → AQ p l e R s m args below meth c nL G A Q kc ks ad T C.2.2.2.2.1 w0 pin σ pc) : ∀ (n pc : Nat) (σ : AS), aexec hk tab nL T fld put cst cstl cal rk C cuts pids sr n pc σ = true → AQ p l e R s m args below meth c nL G A Q kc ks ad T C.2.2.2.2.1 w0 pin σ pc
  | 0, pc, σ, h => by cases h
  | n + 1, pc, σ, h => by
    unfold aexec at h
    obtain ⟨hf, h⟩ := and2 h
    have ih := aexecQ_ok hQ htab X hR1 hR2 hhk hrk hc hs hp1 hp2 hl1 hl2 hPO hF hP hC hCl hcal hkc hks hcut n
    cases hh : hk pc σ with
    | some L =>
      rw [hh] at h
      exact hhk X hR1 hR2 hkc hks ad _ w0 pin pc σ L hf hh (fun q hq => aKQ_ok hcut ih _ _ (List.all_eq_true.mp h q hq))
    | none =>
      rw [hh] at h
      cases hd0 : dlook tab pc with
      | none => rw [hd0] at h; cases h
      | some z =>
        rw [hd0] at h
        have hd := htab _ (dlook_mem tab _ _ hd0)
        obtain ⟨i, len⟩ := z
        obtain ⟨lv, st, ev, ca, rl, nx⟩ := σ
        have h : sIns tab nL T C.2.2.2.2.1 fld put cst cstl cal C.2.2.2.2.2.1 C.2.2.2.2.2.2 rk C (aK cuts pids sr (aexec hk tab nL T fld put cst cstl cal rk C cuts pids sr n)) pc len i lv st ev ca rl nx = true := h
        rw [hR1, hR2] at h
        exact sInsQ_ok hQ X htab hd hrk hc hs hp1 hp2 hl1 hl2 hPO hF hP hC hCl hcal hkc hks hf (aKQ_ok hcut ih) h
set_option maxHeartbeats 1000000 in
/-- from a state to the exits -/
theorem asegQ {tab : DT} {cuts exs : List CUT} {pids : List Nat} {fuel : Nat} {σ : AS} (hQ : ∀ t, MQ below (QQ G A PO) args s mc ms A t → Q t) (htab : dtOK cc tab = true) (X : ZC p s m args meth c cc nL own G A ret nm) (hR1 : C.2.2.2.2.2.1 = R.frames) (hR2 : C.2.2.2.2.2.2 = R.locals) (hhk : HOK l G T own cc nL ret C.2.2.2.2.2.1 C.2.2.2.2.2.2 hk) (hrk : RK rk ret) (hc : kc ≤ mc) (hs : ks ≤ ms) (hp1 : ∀ j, j < C.1.length → (j, μ j) ∈ pin) (hp2 : ∀ j, j < C.2.1.length → (100 + j, μ (100 + j)) ∈ pin) (hPO : ∀ r w1, POST G ad T C μ w0 r w1 → PO r w1)
    (hF : ∀ q ∈ fld, FL own q.1 q.2.1 q.2.2 ∨ FN own q.1 q.2.1 q.2.2) (hP : ∀ q ∈ put, PA own q.1 q.2.1 q.2.2.1 q.2.2.2) (hC : ∀ q ∈ cst, ∃ x : Int32, x.toInt = q.2 ∧ Jvm.Cond.constant own q.1 x ∈ BIG) (hCl : ∀ q ∈ cstl, ∃ x : Int64, x.toInt = q.2 ∧ Jvm.Cond.constantLong own q.1 x ∈ BIG) (hcal : ∀ q ∈ cal, COK l G own T q) (hkc : kc ≤ R.cells) (hks : ks ≤ R.slots)
    (hpids : ∀ q ∈ pin, q.1 ∈ pids) (h : acheckS hk tab nL T fld put cst cstl cal rk C cuts exs pids fuel pc σ = true)
    (hx : ∀ d ∈ exs, ∀ (ν : Nat → Value) (lw : List (Nat × Value)) (sw : List Value) (ws : va_W), AG G ad T C.2.2.2.2.1 w0 pin d.2.1 ν lw sw ws → Z p l e R s m args below meth c nL G A Q d.1 lw sw ws kc ks) : AQ p l e R s m args below meth c nL G A Q kc ks ad T C.2.2.2.2.1 w0 pin σ pc := by
  unfold acheckS at h
  obtain ⟨c1, h⟩ := and2 h
  obtain ⟨c2, h⟩ := and2 h
  obtain ⟨c5, h⟩ := and2 h
  obtain ⟨c6, h⟩ := and2 h
  have c1 := Nat.le_of_ble_eq_true c1
  have c2 := Nat.le_of_ble_eq_true c2
  have rp : ∀ d ∈ cuts ++ exs, rposB d = true := fun d hd => (List.mem_append.mp hd).elim (fun m1 => (and2 (List.all_eq_true.mp c5 d m1)).1) (fun m1 => List.all_eq_true.mp c6 d m1)
  have main : ∀ (N : Nat) (d : CUT), d ∈ cuts → ∀ (ν : Nat → Value) (lw : List (Nat × Value)) (sw : List Value) (ws : va_W), AG G ad T C.2.2.2.2.1 w0 pin d.2.1 ν lw sw ws → (d.2.2.1 - rsum d.2.2.2 ν).toNat < N → Z p l e R s m args below meth c nL G A Q d.1 lw sw ws kc ks := by
    intro N
    induction N with
    | zero => intro d _ ν lw sw ws _ h9; exact absurd h9 (Nat.not_lt_zero _)
    | succ N ih =>
      intro d hd ν lw sw ws hg hN
      have hdc := List.all_eq_true.mp c5 d hd
      obtain ⟨d1, d2⟩ := and2 hdc
      obtain ⟨d2, d3⟩ := and2 d2
      obtain ⟨pin', hpin'⟩ : ∃ pin' : List (Nat × Value), pin' = pin ++ d.2.2.2.map (fun q => (q.2, ν q.2)) := ⟨_, rfl⟩
      have hsub : ∀ q ∈ pin, q ∈ pin' := fun q hq => by rw [hpin']; exact List.mem_append_left _ hq
      have hg' : AG G ad T C.2.2.2.2.1 w0 pin' d.2.1 ν lw sw ws := by
        refine ⟨hg.1, hg.2.1, hg.2.2.1, hg.2.2.2.1, hg.2.2.2.2.1, hg.2.2.2.2.2.1, fun q hq => ?_, hg.2.2.2.2.2.2.2⟩
        rw [hpin'] at hq
        rcases List.mem_append.mp hq with hq | hq
        · exact hg.2.2.2.2.2.2.1 q hq
        · obtain ⟨z, hz, rfl⟩ := List.mem_map.mp hq
          exact ⟨blt_lt (List.all_eq_true.mp d2 z hz), rfl⟩
      refine aexecQ_ok hQ (dt_ok htab) (pin := pin') X hR1 hR2 hhk hrk hc hs (fun j hj => hsub _ (hp1 j hj)) (fun j hj => hsub _ (hp2 j hj)) c1 c2 hPO hF hP hC hCl hcal hkc hks ?_ fuel d.1 d.2.1 d3 ν lw sw ws hg'
      intro d' pc' σ hd' ha ν2 lw2 sw2 ws2 hg2
      obtain ⟨m1, m2⟩ := hd'
      obtain ⟨ν3, lw3, q1, q2, q3, q4⟩ := aarr_ok (hg2.weak hsub) hpids ha (rp d' m1)
      have q4 := q4 _ rfl
      have e1 : rsum d.2.2.2 ν2 = rsum d.2.2.2 ν := rsum_pin _ (fun z hz => by
        have := (hg2.2.2.2.2.2.2.1 (z.2, ν z.2) (by rw [hpin']; exact List.mem_append_right _ (List.mem_map.mpr ⟨z, hz, rfl⟩))).2
        exact this)
      have q4 : d'.2.2.1 - rsum d'.2.2.2 ν3 < d.2.2.1 - rsum d.2.2.2 ν2 := q4
      rw [e1] at q4
      rw [← m2]
      rcases List.mem_append.mp m1 with m1 | m1
      · exact Z.mono q2 (ih d' m1 ν3 lw3 sw2 ws2 q1 (by omega))
      · exact Z.mono q2 (hx d' m1 ν3 lw3 sw2 ws2 q1)
  have hcut0 : ∀ d pc σ, d ∈ cuts ++ exs ∧ d.1 = pc → aarr pids none d σ = true → AQ p l e R s m args below meth c nL G A Q kc ks ad T C.2.2.2.2.1 w0 pin σ pc := by
    intro d' pc' σ hd' ha ν2 lw2 sw2 ws2 hg2
    obtain ⟨m1, m2⟩ := hd'
    obtain ⟨ν3, lw3, q1, q2, -, -⟩ := aarr_ok hg2 hpids ha (rp d' m1)
    rw [← m2]
    rcases List.mem_append.mp m1 with m1 | m1
    · exact Z.mono q2 (main _ d' m1 ν3 lw3 sw2 ws2 q1 (Nat.lt_succ_self _))
    · exact Z.mono q2 (hx d' m1 ν3 lw3 sw2 ws2 q1)
  exact aexecQ_ok hQ (dt_ok htab) X hR1 hR2 hhk hrk hc hs hp1 hp2 c1 c2 hPO hF hP hC hCl hcal hkc hks hcut0 fuel pc σ h
end AZB
