/-! the end; every instruction; the run; a method's contract by its check -/
def RK (rk : Nat) (ret : Option FieldType) : Prop := (rk = 0 ∧ ret = none) ∨ (rk = 1 ∧ ret = some .int) ∨ (rk = 2 ∧ ret = some .long) ∨ (rk = 3 ∧ ret = some .boolean)
section AZA
variable {p : Program} {l : Launch} {e : Env} {R : Room} {s : State} {m : MethodId} {args : Array Value} {below : List Frame} {meth : Method} {c : Code} {nL : Nat} {G : KG} {A : Nat → Prop} {cc : ByteArray} {own : String} {ret : Option FieldType} {nm : String} {kc ks mc ms : Nat}
variable {ad : Nat → Nat} {T : List TE} {w0 : va_W} {pin : List (Nat × Value)} {C : CE} {μ : Nat → Value} {PO : Option Value → va_W → Prop}
variable {lv : ALv} {st : List Nat} {ev : AEv} {ca : ACa} {rl : ARl} {nx pc rk : Nat} {K : KT}
abbrev AR (p : Program) (l : Launch) (e : Env) (R : Room) (s : State) (m : MethodId) (args : Array Value) (below : List Frame) (meth : Method) (c : Code) (nL : Nat) (G : KG) (A : Nat → Prop) (mc ms kc ks : Nat) (ad : Nat → Nat) (T : List TE) (C : CE) (PO : Option Value → va_W → Prop) (w0 : va_W) (pin : List (Nat × Value)) (σ : AS) (pc : Nat) : Prop := AQ p l e R s m args below meth c nL G A (MQ below (QQ G A PO) args s mc ms A) kc ks ad T C.2.2.2.2.1 w0 pin σ pc
theorem sRet_ok (X : ZC p s m args meth c cc nL own G A ret nm) (hrk : RK rk ret) (hdg : (rk = 0 → decode cc pc = .ok (.return_, 1)) ∧ (rk = 1 ∨ rk = 3 → decode cc pc = .ok (.ireturn, 1)) ∧ (rk = 2 → decode cc pc = .ok (.lreturn, 1))) (hc : kc ≤ mc) (hs : ks ≤ ms) (hp1 : ∀ j, j < C.1.length → (j, μ j) ∈ pin) (hp2 : ∀ j, j < C.2.1.length → (100 + j, μ (100 + j)) ∈ pin) (hl1 : C.1.length ≤ 50) (hl2 : C.2.1.length ≤ 100) (hPO : ∀ r w1, POST G ad T C μ w0 r w1 → PO r w1) (h : sRet C rk st ev ca rl = true) : AR p l e R s m args below meth c nL G A mc ms kc ks ad T C PO w0 pin (lv, st, ev, ca, rl, nx) pc := by
  unfold sRet at h
  obtain ⟨A', hA, h⟩ := List.any_eq_true.mp h
  obtain ⟨h1, h2⟩ := and2 h
  intro ν lw sw ws hg
  obtain ⟨r, r1, r2, v, r3⟩ := AG.ret hA hg hp1 hp2 hl1 hl2 h2
  rw [r1]
  rcases hrk with ⟨rfl, e2⟩ | ⟨rfl, e2⟩ | ⟨rfl, e2⟩ | ⟨rfl, e2⟩
  · cases ha : A'.1 with
    | some t => rw [ha] at h1; cases h1
    | none =>
      rw [ha] at r3
      have r3 : r = none := r3
      subst r3
      exact z_vret X e2 (hdg.1 rfl) hc hs (hPO _ _ r2)
  · cases ha : A'.1 with
    | none => rw [ha] at h1; cases h1
    | some t =>
      rw [ha] at r3 h1
      obtain ⟨r4, r5⟩ := r3
      obtain ⟨x, rfl, -⟩ := vty0 r5 (Nat.eq_of_beq_eq_true h1)
      subst r4
      exact z_iret X e2 (hdg.2.1 (Or.inl rfl)) hc hs (hPO _ _ r2)
  · cases ha : A'.1 with
    | none => rw [ha] at h1; cases h1
    | some t =>
      rw [ha] at r3 h1
      obtain ⟨r4, r5⟩ := r3
      obtain ⟨x, rfl, -⟩ := vty1 r5 (Nat.eq_of_beq_eq_true h1)
      subst r4
      exact z_lret X e2 (hdg.2.2 rfl) hc hs (hPO _ _ r2)
  · cases ha : A'.1 with
    | none => rw [ha] at h1; cases h1
    | some t =>
      rw [ha] at r3 h1
      obtain ⟨r4, r5⟩ := r3
      obtain ⟨g1, g2⟩ := and2 h1
      obtain ⟨g2, g3⟩ := and2 g2
      have g2 := of_decide_eq_true g2
      have g3 := of_decide_eq_true g3
      obtain ⟨x, rfl, x1, x2⟩ := vty0 r5 (Nat.eq_of_beq_eq_true g1)
      subst r4
      exact z_zret X e2 (nar_z (by omega) (by omega)) (hdg.2.1 (Or.inr rfl)) hc hs (hPO _ _ r2)
theorem ofI8 {n : Int} (h1 : -128 ≤ n) (h2 : n ≤ 127) : (Int8.ofInt n).toInt32.toInt = n := by
  rw [Int8.toInt_toInt32, Int8.toInt_ofInt]
  show n.bmod 256 = n
  exact Int.bmod_eq_of_le (by omega) (by omega)
theorem ofI16 {n : Int} (h1 : -32768 ≤ n) (h2 : n ≤ 32767) : (Int16.ofInt n).toInt32.toInt = n := by
  rw [Int16.toInt_toInt32, Int16.toInt_ofInt]
  show n.bmod 65536 = n
  exact Int.bmod_eq_of_le (by omega) (by omega)
theorem ofL2 (n : Fin 2) : (Int64.ofNat (n : Nat)).toInt = ((n : Nat) : Int) := by
  match n with
  | 0 => rfl
  | 1 => rfl
theorem zst1 (X : ZC p s m args meth c cc nL own G A ret nm) {Q : State → Prop} {i : Nat} {x : Int32} {lw : List (Nat × Value)} {rest : List Value} {ws : va_W} (hdg : decode cc pc = .ok (.istore i, 2)) (hn : i < nL) (kk : Z p l e R s m args below meth c nL G A Q (pc + 2) (zs1 i (.int x) lw) rest ws kc ks) : Z p l e R s m args below meth c nL G A Q pc lw (.int x :: rest) ws kc ks := z_istore X hdg hn rfl kk
theorem zst2 (X : ZC p s m args meth c cc nL own G A ret nm) {Q : State → Prop} {i : Fin 4} {x : Int32} {lw : List (Nat × Value)} {rest : List Value} {ws : va_W} (hdg : decode cc pc = .ok (.istore_n i, 1)) (hn : (i : Nat) < nL) (kk : Z p l e R s m args below meth c nL G A Q (pc + 1) (zs1 i (.int x) lw) rest ws kc ks) : Z p l e R s m args below meth c nL G A Q pc lw (.int x :: rest) ws kc ks := z_istore_n X hdg rfl hn rfl kk
theorem zst3 (X : ZC p s m args meth c cc nL own G A ret nm) {Q : State → Prop} {i : Nat} {x : Nat} {lw : List (Nat × Value)} {rest : List Value} {ws : va_W} (hdg : decode cc pc = .ok (.astore i, 2)) (hn : i < nL) (kk : Z p l e R s m args below meth c nL G A Q (pc + 2) (zs1 i (.ref x) lw) rest ws kc ks) : Z p l e R s m args below meth c nL G A Q pc lw (.ref x :: rest) ws kc ks := z_astore X hdg hn rfl kk
theorem zst4 (X : ZC p s m args meth c cc nL own G A ret nm) {Q : State → Prop} {i : Fin 4} {x : Nat} {lw : List (Nat × Value)} {rest : List Value} {ws : va_W} (hdg : decode cc pc = .ok (.astore_n i, 1)) (hn : (i : Nat) < nL) (kk : Z p l e R s m args below meth c nL G A Q (pc + 1) (zs1 i (.ref x) lw) rest ws kc ks) : Z p l e R s m args below meth c nL G A Q pc lw (.ref x :: rest) ws kc ks := z_astore_n X hdg rfl hn rfl kk
theorem zst5 (X : ZC p s m args meth c cc nL own G A ret nm) {Q : State → Prop} {i : Nat} {x : Int64} {lw : List (Nat × Value)} {rest : List Value} {ws : va_W} (hdg : decode cc pc = .ok (.lstore i, 2)) (hn : i + 1 < nL) (kk : Z p l e R s m args below meth c nL G A Q (pc + 2) (zs2 i (.long x) lw) rest ws kc ks) : Z p l e R s m args below meth c nL G A Q pc lw (.long x :: rest) ws kc ks := z_lstore X hdg hn rfl kk
theorem zst6 (X : ZC p s m args meth c cc nL own G A ret nm) {Q : State → Prop} {i : Fin 4} {x : Int64} {lw : List (Nat × Value)} {rest : List Value} {ws : va_W} (hdg : decode cc pc = .ok (.lstore_n i, 1)) (hn : (i : Nat) + 1 < nL) (kk : Z p l e R s m args below meth c nL G A Q (pc + 1) (zs2 i (.long x) lw) rest ws kc ks) : Z p l e R s m args below meth c nL G A Q pc lw (.long x :: rest) ws kc ks := z_lstore_n X hdg rfl hn rfl kk
set_option maxHeartbeats 8000000 in
theorem sIns_ok (X : ZC p s m args meth c cc nL own G A ret nm) {fld : List (Nat × Nat × Nat)} {put : List (Nat × Nat × Nat × Nat)} {cst cstl : List (Nat × Int)} {cal : List CAL} {tab : DT} (htab : ∀ q ∈ tab, decode cc q.1 = .ok q.2) {i : Instr} {len : Nat} (hdg : decode cc pc = .ok (i, len)) (hrk : RK rk ret) (hc : kc ≤ mc) (hs : ks ≤ ms) (hp1 : ∀ j, j < C.1.length → (j, μ j) ∈ pin) (hp2 : ∀ j, j < C.2.1.length → (100 + j, μ (100 + j)) ∈ pin) (hl1 : C.1.length ≤ 50) (hl2 : C.2.1.length ≤ 100) (hPO : ∀ r w1, POST G ad T C μ w0 r w1 → PO r w1)
    (hF : ∀ q ∈ fld, FL own q.1 q.2.1 q.2.2 ∨ FN own q.1 q.2.1 q.2.2) (hP : ∀ q ∈ put, PA own q.1 q.2.1 q.2.2.1 q.2.2.2) (hC : ∀ q ∈ cst, ∃ x : Int32, x.toInt = q.2 ∧ Jvm.Cond.constant own q.1 x ∈ BIG) (hCl : ∀ q ∈ cstl, ∃ x : Int64, x.toInt = q.2 ∧ Jvm.Cond.constantLong own q.1 x ∈ BIG) (hcal : ∀ q ∈ cal, COK l G own T q) (hkc : kc ≤ R.cells) (hks : ks ≤ R.slots)
    (hf : afr (lv, st, ev, ca, rl, nx) = true) (hK : ∀ pc σ, K pc σ = true → AR p l e R s m args below meth c nL G A mc ms kc ks ad T C PO w0 pin σ pc) (h : sIns tab nL T C.2.2.2.2.1 fld put cst cstl cal R.frames R.locals rk C K pc len i lv st ev ca rl nx = true) : AR p l e R s m args below meth c nL G A mc ms kc ks ad T C PO w0 pin (lv, st, ev, ca, rl, nx) pc := by
  cases i with
  | iconst n =>
    obtain ⟨hl, h⟩ := and2 h
    have hl : len = 1 := Nat.eq_of_beq_eq_true hl
    rw [hl] at hdg
    obtain ⟨h1, h⟩ := and2 h
    obtain ⟨h2, h⟩ := and2 h
    have h1 := of_decide_eq_true h1
    have h2 := of_decide_eq_true h2
    exact sCon_ok hK hf (ofI32 (by omega) (by omega)) (fun lw rest ws kz => z_iconst X hdg rfl kz) h
  | bipush n =>
    obtain ⟨hl, h⟩ := and2 h
    have hl : len = 2 := Nat.eq_of_beq_eq_true hl
    rw [hl] at hdg
    obtain ⟨h1, h⟩ := and2 h
    obtain ⟨h2, h⟩ := and2 h
    exact sCon_ok hK hf (ofI8 (of_decide_eq_true h1) (of_decide_eq_true h2)) (fun lw rest ws kz => z_bipush X hdg rfl kz) h
  | sipush n =>
    obtain ⟨hl, h⟩ := and2 h
    have hl : len = 3 := Nat.eq_of_beq_eq_true hl
    rw [hl] at hdg
    obtain ⟨h1, h⟩ := and2 h
    obtain ⟨h2, h⟩ := and2 h
    exact sCon_ok hK hf (ofI16 (of_decide_eq_true h1) (of_decide_eq_true h2)) (fun lw rest ws kz => z_sipush X hdg rfl kz) h
  | lconst n =>
    obtain ⟨hl, h⟩ := and2 h
    have hl : len = 1 := Nat.eq_of_beq_eq_true hl
    rw [hl] at hdg
    exact az_con (fun lw rest ws kz => z_lconst X hdg rfl kz) hf (vty_l (by rw [ofL2]; exact Int.le_refl _) (by rw [ofL2]; exact Int.le_refl _)) (hK _ _ h)
  | ldc idx =>
    obtain ⟨hl, h⟩ := and2 h
    have hl : len = 2 := Nat.eq_of_beq_eq_true hl
    rw [hl] at hdg
    exact sLdc_ok hC hK hf (fun v hv lw rest ws kz => z_ldc X hdg hv kz) h
  | ldc_w idx =>
    obtain ⟨hl, h⟩ := and2 h
    have hl : len = 3 := Nat.eq_of_beq_eq_true hl
    rw [hl] at hdg
    exact sLdc_ok hC hK hf (fun v hv lw rest ws kz => z_ldcw X hdg hv kz) h
  | ldc2_w idx =>
    obtain ⟨hl, h⟩ := and2 h
    have hl : len = 3 := Nat.eq_of_beq_eq_true hl
    rw [hl] at hdg
    exact sLdcL_ok X hdg hCl hK hf h
  | iload k =>
    obtain ⟨hl, h⟩ := and2 h
    have hl : len = 2 := Nat.eq_of_beq_eq_true hl
    rw [hl] at hdg
    exact sLoad_ok (by decide) hK (by rintro _ lw rest ws q hq ⟨a, rfl⟩ kz; exact z_iload X hdg q hq kz) h
  | lload k =>
    obtain ⟨hl, h⟩ := and2 h
    have hl : len = 2 := Nat.eq_of_beq_eq_true hl
    rw [hl] at hdg
    exact sLoad_ok (by decide) hK (by rintro _ lw rest ws q hq ⟨a, rfl⟩ kz; exact z_lload X hdg q hq kz) h
  | aload k =>
    obtain ⟨hl, h⟩ := and2 h
    have hl : len = 2 := Nat.eq_of_beq_eq_true hl
    rw [hl] at hdg
    exact sLoad_ok (by decide) hK (by rintro _ lw rest ws q hq ⟨a, rfl⟩ kz; exact z_aload X hdg q hq kz) h
  | iload_n k =>
    obtain ⟨hl, h⟩ := and2 h
    have hl : len = 1 := Nat.eq_of_beq_eq_true hl
    rw [hl] at hdg
    exact sLoad_ok (by decide) hK (by rintro _ lw rest ws q hq ⟨a, rfl⟩ kz; exact z_iload_n X hdg rfl q hq kz) h
  | lload_n k =>
    obtain ⟨hl, h⟩ := and2 h
    have hl : len = 1 := Nat.eq_of_beq_eq_true hl
    rw [hl] at hdg
    exact sLoad_ok (by decide) hK (by rintro _ lw rest ws q hq ⟨a, rfl⟩ kz; exact z_lload_n X hdg rfl q hq kz) h
  | aload_n k =>
    obtain ⟨hl, h⟩ := and2 h
    have hl : len = 1 := Nat.eq_of_beq_eq_true hl
    rw [hl] at hdg
    exact sLoad_ok (by decide) hK (by rintro _ lw rest ws q hq ⟨a, rfl⟩ kz; exact z_aload_n X hdg rfl q hq kz) h
  | istore k =>
    obtain ⟨hl, h⟩ := and2 h
    have hl : len = 2 := Nat.eq_of_beq_eq_true hl
    rw [hl] at hdg
    exact sStore_ok (by decide) hK (by rintro hn _ lw rest ws ⟨a, rfl⟩ kz; exact zst1 X hdg hn kz) h
  | istore_n k =>
    obtain ⟨hl, h⟩ := and2 h
    have hl : len = 1 := Nat.eq_of_beq_eq_true hl
    rw [hl] at hdg
    exact sStore_ok (by decide) hK (by rintro hn _ lw rest ws ⟨a, rfl⟩ kz; exact zst2 X hdg hn kz) h
  | astore k =>
    obtain ⟨hl, h⟩ := and2 h
    have hl : len = 2 := Nat.eq_of_beq_eq_true hl
    rw [hl] at hdg
    exact sStore_ok (by decide) hK (by rintro hn _ lw rest ws ⟨a, rfl⟩ kz; exact zst3 X hdg hn kz) h
  | astore_n k =>
    obtain ⟨hl, h⟩ := and2 h
    have hl : len = 1 := Nat.eq_of_beq_eq_true hl
    rw [hl] at hdg
    exact sStore_ok (by decide) hK (by rintro hn _ lw rest ws ⟨a, rfl⟩ kz; exact zst4 X hdg hn kz) h
  | lstore k =>
    obtain ⟨hl, h⟩ := and2 h
    have hl : len = 2 := Nat.eq_of_beq_eq_true hl
    rw [hl] at hdg
    exact sStore_ok (by decide) hK (by rintro hn _ lw rest ws ⟨a, rfl⟩ kz; exact zst5 X hdg hn kz) h
  | lstore_n k =>
    obtain ⟨hl, h⟩ := and2 h
    have hl : len = 1 := Nat.eq_of_beq_eq_true hl
    rw [hl] at hdg
    exact sStore_ok (by decide) hK (by rintro hn _ lw rest ws ⟨a, rfl⟩ kz; exact zst6 X hdg hn kz) h
  | iinc k n =>
    obtain ⟨hl, h⟩ := and2 h
    have hl : len = 3 := Nat.eq_of_beq_eq_true hl
    rw [hl] at hdg
    exact sInc_ok X hdg hK hf h
  | pop =>
    obtain ⟨hl, h⟩ := and2 h
    have hl : len = 1 := Nat.eq_of_beq_eq_true hl
    rw [hl] at hdg
    exact sPop_ok X hdg hK h
  | dup =>
    obtain ⟨hl, h⟩ := and2 h
    have hl : len = 1 := Nat.eq_of_beq_eq_true hl
    rw [hl] at hdg
    exact sDup_ok X hdg hK h
  | dup2 =>
    obtain ⟨hl, h⟩ := and2 h
    have hl : len = 1 := Nat.eq_of_beq_eq_true hl
    rw [hl] at hdg
    exact sDup2_ok X hdg hK h
  | getfield idx =>
    obtain ⟨hl, h⟩ := and2 h
    have hl : len = 3 := Nat.eq_of_beq_eq_true hl
    rw [hl] at hdg
    exact sGet_ok X hdg hF hK hf h
  | putfield idx =>
    obtain ⟨hl, h⟩ := and2 h
    have hl : len = 3 := Nat.eq_of_beq_eq_true hl
    rw [hl] at hdg
    exact sPut_ok X hdg hP hK h
  | iaload =>
    obtain ⟨hl, h⟩ := and2 h
    have hl : len = 1 := Nat.eq_of_beq_eq_true hl
    rw [hl] at hdg
    exact sAld_ok X (by decide) ⟨fun _ => hdg, fun q => absurd q (by decide), fun q => absurd q (by decide)⟩ hK hf h
  | laload =>
    obtain ⟨hl, h⟩ := and2 h
    have hl : len = 1 := Nat.eq_of_beq_eq_true hl
    rw [hl] at hdg
    exact sAld_ok X (by decide) ⟨fun q => absurd q (by decide), fun _ => hdg, fun q => absurd q (by decide)⟩ hK hf h
  | baload =>
    obtain ⟨hl, h⟩ := and2 h
    have hl : len = 1 := Nat.eq_of_beq_eq_true hl
    rw [hl] at hdg
    exact sAld_ok X (by decide) ⟨fun q => absurd q (by decide), fun q => absurd q (by decide), fun _ => hdg⟩ hK hf h
  | iastore =>
    obtain ⟨hl, h⟩ := and2 h
    have hl : len = 1 := Nat.eq_of_beq_eq_true hl
    rw [hl] at hdg
    exact sAst_ok X (by decide) ⟨fun _ => hdg, fun q => absurd q (by decide), fun q => absurd q (by decide)⟩ hK h
  | lastore =>
    obtain ⟨hl, h⟩ := and2 h
    have hl : len = 1 := Nat.eq_of_beq_eq_true hl
    rw [hl] at hdg
    exact sAst_ok X (by decide) ⟨fun q => absurd q (by decide), fun _ => hdg, fun q => absurd q (by decide)⟩ hK h
  | bastore =>
    obtain ⟨hl, h⟩ := and2 h
    have hl : len = 1 := Nat.eq_of_beq_eq_true hl
    rw [hl] at hdg
    exact sAst_ok X (by decide) ⟨fun q => absurd q (by decide), fun q => absurd q (by decide), fun _ => hdg⟩ hK h
  | aaload =>
    obtain ⟨hl, h⟩ := and2 h
    have hl : len = 1 := Nat.eq_of_beq_eq_true hl
    rw [hl] at hdg
    exact sAld3_ok X hdg hK hf h
  | if_icmp co off =>
    obtain ⟨hl, h⟩ := and2 h
    have hl : len = 3 := Nat.eq_of_beq_eq_true hl
    rw [hl] at hdg
    exact sBr_ok X hdg hK h
  | ifCond co off =>
    obtain ⟨hl, h⟩ := and2 h
    have hl : len = 3 := Nat.eq_of_beq_eq_true hl
    rw [hl] at hdg
    exact sBr0_ok X hdg hf hK h
  | lcmp =>
    obtain ⟨hl, h⟩ := and2 h
    have hl : len = 1 := Nat.eq_of_beq_eq_true hl
    rw [hl] at hdg
    cases hd0 : dlook tab (pc + 1) with
    | none => rw [hd0] at h; cases h
    | some z =>
      obtain ⟨i2, n2⟩ := z
      rw [hd0] at h
      have hd := htab _ (dlook_mem tab _ _ hd0)
      cases i2 with
      | ifCond co off =>
        obtain ⟨h1, h2⟩ := and2 h
        have h1 : n2 = 3 := Nat.eq_of_beq_eq_true h1
        have hd : decode cc (pc + 1) = .ok (.ifCond co off, n2) := hd
        rw [h1] at hd
        exact sBrL_ok X hdg hd hK h2
      | _ => cases h
  | arraylength =>
    obtain ⟨hl, h⟩ := and2 h
    have hl : len = 1 := Nat.eq_of_beq_eq_true hl
    rw [hl] at hdg
    exact sLen_ok X hdg hf hK h
  | ifnull off =>
    obtain ⟨hl, h⟩ := and2 h
    have hl : len = 3 := Nat.eq_of_beq_eq_true hl
    rw [hl] at hdg
    exact sNul_ok X ⟨fun _ => hdg, fun q => absurd q (by decide)⟩ hK h
  | ifnonnull off =>
    obtain ⟨hl, h⟩ := and2 h
    have hl : len = 3 := Nat.eq_of_beq_eq_true hl
    rw [hl] at hdg
    exact sNul_ok X ⟨fun q => absurd q (by decide), fun _ => hdg⟩ hK h
  | lookupswitch dflt ps =>
    exact sLook_ok X hdg hK h
  | goto off =>
    obtain ⟨hl, h⟩ := and2 h
    have hl : len = 3 := Nat.eq_of_beq_eq_true hl
    rw [hl] at hdg
    exact sGo_ok X hdg hK h
  | tableswitch dflt lo hi offs =>
    exact sTab_ok X hdg hK h
  | invokevirtual idx =>
    obtain ⟨hl, h⟩ := and2 h
    have hl : len = 3 := Nat.eq_of_beq_eq_true hl
    rw [hl] at hdg
    exact sCall_ok X hcal ⟨fun _ => hdg, fun q => absurd q (by decide)⟩ hkc hks hf hK h
  | invokestatic idx =>
    obtain ⟨hl, h⟩ := and2 h
    have hl : len = 3 := Nat.eq_of_beq_eq_true hl
    rw [hl] at hdg
    exact sCall_ok X hcal ⟨fun q => absurd q (by decide), fun _ => hdg⟩ hkc hks hf hK h
  | ireturn =>
    obtain ⟨hl, h⟩ := and2 h
    have hl : len = 1 := Nat.eq_of_beq_eq_true hl
    rw [hl] at hdg
    obtain ⟨h1, h⟩ := and2 h
    rw [Bool.or_eq_true] at h1
    have h1 : rk = 1 ∨ rk = 3 := h1.imp Nat.eq_of_beq_eq_true Nat.eq_of_beq_eq_true
    exact sRet_ok X hrk ⟨fun q => by omega, fun _ => hdg, fun q => by omega⟩ hc hs hp1 hp2 hl1 hl2 hPO h
  | lreturn =>
    obtain ⟨hl, h⟩ := and2 h
    have hl : len = 1 := Nat.eq_of_beq_eq_true hl
    rw [hl] at hdg
    obtain ⟨h1, h⟩ := and2 h
    have h1 : rk = 2 := Nat.eq_of_beq_eq_true h1
    exact sRet_ok X hrk ⟨fun q => by omega, fun q => by omega, fun _ => hdg⟩ hc hs hp1 hp2 hl1 hl2 hPO h
  | return_ =>
    obtain ⟨hl, h⟩ := and2 h
    have hl : len = 1 := Nat.eq_of_beq_eq_true hl
    rw [hl] at hdg
    obtain ⟨h1, h⟩ := and2 h
    have h1 : rk = 0 := Nat.eq_of_beq_eq_true h1
    exact sRet_ok X hrk ⟨fun _ => hdg, fun q => by omega, fun q => by omega⟩ hc hs hp1 hp2 hl1 hl2 hPO h
  | ineg =>
    obtain ⟨hl, h⟩ := and2 h
    have hl : len = 1 := Nat.eq_of_beq_eq_true hl
    rw [hl] at hdg
    exact sUn_ok X hdg hK hf h
  | lneg =>
    obtain ⟨hl, h⟩ := and2 h
    have hl : len = 1 := Nat.eq_of_beq_eq_true hl
    rw [hl] at hdg
    exact sUn_ok X hdg hK hf h
  | i2l =>
    obtain ⟨hl, h⟩ := and2 h
    have hl : len = 1 := Nat.eq_of_beq_eq_true hl
    rw [hl] at hdg
    exact sUn_ok X hdg hK hf h
  | l2i =>
    obtain ⟨hl, h⟩ := and2 h
    have hl : len = 1 := Nat.eq_of_beq_eq_true hl
    rw [hl] at hdg
    exact sUn_ok X hdg hK hf h
  | i2b =>
    obtain ⟨hl, h⟩ := and2 h
    have hl : len = 1 := Nat.eq_of_beq_eq_true hl
    rw [hl] at hdg
    exact sUn_ok X hdg hK hf h
  | i2s =>
    obtain ⟨hl, h⟩ := and2 h
    have hl : len = 1 := Nat.eq_of_beq_eq_true hl
    rw [hl] at hdg
    exact sUn_ok X hdg hK hf h
  | _ =>
    obtain ⟨hl, h⟩ := and2 h
    have hl : len = 1 := Nat.eq_of_beq_eq_true hl
    rw [hl] at hdg
    exact sBin_ok X hdg hK hf h
end AZA
