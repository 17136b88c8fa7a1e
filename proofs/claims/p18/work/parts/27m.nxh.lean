/-! the class's next, enough -/
section HLR
variable {l : Launch} {G : KG} {T : List TE} {cc : ByteArray} {nL : Nat} {ret : Option FieldType} {C : CE} {y : MethodName}
/-- from its start, in a room of one's own -/
theorem hand_ofR {rm : Room} {PO : Option Value → va_W → Prop} {ad : Nat → Nat} {w0 : va_W} {μ : Nat → Value} (hW : WT G ad T w0) (hPre : PRE ad C μ w0) (hy : plainName y.cls = true) (c3 : aslots C.1 ≤ nL) (c4 : ∀ t ∈ C.1, t.1 ≤ 2) (c1 : C.1.length ≤ 50) (c2 : C.2.1.length ≤ 100)
    (body : ∀ (p : Program) (e : Env) (s : State) (m : MethodId) (args : Array Value) (below : List Frame) (meth : Method) (c : Code) (A : Nat → Prop), ZC p s m args meth c cc nL y.cls G A ret y.name → ∀ (lw : List (Nat × Value)), AG G ad T C.2.2.2.2.1 w0 (spin C μ) (ast0 C) μ lw [] w0 → Z p l e rm s m args below meth c nL G A (MQ below (QQ G A PO) args s rm.cells rm.slots A) 0 lw [] w0 0 0) : Ct l G y cc nL ret rm ((List.range C.1.length).map μ) w0 PO := by
  obtain ⟨r1, r2, r3⟩ := lv0_ok (μ := μ) (ad := ad) C.1 0 0 c4 (fun k t hk => by rw [Nat.zero_add]; exact hPre.1 k t hk)
  rw [List.range_eq_range']
  refine ct_of _ hy (by rw [r3]; exact c3) rfl ?_
  intro p e s m args below meth c A X
  refine body p e s m args below meth c A X _ ⟨r1, rfl, r2, fun q hq => ?_, fun q hq => ?_, hPre.2.2, ?_, hW, rfl, fun k j _ => rfl⟩
  · rcases List.mem_append.mp hq with hq | hq
    · obtain ⟨z, hz, rfl⟩ := List.mem_map.mp hq
      exact hPre.1 z.2 z.1 (zipIdx_mem hz)
    · obtain ⟨z, hz, rfl⟩ := List.mem_map.mp hq
      exact (hPre.2.1 z.2 z.1 (zipIdx_mem hz)).1
  · obtain ⟨z, hz, rfl⟩ := List.mem_map.mp hq
    exact (hPre.2.1 z.2 z.1 (zipIdx_mem hz)).2
  · intro q hq
    rcases List.mem_append.mp hq with hq | hq
    · obtain ⟨j, hj, rfl⟩ := List.mem_map.mp hq
      have := List.mem_range.mp hj
      exact ⟨by show j < 1000; omega, rfl⟩
    · obtain ⟨j, hj, rfl⟩ := List.mem_map.mp hq
      have := List.mem_range.mp hj
      exact ⟨by show 100 + j < 1000; omega, rfl⟩
end HLR
section NXT
variable {p : Program} {l : Launch} {e : Env} {R : Room} {s : State} {m : MethodId} {args : Array Value} {below : List Frame} {meth : Method} {c : Code} {G : KG} {ω : va_W} {A : Nat → Prop} {ad : Nat → Nat} {kc ks mc ms : Nat} {PO : Option Value → va_W → Prop}
theorem nx_tail {ws : va_W} {sp mo : Int32} (X : ZC p s m args meth c cX10_next 5 RX10 G A (some .int) "next") (hW : WT G ad TXP ws) (hG : GF G ω ws) (hR1 : 5 ≤ R.frames) (hR2 : 119 ≤ R.locals) (hc : kc ≤ R.cells) (hs : ks ≤ R.slots) (hmc : kc ≤ mc) (hms : ks ≤ ms) (p0 : 0 ≤ sp.toInt) (p1 : sp.toInt ≤ 5) (o0 : 1 ≤ mo.toInt) (o1 : mo.toInt ≤ 4) (hPO : ∀ (v : Int32) w1, WT G ad TXP w1 → GF G ω w1 → w1.length = ws.length → PO (some (.int v)) w1) : Z p l e R s m args below meth c 5 G A (MQ below (QQ G A PO) args s mc ms A) 41 [(0, .ref (ad 0)), (1, .int sp), (2, .int mo)] [.ref (ad 109)] ws kc ks := by
  have L : ws.length = ws.length := rfl
  refine z_astore_n X d_nx_41 rfl (by decide) (lv' := [(3, .ref (ad 109)), (0, .ref (ad 0)), (1, .int (sp)), (2, .int (mo))]) rfl ?_
  obtain ⟨n, hn, n0, n1⟩ := fget_int (T := TXP) (k := 109) (j := 0) hW rfl rfl
  refine z_aload_n X d_nx_42 rfl 0 rfl ?_
  refine hget (T := TXP) X hW (idx := 268) (fld_10_ok _ (by decide : (268, 3, 0) ∈ fld_10)) d_nx_43 rfl (hn) ?_
  refine zi_ne X d_nx_46 (tgt := 52) (by decide) (a := n.toInt) rfl (fun _ => ?_) (fun _ => ?_)
  rotate_left
  · skip
    refine z_bipush X d_nx_49 (v := (-2)) (by decide) ?_
    exact z_iret X rfl d_nx_51 hmc hms (hPO _ _ hW hG rfl)
  refine z_aload_n X d_nx_52 rfl 1 rfl ?_
  refine z_aload_n X d_nx_53 rfl 0 rfl ?_
  refine z_iload_n X d_nx_54 rfl 2 rfl ?_
  refine z_iload_n X d_nx_55 rfl 3 rfl ?_
  obtain ⟨μ0, hμ0⟩ : ∃ q : Nat → Value, q = fun k => if k = 0 then .ref (ad 0) else if k = 1 then .ref (ad 109) else if k = 2 then .int sp else .int mo := ⟨_, rfl⟩
  have m0_0 : μ0 0 = .ref (ad 0) := by rw [hμ0]; rfl
  have m0_1 : μ0 1 = .ref (ad 109) := by rw [hμ0]; rfl
  have m0_2 : μ0 2 = .int sp := by rw [hμ0]; rfl
  have m0_3 : μ0 3 = .int mo := by rw [hμ0]; rfl
  have hpre0 : PRE ad C_p_X10_findNarrowest_0 μ0 ws := by
    refine ⟨fun k t hk => ?_, fun k q hk => ?_, fun q hq => ?_⟩
    · match k, hk with
      | 0, hk => cases hk; rw [m0_0]; exact Or.inr (Or.inr (Or.inl ⟨rfl, rfl⟩))
      | 1, hk => cases hk; rw [m0_1]; exact Or.inr (Or.inr (Or.inl ⟨rfl, rfl⟩))
      | 2, hk => cases hk; rw [m0_2]; exact vty_i p0 p1
      | 3, hk => cases hk; rw [m0_3]; exact vty_i o0 (by omega)
      | N + 4, hk => cases hk
    · cases hk
    · cases hq
  have hct0 := ac_p_X10_findNarrowest_0 l G ad ws μ0 hW hpre0 hG.1
  have he0 : (List.range C_p_X10_findNarrowest_0.1.length).map μ0 = [.ref (ad 0), .ref (ad 109), .int sp, .int mo] := by show [μ0 0, μ0 1, μ0 2, μ0 3] = _; rw [m0_0, m0_1, m0_2, m0_3]
  rw [he0] at hct0
  refine hcallV (T := TXP) (k := 0) (rest := []) (avs := [.ref (ad 109), .int sp, .int mo]) X k_10_271 hct0 d_nx_56 hW rfl rfl rfl rfl ⟨by show 3 + 1 ≤ R.frames; omega, by show 8 + (8 + 11) + 74 ≤ R.locals; omega⟩ ⟨hc, hs⟩ (by decide) rfl (fun r0 wa0 hp => ?_)
  obtain ⟨A0, hA0, μ9, -, -, q0, -, -, -, W0, F0⟩ := hp
  have ee := List.mem_singleton.mp hA0
  subst ee
  obtain ⟨rr, r2⟩ := q0
  obtain ⟨v, ev', -⟩ := vty0 r2 rfl
  rw [rr, ev']
  have G0 := hG.frm F0 (by decide)
  have L0 : wa0.length = ws.length := F0.1.trans L
  refine z_istore X d_nx_59 (by decide) (lv' := [(4, .int (v)), (3, .ref (ad 109)), (0, .ref (ad 0)), (1, .int (sp)), (2, .int (mo))]) rfl ?_
  refine z_aload_n X d_nx_61 rfl 2 rfl ?_
  refine hget (T := TXP) X W0 (idx := 12) (fld_10_ok _ (by decide : (12, 10, 0) ∈ fld_10)) d_nx_62 rfl (fget_ref W0 rfl rfl) ?_
  obtain ⟨μ1, hμ1⟩ : ∃ q : Nat → Value, q = fun k => .ref (ad 1) := ⟨_, rfl⟩
  have m1_0 : μ1 0 = .ref (ad 1) := by rw [hμ1]
  have hpre1 : PRE ad C_p_X8_start_0 μ1 wa0 := by
    refine ⟨fun k t hk => ?_, fun k q hk => ?_, fun q hq => ?_⟩
    · match k, hk with
      | 0, hk => cases hk; rw [m1_0]; exact Or.inr (Or.inr (Or.inl ⟨rfl, rfl⟩))
      | N + 1, hk => cases hk
    · cases hk
    · cases hq
  have hct1 := ac_p_X8_start_0 l G ad wa0 μ1 W0 hpre1
  have he1 : (List.range C_p_X8_start_0.1.length).map μ1 = [.ref (ad 1)] := by show [μ1 0] = _; rw [m1_0]
  rw [he1] at hct1
  refine hcallV (T := TXP) (k := 1) (rest := []) (avs := []) X k_10_180 hct1 d_nx_65 W0 rfl rfl rfl rfl ⟨by show 0 + 1 ≤ R.frames; omega, by show 8 + (1 + 11) + 0 ≤ R.locals; omega⟩ ⟨hc, hs⟩ (by decide) rfl (fun r1 wa1 hp => ?_)
  obtain ⟨A1, hA1, μ9, -, -, q1, -, -, -, W1, F1⟩ := hp
  have ee := List.mem_singleton.mp hA1
  subst ee
  have rr : r1 = none := q1
  subst rr
  have G1 := G0.frm F1 (by decide)
  have L1 : wa1.length = ws.length := F1.1.trans L0
  obtain ⟨h, hh, h0, h1⟩ := fget_int (T := TXP) (k := 109) (j := 1) W1 rfl rfl
  refine z_aload_n X d_nx_68 rfl 2 rfl ?_
  refine hget (T := TXP) X W1 (idx := 12) (fld_10_ok _ (by decide : (12, 10, 0) ∈ fld_10)) d_nx_69 rfl (fget_ref W1 rfl rfl) ?_
  refine z_aload_n X d_nx_72 rfl 1 rfl ?_
  refine hget (T := TXP) X W1 (idx := 275) (fld_10_ok _ (by decide : (275, 3, 1) ∈ fld_10)) d_nx_73 rfl (hh) ?_
  refine z_i2l X d_nx_76 rfl ?_
  obtain ⟨μ2, hμ2⟩ : ∃ q : Nat → Value, q = fun k => if k = 0 then .ref (ad 1) else .long ((h).toInt64) := ⟨_, rfl⟩
  have m2_0 : μ2 0 = .ref (ad 1) := by rw [hμ2]; rfl
  have m2_1 : μ2 1 = .long ((h).toInt64) := by rw [hμ2]; rfl
  have hpre2 : PRE ad C_p_X8_add_0 μ2 wa1 := by
    refine ⟨fun k t hk => ?_, fun k q hk => ?_, fun q hq => ?_⟩
    · match k, hk with
      | 0, hk => cases hk; rw [m2_0]; exact Or.inr (Or.inr (Or.inl ⟨rfl, rfl⟩))
      | 1, hk => cases hk; rw [m2_1]; exact vty_l0 _
      | N + 2, hk => cases hk
    · cases hk
    · cases hq
  have hct2 := ac_p_X8_add_0 l G ad wa1 μ2 W1 hpre2
  have he2 : (List.range C_p_X8_add_0.1.length).map μ2 = [.ref (ad 1), .long ((h).toInt64)] := by show [μ2 0, μ2 1] = _; rw [m2_0, m2_1]
  rw [he2] at hct2
  refine hcallV (T := TXP) (k := 1) (rest := []) (avs := [.long ((h).toInt64)]) X k_10_183 hct2 d_nx_77 W1 rfl rfl rfl rfl ⟨by show 0 + 1 ≤ R.frames; omega, by show 8 + (3 + 11) + 0 ≤ R.locals; omega⟩ ⟨hc, hs⟩ (by decide) rfl (fun r2 wa2 hp => ?_)
  obtain ⟨A2, hA2, μ9, -, -, q2, -, -, -, W2, F2⟩ := hp
  have ee := List.mem_singleton.mp hA2
  subst ee
  have rr : r2 = none := q2
  subst rr
  have G2 := G1.frm F2 (by decide)
  have L2 : wa2.length = ws.length := F2.1.trans L1
  obtain ⟨u, hu, u0, u1⟩ := fget_int (T := TXP) (k := 109) (j := 2) W2 rfl rfl
  refine z_aload_n X d_nx_80 rfl 2 rfl ?_
  refine hget (T := TXP) X W2 (idx := 12) (fld_10_ok _ (by decide : (12, 10, 0) ∈ fld_10)) d_nx_81 rfl (fget_ref W2 rfl rfl) ?_
  refine z_aload_n X d_nx_84 rfl 1 rfl ?_
  refine hget (T := TXP) X W2 (idx := 278) (fld_10_ok _ (by decide : (278, 3, 2) ∈ fld_10)) d_nx_85 rfl (hu) ?_
  refine z_i2l X d_nx_88 rfl ?_
  obtain ⟨μ3, hμ3⟩ : ∃ q : Nat → Value, q = fun k => if k = 0 then .ref (ad 1) else .long ((u).toInt64) := ⟨_, rfl⟩
  have m3_0 : μ3 0 = .ref (ad 1) := by rw [hμ3]; rfl
  have m3_1 : μ3 1 = .long ((u).toInt64) := by rw [hμ3]; rfl
  have hpre3 : PRE ad C_p_X8_add_0 μ3 wa2 := by
    refine ⟨fun k t hk => ?_, fun k q hk => ?_, fun q hq => ?_⟩
    · match k, hk with
      | 0, hk => cases hk; rw [m3_0]; exact Or.inr (Or.inr (Or.inl ⟨rfl, rfl⟩))
      | 1, hk => cases hk; rw [m3_1]; exact vty_l0 _
      | N + 2, hk => cases hk
    · cases hk
    · cases hq
  have hct3 := ac_p_X8_add_0 l G ad wa2 μ3 W2 hpre3
  have he3 : (List.range C_p_X8_add_0.1.length).map μ3 = [.ref (ad 1), .long ((u).toInt64)] := by show [μ3 0, μ3 1] = _; rw [m3_0, m3_1]
  rw [he3] at hct3
  refine hcallV (T := TXP) (k := 1) (rest := []) (avs := [.long ((u).toInt64)]) X k_10_183 hct3 d_nx_89 W2 rfl rfl rfl rfl ⟨by show 0 + 1 ≤ R.frames; omega, by show 8 + (3 + 11) + 0 ≤ R.locals; omega⟩ ⟨hc, hs⟩ (by decide) rfl (fun r3 wa3 hp => ?_)
  obtain ⟨A3, hA3, μ9, -, -, q3, -, -, -, W3, F3⟩ := hp
  have ee := List.mem_singleton.mp hA3
  subst ee
  have rr : r3 = none := q3
  subst rr
  have G3 := G2.frm F3 (by decide)
  have L3 : wa3.length = ws.length := F3.1.trans L2
  refine z_iload X d_nx_92 0 rfl ?_
  exact z_iret X rfl d_nx_94 hmc hms (hPO _ _ W3 G3 L3)
theorem en_add {k : Int32} {N0 : Nat} (X : ZC p s m args meth c cX10_enough 7 RX10 G A (some .int) "enough") (hR1 : 5 ≤ R.frames) (hR2 : 119 ≤ R.locals) (hc : kc ≤ R.cells) (hs : ks ≤ R.slots) (hmc : kc ≤ mc) (hms : ks ≤ ms) (k1 : k.toInt ≤ 6) (hPO : ∀ (v : Int32) w1, WT G ad TXP w1 → GF G ω w1 → w1.length = N0 → PO (some (.int v)) w1) : ∀ (N : Nat) (i : Int32) (ws : va_W), WT G ad TXP ws → GF G ω ws → ws.length = N0 → 0 ≤ i.toInt → (k.toInt - i.toInt).toNat < N → Z p l e R s m args below meth c 7 G A (MQ below (QQ G A PO) args s mc ms A) 161 [(0, .ref (ad 0)), (4, .ref (ad 109)), (5, .int k), (6, .int i)] [] ws kc ks
  | 0, _, _, _, _, _, _, h9 => absurd h9 (Nat.not_lt_zero _)
  | N + 1, i, ws, hW, hG, hL, i0, h9 => by
    have L : ws.length = ws.length := rfl
    refine z_iload X d_en_161 3 rfl ?_
    refine z_iload X d_en_163 2 rfl ?_
    refine zc_ge X d_en_165 (tgt := 190) (by decide) (a := i.toInt) (b := k.toInt) rfl rfl (fun _ => ?_) (fun hlt => ?_)
    · skip
      refine z_iload X d_en_190 2 rfl ?_
      exact z_iret X rfl d_en_192 hmc hms (hPO _ _ hW hG hL)
    obtain ⟨bh, hbh, -⟩ := WT.ints (T := TXP) (k := 110) (n := 6) hW rfl
    have v6 : vp_in i 6 := vp_of i0 (by omega)
    refine z_aload_n X d_en_168 rfl 0 rfl ?_
    refine hget (T := TXP) X hW (idx := 12) (fld_10_ok _ (by decide : (12, 10, 0) ∈ fld_10)) d_en_169 rfl (fget_ref hW rfl rfl) ?_
    refine z_aload X d_en_172 1 rfl ?_
    refine hget (T := TXP) X hW (idx := 288) (fld_10_ok _ (by decide : (288, 3, 3) ∈ fld_10)) d_en_174 rfl (fget_ref hW rfl rfl) ?_
    refine z_iload X d_en_177 3 rfl ?_
    refine z_iald X d_en_179 110 (hbh) (v6) rfl ?_
    refine z_i2l X d_en_180 rfl ?_
    obtain ⟨μ4, hμ4⟩ : ∃ q : Nat → Value, q = fun k => if k = 0 then .ref (ad 1) else .long ((bh (i).toNatClampNeg).toInt64) := ⟨_, rfl⟩
    have m4_0 : μ4 0 = .ref (ad 1) := by rw [hμ4]; rfl
    have m4_1 : μ4 1 = .long ((bh (i).toNatClampNeg).toInt64) := by rw [hμ4]; rfl
    have hpre4 : PRE ad C_p_X8_add_0 μ4 ws := by
      refine ⟨fun k t hk => ?_, fun k q hk => ?_, fun q hq => ?_⟩
      · match k, hk with
        | 0, hk => cases hk; rw [m4_0]; exact Or.inr (Or.inr (Or.inl ⟨rfl, rfl⟩))
        | 1, hk => cases hk; rw [m4_1]; exact vty_l0 _
        | N + 2, hk => cases hk
      · cases hk
      · cases hq
    have hct4 := ac_p_X8_add_0 l G ad ws μ4 hW hpre4
    have he4 : (List.range C_p_X8_add_0.1.length).map μ4 = [.ref (ad 1), .long ((bh (i).toNatClampNeg).toInt64)] := by show [μ4 0, μ4 1] = _; rw [m4_0, m4_1]
    rw [he4] at hct4
    refine hcallV (T := TXP) (k := 1) (rest := []) (avs := [.long ((bh (i).toNatClampNeg).toInt64)]) X k_10_183 hct4 d_en_181 hW rfl rfl rfl rfl ⟨by show 0 + 1 ≤ R.frames; omega, by show 8 + (3 + 11) + 0 ≤ R.locals; omega⟩ ⟨hc, hs⟩ (by decide) rfl (fun r4 wa4 hp => ?_)
    obtain ⟨A4, hA4, μ9, -, -, q4, -, -, -, W4, F4⟩ := hp
    have ee := List.mem_singleton.mp hA4
    subst ee
    have rr : r4 = none := q4
    subst rr
    have G4 := hG.frm F4 (by decide)
    have L4 : wa4.length = ws.length := F4.1.trans L
    refine z_iinc X d_en_184 (k := 3) rfl rfl (by decide) (lv' := [(6, .int (i + Int32.ofInt (1))), (0, .ref (ad 0)), (4, .ref (ad 109)), (5, .int (k))]) rfl ?_
    refine z_goto X d_en_187 (tgt := 161) (by decide) ?_
    have e1 : (i + Int32.ofInt 1).toInt = i.toInt + 1 := tI_add rfl (show (Int32.ofInt 1).toInt = 1 by decide) (by omega)
    exact Z.mono (fun q hq => by simp only [List.mem_cons, List.not_mem_nil, or_false] at hq ⊢; rcases hq with h | h | h | h <;> simp [h]) (en_add X hR1 hR2 hc hs hmc hms k1 hPO N (i + Int32.ofInt 1) wa4 W4 G4 (L4.trans hL) (by omega) (by omega))
theorem en_end {k : Int32} {N0 : Nat} {ws : va_W} (X : ZC p s m args meth c cX10_enough 7 RX10 G A (some .int) "enough") (hR1 : 5 ≤ R.frames) (hR2 : 119 ≤ R.locals) (hc : kc ≤ R.cells) (hs : ks ≤ R.slots) (hmc : kc ≤ mc) (hms : ks ≤ ms) (k0 : 0 ≤ k.toInt) (k1 : k.toInt ≤ 6) (hPO : ∀ (v : Int32) w1, WT G ad TXP w1 → GF G ω w1 → w1.length = N0 → PO (some (.int v)) w1) (hW : WT G ad TXP ws) (hG : GF G ω ws) (hL : ws.length = N0) : Z p l e R s m args below meth c 7 G A (MQ below (QQ G A PO) args s mc ms A) 139 [(0, .ref (ad 0)), (4, .ref (ad 109)), (5, .int k)] [] ws kc ks := by
  have L : ws.length = ws.length := rfl
  obtain ⟨n, hn, n0, n1⟩ := fget_int (T := TXP) (k := 109) (j := 0) hW rfl rfl
  refine z_aload X d_en_139 1 rfl ?_
  refine hget (T := TXP) X hW (idx := 268) (fld_10_ok _ (by decide : (268, 3, 0) ∈ fld_10)) d_en_141 rfl (hn) ?_
  refine z_iconst X d_en_144 (v := 1) (by decide) ?_
  refine zc_eq X d_en_145 (tgt := 151) (by decide) (a := n.toInt) (b := 1) rfl rfl (fun _ => ?_) (fun _ => ?_)
  rotate_left
  · skip
    refine z_bipush X d_en_148 (v := (-2)) (by decide) ?_
    exact z_iret X rfl d_en_150 hmc hms (hPO _ _ hW hG hL)
  refine z_aload_n X d_en_151 rfl 0 rfl ?_
  refine hget (T := TXP) X hW (idx := 12) (fld_10_ok _ (by decide : (12, 10, 0) ∈ fld_10)) d_en_152 rfl (fget_ref hW rfl rfl) ?_
  obtain ⟨μ5, hμ5⟩ : ∃ q : Nat → Value, q = fun k => .ref (ad 1) := ⟨_, rfl⟩
  have m5_0 : μ5 0 = .ref (ad 1) := by rw [hμ5]
  have hpre5 : PRE ad C_p_X8_start_0 μ5 ws := by
    refine ⟨fun k t hk => ?_, fun k q hk => ?_, fun q hq => ?_⟩
    · match k, hk with
      | 0, hk => cases hk; rw [m5_0]; exact Or.inr (Or.inr (Or.inl ⟨rfl, rfl⟩))
      | N + 1, hk => cases hk
    · cases hk
    · cases hq
  have hct5 := ac_p_X8_start_0 l G ad ws μ5 hW hpre5
  have he5 : (List.range C_p_X8_start_0.1.length).map μ5 = [.ref (ad 1)] := by show [μ5 0] = _; rw [m5_0]
  rw [he5] at hct5
  refine hcallV (T := TXP) (k := 1) (rest := []) (avs := []) X k_10_180 hct5 d_en_155 hW rfl rfl rfl rfl ⟨by show 0 + 1 ≤ R.frames; omega, by show 8 + (1 + 11) + 0 ≤ R.locals; omega⟩ ⟨hc, hs⟩ (by decide) rfl (fun r5 wa5 hp => ?_)
  obtain ⟨A5, hA5, μ9, -, -, q5, -, -, -, W5, F5⟩ := hp
  have ee := List.mem_singleton.mp hA5
  subst ee
  have rr : r5 = none := q5
  subst rr
  have G5 := hG.frm F5 (by decide)
  have L5 : wa5.length = ws.length := F5.1.trans L
  refine z_iconst X d_en_158 (v := 0) (by decide) ?_
  refine z_istore X d_en_159 (by decide) (lv' := [(6, .int ((0 : Int32))), (0, .ref (ad 0)), (4, .ref (ad 109)), (5, .int (k))]) rfl ?_
  exact Z.mono (fun q hq => by simp only [List.mem_cons, List.not_mem_nil, or_false] at hq ⊢; rcases hq with h | h | h | h <;> simp [h]) (en_add (k := k) X hR1 hR2 hc hs hmc hms k1 hPO _ 0 wa5 W5 G5 (L5.trans hL) (by decide) (Nat.lt_succ_self _))
theorem en_loop {sp x y : Int32} {N0 : Nat} (X : ZC p s m args meth c cX10_enough 7 RX10 G A (some .int) "enough") (hR1 : 5 ≤ R.frames) (hR2 : 119 ≤ R.locals) (hc : kc ≤ R.cells) (hs : ks ≤ R.slots) (hmc : kc ≤ mc) (hms : ks ≤ ms) (p0 : 0 ≤ sp.toInt) (p1 : sp.toInt ≤ 5) (x0 : -60 ≤ x.toInt) (x1 : x.toInt ≤ 60) (y0 : -60 ≤ y.toInt) (y1 : y.toInt ≤ 60) (hPO : ∀ (v : Int32) w1, WT G ad TXP w1 → GF G ω w1 → w1.length = N0 → PO (some (.int v)) w1) : ∀ (N : Nat) (k : Int32) (ws : va_W), WT G ad TXP ws → GF G ω ws → ws.length = N0 → 0 ≤ k.toInt → k.toInt ≤ 6 → (6 - k.toInt).toNat < N → Z p l e R s m args below meth c 7 G A (MQ below (QQ G A PO) args s mc ms A) 71 [(0, .ref (ad 0)), (1, .int sp), (2, .int x), (3, .int y), (4, .ref (ad 109)), (5, .int k)] [] ws kc ks
  | 0, _, _, _, _, _, _, _, h9 => absurd h9 (Nat.not_lt_zero _)
  | N + 1, k, ws, hW, hG, hL, k0, k1, h9 => by
    have L : ws.length = ws.length := rfl
    have fin : Z p l e R s m args below meth c 7 G A (MQ below (QQ G A PO) args s mc ms A) 139 [(0, .ref (ad 0)), (4, .ref (ad 109)), (5, .int k)] [] ws kc ks := en_end X hR1 hR2 hc hs hmc hms k0 k1 hPO hW hG hL
    refine z_iload X d_en_71 5 rfl ?_
    refine z_bipush X d_en_73 (v := 6) (by decide) ?_
    refine zc_ge X d_en_75 (tgt := 139) (by decide) (a := k.toInt) (b := 6) rfl rfl (fun _ => Z.mono (fun q hq => by simp only [List.mem_cons, List.not_mem_nil, or_false] at hq ⊢; rcases hq with h | h | h <;> simp [h]) fin) (fun hlt => ?_)
    obtain ⟨n, hn, n0, n1⟩ := fget_int (T := TXP) (k := 109) (j := 0) hW rfl rfl
    refine z_aload X d_en_78 4 rfl ?_
    refine hget (T := TXP) X hW (idx := 268) (fld_10_ok _ (by decide : (268, 3, 0) ∈ fld_10)) d_en_80 rfl (hn) ?_
    refine z_iconst X d_en_83 (v := 1) (by decide) ?_
    refine zc_le X d_en_84 (tgt := 139) (by decide) (a := n.toInt) (b := 1) rfl rfl (fun _ => Z.mono (fun q hq => by simp only [List.mem_cons, List.not_mem_nil, or_false] at hq ⊢; rcases hq with h | h | h <;> simp [h]) fin) (fun _ => ?_)
    refine z_aload_n X d_en_87 rfl 0 rfl ?_
    refine z_aload X d_en_88 4 rfl ?_
    refine z_iload_n X d_en_90 rfl 1 rfl ?_
    refine z_iconst X d_en_91 (v := 4) (by decide) ?_
    obtain ⟨μ6, hμ6⟩ : ∃ q : Nat → Value, q = fun k => if k = 0 then .ref (ad 0) else if k = 1 then .ref (ad 109) else if k = 2 then .int sp else .int 4 := ⟨_, rfl⟩
    have m6_0 : μ6 0 = .ref (ad 0) := by rw [hμ6]; rfl
    have m6_1 : μ6 1 = .ref (ad 109) := by rw [hμ6]; rfl
    have m6_2 : μ6 2 = .int sp := by rw [hμ6]; rfl
    have m6_3 : μ6 3 = .int 4 := by rw [hμ6]; rfl
    have hpre6 : PRE ad C_p_X10_findNarrowest_0 μ6 ws := by
      refine ⟨fun k t hk => ?_, fun k q hk => ?_, fun q hq => ?_⟩
      · match k, hk with
        | 0, hk => cases hk; rw [m6_0]; exact Or.inr (Or.inr (Or.inl ⟨rfl, rfl⟩))
        | 1, hk => cases hk; rw [m6_1]; exact Or.inr (Or.inr (Or.inl ⟨rfl, rfl⟩))
        | 2, hk => cases hk; rw [m6_2]; exact vty_i p0 p1
        | 3, hk => cases hk; rw [m6_3]; exact vty_i (by decide) (by decide)
        | N + 4, hk => cases hk
      · cases hk
      · cases hq
    have hct6 := ac_p_X10_findNarrowest_0 l G ad ws μ6 hW hpre6 hG.1
    have he6 : (List.range C_p_X10_findNarrowest_0.1.length).map μ6 = [.ref (ad 0), .ref (ad 109), .int sp, .int 4] := by show [μ6 0, μ6 1, μ6 2, μ6 3] = _; rw [m6_0, m6_1, m6_2, m6_3]
    rw [he6] at hct6
    refine hcallV (T := TXP) (k := 0) (rest := []) (avs := [.ref (ad 109), .int sp, .int 4]) X k_10_271 hct6 d_en_92 hW rfl rfl rfl rfl ⟨by show 3 + 1 ≤ R.frames; omega, by show 8 + (8 + 11) + 74 ≤ R.locals; omega⟩ ⟨hc, hs⟩ (by decide) rfl (fun r6 wa6 hp => ?_)
    obtain ⟨A6, hA6, μ9, -, -, q6, -, -, -, W6, F6⟩ := hp
    have ee := List.mem_singleton.mp hA6
    subst ee
    obtain ⟨rr, r2⟩ := q6
    obtain ⟨v, ev', -⟩ := vty0 r2 rfl
    rw [rr, ev']
    have G6 := hG.frm F6 (by decide)
    have L6 : wa6.length = ws.length := F6.1.trans L
    refine z_pop X d_en_95 rfl ?_
    obtain ⟨h, hh, h0, h1⟩ := fget_int (T := TXP) (k := 109) (j := 1) W6 rfl rfl
    obtain ⟨u, hu, u0, u1⟩ := fget_int (T := TXP) (k := 109) (j := 2) W6 rfl rfl
    refine z_aload_n X d_en_96 rfl 0 rfl ?_
    refine z_aload X d_en_97 4 rfl ?_
    refine z_iload_n X d_en_99 rfl 1 rfl ?_
    refine z_aload X d_en_100 4 rfl ?_
    refine hget (T := TXP) X W6 (idx := 275) (fld_10_ok _ (by decide : (275, 3, 1) ∈ fld_10)) d_en_102 rfl (hh) ?_
    refine z_aload X d_en_105 4 rfl ?_
    refine hget (T := TXP) X W6 (idx := 278) (fld_10_ok _ (by decide : (278, 3, 2) ∈ fld_10)) d_en_107 rfl (hu) ?_
    obtain ⟨μ7, hμ7⟩ : ∃ q : Nat → Value, q = fun k => if k = 0 then .ref (ad 0) else if k = 1 then .ref (ad 109) else if k = 2 then .int sp else if k = 3 then .int h else .int u := ⟨_, rfl⟩
    have m7_0 : μ7 0 = .ref (ad 0) := by rw [hμ7]; rfl
    have m7_1 : μ7 1 = .ref (ad 109) := by rw [hμ7]; rfl
    have m7_2 : μ7 2 = .int sp := by rw [hμ7]; rfl
    have m7_3 : μ7 3 = .int h := by rw [hμ7]; rfl
    have m7_4 : μ7 4 = .int u := by rw [hμ7]; rfl
    have hpre7 : PRE ad C_p_X10_feelWithHung_0 μ7 wa6 := by
      refine ⟨fun k t hk => ?_, fun k q hk => ?_, fun q hq => ?_⟩
      · match k, hk with
        | 0, hk => cases hk; rw [m7_0]; exact Or.inr (Or.inr (Or.inl ⟨rfl, rfl⟩))
        | 1, hk => cases hk; rw [m7_1]; exact Or.inr (Or.inr (Or.inl ⟨rfl, rfl⟩))
        | 2, hk => cases hk; rw [m7_2]; exact vty_i p0 p1
        | 3, hk => cases hk; rw [m7_3]; exact vty_i h0 h1
        | 4, hk => cases hk; rw [m7_4]; exact vty_i u0 u1
        | N + 5, hk => cases hk
      · cases hk
      · cases hq
    have hct7 := ac_p_X10_feelWithHung_0 l G ad wa6 μ7 W6 hpre7
    have he7 : (List.range C_p_X10_feelWithHung_0.1.length).map μ7 = [.ref (ad 0), .ref (ad 109), .int sp, .int h, .int u] := by show [μ7 0, μ7 1, μ7 2, μ7 3, μ7 4] = _; rw [m7_0, m7_1, m7_2, m7_3, m7_4]
    rw [he7] at hct7
    refine hcallV (T := TXP) (k := 0) (rest := []) (avs := [.ref (ad 109), .int sp, .int h, .int u]) X k_10_281 hct7 d_en_110 W6 rfl rfl rfl rfl ⟨by show 2 + 1 ≤ R.frames; omega, by show 8 + (7 + 11) + 48 ≤ R.locals; omega⟩ ⟨hc, hs⟩ (by decide) rfl (fun r7 wa7 hp => ?_)
    obtain ⟨A7, hA7, μ9, -, -, q7, -, -, -, W7, F7⟩ := hp
    have ee := List.mem_singleton.mp hA7
    subst ee
    have rr : r7 = none := q7
    subst rr
    have G7 := G6.frm F7 (by decide)
    have L7 : wa7.length = ws.length := F7.1.trans L6
    refine z_aload X d_en_113 4 rfl ?_
    refine z_iload_n X d_en_115 rfl 2 rfl ?_
    refine z_iload_n X d_en_116 rfl 3 rfl ?_
    refine hcallV (T := TXP) (k := 109) (rest := []) (avs := [.int x, .int y]) X k_10_285 (ac_keepAlike l G W7 G7.1 x0 x1 y0 y1) d_en_117 W7 rfl rfl rfl rfl ⟨by show 1 + 1 ≤ R.frames; omega, by show 8 + (7 + 11) + 21 ≤ R.locals; omega⟩ ⟨hc, hs⟩ (by decide) rfl (fun r wk hp => ?_)
    obtain ⟨rfl, Wk, Fk, Gk0⟩ := hp
    have Gk : GF G ω wk := ⟨Gk0, G7.2.frm Fk (by decide)⟩
    have Lk : wk.length = ws.length := Fk.1.trans L7
    obtain ⟨n2, hn2, n20, n21⟩ := fget_int (T := TXP) (k := 109) (j := 0) Wk rfl rfl
    obtain ⟨bh, hbh, -⟩ := WT.ints (T := TXP) (k := 110) (n := 6) Wk rfl
    have v6 : vp_in k 6 := vp_of k0 (by omega)
    refine z_aload X d_en_120 4 rfl ?_
    refine hget (T := TXP) X Wk (idx := 288) (fld_10_ok _ (by decide : (288, 3, 3) ∈ fld_10)) d_en_122 rfl (fget_ref Wk rfl rfl) ?_
    refine z_iload X d_en_125 5 rfl ?_
    refine z_aload X d_en_127 4 rfl ?_
    refine hget (T := TXP) X Wk (idx := 268) (fld_10_ok _ (by decide : (268, 3, 0) ∈ fld_10)) d_en_129 rfl (hn2) ?_
    refine z_iast X d_en_132 110 (hbh) (v6) rfl ?_
    have Wz := WT.wr (j := k.toNatClampNeg) (v := n2) Wk rfl hbh n20 n21
    have Gz := Gk.setA (k := 110) (a := ad 110) (en := aI G 6 (upd bh k.toNatClampNeg n2)) (by decide)
    refine z_iinc X d_en_133 (k := 5) rfl rfl (by decide) (lv' := [(5, .int (k + Int32.ofInt (1))), (0, .ref (ad 0)), (1, .int (sp)), (2, .int (x)), (3, .int (y)), (4, .ref (ad 109))]) rfl ?_
    refine z_goto X d_en_136 (tgt := 71) (by decide) ?_
    have e1 : (k + Int32.ofInt 1).toInt = k.toInt + 1 := tI_add rfl (show (Int32.ofInt 1).toInt = 1 by decide) (by omega)
    exact Z.mono (fun q hq => by simp only [List.mem_cons, List.not_mem_nil, or_false] at hq ⊢; rcases hq with h | h | h | h | h | h <;> simp [h]) (en_loop (sp := sp) (x := x) (y := y) X hR1 hR2 hc hs hmc hms p0 p1 x0 x1 y0 y1 hPO N (k + Int32.ofInt 1) _ Wz Gz (by rw [List.length_set, Lk, hL]) (by omega) (by omega) (by omega))
theorem en_tail {ws : va_W} {sp x y : Int32} (X : ZC p s m args meth c cX10_enough 7 RX10 G A (some .int) "enough") (hW : WT G ad TXP ws) (hG : GF G ω ws) (hR1 : 5 ≤ R.frames) (hR2 : 119 ≤ R.locals) (hc : kc ≤ R.cells) (hs : ks ≤ R.slots) (hmc : kc ≤ mc) (hms : ks ≤ ms) (p0 : 0 ≤ sp.toInt) (p1 : sp.toInt ≤ 5) (x0 : -60 ≤ x.toInt) (x1 : x.toInt ≤ 60) (y0 : -60 ≤ y.toInt) (y1 : y.toInt ≤ 60) (hPO : ∀ (v : Int32) w1, WT G ad TXP w1 → GF G ω w1 → w1.length = ws.length → PO (some (.int v)) w1) : Z p l e R s m args below meth c 7 G A (MQ below (QQ G A PO) args s mc ms A) 66 [(0, .ref (ad 0)), (1, .int sp), (2, .int x), (3, .int y)] [.ref (ad 109)] ws kc ks := by
  refine z_astore X d_en_66 (by decide) (lv' := [(4, .ref (ad 109)), (0, .ref (ad 0)), (1, .int (sp)), (2, .int (x)), (3, .int (y))]) rfl ?_
  refine z_iconst X d_en_68 (v := 0) (by decide) ?_
  refine z_istore X d_en_69 (by decide) (lv' := [(5, .int ((0 : Int32))), (4, .ref (ad 109)), (0, .ref (ad 0)), (1, .int (sp)), (2, .int (x)), (3, .int (y))]) rfl ?_
  exact Z.mono (fun q hq => by simp only [List.mem_cons, List.not_mem_nil, or_false] at hq ⊢; rcases hq with h | h | h | h | h | h <;> simp [h]) (en_loop (sp := sp) (x := x) (y := y) X hR1 hR2 hc hs hmc hms p0 p1 x0 x1 y0 y1 hPO _ 0 ws hW hG rfl (by decide) (by decide) (Nat.lt_succ_self _))
end NXT
