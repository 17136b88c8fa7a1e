section
def D_X10_mill : DT := [(0, .aload_n 0, 1), (1, .getfield 19, 3), (4, .aload_n 0, 1), (5, .getfield 26, 3), (8, .aload_n 0, 1), (9, .getfield 33, 3), (12, .aload_n 0, 1), (13, .getfield 40, 3), (16, .invokevirtual 99, 3), (19, .istore_n 1, 1), (20, .aload_n 0, 1), (21, .getfield 19, 3), (24, .invokevirtual 103, 3), (27, .iload_n 1, 1), (28, .ireturn, 1)]
theorem D_X10_mill_ok : dtOK cX10_mill D_X10_mill = true := by decide +kernel
abbrev C_t_X10_mill_0 : CE := ([(2, 0, 0)], [], [], [(some (0, -2147483648, 2147483647), [], [(3, 1, (0, 0, 0))], [])], [(3, 1), (3, 2), (3, 3), (3, 4), (3, 5), (3, 6), (3, 7), (5, 0), (6, 999), (7, 999), (8, 999), (9, 999), (12, 0), (13, 999), (14, 999), (18, 0), (19, 999)], 6, 132)
theorem ac_t_X10_mill_0 (l : Launch) (G : KG) : ACt l G TX yX10_mill cX10_mill 2 (some .int) C_t_X10_mill_0 := acert (tab := D_X10_mill) (fld := fld_10) (put := put_10) (cst := cst_10) (cstl := cstl_10) (cal := [(99, 0, 5, C_readLines), (103, 0, 1, C_X4_empty_0)]) (rk := 1) (cuts := []) (fuel := 4000) (by decide) (Or.inr (Or.inl ⟨rfl, rfl⟩)) fld_10_ok put_10_ok cst_10_ok cstl_10_ok (List.forall_mem_cons.mpr ⟨cok_v k_10_99 (ac_readLines l G) rfl rfl rfl rfl rfl rfl, List.forall_mem_cons.mpr ⟨cok_v k_10_103 (ac_X4_empty_0 l G) rfl rfl rfl rfl rfl rfl, fun _ h => absurd h List.not_mem_nil⟩⟩) D_X10_mill_ok (by decide +kernel)
def D_X10_all : DT := [(0, .iload_n 1, 1), (1, .invokestatic 156, 3), (4, .ifCond .eq 14, 3), (7, .iload_n 2, 1), (8, .iconst 1, 1), (9, .if_icmp .lt 9, 3), (12, .iload_n 2, 1), (13, .bipush 9, 2), (15, .if_icmp .le 7, 3), (18, .ldc2_w 346, 3), (21, .lreturn, 1), (22, .aload_n 0, 1), (23, .iload_n 1, 1), (24, .iload_n 2, 1), (25, .invokevirtual 386, 3), (28, .istore_n 3, 1), (29, .aload_n 0, 1), (30, .iload_n 1, 1), (31, .iconst 0, 1), (32, .invokevirtual 348, 3), (35, .istore 4, 2), (37, .aload_n 0, 1), (38, .iload_n 1, 1), (39, .iconst 1, 1), (40, .invokevirtual 348, 3), (43, .istore 5, 2), (45, .iconst 0, 1), (46, .istore 6, 2), (48, .iconst 0, 1), (49, .istore 7, 2), (51, .iload 4, 2), (53, .i2l, 1), (54, .iload 5, 2), (56, .i2l, 1), (57, .invokestatic 187, 3), (60, .lstore 8, 2), (62, .iconst 1, 1), (63, .istore 10, 2), (65, .iload 10, 2), (67, .iconst 1, 1), (68, .iload_n 3, 1), (69, .ishl, 1), (70, .if_icmp .ge 136, 3), (73, .aload_n 0, 1), (74, .getfield 87, 3), (77, .iload 10, 2), (79, .iload 10, 2), (81, .ineg, 1), (82, .iand, 1), (83, .iconst 1, 1), (84, .isub, 1), (85, .invokestatic 256, 3), (88, .iaload, 1), (89, .istore 11, 2), (91, .iload 6, 2), (93, .iconst 1, 1), (94, .iload 11, 2), (96, .ishl, 1), (97, .ixor, 1), (98, .istore 6, 2), (100, .iload 6, 2), (102, .iload 11, 2), (104, .ishr, 1), (105, .iconst 1, 1), (106, .iand, 1), (107, .iconst 1, 1), (108, .if_icmp .ne 7, 3), (111, .iload_n 2, 1), (112, .goto 5, 3), (115, .iload_n 2, 1), (116, .ineg, 1), (117, .istore 12, 2), (119, .iload 4, 2), (121, .iload 12, 2), (123, .aload_n 0, 1), (124, .getfield 26, 3), (127, .getfield 119, 3), (130, .iload 11, 2), (132, .iaload, 1), (133, .imul, 1), (134, .iadd, 1), (135, .istore 4, 2), (137, .iload 5, 2), (139, .iload 12, 2), (141, .aload_n 0, 1), (142, .getfield 26, 3), (145, .getfield 122, 3), (148, .iload 11, 2), (150, .iaload, 1), (151, .imul, 1), (152, .iadd, 1), (153, .istore 5, 2), (155, .iload 4, 2), (157, .i2l, 1), (158, .iload 5, 2), (160, .i2l, 1), (161, .invokestatic 187, 3), (164, .lstore 13, 2), (166, .lload 13, 2), (168, .lload 8, 2), (170, .lcmp, 1), (171, .ifCond .lt 21, 3), (174, .lload 13, 2), (176, .lload 8, 2), (178, .lcmp, 1), (179, .ifCond .ne 21, 3), (182, .iload 6, 2), (184, .iload 7, 2), (186, .invokestatic 389, 3), (189, .ifCond .eq 11, 3), (192, .lload 13, 2), (194, .lstore 8, 2), (196, .iload 6, 2), (198, .istore 7, 2), (200, .iinc 10 1, 3), (203, .goto (-138), 3), (206, .aload_n 0, 1), (207, .getfield 12, 3), (210, .invokevirtual 180, 3), (213, .aload_n 0, 1), (214, .getfield 12, 3), (217, .iload 7, 2), (219, .i2l, 1), (220, .invokevirtual 183, 3), (223, .lload 8, 2), (225, .lreturn, 1)]
theorem D_X10_all_ok : dtOK cX10_all D_X10_all = true := by decide +kernel
abbrev C_t_X10_all_0 : CE := ([(2, 0, 0), (0, -2147483648, 2147483647), (0, -2147483648, 2147483647)], [], [], [(some (1, -9223372036854775808, 9223372036854775807), [], [], [])], [(1, 1), (2, 999), (108, 999)], 2, 47)
theorem ac_t_X10_all_0 (l : Launch) (G : KG) : ACt l G TX yX10_all cX10_all 15 (some .long) C_t_X10_all_0 := acertH (hk := hkLow) (tab := D_X10_all) (fld := fld_10) (put := put_10) (cst := cst_10) (cstl := cstl_10) (cal := [(156, 1, 1, C_X10_isOneOfTwo_0), (386, 0, 5, C_X10_gatherFitting_0), (348, 0, 3, C_X10_unmended_0), (348, 0, 3, C_X10_unmended_1), (187, 1, 4, C_X10_sizeOf_0), (389, 1, 3, C_X10_isFewer_0), (180, 0, 1, C_X8_start_0), (183, 0, 3, C_X8_add_0)]) (rk := 2) (cuts := [(65, ([(0, 0, false), (2, 2, false), (3, 500, false), (4, 501, false), (5, 502, false), (6, 503, false), (7, 504, false), (8, 505, true), (10, 506, false)], [], [(0, (2, 0, 0)), (1, (0, 0, 1)), (2, (0, 1, 9)), (500, (0, 0, 16)), (501, (0, -2147483648, 2147483647)), (502, (0, -2147483648, 2147483647)), (503, (0, -2147483648, 2147483647)), (504, (0, -2147483648, 2147483647)), (505, (1, -9223372036854775808, 9223372036854775807)), (506, (0, 1, 65536))], [], [], 1000), 65537, [(1, 506)])]) (fuel := 4000) (by decide) (Or.inr (Or.inr (Or.inl ⟨rfl, rfl⟩))) fld_10_ok put_10_ok cst_10_ok cstl_10_ok (List.forall_mem_cons.mpr ⟨cok_s k_10_156 (ac_X10_isOneOfTwo_0 l G) rfl, List.forall_mem_cons.mpr ⟨cok_v k_10_386 (ac_X10_gatherFitting_0 l G) rfl rfl rfl rfl rfl rfl, List.forall_mem_cons.mpr ⟨cok_v k_10_348 (ac_X10_unmended_0 l G) rfl rfl rfl rfl rfl rfl, List.forall_mem_cons.mpr ⟨cok_v k_10_348 (ac_X10_unmended_1 l G) rfl rfl rfl rfl rfl rfl, List.forall_mem_cons.mpr ⟨cok_s k_10_187 (ac_X10_sizeOf_0 l G) rfl, List.forall_mem_cons.mpr ⟨cok_s k_10_389 (ac_X10_isFewer_0 l G) rfl, List.forall_mem_cons.mpr ⟨cok_v k_10_180 (ac_X8_start_0 l G) rfl rfl rfl rfl rfl rfl, List.forall_mem_cons.mpr ⟨cok_v k_10_183 (ac_X8_add_0 l G) rfl rfl rfl rfl rfl rfl, fun _ h => absurd h List.not_mem_nil⟩⟩⟩⟩⟩⟩⟩⟩) D_X10_all_ok (hkLow_ok (by decide) (by decide)) (by decide +kernel)
end
section
/-! the runner, with hooks that lean on the world of the start -/
def HOKP (l : Launch) (G : KG) (T : List TE) (own : String) (cc : ByteArray) (nL : Nat) (ret : Option FieldType) (Rf Rl : Nat) (hk : HKT) (mk : List (Nat × Nat)) (w0 : va_W) : Prop := ∀ {p : Program} {e : Env} {R : Room} {s : State} {m : MethodId} {args : Array Value} {below : List Frame} {meth : Method} {c : Code} {A : Nat → Prop} {nm : String} {Q : State → Prop} {kc ks : Nat}, ZC p s m args meth c cc nL own G A ret nm → Rf = R.frames → Rl = R.locals → kc ≤ R.cells → ks ≤ R.slots → ∀ (ad : Nat → Nat) (pin : List (Nat × Value)) (pc : Nat) (σ : AS) (L : List (Nat × AS)), afr σ = true → hk pc σ = some L → (∀ q ∈ L, AQ p l e R s m args below meth c nL G A Q kc ks ad T mk w0 pin q.2 q.1) → AQ p l e R s m args below meth c nL G A Q kc ks ad T mk w0 pin σ pc
/-- a contract, of worlds that are so -/
def ACtP (Φ : va_W → Prop) (l : Launch) (G : KG) (T : List TE) (y : MethodName) (cc : ByteArray) (maxL : Nat) (ret : Option FieldType) (C : CE) : Prop := ∀ (ad : Nat → Nat) (w0 : va_W) (μ : Nat → Value), WT G ad T w0 → PRE ad C μ w0 → Φ w0 → Ct l G y cc maxL ret (rmOf C) ((List.range C.1.length).map μ) w0 (fun r w1 => POST G ad T C μ w0 r w1)
section AZB
variable {p : Program} {l : Launch} {e : Env} {R : Room} {s : State} {m : MethodId} {args : Array Value} {below : List Frame} {meth : Method} {c : Code} {nL : Nat} {G : KG} {A : Nat → Prop} {cc : ByteArray} {own : String} {ret : Option FieldType} {nm : String} {kc ks mc ms : Nat}
variable {ad : Nat → Nat} {T : List TE} {w0 : va_W} {pin : List (Nat × Value)} {C : CE} {μ : Nat → Value} {PO : Option Value → va_W → Prop}
variable {lv : ALv} {st : List Nat} {ev : AEv} {ca : ACa} {rl : ARl} {nx pc rk : Nat} {K : KT}
variable {hk : HKT}
variable {fld : List (Nat × Nat × Nat)} {put : List (Nat × Nat × Nat × Nat)} {cst cstl : List (Nat × Int)} {cal : List CAL}
set_option maxHeartbeats 1000000 in
theorem aexec_okP {tab : DT} (htab : ∀ q ∈ tab, decode cc q.1 = .ok q.2) (X : ZC p s m args meth c cc nL own G A ret nm) (hR1 : C.2.2.2.2.2.1 = R.frames) (hR2 : C.2.2.2.2.2.2 = R.locals) (hhk : HOKP l G T own cc nL ret C.2.2.2.2.2.1 C.2.2.2.2.2.2 hk C.2.2.2.2.1 w0) (hrk : RK rk ret) (hc : kc ≤ mc) (hs : ks ≤ ms) (hp1 : ∀ j, j < C.1.length → (j, μ j) ∈ pin) (hp2 : ∀ j, j < C.2.1.length → (100 + j, μ (100 + j)) ∈ pin) (hl1 : C.1.length ≤ 50) (hl2 : C.2.1.length ≤ 100) (hPO : ∀ r w1, POST G ad T C μ w0 r w1 → PO r w1)
    (hF : ∀ q ∈ fld, FL own q.1 q.2.1 q.2.2 ∨ FN own q.1 q.2.1 q.2.2) (hP : ∀ q ∈ put, PA own q.1 q.2.1 q.2.2.1 q.2.2.2) (hC : ∀ q ∈ cst, ∃ x : Int32, x.toInt = q.2 ∧ Jvm.Cond.constant own q.1 x ∈ BIG) (hCl : ∀ q ∈ cstl, ∃ x : Int64, x.toInt = q.2 ∧ Jvm.Cond.constantLong own q.1 x ∈ BIG) (hcal : ∀ q ∈ cal, COK l G own T q) (hkc : kc ≤ R.cells) (hks : ks ≤ R.slots)
    {cuts : List CUT} {pids : List Nat} {sr : Option (Int × List (Int × Nat))} (hcut : ∀ d pc σ, d ∈ cuts ∧ d.1 = pc → aarr pids sr d σ = true → AR p l e R s m args below meth c nL G A mc ms kc ks ad T C PO w0 pin σ pc) : ∀ (n pc : Nat) (σ : AS), aexec hk tab nL T fld put cst cstl cal rk C cuts pids sr n pc σ = true → AR p l e R s m args below meth c nL G A mc ms kc ks ad T C PO w0 pin σ pc
  | 0, pc, σ, h => by cases h
  | n + 1, pc, σ, h => by
    unfold aexec at h
    obtain ⟨hf, h⟩ := and2 h
    have ih := aexec_okP htab X hR1 hR2 hhk hrk hc hs hp1 hp2 hl1 hl2 hPO hF hP hC hCl hcal hkc hks hcut n
    cases hh : hk pc σ with
    | some L =>
      rw [hh] at h
      exact hhk X hR1 hR2 hkc hks ad pin pc σ L hf hh (fun q hq => aK_ok hcut ih _ _ (List.all_eq_true.mp h q hq))
    | none =>
      rw [hh] at h
      cases hd0 : dlook tab pc with
      | none => rw [hd0] at h; cases h
      | some z =>
        rw [hd0] at h
        have hd := htab _ (dlook_mem tab _ _ hd0)
        obtain ⟨i, len⟩ := z
        obtain ⟨lv, st, ev, ca, rl, nx⟩ := σ
        have h : sIns tab nL T C.2.2.2.2.1 fld put cst cstl cal C.2.2.2.2.2.1 C.2.2.2.2.2.2 rk C (aK cuts pids sr (aexec hk tab nL T fld put cst cstl cal rk C cuts pids sr n)) pc len i lv st ev ca rl nx = true := h
        rw [hR1, hR2] at h
        exact sIns_ok X htab hd hrk hc hs hp1 hp2 hl1 hl2 hPO hF hP hC hCl hcal hkc hks hf (aK_ok hcut ih) h
set_option maxHeartbeats 1000000 in
theorem acertP {Φ : va_W → Prop} {y : MethodName} {tab : DT} {cuts : List CUT} {fuel : Nat} (hy : plainName y.cls = true) (hrk : RK rk ret)
    (hF : ∀ q ∈ fld, FL y.cls q.1 q.2.1 q.2.2 ∨ FN y.cls q.1 q.2.1 q.2.2) (hP : ∀ q ∈ put, PA y.cls q.1 q.2.1 q.2.2.1 q.2.2.2) (hC : ∀ q ∈ cst, ∃ x : Int32, x.toInt = q.2 ∧ Jvm.Cond.constant y.cls q.1 x ∈ BIG) (hCl : ∀ q ∈ cstl, ∃ x : Int64, x.toInt = q.2 ∧ Jvm.Cond.constantLong y.cls q.1 x ∈ BIG) (hcal : ∀ q ∈ cal, COK l G y.cls T q) (htab : dtOK cc tab = true) (hhk : ∀ w0, Φ w0 → HOKP l G T y.cls cc nL ret C.2.2.2.2.2.1 C.2.2.2.2.2.2 hk C.2.2.2.2.1 w0)
    (h : xcheckH hk tab nL T fld put cst cstl cal rk C cuts fuel = true) : ACtP Φ l G T y cc nL ret C := by
  rw [xcheckH_eq] at h
  unfold acheckH at h
  obtain ⟨c1, h⟩ := and2 h
  obtain ⟨c2, h⟩ := and2 h
  obtain ⟨c3, h⟩ := and2 h
  obtain ⟨c4, h⟩ := and2 h
  obtain ⟨c5, h⟩ := and2 h
  have c1 := Nat.le_of_ble_eq_true c1
  have c2 := Nat.le_of_ble_eq_true c2
  intro ad w0 μ hW hPre hΦ
  obtain ⟨r1, r2, r3⟩ := lv0_ok (μ := μ) (ad := ad) C.1 0 0 (fun t ht => Nat.le_of_ble_eq_true (List.all_eq_true.mp c4 t ht)) (fun k t hk => by rw [Nat.zero_add]; exact hPre.1 k t hk)
  rw [List.range_eq_range']
  refine ct_of _ hy (by rw [r3]; exact Nat.le_of_ble_eq_true c3) rfl ?_
  intro p e s m args below meth c A X
  obtain ⟨pin, hpin⟩ : ∃ pin : List (Nat × Value), pin = (List.range C.1.length).map (fun j => (j, μ j)) ++ (List.range C.2.1.length).map (fun j => (100 + j, μ (100 + j))) := ⟨_, rfl⟩
  have hp1 : ∀ j, j < C.1.length → (j, μ j) ∈ pin := fun j hj => by rw [hpin]; exact List.mem_append_left _ (List.mem_map.mpr ⟨j, List.mem_range.mpr hj, rfl⟩)
  have hp2 : ∀ j, j < C.2.1.length → (100 + j, μ (100 + j)) ∈ pin := fun j hj => by rw [hpin]; exact List.mem_append_right _ (List.mem_map.mpr ⟨j, List.mem_range.mpr hj, rfl⟩)
  have hpids : ∀ q ∈ pin, q.1 ∈ apids C := by
    intro q hq
    rw [hpin] at hq
    unfold apids
    rcases List.mem_append.mp hq with hq | hq
    · obtain ⟨j, hj, rfl⟩ := List.mem_map.mp hq
      exact List.mem_append_left _ hj
    · obtain ⟨j, hj, rfl⟩ := List.mem_map.mp hq
      exact List.mem_append_right _ (List.mem_map.mpr ⟨j, hj, rfl⟩)
  have hpin2 : ∀ q ∈ pin, q.1 < 1000 ∧ μ q.1 = q.2 := by
    intro q hq
    rw [hpin] at hq
    rcases List.mem_append.mp hq with hq | hq
    · obtain ⟨j, hj, rfl⟩ := List.mem_map.mp hq
      have := List.mem_range.mp hj
      exact ⟨by show j < 1000; omega, rfl⟩
    · obtain ⟨j, hj, rfl⟩ := List.mem_map.mp hq
      have := List.mem_range.mp hj
      exact ⟨by show 100 + j < 1000; omega, rfl⟩
  have main : ∀ (N : Nat) (d : CUT), d ∈ cuts → ∀ (ν : Nat → Value) (lw : List (Nat × Value)) (sw : List Value) (ws : va_W), AG G ad T C.2.2.2.2.1 w0 pin d.2.1 ν lw sw ws → (d.2.2.1 - rsum d.2.2.2 ν).toNat < N → Z p l e (rmOf C) s m args below meth c nL G A (MQ below (QQ G A (fun r w1 => POST G ad T C μ w0 r w1)) args s (rmOf C).cells (rmOf C).slots A) d.1 lw sw ws 0 0 := by
    intro N
    induction N with
    | zero => intro d _ ν lw sw ws _ h9; exact absurd h9 (Nat.not_lt_zero _)
    | succ N ih =>
      intro d hd ν lw sw ws hg hN
      have hdc := List.all_eq_true.mp c5 d hd
      obtain ⟨d1, d2⟩ := and2 hdc
      obtain ⟨d2, d3⟩ := and2 d2
      obtain ⟨pin', hpin'⟩ : ∃ pin' : List (Nat × Value), pin' = pin ++ d.2.2.2.map (fun q => (q.2, ν q.2)) := ⟨_, rfl⟩
      have hsub : ∀ q ∈ pin, q ∈ pin' := fun q hq => by rw [hpin']; exact List.mem_append_left _ hq
      have hg' : AG G ad T C.2.2.2.2.1 w0 pin' d.2.1 ν lw sw ws := by
        refine ⟨hg.1, hg.2.1, hg.2.2.1, hg.2.2.2.1, hg.2.2.2.2.1, hg.2.2.2.2.2.1, fun q hq => ?_, hg.2.2.2.2.2.2.2⟩
        rw [hpin'] at hq
        rcases List.mem_append.mp hq with hq | hq
        · exact hg.2.2.2.2.2.2.1 q hq
        · obtain ⟨z, hz, rfl⟩ := List.mem_map.mp hq
          exact ⟨blt_lt (List.all_eq_true.mp d2 z hz), rfl⟩
      refine aexec_okP (dt_ok htab) (R := rmOf C) (pin := pin') X rfl rfl (hhk w0 hΦ) hrk (Nat.le_refl 0) (Nat.le_refl 0) (fun j hj => hsub _ (hp1 j hj)) (fun j hj => hsub _ (hp2 j hj)) c1 c2 (fun _ _ h => h) hF hP hC hCl hcal (Nat.le_refl 0) (Nat.le_refl 0) ?_ fuel d.1 d.2.1 d3 ν lw sw ws hg'
      intro d' pc' σ hd' ha ν2 lw2 sw2 ws2 hg2
      obtain ⟨m1, m2⟩ := hd'
      obtain ⟨ν3, lw3, q1, q2, q3, q4⟩ := aarr_ok (hg2.weak hsub) hpids ha (and2 (List.all_eq_true.mp c5 d' m1)).1
      have q4 := q4 _ rfl
      have e1 : rsum d.2.2.2 ν2 = rsum d.2.2.2 ν := rsum_pin _ (fun z hz => by
        have := (hg2.2.2.2.2.2.2.1 (z.2, ν z.2) (by rw [hpin']; exact List.mem_append_right _ (List.mem_map.mpr ⟨z, hz, rfl⟩))).2
        exact this)
      have q4 : d'.2.2.1 - rsum d'.2.2.2 ν3 < d.2.2.1 - rsum d.2.2.2 ν2 := q4
      rw [e1] at q4
      rw [← m2]
      exact Z.mono q2 (ih d' m1 ν3 lw3 sw2 ws2 q1 (by omega))
  have hcut0 : ∀ d pc σ, d ∈ cuts ∧ d.1 = pc → aarr (apids C) none d σ = true → AR p l e (rmOf C) s m args below meth c nL G A (rmOf C).cells (rmOf C).slots 0 0 ad T C (fun r w1 => POST G ad T C μ w0 r w1) w0 pin σ pc := by
    intro d' pc' σ hd' ha ν2 lw2 sw2 ws2 hg2
    obtain ⟨m1, m2⟩ := hd'
    obtain ⟨ν3, lw3, q1, q2, -, -⟩ := aarr_ok hg2 hpids ha (and2 (List.all_eq_true.mp c5 d' m1)).1
    rw [← m2]
    exact Z.mono q2 (main _ d' m1 ν3 lw3 sw2 ws2 q1 (Nat.lt_succ_self _))
  have hrun := aK_ok hcut0 (aexec_okP (dt_ok htab) (R := rmOf C) (pin := pin) X rfl rfl (hhk w0 hΦ) hrk (Nat.le_refl 0) (Nat.le_refl 0) hp1 hp2 c1 c2 (fun _ _ h => h) hF hP hC hCl hcal (Nat.le_refl 0) (Nat.le_refl 0) hcut0 fuel) 0 (ast0 C) h
  refine hrun μ _ [] w0 ⟨r1, rfl, r2, fun q hq => ?_, fun q hq => ?_, hPre.2.2, hpin2, hW, rfl, fun k j _ => rfl⟩
  · rcases List.mem_append.mp hq with hq | hq
    · obtain ⟨z, hz, rfl⟩ := List.mem_map.mp hq
      exact hPre.1 z.2 z.1 (zipIdx_mem hz)
    · obtain ⟨z, hz, rfl⟩ := List.mem_map.mp hq
      exact (hPre.2.1 z.2 z.1 (zipIdx_mem hz)).1
  · obtain ⟨z, hz, rfl⟩ := List.mem_map.mp hq
    exact (hPre.2.1 z.2 z.1 (zipIdx_mem hz)).2
set_option maxHeartbeats 1000000 in
theorem asegP {tab : DT} {cuts exs : List CUT} {pids : List Nat} {fuel : Nat} {σ : AS} (htab : dtOK cc tab = true) (X : ZC p s m args meth c cc nL own G A ret nm) (hR1 : C.2.2.2.2.2.1 = R.frames) (hR2 : C.2.2.2.2.2.2 = R.locals) (hhk : HOKP l G T own cc nL ret C.2.2.2.2.2.1 C.2.2.2.2.2.2 hk C.2.2.2.2.1 w0) (hrk : RK rk ret) (hc : kc ≤ mc) (hs : ks ≤ ms) (hp1 : ∀ j, j < C.1.length → (j, μ j) ∈ pin) (hp2 : ∀ j, j < C.2.1.length → (100 + j, μ (100 + j)) ∈ pin) (hPO : ∀ r w1, POST G ad T C μ w0 r w1 → PO r w1)
    (hF : ∀ q ∈ fld, FL own q.1 q.2.1 q.2.2 ∨ FN own q.1 q.2.1 q.2.2) (hP : ∀ q ∈ put, PA own q.1 q.2.1 q.2.2.1 q.2.2.2) (hC : ∀ q ∈ cst, ∃ x : Int32, x.toInt = q.2 ∧ Jvm.Cond.constant own q.1 x ∈ BIG) (hCl : ∀ q ∈ cstl, ∃ x : Int64, x.toInt = q.2 ∧ Jvm.Cond.constantLong own q.1 x ∈ BIG) (hcal : ∀ q ∈ cal, COK l G own T q) (hkc : kc ≤ R.cells) (hks : ks ≤ R.slots)
    (hpids : ∀ q ∈ pin, q.1 ∈ pids) (h : xcheckS hk tab nL T fld put cst cstl cal rk C cuts exs pids fuel pc σ = true)
    (hx : ∀ d ∈ exs, ∀ (ν : Nat → Value) (lw : List (Nat × Value)) (sw : List Value) (ws : va_W), AG G ad T C.2.2.2.2.1 w0 pin d.2.1 ν lw sw ws → Z p l e R s m args below meth c nL G A (MQ below (QQ G A PO) args s mc ms A) d.1 lw sw ws kc ks) : AR p l e R s m args below meth c nL G A mc ms kc ks ad T C PO w0 pin σ pc := by
  rw [xcheckS_eq] at h
  unfold acheckS at h
  obtain ⟨c1, h⟩ := and2 h
  obtain ⟨c2, h⟩ := and2 h
  obtain ⟨c5, h⟩ := and2 h
  obtain ⟨c6, h⟩ := and2 h
  have c1 := Nat.le_of_ble_eq_true c1
  have c2 := Nat.le_of_ble_eq_true c2
  have rp : ∀ d ∈ cuts ++ exs, rposB d = true := fun d hd => (List.mem_append.mp hd).elim (fun m1 => (and2 (List.all_eq_true.mp c5 d m1)).1) (fun m1 => List.all_eq_true.mp c6 d m1)
  have main : ∀ (N : Nat) (d : CUT), d ∈ cuts → ∀ (ν : Nat → Value) (lw : List (Nat × Value)) (sw : List Value) (ws : va_W), AG G ad T C.2.2.2.2.1 w0 pin d.2.1 ν lw sw ws → (d.2.2.1 - rsum d.2.2.2 ν).toNat < N → Z p l e R s m args below meth c nL G A (MQ below (QQ G A PO) args s mc ms A) d.1 lw sw ws kc ks := by
    intro N
    induction N with
    | zero => intro d _ ν lw sw ws _ h9; exact absurd h9 (Nat.not_lt_zero _)
    | succ N ih =>
      intro d hd ν lw sw ws hg hN
      have hdc := List.all_eq_true.mp c5 d hd
      obtain ⟨d1, d2⟩ := and2 hdc
      obtain ⟨d2, d3⟩ := and2 d2
      obtain ⟨pin', hpin'⟩ : ∃ pin' : List (Nat × Value), pin' = pin ++ d.2.2.2.map (fun q => (q.2, ν q.2)) := ⟨_, rfl⟩
      have hsub : ∀ q ∈ pin, q ∈ pin' := fun q hq => by rw [hpin']; exact List.mem_append_left _ hq
      have hg' : AG G ad T C.2.2.2.2.1 w0 pin' d.2.1 ν lw sw ws := by
        refine ⟨hg.1, hg.2.1, hg.2.2.1, hg.2.2.2.1, hg.2.2.2.2.1, hg.2.2.2.2.2.1, fun q hq => ?_, hg.2.2.2.2.2.2.2⟩
        rw [hpin'] at hq
        rcases List.mem_append.mp hq with hq | hq
        · exact hg.2.2.2.2.2.2.1 q hq
        · obtain ⟨z, hz, rfl⟩ := List.mem_map.mp hq
          exact ⟨blt_lt (List.all_eq_true.mp d2 z hz), rfl⟩
      refine aexec_okP (dt_ok htab) (pin := pin') X hR1 hR2 hhk hrk hc hs (fun j hj => hsub _ (hp1 j hj)) (fun j hj => hsub _ (hp2 j hj)) c1 c2 hPO hF hP hC hCl hcal hkc hks ?_ fuel d.1 d.2.1 d3 ν lw sw ws hg'
      intro d' pc' σ hd' ha ν2 lw2 sw2 ws2 hg2
      obtain ⟨m1, m2⟩ := hd'
      obtain ⟨ν3, lw3, q1, q2, q3, q4⟩ := aarr_ok (hg2.weak hsub) hpids ha (rp d' m1)
      have q4 := q4 _ rfl
      have e1 : rsum d.2.2.2 ν2 = rsum d.2.2.2 ν := rsum_pin _ (fun z hz => by
        have := (hg2.2.2.2.2.2.2.1 (z.2, ν z.2) (by rw [hpin']; exact List.mem_append_right _ (List.mem_map.mpr ⟨z, hz, rfl⟩))).2
        exact this)
      have q4 : d'.2.2.1 - rsum d'.2.2.2 ν3 < d.2.2.1 - rsum d.2.2.2 ν2 := q4
      rw [e1] at q4
      rw [← m2]
      rcases List.mem_append.mp m1 with m1 | m1
      · exact Z.mono q2 (ih d' m1 ν3 lw3 sw2 ws2 q1 (by omega))
      · exact Z.mono q2 (hx d' m1 ν3 lw3 sw2 ws2 q1)
  have hcut0 : ∀ d pc σ, d ∈ cuts ++ exs ∧ d.1 = pc → aarr pids none d σ = true → AR p l e R s m args below meth c nL G A mc ms kc ks ad T C PO w0 pin σ pc := by
    intro d' pc' σ hd' ha ν2 lw2 sw2 ws2 hg2
    obtain ⟨m1, m2⟩ := hd'
    obtain ⟨ν3, lw3, q1, q2, -, -⟩ := aarr_ok hg2 hpids ha (rp d' m1)
    rw [← m2]
    rcases List.mem_append.mp m1 with m1 | m1
    · exact Z.mono q2 (main _ d' m1 ν3 lw3 sw2 ws2 q1 (Nat.lt_succ_self _))
    · exact Z.mono q2 (hx d' m1 ν3 lw3 sw2 ws2 q1)
  exact aexec_okP (dt_ok htab) X hR1 hR2 hhk hrk hc hs hp1 hp2 c1 c2 hPO hF hP hC hCl hcal hkc hks hcut0 fuel pc σ h
end AZB
end
section
def TXP : List TE := [.inl (10, [(2, 1, 0), (2, 3, 0), (2, 5, 0), (2, 12, 0), (2, 18, 0), (2, 22, 0), (2, 32, 0), (2, 35, 0), (2, 45, 0), (2, 103, 0), (2, 104, 0), (2, 105, 0), (2, 106, 0), (2, 107, 0), (2, 108, 0), (2, 109, 0)]), .inl (8, [(2, 2, 0), (0, 0, 16)]), .inr (1, 16, (1, -9223372036854775808, 9223372036854775807)), .inl (4, [(2, 4, 0), (0, 0, 80), (0, 0, 60), (0, 0, 60), (0, -2147483648, 2147483647), (0, 0, 16), (0, 0, 6), (0, 0, 8)]), .inr (0, 80, (0, 0, 255)), .inl (5, [(0, 0, 16), (2, 6, 0), (2, 7, 0), (2, 8, 0), (2, 9, 0), (2, 10, 0), (2, 11, 0), (0, -1, 15), (0, -2147483648, 2147483647)]), .inr (0, 16, (0, 0, 1)), .inr (0, 16, (0, -2147483648, 2147483647)), .inr (0, 16, (0, -2147483648, 2147483647)), .inr (0, 16, (0, 0, 9)), .inr (0, 16, (0, 0, 9)), .inr (0, 16, (0, 0, 9)), .inl (7, [(0, 0, 6), (2, 13, 0), (2, 14, 0), (2, 15, 0), (2, 16, 0), (2, 17, 0)]), .inr (0, 6, (0, -2147483648, 2147483647)), .inr (0, 6, (0, -2147483648, 2147483647)), .inr (2, 6, (0, 0, 1)), .inr (0, 6, (0, -2147483648, 2147483647)), .inr (0, 6, (0, -2147483648, 2147483647)), .inl (0, [(0, 0, 8), (2, 19, 0), (2, 20, 0), (2, 21, 0), (0, -2147483648, 2147483647), (0, -2147483648, 2147483647), (1, -9223372036854775808, 9223372036854775807)]), .inr (0, 8, (0, -2147483648, 2147483647)), .inr (0, 8, (0, 0, 7)), .inr (0, 8, (0, 0, 7)), .inl (9, [(0, 0, 12), (2, 23, 0), (2, 24, 0), (2, 25, 0), (2, 26, 0), (2, 27, 0), (2, 28, 0), (2, 29, 0), (2, 30, 0), (2, 31, 0)]), .inr (0, 12, (0, 0, 5)), .inr (2, 12, (0, 0, 1)), .inr (0, 12, (0, -2147483648, 2147483647)), .inr (0, 12, (0, -2147483648, 2147483647)), .inr (0, 12, (0, -2147483648, 2147483647)), .inr (0, 48, (0, -2147483648, 2147483647)), .inr (0, 12, (0, -2147483648, 2147483647)), .inr (0, 12, (0, -2147483648, 2147483647)), .inr (0, 12, (0, -2147483648, 2147483647)), .inl (1, [(0, 0, 14641), (0, -2147483648, 2147483647), (0, -2147483648, 2147483647), (0, -2147483648, 2147483647), (0, -2147483648, 2147483647), (0, -2147483648, 2147483647), (0, -2147483648, 2147483647), (2, 33, 0), (2, 34, 0)]), .inr (0, 40, (0, -2147483648, 2147483647)), .inr (0, 40, (0, -2147483648, 2147483647)), .inl (6, [(0, 0, 16), (0, 0, 6), (0, 0, 1), (2, 36, 0), (2, 37, 0), (2, 38, 0), (2, 39, 0), (2, 40, 0), (2, 41, 0), (2, 42, 0), (2, 43, 0), (2, 44, 0), (0, -2147483648, 2147483647), (0, -2147483648, 2147483647), (1, -9223372036854775808, 9223372036854775807)]), .inr (0, 16, (0, -18, 18)), .inr (0, 16, (0, -18, 18)), .inr (1, 6, (1, -9223372036854775808, 9223372036854775807)), .inr (1, 6, (1, -9223372036854775808, 9223372036854775807)), .inr (1, 96, (1, -9223372036854775808, 9223372036854775807)), .inr (1, 96, (1, -9223372036854775808, 9223372036854775807)), .inr (1, 16, (1, -9223372036854775808, 9223372036854775807)), .inr (0, 16, (0, -2147483648, 2147483647)), .inr (0, 16, (0, -2147483648, 2147483647)), .inr (3, 3, (2, 46, 19)), .inl (2, [(0, 0, 1), (2, 47, 0), (2, 48, 0), (2, 49, 0), (2, 55, 0), (0, -1, 15), (0, -2147483648, 2147483647)]), .inr (0, 16, (0, 0, 9)), .inr (0, 8, (0, -2147483648, 2147483647)), .inl (7, [(0, 0, 6), (2, 50, 0), (2, 51, 0), (2, 52, 0), (2, 53, 0), (2, 54, 0)]), .inr (0, 6, (0, -2147483648, 2147483647)), .inr (0, 6, (0, -2147483648, 2147483647)), .inr (2, 6, (0, 0, 1)), .inr (0, 6, (0, -2147483648, 2147483647)), .inr (0, 6, (0, -2147483648, 2147483647)), .inl (9, [(0, 0, 12), (2, 56, 0), (2, 57, 0), (2, 58, 0), (2, 59, 0), (2, 60, 0), (2, 61, 0), (2, 62, 0), (2, 63, 0), (2, 64, 0)]), .inr (0, 12, (0, 0, 5)), .inr (2, 12, (0, 0, 1)), .inr (0, 12, (0, -2147483648, 2147483647)), .inr (0, 12, (0, -2147483648, 2147483647)), .inr (0, 12, (0, -2147483648, 2147483647)), .inr (0, 48, (0, -2147483648, 2147483647)), .inr (0, 12, (0, -2147483648, 2147483647)), .inr (0, 12, (0, -2147483648, 2147483647)), .inr (0, 12, (0, -2147483648, 2147483647)), .inl (2, [(0, 0, 1), (2, 66, 0), (2, 67, 0), (2, 68, 0), (2, 74, 0), (0, -1, 15), (0, -2147483648, 2147483647)]), .inr (0, 16, (0, 0, 9)), .inr (0, 8, (0, -2147483648, 2147483647)), .inl (7, [(0, 0, 6), (2, 69, 0), (2, 70, 0), (2, 71, 0), (2, 72, 0), (2, 73, 0)]), .inr (0, 6, (0, -2147483648, 2147483647)), .inr (0, 6, (0, -2147483648, 2147483647)), .inr (2, 6, (0, 0, 1)), .inr (0, 6, (0, -2147483648, 2147483647)), .inr (0, 6, (0, -2147483648, 2147483647)), .inl (9, [(0, 0, 12), (2, 75, 0), (2, 76, 0), (2, 77, 0), (2, 78, 0), (2, 79, 0), (2, 80, 0), (2, 81, 0), (2, 82, 0), (2, 83, 0)]), .inr (0, 12, (0, 0, 5)), .inr (2, 12, (0, 0, 1)), .inr (0, 12, (0, -2147483648, 2147483647)), .inr (0, 12, (0, -2147483648, 2147483647)), .inr (0, 12, (0, -2147483648, 2147483647)), .inr (0, 48, (0, -2147483648, 2147483647)), .inr (0, 12, (0, -2147483648, 2147483647)), .inr (0, 12, (0, -2147483648, 2147483647)), .inr (0, 12, (0, -2147483648, 2147483647)), .inl (2, [(0, 0, 1), (2, 85, 0), (2, 86, 0), (2, 87, 0), (2, 93, 0), (0, -1, 15), (0, -2147483648, 2147483647)]), .inr (0, 16, (0, 0, 9)), .inr (0, 8, (0, -2147483648, 2147483647)), .inl (7, [(0, 0, 6), (2, 88, 0), (2, 89, 0), (2, 90, 0), (2, 91, 0), (2, 92, 0)]), .inr (0, 6, (0, -2147483648, 2147483647)), .inr (0, 6, (0, -2147483648, 2147483647)), .inr (2, 6, (0, 0, 1)), .inr (0, 6, (0, -2147483648, 2147483647)), .inr (0, 6, (0, -2147483648, 2147483647)), .inl (9, [(0, 0, 12), (2, 94, 0), (2, 95, 0), (2, 96, 0), (2, 97, 0), (2, 98, 0), (2, 99, 0), (2, 100, 0), (2, 101, 0), (2, 102, 0)]), .inr (0, 12, (0, 0, 5)), .inr (2, 12, (0, 0, 1)), .inr (0, 12, (0, -2147483648, 2147483647)), .inr (0, 12, (0, -2147483648, 2147483647)), .inr (0, 12, (0, -2147483648, 2147483647)), .inr (0, 48, (0, -2147483648, 2147483647)), .inr (0, 12, (0, -2147483648, 2147483647)), .inr (0, 12, (0, -2147483648, 2147483647)), .inr (0, 12, (0, -2147483648, 2147483647)), .inr (0, 4, (0, -2147483648, 2147483647)), .inr (0, 8, (0, -2147483648, 2147483647)), .inr (0, 8, (0, -2147483648, 2147483647)), .inr (0, 3, (0, 1, 99)), .inr (0, 3, (0, 1, 99)), .inr (0, 16, (0, 0, 15)), .inl (3, [(0, 0, 14641), (0, 0, 15), (0, 0, 9), (2, 110, 0), (2, 111, 0), (2, 112, 0), (2, 113, 0), (2, 114, 0), (2, 115, 0)]), .inr (0, 6, (0, 0, 14641)), .inr (0, 14641, (0, 0, 15480)), .inr (1, 121, (1, -9223372036854775808, 9223372036854775807)), .inr (1, 121, (1, -9223372036854775808, 9223372036854775807)), .inr (1, 32768, (1, -9223372036854775808, 9223372036854775807)), .inr (0, 32768, (0, -2147483648, 2147483647))]
abbrev C_p_X10_besides_0 : CE := ([(2, 0, 0), (2, 105, 0), (0, 0, 5), (0, 0, 0)], [], [], [(some (0, -2147483648, 2147483647), [], [], [])], [], 0, 0)
theorem ac_p_X10_besides_0 (l : Launch) (G : KG) : ACt l G TXP yX10_besides cX10_besides 4 (some .int) C_p_X10_besides_0 := acert (tab := D_X10_besides) (fld := fld_10) (put := put_10) (cst := cst_10) (cstl := cstl_10) (cal := []) (rk := 1) (cuts := []) (fuel := 4000) (by decide) (Or.inr (Or.inl ⟨rfl, rfl⟩)) fld_10_ok put_10_ok cst_10_ok cstl_10_ok (fun _ h => absurd h List.not_mem_nil) D_X10_besides_ok (by decide +kernel)
abbrev C_p_X10_feltBarePull_0 : CE := ([(2, 0, 0), (0, 0, 5), (0, -2147483648, 2147483647), (0, -2147483648, 2147483647), (0, 0, 0)], [], [], [(some (0, -2147483648, 2147483647), [], [], [])], [], 1, 23)
theorem ac_p_X10_feltBarePull_0 (l : Launch) (G : KG) : ACt l G TXP yX10_feltBarePull cX10_feltBarePull 6 (some .int) C_p_X10_feltBarePull_0 := acert (tab := D_X10_feltBarePull) (fld := fld_10) (put := put_10) (cst := cst_10) (cstl := cstl_10) (cal := [(198, 0, 4, C_p_X10_besides_0)]) (rk := 1) (cuts := []) (fuel := 4000) (by decide) (Or.inr (Or.inl ⟨rfl, rfl⟩)) fld_10_ok put_10_ok cst_10_ok cstl_10_ok (List.forall_mem_cons.mpr ⟨cok_v k_10_198 (ac_p_X10_besides_0 l G) rfl rfl rfl rfl rfl rfl, fun _ h => absurd h List.not_mem_nil⟩) D_X10_feltBarePull_ok (by decide +kernel)
abbrev C_p_X10_besides_1 : CE := ([(2, 0, 0), (2, 105, 0), (0, 0, 5), (0, 1, 1)], [], [], [(some (0, -2147483648, 2147483647), [], [], [])], [], 0, 0)
theorem ac_p_X10_besides_1 (l : Launch) (G : KG) : ACt l G TXP yX10_besides cX10_besides 4 (some .int) C_p_X10_besides_1 := acert (tab := D_X10_besides) (fld := fld_10) (put := put_10) (cst := cst_10) (cstl := cstl_10) (cal := []) (rk := 1) (cuts := []) (fuel := 4000) (by decide) (Or.inr (Or.inl ⟨rfl, rfl⟩)) fld_10_ok put_10_ok cst_10_ok cstl_10_ok (fun _ h => absurd h List.not_mem_nil) D_X10_besides_ok (by decide +kernel)
abbrev C_p_X10_feltBarePull_1 : CE := ([(2, 0, 0), (0, 0, 5), (0, -2147483648, 2147483647), (0, -2147483648, 2147483647), (0, 1, 1)], [], [], [(some (0, -2147483648, 2147483647), [], [], [])], [], 1, 23)
theorem ac_p_X10_feltBarePull_1 (l : Launch) (G : KG) : ACt l G TXP yX10_feltBarePull cX10_feltBarePull 6 (some .int) C_p_X10_feltBarePull_1 := acert (tab := D_X10_feltBarePull) (fld := fld_10) (put := put_10) (cst := cst_10) (cstl := cstl_10) (cal := [(198, 0, 4, C_p_X10_besides_1)]) (rk := 1) (cuts := []) (fuel := 4000) (by decide) (Or.inr (Or.inl ⟨rfl, rfl⟩)) fld_10_ok put_10_ok cst_10_ok cstl_10_ok (List.forall_mem_cons.mpr ⟨cok_v k_10_198 (ac_p_X10_besides_1 l G) rfl rfl rfl rfl rfl rfl, fun _ h => absurd h List.not_mem_nil⟩) D_X10_feltBarePull_ok (by decide +kernel)
abbrev C_p_X10_prepareTrials_0 : CE := ([(2, 0, 0)], [], [], [(none, [], [], [])], [(29, 999), (30, 999), (31, 999)], 2, 48)
theorem ac_p_X10_prepareTrials_0 (l : Launch) (G : KG) : ACt l G TXP yX10_prepareTrials cX10_prepareTrials 3 none C_p_X10_prepareTrials_0 := acert (tab := D_X10_prepareTrials) (fld := fld_10) (put := put_10) (cst := cst_10) (cstl := cstl_10) (cal := [(306, 0, 6, C_p_X10_feltBarePull_0), (306, 0, 6, C_p_X10_feltBarePull_1)]) (rk := 0) (cuts := [(2, ([(0, 0, false), (1, 500, false)], [], [(0, (2, 0, 0)), (500, (0, 0, 12))], [], [], 1000), 13, [(1, 500)])]) (fuel := 4000) (by decide) (Or.inl ⟨rfl, rfl⟩) fld_10_ok put_10_ok cst_10_ok cstl_10_ok (List.forall_mem_cons.mpr ⟨cok_v k_10_306 (ac_p_X10_feltBarePull_0 l G) rfl rfl rfl rfl rfl rfl, List.forall_mem_cons.mpr ⟨cok_v k_10_306 (ac_p_X10_feltBarePull_1 l G) rfl rfl rfl rfl rfl rfl, fun _ h => absurd h List.not_mem_nil⟩⟩) D_X10_prepareTrials_ok (by decide +kernel)
abbrev C_p_X10_isWithin_0 : CE := ([(0, -2147483648, 2147483647), (0, -2147483648, 2147483647)], [], [], [(some (0, 0, 0), [], [], []), (some (0, 1, 1), [], [], [(0, 1, 0)])], [], 0, 0)
theorem ac_p_X10_isWithin_0 (l : Launch) (G : KG) : ACt l G TXP yX10_isWithin cX10_isWithin 2 (some .boolean) C_p_X10_isWithin_0 := acert (tab := D_X10_isWithin) (fld := fld_10) (put := put_10) (cst := cst_10) (cstl := cstl_10) (cal := []) (rk := 3) (cuts := []) (fuel := 4000) (by decide) (Or.inr (Or.inr (Or.inr ⟨rfl, rfl⟩))) fld_10_ok put_10_ok cst_10_ok cstl_10_ok (fun _ h => absurd h List.not_mem_nil) D_X10_isWithin_ok (by decide +kernel)
abbrev C_p_X10_sizeOf_0 : CE := ([(1, -9223372036854775808, 9223372036854775807), (1, -9223372036854775808, 9223372036854775807)], [], [], [(some (1, -9223372036854775808, 9223372036854775807), [], [], [])], [], 0, 0)
theorem ac_p_X10_sizeOf_0 (l : Launch) (G : KG) : ACt l G TXP yX10_sizeOf cX10_sizeOf 4 (some .long) C_p_X10_sizeOf_0 := acert (tab := D_X10_sizeOf) (fld := fld_10) (put := put_10) (cst := cst_10) (cstl := cstl_10) (cal := []) (rk := 2) (cuts := []) (fuel := 4000) (by decide) (Or.inr (Or.inr (Or.inl ⟨rfl, rfl⟩))) fld_10_ok put_10_ok cst_10_ok cstl_10_ok (fun _ h => absurd h List.not_mem_nil) D_X10_sizeOf_ok (by decide +kernel)
abbrev C_p_X9_agrees_0 : CE := ([(2, 22, 0), (0, 0, 11), (0, -2147483648, 2147483647), (0, -2147483648, 2147483647)], [], [], [(some (0, 0, 0), [], [], []), (some (0, 1, 1), [], [], [])], [], 1, 23)
theorem ac_p_X9_agrees_0 (l : Launch) (G : KG) : ACt l G TXP yX9_agrees cX9_agrees 8 (some .boolean) C_p_X9_agrees_0 := acert (tab := D_X9_agrees) (fld := fld_9) (put := put_9) (cst := cst_9) (cstl := cstl_9) (cal := [(54, 1, 2, C_p_X10_isWithin_0), (58, 1, 4, C_p_X10_sizeOf_0)]) (rk := 3) (cuts := []) (fuel := 4000) (by decide) (Or.inr (Or.inr (Or.inr ⟨rfl, rfl⟩))) fld_9_ok put_9_ok cst_9_ok cstl_9_ok (List.forall_mem_cons.mpr ⟨cok_sn k_9_54 (ac_p_X10_isWithin_0 l G) rfl, List.forall_mem_cons.mpr ⟨cok_sn k_9_58 (ac_p_X10_sizeOf_0 l G) rfl, fun _ h => absurd h List.not_mem_nil⟩⟩) D_X9_agrees_ok (by decide +kernel)
abbrev C_p_X9_firstAgainst_0 : CE := ([(2, 22, 0), (0, -2147483648, 2147483647), (0, -2147483648, 2147483647)], [], [], [(some (0, -2, 11), [], [(22, 0, (0, 0, 12))], [(50, 200, -1)])], [], 2, 50)
theorem ac_p_X9_firstAgainst_0 (l : Launch) (G : KG) : ACt l G TXP yX9_firstAgainst cX9_firstAgainst 4 (some .int) C_p_X9_firstAgainst_0 := acert (tab := D_X9_firstAgainst) (fld := fld_9) (put := put_9) (cst := cst_9) (cstl := cstl_9) (cal := [(62, 0, 8, C_p_X9_agrees_0)]) (rk := 1) (cuts := [(2, ([(0, 0, false), (1, 1, false), (2, 2, false), (3, 500, false)], [], [(0, (2, 22, 0)), (1, (0, -2147483648, 2147483647)), (2, (0, -2147483648, 2147483647)), (500, (0, 0, 12))], [], [], 1000), 13, [(1, 500)])]) (fuel := 4000) (by decide) (Or.inr (Or.inl ⟨rfl, rfl⟩)) fld_9_ok put_9_ok cst_9_ok cstl_9_ok (List.forall_mem_cons.mpr ⟨cok_v k_9_62 (ac_p_X9_agrees_0 l G) rfl rfl rfl rfl rfl rfl, fun _ h => absurd h List.not_mem_nil⟩) D_X9_firstAgainst_ok (by decide +kernel)
def D_X3_tallied : DT := [(0, .lload_n 1, 1), (1, .ldc2_w 55, 3), (4, .lmul, 1), (5, .bipush 40, 2), (7, .lushr, 1), (8, .l2i, 1), (9, .iload_n 3, 1), (10, .iconst 1, 1), (11, .isub, 1), (12, .iand, 1), (13, .istore 4, 2), (15, .iconst 0, 1), (16, .istore 5, 2), (18, .iload 5, 2), (20, .iload_n 3, 1), (21, .if_icmp .ge 41, 3), (24, .aload_n 0, 1), (25, .getfield 29, 3), (28, .iload 4, 2), (30, .iaload, 1), (31, .ifCond .le 31, 3), (34, .aload_n 0, 1), (35, .getfield 26, 3), (38, .iload 4, 2), (40, .laload, 1), (41, .lload_n 1, 1), (42, .lcmp, 1), (43, .ifCond .eq 19, 3), (46, .iload 4, 2), (48, .iconst 1, 1), (49, .iadd, 1), (50, .iload_n 3, 1), (51, .iconst 1, 1), (52, .isub, 1), (53, .iand, 1), (54, .istore 4, 2), (56, .iinc 5 1, 3), (59, .goto (-41), 3), (62, .aload_n 0, 1), (63, .getfield 26, 3), (66, .iload 4, 2), (68, .lload_n 1, 1), (69, .lastore, 1), (70, .aload_n 0, 1), (71, .getfield 29, 3), (74, .iload 4, 2), (76, .dup2, 1), (77, .iaload, 1), (78, .iconst 1, 1), (79, .iadd, 1), (80, .iastore, 1), (81, .aload_n 0, 1), (82, .getfield 29, 3), (85, .iload 4, 2), (87, .iaload, 1), (88, .ireturn, 1)]
theorem D_X3_tallied_ok : dtOK cX3_tallied D_X3_tallied = true := by decide +kernel
abbrev C_p_X3_tallied_0 : CE := ([(2, 109, 0), (1, -9223372036854775808, 9223372036854775807), (0, 2, 32768)], [], [], [(some (0, -2147483648, 2147483647), [], [], [])], [(114, 999), (115, 999)], 0, 0)
theorem ac_p_X3_tallied_0 (l : Launch) (G : KG) : ACt l G TXP yX3_tallied cX3_tallied 6 (some .int) C_p_X3_tallied_0 := acert (tab := D_X3_tallied) (fld := fld_3) (put := put_3) (cst := cst_3) (cstl := cstl_3) (cal := []) (rk := 1) (cuts := [(18, ([(0, 0, false), (1, 1, true), (3, 2, false), (4, 500, false), (5, 501, false)], [], [(0, (2, 109, 0)), (1, (1, -9223372036854775808, 9223372036854775807)), (2, (0, 2, 32768)), (500, (0, 0, 32767)), (501, (0, 0, 32768))], [], [(501, 2, 0)], 1000), 32769, [(1, 501)])]) (fuel := 4000) (by decide) (Or.inr (Or.inl ⟨rfl, rfl⟩)) fld_3_ok put_3_ok cst_3_ok cstl_3_ok (fun _ h => absurd h List.not_mem_nil) D_X3_tallied_ok (by decide +kernel)
abbrev C_p_X5_leadOfHoles_0 : CE := ([(2, 5, 0), (0, -2147483648, 2147483647), (0, 0, 0)], [], [], [(some (0, -2147483648, 2147483647), [], [], [])], [], 0, 0)
theorem ac_p_X5_leadOfHoles_0 (l : Launch) (G : KG) : ACt l G TXP yX5_leadOfHoles cX5_leadOfHoles 6 (some .int) C_p_X5_leadOfHoles_0 := acert (tab := D_X5_leadOfHoles) (fld := fld_5) (put := put_5) (cst := cst_5) (cstl := cstl_5) (cal := []) (rk := 1) (cuts := [(22, ([(0, 0, false), (1, 1, false), (3, 500, false), (4, 501, false), (5, 502, false)], [], [(0, (2, 5, 0)), (1, (0, -2147483648, 2147483647)), (2, (0, 0, 0)), (500, (2, 7, 0)), (501, (0, -2147483648, 2147483647)), (502, (0, 0, 16))], [(5, 2, 500)], [], 1000), 17, [(1, 502)])]) (fuel := 4000) (by decide) (Or.inr (Or.inl ⟨rfl, rfl⟩)) fld_5_ok put_5_ok cst_5_ok cstl_5_ok (fun _ h => absurd h List.not_mem_nil) D_X5_leadOfHoles_ok (by decide +kernel)
abbrev C_p_X5_leadOfHoles_1 : CE := ([(2, 5, 0), (0, -2147483648, 2147483647), (0, 1, 1)], [], [], [(some (0, -2147483648, 2147483647), [], [], [])], [], 0, 0)
theorem ac_p_X5_leadOfHoles_1 (l : Launch) (G : KG) : ACt l G TXP yX5_leadOfHoles cX5_leadOfHoles 6 (some .int) C_p_X5_leadOfHoles_1 := acert (tab := D_X5_leadOfHoles) (fld := fld_5) (put := put_5) (cst := cst_5) (cstl := cstl_5) (cal := []) (rk := 1) (cuts := [(22, ([(0, 0, false), (1, 1, false), (3, 500, false), (4, 501, false), (5, 502, false)], [], [(0, (2, 5, 0)), (1, (0, -2147483648, 2147483647)), (2, (0, 1, 1)), (500, (2, 8, 0)), (501, (0, -2147483648, 2147483647)), (502, (0, 0, 16))], [(5, 3, 500)], [], 1000), 17, [(1, 502)])]) (fuel := 4000) (by decide) (Or.inr (Or.inl ⟨rfl, rfl⟩)) fld_5_ok put_5_ok cst_5_ok cstl_5_ok (fun _ h => absurd h List.not_mem_nil) D_X5_leadOfHoles_ok (by decide +kernel)
def D_X3_setSizes : DT := [(0, .iconst 0, 1), (1, .istore 4, 2), (3, .iload 4, 2), (5, .bipush 121, 2), (7, .if_icmp .ge 57, 3), (10, .iload_n 1, 1), (11, .iload 4, 2), (13, .bipush 60, 2), (15, .isub, 1), (16, .imul, 1), (17, .iload_n 2, 1), (18, .iadd, 1), (19, .i2l, 1), (20, .lstore 5, 2), (22, .iload_n 1, 1), (23, .iload 4, 2), (25, .bipush 60, 2), (27, .isub, 1), (28, .imul, 1), (29, .iload_n 3, 1), (30, .iadd, 1), (31, .i2l, 1), (32, .lstore 7, 2), (34, .aload_n 0, 1), (35, .getfield 18, 3), (38, .iload 4, 2), (40, .lload 5, 2), (42, .lload 5, 2), (44, .lmul, 1), (45, .lastore, 1), (46, .aload_n 0, 1), (47, .getfield 22, 3), (50, .iload 4, 2), (52, .lload 7, 2), (54, .lload 7, 2), (56, .lmul, 1), (57, .lastore, 1), (58, .iinc 4 1, 3), (61, .goto (-58), 3), (64, .return_, 1)]
theorem D_X3_setSizes_ok : dtOK cX3_setSizes D_X3_setSizes = true := by decide +kernel
abbrev C_p_X3_setSizes_0 : CE := ([(2, 109, 0), (0, -2147483648, 2147483647), (0, -2147483648, 2147483647), (0, -2147483648, 2147483647)], [], [], [(none, [], [], [])], [(112, 999), (113, 999)], 0, 0)
theorem ac_p_X3_setSizes_0 (l : Launch) (G : KG) : ACt l G TXP yX3_setSizes cX3_setSizes 9 none C_p_X3_setSizes_0 := acert (tab := D_X3_setSizes) (fld := fld_3) (put := put_3) (cst := cst_3) (cstl := cstl_3) (cal := []) (rk := 0) (cuts := [(3, ([(0, 0, false), (1, 1, false), (2, 2, false), (3, 3, false), (4, 500, false)], [], [(0, (2, 109, 0)), (1, (0, -2147483648, 2147483647)), (2, (0, -2147483648, 2147483647)), (3, (0, -2147483648, 2147483647)), (500, (0, 0, 121))], [], [], 1000), 122, [(1, 500)])]) (fuel := 4000) (by decide) (Or.inl ⟨rfl, rfl⟩) fld_3_ok put_3_ok cst_3_ok cstl_3_ok (fun _ h => absurd h List.not_mem_nil) D_X3_setSizes_ok (by decide +kernel)
def D_X10_feelWithHung : DT := [(0, .aload_n 0, 1), (1, .iload_n 2, 1), (2, .aload_n 0, 1), (3, .getfield 26, 3), (6, .iconst 0, 1), (7, .iconst 0, 1), (8, .invokevirtual 303, 3), (11, .iload 4, 2), (13, .aload_n 0, 1), (14, .getfield 26, 3), (17, .getfield 119, 3), (20, .iload_n 3, 1), (21, .iaload, 1), (22, .imul, 1), (23, .iadd, 1), (24, .aload_n 0, 1), (25, .getfield 26, 3), (28, .iconst 1, 1), (29, .iconst 0, 1), (30, .invokevirtual 303, 3), (33, .iconst 0, 1), (34, .invokevirtual 306, 3), (37, .istore 5, 2), (39, .aload_n 0, 1), (40, .iload_n 2, 1), (41, .aload_n 0, 1), (42, .getfield 26, 3), (45, .iconst 0, 1), (46, .iconst 1, 1), (47, .invokevirtual 303, 3), (50, .iload 4, 2), (52, .aload_n 0, 1), (53, .getfield 26, 3), (56, .getfield 122, 3), (59, .iload_n 3, 1), (60, .iaload, 1), (61, .imul, 1), (62, .iadd, 1), (63, .aload_n 0, 1), (64, .getfield 26, 3), (67, .iconst 1, 1), (68, .iconst 1, 1), (69, .invokevirtual 303, 3), (72, .iconst 1, 1), (73, .invokevirtual 306, 3), (76, .istore 6, 2), (78, .aload_n 1, 1), (79, .aload_n 0, 1), (80, .getfield 33, 3), (83, .getfield 195, 3), (86, .iload_n 2, 1), (87, .iaload, 1), (88, .aload_n 0, 1), (89, .getfield 71, 3), (92, .iconst 0, 1), (93, .iaload, 1), (94, .imul, 1), (95, .iload 5, 2), (97, .iload 6, 2), (99, .invokevirtual 310, 3), (102, .return_, 1)]
theorem D_X10_feelWithHung_ok : dtOK cX10_feelWithHung D_X10_feelWithHung = true := by decide +kernel
abbrev C_p_X10_feelWithHung_0 : CE := ([(2, 0, 0), (2, 109, 0), (0, 0, 5), (0, 0, 15), (0, 0, 9)], [], [], [(none, [], [], [])], [(112, 999), (113, 999)], 2, 48)
theorem ac_p_X10_feelWithHung_0 (l : Launch) (G : KG) : ACt l G TXP yX10_feelWithHung cX10_feelWithHung 7 none C_p_X10_feelWithHung_0 := acert (tab := D_X10_feelWithHung) (fld := fld_10) (put := put_10) (cst := cst_10) (cstl := cstl_10) (cal := [(303, 0, 6, C_p_X5_leadOfHoles_0), (306, 0, 6, C_p_X10_feltBarePull_0), (303, 0, 6, C_p_X5_leadOfHoles_1), (306, 0, 6, C_p_X10_feltBarePull_1), (310, 0, 9, C_p_X3_setSizes_0)]) (rk := 0) (cuts := []) (fuel := 4000) (by decide) (Or.inl ⟨rfl, rfl⟩) fld_10_ok put_10_ok cst_10_ok cstl_10_ok (List.forall_mem_cons.mpr ⟨cok_v k_10_303 (ac_p_X5_leadOfHoles_0 l G) rfl rfl rfl rfl rfl rfl, List.forall_mem_cons.mpr ⟨cok_v k_10_306 (ac_p_X10_feltBarePull_0 l G) rfl rfl rfl rfl rfl rfl, List.forall_mem_cons.mpr ⟨cok_v k_10_303 (ac_p_X5_leadOfHoles_1 l G) rfl rfl rfl rfl rfl rfl, List.forall_mem_cons.mpr ⟨cok_v k_10_306 (ac_p_X10_feltBarePull_1 l G) rfl rfl rfl rfl rfl rfl, List.forall_mem_cons.mpr ⟨cok_v k_10_310 (ac_p_X3_setSizes_0 l G) rfl rfl rfl rfl rfl rfl, fun _ h => absurd h List.not_mem_nil⟩⟩⟩⟩⟩) D_X10_feelWithHung_ok (by decide +kernel)
abbrev C_p_X8_start_0 : CE := ([(2, 1, 0)], [], [], [(none, [], [(1, 1, (0, 0, 0))], [])], [(1, 1)], 0, 0)
theorem ac_p_X8_start_0 (l : Launch) (G : KG) : ACt l G TXP yX8_start cX8_start 1 none C_p_X8_start_0 := acert (tab := D_X8_start) (fld := fld_8) (put := put_8) (cst := cst_8) (cstl := cstl_8) (cal := []) (rk := 0) (cuts := []) (fuel := 4000) (by decide) (Or.inl ⟨rfl, rfl⟩) fld_8_ok put_8_ok cst_8_ok cstl_8_ok (fun _ h => absurd h List.not_mem_nil) D_X8_start_ok (by decide +kernel)
abbrev C_p_X8_add_0 : CE := ([(2, 1, 0), (1, -9223372036854775808, 9223372036854775807)], [], [], [(none, [], [(1, 1, (0, 1, 16))], [])], [(1, 1), (2, 999)], 0, 0)
theorem ac_p_X8_add_0 (l : Launch) (G : KG) : ACt l G TXP yX8_add cX8_add 3 none C_p_X8_add_0 := acert (tab := D_X8_add) (fld := fld_8) (put := put_8) (cst := cst_8) (cstl := cstl_8) (cal := []) (rk := 0) (cuts := []) (fuel := 4000) (by decide) (Or.inl ⟨rfl, rfl⟩) fld_8_ok put_8_ok cst_8_ok cstl_8_ok (fun _ h => absurd h List.not_mem_nil) D_X8_add_ok (by decide +kernel)
end
section
/-! the pulls: their codes are good ones -/
def gcode (x : Int32) : Prop := 0 ≤ x.toInt ∧ x.toInt ≤ 15480 ∧ x.toInt % 128 ≤ 120
def GC (G : KG) (ws : va_W) : Prop := ∃ (a : Nat) (f : Nat → Int32), ws[111]? = some (a, aI G 14641 f) ∧ ∀ k, k < 14641 → gcode (f k)
theorem GC.frm {G : KG} {mk : List (Nat × Nat)} {w0 ws : va_W} (h : GC G w0) (hF : FRM mk w0 ws) (hm : mkq mk 111 0 = false) : GC G ws := by
  obtain ⟨a, f, h1, h2⟩ := h
  obtain ⟨b, hb⟩ := hF.arr (k := 111) hm h1
  exact ⟨b, f, hb, h2⟩
theorem and127 {x : Int32} (h : 0 ≤ x.toInt) : (x &&& 127).toInt = x.toInt % 128 := by
  obtain ⟨a1, a2⟩ := i32_nn h
  have e1 : (x &&& 127).toBitVec.toNat = x.toBitVec.toNat % 128 := by
    show (x.toBitVec &&& (127 : Int32).toBitVec).toNat = _
    rw [BitVec.toNat_and]
    exact Nat.and_two_pow_sub_one_eq_mod _ 7
  rw [i32_of e1 (by omega)]
  omega
theorem mkcode {i j : Int32} (i0 : 0 ≤ i.toInt) (i1 : i.toInt ≤ 120) (j0 : 0 ≤ j.toInt) (j1 : j.toInt ≤ 120) : gcode ((i <<< ((7 : Int32) &&& 31)) ||| j) := by
  have e7 : (7 : Int32).toInt = 7 := rfl
  have hs : (i <<< ((7 : Int32) &&& 31)).toInt = i.toInt * 128 := shl_eq i0 (by decide) (by decide) (by rw [e7]; show i.toInt * 128 < _; omega)
  obtain ⟨a1, a2⟩ := i32_nn (x := i <<< ((7 : Int32) &&& 31)) (by omega)
  obtain ⟨b1, b2⟩ := i32_nn j0
  have e1 : ((i <<< ((7 : Int32) &&& 31)) ||| j).toBitVec.toNat = (i <<< ((7 : Int32) &&& 31)).toBitVec.toNat ||| j.toBitVec.toNat := by
    show ((i <<< ((7 : Int32) &&& 31)).toBitVec ||| j.toBitVec).toNat = _
    rw [BitVec.toNat_or]
  have e2 : (i <<< ((7 : Int32) &&& 31)).toBitVec.toNat = 2 ^ 7 * i.toInt.toNat := by omega
  rw [e2, ← Nat.two_pow_add_eq_or_of_lt (by omega : j.toBitVec.toNat < 2 ^ 7)] at e1
  have e3 := i32_of e1 (by omega)
  have e4 : ((2 ^ 7 * i.toInt.toNat + j.toBitVec.toNat : Nat) : Int) = i.toInt * 128 + j.toInt := by omega
  rw [e4] at e3
  exact ⟨by omega, by omega, by omega⟩
abbrev rm_sm : Room := { frames := 0, cells := 0, slots := 0, locals := 0 }
theorem d_sm_0 : decode cX3_sizeMade 0 = .ok (.aload_n 0, 1) := by decide +kernel
theorem d_sm_1 : decode cX3_sizeMade 1 = .ok (.getfield 18, 3) := by decide +kernel
theorem d_sm_4 : decode cX3_sizeMade 4 = .ok (.iload_n 1, 1) := by decide +kernel
theorem d_sm_5 : decode cX3_sizeMade 5 = .ok (.bipush 7, 2) := by decide +kernel
theorem d_sm_7 : decode cX3_sizeMade 7 = .ok (.ishr, 1) := by decide +kernel
theorem d_sm_8 : decode cX3_sizeMade 8 = .ok (.laload, 1) := by decide +kernel
theorem d_sm_9 : decode cX3_sizeMade 9 = .ok (.aload_n 0, 1) := by decide +kernel
theorem d_sm_10 : decode cX3_sizeMade 10 = .ok (.getfield 22, 3) := by decide +kernel
theorem d_sm_13 : decode cX3_sizeMade 13 = .ok (.iload_n 1, 1) := by decide +kernel
theorem d_sm_14 : decode cX3_sizeMade 14 = .ok (.bipush 127, 2) := by decide +kernel
theorem d_sm_16 : decode cX3_sizeMade 16 = .ok (.iand, 1) := by decide +kernel
theorem d_sm_17 : decode cX3_sizeMade 17 = .ok (.laload, 1) := by decide +kernel
theorem d_sm_18 : decode cX3_sizeMade 18 = .ok (.ladd, 1) := by decide +kernel
theorem d_sm_19 : decode cX3_sizeMade 19 = .ok (.lreturn, 1) := by decide +kernel
theorem d_ma_0 : decode cX3_mostAlike 0 = .ok (.iconst 2, 1) := by decide +kernel
theorem d_ma_1 : decode cX3_mostAlike 1 = .ok (.istore_n 2, 1) := by decide +kernel
theorem d_ma_2 : decode cX3_mostAlike 2 = .ok (.iload_n 2, 1) := by decide +kernel
theorem d_ma_3 : decode cX3_mostAlike 3 = .ok (.ldc 25, 2) := by decide +kernel
theorem d_ma_5 : decode cX3_mostAlike 5 = .ok (.if_icmp .ge 20, 3) := by decide +kernel
theorem d_ma_8 : decode cX3_mostAlike 8 = .ok (.iload_n 2, 1) := by decide +kernel
theorem d_ma_9 : decode cX3_mostAlike 9 = .ok (.iconst 2, 1) := by decide +kernel
theorem d_ma_10 : decode cX3_mostAlike 10 = .ok (.aload_n 0, 1) := by decide +kernel
theorem d_ma_11 : decode cX3_mostAlike 11 = .ok (.getfield 32, 3) := by decide +kernel
theorem d_ma_14 : decode cX3_mostAlike 14 = .ok (.imul, 1) := by decide +kernel
theorem d_ma_15 : decode cX3_mostAlike 15 = .ok (.if_icmp .ge 10, 3) := by decide +kernel
theorem d_ma_18 : decode cX3_mostAlike 18 = .ok (.iload_n 2, 1) := by decide +kernel
theorem d_ma_19 : decode cX3_mostAlike 19 = .ok (.iconst 2, 1) := by decide +kernel
theorem d_ma_20 : decode cX3_mostAlike 20 = .ok (.imul, 1) := by decide +kernel
theorem d_ma_21 : decode cX3_mostAlike 21 = .ok (.istore_n 2, 1) := by decide +kernel
theorem d_ma_22 : decode cX3_mostAlike 22 = .ok (.goto (-20), 3) := by decide +kernel
theorem d_ma_25 : decode cX3_mostAlike 25 = .ok (.iconst 0, 1) := by decide +kernel
theorem d_ma_26 : decode cX3_mostAlike 26 = .ok (.istore_n 3, 1) := by decide +kernel
theorem d_ma_27 : decode cX3_mostAlike 27 = .ok (.iload_n 3, 1) := by decide +kernel
theorem d_ma_28 : decode cX3_mostAlike 28 = .ok (.iload_n 2, 1) := by decide +kernel
theorem d_ma_29 : decode cX3_mostAlike 29 = .ok (.if_icmp .ge 16, 3) := by decide +kernel
theorem d_ma_32 : decode cX3_mostAlike 32 = .ok (.aload_n 0, 1) := by decide +kernel
theorem d_ma_33 : decode cX3_mostAlike 33 = .ok (.getfield 29, 3) := by decide +kernel
theorem d_ma_36 : decode cX3_mostAlike 36 = .ok (.iload_n 3, 1) := by decide +kernel
theorem d_ma_37 : decode cX3_mostAlike 37 = .ok (.iconst 0, 1) := by decide +kernel
theorem d_ma_38 : decode cX3_mostAlike 38 = .ok (.iastore, 1) := by decide +kernel
theorem d_ma_39 : decode cX3_mostAlike 39 = .ok (.iinc 3 1, 3) := by decide +kernel
theorem d_ma_42 : decode cX3_mostAlike 42 = .ok (.goto (-15), 3) := by decide +kernel
theorem d_ma_45 : decode cX3_mostAlike 45 = .ok (.iconst 0, 1) := by decide +kernel
theorem d_ma_46 : decode cX3_mostAlike 46 = .ok (.istore_n 3, 1) := by decide +kernel
theorem d_ma_47 : decode cX3_mostAlike 47 = .ok (.iconst 0, 1) := by decide +kernel
theorem d_ma_48 : decode cX3_mostAlike 48 = .ok (.istore 4, 2) := by decide +kernel
theorem d_ma_50 : decode cX3_mostAlike 50 = .ok (.iload 4, 2) := by decide +kernel
theorem d_ma_52 : decode cX3_mostAlike 52 = .ok (.aload_n 0, 1) := by decide +kernel
theorem d_ma_53 : decode cX3_mostAlike 53 = .ok (.getfield 32, 3) := by decide +kernel
theorem d_ma_56 : decode cX3_mostAlike 56 = .ok (.if_icmp .ge 35, 3) := by decide +kernel
theorem d_ma_59 : decode cX3_mostAlike 59 = .ok (.iload_n 3, 1) := by decide +kernel
theorem d_ma_60 : decode cX3_mostAlike 60 = .ok (.iload_n 1, 1) := by decide +kernel
theorem d_ma_61 : decode cX3_mostAlike 61 = .ok (.if_icmp .ge 30, 3) := by decide +kernel
theorem d_ma_64 : decode cX3_mostAlike 64 = .ok (.iload_n 3, 1) := by decide +kernel
theorem d_ma_65 : decode cX3_mostAlike 65 = .ok (.aload_n 0, 1) := by decide +kernel
theorem d_ma_66 : decode cX3_mostAlike 66 = .ok (.aload_n 0, 1) := by decide +kernel
theorem d_ma_67 : decode cX3_mostAlike 67 = .ok (.aload_n 0, 1) := by decide +kernel
theorem d_ma_68 : decode cX3_mostAlike 68 = .ok (.getfield 15, 3) := by decide +kernel
theorem d_ma_71 : decode cX3_mostAlike 71 = .ok (.iload 4, 2) := by decide +kernel
theorem d_ma_73 : decode cX3_mostAlike 73 = .ok (.iaload, 1) := by decide +kernel
theorem d_ma_74 : decode cX3_mostAlike 74 = .ok (.invokevirtual 42, 3) := by decide +kernel
theorem d_ma_77 : decode cX3_mostAlike 77 = .ok (.iload_n 2, 1) := by decide +kernel
theorem d_ma_78 : decode cX3_mostAlike 78 = .ok (.invokevirtual 46, 3) := by decide +kernel
theorem d_ma_81 : decode cX3_mostAlike 81 = .ok (.invokestatic 50, 3) := by decide +kernel
theorem d_ma_84 : decode cX3_mostAlike 84 = .ok (.istore_n 3, 1) := by decide +kernel
theorem d_ma_85 : decode cX3_mostAlike 85 = .ok (.iinc 4 1, 3) := by decide +kernel
theorem d_ma_88 : decode cX3_mostAlike 88 = .ok (.goto (-38), 3) := by decide +kernel
theorem d_ma_91 : decode cX3_mostAlike 91 = .ok (.iload_n 3, 1) := by decide +kernel
theorem d_ma_92 : decode cX3_mostAlike 92 = .ok (.ireturn, 1) := by decide +kernel
theorem d_ga_0 : decode cX3_gather 0 = .ok (.aload_n 0, 1) := by decide +kernel
theorem d_ga_1 : decode cX3_gather 1 = .ok (.iconst 0, 1) := by decide +kernel
theorem d_ga_2 : decode cX3_gather 2 = .ok (.putfield 32, 3) := by decide +kernel
theorem d_ga_5 : decode cX3_gather 5 = .ok (.iconst 0, 1) := by decide +kernel
theorem d_ga_6 : decode cX3_gather 6 = .ok (.istore_n 2, 1) := by decide +kernel
theorem d_ga_7 : decode cX3_gather 7 = .ok (.iload_n 2, 1) := by decide +kernel
theorem d_ga_8 : decode cX3_gather 8 = .ok (.bipush 121, 2) := by decide +kernel
theorem d_ga_10 : decode cX3_gather 10 = .ok (.if_icmp .ge 65, 3) := by decide +kernel
theorem d_ga_13 : decode cX3_gather 13 = .ok (.iconst 0, 1) := by decide +kernel
theorem d_ga_14 : decode cX3_gather 14 = .ok (.istore_n 3, 1) := by decide +kernel
theorem d_ga_15 : decode cX3_gather 15 = .ok (.iload_n 3, 1) := by decide +kernel
theorem d_ga_16 : decode cX3_gather 16 = .ok (.bipush 121, 2) := by decide +kernel
theorem d_ga_18 : decode cX3_gather 18 = .ok (.if_icmp .ge 51, 3) := by decide +kernel
theorem d_ga_21 : decode cX3_gather 21 = .ok (.aload_n 1, 1) := by decide +kernel
theorem d_ga_22 : decode cX3_gather 22 = .ok (.iload_n 2, 1) := by decide +kernel
theorem d_ga_23 : decode cX3_gather 23 = .ok (.bipush 60, 2) := by decide +kernel
theorem d_ga_25 : decode cX3_gather 25 = .ok (.isub, 1) := by decide +kernel
theorem d_ga_26 : decode cX3_gather 26 = .ok (.iload_n 3, 1) := by decide +kernel
theorem d_ga_27 : decode cX3_gather 27 = .ok (.bipush 60, 2) := by decide +kernel
theorem d_ga_29 : decode cX3_gather 29 = .ok (.isub, 1) := by decide +kernel
theorem d_ga_30 : decode cX3_gather 30 = .ok (.invokevirtual 36, 3) := by decide +kernel
theorem d_ga_33 : decode cX3_gather 33 = .ok (.bipush (-2), 2) := by decide +kernel
theorem d_ga_35 : decode cX3_gather 35 = .ok (.if_icmp .ne 28, 3) := by decide +kernel
theorem d_ga_38 : decode cX3_gather 38 = .ok (.aload_n 0, 1) := by decide +kernel
theorem d_ga_39 : decode cX3_gather 39 = .ok (.getfield 15, 3) := by decide +kernel
theorem d_ga_42 : decode cX3_gather 42 = .ok (.aload_n 0, 1) := by decide +kernel
theorem d_ga_43 : decode cX3_gather 43 = .ok (.getfield 32, 3) := by decide +kernel
theorem d_ga_46 : decode cX3_gather 46 = .ok (.iload_n 2, 1) := by decide +kernel
theorem d_ga_47 : decode cX3_gather 47 = .ok (.bipush 7, 2) := by decide +kernel
theorem d_ga_49 : decode cX3_gather 49 = .ok (.ishl, 1) := by decide +kernel
theorem d_ga_50 : decode cX3_gather 50 = .ok (.iload_n 3, 1) := by decide +kernel
theorem d_ga_51 : decode cX3_gather 51 = .ok (.ior, 1) := by decide +kernel
theorem d_ga_52 : decode cX3_gather 52 = .ok (.iastore, 1) := by decide +kernel
theorem d_ga_53 : decode cX3_gather 53 = .ok (.aload_n 0, 1) := by decide +kernel
theorem d_ga_54 : decode cX3_gather 54 = .ok (.dup, 1) := by decide +kernel
theorem d_ga_55 : decode cX3_gather 55 = .ok (.getfield 32, 3) := by decide +kernel
theorem d_ga_58 : decode cX3_gather 58 = .ok (.iconst 1, 1) := by decide +kernel
theorem d_ga_59 : decode cX3_gather 59 = .ok (.iadd, 1) := by decide +kernel
theorem d_ga_60 : decode cX3_gather 60 = .ok (.putfield 32, 3) := by decide +kernel
theorem d_ga_63 : decode cX3_gather 63 = .ok (.iinc 3 1, 3) := by decide +kernel
theorem d_ga_66 : decode cX3_gather 66 = .ok (.goto (-51), 3) := by decide +kernel
theorem d_ga_69 : decode cX3_gather 69 = .ok (.iinc 2 1, 3) := by decide +kernel
theorem d_ga_72 : decode cX3_gather 72 = .ok (.goto (-65), 3) := by decide +kernel
theorem d_ga_75 : decode cX3_gather 75 = .ok (.return_, 1) := by decide +kernel
theorem d_ka_0 : decode cX3_keepAlike 0 = .ok (.aload_n 0, 1) := by decide +kernel
theorem d_ka_1 : decode cX3_keepAlike 1 = .ok (.iload_n 1, 1) := by decide +kernel
theorem d_ka_2 : decode cX3_keepAlike 2 = .ok (.bipush 60, 2) := by decide +kernel
theorem d_ka_4 : decode cX3_keepAlike 4 = .ok (.iadd, 1) := by decide +kernel
theorem d_ka_5 : decode cX3_keepAlike 5 = .ok (.bipush 7, 2) := by decide +kernel
theorem d_ka_7 : decode cX3_keepAlike 7 = .ok (.ishl, 1) := by decide +kernel
theorem d_ka_8 : decode cX3_keepAlike 8 = .ok (.iload_n 2, 1) := by decide +kernel
theorem d_ka_9 : decode cX3_keepAlike 9 = .ok (.bipush 60, 2) := by decide +kernel
theorem d_ka_11 : decode cX3_keepAlike 11 = .ok (.iadd, 1) := by decide +kernel
theorem d_ka_12 : decode cX3_keepAlike 12 = .ok (.ior, 1) := by decide +kernel
theorem d_ka_13 : decode cX3_keepAlike 13 = .ok (.invokevirtual 42, 3) := by decide +kernel
theorem d_ka_16 : decode cX3_keepAlike 16 = .ok (.lstore_n 3, 1) := by decide +kernel
theorem d_ka_17 : decode cX3_keepAlike 17 = .ok (.iconst 0, 1) := by decide +kernel
theorem d_ka_18 : decode cX3_keepAlike 18 = .ok (.istore 5, 2) := by decide +kernel
theorem d_ka_20 : decode cX3_keepAlike 20 = .ok (.iconst 0, 1) := by decide +kernel
theorem d_ka_21 : decode cX3_keepAlike 21 = .ok (.istore 6, 2) := by decide +kernel
theorem d_ka_23 : decode cX3_keepAlike 23 = .ok (.iload 6, 2) := by decide +kernel
theorem d_ka_25 : decode cX3_keepAlike 25 = .ok (.aload_n 0, 1) := by decide +kernel
theorem d_ka_26 : decode cX3_keepAlike 26 = .ok (.getfield 32, 3) := by decide +kernel
theorem d_ka_29 : decode cX3_keepAlike 29 = .ok (.if_icmp .ge 42, 3) := by decide +kernel
theorem d_ka_32 : decode cX3_keepAlike 32 = .ok (.aload_n 0, 1) := by decide +kernel
theorem d_ka_33 : decode cX3_keepAlike 33 = .ok (.aload_n 0, 1) := by decide +kernel
theorem d_ka_34 : decode cX3_keepAlike 34 = .ok (.getfield 15, 3) := by decide +kernel
theorem d_ka_37 : decode cX3_keepAlike 37 = .ok (.iload 6, 2) := by decide +kernel
theorem d_ka_39 : decode cX3_keepAlike 39 = .ok (.iaload, 1) := by decide +kernel
theorem d_ka_40 : decode cX3_keepAlike 40 = .ok (.invokevirtual 42, 3) := by decide +kernel
theorem d_ka_43 : decode cX3_keepAlike 43 = .ok (.lload_n 3, 1) := by decide +kernel
theorem d_ka_44 : decode cX3_keepAlike 44 = .ok (.lcmp, 1) := by decide +kernel
theorem d_ka_45 : decode cX3_keepAlike 45 = .ok (.ifCond .ne 20, 3) := by decide +kernel
theorem d_ka_48 : decode cX3_keepAlike 48 = .ok (.aload_n 0, 1) := by decide +kernel
theorem d_ka_49 : decode cX3_keepAlike 49 = .ok (.getfield 15, 3) := by decide +kernel
theorem d_ka_52 : decode cX3_keepAlike 52 = .ok (.iload 5, 2) := by decide +kernel
theorem d_ka_54 : decode cX3_keepAlike 54 = .ok (.aload_n 0, 1) := by decide +kernel
theorem d_ka_55 : decode cX3_keepAlike 55 = .ok (.getfield 15, 3) := by decide +kernel
theorem d_ka_58 : decode cX3_keepAlike 58 = .ok (.iload 6, 2) := by decide +kernel
theorem d_ka_60 : decode cX3_keepAlike 60 = .ok (.iaload, 1) := by decide +kernel
theorem d_ka_61 : decode cX3_keepAlike 61 = .ok (.iastore, 1) := by decide +kernel
theorem d_ka_62 : decode cX3_keepAlike 62 = .ok (.iinc 5 1, 3) := by decide +kernel
theorem d_ka_65 : decode cX3_keepAlike 65 = .ok (.iinc 6 1, 3) := by decide +kernel
theorem d_ka_68 : decode cX3_keepAlike 68 = .ok (.goto (-45), 3) := by decide +kernel
theorem d_ka_71 : decode cX3_keepAlike 71 = .ok (.aload_n 0, 1) := by decide +kernel
theorem d_ka_72 : decode cX3_keepAlike 72 = .ok (.iload 5, 2) := by decide +kernel
theorem d_ka_74 : decode cX3_keepAlike 74 = .ok (.putfield 32, 3) := by decide +kernel
theorem d_ka_77 : decode cX3_keepAlike 77 = .ok (.return_, 1) := by decide +kernel
theorem ac_sizeMade (l : Launch) (G : KG) {ad : Nat → Nat} {ws : va_W} (hW : WT G ad TXP ws) {x : Int32} (hx : gcode x) : Ct l G yX3_sizeMade cX3_sizeMade 2 (some .long) rm_sm [.ref (ad 109), .int x] ws (fun r w1 => w1 = ws ∧ ∃ v : Int64, r = some (.long v)) := by
  refine ct_of [(0, .ref (ad 109)), (1, .int x)] (by decide) (Nat.le_of_ble_eq_true rfl) rfl ?_
  intro p e s m args below meth c A X
  obtain ⟨x0, x1, x2⟩ := hx
  obtain ⟨e1, h1, h2⟩ := hW.arr (k := 112) rfl
  obtain ⟨sx, rfl⟩ : ∃ f : Nat → Int64, e1 = aJ G 121 f := by
    rcases h2 with ⟨h9, -⟩ | ⟨-, f, rfl⟩ | ⟨h9, -⟩ | ⟨h9, -⟩
    · exact absurd h9 (by decide)
    · exact ⟨f, rfl⟩
    · exact absurd h9 (by decide)
    · exact absurd h9 (by decide)
  obtain ⟨e2, h3, h4⟩ := hW.arr (k := 113) rfl
  obtain ⟨sy, rfl⟩ : ∃ f : Nat → Int64, e2 = aJ G 121 f := by
    rcases h4 with ⟨h9, -⟩ | ⟨-, f, rfl⟩ | ⟨h9, -⟩ | ⟨h9, -⟩
    · exact absurd h9 (by decide)
    · exact ⟨f, rfl⟩
    · exact absurd h9 (by decide)
    · exact absurd h9 (by decide)
  have g1 := shr_bd (x := x) (y := 7) (ly := 7) x0 (by decide) (by decide)
  have g2 : x.toInt / ((2 ^ 7 : Nat) : Int) ≤ 120 := by show x.toInt / 128 ≤ 120; omega
  have g3 := and127 x0
  have v1 : vp_in ((x) >>> (((7 : Int32)) &&& 31)) 121 := vp_of g1.1 (by have := g1.2; omega)
  have v2 : vp_in ((x) &&& ((127 : Int32))) 121 := vp_of (by rw [g3]; omega) (by rw [g3]; omega)
  refine z_aload_n X d_sm_0 rfl 0 rfl ?_
  refine hget (T := TXP) X hW (idx := 18) (fld_3_ok _ (by decide : (18, 3, 5) ∈ fld_3)) d_sm_1 rfl (fget_ref hW rfl rfl) ?_
  refine z_iload_n X d_sm_4 rfl 1 rfl ?_
  refine z_bipush X d_sm_5 (v := 7) (by decide) ?_
  refine z_ishr X d_sm_7 ?_
  refine z_lald X d_sm_8 112 (h1) (v1) rfl ?_
  refine z_aload_n X d_sm_9 rfl 0 rfl ?_
  refine hget (T := TXP) X hW (idx := 22) (fld_3_ok _ (by decide : (22, 3, 6) ∈ fld_3)) d_sm_10 rfl (fget_ref hW rfl rfl) ?_
  refine z_iload_n X d_sm_13 rfl 1 rfl ?_
  refine z_bipush X d_sm_14 (v := 127) (by decide) ?_
  refine z_iand X d_sm_16 ?_
  refine z_lald X d_sm_17 113 (h3) (v2) rfl ?_
  refine z_ladd X d_sm_18 ?_
  exact z_lret X rfl d_sm_19 (Nat.le_refl 0) (Nat.le_refl 0) ⟨rfl, _, rfl⟩
/-- the hook: the SIZE of a pull that is kept -/
noncomputable def hkMost : HKT := fun pc σ => bif Nat.beq pc 65 then (match σ.1.find? (fun q => Nat.beq q.1 0), σ.1.find? (fun q => Nat.beq q.1 4) with
  | some (_, t, _), some (_, i, _) => bif pId σ.2.2.1 t 2 && (decide ((aty σ.2.2.1 t).2.1 = 109) && (pId σ.2.2.1 i 0 && (decide (0 ≤ xlo σ.2.2.1 σ.2.2.2.2.1 i) && (decide (xhi σ.2.2.1 σ.2.2.2.2.1 i ≤ 14640) && Nat.ble (scat σ.2.2.1 (t :: σ.2.1)) 8)))) then some [(77, ((σ.1, σ.2.2.2.2.2 :: t :: σ.2.1, (σ.2.2.2.2.2, (1, lMin, lMax)) :: σ.2.2.1, σ.2.2.2.1, σ.2.2.2.2.1, σ.2.2.2.2.2 + 1) : AS))] else none
  | _, _ => none) else none
theorem lw_find {lv : ALv} {ν : Nat → Value} {lw : List (Nat × Value)} (h1 : lw = lv.map (fun q => (q.1, ν q.2.1))) {k a i : Nat} {b : Bool} (hl : lv.find? (fun q => Nat.beq q.1 k) = some (a, i, b)) : ∃ j : Nat, lw[j]? = some (k, ν i) := by
  have hq : (a, i, b) ∈ lv := List.mem_of_find?_eq_some hl
  have hp0 := List.find?_some hl
  have hp0 : Nat.beq a k = true := hp0
  have hp0 := Nat.eq_of_beq_eq_true hp0
  have hmem : (k, ν i) ∈ lw := by
    rw [h1, ← hp0]
    exact List.mem_map.mpr ⟨(a, i, b), hq, rfl⟩
  exact List.getElem?_of_mem hmem
theorem afr_push {lv : ALv} {st : List Nat} {ev : AEv} {ca : ACa} {rl : ARl} {nx t : Nat} (hf : afr (lv, st, ev, ca, rl, nx) = true) (ht : t < nx) : afr (lv, t :: st, ev, ca, rl, nx) = true := by
  obtain ⟨h0, h1, h2, h3⟩ := afr_ok hf
  refine afr_mk ⟨h0, h1, fun q hq => ?_, h3⟩
  rcases List.mem_cons.mp hq with e | hq
  · rw [e]; exact ht
  · exact h2 q hq
theorem hkMost_ok {l : Launch} {G : KG} {nL : Nat} {ret : Option FieldType} {Rf Rl : Nat} {mk : List (Nat × Nat)} {w0 : va_W} (hP : GC G w0) (hmk : mkq mk 111 0 = false) (hRf : 1 ≤ Rf) (hRl : 25 ≤ Rl) : HOKP l G TXP RX3 cX3_mostAlike nL ret Rf Rl hkMost mk w0 := by
  intro p e R s m args below meth c A nm Q kc ks X eRf eRl hkc hks ad pin pc σ L hf h k
  obtain ⟨lv, st, ev, ca, rl, nx⟩ := σ
  unfold hkMost at h
  cases hb : Nat.beq pc 65 with
  | false => rw [hb] at h; cases h
  | true =>
    have hb := Nat.eq_of_beq_eq_true hb
    subst hb
    rw [Nat.beq_refl] at h
    dsimp only [cond] at h
    cases hl0 : lv.find? (fun q => Nat.beq q.1 0) with
    | none => rw [hl0] at h; cases h
    | some q0 =>
      cases hl4 : lv.find? (fun q => Nat.beq q.1 4) with
      | none => rw [hl0, hl4] at h; cases h
      | some q4 =>
        obtain ⟨a0, t, b0⟩ := q0
        obtain ⟨a4, i, b4⟩ := q4
        rw [hl0, hl4] at h
        have h : (bif pId ev t 2 && (decide ((aty ev t).2.1 = 109) && (pId ev i 0 && (decide (0 ≤ xlo ev rl i) && (decide (xhi ev rl i ≤ 14640) && Nat.ble (scat ev (t :: st)) 8)))) then some [(77, ((lv, nx :: t :: st, (nx, (1, lMin, lMax)) :: ev, ca, rl, nx + 1) : AS))] else none) = some L := h
        cases hc : (pId ev t 2 && (decide ((aty ev t).2.1 = 109) && (pId ev i 0 && (decide (0 ≤ xlo ev rl i) && (decide (xhi ev rl i ≤ 14640) && Nat.ble (scat ev (t :: st)) 8))))) with
        | false => rw [hc] at h; cases h
        | true =>
          rw [hc] at h
          cases h
          have k := k _ List.mem_cons_self
          obtain ⟨c0, hc⟩ := and2 hc
          obtain ⟨c1, hc⟩ := and2 hc
          obtain ⟨c2, hc⟩ := and2 hc
          obtain ⟨c3, hc⟩ := and2 hc
          obtain ⟨c4, c5⟩ := and2 hc
          have c1 := of_decide_eq_true c1
          have c3 := of_decide_eq_true c3
          have c4 := of_decide_eq_true c4
          intro ν lw sw ws hg
          obtain ⟨h1, h2, h3⟩ := hg
          have h3 : AK G ad TXP mk w0 pin (lv, st, ev, ca, rl, nx) ν ws := h3
          have h2 : sw = st.map ν := h2
          have h1 : lw = lv.map (fun q => (q.1, ν q.2.1)) := h1
          obtain ⟨x, hx⟩ := h3.int (pId_ok c2)
          have ht := h3.ref (pId_ok c0)
          rw [c1] at ht
          have ht : ν t = .ref (ad 109) := ht
          have l1 := h3.lo2 i
          have l2 := h3.hi2 i
          rw [hx] at l1 l2
          have l1 : xlo ev rl i ≤ x.toInt := l1
          have l2 : x.toInt ≤ xhi ev rl i := l2
          obtain ⟨j0, hj0⟩ := lw_find h1 hl0
          obtain ⟨j4, hj4⟩ := lw_find h1 hl4
          rw [ht] at hj0
          rw [hx] at hj4
          have hW := h3.2.2.2.2.2.1
          obtain ⟨b, f, g1, g2⟩ := hP.frm h3.2.2.2.2.2.2 hmk
          have g1 : ws[111]? = some (ad 111, aI G 14641 f) := by
            have g9 := g1
            rw [WT.adr (T := TXP) hW rfl g1] at g9
            exact g9
          have vx : vp_in x 14641 := vp_of (by omega) (by omega)
          have hgx := g2 x.toNatClampNeg (by have e9 : x.toNatClampNeg = x.toInt.toNat := rfl; omega)
          have htm : t < nx := (afr_ok hf).2.1 (a0, t, b0) (List.mem_of_find?_eq_some hl0)
          rw [h2]
          refine z_aload_n X d_ma_65 rfl j0 hj0 (z_aload_n X d_ma_66 rfl j0 hj0 (z_aload_n X d_ma_67 rfl j0 hj0 (hget (T := TXP) X hW (idx := 15) (fld_3_ok _ (by decide : (15, 3, 4) ∈ fld_3)) d_ma_68 rfl (fget_ref hW rfl rfl) (z_iload X d_ma_71 j4 hj4 (z_iald X d_ma_73 111 g1 vx rfl ?_)))))
          refine hcallV (T := TXP) (k := 109) (rest := .ref (ad 109) :: st.map ν) (avs := [.int (f x.toNatClampNeg)]) X k_3_42 (ac_sizeMade l G hW hgx) d_ma_74 hW rfl rfl rfl rfl ⟨by show 0 + 1 ≤ R.frames; omega, by show 8 + (2 + 11) + 0 ≤ R.locals; omega⟩ ⟨hkc, hks⟩ (by rw [← ht]; exact Nat.le_trans (cat12_ok h3 (t :: st)) (Nat.le_of_ble_eq_true c5)) rfl (fun r w1 hp => ?_)
          obtain ⟨rfl, v, rfl⟩ := hp
          have h3t : AG G ad TXP mk w0 pin (lv, t :: st, ev, ca, rl, nx) ν lw ((t :: st).map ν) w1 := ⟨h1, rfl, h3⟩
          have := k _ _ _ _ (AG.push (nr := []) h3t (afr_push hf htm) (vty_l0 v) (fun q hq => absurd hq List.not_mem_nil))
          rw [show (t :: st).map ν = .ref (ad 109) :: st.map ν by rw [List.map_cons, ht]] at this
          exact this
end
section
def D_X3_mostAlike : DT := [(0, .iconst 2, 1), (1, .istore_n 2, 1), (2, .iload_n 2, 1), (3, .ldc 25, 2), (5, .if_icmp .ge 20, 3), (8, .iload_n 2, 1), (9, .iconst 2, 1), (10, .aload_n 0, 1), (11, .getfield 32, 3), (14, .imul, 1), (15, .if_icmp .ge 10, 3), (18, .iload_n 2, 1), (19, .iconst 2, 1), (20, .imul, 1), (21, .istore_n 2, 1), (22, .goto (-20), 3), (25, .iconst 0, 1), (26, .istore_n 3, 1), (27, .iload_n 3, 1), (28, .iload_n 2, 1), (29, .if_icmp .ge 16, 3), (32, .aload_n 0, 1), (33, .getfield 29, 3), (36, .iload_n 3, 1), (37, .iconst 0, 1), (38, .iastore, 1), (39, .iinc 3 1, 3), (42, .goto (-15), 3), (45, .iconst 0, 1), (46, .istore_n 3, 1), (47, .iconst 0, 1), (48, .istore 4, 2), (50, .iload 4, 2), (52, .aload_n 0, 1), (53, .getfield 32, 3), (56, .if_icmp .ge 35, 3), (59, .iload_n 3, 1), (60, .iload_n 1, 1), (61, .if_icmp .ge 30, 3), (64, .iload_n 3, 1), (65, .aload_n 0, 1), (66, .aload_n 0, 1), (67, .aload_n 0, 1), (68, .getfield 15, 3), (71, .iload 4, 2), (73, .iaload, 1), (74, .invokevirtual 42, 3), (77, .iload_n 2, 1), (78, .invokevirtual 46, 3), (81, .invokestatic 50, 3), (84, .istore_n 3, 1), (85, .iinc 4 1, 3), (88, .goto (-38), 3), (91, .iload_n 3, 1), (92, .ireturn, 1)]
theorem D_X3_mostAlike_ok : dtOK cX3_mostAlike D_X3_mostAlike = true := by decide +kernel
abbrev C_p_X3_mostAlike_0 : CE := ([(2, 109, 0), (0, -2147483648, 2147483647)], [], [], [(some (0, 0, 2147483647), [], [], [])], [(114, 999), (115, 999)], 1, 25)
def kl_p_X3_mostAlike_0 : List CAL := [(46, 0, 6, C_p_X3_tallied_0), (50, 1, 2, C_mmax)]
def kd_p_X3_mostAlike_0_0 : CUT := (27, ([(0, 0, false), (1, 1, false), (2, 500, false), (3, 501, false)], [], [(0, (2, 109, 0)), (1, (0, -2147483648, 2147483647)), (500, (0, 1024, 1024)), (501, (0, 0, 1024)), (502, (0, 0, 14641))], [(109, 0, 502)], [], 1000), 31338, [(1, 501)])
def kd_p_X3_mostAlike_0_1 : CUT := (27, ([(0, 0, false), (1, 1, false), (2, 500, false), (3, 501, false)], [], [(0, (2, 109, 0)), (1, (0, -2147483648, 2147483647)), (500, (0, 128, 128)), (501, (0, 0, 128)), (502, (0, 0, 14641))], [(109, 0, 502)], [], 1000), 29546, [(1, 501)])
def kd_p_X3_mostAlike_0_2 : CUT := (27, ([(0, 0, false), (1, 1, false), (2, 500, false), (3, 501, false)], [], [(0, (2, 109, 0)), (1, (0, -2147483648, 2147483647)), (500, (0, 16, 16)), (501, (0, 0, 16)), (502, (0, 0, 14641))], [(109, 0, 502)], [], 1000), 29322, [(1, 501)])
def kd_p_X3_mostAlike_0_3 : CUT := (27, ([(0, 0, false), (1, 1, false), (2, 500, false), (3, 501, false)], [], [(0, (2, 109, 0)), (1, (0, -2147483648, 2147483647)), (500, (0, 16384, 16384)), (501, (0, 0, 16384)), (502, (0, 0, 14641))], [(109, 0, 502)], [], 1000), 62058, [(1, 501)])
def kd_p_X3_mostAlike_0_4 : CUT := (27, ([(0, 0, false), (1, 1, false), (2, 500, false), (3, 501, false)], [], [(0, (2, 109, 0)), (1, (0, -2147483648, 2147483647)), (500, (0, 2, 2)), (501, (0, 0, 2)), (502, (0, 0, 14641))], [(109, 0, 502)], [], 1000), 29294, [(1, 501)])
def kd_p_X3_mostAlike_0_5 : CUT := (27, ([(0, 0, false), (1, 1, false), (2, 500, false), (3, 501, false)], [], [(0, (2, 109, 0)), (1, (0, -2147483648, 2147483647)), (500, (0, 2048, 2048)), (501, (0, 0, 2048)), (502, (0, 0, 14641))], [(109, 0, 502)], [], 1000), 33386, [(1, 501)])
def kd_p_X3_mostAlike_0_6 : CUT := (27, ([(0, 0, false), (1, 1, false), (2, 500, false), (3, 501, false)], [], [(0, (2, 109, 0)), (1, (0, -2147483648, 2147483647)), (500, (0, 256, 256)), (501, (0, 0, 256)), (502, (0, 0, 14641))], [(109, 0, 502)], [], 1000), 29802, [(1, 501)])
def kd_p_X3_mostAlike_0_7 : CUT := (27, ([(0, 0, false), (1, 1, false), (2, 500, false), (3, 501, false)], [], [(0, (2, 109, 0)), (1, (0, -2147483648, 2147483647)), (500, (0, 32, 32)), (501, (0, 0, 32)), (502, (0, 0, 14641))], [(109, 0, 502)], [], 1000), 29354, [(1, 501)])
def kd_p_X3_mostAlike_0_8 : CUT := (27, ([(0, 0, false), (1, 1, false), (2, 500, false), (3, 501, false)], [], [(0, (2, 109, 0)), (1, (0, -2147483648, 2147483647)), (500, (0, 32768, 32768)), (501, (0, 0, 32768)), (502, (0, 0, 14641))], [(109, 0, 502)], [], 1000), 94826, [(1, 501)])
def kd_p_X3_mostAlike_0_9 : CUT := (27, ([(0, 0, false), (1, 1, false), (2, 500, false), (3, 501, false)], [], [(0, (2, 109, 0)), (1, (0, -2147483648, 2147483647)), (500, (0, 4, 4)), (501, (0, 0, 4)), (502, (0, 0, 14641))], [(109, 0, 502)], [], 1000), 29298, [(1, 501)])
def kd_p_X3_mostAlike_0_10 : CUT := (27, ([(0, 0, false), (1, 1, false), (2, 500, false), (3, 501, false)], [], [(0, (2, 109, 0)), (1, (0, -2147483648, 2147483647)), (500, (0, 4096, 4096)), (501, (0, 0, 4096)), (502, (0, 0, 14641))], [(109, 0, 502)], [], 1000), 37482, [(1, 501)])
def kd_p_X3_mostAlike_0_11 : CUT := (27, ([(0, 0, false), (1, 1, false), (2, 500, false), (3, 501, false)], [], [(0, (2, 109, 0)), (1, (0, -2147483648, 2147483647)), (500, (0, 512, 512)), (501, (0, 0, 512)), (502, (0, 0, 14641))], [(109, 0, 502)], [], 1000), 30314, [(1, 501)])
def kd_p_X3_mostAlike_0_12 : CUT := (27, ([(0, 0, false), (1, 1, false), (2, 500, false), (3, 501, false)], [], [(0, (2, 109, 0)), (1, (0, -2147483648, 2147483647)), (500, (0, 64, 64)), (501, (0, 0, 64)), (502, (0, 0, 14641))], [(109, 0, 502)], [], 1000), 29418, [(1, 501)])
def kd_p_X3_mostAlike_0_13 : CUT := (27, ([(0, 0, false), (1, 1, false), (2, 500, false), (3, 501, false)], [], [(0, (2, 109, 0)), (1, (0, -2147483648, 2147483647)), (500, (0, 8, 8)), (501, (0, 0, 8)), (502, (0, 0, 14641))], [(109, 0, 502)], [], 1000), 29306, [(1, 501)])
def kd_p_X3_mostAlike_0_14 : CUT := (27, ([(0, 0, false), (1, 1, false), (2, 500, false), (3, 501, false)], [], [(0, (2, 109, 0)), (1, (0, -2147483648, 2147483647)), (500, (0, 8192, 8192)), (501, (0, 0, 8192)), (502, (0, 0, 14641))], [(109, 0, 502)], [], 1000), 45674, [(1, 501)])
def kd_p_X3_mostAlike_0_15 : CUT := (50, ([(0, 0, false), (1, 1, false), (2, 500, false), (3, 501, false), (4, 502, false)], [], [(0, (2, 109, 0)), (1, (0, -2147483648, 2147483647)), (500, (0, 1024, 1024)), (501, (0, 0, 2147483647)), (502, (0, 0, 14641)), (503, (0, 0, 14641))], [(109, 0, 503)], [(502, 503, 0)], 1000), 29285, [(1, 502)])
def kd_p_X3_mostAlike_0_16 : CUT := (50, ([(0, 0, false), (1, 1, false), (2, 500, false), (3, 501, false), (4, 502, false)], [], [(0, (2, 109, 0)), (1, (0, -2147483648, 2147483647)), (500, (0, 128, 128)), (501, (0, 0, 2147483647)), (502, (0, 0, 14641)), (503, (0, 0, 14641))], [(109, 0, 503)], [(502, 503, 0)], 1000), 29285, [(1, 502)])
def kd_p_X3_mostAlike_0_17 : CUT := (50, ([(0, 0, false), (1, 1, false), (2, 500, false), (3, 501, false), (4, 502, false)], [], [(0, (2, 109, 0)), (1, (0, -2147483648, 2147483647)), (500, (0, 16, 16)), (501, (0, 0, 2147483647)), (502, (0, 0, 14641)), (503, (0, 0, 14641))], [(109, 0, 503)], [(502, 503, 0)], 1000), 29285, [(1, 502)])
def kd_p_X3_mostAlike_0_18 : CUT := (50, ([(0, 0, false), (1, 1, false), (2, 500, false), (3, 501, false), (4, 502, false)], [], [(0, (2, 109, 0)), (1, (0, -2147483648, 2147483647)), (500, (0, 16384, 16384)), (501, (0, 0, 2147483647)), (502, (0, 0, 14641)), (503, (0, 0, 14641))], [(109, 0, 503)], [(502, 503, 0)], 1000), 29285, [(1, 502)])
def kd_p_X3_mostAlike_0_19 : CUT := (50, ([(0, 0, false), (1, 1, false), (2, 500, false), (3, 501, false), (4, 502, false)], [], [(0, (2, 109, 0)), (1, (0, -2147483648, 2147483647)), (500, (0, 2, 2)), (501, (0, 0, 2147483647)), (502, (0, 0, 14641)), (503, (0, 0, 14641))], [(109, 0, 503)], [(502, 503, 0)], 1000), 29285, [(1, 502)])
def kd_p_X3_mostAlike_0_20 : CUT := (50, ([(0, 0, false), (1, 1, false), (2, 500, false), (3, 501, false), (4, 502, false)], [], [(0, (2, 109, 0)), (1, (0, -2147483648, 2147483647)), (500, (0, 2048, 2048)), (501, (0, 0, 2147483647)), (502, (0, 0, 14641)), (503, (0, 0, 14641))], [(109, 0, 503)], [(502, 503, 0)], 1000), 29285, [(1, 502)])
def kd_p_X3_mostAlike_0_21 : CUT := (50, ([(0, 0, false), (1, 1, false), (2, 500, false), (3, 501, false), (4, 502, false)], [], [(0, (2, 109, 0)), (1, (0, -2147483648, 2147483647)), (500, (0, 256, 256)), (501, (0, 0, 2147483647)), (502, (0, 0, 14641)), (503, (0, 0, 14641))], [(109, 0, 503)], [(502, 503, 0)], 1000), 29285, [(1, 502)])
def kd_p_X3_mostAlike_0_22 : CUT := (50, ([(0, 0, false), (1, 1, false), (2, 500, false), (3, 501, false), (4, 502, false)], [], [(0, (2, 109, 0)), (1, (0, -2147483648, 2147483647)), (500, (0, 32, 32)), (501, (0, 0, 2147483647)), (502, (0, 0, 14641)), (503, (0, 0, 14641))], [(109, 0, 503)], [(502, 503, 0)], 1000), 29285, [(1, 502)])
def kd_p_X3_mostAlike_0_23 : CUT := (50, ([(0, 0, false), (1, 1, false), (2, 500, false), (3, 501, false), (4, 502, false)], [], [(0, (2, 109, 0)), (1, (0, -2147483648, 2147483647)), (500, (0, 32768, 32768)), (501, (0, 0, 2147483647)), (502, (0, 0, 14641)), (503, (0, 0, 14641))], [(109, 0, 503)], [(502, 503, 0)], 1000), 29285, [(1, 502)])
def kd_p_X3_mostAlike_0_24 : CUT := (50, ([(0, 0, false), (1, 1, false), (2, 500, false), (3, 501, false), (4, 502, false)], [], [(0, (2, 109, 0)), (1, (0, -2147483648, 2147483647)), (500, (0, 4, 4)), (501, (0, 0, 2147483647)), (502, (0, 0, 14641)), (503, (0, 0, 14641))], [(109, 0, 503)], [(502, 503, 0)], 1000), 29285, [(1, 502)])
def kd_p_X3_mostAlike_0_25 : CUT := (50, ([(0, 0, false), (1, 1, false), (2, 500, false), (3, 501, false), (4, 502, false)], [], [(0, (2, 109, 0)), (1, (0, -2147483648, 2147483647)), (500, (0, 4096, 4096)), (501, (0, 0, 2147483647)), (502, (0, 0, 14641)), (503, (0, 0, 14641))], [(109, 0, 503)], [(502, 503, 0)], 1000), 29285, [(1, 502)])
def kd_p_X3_mostAlike_0_26 : CUT := (50, ([(0, 0, false), (1, 1, false), (2, 500, false), (3, 501, false), (4, 502, false)], [], [(0, (2, 109, 0)), (1, (0, -2147483648, 2147483647)), (500, (0, 512, 512)), (501, (0, 0, 2147483647)), (502, (0, 0, 14641)), (503, (0, 0, 14641))], [(109, 0, 503)], [(502, 503, 0)], 1000), 29285, [(1, 502)])
def kd_p_X3_mostAlike_0_27 : CUT := (50, ([(0, 0, false), (1, 1, false), (2, 500, false), (3, 501, false), (4, 502, false)], [], [(0, (2, 109, 0)), (1, (0, -2147483648, 2147483647)), (500, (0, 64, 64)), (501, (0, 0, 2147483647)), (502, (0, 0, 14641)), (503, (0, 0, 14641))], [(109, 0, 503)], [(502, 503, 0)], 1000), 29285, [(1, 502)])
def kd_p_X3_mostAlike_0_28 : CUT := (50, ([(0, 0, false), (1, 1, false), (2, 500, false), (3, 501, false), (4, 502, false)], [], [(0, (2, 109, 0)), (1, (0, -2147483648, 2147483647)), (500, (0, 8, 8)), (501, (0, 0, 2147483647)), (502, (0, 0, 14641)), (503, (0, 0, 14641))], [(109, 0, 503)], [(502, 503, 0)], 1000), 29285, [(1, 502)])
def kd_p_X3_mostAlike_0_29 : CUT := (50, ([(0, 0, false), (1, 1, false), (2, 500, false), (3, 501, false), (4, 502, false)], [], [(0, (2, 109, 0)), (1, (0, -2147483648, 2147483647)), (500, (0, 8192, 8192)), (501, (0, 0, 2147483647)), (502, (0, 0, 14641)), (503, (0, 0, 14641))], [(109, 0, 503)], [(502, 503, 0)], 1000), 29285, [(1, 502)])
def kc_p_X3_mostAlike_0 : List CUT := [kd_p_X3_mostAlike_0_0, kd_p_X3_mostAlike_0_1, kd_p_X3_mostAlike_0_2, kd_p_X3_mostAlike_0_3, kd_p_X3_mostAlike_0_4, kd_p_X3_mostAlike_0_5, kd_p_X3_mostAlike_0_6, kd_p_X3_mostAlike_0_7, kd_p_X3_mostAlike_0_8, kd_p_X3_mostAlike_0_9, kd_p_X3_mostAlike_0_10, kd_p_X3_mostAlike_0_11, kd_p_X3_mostAlike_0_12, kd_p_X3_mostAlike_0_13, kd_p_X3_mostAlike_0_14, kd_p_X3_mostAlike_0_15, kd_p_X3_mostAlike_0_16, kd_p_X3_mostAlike_0_17, kd_p_X3_mostAlike_0_18, kd_p_X3_mostAlike_0_19, kd_p_X3_mostAlike_0_20, kd_p_X3_mostAlike_0_21, kd_p_X3_mostAlike_0_22, kd_p_X3_mostAlike_0_23, kd_p_X3_mostAlike_0_24, kd_p_X3_mostAlike_0_25, kd_p_X3_mostAlike_0_26, kd_p_X3_mostAlike_0_27, kd_p_X3_mostAlike_0_28, kd_p_X3_mostAlike_0_29]
theorem kt_p_X3_mostAlike_0_0 : achk1 hkMost D_X3_mostAlike 5 TXP fld_3 put_3 cst_3 cstl_3 kl_p_X3_mostAlike_0 1 C_p_X3_mostAlike_0 kc_p_X3_mostAlike_0 4000 kd_p_X3_mostAlike_0_0 = true := by decide +kernel
theorem kt_p_X3_mostAlike_0_1 : achk1 hkMost D_X3_mostAlike 5 TXP fld_3 put_3 cst_3 cstl_3 kl_p_X3_mostAlike_0 1 C_p_X3_mostAlike_0 kc_p_X3_mostAlike_0 4000 kd_p_X3_mostAlike_0_1 = true := by decide +kernel
theorem kt_p_X3_mostAlike_0_2 : achk1 hkMost D_X3_mostAlike 5 TXP fld_3 put_3 cst_3 cstl_3 kl_p_X3_mostAlike_0 1 C_p_X3_mostAlike_0 kc_p_X3_mostAlike_0 4000 kd_p_X3_mostAlike_0_2 = true := by decide +kernel
theorem kt_p_X3_mostAlike_0_3 : achk1 hkMost D_X3_mostAlike 5 TXP fld_3 put_3 cst_3 cstl_3 kl_p_X3_mostAlike_0 1 C_p_X3_mostAlike_0 kc_p_X3_mostAlike_0 4000 kd_p_X3_mostAlike_0_3 = true := by decide +kernel
theorem kt_p_X3_mostAlike_0_4 : achk1 hkMost D_X3_mostAlike 5 TXP fld_3 put_3 cst_3 cstl_3 kl_p_X3_mostAlike_0 1 C_p_X3_mostAlike_0 kc_p_X3_mostAlike_0 4000 kd_p_X3_mostAlike_0_4 = true := by decide +kernel
theorem kt_p_X3_mostAlike_0_5 : achk1 hkMost D_X3_mostAlike 5 TXP fld_3 put_3 cst_3 cstl_3 kl_p_X3_mostAlike_0 1 C_p_X3_mostAlike_0 kc_p_X3_mostAlike_0 4000 kd_p_X3_mostAlike_0_5 = true := by decide +kernel
theorem kt_p_X3_mostAlike_0_6 : achk1 hkMost D_X3_mostAlike 5 TXP fld_3 put_3 cst_3 cstl_3 kl_p_X3_mostAlike_0 1 C_p_X3_mostAlike_0 kc_p_X3_mostAlike_0 4000 kd_p_X3_mostAlike_0_6 = true := by decide +kernel
theorem kt_p_X3_mostAlike_0_7 : achk1 hkMost D_X3_mostAlike 5 TXP fld_3 put_3 cst_3 cstl_3 kl_p_X3_mostAlike_0 1 C_p_X3_mostAlike_0 kc_p_X3_mostAlike_0 4000 kd_p_X3_mostAlike_0_7 = true := by decide +kernel
theorem kt_p_X3_mostAlike_0_8 : achk1 hkMost D_X3_mostAlike 5 TXP fld_3 put_3 cst_3 cstl_3 kl_p_X3_mostAlike_0 1 C_p_X3_mostAlike_0 kc_p_X3_mostAlike_0 4000 kd_p_X3_mostAlike_0_8 = true := by decide +kernel
theorem kt_p_X3_mostAlike_0_9 : achk1 hkMost D_X3_mostAlike 5 TXP fld_3 put_3 cst_3 cstl_3 kl_p_X3_mostAlike_0 1 C_p_X3_mostAlike_0 kc_p_X3_mostAlike_0 4000 kd_p_X3_mostAlike_0_9 = true := by decide +kernel
theorem kt_p_X3_mostAlike_0_10 : achk1 hkMost D_X3_mostAlike 5 TXP fld_3 put_3 cst_3 cstl_3 kl_p_X3_mostAlike_0 1 C_p_X3_mostAlike_0 kc_p_X3_mostAlike_0 4000 kd_p_X3_mostAlike_0_10 = true := by decide +kernel
theorem kt_p_X3_mostAlike_0_11 : achk1 hkMost D_X3_mostAlike 5 TXP fld_3 put_3 cst_3 cstl_3 kl_p_X3_mostAlike_0 1 C_p_X3_mostAlike_0 kc_p_X3_mostAlike_0 4000 kd_p_X3_mostAlike_0_11 = true := by decide +kernel
theorem kt_p_X3_mostAlike_0_12 : achk1 hkMost D_X3_mostAlike 5 TXP fld_3 put_3 cst_3 cstl_3 kl_p_X3_mostAlike_0 1 C_p_X3_mostAlike_0 kc_p_X3_mostAlike_0 4000 kd_p_X3_mostAlike_0_12 = true := by decide +kernel
theorem kt_p_X3_mostAlike_0_13 : achk1 hkMost D_X3_mostAlike 5 TXP fld_3 put_3 cst_3 cstl_3 kl_p_X3_mostAlike_0 1 C_p_X3_mostAlike_0 kc_p_X3_mostAlike_0 4000 kd_p_X3_mostAlike_0_13 = true := by decide +kernel
theorem kt_p_X3_mostAlike_0_14 : achk1 hkMost D_X3_mostAlike 5 TXP fld_3 put_3 cst_3 cstl_3 kl_p_X3_mostAlike_0 1 C_p_X3_mostAlike_0 kc_p_X3_mostAlike_0 4000 kd_p_X3_mostAlike_0_14 = true := by decide +kernel
theorem kt_p_X3_mostAlike_0_15 : achk1 hkMost D_X3_mostAlike 5 TXP fld_3 put_3 cst_3 cstl_3 kl_p_X3_mostAlike_0 1 C_p_X3_mostAlike_0 kc_p_X3_mostAlike_0 4000 kd_p_X3_mostAlike_0_15 = true := by decide +kernel
theorem kt_p_X3_mostAlike_0_16 : achk1 hkMost D_X3_mostAlike 5 TXP fld_3 put_3 cst_3 cstl_3 kl_p_X3_mostAlike_0 1 C_p_X3_mostAlike_0 kc_p_X3_mostAlike_0 4000 kd_p_X3_mostAlike_0_16 = true := by decide +kernel
theorem kt_p_X3_mostAlike_0_17 : achk1 hkMost D_X3_mostAlike 5 TXP fld_3 put_3 cst_3 cstl_3 kl_p_X3_mostAlike_0 1 C_p_X3_mostAlike_0 kc_p_X3_mostAlike_0 4000 kd_p_X3_mostAlike_0_17 = true := by decide +kernel
theorem kt_p_X3_mostAlike_0_18 : achk1 hkMost D_X3_mostAlike 5 TXP fld_3 put_3 cst_3 cstl_3 kl_p_X3_mostAlike_0 1 C_p_X3_mostAlike_0 kc_p_X3_mostAlike_0 4000 kd_p_X3_mostAlike_0_18 = true := by decide +kernel
theorem kt_p_X3_mostAlike_0_19 : achk1 hkMost D_X3_mostAlike 5 TXP fld_3 put_3 cst_3 cstl_3 kl_p_X3_mostAlike_0 1 C_p_X3_mostAlike_0 kc_p_X3_mostAlike_0 4000 kd_p_X3_mostAlike_0_19 = true := by decide +kernel
theorem kt_p_X3_mostAlike_0_20 : achk1 hkMost D_X3_mostAlike 5 TXP fld_3 put_3 cst_3 cstl_3 kl_p_X3_mostAlike_0 1 C_p_X3_mostAlike_0 kc_p_X3_mostAlike_0 4000 kd_p_X3_mostAlike_0_20 = true := by decide +kernel
theorem kt_p_X3_mostAlike_0_21 : achk1 hkMost D_X3_mostAlike 5 TXP fld_3 put_3 cst_3 cstl_3 kl_p_X3_mostAlike_0 1 C_p_X3_mostAlike_0 kc_p_X3_mostAlike_0 4000 kd_p_X3_mostAlike_0_21 = true := by decide +kernel
theorem kt_p_X3_mostAlike_0_22 : achk1 hkMost D_X3_mostAlike 5 TXP fld_3 put_3 cst_3 cstl_3 kl_p_X3_mostAlike_0 1 C_p_X3_mostAlike_0 kc_p_X3_mostAlike_0 4000 kd_p_X3_mostAlike_0_22 = true := by decide +kernel
theorem kt_p_X3_mostAlike_0_23 : achk1 hkMost D_X3_mostAlike 5 TXP fld_3 put_3 cst_3 cstl_3 kl_p_X3_mostAlike_0 1 C_p_X3_mostAlike_0 kc_p_X3_mostAlike_0 4000 kd_p_X3_mostAlike_0_23 = true := by decide +kernel
theorem kt_p_X3_mostAlike_0_24 : achk1 hkMost D_X3_mostAlike 5 TXP fld_3 put_3 cst_3 cstl_3 kl_p_X3_mostAlike_0 1 C_p_X3_mostAlike_0 kc_p_X3_mostAlike_0 4000 kd_p_X3_mostAlike_0_24 = true := by decide +kernel
theorem kt_p_X3_mostAlike_0_25 : achk1 hkMost D_X3_mostAlike 5 TXP fld_3 put_3 cst_3 cstl_3 kl_p_X3_mostAlike_0 1 C_p_X3_mostAlike_0 kc_p_X3_mostAlike_0 4000 kd_p_X3_mostAlike_0_25 = true := by decide +kernel
theorem kt_p_X3_mostAlike_0_26 : achk1 hkMost D_X3_mostAlike 5 TXP fld_3 put_3 cst_3 cstl_3 kl_p_X3_mostAlike_0 1 C_p_X3_mostAlike_0 kc_p_X3_mostAlike_0 4000 kd_p_X3_mostAlike_0_26 = true := by decide +kernel
theorem kt_p_X3_mostAlike_0_27 : achk1 hkMost D_X3_mostAlike 5 TXP fld_3 put_3 cst_3 cstl_3 kl_p_X3_mostAlike_0 1 C_p_X3_mostAlike_0 kc_p_X3_mostAlike_0 4000 kd_p_X3_mostAlike_0_27 = true := by decide +kernel
theorem kt_p_X3_mostAlike_0_28 : achk1 hkMost D_X3_mostAlike 5 TXP fld_3 put_3 cst_3 cstl_3 kl_p_X3_mostAlike_0 1 C_p_X3_mostAlike_0 kc_p_X3_mostAlike_0 4000 kd_p_X3_mostAlike_0_28 = true := by decide +kernel
theorem kt_p_X3_mostAlike_0_29 : achk1 hkMost D_X3_mostAlike 5 TXP fld_3 put_3 cst_3 cstl_3 kl_p_X3_mostAlike_0 1 C_p_X3_mostAlike_0 kc_p_X3_mostAlike_0 4000 kd_p_X3_mostAlike_0_29 = true := by decide +kernel
theorem kz_p_X3_mostAlike_0 : achk0 hkMost D_X3_mostAlike 5 TXP fld_3 put_3 cst_3 cstl_3 kl_p_X3_mostAlike_0 1 C_p_X3_mostAlike_0 kc_p_X3_mostAlike_0 4000 = true := by decide +kernel
set_option maxRecDepth 100000 in
theorem ac_p_X3_mostAlike_0 (l : Launch) (G : KG) : ACtP (GC G) l G TXP yX3_mostAlike cX3_mostAlike 5 (some .int) C_p_X3_mostAlike_0 := acertP (Φ := GC G) (hk := hkMost) (tab := D_X3_mostAlike) (fld := fld_3) (put := put_3) (cst := cst_3) (cstl := cstl_3) (cal := kl_p_X3_mostAlike_0) (rk := 1) (cuts := kc_p_X3_mostAlike_0) (fuel := 4000) (by decide) (Or.inr (Or.inl ⟨rfl, rfl⟩)) fld_3_ok put_3_ok cst_3_ok cstl_3_ok (List.forall_mem_cons.mpr ⟨cok_v k_3_46 (ac_p_X3_tallied_0 l G) rfl rfl rfl rfl rfl rfl, List.forall_mem_cons.mpr ⟨cok_m (row_mmax k_3_50.1 k_3_50.2.1 k_3_50.2.2.1 k_3_50.2.2.2.1), fun _ h => absurd h List.not_mem_nil⟩⟩) D_X3_mostAlike_ok (fun w0 hP => hkMost_ok hP (by decide) (by decide) (by decide)) (acheck_of kz_p_X3_mostAlike_0 (List.forall_mem_cons.mpr ⟨kt_p_X3_mostAlike_0_0, List.forall_mem_cons.mpr ⟨kt_p_X3_mostAlike_0_1, List.forall_mem_cons.mpr ⟨kt_p_X3_mostAlike_0_2, List.forall_mem_cons.mpr ⟨kt_p_X3_mostAlike_0_3, List.forall_mem_cons.mpr ⟨kt_p_X3_mostAlike_0_4, List.forall_mem_cons.mpr ⟨kt_p_X3_mostAlike_0_5, List.forall_mem_cons.mpr ⟨kt_p_X3_mostAlike_0_6, List.forall_mem_cons.mpr ⟨kt_p_X3_mostAlike_0_7, List.forall_mem_cons.mpr ⟨kt_p_X3_mostAlike_0_8, List.forall_mem_cons.mpr ⟨kt_p_X3_mostAlike_0_9, List.forall_mem_cons.mpr ⟨kt_p_X3_mostAlike_0_10, List.forall_mem_cons.mpr ⟨kt_p_X3_mostAlike_0_11, List.forall_mem_cons.mpr ⟨kt_p_X3_mostAlike_0_12, List.forall_mem_cons.mpr ⟨kt_p_X3_mostAlike_0_13, List.forall_mem_cons.mpr ⟨kt_p_X3_mostAlike_0_14, List.forall_mem_cons.mpr ⟨kt_p_X3_mostAlike_0_15, List.forall_mem_cons.mpr ⟨kt_p_X3_mostAlike_0_16, List.forall_mem_cons.mpr ⟨kt_p_X3_mostAlike_0_17, List.forall_mem_cons.mpr ⟨kt_p_X3_mostAlike_0_18, List.forall_mem_cons.mpr ⟨kt_p_X3_mostAlike_0_19, List.forall_mem_cons.mpr ⟨kt_p_X3_mostAlike_0_20, List.forall_mem_cons.mpr ⟨kt_p_X3_mostAlike_0_21, List.forall_mem_cons.mpr ⟨kt_p_X3_mostAlike_0_22, List.forall_mem_cons.mpr ⟨kt_p_X3_mostAlike_0_23, List.forall_mem_cons.mpr ⟨kt_p_X3_mostAlike_0_24, List.forall_mem_cons.mpr ⟨kt_p_X3_mostAlike_0_25, List.forall_mem_cons.mpr ⟨kt_p_X3_mostAlike_0_26, List.forall_mem_cons.mpr ⟨kt_p_X3_mostAlike_0_27, List.forall_mem_cons.mpr ⟨kt_p_X3_mostAlike_0_28, List.forall_mem_cons.mpr ⟨kt_p_X3_mostAlike_0_29, fun _ h => absurd h List.not_mem_nil⟩⟩⟩⟩⟩⟩⟩⟩⟩⟩⟩⟩⟩⟩⟩⟩⟩⟩⟩⟩⟩⟩⟩⟩⟩⟩⟩⟩⟩⟩))
end
section
/-! the hook: how many pulls make the size that most make -/
theorem afr_filter {lv : ALv} {st : List Nat} {ev : AEv} {ca : ACa} {rl : ARl} {nx : Nat} {f : Nat × Nat × Nat → Bool} (h : afr (lv, st, ev, ca, rl, nx) = true) : afr (lv, st, ev, ca.filter f, rl, nx) = true := by
  obtain ⟨h0, h1, h2, h3, h4, h5⟩ := afr_ok h
  exact afr_mk ⟨h0, h1, h2, h3, fun q hq => h4 q (List.mem_filter.mp hq).1, h5⟩
abbrev mk_ma : List (Nat × Nat) := C_p_X3_mostAlike_0.2.2.2.2.1
noncomputable def hkNar : HKT := fun pc σ => bif Nat.beq pc 67 then (match σ.2.1 with
  | y :: x :: st => bif pId σ.2.2.1 x 2 && (decide ((aty σ.2.2.1 x).2.1 = 109) && (pId σ.2.2.1 y 0 && Nat.ble (scat σ.2.2.1 st) 8)) then some [(70, ((σ.1, σ.2.2.2.2.2 :: st, (σ.2.2.2.2.2, tI0) :: σ.2.2.1, σ.2.2.2.1.filter (fun q => !(mkq mk_ma q.1 q.2.1)), σ.2.2.2.2.1, σ.2.2.2.2.2 + 1) : AS))] else none
  | _ => none) else none
theorem hkNar_ok {l : Launch} {G : KG} {cc : ByteArray} {nL : Nat} {ret : Option FieldType} {Rf Rl : Nat} {mk : List (Nat × Nat)} {w0 : va_W} (hP : GC G w0) (hmk : mkq mk 111 0 = false) (hcov : cov mk mk_ma = true) (hRf : C_p_X3_mostAlike_0.2.2.2.2.2.1 + 1 ≤ Rf) (hRl : 8 + (5 + 11) + C_p_X3_mostAlike_0.2.2.2.2.2.2 ≤ Rl) (d0 : decode cc 67 = .ok (.invokevirtual 300, 3)) : HOKP l G TXP RX10 cc nL ret Rf Rl hkNar mk w0 := by
  intro p e R s m args below meth c A nm Q kc ks X eRf eRl hkc hks ad pin pc σ L hf h k
  obtain ⟨lv, st, ev, ca, rl, nx⟩ := σ
  unfold hkNar at h
  cases hb : Nat.beq pc 67 with
  | false => rw [hb] at h; cases h
  | true =>
    have hb := Nat.eq_of_beq_eq_true hb
    subst hb
    rw [Nat.beq_refl] at h
    match st, h, hf with
    | [], h, _ => cases h
    | [x], h, _ => cases h
    | y :: x :: st, h, hf =>
      have h : (bif pId ev x 2 && (decide ((aty ev x).2.1 = 109) && (pId ev y 0 && Nat.ble (scat ev st) 8)) then some [(70, ((lv, nx :: st, (nx, tI0) :: ev, ca.filter (fun q => !(mkq mk_ma q.1 q.2.1)), rl, nx + 1) : AS))] else none) = some L := h
      cases hc : (pId ev x 2 && (decide ((aty ev x).2.1 = 109) && (pId ev y 0 && Nat.ble (scat ev st) 8))) with
      | false => rw [hc] at h; cases h
      | true =>
        rw [hc] at h
        cases h
        have k := k _ List.mem_cons_self
        obtain ⟨c0, hc⟩ := and2 hc
        obtain ⟨c1, hc⟩ := and2 hc
        obtain ⟨c2, c3⟩ := and2 hc
        have c1 := of_decide_eq_true c1
        intro ν lw sw ws hg
        obtain ⟨h1, h2, h3⟩ := hg
        have h3 : AK G ad TXP mk w0 pin (lv, y :: x :: st, ev, ca, rl, nx) ν ws := h3
        have h2 : sw = ν y :: ν x :: st.map ν := h2
        obtain ⟨b, hb⟩ := h3.int (pId_ok c2)
        have ht := h3.ref (pId_ok c0)
        rw [c1] at ht
        have ht : ν x = .ref (ad 109) := ht
        have hW := h3.2.2.2.2.2.1
        have hGC := hP.frm h3.2.2.2.2.2.2 hmk
        obtain ⟨μ, hμ⟩ : ∃ μ : Nat → Value, μ = fun i => if i = 0 then .ref (ad 109) else .int b := ⟨_, rfl⟩
        have m0 : μ 0 = .ref (ad 109) := by rw [hμ]; rfl
        have m1 : μ 1 = .int b := by rw [hμ]; rfl
        have hpre : PRE ad C_p_X3_mostAlike_0 μ ws := by
          refine ⟨fun j t hj => ?_, fun j q hj => ?_, fun q hq => ?_⟩
          · match j, hj with
            | 0, hj => cases hj; rw [m0]; exact Or.inr (Or.inr (Or.inl ⟨rfl, rfl⟩))
            | 1, hj => cases hj; rw [m1]; exact vty_i0 _
            | n + 2, hj => cases hj
          · cases hj
          · cases hq
        have hct := ac_p_X3_mostAlike_0 l G ad ws μ hW hpre hGC
        have e0 : (List.range C_p_X3_mostAlike_0.1.length).map μ = [.ref (ad 109), .int b] := by show [μ 0, μ 1] = _; rw [m0, m1]
        rw [e0] at hct
        rw [h2, ht, hb]
        refine hcallV (T := TXP) (k := 109) (rest := st.map ν) (avs := [.int b]) X k_10_300 hct d0 hW rfl rfl rfl rfl ⟨by rw [← eRf]; exact hRf, by rw [← eRl]; exact hRl⟩ ⟨hkc, hks⟩ (Nat.le_trans (cat12_ok h3 st) (Nat.le_of_ble_eq_true c3)) rfl (fun r w1 hp => ?_)
        obtain ⟨A1, hA1, μ2, -, -, q3, -, -, -, q7, q8⟩ := hp
        have e := List.mem_singleton.mp hA1
        subst e
        obtain ⟨r1, r2⟩ := q3
        obtain ⟨v, ev', -⟩ := vty0 r2 rfl
        rw [r1, ev']
        have g0 : AG G ad TXP mk w0 pin (lv, st, ev, ca.filter (fun q => !(mkq mk_ma q.1 q.2.1)), rl, nx) ν lw (st.map ν) w1 := AG.world (st2 := st) ⟨h1, h2, h3⟩ q7 q8 hcov
        exact k _ _ _ _ (AG.push (nr := []) g0 (afr_filter (afr_pop (afr_pop hf))) (vty_i0 v) (fun q hq => absurd hq List.not_mem_nil))
end
section
def D_X10_findNarrowest : DT := [(0, .aload_n 1, 1), (1, .getfield 268, 3), (4, .iconst 1, 1), (5, .iadd, 1), (6, .istore 4, 2), (8, .iconst 0, 1), (9, .istore 5, 2), (11, .iload 5, 2), (13, .aload_n 0, 1), (14, .getfield 26, 3), (17, .getfield 136, 3), (20, .if_icmp .ge 87, 3), (23, .aload_n 0, 1), (24, .getfield 26, 3), (27, .getfield 116, 3), (30, .iload 5, 2), (32, .iaload, 1), (33, .ifCond .eq 6, 3), (36, .goto 65, 3), (39, .iconst 1, 1), (40, .istore 6, 2), (42, .iload 6, 2), (44, .iload_n 3, 1), (45, .if_icmp .gt 56, 3), (48, .iload 4, 2), (50, .iconst 1, 1), (51, .if_icmp .le 50, 3), (54, .aload_n 0, 1), (55, .aload_n 1, 1), (56, .iload_n 2, 1), (57, .iload 5, 2), (59, .iload 6, 2), (61, .invokevirtual 281, 3), (64, .aload_n 1, 1), (65, .iload 4, 2), (67, .invokevirtual 300, 3), (70, .istore 7, 2), (72, .iload 7, 2), (74, .iload 4, 2), (76, .if_icmp .ge 19, 3), (79, .iload 7, 2), (81, .istore 4, 2), (83, .aload_n 1, 1), (84, .iload 5, 2), (86, .putfield 275, 3), (89, .aload_n 1, 1), (90, .iload 6, 2), (92, .putfield 278, 3), (95, .iinc 6 1, 3), (98, .goto (-56), 3), (101, .iinc 5 1, 3), (104, .goto (-93), 3), (107, .iload 4, 2), (109, .ireturn, 1)]
theorem D_X10_findNarrowest_ok : dtOK cX10_findNarrowest D_X10_findNarrowest = true := by decide +kernel
abbrev C_p_X10_findNarrowest_0 : CE := ([(2, 0, 0), (2, 109, 0), (0, 0, 5), (0, 1, 9)], [], [], [(some (0, -2147483648, 14642), [], [(109, 0, (0, 0, 14641))], [(50, 200, 1)])], [(109, 1), (109, 2), (112, 999), (113, 999), (114, 999), (115, 999)], 3, 74)
theorem ac_p_X10_findNarrowest_0 (l : Launch) (G : KG) : ACtP (GC G) l G TXP yX10_findNarrowest cX10_findNarrowest 8 (some .int) C_p_X10_findNarrowest_0 := acertP (Φ := GC G) (hk := hkNar) (tab := D_X10_findNarrowest) (fld := fld_10) (put := put_10) (cst := cst_10) (cstl := cstl_10) (cal := [(281, 0, 7, C_p_X10_feelWithHung_0)]) (rk := 1) (cuts := [(11, ([(0, 0, false), (1, 1, false), (2, 2, false), (3, 3, false), (4, 500, false), (5, 501, false)], [], [(0, (2, 0, 0)), (1, (2, 109, 0)), (2, (0, 0, 5)), (3, (0, 1, 9)), (500, (0, -2147483648, 14642)), (501, (0, 0, 16)), (502, (0, 0, 14641))], [(109, 0, 502)], [(500, 502, 1)], 1000), 193, [(12, 501), (0, 2)]), (42, ([(0, 0, false), (1, 1, false), (2, 2, false), (3, 3, false), (4, 500, false), (5, 501, false), (6, 502, false)], [], [(0, (2, 0, 0)), (1, (2, 109, 0)), (2, (0, 0, 5)), (3, (0, 1, 9)), (500, (0, -2147483648, 14642)), (501, (0, 0, 15)), (502, (0, 1, 10)), (503, (2, 5, 0)), (504, (0, 1, 16)), (505, (2, 6, 0)), (506, (0, 0, 14641))], [(0, 2, 503), (5, 0, 504), (5, 1, 505), (109, 0, 506)], [(500, 506, 1), (501, 504, -1), (502, 3, 1)], 1000), 192, [(12, 501), (1, 502)])]) (fuel := 4000) (by decide) (Or.inr (Or.inl ⟨rfl, rfl⟩)) fld_10_ok put_10_ok cst_10_ok cstl_10_ok (List.forall_mem_cons.mpr ⟨cok_v k_10_281 (ac_p_X10_feelWithHung_0 l G) rfl rfl rfl rfl rfl rfl, fun _ h => absurd h List.not_mem_nil⟩) D_X10_findNarrowest_ok (fun w0 hP => hkNar_ok hP (by decide) (by decide) (by decide) (by decide) (by decide +kernel)) (by decide +kernel)
end
section
/-! the pulls that agree, gathered -/
section GAS
variable {p : Program} {l : Launch} {e : Env} {s : State} {m : MethodId} {args : Array Value} {below : List Frame} {meth : Method} {c : Code} {G : KG} {A : Nat → Prop} {ad : Nat → Nat} {w0 : va_W}
/-- an int field set: typed as before, where no array leans on it -/
theorem wt_setIP {ws : va_W} (hW : WT G ad TXP ws) {k ci j : Nat} {a b : Int} {ts : List VT} {v : Int32} {fs : List Value} (hT : TXP[k]? = some (.inl (ci, ts))) (ht : ts[j]? = some (0, a, b)) (hf : ws[k]? = some (ad k, ob ci fs)) (h1 : a ≤ v.toInt) (h2 : v.toInt ≤ b) : WT G ad TXP (ws.set k (ad k, ob ci (fs.set j (.int v)))) := by
  refine hW.setO hT ht hf (vty_i h1 h2) (fun k' n t' g1 g2 _ _ => ?_)
  have h9 : TXP.all (fun te => match te with | .inr o => !(Nat.beq o.1 0) || Nat.ble o.2.2.1 1 | .inl _ => true) = true := by decide
  have h8 := List.all_eq_true.mp h9 _ (List.mem_of_getElem? g1)
  have h8 : Nat.ble t'.1 1 = true := h8
  have := Nat.le_of_ble_eq_true h8
  omega
theorem GC.setO {ws : va_W} (h : GC G ws) {k ci a : Nat} {fs : List Value} (hk : k ≠ 111) : GC G (ws.set k (a, ob ci fs)) := by
  obtain ⟨b, f, h1, h2⟩ := h
  exact ⟨b, f, by rw [set_other hk]; exact h1, h2⟩
abbrev mk_ga : List (Nat × Nat) := [(109, 0), (111, 999)]
abbrev rm_ga : Room := { frames := 3, cells := 0, slots := 0, locals := 73 }
def GApo (G : KG) (ad : Nat → Nat) (w0 : va_W) : Option Value → va_W → Prop := fun r w1 => r = none ∧ WT G ad TXP w1 ∧ FRM mk_ga w0 w1 ∧ GC G w1
def GAw (G : KG) (ad : Nat → Nat) (w0 : va_W) (n : Int32) (ws : va_W) : Prop := WT G ad TXP ws ∧ FRM mk_ga w0 ws ∧ GC G ws ∧ fget ws 109 0 = some (.int n)
theorem GAw.cnt {n v : Int32} {ws : va_W} (h : GAw G ad w0 n ws) (v0 : 0 ≤ v.toInt) (v1 : v.toInt ≤ 14641) : ∃ fs, ws[109]? = some (ad 109, ob 3 fs) ∧ 0 < fs.length ∧ GAw G ad w0 v (ws.set 109 (ad 109, ob 3 (fs.set 0 (.int v)))) := by
  obtain ⟨h1, h2, h3, h4⟩ := h
  obtain ⟨fs, o1, o2⟩ := fget_ob (T := TXP) h1 (k := 109) (j := 0) rfl h4
  refine ⟨fs, o1, lt_of_getE o2, wt_setIP h1 rfl rfl o1 v0 v1, frm_setO h2 o1 (by decide), h3.setO (by decide), ?_⟩
  rw [fget_of (set_same o1)]
  exact List.getElem?_set_self (lt_of_getE o2)
theorem GAw.put {n : Int32} {ws : va_W} (h : GAw G ad w0 n ws) {v : Int32} (hv : gcode v) (k : Nat) : ∃ f, ws[111]? = some (ad 111, aI G 14641 f) ∧ GAw G ad w0 n (ws.set 111 (ad 111, aI G 14641 (upd f k v))) := by
  obtain ⟨h1, h2, ⟨b, f, h3, h5⟩, h4⟩ := h
  have e := WT.adr (T := TXP) (k := 111) h1 rfl h3
  rw [e] at h3
  refine ⟨f, h3, WT.wr h1 rfl h3 hv.1 hv.2.1, h2.wr (x := (cyI G, 14641, .inl f)) (b := 0) (by decide), ⟨ad 111, _, set_same h3, fun q hq => ?_⟩, by rw [fget_arr_eq h3]; exact h4⟩
  unfold upd
  split
  · exact hv
  · exact h5 q hq
theorem ga_in {i : Int32} (X : ZC p s m args meth c cX3_gather 4 RX3 G A none "gather") (i0 : 0 ≤ i.toInt) (i1 : i.toInt ≤ 120)
    (hK : ∀ (n : Int32) (ws : va_W), GAw G ad w0 n ws → 0 ≤ n.toInt → n.toInt ≤ 121 * i.toInt + 121 → Z p l e rm_ga s m args below meth c 4 G A (MQ below (QQ G A (GApo G ad w0)) args s 0 0 A) 69 [(0, .ref (ad 109)), (1, .ref (ad 22)), (2, .int i)] [] ws 0 0) :
    ∀ (N : Nat) (j n : Int32) (ws : va_W), GAw G ad w0 n ws → 0 ≤ n.toInt → n.toInt ≤ 121 * i.toInt + j.toInt → 0 ≤ j.toInt → j.toInt ≤ 121 → (121 - j.toInt).toNat < N → Z p l e rm_ga s m args below meth c 4 G A (MQ below (QQ G A (GApo G ad w0)) args s 0 0 A) 15 [(0, .ref (ad 109)), (1, .ref (ad 22)), (2, .int i), (3, .int j)] [] ws 0 0
  | 0, _, _, _, _, _, _, _, _, h9 => absurd h9 (Nat.not_lt_zero _)
  | N + 1, j, n, ws, hB, n0, n1, j0, j1, h9 => by
    refine z_iload_n X d_ga_15 rfl 3 rfl ?_
    refine z_bipush X d_ga_16 (v := 121) (by decide) ?_
    refine zc_ge X d_ga_18 (tgt := 69) (by decide) (a := j.toInt) (b := 121) rfl rfl (fun hge => Z.mono (fun q hq => by simp only [List.mem_cons, List.not_mem_nil, or_false] at hq ⊢; rcases hq with h | h | h <;> simp [h]) (hK n ws hB n0 (by omega))) (fun hlt => ?_)
    refine z_aload_n X d_ga_21 rfl 1 rfl ?_
    refine z_iload_n X d_ga_22 rfl 2 rfl ?_
    refine z_bipush X d_ga_23 (v := 60) (by decide) ?_
    refine z_isub X d_ga_25 ?_
    refine z_iload_n X d_ga_26 rfl 3 rfl ?_
    refine z_bipush X d_ga_27 (v := 60) (by decide) ?_
    refine z_isub X d_ga_29 ?_
    have on : ∀ (n2 : Int32) (w2 : va_W), GAw G ad w0 n2 w2 → 0 ≤ n2.toInt → n2.toInt ≤ 121 * i.toInt + (j.toInt + 1) → Z p l e rm_ga s m args below meth c 4 G A (MQ below (QQ G A (GApo G ad w0)) args s 0 0 A) 63 [(0, .ref (ad 109)), (1, .ref (ad 22)), (2, .int i), (3, .int j)] [] w2 0 0 := by
      intro n2 w2 hB2 q0 q1
      refine z_iinc X d_ga_63 (k := 3) rfl rfl (by decide) (lv' := [(3, .int (j + Int32.ofInt (1))), (0, .ref (ad 109)), (1, .ref (ad 22)), (2, .int (i))]) rfl ?_
      refine z_goto X d_ga_66 (tgt := 15) (by decide) ?_
      have e1 : (j + Int32.ofInt 1).toInt = j.toInt + 1 := tI_add rfl (show (Int32.ofInt 1).toInt = 1 by decide) (by omega)
      exact Z.mono (fun q hq => by simp only [List.mem_cons, List.not_mem_nil, or_false] at hq ⊢; rcases hq with h | h | h | h <;> simp [h]) (ga_in X i0 i1 hK N (j + Int32.ofInt 1) n2 w2 hB2 q0 (by omega) (by omega) (by omega) (by omega))
    obtain ⟨μ, hμ⟩ : ∃ μ : Nat → Value, μ = fun k => if k = 0 then .ref (ad 22) else if k = 1 then .int (((i) - ((60 : Int32)))) else .int (((j) - ((60 : Int32)))) := ⟨_, rfl⟩
    have m0 : μ 0 = .ref (ad 22) := by rw [hμ]; rfl
    have m1 : μ 1 = .int (((i) - ((60 : Int32)))) := by rw [hμ]; rfl
    have m2 : μ 2 = .int (((j) - ((60 : Int32)))) := by rw [hμ]; rfl
    have hpre : PRE ad C_p_X9_firstAgainst_0 μ ws := by
      refine ⟨fun k t hk => ?_, fun k q hk => ?_, fun q hq => ?_⟩
      · match k, hk with
        | 0, hk => cases hk; rw [m0]; exact Or.inr (Or.inr (Or.inl ⟨rfl, rfl⟩))
        | 1, hk => cases hk; rw [m1]; exact vty_i0 _
        | 2, hk => cases hk; rw [m2]; exact vty_i0 _
        | N + 3, hk => cases hk
      · cases hk
      · cases hq
    have hct := ac_p_X9_firstAgainst_0 l G ad ws μ hB.1 hpre
    have e0 : (List.range C_p_X9_firstAgainst_0.1.length).map μ = [.ref (ad 22), .int (((i) - ((60 : Int32)))), .int (((j) - ((60 : Int32))))] := by show [μ 0, μ 1, μ 2] = _; rw [m0, m1, m2]
    rw [e0] at hct
    refine hcallV (T := TXP) (k := 22) (rest := []) (avs := [.int (((i) - ((60 : Int32)))), .int (((j) - ((60 : Int32))))]) X k_3_36 hct d_ga_30 hB.1 rfl rfl rfl rfl ⟨by decide, by decide⟩ ⟨Nat.le_refl 0, Nat.le_refl 0⟩ (by decide) rfl (fun r w1 hp => ?_)
    obtain ⟨A1, hA1, μ2, -, -, q3, -, -, -, q7, q8⟩ := hp
    have ee := List.mem_singleton.mp hA1
    subst ee
    obtain ⟨r1, r2⟩ := q3
    obtain ⟨v, ev', -⟩ := vty0 r2 rfl
    rw [r1, ev']
    have hB1 : GAw G ad w0 n w1 := ⟨q7, frm_trans hB.2.1 q8 (by decide), hB.2.2.1.frm q8 (by decide), fget_frame q8 (by decide) hB.2.2.2⟩
    refine z_bipush X d_ga_33 (v := (-2)) (by decide) ?_
    refine zc_ne X d_ga_35 (tgt := 63) (by decide) (a := v.toInt) (b := -2) rfl rfl (fun _ => on n w1 hB1 n0 (by omega)) (fun _ => ?_)
    obtain ⟨f, f1, hB3⟩ := hB1.put (v := (i <<< ((7 : Int32) &&& 31)) ||| j) (mkcode i0 i1 j0 (by omega)) n.toNatClampNeg
    have vn : vp_in n 14641 := vp_of n0 (by omega)
    refine z_aload_n X d_ga_38 rfl 0 rfl ?_
    refine hget (T := TXP) X hB1.1 (idx := 15) (fld_3_ok _ (by decide : (15, 3, 4) ∈ fld_3)) d_ga_39 rfl (fget_ref hB1.1 rfl rfl) ?_
    refine z_aload_n X d_ga_42 rfl 0 rfl ?_
    refine hget (T := TXP) X hB1.1 (idx := 32) (fld_3_ok _ (by decide : (32, 3, 0) ∈ fld_3)) d_ga_43 rfl (hB1.2.2.2) ?_
    refine z_iload_n X d_ga_46 rfl 2 rfl ?_
    refine z_bipush X d_ga_47 (v := 7) (by decide) ?_
    refine z_ishl X d_ga_49 ?_
    refine z_iload_n X d_ga_50 rfl 3 rfl ?_
    refine z_ior X d_ga_51 ?_
    refine z_iast X d_ga_52 111 (f1) (vn) rfl ?_
    generalize hgen : w1.set 111 (ad 111, aI G 14641 (upd f n.toNatClampNeg ((i <<< ((7 : Int32) &&& 31)) ||| j))) = w3 at hB3
    refine z_aload_n X d_ga_53 rfl 0 rfl ?_
    refine z_dup X d_ga_54 rfl ?_
    refine hget (T := TXP) X hB3.1 (idx := 32) (fld_3_ok _ (by decide : (32, 3, 0) ∈ fld_3)) d_ga_55 rfl (hB3.2.2.2) ?_
    refine z_iconst X d_ga_58 (v := 1) (by decide) ?_
    refine z_iadd X d_ga_59 ?_
    have e2 : (n + 1).toInt = n.toInt + 1 := tI_add rfl rfl (by omega)
    obtain ⟨fs, o1, o2, hB4⟩ := hB3.cnt (v := n + 1) (by omega) (by omega)
    refine put_row (ad := ad) X (put_3_ok (32, 3, 0, 0) (by decide)) (t := (0, 0, 14641)) (by decide) d_ga_60 o1 o2 (vty_i (by show (0 : Int) ≤ (n + 1).toInt; omega) (by show (n + 1).toInt ≤ 14641; omega)) ?_
    exact on (n + 1) _ hB4 (by omega) (by omega)
theorem ga_out (X : ZC p s m args meth c cX3_gather 4 RX3 G A none "gather") : ∀ (N : Nat) (i n : Int32) (ws : va_W), GAw G ad w0 n ws → 0 ≤ n.toInt → n.toInt ≤ 121 * i.toInt → 0 ≤ i.toInt → i.toInt ≤ 121 → (121 - i.toInt).toNat < N → Z p l e rm_ga s m args below meth c 4 G A (MQ below (QQ G A (GApo G ad w0)) args s 0 0 A) 7 [(0, .ref (ad 109)), (1, .ref (ad 22)), (2, .int i)] [] ws 0 0
  | 0, _, _, _, _, _, _, _, _, h9 => absurd h9 (Nat.not_lt_zero _)
  | N + 1, i, n, ws, hB, n0, n1, i0, i1, h9 => by
    refine z_iload_n X d_ga_7 rfl 2 rfl ?_
    refine z_bipush X d_ga_8 (v := 121) (by decide) ?_
    refine zc_ge X d_ga_10 (tgt := 75) (by decide) (a := i.toInt) (b := 121) rfl rfl (fun hge => z_vret X rfl d_ga_75 (Nat.le_refl 0) (Nat.le_refl 0) ⟨rfl, hB.1, hB.2.1, hB.2.2.1⟩) (fun hlt => ?_)
    refine z_iconst X d_ga_13 (v := 0) (by decide) ?_
    refine z_istore_n X d_ga_14 rfl (by decide) (lv' := [(3, .int ((0 : Int32))), (0, .ref (ad 109)), (1, .ref (ad 22)), (2, .int (i))]) rfl ?_
    refine Z.mono (fun q hq => by simp only [List.mem_cons, List.not_mem_nil, or_false] at hq ⊢; rcases hq with h | h | h | h <;> simp [h]) (ga_in (i := i) X i0 (by omega) (fun n2 w2 hB2 q0 q1 => ?_) _ 0 n ws hB n0 (by show n.toInt ≤ 121 * i.toInt + 0; omega) (by decide) (by decide) (Nat.lt_succ_self _))
    refine z_iinc X d_ga_69 (k := 2) rfl rfl (by decide) (lv' := [(2, .int (i + Int32.ofInt (1))), (0, .ref (ad 109)), (1, .ref (ad 22))]) rfl ?_
    refine z_goto X d_ga_72 (tgt := 7) (by decide) ?_
    have e1 : (i + Int32.ofInt 1).toInt = i.toInt + 1 := tI_add rfl (show (Int32.ofInt 1).toInt = 1 by decide) (by omega)
    exact Z.mono (fun q hq => by simp only [List.mem_cons, List.not_mem_nil, or_false] at hq ⊢; rcases hq with h | h | h <;> simp [h]) (ga_out X N (i + Int32.ofInt 1) n2 w2 hB2 q0 (by omega) (by omega) (by omega) (by omega))
end GAS
theorem ac_gather (l : Launch) (G : KG) {ad : Nat → Nat} {w0 : va_W} (hW : WT G ad TXP w0) (hG : GC G w0) : Ct l G yX3_gather cX3_gather 4 none rm_ga [.ref (ad 109), .ref (ad 22)] w0 (GApo G ad w0) := by
  refine ct_of [(0, .ref (ad 109)), (1, .ref (ad 22))] (by decide) (Nat.le_of_ble_eq_true rfl) rfl ?_
  intro p e s m args below meth c A X
  obtain ⟨n, hn, -⟩ := fget_int (T := TXP) (k := 109) (j := 0) hW rfl rfl
  have hB0 : GAw G ad w0 n w0 := ⟨hW, ⟨rfl, fun _ _ _ => rfl⟩, hG, hn⟩
  obtain ⟨fs, o1, o2, hB⟩ := hB0.cnt (v := 0) (by decide) (by decide)
  refine z_aload_n X d_ga_0 rfl 0 rfl ?_
  refine z_iconst X d_ga_1 (v := 0) (by decide) ?_
  refine put_row (ad := ad) X (put_3_ok (32, 3, 0, 0) (by decide)) (t := (0, 0, 14641)) (by decide) d_ga_2 o1 o2 (vty_i (by decide) (by decide)) ?_
  refine z_iconst X d_ga_5 (v := 0) (by decide) ?_
  refine z_istore_n X d_ga_6 rfl (by decide) (lv' := [(2, .int ((0 : Int32))), (0, .ref (ad 109)), (1, .ref (ad 22))]) rfl ?_
  exact Z.mono (fun q hq => by simp only [List.mem_cons, List.not_mem_nil, or_false] at hq ⊢; rcases hq with h | h | h <;> simp [h]) (ga_out X _ 0 0 _ hB (by decide) (by decide) (by decide) (by decide) (Nat.lt_succ_self _))
end
section
/-! the pulls that make another size, dropped -/
abbrev rm_ka : Room := { frames := 1, cells := 0, slots := 0, locals := 21 }
section KAS
variable {p : Program} {l : Launch} {e : Env} {s : State} {m : MethodId} {args : Array Value} {below : List Frame} {meth : Method} {c : Code} {G : KG} {A : Nat → Prop} {ad : Nat → Nat} {w0 : va_W}
theorem ka_loop {sz : Int64} {n : Int32} (X : ZC p s m args meth c cX3_keepAlike 7 RX3 G A none "keepAlike") (n1 : n.toInt ≤ 14641) : ∀ (N : Nat) (le i : Int32) (ws : va_W), GAw G ad w0 n ws → 0 ≤ le.toInt → le.toInt ≤ i.toInt → i.toInt ≤ n.toInt → (n.toInt - i.toInt).toNat < N → Z p l e rm_ka s m args below meth c 7 G A (MQ below (QQ G A (GApo G ad w0)) args s 0 0 A) 23 [(0, .ref (ad 109)), (3, .long sz), (5, .int le), (6, .int i)] [] ws 0 0
  | 0, _, _, _, _, _, _, _, h9 => absurd h9 (Nat.not_lt_zero _)
  | N + 1, le, i, ws, hB, l0, l1, i1, h9 => by
    refine z_iload X d_ka_23 3 rfl ?_
    refine z_aload_n X d_ka_25 rfl 0 rfl ?_
    refine hget (T := TXP) X hB.1 (idx := 32) (fld_3_ok _ (by decide : (32, 3, 0) ∈ fld_3)) d_ka_26 rfl (hB.2.2.2) ?_
    refine zc_ge X d_ka_29 (tgt := 71) (by decide) (a := i.toInt) (b := n.toInt) rfl rfl (fun hge => ?_) (fun hlt => ?_)
    · skip
      refine z_aload_n X d_ka_71 rfl 0 rfl ?_
      refine z_iload X d_ka_72 2 rfl ?_
      obtain ⟨fs, o1, o2, hB4⟩ := hB.cnt (v := le) l0 (by omega)
      refine put_row (ad := ad) X (put_3_ok (32, 3, 0, 0) (by decide)) (t := (0, 0, 14641)) (by decide) d_ka_74 o1 o2 (vty_i l0 (by show le.toInt ≤ 14641; omega)) ?_
      exact z_vret X rfl d_ka_77 (Nat.le_refl 0) (Nat.le_refl 0) ⟨rfl, hB4.1, hB4.2.1, hB4.2.2.1⟩
    have on : ∀ (le2 : Int32) (w2 : va_W), GAw G ad w0 n w2 → 0 ≤ le2.toInt → le2.toInt ≤ i.toInt + 1 → Z p l e rm_ka s m args below meth c 7 G A (MQ below (QQ G A (GApo G ad w0)) args s 0 0 A) 65 [(0, .ref (ad 109)), (3, .long sz), (5, .int le2), (6, .int i)] [] w2 0 0 := by
      intro le2 w2 hB2 q0 q1
      refine z_iinc X d_ka_65 (k := 3) rfl rfl (by decide) (lv' := [(6, .int (i + Int32.ofInt (1))), (0, .ref (ad 109)), (3, .long (sz)), (5, .int (le2))]) rfl ?_
      refine z_goto X d_ka_68 (tgt := 23) (by decide) ?_
      have e1 : (i + Int32.ofInt 1).toInt = i.toInt + 1 := tI_add rfl (show (Int32.ofInt 1).toInt = 1 by decide) (by omega)
      exact Z.mono (fun q hq => by simp only [List.mem_cons, List.not_mem_nil, or_false] at hq ⊢; rcases hq with h | h | h | h <;> simp [h]) (ka_loop (sz := sz) X n1 N le2 (i + Int32.ofInt 1) w2 hB2 q0 (by omega) (by omega) (by omega))
    obtain ⟨b, f, f1, f2⟩ := hB.2.2.1
    have f1 : ws[111]? = some (ad 111, aI G 14641 f) := by
      have g9 := f1
      rw [WT.adr (T := TXP) hB.1 rfl f1] at g9
      exact g9
    have vi : vp_in i 14641 := vp_of (by omega) (by omega)
    have vl : vp_in le 14641 := vp_of l0 (by omega)
    have hgi := f2 i.toNatClampNeg (by have e9 : i.toNatClampNeg = i.toInt.toNat := rfl; omega)
    refine z_aload_n X d_ka_32 rfl 0 rfl ?_
    refine z_aload_n X d_ka_33 rfl 0 rfl ?_
    refine hget (T := TXP) X hB.1 (idx := 15) (fld_3_ok _ (by decide : (15, 3, 4) ∈ fld_3)) d_ka_34 rfl (fget_ref hB.1 rfl rfl) ?_
    refine z_iload X d_ka_37 3 rfl ?_
    refine z_iald X d_ka_39 111 (f1) (vi) rfl ?_
    refine hcallV (T := TXP) (k := 109) (rest := []) (avs := [.int (f i.toNatClampNeg)]) X k_3_42 (ac_sizeMade l G hB.1 hgi) d_ka_40 hB.1 rfl rfl rfl rfl ⟨by decide, by decide⟩ ⟨Nat.le_refl 0, Nat.le_refl 0⟩ (by decide) rfl (fun r w1 hp => ?_)
    obtain ⟨hw, v, rfl⟩ := hp
    subst hw
    refine z_lload_n X d_ka_43 rfl 1 rfl ?_
    refine zl_ne X d_ka_44 d_ka_45 (tgt := 65) (by decide) (a := v.toInt) (b := sz.toInt) rfl rfl (fun _ => on le w1 hB l0 (by omega)) (fun _ => ?_)
    obtain ⟨f', f1', hB3⟩ := hB.put (v := f i.toNatClampNeg) hgi le.toNatClampNeg
    have ef : f' = f := by
      rw [f1] at f1'
      exact (Sum.inl.inj (congrArg (fun z : ClassId × vp_A => z.2.2) (Sum.inl.inj (congrArg Prod.snd (Option.some.inj f1'))))).symm
    subst ef
    refine z_aload_n X d_ka_48 rfl 0 rfl ?_
    refine hget (T := TXP) X hB.1 (idx := 15) (fld_3_ok _ (by decide : (15, 3, 4) ∈ fld_3)) d_ka_49 rfl (fget_ref hB.1 rfl rfl) ?_
    refine z_iload X d_ka_52 2 rfl ?_
    refine z_aload_n X d_ka_54 rfl 0 rfl ?_
    refine hget (T := TXP) X hB.1 (idx := 15) (fld_3_ok _ (by decide : (15, 3, 4) ∈ fld_3)) d_ka_55 rfl (fget_ref hB.1 rfl rfl) ?_
    refine z_iload X d_ka_58 3 rfl ?_
    refine z_iald X d_ka_60 111 (f1) (vi) rfl ?_
    refine z_iast X d_ka_61 111 (f1) (vl) rfl ?_
    generalize hgen : w1.set 111 (ad 111, aI G 14641 (upd f' le.toNatClampNeg (f' i.toNatClampNeg))) = w3 at hB3
    refine z_iinc X d_ka_62 (k := 2) rfl rfl (by decide) (lv' := [(5, .int (le + Int32.ofInt (1))), (0, .ref (ad 109)), (3, .long (sz)), (6, .int (i))]) rfl ?_
    have e2 : (le + Int32.ofInt 1).toInt = le.toInt + 1 := tI_add rfl (show (Int32.ofInt 1).toInt = 1 by decide) (by omega)
    exact Z.mono (fun q hq => by simp only [List.mem_cons, List.not_mem_nil, or_false] at hq ⊢; rcases hq with h | h | h | h <;> simp [h]) (on (le + Int32.ofInt 1) w3 hB3 (by omega) (by omega))
end KAS
theorem ac_keepAlike (l : Launch) (G : KG) {ad : Nat → Nat} {w0 : va_W} (hW : WT G ad TXP w0) (hG : GC G w0) {x y : Int32} (x0 : -60 ≤ x.toInt) (x1 : x.toInt ≤ 60) (y0 : -60 ≤ y.toInt) (y1 : y.toInt ≤ 60) : Ct l G yX3_keepAlike cX3_keepAlike 7 none rm_ka [.ref (ad 109), .int x, .int y] w0 (GApo G ad w0) := by
  refine ct_of [(0, .ref (ad 109)), (1, .int x), (2, .int y)] (by decide) (Nat.le_of_ble_eq_true rfl) rfl ?_
  intro p e s m args below meth c A X
  obtain ⟨n, hn, n0, n1⟩ := fget_int (T := TXP) (k := 109) (j := 0) hW rfl rfl
  have hB : GAw G ad w0 n w0 := ⟨hW, ⟨rfl, fun _ _ _ => rfl⟩, hG, hn⟩
  have ex : (x + 60).toInt = x.toInt + 60 := tI_add rfl rfl (by omega)
  have ey : (y + 60).toInt = y.toInt + 60 := tI_add rfl rfl (by omega)
  have hg := mkcode (i := x + 60) (j := y + 60) (by omega) (by omega) (by omega) (by omega)
  refine z_aload_n X d_ka_0 rfl 0 rfl ?_
  refine z_iload_n X d_ka_1 rfl 1 rfl ?_
  refine z_bipush X d_ka_2 (v := 60) (by decide) ?_
  refine z_iadd X d_ka_4 ?_
  refine z_bipush X d_ka_5 (v := 7) (by decide) ?_
  refine z_ishl X d_ka_7 ?_
  refine z_iload_n X d_ka_8 rfl 2 rfl ?_
  refine z_bipush X d_ka_9 (v := 60) (by decide) ?_
  refine z_iadd X d_ka_11 ?_
  refine z_ior X d_ka_12 ?_
  refine hcallV (T := TXP) (k := 109) (rest := []) (avs := [.int (((x + 60) <<< ((7 : Int32) &&& 31)) ||| (y + 60))]) X k_3_42 (ac_sizeMade l G hW hg) d_ka_13 hW rfl rfl rfl rfl ⟨by decide, by decide⟩ ⟨Nat.le_refl 0, Nat.le_refl 0⟩ (by decide) rfl (fun r w1 hp => ?_)
  obtain ⟨hw, v, rfl⟩ := hp
  subst hw
  refine z_lstore_n X d_ka_16 rfl (by decide) (lv' := [(3, .long (v)), (0, .ref (ad 109)), (1, .int (x)), (2, .int (y))]) rfl ?_
  refine z_iconst X d_ka_17 (v := 0) (by decide) ?_
  refine z_istore X d_ka_18 (by decide) (lv' := [(5, .int ((0 : Int32))), (3, .long (v)), (0, .ref (ad 109)), (1, .int (x)), (2, .int (y))]) rfl ?_
  refine z_iconst X d_ka_20 (v := 0) (by decide) ?_
  refine z_istore X d_ka_21 (by decide) (lv' := [(6, .int ((0 : Int32))), (5, .int ((0 : Int32))), (3, .long (v)), (0, .ref (ad 109)), (1, .int (x)), (2, .int (y))]) rfl ?_
  exact Z.mono (fun q hq => by simp only [List.mem_cons, List.not_mem_nil, or_false] at hq ⊢; rcases hq with h | h | h | h <;> simp [h]) (ka_loop (sz := v) X n1 _ 0 0 w1 hB (by decide) (by decide) n0 (Nat.lt_succ_self _))
end
section
theorem d_X3_init_1 : decode cX3_init 1 = .ok (.invokespecial 3, 3) := by decide +kernel
theorem d_X3_init_7 : decode cX3_init 7 = .ok (.newarray .int, 2) := by decide +kernel
theorem d_X3_init_9 : decode cX3_init 9 = .ok (.putfield 9, 3) := by decide +kernel
theorem d_X3_init_16 : decode cX3_init 16 = .ok (.newarray .int, 2) := by decide +kernel
theorem d_X3_init_18 : decode cX3_init 18 = .ok (.putfield 15, 3) := by decide +kernel
theorem d_X3_init_24 : decode cX3_init 24 = .ok (.newarray .long, 2) := by decide +kernel
theorem d_X3_init_26 : decode cX3_init 26 = .ok (.putfield 18, 3) := by decide +kernel
theorem d_X3_init_32 : decode cX3_init 32 = .ok (.newarray .long, 2) := by decide +kernel
theorem d_X3_init_34 : decode cX3_init 34 = .ok (.putfield 22, 3) := by decide +kernel
theorem d_X3_init_38 : decode cX3_init 38 = .ok (.ldc 25, 2) := by decide +kernel
theorem d_X3_init_40 : decode cX3_init 40 = .ok (.newarray .long, 2) := by decide +kernel
theorem d_X3_init_42 : decode cX3_init 42 = .ok (.putfield 26, 3) := by decide +kernel
theorem d_X3_init_46 : decode cX3_init 46 = .ok (.ldc 25, 2) := by decide +kernel
theorem d_X3_init_48 : decode cX3_init 48 = .ok (.newarray .int, 2) := by decide +kernel
theorem d_X3_init_50 : decode cX3_init 50 = .ok (.putfield 29, 3) := by decide +kernel
theorem d_X3_init_53 : decode cX3_init 53 = .ok (.return_, 1) := by decide +kernel
abbrev bb_X3_init_0_1 : ZB := [(.aload_n 0, .null)]
theorem bk_X3_init_0_1 : zchk cX3_init bb_X3_init_0_1 0 = true ∧ zpc bb_X3_init_0_1 0 = 1 := ⟨by decide +kernel, rfl⟩
abbrev bb_X3_init_4_7 : ZB := [(.aload_n 0, .null), (.bipush 6, .int 6)]
theorem bk_X3_init_4_7 : zchk cX3_init bb_X3_init_4_7 4 = true ∧ zpc bb_X3_init_4_7 4 = 7 := ⟨by decide +kernel, rfl⟩
abbrev bb_X3_init_12_16 : ZB := [(.aload_n 0, .null), (.sipush 14641, .int 14641)]
theorem bk_X3_init_12_16 : zchk cX3_init bb_X3_init_12_16 12 = true ∧ zpc bb_X3_init_12_16 12 = 16 := ⟨by decide +kernel, rfl⟩
abbrev bb_X3_init_21_24 : ZB := [(.aload_n 0, .null), (.bipush 121, .int 121)]
theorem bk_X3_init_21_24 : zchk cX3_init bb_X3_init_21_24 21 = true ∧ zpc bb_X3_init_21_24 21 = 24 := ⟨by decide +kernel, rfl⟩
abbrev bb_X3_init_29_32 : ZB := [(.aload_n 0, .null), (.bipush 121, .int 121)]
theorem bk_X3_init_29_32 : zchk cX3_init bb_X3_init_29_32 29 = true ∧ zpc bb_X3_init_29_32 29 = 32 := ⟨by decide +kernel, rfl⟩
abbrev bb_X3_init_37_38 : ZB := [(.aload_n 0, .null)]
theorem bk_X3_init_37_38 : zchk cX3_init bb_X3_init_37_38 37 = true ∧ zpc bb_X3_init_37_38 37 = 38 := ⟨by decide +kernel, rfl⟩
abbrev bb_X3_init_45_46 : ZB := [(.aload_n 0, .null)]
theorem bk_X3_init_45_46 : zchk cX3_init bb_X3_init_45_46 45 = true ∧ zpc bb_X3_init_45_46 45 = 46 := ⟨by decide +kernel, rfl⟩
set_option maxHeartbeats 4000000 in
set_option maxRecDepth 100000 in
theorem c_X3_init (l : Launch) (G : KG) (pulls : Nat) : Ct l G yX3_init cX3_init 1 none { frames := 1, cells := 6, slots := 80425, locals := 20 } [.ref pulls] [(pulls, ob 3 [.int 0, .int 0, .int 0, .null, .null, .null, .null, .null, .null])] (fun r w1 => ∃ (pb : Nat), ∃ (pc : Nat), ∃ (px : Nat), ∃ (py : Nat), ∃ (ps : Nat), ∃ (pt : Nat), r = none ∧ w1 = [(pulls, ob 3 [.int 0, .int 0, .int 0, .ref pb, .ref pc, .ref px, .ref py, .ref ps, .ref pt]), (pb, aI G 6 (fun _ => 0)), (pc, aI G 14641 (fun _ => 0)), (px, aJ G 121 (fun _ => 0)), (py, aJ G 121 (fun _ => 0)), (ps, aJ G 32768 (fun _ => 0)), (pt, aI G 32768 (fun _ => 0))]) := by
  refine ct_of [(0, .ref pulls)] (by decide) (Nat.le_of_ble_eq_true rfl) rfl ?_
  intro p0 e0 s0 m0 args0 below0 meth0 c0 A X
  refine z_run X bb_X3_init_0_1 bk_X3_init_0_1 (lv' := [(0, .ref pulls)]) (st' := [.ref pulls]) rfl ?_
  refine z_objInit X oi_3 oi_m oi_c d_X3_init_1 ⟨Nat.le_of_ble_eq_true rfl, Nat.le_of_ble_eq_true rfl⟩ (Nat.le_of_ble_eq_true rfl) ?_
  refine z_run X bb_X3_init_4_7 bk_X3_init_4_7 (lv' := [(0, .ref pulls)]) (st' := [.int 6, .ref pulls]) rfl ?_
  refine z_newa X (atype := .int) (ty := .int) ac_0 rfl (Or.inl rfl) 0 (n := 6) (N' := 6) (a0 := (6, .inl (fun _ => 0))) rfl (fun _ => rfl) (by decide) rfl (Nat.le_of_ble_eq_true rfl) (Nat.le_of_ble_eq_true rfl) (Nat.le_of_ble_eq_true rfl) d_X3_init_7 (fun pb => ?_)
  refine Z.at (pc' := 9) (st' := [.ref pb, .ref pulls]) (ws' := [(pulls, ob 3 [.int 0, .int 0, .int 0, .null, .null, .null, .null, .null, .null]), (pb, aI G 6 (fun _ => 0))]) (kc' := 1) (ks' := 6) rfl rfl rfl rfl rfl ?_
  refine z_put X fl_3_9 d_X3_init_9 0 rfl (ty := (.array .int)) (T := TX3) (N := 9) rfl (Or.inr ⟨rfl, rfl, rfl⟩) (by decide +kernel) rfl (by rfl) (Nat.le_of_ble_eq_true rfl) (ws' := [(pulls, ob 3 [.int 0, .int 0, .int 0, .ref pb, .null, .null, .null, .null, .null]), (pb, aI G 6 (fun _ => 0))]) rfl ?_
  refine z_run X bb_X3_init_12_16 bk_X3_init_12_16 (lv' := [(0, .ref pulls)]) (st' := [.int 14641, .ref pulls]) rfl ?_
  refine z_newa X (atype := .int) (ty := .int) ac_0 rfl (Or.inl rfl) 0 (n := 14641) (N' := 14641) (a0 := (14641, .inl (fun _ => 0))) rfl (fun _ => rfl) (by decide) rfl (Nat.le_of_ble_eq_true rfl) (Nat.le_of_ble_eq_true rfl) (Nat.le_of_ble_eq_true rfl) d_X3_init_16 (fun pc => ?_)
  refine Z.at (pc' := 18) (st' := [.ref pc, .ref pulls]) (ws' := [(pulls, ob 3 [.int 0, .int 0, .int 0, .ref pb, .null, .null, .null, .null, .null]), (pb, aI G 6 (fun _ => 0)), (pc, aI G 14641 (fun _ => 0))]) (kc' := 2) (ks' := 14647) rfl rfl rfl rfl rfl ?_
  refine z_put X fl_3_15 d_X3_init_18 0 rfl (ty := (.array .int)) (T := TX3) (N := 9) rfl (Or.inr ⟨rfl, rfl, rfl⟩) (by decide +kernel) rfl (by rfl) (Nat.le_of_ble_eq_true rfl) (ws' := [(pulls, ob 3 [.int 0, .int 0, .int 0, .ref pb, .ref pc, .null, .null, .null, .null]), (pb, aI G 6 (fun _ => 0)), (pc, aI G 14641 (fun _ => 0))]) rfl ?_
  refine z_run X bb_X3_init_21_24 bk_X3_init_21_24 (lv' := [(0, .ref pulls)]) (st' := [.int 121, .ref pulls]) rfl ?_
  refine z_newa X (atype := .long) (ty := .long) ac_1 rfl (Or.inr (Or.inl rfl)) 1 (n := 121) (N' := 121) (a0 := (121, .inr (.inl (fun _ => 0)))) rfl (fun _ => rfl) (by decide) rfl (Nat.le_of_ble_eq_true rfl) (Nat.le_of_ble_eq_true rfl) (Nat.le_of_ble_eq_true rfl) d_X3_init_24 (fun px => ?_)
  refine Z.at (pc' := 26) (st' := [.ref px, .ref pulls]) (ws' := [(pulls, ob 3 [.int 0, .int 0, .int 0, .ref pb, .ref pc, .null, .null, .null, .null]), (pb, aI G 6 (fun _ => 0)), (pc, aI G 14641 (fun _ => 0)), (px, aJ G 121 (fun _ => 0))]) (kc' := 3) (ks' := 14768) rfl rfl rfl rfl rfl ?_
  refine z_put X fl_3_18 d_X3_init_26 0 rfl (ty := (.array .long)) (T := TX3) (N := 9) rfl (Or.inr ⟨rfl, rfl, rfl⟩) (by decide +kernel) rfl (by rfl) (Nat.le_of_ble_eq_true rfl) (ws' := [(pulls, ob 3 [.int 0, .int 0, .int 0, .ref pb, .ref pc, .ref px, .null, .null, .null]), (pb, aI G 6 (fun _ => 0)), (pc, aI G 14641 (fun _ => 0)), (px, aJ G 121 (fun _ => 0))]) rfl ?_
  refine z_run X bb_X3_init_29_32 bk_X3_init_29_32 (lv' := [(0, .ref pulls)]) (st' := [.int 121, .ref pulls]) rfl ?_
  refine z_newa X (atype := .long) (ty := .long) ac_1 rfl (Or.inr (Or.inl rfl)) 1 (n := 121) (N' := 121) (a0 := (121, .inr (.inl (fun _ => 0)))) rfl (fun _ => rfl) (by decide) rfl (Nat.le_of_ble_eq_true rfl) (Nat.le_of_ble_eq_true rfl) (Nat.le_of_ble_eq_true rfl) d_X3_init_32 (fun py => ?_)
  refine Z.at (pc' := 34) (st' := [.ref py, .ref pulls]) (ws' := [(pulls, ob 3 [.int 0, .int 0, .int 0, .ref pb, .ref pc, .ref px, .null, .null, .null]), (pb, aI G 6 (fun _ => 0)), (pc, aI G 14641 (fun _ => 0)), (px, aJ G 121 (fun _ => 0)), (py, aJ G 121 (fun _ => 0))]) (kc' := 4) (ks' := 14889) rfl rfl rfl rfl rfl ?_
  refine z_put X fl_3_22 d_X3_init_34 0 rfl (ty := (.array .long)) (T := TX3) (N := 9) rfl (Or.inr ⟨rfl, rfl, rfl⟩) (by decide +kernel) rfl (by rfl) (Nat.le_of_ble_eq_true rfl) (ws' := [(pulls, ob 3 [.int 0, .int 0, .int 0, .ref pb, .ref pc, .ref px, .ref py, .null, .null]), (pb, aI G 6 (fun _ => 0)), (pc, aI G 14641 (fun _ => 0)), (px, aJ G 121 (fun _ => 0)), (py, aJ G 121 (fun _ => 0))]) rfl ?_
  refine z_run X bb_X3_init_37_38 bk_X3_init_37_38 (lv' := [(0, .ref pulls)]) (st' := [.ref pulls]) rfl ?_
  refine z_ldc X d_X3_init_38 cn_3_25 ?_
  refine z_newa X (atype := .long) (ty := .long) ac_1 rfl (Or.inr (Or.inl rfl)) 1 (n := 32768) (N' := 32768) (a0 := (32768, .inr (.inl (fun _ => 0)))) rfl (fun _ => rfl) (by decide) rfl (Nat.le_of_ble_eq_true rfl) (Nat.le_of_ble_eq_true rfl) (Nat.le_of_ble_eq_true rfl) d_X3_init_40 (fun ps => ?_)
  refine Z.at (pc' := 42) (st' := [.ref ps, .ref pulls]) (ws' := [(pulls, ob 3 [.int 0, .int 0, .int 0, .ref pb, .ref pc, .ref px, .ref py, .null, .null]), (pb, aI G 6 (fun _ => 0)), (pc, aI G 14641 (fun _ => 0)), (px, aJ G 121 (fun _ => 0)), (py, aJ G 121 (fun _ => 0)), (ps, aJ G 32768 (fun _ => 0))]) (kc' := 5) (ks' := 47657) rfl rfl rfl rfl rfl ?_
  refine z_put X fl_3_26 d_X3_init_42 0 rfl (ty := (.array .long)) (T := TX3) (N := 9) rfl (Or.inr ⟨rfl, rfl, rfl⟩) (by decide +kernel) rfl (by rfl) (Nat.le_of_ble_eq_true rfl) (ws' := [(pulls, ob 3 [.int 0, .int 0, .int 0, .ref pb, .ref pc, .ref px, .ref py, .ref ps, .null]), (pb, aI G 6 (fun _ => 0)), (pc, aI G 14641 (fun _ => 0)), (px, aJ G 121 (fun _ => 0)), (py, aJ G 121 (fun _ => 0)), (ps, aJ G 32768 (fun _ => 0))]) rfl ?_
  refine z_run X bb_X3_init_45_46 bk_X3_init_45_46 (lv' := [(0, .ref pulls)]) (st' := [.ref pulls]) rfl ?_
  refine z_ldc X d_X3_init_46 cn_3_25 ?_
  refine z_newa X (atype := .int) (ty := .int) ac_0 rfl (Or.inl rfl) 0 (n := 32768) (N' := 32768) (a0 := (32768, .inl (fun _ => 0))) rfl (fun _ => rfl) (by decide) rfl (Nat.le_of_ble_eq_true rfl) (Nat.le_of_ble_eq_true rfl) (Nat.le_of_ble_eq_true rfl) d_X3_init_48 (fun pt => ?_)
  refine Z.at (pc' := 50) (st' := [.ref pt, .ref pulls]) (ws' := [(pulls, ob 3 [.int 0, .int 0, .int 0, .ref pb, .ref pc, .ref px, .ref py, .ref ps, .null]), (pb, aI G 6 (fun _ => 0)), (pc, aI G 14641 (fun _ => 0)), (px, aJ G 121 (fun _ => 0)), (py, aJ G 121 (fun _ => 0)), (ps, aJ G 32768 (fun _ => 0)), (pt, aI G 32768 (fun _ => 0))]) (kc' := 6) (ks' := 80425) rfl rfl rfl rfl rfl ?_
  refine z_put X fl_3_29 d_X3_init_50 0 rfl (ty := (.array .int)) (T := TX3) (N := 9) rfl (Or.inr ⟨rfl, rfl, rfl⟩) (by decide +kernel) rfl (by rfl) (Nat.le_of_ble_eq_true rfl) (ws' := [(pulls, ob 3 [.int 0, .int 0, .int 0, .ref pb, .ref pc, .ref px, .ref py, .ref ps, .ref pt]), (pb, aI G 6 (fun _ => 0)), (pc, aI G 14641 (fun _ => 0)), (px, aJ G 121 (fun _ => 0)), (py, aJ G 121 (fun _ => 0)), (ps, aJ G 32768 (fun _ => 0)), (pt, aI G 32768 (fun _ => 0))]) rfl ?_
  exact z_vret X rfl d_X3_init_53 (Nat.le_of_ble_eq_true rfl) (Nat.le_of_ble_eq_true rfl) ⟨pb, pc, px, py, ps, pt, rfl, rfl⟩
end
section
/-! what a call leaves as it was -/
def FX (M : List (Nat × Nat)) (n : Nat) (w0 w1 : va_W) : Prop := ∀ k j, k < n → mkq M k j = false → cget w1 k j = cget w0 k j
theorem FX.refl {M : List (Nat × Nat)} {n : Nat} {w : va_W} : FX M n w w := fun _ _ _ _ => rfl
theorem FX.trans {M : List (Nat × Nat)} {n : Nat} {w0 w1 w2 : va_W} (h1 : FX M n w0 w1) (h2 : FX M n w1 w2) : FX M n w0 w2 := fun k j hk hM => (h2 k j hk hM).trans (h1 k j hk hM)
def msub (n : Nat) (m M : List (Nat × Nat)) : Bool := m.all (fun q => Nat.ble n q.1 || mkq M q.1 q.2)
theorem msub_ok {n : Nat} {m M : List (Nat × Nat)} (h : msub n m M = true) {k j : Nat} (hk : k < n) (hM : mkq M k j = false) : mkq m k j = false := by
  cases hb : mkq m k j with
  | false => rfl
  | true =>
    exfalso
    obtain ⟨q, hq, hb⟩ := List.any_eq_true.mp hb
    obtain ⟨b1, b2⟩ := and2 hb
    have b1 := Nat.eq_of_beq_eq_true b1
    have h1 := List.all_eq_true.mp h q hq
    rw [Bool.or_eq_true] at h1
    rcases h1 with h1 | h1
    · have := Nat.le_of_ble_eq_true h1
      omega
    · obtain ⟨r, hr, hc⟩ := List.any_eq_true.mp h1
      obtain ⟨c1, c2⟩ := and2 hc
      have c1 := Nat.eq_of_beq_eq_true c1
      have hT : mkq M k j = true := by
        refine List.any_eq_true.mpr ⟨r, hr, ?_⟩
        rw [Bool.or_eq_true] at b2 c2
        have e1 : Nat.beq r.1 k = true := by rw [c1, b1]; exact Nat.beq_refl k
        rw [e1, Bool.true_and, Bool.or_eq_true]
        rcases c2 with c2 | c2
        · have c2 := Nat.eq_of_beq_eq_true c2
          rcases b2 with b2 | b2
          · have b2 := Nat.eq_of_beq_eq_true b2
            exact Or.inl (by rw [c2, b2]; exact Nat.beq_refl j)
          · have b2 := Nat.eq_of_beq_eq_true b2
            exact Or.inr (by rw [c2, b2]; rfl)
        · exact Or.inr c2
      rw [hM] at hT
      cases hT
theorem FX.frm {m M : List (Nat × Nat)} {n : Nat} {w0 wa wb : va_W} (h : FX M n w0 wa) (hF : FRM m wa wb) (hs : msub n m M = true) : FX M n w0 wb := fun k j hk hM => (hF.2 k j (msub_ok hs hk hM)).trans (h k j hk hM)
theorem FX.weak {m M : List (Nat × Nat)} {n : Nat} {w0 w1 : va_W} (h : FX m n w0 w1) (hs : msub n m M = true) : FX M n w0 w1 := fun k j hk hM => h k j hk (msub_ok hs hk hM)
theorem FX.get {M : List (Nat × Nat)} {n : Nat} {w0 w1 : va_W} (h : FX M n w0 w1) {k j : Nat} {v : Value} (hk : k < n) (hM : mkq M k j = false) (hf : fget w0 k j = some v) : fget w1 k j = some v := by
  have h1 := h k j hk hM
  unfold fget at hf ⊢
  unfold cget at h1
  cases e0 : w0[k]? with
  | none => rw [e0] at hf; cases hf
  | some q =>
    obtain ⟨a, en⟩ := q
    rw [e0] at hf h1
    cases en with
    | inl x => cases hf
    | inr ob0 =>
      have hf : ob0.2[j]? = some v := hf
      have h1 : _ = (ob0.2[j]?).map Sum.inl := h1
      rw [hf] at h1
      cases e1 : w1[k]? with
      | none => rw [e1] at h1; cases h1
      | some r =>
        obtain ⟨b, en2⟩ := r
        rw [e1] at h1
        cases en2 with
        | inl x => cases h1
        | inr ob1 =>
          have h1 : (ob1.2[j]?).map Sum.inl = some (Sum.inl v) := h1
          cases e2 : ob1.2[j]? with
          | none => rw [e2] at h1; cases h1
          | some u =>
            rw [e2] at h1
            have h2 := Sum.inl.inj (Option.some.inj h1)
            subst h2
            exact e2
theorem fx_app {M : List (Nat × Nat)} {w0 w1 wc : va_W} (h : FX M 109 w0 w1) (h0 : 109 ≤ w0.length) (h1 : 109 ≤ w1.length) : FX M 109 (w0 ++ wc) (w1 ++ wc) := by
  intro k j hk hM
  have := h k j hk hM
  unfold cget at this ⊢
  rw [List.getElem?_append_left (by omega), List.getElem?_append_left (by omega)]
  exact this
/-- what next and enough may write of the class's cells -/
abbrev mk_nxe : List (Nat × Nat) := [(0, 15), (1, 999), (2, 999), (29, 999), (30, 999), (31, 999)]
def GF (G : KG) (ω w : va_W) : Prop := GC G w ∧ FX mk_nxe 109 ω w
theorem GF.frm {G : KG} {m : List (Nat × Nat)} {ω wa wb : va_W} (h : GF G ω wa) (hF : FRM m wa wb) (hm : mkq m 111 0 = false ∧ msub 109 m mk_nxe = true) : GF G ω wb := ⟨h.1.frm hF hm.1, h.2.frm hF hm.2⟩
theorem GC.setA {G : KG} {ws : va_W} (h : GC G ws) {k a : Nat} {en : va_E} (hk : k ≠ 111) : GC G (ws.set k (a, en)) := by
  obtain ⟨b, f, h1, h2⟩ := h
  exact ⟨b, f, by rw [set_other hk]; exact h1, h2⟩
theorem GF.setA {G : KG} {ω ws : va_W} (h : GF G ω ws) {k a : Nat} {en : va_E} (hk : k ≠ 111 ∧ 109 ≤ k) : GF G ω (ws.set k (a, en)) :=
  ⟨h.1.setA hk.1, fun i j hi hM => by
    rw [cget_arr (show i ≠ k by omega)]
    exact h.2 i j hi hM⟩
end
section
/-! the pulls, fetched or made -/
theorem d_gp_0 : decode cX10_gatherPulls 0 = .ok (.aload_n 0, 1) := by decide +kernel
theorem d_gp_1 : decode cX10_gatherPulls 1 = .ok (.getfield 291, 3) := by decide +kernel
theorem d_gp_4 : decode cX10_gatherPulls 4 = .ok (.ifnonnull 14, 3) := by decide +kernel
theorem d_gp_7 : decode cX10_gatherPulls 7 = .ok (.aload_n 0, 1) := by decide +kernel
theorem d_gp_8 : decode cX10_gatherPulls 8 = .ok (.new 269, 3) := by decide +kernel
theorem d_gp_11 : decode cX10_gatherPulls 11 = .ok (.dup, 1) := by decide +kernel
theorem d_gp_12 : decode cX10_gatherPulls 12 = .ok (.invokespecial 295, 3) := by decide +kernel
theorem d_gp_15 : decode cX10_gatherPulls 15 = .ok (.putfield 291, 3) := by decide +kernel
theorem d_gp_18 : decode cX10_gatherPulls 18 = .ok (.aload_n 0, 1) := by decide +kernel
theorem d_gp_19 : decode cX10_gatherPulls 19 = .ok (.invokevirtual 242, 3) := by decide +kernel
theorem d_gp_22 : decode cX10_gatherPulls 22 = .ok (.aload_n 0, 1) := by decide +kernel
theorem d_gp_23 : decode cX10_gatherPulls 23 = .ok (.getfield 291, 3) := by decide +kernel
theorem d_gp_26 : decode cX10_gatherPulls 26 = .ok (.aload_n 0, 1) := by decide +kernel
theorem d_gp_27 : decode cX10_gatherPulls 27 = .ok (.getfield 47, 3) := by decide +kernel
theorem d_gp_30 : decode cX10_gatherPulls 30 = .ok (.invokevirtual 296, 3) := by decide +kernel
theorem d_gp_33 : decode cX10_gatherPulls 33 = .ok (.aload_n 0, 1) := by decide +kernel
theorem d_gp_34 : decode cX10_gatherPulls 34 = .ok (.getfield 291, 3) := by decide +kernel
theorem d_gp_37 : decode cX10_gatherPulls 37 = .ok (.areturn, 1) := by decide +kernel
section GPS
variable {p : Program} {l : Launch} {e : Env} {R : Room} {s : State} {m : MethodId} {args : Array Value} {below : List Frame} {meth : Method} {c : Code} {G : KG} {ω : va_W} {A : Nat → Prop} {ad : Nat → Nat} {kc ks mc ms : Nat} {PO : Option Value → va_W → Prop}
theorem gp_tail {ws : va_W} (X : ZC p s m args meth c cX10_gatherPulls 1 RX10 G A (some (.object "StoneThatShakes$Pulls")) "gatherPulls") (hW : WT G ad TXP ws) (hG : GF G ω ws) (hR1 : 4 ≤ R.frames) (hR2 : 96 ≤ R.locals) (hc : kc ≤ R.cells) (hs : ks ≤ R.slots) (hmc : kc ≤ mc) (hms : ks ≤ ms) (hPO : ∀ w1, WT G ad TXP w1 → GF G ω w1 → w1.length = ws.length → PO (some (.ref (ad 109))) w1) : Z p l e R s m args below meth c 1 G A (MQ below (QQ G A PO) args s mc ms A) 18 [(0, .ref (ad 0))] [] ws kc ks := by
  refine z_aload_n X d_gp_18 rfl 0 rfl ?_
  obtain ⟨μ, hμ⟩ : ∃ μ : Nat → Value, μ = fun _ => .ref (ad 0) := ⟨_, rfl⟩
  have m0 : μ 0 = .ref (ad 0) := by rw [hμ]
  have hpre : PRE ad C_p_X10_prepareTrials_0 μ ws := by
    refine ⟨fun k t hk => ?_, fun k q hk => ?_, fun q hq => ?_⟩
    · match k, hk with
      | 0, hk => cases hk; rw [m0]; exact Or.inr (Or.inr (Or.inl ⟨rfl, rfl⟩))
      | N + 1, hk => cases hk
    · cases hk
    · cases hq
  have hct := ac_p_X10_prepareTrials_0 l G ad ws μ hW hpre
  have e0 : (List.range C_p_X10_prepareTrials_0.1.length).map μ = [.ref (ad 0)] := by show [μ 0] = _; rw [m0]
  rw [e0] at hct
  refine hcallV (T := TXP) (k := 0) (rest := []) (avs := []) X k_10_242 hct d_gp_19 hW rfl rfl rfl rfl ⟨by show 2 + 1 ≤ R.frames; omega, by show 8 + (3 + 11) + 48 ≤ R.locals; omega⟩ ⟨hc, hs⟩ (by decide) rfl (fun r w1 hp => ?_)
  obtain ⟨A1, hA1, μ2, -, -, q3, -, -, -, q7, q8⟩ := hp
  have ee := List.mem_singleton.mp hA1
  subst ee
  have r1 : r = none := q3
  subst r1
  have hG1 := hG.frm q8 (by decide)
  refine z_aload_n X d_gp_22 rfl 0 rfl ?_
  refine hget (T := TXP) X q7 (idx := 291) (fld_10_ok _ (by decide : (291, 10, 15) ∈ fld_10)) d_gp_23 rfl (fget_ref q7 rfl rfl) ?_
  refine z_aload_n X d_gp_26 rfl 0 rfl ?_
  refine hget (T := TXP) X q7 (idx := 47) (fld_10_ok _ (by decide : (47, 10, 5) ∈ fld_10)) d_gp_27 rfl (fget_ref q7 rfl rfl) ?_
  refine hcallV (T := TXP) (k := 109) (rest := []) (avs := [.ref (ad 22)]) X k_10_296 (ac_gather l G q7 hG1.1) d_gp_30 q7 rfl rfl rfl rfl ⟨by show 3 + 1 ≤ R.frames; omega, by show 8 + (4 + 11) + 73 ≤ R.locals; omega⟩ ⟨hc, hs⟩ (by decide) rfl (fun r w3 hp => ?_)
  obtain ⟨rfl, g1, g3, g2⟩ := hp
  refine z_aload_n X d_gp_33 rfl 0 rfl ?_
  refine hget (T := TXP) X g1 (idx := 291) (fld_10_ok _ (by decide : (291, 10, 15) ∈ fld_10)) d_gp_34 rfl (fget_ref g1 rfl rfl) ?_
  exact z_aret X rfl (Or.inl ⟨_, rfl⟩) d_gp_37 hmc hms (hPO _ g1 ⟨g2, hG1.2.frm g3 (by decide)⟩ (g3.1.trans q8.1))
end GPS
/-- where they are made already -/
theorem ac_gpR (l : Launch) (G : KG) {ω : va_W} {ad : Nat → Nat} {w0 : va_W} (hW : WT G ad TXP w0) (hG : GF G ω w0) : Ct l G yX10_gatherPulls cX10_gatherPulls 1 (some (.object "StoneThatShakes$Pulls")) { frames := 4, cells := 0, slots := 0, locals := 96 } [.ref (ad 0)] w0 (fun r w1 => r = some (.ref (ad 109)) ∧ WT G ad TXP w1 ∧ GF G ω w1 ∧ w1.length = w0.length) := by
  refine ct_of [(0, .ref (ad 0))] (by decide) (Nat.le_of_ble_eq_true rfl) rfl ?_
  intro p e s m args below meth c A X
  refine z_aload_n X d_gp_0 rfl 0 rfl ?_
  refine hget (T := TXP) X hW (idx := 291) (fld_10_ok _ (by decide : (291, 10, 15) ∈ fld_10)) d_gp_1 rfl (fget_ref hW rfl rfl) ?_
  refine z_ifnonnull X d_gp_4 (tgt := 18) (by decide) ?_
  exact gp_tail X hW hG (by decide) (by decide) (Nat.le_refl 0) (Nat.le_refl 0) (Nat.le_refl 0) (Nat.le_refl 0) (fun w1 h1 h2 h3 => ⟨rfl, h1, h2, h3⟩)
end
section
/-- where they are made now -/
def ad7 (ad : Nat → Nat) (l : List Nat) : Nat → Nat := fun k => if k < 109 then ad k else (l[k - 109]?).getD 0
theorem ad7_lo {ad : Nat → Nat} {l : List Nat} {k : Nat} (h : k < 109) : ad7 ad l k = ad k := if_pos h
theorem vty_ad7 {ad : Nat → Nat} {l : List Nat} {t : VT} {v : Value} (h : vty ad t v) (ht : t.1 = 2 → t.2.1.toNat < 109) : vty (ad7 ad l) t v := by
  rcases h with h | h | ⟨h1, h2⟩ | h
  · exact Or.inl h
  · exact Or.inr (Or.inl h)
  · exact Or.inr (Or.inr (Or.inl ⟨h1, by rw [h2, ad7_lo (ht h1)]⟩))
  · exact Or.inr (Or.inr (Or.inr h))
def tlow : TE → Bool
  | .inl q => q.2.all (fun t => !(Nat.beq t.1 2) || Nat.blt t.2.1.toNat 109)
  | .inr o => !(Nat.beq o.1 3) || (List.range o.2.1).all (fun k => Nat.blt (o.2.2.2.1.toNat + k * o.2.2.2.2.toNat) 109)
theorem tlow_TX : TX.all tlow = true := by decide
theorem ety_ad7 {G : KG} {ad : Nat → Nat} {l : List Nat} {te : TE} {en : va_E} (h : ety G ad te en) (ht : tlow te = true) : ety G (ad7 ad l) te en := by
  cases te with
  | inl q =>
    obtain ⟨ci, ts⟩ := q
    obtain ⟨fs, h1, h2, h3⟩ := h
    refine ⟨fs, h1, h2, fun j t v g1 g2 => vty_ad7 (h3 j t v g1 g2) (fun e => ?_)⟩
    have h4 := List.all_eq_true.mp ht t (List.mem_of_getElem? g1)
    rw [e] at h4
    exact blt_lt h4
  | inr o =>
    obtain ⟨kd, n, t⟩ := o
    rcases h with h | h | h | ⟨h0, f, h1, h2⟩
    · exact Or.inl h
    · exact Or.inr (Or.inl h)
    · exact Or.inr (Or.inr (Or.inl h))
    · refine Or.inr (Or.inr (Or.inr ⟨h0, f, h1, fun k hk => ?_⟩))
      subst h0
      have h4 := List.all_eq_true.mp (show (List.range n).all (fun k => Nat.blt (t.2.1.toNat + k * t.2.2.toNat) 109) = true from ht) k (List.mem_range.mpr hk)
      rw [h2 k hk, ad7_lo (blt_lt h4)]
theorem nopfx {G : KG} {ws : va_W} : PFX G TXP ws := by
  intro k n t a f c i h1 h2 _ _ _
  have h9 : TXP.all (fun te => match te with | .inr o => !(Nat.beq o.1 0) || Nat.ble o.2.2.1 1 | .inl _ => true) = true := by decide
  have h8 := List.all_eq_true.mp h9 _ (List.mem_of_getElem? h1)
  have h8 : Nat.ble t.1 1 = true := h8
  have := Nat.le_of_ble_eq_true h8
  omega
def fty (te : Option TE) (j : Nat) : Option VT := match te with
  | some (Sum.inl q) => q.2[j]?
  | _ => none
theorem fty_eq : ∀ j, j < 16 → 15 ≠ j → fty TX[0]? j = fty TXP[0]? j
  | 0, _, _ => rfl
  | 1, _, _ => rfl
  | 2, _, _ => rfl
  | 3, _, _ => rfl
  | 4, _, _ => rfl
  | 5, _, _ => rfl
  | 6, _, _ => rfl
  | 7, _, _ => rfl
  | 8, _, _ => rfl
  | 9, _, _ => rfl
  | 10, _, _ => rfl
  | 11, _, _ => rfl
  | 12, _, _ => rfl
  | 13, _, _ => rfl
  | 14, _, _ => rfl
  | 15, _, h => absurd rfl h
  | n + 16, h, _ => by omega
set_option maxRecDepth 100000 in
theorem TXP_tail : TXP.drop 1 = TX.drop 1 ++ TXP.drop 109 := rfl
set_option maxRecDepth 100000 in
theorem TXP_eq {k : Nat} (h : k < 109) (h0 : 0 < k) : TXP[k]? = TX[k]? := by
  have e1 : TXP[k]? = (TXP.drop 1)[k - 1]? := by rw [List.getElem?_drop, show 1 + (k - 1) = k by omega]
  have e2 : TX[k]? = (TX.drop 1)[k - 1]? := by rw [List.getElem?_drop, show 1 + (k - 1) = k by omega]
  have hl : (TX.drop 1).length = 108 := rfl
  have e3 : (TX.drop 1 ++ TXP.drop 109)[k - 1]? = (TX.drop 1)[k - 1]? := List.getElem?_append_left (by rw [hl]; omega)
  rw [← TXP_tail] at e3
  exact e1.trans (e3.trans e2.symm)
abbrev c7 (G : KG) (a pb pc px py ps pt : Nat) : va_W := [(a, ob 3 [.int 0, .int 0, .int 0, .ref pb, .ref pc, .ref px, .ref py, .ref ps, .ref pt]), (pb, aI G 6 (fun _ => 0)), (pc, aI G 14641 (fun _ => 0)), (px, aJ G 121 (fun _ => 0)), (py, aJ G 121 (fun _ => 0)), (ps, aJ G 32768 (fun _ => 0)), (pt, aI G 32768 (fun _ => 0))]
theorem wt_made {G : KG} {ad : Nat → Nat} {w0 : va_W} (hW : WT G ad TX w0) (hl : w0.length = 109) {fs : List Value} (o1 : w0[0]? = some (ad 0, ob 10 fs)) (a pb pc px py ps pt : Nat) : WT G (ad7 ad [a, pb, pc, px, py, ps, pt]) TXP ((w0 ++ c7 G a pb pc px py ps pt).set 0 (ad 0, ob 10 (fs.set 15 (.ref a)))) := by
  refine ⟨?_, fun k te hk => ?_, nopfx⟩
  · rw [List.length_set, List.length_append, hl]; show 116 ≤ 109 + 7; decide
  · rcases Nat.lt_or_ge k 109 with h | h
    · rcases Nat.eq_zero_or_pos k with h0 | h0
      · subst h0
        obtain ⟨en, e1, e2⟩ := hW.2.1 0 _ rfl
        rw [o1] at e1
        have e3 := congrArg Prod.snd (Option.some.inj e1)
        have e3 : ob 10 fs = en := e3
        subst e3
        obtain ⟨fs', f1, f2, f3⟩ := e2
        have f1 : fs = fs' := congrArg Prod.snd (Sum.inr.inj f1)
        subst f1
        have hte := Option.some.inj hk
        refine ⟨ob 10 (fs.set 15 (.ref a)), set_same (q := (ad 0, ob 10 fs)) (by rw [List.getElem?_append_left (by omega)]; exact o1), ?_⟩
        rw [← hte]
        refine ⟨_, rfl, by rw [List.length_set]; exact f2, fun j t v g1 g2 => ?_⟩
        rcases Nat.decEq 15 j with hj | hj
        · rw [List.getElem?_set_ne hj] at g2
          have hlt : j < 16 := (List.getElem?_eq_some_iff.mp g1).1
          have g3 : fty TX[0]? j = some t := by rw [fty_eq j hlt hj]; exact g1
          refine vty_ad7 (f3 j t v g3 g2) (fun e => ?_)
          have h5 := List.all_eq_true.mp tlow_TX _ (List.mem_of_getElem? (show TX[0]? = some _ from rfl))
          have h4 := List.all_eq_true.mp h5 t (List.mem_of_getElem? g3)
          rw [e] at h4
          exact blt_lt h4
        · subst hj
          have g4 := Option.some.inj g1
          rw [List.getElem?_set_self (by rw [f2]; decide)] at g2
          rw [← Option.some.inj g2, ← g4]
          exact Or.inr (Or.inr (Or.inl ⟨rfl, rfl⟩))
      · rw [TXP_eq h h0] at hk
        obtain ⟨en, e1, e2⟩ := hW.2.1 k _ hk
        refine ⟨en, ?_, ety_ad7 e2 (List.all_eq_true.mp tlow_TX _ (List.mem_of_getElem? hk))⟩
        rw [set_other (by omega), List.getElem?_append_left (by omega), e1, ad7_lo h]
    · obtain ⟨q, rfl⟩ : ∃ q, k = 109 + q := ⟨k - 109, by omega⟩
      rw [set_other (by omega), List.getElem?_append_right (by omega), hl, show 109 + q - 109 = q by omega]
      have hq : q < 7 := by
        have := (List.getElem?_eq_some_iff.mp hk).1
        have h9 : TXP.length = 116 := rfl
        omega
      have zI : ∀ (n : Nat) (t : VT), t.2.1 ≤ 0 → 0 ≤ t.2.2 → t.1 ≠ 1 → aint n t (fun _ => 0) := fun n t z1 z2 z3 k _ => ⟨z1, z2, fun e => absurd e z3⟩
      match q, hq, hk with
      | 0, _, hk =>
        have hte := Option.some.inj hk
        refine ⟨_, rfl, ?_⟩
        rw [← hte]
        refine ⟨_, rfl, rfl, fun j t v g1 g2 => ?_⟩
        match j, g1, g2 with
        | 0, g1, g2 => rw [← Option.some.inj g1, ← Option.some.inj g2]; exact vty_i (by decide) (by decide)
        | 1, g1, g2 => rw [← Option.some.inj g1, ← Option.some.inj g2]; exact vty_i (by decide) (by decide)
        | 2, g1, g2 => rw [← Option.some.inj g1, ← Option.some.inj g2]; exact vty_i (by decide) (by decide)
        | 3, g1, g2 => rw [← Option.some.inj g1, ← Option.some.inj g2]; exact Or.inr (Or.inr (Or.inl ⟨rfl, rfl⟩))
        | 4, g1, g2 => rw [← Option.some.inj g1, ← Option.some.inj g2]; exact Or.inr (Or.inr (Or.inl ⟨rfl, rfl⟩))
        | 5, g1, g2 => rw [← Option.some.inj g1, ← Option.some.inj g2]; exact Or.inr (Or.inr (Or.inl ⟨rfl, rfl⟩))
        | 6, g1, g2 => rw [← Option.some.inj g1, ← Option.some.inj g2]; exact Or.inr (Or.inr (Or.inl ⟨rfl, rfl⟩))
        | 7, g1, g2 => rw [← Option.some.inj g1, ← Option.some.inj g2]; exact Or.inr (Or.inr (Or.inl ⟨rfl, rfl⟩))
        | 8, g1, g2 => rw [← Option.some.inj g1, ← Option.some.inj g2]; exact Or.inr (Or.inr (Or.inl ⟨rfl, rfl⟩))
        | n + 9, g1, g2 => cases g1
      | 1, _, hk => refine ⟨_, rfl, ?_⟩; rw [← Option.some.inj hk]; exact Or.inl ⟨rfl, _, rfl, zI _ _ (by decide) (by decide) (by decide)⟩
      | 2, _, hk => refine ⟨_, rfl, ?_⟩; rw [← Option.some.inj hk]; exact Or.inl ⟨rfl, _, rfl, zI _ _ (by decide) (by decide) (by decide)⟩
      | 3, _, hk => refine ⟨_, rfl, ?_⟩; rw [← Option.some.inj hk]; exact Or.inr (Or.inl ⟨rfl, _, rfl⟩)
      | 4, _, hk => refine ⟨_, rfl, ?_⟩; rw [← Option.some.inj hk]; exact Or.inr (Or.inl ⟨rfl, _, rfl⟩)
      | 5, _, hk => refine ⟨_, rfl, ?_⟩; rw [← Option.some.inj hk]; exact Or.inr (Or.inl ⟨rfl, _, rfl⟩)
      | 6, _, hk => refine ⟨_, rfl, ?_⟩; rw [← Option.some.inj hk]; exact Or.inl ⟨rfl, _, rfl, zI _ _ (by decide) (by decide) (by decide)⟩
theorem gc_made {G : KG} {w0 : va_W} (hl : w0.length = 109) {x : Nat × va_E} (a pb pc px py ps pt : Nat) : GC G ((w0 ++ c7 G a pb pc px py ps pt).set 0 x) := by
  refine ⟨pc, fun _ => 0, ?_, fun k _ => ⟨by show 0 ≤ (0 : Int32).toInt; decide, by show (0 : Int32).toInt ≤ 15480; decide, by show (0 : Int32).toInt % 128 ≤ 120; decide⟩⟩
  rw [set_other (by decide), List.getElem?_append_right (by omega), hl]
  rfl
theorem fx_made {G : KG} {ad : Nat → Nat} {w0 : va_W} (hl : w0.length = 109) {fs : List Value} (o1 : w0[0]? = some (ad 0, ob 10 fs)) (a pb pc px py ps pt : Nat) : FX mk_nxe 109 w0 ((w0 ++ c7 G a pb pc px py ps pt).set 0 (ad 0, ob 10 (fs.set 15 (.ref a)))) := by
  intro k j hk hM
  have o3 : (w0 ++ c7 G a pb pc px py ps pt)[0]? = some (ad 0, ob 10 fs) := by rw [List.getElem?_append_left (by omega)]; exact o1
  rw [cget_set o3 (fun h => by rw [h.1, h.2] at hM; exact absurd hM (by decide))]
  unfold cget
  rw [List.getElem?_append_left (by omega)]
abbrev rm_gpN : Room := { frames := 4, cells := 7, slots := 80434, locals := 96 }
theorem ac_gpN (l : Launch) (G : KG) {ad : Nat → Nat} {w0 : va_W} (hW : WT G ad TX w0) (hl : w0.length = 109) (hn : fget w0 0 15 = some .null) : Ct l G yX10_gatherPulls cX10_gatherPulls 1 (some (.object RX3)) rm_gpN [.ref (ad 0)] w0 (fun r w1 => ∃ ad' : Nat → Nat, (∀ k, k < 109 → ad' k = ad k) ∧ r = some (.ref (ad' 109)) ∧ WT G ad' TXP w1 ∧ GF G w0 w1 ∧ w1.length = 116) := by
  refine ct_of [(0, .ref (ad 0))] (by decide) (Nat.le_of_ble_eq_true rfl) rfl ?_
  intro p e s m args below meth c A X
  obtain ⟨fs, o1, o2⟩ := fget_ob (T := TX) hW (k := 0) (j := 15) rfl hn
  refine z_aload_n X d_gp_0 rfl 0 rfl ?_
  refine hget (T := TX) X hW (idx := 291) (fld_10_ok _ (by decide : (291, 10, 15) ∈ fld_10)) d_gp_1 rfl hn ?_
  refine z_ifnonnullN X d_gp_4 ?_
  refine z_aload_n X d_gp_7 rfl 0 rfl ?_
  refine z_new X (T := TX3) (N := 9) (ci := 3) rfl wsb_3 tyX3 tyX3_ok cl_10_269 is_3 in_3 (fs := [.int 0, .int 0, .int 0, .null, .null, .null, .null, .null, .null]) (by decide) (Nat.le_of_ble_eq_true rfl) (Nat.le_of_ble_eq_true rfl) d_gp_8 (fun a => ?_)
  refine z_dup X d_gp_11 rfl ?_
  refine z_callIN X k_10_295 (c_X3_init l G a) d_gp_12 ⟨Nat.le_of_ble_eq_true rfl, Nat.le_of_ble_eq_true rfl⟩ ⟨Nat.le_of_ble_eq_true rfl, Nat.le_of_ble_eq_true rfl⟩ rfl (rest := [.ref a, .ref (ad 0)]) (As := []) rfl (Nat.le_of_ble_eq_true rfl) [109] (List.range 109) (by
    show [(w0 ++ _)[109]?] = _
    rw [List.getElem?_append_right (by omega), hl]
    rfl) (by decide) (wr := w0) (by
    have h9 := range_pick w0
    rw [hl] at h9
    rw [← h9]
    refine List.map_congr_left (fun i hi => ?_)
    have := List.mem_range.mp hi
    exact List.getElem?_append_left (by omega)) (va_nd_range _) (by decide) (fun r w1 hp => ?_)
  obtain ⟨pb, pc, px, py, ps, pt, rfl, rfl⟩ := hp
  have o3 : (w0 ++ c7 G a pb pc px py ps pt)[0]? = some (ad 0, ob 10 fs) := by rw [List.getElem?_append_left (by omega)]; exact o1
  refine z_put X fl_10_291 d_gp_15 0 o3 (ty := (.object "StoneThatShakes$Pulls")) (T := TX10) (N := 16) rfl (Or.inl rfl) (by decide +kernel) rfl (by rfl) (lt_of_getE o2) rfl ?_
  have h0 : ad7 ad [a, pb, pc, px, py, ps, pt] 0 = ad 0 := ad7_lo (by decide)
  have ht : Z p l e rm_gpN s m args below meth c 1 G A (MQ below (QQ G A (fun r w1 => ∃ ad' : Nat → Nat, (∀ k, k < 109 → ad' k = ad k) ∧ r = some (.ref (ad' 109)) ∧ WT G ad' TXP w1 ∧ GF G w0 w1 ∧ w1.length = 116)) args s 7 80434 A) 18 [(0, .ref (ad7 ad [a, pb, pc, px, py, ps, pt] 0))] [] ((w0 ++ c7 G a pb pc px py ps pt).set 0 (ad 0, ob 10 (fs.set 15 (.ref a)))) 7 80434 := gp_tail (ad := ad7 ad [a, pb, pc, px, py, ps, pt]) X (wt_made hW hl o1 a pb pc px py ps pt) ⟨gc_made hl a pb pc px py ps pt, fx_made hl o1 a pb pc px py ps pt⟩ (by decide) (by decide) (by decide) (by decide) (Nat.le_refl _) (Nat.le_refl _) (fun w1 h1 h2 h3 => ⟨_, fun k hk => ad7_lo hk, rfl, h1, h2, by rw [h3, List.length_set, List.length_append, hl]; rfl⟩)
  rw [h0] at ht
  exact ht
end
section
/-! next, enough: to the pulls -/
def D_X10_next : DT := [(0, .aload_n 0, 1), (1, .getfield 33, 3), (4, .iload_n 1, 1), (5, .invokevirtual 173, 3), (8, .ifCond .eq 13, 3), (11, .iload_n 2, 1), (12, .iconst 1, 1), (13, .if_icmp .lt 8, 3), (16, .iload_n 2, 1), (17, .iconst 4, 1), (18, .if_icmp .le 5, 3), (21, .iconst (-1), 1), (22, .ireturn, 1), (23, .aload_n 0, 1), (24, .getfield 26, 3), (27, .iconst 0, 1), (28, .invokevirtual 261, 3), (31, .ifCond .ne 6, 3), (34, .bipush (-2), 2), (36, .ireturn, 1), (37, .aload_n 0, 1), (38, .invokevirtual 264, 3), (41, .astore_n 3, 1), (42, .aload_n 3, 1), (43, .getfield 268, 3), (46, .ifCond .ne 6, 3), (49, .bipush (-2), 2), (51, .ireturn, 1), (52, .aload_n 0, 1), (53, .aload_n 3, 1), (54, .iload_n 1, 1), (55, .iload_n 2, 1), (56, .invokevirtual 271, 3), (59, .istore 4, 2), (61, .aload_n 0, 1), (62, .getfield 12, 3), (65, .invokevirtual 180, 3), (68, .aload_n 0, 1), (69, .getfield 12, 3), (72, .aload_n 3, 1), (73, .getfield 275, 3), (76, .i2l, 1), (77, .invokevirtual 183, 3), (80, .aload_n 0, 1), (81, .getfield 12, 3), (84, .aload_n 3, 1), (85, .getfield 278, 3), (88, .i2l, 1), (89, .invokevirtual 183, 3), (92, .iload 4, 2), (94, .ireturn, 1)]
theorem D_X10_next_ok : dtOK cX10_next D_X10_next = true := by decide +kernel
def D_X10_enough : DT := [(0, .aload_n 0, 1), (1, .getfield 33, 3), (4, .iload_n 1, 1), (5, .invokevirtual 173, 3), (8, .ifCond .eq 32, 3), (11, .iload_n 2, 1), (12, .bipush 60, 2), (14, .invokestatic 159, 3), (17, .ifCond .eq 23, 3), (20, .iload_n 3, 1), (21, .bipush 60, 2), (23, .invokestatic 159, 3), (26, .ifCond .eq 14, 3), (29, .aload_n 0, 1), (30, .getfield 26, 3), (33, .iconst 0, 1), (34, .invokevirtual 261, 3), (37, .ifCond .ne 5, 3), (40, .iconst (-1), 1), (41, .ireturn, 1), (42, .aload_n 0, 1), (43, .invokevirtual 242, 3), (46, .aload_n 0, 1), (47, .getfield 47, 3), (50, .iload_n 2, 1), (51, .iload_n 3, 1), (52, .invokevirtual 246, 3), (55, .bipush (-2), 2), (57, .if_icmp .eq 5, 3), (60, .iconst (-1), 1), (61, .ireturn, 1), (62, .aload_n 0, 1), (63, .invokevirtual 264, 3), (66, .astore 4, 2), (68, .iconst 0, 1), (69, .istore 5, 2), (71, .iload 5, 2), (73, .bipush 6, 2), (75, .if_icmp .ge 64, 3), (78, .aload 4, 2), (80, .getfield 268, 3), (83, .iconst 1, 1), (84, .if_icmp .le 55, 3), (87, .aload_n 0, 1), (88, .aload 4, 2), (90, .iload_n 1, 1), (91, .iconst 4, 1), (92, .invokevirtual 271, 3), (95, .pop, 1), (96, .aload_n 0, 1), (97, .aload 4, 2), (99, .iload_n 1, 1), (100, .aload 4, 2), (102, .getfield 275, 3), (105, .aload 4, 2), (107, .getfield 278, 3), (110, .invokevirtual 281, 3), (113, .aload 4, 2), (115, .iload_n 2, 1), (116, .iload_n 3, 1), (117, .invokevirtual 285, 3), (120, .aload 4, 2), (122, .getfield 288, 3), (125, .iload 5, 2), (127, .aload 4, 2), (129, .getfield 268, 3), (132, .iastore, 1), (133, .iinc 5 1, 3), (136, .goto (-65), 3), (139, .aload 4, 2), (141, .getfield 268, 3), (144, .iconst 1, 1), (145, .if_icmp .eq 6, 3), (148, .bipush (-2), 2), (150, .ireturn, 1), (151, .aload_n 0, 1), (152, .getfield 12, 3), (155, .invokevirtual 180, 3), (158, .iconst 0, 1), (159, .istore 6, 2), (161, .iload 6, 2), (163, .iload 5, 2), (165, .if_icmp .ge 25, 3), (168, .aload_n 0, 1), (169, .getfield 12, 3), (172, .aload 4, 2), (174, .getfield 288, 3), (177, .iload 6, 2), (179, .iaload, 1), (180, .i2l, 1), (181, .invokevirtual 183, 3), (184, .iinc 6 1, 3), (187, .goto (-26), 3), (190, .iload 5, 2), (192, .ireturn, 1)]
theorem D_X10_enough_ok : dtOK cX10_enough D_X10_enough = true := by decide +kernel
def D_X5_hasHoleOf : DT := [(0, .iconst 0, 1), (1, .istore_n 2, 1), (2, .iload_n 2, 1), (3, .aload_n 0, 1), (4, .getfield 34, 3), (7, .if_icmp .ge 21, 3), (10, .aload_n 0, 1), (11, .getfield 9, 3), (14, .iload_n 2, 1), (15, .iaload, 1), (16, .iload_n 1, 1), (17, .if_icmp .ne 5, 3), (20, .iconst 1, 1), (21, .ireturn, 1), (22, .iinc 2 1, 3), (25, .goto (-23), 3), (28, .iconst 0, 1), (29, .ireturn, 1)]
theorem D_X5_hasHoleOf_ok : dtOK cX5_hasHoleOf D_X5_hasHoleOf = true := by decide +kernel
abbrev C_q_X5_hasHoleOf_0 : CE := ([(2, 5, 0), (0, -2147483648, 2147483647)], [], [], [(some (0, 0, 0), [], [], []), (some (0, 1, 1), [(1, (0, 0, 1))], [(5, 0, (0, 1, 16))], [])], [], 0, 0)
theorem ac_q_X5_hasHoleOf_0 (l : Launch) (G : KG) : ACt l G TX yX5_hasHoleOf cX5_hasHoleOf 3 (some .boolean) C_q_X5_hasHoleOf_0 := acert (tab := D_X5_hasHoleOf) (fld := fld_5) (put := put_5) (cst := cst_5) (cstl := cstl_5) (cal := []) (rk := 3) (cuts := [(2, ([(0, 0, false), (1, 1, false), (2, 500, false)], [], [(0, (2, 5, 0)), (1, (0, -2147483648, 2147483647)), (500, (0, 0, 16))], [], [], 1000), 17, [(1, 500)])]) (fuel := 4000) (by decide) (Or.inr (Or.inr (Or.inr ⟨rfl, rfl⟩))) fld_5_ok put_5_ok cst_5_ok cstl_5_ok (fun _ h => absurd h List.not_mem_nil) D_X5_hasHoleOf_ok (by decide +kernel)
abbrev C_q_X7_isSpeed_1 : CE := ([(2, 12, 0), (0, -2147483648, 2147483647)], [], [], [(some (0, 0, 0), [], [], []), (some (0, 1, 1), [(1, (0, 0, 5))], [(12, 0, (0, 1, 6))], [(1, 200, -1)])], [], 0, 0)
theorem ac_q_X7_isSpeed_1 (l : Launch) (G : KG) : ACt l G TXP yX7_isSpeed cX7_isSpeed 2 (some .boolean) C_q_X7_isSpeed_1 := acert (tab := D_X7_isSpeed) (fld := fld_7) (put := put_7) (cst := cst_7) (cstl := cstl_7) (cal := []) (rk := 3) (cuts := []) (fuel := 4000) (by decide) (Or.inr (Or.inr (Or.inr ⟨rfl, rfl⟩))) fld_7_ok put_7_ok cst_7_ok cstl_7_ok (fun _ h => absurd h List.not_mem_nil) D_X7_isSpeed_ok (by decide +kernel)
abbrev C_q_X5_hasHoleOf_2 : CE := ([(2, 5, 0), (0, -2147483648, 2147483647)], [], [], [(some (0, 0, 0), [], [], []), (some (0, 1, 1), [(1, (0, 0, 1))], [(5, 0, (0, 1, 16))], [])], [], 0, 0)
theorem ac_q_X5_hasHoleOf_2 (l : Launch) (G : KG) : ACt l G TXP yX5_hasHoleOf cX5_hasHoleOf 3 (some .boolean) C_q_X5_hasHoleOf_2 := acert (tab := D_X5_hasHoleOf) (fld := fld_5) (put := put_5) (cst := cst_5) (cstl := cstl_5) (cal := []) (rk := 3) (cuts := [(2, ([(0, 0, false), (1, 1, false), (2, 500, false)], [], [(0, (2, 5, 0)), (1, (0, -2147483648, 2147483647)), (500, (0, 0, 16))], [], [], 1000), 17, [(1, 500)])]) (fuel := 4000) (by decide) (Or.inr (Or.inr (Or.inr ⟨rfl, rfl⟩))) fld_5_ok put_5_ok cst_5_ok cstl_5_ok (fun _ h => absurd h List.not_mem_nil) D_X5_hasHoleOf_ok (by decide +kernel)
abbrev C_q_X10_isWithin_3 : CE := ([(0, -2147483648, 2147483647), (0, 60, 60)], [], [], [(some (0, 0, 0), [], [], []), (some (0, 1, 1), [(0, (0, -60, 60))], [], [])], [], 0, 0)
theorem ac_q_X10_isWithin_3 (l : Launch) (G : KG) : ACt l G TX yX10_isWithin cX10_isWithin 2 (some .boolean) C_q_X10_isWithin_3 := acert (tab := D_X10_isWithin) (fld := fld_10) (put := put_10) (cst := cst_10) (cstl := cstl_10) (cal := []) (rk := 3) (cuts := []) (fuel := 4000) (by decide) (Or.inr (Or.inr (Or.inr ⟨rfl, rfl⟩))) fld_10_ok put_10_ok cst_10_ok cstl_10_ok (fun _ h => absurd h List.not_mem_nil) D_X10_isWithin_ok (by decide +kernel)
abbrev C_q_X10_isWithin_4 : CE := ([(0, -2147483648, 2147483647), (0, 60, 60)], [], [], [(some (0, 0, 0), [], [], []), (some (0, 1, 1), [(0, (0, -60, 60))], [], [])], [], 0, 0)
theorem ac_q_X10_isWithin_4 (l : Launch) (G : KG) : ACt l G TXP yX10_isWithin cX10_isWithin 2 (some .boolean) C_q_X10_isWithin_4 := acert (tab := D_X10_isWithin) (fld := fld_10) (put := put_10) (cst := cst_10) (cstl := cstl_10) (cal := []) (rk := 3) (cuts := []) (fuel := 4000) (by decide) (Or.inr (Or.inr (Or.inr ⟨rfl, rfl⟩))) fld_10_ok put_10_ok cst_10_ok cstl_10_ok (fun _ h => absurd h List.not_mem_nil) D_X10_isWithin_ok (by decide +kernel)
abbrev C_nx : CE := ([(2, 0, 0), (0, -2147483648, 2147483647), (0, -2147483648, 2147483647)], [], [], [(some (0, -2147483648, 2147483647), [], [], [])], [], 5, 120)
theorem d_nx_38 : decode cX10_next 38 = .ok (.invokevirtual 264, 3) := by decide +kernel
theorem d_nx_41 : decode cX10_next 41 = .ok (.astore_n 3, 1) := by decide +kernel
theorem d_nx_42 : decode cX10_next 42 = .ok (.aload_n 3, 1) := by decide +kernel
theorem d_nx_43 : decode cX10_next 43 = .ok (.getfield 268, 3) := by decide +kernel
theorem d_nx_46 : decode cX10_next 46 = .ok (.ifCond .ne 6, 3) := by decide +kernel
theorem d_nx_49 : decode cX10_next 49 = .ok (.bipush (-2), 2) := by decide +kernel
theorem d_nx_51 : decode cX10_next 51 = .ok (.ireturn, 1) := by decide +kernel
theorem d_nx_52 : decode cX10_next 52 = .ok (.aload_n 0, 1) := by decide +kernel
theorem d_nx_53 : decode cX10_next 53 = .ok (.aload_n 3, 1) := by decide +kernel
theorem d_nx_54 : decode cX10_next 54 = .ok (.iload_n 1, 1) := by decide +kernel
theorem d_nx_55 : decode cX10_next 55 = .ok (.iload_n 2, 1) := by decide +kernel
theorem d_nx_56 : decode cX10_next 56 = .ok (.invokevirtual 271, 3) := by decide +kernel
theorem d_nx_59 : decode cX10_next 59 = .ok (.istore 4, 2) := by decide +kernel
theorem d_nx_61 : decode cX10_next 61 = .ok (.aload_n 0, 1) := by decide +kernel
theorem d_nx_62 : decode cX10_next 62 = .ok (.getfield 12, 3) := by decide +kernel
theorem d_nx_65 : decode cX10_next 65 = .ok (.invokevirtual 180, 3) := by decide +kernel
theorem d_nx_68 : decode cX10_next 68 = .ok (.aload_n 0, 1) := by decide +kernel
theorem d_nx_69 : decode cX10_next 69 = .ok (.getfield 12, 3) := by decide +kernel
theorem d_nx_72 : decode cX10_next 72 = .ok (.aload_n 3, 1) := by decide +kernel
theorem d_nx_73 : decode cX10_next 73 = .ok (.getfield 275, 3) := by decide +kernel
theorem d_nx_76 : decode cX10_next 76 = .ok (.i2l, 1) := by decide +kernel
theorem d_nx_77 : decode cX10_next 77 = .ok (.invokevirtual 183, 3) := by decide +kernel
theorem d_nx_80 : decode cX10_next 80 = .ok (.aload_n 0, 1) := by decide +kernel
theorem d_nx_81 : decode cX10_next 81 = .ok (.getfield 12, 3) := by decide +kernel
theorem d_nx_84 : decode cX10_next 84 = .ok (.aload_n 3, 1) := by decide +kernel
theorem d_nx_85 : decode cX10_next 85 = .ok (.getfield 278, 3) := by decide +kernel
theorem d_nx_88 : decode cX10_next 88 = .ok (.i2l, 1) := by decide +kernel
theorem d_nx_89 : decode cX10_next 89 = .ok (.invokevirtual 183, 3) := by decide +kernel
theorem d_nx_92 : decode cX10_next 92 = .ok (.iload 4, 2) := by decide +kernel
theorem d_nx_94 : decode cX10_next 94 = .ok (.ireturn, 1) := by decide +kernel
abbrev C_en : CE := ([(2, 0, 0), (0, -2147483648, 2147483647), (0, -2147483648, 2147483647), (0, -2147483648, 2147483647)], [], [], [(some (0, -2147483648, 2147483647), [], [], [])], [(29, 999), (30, 999), (31, 999)], 5, 122)
theorem d_en_63 : decode cX10_enough 63 = .ok (.invokevirtual 264, 3) := by decide +kernel
theorem d_en_66 : decode cX10_enough 66 = .ok (.astore 4, 2) := by decide +kernel
theorem d_en_68 : decode cX10_enough 68 = .ok (.iconst 0, 1) := by decide +kernel
theorem d_en_69 : decode cX10_enough 69 = .ok (.istore 5, 2) := by decide +kernel
theorem d_en_71 : decode cX10_enough 71 = .ok (.iload 5, 2) := by decide +kernel
theorem d_en_73 : decode cX10_enough 73 = .ok (.bipush 6, 2) := by decide +kernel
theorem d_en_75 : decode cX10_enough 75 = .ok (.if_icmp .ge 64, 3) := by decide +kernel
theorem d_en_78 : decode cX10_enough 78 = .ok (.aload 4, 2) := by decide +kernel
theorem d_en_80 : decode cX10_enough 80 = .ok (.getfield 268, 3) := by decide +kernel
theorem d_en_83 : decode cX10_enough 83 = .ok (.iconst 1, 1) := by decide +kernel
theorem d_en_84 : decode cX10_enough 84 = .ok (.if_icmp .le 55, 3) := by decide +kernel
theorem d_en_87 : decode cX10_enough 87 = .ok (.aload_n 0, 1) := by decide +kernel
theorem d_en_88 : decode cX10_enough 88 = .ok (.aload 4, 2) := by decide +kernel
theorem d_en_90 : decode cX10_enough 90 = .ok (.iload_n 1, 1) := by decide +kernel
theorem d_en_91 : decode cX10_enough 91 = .ok (.iconst 4, 1) := by decide +kernel
theorem d_en_92 : decode cX10_enough 92 = .ok (.invokevirtual 271, 3) := by decide +kernel
theorem d_en_95 : decode cX10_enough 95 = .ok (.pop, 1) := by decide +kernel
theorem d_en_96 : decode cX10_enough 96 = .ok (.aload_n 0, 1) := by decide +kernel
theorem d_en_97 : decode cX10_enough 97 = .ok (.aload 4, 2) := by decide +kernel
theorem d_en_99 : decode cX10_enough 99 = .ok (.iload_n 1, 1) := by decide +kernel
theorem d_en_100 : decode cX10_enough 100 = .ok (.aload 4, 2) := by decide +kernel
theorem d_en_102 : decode cX10_enough 102 = .ok (.getfield 275, 3) := by decide +kernel
theorem d_en_105 : decode cX10_enough 105 = .ok (.aload 4, 2) := by decide +kernel
theorem d_en_107 : decode cX10_enough 107 = .ok (.getfield 278, 3) := by decide +kernel
theorem d_en_110 : decode cX10_enough 110 = .ok (.invokevirtual 281, 3) := by decide +kernel
theorem d_en_113 : decode cX10_enough 113 = .ok (.aload 4, 2) := by decide +kernel
theorem d_en_115 : decode cX10_enough 115 = .ok (.iload_n 2, 1) := by decide +kernel
theorem d_en_116 : decode cX10_enough 116 = .ok (.iload_n 3, 1) := by decide +kernel
theorem d_en_117 : decode cX10_enough 117 = .ok (.invokevirtual 285, 3) := by decide +kernel
theorem d_en_120 : decode cX10_enough 120 = .ok (.aload 4, 2) := by decide +kernel
theorem d_en_122 : decode cX10_enough 122 = .ok (.getfield 288, 3) := by decide +kernel
theorem d_en_125 : decode cX10_enough 125 = .ok (.iload 5, 2) := by decide +kernel
theorem d_en_127 : decode cX10_enough 127 = .ok (.aload 4, 2) := by decide +kernel
theorem d_en_129 : decode cX10_enough 129 = .ok (.getfield 268, 3) := by decide +kernel
theorem d_en_132 : decode cX10_enough 132 = .ok (.iastore, 1) := by decide +kernel
theorem d_en_133 : decode cX10_enough 133 = .ok (.iinc 5 1, 3) := by decide +kernel
theorem d_en_136 : decode cX10_enough 136 = .ok (.goto (-65), 3) := by decide +kernel
theorem d_en_139 : decode cX10_enough 139 = .ok (.aload 4, 2) := by decide +kernel
theorem d_en_141 : decode cX10_enough 141 = .ok (.getfield 268, 3) := by decide +kernel
theorem d_en_144 : decode cX10_enough 144 = .ok (.iconst 1, 1) := by decide +kernel
theorem d_en_145 : decode cX10_enough 145 = .ok (.if_icmp .eq 6, 3) := by decide +kernel
theorem d_en_148 : decode cX10_enough 148 = .ok (.bipush (-2), 2) := by decide +kernel
theorem d_en_150 : decode cX10_enough 150 = .ok (.ireturn, 1) := by decide +kernel
theorem d_en_151 : decode cX10_enough 151 = .ok (.aload_n 0, 1) := by decide +kernel
theorem d_en_152 : decode cX10_enough 152 = .ok (.getfield 12, 3) := by decide +kernel
theorem d_en_155 : decode cX10_enough 155 = .ok (.invokevirtual 180, 3) := by decide +kernel
theorem d_en_158 : decode cX10_enough 158 = .ok (.iconst 0, 1) := by decide +kernel
theorem d_en_159 : decode cX10_enough 159 = .ok (.istore 6, 2) := by decide +kernel
theorem d_en_161 : decode cX10_enough 161 = .ok (.iload 6, 2) := by decide +kernel
theorem d_en_163 : decode cX10_enough 163 = .ok (.iload 5, 2) := by decide +kernel
theorem d_en_165 : decode cX10_enough 165 = .ok (.if_icmp .ge 25, 3) := by decide +kernel
theorem d_en_168 : decode cX10_enough 168 = .ok (.aload_n 0, 1) := by decide +kernel
theorem d_en_169 : decode cX10_enough 169 = .ok (.getfield 12, 3) := by decide +kernel
theorem d_en_172 : decode cX10_enough 172 = .ok (.aload 4, 2) := by decide +kernel
theorem d_en_174 : decode cX10_enough 174 = .ok (.getfield 288, 3) := by decide +kernel
theorem d_en_177 : decode cX10_enough 177 = .ok (.iload 6, 2) := by decide +kernel
theorem d_en_179 : decode cX10_enough 179 = .ok (.iaload, 1) := by decide +kernel
theorem d_en_180 : decode cX10_enough 180 = .ok (.i2l, 1) := by decide +kernel
theorem d_en_181 : decode cX10_enough 181 = .ok (.invokevirtual 183, 3) := by decide +kernel
theorem d_en_184 : decode cX10_enough 184 = .ok (.iinc 6 1, 3) := by decide +kernel
theorem d_en_187 : decode cX10_enough 187 = .ok (.goto (-26), 3) := by decide +kernel
theorem d_en_190 : decode cX10_enough 190 = .ok (.iload 5, 2) := by decide +kernel
theorem d_en_192 : decode cX10_enough 192 = .ok (.ireturn, 1) := by decide +kernel
abbrev sC_nxA : CE := C_nx
def sl_nxA : List CAL := [(173, 0, 2, C_X7_isSpeed_0), (261, 0, 3, C_q_X5_hasHoleOf_0)]
theorem sl_nxA_ok (l : Launch) (G : KG) : ∀ q ∈ sl_nxA, COK l G RX10 TX q := List.forall_mem_cons.mpr ⟨cok_v k_10_173 (ac_X7_isSpeed_0 l G) rfl rfl rfl rfl rfl rfl, List.forall_mem_cons.mpr ⟨cok_v k_10_261 (ac_q_X5_hasHoleOf_0 l G) rfl rfl rfl rfl rfl rfl, fun _ h => absurd h List.not_mem_nil⟩⟩
def sk_nxA : List CUT := []
abbrev se_nxA_38 : CUT := (38, ([(0, 0, false), (1, 1, false), (2, 2, false)], [0], [(0, (2, 0, 0)), (1, (0, 0, 5)), (2, (0, 1, 4)), (500, (2, 5, 0)), (501, (2, 12, 0)), (502, (0, 1, 16)), (503, (0, 1, 6))], [(0, 2, 500), (0, 3, 501), (5, 0, 502), (12, 0, 503)], [(1, 503, -1)], 1000), 0, [(0, 0)])
def sx_nxA : List CUT := [se_nxA_38]
abbrev ss_nxA : AS := ([(0, 0, false), (1, 1, false), (2, 2, false)], [], [(0, (2, 0, 0)), (1, (0, -2147483648, 2147483647)), (2, (0, -2147483648, 2147483647))], [], [], 1000)
theorem sg_nxA : xcheckS hk0 D_X10_next 5 TX fld_10 put_10 cst_10 cstl_10 sl_nxA 1 sC_nxA sk_nxA sx_nxA [0, 1, 2] 4000 0 ss_nxA = true := by decide +kernel
abbrev sC_nxR : CE := C_nx
def sl_nxR : List CAL := [(173, 0, 2, C_q_X7_isSpeed_1), (261, 0, 3, C_q_X5_hasHoleOf_2)]
theorem sl_nxR_ok (l : Launch) (G : KG) : ∀ q ∈ sl_nxR, COK l G RX10 TXP q := List.forall_mem_cons.mpr ⟨cok_v k_10_173 (ac_q_X7_isSpeed_1 l G) rfl rfl rfl rfl rfl rfl, List.forall_mem_cons.mpr ⟨cok_v k_10_261 (ac_q_X5_hasHoleOf_2 l G) rfl rfl rfl rfl rfl rfl, fun _ h => absurd h List.not_mem_nil⟩⟩
def sk_nxR : List CUT := []
abbrev se_nxR_38 : CUT := (38, ([(0, 0, false), (1, 1, false), (2, 2, false)], [0], [(0, (2, 0, 0)), (1, (0, 0, 5)), (2, (0, 1, 4)), (500, (2, 5, 0)), (501, (2, 12, 0)), (502, (0, 1, 16)), (503, (0, 1, 6))], [(0, 2, 500), (0, 3, 501), (5, 0, 502), (12, 0, 503)], [(1, 503, -1)], 1000), 0, [(0, 0)])
def sx_nxR : List CUT := [se_nxR_38]
abbrev ss_nxR : AS := ([(0, 0, false), (1, 1, false), (2, 2, false)], [], [(0, (2, 0, 0)), (1, (0, -2147483648, 2147483647)), (2, (0, -2147483648, 2147483647))], [], [], 1000)
theorem sg_nxR : xcheckS hk0 D_X10_next 5 TXP fld_10 put_10 cst_10 cstl_10 sl_nxR 1 sC_nxR sk_nxR sx_nxR [0, 1, 2] 4000 0 ss_nxR = true := by decide +kernel
abbrev sC_enA : CE := C_en
def sl_enA : List CAL := [(173, 0, 2, C_X7_isSpeed_0), (159, 1, 2, C_q_X10_isWithin_3), (261, 0, 3, C_q_X5_hasHoleOf_0), (242, 0, 3, C_X10_prepareTrials_0), (246, 0, 4, C_X9_firstAgainst_0)]
theorem sl_enA_ok (l : Launch) (G : KG) : ∀ q ∈ sl_enA, COK l G RX10 TX q := List.forall_mem_cons.mpr ⟨cok_v k_10_173 (ac_X7_isSpeed_0 l G) rfl rfl rfl rfl rfl rfl, List.forall_mem_cons.mpr ⟨cok_s k_10_159 (ac_q_X10_isWithin_3 l G) rfl, List.forall_mem_cons.mpr ⟨cok_v k_10_261 (ac_q_X5_hasHoleOf_0 l G) rfl rfl rfl rfl rfl rfl, List.forall_mem_cons.mpr ⟨cok_v k_10_242 (ac_X10_prepareTrials_0 l G) rfl rfl rfl rfl rfl rfl, List.forall_mem_cons.mpr ⟨cok_v k_10_246 (ac_X9_firstAgainst_0 l G) rfl rfl rfl rfl rfl rfl, fun _ h => absurd h List.not_mem_nil⟩⟩⟩⟩⟩
def sk_enA : List CUT := []
abbrev se_enA_63 : CUT := (63, ([(0, 0, false), (1, 1, false), (2, 2, false), (3, 3, false)], [0], [(0, (2, 0, 0)), (1, (0, 0, 5)), (2, (0, -60, 60)), (3, (0, -60, 60)), (500, (2, 5, 0)), (501, (2, 12, 0)), (502, (2, 22, 0)), (503, (0, 1, 16)), (504, (0, 1, 6)), (505, (0, 0, 12))], [(0, 2, 500), (0, 3, 501), (0, 5, 502), (5, 0, 503), (12, 0, 504), (22, 0, 505)], [(1, 504, -1)], 1000), 0, [(0, 0)])
def sx_enA : List CUT := [se_enA_63]
abbrev ss_enA : AS := ([(0, 0, false), (1, 1, false), (2, 2, false), (3, 3, false)], [], [(0, (2, 0, 0)), (1, (0, -2147483648, 2147483647)), (2, (0, -2147483648, 2147483647)), (3, (0, -2147483648, 2147483647))], [], [], 1000)
theorem sg_enA : xcheckS hk0 D_X10_enough 7 TX fld_10 put_10 cst_10 cstl_10 sl_enA 1 sC_enA sk_enA sx_enA [0, 1, 2, 3] 4000 0 ss_enA = true := by decide +kernel
abbrev sC_enR : CE := C_en
def sl_enR : List CAL := [(173, 0, 2, C_q_X7_isSpeed_1), (159, 1, 2, C_q_X10_isWithin_4), (261, 0, 3, C_q_X5_hasHoleOf_2), (242, 0, 3, C_p_X10_prepareTrials_0), (246, 0, 4, C_p_X9_firstAgainst_0)]
theorem sl_enR_ok (l : Launch) (G : KG) : ∀ q ∈ sl_enR, COK l G RX10 TXP q := List.forall_mem_cons.mpr ⟨cok_v k_10_173 (ac_q_X7_isSpeed_1 l G) rfl rfl rfl rfl rfl rfl, List.forall_mem_cons.mpr ⟨cok_s k_10_159 (ac_q_X10_isWithin_4 l G) rfl, List.forall_mem_cons.mpr ⟨cok_v k_10_261 (ac_q_X5_hasHoleOf_2 l G) rfl rfl rfl rfl rfl rfl, List.forall_mem_cons.mpr ⟨cok_v k_10_242 (ac_p_X10_prepareTrials_0 l G) rfl rfl rfl rfl rfl rfl, List.forall_mem_cons.mpr ⟨cok_v k_10_246 (ac_p_X9_firstAgainst_0 l G) rfl rfl rfl rfl rfl rfl, fun _ h => absurd h List.not_mem_nil⟩⟩⟩⟩⟩
def sk_enR : List CUT := []
abbrev se_enR_63 : CUT := (63, ([(0, 0, false), (1, 1, false), (2, 2, false), (3, 3, false)], [0], [(0, (2, 0, 0)), (1, (0, 0, 5)), (2, (0, -60, 60)), (3, (0, -60, 60)), (500, (2, 5, 0)), (501, (2, 12, 0)), (502, (2, 22, 0)), (503, (0, 1, 16)), (504, (0, 1, 6)), (505, (0, 0, 12))], [(0, 2, 500), (0, 3, 501), (0, 5, 502), (5, 0, 503), (12, 0, 504), (22, 0, 505)], [(1, 504, -1)], 1000), 0, [(0, 0)])
def sx_enR : List CUT := [se_enR_63]
abbrev ss_enR : AS := ([(0, 0, false), (1, 1, false), (2, 2, false), (3, 3, false)], [], [(0, (2, 0, 0)), (1, (0, -2147483648, 2147483647)), (2, (0, -2147483648, 2147483647)), (3, (0, -2147483648, 2147483647))], [], [], 1000)
theorem sg_enR : xcheckS hk0 D_X10_enough 7 TXP fld_10 put_10 cst_10 cstl_10 sl_enR 1 sC_enR sk_enR sx_enR [0, 1, 2, 3] 4000 0 ss_enR = true := by decide +kernel
end
section
/-! the class's next, enough -/
section HLR
variable {l : Launch} {G : KG} {T : List TE} {cc : ByteArray} {nL : Nat} {ret : Option FieldType} {C : CE} {y : MethodName}
/-- from its start, in a room of one's own -/
theorem hand_ofR {rm : Room} {PO : Option Value → va_W → Prop} {ad : Nat → Nat} {w0 : va_W} {μ : Nat → Value} (hW : WT G ad T w0) (hPre : PRE ad C μ w0) (hy : plainName y.cls = true) (c3 : aslots C.1 ≤ nL) (c4 : ∀ t ∈ C.1, t.1 ≤ 2) (c1 : C.1.length ≤ 50) (c2 : C.2.1.length ≤ 100)
    (body : ∀ (p : Program) (e : Env) (s : State) (m : MethodId) (args : Array Value) (below : List Frame) (meth : Method) (c : Code) (A : Nat → Prop), ZC p s m args meth c cc nL y.cls G A ret y.name → ∀ (lw : List (Nat × Value)), AG G ad T C.2.2.2.2.1 w0 (spin C μ) (ast0 C) μ lw [] w0 → Z p l e rm s m args below meth c nL G A (MQ below (QQ G A PO) args s rm.cells rm.slots A) 0 lw [] w0 0 0) : Ct l G y cc nL ret rm ((List.range C.1.length).map μ) w0 PO := by
  obtain ⟨r1, r2, r3⟩ := lv0_ok (μ := μ) (ad := ad) C.1 0 0 c4 (fun k t hk => by rw [Nat.zero_add]; exact hPre.1 k t hk)
  rw [List.range_eq_range']
  refine ct_of _ hy (by rw [r3]; exact c3) rfl ?_
  intro p e s m args below meth c A X
  refine body p e s m args below meth c A X _ ⟨r1, rfl, r2, fun q hq => ?_, fun q hq => ?_, hPre.2.2, ?_, hW, rfl, fun k j _ => rfl⟩
  · rcases List.mem_append.mp hq with hq | hq
    · obtain ⟨z, hz, rfl⟩ := List.mem_map.mp hq
      exact hPre.1 z.2 z.1 (zipIdx_mem hz)
    · obtain ⟨z, hz, rfl⟩ := List.mem_map.mp hq
      exact (hPre.2.1 z.2 z.1 (zipIdx_mem hz)).1
  · obtain ⟨z, hz, rfl⟩ := List.mem_map.mp hq
    exact (hPre.2.1 z.2 z.1 (zipIdx_mem hz)).2
  · intro q hq
    rcases List.mem_append.mp hq with hq | hq
    · obtain ⟨j, hj, rfl⟩ := List.mem_map.mp hq
      have := List.mem_range.mp hj
      exact ⟨by show j < 1000; omega, rfl⟩
    · obtain ⟨j, hj, rfl⟩ := List.mem_map.mp hq
      have := List.mem_range.mp hj
      exact ⟨by show 100 + j < 1000; omega, rfl⟩
end HLR
section NXT
variable {p : Program} {l : Launch} {e : Env} {R : Room} {s : State} {m : MethodId} {args : Array Value} {below : List Frame} {meth : Method} {c : Code} {G : KG} {ω : va_W} {A : Nat → Prop} {ad : Nat → Nat} {kc ks mc ms : Nat} {PO : Option Value → va_W → Prop}
theorem nx_tail {ws : va_W} {sp mo : Int32} (X : ZC p s m args meth c cX10_next 5 RX10 G A (some .int) "next") (hW : WT G ad TXP ws) (hG : GF G ω ws) (hR1 : 5 ≤ R.frames) (hR2 : 119 ≤ R.locals) (hc : kc ≤ R.cells) (hs : ks ≤ R.slots) (hmc : kc ≤ mc) (hms : ks ≤ ms) (p0 : 0 ≤ sp.toInt) (p1 : sp.toInt ≤ 5) (o0 : 1 ≤ mo.toInt) (o1 : mo.toInt ≤ 4) (hPO : ∀ (v : Int32) w1, WT G ad TXP w1 → GF G ω w1 → w1.length = ws.length → PO (some (.int v)) w1) : Z p l e R s m args below meth c 5 G A (MQ below (QQ G A PO) args s mc ms A) 41 [(0, .ref (ad 0)), (1, .int sp), (2, .int mo)] [.ref (ad 109)] ws kc ks := by
  have L : ws.length = ws.length := rfl
  refine z_astore_n X d_nx_41 rfl (by decide) (lv' := [(3, .ref (ad 109)), (0, .ref (ad 0)), (1, .int (sp)), (2, .int (mo))]) rfl ?_
  obtain ⟨n, hn, n0, n1⟩ := fget_int (T := TXP) (k := 109) (j := 0) hW rfl rfl
  refine z_aload_n X d_nx_42 rfl 0 rfl ?_
  refine hget (T := TXP) X hW (idx := 268) (fld_10_ok _ (by decide : (268, 3, 0) ∈ fld_10)) d_nx_43 rfl (hn) ?_
  refine zi_ne X d_nx_46 (tgt := 52) (by decide) (a := n.toInt) rfl (fun _ => ?_) (fun _ => ?_)
  rotate_left
  · skip
    refine z_bipush X d_nx_49 (v := (-2)) (by decide) ?_
    exact z_iret X rfl d_nx_51 hmc hms (hPO _ _ hW hG rfl)
  refine z_aload_n X d_nx_52 rfl 1 rfl ?_
  refine z_aload_n X d_nx_53 rfl 0 rfl ?_
  refine z_iload_n X d_nx_54 rfl 2 rfl ?_
  refine z_iload_n X d_nx_55 rfl 3 rfl ?_
  obtain ⟨μ0, hμ0⟩ : ∃ q : Nat → Value, q = fun k => if k = 0 then .ref (ad 0) else if k = 1 then .ref (ad 109) else if k = 2 then .int sp else .int mo := ⟨_, rfl⟩
  have m0_0 : μ0 0 = .ref (ad 0) := by rw [hμ0]; rfl
  have m0_1 : μ0 1 = .ref (ad 109) := by rw [hμ0]; rfl
  have m0_2 : μ0 2 = .int sp := by rw [hμ0]; rfl
  have m0_3 : μ0 3 = .int mo := by rw [hμ0]; rfl
  have hpre0 : PRE ad C_p_X10_findNarrowest_0 μ0 ws := by
    refine ⟨fun k t hk => ?_, fun k q hk => ?_, fun q hq => ?_⟩
    · match k, hk with
      | 0, hk => cases hk; rw [m0_0]; exact Or.inr (Or.inr (Or.inl ⟨rfl, rfl⟩))
      | 1, hk => cases hk; rw [m0_1]; exact Or.inr (Or.inr (Or.inl ⟨rfl, rfl⟩))
      | 2, hk => cases hk; rw [m0_2]; exact vty_i p0 p1
      | 3, hk => cases hk; rw [m0_3]; exact vty_i o0 (by omega)
      | N + 4, hk => cases hk
    · cases hk
    · cases hq
  have hct0 := ac_p_X10_findNarrowest_0 l G ad ws μ0 hW hpre0 hG.1
  have he0 : (List.range C_p_X10_findNarrowest_0.1.length).map μ0 = [.ref (ad 0), .ref (ad 109), .int sp, .int mo] := by show [μ0 0, μ0 1, μ0 2, μ0 3] = _; rw [m0_0, m0_1, m0_2, m0_3]
  rw [he0] at hct0
  refine hcallV (T := TXP) (k := 0) (rest := []) (avs := [.ref (ad 109), .int sp, .int mo]) X k_10_271 hct0 d_nx_56 hW rfl rfl rfl rfl ⟨by show 3 + 1 ≤ R.frames; omega, by show 8 + (8 + 11) + 74 ≤ R.locals; omega⟩ ⟨hc, hs⟩ (by decide) rfl (fun r0 wa0 hp => ?_)
  obtain ⟨A0, hA0, μ9, -, -, q0, -, -, -, W0, F0⟩ := hp
  have ee := List.mem_singleton.mp hA0
  subst ee
  obtain ⟨rr, r2⟩ := q0
  obtain ⟨v, ev', -⟩ := vty0 r2 rfl
  rw [rr, ev']
  have G0 := hG.frm F0 (by decide)
  have L0 : wa0.length = ws.length := F0.1.trans L
  refine z_istore X d_nx_59 (by decide) (lv' := [(4, .int (v)), (3, .ref (ad 109)), (0, .ref (ad 0)), (1, .int (sp)), (2, .int (mo))]) rfl ?_
  refine z_aload_n X d_nx_61 rfl 2 rfl ?_
  refine hget (T := TXP) X W0 (idx := 12) (fld_10_ok _ (by decide : (12, 10, 0) ∈ fld_10)) d_nx_62 rfl (fget_ref W0 rfl rfl) ?_
  obtain ⟨μ1, hμ1⟩ : ∃ q : Nat → Value, q = fun k => .ref (ad 1) := ⟨_, rfl⟩
  have m1_0 : μ1 0 = .ref (ad 1) := by rw [hμ1]
  have hpre1 : PRE ad C_p_X8_start_0 μ1 wa0 := by
    refine ⟨fun k t hk => ?_, fun k q hk => ?_, fun q hq => ?_⟩
    · match k, hk with
      | 0, hk => cases hk; rw [m1_0]; exact Or.inr (Or.inr (Or.inl ⟨rfl, rfl⟩))
      | N + 1, hk => cases hk
    · cases hk
    · cases hq
  have hct1 := ac_p_X8_start_0 l G ad wa0 μ1 W0 hpre1
  have he1 : (List.range C_p_X8_start_0.1.length).map μ1 = [.ref (ad 1)] := by show [μ1 0] = _; rw [m1_0]
  rw [he1] at hct1
  refine hcallV (T := TXP) (k := 1) (rest := []) (avs := []) X k_10_180 hct1 d_nx_65 W0 rfl rfl rfl rfl ⟨by show 0 + 1 ≤ R.frames; omega, by show 8 + (1 + 11) + 0 ≤ R.locals; omega⟩ ⟨hc, hs⟩ (by decide) rfl (fun r1 wa1 hp => ?_)
  obtain ⟨A1, hA1, μ9, -, -, q1, -, -, -, W1, F1⟩ := hp
  have ee := List.mem_singleton.mp hA1
  subst ee
  have rr : r1 = none := q1
  subst rr
  have G1 := G0.frm F1 (by decide)
  have L1 : wa1.length = ws.length := F1.1.trans L0
  obtain ⟨h, hh, h0, h1⟩ := fget_int (T := TXP) (k := 109) (j := 1) W1 rfl rfl
  refine z_aload_n X d_nx_68 rfl 2 rfl ?_
  refine hget (T := TXP) X W1 (idx := 12) (fld_10_ok _ (by decide : (12, 10, 0) ∈ fld_10)) d_nx_69 rfl (fget_ref W1 rfl rfl) ?_
  refine z_aload_n X d_nx_72 rfl 1 rfl ?_
  refine hget (T := TXP) X W1 (idx := 275) (fld_10_ok _ (by decide : (275, 3, 1) ∈ fld_10)) d_nx_73 rfl (hh) ?_
  refine z_i2l X d_nx_76 rfl ?_
  obtain ⟨μ2, hμ2⟩ : ∃ q : Nat → Value, q = fun k => if k = 0 then .ref (ad 1) else .long ((h).toInt64) := ⟨_, rfl⟩
  have m2_0 : μ2 0 = .ref (ad 1) := by rw [hμ2]; rfl
  have m2_1 : μ2 1 = .long ((h).toInt64) := by rw [hμ2]; rfl
  have hpre2 : PRE ad C_p_X8_add_0 μ2 wa1 := by
    refine ⟨fun k t hk => ?_, fun k q hk => ?_, fun q hq => ?_⟩
    · match k, hk with
      | 0, hk => cases hk; rw [m2_0]; exact Or.inr (Or.inr (Or.inl ⟨rfl, rfl⟩))
      | 1, hk => cases hk; rw [m2_1]; exact vty_l0 _
      | N + 2, hk => cases hk
    · cases hk
    · cases hq
  have hct2 := ac_p_X8_add_0 l G ad wa1 μ2 W1 hpre2
  have he2 : (List.range C_p_X8_add_0.1.length).map μ2 = [.ref (ad 1), .long ((h).toInt64)] := by show [μ2 0, μ2 1] = _; rw [m2_0, m2_1]
  rw [he2] at hct2
  refine hcallV (T := TXP) (k := 1) (rest := []) (avs := [.long ((h).toInt64)]) X k_10_183 hct2 d_nx_77 W1 rfl rfl rfl rfl ⟨by show 0 + 1 ≤ R.frames; omega, by show 8 + (3 + 11) + 0 ≤ R.locals; omega⟩ ⟨hc, hs⟩ (by decide) rfl (fun r2 wa2 hp => ?_)
  obtain ⟨A2, hA2, μ9, -, -, q2, -, -, -, W2, F2⟩ := hp
  have ee := List.mem_singleton.mp hA2
  subst ee
  have rr : r2 = none := q2
  subst rr
  have G2 := G1.frm F2 (by decide)
  have L2 : wa2.length = ws.length := F2.1.trans L1
  obtain ⟨u, hu, u0, u1⟩ := fget_int (T := TXP) (k := 109) (j := 2) W2 rfl rfl
  refine z_aload_n X d_nx_80 rfl 2 rfl ?_
  refine hget (T := TXP) X W2 (idx := 12) (fld_10_ok _ (by decide : (12, 10, 0) ∈ fld_10)) d_nx_81 rfl (fget_ref W2 rfl rfl) ?_
  refine z_aload_n X d_nx_84 rfl 1 rfl ?_
  refine hget (T := TXP) X W2 (idx := 278) (fld_10_ok _ (by decide : (278, 3, 2) ∈ fld_10)) d_nx_85 rfl (hu) ?_
  refine z_i2l X d_nx_88 rfl ?_
  obtain ⟨μ3, hμ3⟩ : ∃ q : Nat → Value, q = fun k => if k = 0 then .ref (ad 1) else .long ((u).toInt64) := ⟨_, rfl⟩
  have m3_0 : μ3 0 = .ref (ad 1) := by rw [hμ3]; rfl
  have m3_1 : μ3 1 = .long ((u).toInt64) := by rw [hμ3]; rfl
  have hpre3 : PRE ad C_p_X8_add_0 μ3 wa2 := by
    refine ⟨fun k t hk => ?_, fun k q hk => ?_, fun q hq => ?_⟩
    · match k, hk with
      | 0, hk => cases hk; rw [m3_0]; exact Or.inr (Or.inr (Or.inl ⟨rfl, rfl⟩))
      | 1, hk => cases hk; rw [m3_1]; exact vty_l0 _
      | N + 2, hk => cases hk
    · cases hk
    · cases hq
  have hct3 := ac_p_X8_add_0 l G ad wa2 μ3 W2 hpre3
  have he3 : (List.range C_p_X8_add_0.1.length).map μ3 = [.ref (ad 1), .long ((u).toInt64)] := by show [μ3 0, μ3 1] = _; rw [m3_0, m3_1]
  rw [he3] at hct3
  refine hcallV (T := TXP) (k := 1) (rest := []) (avs := [.long ((u).toInt64)]) X k_10_183 hct3 d_nx_89 W2 rfl rfl rfl rfl ⟨by show 0 + 1 ≤ R.frames; omega, by show 8 + (3 + 11) + 0 ≤ R.locals; omega⟩ ⟨hc, hs⟩ (by decide) rfl (fun r3 wa3 hp => ?_)
  obtain ⟨A3, hA3, μ9, -, -, q3, -, -, -, W3, F3⟩ := hp
  have ee := List.mem_singleton.mp hA3
  subst ee
  have rr : r3 = none := q3
  subst rr
  have G3 := G2.frm F3 (by decide)
  have L3 : wa3.length = ws.length := F3.1.trans L2
  refine z_iload X d_nx_92 0 rfl ?_
  exact z_iret X rfl d_nx_94 hmc hms (hPO _ _ W3 G3 L3)
theorem en_add {k : Int32} {N0 : Nat} (X : ZC p s m args meth c cX10_enough 7 RX10 G A (some .int) "enough") (hR1 : 5 ≤ R.frames) (hR2 : 119 ≤ R.locals) (hc : kc ≤ R.cells) (hs : ks ≤ R.slots) (hmc : kc ≤ mc) (hms : ks ≤ ms) (k1 : k.toInt ≤ 6) (hPO : ∀ (v : Int32) w1, WT G ad TXP w1 → GF G ω w1 → w1.length = N0 → PO (some (.int v)) w1) : ∀ (N : Nat) (i : Int32) (ws : va_W), WT G ad TXP ws → GF G ω ws → ws.length = N0 → 0 ≤ i.toInt → (k.toInt - i.toInt).toNat < N → Z p l e R s m args below meth c 7 G A (MQ below (QQ G A PO) args s mc ms A) 161 [(0, .ref (ad 0)), (4, .ref (ad 109)), (5, .int k), (6, .int i)] [] ws kc ks
  | 0, _, _, _, _, _, _, h9 => absurd h9 (Nat.not_lt_zero _)
  | N + 1, i, ws, hW, hG, hL, i0, h9 => by
    have L : ws.length = ws.length := rfl
    refine z_iload X d_en_161 3 rfl ?_
    refine z_iload X d_en_163 2 rfl ?_
    refine zc_ge X d_en_165 (tgt := 190) (by decide) (a := i.toInt) (b := k.toInt) rfl rfl (fun _ => ?_) (fun hlt => ?_)
    · skip
      refine z_iload X d_en_190 2 rfl ?_
      exact z_iret X rfl d_en_192 hmc hms (hPO _ _ hW hG hL)
    obtain ⟨bh, hbh, -⟩ := WT.ints (T := TXP) (k := 110) (n := 6) hW rfl
    have v6 : vp_in i 6 := vp_of i0 (by omega)
    refine z_aload_n X d_en_168 rfl 0 rfl ?_
    refine hget (T := TXP) X hW (idx := 12) (fld_10_ok _ (by decide : (12, 10, 0) ∈ fld_10)) d_en_169 rfl (fget_ref hW rfl rfl) ?_
    refine z_aload X d_en_172 1 rfl ?_
    refine hget (T := TXP) X hW (idx := 288) (fld_10_ok _ (by decide : (288, 3, 3) ∈ fld_10)) d_en_174 rfl (fget_ref hW rfl rfl) ?_
    refine z_iload X d_en_177 3 rfl ?_
    refine z_iald X d_en_179 110 (hbh) (v6) rfl ?_
    refine z_i2l X d_en_180 rfl ?_
    obtain ⟨μ4, hμ4⟩ : ∃ q : Nat → Value, q = fun k => if k = 0 then .ref (ad 1) else .long ((bh (i).toNatClampNeg).toInt64) := ⟨_, rfl⟩
    have m4_0 : μ4 0 = .ref (ad 1) := by rw [hμ4]; rfl
    have m4_1 : μ4 1 = .long ((bh (i).toNatClampNeg).toInt64) := by rw [hμ4]; rfl
    have hpre4 : PRE ad C_p_X8_add_0 μ4 ws := by
      refine ⟨fun k t hk => ?_, fun k q hk => ?_, fun q hq => ?_⟩
      · match k, hk with
        | 0, hk => cases hk; rw [m4_0]; exact Or.inr (Or.inr (Or.inl ⟨rfl, rfl⟩))
        | 1, hk => cases hk; rw [m4_1]; exact vty_l0 _
        | N + 2, hk => cases hk
      · cases hk
      · cases hq
    have hct4 := ac_p_X8_add_0 l G ad ws μ4 hW hpre4
    have he4 : (List.range C_p_X8_add_0.1.length).map μ4 = [.ref (ad 1), .long ((bh (i).toNatClampNeg).toInt64)] := by show [μ4 0, μ4 1] = _; rw [m4_0, m4_1]
    rw [he4] at hct4
    refine hcallV (T := TXP) (k := 1) (rest := []) (avs := [.long ((bh (i).toNatClampNeg).toInt64)]) X k_10_183 hct4 d_en_181 hW rfl rfl rfl rfl ⟨by show 0 + 1 ≤ R.frames; omega, by show 8 + (3 + 11) + 0 ≤ R.locals; omega⟩ ⟨hc, hs⟩ (by decide) rfl (fun r4 wa4 hp => ?_)
    obtain ⟨A4, hA4, μ9, -, -, q4, -, -, -, W4, F4⟩ := hp
    have ee := List.mem_singleton.mp hA4
    subst ee
    have rr : r4 = none := q4
    subst rr
    have G4 := hG.frm F4 (by decide)
    have L4 : wa4.length = ws.length := F4.1.trans L
    refine z_iinc X d_en_184 (k := 3) rfl rfl (by decide) (lv' := [(6, .int (i + Int32.ofInt (1))), (0, .ref (ad 0)), (4, .ref (ad 109)), (5, .int (k))]) rfl ?_
    refine z_goto X d_en_187 (tgt := 161) (by decide) ?_
    have e1 : (i + Int32.ofInt 1).toInt = i.toInt + 1 := tI_add rfl (show (Int32.ofInt 1).toInt = 1 by decide) (by omega)
    exact Z.mono (fun q hq => by simp only [List.mem_cons, List.not_mem_nil, or_false] at hq ⊢; rcases hq with h | h | h | h <;> simp [h]) (en_add X hR1 hR2 hc hs hmc hms k1 hPO N (i + Int32.ofInt 1) wa4 W4 G4 (L4.trans hL) (by omega) (by omega))
theorem en_end {k : Int32} {N0 : Nat} {ws : va_W} (X : ZC p s m args meth c cX10_enough 7 RX10 G A (some .int) "enough") (hR1 : 5 ≤ R.frames) (hR2 : 119 ≤ R.locals) (hc : kc ≤ R.cells) (hs : ks ≤ R.slots) (hmc : kc ≤ mc) (hms : ks ≤ ms) (k0 : 0 ≤ k.toInt) (k1 : k.toInt ≤ 6) (hPO : ∀ (v : Int32) w1, WT G ad TXP w1 → GF G ω w1 → w1.length = N0 → PO (some (.int v)) w1) (hW : WT G ad TXP ws) (hG : GF G ω ws) (hL : ws.length = N0) : Z p l e R s m args below meth c 7 G A (MQ below (QQ G A PO) args s mc ms A) 139 [(0, .ref (ad 0)), (4, .ref (ad 109)), (5, .int k)] [] ws kc ks := by
  have L : ws.length = ws.length := rfl
  obtain ⟨n, hn, n0, n1⟩ := fget_int (T := TXP) (k := 109) (j := 0) hW rfl rfl
  refine z_aload X d_en_139 1 rfl ?_
  refine hget (T := TXP) X hW (idx := 268) (fld_10_ok _ (by decide : (268, 3, 0) ∈ fld_10)) d_en_141 rfl (hn) ?_
  refine z_iconst X d_en_144 (v := 1) (by decide) ?_
  refine zc_eq X d_en_145 (tgt := 151) (by decide) (a := n.toInt) (b := 1) rfl rfl (fun _ => ?_) (fun _ => ?_)
  rotate_left
  · skip
    refine z_bipush X d_en_148 (v := (-2)) (by decide) ?_
    exact z_iret X rfl d_en_150 hmc hms (hPO _ _ hW hG hL)
  refine z_aload_n X d_en_151 rfl 0 rfl ?_
  refine hget (T := TXP) X hW (idx := 12) (fld_10_ok _ (by decide : (12, 10, 0) ∈ fld_10)) d_en_152 rfl (fget_ref hW rfl rfl) ?_
  obtain ⟨μ5, hμ5⟩ : ∃ q : Nat → Value, q = fun k => .ref (ad 1) := ⟨_, rfl⟩
  have m5_0 : μ5 0 = .ref (ad 1) := by rw [hμ5]
  have hpre5 : PRE ad C_p_X8_start_0 μ5 ws := by
    refine ⟨fun k t hk => ?_, fun k q hk => ?_, fun q hq => ?_⟩
    · match k, hk with
      | 0, hk => cases hk; rw [m5_0]; exact Or.inr (Or.inr (Or.inl ⟨rfl, rfl⟩))
      | N + 1, hk => cases hk
    · cases hk
    · cases hq
  have hct5 := ac_p_X8_start_0 l G ad ws μ5 hW hpre5
  have he5 : (List.range C_p_X8_start_0.1.length).map μ5 = [.ref (ad 1)] := by show [μ5 0] = _; rw [m5_0]
  rw [he5] at hct5
  refine hcallV (T := TXP) (k := 1) (rest := []) (avs := []) X k_10_180 hct5 d_en_155 hW rfl rfl rfl rfl ⟨by show 0 + 1 ≤ R.frames; omega, by show 8 + (1 + 11) + 0 ≤ R.locals; omega⟩ ⟨hc, hs⟩ (by decide) rfl (fun r5 wa5 hp => ?_)
  obtain ⟨A5, hA5, μ9, -, -, q5, -, -, -, W5, F5⟩ := hp
  have ee := List.mem_singleton.mp hA5
  subst ee
  have rr : r5 = none := q5
  subst rr
  have G5 := hG.frm F5 (by decide)
  have L5 : wa5.length = ws.length := F5.1.trans L
  refine z_iconst X d_en_158 (v := 0) (by decide) ?_
  refine z_istore X d_en_159 (by decide) (lv' := [(6, .int ((0 : Int32))), (0, .ref (ad 0)), (4, .ref (ad 109)), (5, .int (k))]) rfl ?_
  exact Z.mono (fun q hq => by simp only [List.mem_cons, List.not_mem_nil, or_false] at hq ⊢; rcases hq with h | h | h | h <;> simp [h]) (en_add (k := k) X hR1 hR2 hc hs hmc hms k1 hPO _ 0 wa5 W5 G5 (L5.trans hL) (by decide) (Nat.lt_succ_self _))
theorem en_loop {sp x y : Int32} {N0 : Nat} (X : ZC p s m args meth c cX10_enough 7 RX10 G A (some .int) "enough") (hR1 : 5 ≤ R.frames) (hR2 : 119 ≤ R.locals) (hc : kc ≤ R.cells) (hs : ks ≤ R.slots) (hmc : kc ≤ mc) (hms : ks ≤ ms) (p0 : 0 ≤ sp.toInt) (p1 : sp.toInt ≤ 5) (x0 : -60 ≤ x.toInt) (x1 : x.toInt ≤ 60) (y0 : -60 ≤ y.toInt) (y1 : y.toInt ≤ 60) (hPO : ∀ (v : Int32) w1, WT G ad TXP w1 → GF G ω w1 → w1.length = N0 → PO (some (.int v)) w1) : ∀ (N : Nat) (k : Int32) (ws : va_W), WT G ad TXP ws → GF G ω ws → ws.length = N0 → 0 ≤ k.toInt → k.toInt ≤ 6 → (6 - k.toInt).toNat < N → Z p l e R s m args below meth c 7 G A (MQ below (QQ G A PO) args s mc ms A) 71 [(0, .ref (ad 0)), (1, .int sp), (2, .int x), (3, .int y), (4, .ref (ad 109)), (5, .int k)] [] ws kc ks
  | 0, _, _, _, _, _, _, _, h9 => absurd h9 (Nat.not_lt_zero _)
  | N + 1, k, ws, hW, hG, hL, k0, k1, h9 => by
    have L : ws.length = ws.length := rfl
    have fin : Z p l e R s m args below meth c 7 G A (MQ below (QQ G A PO) args s mc ms A) 139 [(0, .ref (ad 0)), (4, .ref (ad 109)), (5, .int k)] [] ws kc ks := en_end X hR1 hR2 hc hs hmc hms k0 k1 hPO hW hG hL
    refine z_iload X d_en_71 5 rfl ?_
    refine z_bipush X d_en_73 (v := 6) (by decide) ?_
    refine zc_ge X d_en_75 (tgt := 139) (by decide) (a := k.toInt) (b := 6) rfl rfl (fun _ => Z.mono (fun q hq => by simp only [List.mem_cons, List.not_mem_nil, or_false] at hq ⊢; rcases hq with h | h | h <;> simp [h]) fin) (fun hlt => ?_)
    obtain ⟨n, hn, n0, n1⟩ := fget_int (T := TXP) (k := 109) (j := 0) hW rfl rfl
    refine z_aload X d_en_78 4 rfl ?_
    refine hget (T := TXP) X hW (idx := 268) (fld_10_ok _ (by decide : (268, 3, 0) ∈ fld_10)) d_en_80 rfl (hn) ?_
    refine z_iconst X d_en_83 (v := 1) (by decide) ?_
    refine zc_le X d_en_84 (tgt := 139) (by decide) (a := n.toInt) (b := 1) rfl rfl (fun _ => Z.mono (fun q hq => by simp only [List.mem_cons, List.not_mem_nil, or_false] at hq ⊢; rcases hq with h | h | h <;> simp [h]) fin) (fun _ => ?_)
    refine z_aload_n X d_en_87 rfl 0 rfl ?_
    refine z_aload X d_en_88 4 rfl ?_
    refine z_iload_n X d_en_90 rfl 1 rfl ?_
    refine z_iconst X d_en_91 (v := 4) (by decide) ?_
    obtain ⟨μ6, hμ6⟩ : ∃ q : Nat → Value, q = fun k => if k = 0 then .ref (ad 0) else if k = 1 then .ref (ad 109) else if k = 2 then .int sp else .int 4 := ⟨_, rfl⟩
    have m6_0 : μ6 0 = .ref (ad 0) := by rw [hμ6]; rfl
    have m6_1 : μ6 1 = .ref (ad 109) := by rw [hμ6]; rfl
    have m6_2 : μ6 2 = .int sp := by rw [hμ6]; rfl
    have m6_3 : μ6 3 = .int 4 := by rw [hμ6]; rfl
    have hpre6 : PRE ad C_p_X10_findNarrowest_0 μ6 ws := by
      refine ⟨fun k t hk => ?_, fun k q hk => ?_, fun q hq => ?_⟩
      · match k, hk with
        | 0, hk => cases hk; rw [m6_0]; exact Or.inr (Or.inr (Or.inl ⟨rfl, rfl⟩))
        | 1, hk => cases hk; rw [m6_1]; exact Or.inr (Or.inr (Or.inl ⟨rfl, rfl⟩))
        | 2, hk => cases hk; rw [m6_2]; exact vty_i p0 p1
        | 3, hk => cases hk; rw [m6_3]; exact vty_i (by decide) (by decide)
        | N + 4, hk => cases hk
      · cases hk
      · cases hq
    have hct6 := ac_p_X10_findNarrowest_0 l G ad ws μ6 hW hpre6 hG.1
    have he6 : (List.range C_p_X10_findNarrowest_0.1.length).map μ6 = [.ref (ad 0), .ref (ad 109), .int sp, .int 4] := by show [μ6 0, μ6 1, μ6 2, μ6 3] = _; rw [m6_0, m6_1, m6_2, m6_3]
    rw [he6] at hct6
    refine hcallV (T := TXP) (k := 0) (rest := []) (avs := [.ref (ad 109), .int sp, .int 4]) X k_10_271 hct6 d_en_92 hW rfl rfl rfl rfl ⟨by show 3 + 1 ≤ R.frames; omega, by show 8 + (8 + 11) + 74 ≤ R.locals; omega⟩ ⟨hc, hs⟩ (by decide) rfl (fun r6 wa6 hp => ?_)
    obtain ⟨A6, hA6, μ9, -, -, q6, -, -, -, W6, F6⟩ := hp
    have ee := List.mem_singleton.mp hA6
    subst ee
    obtain ⟨rr, r2⟩ := q6
    obtain ⟨v, ev', -⟩ := vty0 r2 rfl
    rw [rr, ev']
    have G6 := hG.frm F6 (by decide)
    have L6 : wa6.length = ws.length := F6.1.trans L
    refine z_pop X d_en_95 rfl ?_
    obtain ⟨h, hh, h0, h1⟩ := fget_int (T := TXP) (k := 109) (j := 1) W6 rfl rfl
    obtain ⟨u, hu, u0, u1⟩ := fget_int (T := TXP) (k := 109) (j := 2) W6 rfl rfl
    refine z_aload_n X d_en_96 rfl 0 rfl ?_
    refine z_aload X d_en_97 4 rfl ?_
    refine z_iload_n X d_en_99 rfl 1 rfl ?_
    refine z_aload X d_en_100 4 rfl ?_
    refine hget (T := TXP) X W6 (idx := 275) (fld_10_ok _ (by decide : (275, 3, 1) ∈ fld_10)) d_en_102 rfl (hh) ?_
    refine z_aload X d_en_105 4 rfl ?_
    refine hget (T := TXP) X W6 (idx := 278) (fld_10_ok _ (by decide : (278, 3, 2) ∈ fld_10)) d_en_107 rfl (hu) ?_
    obtain ⟨μ7, hμ7⟩ : ∃ q : Nat → Value, q = fun k => if k = 0 then .ref (ad 0) else if k = 1 then .ref (ad 109) else if k = 2 then .int sp else if k = 3 then .int h else .int u := ⟨_, rfl⟩
    have m7_0 : μ7 0 = .ref (ad 0) := by rw [hμ7]; rfl
    have m7_1 : μ7 1 = .ref (ad 109) := by rw [hμ7]; rfl
    have m7_2 : μ7 2 = .int sp := by rw [hμ7]; rfl
    have m7_3 : μ7 3 = .int h := by rw [hμ7]; rfl
    have m7_4 : μ7 4 = .int u := by rw [hμ7]; rfl
    have hpre7 : PRE ad C_p_X10_feelWithHung_0 μ7 wa6 := by
      refine ⟨fun k t hk => ?_, fun k q hk => ?_, fun q hq => ?_⟩
      · match k, hk with
        | 0, hk => cases hk; rw [m7_0]; exact Or.inr (Or.inr (Or.inl ⟨rfl, rfl⟩))
        | 1, hk => cases hk; rw [m7_1]; exact Or.inr (Or.inr (Or.inl ⟨rfl, rfl⟩))
        | 2, hk => cases hk; rw [m7_2]; exact vty_i p0 p1
        | 3, hk => cases hk; rw [m7_3]; exact vty_i h0 h1
        | 4, hk => cases hk; rw [m7_4]; exact vty_i u0 u1
        | N + 5, hk => cases hk
      · cases hk
      · cases hq
    have hct7 := ac_p_X10_feelWithHung_0 l G ad wa6 μ7 W6 hpre7
    have he7 : (List.range C_p_X10_feelWithHung_0.1.length).map μ7 = [.ref (ad 0), .ref (ad 109), .int sp, .int h, .int u] := by show [μ7 0, μ7 1, μ7 2, μ7 3, μ7 4] = _; rw [m7_0, m7_1, m7_2, m7_3, m7_4]
    rw [he7] at hct7
    refine hcallV (T := TXP) (k := 0) (rest := []) (avs := [.ref (ad 109), .int sp, .int h, .int u]) X k_10_281 hct7 d_en_110 W6 rfl rfl rfl rfl ⟨by show 2 + 1 ≤ R.frames; omega, by show 8 + (7 + 11) + 48 ≤ R.locals; omega⟩ ⟨hc, hs⟩ (by decide) rfl (fun r7 wa7 hp => ?_)
    obtain ⟨A7, hA7, μ9, -, -, q7, -, -, -, W7, F7⟩ := hp
    have ee := List.mem_singleton.mp hA7
    subst ee
    have rr : r7 = none := q7
    subst rr
    have G7 := G6.frm F7 (by decide)
    have L7 : wa7.length = ws.length := F7.1.trans L6
    refine z_aload X d_en_113 4 rfl ?_
    refine z_iload_n X d_en_115 rfl 2 rfl ?_
    refine z_iload_n X d_en_116 rfl 3 rfl ?_
    refine hcallV (T := TXP) (k := 109) (rest := []) (avs := [.int x, .int y]) X k_10_285 (ac_keepAlike l G W7 G7.1 x0 x1 y0 y1) d_en_117 W7 rfl rfl rfl rfl ⟨by show 1 + 1 ≤ R.frames; omega, by show 8 + (7 + 11) + 21 ≤ R.locals; omega⟩ ⟨hc, hs⟩ (by decide) rfl (fun r wk hp => ?_)
    obtain ⟨rfl, Wk, Fk, Gk0⟩ := hp
    have Gk : GF G ω wk := ⟨Gk0, G7.2.frm Fk (by decide)⟩
    have Lk : wk.length = ws.length := Fk.1.trans L7
    obtain ⟨n2, hn2, n20, n21⟩ := fget_int (T := TXP) (k := 109) (j := 0) Wk rfl rfl
    obtain ⟨bh, hbh, -⟩ := WT.ints (T := TXP) (k := 110) (n := 6) Wk rfl
    have v6 : vp_in k 6 := vp_of k0 (by omega)
    refine z_aload X d_en_120 4 rfl ?_
    refine hget (T := TXP) X Wk (idx := 288) (fld_10_ok _ (by decide : (288, 3, 3) ∈ fld_10)) d_en_122 rfl (fget_ref Wk rfl rfl) ?_
    refine z_iload X d_en_125 5 rfl ?_
    refine z_aload X d_en_127 4 rfl ?_
    refine hget (T := TXP) X Wk (idx := 268) (fld_10_ok _ (by decide : (268, 3, 0) ∈ fld_10)) d_en_129 rfl (hn2) ?_
    refine z_iast X d_en_132 110 (hbh) (v6) rfl ?_
    have Wz := WT.wr (j := k.toNatClampNeg) (v := n2) Wk rfl hbh n20 n21
    have Gz := Gk.setA (k := 110) (a := ad 110) (en := aI G 6 (upd bh k.toNatClampNeg n2)) (by decide)
    refine z_iinc X d_en_133 (k := 5) rfl rfl (by decide) (lv' := [(5, .int (k + Int32.ofInt (1))), (0, .ref (ad 0)), (1, .int (sp)), (2, .int (x)), (3, .int (y)), (4, .ref (ad 109))]) rfl ?_
    refine z_goto X d_en_136 (tgt := 71) (by decide) ?_
    have e1 : (k + Int32.ofInt 1).toInt = k.toInt + 1 := tI_add rfl (show (Int32.ofInt 1).toInt = 1 by decide) (by omega)
    exact Z.mono (fun q hq => by simp only [List.mem_cons, List.not_mem_nil, or_false] at hq ⊢; rcases hq with h | h | h | h | h | h <;> simp [h]) (en_loop (sp := sp) (x := x) (y := y) X hR1 hR2 hc hs hmc hms p0 p1 x0 x1 y0 y1 hPO N (k + Int32.ofInt 1) _ Wz Gz (by rw [List.length_set, Lk, hL]) (by omega) (by omega) (by omega))
theorem en_tail {ws : va_W} {sp x y : Int32} (X : ZC p s m args meth c cX10_enough 7 RX10 G A (some .int) "enough") (hW : WT G ad TXP ws) (hG : GF G ω ws) (hR1 : 5 ≤ R.frames) (hR2 : 119 ≤ R.locals) (hc : kc ≤ R.cells) (hs : ks ≤ R.slots) (hmc : kc ≤ mc) (hms : ks ≤ ms) (p0 : 0 ≤ sp.toInt) (p1 : sp.toInt ≤ 5) (x0 : -60 ≤ x.toInt) (x1 : x.toInt ≤ 60) (y0 : -60 ≤ y.toInt) (y1 : y.toInt ≤ 60) (hPO : ∀ (v : Int32) w1, WT G ad TXP w1 → GF G ω w1 → w1.length = ws.length → PO (some (.int v)) w1) : Z p l e R s m args below meth c 7 G A (MQ below (QQ G A PO) args s mc ms A) 66 [(0, .ref (ad 0)), (1, .int sp), (2, .int x), (3, .int y)] [.ref (ad 109)] ws kc ks := by
  refine z_astore X d_en_66 (by decide) (lv' := [(4, .ref (ad 109)), (0, .ref (ad 0)), (1, .int (sp)), (2, .int (x)), (3, .int (y))]) rfl ?_
  refine z_iconst X d_en_68 (v := 0) (by decide) ?_
  refine z_istore X d_en_69 (by decide) (lv' := [(5, .int ((0 : Int32))), (4, .ref (ad 109)), (0, .ref (ad 0)), (1, .int (sp)), (2, .int (x)), (3, .int (y))]) rfl ?_
  exact Z.mono (fun q hq => by simp only [List.mem_cons, List.not_mem_nil, or_false] at hq ⊢; rcases hq with h | h | h | h | h | h <;> simp [h]) (en_loop (sp := sp) (x := x) (y := y) X hR1 hR2 hc hs hmc hms p0 p1 x0 x1 y0 y1 hPO _ 0 ws hW hG rfl (by decide) (by decide) (Nat.lt_succ_self _))
end NXT
end
section
/-! the class's next, enough, whole -/
/-- the class's world: without its pulls, or with them -/
def CWx (G : KG) (x : Nat) (w : va_W) : Prop := ∃ ad : Nat → Nat, ad 0 = x ∧ ((WT G ad TX w ∧ w.length = 109 ∧ fget w 0 15 = some .null) ∨ (WT G ad TXP w ∧ w.length = 116 ∧ GC G w))
/-- an int, and the class's world, no shorter than before -/
def iPO (G : KG) (x : Nat) (w0 : va_W) : Option Value → va_W → Prop := fun r w1 => (∃ v : Int32, r = some (.int v)) ∧ w0.length ≤ w1.length ∧ CWx G x w1 ∧ FX mk_nxe 109 w0 w1
abbrev rm_nx (k s : Nat) : Room := { frames := 5, cells := k, slots := s, locals := 120 }
abbrev rm_en (k s : Nat) : Room := { frames := 5, cells := k, slots := s, locals := 122 }
theorem ac_nxA (l : Launch) (G : KG) {ad : Nat → Nat} {w0 : va_W} (a b : Int32) (hW : WT G ad TX w0) (hl : w0.length = 109) (hn : fget w0 0 15 = some .null) : Ct l G yX10_next cX10_next 5 (some .int) (rm_nx 7 80434) [.ref (ad 0), .int a, .int b] w0 (iPO G (ad 0) w0) := by
  obtain ⟨μ, hμ⟩ : ∃ q : Nat → Value, q = fun k => if k = 0 then .ref (ad 0) else if k = 1 then .int a else .int b := ⟨_, rfl⟩
  have m0 : μ 0 = .ref (ad 0) := by rw [hμ]; rfl
  have m1 : μ 1 = .int a := by rw [hμ]; rfl
  have m2 : μ 2 = .int b := by rw [hμ]; rfl
  have hpre : PRE ad C_nx μ w0 := by
    refine ⟨fun k t hk => ?_, fun k q hk => ?_, fun q hq => ?_⟩
    · match k, hk with
      | 0, hk => cases hk; rw [m0]; exact Or.inr (Or.inr (Or.inl ⟨rfl, rfl⟩))
      | 1, hk => cases hk; rw [m1]; exact vty_i0 _
      | 2, hk => cases hk; rw [m2]; exact vty_i0 _
      | N + 3, hk => cases hk
    · cases hk
    · cases hq
  have he : (List.range C_nx.1.length).map μ = [.ref (ad 0), .int a, .int b] := by show [μ 0, μ 1, μ 2] = _; rw [m0, m1, m2]
  rw [← he]
  refine hand_ofR (C := C_nx) (rm := rm_nx 7 80434) (PO := iPO G (ad 0) w0) hW hpre (by decide) (by decide) (by decide) (by decide) (by decide) ?_
  intro p e s m args below meth c A X lw hg
  have hPO : ∀ r w1, POST G ad TX sC_nxA μ w0 r w1 → iPO G (ad 0) w0 r w1 := by
    intro r w1 hp
    obtain ⟨A1, hA1, μ9, -, -, q3, -, -, -, q7, q8⟩ := hp
    have ee := List.mem_singleton.mp hA1
    subst ee
    obtain ⟨rr, r2⟩ := q3
    obtain ⟨v, ev', -⟩ := vty0 r2 rfl
    exact ⟨⟨v, by rw [rr, ev']⟩, by rw [q8.1]; exact Nat.le_refl _, ⟨ad, rfl, Or.inl ⟨q7, q8.1.trans hl, fget_frame q8 (by decide) hn⟩⟩, FX.refl.frm q8 (by decide)⟩
  refine aseg (C := sC_nxA) (R := rm_nx 7 80434) (PO := iPO G (ad 0) w0) (fld := fld_10) (put := put_10) (cst := cst_10) (cstl := cstl_10) (hk := hk0) (tab := D_X10_next) (rk := 1) (pids := [0, 1, 2]) D_X10_next_ok X rfl rfl hok0 (Or.inr (Or.inl ⟨rfl, rfl⟩)) (Nat.zero_le _) (Nat.zero_le _) (spin1 (C := C_nx)) (spin2 (C := C_nx)) hPO fld_10_ok put_10_ok cst_10_ok cstl_10_ok (sl_nxA_ok l G) (Nat.zero_le _) (Nat.zero_le _) spin3 sg_nxA (fun d9 hd ν2 lw2 sw2 ws2 hg2 => ?_) μ lw [] w0 hg
  rw [List.mem_singleton.mp hd] at hg2 ⊢
  have h3 := hg2.2.2
  have e0 : ν2 0 = .ref (ad 0) := h3.ref (i := 0) rfl
  obtain ⟨v1, e1, p0, p1⟩ := h3.rng (i := 1) (a := 0) (b := 5) (by decide)
  obtain ⟨v2, e2, o0, o1⟩ := h3.rng (i := 2) (a := 1) (b := 4) (by decide)
  have el : lw2 = [(0, ν2 0), (1, ν2 1), (2, ν2 2)] := hg2.1
  have es : sw2 = [ν2 0] := hg2.2.1
  have hW2 := h3.2.2.2.2.2.1
  have hF2 := h3.2.2.2.2.2.2
  rw [el, es, e0, e1, e2]
  refine hcallV (T := TX) (k := 0) (rest := []) (avs := []) X k_10_264 (ac_gpN l G hW2 (hF2.1.trans hl) (fget_frame hF2 (by decide) hn)) d_nx_38 hW2 rfl rfl rfl rfl ⟨by decide, by decide⟩ ⟨Nat.le_of_ble_eq_true rfl, Nat.le_of_ble_eq_true rfl⟩ (by decide) rfl (fun r w1 hp => ?_)
  obtain ⟨ad', a1, rfl, a2, a3, a4⟩ := hp
  rw [← a1 0 (by decide)]
  exact nx_tail (ad := ad') X a2 a3 (by decide) (by decide) (Nat.le_refl _) (Nat.le_refl _) (Nat.le_refl _) (Nat.le_refl _) p0 p1 o0 o1 (fun v w2 g1 g2 g3 => ⟨⟨v, rfl⟩, by rw [g3, a4, hl]; decide, ⟨ad', rfl, Or.inr ⟨g1, g3.trans a4, g2.1⟩⟩, (FX.refl.frm hF2 (by decide)).trans g2.2⟩)
theorem ac_nxR (l : Launch) (G : KG) {ad : Nat → Nat} {w0 : va_W} (a b : Int32) (hW : WT G ad TXP w0) (hl : w0.length = 116) (hG : GC G w0) : Ct l G yX10_next cX10_next 5 (some .int) (rm_nx 0 0) [.ref (ad 0), .int a, .int b] w0 (iPO G (ad 0) w0) := by
  obtain ⟨μ, hμ⟩ : ∃ q : Nat → Value, q = fun k => if k = 0 then .ref (ad 0) else if k = 1 then .int a else .int b := ⟨_, rfl⟩
  have m0 : μ 0 = .ref (ad 0) := by rw [hμ]; rfl
  have m1 : μ 1 = .int a := by rw [hμ]; rfl
  have m2 : μ 2 = .int b := by rw [hμ]; rfl
  have hpre : PRE ad C_nx μ w0 := by
    refine ⟨fun k t hk => ?_, fun k q hk => ?_, fun q hq => ?_⟩
    · match k, hk with
      | 0, hk => cases hk; rw [m0]; exact Or.inr (Or.inr (Or.inl ⟨rfl, rfl⟩))
      | 1, hk => cases hk; rw [m1]; exact vty_i0 _
      | 2, hk => cases hk; rw [m2]; exact vty_i0 _
      | N + 3, hk => cases hk
    · cases hk
    · cases hq
  have he : (List.range C_nx.1.length).map μ = [.ref (ad 0), .int a, .int b] := by show [μ 0, μ 1, μ 2] = _; rw [m0, m1, m2]
  rw [← he]
  refine hand_ofR (C := C_nx) (rm := rm_nx 0 0) (PO := iPO G (ad 0) w0) hW hpre (by decide) (by decide) (by decide) (by decide) (by decide) ?_
  intro p e s m args below meth c A X lw hg
  have hPO : ∀ r w1, POST G ad TXP sC_nxR μ w0 r w1 → iPO G (ad 0) w0 r w1 := by
    intro r w1 hp
    obtain ⟨A1, hA1, μ9, -, -, q3, -, -, -, q7, q8⟩ := hp
    have ee := List.mem_singleton.mp hA1
    subst ee
    obtain ⟨rr, r2⟩ := q3
    obtain ⟨v, ev', -⟩ := vty0 r2 rfl
    exact ⟨⟨v, by rw [rr, ev']⟩, by rw [q8.1]; exact Nat.le_refl _, ⟨ad, rfl, Or.inr ⟨q7, q8.1.trans hl, hG.frm q8 (by decide)⟩⟩, FX.refl.frm q8 (by decide)⟩
  refine aseg (C := sC_nxR) (R := rm_nx 0 0) (PO := iPO G (ad 0) w0) (fld := fld_10) (put := put_10) (cst := cst_10) (cstl := cstl_10) (hk := hk0) (tab := D_X10_next) (rk := 1) (pids := [0, 1, 2]) D_X10_next_ok X rfl rfl hok0 (Or.inr (Or.inl ⟨rfl, rfl⟩)) (Nat.zero_le _) (Nat.zero_le _) (spin1 (C := C_nx)) (spin2 (C := C_nx)) hPO fld_10_ok put_10_ok cst_10_ok cstl_10_ok (sl_nxR_ok l G) (Nat.zero_le _) (Nat.zero_le _) spin3 sg_nxR (fun d9 hd ν2 lw2 sw2 ws2 hg2 => ?_) μ lw [] w0 hg
  rw [List.mem_singleton.mp hd] at hg2 ⊢
  have h3 := hg2.2.2
  have e0 : ν2 0 = .ref (ad 0) := h3.ref (i := 0) rfl
  obtain ⟨v1, e1, p0, p1⟩ := h3.rng (i := 1) (a := 0) (b := 5) (by decide)
  obtain ⟨v2, e2, o0, o1⟩ := h3.rng (i := 2) (a := 1) (b := 4) (by decide)
  have el : lw2 = [(0, ν2 0), (1, ν2 1), (2, ν2 2)] := hg2.1
  have es : sw2 = [ν2 0] := hg2.2.1
  have hW2 := h3.2.2.2.2.2.1
  have hF2 := h3.2.2.2.2.2.2
  rw [el, es, e0, e1, e2]
  refine hcallV (T := TXP) (k := 0) (rest := []) (avs := []) X k_10_264 (ac_gpR l G hW2 (⟨hG.frm hF2 (by decide), FX.refl.frm hF2 (by decide)⟩ : GF G w0 ws2)) d_nx_38 hW2 rfl rfl rfl rfl ⟨by decide, by decide⟩ ⟨Nat.le_of_ble_eq_true rfl, Nat.le_of_ble_eq_true rfl⟩ (by decide) rfl (fun r w1 hp => ?_)
  obtain ⟨rfl, a2, a3, a4⟩ := hp
  exact nx_tail (ad := ad) X a2 a3 (by decide) (by decide) (Nat.le_refl _) (Nat.le_refl _) (Nat.le_refl _) (Nat.le_refl _) p0 p1 o0 o1 (fun v w2 g1 g2 g3 => ⟨⟨v, rfl⟩, by rw [g3, a4, hF2.1]; exact Nat.le_refl _, ⟨ad, rfl, Or.inr ⟨g1, (g3.trans a4).trans (hF2.1.trans hl), g2.1⟩⟩, g2.2⟩)
theorem ac_enA (l : Launch) (G : KG) {ad : Nat → Nat} {w0 : va_W} (a b d : Int32) (hW : WT G ad TX w0) (hl : w0.length = 109) (hn : fget w0 0 15 = some .null) : Ct l G yX10_enough cX10_enough 7 (some .int) (rm_en 7 80434) [.ref (ad 0), .int a, .int b, .int d] w0 (iPO G (ad 0) w0) := by
  obtain ⟨μ, hμ⟩ : ∃ q : Nat → Value, q = fun k => if k = 0 then .ref (ad 0) else if k = 1 then .int a else if k = 2 then .int b else .int d := ⟨_, rfl⟩
  have m0 : μ 0 = .ref (ad 0) := by rw [hμ]; rfl
  have m1 : μ 1 = .int a := by rw [hμ]; rfl
  have m2 : μ 2 = .int b := by rw [hμ]; rfl
  have m3 : μ 3 = .int d := by rw [hμ]; rfl
  have hpre : PRE ad C_en μ w0 := by
    refine ⟨fun k t hk => ?_, fun k q hk => ?_, fun q hq => ?_⟩
    · match k, hk with
      | 0, hk => cases hk; rw [m0]; exact Or.inr (Or.inr (Or.inl ⟨rfl, rfl⟩))
      | 1, hk => cases hk; rw [m1]; exact vty_i0 _
      | 2, hk => cases hk; rw [m2]; exact vty_i0 _
      | 3, hk => cases hk; rw [m3]; exact vty_i0 _
      | N + 4, hk => cases hk
    · cases hk
    · cases hq
  have he : (List.range C_en.1.length).map μ = [.ref (ad 0), .int a, .int b, .int d] := by show [μ 0, μ 1, μ 2, μ 3] = _; rw [m0, m1, m2, m3]
  rw [← he]
  refine hand_ofR (C := C_en) (rm := rm_en 7 80434) (PO := iPO G (ad 0) w0) hW hpre (by decide) (by decide) (by decide) (by decide) (by decide) ?_
  intro p e s m args below meth c A X lw hg
  have hPO : ∀ r w1, POST G ad TX sC_enA μ w0 r w1 → iPO G (ad 0) w0 r w1 := by
    intro r w1 hp
    obtain ⟨A1, hA1, μ9, -, -, q3, -, -, -, q7, q8⟩ := hp
    have ee := List.mem_singleton.mp hA1
    subst ee
    obtain ⟨rr, r2⟩ := q3
    obtain ⟨v, ev', -⟩ := vty0 r2 rfl
    exact ⟨⟨v, by rw [rr, ev']⟩, by rw [q8.1]; exact Nat.le_refl _, ⟨ad, rfl, Or.inl ⟨q7, q8.1.trans hl, fget_frame q8 (by decide) hn⟩⟩, FX.refl.frm q8 (by decide)⟩
  refine aseg (C := sC_enA) (R := rm_en 7 80434) (PO := iPO G (ad 0) w0) (fld := fld_10) (put := put_10) (cst := cst_10) (cstl := cstl_10) (hk := hk0) (tab := D_X10_enough) (rk := 1) (pids := [0, 1, 2, 3]) D_X10_enough_ok X rfl rfl hok0 (Or.inr (Or.inl ⟨rfl, rfl⟩)) (Nat.zero_le _) (Nat.zero_le _) (spin1 (C := C_en)) (spin2 (C := C_en)) hPO fld_10_ok put_10_ok cst_10_ok cstl_10_ok (sl_enA_ok l G) (Nat.zero_le _) (Nat.zero_le _) spin3 sg_enA (fun d9 hd ν2 lw2 sw2 ws2 hg2 => ?_) μ lw [] w0 hg
  rw [List.mem_singleton.mp hd] at hg2 ⊢
  have h3 := hg2.2.2
  have e0 : ν2 0 = .ref (ad 0) := h3.ref (i := 0) rfl
  obtain ⟨v1, e1, p0, p1⟩ := h3.rng (i := 1) (a := 0) (b := 5) (by decide)
  obtain ⟨v2, e2, x0, x1⟩ := h3.rng (i := 2) (a := -60) (b := 60) (by decide)
  obtain ⟨v3, e3, y0, y1⟩ := h3.rng (i := 3) (a := -60) (b := 60) (by decide)
  have el : lw2 = [(0, ν2 0), (1, ν2 1), (2, ν2 2), (3, ν2 3)] := hg2.1
  have es : sw2 = [ν2 0] := hg2.2.1
  have hW2 := h3.2.2.2.2.2.1
  have hF2 := h3.2.2.2.2.2.2
  rw [el, es, e0, e1, e2, e3]
  refine hcallV (T := TX) (k := 0) (rest := []) (avs := []) X k_10_264 (ac_gpN l G hW2 (hF2.1.trans hl) (fget_frame hF2 (by decide) hn)) d_en_63 hW2 rfl rfl rfl rfl ⟨by decide, by decide⟩ ⟨Nat.le_of_ble_eq_true rfl, Nat.le_of_ble_eq_true rfl⟩ (by decide) rfl (fun r w1 hp => ?_)
  obtain ⟨ad', a1, rfl, a2, a3, a4⟩ := hp
  rw [← a1 0 (by decide)]
  exact en_tail (ad := ad') X a2 a3 (by decide) (by decide) (Nat.le_refl _) (Nat.le_refl _) (Nat.le_refl _) (Nat.le_refl _) p0 p1 x0 x1 y0 y1 (fun v w2 g1 g2 g3 => ⟨⟨v, rfl⟩, by rw [g3, a4, hl]; decide, ⟨ad', rfl, Or.inr ⟨g1, g3.trans a4, g2.1⟩⟩, (FX.refl.frm hF2 (by decide)).trans g2.2⟩)
theorem ac_enR (l : Launch) (G : KG) {ad : Nat → Nat} {w0 : va_W} (a b d : Int32) (hW : WT G ad TXP w0) (hl : w0.length = 116) (hG : GC G w0) : Ct l G yX10_enough cX10_enough 7 (some .int) (rm_en 0 0) [.ref (ad 0), .int a, .int b, .int d] w0 (iPO G (ad 0) w0) := by
  obtain ⟨μ, hμ⟩ : ∃ q : Nat → Value, q = fun k => if k = 0 then .ref (ad 0) else if k = 1 then .int a else if k = 2 then .int b else .int d := ⟨_, rfl⟩
  have m0 : μ 0 = .ref (ad 0) := by rw [hμ]; rfl
  have m1 : μ 1 = .int a := by rw [hμ]; rfl
  have m2 : μ 2 = .int b := by rw [hμ]; rfl
  have m3 : μ 3 = .int d := by rw [hμ]; rfl
  have hpre : PRE ad C_en μ w0 := by
    refine ⟨fun k t hk => ?_, fun k q hk => ?_, fun q hq => ?_⟩
    · match k, hk with
      | 0, hk => cases hk; rw [m0]; exact Or.inr (Or.inr (Or.inl ⟨rfl, rfl⟩))
      | 1, hk => cases hk; rw [m1]; exact vty_i0 _
      | 2, hk => cases hk; rw [m2]; exact vty_i0 _
      | 3, hk => cases hk; rw [m3]; exact vty_i0 _
      | N + 4, hk => cases hk
    · cases hk
    · cases hq
  have he : (List.range C_en.1.length).map μ = [.ref (ad 0), .int a, .int b, .int d] := by show [μ 0, μ 1, μ 2, μ 3] = _; rw [m0, m1, m2, m3]
  rw [← he]
  refine hand_ofR (C := C_en) (rm := rm_en 0 0) (PO := iPO G (ad 0) w0) hW hpre (by decide) (by decide) (by decide) (by decide) (by decide) ?_
  intro p e s m args below meth c A X lw hg
  have hPO : ∀ r w1, POST G ad TXP sC_enR μ w0 r w1 → iPO G (ad 0) w0 r w1 := by
    intro r w1 hp
    obtain ⟨A1, hA1, μ9, -, -, q3, -, -, -, q7, q8⟩ := hp
    have ee := List.mem_singleton.mp hA1
    subst ee
    obtain ⟨rr, r2⟩ := q3
    obtain ⟨v, ev', -⟩ := vty0 r2 rfl
    exact ⟨⟨v, by rw [rr, ev']⟩, by rw [q8.1]; exact Nat.le_refl _, ⟨ad, rfl, Or.inr ⟨q7, q8.1.trans hl, hG.frm q8 (by decide)⟩⟩, FX.refl.frm q8 (by decide)⟩
  refine aseg (C := sC_enR) (R := rm_en 0 0) (PO := iPO G (ad 0) w0) (fld := fld_10) (put := put_10) (cst := cst_10) (cstl := cstl_10) (hk := hk0) (tab := D_X10_enough) (rk := 1) (pids := [0, 1, 2, 3]) D_X10_enough_ok X rfl rfl hok0 (Or.inr (Or.inl ⟨rfl, rfl⟩)) (Nat.zero_le _) (Nat.zero_le _) (spin1 (C := C_en)) (spin2 (C := C_en)) hPO fld_10_ok put_10_ok cst_10_ok cstl_10_ok (sl_enR_ok l G) (Nat.zero_le _) (Nat.zero_le _) spin3 sg_enR (fun d9 hd ν2 lw2 sw2 ws2 hg2 => ?_) μ lw [] w0 hg
  rw [List.mem_singleton.mp hd] at hg2 ⊢
  have h3 := hg2.2.2
  have e0 : ν2 0 = .ref (ad 0) := h3.ref (i := 0) rfl
  obtain ⟨v1, e1, p0, p1⟩ := h3.rng (i := 1) (a := 0) (b := 5) (by decide)
  obtain ⟨v2, e2, x0, x1⟩ := h3.rng (i := 2) (a := -60) (b := 60) (by decide)
  obtain ⟨v3, e3, y0, y1⟩ := h3.rng (i := 3) (a := -60) (b := 60) (by decide)
  have el : lw2 = [(0, ν2 0), (1, ν2 1), (2, ν2 2), (3, ν2 3)] := hg2.1
  have es : sw2 = [ν2 0] := hg2.2.1
  have hW2 := h3.2.2.2.2.2.1
  have hF2 := h3.2.2.2.2.2.2
  rw [el, es, e0, e1, e2, e3]
  refine hcallV (T := TXP) (k := 0) (rest := []) (avs := []) X k_10_264 (ac_gpR l G hW2 (⟨hG.frm hF2 (by decide), FX.refl.frm hF2 (by decide)⟩ : GF G w0 ws2)) d_en_63 hW2 rfl rfl rfl rfl ⟨by decide, by decide⟩ ⟨Nat.le_of_ble_eq_true rfl, Nat.le_of_ble_eq_true rfl⟩ (by decide) rfl (fun r w1 hp => ?_)
  obtain ⟨rfl, a2, a3, a4⟩ := hp
  exact en_tail (ad := ad) X a2 a3 (by decide) (by decide) (Nat.le_refl _) (Nat.le_refl _) (Nat.le_refl _) (Nat.le_refl _) p0 p1 x0 x1 y0 y1 (fun v w2 g1 g2 g3 => ⟨⟨v, rfl⟩, by rw [g3, a4, hF2.1]; exact Nat.le_refl _, ⟨ad, rfl, Or.inr ⟨g1, (g3.trans a4).trans (hF2.1.trans hl), g2.1⟩⟩, g2.2⟩)
end
