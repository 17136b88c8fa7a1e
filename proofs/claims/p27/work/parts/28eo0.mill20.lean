section
theorem dm_X4_readLines_1 : decode cX4_readLines 1 = .ok (.getfield 15, 3) := by decide +kernel
theorem dm_X4_readLines_4 : decode cX4_readLines 4 = .ok (.ifCond .ne 5, 3) := by decide +kernel
theorem dm_X4_readLines_11 : decode cX4_readLines 11 = .ok (.getfield 15, 3) := by decide +kernel
theorem dm_X4_readLines_16 : decode cX4_readLines 16 = .ok (.invokestatic 19, 3) := by decide +kernel
theorem dm_X4_readLines_19 : decode cX4_readLines 19 = .ok (.putfield 25, 3) := by decide +kernel
theorem dm_X4_readLines_24 : decode cX4_readLines 24 = .ok (.putfield 28, 3) := by decide +kernel
theorem dm_X4_readLines_29 : decode cX4_readLines 29 = .ok (.putfield 31, 3) := by decide +kernel
theorem dm_X4_readLines_34 : decode cX4_readLines 34 = .ok (.putfield 34, 3) := by decide +kernel
theorem dm_X4_readLines_39 : decode cX4_readLines 39 = .ok (.putfield 37, 3) := by decide +kernel
theorem dm_X4_readLines_49 : decode cX4_readLines 49 = .ok (.if_icmp .gt 95, 3) := by decide +kernel
theorem dm_X4_readLines_146 : decode cX4_readLines 146 = .ok (.getfield 28, 3) := by decide +kernel
theorem dm_X4_readLines_150 : decode cX4_readLines 150 = .ok (.ireturn, 1) := by decide +kernel
theorem dm_X4_readLines_56 : decode cX4_readLines 56 = .ok (.invokevirtual 40, 3) := by decide +kernel
theorem dm_X4_readLines_59 : decode cX4_readLines 59 = .ok (.ifCond .ne 10, 3) := by decide +kernel
theorem dm_X4_readLines_70 : decode cX4_readLines 70 = .ok (.getfield 28, 3) := by decide +kernel
theorem dm_X4_readLines_74 : decode cX4_readLines 74 = .ok (.getfield 15, 3) := by decide +kernel
theorem dm_X4_readLines_77 : decode cX4_readLines 77 = .ok (.if_icmp .ne 45, 3) := by decide +kernel
theorem dm_X4_readLines_125 : decode cX4_readLines 125 = .ok (.invokevirtual 55, 3) := by decide +kernel
theorem dm_X4_readLines_128 : decode cX4_readLines 128 = .ok (.ifCond .ne 10, 3) := by decide +kernel
theorem dm_X4_readLines_141 : decode cX4_readLines 141 = .ok (.goto (-96), 3) := by decide +kernel
theorem dm_X4_readLines_133 : decode cX4_readLines 133 = .ok (.getfield 28, 3) := by decide +kernel
theorem dm_X4_readLines_137 : decode cX4_readLines 137 = .ok (.ireturn, 1) := by decide +kernel
theorem dm_X4_readLines_82 : decode cX4_readLines 82 = .ok (.getfield 44, 3) := by decide +kernel
theorem dm_X4_readLines_86 : decode cX4_readLines 86 = .ok (.getfield 31, 3) := by decide +kernel
theorem dm_X4_readLines_90 : decode cX4_readLines 90 = .ok (.putfield 44, 3) := by decide +kernel
theorem dm_X4_readLines_95 : decode cX4_readLines 95 = .ok (.getfield 49, 3) := by decide +kernel
theorem dm_X4_readLines_99 : decode cX4_readLines 99 = .ok (.getfield 34, 3) := by decide +kernel
theorem dm_X4_readLines_103 : decode cX4_readLines 103 = .ok (.putfield 49, 3) := by decide +kernel
theorem dm_X4_readLines_108 : decode cX4_readLines 108 = .ok (.getfield 52, 3) := by decide +kernel
theorem dm_X4_readLines_112 : decode cX4_readLines 112 = .ok (.getfield 37, 3) := by decide +kernel
theorem dm_X4_readLines_116 : decode cX4_readLines 116 = .ok (.putfield 52, 3) := by decide +kernel
theorem dm_X4_readLines_121 : decode cX4_readLines 121 = .ok (.ireturn, 1) := by decide +kernel
theorem dm_X4_readLines_64 : decode cX4_readLines 64 = .ok (.getfield 28, 3) := by decide +kernel
theorem dm_X4_readLines_68 : decode cX4_readLines 68 = .ok (.ireturn, 1) := by decide +kernel
theorem dm_X4_readLines_8 : decode cX4_readLines 8 = .ok (.ireturn, 1) := by decide +kernel
abbrev bm_X4_readLines_0_1 : ZB := [(.aload_n 0, .null)]
theorem km_X4_readLines_0_1 : zchk cX4_readLines bm_X4_readLines_0_1 0 = true ∧ zpc bm_X4_readLines_0_1 0 = 1 := ⟨by decide +kernel, rfl⟩
abbrev bm_X4_readLines_9_11 : ZB := [(.aload_n 0, .null), (.aload_n 0, .null)]
theorem km_X4_readLines_9_11 : zchk cX4_readLines bm_X4_readLines_9_11 9 = true ∧ zpc bm_X4_readLines_9_11 9 = 11 := ⟨by decide +kernel, rfl⟩
abbrev bm_X4_readLines_14_16 : ZB := [(.bipush 60, .int 60)]
theorem km_X4_readLines_14_16 : zchk cX4_readLines bm_X4_readLines_14_16 14 = true ∧ zpc bm_X4_readLines_14_16 14 = 16 := ⟨by decide +kernel, rfl⟩
abbrev bm_X4_readLines_22_24 : ZB := [(.aload_n 0, .null), (.iconst 0, .int 0)]
theorem km_X4_readLines_22_24 : zchk cX4_readLines bm_X4_readLines_22_24 22 = true ∧ zpc bm_X4_readLines_22_24 22 = 24 := ⟨by decide +kernel, rfl⟩
abbrev bm_X4_readLines_27_29 : ZB := [(.aload_n 0, .null), (.iconst 0, .int 0)]
theorem km_X4_readLines_27_29 : zchk cX4_readLines bm_X4_readLines_27_29 27 = true ∧ zpc bm_X4_readLines_27_29 27 = 29 := ⟨by decide +kernel, rfl⟩
abbrev bm_X4_readLines_32_34 : ZB := [(.aload_n 0, .null), (.iconst 0, .int 0)]
theorem km_X4_readLines_32_34 : zchk cX4_readLines bm_X4_readLines_32_34 32 = true ∧ zpc bm_X4_readLines_32_34 32 = 34 := ⟨by decide +kernel, rfl⟩
abbrev bm_X4_readLines_37_39 : ZB := [(.aload_n 0, .null), (.iconst 0, .int 0)]
theorem km_X4_readLines_37_39 : zchk cX4_readLines bm_X4_readLines_37_39 37 = true ∧ zpc bm_X4_readLines_37_39 37 = 39 := ⟨by decide +kernel, rfl⟩
abbrev bm_X4_readLines_42_45 : ZB := [(.iconst 1, .int 1), (.istore 4, .null)]
theorem km_X4_readLines_42_45 : zchk cX4_readLines bm_X4_readLines_42_45 42 = true ∧ zpc bm_X4_readLines_42_45 42 = 45 := ⟨by decide +kernel, rfl⟩
abbrev bm_X4_readLines_45_49 : ZB := [(.iload 4, .null), (.bipush 60, .int 60)]
theorem km_X4_readLines_45_49 : zchk cX4_readLines bm_X4_readLines_45_49 45 = true ∧ zpc bm_X4_readLines_45_49 45 = 49 := ⟨by decide +kernel, rfl⟩
abbrev bm_X4_readLines_144_146 : ZB := [(.iconst (-1), .int (-1)), (.aload_n 0, .null)]
theorem km_X4_readLines_144_146 : zchk cX4_readLines bm_X4_readLines_144_146 144 = true ∧ zpc bm_X4_readLines_144_146 144 = 146 := ⟨by decide +kernel, rfl⟩
abbrev bm_X4_readLines_149_150 : ZB := [(.isub, .null)]
theorem km_X4_readLines_149_150 : zchk cX4_readLines bm_X4_readLines_149_150 149 = true ∧ zpc bm_X4_readLines_149_150 149 = 150 := ⟨by decide +kernel, rfl⟩
abbrev bm_X4_readLines_52_56 : ZB := [(.aload_n 0, .null), (.aload_n 1, .null), (.aload_n 2, .null), (.aload_n 3, .null)]
theorem km_X4_readLines_52_56 : zchk cX4_readLines bm_X4_readLines_52_56 52 = true ∧ zpc bm_X4_readLines_52_56 52 = 56 := ⟨by decide +kernel, rfl⟩
abbrev bm_X4_readLines_69_70 : ZB := [(.aload_n 0, .null)]
theorem km_X4_readLines_69_70 : zchk cX4_readLines bm_X4_readLines_69_70 69 = true ∧ zpc bm_X4_readLines_69_70 69 = 70 := ⟨by decide +kernel, rfl⟩
abbrev bm_X4_readLines_73_74 : ZB := [(.aload_n 0, .null)]
theorem km_X4_readLines_73_74 : zchk cX4_readLines bm_X4_readLines_73_74 73 = true ∧ zpc bm_X4_readLines_73_74 73 = 74 := ⟨by decide +kernel, rfl⟩
abbrev bm_X4_readLines_122_125 : ZB := [(.aload_n 0, .null), (.bipush 59, .int 59)]
theorem km_X4_readLines_122_125 : zchk cX4_readLines bm_X4_readLines_122_125 122 = true ∧ zpc bm_X4_readLines_122_125 122 = 125 := ⟨by decide +kernel, rfl⟩
abbrev bm_X4_readLines_138_141 : ZB := [(.iinc 4 1, .int 1)]
theorem km_X4_readLines_138_141 : zchk cX4_readLines bm_X4_readLines_138_141 138 = true ∧ zpc bm_X4_readLines_138_141 138 = 141 := ⟨by decide +kernel, rfl⟩
abbrev bm_X4_readLines_131_133 : ZB := [(.iconst (-1), .int (-1)), (.aload_n 0, .null)]
theorem km_X4_readLines_131_133 : zchk cX4_readLines bm_X4_readLines_131_133 131 = true ∧ zpc bm_X4_readLines_131_133 131 = 133 := ⟨by decide +kernel, rfl⟩
abbrev bm_X4_readLines_136_137 : ZB := [(.isub, .null)]
theorem km_X4_readLines_136_137 : zchk cX4_readLines bm_X4_readLines_136_137 136 = true ∧ zpc bm_X4_readLines_136_137 136 = 137 := ⟨by decide +kernel, rfl⟩
abbrev bm_X4_readLines_80_82 : ZB := [(.aload_n 1, .null), (.dup, .null)]
theorem km_X4_readLines_80_82 : zchk cX4_readLines bm_X4_readLines_80_82 80 = true ∧ zpc bm_X4_readLines_80_82 80 = 82 := ⟨by decide +kernel, rfl⟩
abbrev bm_X4_readLines_85_86 : ZB := [(.aload_n 0, .null)]
theorem km_X4_readLines_85_86 : zchk cX4_readLines bm_X4_readLines_85_86 85 = true ∧ zpc bm_X4_readLines_85_86 85 = 86 := ⟨by decide +kernel, rfl⟩
abbrev bm_X4_readLines_89_90 : ZB := [(.iadd, .null)]
theorem km_X4_readLines_89_90 : zchk cX4_readLines bm_X4_readLines_89_90 89 = true ∧ zpc bm_X4_readLines_89_90 89 = 90 := ⟨by decide +kernel, rfl⟩
abbrev bm_X4_readLines_93_95 : ZB := [(.aload_n 2, .null), (.dup, .null)]
theorem km_X4_readLines_93_95 : zchk cX4_readLines bm_X4_readLines_93_95 93 = true ∧ zpc bm_X4_readLines_93_95 93 = 95 := ⟨by decide +kernel, rfl⟩
abbrev bm_X4_readLines_98_99 : ZB := [(.aload_n 0, .null)]
theorem km_X4_readLines_98_99 : zchk cX4_readLines bm_X4_readLines_98_99 98 = true ∧ zpc bm_X4_readLines_98_99 98 = 99 := ⟨by decide +kernel, rfl⟩
abbrev bm_X4_readLines_102_103 : ZB := [(.iadd, .null)]
theorem km_X4_readLines_102_103 : zchk cX4_readLines bm_X4_readLines_102_103 102 = true ∧ zpc bm_X4_readLines_102_103 102 = 103 := ⟨by decide +kernel, rfl⟩
abbrev bm_X4_readLines_106_108 : ZB := [(.aload_n 3, .null), (.dup, .null)]
theorem km_X4_readLines_106_108 : zchk cX4_readLines bm_X4_readLines_106_108 106 = true ∧ zpc bm_X4_readLines_106_108 106 = 108 := ⟨by decide +kernel, rfl⟩
abbrev bm_X4_readLines_111_112 : ZB := [(.aload_n 0, .null)]
theorem km_X4_readLines_111_112 : zchk cX4_readLines bm_X4_readLines_111_112 111 = true ∧ zpc bm_X4_readLines_111_112 111 = 112 := ⟨by decide +kernel, rfl⟩
abbrev bm_X4_readLines_115_116 : ZB := [(.iadd, .null)]
theorem km_X4_readLines_115_116 : zchk cX4_readLines bm_X4_readLines_115_116 115 = true ∧ zpc bm_X4_readLines_115_116 115 = 116 := ⟨by decide +kernel, rfl⟩
abbrev bm_X4_readLines_119_121 : ZB := [(.iload 4, .null)]
theorem km_X4_readLines_119_121 : zchk cX4_readLines bm_X4_readLines_119_121 119 = true ∧ zpc bm_X4_readLines_119_121 119 = 121 := ⟨by decide +kernel, rfl⟩
abbrev bm_X4_readLines_62_64 : ZB := [(.iconst (-1), .int (-1)), (.aload_n 0, .null)]
theorem km_X4_readLines_62_64 : zchk cX4_readLines bm_X4_readLines_62_64 62 = true ∧ zpc bm_X4_readLines_62_64 62 = 64 := ⟨by decide +kernel, rfl⟩
abbrev bm_X4_readLines_67_68 : ZB := [(.isub, .null)]
theorem km_X4_readLines_67_68 : zchk cX4_readLines bm_X4_readLines_67_68 67 = true ∧ zpc bm_X4_readLines_67_68 67 = 68 := ⟨by decide +kernel, rfl⟩
abbrev bm_X4_readLines_7_8 : ZB := [(.iconst 0, .int 0)]
theorem km_X4_readLines_7_8 : zchk cX4_readLines bm_X4_readLines_7_8 7 = true ∧ zpc bm_X4_readLines_7_8 7 = 8 := ⟨by decide +kernel, rfl⟩
set_option maxHeartbeats 4000000 in
set_option maxRecDepth 100000 in
theorem cm_X4_readLines (l : Launch) (G : KG) (reader : Nat) (rs : Nat) (f : Nat → Int32) (n : Int32) (lim : Int32) (p : Int32) (nb : Int32) (mh : Int32) (ms : Int32) (mc : Int32) (ring : Nat) (rp : Nat) (rx : Nat) (ry : Nat) (rr : Nat) (hc : Int32) (rh : Value) (rd : Value) (ph : Value) (po : Value) (fp : Nat → Int32) (fx : Nat → Int32) (fy : Nat → Int32) (fr : Nat → Int32) (speeds : Nat) (sf : Nat) (so : Nat) (sc : Int32) (sa : Value) (sx : Value) (sy : Value) (ff : Nat → Int32) (fo : Nat → Int32) (wheel : Nat) (ww : Nat) (cc : Int32) (wt : Value) (wb : Value) (w4 : Value) (w5 : Value) (w6 : Value) (fw : Nat → Int32) (ni : Int) (hci : Int) (sci : Int) (cci : Int) (hn : n.toInt = ni) (hhc : hc.toInt = hci) (hsc : sc.toInt = sci) (hcc : cc.toInt = cci) (hn0 : 0 ≤ ni ∧ ni ≤ 80) (hc0 : 0 ≤ hci ∧ hci ≤ 16 ∧ 0 ≤ sci ∧ sci ≤ 6 ∧ 0 ≤ cci ∧ cci ≤ 8) : Ct l G yX4_readLines cX4_readLines 5 (some .int) { frames := 5, cells := 0, slots := 0, locals := 108 } [.ref reader, .ref ring, .ref speeds, .ref wheel] [(reader, ob 4 [.ref rs, .int n, .int lim, .int p, .int nb, .int mh, .int ms, .int mc]), (rs, aI G 80 f), (ring, ob 5 [.int hc, .ref rp, .ref rx, .ref ry, .ref rr, rh, rd, ph, po]), (rp, aI G 16 fp), (rx, aI G 16 fx), (ry, aI G 16 fy), (rr, aI G 16 fr), (speeds, ob 7 [.int sc, .ref sf, .ref so, sa, sx, sy]), (sf, aI G 6 ff), (so, aI G 6 fo), (wheel, ob 0 [.int cc, .ref ww, wt, wb, w4, w5, w6]), (ww, aI G 8 fw)] (fun r w1 => ∃ (lim2 : Int32), ∃ (q : Int32), ∃ (m : Int32), ∃ (mh2 : Int32), ∃ (ms2 : Int32), ∃ (mc2 : Int32), ∃ (hc2 : Int32), ∃ (sc2 : Int32), ∃ (cc2 : Int32), ∃ (fp2 : Nat → Int32), ∃ (fx2 : Nat → Int32), ∃ (fy2 : Nat → Int32), ∃ (fr2 : Nat → Int32), ∃ (ff2 : Nat → Int32), ∃ (fo2 : Nat → Int32), ∃ (fw2 : Nat → Int32), ∃ (rz : Int32), (CN n (run0 f (if 60 < n then 60 else n) hci sci cci) rz.toInt hci sci cci hc2.toInt sc2.toInt cc2.toInt) ∧ (A7 f (if 60 < n then 60 else n) hci sci cci fp fx fy fr ff fo fw fp2 fx2 fy2 fr2 ff2 fo2 fw2 hc2.toInt sc2.toInt cc2.toInt (run0 f (if 60 < n then 60 else n) hci sci cci).2.2.2.2.2.2.1 (run0 f (if 60 < n then 60 else n) hci sci cci).2.2.2.2.2.2.2.1 (run0 f (if 60 < n then 60 else n) hci sci cci).2.2.2.2.2.2.2.2) ∧ ((0 ≤ hc2.toInt ∧ hc2.toInt ≤ 16) ∧ (0 ≤ sc2.toInt ∧ sc2.toInt ≤ 6) ∧ (0 ≤ cc2.toInt ∧ cc2.toInt ≤ 8)) ∧ r = some (.int rz) ∧ w1 = [(reader, ob 4 [.ref rs, .int n, .int lim2, .int q, .int m, .int mh2, .int ms2, .int mc2]), (rs, aI G 80 f), (ring, ob 5 [.int hc2, .ref rp, .ref rx, .ref ry, .ref rr, rh, rd, ph, po]), (rp, aI G 16 fp2), (rx, aI G 16 fx2), (ry, aI G 16 fy2), (rr, aI G 16 fr2), (speeds, ob 7 [.int sc2, .ref sf, .ref so, sa, sx, sy]), (sf, aI G 6 ff2), (so, aI G 6 fo2), (wheel, ob 0 [.int cc2, .ref ww, wt, wb, w4, w5, w6]), (ww, aI G 8 fw2)]) := by
  refine ct_of [(0, .ref reader), (1, .ref ring), (2, .ref speeds), (3, .ref wheel)] (by decide) (Nat.le_of_ble_eq_true rfl) rfl ?_
  intro p0 e0 s0 m0 args0 below0 meth0 c0 A X
  refine z_run X bm_X4_readLines_0_1 km_X4_readLines_0_1 (lv' := [(0, .ref reader), (1, .ref ring), (2, .ref speeds), (3, .ref wheel)]) (st' := [.ref reader]) rfl ?_
  refine z_get X fl_4_15 dm_X4_readLines_1 0 rfl (v := .int n) rfl ?_
  refine zi_ne X dm_X4_readLines_4 (tgt := 9) (by decide) (a := ni) hn (fun c4_1 => ?_) (fun c4_1 => ?_)
  ·
    have hLm : (if 60 < n then 60 else n).toInt = min ni 60 := (tI_min hn (show (60 : Int32).toInt = 60 from by decide))
    refine z_run X bm_X4_readLines_9_11 km_X4_readLines_9_11 (lv' := [(0, .ref reader), (1, .ref ring), (2, .ref speeds), (3, .ref wheel)]) (st' := [.ref reader, .ref reader]) rfl ?_
    refine z_get X fl_4_15 dm_X4_readLines_11 0 rfl (v := .int n) rfl ?_
    refine z_run X bm_X4_readLines_14_16 km_X4_readLines_14_16 (lv' := [(0, .ref reader), (1, .ref ring), (2, .ref speeds), (3, .ref wheel)]) (st' := [.int 60, .int n, .ref reader]) rfl ?_
    refine z_mmin X k_4_19.1 k_4_19.2.1 k_4_19.2.2.1 k_4_19.2.2.2.1 ⟨Nat.le_of_ble_eq_true rfl, Nat.le_of_ble_eq_true rfl⟩ ⟨Nat.le_of_ble_eq_true rfl, Nat.le_of_ble_eq_true rfl⟩ dm_X4_readLines_16 (v := (if 60 < n then 60 else n)) rfl ?_
    refine z_put X fl_4_25 dm_X4_readLines_19 0 rfl (ty := .int) (T := TX4) (N := 8) rfl (Or.inl rfl) (by decide +kernel) rfl (by rfl) (Nat.le_of_ble_eq_true rfl) (ws' := [(reader, ob 4 [.ref rs, .int n, .int (if 60 < n then 60 else n), .int p, .int nb, .int mh, .int ms, .int mc]), (rs, aI G 80 f), (ring, ob 5 [.int hc, .ref rp, .ref rx, .ref ry, .ref rr, rh, rd, ph, po]), (rp, aI G 16 fp), (rx, aI G 16 fx), (ry, aI G 16 fy), (rr, aI G 16 fr), (speeds, ob 7 [.int sc, .ref sf, .ref so, sa, sx, sy]), (sf, aI G 6 ff), (so, aI G 6 fo), (wheel, ob 0 [.int cc, .ref ww, wt, wb, w4, w5, w6]), (ww, aI G 8 fw)]) rfl ?_
    refine z_run X bm_X4_readLines_22_24 km_X4_readLines_22_24 (lv' := [(0, .ref reader), (1, .ref ring), (2, .ref speeds), (3, .ref wheel)]) (st' := [.int 0, .ref reader]) rfl ?_
    refine z_put X fl_4_28 dm_X4_readLines_24 0 rfl (ty := .int) (T := TX4) (N := 8) rfl (Or.inl rfl) (by decide +kernel) rfl (by rfl) (Nat.le_of_ble_eq_true rfl) (ws' := [(reader, ob 4 [.ref rs, .int n, .int (if 60 < n then 60 else n), .int 0, .int nb, .int mh, .int ms, .int mc]), (rs, aI G 80 f), (ring, ob 5 [.int hc, .ref rp, .ref rx, .ref ry, .ref rr, rh, rd, ph, po]), (rp, aI G 16 fp), (rx, aI G 16 fx), (ry, aI G 16 fy), (rr, aI G 16 fr), (speeds, ob 7 [.int sc, .ref sf, .ref so, sa, sx, sy]), (sf, aI G 6 ff), (so, aI G 6 fo), (wheel, ob 0 [.int cc, .ref ww, wt, wb, w4, w5, w6]), (ww, aI G 8 fw)]) rfl ?_
    refine z_run X bm_X4_readLines_27_29 km_X4_readLines_27_29 (lv' := [(0, .ref reader), (1, .ref ring), (2, .ref speeds), (3, .ref wheel)]) (st' := [.int 0, .ref reader]) rfl ?_
    refine z_put X fl_4_31 dm_X4_readLines_29 0 rfl (ty := .int) (T := TX4) (N := 8) rfl (Or.inl rfl) (by decide +kernel) rfl (by rfl) (Nat.le_of_ble_eq_true rfl) (ws' := [(reader, ob 4 [.ref rs, .int n, .int (if 60 < n then 60 else n), .int 0, .int nb, .int 0, .int ms, .int mc]), (rs, aI G 80 f), (ring, ob 5 [.int hc, .ref rp, .ref rx, .ref ry, .ref rr, rh, rd, ph, po]), (rp, aI G 16 fp), (rx, aI G 16 fx), (ry, aI G 16 fy), (rr, aI G 16 fr), (speeds, ob 7 [.int sc, .ref sf, .ref so, sa, sx, sy]), (sf, aI G 6 ff), (so, aI G 6 fo), (wheel, ob 0 [.int cc, .ref ww, wt, wb, w4, w5, w6]), (ww, aI G 8 fw)]) rfl ?_
    refine z_run X bm_X4_readLines_32_34 km_X4_readLines_32_34 (lv' := [(0, .ref reader), (1, .ref ring), (2, .ref speeds), (3, .ref wheel)]) (st' := [.int 0, .ref reader]) rfl ?_
    refine z_put X fl_4_34 dm_X4_readLines_34 0 rfl (ty := .int) (T := TX4) (N := 8) rfl (Or.inl rfl) (by decide +kernel) rfl (by rfl) (Nat.le_of_ble_eq_true rfl) (ws' := [(reader, ob 4 [.ref rs, .int n, .int (if 60 < n then 60 else n), .int 0, .int nb, .int 0, .int 0, .int mc]), (rs, aI G 80 f), (ring, ob 5 [.int hc, .ref rp, .ref rx, .ref ry, .ref rr, rh, rd, ph, po]), (rp, aI G 16 fp), (rx, aI G 16 fx), (ry, aI G 16 fy), (rr, aI G 16 fr), (speeds, ob 7 [.int sc, .ref sf, .ref so, sa, sx, sy]), (sf, aI G 6 ff), (so, aI G 6 fo), (wheel, ob 0 [.int cc, .ref ww, wt, wb, w4, w5, w6]), (ww, aI G 8 fw)]) rfl ?_
    refine z_run X bm_X4_readLines_37_39 km_X4_readLines_37_39 (lv' := [(0, .ref reader), (1, .ref ring), (2, .ref speeds), (3, .ref wheel)]) (st' := [.int 0, .ref reader]) rfl ?_
    refine z_put X fl_4_37 dm_X4_readLines_39 0 rfl (ty := .int) (T := TX4) (N := 8) rfl (Or.inl rfl) (by decide +kernel) rfl (by rfl) (Nat.le_of_ble_eq_true rfl) (ws' := [(reader, ob 4 [.ref rs, .int n, .int (if 60 < n then 60 else n), .int 0, .int nb, .int 0, .int 0, .int 0]), (rs, aI G 80 f), (ring, ob 5 [.int hc, .ref rp, .ref rx, .ref ry, .ref rr, rh, rd, ph, po]), (rp, aI G 16 fp), (rx, aI G 16 fx), (ry, aI G 16 fy), (rr, aI G 16 fr), (speeds, ob 7 [.int sc, .ref sf, .ref so, sa, sx, sy]), (sf, aI G 6 ff), (so, aI G 6 fo), (wheel, ob 0 [.int cc, .ref ww, wt, wb, w4, w5, w6]), (ww, aI G 8 fw)]) rfl ?_
    refine z_run X bm_X4_readLines_42_45 km_X4_readLines_42_45 (lv' := [(4, .int 1), (0, .ref reader), (1, .ref ring), (2, .ref speeds), (3, .ref wheel)]) (st' := []) rfl ?_
    refine zloop (σ := Int32 × Int32 × Int32 × Int32 × Int32 × Int32 × (Nat → Int32) × (Nat → Int32) × (Nat → Int32) × (Nat → Int32) × (Nat → Int32) × (Nat → Int32) × (Nat → Int32) × (Nat → Int32) × (Nat → Int32) × (Nat → Int32)) (fun z => [(4, .int z.1), (0, .ref reader), (1, .ref ring), (2, .ref speeds), (3, .ref wheel)]) (fun z => []) (fun z => [(reader, ob 4 [.ref rs, .int n, .int (if 60 < n then 60 else n), .int z.2.1, .int z.2.2.1, .int z.2.2.2.1, .int z.2.2.2.2.1, .int z.2.2.2.2.2.1]), (rs, aI G 80 f), (ring, ob 5 [.int hc, .ref rp, .ref rx, .ref ry, .ref rr, rh, rd, ph, po]), (rp, aI G 16 z.2.2.2.2.2.2.1), (rx, aI G 16 z.2.2.2.2.2.2.2.1), (ry, aI G 16 z.2.2.2.2.2.2.2.2.1), (rr, aI G 16 z.2.2.2.2.2.2.2.2.2.1), (speeds, ob 7 [.int sc, .ref sf, .ref so, sa, sx, sy]), (sf, aI G 6 z.2.2.2.2.2.2.2.2.2.2.1), (so, aI G 6 z.2.2.2.2.2.2.2.2.2.2.2.1), (wheel, ob 0 [.int cc, .ref ww, wt, wb, w4, w5, w6]), (ww, aI G 8 z.2.2.2.2.2.2.2.2.2.2.2.2.1)]) (fun z => (1 ≤ z.1.toInt ∧ z.1.toInt ≤ 61) ∧ (0 ≤ z.2.1.toInt ∧ z.2.1.toInt ≤ 60) ∧ (0 ≤ z.2.2.2.1.toInt ∧ hci + z.2.2.2.1.toInt ≤ 16 ∧ 0 ≤ z.2.2.2.2.1.toInt ∧ sci + z.2.2.2.2.1.toInt ≤ 6 ∧ 0 ≤ z.2.2.2.2.2.1.toInt ∧ cci + z.2.2.2.2.2.1.toInt ≤ 8) ∧ (MI f (if 60 < n then 60 else n) hci sci cci (z.1.toInt - 1) z.2.1 (hci + z.2.2.2.1.toInt) (sci + z.2.2.2.2.1.toInt) (cci + z.2.2.2.2.2.1.toInt) z.2.2.2.2.2.2.2.2.2.2.2.2.2.1 z.2.2.2.2.2.2.2.2.2.2.2.2.2.2.1 z.2.2.2.2.2.2.2.2.2.2.2.2.2.2.2) ∧ (A7 f (if 60 < n then 60 else n) hci sci cci fp fx fy fr ff fo fw z.2.2.2.2.2.2.1 z.2.2.2.2.2.2.2.1 z.2.2.2.2.2.2.2.2.1 z.2.2.2.2.2.2.2.2.2.1 z.2.2.2.2.2.2.2.2.2.2.1 z.2.2.2.2.2.2.2.2.2.2.2.1 z.2.2.2.2.2.2.2.2.2.2.2.2.1 (hci + z.2.2.2.1.toInt) (sci + z.2.2.2.2.1.toInt) (cci + z.2.2.2.2.2.1.toInt) z.2.2.2.2.2.2.2.2.2.2.2.2.2.1 z.2.2.2.2.2.2.2.2.2.2.2.2.2.2.1 z.2.2.2.2.2.2.2.2.2.2.2.2.2.2.2)) (fun z => (61 - z.1.toInt).toNat) (1, 0, nb, 0, 0, 0, fp, fx, fy, fr, ff, fo, fw, zf, zf, zf) ?_ ?_
    ·
      rintro ⟨i_, pp, nn, uh, us, uc, gp, gx, gy, gr, gf, go, gw, ta, tb, td⟩ ⟨hi, hp, hu, hM, hA⟩ ih45
      dsimp only at *
      refine z_run X bm_X4_readLines_45_49 km_X4_readLines_45_49 (lv' := [(4, .int i_), (0, .ref reader), (1, .ref ring), (2, .ref speeds), (3, .ref wheel)]) (st' := [.int 60, .int i_]) rfl ?_
      refine zc_gt X dm_X4_readLines_49 (tgt := 144) (by decide) (a := i_.toInt) (b := 60) rfl (show (60 : Int32).toInt = 60 from by decide) (fun c49_2 => ?_) (fun c49_2 => ?_)
      ·
        refine z_run X bm_X4_readLines_144_146 km_X4_readLines_144_146 (lv' := [(4, .int i_), (0, .ref reader), (1, .ref ring), (2, .ref speeds), (3, .ref wheel)]) (st' := [.ref reader, .int (-1)]) rfl ?_
        refine z_get X fl_4_28 dm_X4_readLines_146 0 rfl (v := .int pp) rfl ?_
        refine z_run X bm_X4_readLines_149_150 km_X4_readLines_149_150 (lv' := [(4, .int i_), (0, .ref reader), (1, .ref ring), (2, .ref speeds), (3, .ref wheel)]) (st' := [.int ((-1) - pp)]) rfl ?_
        exact z_iret X rfl dm_X4_readLines_150 (Nat.le_of_ble_eq_true rfl) (Nat.le_of_ble_eq_true rfl) ⟨(if 60 < n then 60 else n), pp, nn, uh, us, uc, hc, sc, cc, gp, gx, gy, gr, gf, go, gw, ((-1) - pp), (CN.cast (CN.bad (hM.late (by omega)) (by omega) rfl) (tI_sub (show ((-1) : Int32).toInt = (-1) from by decide) rfl (by omega)) hhc hsc hcc), (A7.cast hA.cut hhc hsc hcc), (by have e0 := hhc; have e1 := hsc; have e2 := hcc; omega), rfl, rfl⟩
      ·
        refine z_run X bm_X4_readLines_52_56 km_X4_readLines_52_56 (lv' := [(4, .int i_), (0, .ref reader), (1, .ref ring), (2, .ref speeds), (3, .ref wheel)]) (st' := [.ref wheel, .ref speeds, .ref ring, .ref reader]) rfl ?_
        refine z_callV X k_4_40 (cm_X4_readLine l G reader rs f n (if 60 < n then 60 else n) pp nn uh us uc ring rp rx ry rr hc rh rd ph po gp gx gy gr speeds sf so sc sa sx sy gf go wheel ww cc wt wb w4 w5 w6 gw pp.toInt ((min ni 60)) hci uh.toInt sci us.toInt cci uc.toInt rfl (tI_min hn (show (60 : Int32).toInt = 60 from by decide)) hhc rfl hsc rfl hcc rfl (by omega) (by omega) (by omega)) dm_X4_readLines_56 0 rfl rfl rfl ⟨Nat.le_of_ble_eq_true rfl, Nat.le_of_ble_eq_true rfl⟩ ⟨Nat.le_of_ble_eq_true rfl, Nat.le_of_ble_eq_true rfl⟩ rfl (rest := []) (As := [.ref ring, .ref speeds, .ref wheel]) rfl (Nat.le_of_ble_eq_true rfl) [0, 1, 2, 3, 4, 5, 6, 7, 8, 9, 10, 11] [] rfl (by decide) (wr := []) rfl (by decide) (by decide) ?_
        rintro _ _ ⟨q_3, m_4, mh2_5, ms2_6, mc2_7, fp2_8, fx2_9, fy2_10, fr2_11, ff2_12, fo2_13, fw2_14, f56_15, f56_16, f56_17, f56_18, f56_19, rfl, rfl⟩
        refine Z.at (pc' := 59) (st' := [.int (zb (decide ((lin f (if 60 < n then 60 else n) pp (hci + uh.toInt) (sci + us.toInt) (cci + uc.toInt)).1 = true)))]) (ws' := [(reader, ob 4 [.ref rs, .int n, .int (if 60 < n then 60 else n), .int q_3, .int m_4, .int mh2_5, .int ms2_6, .int mc2_7]), (rs, aI G 80 f), (ring, ob 5 [.int hc, .ref rp, .ref rx, .ref ry, .ref rr, rh, rd, ph, po]), (rp, aI G 16 fp2_8), (rx, aI G 16 fx2_9), (ry, aI G 16 fy2_10), (rr, aI G 16 fr2_11), (speeds, ob 7 [.int sc, .ref sf, .ref so, sa, sx, sy]), (sf, aI G 6 ff2_12), (so, aI G 6 fo2_13), (wheel, ob 0 [.int cc, .ref ww, wt, wb, w4, w5, w6]), (ww, aI G 8 fw2_14)]) (kc' := 0) (ks' := 0) rfl rfl rfl rfl rfl ?_
        refine zi_ne_zb X dm_X4_readLines_59 (tgt := 69) (by decide) (fun c59_20 => ?_) (fun c59_20 => ?_)
        ·
          have sl : ((hc + uh).toNatClampNeg : Int) = (hci + uh.toInt) ∧ ((sc + us).toNatClampNeg : Int) = (sci + us.toInt) ∧ ((cc + uc).toNatClampNeg : Int) = (cci + uc.toInt) := ⟨slot_of hhc rfl (by omega), slot_of hsc rfl (by omega), slot_of hcc rfl (by omega)⟩
          have k1 := f56_17 c59_20
          have rm := lin_room c59_20 (by omega) (by omega) (by omega)
          refine z_run X bm_X4_readLines_69_70 km_X4_readLines_69_70 (lv' := [(4, .int i_), (0, .ref reader), (1, .ref ring), (2, .ref speeds), (3, .ref wheel)]) (st' := [.ref reader]) rfl ?_
          refine z_get X fl_4_28 dm_X4_readLines_70 0 rfl (v := .int q_3) rfl ?_
          refine z_run X bm_X4_readLines_73_74 km_X4_readLines_73_74 (lv' := [(4, .int i_), (0, .ref reader), (1, .ref ring), (2, .ref speeds), (3, .ref wheel)]) (st' := [.ref reader, .int q_3]) rfl ?_
          refine z_get X fl_4_15 dm_X4_readLines_74 0 rfl (v := .int n) rfl ?_
          refine zc_ne X dm_X4_readLines_77 (tgt := 122) (by decide) (a := q_3.toInt) (b := ni) rfl hn (fun c77_21 => ?_) (fun c77_21 => ?_)
          ·
            refine z_run X bm_X4_readLines_122_125 km_X4_readLines_122_125 (lv' := [(4, .int i_), (0, .ref reader), (1, .ref ring), (2, .ref speeds), (3, .ref wheel)]) (st' := [.int 59, .ref reader]) rfl ?_
            refine z_callV X k_4_55 (cm_X4_readSign l G reader rs f n (if 60 < n then 60 else n) q_3 m_4 mh2_5 ms2_6 mc2_7 59 q_3.toInt ((min ni 60)) 59 rfl (tI_min hn (show (60 : Int32).toInt = 60 from by decide)) (show (59 : Int32).toInt = 59 from by decide) (by omega) (by omega)) dm_X4_readLines_125 0 rfl rfl rfl ⟨Nat.le_of_ble_eq_true rfl, Nat.le_of_ble_eq_true rfl⟩ ⟨Nat.le_of_ble_eq_true rfl, Nat.le_of_ble_eq_true rfl⟩ rfl (rest := []) (As := [.int 59]) rfl (Nat.le_of_ble_eq_true rfl) [0, 1] [2, 3, 4, 5, 6, 7, 8, 9, 10, 11] rfl (by decide) (wr := [(ring, ob 5 [.int hc, .ref rp, .ref rx, .ref ry, .ref rr, rh, rd, ph, po]), (rp, aI G 16 fp2_8), (rx, aI G 16 fx2_9), (ry, aI G 16 fy2_10), (rr, aI G 16 fr2_11), (speeds, ob 7 [.int sc, .ref sf, .ref so, sa, sx, sy]), (sf, aI G 6 ff2_12), (so, aI G 6 fo2_13), (wheel, ob 0 [.int cc, .ref ww, wt, wb, w4, w5, w6]), (ww, aI G 8 fw2_14)]) rfl (by decide) (by decide) ?_
            rintro _ _ ⟨q_22, f125_23, f125_24, rfl, rfl⟩
            refine Z.at (pc' := 128) (st' := [.int (zb (decide ((tk f (if 60 < n then 60 else n) q_3 59).1 = true)))]) (ws' := [(ring, ob 5 [.int hc, .ref rp, .ref rx, .ref ry, .ref rr, rh, rd, ph, po]), (rp, aI G 16 fp2_8), (rx, aI G 16 fx2_9), (ry, aI G 16 fy2_10), (rr, aI G 16 fr2_11), (speeds, ob 7 [.int sc, .ref sf, .ref so, sa, sx, sy]), (sf, aI G 6 ff2_12), (so, aI G 6 fo2_13), (wheel, ob 0 [.int cc, .ref ww, wt, wb, w4, w5, w6]), (ww, aI G 8 fw2_14), (reader, ob 4 [.ref rs, .int n, .int (if 60 < n then 60 else n), .int q_22, .int m_4, .int mh2_5, .int ms2_6, .int mc2_7]), (rs, aI G 80 f)]) (kc' := 0) (ks' := 0) rfl rfl rfl rfl rfl ?_
            refine zi_ne_zb X dm_X4_readLines_128 (tgt := 138) (by decide) (fun c128_25 => ?_) (fun c128_25 => ?_)
            ·
              refine z_run X bm_X4_readLines_138_141 km_X4_readLines_138_141 (lv' := [(4, .int (i_ + 1)), (0, .ref reader), (1, .ref ring), (2, .ref speeds), (3, .ref wheel)]) (st' := []) rfl ?_
              refine z_goto X dm_X4_readLines_141 (tgt := 45) (by decide) ?_
              refine Z.sub (lv' := [(4, .int (i_ + 1)), (0, .ref reader), (1, .ref ring), (2, .ref speeds), (3, .ref wheel)]) [0, 1, 2, 3, 4] rfl [10, 11, 0, 1, 2, 3, 4, 5, 6, 7, 8, 9] (ws' := [(reader, ob 4 [.ref rs, .int n, .int (if 60 < n then 60 else n), .int q_22, .int m_4, .int mh2_5, .int ms2_6, .int mc2_7]), (rs, aI G 80 f), (ring, ob 5 [.int hc, .ref rp, .ref rx, .ref ry, .ref rr, rh, rd, ph, po]), (rp, aI G 16 fp2_8), (rx, aI G 16 fx2_9), (ry, aI G 16 fy2_10), (rr, aI G 16 fr2_11), (speeds, ob 7 [.int sc, .ref sf, .ref so, sa, sx, sy]), (sf, aI G 6 ff2_12), (so, aI G 6 fo2_13), (wheel, ob 0 [.int cc, .ref ww, wt, wb, w4, w5, w6]), (ww, aI G 8 fw2_14)]) rfl (by decide) ?_
              exact ih45 ((i_ + 1), q_22, m_4, mh2_5, ms2_6, mc2_7, fp2_8, fx2_9, fy2_10, fr2_11, ff2_12, fo2_13, fw2_14, (nx 104 f pp (hci + uh.toInt) ta), (nx 115 f pp (sci + us.toInt) tb), (nx 99 f pp (cci + uc.toInt) td)) ⟨(by dsimp only; have e : (i_ + 1).toInt = i_.toInt + 1 := tI_add rfl (show (1 : Int32).toInt = 1 from by decide) (by omega); omega), (by dsimp only; omega), (by dsimp only; omega), (by dsimp only; have e : (i_ + 1).toInt = i_.toInt + 1 := tI_add rfl (show (1 : Int32).toInt = 1 from by decide) (by omega); exact MI.cast (hM.step (by rw [hLm]; omega) c59_20 (by rw [← f56_15]; exact f56_16) (by rw [← f56_15]; exact c128_25)) (by omega) (by rw [f125_23, f56_15]) (by omega) (by omega) (by omega)), (A7.cast (hA.on (by omega) sl f56_18 (f56_19 c59_20)) (by dsimp only; omega) (by dsimp only; omega) (by dsimp only; omega))⟩ (by dsimp only; have e : (i_ + 1).toInt = i_.toInt + 1 := tI_add rfl (show (1 : Int32).toInt = 1 from by decide) (by omega); omega)
            ·
              refine z_run X bm_X4_readLines_131_133 km_X4_readLines_131_133 (lv' := [(4, .int i_), (0, .ref reader), (1, .ref ring), (2, .ref speeds), (3, .ref wheel)]) (st' := [.ref reader, .int (-1)]) rfl ?_
              refine z_get X fl_4_28 dm_X4_readLines_133 10 rfl (v := .int q_22) rfl ?_
              refine z_run X bm_X4_readLines_136_137 km_X4_readLines_136_137 (lv' := [(4, .int i_), (0, .ref reader), (1, .ref ring), (2, .ref speeds), (3, .ref wheel)]) (st' := [.int ((-1) - q_22)]) rfl ?_
              refine Z.sub (lv' := []) [] rfl [10, 11, 0, 1, 2, 3, 4, 5, 6, 7, 8, 9] (ws' := [(reader, ob 4 [.ref rs, .int n, .int (if 60 < n then 60 else n), .int q_22, .int m_4, .int mh2_5, .int ms2_6, .int mc2_7]), (rs, aI G 80 f), (ring, ob 5 [.int hc, .ref rp, .ref rx, .ref ry, .ref rr, rh, rd, ph, po]), (rp, aI G 16 fp2_8), (rx, aI G 16 fx2_9), (ry, aI G 16 fy2_10), (rr, aI G 16 fr2_11), (speeds, ob 7 [.int sc, .ref sf, .ref so, sa, sx, sy]), (sf, aI G 6 ff2_12), (so, aI G 6 fo2_13), (wheel, ob 0 [.int cc, .ref ww, wt, wb, w4, w5, w6]), (ww, aI G 8 fw2_14)]) rfl (by decide) ?_
              exact z_iret X rfl dm_X4_readLines_137 (Nat.le_of_ble_eq_true rfl) (Nat.le_of_ble_eq_true rfl) ⟨(if 60 < n then 60 else n), q_22, m_4, mh2_5, ms2_6, mc2_7, hc, sc, cc, fp2_8, fx2_9, fy2_10, fr2_11, ff2_12, fo2_13, fw2_14, ((-1) - q_22), (CN.cast (CN.far (hM.last (by rw [hLm]; omega) c59_20 (by rw [← f56_15]; exact c128_25)) (by omega) (by rw [← f56_15]; omega) (by rw [← f56_15])) ((show (((-1) - q_22)).toInt = ((-1) - q_22.toInt) from (tI_sub (show ((-1) : Int32).toInt = (-1) from by decide) rfl (by omega))).trans (congrArg (fun z : Int32 => (-1 : Int) - z.toInt) (f125_23.trans (tk_no c128_25)))) hhc hsc hcc), (A7.cast (hA.off (by omega) sl f56_18).cut hhc hsc hcc), (by have e0 := hhc; have e1 := hsc; have e2 := hcc; omega), rfl, rfl⟩
          ·
            refine z_run X bm_X4_readLines_80_82 km_X4_readLines_80_82 (lv' := [(4, .int i_), (0, .ref reader), (1, .ref ring), (2, .ref speeds), (3, .ref wheel)]) (st' := [.ref ring, .ref ring]) rfl ?_
            refine z_getN X fl_4_44 dm_X4_readLines_82 2 rfl (v := .int hc) rfl ?_
            refine z_run X bm_X4_readLines_85_86 km_X4_readLines_85_86 (lv' := [(4, .int i_), (0, .ref reader), (1, .ref ring), (2, .ref speeds), (3, .ref wheel)]) (st' := [.ref reader, .int hc, .ref ring]) rfl ?_
            refine z_get X fl_4_31 dm_X4_readLines_86 0 rfl (v := .int mh2_5) rfl ?_
            refine z_run X bm_X4_readLines_89_90 km_X4_readLines_89_90 (lv' := [(4, .int i_), (0, .ref reader), (1, .ref ring), (2, .ref speeds), (3, .ref wheel)]) (st' := [.int (hc + mh2_5), .ref ring]) rfl ?_
            refine z_putN X fl_4_44 dm_X4_readLines_90 2 rfl (ty := .int) (T := TX5) (N := 9) rfl rfl (by decide +kernel) rfl (by rfl) (Nat.le_of_ble_eq_true rfl) (ws' := [(reader, ob 4 [.ref rs, .int n, .int (if 60 < n then 60 else n), .int q_3, .int m_4, .int mh2_5, .int ms2_6, .int mc2_7]), (rs, aI G 80 f), (ring, ob 5 [.int (hc + mh2_5), .ref rp, .ref rx, .ref ry, .ref rr, rh, rd, ph, po]), (rp, aI G 16 fp2_8), (rx, aI G 16 fx2_9), (ry, aI G 16 fy2_10), (rr, aI G 16 fr2_11), (speeds, ob 7 [.int sc, .ref sf, .ref so, sa, sx, sy]), (sf, aI G 6 ff2_12), (so, aI G 6 fo2_13), (wheel, ob 0 [.int cc, .ref ww, wt, wb, w4, w5, w6]), (ww, aI G 8 fw2_14)]) rfl ?_
            refine z_run X bm_X4_readLines_93_95 km_X4_readLines_93_95 (lv' := [(4, .int i_), (0, .ref reader), (1, .ref ring), (2, .ref speeds), (3, .ref wheel)]) (st' := [.ref speeds, .ref speeds]) rfl ?_
            refine z_getN X fl_4_49 dm_X4_readLines_95 7 rfl (v := .int sc) rfl ?_
            refine z_run X bm_X4_readLines_98_99 km_X4_readLines_98_99 (lv' := [(4, .int i_), (0, .ref reader), (1, .ref ring), (2, .ref speeds), (3, .ref wheel)]) (st' := [.ref reader, .int sc, .ref speeds]) rfl ?_
            refine z_get X fl_4_34 dm_X4_readLines_99 0 rfl (v := .int ms2_6) rfl ?_
            refine z_run X bm_X4_readLines_102_103 km_X4_readLines_102_103 (lv' := [(4, .int i_), (0, .ref reader), (1, .ref ring), (2, .ref speeds), (3, .ref wheel)]) (st' := [.int (sc + ms2_6), .ref speeds]) rfl ?_
            refine z_putN X fl_4_49 dm_X4_readLines_103 7 rfl (ty := .int) (T := TX7) (N := 6) rfl rfl (by decide +kernel) rfl (by rfl) (Nat.le_of_ble_eq_true rfl) (ws' := [(reader, ob 4 [.ref rs, .int n, .int (if 60 < n then 60 else n), .int q_3, .int m_4, .int mh2_5, .int ms2_6, .int mc2_7]), (rs, aI G 80 f), (ring, ob 5 [.int (hc + mh2_5), .ref rp, .ref rx, .ref ry, .ref rr, rh, rd, ph, po]), (rp, aI G 16 fp2_8), (rx, aI G 16 fx2_9), (ry, aI G 16 fy2_10), (rr, aI G 16 fr2_11), (speeds, ob 7 [.int (sc + ms2_6), .ref sf, .ref so, sa, sx, sy]), (sf, aI G 6 ff2_12), (so, aI G 6 fo2_13), (wheel, ob 0 [.int cc, .ref ww, wt, wb, w4, w5, w6]), (ww, aI G 8 fw2_14)]) rfl ?_
            refine z_run X bm_X4_readLines_106_108 km_X4_readLines_106_108 (lv' := [(4, .int i_), (0, .ref reader), (1, .ref ring), (2, .ref speeds), (3, .ref wheel)]) (st' := [.ref wheel, .ref wheel]) rfl ?_
            refine z_getN X fl_4_52 dm_X4_readLines_108 10 rfl (v := .int cc) rfl ?_
            refine z_run X bm_X4_readLines_111_112 km_X4_readLines_111_112 (lv' := [(4, .int i_), (0, .ref reader), (1, .ref ring), (2, .ref speeds), (3, .ref wheel)]) (st' := [.ref reader, .int cc, .ref wheel]) rfl ?_
            refine z_get X fl_4_37 dm_X4_readLines_112 0 rfl (v := .int mc2_7) rfl ?_
            refine z_run X bm_X4_readLines_115_116 km_X4_readLines_115_116 (lv' := [(4, .int i_), (0, .ref reader), (1, .ref ring), (2, .ref speeds), (3, .ref wheel)]) (st' := [.int (cc + mc2_7), .ref wheel]) rfl ?_
            refine z_putN X fl_4_52 dm_X4_readLines_116 10 rfl (ty := .int) (T := TX0) (N := 7) rfl rfl (by decide +kernel) rfl (by rfl) (Nat.le_of_ble_eq_true rfl) (ws' := [(reader, ob 4 [.ref rs, .int n, .int (if 60 < n then 60 else n), .int q_3, .int m_4, .int mh2_5, .int ms2_6, .int mc2_7]), (rs, aI G 80 f), (ring, ob 5 [.int (hc + mh2_5), .ref rp, .ref rx, .ref ry, .ref rr, rh, rd, ph, po]), (rp, aI G 16 fp2_8), (rx, aI G 16 fx2_9), (ry, aI G 16 fy2_10), (rr, aI G 16 fr2_11), (speeds, ob 7 [.int (sc + ms2_6), .ref sf, .ref so, sa, sx, sy]), (sf, aI G 6 ff2_12), (so, aI G 6 fo2_13), (wheel, ob 0 [.int (cc + mc2_7), .ref ww, wt, wb, w4, w5, w6]), (ww, aI G 8 fw2_14)]) rfl ?_
            refine z_run X bm_X4_readLines_119_121 km_X4_readLines_119_121 (lv' := [(4, .int i_), (0, .ref reader), (1, .ref ring), (2, .ref speeds), (3, .ref wheel)]) (st' := [.int i_]) rfl ?_
            exact z_iret X rfl dm_X4_readLines_121 (Nat.le_of_ble_eq_true rfl) (Nat.le_of_ble_eq_true rfl) ⟨(if 60 < n then 60 else n), q_3, m_4, mh2_5, ms2_6, mc2_7, (hc + mh2_5), (sc + ms2_6), (cc + mc2_7), fp2_8, fx2_9, fy2_10, fr2_11, ff2_12, fo2_13, fw2_14, i_, (CN.cast (CN.good (hM.last (by rw [hLm]; omega) c59_20 (tk_far (by rw [hLm, ← f56_15]; omega))) (by omega) (by rw [← f56_15]; omega) rfl) (by omega) ((tI_add hhc rfl (by omega)).trans (by omega)) ((tI_add hsc rfl (by omega)).trans (by omega)) ((tI_add hcc rfl (by omega)).trans (by omega))), (by rw [(hM.last (by rw [hLm]; omega) c59_20 (tk_far (by rw [hLm, ← f56_15]; omega)))]; exact A7.cast (hA.on (by omega) sl f56_18 (f56_19 c59_20)) ((tI_add hhc rfl (by omega)).trans (by omega)) ((tI_add hsc rfl (by omega)).trans (by omega)) ((tI_add hcc rfl (by omega)).trans (by omega))), (by have e0 : (hc + mh2_5).toInt = (hci + mh2_5.toInt) := (tI_add hhc rfl (by omega)); have e1 : (sc + ms2_6).toInt = (sci + ms2_6.toInt) := (tI_add hsc rfl (by omega)); have e2 : (cc + mc2_7).toInt = (cci + mc2_7.toInt) := (tI_add hcc rfl (by omega)); omega), rfl, rfl⟩
        ·
          have sl : ((hc + uh).toNatClampNeg : Int) = (hci + uh.toInt) ∧ ((sc + us).toNatClampNeg : Int) = (sci + us.toInt) ∧ ((cc + uc).toNatClampNeg : Int) = (cci + uc.toInt) := ⟨slot_of hhc rfl (by omega), slot_of hsc rfl (by omega), slot_of hcc rfl (by omega)⟩
          refine z_run X bm_X4_readLines_62_64 km_X4_readLines_62_64 (lv' := [(4, .int i_), (0, .ref reader), (1, .ref ring), (2, .ref speeds), (3, .ref wheel)]) (st' := [.ref reader, .int (-1)]) rfl ?_
          refine z_get X fl_4_28 dm_X4_readLines_64 0 rfl (v := .int q_3) rfl ?_
          refine z_run X bm_X4_readLines_67_68 km_X4_readLines_67_68 (lv' := [(4, .int i_), (0, .ref reader), (1, .ref ring), (2, .ref speeds), (3, .ref wheel)]) (st' := [.int ((-1) - q_3)]) rfl ?_
          exact z_iret X rfl dm_X4_readLines_68 (Nat.le_of_ble_eq_true rfl) (Nat.le_of_ble_eq_true rfl) ⟨(if 60 < n then 60 else n), q_3, m_4, mh2_5, ms2_6, mc2_7, hc, sc, cc, fp2_8, fx2_9, fy2_10, fr2_11, ff2_12, fo2_13, fw2_14, ((-1) - q_3), (CN.cast (CN.bad (hM.bad (by rw [hLm]; omega) c59_20) (by omega) (by rw [← f56_15])) (tI_sub (show ((-1) : Int32).toInt = (-1) from by decide) rfl (by omega)) hhc hsc hcc), (A7.cast (hA.off (by omega) sl f56_18).cut hhc hsc hcc), (by have e0 := hhc; have e1 := hsc; have e2 := hcc; omega), rfl, rfl⟩
    · exact ⟨(by dsimp only; decide), (by dsimp only; decide), (by dsimp only; have e1 : (1 : Int32).toInt = 1 := (by decide); have e0 : (0 : Int32).toInt = 0 := (by decide); omega), (by dsimp only; have e1 : (1 : Int32).toInt = 1 := (by decide); have e0 : (0 : Int32).toInt = 0 := (by decide); exact MI.cast (MI.zero (by omega) (by omega) (by omega)) (by omega) rfl (by omega) (by omega) (by omega)), (by dsimp only; have e1 : (1 : Int32).toInt = 1 := (by decide); have e0 : (0 : Int32).toInt = 0 := (by decide); exact A7.cast A7.zero (by omega) (by omega) (by omega))⟩
  ·
    refine z_run X bm_X4_readLines_7_8 km_X4_readLines_7_8 (lv' := [(0, .ref reader), (1, .ref ring), (2, .ref speeds), (3, .ref wheel)]) (st' := [.int 0]) rfl ?_
    exact z_iret X rfl dm_X4_readLines_8 (Nat.le_of_ble_eq_true rfl) (Nat.le_of_ble_eq_true rfl) ⟨lim, p, nb, mh, ms, mc, hc, sc, cc, fp, fx, fy, fr, ff, fo, fw, 0, (CN.cast (CN.zero (by omega) (by rw [(tI_min hn (show (60 : Int32).toInt = 60 from by decide))]; omega)) (by decide) hhc hsc hcc), (A7.cast A7.zero hhc hsc hcc), (by have e0 := hhc; have e1 := hsc; have e2 := hcc; omega), rfl, rfl⟩
end
section
theorem dm_X4_empty_2 : decode cX4_empty 2 = .ok (.putfield 15, 3) := by decide +kernel
theorem dm_X4_empty_5 : decode cX4_empty 5 = .ok (.return_, 1) := by decide +kernel
abbrev bm_X4_empty_0_2 : ZB := [(.aload_n 0, .null), (.iconst 0, .int 0)]
theorem km_X4_empty_0_2 : zchk cX4_empty bm_X4_empty_0_2 0 = true ∧ zpc bm_X4_empty_0_2 0 = 2 := ⟨by decide +kernel, rfl⟩
set_option maxHeartbeats 4000000 in
set_option maxRecDepth 100000 in
theorem cm_X4_empty (l : Launch) (G : KG) (reader : Nat) (rs : Nat) (f : Nat → Int32) (n : Int32) (lim : Int32) (p : Int32) (nb : Int32) (mh : Int32) (ms : Int32) (mc : Int32) : Ct l G yX4_empty cX4_empty 1 none { frames := 0, cells := 0, slots := 0, locals := 0 } [.ref reader] [(reader, ob 4 [.ref rs, .int n, .int lim, .int p, .int nb, .int mh, .int ms, .int mc]), (rs, aI G 80 f)] (fun r w1 => r = none ∧ w1 = [(reader, ob 4 [.ref rs, .int 0, .int lim, .int p, .int nb, .int mh, .int ms, .int mc]), (rs, aI G 80 f)]) := by
  refine ct_of [(0, .ref reader)] (by decide) (Nat.le_of_ble_eq_true rfl) rfl ?_
  intro p0 e0 s0 m0 args0 below0 meth0 c0 A X
  refine z_run X bm_X4_empty_0_2 km_X4_empty_0_2 (lv' := [(0, .ref reader)]) (st' := [.int 0, .ref reader]) rfl ?_
  refine z_put X fl_4_15 dm_X4_empty_2 0 rfl (ty := .int) (T := TX4) (N := 8) rfl (Or.inl rfl) (by decide +kernel) rfl (by rfl) (Nat.le_of_ble_eq_true rfl) (ws' := [(reader, ob 4 [.ref rs, .int 0, .int lim, .int p, .int nb, .int mh, .int ms, .int mc]), (rs, aI G 80 f)]) rfl ?_
  exact z_vret X rfl dm_X4_empty_5 (Nat.le_of_ble_eq_true rfl) (Nat.le_of_ble_eq_true rfl) ⟨rfl, rfl⟩
end
section
theorem dm_X10_mill_1 : decode cX10_mill 1 = .ok (.getfield 19, 3) := by decide +kernel
theorem dm_X10_mill_5 : decode cX10_mill 5 = .ok (.getfield 26, 3) := by decide +kernel
theorem dm_X10_mill_9 : decode cX10_mill 9 = .ok (.getfield 33, 3) := by decide +kernel
theorem dm_X10_mill_13 : decode cX10_mill 13 = .ok (.getfield 40, 3) := by decide +kernel
theorem dm_X10_mill_16 : decode cX10_mill 16 = .ok (.invokevirtual 99, 3) := by decide +kernel
theorem dm_X10_mill_21 : decode cX10_mill 21 = .ok (.getfield 19, 3) := by decide +kernel
theorem dm_X10_mill_24 : decode cX10_mill 24 = .ok (.invokevirtual 103, 3) := by decide +kernel
theorem dm_X10_mill_28 : decode cX10_mill 28 = .ok (.ireturn, 1) := by decide +kernel
abbrev bm_X10_mill_0_1 : ZB := [(.aload_n 0, .null)]
theorem km_X10_mill_0_1 : zchk cX10_mill bm_X10_mill_0_1 0 = true ∧ zpc bm_X10_mill_0_1 0 = 1 := ⟨by decide +kernel, rfl⟩
abbrev bm_X10_mill_4_5 : ZB := [(.aload_n 0, .null)]
theorem km_X10_mill_4_5 : zchk cX10_mill bm_X10_mill_4_5 4 = true ∧ zpc bm_X10_mill_4_5 4 = 5 := ⟨by decide +kernel, rfl⟩
abbrev bm_X10_mill_8_9 : ZB := [(.aload_n 0, .null)]
theorem km_X10_mill_8_9 : zchk cX10_mill bm_X10_mill_8_9 8 = true ∧ zpc bm_X10_mill_8_9 8 = 9 := ⟨by decide +kernel, rfl⟩
abbrev bm_X10_mill_12_13 : ZB := [(.aload_n 0, .null)]
theorem km_X10_mill_12_13 : zchk cX10_mill bm_X10_mill_12_13 12 = true ∧ zpc bm_X10_mill_12_13 12 = 13 := ⟨by decide +kernel, rfl⟩
abbrev bm_X10_mill_19_21 : ZB := [(.istore_n 1, .null), (.aload_n 0, .null)]
theorem km_X10_mill_19_21 : zchk cX10_mill bm_X10_mill_19_21 19 = true ∧ zpc bm_X10_mill_19_21 19 = 21 := ⟨by decide +kernel, rfl⟩
abbrev bm_X10_mill_27_28 : ZB := [(.iload_n 1, .null)]
theorem km_X10_mill_27_28 : zchk cX10_mill bm_X10_mill_27_28 27 = true ∧ zpc bm_X10_mill_27_28 27 = 28 := ⟨by decide +kernel, rfl⟩
set_option maxHeartbeats 4000000 in
set_option maxRecDepth 100000 in
theorem cm_X10_mill (l : Launch) (G : KG) (x : Nat) (x_told : Value) (x_trials : Value) (x_span : Value) (x_search : Value) (x_kept : Value) (x_crosses : Value) (x_trueMasses : Value) (x_thought : Value) (x_up : Value) (x_low : Value) (x_fits : Value) (x_pulls : Value) (reader : Nat) (rs : Nat) (f : Nat → Int32) (n : Int32) (lim : Int32) (p : Int32) (nb : Int32) (mh : Int32) (ms : Int32) (mc : Int32) (ring : Nat) (rp : Nat) (rx : Nat) (ry : Nat) (rr : Nat) (hc : Int32) (rh : Value) (rd : Value) (ph : Value) (po : Value) (fp : Nat → Int32) (fx : Nat → Int32) (fy : Nat → Int32) (fr : Nat → Int32) (speeds : Nat) (sf : Nat) (so : Nat) (sc : Int32) (sa : Value) (sx : Value) (sy : Value) (ff : Nat → Int32) (fo : Nat → Int32) (wheel : Nat) (ww : Nat) (cc : Int32) (wt : Value) (wb : Value) (w4 : Value) (w5 : Value) (w6 : Value) (fw : Nat → Int32) (ni : Int) (hci : Int) (sci : Int) (cci : Int) (hn : n.toInt = ni) (hhc : hc.toInt = hci) (hsc : sc.toInt = sci) (hcc : cc.toInt = cci) (hn0 : 0 ≤ ni ∧ ni ≤ 80) (hc0 : 0 ≤ hci ∧ hci ≤ 16 ∧ 0 ≤ sci ∧ sci ≤ 6 ∧ 0 ≤ cci ∧ cci ≤ 8) : Ct l G yX10_mill cX10_mill 2 (some .int) { frames := 6, cells := 0, slots := 0, locals := 132 } [.ref x] [(x, ob 10 [x_told, .ref reader, .ref ring, .ref speeds, .ref wheel, x_trials, x_span, x_search, x_kept, x_crosses, x_trueMasses, x_thought, x_up, x_low, x_fits, x_pulls]), (reader, ob 4 [.ref rs, .int n, .int lim, .int p, .int nb, .int mh, .int ms, .int mc]), (rs, aI G 80 f), (ring, ob 5 [.int hc, .ref rp, .ref rx, .ref ry, .ref rr, rh, rd, ph, po]), (rp, aI G 16 fp), (rx, aI G 16 fx), (ry, aI G 16 fy), (rr, aI G 16 fr), (speeds, ob 7 [.int sc, .ref sf, .ref so, sa, sx, sy]), (sf, aI G 6 ff), (so, aI G 6 fo), (wheel, ob 0 [.int cc, .ref ww, wt, wb, w4, w5, w6]), (ww, aI G 8 fw)] (fun r w1 => ∃ (lim2 : Int32), ∃ (q : Int32), ∃ (m : Int32), ∃ (mh2 : Int32), ∃ (ms2 : Int32), ∃ (mc2 : Int32), ∃ (hc2 : Int32), ∃ (sc2 : Int32), ∃ (cc2 : Int32), ∃ (fp2 : Nat → Int32), ∃ (fx2 : Nat → Int32), ∃ (fy2 : Nat → Int32), ∃ (fr2 : Nat → Int32), ∃ (ff2 : Nat → Int32), ∃ (fo2 : Nat → Int32), ∃ (fw2 : Nat → Int32), ∃ (rz : Int32), (CN n (run0 f (if 60 < n then 60 else n) hci sci cci) rz.toInt hci sci cci hc2.toInt sc2.toInt cc2.toInt) ∧ (A7 f (if 60 < n then 60 else n) hci sci cci fp fx fy fr ff fo fw fp2 fx2 fy2 fr2 ff2 fo2 fw2 hc2.toInt sc2.toInt cc2.toInt (run0 f (if 60 < n then 60 else n) hci sci cci).2.2.2.2.2.2.1 (run0 f (if 60 < n then 60 else n) hci sci cci).2.2.2.2.2.2.2.1 (run0 f (if 60 < n then 60 else n) hci sci cci).2.2.2.2.2.2.2.2) ∧ ((0 ≤ hc2.toInt ∧ hc2.toInt ≤ 16) ∧ (0 ≤ sc2.toInt ∧ sc2.toInt ≤ 6) ∧ (0 ≤ cc2.toInt ∧ cc2.toInt ≤ 8)) ∧ r = some (.int rz) ∧ w1 = [(x, ob 10 [x_told, .ref reader, .ref ring, .ref speeds, .ref wheel, x_trials, x_span, x_search, x_kept, x_crosses, x_trueMasses, x_thought, x_up, x_low, x_fits, x_pulls]), (reader, ob 4 [.ref rs, .int 0, .int lim2, .int q, .int m, .int mh2, .int ms2, .int mc2]), (rs, aI G 80 f), (ring, ob 5 [.int hc2, .ref rp, .ref rx, .ref ry, .ref rr, rh, rd, ph, po]), (rp, aI G 16 fp2), (rx, aI G 16 fx2), (ry, aI G 16 fy2), (rr, aI G 16 fr2), (speeds, ob 7 [.int sc2, .ref sf, .ref so, sa, sx, sy]), (sf, aI G 6 ff2), (so, aI G 6 fo2), (wheel, ob 0 [.int cc2, .ref ww, wt, wb, w4, w5, w6]), (ww, aI G 8 fw2)]) := by
  refine ct_of [(0, .ref x)] (by decide) (Nat.le_of_ble_eq_true rfl) rfl ?_
  intro p0 e0 s0 m0 args0 below0 meth0 c0 A X
  refine z_run X bm_X10_mill_0_1 km_X10_mill_0_1 (lv' := [(0, .ref x)]) (st' := [.ref x]) rfl ?_
  refine z_get X fl_10_19 dm_X10_mill_1 0 rfl (v := .ref reader) rfl ?_
  refine z_run X bm_X10_mill_4_5 km_X10_mill_4_5 (lv' := [(0, .ref x)]) (st' := [.ref x, .ref reader]) rfl ?_
  refine z_get X fl_10_26 dm_X10_mill_5 0 rfl (v := .ref ring) rfl ?_
  refine z_run X bm_X10_mill_8_9 km_X10_mill_8_9 (lv' := [(0, .ref x)]) (st' := [.ref x, .ref ring, .ref reader]) rfl ?_
  refine z_get X fl_10_33 dm_X10_mill_9 0 rfl (v := .ref speeds) rfl ?_
  refine z_run X bm_X10_mill_12_13 km_X10_mill_12_13 (lv' := [(0, .ref x)]) (st' := [.ref x, .ref speeds, .ref ring, .ref reader]) rfl ?_
  refine z_get X fl_10_40 dm_X10_mill_13 0 rfl (v := .ref wheel) rfl ?_
  refine z_callV X k_10_99 (cm_X4_readLines l G reader rs f n lim p nb mh ms mc ring rp rx ry rr hc rh rd ph po fp fx fy fr speeds sf so sc sa sx sy ff fo wheel ww cc wt wb w4 w5 w6 fw ni hci sci cci hn hhc hsc hcc (by omega) (by omega)) dm_X10_mill_16 1 rfl rfl rfl ⟨Nat.le_of_ble_eq_true rfl, Nat.le_of_ble_eq_true rfl⟩ ⟨Nat.le_of_ble_eq_true rfl, Nat.le_of_ble_eq_true rfl⟩ rfl (rest := []) (As := [.ref ring, .ref speeds, .ref wheel]) rfl (Nat.le_of_ble_eq_true rfl) [1, 2, 3, 4, 5, 6, 7, 8, 9, 10, 11, 12] [0] rfl (by decide) (wr := [(x, ob 10 [x_told, .ref reader, .ref ring, .ref speeds, .ref wheel, x_trials, x_span, x_search, x_kept, x_crosses, x_trueMasses, x_thought, x_up, x_low, x_fits, x_pulls])]) rfl (by decide) (by decide) ?_
  rintro _ _ ⟨lim2_1, q_2, m_3, mh2_4, ms2_5, mc2_6, hc2_7, sc2_8, cc2_9, fp2_10, fx2_11, fy2_12, fr2_13, ff2_14, fo2_15, fw2_16, rz_17, f16_18, f16_19, f16_20, rfl, rfl⟩
  refine Z.at (pc' := 19) (st' := [.int rz_17]) (ws' := [(x, ob 10 [x_told, .ref reader, .ref ring, .ref speeds, .ref wheel, x_trials, x_span, x_search, x_kept, x_crosses, x_trueMasses, x_thought, x_up, x_low, x_fits, x_pulls]), (reader, ob 4 [.ref rs, .int n, .int lim2_1, .int q_2, .int m_3, .int mh2_4, .int ms2_5, .int mc2_6]), (rs, aI G 80 f), (ring, ob 5 [.int hc2_7, .ref rp, .ref rx, .ref ry, .ref rr, rh, rd, ph, po]), (rp, aI G 16 fp2_10), (rx, aI G 16 fx2_11), (ry, aI G 16 fy2_12), (rr, aI G 16 fr2_13), (speeds, ob 7 [.int sc2_8, .ref sf, .ref so, sa, sx, sy]), (sf, aI G 6 ff2_14), (so, aI G 6 fo2_15), (wheel, ob 0 [.int cc2_9, .ref ww, wt, wb, w4, w5, w6]), (ww, aI G 8 fw2_16)]) (kc' := 0) (ks' := 0) rfl rfl rfl rfl rfl ?_
  refine z_run X bm_X10_mill_19_21 km_X10_mill_19_21 (lv' := [(1, .int rz_17), (0, .ref x)]) (st' := [.ref x]) rfl ?_
  refine z_get X fl_10_19 dm_X10_mill_21 0 rfl (v := .ref reader) rfl ?_
  refine z_callV X k_10_103 (cm_X4_empty l G reader rs f n lim2_1 q_2 m_3 mh2_4 ms2_5 mc2_6) dm_X10_mill_24 1 rfl rfl rfl ⟨Nat.le_of_ble_eq_true rfl, Nat.le_of_ble_eq_true rfl⟩ ⟨Nat.le_of_ble_eq_true rfl, Nat.le_of_ble_eq_true rfl⟩ rfl (rest := []) (As := []) rfl (Nat.le_of_ble_eq_true rfl) [1, 2] [0, 3, 4, 5, 6, 7, 8, 9, 10, 11, 12] rfl (by decide) (wr := [(x, ob 10 [x_told, .ref reader, .ref ring, .ref speeds, .ref wheel, x_trials, x_span, x_search, x_kept, x_crosses, x_trueMasses, x_thought, x_up, x_low, x_fits, x_pulls]), (ring, ob 5 [.int hc2_7, .ref rp, .ref rx, .ref ry, .ref rr, rh, rd, ph, po]), (rp, aI G 16 fp2_10), (rx, aI G 16 fx2_11), (ry, aI G 16 fy2_12), (rr, aI G 16 fr2_13), (speeds, ob 7 [.int sc2_8, .ref sf, .ref so, sa, sx, sy]), (sf, aI G 6 ff2_14), (so, aI G 6 fo2_15), (wheel, ob 0 [.int cc2_9, .ref ww, wt, wb, w4, w5, w6]), (ww, aI G 8 fw2_16)]) rfl (by decide) (by decide) ?_
  rintro _ _ ⟨rfl, rfl⟩
  refine Z.at (pc' := 27) (st' := []) (ws' := [(x, ob 10 [x_told, .ref reader, .ref ring, .ref speeds, .ref wheel, x_trials, x_span, x_search, x_kept, x_crosses, x_trueMasses, x_thought, x_up, x_low, x_fits, x_pulls]), (ring, ob 5 [.int hc2_7, .ref rp, .ref rx, .ref ry, .ref rr, rh, rd, ph, po]), (rp, aI G 16 fp2_10), (rx, aI G 16 fx2_11), (ry, aI G 16 fy2_12), (rr, aI G 16 fr2_13), (speeds, ob 7 [.int sc2_8, .ref sf, .ref so, sa, sx, sy]), (sf, aI G 6 ff2_14), (so, aI G 6 fo2_15), (wheel, ob 0 [.int cc2_9, .ref ww, wt, wb, w4, w5, w6]), (ww, aI G 8 fw2_16), (reader, ob 4 [.ref rs, .int 0, .int lim2_1, .int q_2, .int m_3, .int mh2_4, .int ms2_5, .int mc2_6]), (rs, aI G 80 f)]) (kc' := 0) (ks' := 0) rfl rfl rfl rfl rfl ?_
  refine z_run X bm_X10_mill_27_28 km_X10_mill_27_28 (lv' := [(1, .int rz_17), (0, .ref x)]) (st' := [.int rz_17]) rfl ?_
  refine Z.sub (lv' := []) [] rfl [0, 11, 12, 1, 2, 3, 4, 5, 6, 7, 8, 9, 10] (ws' := [(x, ob 10 [x_told, .ref reader, .ref ring, .ref speeds, .ref wheel, x_trials, x_span, x_search, x_kept, x_crosses, x_trueMasses, x_thought, x_up, x_low, x_fits, x_pulls]), (reader, ob 4 [.ref rs, .int 0, .int lim2_1, .int q_2, .int m_3, .int mh2_4, .int ms2_5, .int mc2_6]), (rs, aI G 80 f), (ring, ob 5 [.int hc2_7, .ref rp, .ref rx, .ref ry, .ref rr, rh, rd, ph, po]), (rp, aI G 16 fp2_10), (rx, aI G 16 fx2_11), (ry, aI G 16 fy2_12), (rr, aI G 16 fr2_13), (speeds, ob 7 [.int sc2_8, .ref sf, .ref so, sa, sx, sy]), (sf, aI G 6 ff2_14), (so, aI G 6 fo2_15), (wheel, ob 0 [.int cc2_9, .ref ww, wt, wb, w4, w5, w6]), (ww, aI G 8 fw2_16)]) rfl (by decide) ?_
  exact z_iret X rfl dm_X10_mill_28 (Nat.le_of_ble_eq_true rfl) (Nat.le_of_ble_eq_true rfl) ⟨lim2_1, q_2, m_3, mh2_4, ms2_5, mc2_6, hc2_7, sc2_8, cc2_9, fp2_10, fx2_11, fy2_12, fr2_13, ff2_14, fo2_15, fw2_16, rz_17, f16_18, f16_19, f16_20, rfl, rfl⟩
end
section
theorem dm_X10_sign_1 : decode cX10_sign 1 = .ok (.getfield 19, 3) := by decide +kernel
theorem dm_X10_sign_5 : decode cX10_sign 5 = .ok (.invokevirtual 91, 3) := by decide +kernel
theorem dm_X10_sign_8 : decode cX10_sign 8 = .ok (.ireturn, 1) := by decide +kernel
abbrev bm_X10_sign_0_1 : ZB := [(.aload_n 0, .null)]
theorem km_X10_sign_0_1 : zchk cX10_sign bm_X10_sign_0_1 0 = true ∧ zpc bm_X10_sign_0_1 0 = 1 := ⟨by decide +kernel, rfl⟩
abbrev bm_X10_sign_4_5 : ZB := [(.iload_n 1, .null)]
theorem km_X10_sign_4_5 : zchk cX10_sign bm_X10_sign_4_5 4 = true ∧ zpc bm_X10_sign_4_5 4 = 5 := ⟨by decide +kernel, rfl⟩
set_option maxHeartbeats 4000000 in
set_option maxRecDepth 100000 in
theorem cm_X10_sign (l : Launch) (G : KG) (x : Nat) (x_told : Value) (x_ring : Value) (x_speeds : Value) (x_wheel : Value) (x_trials : Value) (x_span : Value) (x_search : Value) (x_kept : Value) (x_crosses : Value) (x_trueMasses : Value) (x_thought : Value) (x_up : Value) (x_low : Value) (x_fits : Value) (x_pulls : Value) (reader : Nat) (rs : Nat) (f : Nat → Int32) (n : Int32) (lim : Int32) (p : Int32) (nb : Int32) (mh : Int32) (ms : Int32) (mc : Int32) (v : Int32) (ni : Int) (hn : n.toInt = ni) (hn0 : 0 ≤ ni ∧ ni ≤ 76) : Ct l G yX10_sign cX10_sign 2 (some .int) { frames := 1, cells := 0, slots := 0, locals := 22 } [.ref x, .int v] [(x, ob 10 [x_told, .ref reader, x_ring, x_speeds, x_wheel, x_trials, x_span, x_search, x_kept, x_crosses, x_trueMasses, x_thought, x_up, x_low, x_fits, x_pulls]), (reader, ob 4 [.ref rs, .int n, .int lim, .int p, .int nb, .int mh, .int ms, .int mc]), (rs, aI G 80 f)] (fun r w1 => ∃ (n2 : Int32), ∃ (f2 : Nat → Int32), (n2.toInt = ni + 4) ∧ (∀ k, f2 k = w4 f ni.toNat v k) ∧ r = some (.int n2) ∧ w1 = [(x, ob 10 [x_told, .ref reader, x_ring, x_speeds, x_wheel, x_trials, x_span, x_search, x_kept, x_crosses, x_trueMasses, x_thought, x_up, x_low, x_fits, x_pulls]), (reader, ob 4 [.ref rs, .int n2, .int lim, .int p, .int nb, .int mh, .int ms, .int mc]), (rs, aI G 80 f2)]) := by
  refine ct_of [(0, .ref x), (1, .int v)] (by decide) (Nat.le_of_ble_eq_true rfl) rfl ?_
  intro p0 e0 s0 m0 args0 below0 meth0 c0 A X
  refine z_run X bm_X10_sign_0_1 km_X10_sign_0_1 (lv' := [(0, .ref x), (1, .int v)]) (st' := [.ref x]) rfl ?_
  refine z_get X fl_10_19 dm_X10_sign_1 0 rfl (v := .ref reader) rfl ?_
  refine z_run X bm_X10_sign_4_5 km_X10_sign_4_5 (lv' := [(0, .ref x), (1, .int v)]) (st' := [.int v, .ref reader]) rfl ?_
  refine z_callV X k_10_91 (cm_X4_append l G reader rs f n lim p nb mh ms mc v ni hn (by omega)) dm_X10_sign_5 1 rfl rfl rfl ⟨Nat.le_of_ble_eq_true rfl, Nat.le_of_ble_eq_true rfl⟩ ⟨Nat.le_of_ble_eq_true rfl, Nat.le_of_ble_eq_true rfl⟩ rfl (rest := []) (As := [.int v]) rfl (Nat.le_of_ble_eq_true rfl) [1, 2] [0] rfl (by decide) (wr := [(x, ob 10 [x_told, .ref reader, x_ring, x_speeds, x_wheel, x_trials, x_span, x_search, x_kept, x_crosses, x_trueMasses, x_thought, x_up, x_low, x_fits, x_pulls])]) rfl (by decide) (by decide) ?_
  rintro _ _ ⟨n2_1, f2_2, f5_3, f5_4, rfl, rfl⟩
  refine Z.at (pc' := 8) (st' := [.int n2_1]) (ws' := [(x, ob 10 [x_told, .ref reader, x_ring, x_speeds, x_wheel, x_trials, x_span, x_search, x_kept, x_crosses, x_trueMasses, x_thought, x_up, x_low, x_fits, x_pulls]), (reader, ob 4 [.ref rs, .int n2_1, .int lim, .int p, .int nb, .int mh, .int ms, .int mc]), (rs, aI G 80 f2_2)]) (kc' := 0) (ks' := 0) rfl rfl rfl rfl rfl ?_
  exact z_iret X rfl dm_X10_sign_8 (Nat.le_of_ble_eq_true rfl) (Nat.le_of_ble_eq_true rfl) ⟨n2_1, f2_2, f5_3, f5_4, rfl, rfl⟩
end
section
theorem dm_X11_mill_2 : decode cX11_mill 2 = .ok (.putfield 3, 3) := by decide +kernel
theorem dm_X11_mill_6 : decode cX11_mill 6 = .ok (.getfield 22, 3) := by decide +kernel
theorem dm_X11_mill_11 : decode cX11_mill 11 = .ok (.getfield 63, 3) := by decide +kernel
theorem dm_X11_mill_16 : decode cX11_mill 16 = .ok (.getfield 88, 3) := by decide +kernel
theorem dm_X11_mill_21 : decode cX11_mill 21 = .ok (.getfield 101, 3) := by decide +kernel
theorem dm_X11_mill_28 : decode cX11_mill 28 = .ok (.putfield 22, 3) := by decide +kernel
theorem dm_X11_mill_33 : decode cX11_mill 33 = .ok (.putfield 33, 3) := by decide +kernel
theorem dm_X11_mill_40 : decode cX11_mill 40 = .ok (.invokestatic 107, 3) := by decide +kernel
theorem dm_X11_mill_43 : decode cX11_mill 43 = .ok (.putfield 36, 3) := by decide +kernel
theorem dm_X11_mill_53 : decode cX11_mill 53 = .ok (.ifCond .le 7, 3) := by decide +kernel
theorem dm_X11_mill_65 : decode cX11_mill 65 = .ok (.ifCond .eq 36, 3) := by decide +kernel
theorem dm_X11_mill_103 : decode cX11_mill 103 = .ok (.ifCond .eq 18, 3) := by decide +kernel
theorem dm_X11_mill_107 : decode cX11_mill 107 = .ok (.getfield 33, 3) := by decide +kernel
theorem dm_X11_mill_111 : decode cX11_mill 111 = .ok (.getfield 36, 3) := by decide +kernel
theorem dm_X11_mill_114 : decode cX11_mill 114 = .ok (.if_icmp .ne 7, 3) := by decide +kernel
theorem dm_X11_mill_118 : decode cX11_mill 118 = .ok (.goto 4, 3) := by decide +kernel
theorem dm_X11_mill_126 : decode cX11_mill 126 = .ok (.ifCond .eq 7, 3) := by decide +kernel
theorem dm_X11_mill_130 : decode cX11_mill 130 = .ok (.goto 9, 3) := by decide +kernel
theorem dm_X11_mill_144 : decode cX11_mill 144 = .ok (.if_icmp .le 21, 3) := by decide +kernel
theorem dm_X11_mill_167 : decode cX11_mill 167 = .ok (.ifCond .ge 22, 3) := by decide +kernel
theorem dm_X11_mill_191 : decode cX11_mill 191 = .ok (.ireturn, 1) := by decide +kernel
theorem dm_X11_mill_57 : decode cX11_mill 57 = .ok (.goto 4, 3) := by decide +kernel
theorem dm_X11_mill_69 : decode cX11_mill 69 = .ok (.invokevirtual 112, 3) := by decide +kernel
theorem dm_X11_mill_79 : decode cX11_mill 79 = .ok (.ifCond .eq 16, 3) := by decide +kernel
theorem dm_X11_mill_98 : decode cX11_mill 98 = .ok (.goto (-35), 3) := by decide +kernel
theorem dm_X11_mill_135 : decode cX11_mill 135 = .ok (.getfield 33, 3) := by decide +kernel
theorem dm_X11_mill_172 : decode cX11_mill 172 = .ok (.putfield 63, 3) := by decide +kernel
theorem dm_X11_mill_177 : decode cX11_mill 177 = .ok (.putfield 88, 3) := by decide +kernel
theorem dm_X11_mill_183 : decode cX11_mill 183 = .ok (.putfield 101, 3) := by decide +kernel
theorem dm_X11_mill_188 : decode cX11_mill 188 = .ok (.ireturn, 1) := by decide +kernel
theorem dm_X11_mill_149 : decode cX11_mill 149 = .ok (.ifCond .ne 12, 3) := by decide +kernel
theorem dm_X11_mill_153 : decode cX11_mill 153 = .ok (.getfield 33, 3) := by decide +kernel
theorem dm_X11_mill_158 : decode cX11_mill 158 = .ok (.if_icmp .lt 7, 3) := by decide +kernel
theorem dm_X11_mill_85 : decode cX11_mill 85 = .ok (.invokevirtual 51, 3) := by decide +kernel
theorem dm_X11_mill_88 : decode cX11_mill 88 = .ok (.ifCond .eq 7, 3) := by decide +kernel
theorem dm_X11_mill_92 : decode cX11_mill 92 = .ok (.goto 4, 3) := by decide +kernel
abbrev bm_X11_mill_0_2 : ZB := [(.aload_n 0, .null), (.iconst 0, .int 0)]
theorem km_X11_mill_0_2 : zchk cX11_mill bm_X11_mill_0_2 0 = true ∧ zpc bm_X11_mill_0_2 0 = 2 := ⟨by decide +kernel, rfl⟩
abbrev bm_X11_mill_5_6 : ZB := [(.aload_n 0, .null)]
theorem km_X11_mill_5_6 : zchk cX11_mill bm_X11_mill_5_6 5 = true ∧ zpc bm_X11_mill_5_6 5 = 6 := ⟨by decide +kernel, rfl⟩
abbrev bm_X11_mill_9_11 : ZB := [(.istore_n 1, .null), (.aload_n 0, .null)]
theorem km_X11_mill_9_11 : zchk cX11_mill bm_X11_mill_9_11 9 = true ∧ zpc bm_X11_mill_9_11 9 = 11 := ⟨by decide +kernel, rfl⟩
abbrev bm_X11_mill_14_16 : ZB := [(.istore_n 2, .null), (.aload_n 0, .null)]
theorem km_X11_mill_14_16 : zchk cX11_mill bm_X11_mill_14_16 14 = true ∧ zpc bm_X11_mill_14_16 14 = 16 := ⟨by decide +kernel, rfl⟩
abbrev bm_X11_mill_19_21 : ZB := [(.istore_n 3, .null), (.aload_n 0, .null)]
theorem km_X11_mill_19_21 : zchk cX11_mill bm_X11_mill_19_21 19 = true ∧ zpc bm_X11_mill_19_21 19 = 21 := ⟨by decide +kernel, rfl⟩
abbrev bm_X11_mill_24_28 : ZB := [(.istore 4, .null), (.aload_n 0, .null), (.iconst 0, .int 0)]
theorem km_X11_mill_24_28 : zchk cX11_mill bm_X11_mill_24_28 24 = true ∧ zpc bm_X11_mill_24_28 24 = 28 := ⟨by decide +kernel, rfl⟩
abbrev bm_X11_mill_31_33 : ZB := [(.aload_n 0, .null), (.iconst 0, .int 0)]
theorem km_X11_mill_31_33 : zchk cX11_mill bm_X11_mill_31_33 31 = true ∧ zpc bm_X11_mill_31_33 31 = 33 := ⟨by decide +kernel, rfl⟩
abbrev bm_X11_mill_36_40 : ZB := [(.aload_n 0, .null), (.iload_n 1, .null), (.bipush 60, .int 60)]
theorem km_X11_mill_36_40 : zchk cX11_mill bm_X11_mill_36_40 36 = true ∧ zpc bm_X11_mill_36_40 36 = 40 := ⟨by decide +kernel, rfl⟩
abbrev bm_X11_mill_46_53 : ZB := [(.iconst 0, .int 0), (.istore 5, .null), (.iconst 1, .int 1), (.istore 6, .null), (.iload_n 1, .null)]
theorem km_X11_mill_46_53 : zchk cX11_mill bm_X11_mill_46_53 46 = true ∧ zpc bm_X11_mill_46_53 46 = 53 := ⟨by decide +kernel, rfl⟩
abbrev bm_X11_mill_60_63 : ZB := [(.iconst 0, .int 0), (.istore 7, .null)]
theorem km_X11_mill_60_63 : zchk cX11_mill bm_X11_mill_60_63 60 = true ∧ zpc bm_X11_mill_60_63 60 = 63 := ⟨by decide +kernel, rfl⟩
abbrev bm_X11_mill_63_65 : ZB := [(.iload 7, .null)]
theorem km_X11_mill_63_65 : zchk cX11_mill bm_X11_mill_63_65 63 = true ∧ zpc bm_X11_mill_63_65 63 = 65 := ⟨by decide +kernel, rfl⟩
abbrev bm_X11_mill_101_103 : ZB := [(.iload 6, .null)]
theorem km_X11_mill_101_103 : zchk cX11_mill bm_X11_mill_101_103 101 = true ∧ zpc bm_X11_mill_101_103 101 = 103 := ⟨by decide +kernel, rfl⟩
abbrev bm_X11_mill_106_107 : ZB := [(.aload_n 0, .null)]
theorem km_X11_mill_106_107 : zchk cX11_mill bm_X11_mill_106_107 106 = true ∧ zpc bm_X11_mill_106_107 106 = 107 := ⟨by decide +kernel, rfl⟩
abbrev bm_X11_mill_110_111 : ZB := [(.aload_n 0, .null)]
theorem km_X11_mill_110_111 : zchk cX11_mill bm_X11_mill_110_111 110 = true ∧ zpc bm_X11_mill_110_111 110 = 111 := ⟨by decide +kernel, rfl⟩
abbrev bm_X11_mill_117_118 : ZB := [(.iconst 1, .int 1)]
theorem km_X11_mill_117_118 : zchk cX11_mill bm_X11_mill_117_118 117 = true ∧ zpc bm_X11_mill_117_118 117 = 118 := ⟨by decide +kernel, rfl⟩
abbrev bm_X11_mill_122_126 : ZB := [(.istore 8, .null), (.iload 8, .null)]
theorem km_X11_mill_122_126 : zchk cX11_mill bm_X11_mill_122_126 122 = true ∧ zpc bm_X11_mill_122_126 122 = 126 := ⟨by decide +kernel, rfl⟩
abbrev bm_X11_mill_129_130 : ZB := [(.iconst 0, .int 0)]
theorem km_X11_mill_129_130 : zchk cX11_mill bm_X11_mill_129_130 129 = true ∧ zpc bm_X11_mill_129_130 129 = 130 := ⟨by decide +kernel, rfl⟩
abbrev bm_X11_mill_139_144 : ZB := [(.istore 9, .null), (.iload_n 1, .null), (.bipush 60, .int 60)]
theorem km_X11_mill_139_144 : zchk cX11_mill bm_X11_mill_139_144 139 = true ∧ zpc bm_X11_mill_139_144 139 = 144 := ⟨by decide +kernel, rfl⟩
abbrev bm_X11_mill_165_167 : ZB := [(.iload 9, .null)]
theorem km_X11_mill_165_167 : zchk cX11_mill bm_X11_mill_165_167 165 = true ∧ zpc bm_X11_mill_165_167 165 = 167 := ⟨by decide +kernel, rfl⟩
abbrev bm_X11_mill_189_191 : ZB := [(.iload 5, .null)]
theorem km_X11_mill_189_191 : zchk cX11_mill bm_X11_mill_189_191 189 = true ∧ zpc bm_X11_mill_189_191 189 = 191 := ⟨by decide +kernel, rfl⟩
abbrev bm_X11_mill_56_57 : ZB := [(.iconst 1, .int 1)]
theorem km_X11_mill_56_57 : zchk cX11_mill bm_X11_mill_56_57 56 = true ∧ zpc bm_X11_mill_56_57 56 = 57 := ⟨by decide +kernel, rfl⟩
abbrev bm_X11_mill_61_63 : ZB := [(.istore 7, .null)]
theorem km_X11_mill_61_63 : zchk cX11_mill bm_X11_mill_61_63 61 = true ∧ zpc bm_X11_mill_61_63 61 = 63 := ⟨by decide +kernel, rfl⟩
abbrev bm_X11_mill_68_69 : ZB := [(.aload_n 0, .null)]
theorem km_X11_mill_68_69 : zchk cX11_mill bm_X11_mill_68_69 68 = true ∧ zpc bm_X11_mill_68_69 68 = 69 := ⟨by decide +kernel, rfl⟩
abbrev bm_X11_mill_72_79 : ZB := [(.istore 6, .null), (.iinc 5 1, .int 1), (.iload 6, .null)]
theorem km_X11_mill_72_79 : zchk cX11_mill bm_X11_mill_72_79 72 = true ∧ zpc bm_X11_mill_72_79 72 = 79 := ⟨by decide +kernel, rfl⟩
abbrev bm_X11_mill_95_98 : ZB := [(.iconst 0, .int 0), (.istore 7, .null)]
theorem km_X11_mill_95_98 : zchk cX11_mill bm_X11_mill_95_98 95 = true ∧ zpc bm_X11_mill_95_98 95 = 98 := ⟨by decide +kernel, rfl⟩
abbrev bm_X11_mill_121_126 : ZB := [(.iconst 0, .int 0), (.istore 8, .null), (.iload 8, .null)]
theorem km_X11_mill_121_126 : zchk cX11_mill bm_X11_mill_121_126 121 = true ∧ zpc bm_X11_mill_121_126 121 = 126 := ⟨by decide +kernel, rfl⟩
abbrev bm_X11_mill_133_135 : ZB := [(.iconst (-1), .int (-1)), (.aload_n 0, .null)]
theorem km_X11_mill_133_135 : zchk cX11_mill bm_X11_mill_133_135 133 = true ∧ zpc bm_X11_mill_133_135 133 = 135 := ⟨by decide +kernel, rfl⟩
abbrev bm_X11_mill_138_144 : ZB := [(.isub, .null), (.istore 9, .null), (.iload_n 1, .null), (.bipush 60, .int 60)]
theorem km_X11_mill_138_144 : zchk cX11_mill bm_X11_mill_138_144 138 = true ∧ zpc bm_X11_mill_138_144 138 = 144 := ⟨by decide +kernel, rfl⟩
abbrev bm_X11_mill_170_172 : ZB := [(.aload_n 0, .null), (.iload_n 2, .null)]
theorem km_X11_mill_170_172 : zchk cX11_mill bm_X11_mill_170_172 170 = true ∧ zpc bm_X11_mill_170_172 170 = 172 := ⟨by decide +kernel, rfl⟩
abbrev bm_X11_mill_175_177 : ZB := [(.aload_n 0, .null), (.iload_n 3, .null)]
theorem km_X11_mill_175_177 : zchk cX11_mill bm_X11_mill_175_177 175 = true ∧ zpc bm_X11_mill_175_177 175 = 177 := ⟨by decide +kernel, rfl⟩
abbrev bm_X11_mill_180_183 : ZB := [(.aload_n 0, .null), (.iload 4, .null)]
theorem km_X11_mill_180_183 : zchk cX11_mill bm_X11_mill_180_183 180 = true ∧ zpc bm_X11_mill_180_183 180 = 183 := ⟨by decide +kernel, rfl⟩
abbrev bm_X11_mill_186_188 : ZB := [(.iload 9, .null)]
theorem km_X11_mill_186_188 : zchk cX11_mill bm_X11_mill_186_188 186 = true ∧ zpc bm_X11_mill_186_188 186 = 188 := ⟨by decide +kernel, rfl⟩
abbrev bm_X11_mill_147_149 : ZB := [(.iload 8, .null)]
theorem km_X11_mill_147_149 : zchk cX11_mill bm_X11_mill_147_149 147 = true ∧ zpc bm_X11_mill_147_149 147 = 149 := ⟨by decide +kernel, rfl⟩
abbrev bm_X11_mill_152_153 : ZB := [(.aload_n 0, .null)]
theorem km_X11_mill_152_153 : zchk cX11_mill bm_X11_mill_152_153 152 = true ∧ zpc bm_X11_mill_152_153 152 = 153 := ⟨by decide +kernel, rfl⟩
abbrev bm_X11_mill_156_158 : ZB := [(.bipush 60, .int 60)]
theorem km_X11_mill_156_158 : zchk cX11_mill bm_X11_mill_156_158 156 = true ∧ zpc bm_X11_mill_156_158 156 = 158 := ⟨by decide +kernel, rfl⟩
abbrev bm_X11_mill_161_167 : ZB := [(.bipush (-61), .int (-61)), (.istore 9, .null), (.iload 9, .null)]
theorem km_X11_mill_161_167 : zchk cX11_mill bm_X11_mill_161_167 161 = true ∧ zpc bm_X11_mill_161_167 161 = 167 := ⟨by decide +kernel, rfl⟩
abbrev bm_X11_mill_82_85 : ZB := [(.aload_n 0, .null), (.bipush 59, .int 59)]
theorem km_X11_mill_82_85 : zchk cX11_mill bm_X11_mill_82_85 82 = true ∧ zpc bm_X11_mill_82_85 82 = 85 := ⟨by decide +kernel, rfl⟩
abbrev bm_X11_mill_91_92 : ZB := [(.iconst 1, .int 1)]
theorem km_X11_mill_91_92 : zchk cX11_mill bm_X11_mill_91_92 91 = true ∧ zpc bm_X11_mill_91_92 91 = 92 := ⟨by decide +kernel, rfl⟩
abbrev bm_X11_mill_96_98 : ZB := [(.istore 7, .null)]
theorem km_X11_mill_96_98 : zchk cX11_mill bm_X11_mill_96_98 96 = true ∧ zpc bm_X11_mill_96_98 96 = 98 := ⟨by decide +kernel, rfl⟩
set_option maxHeartbeats 4000000 in
set_option maxRecDepth 100000 in
theorem cm_X11_mill (l : Launch) (G : KG) (mo : Nat) (th : Int32) (g_rows : Value) (g_row : Value) (hc : Int32) (r_planeOf : Nat) (r_holeX : Nat) (r_holeY : Nat) (r_room : Nat) (r_ounces : Nat) (r_deepOf : Nat) (sc : Int32) (r_factor : Nat) (r_otherOf : Nat) (r_isApart : Nat) (g_apartX : Value) (g_apartY : Value) (cc : Int32) (r_weight : Nat) (r_tape : Nat) (n : Int32) (p : Int32) (lim : Int32) (fi : Int32) (g_crossOf : Value) (g_trueX : Value) (g_trueY : Value) (g_thoughtX : Value) (g_thoughtY : Value) (g_poundHole : Value) (g_poundOunces : Value) (g_lead : Value) (g_trials : Value) (g_trialSpeed : Value) (g_isWhole : Value) (g_trialX : Value) (g_trialY : Value) (g_trialGive : Value) (g_trialLead : Value) (g_baseX : Value) (g_baseY : Value) (g_timesPull : Value) (g_trialBaseX : Value) (g_trialBaseY : Value) (g_trialTimes : Value) (g_pulls : Value) (g_pullMany : Value) (g_sizes : Value) (g_merged : Value) (g_nextHole : Value) (g_nextOunces : Value) (g_leftBehind : Value) (g_manUp : Value) (g_manLow : Value) (g_asked : Value) (g_lowOf : Value) (g_highOf : Value) (g_tried : Value) (g_found : Value) (g_askedMany : Value) (g_mostHoles : Value) (g_isFound : Value) (g_foundRest : Value) (g_foundOunces : Value) (g_question : Value) (g_questionSpeed : Value) (g_ounceRest : Value) (g_parts : Value) (g_filled : Value) (g_cogAt : Value) (g_cogBest : Value) (g_isOrdered : Value) (g_orderSize : Value) (g_isKept : Value) (g_kept : Value) (g_keptAt : Value) (f : Nat → Int32) (fp : Nat → Int32) (fx : Nat → Int32) (fy : Nat → Int32) (fr : Nat → Int32) (fu : Nat → Int32) (fd : Nat → Int32) (ff : Nat → Int32) (fo : Nat → Int32) (fa : Nat → Int32) (fw : Nat → Int32) (ni : Int) (hci : Int) (sci : Int) (cci : Int) (hn : n.toInt = ni) (hhc : hc.toInt = hci) (hsc : sc.toInt = sci) (hcc : cc.toInt = cci) (hn0 : 0 ≤ ni ∧ ni ≤ 80) (hc0 : 0 ≤ hci ∧ hci ≤ 16 ∧ 0 ≤ sci ∧ sci ≤ 6 ∧ 0 ≤ cci ∧ cci ≤ 8) : Ct l G yX11_mill cX11_mill 10 (some .int) { frames := 5, cells := 0, slots := 0, locals := 110 } [.ref mo] [(mo, ob 11 [.int th, g_rows, g_row, .int hc, .ref r_planeOf, .ref r_holeX, .ref r_holeY, .ref r_room, .ref r_ounces, .ref r_deepOf, .int sc, .ref r_factor, .ref r_otherOf, .ref r_isApart, g_apartX, g_apartY, .int cc, .ref r_weight, .ref r_tape, .int n, .int p, .int lim, .int fi, g_crossOf, g_trueX, g_trueY, g_thoughtX, g_thoughtY, g_poundHole, g_poundOunces, g_lead, g_trials, g_trialSpeed, g_isWhole, g_trialX, g_trialY, g_trialGive, g_trialLead, g_baseX, g_baseY, g_timesPull, g_trialBaseX, g_trialBaseY, g_trialTimes, g_pulls, g_pullMany, g_sizes, g_merged, g_nextHole, g_nextOunces, g_leftBehind, g_manUp, g_manLow, g_asked, g_lowOf, g_highOf, g_tried, g_found, g_askedMany, g_mostHoles, g_isFound, g_foundRest, g_foundOunces, g_question, g_questionSpeed, g_ounceRest, g_parts, g_filled, g_cogAt, g_cogBest, g_isOrdered, g_orderSize, g_isKept, g_kept, g_keptAt]), (r_tape, aI G 80 f), (r_planeOf, aI G 16 fp), (r_holeX, aI G 16 fx), (r_holeY, aI G 16 fy), (r_room, aI G 16 fr), (r_ounces, aI G 16 fu), (r_deepOf, aI G 16 fd), (r_factor, aI G 6 ff), (r_otherOf, aI G 6 fo), (r_isApart, aZ G 6 fa), (r_weight, aI G 8 fw)] (fun r w1 => ∃ (lim2 : Int32), ∃ (q : Int32), ∃ (fi2 : Int32), ∃ (hc2 : Int32), ∃ (sc2 : Int32), ∃ (cc2 : Int32), ∃ (fp2 : Nat → Int32), ∃ (fx2 : Nat → Int32), ∃ (fy2 : Nat → Int32), ∃ (fr2 : Nat → Int32), ∃ (fu2 : Nat → Int32), ∃ (fd2 : Nat → Int32), ∃ (ff2 : Nat → Int32), ∃ (fo2 : Nat → Int32), ∃ (fa2 : Nat → Int32), ∃ (fw2 : Nat → Int32), ∃ (rz : Int32), (CN n (run0 f (if 60 < n then 60 else n) hci sci cci) rz.toInt hci sci cci hc2.toInt sc2.toInt cc2.toInt) ∧ (A7 f (if 60 < n then 60 else n) hci sci cci fp fx fy fr ff fo fw fp2 fx2 fy2 fr2 ff2 fo2 fw2 hc2.toInt sc2.toInt cc2.toInt (run0 f (if 60 < n then 60 else n) hci sci cci).2.2.2.2.2.2.1 (run0 f (if 60 < n then 60 else n) hci sci cci).2.2.2.2.2.2.2.1 (run0 f (if 60 < n then 60 else n) hci sci cci).2.2.2.2.2.2.2.2) ∧ (AF (fun _ => 0) fu fu2 hci hc2.toInt (run0 f (if 60 < n then 60 else n) hci sci cci).2.2.2.2.2.2.1) ∧ (AF (fun _ => 0) fd fd2 hci hc2.toInt (run0 f (if 60 < n then 60 else n) hci sci cci).2.2.2.2.2.2.1) ∧ (AF (fun _ => 0) fa fa2 sci sc2.toInt (run0 f (if 60 < n then 60 else n) hci sci cci).2.2.2.2.2.2.2.1) ∧ ((0 ≤ hc2.toInt ∧ hc2.toInt ≤ 16) ∧ (0 ≤ sc2.toInt ∧ sc2.toInt ≤ 6) ∧ (0 ≤ cc2.toInt ∧ cc2.toInt ≤ 8)) ∧ r = some (.int rz) ∧ w1 = [(mo, ob 11 [.int 0, g_rows, g_row, .int hc2, .ref r_planeOf, .ref r_holeX, .ref r_holeY, .ref r_room, .ref r_ounces, .ref r_deepOf, .int sc2, .ref r_factor, .ref r_otherOf, .ref r_isApart, g_apartX, g_apartY, .int cc2, .ref r_weight, .ref r_tape, .int 0, .int q, .int lim2, .int fi2, g_crossOf, g_trueX, g_trueY, g_thoughtX, g_thoughtY, g_poundHole, g_poundOunces, g_lead, g_trials, g_trialSpeed, g_isWhole, g_trialX, g_trialY, g_trialGive, g_trialLead, g_baseX, g_baseY, g_timesPull, g_trialBaseX, g_trialBaseY, g_trialTimes, g_pulls, g_pullMany, g_sizes, g_merged, g_nextHole, g_nextOunces, g_leftBehind, g_manUp, g_manLow, g_asked, g_lowOf, g_highOf, g_tried, g_found, g_askedMany, g_mostHoles, g_isFound, g_foundRest, g_foundOunces, g_question, g_questionSpeed, g_ounceRest, g_parts, g_filled, g_cogAt, g_cogBest, g_isOrdered, g_orderSize, g_isKept, g_kept, g_keptAt]), (r_tape, aI G 80 f), (r_planeOf, aI G 16 fp2), (r_holeX, aI G 16 fx2), (r_holeY, aI G 16 fy2), (r_room, aI G 16 fr2), (r_ounces, aI G 16 fu2), (r_deepOf, aI G 16 fd2), (r_factor, aI G 6 ff2), (r_otherOf, aI G 6 fo2), (r_isApart, aZ G 6 fa2), (r_weight, aI G 8 fw2)]) := by
  refine ct_of [(0, .ref mo)] (by decide) (Nat.le_of_ble_eq_true rfl) rfl ?_
  intro p0 e0 s0 m0 args0 below0 meth0 c0 A X
  refine z_run X bm_X11_mill_0_2 km_X11_mill_0_2 (lv' := [(0, .ref mo)]) (st' := [.int 0, .ref mo]) rfl ?_
  refine z_put X fl_11_3 dm_X11_mill_2 0 rfl (ty := .int) (T := TX11) (N := 75) rfl (Or.inl rfl) (by decide +kernel) rfl (by rfl) (Nat.le_of_ble_eq_true rfl) (ws' := [(mo, ob 11 [.int 0, g_rows, g_row, .int hc, .ref r_planeOf, .ref r_holeX, .ref r_holeY, .ref r_room, .ref r_ounces, .ref r_deepOf, .int sc, .ref r_factor, .ref r_otherOf, .ref r_isApart, g_apartX, g_apartY, .int cc, .ref r_weight, .ref r_tape, .int n, .int p, .int lim, .int fi, g_crossOf, g_trueX, g_trueY, g_thoughtX, g_thoughtY, g_poundHole, g_poundOunces, g_lead, g_trials, g_trialSpeed, g_isWhole, g_trialX, g_trialY, g_trialGive, g_trialLead, g_baseX, g_baseY, g_timesPull, g_trialBaseX, g_trialBaseY, g_trialTimes, g_pulls, g_pullMany, g_sizes, g_merged, g_nextHole, g_nextOunces, g_leftBehind, g_manUp, g_manLow, g_asked, g_lowOf, g_highOf, g_tried, g_found, g_askedMany, g_mostHoles, g_isFound, g_foundRest, g_foundOunces, g_question, g_questionSpeed, g_ounceRest, g_parts, g_filled, g_cogAt, g_cogBest, g_isOrdered, g_orderSize, g_isKept, g_kept, g_keptAt]), (r_tape, aI G 80 f), (r_planeOf, aI G 16 fp), (r_holeX, aI G 16 fx), (r_holeY, aI G 16 fy), (r_room, aI G 16 fr), (r_ounces, aI G 16 fu), (r_deepOf, aI G 16 fd), (r_factor, aI G 6 ff), (r_otherOf, aI G 6 fo), (r_isApart, aZ G 6 fa), (r_weight, aI G 8 fw)]) rfl ?_
  refine z_run X bm_X11_mill_5_6 km_X11_mill_5_6 (lv' := [(0, .ref mo)]) (st' := [.ref mo]) rfl ?_
  refine z_get X fl_11_22 dm_X11_mill_6 0 rfl (v := .int n) rfl ?_
  refine z_run X bm_X11_mill_9_11 km_X11_mill_9_11 (lv' := [(1, .int n), (0, .ref mo)]) (st' := [.ref mo]) rfl ?_
  refine z_get X fl_11_63 dm_X11_mill_11 0 rfl (v := .int hc) rfl ?_
  refine z_run X bm_X11_mill_14_16 km_X11_mill_14_16 (lv' := [(2, .int hc), (1, .int n), (0, .ref mo)]) (st' := [.ref mo]) rfl ?_
  refine z_get X fl_11_88 dm_X11_mill_16 0 rfl (v := .int sc) rfl ?_
  refine z_run X bm_X11_mill_19_21 km_X11_mill_19_21 (lv' := [(3, .int sc), (2, .int hc), (1, .int n), (0, .ref mo)]) (st' := [.ref mo]) rfl ?_
  refine z_get X fl_11_101 dm_X11_mill_21 0 rfl (v := .int cc) rfl ?_
  refine z_run X bm_X11_mill_24_28 km_X11_mill_24_28 (lv' := [(4, .int cc), (3, .int sc), (2, .int hc), (1, .int n), (0, .ref mo)]) (st' := [.int 0, .ref mo]) rfl ?_
  refine z_put X fl_11_22 dm_X11_mill_28 0 rfl (ty := .int) (T := TX11) (N := 75) rfl (Or.inl rfl) (by decide +kernel) rfl (by rfl) (Nat.le_of_ble_eq_true rfl) (ws' := [(mo, ob 11 [.int 0, g_rows, g_row, .int hc, .ref r_planeOf, .ref r_holeX, .ref r_holeY, .ref r_room, .ref r_ounces, .ref r_deepOf, .int sc, .ref r_factor, .ref r_otherOf, .ref r_isApart, g_apartX, g_apartY, .int cc, .ref r_weight, .ref r_tape, .int 0, .int p, .int lim, .int fi, g_crossOf, g_trueX, g_trueY, g_thoughtX, g_thoughtY, g_poundHole, g_poundOunces, g_lead, g_trials, g_trialSpeed, g_isWhole, g_trialX, g_trialY, g_trialGive, g_trialLead, g_baseX, g_baseY, g_timesPull, g_trialBaseX, g_trialBaseY, g_trialTimes, g_pulls, g_pullMany, g_sizes, g_merged, g_nextHole, g_nextOunces, g_leftBehind, g_manUp, g_manLow, g_asked, g_lowOf, g_highOf, g_tried, g_found, g_askedMany, g_mostHoles, g_isFound, g_foundRest, g_foundOunces, g_question, g_questionSpeed, g_ounceRest, g_parts, g_filled, g_cogAt, g_cogBest, g_isOrdered, g_orderSize, g_isKept, g_kept, g_keptAt]), (r_tape, aI G 80 f), (r_planeOf, aI G 16 fp), (r_holeX, aI G 16 fx), (r_holeY, aI G 16 fy), (r_room, aI G 16 fr), (r_ounces, aI G 16 fu), (r_deepOf, aI G 16 fd), (r_factor, aI G 6 ff), (r_otherOf, aI G 6 fo), (r_isApart, aZ G 6 fa), (r_weight, aI G 8 fw)]) rfl ?_
  refine z_run X bm_X11_mill_31_33 km_X11_mill_31_33 (lv' := [(4, .int cc), (3, .int sc), (2, .int hc), (1, .int n), (0, .ref mo)]) (st' := [.int 0, .ref mo]) rfl ?_
  refine z_put X fl_11_33 dm_X11_mill_33 0 rfl (ty := .int) (T := TX11) (N := 75) rfl (Or.inl rfl) (by decide +kernel) rfl (by rfl) (Nat.le_of_ble_eq_true rfl) (ws' := [(mo, ob 11 [.int 0, g_rows, g_row, .int hc, .ref r_planeOf, .ref r_holeX, .ref r_holeY, .ref r_room, .ref r_ounces, .ref r_deepOf, .int sc, .ref r_factor, .ref r_otherOf, .ref r_isApart, g_apartX, g_apartY, .int cc, .ref r_weight, .ref r_tape, .int 0, .int 0, .int lim, .int fi, g_crossOf, g_trueX, g_trueY, g_thoughtX, g_thoughtY, g_poundHole, g_poundOunces, g_lead, g_trials, g_trialSpeed, g_isWhole, g_trialX, g_trialY, g_trialGive, g_trialLead, g_baseX, g_baseY, g_timesPull, g_trialBaseX, g_trialBaseY, g_trialTimes, g_pulls, g_pullMany, g_sizes, g_merged, g_nextHole, g_nextOunces, g_leftBehind, g_manUp, g_manLow, g_asked, g_lowOf, g_highOf, g_tried, g_found, g_askedMany, g_mostHoles, g_isFound, g_foundRest, g_foundOunces, g_question, g_questionSpeed, g_ounceRest, g_parts, g_filled, g_cogAt, g_cogBest, g_isOrdered, g_orderSize, g_isKept, g_kept, g_keptAt]), (r_tape, aI G 80 f), (r_planeOf, aI G 16 fp), (r_holeX, aI G 16 fx), (r_holeY, aI G 16 fy), (r_room, aI G 16 fr), (r_ounces, aI G 16 fu), (r_deepOf, aI G 16 fd), (r_factor, aI G 6 ff), (r_otherOf, aI G 6 fo), (r_isApart, aZ G 6 fa), (r_weight, aI G 8 fw)]) rfl ?_
  refine z_run X bm_X11_mill_36_40 km_X11_mill_36_40 (lv' := [(4, .int cc), (3, .int sc), (2, .int hc), (1, .int n), (0, .ref mo)]) (st' := [.int 60, .int n, .ref mo]) rfl ?_
  refine z_mmin X k_11_107.1 k_11_107.2.1 k_11_107.2.2.1 k_11_107.2.2.2.1 ⟨Nat.le_of_ble_eq_true rfl, Nat.le_of_ble_eq_true rfl⟩ ⟨Nat.le_of_ble_eq_true rfl, Nat.le_of_ble_eq_true rfl⟩ dm_X11_mill_40 (v := (if 60 < n then 60 else n)) rfl ?_
  refine z_put X fl_11_36 dm_X11_mill_43 0 rfl (ty := .int) (T := TX11) (N := 75) rfl (Or.inl rfl) (by decide +kernel) rfl (by rfl) (Nat.le_of_ble_eq_true rfl) (ws' := [(mo, ob 11 [.int 0, g_rows, g_row, .int hc, .ref r_planeOf, .ref r_holeX, .ref r_holeY, .ref r_room, .ref r_ounces, .ref r_deepOf, .int sc, .ref r_factor, .ref r_otherOf, .ref r_isApart, g_apartX, g_apartY, .int cc, .ref r_weight, .ref r_tape, .int 0, .int 0, .int (if 60 < n then 60 else n), .int fi, g_crossOf, g_trueX, g_trueY, g_thoughtX, g_thoughtY, g_poundHole, g_poundOunces, g_lead, g_trials, g_trialSpeed, g_isWhole, g_trialX, g_trialY, g_trialGive, g_trialLead, g_baseX, g_baseY, g_timesPull, g_trialBaseX, g_trialBaseY, g_trialTimes, g_pulls, g_pullMany, g_sizes, g_merged, g_nextHole, g_nextOunces, g_leftBehind, g_manUp, g_manLow, g_asked, g_lowOf, g_highOf, g_tried, g_found, g_askedMany, g_mostHoles, g_isFound, g_foundRest, g_foundOunces, g_question, g_questionSpeed, g_ounceRest, g_parts, g_filled, g_cogAt, g_cogBest, g_isOrdered, g_orderSize, g_isKept, g_kept, g_keptAt]), (r_tape, aI G 80 f), (r_planeOf, aI G 16 fp), (r_holeX, aI G 16 fx), (r_holeY, aI G 16 fy), (r_room, aI G 16 fr), (r_ounces, aI G 16 fu), (r_deepOf, aI G 16 fd), (r_factor, aI G 6 ff), (r_otherOf, aI G 6 fo), (r_isApart, aZ G 6 fa), (r_weight, aI G 8 fw)]) rfl ?_
  refine z_run X bm_X11_mill_46_53 km_X11_mill_46_53 (lv' := [(6, .int 1), (5, .int 0), (4, .int cc), (3, .int sc), (2, .int hc), (1, .int n), (0, .ref mo)]) (st' := [.int n]) rfl ?_
  refine zi_le X dm_X11_mill_53 (tgt := 60) (by decide) (a := ni) hn (fun c53_1 => ?_) (fun c53_1 => ?_)
  ·
    have hLm : (if 60 < n then 60 else n).toInt = min ni 60 := (tI_min hn (show (60 : Int32).toInt = 60 from by decide))
    refine z_run X bm_X11_mill_60_63 km_X11_mill_60_63 (lv' := [(7, .int 0), (6, .int 1), (5, .int 0), (4, .int cc), (3, .int sc), (2, .int hc), (1, .int n), (0, .ref mo)]) (st' := []) rfl ?_
    refine z_run X bm_X11_mill_63_65 km_X11_mill_63_65 (lv' := [(7, .int 0), (6, .int 1), (5, .int 0), (4, .int cc), (3, .int sc), (2, .int hc), (1, .int n), (0, .ref mo)]) (st' := [.int 0]) rfl ?_
    refine zi_eq X dm_X11_mill_65 (tgt := 101) (by decide) (a := 0) (show (0 : Int32).toInt = 0 from by decide) (fun _ => ?_) (fun c65_2 => absurd c65_2 (by decide))
    refine z_run X bm_X11_mill_101_103 km_X11_mill_101_103 (lv' := [(7, .int 0), (6, .int 1), (5, .int 0), (4, .int cc), (3, .int sc), (2, .int hc), (1, .int n), (0, .ref mo)]) (st' := [.int 1]) rfl ?_
    refine zi_eq X dm_X11_mill_103 (tgt := 121) (by decide) (a := 1) (show (1 : Int32).toInt = 1 from by decide) (fun c103_3 => absurd c103_3 (by decide)) (fun _ => ?_)
    refine z_run X bm_X11_mill_106_107 km_X11_mill_106_107 (lv' := [(7, .int 0), (6, .int 1), (5, .int 0), (4, .int cc), (3, .int sc), (2, .int hc), (1, .int n), (0, .ref mo)]) (st' := [.ref mo]) rfl ?_
    refine z_get X fl_11_33 dm_X11_mill_107 0 rfl (v := .int 0) rfl ?_
    refine z_run X bm_X11_mill_110_111 km_X11_mill_110_111 (lv' := [(7, .int 0), (6, .int 1), (5, .int 0), (4, .int cc), (3, .int sc), (2, .int hc), (1, .int n), (0, .ref mo)]) (st' := [.ref mo, .int 0]) rfl ?_
    refine z_get X fl_11_36 dm_X11_mill_111 0 rfl (v := .int (if 60 < n then 60 else n)) rfl ?_
    refine zc_ne X dm_X11_mill_114 (tgt := 121) (by decide) (a := 0) (b := (min ni 60)) (show (0 : Int32).toInt = 0 from by decide) (tI_min hn (show (60 : Int32).toInt = 60 from by decide)) (fun c114_4n => absurd c114_4n (by have e0 : (0 : Int32).toInt = 0 := (by decide); omega)) (fun c114_4 => ?_)
    refine z_run X bm_X11_mill_117_118 km_X11_mill_117_118 (lv' := [(7, .int 0), (6, .int 1), (5, .int 0), (4, .int cc), (3, .int sc), (2, .int hc), (1, .int n), (0, .ref mo)]) (st' := [.int 1]) rfl ?_
    refine z_goto X dm_X11_mill_118 (tgt := 122) (by decide) ?_
    refine z_run X bm_X11_mill_122_126 km_X11_mill_122_126 (lv' := [(8, .int 1), (7, .int 0), (6, .int 1), (5, .int 0), (4, .int cc), (3, .int sc), (2, .int hc), (1, .int n), (0, .ref mo)]) (st' := [.int 1]) rfl ?_
    refine zi_eq X dm_X11_mill_126 (tgt := 133) (by decide) (a := 1) (show (1 : Int32).toInt = 1 from by decide) (fun c126_5 => absurd c126_5 (by decide)) (fun _ => ?_)
    refine z_run X bm_X11_mill_129_130 km_X11_mill_129_130 (lv' := [(8, .int 1), (7, .int 0), (6, .int 1), (5, .int 0), (4, .int cc), (3, .int sc), (2, .int hc), (1, .int n), (0, .ref mo)]) (st' := [.int 0]) rfl ?_
    refine z_goto X dm_X11_mill_130 (tgt := 139) (by decide) ?_
    refine z_run X bm_X11_mill_139_144 km_X11_mill_139_144 (lv' := [(9, .int 0), (8, .int 1), (7, .int 0), (6, .int 1), (5, .int 0), (4, .int cc), (3, .int sc), (2, .int hc), (1, .int n), (0, .ref mo)]) (st' := [.int 60, .int n]) rfl ?_
    refine zc_le X dm_X11_mill_144 (tgt := 165) (by decide) (a := ni) (b := 60) hn (show (60 : Int32).toInt = 60 from by decide) (fun c144_6 => ?_) (fun c144_6n => absurd c144_6n (by omega))
    refine z_run X bm_X11_mill_165_167 km_X11_mill_165_167 (lv' := [(9, .int 0), (8, .int 1), (7, .int 0), (6, .int 1), (5, .int 0), (4, .int cc), (3, .int sc), (2, .int hc), (1, .int n), (0, .ref mo)]) (st' := [.int 0]) rfl ?_
    refine zi_ge X dm_X11_mill_167 (tgt := 189) (by decide) (a := 0) (show (0 : Int32).toInt = 0 from by decide) (fun _ => ?_) (fun c167_7 => absurd c167_7 (by decide))
    refine z_run X bm_X11_mill_189_191 km_X11_mill_189_191 (lv' := [(9, .int 0), (8, .int 1), (7, .int 0), (6, .int 1), (5, .int 0), (4, .int cc), (3, .int sc), (2, .int hc), (1, .int n), (0, .ref mo)]) (st' := [.int 0]) rfl ?_
    exact z_iret X rfl dm_X11_mill_191 (Nat.le_of_ble_eq_true rfl) (Nat.le_of_ble_eq_true rfl) ⟨(if 60 < n then 60 else n), 0, fi, hc, sc, cc, fp, fx, fy, fr, fu, fd, ff, fo, fa, fw, 0, (CN.cast (CN.zero (by omega) (by rw [hLm]; omega)) (by decide) hhc hsc hcc), (A7.cast A7.zero hhc hsc hcc), (AF.cast AF.zero hhc), (AF.cast AF.zero hhc), (AF.cast AF.zero hsc), (by omega), rfl, rfl⟩
  ·
    have hLm : (if 60 < n then 60 else n).toInt = min ni 60 := (tI_min hn (show (60 : Int32).toInt = 60 from by decide))
    refine z_run X bm_X11_mill_56_57 km_X11_mill_56_57 (lv' := [(6, .int 1), (5, .int 0), (4, .int cc), (3, .int sc), (2, .int hc), (1, .int n), (0, .ref mo)]) (st' := [.int 1]) rfl ?_
    refine z_goto X dm_X11_mill_57 (tgt := 61) (by decide) ?_
    refine z_run X bm_X11_mill_61_63 km_X11_mill_61_63 (lv' := [(7, .int 1), (6, .int 1), (5, .int 0), (4, .int cc), (3, .int sc), (2, .int hc), (1, .int n), (0, .ref mo)]) (st' := []) rfl ?_
    refine Z.sub (lv' := [(7, .int 1), (5, .int 0), (4, .int cc), (3, .int sc), (2, .int hc), (1, .int n), (0, .ref mo)]) [0, 2, 3, 4, 5, 6, 7] rfl [0, 1, 2, 3, 4, 5, 6, 7, 8, 9, 10, 11] (ws' := [(mo, ob 11 [.int 0, g_rows, g_row, .int hc, .ref r_planeOf, .ref r_holeX, .ref r_holeY, .ref r_room, .ref r_ounces, .ref r_deepOf, .int sc, .ref r_factor, .ref r_otherOf, .ref r_isApart, g_apartX, g_apartY, .int cc, .ref r_weight, .ref r_tape, .int 0, .int 0, .int (if 60 < n then 60 else n), .int fi, g_crossOf, g_trueX, g_trueY, g_thoughtX, g_thoughtY, g_poundHole, g_poundOunces, g_lead, g_trials, g_trialSpeed, g_isWhole, g_trialX, g_trialY, g_trialGive, g_trialLead, g_baseX, g_baseY, g_timesPull, g_trialBaseX, g_trialBaseY, g_trialTimes, g_pulls, g_pullMany, g_sizes, g_merged, g_nextHole, g_nextOunces, g_leftBehind, g_manUp, g_manLow, g_asked, g_lowOf, g_highOf, g_tried, g_found, g_askedMany, g_mostHoles, g_isFound, g_foundRest, g_foundOunces, g_question, g_questionSpeed, g_ounceRest, g_parts, g_filled, g_cogAt, g_cogBest, g_isOrdered, g_orderSize, g_isKept, g_kept, g_keptAt]), (r_tape, aI G 80 f), (r_planeOf, aI G 16 fp), (r_holeX, aI G 16 fx), (r_holeY, aI G 16 fy), (r_room, aI G 16 fr), (r_ounces, aI G 16 fu), (r_deepOf, aI G 16 fd), (r_factor, aI G 6 ff), (r_otherOf, aI G 6 fo), (r_isApart, aZ G 6 fa), (r_weight, aI G 8 fw)]) rfl (by decide) ?_
    refine zloop (σ := Int32 × Int32 × Int32 × Int32 × Int32 × Int32 × (Nat → Int32) × (Nat → Int32) × (Nat → Int32) × (Nat → Int32) × (Nat → Int32) × (Nat → Int32) × (Nat → Int32) × (Nat → Int32) × (Nat → Int32) × (Nat → Int32) × (Nat → Int32) × (Nat → Int32) × (Nat → Int32)) (fun z => [(7, .int 1), (5, .int z.1), (4, .int cc), (3, .int sc), (2, .int hc), (1, .int n), (0, .ref mo)]) (fun z => []) (fun z => [(mo, ob 11 [.int 0, g_rows, g_row, .int z.2.2.2.1, .ref r_planeOf, .ref r_holeX, .ref r_holeY, .ref r_room, .ref r_ounces, .ref r_deepOf, .int z.2.2.2.2.1, .ref r_factor, .ref r_otherOf, .ref r_isApart, g_apartX, g_apartY, .int z.2.2.2.2.2.1, .ref r_weight, .ref r_tape, .int 0, .int z.2.1, .int (if 60 < n then 60 else n), .int z.2.2.1, g_crossOf, g_trueX, g_trueY, g_thoughtX, g_thoughtY, g_poundHole, g_poundOunces, g_lead, g_trials, g_trialSpeed, g_isWhole, g_trialX, g_trialY, g_trialGive, g_trialLead, g_baseX, g_baseY, g_timesPull, g_trialBaseX, g_trialBaseY, g_trialTimes, g_pulls, g_pullMany, g_sizes, g_merged, g_nextHole, g_nextOunces, g_leftBehind, g_manUp, g_manLow, g_asked, g_lowOf, g_highOf, g_tried, g_found, g_askedMany, g_mostHoles, g_isFound, g_foundRest, g_foundOunces, g_question, g_questionSpeed, g_ounceRest, g_parts, g_filled, g_cogAt, g_cogBest, g_isOrdered, g_orderSize, g_isKept, g_kept, g_keptAt]), (r_tape, aI G 80 f), (r_planeOf, aI G 16 z.2.2.2.2.2.2.1), (r_holeX, aI G 16 z.2.2.2.2.2.2.2.1), (r_holeY, aI G 16 z.2.2.2.2.2.2.2.2.1), (r_room, aI G 16 z.2.2.2.2.2.2.2.2.2.1), (r_ounces, aI G 16 z.2.2.2.2.2.2.2.2.2.2.1), (r_deepOf, aI G 16 z.2.2.2.2.2.2.2.2.2.2.2.1), (r_factor, aI G 6 z.2.2.2.2.2.2.2.2.2.2.2.2.1), (r_otherOf, aI G 6 z.2.2.2.2.2.2.2.2.2.2.2.2.2.1), (r_isApart, aZ G 6 z.2.2.2.2.2.2.2.2.2.2.2.2.2.2.1), (r_weight, aI G 8 z.2.2.2.2.2.2.2.2.2.2.2.2.2.2.2.1)]) (fun z => (0 ≤ z.1.toInt ∧ z.1.toInt ≤ 60) ∧ (0 ≤ z.2.1.toInt ∧ z.2.1.toInt ≤ 60) ∧ ((0 ≤ z.2.2.2.1.toInt ∧ z.2.2.2.1.toInt ≤ 16) ∧ (0 ≤ z.2.2.2.2.1.toInt ∧ z.2.2.2.2.1.toInt ≤ 6) ∧ (0 ≤ z.2.2.2.2.2.1.toInt ∧ z.2.2.2.2.2.1.toInt ≤ 8)) ∧ (MI f (if 60 < n then 60 else n) hci sci cci z.1.toInt z.2.1 z.2.2.2.1.toInt z.2.2.2.2.1.toInt z.2.2.2.2.2.1.toInt z.2.2.2.2.2.2.2.2.2.2.2.2.2.2.2.2.1 z.2.2.2.2.2.2.2.2.2.2.2.2.2.2.2.2.2.1 z.2.2.2.2.2.2.2.2.2.2.2.2.2.2.2.2.2.2) ∧ (A7 f (if 60 < n then 60 else n) hci sci cci fp fx fy fr ff fo fw z.2.2.2.2.2.2.1 z.2.2.2.2.2.2.2.1 z.2.2.2.2.2.2.2.2.1 z.2.2.2.2.2.2.2.2.2.1 z.2.2.2.2.2.2.2.2.2.2.2.2.1 z.2.2.2.2.2.2.2.2.2.2.2.2.2.1 z.2.2.2.2.2.2.2.2.2.2.2.2.2.2.2.1 z.2.2.2.1.toInt z.2.2.2.2.1.toInt z.2.2.2.2.2.1.toInt z.2.2.2.2.2.2.2.2.2.2.2.2.2.2.2.2.1 z.2.2.2.2.2.2.2.2.2.2.2.2.2.2.2.2.2.1 z.2.2.2.2.2.2.2.2.2.2.2.2.2.2.2.2.2.2) ∧ (AF (fun _ => 0) fu z.2.2.2.2.2.2.2.2.2.2.1 hci z.2.2.2.1.toInt z.2.2.2.2.2.2.2.2.2.2.2.2.2.2.2.2.1) ∧ (AF (fun _ => 0) fd z.2.2.2.2.2.2.2.2.2.2.2.1 hci z.2.2.2.1.toInt z.2.2.2.2.2.2.2.2.2.2.2.2.2.2.2.2.1) ∧ (AF (fun _ => 0) fa z.2.2.2.2.2.2.2.2.2.2.2.2.2.2.1 sci z.2.2.2.2.1.toInt z.2.2.2.2.2.2.2.2.2.2.2.2.2.2.2.2.2.1)) (fun z => (60 - z.2.1.toInt).toNat) (0, 0, fi, hc, sc, cc, fp, fx, fy, fr, fu, fd, ff, fo, fa, fw, zf, zf, zf) ?_ ?_
    ·
      rintro ⟨i_, pp, fv, uh, us, uc, gp, gx, gy, gr, gu, gd, gf, go, ga, gw, ta, tb, td⟩ ⟨hi, hp, hu, hM, hA, hE4, hE5, hE8⟩ ih63
      dsimp only at *
      refine z_run X bm_X11_mill_63_65 km_X11_mill_63_65 (lv' := [(7, .int 1), (5, .int i_), (4, .int cc), (3, .int sc), (2, .int hc), (1, .int n), (0, .ref mo)]) (st' := [.int 1]) rfl ?_
      refine zi_eq X dm_X11_mill_65 (tgt := 101) (by decide) (a := 1) (show (1 : Int32).toInt = 1 from by decide) (fun c65_8 => absurd c65_8 (by decide)) (fun _ => ?_)
      refine z_run X bm_X11_mill_68_69 km_X11_mill_68_69 (lv' := [(7, .int 1), (5, .int i_), (4, .int cc), (3, .int sc), (2, .int hc), (1, .int n), (0, .ref mo)]) (st' := [.ref mo]) rfl ?_
      refine z_callV X k_11_112 (cm_X11_readsLine l G mo 0 g_rows g_row uh r_planeOf r_holeX r_holeY r_room r_ounces r_deepOf us r_factor r_otherOf r_isApart g_apartX g_apartY uc r_weight r_tape 0 pp (if 60 < n then 60 else n) fv g_crossOf g_trueX g_trueY g_thoughtX g_thoughtY g_poundHole g_poundOunces g_lead g_trials g_trialSpeed g_isWhole g_trialX g_trialY g_trialGive g_trialLead g_baseX g_baseY g_timesPull g_trialBaseX g_trialBaseY g_trialTimes g_pulls g_pullMany g_sizes g_merged g_nextHole g_nextOunces g_leftBehind g_manUp g_manLow g_asked g_lowOf g_highOf g_tried g_found g_askedMany g_mostHoles g_isFound g_foundRest g_foundOunces g_question g_questionSpeed g_ounceRest g_parts g_filled g_cogAt g_cogBest g_isOrdered g_orderSize g_isKept g_kept g_keptAt f gp gx gy gr gu gd gf go ga gw pp.toInt ((min ni 60)) uh.toInt us.toInt uc.toInt rfl (tI_min hn (show (60 : Int32).toInt = 60 from by decide)) rfl rfl rfl (by omega) (by omega) (by omega)) dm_X11_mill_69 0 rfl rfl rfl ⟨Nat.le_of_ble_eq_true rfl, Nat.le_of_ble_eq_true rfl⟩ ⟨Nat.le_of_ble_eq_true rfl, Nat.le_of_ble_eq_true rfl⟩ rfl (rest := []) (As := []) rfl (Nat.le_of_ble_eq_true rfl) [0, 1, 2, 3, 4, 5, 6, 7, 8, 9, 10, 11] [] rfl (by decide) (wr := []) rfl (by decide) (by decide) ?_
      rintro _ _ ⟨q_9, fi2_10, hc2_11, sc2_12, cc2_13, fp2_14, fx2_15, fy2_16, fr2_17, fu2_18, fd2_19, ff2_20, fo2_21, fa2_22, fw2_23, f69_24, f69_25, f69_26, f69_27, f69_28, rfl, rfl⟩
      refine Z.at (pc' := 72) (st' := [.int (zb (decide ((lin f (if 60 < n then 60 else n) pp uh.toInt us.toInt uc.toInt).1 = true)))]) (ws' := [(mo, ob 11 [.int 0, g_rows, g_row, .int hc2_11, .ref r_planeOf, .ref r_holeX, .ref r_holeY, .ref r_room, .ref r_ounces, .ref r_deepOf, .int sc2_12, .ref r_factor, .ref r_otherOf, .ref r_isApart, g_apartX, g_apartY, .int cc2_13, .ref r_weight, .ref r_tape, .int 0, .int q_9, .int (if 60 < n then 60 else n), .int fi2_10, g_crossOf, g_trueX, g_trueY, g_thoughtX, g_thoughtY, g_poundHole, g_poundOunces, g_lead, g_trials, g_trialSpeed, g_isWhole, g_trialX, g_trialY, g_trialGive, g_trialLead, g_baseX, g_baseY, g_timesPull, g_trialBaseX, g_trialBaseY, g_trialTimes, g_pulls, g_pullMany, g_sizes, g_merged, g_nextHole, g_nextOunces, g_leftBehind, g_manUp, g_manLow, g_asked, g_lowOf, g_highOf, g_tried, g_found, g_askedMany, g_mostHoles, g_isFound, g_foundRest, g_foundOunces, g_question, g_questionSpeed, g_ounceRest, g_parts, g_filled, g_cogAt, g_cogBest, g_isOrdered, g_orderSize, g_isKept, g_kept, g_keptAt]), (r_tape, aI G 80 f), (r_planeOf, aI G 16 fp2_14), (r_holeX, aI G 16 fx2_15), (r_holeY, aI G 16 fy2_16), (r_room, aI G 16 fr2_17), (r_ounces, aI G 16 fu2_18), (r_deepOf, aI G 16 fd2_19), (r_factor, aI G 6 ff2_20), (r_otherOf, aI G 6 fo2_21), (r_isApart, aZ G 6 fa2_22), (r_weight, aI G 8 fw2_23)]) (kc' := 0) (ks' := 0) rfl rfl rfl rfl rfl ?_
      refine z_run X bm_X11_mill_72_79 km_X11_mill_72_79 (lv' := [(5, .int (i_ + 1)), (6, .int (zb (decide ((lin f (if 60 < n then 60 else n) pp uh.toInt us.toInt uc.toInt).1 = true)))), (7, .int 1), (4, .int cc), (3, .int sc), (2, .int hc), (1, .int n), (0, .ref mo)]) (st' := [.int (zb (decide ((lin f (if 60 < n then 60 else n) pp uh.toInt us.toInt uc.toInt).1 = true)))]) rfl ?_
      refine zi_eq_zb X dm_X11_mill_79 (tgt := 95) (by decide) (fun c79_29 => ?_) (fun c79_29 => ?_)
      ·
        have hb : hci ≤ uh.toInt ∧ sci ≤ us.toInt ∧ cci ≤ uc.toInt := ⟨hM.2.2.2.1.1, hM.2.2.2.2.1.1, hM.2.2.2.2.2.1.1⟩
        have hj := hM.2.1
        have sl : (uh.toNatClampNeg : Int) = uh.toInt ∧ (us.toNatClampNeg : Int) = us.toInt ∧ (uc.toNatClampNeg : Int) = uc.toInt := ⟨slot_of1 rfl hu.1.1, slot_of1 rfl hu.2.1.1, slot_of1 rfl hu.2.2.1⟩
        refine z_run X bm_X11_mill_95_98 km_X11_mill_95_98 (lv' := [(7, .int 0), (5, .int (i_ + 1)), (6, .int (zb (decide ((lin f (if 60 < n then 60 else n) pp uh.toInt us.toInt uc.toInt).1 = true)))), (4, .int cc), (3, .int sc), (2, .int hc), (1, .int n), (0, .ref mo)]) (st' := []) rfl ?_
        refine z_goto X dm_X11_mill_98 (tgt := 63) (by decide) ?_
        refine z_run X bm_X11_mill_63_65 km_X11_mill_63_65 (lv' := [(7, .int 0), (5, .int (i_ + 1)), (6, .int (zb (decide ((lin f (if 60 < n then 60 else n) pp uh.toInt us.toInt uc.toInt).1 = true)))), (4, .int cc), (3, .int sc), (2, .int hc), (1, .int n), (0, .ref mo)]) (st' := [.int 0]) rfl ?_
        refine zi_eq X dm_X11_mill_65 (tgt := 101) (by decide) (a := 0) (show (0 : Int32).toInt = 0 from by decide) (fun _ => ?_) (fun c65_30 => absurd c65_30 (by decide))
        refine z_run X bm_X11_mill_101_103 km_X11_mill_101_103 (lv' := [(7, .int 0), (5, .int (i_ + 1)), (6, .int (zb (decide ((lin f (if 60 < n then 60 else n) pp uh.toInt us.toInt uc.toInt).1 = true)))), (4, .int cc), (3, .int sc), (2, .int hc), (1, .int n), (0, .ref mo)]) (st' := [.int (zb (decide ((lin f (if 60 < n then 60 else n) pp uh.toInt us.toInt uc.toInt).1 = true)))]) rfl ?_
        refine zi_eq_zb X dm_X11_mill_103 (tgt := 121) (by decide) (fun c103_31 => ?_) (fun c103_31n => absurd c103_31n c79_29)
        refine z_run X bm_X11_mill_121_126 km_X11_mill_121_126 (lv' := [(8, .int 0), (7, .int 0), (5, .int (i_ + 1)), (6, .int (zb (decide ((lin f (if 60 < n then 60 else n) pp uh.toInt us.toInt uc.toInt).1 = true)))), (4, .int cc), (3, .int sc), (2, .int hc), (1, .int n), (0, .ref mo)]) (st' := [.int 0]) rfl ?_
        refine zi_eq X dm_X11_mill_126 (tgt := 133) (by decide) (a := 0) (show (0 : Int32).toInt = 0 from by decide) (fun _ => ?_) (fun c126_32 => absurd c126_32 (by decide))
        refine z_run X bm_X11_mill_133_135 km_X11_mill_133_135 (lv' := [(8, .int 0), (7, .int 0), (5, .int (i_ + 1)), (6, .int (zb (decide ((lin f (if 60 < n then 60 else n) pp uh.toInt us.toInt uc.toInt).1 = true)))), (4, .int cc), (3, .int sc), (2, .int hc), (1, .int n), (0, .ref mo)]) (st' := [.ref mo, .int (-1)]) rfl ?_
        refine z_get X fl_11_33 dm_X11_mill_135 0 rfl (v := .int q_9) rfl ?_
        refine z_run X bm_X11_mill_138_144 km_X11_mill_138_144 (lv' := [(9, .int ((-1) - q_9)), (8, .int 0), (7, .int 0), (5, .int (i_ + 1)), (6, .int (zb (decide ((lin f (if 60 < n then 60 else n) pp uh.toInt us.toInt uc.toInt).1 = true)))), (4, .int cc), (3, .int sc), (2, .int hc), (1, .int n), (0, .ref mo)]) (st' := [.int 60, .int n]) rfl ?_
        refine zc_le X dm_X11_mill_144 (tgt := 165) (by decide) (a := ni) (b := 60) hn (show (60 : Int32).toInt = 60 from by decide) (fun c144_33 => ?_) (fun c144_33 => ?_)
        ·
          refine z_run X bm_X11_mill_165_167 km_X11_mill_165_167 (lv' := [(9, .int ((-1) - q_9)), (8, .int 0), (7, .int 0), (5, .int (i_ + 1)), (6, .int (zb (decide ((lin f (if 60 < n then 60 else n) pp uh.toInt us.toInt uc.toInt).1 = true)))), (4, .int cc), (3, .int sc), (2, .int hc), (1, .int n), (0, .ref mo)]) (st' := [.int ((-1) - q_9)]) rfl ?_
          refine zi_ge X dm_X11_mill_167 (tgt := 189) (by decide) (a := ((-1) - q_9.toInt)) (tI_sub (show ((-1) : Int32).toInt = (-1) from by decide) rfl (by omega)) (fun c167_34n => absurd c167_34n (by omega)) (fun c167_34 => ?_)
          refine z_run X bm_X11_mill_170_172 km_X11_mill_170_172 (lv' := [(9, .int ((-1) - q_9)), (8, .int 0), (7, .int 0), (5, .int (i_ + 1)), (6, .int (zb (decide ((lin f (if 60 < n then 60 else n) pp uh.toInt us.toInt uc.toInt).1 = true)))), (4, .int cc), (3, .int sc), (2, .int hc), (1, .int n), (0, .ref mo)]) (st' := [.int hc, .ref mo]) rfl ?_
          refine z_put X fl_11_63 dm_X11_mill_172 0 rfl (ty := .int) (T := TX11) (N := 75) rfl (Or.inl rfl) (by decide +kernel) rfl (by rfl) (Nat.le_of_ble_eq_true rfl) (ws' := [(mo, ob 11 [.int 0, g_rows, g_row, .int hc, .ref r_planeOf, .ref r_holeX, .ref r_holeY, .ref r_room, .ref r_ounces, .ref r_deepOf, .int sc2_12, .ref r_factor, .ref r_otherOf, .ref r_isApart, g_apartX, g_apartY, .int cc2_13, .ref r_weight, .ref r_tape, .int 0, .int q_9, .int (if 60 < n then 60 else n), .int fi2_10, g_crossOf, g_trueX, g_trueY, g_thoughtX, g_thoughtY, g_poundHole, g_poundOunces, g_lead, g_trials, g_trialSpeed, g_isWhole, g_trialX, g_trialY, g_trialGive, g_trialLead, g_baseX, g_baseY, g_timesPull, g_trialBaseX, g_trialBaseY, g_trialTimes, g_pulls, g_pullMany, g_sizes, g_merged, g_nextHole, g_nextOunces, g_leftBehind, g_manUp, g_manLow, g_asked, g_lowOf, g_highOf, g_tried, g_found, g_askedMany, g_mostHoles, g_isFound, g_foundRest, g_foundOunces, g_question, g_questionSpeed, g_ounceRest, g_parts, g_filled, g_cogAt, g_cogBest, g_isOrdered, g_orderSize, g_isKept, g_kept, g_keptAt]), (r_tape, aI G 80 f), (r_planeOf, aI G 16 fp2_14), (r_holeX, aI G 16 fx2_15), (r_holeY, aI G 16 fy2_16), (r_room, aI G 16 fr2_17), (r_ounces, aI G 16 fu2_18), (r_deepOf, aI G 16 fd2_19), (r_factor, aI G 6 ff2_20), (r_otherOf, aI G 6 fo2_21), (r_isApart, aZ G 6 fa2_22), (r_weight, aI G 8 fw2_23)]) rfl ?_
          refine z_run X bm_X11_mill_175_177 km_X11_mill_175_177 (lv' := [(9, .int ((-1) - q_9)), (8, .int 0), (7, .int 0), (5, .int (i_ + 1)), (6, .int (zb (decide ((lin f (if 60 < n then 60 else n) pp uh.toInt us.toInt uc.toInt).1 = true)))), (4, .int cc), (3, .int sc), (2, .int hc), (1, .int n), (0, .ref mo)]) (st' := [.int sc, .ref mo]) rfl ?_
          refine z_put X fl_11_88 dm_X11_mill_177 0 rfl (ty := .int) (T := TX11) (N := 75) rfl (Or.inl rfl) (by decide +kernel) rfl (by rfl) (Nat.le_of_ble_eq_true rfl) (ws' := [(mo, ob 11 [.int 0, g_rows, g_row, .int hc, .ref r_planeOf, .ref r_holeX, .ref r_holeY, .ref r_room, .ref r_ounces, .ref r_deepOf, .int sc, .ref r_factor, .ref r_otherOf, .ref r_isApart, g_apartX, g_apartY, .int cc2_13, .ref r_weight, .ref r_tape, .int 0, .int q_9, .int (if 60 < n then 60 else n), .int fi2_10, g_crossOf, g_trueX, g_trueY, g_thoughtX, g_thoughtY, g_poundHole, g_poundOunces, g_lead, g_trials, g_trialSpeed, g_isWhole, g_trialX, g_trialY, g_trialGive, g_trialLead, g_baseX, g_baseY, g_timesPull, g_trialBaseX, g_trialBaseY, g_trialTimes, g_pulls, g_pullMany, g_sizes, g_merged, g_nextHole, g_nextOunces, g_leftBehind, g_manUp, g_manLow, g_asked, g_lowOf, g_highOf, g_tried, g_found, g_askedMany, g_mostHoles, g_isFound, g_foundRest, g_foundOunces, g_question, g_questionSpeed, g_ounceRest, g_parts, g_filled, g_cogAt, g_cogBest, g_isOrdered, g_orderSize, g_isKept, g_kept, g_keptAt]), (r_tape, aI G 80 f), (r_planeOf, aI G 16 fp2_14), (r_holeX, aI G 16 fx2_15), (r_holeY, aI G 16 fy2_16), (r_room, aI G 16 fr2_17), (r_ounces, aI G 16 fu2_18), (r_deepOf, aI G 16 fd2_19), (r_factor, aI G 6 ff2_20), (r_otherOf, aI G 6 fo2_21), (r_isApart, aZ G 6 fa2_22), (r_weight, aI G 8 fw2_23)]) rfl ?_
          refine z_run X bm_X11_mill_180_183 km_X11_mill_180_183 (lv' := [(9, .int ((-1) - q_9)), (8, .int 0), (7, .int 0), (5, .int (i_ + 1)), (6, .int (zb (decide ((lin f (if 60 < n then 60 else n) pp uh.toInt us.toInt uc.toInt).1 = true)))), (4, .int cc), (3, .int sc), (2, .int hc), (1, .int n), (0, .ref mo)]) (st' := [.int cc, .ref mo]) rfl ?_
          refine z_put X fl_11_101 dm_X11_mill_183 0 rfl (ty := .int) (T := TX11) (N := 75) rfl (Or.inl rfl) (by decide +kernel) rfl (by rfl) (Nat.le_of_ble_eq_true rfl) (ws' := [(mo, ob 11 [.int 0, g_rows, g_row, .int hc, .ref r_planeOf, .ref r_holeX, .ref r_holeY, .ref r_room, .ref r_ounces, .ref r_deepOf, .int sc, .ref r_factor, .ref r_otherOf, .ref r_isApart, g_apartX, g_apartY, .int cc, .ref r_weight, .ref r_tape, .int 0, .int q_9, .int (if 60 < n then 60 else n), .int fi2_10, g_crossOf, g_trueX, g_trueY, g_thoughtX, g_thoughtY, g_poundHole, g_poundOunces, g_lead, g_trials, g_trialSpeed, g_isWhole, g_trialX, g_trialY, g_trialGive, g_trialLead, g_baseX, g_baseY, g_timesPull, g_trialBaseX, g_trialBaseY, g_trialTimes, g_pulls, g_pullMany, g_sizes, g_merged, g_nextHole, g_nextOunces, g_leftBehind, g_manUp, g_manLow, g_asked, g_lowOf, g_highOf, g_tried, g_found, g_askedMany, g_mostHoles, g_isFound, g_foundRest, g_foundOunces, g_question, g_questionSpeed, g_ounceRest, g_parts, g_filled, g_cogAt, g_cogBest, g_isOrdered, g_orderSize, g_isKept, g_kept, g_keptAt]), (r_tape, aI G 80 f), (r_planeOf, aI G 16 fp2_14), (r_holeX, aI G 16 fx2_15), (r_holeY, aI G 16 fy2_16), (r_room, aI G 16 fr2_17), (r_ounces, aI G 16 fu2_18), (r_deepOf, aI G 16 fd2_19), (r_factor, aI G 6 ff2_20), (r_otherOf, aI G 6 fo2_21), (r_isApart, aZ G 6 fa2_22), (r_weight, aI G 8 fw2_23)]) rfl ?_
          refine z_run X bm_X11_mill_186_188 km_X11_mill_186_188 (lv' := [(9, .int ((-1) - q_9)), (8, .int 0), (7, .int 0), (5, .int (i_ + 1)), (6, .int (zb (decide ((lin f (if 60 < n then 60 else n) pp uh.toInt us.toInt uc.toInt).1 = true)))), (4, .int cc), (3, .int sc), (2, .int hc), (1, .int n), (0, .ref mo)]) (st' := [.int ((-1) - q_9)]) rfl ?_
          exact z_iret X rfl dm_X11_mill_188 (Nat.le_of_ble_eq_true rfl) (Nat.le_of_ble_eq_true rfl) ⟨(if 60 < n then 60 else n), q_9, fi2_10, hc, sc, cc, fp2_14, fx2_15, fy2_16, fr2_17, fu2_18, fd2_19, ff2_20, fo2_21, fa2_22, fw2_23, ((-1) - q_9), (CN.cast (CN.bad (hM.bad (by rw [hLm]; omega) c79_29) (by omega) (by rw [← f69_24])) (by have e := (show (((-1) - q_9)).toInt = ((-1) - q_9.toInt) from (tI_sub (show ((-1) : Int32).toInt = (-1) from by decide) rfl (by omega))); omega) hhc hsc hcc), (A7.cast (hA.off hb sl ⟨f69_27.1, f69_27.2.1, f69_27.2.2.1, f69_27.2.2.2.1, f69_27.2.2.2.2.2.2.1, f69_27.2.2.2.2.2.2.2.1, f69_27.2.2.2.2.2.2.2.2.2⟩).cut hhc hsc hcc), (AF.cast (AF.off hE4 hb.1 sl.1 f69_27.2.2.2.2.1).cut hhc), (AF.cast (AF.off hE5 hb.1 sl.1 f69_27.2.2.2.2.2.1).cut hhc), (AF.cast (AF.off hE8 hb.2.1 sl.2.1 f69_27.2.2.2.2.2.2.2.2.1).cut hsc), (by omega), rfl, rfl⟩
        ·
          refine z_run X bm_X11_mill_147_149 km_X11_mill_147_149 (lv' := [(9, .int ((-1) - q_9)), (8, .int 0), (7, .int 0), (5, .int (i_ + 1)), (6, .int (zb (decide ((lin f (if 60 < n then 60 else n) pp uh.toInt us.toInt uc.toInt).1 = true)))), (4, .int cc), (3, .int sc), (2, .int hc), (1, .int n), (0, .ref mo)]) (st' := [.int 0]) rfl ?_
          refine zi_ne X dm_X11_mill_149 (tgt := 161) (by decide) (a := 0) (show (0 : Int32).toInt = 0 from by decide) (fun c149_35 => absurd c149_35 (by decide)) (fun _ => ?_)
          refine z_run X bm_X11_mill_152_153 km_X11_mill_152_153 (lv' := [(9, .int ((-1) - q_9)), (8, .int 0), (7, .int 0), (5, .int (i_ + 1)), (6, .int (zb (decide ((lin f (if 60 < n then 60 else n) pp uh.toInt us.toInt uc.toInt).1 = true)))), (4, .int cc), (3, .int sc), (2, .int hc), (1, .int n), (0, .ref mo)]) (st' := [.ref mo]) rfl ?_
          refine z_get X fl_11_33 dm_X11_mill_153 0 rfl (v := .int q_9) rfl ?_
          refine z_run X bm_X11_mill_156_158 km_X11_mill_156_158 (lv' := [(9, .int ((-1) - q_9)), (8, .int 0), (7, .int 0), (5, .int (i_ + 1)), (6, .int (zb (decide ((lin f (if 60 < n then 60 else n) pp uh.toInt us.toInt uc.toInt).1 = true)))), (4, .int cc), (3, .int sc), (2, .int hc), (1, .int n), (0, .ref mo)]) (st' := [.int 60, .int q_9]) rfl ?_
          refine zc_lt X dm_X11_mill_158 (tgt := 165) (by decide) (a := q_9.toInt) (b := 60) rfl (show (60 : Int32).toInt = 60 from by decide) (fun c158_36 => ?_) (fun c158_36 => ?_)
          ·
            refine z_run X bm_X11_mill_165_167 km_X11_mill_165_167 (lv' := [(9, .int ((-1) - q_9)), (8, .int 0), (7, .int 0), (5, .int (i_ + 1)), (6, .int (zb (decide ((lin f (if 60 < n then 60 else n) pp uh.toInt us.toInt uc.toInt).1 = true)))), (4, .int cc), (3, .int sc), (2, .int hc), (1, .int n), (0, .ref mo)]) (st' := [.int ((-1) - q_9)]) rfl ?_
            refine zi_ge X dm_X11_mill_167 (tgt := 189) (by decide) (a := ((-1) - q_9.toInt)) (tI_sub (show ((-1) : Int32).toInt = (-1) from by decide) rfl (by omega)) (fun c167_37n => absurd c167_37n (by omega)) (fun c167_37 => ?_)
            refine z_run X bm_X11_mill_170_172 km_X11_mill_170_172 (lv' := [(9, .int ((-1) - q_9)), (8, .int 0), (7, .int 0), (5, .int (i_ + 1)), (6, .int (zb (decide ((lin f (if 60 < n then 60 else n) pp uh.toInt us.toInt uc.toInt).1 = true)))), (4, .int cc), (3, .int sc), (2, .int hc), (1, .int n), (0, .ref mo)]) (st' := [.int hc, .ref mo]) rfl ?_
            refine z_put X fl_11_63 dm_X11_mill_172 0 rfl (ty := .int) (T := TX11) (N := 75) rfl (Or.inl rfl) (by decide +kernel) rfl (by rfl) (Nat.le_of_ble_eq_true rfl) (ws' := [(mo, ob 11 [.int 0, g_rows, g_row, .int hc, .ref r_planeOf, .ref r_holeX, .ref r_holeY, .ref r_room, .ref r_ounces, .ref r_deepOf, .int sc2_12, .ref r_factor, .ref r_otherOf, .ref r_isApart, g_apartX, g_apartY, .int cc2_13, .ref r_weight, .ref r_tape, .int 0, .int q_9, .int (if 60 < n then 60 else n), .int fi2_10, g_crossOf, g_trueX, g_trueY, g_thoughtX, g_thoughtY, g_poundHole, g_poundOunces, g_lead, g_trials, g_trialSpeed, g_isWhole, g_trialX, g_trialY, g_trialGive, g_trialLead, g_baseX, g_baseY, g_timesPull, g_trialBaseX, g_trialBaseY, g_trialTimes, g_pulls, g_pullMany, g_sizes, g_merged, g_nextHole, g_nextOunces, g_leftBehind, g_manUp, g_manLow, g_asked, g_lowOf, g_highOf, g_tried, g_found, g_askedMany, g_mostHoles, g_isFound, g_foundRest, g_foundOunces, g_question, g_questionSpeed, g_ounceRest, g_parts, g_filled, g_cogAt, g_cogBest, g_isOrdered, g_orderSize, g_isKept, g_kept, g_keptAt]), (r_tape, aI G 80 f), (r_planeOf, aI G 16 fp2_14), (r_holeX, aI G 16 fx2_15), (r_holeY, aI G 16 fy2_16), (r_room, aI G 16 fr2_17), (r_ounces, aI G 16 fu2_18), (r_deepOf, aI G 16 fd2_19), (r_factor, aI G 6 ff2_20), (r_otherOf, aI G 6 fo2_21), (r_isApart, aZ G 6 fa2_22), (r_weight, aI G 8 fw2_23)]) rfl ?_
            refine z_run X bm_X11_mill_175_177 km_X11_mill_175_177 (lv' := [(9, .int ((-1) - q_9)), (8, .int 0), (7, .int 0), (5, .int (i_ + 1)), (6, .int (zb (decide ((lin f (if 60 < n then 60 else n) pp uh.toInt us.toInt uc.toInt).1 = true)))), (4, .int cc), (3, .int sc), (2, .int hc), (1, .int n), (0, .ref mo)]) (st' := [.int sc, .ref mo]) rfl ?_
            refine z_put X fl_11_88 dm_X11_mill_177 0 rfl (ty := .int) (T := TX11) (N := 75) rfl (Or.inl rfl) (by decide +kernel) rfl (by rfl) (Nat.le_of_ble_eq_true rfl) (ws' := [(mo, ob 11 [.int 0, g_rows, g_row, .int hc, .ref r_planeOf, .ref r_holeX, .ref r_holeY, .ref r_room, .ref r_ounces, .ref r_deepOf, .int sc, .ref r_factor, .ref r_otherOf, .ref r_isApart, g_apartX, g_apartY, .int cc2_13, .ref r_weight, .ref r_tape, .int 0, .int q_9, .int (if 60 < n then 60 else n), .int fi2_10, g_crossOf, g_trueX, g_trueY, g_thoughtX, g_thoughtY, g_poundHole, g_poundOunces, g_lead, g_trials, g_trialSpeed, g_isWhole, g_trialX, g_trialY, g_trialGive, g_trialLead, g_baseX, g_baseY, g_timesPull, g_trialBaseX, g_trialBaseY, g_trialTimes, g_pulls, g_pullMany, g_sizes, g_merged, g_nextHole, g_nextOunces, g_leftBehind, g_manUp, g_manLow, g_asked, g_lowOf, g_highOf, g_tried, g_found, g_askedMany, g_mostHoles, g_isFound, g_foundRest, g_foundOunces, g_question, g_questionSpeed, g_ounceRest, g_parts, g_filled, g_cogAt, g_cogBest, g_isOrdered, g_orderSize, g_isKept, g_kept, g_keptAt]), (r_tape, aI G 80 f), (r_planeOf, aI G 16 fp2_14), (r_holeX, aI G 16 fx2_15), (r_holeY, aI G 16 fy2_16), (r_room, aI G 16 fr2_17), (r_ounces, aI G 16 fu2_18), (r_deepOf, aI G 16 fd2_19), (r_factor, aI G 6 ff2_20), (r_otherOf, aI G 6 fo2_21), (r_isApart, aZ G 6 fa2_22), (r_weight, aI G 8 fw2_23)]) rfl ?_
            refine z_run X bm_X11_mill_180_183 km_X11_mill_180_183 (lv' := [(9, .int ((-1) - q_9)), (8, .int 0), (7, .int 0), (5, .int (i_ + 1)), (6, .int (zb (decide ((lin f (if 60 < n then 60 else n) pp uh.toInt us.toInt uc.toInt).1 = true)))), (4, .int cc), (3, .int sc), (2, .int hc), (1, .int n), (0, .ref mo)]) (st' := [.int cc, .ref mo]) rfl ?_
            refine z_put X fl_11_101 dm_X11_mill_183 0 rfl (ty := .int) (T := TX11) (N := 75) rfl (Or.inl rfl) (by decide +kernel) rfl (by rfl) (Nat.le_of_ble_eq_true rfl) (ws' := [(mo, ob 11 [.int 0, g_rows, g_row, .int hc, .ref r_planeOf, .ref r_holeX, .ref r_holeY, .ref r_room, .ref r_ounces, .ref r_deepOf, .int sc, .ref r_factor, .ref r_otherOf, .ref r_isApart, g_apartX, g_apartY, .int cc, .ref r_weight, .ref r_tape, .int 0, .int q_9, .int (if 60 < n then 60 else n), .int fi2_10, g_crossOf, g_trueX, g_trueY, g_thoughtX, g_thoughtY, g_poundHole, g_poundOunces, g_lead, g_trials, g_trialSpeed, g_isWhole, g_trialX, g_trialY, g_trialGive, g_trialLead, g_baseX, g_baseY, g_timesPull, g_trialBaseX, g_trialBaseY, g_trialTimes, g_pulls, g_pullMany, g_sizes, g_merged, g_nextHole, g_nextOunces, g_leftBehind, g_manUp, g_manLow, g_asked, g_lowOf, g_highOf, g_tried, g_found, g_askedMany, g_mostHoles, g_isFound, g_foundRest, g_foundOunces, g_question, g_questionSpeed, g_ounceRest, g_parts, g_filled, g_cogAt, g_cogBest, g_isOrdered, g_orderSize, g_isKept, g_kept, g_keptAt]), (r_tape, aI G 80 f), (r_planeOf, aI G 16 fp2_14), (r_holeX, aI G 16 fx2_15), (r_holeY, aI G 16 fy2_16), (r_room, aI G 16 fr2_17), (r_ounces, aI G 16 fu2_18), (r_deepOf, aI G 16 fd2_19), (r_factor, aI G 6 ff2_20), (r_otherOf, aI G 6 fo2_21), (r_isApart, aZ G 6 fa2_22), (r_weight, aI G 8 fw2_23)]) rfl ?_
            refine z_run X bm_X11_mill_186_188 km_X11_mill_186_188 (lv' := [(9, .int ((-1) - q_9)), (8, .int 0), (7, .int 0), (5, .int (i_ + 1)), (6, .int (zb (decide ((lin f (if 60 < n then 60 else n) pp uh.toInt us.toInt uc.toInt).1 = true)))), (4, .int cc), (3, .int sc), (2, .int hc), (1, .int n), (0, .ref mo)]) (st' := [.int ((-1) - q_9)]) rfl ?_
            exact z_iret X rfl dm_X11_mill_188 (Nat.le_of_ble_eq_true rfl) (Nat.le_of_ble_eq_true rfl) ⟨(if 60 < n then 60 else n), q_9, fi2_10, hc, sc, cc, fp2_14, fx2_15, fy2_16, fr2_17, fu2_18, fd2_19, ff2_20, fo2_21, fa2_22, fw2_23, ((-1) - q_9), (CN.cast (CN.bad (hM.bad (by rw [hLm]; omega) c79_29) (by omega) (by rw [← f69_24])) (by have e := (show (((-1) - q_9)).toInt = ((-1) - q_9.toInt) from (tI_sub (show ((-1) : Int32).toInt = (-1) from by decide) rfl (by omega))); omega) hhc hsc hcc), (A7.cast (hA.off hb sl ⟨f69_27.1, f69_27.2.1, f69_27.2.2.1, f69_27.2.2.2.1, f69_27.2.2.2.2.2.2.1, f69_27.2.2.2.2.2.2.2.1, f69_27.2.2.2.2.2.2.2.2.2⟩).cut hhc hsc hcc), (AF.cast (AF.off hE4 hb.1 sl.1 f69_27.2.2.2.2.1).cut hhc), (AF.cast (AF.off hE5 hb.1 sl.1 f69_27.2.2.2.2.2.1).cut hhc), (AF.cast (AF.off hE8 hb.2.1 sl.2.1 f69_27.2.2.2.2.2.2.2.2.1).cut hsc), (by omega), rfl, rfl⟩
          ·
            refine z_run X bm_X11_mill_161_167 km_X11_mill_161_167 (lv' := [(9, .int (-61)), (8, .int 0), (7, .int 0), (5, .int (i_ + 1)), (6, .int (zb (decide ((lin f (if 60 < n then 60 else n) pp uh.toInt us.toInt uc.toInt).1 = true)))), (4, .int cc), (3, .int sc), (2, .int hc), (1, .int n), (0, .ref mo)]) (st' := [.int (-61)]) rfl ?_
            refine zi_ge X dm_X11_mill_167 (tgt := 189) (by decide) (a := (-61)) (show ((-61) : Int32).toInt = (-61) from by decide) (fun c167_38 => absurd c167_38 (by decide)) (fun _ => ?_)
            refine z_run X bm_X11_mill_170_172 km_X11_mill_170_172 (lv' := [(9, .int (-61)), (8, .int 0), (7, .int 0), (5, .int (i_ + 1)), (6, .int (zb (decide ((lin f (if 60 < n then 60 else n) pp uh.toInt us.toInt uc.toInt).1 = true)))), (4, .int cc), (3, .int sc), (2, .int hc), (1, .int n), (0, .ref mo)]) (st' := [.int hc, .ref mo]) rfl ?_
            refine z_put X fl_11_63 dm_X11_mill_172 0 rfl (ty := .int) (T := TX11) (N := 75) rfl (Or.inl rfl) (by decide +kernel) rfl (by rfl) (Nat.le_of_ble_eq_true rfl) (ws' := [(mo, ob 11 [.int 0, g_rows, g_row, .int hc, .ref r_planeOf, .ref r_holeX, .ref r_holeY, .ref r_room, .ref r_ounces, .ref r_deepOf, .int sc2_12, .ref r_factor, .ref r_otherOf, .ref r_isApart, g_apartX, g_apartY, .int cc2_13, .ref r_weight, .ref r_tape, .int 0, .int q_9, .int (if 60 < n then 60 else n), .int fi2_10, g_crossOf, g_trueX, g_trueY, g_thoughtX, g_thoughtY, g_poundHole, g_poundOunces, g_lead, g_trials, g_trialSpeed, g_isWhole, g_trialX, g_trialY, g_trialGive, g_trialLead, g_baseX, g_baseY, g_timesPull, g_trialBaseX, g_trialBaseY, g_trialTimes, g_pulls, g_pullMany, g_sizes, g_merged, g_nextHole, g_nextOunces, g_leftBehind, g_manUp, g_manLow, g_asked, g_lowOf, g_highOf, g_tried, g_found, g_askedMany, g_mostHoles, g_isFound, g_foundRest, g_foundOunces, g_question, g_questionSpeed, g_ounceRest, g_parts, g_filled, g_cogAt, g_cogBest, g_isOrdered, g_orderSize, g_isKept, g_kept, g_keptAt]), (r_tape, aI G 80 f), (r_planeOf, aI G 16 fp2_14), (r_holeX, aI G 16 fx2_15), (r_holeY, aI G 16 fy2_16), (r_room, aI G 16 fr2_17), (r_ounces, aI G 16 fu2_18), (r_deepOf, aI G 16 fd2_19), (r_factor, aI G 6 ff2_20), (r_otherOf, aI G 6 fo2_21), (r_isApart, aZ G 6 fa2_22), (r_weight, aI G 8 fw2_23)]) rfl ?_
            refine z_run X bm_X11_mill_175_177 km_X11_mill_175_177 (lv' := [(9, .int (-61)), (8, .int 0), (7, .int 0), (5, .int (i_ + 1)), (6, .int (zb (decide ((lin f (if 60 < n then 60 else n) pp uh.toInt us.toInt uc.toInt).1 = true)))), (4, .int cc), (3, .int sc), (2, .int hc), (1, .int n), (0, .ref mo)]) (st' := [.int sc, .ref mo]) rfl ?_
            refine z_put X fl_11_88 dm_X11_mill_177 0 rfl (ty := .int) (T := TX11) (N := 75) rfl (Or.inl rfl) (by decide +kernel) rfl (by rfl) (Nat.le_of_ble_eq_true rfl) (ws' := [(mo, ob 11 [.int 0, g_rows, g_row, .int hc, .ref r_planeOf, .ref r_holeX, .ref r_holeY, .ref r_room, .ref r_ounces, .ref r_deepOf, .int sc, .ref r_factor, .ref r_otherOf, .ref r_isApart, g_apartX, g_apartY, .int cc2_13, .ref r_weight, .ref r_tape, .int 0, .int q_9, .int (if 60 < n then 60 else n), .int fi2_10, g_crossOf, g_trueX, g_trueY, g_thoughtX, g_thoughtY, g_poundHole, g_poundOunces, g_lead, g_trials, g_trialSpeed, g_isWhole, g_trialX, g_trialY, g_trialGive, g_trialLead, g_baseX, g_baseY, g_timesPull, g_trialBaseX, g_trialBaseY, g_trialTimes, g_pulls, g_pullMany, g_sizes, g_merged, g_nextHole, g_nextOunces, g_leftBehind, g_manUp, g_manLow, g_asked, g_lowOf, g_highOf, g_tried, g_found, g_askedMany, g_mostHoles, g_isFound, g_foundRest, g_foundOunces, g_question, g_questionSpeed, g_ounceRest, g_parts, g_filled, g_cogAt, g_cogBest, g_isOrdered, g_orderSize, g_isKept, g_kept, g_keptAt]), (r_tape, aI G 80 f), (r_planeOf, aI G 16 fp2_14), (r_holeX, aI G 16 fx2_15), (r_holeY, aI G 16 fy2_16), (r_room, aI G 16 fr2_17), (r_ounces, aI G 16 fu2_18), (r_deepOf, aI G 16 fd2_19), (r_factor, aI G 6 ff2_20), (r_otherOf, aI G 6 fo2_21), (r_isApart, aZ G 6 fa2_22), (r_weight, aI G 8 fw2_23)]) rfl ?_
            refine z_run X bm_X11_mill_180_183 km_X11_mill_180_183 (lv' := [(9, .int (-61)), (8, .int 0), (7, .int 0), (5, .int (i_ + 1)), (6, .int (zb (decide ((lin f (if 60 < n then 60 else n) pp uh.toInt us.toInt uc.toInt).1 = true)))), (4, .int cc), (3, .int sc), (2, .int hc), (1, .int n), (0, .ref mo)]) (st' := [.int cc, .ref mo]) rfl ?_
            refine z_put X fl_11_101 dm_X11_mill_183 0 rfl (ty := .int) (T := TX11) (N := 75) rfl (Or.inl rfl) (by decide +kernel) rfl (by rfl) (Nat.le_of_ble_eq_true rfl) (ws' := [(mo, ob 11 [.int 0, g_rows, g_row, .int hc, .ref r_planeOf, .ref r_holeX, .ref r_holeY, .ref r_room, .ref r_ounces, .ref r_deepOf, .int sc, .ref r_factor, .ref r_otherOf, .ref r_isApart, g_apartX, g_apartY, .int cc, .ref r_weight, .ref r_tape, .int 0, .int q_9, .int (if 60 < n then 60 else n), .int fi2_10, g_crossOf, g_trueX, g_trueY, g_thoughtX, g_thoughtY, g_poundHole, g_poundOunces, g_lead, g_trials, g_trialSpeed, g_isWhole, g_trialX, g_trialY, g_trialGive, g_trialLead, g_baseX, g_baseY, g_timesPull, g_trialBaseX, g_trialBaseY, g_trialTimes, g_pulls, g_pullMany, g_sizes, g_merged, g_nextHole, g_nextOunces, g_leftBehind, g_manUp, g_manLow, g_asked, g_lowOf, g_highOf, g_tried, g_found, g_askedMany, g_mostHoles, g_isFound, g_foundRest, g_foundOunces, g_question, g_questionSpeed, g_ounceRest, g_parts, g_filled, g_cogAt, g_cogBest, g_isOrdered, g_orderSize, g_isKept, g_kept, g_keptAt]), (r_tape, aI G 80 f), (r_planeOf, aI G 16 fp2_14), (r_holeX, aI G 16 fx2_15), (r_holeY, aI G 16 fy2_16), (r_room, aI G 16 fr2_17), (r_ounces, aI G 16 fu2_18), (r_deepOf, aI G 16 fd2_19), (r_factor, aI G 6 ff2_20), (r_otherOf, aI G 6 fo2_21), (r_isApart, aZ G 6 fa2_22), (r_weight, aI G 8 fw2_23)]) rfl ?_
            refine z_run X bm_X11_mill_186_188 km_X11_mill_186_188 (lv' := [(9, .int (-61)), (8, .int 0), (7, .int 0), (5, .int (i_ + 1)), (6, .int (zb (decide ((lin f (if 60 < n then 60 else n) pp uh.toInt us.toInt uc.toInt).1 = true)))), (4, .int cc), (3, .int sc), (2, .int hc), (1, .int n), (0, .ref mo)]) (st' := [.int (-61)]) rfl ?_
            exact z_iret X rfl dm_X11_mill_188 (Nat.le_of_ble_eq_true rfl) (Nat.le_of_ble_eq_true rfl) ⟨(if 60 < n then 60 else n), q_9, fi2_10, hc, sc, cc, fp2_14, fx2_15, fy2_16, fr2_17, fu2_18, fd2_19, ff2_20, fo2_21, fa2_22, fw2_23, (-61), (CN.cast (CN.bad (hM.bad (by rw [hLm]; omega) c79_29) (by omega) (by rw [← f69_24])) (by have e := (show (((-61) : Int32)).toInt = (-61) from (show ((-61) : Int32).toInt = (-61) from by decide)); omega) hhc hsc hcc), (A7.cast (hA.off hb sl ⟨f69_27.1, f69_27.2.1, f69_27.2.2.1, f69_27.2.2.2.1, f69_27.2.2.2.2.2.2.1, f69_27.2.2.2.2.2.2.2.1, f69_27.2.2.2.2.2.2.2.2.2⟩).cut hhc hsc hcc), (AF.cast (AF.off hE4 hb.1 sl.1 f69_27.2.2.2.2.1).cut hhc), (AF.cast (AF.off hE5 hb.1 sl.1 f69_27.2.2.2.2.2.1).cut hhc), (AF.cast (AF.off hE8 hb.2.1 sl.2.1 f69_27.2.2.2.2.2.2.2.2.1).cut hsc), (by omega), rfl, rfl⟩
      ·
        have hb : hci ≤ uh.toInt ∧ sci ≤ us.toInt ∧ cci ≤ uc.toInt := ⟨hM.2.2.2.1.1, hM.2.2.2.2.1.1, hM.2.2.2.2.2.1.1⟩
        have hj := hM.2.1
        have sl : (uh.toNatClampNeg : Int) = uh.toInt ∧ (us.toNatClampNeg : Int) = us.toInt ∧ (uc.toNatClampNeg : Int) = uc.toInt := ⟨slot_of1 rfl hu.1.1, slot_of1 rfl hu.2.1.1, slot_of1 rfl hu.2.2.1⟩
        have k1 := f69_26 c79_29
        have rm := lin_room c79_29 (by omega) (by omega) (by omega)
        have hlt := lin_lt c79_29
        refine z_run X bm_X11_mill_82_85 km_X11_mill_82_85 (lv' := [(5, .int (i_ + 1)), (6, .int (zb (decide ((lin f (if 60 < n then 60 else n) pp uh.toInt us.toInt uc.toInt).1 = true)))), (7, .int 1), (4, .int cc), (3, .int sc), (2, .int hc), (1, .int n), (0, .ref mo)]) (st' := [.int 59, .ref mo]) rfl ?_
        refine z_callV X k_11_51 (cm_X11_takes l G mo 0 g_rows g_row hc2_11 r_planeOf r_holeX r_holeY r_room r_ounces r_deepOf sc2_12 r_factor r_otherOf r_isApart g_apartX g_apartY cc2_13 r_weight r_tape 0 q_9 (if 60 < n then 60 else n) fi2_10 g_crossOf g_trueX g_trueY g_thoughtX g_thoughtY g_poundHole g_poundOunces g_lead g_trials g_trialSpeed g_isWhole g_trialX g_trialY g_trialGive g_trialLead g_baseX g_baseY g_timesPull g_trialBaseX g_trialBaseY g_trialTimes g_pulls g_pullMany g_sizes g_merged g_nextHole g_nextOunces g_leftBehind g_manUp g_manLow g_asked g_lowOf g_highOf g_tried g_found g_askedMany g_mostHoles g_isFound g_foundRest g_foundOunces g_question g_questionSpeed g_ounceRest g_parts g_filled g_cogAt g_cogBest g_isOrdered g_orderSize g_isKept g_kept g_keptAt f 59 q_9.toInt ((min ni 60)) 59 rfl (tI_min hn (show (60 : Int32).toInt = 60 from by decide)) (show (59 : Int32).toInt = 59 from by decide) (by omega) (by omega)) dm_X11_mill_85 0 rfl rfl rfl ⟨Nat.le_of_ble_eq_true rfl, Nat.le_of_ble_eq_true rfl⟩ ⟨Nat.le_of_ble_eq_true rfl, Nat.le_of_ble_eq_true rfl⟩ rfl (rest := []) (As := [.int 59]) rfl (Nat.le_of_ble_eq_true rfl) [0, 1] [2, 3, 4, 5, 6, 7, 8, 9, 10, 11] rfl (by decide) (wr := [(r_planeOf, aI G 16 fp2_14), (r_holeX, aI G 16 fx2_15), (r_holeY, aI G 16 fy2_16), (r_room, aI G 16 fr2_17), (r_ounces, aI G 16 fu2_18), (r_deepOf, aI G 16 fd2_19), (r_factor, aI G 6 ff2_20), (r_otherOf, aI G 6 fo2_21), (r_isApart, aZ G 6 fa2_22), (r_weight, aI G 8 fw2_23)]) rfl (by decide) (by decide) ?_
        rintro _ _ ⟨q_39, f85_40, f85_41, rfl, rfl⟩
        refine Z.at (pc' := 88) (st' := [.int (zb (decide ((tk f (if 60 < n then 60 else n) q_9 59).1 = true)))]) (ws' := [(r_planeOf, aI G 16 fp2_14), (r_holeX, aI G 16 fx2_15), (r_holeY, aI G 16 fy2_16), (r_room, aI G 16 fr2_17), (r_ounces, aI G 16 fu2_18), (r_deepOf, aI G 16 fd2_19), (r_factor, aI G 6 ff2_20), (r_otherOf, aI G 6 fo2_21), (r_isApart, aZ G 6 fa2_22), (r_weight, aI G 8 fw2_23), (mo, ob 11 [.int 0, g_rows, g_row, .int hc2_11, .ref r_planeOf, .ref r_holeX, .ref r_holeY, .ref r_room, .ref r_ounces, .ref r_deepOf, .int sc2_12, .ref r_factor, .ref r_otherOf, .ref r_isApart, g_apartX, g_apartY, .int cc2_13, .ref r_weight, .ref r_tape, .int 0, .int q_39, .int (if 60 < n then 60 else n), .int fi2_10, g_crossOf, g_trueX, g_trueY, g_thoughtX, g_thoughtY, g_poundHole, g_poundOunces, g_lead, g_trials, g_trialSpeed, g_isWhole, g_trialX, g_trialY, g_trialGive, g_trialLead, g_baseX, g_baseY, g_timesPull, g_trialBaseX, g_trialBaseY, g_trialTimes, g_pulls, g_pullMany, g_sizes, g_merged, g_nextHole, g_nextOunces, g_leftBehind, g_manUp, g_manLow, g_asked, g_lowOf, g_highOf, g_tried, g_found, g_askedMany, g_mostHoles, g_isFound, g_foundRest, g_foundOunces, g_question, g_questionSpeed, g_ounceRest, g_parts, g_filled, g_cogAt, g_cogBest, g_isOrdered, g_orderSize, g_isKept, g_kept, g_keptAt]), (r_tape, aI G 80 f)]) (kc' := 0) (ks' := 0) rfl rfl rfl rfl rfl ?_
        refine zi_eq_zb X dm_X11_mill_88 (tgt := 95) (by decide) (fun c88_42 => ?_) (fun c88_42 => ?_)
        ·
          refine z_run X bm_X11_mill_95_98 km_X11_mill_95_98 (lv' := [(7, .int 0), (5, .int (i_ + 1)), (6, .int (zb (decide ((lin f (if 60 < n then 60 else n) pp uh.toInt us.toInt uc.toInt).1 = true)))), (4, .int cc), (3, .int sc), (2, .int hc), (1, .int n), (0, .ref mo)]) (st' := []) rfl ?_
          refine z_goto X dm_X11_mill_98 (tgt := 63) (by decide) ?_
          refine z_run X bm_X11_mill_63_65 km_X11_mill_63_65 (lv' := [(7, .int 0), (5, .int (i_ + 1)), (6, .int (zb (decide ((lin f (if 60 < n then 60 else n) pp uh.toInt us.toInt uc.toInt).1 = true)))), (4, .int cc), (3, .int sc), (2, .int hc), (1, .int n), (0, .ref mo)]) (st' := [.int 0]) rfl ?_
          refine zi_eq X dm_X11_mill_65 (tgt := 101) (by decide) (a := 0) (show (0 : Int32).toInt = 0 from by decide) (fun _ => ?_) (fun c65_43 => absurd c65_43 (by decide))
          refine z_run X bm_X11_mill_101_103 km_X11_mill_101_103 (lv' := [(7, .int 0), (5, .int (i_ + 1)), (6, .int (zb (decide ((lin f (if 60 < n then 60 else n) pp uh.toInt us.toInt uc.toInt).1 = true)))), (4, .int cc), (3, .int sc), (2, .int hc), (1, .int n), (0, .ref mo)]) (st' := [.int (zb (decide ((lin f (if 60 < n then 60 else n) pp uh.toInt us.toInt uc.toInt).1 = true)))]) rfl ?_
          refine zi_eq_zb X dm_X11_mill_103 (tgt := 121) (by decide) (fun c103_44n => absurd c103_44n (not_not_intro c79_29)) (fun c103_44 => ?_)
          refine z_run X bm_X11_mill_106_107 km_X11_mill_106_107 (lv' := [(7, .int 0), (5, .int (i_ + 1)), (6, .int (zb (decide ((lin f (if 60 < n then 60 else n) pp uh.toInt us.toInt uc.toInt).1 = true)))), (4, .int cc), (3, .int sc), (2, .int hc), (1, .int n), (0, .ref mo)]) (st' := [.ref mo]) rfl ?_
          refine z_get X fl_11_33 dm_X11_mill_107 10 rfl (v := .int q_39) rfl ?_
          refine z_run X bm_X11_mill_110_111 km_X11_mill_110_111 (lv' := [(7, .int 0), (5, .int (i_ + 1)), (6, .int (zb (decide ((lin f (if 60 < n then 60 else n) pp uh.toInt us.toInt uc.toInt).1 = true)))), (4, .int cc), (3, .int sc), (2, .int hc), (1, .int n), (0, .ref mo)]) (st' := [.ref mo, .int q_39]) rfl ?_
          refine z_get X fl_11_36 dm_X11_mill_111 10 rfl (v := .int (if 60 < n then 60 else n)) rfl ?_
          refine zc_ne X dm_X11_mill_114 (tgt := 121) (by decide) (a := q_39.toInt) (b := (min ni 60)) rfl (tI_min hn (show (60 : Int32).toInt = 60 from by decide)) (fun c114_45 => ?_) (fun c114_45 => ?_)
          ·
            refine z_run X bm_X11_mill_121_126 km_X11_mill_121_126 (lv' := [(8, .int 0), (7, .int 0), (5, .int (i_ + 1)), (6, .int (zb (decide ((lin f (if 60 < n then 60 else n) pp uh.toInt us.toInt uc.toInt).1 = true)))), (4, .int cc), (3, .int sc), (2, .int hc), (1, .int n), (0, .ref mo)]) (st' := [.int 0]) rfl ?_
            refine zi_eq X dm_X11_mill_126 (tgt := 133) (by decide) (a := 0) (show (0 : Int32).toInt = 0 from by decide) (fun _ => ?_) (fun c126_46 => absurd c126_46 (by decide))
            refine z_run X bm_X11_mill_133_135 km_X11_mill_133_135 (lv' := [(8, .int 0), (7, .int 0), (5, .int (i_ + 1)), (6, .int (zb (decide ((lin f (if 60 < n then 60 else n) pp uh.toInt us.toInt uc.toInt).1 = true)))), (4, .int cc), (3, .int sc), (2, .int hc), (1, .int n), (0, .ref mo)]) (st' := [.ref mo, .int (-1)]) rfl ?_
            refine z_get X fl_11_33 dm_X11_mill_135 10 rfl (v := .int q_39) rfl ?_
            refine z_run X bm_X11_mill_138_144 km_X11_mill_138_144 (lv' := [(9, .int ((-1) - q_39)), (8, .int 0), (7, .int 0), (5, .int (i_ + 1)), (6, .int (zb (decide ((lin f (if 60 < n then 60 else n) pp uh.toInt us.toInt uc.toInt).1 = true)))), (4, .int cc), (3, .int sc), (2, .int hc), (1, .int n), (0, .ref mo)]) (st' := [.int 60, .int n]) rfl ?_
            refine zc_le X dm_X11_mill_144 (tgt := 165) (by decide) (a := ni) (b := 60) hn (show (60 : Int32).toInt = 60 from by decide) (fun c144_47 => ?_) (fun c144_47 => ?_)
            ·
              refine z_run X bm_X11_mill_165_167 km_X11_mill_165_167 (lv' := [(9, .int ((-1) - q_39)), (8, .int 0), (7, .int 0), (5, .int (i_ + 1)), (6, .int (zb (decide ((lin f (if 60 < n then 60 else n) pp uh.toInt us.toInt uc.toInt).1 = true)))), (4, .int cc), (3, .int sc), (2, .int hc), (1, .int n), (0, .ref mo)]) (st' := [.int ((-1) - q_39)]) rfl ?_
              refine zi_ge X dm_X11_mill_167 (tgt := 189) (by decide) (a := ((-1) - q_39.toInt)) (tI_sub (show ((-1) : Int32).toInt = (-1) from by decide) rfl (by omega)) (fun c167_48n => absurd c167_48n (by omega)) (fun c167_48 => ?_)
              refine z_run X bm_X11_mill_170_172 km_X11_mill_170_172 (lv' := [(9, .int ((-1) - q_39)), (8, .int 0), (7, .int 0), (5, .int (i_ + 1)), (6, .int (zb (decide ((lin f (if 60 < n then 60 else n) pp uh.toInt us.toInt uc.toInt).1 = true)))), (4, .int cc), (3, .int sc), (2, .int hc), (1, .int n), (0, .ref mo)]) (st' := [.int hc, .ref mo]) rfl ?_
              refine z_put X fl_11_63 dm_X11_mill_172 10 rfl (ty := .int) (T := TX11) (N := 75) rfl (Or.inl rfl) (by decide +kernel) rfl (by rfl) (Nat.le_of_ble_eq_true rfl) (ws' := [(r_planeOf, aI G 16 fp2_14), (r_holeX, aI G 16 fx2_15), (r_holeY, aI G 16 fy2_16), (r_room, aI G 16 fr2_17), (r_ounces, aI G 16 fu2_18), (r_deepOf, aI G 16 fd2_19), (r_factor, aI G 6 ff2_20), (r_otherOf, aI G 6 fo2_21), (r_isApart, aZ G 6 fa2_22), (r_weight, aI G 8 fw2_23), (mo, ob 11 [.int 0, g_rows, g_row, .int hc, .ref r_planeOf, .ref r_holeX, .ref r_holeY, .ref r_room, .ref r_ounces, .ref r_deepOf, .int sc2_12, .ref r_factor, .ref r_otherOf, .ref r_isApart, g_apartX, g_apartY, .int cc2_13, .ref r_weight, .ref r_tape, .int 0, .int q_39, .int (if 60 < n then 60 else n), .int fi2_10, g_crossOf, g_trueX, g_trueY, g_thoughtX, g_thoughtY, g_poundHole, g_poundOunces, g_lead, g_trials, g_trialSpeed, g_isWhole, g_trialX, g_trialY, g_trialGive, g_trialLead, g_baseX, g_baseY, g_timesPull, g_trialBaseX, g_trialBaseY, g_trialTimes, g_pulls, g_pullMany, g_sizes, g_merged, g_nextHole, g_nextOunces, g_leftBehind, g_manUp, g_manLow, g_asked, g_lowOf, g_highOf, g_tried, g_found, g_askedMany, g_mostHoles, g_isFound, g_foundRest, g_foundOunces, g_question, g_questionSpeed, g_ounceRest, g_parts, g_filled, g_cogAt, g_cogBest, g_isOrdered, g_orderSize, g_isKept, g_kept, g_keptAt]), (r_tape, aI G 80 f)]) rfl ?_
              refine z_run X bm_X11_mill_175_177 km_X11_mill_175_177 (lv' := [(9, .int ((-1) - q_39)), (8, .int 0), (7, .int 0), (5, .int (i_ + 1)), (6, .int (zb (decide ((lin f (if 60 < n then 60 else n) pp uh.toInt us.toInt uc.toInt).1 = true)))), (4, .int cc), (3, .int sc), (2, .int hc), (1, .int n), (0, .ref mo)]) (st' := [.int sc, .ref mo]) rfl ?_
              refine z_put X fl_11_88 dm_X11_mill_177 10 rfl (ty := .int) (T := TX11) (N := 75) rfl (Or.inl rfl) (by decide +kernel) rfl (by rfl) (Nat.le_of_ble_eq_true rfl) (ws' := [(r_planeOf, aI G 16 fp2_14), (r_holeX, aI G 16 fx2_15), (r_holeY, aI G 16 fy2_16), (r_room, aI G 16 fr2_17), (r_ounces, aI G 16 fu2_18), (r_deepOf, aI G 16 fd2_19), (r_factor, aI G 6 ff2_20), (r_otherOf, aI G 6 fo2_21), (r_isApart, aZ G 6 fa2_22), (r_weight, aI G 8 fw2_23), (mo, ob 11 [.int 0, g_rows, g_row, .int hc, .ref r_planeOf, .ref r_holeX, .ref r_holeY, .ref r_room, .ref r_ounces, .ref r_deepOf, .int sc, .ref r_factor, .ref r_otherOf, .ref r_isApart, g_apartX, g_apartY, .int cc2_13, .ref r_weight, .ref r_tape, .int 0, .int q_39, .int (if 60 < n then 60 else n), .int fi2_10, g_crossOf, g_trueX, g_trueY, g_thoughtX, g_thoughtY, g_poundHole, g_poundOunces, g_lead, g_trials, g_trialSpeed, g_isWhole, g_trialX, g_trialY, g_trialGive, g_trialLead, g_baseX, g_baseY, g_timesPull, g_trialBaseX, g_trialBaseY, g_trialTimes, g_pulls, g_pullMany, g_sizes, g_merged, g_nextHole, g_nextOunces, g_leftBehind, g_manUp, g_manLow, g_asked, g_lowOf, g_highOf, g_tried, g_found, g_askedMany, g_mostHoles, g_isFound, g_foundRest, g_foundOunces, g_question, g_questionSpeed, g_ounceRest, g_parts, g_filled, g_cogAt, g_cogBest, g_isOrdered, g_orderSize, g_isKept, g_kept, g_keptAt]), (r_tape, aI G 80 f)]) rfl ?_
              refine z_run X bm_X11_mill_180_183 km_X11_mill_180_183 (lv' := [(9, .int ((-1) - q_39)), (8, .int 0), (7, .int 0), (5, .int (i_ + 1)), (6, .int (zb (decide ((lin f (if 60 < n then 60 else n) pp uh.toInt us.toInt uc.toInt).1 = true)))), (4, .int cc), (3, .int sc), (2, .int hc), (1, .int n), (0, .ref mo)]) (st' := [.int cc, .ref mo]) rfl ?_
              refine z_put X fl_11_101 dm_X11_mill_183 10 rfl (ty := .int) (T := TX11) (N := 75) rfl (Or.inl rfl) (by decide +kernel) rfl (by rfl) (Nat.le_of_ble_eq_true rfl) (ws' := [(r_planeOf, aI G 16 fp2_14), (r_holeX, aI G 16 fx2_15), (r_holeY, aI G 16 fy2_16), (r_room, aI G 16 fr2_17), (r_ounces, aI G 16 fu2_18), (r_deepOf, aI G 16 fd2_19), (r_factor, aI G 6 ff2_20), (r_otherOf, aI G 6 fo2_21), (r_isApart, aZ G 6 fa2_22), (r_weight, aI G 8 fw2_23), (mo, ob 11 [.int 0, g_rows, g_row, .int hc, .ref r_planeOf, .ref r_holeX, .ref r_holeY, .ref r_room, .ref r_ounces, .ref r_deepOf, .int sc, .ref r_factor, .ref r_otherOf, .ref r_isApart, g_apartX, g_apartY, .int cc, .ref r_weight, .ref r_tape, .int 0, .int q_39, .int (if 60 < n then 60 else n), .int fi2_10, g_crossOf, g_trueX, g_trueY, g_thoughtX, g_thoughtY, g_poundHole, g_poundOunces, g_lead, g_trials, g_trialSpeed, g_isWhole, g_trialX, g_trialY, g_trialGive, g_trialLead, g_baseX, g_baseY, g_timesPull, g_trialBaseX, g_trialBaseY, g_trialTimes, g_pulls, g_pullMany, g_sizes, g_merged, g_nextHole, g_nextOunces, g_leftBehind, g_manUp, g_manLow, g_asked, g_lowOf, g_highOf, g_tried, g_found, g_askedMany, g_mostHoles, g_isFound, g_foundRest, g_foundOunces, g_question, g_questionSpeed, g_ounceRest, g_parts, g_filled, g_cogAt, g_cogBest, g_isOrdered, g_orderSize, g_isKept, g_kept, g_keptAt]), (r_tape, aI G 80 f)]) rfl ?_
              refine z_run X bm_X11_mill_186_188 km_X11_mill_186_188 (lv' := [(9, .int ((-1) - q_39)), (8, .int 0), (7, .int 0), (5, .int (i_ + 1)), (6, .int (zb (decide ((lin f (if 60 < n then 60 else n) pp uh.toInt us.toInt uc.toInt).1 = true)))), (4, .int cc), (3, .int sc), (2, .int hc), (1, .int n), (0, .ref mo)]) (st' := [.int ((-1) - q_39)]) rfl ?_
              refine Z.sub (lv' := []) [] rfl [10, 11, 0, 1, 2, 3, 4, 5, 6, 7, 8, 9] (ws' := [(mo, ob 11 [.int 0, g_rows, g_row, .int hc, .ref r_planeOf, .ref r_holeX, .ref r_holeY, .ref r_room, .ref r_ounces, .ref r_deepOf, .int sc, .ref r_factor, .ref r_otherOf, .ref r_isApart, g_apartX, g_apartY, .int cc, .ref r_weight, .ref r_tape, .int 0, .int q_39, .int (if 60 < n then 60 else n), .int fi2_10, g_crossOf, g_trueX, g_trueY, g_thoughtX, g_thoughtY, g_poundHole, g_poundOunces, g_lead, g_trials, g_trialSpeed, g_isWhole, g_trialX, g_trialY, g_trialGive, g_trialLead, g_baseX, g_baseY, g_timesPull, g_trialBaseX, g_trialBaseY, g_trialTimes, g_pulls, g_pullMany, g_sizes, g_merged, g_nextHole, g_nextOunces, g_leftBehind, g_manUp, g_manLow, g_asked, g_lowOf, g_highOf, g_tried, g_found, g_askedMany, g_mostHoles, g_isFound, g_foundRest, g_foundOunces, g_question, g_questionSpeed, g_ounceRest, g_parts, g_filled, g_cogAt, g_cogBest, g_isOrdered, g_orderSize, g_isKept, g_kept, g_keptAt]), (r_tape, aI G 80 f), (r_planeOf, aI G 16 fp2_14), (r_holeX, aI G 16 fx2_15), (r_holeY, aI G 16 fy2_16), (r_room, aI G 16 fr2_17), (r_ounces, aI G 16 fu2_18), (r_deepOf, aI G 16 fd2_19), (r_factor, aI G 6 ff2_20), (r_otherOf, aI G 6 fo2_21), (r_isApart, aZ G 6 fa2_22), (r_weight, aI G 8 fw2_23)]) rfl (by decide) ?_
              exact z_iret X rfl dm_X11_mill_188 (Nat.le_of_ble_eq_true rfl) (Nat.le_of_ble_eq_true rfl) ⟨(if 60 < n then 60 else n), q_39, fi2_10, hc, sc, cc, fp2_14, fx2_15, fy2_16, fr2_17, fu2_18, fd2_19, ff2_20, fo2_21, fa2_22, fw2_23, ((-1) - q_39), (CN.cast (CN.far (hM.last (by rw [hLm]; omega) c79_29 (by rw [← f69_24]; exact c88_42)) (by omega) (by rw [← f69_24]; have t := congrArg Int32.toInt (f85_40.trans (tk_no c88_42)); omega) (by rw [← f69_24])) ((show (((-1) - q_39)).toInt = ((-1) - q_39.toInt) from (tI_sub (show ((-1) : Int32).toInt = (-1) from by decide) rfl (by omega))).trans (congrArg (fun z : Int32 => (-1 : Int) - z.toInt) (f85_40.trans (tk_no c88_42)))) hhc hsc hcc), (A7.cast (hA.off hb sl ⟨f69_27.1, f69_27.2.1, f69_27.2.2.1, f69_27.2.2.2.1, f69_27.2.2.2.2.2.2.1, f69_27.2.2.2.2.2.2.2.1, f69_27.2.2.2.2.2.2.2.2.2⟩).cut hhc hsc hcc), (AF.cast (AF.off hE4 hb.1 sl.1 f69_27.2.2.2.2.1).cut hhc), (AF.cast (AF.off hE5 hb.1 sl.1 f69_27.2.2.2.2.2.1).cut hhc), (AF.cast (AF.off hE8 hb.2.1 sl.2.1 f69_27.2.2.2.2.2.2.2.2.1).cut hsc), (by omega), rfl, rfl⟩
            ·
              refine z_run X bm_X11_mill_147_149 km_X11_mill_147_149 (lv' := [(9, .int ((-1) - q_39)), (8, .int 0), (7, .int 0), (5, .int (i_ + 1)), (6, .int (zb (decide ((lin f (if 60 < n then 60 else n) pp uh.toInt us.toInt uc.toInt).1 = true)))), (4, .int cc), (3, .int sc), (2, .int hc), (1, .int n), (0, .ref mo)]) (st' := [.int 0]) rfl ?_
              refine zi_ne X dm_X11_mill_149 (tgt := 161) (by decide) (a := 0) (show (0 : Int32).toInt = 0 from by decide) (fun c149_49 => absurd c149_49 (by decide)) (fun _ => ?_)
              refine z_run X bm_X11_mill_152_153 km_X11_mill_152_153 (lv' := [(9, .int ((-1) - q_39)), (8, .int 0), (7, .int 0), (5, .int (i_ + 1)), (6, .int (zb (decide ((lin f (if 60 < n then 60 else n) pp uh.toInt us.toInt uc.toInt).1 = true)))), (4, .int cc), (3, .int sc), (2, .int hc), (1, .int n), (0, .ref mo)]) (st' := [.ref mo]) rfl ?_
              refine z_get X fl_11_33 dm_X11_mill_153 10 rfl (v := .int q_39) rfl ?_
              refine z_run X bm_X11_mill_156_158 km_X11_mill_156_158 (lv' := [(9, .int ((-1) - q_39)), (8, .int 0), (7, .int 0), (5, .int (i_ + 1)), (6, .int (zb (decide ((lin f (if 60 < n then 60 else n) pp uh.toInt us.toInt uc.toInt).1 = true)))), (4, .int cc), (3, .int sc), (2, .int hc), (1, .int n), (0, .ref mo)]) (st' := [.int 60, .int q_39]) rfl ?_
              refine zc_lt X dm_X11_mill_158 (tgt := 165) (by decide) (a := q_39.toInt) (b := 60) rfl (show (60 : Int32).toInt = 60 from by decide) (fun c158_50 => ?_) (fun c158_50 => ?_)
              ·
                refine z_run X bm_X11_mill_165_167 km_X11_mill_165_167 (lv' := [(9, .int ((-1) - q_39)), (8, .int 0), (7, .int 0), (5, .int (i_ + 1)), (6, .int (zb (decide ((lin f (if 60 < n then 60 else n) pp uh.toInt us.toInt uc.toInt).1 = true)))), (4, .int cc), (3, .int sc), (2, .int hc), (1, .int n), (0, .ref mo)]) (st' := [.int ((-1) - q_39)]) rfl ?_
                refine zi_ge X dm_X11_mill_167 (tgt := 189) (by decide) (a := ((-1) - q_39.toInt)) (tI_sub (show ((-1) : Int32).toInt = (-1) from by decide) rfl (by omega)) (fun c167_51n => absurd c167_51n (by omega)) (fun c167_51 => ?_)
                refine z_run X bm_X11_mill_170_172 km_X11_mill_170_172 (lv' := [(9, .int ((-1) - q_39)), (8, .int 0), (7, .int 0), (5, .int (i_ + 1)), (6, .int (zb (decide ((lin f (if 60 < n then 60 else n) pp uh.toInt us.toInt uc.toInt).1 = true)))), (4, .int cc), (3, .int sc), (2, .int hc), (1, .int n), (0, .ref mo)]) (st' := [.int hc, .ref mo]) rfl ?_
                refine z_put X fl_11_63 dm_X11_mill_172 10 rfl (ty := .int) (T := TX11) (N := 75) rfl (Or.inl rfl) (by decide +kernel) rfl (by rfl) (Nat.le_of_ble_eq_true rfl) (ws' := [(r_planeOf, aI G 16 fp2_14), (r_holeX, aI G 16 fx2_15), (r_holeY, aI G 16 fy2_16), (r_room, aI G 16 fr2_17), (r_ounces, aI G 16 fu2_18), (r_deepOf, aI G 16 fd2_19), (r_factor, aI G 6 ff2_20), (r_otherOf, aI G 6 fo2_21), (r_isApart, aZ G 6 fa2_22), (r_weight, aI G 8 fw2_23), (mo, ob 11 [.int 0, g_rows, g_row, .int hc, .ref r_planeOf, .ref r_holeX, .ref r_holeY, .ref r_room, .ref r_ounces, .ref r_deepOf, .int sc2_12, .ref r_factor, .ref r_otherOf, .ref r_isApart, g_apartX, g_apartY, .int cc2_13, .ref r_weight, .ref r_tape, .int 0, .int q_39, .int (if 60 < n then 60 else n), .int fi2_10, g_crossOf, g_trueX, g_trueY, g_thoughtX, g_thoughtY, g_poundHole, g_poundOunces, g_lead, g_trials, g_trialSpeed, g_isWhole, g_trialX, g_trialY, g_trialGive, g_trialLead, g_baseX, g_baseY, g_timesPull, g_trialBaseX, g_trialBaseY, g_trialTimes, g_pulls, g_pullMany, g_sizes, g_merged, g_nextHole, g_nextOunces, g_leftBehind, g_manUp, g_manLow, g_asked, g_lowOf, g_highOf, g_tried, g_found, g_askedMany, g_mostHoles, g_isFound, g_foundRest, g_foundOunces, g_question, g_questionSpeed, g_ounceRest, g_parts, g_filled, g_cogAt, g_cogBest, g_isOrdered, g_orderSize, g_isKept, g_kept, g_keptAt]), (r_tape, aI G 80 f)]) rfl ?_
                refine z_run X bm_X11_mill_175_177 km_X11_mill_175_177 (lv' := [(9, .int ((-1) - q_39)), (8, .int 0), (7, .int 0), (5, .int (i_ + 1)), (6, .int (zb (decide ((lin f (if 60 < n then 60 else n) pp uh.toInt us.toInt uc.toInt).1 = true)))), (4, .int cc), (3, .int sc), (2, .int hc), (1, .int n), (0, .ref mo)]) (st' := [.int sc, .ref mo]) rfl ?_
                refine z_put X fl_11_88 dm_X11_mill_177 10 rfl (ty := .int) (T := TX11) (N := 75) rfl (Or.inl rfl) (by decide +kernel) rfl (by rfl) (Nat.le_of_ble_eq_true rfl) (ws' := [(r_planeOf, aI G 16 fp2_14), (r_holeX, aI G 16 fx2_15), (r_holeY, aI G 16 fy2_16), (r_room, aI G 16 fr2_17), (r_ounces, aI G 16 fu2_18), (r_deepOf, aI G 16 fd2_19), (r_factor, aI G 6 ff2_20), (r_otherOf, aI G 6 fo2_21), (r_isApart, aZ G 6 fa2_22), (r_weight, aI G 8 fw2_23), (mo, ob 11 [.int 0, g_rows, g_row, .int hc, .ref r_planeOf, .ref r_holeX, .ref r_holeY, .ref r_room, .ref r_ounces, .ref r_deepOf, .int sc, .ref r_factor, .ref r_otherOf, .ref r_isApart, g_apartX, g_apartY, .int cc2_13, .ref r_weight, .ref r_tape, .int 0, .int q_39, .int (if 60 < n then 60 else n), .int fi2_10, g_crossOf, g_trueX, g_trueY, g_thoughtX, g_thoughtY, g_poundHole, g_poundOunces, g_lead, g_trials, g_trialSpeed, g_isWhole, g_trialX, g_trialY, g_trialGive, g_trialLead, g_baseX, g_baseY, g_timesPull, g_trialBaseX, g_trialBaseY, g_trialTimes, g_pulls, g_pullMany, g_sizes, g_merged, g_nextHole, g_nextOunces, g_leftBehind, g_manUp, g_manLow, g_asked, g_lowOf, g_highOf, g_tried, g_found, g_askedMany, g_mostHoles, g_isFound, g_foundRest, g_foundOunces, g_question, g_questionSpeed, g_ounceRest, g_parts, g_filled, g_cogAt, g_cogBest, g_isOrdered, g_orderSize, g_isKept, g_kept, g_keptAt]), (r_tape, aI G 80 f)]) rfl ?_
                refine z_run X bm_X11_mill_180_183 km_X11_mill_180_183 (lv' := [(9, .int ((-1) - q_39)), (8, .int 0), (7, .int 0), (5, .int (i_ + 1)), (6, .int (zb (decide ((lin f (if 60 < n then 60 else n) pp uh.toInt us.toInt uc.toInt).1 = true)))), (4, .int cc), (3, .int sc), (2, .int hc), (1, .int n), (0, .ref mo)]) (st' := [.int cc, .ref mo]) rfl ?_
                refine z_put X fl_11_101 dm_X11_mill_183 10 rfl (ty := .int) (T := TX11) (N := 75) rfl (Or.inl rfl) (by decide +kernel) rfl (by rfl) (Nat.le_of_ble_eq_true rfl) (ws' := [(r_planeOf, aI G 16 fp2_14), (r_holeX, aI G 16 fx2_15), (r_holeY, aI G 16 fy2_16), (r_room, aI G 16 fr2_17), (r_ounces, aI G 16 fu2_18), (r_deepOf, aI G 16 fd2_19), (r_factor, aI G 6 ff2_20), (r_otherOf, aI G 6 fo2_21), (r_isApart, aZ G 6 fa2_22), (r_weight, aI G 8 fw2_23), (mo, ob 11 [.int 0, g_rows, g_row, .int hc, .ref r_planeOf, .ref r_holeX, .ref r_holeY, .ref r_room, .ref r_ounces, .ref r_deepOf, .int sc, .ref r_factor, .ref r_otherOf, .ref r_isApart, g_apartX, g_apartY, .int cc, .ref r_weight, .ref r_tape, .int 0, .int q_39, .int (if 60 < n then 60 else n), .int fi2_10, g_crossOf, g_trueX, g_trueY, g_thoughtX, g_thoughtY, g_poundHole, g_poundOunces, g_lead, g_trials, g_trialSpeed, g_isWhole, g_trialX, g_trialY, g_trialGive, g_trialLead, g_baseX, g_baseY, g_timesPull, g_trialBaseX, g_trialBaseY, g_trialTimes, g_pulls, g_pullMany, g_sizes, g_merged, g_nextHole, g_nextOunces, g_leftBehind, g_manUp, g_manLow, g_asked, g_lowOf, g_highOf, g_tried, g_found, g_askedMany, g_mostHoles, g_isFound, g_foundRest, g_foundOunces, g_question, g_questionSpeed, g_ounceRest, g_parts, g_filled, g_cogAt, g_cogBest, g_isOrdered, g_orderSize, g_isKept, g_kept, g_keptAt]), (r_tape, aI G 80 f)]) rfl ?_
                refine z_run X bm_X11_mill_186_188 km_X11_mill_186_188 (lv' := [(9, .int ((-1) - q_39)), (8, .int 0), (7, .int 0), (5, .int (i_ + 1)), (6, .int (zb (decide ((lin f (if 60 < n then 60 else n) pp uh.toInt us.toInt uc.toInt).1 = true)))), (4, .int cc), (3, .int sc), (2, .int hc), (1, .int n), (0, .ref mo)]) (st' := [.int ((-1) - q_39)]) rfl ?_
                refine Z.sub (lv' := []) [] rfl [10, 11, 0, 1, 2, 3, 4, 5, 6, 7, 8, 9] (ws' := [(mo, ob 11 [.int 0, g_rows, g_row, .int hc, .ref r_planeOf, .ref r_holeX, .ref r_holeY, .ref r_room, .ref r_ounces, .ref r_deepOf, .int sc, .ref r_factor, .ref r_otherOf, .ref r_isApart, g_apartX, g_apartY, .int cc, .ref r_weight, .ref r_tape, .int 0, .int q_39, .int (if 60 < n then 60 else n), .int fi2_10, g_crossOf, g_trueX, g_trueY, g_thoughtX, g_thoughtY, g_poundHole, g_poundOunces, g_lead, g_trials, g_trialSpeed, g_isWhole, g_trialX, g_trialY, g_trialGive, g_trialLead, g_baseX, g_baseY, g_timesPull, g_trialBaseX, g_trialBaseY, g_trialTimes, g_pulls, g_pullMany, g_sizes, g_merged, g_nextHole, g_nextOunces, g_leftBehind, g_manUp, g_manLow, g_asked, g_lowOf, g_highOf, g_tried, g_found, g_askedMany, g_mostHoles, g_isFound, g_foundRest, g_foundOunces, g_question, g_questionSpeed, g_ounceRest, g_parts, g_filled, g_cogAt, g_cogBest, g_isOrdered, g_orderSize, g_isKept, g_kept, g_keptAt]), (r_tape, aI G 80 f), (r_planeOf, aI G 16 fp2_14), (r_holeX, aI G 16 fx2_15), (r_holeY, aI G 16 fy2_16), (r_room, aI G 16 fr2_17), (r_ounces, aI G 16 fu2_18), (r_deepOf, aI G 16 fd2_19), (r_factor, aI G 6 ff2_20), (r_otherOf, aI G 6 fo2_21), (r_isApart, aZ G 6 fa2_22), (r_weight, aI G 8 fw2_23)]) rfl (by decide) ?_
                exact z_iret X rfl dm_X11_mill_188 (Nat.le_of_ble_eq_true rfl) (Nat.le_of_ble_eq_true rfl) ⟨(if 60 < n then 60 else n), q_39, fi2_10, hc, sc, cc, fp2_14, fx2_15, fy2_16, fr2_17, fu2_18, fd2_19, ff2_20, fo2_21, fa2_22, fw2_23, ((-1) - q_39), (CN.cast (CN.far (hM.last (by rw [hLm]; omega) c79_29 (by rw [← f69_24]; exact c88_42)) (by omega) (by rw [← f69_24]; have t := congrArg Int32.toInt (f85_40.trans (tk_no c88_42)); omega) (by rw [← f69_24])) ((show (((-1) - q_39)).toInt = ((-1) - q_39.toInt) from (tI_sub (show ((-1) : Int32).toInt = (-1) from by decide) rfl (by omega))).trans (congrArg (fun z : Int32 => (-1 : Int) - z.toInt) (f85_40.trans (tk_no c88_42)))) hhc hsc hcc), (A7.cast (hA.off hb sl ⟨f69_27.1, f69_27.2.1, f69_27.2.2.1, f69_27.2.2.2.1, f69_27.2.2.2.2.2.2.1, f69_27.2.2.2.2.2.2.2.1, f69_27.2.2.2.2.2.2.2.2.2⟩).cut hhc hsc hcc), (AF.cast (AF.off hE4 hb.1 sl.1 f69_27.2.2.2.2.1).cut hhc), (AF.cast (AF.off hE5 hb.1 sl.1 f69_27.2.2.2.2.2.1).cut hhc), (AF.cast (AF.off hE8 hb.2.1 sl.2.1 f69_27.2.2.2.2.2.2.2.2.1).cut hsc), (by omega), rfl, rfl⟩
              ·
                refine z_run X bm_X11_mill_161_167 km_X11_mill_161_167 (lv' := [(9, .int (-61)), (8, .int 0), (7, .int 0), (5, .int (i_ + 1)), (6, .int (zb (decide ((lin f (if 60 < n then 60 else n) pp uh.toInt us.toInt uc.toInt).1 = true)))), (4, .int cc), (3, .int sc), (2, .int hc), (1, .int n), (0, .ref mo)]) (st' := [.int (-61)]) rfl ?_
                refine zi_ge X dm_X11_mill_167 (tgt := 189) (by decide) (a := (-61)) (show ((-61) : Int32).toInt = (-61) from by decide) (fun c167_52 => absurd c167_52 (by decide)) (fun _ => ?_)
                refine z_run X bm_X11_mill_170_172 km_X11_mill_170_172 (lv' := [(9, .int (-61)), (8, .int 0), (7, .int 0), (5, .int (i_ + 1)), (6, .int (zb (decide ((lin f (if 60 < n then 60 else n) pp uh.toInt us.toInt uc.toInt).1 = true)))), (4, .int cc), (3, .int sc), (2, .int hc), (1, .int n), (0, .ref mo)]) (st' := [.int hc, .ref mo]) rfl ?_
                refine z_put X fl_11_63 dm_X11_mill_172 10 rfl (ty := .int) (T := TX11) (N := 75) rfl (Or.inl rfl) (by decide +kernel) rfl (by rfl) (Nat.le_of_ble_eq_true rfl) (ws' := [(r_planeOf, aI G 16 fp2_14), (r_holeX, aI G 16 fx2_15), (r_holeY, aI G 16 fy2_16), (r_room, aI G 16 fr2_17), (r_ounces, aI G 16 fu2_18), (r_deepOf, aI G 16 fd2_19), (r_factor, aI G 6 ff2_20), (r_otherOf, aI G 6 fo2_21), (r_isApart, aZ G 6 fa2_22), (r_weight, aI G 8 fw2_23), (mo, ob 11 [.int 0, g_rows, g_row, .int hc, .ref r_planeOf, .ref r_holeX, .ref r_holeY, .ref r_room, .ref r_ounces, .ref r_deepOf, .int sc2_12, .ref r_factor, .ref r_otherOf, .ref r_isApart, g_apartX, g_apartY, .int cc2_13, .ref r_weight, .ref r_tape, .int 0, .int q_39, .int (if 60 < n then 60 else n), .int fi2_10, g_crossOf, g_trueX, g_trueY, g_thoughtX, g_thoughtY, g_poundHole, g_poundOunces, g_lead, g_trials, g_trialSpeed, g_isWhole, g_trialX, g_trialY, g_trialGive, g_trialLead, g_baseX, g_baseY, g_timesPull, g_trialBaseX, g_trialBaseY, g_trialTimes, g_pulls, g_pullMany, g_sizes, g_merged, g_nextHole, g_nextOunces, g_leftBehind, g_manUp, g_manLow, g_asked, g_lowOf, g_highOf, g_tried, g_found, g_askedMany, g_mostHoles, g_isFound, g_foundRest, g_foundOunces, g_question, g_questionSpeed, g_ounceRest, g_parts, g_filled, g_cogAt, g_cogBest, g_isOrdered, g_orderSize, g_isKept, g_kept, g_keptAt]), (r_tape, aI G 80 f)]) rfl ?_
                refine z_run X bm_X11_mill_175_177 km_X11_mill_175_177 (lv' := [(9, .int (-61)), (8, .int 0), (7, .int 0), (5, .int (i_ + 1)), (6, .int (zb (decide ((lin f (if 60 < n then 60 else n) pp uh.toInt us.toInt uc.toInt).1 = true)))), (4, .int cc), (3, .int sc), (2, .int hc), (1, .int n), (0, .ref mo)]) (st' := [.int sc, .ref mo]) rfl ?_
                refine z_put X fl_11_88 dm_X11_mill_177 10 rfl (ty := .int) (T := TX11) (N := 75) rfl (Or.inl rfl) (by decide +kernel) rfl (by rfl) (Nat.le_of_ble_eq_true rfl) (ws' := [(r_planeOf, aI G 16 fp2_14), (r_holeX, aI G 16 fx2_15), (r_holeY, aI G 16 fy2_16), (r_room, aI G 16 fr2_17), (r_ounces, aI G 16 fu2_18), (r_deepOf, aI G 16 fd2_19), (r_factor, aI G 6 ff2_20), (r_otherOf, aI G 6 fo2_21), (r_isApart, aZ G 6 fa2_22), (r_weight, aI G 8 fw2_23), (mo, ob 11 [.int 0, g_rows, g_row, .int hc, .ref r_planeOf, .ref r_holeX, .ref r_holeY, .ref r_room, .ref r_ounces, .ref r_deepOf, .int sc, .ref r_factor, .ref r_otherOf, .ref r_isApart, g_apartX, g_apartY, .int cc2_13, .ref r_weight, .ref r_tape, .int 0, .int q_39, .int (if 60 < n then 60 else n), .int fi2_10, g_crossOf, g_trueX, g_trueY, g_thoughtX, g_thoughtY, g_poundHole, g_poundOunces, g_lead, g_trials, g_trialSpeed, g_isWhole, g_trialX, g_trialY, g_trialGive, g_trialLead, g_baseX, g_baseY, g_timesPull, g_trialBaseX, g_trialBaseY, g_trialTimes, g_pulls, g_pullMany, g_sizes, g_merged, g_nextHole, g_nextOunces, g_leftBehind, g_manUp, g_manLow, g_asked, g_lowOf, g_highOf, g_tried, g_found, g_askedMany, g_mostHoles, g_isFound, g_foundRest, g_foundOunces, g_question, g_questionSpeed, g_ounceRest, g_parts, g_filled, g_cogAt, g_cogBest, g_isOrdered, g_orderSize, g_isKept, g_kept, g_keptAt]), (r_tape, aI G 80 f)]) rfl ?_
                refine z_run X bm_X11_mill_180_183 km_X11_mill_180_183 (lv' := [(9, .int (-61)), (8, .int 0), (7, .int 0), (5, .int (i_ + 1)), (6, .int (zb (decide ((lin f (if 60 < n then 60 else n) pp uh.toInt us.toInt uc.toInt).1 = true)))), (4, .int cc), (3, .int sc), (2, .int hc), (1, .int n), (0, .ref mo)]) (st' := [.int cc, .ref mo]) rfl ?_
                refine z_put X fl_11_101 dm_X11_mill_183 10 rfl (ty := .int) (T := TX11) (N := 75) rfl (Or.inl rfl) (by decide +kernel) rfl (by rfl) (Nat.le_of_ble_eq_true rfl) (ws' := [(r_planeOf, aI G 16 fp2_14), (r_holeX, aI G 16 fx2_15), (r_holeY, aI G 16 fy2_16), (r_room, aI G 16 fr2_17), (r_ounces, aI G 16 fu2_18), (r_deepOf, aI G 16 fd2_19), (r_factor, aI G 6 ff2_20), (r_otherOf, aI G 6 fo2_21), (r_isApart, aZ G 6 fa2_22), (r_weight, aI G 8 fw2_23), (mo, ob 11 [.int 0, g_rows, g_row, .int hc, .ref r_planeOf, .ref r_holeX, .ref r_holeY, .ref r_room, .ref r_ounces, .ref r_deepOf, .int sc, .ref r_factor, .ref r_otherOf, .ref r_isApart, g_apartX, g_apartY, .int cc, .ref r_weight, .ref r_tape, .int 0, .int q_39, .int (if 60 < n then 60 else n), .int fi2_10, g_crossOf, g_trueX, g_trueY, g_thoughtX, g_thoughtY, g_poundHole, g_poundOunces, g_lead, g_trials, g_trialSpeed, g_isWhole, g_trialX, g_trialY, g_trialGive, g_trialLead, g_baseX, g_baseY, g_timesPull, g_trialBaseX, g_trialBaseY, g_trialTimes, g_pulls, g_pullMany, g_sizes, g_merged, g_nextHole, g_nextOunces, g_leftBehind, g_manUp, g_manLow, g_asked, g_lowOf, g_highOf, g_tried, g_found, g_askedMany, g_mostHoles, g_isFound, g_foundRest, g_foundOunces, g_question, g_questionSpeed, g_ounceRest, g_parts, g_filled, g_cogAt, g_cogBest, g_isOrdered, g_orderSize, g_isKept, g_kept, g_keptAt]), (r_tape, aI G 80 f)]) rfl ?_
                refine z_run X bm_X11_mill_186_188 km_X11_mill_186_188 (lv' := [(9, .int (-61)), (8, .int 0), (7, .int 0), (5, .int (i_ + 1)), (6, .int (zb (decide ((lin f (if 60 < n then 60 else n) pp uh.toInt us.toInt uc.toInt).1 = true)))), (4, .int cc), (3, .int sc), (2, .int hc), (1, .int n), (0, .ref mo)]) (st' := [.int (-61)]) rfl ?_
                refine Z.sub (lv' := []) [] rfl [10, 11, 0, 1, 2, 3, 4, 5, 6, 7, 8, 9] (ws' := [(mo, ob 11 [.int 0, g_rows, g_row, .int hc, .ref r_planeOf, .ref r_holeX, .ref r_holeY, .ref r_room, .ref r_ounces, .ref r_deepOf, .int sc, .ref r_factor, .ref r_otherOf, .ref r_isApart, g_apartX, g_apartY, .int cc, .ref r_weight, .ref r_tape, .int 0, .int q_39, .int (if 60 < n then 60 else n), .int fi2_10, g_crossOf, g_trueX, g_trueY, g_thoughtX, g_thoughtY, g_poundHole, g_poundOunces, g_lead, g_trials, g_trialSpeed, g_isWhole, g_trialX, g_trialY, g_trialGive, g_trialLead, g_baseX, g_baseY, g_timesPull, g_trialBaseX, g_trialBaseY, g_trialTimes, g_pulls, g_pullMany, g_sizes, g_merged, g_nextHole, g_nextOunces, g_leftBehind, g_manUp, g_manLow, g_asked, g_lowOf, g_highOf, g_tried, g_found, g_askedMany, g_mostHoles, g_isFound, g_foundRest, g_foundOunces, g_question, g_questionSpeed, g_ounceRest, g_parts, g_filled, g_cogAt, g_cogBest, g_isOrdered, g_orderSize, g_isKept, g_kept, g_keptAt]), (r_tape, aI G 80 f), (r_planeOf, aI G 16 fp2_14), (r_holeX, aI G 16 fx2_15), (r_holeY, aI G 16 fy2_16), (r_room, aI G 16 fr2_17), (r_ounces, aI G 16 fu2_18), (r_deepOf, aI G 16 fd2_19), (r_factor, aI G 6 ff2_20), (r_otherOf, aI G 6 fo2_21), (r_isApart, aZ G 6 fa2_22), (r_weight, aI G 8 fw2_23)]) rfl (by decide) ?_
                exact z_iret X rfl dm_X11_mill_188 (Nat.le_of_ble_eq_true rfl) (Nat.le_of_ble_eq_true rfl) ⟨(if 60 < n then 60 else n), q_39, fi2_10, hc, sc, cc, fp2_14, fx2_15, fy2_16, fr2_17, fu2_18, fd2_19, ff2_20, fo2_21, fa2_22, fw2_23, (-61), (CN.cast (CN.far (hM.last (by rw [hLm]; omega) c79_29 (by rw [← f69_24]; exact c88_42)) (by omega) (by rw [← f69_24]; have t := congrArg Int32.toInt (f85_40.trans (tk_no c88_42)); omega) (by rw [← f69_24])) (by have e := (show (((-61) : Int32)).toInt = (-61) from (show ((-61) : Int32).toInt = (-61) from by decide)); have t := congrArg Int32.toInt (f85_40.trans (tk_no c88_42)); omega) hhc hsc hcc), (A7.cast (hA.off hb sl ⟨f69_27.1, f69_27.2.1, f69_27.2.2.1, f69_27.2.2.2.1, f69_27.2.2.2.2.2.2.1, f69_27.2.2.2.2.2.2.2.1, f69_27.2.2.2.2.2.2.2.2.2⟩).cut hhc hsc hcc), (AF.cast (AF.off hE4 hb.1 sl.1 f69_27.2.2.2.2.1).cut hhc), (AF.cast (AF.off hE5 hb.1 sl.1 f69_27.2.2.2.2.2.1).cut hhc), (AF.cast (AF.off hE8 hb.2.1 sl.2.1 f69_27.2.2.2.2.2.2.2.2.1).cut hsc), (by omega), rfl, rfl⟩
          ·
            refine z_run X bm_X11_mill_117_118 km_X11_mill_117_118 (lv' := [(7, .int 0), (5, .int (i_ + 1)), (6, .int (zb (decide ((lin f (if 60 < n then 60 else n) pp uh.toInt us.toInt uc.toInt).1 = true)))), (4, .int cc), (3, .int sc), (2, .int hc), (1, .int n), (0, .ref mo)]) (st' := [.int 1]) rfl ?_
            refine z_goto X dm_X11_mill_118 (tgt := 122) (by decide) ?_
            refine z_run X bm_X11_mill_122_126 km_X11_mill_122_126 (lv' := [(8, .int 1), (7, .int 0), (5, .int (i_ + 1)), (6, .int (zb (decide ((lin f (if 60 < n then 60 else n) pp uh.toInt us.toInt uc.toInt).1 = true)))), (4, .int cc), (3, .int sc), (2, .int hc), (1, .int n), (0, .ref mo)]) (st' := [.int 1]) rfl ?_
            refine zi_eq X dm_X11_mill_126 (tgt := 133) (by decide) (a := 1) (show (1 : Int32).toInt = 1 from by decide) (fun c126_53 => absurd c126_53 (by decide)) (fun _ => ?_)
            refine z_run X bm_X11_mill_129_130 km_X11_mill_129_130 (lv' := [(8, .int 1), (7, .int 0), (5, .int (i_ + 1)), (6, .int (zb (decide ((lin f (if 60 < n then 60 else n) pp uh.toInt us.toInt uc.toInt).1 = true)))), (4, .int cc), (3, .int sc), (2, .int hc), (1, .int n), (0, .ref mo)]) (st' := [.int 0]) rfl ?_
            refine z_goto X dm_X11_mill_130 (tgt := 139) (by decide) ?_
            refine z_run X bm_X11_mill_139_144 km_X11_mill_139_144 (lv' := [(9, .int 0), (8, .int 1), (7, .int 0), (5, .int (i_ + 1)), (6, .int (zb (decide ((lin f (if 60 < n then 60 else n) pp uh.toInt us.toInt uc.toInt).1 = true)))), (4, .int cc), (3, .int sc), (2, .int hc), (1, .int n), (0, .ref mo)]) (st' := [.int 60, .int n]) rfl ?_
            refine zc_le X dm_X11_mill_144 (tgt := 165) (by decide) (a := ni) (b := 60) hn (show (60 : Int32).toInt = 60 from by decide) (fun c144_54 => ?_) (fun c144_54 => ?_)
            ·
              refine z_run X bm_X11_mill_165_167 km_X11_mill_165_167 (lv' := [(9, .int 0), (8, .int 1), (7, .int 0), (5, .int (i_ + 1)), (6, .int (zb (decide ((lin f (if 60 < n then 60 else n) pp uh.toInt us.toInt uc.toInt).1 = true)))), (4, .int cc), (3, .int sc), (2, .int hc), (1, .int n), (0, .ref mo)]) (st' := [.int 0]) rfl ?_
              refine zi_ge X dm_X11_mill_167 (tgt := 189) (by decide) (a := 0) (show (0 : Int32).toInt = 0 from by decide) (fun _ => ?_) (fun c167_55 => absurd c167_55 (by decide))
              refine z_run X bm_X11_mill_189_191 km_X11_mill_189_191 (lv' := [(9, .int 0), (8, .int 1), (7, .int 0), (5, .int (i_ + 1)), (6, .int (zb (decide ((lin f (if 60 < n then 60 else n) pp uh.toInt us.toInt uc.toInt).1 = true)))), (4, .int cc), (3, .int sc), (2, .int hc), (1, .int n), (0, .ref mo)]) (st' := [.int (i_ + 1)]) rfl ?_
              refine Z.sub (lv' := []) [] rfl [10, 11, 0, 1, 2, 3, 4, 5, 6, 7, 8, 9] (ws' := [(mo, ob 11 [.int 0, g_rows, g_row, .int hc2_11, .ref r_planeOf, .ref r_holeX, .ref r_holeY, .ref r_room, .ref r_ounces, .ref r_deepOf, .int sc2_12, .ref r_factor, .ref r_otherOf, .ref r_isApart, g_apartX, g_apartY, .int cc2_13, .ref r_weight, .ref r_tape, .int 0, .int q_39, .int (if 60 < n then 60 else n), .int fi2_10, g_crossOf, g_trueX, g_trueY, g_thoughtX, g_thoughtY, g_poundHole, g_poundOunces, g_lead, g_trials, g_trialSpeed, g_isWhole, g_trialX, g_trialY, g_trialGive, g_trialLead, g_baseX, g_baseY, g_timesPull, g_trialBaseX, g_trialBaseY, g_trialTimes, g_pulls, g_pullMany, g_sizes, g_merged, g_nextHole, g_nextOunces, g_leftBehind, g_manUp, g_manLow, g_asked, g_lowOf, g_highOf, g_tried, g_found, g_askedMany, g_mostHoles, g_isFound, g_foundRest, g_foundOunces, g_question, g_questionSpeed, g_ounceRest, g_parts, g_filled, g_cogAt, g_cogBest, g_isOrdered, g_orderSize, g_isKept, g_kept, g_keptAt]), (r_tape, aI G 80 f), (r_planeOf, aI G 16 fp2_14), (r_holeX, aI G 16 fx2_15), (r_holeY, aI G 16 fy2_16), (r_room, aI G 16 fr2_17), (r_ounces, aI G 16 fu2_18), (r_deepOf, aI G 16 fd2_19), (r_factor, aI G 6 ff2_20), (r_otherOf, aI G 6 fo2_21), (r_isApart, aZ G 6 fa2_22), (r_weight, aI G 8 fw2_23)]) rfl (by decide) ?_
              exact z_iret X rfl dm_X11_mill_191 (Nat.le_of_ble_eq_true rfl) (Nat.le_of_ble_eq_true rfl) ⟨(if 60 < n then 60 else n), q_39, fi2_10, hc2_11, sc2_12, cc2_13, fp2_14, fx2_15, fy2_16, fr2_17, fu2_18, fd2_19, ff2_20, fo2_21, fa2_22, fw2_23, (i_ + 1), (CN.cast (CN.good (hM.last (by rw [hLm]; omega) c79_29 (by rw [← f69_24]; exact c88_42)) (by omega) (by rw [← f69_24]; have t := congrArg Int32.toInt (f85_40.trans (tk_no c88_42)); omega) rfl) (by have e := (show ((i_ + 1)).toInt = (i_.toInt + 1) from (tI_add rfl (show (1 : Int32).toInt = 1 from by decide) (by omega))); omega) (by omega) (by omega) (by omega)), (by rw [(hM.last (by rw [hLm]; omega) c79_29 (by rw [← f69_24]; exact c88_42))]; exact A7.cast (hA.on hb sl ⟨f69_27.1, f69_27.2.1, f69_27.2.2.1, f69_27.2.2.2.1, f69_27.2.2.2.2.2.2.1, f69_27.2.2.2.2.2.2.2.1, f69_27.2.2.2.2.2.2.2.2.2⟩ ⟨(f69_28 c79_29).1, (f69_28 c79_29).2.1, (f69_28 c79_29).2.2.1, (f69_28 c79_29).2.2.2.1, (f69_28 c79_29).2.2.2.2.2.2.1, (f69_28 c79_29).2.2.2.2.2.2.2.1, (f69_28 c79_29).2.2.2.2.2.2.2.2.2⟩) (by omega) (by omega) (by omega)), (by rw [(hM.last (by rw [hLm]; omega) c79_29 (by rw [← f69_24]; exact c88_42))]; exact AF.cast (AF.on hE4 hb.1 sl.1 f69_27.2.2.2.2.1 (f69_28 c79_29).2.2.2.2.1) (by omega)), (by rw [(hM.last (by rw [hLm]; omega) c79_29 (by rw [← f69_24]; exact c88_42))]; exact AF.cast (AF.on hE5 hb.1 sl.1 f69_27.2.2.2.2.2.1 (f69_28 c79_29).2.2.2.2.2.1) (by omega)), (by rw [(hM.last (by rw [hLm]; omega) c79_29 (by rw [← f69_24]; exact c88_42))]; exact AF.cast (AF.on hE8 hb.2.1 sl.2.1 f69_27.2.2.2.2.2.2.2.2.1 (f69_28 c79_29).2.2.2.2.2.2.2.2.1) (by omega)), (by omega), rfl, rfl⟩
            ·
              refine z_run X bm_X11_mill_147_149 km_X11_mill_147_149 (lv' := [(9, .int 0), (8, .int 1), (7, .int 0), (5, .int (i_ + 1)), (6, .int (zb (decide ((lin f (if 60 < n then 60 else n) pp uh.toInt us.toInt uc.toInt).1 = true)))), (4, .int cc), (3, .int sc), (2, .int hc), (1, .int n), (0, .ref mo)]) (st' := [.int 1]) rfl ?_
              refine zi_ne X dm_X11_mill_149 (tgt := 161) (by decide) (a := 1) (show (1 : Int32).toInt = 1 from by decide) (fun _ => ?_) (fun c149_56 => absurd c149_56 (by decide))
              refine z_run X bm_X11_mill_161_167 km_X11_mill_161_167 (lv' := [(9, .int (-61)), (8, .int 1), (7, .int 0), (5, .int (i_ + 1)), (6, .int (zb (decide ((lin f (if 60 < n then 60 else n) pp uh.toInt us.toInt uc.toInt).1 = true)))), (4, .int cc), (3, .int sc), (2, .int hc), (1, .int n), (0, .ref mo)]) (st' := [.int (-61)]) rfl ?_
              refine zi_ge X dm_X11_mill_167 (tgt := 189) (by decide) (a := (-61)) (show ((-61) : Int32).toInt = (-61) from by decide) (fun c167_57 => absurd c167_57 (by decide)) (fun _ => ?_)
              refine z_run X bm_X11_mill_170_172 km_X11_mill_170_172 (lv' := [(9, .int (-61)), (8, .int 1), (7, .int 0), (5, .int (i_ + 1)), (6, .int (zb (decide ((lin f (if 60 < n then 60 else n) pp uh.toInt us.toInt uc.toInt).1 = true)))), (4, .int cc), (3, .int sc), (2, .int hc), (1, .int n), (0, .ref mo)]) (st' := [.int hc, .ref mo]) rfl ?_
              refine z_put X fl_11_63 dm_X11_mill_172 10 rfl (ty := .int) (T := TX11) (N := 75) rfl (Or.inl rfl) (by decide +kernel) rfl (by rfl) (Nat.le_of_ble_eq_true rfl) (ws' := [(r_planeOf, aI G 16 fp2_14), (r_holeX, aI G 16 fx2_15), (r_holeY, aI G 16 fy2_16), (r_room, aI G 16 fr2_17), (r_ounces, aI G 16 fu2_18), (r_deepOf, aI G 16 fd2_19), (r_factor, aI G 6 ff2_20), (r_otherOf, aI G 6 fo2_21), (r_isApart, aZ G 6 fa2_22), (r_weight, aI G 8 fw2_23), (mo, ob 11 [.int 0, g_rows, g_row, .int hc, .ref r_planeOf, .ref r_holeX, .ref r_holeY, .ref r_room, .ref r_ounces, .ref r_deepOf, .int sc2_12, .ref r_factor, .ref r_otherOf, .ref r_isApart, g_apartX, g_apartY, .int cc2_13, .ref r_weight, .ref r_tape, .int 0, .int q_39, .int (if 60 < n then 60 else n), .int fi2_10, g_crossOf, g_trueX, g_trueY, g_thoughtX, g_thoughtY, g_poundHole, g_poundOunces, g_lead, g_trials, g_trialSpeed, g_isWhole, g_trialX, g_trialY, g_trialGive, g_trialLead, g_baseX, g_baseY, g_timesPull, g_trialBaseX, g_trialBaseY, g_trialTimes, g_pulls, g_pullMany, g_sizes, g_merged, g_nextHole, g_nextOunces, g_leftBehind, g_manUp, g_manLow, g_asked, g_lowOf, g_highOf, g_tried, g_found, g_askedMany, g_mostHoles, g_isFound, g_foundRest, g_foundOunces, g_question, g_questionSpeed, g_ounceRest, g_parts, g_filled, g_cogAt, g_cogBest, g_isOrdered, g_orderSize, g_isKept, g_kept, g_keptAt]), (r_tape, aI G 80 f)]) rfl ?_
              refine z_run X bm_X11_mill_175_177 km_X11_mill_175_177 (lv' := [(9, .int (-61)), (8, .int 1), (7, .int 0), (5, .int (i_ + 1)), (6, .int (zb (decide ((lin f (if 60 < n then 60 else n) pp uh.toInt us.toInt uc.toInt).1 = true)))), (4, .int cc), (3, .int sc), (2, .int hc), (1, .int n), (0, .ref mo)]) (st' := [.int sc, .ref mo]) rfl ?_
              refine z_put X fl_11_88 dm_X11_mill_177 10 rfl (ty := .int) (T := TX11) (N := 75) rfl (Or.inl rfl) (by decide +kernel) rfl (by rfl) (Nat.le_of_ble_eq_true rfl) (ws' := [(r_planeOf, aI G 16 fp2_14), (r_holeX, aI G 16 fx2_15), (r_holeY, aI G 16 fy2_16), (r_room, aI G 16 fr2_17), (r_ounces, aI G 16 fu2_18), (r_deepOf, aI G 16 fd2_19), (r_factor, aI G 6 ff2_20), (r_otherOf, aI G 6 fo2_21), (r_isApart, aZ G 6 fa2_22), (r_weight, aI G 8 fw2_23), (mo, ob 11 [.int 0, g_rows, g_row, .int hc, .ref r_planeOf, .ref r_holeX, .ref r_holeY, .ref r_room, .ref r_ounces, .ref r_deepOf, .int sc, .ref r_factor, .ref r_otherOf, .ref r_isApart, g_apartX, g_apartY, .int cc2_13, .ref r_weight, .ref r_tape, .int 0, .int q_39, .int (if 60 < n then 60 else n), .int fi2_10, g_crossOf, g_trueX, g_trueY, g_thoughtX, g_thoughtY, g_poundHole, g_poundOunces, g_lead, g_trials, g_trialSpeed, g_isWhole, g_trialX, g_trialY, g_trialGive, g_trialLead, g_baseX, g_baseY, g_timesPull, g_trialBaseX, g_trialBaseY, g_trialTimes, g_pulls, g_pullMany, g_sizes, g_merged, g_nextHole, g_nextOunces, g_leftBehind, g_manUp, g_manLow, g_asked, g_lowOf, g_highOf, g_tried, g_found, g_askedMany, g_mostHoles, g_isFound, g_foundRest, g_foundOunces, g_question, g_questionSpeed, g_ounceRest, g_parts, g_filled, g_cogAt, g_cogBest, g_isOrdered, g_orderSize, g_isKept, g_kept, g_keptAt]), (r_tape, aI G 80 f)]) rfl ?_
              refine z_run X bm_X11_mill_180_183 km_X11_mill_180_183 (lv' := [(9, .int (-61)), (8, .int 1), (7, .int 0), (5, .int (i_ + 1)), (6, .int (zb (decide ((lin f (if 60 < n then 60 else n) pp uh.toInt us.toInt uc.toInt).1 = true)))), (4, .int cc), (3, .int sc), (2, .int hc), (1, .int n), (0, .ref mo)]) (st' := [.int cc, .ref mo]) rfl ?_
              refine z_put X fl_11_101 dm_X11_mill_183 10 rfl (ty := .int) (T := TX11) (N := 75) rfl (Or.inl rfl) (by decide +kernel) rfl (by rfl) (Nat.le_of_ble_eq_true rfl) (ws' := [(r_planeOf, aI G 16 fp2_14), (r_holeX, aI G 16 fx2_15), (r_holeY, aI G 16 fy2_16), (r_room, aI G 16 fr2_17), (r_ounces, aI G 16 fu2_18), (r_deepOf, aI G 16 fd2_19), (r_factor, aI G 6 ff2_20), (r_otherOf, aI G 6 fo2_21), (r_isApart, aZ G 6 fa2_22), (r_weight, aI G 8 fw2_23), (mo, ob 11 [.int 0, g_rows, g_row, .int hc, .ref r_planeOf, .ref r_holeX, .ref r_holeY, .ref r_room, .ref r_ounces, .ref r_deepOf, .int sc, .ref r_factor, .ref r_otherOf, .ref r_isApart, g_apartX, g_apartY, .int cc, .ref r_weight, .ref r_tape, .int 0, .int q_39, .int (if 60 < n then 60 else n), .int fi2_10, g_crossOf, g_trueX, g_trueY, g_thoughtX, g_thoughtY, g_poundHole, g_poundOunces, g_lead, g_trials, g_trialSpeed, g_isWhole, g_trialX, g_trialY, g_trialGive, g_trialLead, g_baseX, g_baseY, g_timesPull, g_trialBaseX, g_trialBaseY, g_trialTimes, g_pulls, g_pullMany, g_sizes, g_merged, g_nextHole, g_nextOunces, g_leftBehind, g_manUp, g_manLow, g_asked, g_lowOf, g_highOf, g_tried, g_found, g_askedMany, g_mostHoles, g_isFound, g_foundRest, g_foundOunces, g_question, g_questionSpeed, g_ounceRest, g_parts, g_filled, g_cogAt, g_cogBest, g_isOrdered, g_orderSize, g_isKept, g_kept, g_keptAt]), (r_tape, aI G 80 f)]) rfl ?_
              refine z_run X bm_X11_mill_186_188 km_X11_mill_186_188 (lv' := [(9, .int (-61)), (8, .int 1), (7, .int 0), (5, .int (i_ + 1)), (6, .int (zb (decide ((lin f (if 60 < n then 60 else n) pp uh.toInt us.toInt uc.toInt).1 = true)))), (4, .int cc), (3, .int sc), (2, .int hc), (1, .int n), (0, .ref mo)]) (st' := [.int (-61)]) rfl ?_
              refine Z.sub (lv' := []) [] rfl [10, 11, 0, 1, 2, 3, 4, 5, 6, 7, 8, 9] (ws' := [(mo, ob 11 [.int 0, g_rows, g_row, .int hc, .ref r_planeOf, .ref r_holeX, .ref r_holeY, .ref r_room, .ref r_ounces, .ref r_deepOf, .int sc, .ref r_factor, .ref r_otherOf, .ref r_isApart, g_apartX, g_apartY, .int cc, .ref r_weight, .ref r_tape, .int 0, .int q_39, .int (if 60 < n then 60 else n), .int fi2_10, g_crossOf, g_trueX, g_trueY, g_thoughtX, g_thoughtY, g_poundHole, g_poundOunces, g_lead, g_trials, g_trialSpeed, g_isWhole, g_trialX, g_trialY, g_trialGive, g_trialLead, g_baseX, g_baseY, g_timesPull, g_trialBaseX, g_trialBaseY, g_trialTimes, g_pulls, g_pullMany, g_sizes, g_merged, g_nextHole, g_nextOunces, g_leftBehind, g_manUp, g_manLow, g_asked, g_lowOf, g_highOf, g_tried, g_found, g_askedMany, g_mostHoles, g_isFound, g_foundRest, g_foundOunces, g_question, g_questionSpeed, g_ounceRest, g_parts, g_filled, g_cogAt, g_cogBest, g_isOrdered, g_orderSize, g_isKept, g_kept, g_keptAt]), (r_tape, aI G 80 f), (r_planeOf, aI G 16 fp2_14), (r_holeX, aI G 16 fx2_15), (r_holeY, aI G 16 fy2_16), (r_room, aI G 16 fr2_17), (r_ounces, aI G 16 fu2_18), (r_deepOf, aI G 16 fd2_19), (r_factor, aI G 6 ff2_20), (r_otherOf, aI G 6 fo2_21), (r_isApart, aZ G 6 fa2_22), (r_weight, aI G 8 fw2_23)]) rfl (by decide) ?_
              exact z_iret X rfl dm_X11_mill_188 (Nat.le_of_ble_eq_true rfl) (Nat.le_of_ble_eq_true rfl) ⟨(if 60 < n then 60 else n), q_39, fi2_10, hc, sc, cc, fp2_14, fx2_15, fy2_16, fr2_17, fu2_18, fd2_19, ff2_20, fo2_21, fa2_22, fw2_23, (-61), (CN.cast (CN.far (hM.last (by rw [hLm]; omega) c79_29 (by rw [← f69_24]; exact c88_42)) (by omega) (by rw [← f69_24]; have t := congrArg Int32.toInt (f85_40.trans (tk_no c88_42)); omega) (by rw [← f69_24])) (by have e := (show (((-61) : Int32)).toInt = (-61) from (show ((-61) : Int32).toInt = (-61) from by decide)); have t := congrArg Int32.toInt (f85_40.trans (tk_no c88_42)); omega) hhc hsc hcc), (A7.cast (hA.off hb sl ⟨f69_27.1, f69_27.2.1, f69_27.2.2.1, f69_27.2.2.2.1, f69_27.2.2.2.2.2.2.1, f69_27.2.2.2.2.2.2.2.1, f69_27.2.2.2.2.2.2.2.2.2⟩).cut hhc hsc hcc), (AF.cast (AF.off hE4 hb.1 sl.1 f69_27.2.2.2.2.1).cut hhc), (AF.cast (AF.off hE5 hb.1 sl.1 f69_27.2.2.2.2.2.1).cut hhc), (AF.cast (AF.off hE8 hb.2.1 sl.2.1 f69_27.2.2.2.2.2.2.2.2.1).cut hsc), (by omega), rfl, rfl⟩
        ·
          refine z_run X bm_X11_mill_91_92 km_X11_mill_91_92 (lv' := [(5, .int (i_ + 1)), (6, .int (zb (decide ((lin f (if 60 < n then 60 else n) pp uh.toInt us.toInt uc.toInt).1 = true)))), (7, .int 1), (4, .int cc), (3, .int sc), (2, .int hc), (1, .int n), (0, .ref mo)]) (st' := [.int 1]) rfl ?_
          refine z_goto X dm_X11_mill_92 (tgt := 96) (by decide) ?_
          refine z_run X bm_X11_mill_96_98 km_X11_mill_96_98 (lv' := [(7, .int 1), (5, .int (i_ + 1)), (6, .int (zb (decide ((lin f (if 60 < n then 60 else n) pp uh.toInt us.toInt uc.toInt).1 = true)))), (4, .int cc), (3, .int sc), (2, .int hc), (1, .int n), (0, .ref mo)]) (st' := []) rfl ?_
          refine z_goto X dm_X11_mill_98 (tgt := 63) (by decide) ?_
          refine Z.sub (lv' := [(7, .int 1), (5, .int (i_ + 1)), (4, .int cc), (3, .int sc), (2, .int hc), (1, .int n), (0, .ref mo)]) [0, 1, 3, 4, 5, 6, 7] rfl [10, 11, 0, 1, 2, 3, 4, 5, 6, 7, 8, 9] (ws' := [(mo, ob 11 [.int 0, g_rows, g_row, .int hc2_11, .ref r_planeOf, .ref r_holeX, .ref r_holeY, .ref r_room, .ref r_ounces, .ref r_deepOf, .int sc2_12, .ref r_factor, .ref r_otherOf, .ref r_isApart, g_apartX, g_apartY, .int cc2_13, .ref r_weight, .ref r_tape, .int 0, .int q_39, .int (if 60 < n then 60 else n), .int fi2_10, g_crossOf, g_trueX, g_trueY, g_thoughtX, g_thoughtY, g_poundHole, g_poundOunces, g_lead, g_trials, g_trialSpeed, g_isWhole, g_trialX, g_trialY, g_trialGive, g_trialLead, g_baseX, g_baseY, g_timesPull, g_trialBaseX, g_trialBaseY, g_trialTimes, g_pulls, g_pullMany, g_sizes, g_merged, g_nextHole, g_nextOunces, g_leftBehind, g_manUp, g_manLow, g_asked, g_lowOf, g_highOf, g_tried, g_found, g_askedMany, g_mostHoles, g_isFound, g_foundRest, g_foundOunces, g_question, g_questionSpeed, g_ounceRest, g_parts, g_filled, g_cogAt, g_cogBest, g_isOrdered, g_orderSize, g_isKept, g_kept, g_keptAt]), (r_tape, aI G 80 f), (r_planeOf, aI G 16 fp2_14), (r_holeX, aI G 16 fx2_15), (r_holeY, aI G 16 fy2_16), (r_room, aI G 16 fr2_17), (r_ounces, aI G 16 fu2_18), (r_deepOf, aI G 16 fd2_19), (r_factor, aI G 6 ff2_20), (r_otherOf, aI G 6 fo2_21), (r_isApart, aZ G 6 fa2_22), (r_weight, aI G 8 fw2_23)]) rfl (by decide) ?_
          exact ih63 ((i_ + 1), q_39, fi2_10, hc2_11, sc2_12, cc2_13, fp2_14, fx2_15, fy2_16, fr2_17, fu2_18, fd2_19, ff2_20, fo2_21, fa2_22, fw2_23, (nx 104 f pp uh.toInt ta), (nx 115 f pp us.toInt tb), (nx 99 f pp uc.toInt td)) ⟨(by dsimp only; have e : (i_ + 1).toInt = i_.toInt + 1 := tI_add rfl (show (1 : Int32).toInt = 1 from by decide) (by omega); omega), (by dsimp only; have tq := (tk_yes (show (tk f (if 60 < n then 60 else n) q_9 59).1 = true from c88_42)); have tz : (q_9 + 1).toInt = q_9.toInt + 1 := tI_add rfl (show (1 : Int32).toInt = 1 from by decide) (by omega); have te := congrArg Int32.toInt (f85_40.trans tq.1); omega), (by dsimp only; omega), (by dsimp only; have e : (i_ + 1).toInt = i_.toInt + 1 := tI_add rfl (show (1 : Int32).toInt = 1 from by decide) (by omega); exact MI.cast (hM.step (by rw [hLm]; omega) c79_29 (by rw [← f69_24]; exact f69_25) (by rw [← f69_24]; exact c88_42)) (by omega) (by rw [f85_40, f69_24]) (by omega) (by omega) (by omega)), (A7.cast (hA.on hb sl ⟨f69_27.1, f69_27.2.1, f69_27.2.2.1, f69_27.2.2.2.1, f69_27.2.2.2.2.2.2.1, f69_27.2.2.2.2.2.2.2.1, f69_27.2.2.2.2.2.2.2.2.2⟩ ⟨(f69_28 c79_29).1, (f69_28 c79_29).2.1, (f69_28 c79_29).2.2.1, (f69_28 c79_29).2.2.2.1, (f69_28 c79_29).2.2.2.2.2.2.1, (f69_28 c79_29).2.2.2.2.2.2.2.1, (f69_28 c79_29).2.2.2.2.2.2.2.2.2⟩) (by dsimp only; omega) (by dsimp only; omega) (by dsimp only; omega)), (AF.cast (AF.on hE4 hb.1 sl.1 f69_27.2.2.2.2.1 (f69_28 c79_29).2.2.2.2.1) (by dsimp only; omega)), (AF.cast (AF.on hE5 hb.1 sl.1 f69_27.2.2.2.2.2.1 (f69_28 c79_29).2.2.2.2.2.1) (by dsimp only; omega)), (AF.cast (AF.on hE8 hb.2.1 sl.2.1 f69_27.2.2.2.2.2.2.2.2.1 (f69_28 c79_29).2.2.2.2.2.2.2.2.1) (by dsimp only; omega))⟩ (by dsimp only; have tq := (tk_yes (show (tk f (if 60 < n then 60 else n) q_9 59).1 = true from c88_42)); have tz : (q_9 + 1).toInt = q_9.toInt + 1 := tI_add rfl (show (1 : Int32).toInt = 1 from by decide) (by omega); have te := congrArg Int32.toInt (f85_40.trans tq.1); omega)
    · exact ⟨(by dsimp only; have e0 : (0 : Int32).toInt = 0 := (by decide); omega), (by dsimp only; have e0 : (0 : Int32).toInt = 0 := (by decide); omega), (by dsimp only; omega), (by dsimp only; have e0 : (0 : Int32).toInt = 0 := (by decide); exact MI.cast (MI.zero (h := hci) (s := sci) (c := cci) (by omega) (by omega) (by omega)) (by omega) rfl (by omega) (by omega) (by omega)), (by dsimp only; exact A7.cast A7.zero hhc hsc hcc), (by dsimp only; exact AF.cast AF.zero hhc), (by dsimp only; exact AF.cast AF.zero hhc), (by dsimp only; exact AF.cast AF.zero hsc)⟩
end
section
/-! the mill's function by the signs that it reads alone -/
section CG
variable {f g : Nat → Int32} {L : Int32}
def TE80 (f g : Nat → Int32) : Prop := ∀ k, k < 80 → f k = g k
theorem cg_at (h : TE80 f g) (hL : L.toInt ≤ 60) {p : Int32} (hp : p.toInt < L.toInt) : f p.toNatClampNeg = g p.toNatClampNeg := by
  apply h
  show p.toInt.toNat < 80
  omega
theorem cg_at1 (h : TE80 f g) (hL : L.toInt ≤ 60) {p : Int32} (hp : p.toInt < L.toInt) : f (p + 1).toNatClampNeg = g (p + 1).toNatClampNeg := by
  apply h
  have e : (p + 1).toInt = p.toInt + 1 := tI_add rfl (show (1 : Int32).toInt = 1 from by decide) (by have q : (-2147483648 : Int) ≤ p.toInt := i32_lo p; omega)
  show (p + 1).toInt.toNat < 80
  omega
theorem cg_tk (h : TE80 f g) (hL : L.toInt ≤ 60) : tk f L = tk g L := by
  funext p c
  unfold tk
  by_cases hp : p.toInt < L.toInt
  · rw [cg_at h hL hp]
  · rw [if_neg (fun q => hp q.1), if_neg (fun q => hp q.1)]
theorem cg_num (h : TE80 f g) (hL : L.toInt ≤ 60) : num f L = num g L := by
  funext p lo hi
  unfold num
  by_cases hp : p.toInt < L.toInt
  · rw [cg_at h hL hp, cg_at1 h hL hp]
  · rw [if_neg (fun q => hp q.1), if_neg (fun q => hp q.1)]
theorem cg_sg (h : TE80 f g) (hL : L.toInt ≤ 60) : sg f L = sg g L := by
  funext p
  unfold sg
  rw [cg_tk h hL, cg_num h hL]
theorem cg_hA (h : TE80 f g) (hL : L.toInt ≤ 60) : hA f L = hA g L := by
  funext p
  unfold hA
  rw [cg_num h hL]
theorem cg_hB (h : TE80 f g) (hL : L.toInt ≤ 60) : hB f L = hB g L := by
  funext p
  unfold hB
  rw [cg_tk h hL, cg_hA h hL]
theorem cg_hC (h : TE80 f g) (hL : L.toInt ≤ 60) : hC f L = hC g L := by
  funext p
  unfold hC
  rw [cg_sg h hL, cg_hB h hL]
theorem cg_hD (h : TE80 f g) (hL : L.toInt ≤ 60) : hD f L = hD g L := by
  funext p
  unfold hD
  rw [cg_tk h hL, cg_hC h hL]
theorem cg_hE (h : TE80 f g) (hL : L.toInt ≤ 60) : hE f L = hE g L := by
  funext p
  unfold hE
  rw [cg_sg h hL, cg_hD h hL]
theorem cg_hF (h : TE80 f g) (hL : L.toInt ≤ 60) : hF f L = hF g L := by
  funext p
  unfold hF
  rw [cg_tk h hL, cg_hE h hL]
theorem cg_hG (h : TE80 f g) (hL : L.toInt ≤ 60) : hG f L = hG g L := by
  funext p
  unfold hG
  rw [cg_num h hL, cg_hF h hL]
theorem cg_hol (h : TE80 f g) (hL : L.toInt ≤ 60) : hol f L = hol g L := by
  funext p s
  unfold hol
  rw [cg_hA h hL, cg_hB h hL, cg_hC h hL, cg_hD h hL, cg_hE h hL, cg_hF h hL, cg_hG h hL]
theorem cg_pA (h : TE80 f g) (hL : L.toInt ≤ 60) : pA f L = pA g L := by
  funext p
  unfold pA
  rw [cg_num h hL]
theorem cg_pB (h : TE80 f g) (hL : L.toInt ≤ 60) : pB f L = pB g L := by
  funext p
  unfold pB
  rw [cg_tk h hL, cg_pA h hL]
theorem cg_pC (h : TE80 f g) (hL : L.toInt ≤ 60) : pC f L = pC g L := by
  funext p
  unfold pC
  rw [cg_num h hL, cg_pB h hL]
theorem cg_spd (h : TE80 f g) (hL : L.toInt ≤ 60) : spd f L = spd g L := by
  funext p s
  unfold spd
  rw [cg_pA h hL, cg_pB h hL, cg_pC h hL]
theorem cg_cA (h : TE80 f g) (hL : L.toInt ≤ 60) : cA f L = cA g L := by
  funext p
  unfold cA
  rw [cg_num h hL]
theorem cg_cog (h : TE80 f g) (hL : L.toInt ≤ 60) : cog f L = cog g L := by
  funext p s
  unfold cog
  rw [cg_cA h hL]
theorem cg_lin (h : TE80 f g) (hL : L.toInt ≤ 60) : lin f L = lin g L := by
  funext p a b c
  unfold lin
  by_cases hp : p.toInt < L.toInt
  · rw [cg_at h hL hp, cg_hol h hL, cg_spd h hL, cg_cog h hL]
  · rw [if_neg (fun q => hp q.1), if_neg (fun q => hp q.1), if_neg (fun q => hp q.1), if_neg (fun q => hp q.1), if_neg (fun q => hp q.1), if_neg (fun q => hp q.1)]
theorem cg_run (h : TE80 f g) (hL : L.toInt ≤ 60) : ∀ (n : Nat) (p : Int32) (H S C k : Int) (a b d : Nat → Int32), run f L n p H S C k a b d = run g L n p H S C k a b d
  | 0, _, _, _, _, _, _, _, _ => rfl
  | n + 1, p, H, S, C, k, a, b, d => by
    show (if (lin f L p H S C).1 = true then (if (tk f L (lin f L p H S C).2 59).1 = true then _ else _) else _) = (if (lin g L p H S C).1 = true then (if (tk g L (lin g L p H S C).2 59).1 = true then _ else _) else _)
    rw [cg_lin h hL, cg_tk h hL]
    by_cases hy : (lin g L p H S C).1 = true
    · have e := cg_at h hL (lin_lt hy)
      rw [if_pos hy, if_pos hy]
      have d1 : ∀ c, dl c f p = dl c g p := fun c => by unfold dl; rw [e]
      have n1 : ∀ c s r, nx c f p s r = nx c g p s r := fun c s r => by unfold nx; rw [e]
      rw [d1, d1, d1, n1, n1, n1]
      split
      · exact cg_run h hL n _ _ _ _ _ _ _ _
      · rfl
    · rw [if_neg hy, if_neg hy]
theorem cg_run0 (h : TE80 f g) (hL : L.toInt ≤ 60) (a b c : Int) : run0 f L a b c = run0 g L a b c := cg_run h hL 60 0 a b c 0 zf zf zf
theorem cg_w4 (h : TE80 f g) (N : Nat) (v : Int32) : TE80 (w4 f N v) (w4 g N v) := by
  intro k hk
  unfold w4
  rw [h k hk]
end CG
end
section
/-! the exact contracts in the typed worlds -/
theorem pk_cons {w0 : va_W} {i : Nat} {is : List Nat} {e : Nat × va_E} {wc : va_W} (h : w0[i]? = some e) (t : is.map (fun i => w0[i]?) = wc.map some) : (i :: is).map (fun i => w0[i]?) = (e :: wc).map some := by
  rw [List.map_cons, List.map_cons, h, t]
theorem WT.tab {G : KG} {ad : Nat → Nat} {T : List TE} {ws : va_W} (h : WT G ad T ws) {k ci : Nat} {ts : List VT} (hT : T[k]? = some (.inl (ci, ts))) : ∃ g : Nat → Value, ws[k]? = some (ad k, ob ci ((List.range ts.length).map g)) ∧ ∀ j t, ts[j]? = some t → vty ad t (g j) ∧ fget ws k j = some (g j) := by
  obtain ⟨en, h1, fs, rfl, h2, h3⟩ := h.2.1 k _ hT
  have e : (List.range ts.length).map (fun j => (fs[j]?).getD .null) = fs := by
    refine List.ext_getElem (by rw [List.length_map, List.length_range, h2]) (fun i q1 q2 => ?_)
    rw [List.getElem_map, List.getElem_range, List.getElem?_eq_getElem q2]
    rfl
  refine ⟨fun j => (fs[j]?).getD .null, by rw [e]; exact h1, fun j t ht => ?_⟩
  have hj : j < fs.length := by rw [h2]; exact lt_of_getE ht
  have e2 : fs[j]? = some ((fs[j]?).getD .null) := by rw [List.getElem?_eq_getElem hj]; rfl
  exact ⟨h3 j t _ ht e2, by rw [fget_of h1]; exact e2⟩
theorem WT.bools {G : KG} {ad : Nat → Nat} {T : List TE} {ws : va_W} (h : WT G ad T ws) {k n : Nat} {t : VT} (hT : T[k]? = some (.inr (2, n, t))) : ∃ f, ws[k]? = some (ad k, aZ G n f) ∧ aint n t f := by
  obtain ⟨en, h1, h2⟩ := h.arr hT
  rcases h2 with ⟨h9, -⟩ | ⟨h9, -⟩ | ⟨-, f, rfl, h3⟩ | ⟨h9, -⟩
  · cases h9
  · cases h9
  · exact ⟨f, h1, h3⟩
  · cases h9
theorem cgetI {G : KG} {w : va_W} {k a n : Nat} {f : Nat → Int32} (h : w[k]? = some (a, aI G n f)) (j : Nat) : cget w k j = some (.inr (cyI G, n, .inl f)) := by
  unfold cget
  rw [h]
theorem arrinj {c : ClassId} {n : Nat} {f g : Nat → Int32} (h : (some (.inr (c, n, .inl f)) : Option (Value ⊕ (ClassId × vp_A))) = some (.inr (c, n, .inl g))) : f = g := by
  have h1 := Sum.inr.inj (Option.some.inj h)
  have h2 := congrArg (fun q => q.2.2) h1
  exact Sum.inl.inj h2
theorem fget_cget (w : va_W) (k j : Nat) : fget w k j = (cget w k j).bind (fun q => match q with | .inl v => some v | .inr _ => none) := by
  unfold fget cget
  rcases w[k]? with _ | ⟨a, c | o⟩
  · rfl
  · rfl
  · show o.2[j]? = ((o.2[j]?).map Sum.inl).bind _
    cases o.2[j]? <;> rfl
theorem fget_eq {w w' : va_W} {k j : Nat} (h : cget w k j = cget w' k j) : fget w k j = fget w' k j := by
  rw [fget_cget, fget_cget, h]
theorem cget_app {w wc : va_W} {k j : Nat} (h : k < w.length) : cget (w ++ wc) k j = cget w k j := by
  unfold cget
  rw [List.getElem?_append_left h]
/-- how mill ends: the answer, the counts, an empty tape -/
def MilE (kn jn kh jh ks js kc jc : Nat) (n : Int32) (f : Nat → Int32) (h s c : Int32) (r : Option Value) (w1 : va_W) : Prop :=
  ∃ v h2 s2 c2 : Int32, r = some (.int v) ∧ CN n (run0 f (if 60 < n then 60 else n) h.toInt s.toInt c.toInt) v.toInt h.toInt s.toInt c.toInt h2.toInt s2.toInt c2.toInt ∧ ((0 ≤ h2.toInt ∧ h2.toInt ≤ 16) ∧ (0 ≤ s2.toInt ∧ s2.toInt ≤ 6) ∧ (0 ≤ c2.toInt ∧ c2.toInt ≤ 8)) ∧ fget w1 kn jn = some (.int 0) ∧ fget w1 kh jh = some (.int h2) ∧ fget w1 ks js = some (.int s2) ∧ fget w1 kc jc = some (.int c2)
/-- how sign ends: four signs more -/
def SgnE (G : KG) (kn jn kt : Nat) (n : Int32) (f : Nat → Int32) (v : Int32) (r : Option Value) (w1 : va_W) : Prop :=
  ∃ (n2 : Int32) (f2 : Nat → Int32), r = some (.int n2) ∧ n2.toInt = n.toInt + 4 ∧ fget w1 kn jn = some (.int n2) ∧ cget w1 kt 0 = some (.inr (cyI G, 80, .inl f2)) ∧ ∀ k, k < 80 → f2 k = w4 f n.toInt.toNat v k
set_option maxHeartbeats 4000000 in
set_option maxRecDepth 100000 in
theorem ac_milx (l : Launch) (G : KG) {ad : Nat → Nat} {w0 : va_W} {n h s c : Int32} {f : Nat → Int32} (hW : WT G ad TX w0) (en : fget w0 3 1 = some (.int n)) (eh : fget w0 5 0 = some (.int h)) (es : fget w0 12 0 = some (.int s)) (ec : fget w0 18 0 = some (.int c)) (ef : cget w0 4 0 = some (.inr (cyI G, 80, .inl f))) : Ct l G yX10_mill cX10_mill 2 (some .int) { frames := 6, cells := 0, slots := 0, locals := 132 } [.ref (ad 0)] w0 (fun r w1 => WT G ad TX w1 ∧ FRM C_t_X10_mill_0.2.2.2.2.1 w0 w1 ∧ MilE 3 1 5 0 12 0 18 0 n f h s c r w1) := by
  obtain ⟨g0, q0, t0⟩ := WT.tab hW (k := 0) rfl
  have r0_1 : g0 1 = .ref (ad 3) := vty2 (t0 1 _ rfl).1 rfl
  have r0_2 : g0 2 = .ref (ad 5) := vty2 (t0 2 _ rfl).1 rfl
  have r0_3 : g0 3 = .ref (ad 12) := vty2 (t0 3 _ rfl).1 rfl
  have r0_4 : g0 4 = .ref (ad 18) := vty2 (t0 4 _ rfl).1 rfl
  have c0 : w0[0]? = some ((ad 0), ob 10 [(g0 0), .ref (ad 3), .ref (ad 5), .ref (ad 12), .ref (ad 18), (g0 5), (g0 6), (g0 7), (g0 8), (g0 9), (g0 10), (g0 11), (g0 12), (g0 13), (g0 14), (g0 15)]) := by
    rw [q0]
    show some (ad 0, ob 10 [g0 0, g0 1, g0 2, g0 3, g0 4, g0 5, g0 6, g0 7, g0 8, g0 9, g0 10, g0 11, g0 12, g0 13, g0 14, g0 15]) = _
    rw [r0_1, r0_2, r0_3, r0_4]
  obtain ⟨g3, q3, t3⟩ := WT.tab hW (k := 3) rfl
  have r3_0 : g3 0 = .ref (ad 4) := vty2 (t3 0 _ rfl).1 rfl
  have r3_1 : g3 1 = .int n := Option.some.inj ((t3 1 _ rfl).2.symm.trans en)
  have b3_1 : 0 ≤ n.toInt ∧ n.toInt ≤ 80 := by
    have h := (t3 1 _ rfl).1
    rw [r3_1] at h
    obtain ⟨y, e, l1, u1⟩ := vty0 h rfl
    obtain rfl := Value.int.inj e
    exact ⟨l1, u1⟩
  obtain ⟨y3_2, r3_2, -, -⟩ := vty0 (t3 2 _ rfl).1 rfl
  obtain ⟨y3_3, r3_3, -, -⟩ := vty0 (t3 3 _ rfl).1 rfl
  obtain ⟨y3_4, r3_4, -, -⟩ := vty0 (t3 4 _ rfl).1 rfl
  obtain ⟨y3_5, r3_5, -, -⟩ := vty0 (t3 5 _ rfl).1 rfl
  obtain ⟨y3_6, r3_6, -, -⟩ := vty0 (t3 6 _ rfl).1 rfl
  obtain ⟨y3_7, r3_7, -, -⟩ := vty0 (t3 7 _ rfl).1 rfl
  have c3 : w0[3]? = some ((ad 3), ob 4 [.ref (ad 4), .int n, .int y3_2, .int y3_3, .int y3_4, .int y3_5, .int y3_6, .int y3_7]) := by
    rw [q3]
    show some (ad 3, ob 4 [g3 0, g3 1, g3 2, g3 3, g3 4, g3 5, g3 6, g3 7]) = _
    rw [r3_0, r3_1, r3_2, r3_3, r3_4, r3_5, r3_6, r3_7]
  obtain ⟨f4, c4, -⟩ := WT.ints hW (k := 4) rfl
  have ef4 : f4 = f := arrinj ((cgetI c4 0).symm.trans ef)
  rw [ef4] at c4
  obtain ⟨g5, q5, t5⟩ := WT.tab hW (k := 5) rfl
  have r5_0 : g5 0 = .int h := Option.some.inj ((t5 0 _ rfl).2.symm.trans eh)
  have b5_0 : 0 ≤ h.toInt ∧ h.toInt ≤ 16 := by
    have h := (t5 0 _ rfl).1
    rw [r5_0] at h
    obtain ⟨y, e, l1, u1⟩ := vty0 h rfl
    obtain rfl := Value.int.inj e
    exact ⟨l1, u1⟩
  have r5_1 : g5 1 = .ref (ad 6) := vty2 (t5 1 _ rfl).1 rfl
  have r5_2 : g5 2 = .ref (ad 7) := vty2 (t5 2 _ rfl).1 rfl
  have r5_3 : g5 3 = .ref (ad 8) := vty2 (t5 3 _ rfl).1 rfl
  have r5_4 : g5 4 = .ref (ad 9) := vty2 (t5 4 _ rfl).1 rfl
  have c5 : w0[5]? = some ((ad 5), ob 5 [.int h, .ref (ad 6), .ref (ad 7), .ref (ad 8), .ref (ad 9), (g5 5), (g5 6), (g5 7), (g5 8)]) := by
    rw [q5]
    show some (ad 5, ob 5 [g5 0, g5 1, g5 2, g5 3, g5 4, g5 5, g5 6, g5 7, g5 8]) = _
    rw [r5_0, r5_1, r5_2, r5_3, r5_4]
  obtain ⟨f6, c6, -⟩ := WT.ints hW (k := 6) rfl
  obtain ⟨f7, c7, -⟩ := WT.ints hW (k := 7) rfl
  obtain ⟨f8, c8, -⟩ := WT.ints hW (k := 8) rfl
  obtain ⟨f9, c9, -⟩ := WT.ints hW (k := 9) rfl
  obtain ⟨g12, q12, t12⟩ := WT.tab hW (k := 12) rfl
  have r12_0 : g12 0 = .int s := Option.some.inj ((t12 0 _ rfl).2.symm.trans es)
  have b12_0 : 0 ≤ s.toInt ∧ s.toInt ≤ 6 := by
    have h := (t12 0 _ rfl).1
    rw [r12_0] at h
    obtain ⟨y, e, l1, u1⟩ := vty0 h rfl
    obtain rfl := Value.int.inj e
    exact ⟨l1, u1⟩
  have r12_1 : g12 1 = .ref (ad 13) := vty2 (t12 1 _ rfl).1 rfl
  have r12_2 : g12 2 = .ref (ad 14) := vty2 (t12 2 _ rfl).1 rfl
  have c12 : w0[12]? = some ((ad 12), ob 7 [.int s, .ref (ad 13), .ref (ad 14), (g12 3), (g12 4), (g12 5)]) := by
    rw [q12]
    show some (ad 12, ob 7 [g12 0, g12 1, g12 2, g12 3, g12 4, g12 5]) = _
    rw [r12_0, r12_1, r12_2]
  obtain ⟨f13, c13, -⟩ := WT.ints hW (k := 13) rfl
  obtain ⟨f14, c14, -⟩ := WT.ints hW (k := 14) rfl
  obtain ⟨g18, q18, t18⟩ := WT.tab hW (k := 18) rfl
  have r18_0 : g18 0 = .int c := Option.some.inj ((t18 0 _ rfl).2.symm.trans ec)
  have b18_0 : 0 ≤ c.toInt ∧ c.toInt ≤ 8 := by
    have h := (t18 0 _ rfl).1
    rw [r18_0] at h
    obtain ⟨y, e, l1, u1⟩ := vty0 h rfl
    obtain rfl := Value.int.inj e
    exact ⟨l1, u1⟩
  have r18_1 : g18 1 = .ref (ad 19) := vty2 (t18 1 _ rfl).1 rfl
  have c18 : w0[18]? = some ((ad 18), ob 0 [.int c, .ref (ad 19), (g18 2), (g18 3), (g18 4), (g18 5), (g18 6)]) := by
    rw [q18]
    show some (ad 18, ob 0 [g18 0, g18 1, g18 2, g18 3, g18 4, g18 5, g18 6]) = _
    rw [r18_0, r18_1]
  obtain ⟨f19, c19, -⟩ := WT.ints hW (k := 19) rfl
  have h2 := cm_X10_mill l G (ad 0) (g0 0) (g0 5) (g0 6) (g0 7) (g0 8) (g0 9) (g0 10) (g0 11) (g0 12) (g0 13) (g0 14) (g0 15) (ad 3) (ad 4) f n y3_2 y3_3 y3_4 y3_5 y3_6 y3_7 (ad 5) (ad 6) (ad 7) (ad 8) (ad 9) h (g5 5) (g5 6) (g5 7) (g5 8) f6 f7 f8 f9 (ad 12) (ad 13) (ad 14) s (g12 3) (g12 4) (g12 5) f13 f14 (ad 18) (ad 19) c (g18 2) (g18 3) (g18 4) (g18 5) (g18 6) f19 n.toInt h.toInt s.toInt c.toInt rfl rfl rfl rfl (by omega) (by omega)
  refine Ct.weak (Ct.and (show Ct l G yX10_mill cX10_mill 2 (some .int) { frames := 6, cells := 0, slots := 0, locals := 132 } [.ref (ad 0)] w0 (fun r w1 => POST G ad TX C_t_X10_mill_0 (fun k => ((Value.ref (ad 0) :: ([] : List Value))[k]?).getD .null) w0 r w1) from ac_t_X10_mill_0 l G ad w0 _ hW (pre_mu (C := C_t_X10_mill_0) (ts := []) (As := []) rfl rfl rfl rfl trivial ad w0 rfl)) h2 [0, 3, 4, 5, 6, 7, 8, 9, 12, 13, 14, 18, 19] (pk_cons c0 (pk_cons c3 (pk_cons c4 (pk_cons c5 (pk_cons c6 (pk_cons c7 (pk_cons c8 (pk_cons c9 (pk_cons c12 (pk_cons c13 (pk_cons c14 (pk_cons c18 (pk_cons c19 rfl))))))))))))) (by decide)) ?_
  rintro r w1 ⟨hp, w2, ⟨lim2, q, m, mh2, ms2, mc2, hc2, sc2, cc2, fp2, fx2, fy2, fr2, ff2, fo2, fw2, rz, hCN, hA7, hB, rfl, rfl⟩, hS⟩
  obtain ⟨A1, hA1, μ2, -, -, -, -, -, -, hW1, hF1⟩ := hp
  obtain ⟨fs0, -, u0, ul0, -, -⟩ := WT.obj hW1 (k := 0) (j := 0) rfl rfl
  obtain ⟨fs3, -, u3, ul3, -, -⟩ := WT.obj hW1 (k := 3) (j := 0) rfl rfl
  obtain ⟨p4, u4, -⟩ := WT.ints hW1 (k := 4) rfl
  obtain ⟨fs5, -, u5, ul5, -, -⟩ := WT.obj hW1 (k := 5) (j := 0) rfl rfl
  obtain ⟨p6, u6, -⟩ := WT.ints hW1 (k := 6) rfl
  obtain ⟨p7, u7, -⟩ := WT.ints hW1 (k := 7) rfl
  obtain ⟨p8, u8, -⟩ := WT.ints hW1 (k := 8) rfl
  obtain ⟨p9, u9, -⟩ := WT.ints hW1 (k := 9) rfl
  obtain ⟨fs12, -, u12, ul12, -, -⟩ := WT.obj hW1 (k := 12) (j := 0) rfl rfl
  obtain ⟨p13, u13, -⟩ := WT.ints hW1 (k := 13) rfl
  obtain ⟨p14, u14, -⟩ := WT.ints hW1 (k := 14) rfl
  obtain ⟨fs18, -, u18, ul18, -, -⟩ := WT.obj hW1 (k := 18) (j := 0) rfl rfl
  obtain ⟨p19, u19, -⟩ := WT.ints hW1 (k := 19) rfl
  exact ⟨hW1, hF1, rz, hc2, sc2, cc2, rfl, hCN, hB, (same_f hS (k := 3) (j := 1) (q := (RX4, TX4, 8)) rfl u3 rfl (by decide) ul3 rfl), (same_f hS (k := 5) (j := 3) (q := (RX5, TX5, 9)) rfl u5 rfl (by decide) ul5 rfl), (same_f hS (k := 12) (j := 8) (q := (RX7, TX7, 6)) rfl u12 rfl (by decide) ul12 rfl), (same_f hS (k := 18) (j := 11) (q := (RX0, TX0, 7)) rfl u18 rfl (by decide) ul18 rfl)⟩
set_option maxHeartbeats 4000000 in
set_option maxRecDepth 100000 in
theorem ac_milm (l : Launch) (G : KG) {ad : Nat → Nat} {w0 : va_W} {n h s c : Int32} {f : Nat → Int32} (hW : WT G ad TM w0) (en : fget w0 0 19 = some (.int n)) (eh : fget w0 0 3 = some (.int h)) (es : fget w0 0 10 = some (.int s)) (ec : fget w0 0 16 = some (.int c)) (ef : cget w0 14 0 = some (.inr (cyI G, 80, .inl f))) : Ct l G yX11_mill cX11_mill 10 (some .int) { frames := 5, cells := 0, slots := 0, locals := 110 } [.ref (ad 0)] w0 (fun r w1 => WT G ad TM w1 ∧ FRM C_mill1.2.2.2.2.1 w0 w1 ∧ MilE 0 19 0 3 0 10 0 16 n f h s c r w1) := by
  obtain ⟨g0, q0, t0⟩ := WT.tab hW (k := 0) rfl
  obtain ⟨y0_0, r0_0, -, -⟩ := vty0 (t0 0 _ rfl).1 rfl
  have r0_3 : g0 3 = .int h := Option.some.inj ((t0 3 _ rfl).2.symm.trans eh)
  have b0_3 : 0 ≤ h.toInt ∧ h.toInt ≤ 16 := by
    have h := (t0 3 _ rfl).1
    rw [r0_3] at h
    obtain ⟨y, e, l1, u1⟩ := vty0 h rfl
    obtain rfl := Value.int.inj e
    exact ⟨l1, u1⟩
  have r0_4 : g0 4 = .ref (ad 2) := vty2 (t0 4 _ rfl).1 rfl
  have r0_5 : g0 5 = .ref (ad 3) := vty2 (t0 5 _ rfl).1 rfl
  have r0_6 : g0 6 = .ref (ad 4) := vty2 (t0 6 _ rfl).1 rfl
  have r0_7 : g0 7 = .ref (ad 5) := vty2 (t0 7 _ rfl).1 rfl
  have r0_8 : g0 8 = .ref (ad 6) := vty2 (t0 8 _ rfl).1 rfl
  have r0_9 : g0 9 = .ref (ad 7) := vty2 (t0 9 _ rfl).1 rfl
  have r0_10 : g0 10 = .int s := Option.some.inj ((t0 10 _ rfl).2.symm.trans es)
  have b0_10 : 0 ≤ s.toInt ∧ s.toInt ≤ 6 := by
    have h := (t0 10 _ rfl).1
    rw [r0_10] at h
    obtain ⟨y, e, l1, u1⟩ := vty0 h rfl
    obtain rfl := Value.int.inj e
    exact ⟨l1, u1⟩
  have r0_11 : g0 11 = .ref (ad 8) := vty2 (t0 11 _ rfl).1 rfl
  have r0_12 : g0 12 = .ref (ad 9) := vty2 (t0 12 _ rfl).1 rfl
  have r0_13 : g0 13 = .ref (ad 10) := vty2 (t0 13 _ rfl).1 rfl
  have r0_16 : g0 16 = .int c := Option.some.inj ((t0 16 _ rfl).2.symm.trans ec)
  have b0_16 : 0 ≤ c.toInt ∧ c.toInt ≤ 8 := by
    have h := (t0 16 _ rfl).1
    rw [r0_16] at h
    obtain ⟨y, e, l1, u1⟩ := vty0 h rfl
    obtain rfl := Value.int.inj e
    exact ⟨l1, u1⟩
  have r0_17 : g0 17 = .ref (ad 13) := vty2 (t0 17 _ rfl).1 rfl
  have r0_18 : g0 18 = .ref (ad 14) := vty2 (t0 18 _ rfl).1 rfl
  have r0_19 : g0 19 = .int n := Option.some.inj ((t0 19 _ rfl).2.symm.trans en)
  have b0_19 : 0 ≤ n.toInt ∧ n.toInt ≤ 80 := by
    have h := (t0 19 _ rfl).1
    rw [r0_19] at h
    obtain ⟨y, e, l1, u1⟩ := vty0 h rfl
    obtain rfl := Value.int.inj e
    exact ⟨l1, u1⟩
  obtain ⟨y0_20, r0_20, -, -⟩ := vty0 (t0 20 _ rfl).1 rfl
  obtain ⟨y0_21, r0_21, -, -⟩ := vty0 (t0 21 _ rfl).1 rfl
  obtain ⟨y0_22, r0_22, -, -⟩ := vty0 (t0 22 _ rfl).1 rfl
  have c0 : w0[0]? = some ((ad 0), ob 11 [.int y0_0, (g0 1), (g0 2), .int h, .ref (ad 2), .ref (ad 3), .ref (ad 4), .ref (ad 5), .ref (ad 6), .ref (ad 7), .int s, .ref (ad 8), .ref (ad 9), .ref (ad 10), (g0 14), (g0 15), .int c, .ref (ad 13), .ref (ad 14), .int n, .int y0_20, .int y0_21, .int y0_22, (g0 23), (g0 24), (g0 25), (g0 26), (g0 27), (g0 28), (g0 29), (g0 30), (g0 31), (g0 32), (g0 33), (g0 34), (g0 35), (g0 36), (g0 37), (g0 38), (g0 39), (g0 40), (g0 41), (g0 42), (g0 43), (g0 44), (g0 45), (g0 46), (g0 47), (g0 48), (g0 49), (g0 50), (g0 51), (g0 52), (g0 53), (g0 54), (g0 55), (g0 56), (g0 57), (g0 58), (g0 59), (g0 60), (g0 61), (g0 62), (g0 63), (g0 64), (g0 65), (g0 66), (g0 67), (g0 68), (g0 69), (g0 70), (g0 71), (g0 72), (g0 73), (g0 74)]) := by
    rw [q0]
    show some (ad 0, ob 11 [g0 0, g0 1, g0 2, g0 3, g0 4, g0 5, g0 6, g0 7, g0 8, g0 9, g0 10, g0 11, g0 12, g0 13, g0 14, g0 15, g0 16, g0 17, g0 18, g0 19, g0 20, g0 21, g0 22, g0 23, g0 24, g0 25, g0 26, g0 27, g0 28, g0 29, g0 30, g0 31, g0 32, g0 33, g0 34, g0 35, g0 36, g0 37, g0 38, g0 39, g0 40, g0 41, g0 42, g0 43, g0 44, g0 45, g0 46, g0 47, g0 48, g0 49, g0 50, g0 51, g0 52, g0 53, g0 54, g0 55, g0 56, g0 57, g0 58, g0 59, g0 60, g0 61, g0 62, g0 63, g0 64, g0 65, g0 66, g0 67, g0 68, g0 69, g0 70, g0 71, g0 72, g0 73, g0 74]) = _
    rw [r0_0, r0_3, r0_4, r0_5, r0_6, r0_7, r0_8, r0_9, r0_10, r0_11, r0_12, r0_13, r0_16, r0_17, r0_18, r0_19, r0_20, r0_21, r0_22]
  obtain ⟨f14, c14, -⟩ := WT.ints hW (k := 14) rfl
  have ef14 : f14 = f := arrinj ((cgetI c14 0).symm.trans ef)
  rw [ef14] at c14
  obtain ⟨f2, c2, -⟩ := WT.ints hW (k := 2) rfl
  obtain ⟨f3, c3, -⟩ := WT.ints hW (k := 3) rfl
  obtain ⟨f4, c4, -⟩ := WT.ints hW (k := 4) rfl
  obtain ⟨f5, c5, -⟩ := WT.ints hW (k := 5) rfl
  obtain ⟨f6, c6, -⟩ := WT.ints hW (k := 6) rfl
  obtain ⟨f7, c7, -⟩ := WT.ints hW (k := 7) rfl
  obtain ⟨f8, c8, -⟩ := WT.ints hW (k := 8) rfl
  obtain ⟨f9, c9, -⟩ := WT.ints hW (k := 9) rfl
  obtain ⟨f10, c10, -⟩ := WT.bools hW (k := 10) rfl
  obtain ⟨f13, c13, -⟩ := WT.ints hW (k := 13) rfl
  have h2 := cm_X11_mill l G (ad 0) y0_0 (g0 1) (g0 2) h (ad 2) (ad 3) (ad 4) (ad 5) (ad 6) (ad 7) s (ad 8) (ad 9) (ad 10) (g0 14) (g0 15) c (ad 13) (ad 14) n y0_20 y0_21 y0_22 (g0 23) (g0 24) (g0 25) (g0 26) (g0 27) (g0 28) (g0 29) (g0 30) (g0 31) (g0 32) (g0 33) (g0 34) (g0 35) (g0 36) (g0 37) (g0 38) (g0 39) (g0 40) (g0 41) (g0 42) (g0 43) (g0 44) (g0 45) (g0 46) (g0 47) (g0 48) (g0 49) (g0 50) (g0 51) (g0 52) (g0 53) (g0 54) (g0 55) (g0 56) (g0 57) (g0 58) (g0 59) (g0 60) (g0 61) (g0 62) (g0 63) (g0 64) (g0 65) (g0 66) (g0 67) (g0 68) (g0 69) (g0 70) (g0 71) (g0 72) (g0 73) (g0 74) f f2 f3 f4 f5 f6 f7 f8 f9 f10 f13 n.toInt h.toInt s.toInt c.toInt rfl rfl rfl rfl (by omega) (by omega)
  refine Ct.weak (Ct.and (show Ct l G yX11_mill cX11_mill 10 (some .int) { frames := 5, cells := 0, slots := 0, locals := 110 } [.ref (ad 0)] w0 (fun r w1 => POST G ad TM C_mill1 (fun k => ((Value.ref (ad 0) :: ([] : List Value))[k]?).getD .null) w0 r w1) from ac_mill1 l G ad w0 _ hW (pre_mu (C := C_mill1) (ts := []) (As := []) rfl rfl rfl rfl trivial ad w0 rfl)) h2 [0, 14, 2, 3, 4, 5, 6, 7, 8, 9, 10, 13] (pk_cons c0 (pk_cons c14 (pk_cons c2 (pk_cons c3 (pk_cons c4 (pk_cons c5 (pk_cons c6 (pk_cons c7 (pk_cons c8 (pk_cons c9 (pk_cons c10 (pk_cons c13 rfl)))))))))))) (by decide)) ?_
  rintro r w1 ⟨hp, w2, ⟨lim2, q, fi2, hc2, sc2, cc2, fp2, fx2, fy2, fr2, fu2, fd2, ff2, fo2, fa2, fw2, rz, hCN, hA7, hE4, hE5, hE8, hB, rfl, rfl⟩, hS⟩
  obtain ⟨A1, hA1, μ2, -, -, -, -, -, -, hW1, hF1⟩ := hp
  obtain ⟨fs0, -, u0, ul0, -, -⟩ := WT.obj hW1 (k := 0) (j := 0) rfl rfl
  obtain ⟨p2, u2, -⟩ := WT.ints hW1 (k := 2) rfl
  obtain ⟨p3, u3, -⟩ := WT.ints hW1 (k := 3) rfl
  obtain ⟨p4, u4, -⟩ := WT.ints hW1 (k := 4) rfl
  obtain ⟨p5, u5, -⟩ := WT.ints hW1 (k := 5) rfl
  obtain ⟨p6, u6, -⟩ := WT.ints hW1 (k := 6) rfl
  obtain ⟨p7, u7, -⟩ := WT.ints hW1 (k := 7) rfl
  obtain ⟨p8, u8, -⟩ := WT.ints hW1 (k := 8) rfl
  obtain ⟨p9, u9, -⟩ := WT.ints hW1 (k := 9) rfl
  obtain ⟨p10, u10, -⟩ := WT.bools hW1 (k := 10) rfl
  obtain ⟨p13, u13, -⟩ := WT.ints hW1 (k := 13) rfl
  obtain ⟨p14, u14, -⟩ := WT.ints hW1 (k := 14) rfl
  exact ⟨hW1, hF1, rz, hc2, sc2, cc2, rfl, hCN, hB, (same_f hS (k := 0) (j := 0) (q := (RX11, TX11, 75)) rfl u0 rfl (by decide) ul0 rfl), (same_f hS (k := 0) (j := 0) (q := (RX11, TX11, 75)) rfl u0 rfl (by decide) ul0 rfl), (same_f hS (k := 0) (j := 0) (q := (RX11, TX11, 75)) rfl u0 rfl (by decide) ul0 rfl), (same_f hS (k := 0) (j := 0) (q := (RX11, TX11, 75)) rfl u0 rfl (by decide) ul0 rfl)⟩
set_option maxHeartbeats 4000000 in
set_option maxRecDepth 100000 in
theorem ac_sgx (l : Launch) (G : KG) {ad : Nat → Nat} {w0 : va_W} {n v : Int32} {f : Nat → Int32} (hW : WT G ad TX w0) (en : fget w0 3 1 = some (.int n)) (ef : cget w0 4 0 = some (.inr (cyI G, 80, .inl f))) (hn0 : 0 ≤ n.toInt ∧ n.toInt ≤ 76) : Ct l G yX10_sign cX10_sign 2 (some .int) { frames := 1, cells := 0, slots := 0, locals := 22 } [.ref (ad 0), .int v] w0 (fun r w1 => WT G ad TX w1 ∧ FRM C_v_X10_sign_0.2.2.2.2.1 w0 w1 ∧ SgnE G 3 1 4 n f v r w1) := by
  obtain ⟨g0, q0, t0⟩ := WT.tab hW (k := 0) rfl
  have r0_1 : g0 1 = .ref (ad 3) := vty2 (t0 1 _ rfl).1 rfl
  have c0 : w0[0]? = some ((ad 0), ob 10 [(g0 0), .ref (ad 3), (g0 2), (g0 3), (g0 4), (g0 5), (g0 6), (g0 7), (g0 8), (g0 9), (g0 10), (g0 11), (g0 12), (g0 13), (g0 14), (g0 15)]) := by
    rw [q0]
    show some (ad 0, ob 10 [g0 0, g0 1, g0 2, g0 3, g0 4, g0 5, g0 6, g0 7, g0 8, g0 9, g0 10, g0 11, g0 12, g0 13, g0 14, g0 15]) = _
    rw [r0_1]
  obtain ⟨g3, q3, t3⟩ := WT.tab hW (k := 3) rfl
  have r3_0 : g3 0 = .ref (ad 4) := vty2 (t3 0 _ rfl).1 rfl
  have r3_1 : g3 1 = .int n := Option.some.inj ((t3 1 _ rfl).2.symm.trans en)
  have b3_1 : 0 ≤ n.toInt ∧ n.toInt ≤ 80 := by
    have h := (t3 1 _ rfl).1
    rw [r3_1] at h
    obtain ⟨y, e, l1, u1⟩ := vty0 h rfl
    obtain rfl := Value.int.inj e
    exact ⟨l1, u1⟩
  obtain ⟨y3_2, r3_2, -, -⟩ := vty0 (t3 2 _ rfl).1 rfl
  obtain ⟨y3_3, r3_3, -, -⟩ := vty0 (t3 3 _ rfl).1 rfl
  obtain ⟨y3_4, r3_4, -, -⟩ := vty0 (t3 4 _ rfl).1 rfl
  obtain ⟨y3_5, r3_5, -, -⟩ := vty0 (t3 5 _ rfl).1 rfl
  obtain ⟨y3_6, r3_6, -, -⟩ := vty0 (t3 6 _ rfl).1 rfl
  obtain ⟨y3_7, r3_7, -, -⟩ := vty0 (t3 7 _ rfl).1 rfl
  have c3 : w0[3]? = some ((ad 3), ob 4 [.ref (ad 4), .int n, .int y3_2, .int y3_3, .int y3_4, .int y3_5, .int y3_6, .int y3_7]) := by
    rw [q3]
    show some (ad 3, ob 4 [g3 0, g3 1, g3 2, g3 3, g3 4, g3 5, g3 6, g3 7]) = _
    rw [r3_0, r3_1, r3_2, r3_3, r3_4, r3_5, r3_6, r3_7]
  obtain ⟨f4, c4, -⟩ := WT.ints hW (k := 4) rfl
  have ef4 : f4 = f := arrinj ((cgetI c4 0).symm.trans ef)
  rw [ef4] at c4
  have h2 := cm_X10_sign l G (ad 0) (g0 0) (g0 2) (g0 3) (g0 4) (g0 5) (g0 6) (g0 7) (g0 8) (g0 9) (g0 10) (g0 11) (g0 12) (g0 13) (g0 14) (g0 15) (ad 3) (ad 4) f n y3_2 y3_3 y3_4 y3_5 y3_6 y3_7 v n.toInt rfl (by omega)
  refine Ct.weak (Ct.and (show Ct l G yX10_sign cX10_sign 2 (some .int) { frames := 1, cells := 0, slots := 0, locals := 22 } [.ref (ad 0), .int v] w0 (fun r w1 => POST G ad TX C_v_X10_sign_0 (muF (ad 0) [.int v] [.int n]) w0 r w1) from ac_v_X10_sign_0 l G ad w0 _ hW (pre_F (C := C_v_X10_sign_0) (ts := [tI0]) (As := [.int v]) (t0 := (0, 0, 76)) rfl rfl (Nat.le_of_ble_eq_true rfl) ⟨fun _ => vty_i0 _, trivial⟩ (fun _ => vty_i hn0.1 hn0.2) (fun q hq => by cases hq) ad w0 rfl en)) h2 [0, 3, 4] (pk_cons c0 (pk_cons c3 (pk_cons c4 rfl))) (by decide)) ?_
  rintro r w1 ⟨hp, w2, ⟨n2, f2, hn2, hf2, rfl, rfl⟩, hS⟩
  obtain ⟨A1, hA1, μ2, -, -, -, -, -, -, hW1, hF1⟩ := hp
  obtain ⟨fs0, -, u0, ul0, -, -⟩ := WT.obj hW1 (k := 0) (j := 0) rfl rfl
  obtain ⟨fs3, -, u3, ul3, -, -⟩ := WT.obj hW1 (k := 3) (j := 0) rfl rfl
  obtain ⟨p4, u4, -⟩ := WT.ints hW1 (k := 4) rfl
  exact ⟨hW1, hF1, n2, p4, rfl, hn2, (same_f hS (k := 3) (j := 1) (q := (RX4, TX4, 8)) rfl u3 rfl (by decide) ul3 rfl), cgetI u4 0, fun k hk => ((same_I hS (k := 4) (j := 2) u4 rfl) k hk).trans (hf2 k)⟩
set_option maxHeartbeats 4000000 in
set_option maxRecDepth 100000 in
theorem ac_sgm (l : Launch) (G : KG) {ad : Nat → Nat} {w0 : va_W} {n v : Int32} {f : Nat → Int32} (hW : WT G ad TM w0) (en : fget w0 0 19 = some (.int n)) (ef : cget w0 14 0 = some (.inr (cyI G, 80, .inl f))) (hn0 : 0 ≤ n.toInt ∧ n.toInt ≤ 76) : Ct l G yX11_sign cX11_sign 3 (some .int) { frames := 0, cells := 0, slots := 0, locals := 0 } [.ref (ad 0), .int v] w0 (fun r w1 => WT G ad TM w1 ∧ FRM C_v_X11_sign_0.2.2.2.2.1 w0 w1 ∧ SgnE G 0 19 14 n f v r w1) := by
  obtain ⟨g0, q0, t0⟩ := WT.tab hW (k := 0) rfl
  obtain ⟨y0_0, r0_0, -, -⟩ := vty0 (t0 0 _ rfl).1 rfl
  obtain ⟨y0_3, r0_3, -, -⟩ := vty0 (t0 3 _ rfl).1 rfl
  have r0_4 : g0 4 = .ref (ad 2) := vty2 (t0 4 _ rfl).1 rfl
  have r0_5 : g0 5 = .ref (ad 3) := vty2 (t0 5 _ rfl).1 rfl
  have r0_6 : g0 6 = .ref (ad 4) := vty2 (t0 6 _ rfl).1 rfl
  have r0_7 : g0 7 = .ref (ad 5) := vty2 (t0 7 _ rfl).1 rfl
  have r0_8 : g0 8 = .ref (ad 6) := vty2 (t0 8 _ rfl).1 rfl
  have r0_9 : g0 9 = .ref (ad 7) := vty2 (t0 9 _ rfl).1 rfl
  obtain ⟨y0_10, r0_10, -, -⟩ := vty0 (t0 10 _ rfl).1 rfl
  have r0_11 : g0 11 = .ref (ad 8) := vty2 (t0 11 _ rfl).1 rfl
  have r0_12 : g0 12 = .ref (ad 9) := vty2 (t0 12 _ rfl).1 rfl
  have r0_13 : g0 13 = .ref (ad 10) := vty2 (t0 13 _ rfl).1 rfl
  obtain ⟨y0_16, r0_16, -, -⟩ := vty0 (t0 16 _ rfl).1 rfl
  have r0_17 : g0 17 = .ref (ad 13) := vty2 (t0 17 _ rfl).1 rfl
  have r0_18 : g0 18 = .ref (ad 14) := vty2 (t0 18 _ rfl).1 rfl
  have r0_19 : g0 19 = .int n := Option.some.inj ((t0 19 _ rfl).2.symm.trans en)
  have b0_19 : 0 ≤ n.toInt ∧ n.toInt ≤ 80 := by
    have h := (t0 19 _ rfl).1
    rw [r0_19] at h
    obtain ⟨y, e, l1, u1⟩ := vty0 h rfl
    obtain rfl := Value.int.inj e
    exact ⟨l1, u1⟩
  obtain ⟨y0_20, r0_20, -, -⟩ := vty0 (t0 20 _ rfl).1 rfl
  obtain ⟨y0_21, r0_21, -, -⟩ := vty0 (t0 21 _ rfl).1 rfl
  obtain ⟨y0_22, r0_22, -, -⟩ := vty0 (t0 22 _ rfl).1 rfl
  have c0 : w0[0]? = some ((ad 0), ob 11 [.int y0_0, (g0 1), (g0 2), .int y0_3, .ref (ad 2), .ref (ad 3), .ref (ad 4), .ref (ad 5), .ref (ad 6), .ref (ad 7), .int y0_10, .ref (ad 8), .ref (ad 9), .ref (ad 10), (g0 14), (g0 15), .int y0_16, .ref (ad 13), .ref (ad 14), .int n, .int y0_20, .int y0_21, .int y0_22, (g0 23), (g0 24), (g0 25), (g0 26), (g0 27), (g0 28), (g0 29), (g0 30), (g0 31), (g0 32), (g0 33), (g0 34), (g0 35), (g0 36), (g0 37), (g0 38), (g0 39), (g0 40), (g0 41), (g0 42), (g0 43), (g0 44), (g0 45), (g0 46), (g0 47), (g0 48), (g0 49), (g0 50), (g0 51), (g0 52), (g0 53), (g0 54), (g0 55), (g0 56), (g0 57), (g0 58), (g0 59), (g0 60), (g0 61), (g0 62), (g0 63), (g0 64), (g0 65), (g0 66), (g0 67), (g0 68), (g0 69), (g0 70), (g0 71), (g0 72), (g0 73), (g0 74)]) := by
    rw [q0]
    show some (ad 0, ob 11 [g0 0, g0 1, g0 2, g0 3, g0 4, g0 5, g0 6, g0 7, g0 8, g0 9, g0 10, g0 11, g0 12, g0 13, g0 14, g0 15, g0 16, g0 17, g0 18, g0 19, g0 20, g0 21, g0 22, g0 23, g0 24, g0 25, g0 26, g0 27, g0 28, g0 29, g0 30, g0 31, g0 32, g0 33, g0 34, g0 35, g0 36, g0 37, g0 38, g0 39, g0 40, g0 41, g0 42, g0 43, g0 44, g0 45, g0 46, g0 47, g0 48, g0 49, g0 50, g0 51, g0 52, g0 53, g0 54, g0 55, g0 56, g0 57, g0 58, g0 59, g0 60, g0 61, g0 62, g0 63, g0 64, g0 65, g0 66, g0 67, g0 68, g0 69, g0 70, g0 71, g0 72, g0 73, g0 74]) = _
    rw [r0_0, r0_3, r0_4, r0_5, r0_6, r0_7, r0_8, r0_9, r0_10, r0_11, r0_12, r0_13, r0_16, r0_17, r0_18, r0_19, r0_20, r0_21, r0_22]
  obtain ⟨f14, c14, -⟩ := WT.ints hW (k := 14) rfl
  have ef14 : f14 = f := arrinj ((cgetI c14 0).symm.trans ef)
  rw [ef14] at c14
  have h2 := cm_X11_sign l G (ad 0) y0_0 (g0 1) (g0 2) y0_3 (ad 2) (ad 3) (ad 4) (ad 5) (ad 6) (ad 7) y0_10 (ad 8) (ad 9) (ad 10) (g0 14) (g0 15) y0_16 (ad 13) (ad 14) n y0_20 y0_21 y0_22 (g0 23) (g0 24) (g0 25) (g0 26) (g0 27) (g0 28) (g0 29) (g0 30) (g0 31) (g0 32) (g0 33) (g0 34) (g0 35) (g0 36) (g0 37) (g0 38) (g0 39) (g0 40) (g0 41) (g0 42) (g0 43) (g0 44) (g0 45) (g0 46) (g0 47) (g0 48) (g0 49) (g0 50) (g0 51) (g0 52) (g0 53) (g0 54) (g0 55) (g0 56) (g0 57) (g0 58) (g0 59) (g0 60) (g0 61) (g0 62) (g0 63) (g0 64) (g0 65) (g0 66) (g0 67) (g0 68) (g0 69) (g0 70) (g0 71) (g0 72) (g0 73) (g0 74) f v n.toInt rfl (by omega)
  refine Ct.weak (Ct.and (show Ct l G yX11_sign cX11_sign 3 (some .int) { frames := 0, cells := 0, slots := 0, locals := 0 } [.ref (ad 0), .int v] w0 (fun r w1 => POST G ad TM C_v_X11_sign_0 (muF (ad 0) [.int v] [.int n]) w0 r w1) from ac_v_X11_sign_0 l G ad w0 _ hW (pre_F (C := C_v_X11_sign_0) (ts := [tI0]) (As := [.int v]) (t0 := (0, 0, 76)) rfl rfl (Nat.le_of_ble_eq_true rfl) ⟨fun _ => vty_i0 _, trivial⟩ (fun _ => vty_i hn0.1 hn0.2) (fun q hq => by cases hq) ad w0 rfl en)) h2 [0, 14] (pk_cons c0 (pk_cons c14 rfl)) (by decide)) ?_
  rintro r w1 ⟨hp, w2, ⟨n2, f2, hn2, hf2, rfl, rfl⟩, hS⟩
  obtain ⟨A1, hA1, μ2, -, -, -, -, -, -, hW1, hF1⟩ := hp
  obtain ⟨fs0, -, u0, ul0, -, -⟩ := WT.obj hW1 (k := 0) (j := 0) rfl rfl
  obtain ⟨p14, u14, -⟩ := WT.ints hW1 (k := 14) rfl
  exact ⟨hW1, hF1, n2, p14, rfl, hn2, (same_f hS (k := 0) (j := 0) (q := (RX11, TX11, 75)) rfl u0 rfl (by decide) ul0 rfl), cgetI u14 0, fun k hk => ((same_I hS (k := 14) (j := 1) u14 rfl) k hk).trans (hf2 k)⟩
end
section
/-! the relation: the same signs on both tapes, as many holes, speeds and cogs -/
theorem lim60 (n : Int32) : (if 60 < n then 60 else n : Int32).toInt ≤ 60 := by
  have h : (if 60 < n then 60 else n : Int32).toInt = min n.toInt 60 := tI_min rfl (show (60 : Int32).toInt = 60 from by decide)
  omega
theorem MilE.ret {kn jn kh jh ks js kc jc : Nat} {n : Int32} {f : Nat → Int32} {h s c : Int32} {r : Option Value} {w1 : va_W} (H : MilE kn jn kh jh ks js kc jc n f h s c r w1) : ∃ v : Int32, r = some (.int v) := by
  obtain ⟨v, h2, s2, c2, e, -⟩ := H
  exact ⟨v, e⟩
theorem MilE.app {kn jn kh jh ks js kc jc : Nat} {n : Int32} {f : Nat → Int32} {h s c : Int32} {r : Option Value} {w1 wc : va_W} (hk : kn < w1.length ∧ kh < w1.length ∧ ks < w1.length ∧ kc < w1.length) (H : MilE kn jn kh jh ks js kc jc n f h s c r w1) : MilE kn jn kh jh ks js kc jc n f h s c r (w1 ++ wc) := by
  obtain ⟨v, h2, s2, c2, e, hC, hB, f1, f2, f3, f4⟩ := H
  exact ⟨v, h2, s2, c2, e, hC, hB, by rw [fget_app hk.1]; exact f1, by rw [fget_app hk.2.1]; exact f2, by rw [fget_app hk.2.2.1]; exact f3, by rw [fget_app hk.2.2.2]; exact f4⟩
theorem SgnE.ret {G : KG} {kn jn kt : Nat} {n v : Int32} {f : Nat → Int32} {r : Option Value} {w1 : va_W} (H : SgnE G kn jn kt n f v r w1) : ∃ v : Int32, r = some (.int v) := by
  obtain ⟨v, f2, e, -⟩ := H
  exact ⟨v, e⟩
theorem SgnE.app {G : KG} {kn jn kt : Nat} {n v : Int32} {f : Nat → Int32} {r : Option Value} {w1 wc : va_W} (hk : kn < w1.length ∧ kt < w1.length) (H : SgnE G kn jn kt n f v r w1) : SgnE G kn jn kt n f v r (w1 ++ wc) := by
  obtain ⟨n2, f2, e, h1, f1, f3, f4⟩ := H
  exact ⟨n2, f2, e, h1, by rw [fget_app hk.1]; exact f1, by rw [cget_app hk.2]; exact f3, f4⟩
def RelM (G : KG) (wx wm : va_W) : Prop :=
  ∃ (n h s c : Int32) (f g : Nat → Int32), (0 ≤ n.toInt ∧ n.toInt ≤ 80) ∧ ((0 ≤ h.toInt ∧ h.toInt ≤ 16) ∧ (0 ≤ s.toInt ∧ s.toInt ≤ 6) ∧ (0 ≤ c.toInt ∧ c.toInt ≤ 8)) ∧ TE80 f g ∧ (fget wx 3 1 = some (.int n) ∧ fget wm 0 19 = some (.int n)) ∧ (fget wx 5 0 = some (.int h) ∧ fget wm 0 3 = some (.int h)) ∧ (fget wx 12 0 = some (.int s) ∧ fget wm 0 10 = some (.int s)) ∧ (fget wx 18 0 = some (.int c) ∧ fget wm 0 16 = some (.int c)) ∧ cget wx 4 0 = some (.inr (cyI G, 80, .inl f)) ∧ cget wm 14 0 = some (.inr (cyI G, 80, .inl g))
abbrev mN (m m' : List (Nat × Nat)) : Prop := mkq m 3 1 = false ∧ mkq m' 0 19 = false
abbrev mT (m m' : List (Nat × Nat)) : Prop := mkq m 4 0 = false ∧ mkq m' 14 0 = false
abbrev mC (m m' : List (Nat × Nat)) : Prop := (mkq m 5 0 = false ∧ mkq m' 0 3 = false) ∧ (mkq m 12 0 = false ∧ mkq m' 0 10 = false) ∧ (mkq m 18 0 = false ∧ mkq m' 0 16 = false)
section RLM
variable {G : KG} {wx wm wx' wm' : va_W} {m m' : List (Nat × Nat)}
theorem RelM.keep (h : RelM G wx wm) (h1 : FX m 109 wx wx') (h2 : FX m' 47 wm wm') (hm : mN m m' ∧ mT m m' ∧ mC m m') : RelM G wx' wm' := by
  obtain ⟨n, a, s, c, f, g, rn, rc, e, ⟨n1, n2⟩, ⟨a1, a2⟩, ⟨s1, s2⟩, ⟨c1, c2⟩, t1, t2⟩ := h
  obtain ⟨⟨m1, m2⟩, ⟨m3, m4⟩, ⟨m5, m6⟩, ⟨m7, m8⟩, m9, ma⟩ := hm
  exact ⟨n, a, s, c, f, g, rn, rc, e, ⟨h1.get (by decide) m1 n1, h2.get (by decide) m2 n2⟩, ⟨h1.get (by decide) m5 a1, h2.get (by decide) m6 a2⟩, ⟨h1.get (by decide) m7 s1, h2.get (by decide) m8 s2⟩, ⟨h1.get (by decide) m9 c1, h2.get (by decide) ma c2⟩, (h1 4 0 (by decide) m3).trans t1, (h2 14 0 (by decide) m4).trans t2⟩
theorem RelM.toT (h : RelM G wx wm) : RelT wx wm := by
  obtain ⟨n, a, s, c, f, g, rn, rc, e, ⟨n1, n2⟩, -⟩ := h
  exact ⟨n, rn.1, rn.2, n1, n2⟩
/-- another number of signs -/
theorem RelM.len (h : RelM G wx wm) (h1 : FX m 109 wx wx') (h2 : FX m' 47 wm wm') (hm : mT m m' ∧ mC m m') {q : Int32} (q0 : 0 ≤ q.toInt) (q1 : q.toInt ≤ 80) (e1 : fget wx' 3 1 = some (.int q)) (e2 : fget wm' 0 19 = some (.int q)) : RelM G wx' wm' := by
  obtain ⟨n, a, s, c, f, g, rn, rc, e, ⟨n1, n2⟩, ⟨a1, a2⟩, ⟨s1, s2⟩, ⟨c1, c2⟩, t1, t2⟩ := h
  obtain ⟨⟨m3, m4⟩, ⟨m5, m6⟩, ⟨m7, m8⟩, m9, ma⟩ := hm
  exact ⟨q, a, s, c, f, g, ⟨q0, q1⟩, rc, e, ⟨e1, e2⟩, ⟨h1.get (by decide) m5 a1, h2.get (by decide) m6 a2⟩, ⟨h1.get (by decide) m7 s1, h2.get (by decide) m8 s2⟩, ⟨h1.get (by decide) m9 c1, h2.get (by decide) ma c2⟩, (h1 4 0 (by decide) m3).trans t1, (h2 14 0 (by decide) m4).trans t2⟩
/-- four signs more -/
theorem RelM.sgn (h : RelM G wx wm) (h1 : FX m 109 wx wx') (h2 : FX m' 47 wm wm') (hm : mC m m') {n v v1 v2 : Int32} {f g : Nat → Int32} (hn : 0 ≤ n.toInt ∧ n.toInt ≤ 76) (e : TE80 f g) (A : SgnE G 3 1 4 n f v (some (.int v1)) wx') (B : SgnE G 0 19 14 n g v (some (.int v2)) wm') : v1 = v2 ∧ RelM G wx' wm' := by
  obtain ⟨_, a, s, c, _, _, _, rc, _, _, ⟨a1, a2⟩, ⟨s1, s2⟩, ⟨c1, c2⟩, _, _⟩ := h
  obtain ⟨⟨m5, m6⟩, ⟨m7, m8⟩, m9, ma⟩ := hm
  obtain ⟨q1, f1, r1, x1, y1, z1, u1⟩ := A
  obtain ⟨q2, f2, r2, x2, y2, z2, u2⟩ := B
  have r1 : v1 = q1 := Value.int.inj (Option.some.inj r1)
  have r2 : v2 = q2 := Value.int.inj (Option.some.inj r2)
  have e12 : q1 = q2 := Int32.toInt_inj.mp (by omega)
  subst e12
  refine ⟨r1.trans r2.symm, q1, a, s, c, f1, f2, by omega, rc, fun k hk => ?_, ⟨y1, y2⟩, ⟨h1.get (by decide) m5 a1, h2.get (by decide) m6 a2⟩, ⟨h1.get (by decide) m7 s1, h2.get (by decide) m8 s2⟩, ⟨h1.get (by decide) m9 c1, h2.get (by decide) ma c2⟩, z1, z2⟩
  rw [u1 k hk, u2 k hk]
  exact cg_w4 e _ _ k hk
/-- what mill leaves -/
theorem RelM.mil (h1 : FX m 109 wx wx') (h2 : FX m' 47 wm wm') (hm : mT m m') {n a s c v1 v2 : Int32} {f g : Nat → Int32} (e : TE80 f g) (t1 : cget wx 4 0 = some (.inr (cyI G, 80, .inl f))) (t2 : cget wm 14 0 = some (.inr (cyI G, 80, .inl g))) (A : MilE 3 1 5 0 12 0 18 0 n f a s c (some (.int v1)) wx') (B : MilE 0 19 0 3 0 10 0 16 n g a s c (some (.int v2)) wm') : v1 = v2 ∧ RelM G wx' wm' := by
  obtain ⟨q1, a1, s1, c1, r1, C1, b1, x1, x2, x3, x4⟩ := A
  obtain ⟨q2, a2, s2, c2, r2, C2, b2, y1, y2, y3, y4⟩ := B
  have r1 : v1 = q1 := Value.int.inj (Option.some.inj r1)
  have r2 : v2 = q2 := Value.int.inj (Option.some.inj r2)
  rw [cg_run0 e (lim60 n)] at C1
  obtain ⟨d1, d2, d3, d4⟩ := C1.same C2
  have d1 := Int32.toInt_inj.mp d1
  have d2 := Int32.toInt_inj.mp d2
  have d3 := Int32.toInt_inj.mp d3
  have d4 := Int32.toInt_inj.mp d4
  subst d1
  subst d2
  subst d3
  subst d4
  exact ⟨r1.trans r2.symm, 0, a1, s1, c1, f, g, by decide, b1, e, ⟨x1, y1⟩, ⟨x2, y2⟩, ⟨x3, y3⟩, ⟨x4, y4⟩, (h1 4 0 (by decide) hm.1).trans t1, (h2 14 0 (by decide) hm.2).trans t2⟩
end RLM
end
section
/-! an array written one place further -/
theorem st_step {g F : Nat → Int32} {i x : Int32} (h0 : 0 ≤ i.toInt) (hg : ∀ j : Nat, (j : Int) < i.toInt → g j = F j) (hx : x = F i.toInt.toNat) : ∀ j : Nat, (j : Int) < i.toInt + 1 → upd g i.toNatClampNeg x j = F j := by
  intro j hj
  by_cases e : j = i.toInt.toNat
  · subst e
    exact (upd_at (f := g) (k := i.toNatClampNeg) (x := x)).trans hx
  · rw [upd_off (show j ≠ i.toNatClampNeg from e)]
    exact hg j (by omega)
end
section
/-! what the typed worlds tell -/
theorem WT.longs {G : KG} {ad : Nat → Nat} {T : List TE} {ws : va_W} (h : WT G ad T ws) {k n : Nat} {t : VT} (hT : T[k]? = some (.inr (1, n, t))) : ∃ f, ws[k]? = some (ad k, aJ G n f) ∧ True := by
  obtain ⟨en, h1, h2⟩ := h.arr hT
  rcases h2 with ⟨h9, -⟩ | ⟨-, f, rfl⟩ | ⟨h9, -⟩ | ⟨h9, -⟩
  · cases h9
  · exact ⟨f, h1, trivial⟩
  · cases h9
  · cases h9
theorem fint_b {G : KG} {ad : Nat → Nat} {T : List TE} {w0 : va_W} (hW : WT G ad T w0) {k ci j : Nat} {ts : List VT} {a b : Int} {x : Int32} (hT : T[k]? = some (.inl (ci, ts))) (ht : ts[j]? = some (0, a, b)) (e : fget w0 k j = some (.int x)) : a ≤ x.toInt ∧ x.toInt ≤ b := by
  obtain ⟨fs, v, h1, h2, h3, h4⟩ := WT.obj hW hT ht
  rw [fget_of h1] at e
  have e : fs[j]? = some (.int x) := e
  rw [h3] at e
  obtain rfl := Option.some.inj e
  obtain ⟨y, e2, l1, u1⟩ := vty0 h4 rfl
  obtain rfl := Value.int.inj e2
  exact ⟨l1, u1⟩
theorem ref_pfx {G : KG} {ad : Nat → Nat} {w0 : va_W} (hW : WT G ad TM w0) {k n c : Nat} {a b : Int} {x : Int32} {f : Nat → Int32} (hT : TM[k]? = some (.inr (0, n, (c, a, b)))) (hc : 2 ≤ c) (h1 : pkd c ≤ 1) (e : fget w0 (pcl c) (pfl c) = some (.int x)) (ef : cget w0 k 0 = some (.inr (cyI G, n, .inl f))) : ∀ j : Nat, j < n → (j : Int) < x.toInt → ((pkd c : Nat) : Int) ≤ (f j).toInt := by
  intro j hj hx
  obtain ⟨g, g1, -⟩ := WT.ints hW hT
  obtain rfl := arrinj (ef.symm.trans (cgetI g1 0))
  rcases hW.2.2 k n (c, a, b) _ _ _ j hT hc g1 e hj with ⟨-, q⟩ | ⟨q, -⟩
  · exact q hx
  · exact absurd h1 (by show ¬ pkd c ≤ 1; have q : 2 ≤ pkd c := q; omega)
theorem ref_plane {G : KG} {ad : Nat → Nat} {w0 : va_W} (hW : WT G ad TM w0) {h : Int32} {f : Nat → Int32} (eh : fget w0 0 3 = some (.int h)) (ef : cget w0 2 0 = some (.inr (cyI G, 16, .inl f))) : ∀ j : Nat, (j : Int) < h.toInt → 0 ≤ (f j).toInt ∧ (f j).toInt ≤ 1 := by
  intro j hj
  have b := fint_b hW (k := 0) (j := 3) (a := 0) (b := 16) rfl rfl eh
  obtain ⟨g, g1, g2⟩ := WT.ints hW (k := 2) rfl
  obtain rfl := arrinj (ef.symm.trans (cgetI g1 0))
  exact ⟨ref_pfx hW (k := 2) (n := 16) (c := 14) rfl (by decide) (by decide) eh ef j (by omega) hj, (g2 j (by omega)).2.1⟩
theorem ref_factor {G : KG} {ad : Nat → Nat} {w0 : va_W} (hW : WT G ad TM w0) {s : Int32} {f : Nat → Int32} (es : fget w0 0 10 = some (.int s)) (ef : cget w0 8 0 = some (.inr (cyI G, 6, .inl f))) : ∀ j : Nat, (j : Int) < s.toInt → 1 ≤ (f j).toInt := by
  intro j hj
  have b := fint_b hW (k := 0) (j := 10) (a := 0) (b := 6) rfl rfl es
  exact ref_pfx hW (k := 8) (n := 6) (c := 43) rfl (by decide) (by decide) es ef j (by omega) hj
theorem ref_cross {G : KG} {ad : Nat → Nat} {w0 : va_W} (hW : WT G ad TM w0) {f : Nat → Int32} (ef : cget w0 15 0 = some (.inr (cyI G, 4, .inl f))) : ∀ j : Nat, j < 4 → -9 ≤ (f j).toInt ∧ (f j).toInt ≤ 9 := by
  intro j hj
  obtain ⟨g, g1, g2⟩ := WT.ints hW (k := 15) rfl
  obtain rfl := arrinj (ef.symm.trans (cgetI g1 0))
  exact ⟨(g2 j hj).1, (g2 j hj).2.1⟩
theorem mwx_wt {G : KG} {y : Nat} {wm : va_W} (h : MWx G y wm) : ∃ ad, WT G ad TM wm := by
  obtain ⟨ad, -, h⟩ := h
  exact ⟨ad, h⟩
end
