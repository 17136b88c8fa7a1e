theorem dm_X4_readLines_1 : decode cX4_readLines 1 = .ok (.getfield 15, 3) := by decide +kernel
theorem dm_X4_readLines_4 : decode cX4_readLines 4 = .ok (.ifCond .ne 5, 3) := by decide +kernel
theorem dm_X4_readLines_11 : decode cX4_readLines 11 = .ok (.getfield 15, 3) := by decide +kernel
theorem dm_X4_readLines_16 : decode cX4_readLines 16 = .ok (.invokestatic 19, 3) := by decide +kernel
theorem dm_X4_readLines_19 : decode cX4_readLines 19 = .ok (.putfield 25, 3) := by decide +kernel
theorem dm_X4_readLines_24 : decode cX4_readLines 24 = .ok (.putfield 28, 3) := by decide +kernel
theorem dm_X4_readLines_29 : decode cX4_readLines 29 = .ok (.putfield 31, 3) := by decide +kernel
theorem dm_X4_readLines_34 : decode cX4_readLines 34 = .ok (.putfield 34, 3) := by decide +kernel
theorem dm_X4_readLines_39 : decode cX4_readLines 39 = .ok (.putfield 37, 3) := by decide +kernel
theorem dm_X4_readLines_49 : decode cX4_readLines 49 = .ok (.if_icmp .gt 95, 3) := by decide +kernel
theorem dm_X4_readLines_146 : decode cX4_readLines 146 = .ok (.getfield 28, 3) := by decide +kernel
theorem dm_X4_readLines_150 : decode cX4_readLines 150 = .ok (.ireturn, 1) := by decide +kernel
theorem dm_X4_readLines_56 : decode cX4_readLines 56 = .ok (.invokevirtual 40, 3) := by decide +kernel
theorem dm_X4_readLines_59 : decode cX4_readLines 59 = .ok (.ifCond .ne 10, 3) := by decide +kernel
theorem dm_X4_readLines_70 : decode cX4_readLines 70 = .ok (.getfield 28, 3) := by decide +kernel
theorem dm_X4_readLines_74 : decode cX4_readLines 74 = .ok (.getfield 15, 3) := by decide +kernel
theorem dm_X4_readLines_77 : decode cX4_readLines 77 = .ok (.if_icmp .ne 45, 3) := by decide +kernel
theorem dm_X4_readLines_125 : decode cX4_readLines 125 = .ok (.invokevirtual 55, 3) := by decide +kernel
theorem dm_X4_readLines_128 : decode cX4_readLines 128 = .ok (.ifCond .ne 10, 3) := by decide +kernel
theorem dm_X4_readLines_141 : decode cX4_readLines 141 = .ok (.goto (-96), 3) := by decide +kernel
theorem dm_X4_readLines_133 : decode cX4_readLines 133 = .ok (.getfield 28, 3) := by decide +kernel
theorem dm_X4_readLines_137 : decode cX4_readLines 137 = .ok (.ireturn, 1) := by decide +kernel
theorem dm_X4_readLines_82 : decode cX4_readLines 82 = .ok (.getfield 44, 3) := by decide +kernel
theorem dm_X4_readLines_86 : decode cX4_readLines 86 = .ok (.getfield 31, 3) := by decide +kernel
theorem dm_X4_readLines_90 : decode cX4_readLines 90 = .ok (.putfield 44, 3) := by decide +kernel
theorem dm_X4_readLines_95 : decode cX4_readLines 95 = .ok (.getfield 49, 3) := by decide +kernel
theorem dm_X4_readLines_99 : decode cX4_readLines 99 = .ok (.getfield 34, 3) := by decide +kernel
theorem dm_X4_readLines_103 : decode cX4_readLines 103 = .ok (.putfield 49, 3) := by decide +kernel
theorem dm_X4_readLines_108 : decode cX4_readLines 108 = .ok (.getfield 52, 3) := by decide +kernel
theorem dm_X4_readLines_112 : decode cX4_readLines 112 = .ok (.getfield 37, 3) := by decide +kernel
theorem dm_X4_readLines_116 : decode cX4_readLines 116 = .ok (.putfield 52, 3) := by decide +kernel
theorem dm_X4_readLines_121 : decode cX4_readLines 121 = .ok (.ireturn, 1) := by decide +kernel
theorem dm_X4_readLines_64 : decode cX4_readLines 64 = .ok (.getfield 28, 3) := by decide +kernel
theorem dm_X4_readLines_68 : decode cX4_readLines 68 = .ok (.ireturn, 1) := by decide +kernel
theorem dm_X4_readLines_8 : decode cX4_readLines 8 = .ok (.ireturn, 1) := by decide +kernel
abbrev bm_X4_readLines_0_1 : ZB := [(.aload_n 0, .null)]
theorem km_X4_readLines_0_1 : zchk cX4_readLines bm_X4_readLines_0_1 0 = true ∧ zpc bm_X4_readLines_0_1 0 = 1 := ⟨by decide +kernel, rfl⟩
abbrev bm_X4_readLines_9_11 : ZB := [(.aload_n 0, .null), (.aload_n 0, .null)]
theorem km_X4_readLines_9_11 : zchk cX4_readLines bm_X4_readLines_9_11 9 = true ∧ zpc bm_X4_readLines_9_11 9 = 11 := ⟨by decide +kernel, rfl⟩
abbrev bm_X4_readLines_14_16 : ZB := [(.bipush 60, .int 60)]
theorem km_X4_readLines_14_16 : zchk cX4_readLines bm_X4_readLines_14_16 14 = true ∧ zpc bm_X4_readLines_14_16 14 = 16 := ⟨by decide +kernel, rfl⟩
abbrev bm_X4_readLines_22_24 : ZB := [(.aload_n 0, .null), (.iconst 0, .int 0)]
theorem km_X4_readLines_22_24 : zchk cX4_readLines bm_X4_readLines_22_24 22 = true ∧ zpc bm_X4_readLines_22_24 22 = 24 := ⟨by decide +kernel, rfl⟩
abbrev bm_X4_readLines_27_29 : ZB := [(.aload_n 0, .null), (.iconst 0, .int 0)]
theorem km_X4_readLines_27_29 : zchk cX4_readLines bm_X4_readLines_27_29 27 = true ∧ zpc bm_X4_readLines_27_29 27 = 29 := ⟨by decide +kernel, rfl⟩
abbrev bm_X4_readLines_32_34 : ZB := [(.aload_n 0, .null), (.iconst 0, .int 0)]
theorem km_X4_readLines_32_34 : zchk cX4_readLines bm_X4_readLines_32_34 32 = true ∧ zpc bm_X4_readLines_32_34 32 = 34 := ⟨by decide +kernel, rfl⟩
abbrev bm_X4_readLines_37_39 : ZB := [(.aload_n 0, .null), (.iconst 0, .int 0)]
theorem km_X4_readLines_37_39 : zchk cX4_readLines bm_X4_readLines_37_39 37 = true ∧ zpc bm_X4_readLines_37_39 37 = 39 := ⟨by decide +kernel, rfl⟩
abbrev bm_X4_readLines_42_45 : ZB := [(.iconst 1, .int 1), (.istore 4, .null)]
theorem km_X4_readLines_42_45 : zchk cX4_readLines bm_X4_readLines_42_45 42 = true ∧ zpc bm_X4_readLines_42_45 42 = 45 := ⟨by decide +kernel, rfl⟩
abbrev bm_X4_readLines_45_49 : ZB := [(.iload 4, .null), (.bipush 60, .int 60)]
theorem km_X4_readLines_45_49 : zchk cX4_readLines bm_X4_readLines_45_49 45 = true ∧ zpc bm_X4_readLines_45_49 45 = 49 := ⟨by decide +kernel, rfl⟩
abbrev bm_X4_readLines_144_146 : ZB := [(.iconst (-1), .int (-1)), (.aload_n 0, .null)]
theorem km_X4_readLines_144_146 : zchk cX4_readLines bm_X4_readLines_144_146 144 = true ∧ zpc bm_X4_readLines_144_146 144 = 146 := ⟨by decide +kernel, rfl⟩
abbrev bm_X4_readLines_149_150 : ZB := [(.isub, .null)]
theorem km_X4_readLines_149_150 : zchk cX4_readLines bm_X4_readLines_149_150 149 = true ∧ zpc bm_X4_readLines_149_150 149 = 150 := ⟨by decide +kernel, rfl⟩
abbrev bm_X4_readLines_52_56 : ZB := [(.aload_n 0, .null), (.aload_n 1, .null), (.aload_n 2, .null), (.aload_n 3, .null)]
theorem km_X4_readLines_52_56 : zchk cX4_readLines bm_X4_readLines_52_56 52 = true ∧ zpc bm_X4_readLines_52_56 52 = 56 := ⟨by decide +kernel, rfl⟩
abbrev bm_X4_readLines_69_70 : ZB := [(.aload_n 0, .null)]
theorem km_X4_readLines_69_70 : zchk cX4_readLines bm_X4_readLines_69_70 69 = true ∧ zpc bm_X4_readLines_69_70 69 = 70 := ⟨by decide +kernel, rfl⟩
abbrev bm_X4_readLines_73_74 : ZB := [(.aload_n 0, .null)]
theorem km_X4_readLines_73_74 : zchk cX4_readLines bm_X4_readLines_73_74 73 = true ∧ zpc bm_X4_readLines_73_74 73 = 74 := ⟨by decide +kernel, rfl⟩
abbrev bm_X4_readLines_122_125 : ZB := [(.aload_n 0, .null), (.bipush 59, .int 59)]
theorem km_X4_readLines_122_125 : zchk cX4_readLines bm_X4_readLines_122_125 122 = true ∧ zpc bm_X4_readLines_122_125 122 = 125 := ⟨by decide +kernel, rfl⟩
abbrev bm_X4_readLines_138_141 : ZB := [(.iinc 4 1, .int 1)]
theorem km_X4_readLines_138_141 : zchk cX4_readLines bm_X4_readLines_138_141 138 = true ∧ zpc bm_X4_readLines_138_141 138 = 141 := ⟨by decide +kernel, rfl⟩
abbrev bm_X4_readLines_131_133 : ZB := [(.iconst (-1), .int (-1)), (.aload_n 0, .null)]
theorem km_X4_readLines_131_133 : zchk cX4_readLines bm_X4_readLines_131_133 131 = true ∧ zpc bm_X4_readLines_131_133 131 = 133 := ⟨by decide +kernel, rfl⟩
abbrev bm_X4_readLines_136_137 : ZB := [(.isub, .null)]
theorem km_X4_readLines_136_137 : zchk cX4_readLines bm_X4_readLines_136_137 136 = true ∧ zpc bm_X4_readLines_136_137 136 = 137 := ⟨by decide +kernel, rfl⟩
abbrev bm_X4_readLines_80_82 : ZB := [(.aload_n 1, .null), (.dup, .null)]
theorem km_X4_readLines_80_82 : zchk cX4_readLines bm_X4_readLines_80_82 80 = true ∧ zpc bm_X4_readLines_80_82 80 = 82 := ⟨by decide +kernel, rfl⟩
abbrev bm_X4_readLines_85_86 : ZB := [(.aload_n 0, .null)]
theorem km_X4_readLines_85_86 : zchk cX4_readLines bm_X4_readLines_85_86 85 = true ∧ zpc bm_X4_readLines_85_86 85 = 86 := ⟨by decide +kernel, rfl⟩
abbrev bm_X4_readLines_89_90 : ZB := [(.iadd, .null)]
theorem km_X4_readLines_89_90 : zchk cX4_readLines bm_X4_readLines_89_90 89 = true ∧ zpc bm_X4_readLines_89_90 89 = 90 := ⟨by decide +kernel, rfl⟩
abbrev bm_X4_readLines_93_95 : ZB := [(.aload_n 2, .null), (.dup, .null)]
theorem km_X4_readLines_93_95 : zchk cX4_readLines bm_X4_readLines_93_95 93 = true ∧ zpc bm_X4_readLines_93_95 93 = 95 := ⟨by decide +kernel, rfl⟩
abbrev bm_X4_readLines_98_99 : ZB := [(.aload_n 0, .null)]
theorem km_X4_readLines_98_99 : zchk cX4_readLines bm_X4_readLines_98_99 98 = true ∧ zpc bm_X4_readLines_98_99 98 = 99 := ⟨by decide +kernel, rfl⟩
abbrev bm_X4_readLines_102_103 : ZB := [(.iadd, .null)]
theorem km_X4_readLines_102_103 : zchk cX4_readLines bm_X4_readLines_102_103 102 = true ∧ zpc bm_X4_readLines_102_103 102 = 103 := ⟨by decide +kernel, rfl⟩
abbrev bm_X4_readLines_106_108 : ZB := [(.aload_n 3, .null), (.dup, .null)]
theorem km_X4_readLines_106_108 : zchk cX4_readLines bm_X4_readLines_106_108 106 = true ∧ zpc bm_X4_readLines_106_108 106 = 108 := ⟨by decide +kernel, rfl⟩
abbrev bm_X4_readLines_111_112 : ZB := [(.aload_n 0, .null)]
theorem km_X4_readLines_111_112 : zchk cX4_readLines bm_X4_readLines_111_112 111 = true ∧ zpc bm_X4_readLines_111_112 111 = 112 := ⟨by decide +kernel, rfl⟩
abbrev bm_X4_readLines_115_116 : ZB := [(.iadd, .null)]
theorem km_X4_readLines_115_116 : zchk cX4_readLines bm_X4_readLines_115_116 115 = true ∧ zpc bm_X4_readLines_115_116 115 = 116 := ⟨by decide +kernel, rfl⟩
abbrev bm_X4_readLines_119_121 : ZB := [(.iload 4, .null)]
theorem km_X4_readLines_119_121 : zchk cX4_readLines bm_X4_readLines_119_121 119 = true ∧ zpc bm_X4_readLines_119_121 119 = 121 := ⟨by decide +kernel, rfl⟩
abbrev bm_X4_readLines_62_64 : ZB := [(.iconst (-1), .int (-1)), (.aload_n 0, .null)]
theorem km_X4_readLines_62_64 : zchk cX4_readLines bm_X4_readLines_62_64 62 = true ∧ zpc bm_X4_readLines_62_64 62 = 64 := ⟨by decide +kernel, rfl⟩
abbrev bm_X4_readLines_67_68 : ZB := [(.isub, .null)]
theorem km_X4_readLines_67_68 : zchk cX4_readLines bm_X4_readLines_67_68 67 = true ∧ zpc bm_X4_readLines_67_68 67 = 68 := ⟨by decide +kernel, rfl⟩
abbrev bm_X4_readLines_7_8 : ZB := [(.iconst 0, .int 0)]
theorem km_X4_readLines_7_8 : zchk cX4_readLines bm_X4_readLines_7_8 7 = true ∧ zpc bm_X4_readLines_7_8 7 = 8 := ⟨by decide +kernel, rfl⟩
set_option maxHeartbeats 4000000 in
set_option maxRecDepth 100000 in
theorem cm_X4_readLines (l : Launch) (G : KG) (reader : Nat) (rs : Nat) (f : Nat → Int32) (n : Int32) (lim : Int32) (p : Int32) (nb : Int32) (mh : Int32) (ms : Int32) (mc : Int32) (ring : Nat) (rp : Nat) (rx : Nat) (ry : Nat) (rr : Nat) (hc : Int32) (rh : Value) (rd : Value) (ph : Value) (po : Value) (fp : Nat → Int32) (fx : Nat → Int32) (fy : Nat → Int32) (fr : Nat → Int32) (speeds : Nat) (sf : Nat) (so : Nat) (sc : Int32) (sa : Value) (sx : Value) (sy : Value) (ff : Nat → Int32) (fo : Nat → Int32) (wheel : Nat) (ww : Nat) (cc : Int32) (wt : Value) (wb : Value) (w4 : Value) (w5 : Value) (w6 : Value) (fw : Nat → Int32) (ni : Int) (hci : Int) (sci : Int) (cci : Int) (hn : n.toInt = ni) (hhc : hc.toInt = hci) (hsc : sc.toInt = sci) (hcc : cc.toInt = cci) (hn0 : 0 ≤ ni ∧ ni ≤ 80) (hc0 : 0 ≤ hci ∧ hci ≤ 16 ∧ 0 ≤ sci ∧ sci ≤ 6 ∧ 0 ≤ cci ∧ cci ≤ 8) : Ct l G yX4_readLines cX4_readLines 5 (some .int) { frames := 5, cells := 0, slots := 0, locals := 108 } [.ref reader, .ref ring, .ref speeds, .ref wheel] [(reader, ob 4 [.ref rs, .int n, .int lim, .int p, .int nb, .int mh, .int ms, .int mc]), (rs, aI G 80 f), (ring, ob 5 [.int hc, .ref rp, .ref rx, .ref ry, .ref rr, rh, rd, ph, po]), (rp, aI G 16 fp), (rx, aI G 16 fx), (ry, aI G 16 fy), (rr, aI G 16 fr), (speeds, ob 7 [.int sc, .ref sf, .ref so, sa, sx, sy]), (sf, aI G 6 ff), (so, aI G 6 fo), (wheel, ob 0 [.int cc, .ref ww, wt, wb, w4, w5, w6]), (ww, aI G 8 fw)] (fun r w1 => ∃ (lim2 : Int32), ∃ (q : Int32), ∃ (m : Int32), ∃ (mh2 : Int32), ∃ (ms2 : Int32), ∃ (mc2 : Int32), ∃ (hc2 : Int32), ∃ (sc2 : Int32), ∃ (cc2 : Int32), ∃ (fp2 : Nat → Int32), ∃ (fx2 : Nat → Int32), ∃ (fy2 : Nat → Int32), ∃ (fr2 : Nat → Int32), ∃ (ff2 : Nat → Int32), ∃ (fo2 : Nat → Int32), ∃ (fw2 : Nat → Int32), ∃ (rz : Int32), (CN n (run0 f (if 60 < n then 60 else n) hci sci cci) rz.toInt hci sci cci hc2.toInt sc2.toInt cc2.toInt) ∧ (A7 f (if 60 < n then 60 else n) hci sci cci fp fx fy fr ff fo fw fp2 fx2 fy2 fr2 ff2 fo2 fw2 hc2.toInt sc2.toInt cc2.toInt (run0 f (if 60 < n then 60 else n) hci sci cci).2.2.2.2.2.2.1 (run0 f (if 60 < n then 60 else n) hci sci cci).2.2.2.2.2.2.2.1 (run0 f (if 60 < n then 60 else n) hci sci cci).2.2.2.2.2.2.2.2) ∧ ((0 ≤ hc2.toInt ∧ hc2.toInt ≤ 16) ∧ (0 ≤ sc2.toInt ∧ sc2.toInt ≤ 6) ∧ (0 ≤ cc2.toInt ∧ cc2.toInt ≤ 8)) ∧ r = some (.int rz) ∧ w1 = [(reader, ob 4 [.ref rs, .int n, .int lim2, .int q, .int m, .int mh2, .int ms2, .int mc2]), (rs, aI G 80 f), (ring, ob 5 [.int hc2, .ref rp, .ref rx, .ref ry, .ref rr, rh, rd, ph, po]), (rp, aI G 16 fp2), (rx, aI G 16 fx2), (ry, aI G 16 fy2), (rr, aI G 16 fr2), (speeds, ob 7 [.int sc2, .ref sf, .ref so, sa, sx, sy]), (sf, aI G 6 ff2), (so, aI G 6 fo2), (wheel, ob 0 [.int cc2, .ref ww, wt, wb, w4, w5, w6]), (ww, aI G 8 fw2)]) := by
  refine ct_of [(0, .ref reader), (1, .ref ring), (2, .ref speeds), (3, .ref wheel)] (by decide) (Nat.le_of_ble_eq_true rfl) rfl ?_
  intro p0 e0 s0 m0 args0 below0 meth0 c0 A X
  refine z_run X bm_X4_readLines_0_1 km_X4_readLines_0_1 (lv' := [(0, .ref reader), (1, .ref ring), (2, .ref speeds), (3, .ref wheel)]) (st' := [.ref reader]) rfl ?_
  refine z_get X fl_4_15 dm_X4_readLines_1 0 rfl (v := .int n) rfl ?_
  refine zi_ne X dm_X4_readLines_4 (tgt := 9) (by decide) (a := ni) hn (fun c4_1 => ?_) (fun c4_1 => ?_)
  ·
    have hLm : (if 60 < n then 60 else n).toInt = min ni 60 := (tI_min hn (show (60 : Int32).toInt = 60 from by decide))
    refine z_run X bm_X4_readLines_9_11 km_X4_readLines_9_11 (lv' := [(0, .ref reader), (1, .ref ring), (2, .ref speeds), (3, .ref wheel)]) (st' := [.ref reader, .ref reader]) rfl ?_
    refine z_get X fl_4_15 dm_X4_readLines_11 0 rfl (v := .int n) rfl ?_
    refine z_run X bm_X4_readLines_14_16 km_X4_readLines_14_16 (lv' := [(0, .ref reader), (1, .ref ring), (2, .ref speeds), (3, .ref wheel)]) (st' := [.int 60, .int n, .ref reader]) rfl ?_
    refine z_mmin X k_4_19.1 k_4_19.2.1 k_4_19.2.2.1 k_4_19.2.2.2.1 ⟨Nat.le_of_ble_eq_true rfl, Nat.le_of_ble_eq_true rfl⟩ ⟨Nat.le_of_ble_eq_true rfl, Nat.le_of_ble_eq_true rfl⟩ dm_X4_readLines_16 (v := (if 60 < n then 60 else n)) rfl ?_
    refine z_put X fl_4_25 dm_X4_readLines_19 0 rfl (ty := .int) (T := TX4) (N := 8) rfl (Or.inl rfl) (by decide +kernel) rfl (by rfl) (Nat.le_of_ble_eq_true rfl) (ws' := [(reader, ob 4 [.ref rs, .int n, .int (if 60 < n then 60 else n), .int p, .int nb, .int mh, .int ms, .int mc]), (rs, aI G 80 f), (ring, ob 5 [.int hc, .ref rp, .ref rx, .ref ry, .ref rr, rh, rd, ph, po]), (rp, aI G 16 fp), (rx, aI G 16 fx), (ry, aI G 16 fy), (rr, aI G 16 fr), (speeds, ob 7 [.int sc, .ref sf, .ref so, sa, sx, sy]), (sf, aI G 6 ff), (so, aI G 6 fo), (wheel, ob 0 [.int cc, .ref ww, wt, wb, w4, w5, w6]), (ww, aI G 8 fw)]) rfl ?_
    refine z_run X bm_X4_readLines_22_24 km_X4_readLines_22_24 (lv' := [(0, .ref reader), (1, .ref ring), (2, .ref speeds), (3, .ref wheel)]) (st' := [.int 0, .ref reader]) rfl ?_
    refine z_put X fl_4_28 dm_X4_readLines_24 0 rfl (ty := .int) (T := TX4) (N := 8) rfl (Or.inl rfl) (by decide +kernel) rfl (by rfl) (Nat.le_of_ble_eq_true rfl) (ws' := [(reader, ob 4 [.ref rs, .int n, .int (if 60 < n then 60 else n), .int 0, .int nb, .int mh, .int ms, .int mc]), (rs, aI G 80 f), (ring, ob 5 [.int hc, .ref rp, .ref rx, .ref ry, .ref rr, rh, rd, ph, po]), (rp, aI G 16 fp), (rx, aI G 16 fx), (ry, aI G 16 fy), (rr, aI G 16 fr), (speeds, ob 7 [.int sc, .ref sf, .ref so, sa, sx, sy]), (sf, aI G 6 ff), (so, aI G 6 fo), (wheel, ob 0 [.int cc, .ref ww, wt, wb, w4, w5, w6]), (ww, aI G 8 fw)]) rfl ?_
    refine z_run X bm_X4_readLines_27_29 km_X4_readLines_27_29 (lv' := [(0, .ref reader), (1, .ref ring), (2, .ref speeds), (3, .ref wheel)]) (st' := [.int 0, .ref reader]) rfl ?_
    refine z_put X fl_4_31 dm_X4_readLines_29 0 rfl (ty := .int) (T := TX4) (N := 8) rfl (Or.inl rfl) (by decide +kernel) rfl (by rfl) (Nat.le_of_ble_eq_true rfl) (ws' := [(reader, ob 4 [.ref rs, .int n, .int (if 60 < n then 60 else n), .int 0, .int nb, .int 0, .int ms, .int mc]), (rs, aI G 80 f), (ring, ob 5 [.int hc, .ref rp, .ref rx, .ref ry, .ref rr, rh, rd, ph, po]), (rp, aI G 16 fp), (rx, aI G 16 fx), (ry, aI G 16 fy), (rr, aI G 16 fr), (speeds, ob 7 [.int sc, .ref sf, .ref so, sa, sx, sy]), (sf, aI G 6 ff), (so, aI G 6 fo), (wheel, ob 0 [.int cc, .ref ww, wt, wb, w4, w5, w6]), (ww, aI G 8 fw)]) rfl ?_
    refine z_run X bm_X4_readLines_32_34 km_X4_readLines_32_34 (lv' := [(0, .ref reader), (1, .ref ring), (2, .ref speeds), (3, .ref wheel)]) (st' := [.int 0, .ref reader]) rfl ?_
    refine z_put X fl_4_34 dm_X4_readLines_34 0 rfl (ty := .int) (T := TX4) (N := 8) rfl (Or.inl rfl) (by decide +kernel) rfl (by rfl) (Nat.le_of_ble_eq_true rfl) (ws' := [(reader, ob 4 [.ref rs, .int n, .int (if 60 < n then 60 else n), .int 0, .int nb, .int 0, .int 0, .int mc]), (rs, aI G 80 f), (ring, ob 5 [.int hc, .ref rp, .ref rx, .ref ry, .ref rr, rh, rd, ph, po]), (rp, aI G 16 fp), (rx, aI G 16 fx), (ry, aI G 16 fy), (rr, aI G 16 fr), (speeds, ob 7 [.int sc, .ref sf, .ref so, sa, sx, sy]), (sf, aI G 6 ff), (so, aI G 6 fo), (wheel, ob 0 [.int cc, .ref ww, wt, wb, w4, w5, w6]), (ww, aI G 8 fw)]) rfl ?_
    refine z_run X bm_X4_readLines_37_39 km_X4_readLines_37_39 (lv' := [(0, .ref reader), (1, .ref ring), (2, .ref speeds), (3, .ref wheel)]) (st' := [.int 0, .ref reader]) rfl ?_
    refine z_put X fl_4_37 dm_X4_readLines_39 0 rfl (ty := .int) (T := TX4) (N := 8) rfl (Or.inl rfl) (by decide +kernel) rfl (by rfl) (Nat.le_of_ble_eq_true rfl) (ws' := [(reader, ob 4 [.ref rs, .int n, .int (if 60 < n then 60 else n), .int 0, .int nb, .int 0, .int 0, .int 0]), (rs, aI G 80 f), (ring, ob 5 [.int hc, .ref rp, .ref rx, .ref ry, .ref rr, rh, rd, ph, po]), (rp, aI G 16 fp), (rx, aI G 16 fx), (ry, aI G 16 fy), (rr, aI G 16 fr), (speeds, ob 7 [.int sc, .ref sf, .ref so, sa, sx, sy]), (sf, aI G 6 ff), (so, aI G 6 fo), (wheel, ob 0 [.int cc, .ref ww, wt, wb, w4, w5, w6]), (ww, aI G 8 fw)]) rfl ?_
    refine z_run X bm_X4_readLines_42_45 km_X4_readLines_42_45 (lv' := [(4, .int 1), (0, .ref reader), (1, .ref ring), (2, .ref speeds), (3, .ref wheel)]) (st' := []) rfl ?_
    refine zloop (σ := Int32 × Int32 × Int32 × Int32 × Int32 × Int32 × (Nat → Int32) × (Nat → Int32) × (Nat → Int32) × (Nat → Int32) × (Nat → Int32) × (Nat → Int32) × (Nat → Int32) × (Nat → Int32) × (Nat → Int32) × (Nat → Int32)) (fun z => [(4, .int z.1), (0, .ref reader), (1, .ref ring), (2, .ref speeds), (3, .ref wheel)]) (fun z => []) (fun z => [(reader, ob 4 [.ref rs, .int n, .int (if 60 < n then 60 else n), .int z.2.1, .int z.2.2.1, .int z.2.2.2.1, .int z.2.2.2.2.1, .int z.2.2.2.2.2.1]), (rs, aI G 80 f), (ring, ob 5 [.int hc, .ref rp, .ref rx, .ref ry, .ref rr, rh, rd, ph, po]), (rp, aI G 16 z.2.2.2.2.2.2.1), (rx, aI G 16 z.2.2.2.2.2.2.2.1), (ry, aI G 16 z.2.2.2.2.2.2.2.2.1), (rr, aI G 16 z.2.2.2.2.2.2.2.2.2.1), (speeds, ob 7 [.int sc, .ref sf, .ref so, sa, sx, sy]), (sf, aI G 6 z.2.2.2.2.2.2.2.2.2.2.1), (so, aI G 6 z.2.2.2.2.2.2.2.2.2.2.2.1), (wheel, ob 0 [.int cc, .ref ww, wt, wb, w4, w5, w6]), (ww, aI G 8 z.2.2.2.2.2.2.2.2.2.2.2.2.1)]) (fun z => (1 ≤ z.1.toInt ∧ z.1.toInt ≤ 61) ∧ (0 ≤ z.2.1.toInt ∧ z.2.1.toInt ≤ 60) ∧ (0 ≤ z.2.2.2.1.toInt ∧ hci + z.2.2.2.1.toInt ≤ 16 ∧ 0 ≤ z.2.2.2.2.1.toInt ∧ sci + z.2.2.2.2.1.toInt ≤ 6 ∧ 0 ≤ z.2.2.2.2.2.1.toInt ∧ cci + z.2.2.2.2.2.1.toInt ≤ 8) ∧ (MI f (if 60 < n then 60 else n) hci sci cci (z.1.toInt - 1) z.2.1 (hci + z.2.2.2.1.toInt) (sci + z.2.2.2.2.1.toInt) (cci + z.2.2.2.2.2.1.toInt) z.2.2.2.2.2.2.2.2.2.2.2.2.2.1 z.2.2.2.2.2.2.2.2.2.2.2.2.2.2.1 z.2.2.2.2.2.2.2.2.2.2.2.2.2.2.2) ∧ (A7 f (if 60 < n then 60 else n) hci sci cci fp fx fy fr ff fo fw z.2.2.2.2.2.2.1 z.2.2.2.2.2.2.2.1 z.2.2.2.2.2.2.2.2.1 z.2.2.2.2.2.2.2.2.2.1 z.2.2.2.2.2.2.2.2.2.2.1 z.2.2.2.2.2.2.2.2.2.2.2.1 z.2.2.2.2.2.2.2.2.2.2.2.2.1 (hci + z.2.2.2.1.toInt) (sci + z.2.2.2.2.1.toInt) (cci + z.2.2.2.2.2.1.toInt) z.2.2.2.2.2.2.2.2.2.2.2.2.2.1 z.2.2.2.2.2.2.2.2.2.2.2.2.2.2.1 z.2.2.2.2.2.2.2.2.2.2.2.2.2.2.2)) (fun z => (61 - z.1.toInt).toNat) (1, 0, nb, 0, 0, 0, fp, fx, fy, fr, ff, fo, fw, zf, zf, zf) ?_ ?_
    ·
      rintro ⟨i_, pp, nn, uh, us, uc, gp, gx, gy, gr, gf, go, gw, ta, tb, td⟩ ⟨hi, hp, hu, hM, hA⟩ ih45
      dsimp only at *
      refine z_run X bm_X4_readLines_45_49 km_X4_readLines_45_49 (lv' := [(4, .int i_), (0, .ref reader), (1, .ref ring), (2, .ref speeds), (3, .ref wheel)]) (st' := [.int 60, .int i_]) rfl ?_
      refine zc_gt X dm_X4_readLines_49 (tgt := 144) (by decide) (a := i_.toInt) (b := 60) rfl (show (60 : Int32).toInt = 60 from by decide) (fun c49_2 => ?_) (fun c49_2 => ?_)
      ·
        refine z_run X bm_X4_readLines_144_146 km_X4_readLines_144_146 (lv' := [(4, .int i_), (0, .ref reader), (1, .ref ring), (2, .ref speeds), (3, .ref wheel)]) (st' := [.ref reader, .int (-1)]) rfl ?_
        refine z_get X fl_4_28 dm_X4_readLines_146 0 rfl (v := .int pp) rfl ?_
        refine z_run X bm_X4_readLines_149_150 km_X4_readLines_149_150 (lv' := [(4, .int i_), (0, .ref reader), (1, .ref ring), (2, .ref speeds), (3, .ref wheel)]) (st' := [.int ((-1) - pp)]) rfl ?_
        exact z_iret X rfl dm_X4_readLines_150 (Nat.le_of_ble_eq_true rfl) (Nat.le_of_ble_eq_true rfl) ⟨(if 60 < n then 60 else n), pp, nn, uh, us, uc, hc, sc, cc, gp, gx, gy, gr, gf, go, gw, ((-1) - pp), (CN.cast (CN.bad (hM.late (by omega)) (by omega) rfl) (tI_sub (show ((-1) : Int32).toInt = (-1) from by decide) rfl (by omega)) hhc hsc hcc), (A7.cast hA.cut hhc hsc hcc), (by have e0 := hhc; have e1 := hsc; have e2 := hcc; omega), rfl, rfl⟩
      ·
        refine z_run X bm_X4_readLines_52_56 km_X4_readLines_52_56 (lv' := [(4, .int i_), (0, .ref reader), (1, .ref ring), (2, .ref speeds), (3, .ref wheel)]) (st' := [.ref wheel, .ref speeds, .ref ring, .ref reader]) rfl ?_
        refine z_callV X k_4_40 (cm_X4_readLine l G reader rs f n (if 60 < n then 60 else n) pp nn uh us uc ring rp rx ry rr hc rh rd ph po gp gx gy gr speeds sf so sc sa sx sy gf go wheel ww cc wt wb w4 w5 w6 gw pp.toInt ((min ni 60)) hci uh.toInt sci us.toInt cci uc.toInt rfl (tI_min hn (show (60 : Int32).toInt = 60 from by decide)) hhc rfl hsc rfl hcc rfl (by omega) (by omega) (by omega)) dm_X4_readLines_56 0 rfl rfl rfl ⟨Nat.le_of_ble_eq_true rfl, Nat.le_of_ble_eq_true rfl⟩ ⟨Nat.le_of_ble_eq_true rfl, Nat.le_of_ble_eq_true rfl⟩ rfl (rest := []) (As := [.ref ring, .ref speeds, .ref wheel]) rfl (Nat.le_of_ble_eq_true rfl) [0, 1, 2, 3, 4, 5, 6, 7, 8, 9, 10, 11] [] rfl (by decide) (wr := []) rfl (by decide) (by decide) ?_
        rintro _ _ ⟨q_3, m_4, mh2_5, ms2_6, mc2_7, fp2_8, fx2_9, fy2_10, fr2_11, ff2_12, fo2_13, fw2_14, f56_15, f56_16, f56_17, f56_18, f56_19, rfl, rfl⟩
        refine Z.at (pc' := 59) (st' := [.int (zb (decide ((lin f (if 60 < n then 60 else n) pp (hci + uh.toInt) (sci + us.toInt) (cci + uc.toInt)).1 = true)))]) (ws' := [(reader, ob 4 [.ref rs, .int n, .int (if 60 < n then 60 else n), .int q_3, .int m_4, .int mh2_5, .int ms2_6, .int mc2_7]), (rs, aI G 80 f), (ring, ob 5 [.int hc, .ref rp, .ref rx, .ref ry, .ref rr, rh, rd, ph, po]), (rp, aI G 16 fp2_8), (rx, aI G 16 fx2_9), (ry, aI G 16 fy2_10), (rr, aI G 16 fr2_11), (speeds, ob 7 [.int sc, .ref sf, .ref so, sa, sx, sy]), (sf, aI G 6 ff2_12), (so, aI G 6 fo2_13), (wheel, ob 0 [.int cc, .ref ww, wt, wb, w4, w5, w6]), (ww, aI G 8 fw2_14)]) (kc' := 0) (ks' := 0) rfl rfl rfl rfl rfl ?_
        refine zi_ne_zb X dm_X4_readLines_59 (tgt := 69) (by decide) (fun c59_20 => ?_) (fun c59_20 => ?_)
        ·
          have sl : ((hc + uh).toNatClampNeg : Int) = (hci + uh.toInt) ∧ ((sc + us).toNatClampNeg : Int) = (sci + us.toInt) ∧ ((cc + uc).toNatClampNeg : Int) = (cci + uc.toInt) := ⟨slot_of hhc rfl (by omega), slot_of hsc rfl (by omega), slot_of hcc rfl (by omega)⟩
          have k1 := f56_17 c59_20
          have rm := lin_room c59_20 (by omega) (by omega) (by omega)
          refine z_run X bm_X4_readLines_69_70 km_X4_readLines_69_70 (lv' := [(4, .int i_), (0, .ref reader), (1, .ref ring), (2, .ref speeds), (3, .ref wheel)]) (st' := [.ref reader]) rfl ?_
          refine z_get X fl_4_28 dm_X4_readLines_70 0 rfl (v := .int q_3) rfl ?_
          refine z_run X bm_X4_readLines_73_74 km_X4_readLines_73_74 (lv' := [(4, .int i_), (0, .ref reader), (1, .ref ring), (2, .ref speeds), (3, .ref wheel)]) (st' := [.ref reader, .int q_3]) rfl ?_
          refine z_get X fl_4_15 dm_X4_readLines_74 0 rfl (v := .int n) rfl ?_
          refine zc_ne X dm_X4_readLines_77 (tgt := 122) (by decide) (a := q_3.toInt) (b := ni) rfl hn (fun c77_21 => ?_) (fun c77_21 => ?_)
          ·
            refine z_run X bm_X4_readLines_122_125 km_X4_readLines_122_125 (lv' := [(4, .int i_), (0, .ref reader), (1, .ref ring), (2, .ref speeds), (3, .ref wheel)]) (st' := [.int 59, .ref reader]) rfl ?_
            refine z_callV X k_4_55 (cm_X4_readSign l G reader rs f n (if 60 < n then 60 else n) q_3 m_4 mh2_5 ms2_6 mc2_7 59 q_3.toInt ((min ni 60)) 59 rfl (tI_min hn (show (60 : Int32).toInt = 60 from by decide)) (show (59 : Int32).toInt = 59 from by decide) (by omega) (by omega)) dm_X4_readLines_125 0 rfl rfl rfl ⟨Nat.le_of_ble_eq_true rfl, Nat.le_of_ble_eq_true rfl⟩ ⟨Nat.le_of_ble_eq_true rfl, Nat.le_of_ble_eq_true rfl⟩ rfl (rest := []) (As := [.int 59]) rfl (Nat.le_of_ble_eq_true rfl) [0, 1] [2, 3, 4, 5, 6, 7, 8, 9, 10, 11] rfl (by decide) (wr := [(ring, ob 5 [.int hc, .ref rp, .ref rx, .ref ry, .ref rr, rh, rd, ph, po]), (rp, aI G 16 fp2_8), (rx, aI G 16 fx2_9), (ry, aI G 16 fy2_10), (rr, aI G 16 fr2_11), (speeds, ob 7 [.int sc, .ref sf, .ref so, sa, sx, sy]), (sf, aI G 6 ff2_12), (so, aI G 6 fo2_13), (wheel, ob 0 [.int cc, .ref ww, wt, wb, w4, w5, w6]), (ww, aI G 8 fw2_14)]) rfl (by decide) (by decide) ?_
            rintro _ _ ⟨q_22, f125_23, f125_24, rfl, rfl⟩
            refine Z.at (pc' := 128) (st' := [.int (zb (decide ((tk f (if 60 < n then 60 else n) q_3 59).1 = true)))]) (ws' := [(ring, ob 5 [.int hc, .ref rp, .ref rx, .ref ry, .ref rr, rh, rd, ph, po]), (rp, aI G 16 fp2_8), (rx, aI G 16 fx2_9), (ry, aI G 16 fy2_10), (rr, aI G 16 fr2_11), (speeds, ob 7 [.int sc, .ref sf, .ref so, sa, sx, sy]), (sf, aI G 6 ff2_12), (so, aI G 6 fo2_13), (wheel, ob 0 [.int cc, .ref ww, wt, wb, w4, w5, w6]), (ww, aI G 8 fw2_14), (reader, ob 4 [.ref rs, .int n, .int (if 60 < n then 60 else n), .int q_22, .int m_4, .int mh2_5, .int ms2_6, .int mc2_7]), (rs, aI G 80 f)]) (kc' := 0) (ks' := 0) rfl rfl rfl rfl rfl ?_
            refine zi_ne_zb X dm_X4_readLines_128 (tgt := 138) (by decide) (fun c128_25 => ?_) (fun c128_25 => ?_)
            ·
              refine z_run X bm_X4_readLines_138_141 km_X4_readLines_138_141 (lv' := [(4, .int (i_ + 1)), (0, .ref reader), (1, .ref ring), (2, .ref speeds), (3, .ref wheel)]) (st' := []) rfl ?_
              refine z_goto X dm_X4_readLines_141 (tgt := 45) (by decide) ?_
              refine Z.sub (lv' := [(4, .int (i_ + 1)), (0, .ref reader), (1, .ref ring), (2, .ref speeds), (3, .ref wheel)]) [0, 1, 2, 3, 4] rfl [10, 11, 0, 1, 2, 3, 4, 5, 6, 7, 8, 9] (ws' := [(reader, ob 4 [.ref rs, .int n, .int (if 60 < n then 60 else n), .int q_22, .int m_4, .int mh2_5, .int ms2_6, .int mc2_7]), (rs, aI G 80 f), (ring, ob 5 [.int hc, .ref rp, .ref rx, .ref ry, .ref rr, rh, rd, ph, po]), (rp, aI G 16 fp2_8), (rx, aI G 16 fx2_9), (ry, aI G 16 fy2_10), (rr, aI G 16 fr2_11), (speeds, ob 7 [.int sc, .ref sf, .ref so, sa, sx, sy]), (sf, aI G 6 ff2_12), (so, aI G 6 fo2_13), (wheel, ob 0 [.int cc, .ref ww, wt, wb, w4, w5, w6]), (ww, aI G 8 fw2_14)]) rfl (by decide) ?_
              exact ih45 ((i_ + 1), q_22, m_4, mh2_5, ms2_6, mc2_7, fp2_8, fx2_9, fy2_10, fr2_11, ff2_12, fo2_13, fw2_14, (nx 104 f pp (hci + uh.toInt) ta), (nx 115 f pp (sci + us.toInt) tb), (nx 99 f pp (cci + uc.toInt) td)) ⟨(by dsimp only; have e : (i_ + 1).toInt = i_.toInt + 1 := tI_add rfl (show (1 : Int32).toInt = 1 from by decide) (by omega); omega), (by dsimp only; omega), (by dsimp only; omega), (by dsimp only; have e : (i_ + 1).toInt = i_.toInt + 1 := tI_add rfl (show (1 : Int32).toInt = 1 from by decide) (by omega); exact MI.cast (hM.step (by rw [hLm]; omega) c59_20 (by rw [← f56_15]; exact f56_16) (by rw [← f56_15]; exact c128_25)) (by omega) (by rw [f125_23, f56_15]) (by omega) (by omega) (by omega)), (A7.cast (hA.on (by omega) sl f56_18 (f56_19 c59_20)) (by dsimp only; omega) (by dsimp only; omega) (by dsimp only; omega))⟩ (by dsimp only; have e : (i_ + 1).toInt = i_.toInt + 1 := tI_add rfl (show (1 : Int32).toInt = 1 from by decide) (by omega); omega)
            ·
              refine z_run X bm_X4_readLines_131_133 km_X4_readLines_131_133 (lv' := [(4, .int i_), (0, .ref reader), (1, .ref ring), (2, .ref speeds), (3, .ref wheel)]) (st' := [.ref reader, .int (-1)]) rfl ?_
              refine z_get X fl_4_28 dm_X4_readLines_133 10 rfl (v := .int q_22) rfl ?_
              refine z_run X bm_X4_readLines_136_137 km_X4_readLines_136_137 (lv' := [(4, .int i_), (0, .ref reader), (1, .ref ring), (2, .ref speeds), (3, .ref wheel)]) (st' := [.int ((-1) - q_22)]) rfl ?_
              refine Z.sub (lv' := []) [] rfl [10, 11, 0, 1, 2, 3, 4, 5, 6, 7, 8, 9] (ws' := [(reader, ob 4 [.ref rs, .int n, .int (if 60 < n then 60 else n), .int q_22, .int m_4, .int mh2_5, .int ms2_6, .int mc2_7]), (rs, aI G 80 f), (ring, ob 5 [.int hc, .ref rp, .ref rx, .ref ry, .ref rr, rh, rd, ph, po]), (rp, aI G 16 fp2_8), (rx, aI G 16 fx2_9), (ry, aI G 16 fy2_10), (rr, aI G 16 fr2_11), (speeds, ob 7 [.int sc, .ref sf, .ref so, sa, sx, sy]), (sf, aI G 6 ff2_12), (so, aI G 6 fo2_13), (wheel, ob 0 [.int cc, .ref ww, wt, wb, w4, w5, w6]), (ww, aI G 8 fw2_14)]) rfl (by decide) ?_
              exact z_iret X rfl dm_X4_readLines_137 (Nat.le_of_ble_eq_true rfl) (Nat.le_of_ble_eq_true rfl) ⟨(if 60 < n then 60 else n), q_22, m_4, mh2_5, ms2_6, mc2_7, hc, sc, cc, fp2_8, fx2_9, fy2_10, fr2_11, ff2_12, fo2_13, fw2_14, ((-1) - q_22), (CN.cast (CN.far (hM.last (by rw [hLm]; omega) c59_20 (by rw [← f56_15]; exact c128_25)) (by omega) (by rw [← f56_15]; omega) (by rw [← f56_15])) ((show (((-1) - q_22)).toInt = ((-1) - q_22.toInt) from (tI_sub (show ((-1) : Int32).toInt = (-1) from by decide) rfl (by omega))).trans (congrArg (fun z : Int32 => (-1 : Int) - z.toInt) (f125_23.trans (tk_no c128_25)))) hhc hsc hcc), (A7.cast (hA.off (by omega) sl f56_18).cut hhc hsc hcc), (by have e0 := hhc; have e1 := hsc; have e2 := hcc; omega), rfl, rfl⟩
          ·
            refine z_run X bm_X4_readLines_80_82 km_X4_readLines_80_82 (lv' := [(4, .int i_), (0, .ref reader), (1, .ref ring), (2, .ref speeds), (3, .ref wheel)]) (st' := [.ref ring, .ref ring]) rfl ?_
            refine z_getN X fl_4_44 dm_X4_readLines_82 2 rfl (v := .int hc) rfl ?_
            refine z_run X bm_X4_readLines_85_86 km_X4_readLines_85_86 (lv' := [(4, .int i_), (0, .ref reader), (1, .ref ring), (2, .ref speeds), (3, .ref wheel)]) (st' := [.ref reader, .int hc, .ref ring]) rfl ?_
            refine z_get X fl_4_31 dm_X4_readLines_86 0 rfl (v := .int mh2_5) rfl ?_
            refine z_run X bm_X4_readLines_89_90 km_X4_readLines_89_90 (lv' := [(4, .int i_), (0, .ref reader), (1, .ref ring), (2, .ref speeds), (3, .ref wheel)]) (st' := [.int (hc + mh2_5), .ref ring]) rfl ?_
            refine z_putN X fl_4_44 dm_X4_readLines_90 2 rfl (ty := .int) (T := TX5) (N := 9) rfl rfl (by decide +kernel) rfl (by rfl) (Nat.le_of_ble_eq_true rfl) (ws' := [(reader, ob 4 [.ref rs, .int n, .int (if 60 < n then 60 else n), .int q_3, .int m_4, .int mh2_5, .int ms2_6, .int mc2_7]), (rs, aI G 80 f), (ring, ob 5 [.int (hc + mh2_5), .ref rp, .ref rx, .ref ry, .ref rr, rh, rd, ph, po]), (rp, aI G 16 fp2_8), (rx, aI G 16 fx2_9), (ry, aI G 16 fy2_10), (rr, aI G 16 fr2_11), (speeds, ob 7 [.int sc, .ref sf, .ref so, sa, sx, sy]), (sf, aI G 6 ff2_12), (so, aI G 6 fo2_13), (wheel, ob 0 [.int cc, .ref ww, wt, wb, w4, w5, w6]), (ww, aI G 8 fw2_14)]) rfl ?_
            refine z_run X bm_X4_readLines_93_95 km_X4_readLines_93_95 (lv' := [(4, .int i_), (0, .ref reader), (1, .ref ring), (2, .ref speeds), (3, .ref wheel)]) (st' := [.ref speeds, .ref speeds]) rfl ?_
            refine z_getN X fl_4_49 dm_X4_readLines_95 7 rfl (v := .int sc) rfl ?_
            refine z_run X bm_X4_readLines_98_99 km_X4_readLines_98_99 (lv' := [(4, .int i_), (0, .ref reader), (1, .ref ring), (2, .ref speeds), (3, .ref wheel)]) (st' := [.ref reader, .int sc, .ref speeds]) rfl ?_
            refine z_get X fl_4_34 dm_X4_readLines_99 0 rfl (v := .int ms2_6) rfl ?_
            refine z_run X bm_X4_readLines_102_103 km_X4_readLines_102_103 (lv' := [(4, .int i_), (0, .ref reader), (1, .ref ring), (2, .ref speeds), (3, .ref wheel)]) (st' := [.int (sc + ms2_6), .ref speeds]) rfl ?_
            refine z_putN X fl_4_49 dm_X4_readLines_103 7 rfl (ty := .int) (T := TX7) (N := 6) rfl rfl (by decide +kernel) rfl (by rfl) (Nat.le_of_ble_eq_true rfl) (ws' := [(reader, ob 4 [.ref rs, .int n, .int (if 60 < n then 60 else n), .int q_3, .int m_4, .int mh2_5, .int ms2_6, .int mc2_7]), (rs, aI G 80 f), (ring, ob 5 [.int (hc + mh2_5), .ref rp, .ref rx, .ref ry, .ref rr, rh, rd, ph, po]), (rp, aI G 16 fp2_8), (rx, aI G 16 fx2_9), (ry, aI G 16 fy2_10), (rr, aI G 16 fr2_11), (speeds, ob 7 [.int (sc + ms2_6), .ref sf, .ref so, sa, sx, sy]), (sf, aI G 6 ff2_12), (so, aI G 6 fo2_13), (wheel, ob 0 [.int cc, .ref ww, wt, wb, w4, w5, w6]), (ww, aI G 8 fw2_14)]) rfl ?_
            refine z_run X bm_X4_readLines_106_108 km_X4_readLines_106_108 (lv' := [(4, .int i_), (0, .ref reader), (1, .ref ring), (2, .ref speeds), (3, .ref wheel)]) (st' := [.ref wheel, .ref wheel]) rfl ?_
            refine z_getN X fl_4_52 dm_X4_readLines_108 10 rfl (v := .int cc) rfl ?_
            refine z_run X bm_X4_readLines_111_112 km_X4_readLines_111_112 (lv' := [(4, .int i_), (0, .ref reader), (1, .ref ring), (2, .ref speeds), (3, .ref wheel)]) (st' := [.ref reader, .int cc, .ref wheel]) rfl ?_
            refine z_get X fl_4_37 dm_X4_readLines_112 0 rfl (v := .int mc2_7) rfl ?_
            refine z_run X bm_X4_readLines_115_116 km_X4_readLines_115_116 (lv' := [(4, .int i_), (0, .ref reader), (1, .ref ring), (2, .ref speeds), (3, .ref wheel)]) (st' := [.int (cc + mc2_7), .ref wheel]) rfl ?_
            refine z_putN X fl_4_52 dm_X4_readLines_116 10 rfl (ty := .int) (T := TX0) (N := 7) rfl rfl (by decide +kernel) rfl (by rfl) (Nat.le_of_ble_eq_true rfl) (ws' := [(reader, ob 4 [.ref rs, .int n, .int (if 60 < n then 60 else n), .int q_3, .int m_4, .int mh2_5, .int ms2_6, .int mc2_7]), (rs, aI G 80 f), (ring, ob 5 [.int (hc + mh2_5), .ref rp, .ref rx, .ref ry, .ref rr, rh, rd, ph, po]), (rp, aI G 16 fp2_8), (rx, aI G 16 fx2_9), (ry, aI G 16 fy2_10), (rr, aI G 16 fr2_11), (speeds, ob 7 [.int (sc + ms2_6), .ref sf, .ref so, sa, sx, sy]), (sf, aI G 6 ff2_12), (so, aI G 6 fo2_13), (wheel, ob 0 [.int (cc + mc2_7), .ref ww, wt, wb, w4, w5, w6]), (ww, aI G 8 fw2_14)]) rfl ?_
            refine z_run X bm_X4_readLines_119_121 km_X4_readLines_119_121 (lv' := [(4, .int i_), (0, .ref reader), (1, .ref ring), (2, .ref speeds), (3, .ref wheel)]) (st' := [.int i_]) rfl ?_
            exact z_iret X rfl dm_X4_readLines_121 (Nat.le_of_ble_eq_true rfl) (Nat.le_of_ble_eq_true rfl) ⟨(if 60 < n then 60 else n), q_3, m_4, mh2_5, ms2_6, mc2_7, (hc + mh2_5), (sc + ms2_6), (cc + mc2_7), fp2_8, fx2_9, fy2_10, fr2_11, ff2_12, fo2_13, fw2_14, i_, (CN.cast (CN.good (hM.last (by rw [hLm]; omega) c59_20 (tk_far (by rw [hLm, ← f56_15]; omega))) (by omega) (by rw [← f56_15]; omega) rfl) (by omega) ((tI_add hhc rfl (by omega)).trans (by omega)) ((tI_add hsc rfl (by omega)).trans (by omega)) ((tI_add hcc rfl (by omega)).trans (by omega))), (by rw [(hM.last (by rw [hLm]; omega) c59_20 (tk_far (by rw [hLm, ← f56_15]; omega)))]; exact A7.cast (hA.on (by omega) sl f56_18 (f56_19 c59_20)) ((tI_add hhc rfl (by omega)).trans (by omega)) ((tI_add hsc rfl (by omega)).trans (by omega)) ((tI_add hcc rfl (by omega)).trans (by omega))), (by have e0 : (hc + mh2_5).toInt = (hci + mh2_5.toInt) := (tI_add hhc rfl (by omega)); have e1 : (sc + ms2_6).toInt = (sci + ms2_6.toInt) := (tI_add hsc rfl (by omega)); have e2 : (cc + mc2_7).toInt = (cci + mc2_7.toInt) := (tI_add hcc rfl (by omega)); omega), rfl, rfl⟩
        ·
          have sl : ((hc + uh).toNatClampNeg : Int) = (hci + uh.toInt) ∧ ((sc + us).toNatClampNeg : Int) = (sci + us.toInt) ∧ ((cc + uc).toNatClampNeg : Int) = (cci + uc.toInt) := ⟨slot_of hhc rfl (by omega), slot_of hsc rfl (by omega), slot_of hcc rfl (by omega)⟩
          refine z_run X bm_X4_readLines_62_64 km_X4_readLines_62_64 (lv' := [(4, .int i_), (0, .ref reader), (1, .ref ring), (2, .ref speeds), (3, .ref wheel)]) (st' := [.ref reader, .int (-1)]) rfl ?_
          refine z_get X fl_4_28 dm_X4_readLines_64 0 rfl (v := .int q_3) rfl ?_
          refine z_run X bm_X4_readLines_67_68 km_X4_readLines_67_68 (lv' := [(4, .int i_), (0, .ref reader), (1, .ref ring), (2, .ref speeds), (3, .ref wheel)]) (st' := [.int ((-1) - q_3)]) rfl ?_
          exact z_iret X rfl dm_X4_readLines_68 (Nat.le_of_ble_eq_true rfl) (Nat.le_of_ble_eq_true rfl) ⟨(if 60 < n then 60 else n), q_3, m_4, mh2_5, ms2_6, mc2_7, hc, sc, cc, fp2_8, fx2_9, fy2_10, fr2_11, ff2_12, fo2_13, fw2_14, ((-1) - q_3), (CN.cast (CN.bad (hM.bad (by rw [hLm]; omega) c59_20) (by omega) (by rw [← f56_15])) (tI_sub (show ((-1) : Int32).toInt = (-1) from by decide) rfl (by omega)) hhc hsc hcc), (A7.cast (hA.off (by omega) sl f56_18).cut hhc hsc hcc), (by have e0 := hhc; have e1 := hsc; have e2 := hcc; omega), rfl, rfl⟩
    · exact ⟨(by dsimp only; decide), (by dsimp only; decide), (by dsimp only; have e1 : (1 : Int32).toInt = 1 := (by decide); have e0 : (0 : Int32).toInt = 0 := (by decide); omega), (by dsimp only; have e1 : (1 : Int32).toInt = 1 := (by decide); have e0 : (0 : Int32).toInt = 0 := (by decide); exact MI.cast (MI.zero (by omega) (by omega) (by omega)) (by omega) rfl (by omega) (by omega) (by omega)), (by dsimp only; have e1 : (1 : Int32).toInt = 1 := (by decide); have e0 : (0 : Int32).toInt = 0 := (by decide); exact A7.cast A7.zero (by omega) (by omega) (by omega))⟩
  ·
    refine z_run X bm_X4_readLines_7_8 km_X4_readLines_7_8 (lv' := [(0, .ref reader), (1, .ref ring), (2, .ref speeds), (3, .ref wheel)]) (st' := [.int 0]) rfl ?_
    exact z_iret X rfl dm_X4_readLines_8 (Nat.le_of_ble_eq_true rfl) (Nat.le_of_ble_eq_true rfl) ⟨lim, p, nb, mh, ms, mc, hc, sc, cc, fp, fx, fy, fr, ff, fo, fw, 0, (CN.cast (CN.zero (by omega) (by rw [(tI_min hn (show (60 : Int32).toInt = 60 from by decide))]; omega)) (by decide) hhc hsc hcc), (A7.cast A7.zero hhc hsc hcc), (by have e0 := hhc; have e1 := hsc; have e2 := hcc; omega), rfl, rfl⟩

