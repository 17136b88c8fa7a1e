section BKS
variable {p : Program} {l : Launch} {e : Env} {s : State} {m : MethodId} {args : Array Value} {below : List Frame} {meth : Method} {c : Code} {G : KG} {A : Nat → Prop} {ad : Nat → Nat} {w0 : va_W} {μ : Nat → Value}
/-- what the walk knows of the world -/
def BKw (G : KG) (ad : Nat → Nat) (w0 : va_W) (hn : Int32) (p rm oz f : Nat → Int32) (ws : va_W) : Prop := WT G ad TM ws ∧ FRM C_buckets.2.2.2.2.1 w0 ws ∧ fget ws 0 3 = some (.int hn) ∧ ws[2]? = some (ad 2, aI G 16 p) ∧ ws[5]? = some (ad 5, aI G 16 rm) ∧ ws[6]? = some (ad 6, aI G 16 oz) ∧ ws[42]? = some (ad 42, aI G 16 f)
theorem BKw.set {hn : Int32} {p rm oz f : Nat → Int32} {ws : va_W} (h : BKw G ad w0 hn p rm oz f ws) (j : Nat) (v : Int32) : BKw G ad w0 hn p rm oz (upd f j v) (ws.set 42 (ad 42, aI G 16 (upd f j v))) := by
  obtain ⟨h1, h2, h3, h4, h5, h6, h7⟩ := h
  refine ⟨WT.wr h1 rfl h7 (i32_lo v) (i32_hi v), h2.wr (x := (cyI G, 16, .inl f)) (b := 0) (by decide), ?_, ?_, ?_, ?_, set_same h7⟩
  · rw [fget_arr_eq h7]; exact h3
  · rw [set_other (by decide)]; exact h4
  · rw [set_other (by decide)]; exact h5
  · rw [set_other (by decide)]; exact h6
theorem BKw.setL {hn : Int32} {p rm oz f g : Nat → Int32} {ws : va_W} (h : BKw G ad w0 hn p rm oz f ws) (hg : ws[20]? = some (ad 20, aI G 4 g)) (j : Nat) (v : Int32) : BKw G ad w0 hn p rm oz f (ws.set 20 (ad 20, aI G 4 (upd g j v))) := by
  obtain ⟨h1, h2, h3, h4, h5, h6, h7⟩ := h
  refine ⟨WT.wr h1 rfl hg (i32_lo v) (i32_hi v), h2.wr (x := (cyI G, 4, .inl g)) (b := 0) (by decide), ?_, ?_, ?_, ?_, ?_⟩
  · rw [fget_arr_eq hg]; exact h3
  · rw [set_other (by decide)]; exact h4
  · rw [set_other (by decide)]; exact h5
  · rw [set_other (by decide)]; exact h6
  · rw [set_other (by decide)]; exact h7
abbrev BKpo (G : KG) (ad : Nat → Nat) (w0 : va_W) (μ : Nat → Value) : Option Value → va_W → Prop := fun r w1 => POST G ad TM C_buckets μ w0 r w1
theorem bk_post {x : Int32} {ws : va_W} (h1 : WT G ad TM ws) (h2 : FRM C_buckets.2.2.2.2.1 w0 ws) : BKpo G ad w0 μ (some (.int x)) ws :=
  ⟨_, List.mem_cons_self, nup μ 50 (.int x), fun i hi => nup_ne hi, fun i hi _ => if_neg (by omega), (show resOK ad (some _) (some (.int x)) (nup μ 50 (.int x) 50) from ⟨by rw [nup_eq], by rw [nup_eq]; exact vty_i0 x⟩), fun q hq => absurd hq List.not_mem_nil, fun n q hq => (by have hq : ([] : List (Nat × Nat × VT))[n]? = some q := hq; simp at hq), fun q hq => absurd hq List.not_mem_nil, h1, h2⟩
theorem irem_v {a b : Int32} (ha : 0 ≤ a.toInt) (hb : 0 < b.toInt) : (a - a / b * b).toInt = a.toInt % b.toInt := by
  have h1 := Int.ediv_nonneg ha (Int.le_of_lt hb)
  have e1 := i32_div ha hb
  have h3 := Int.ediv_mul_le a.toInt (show b.toInt ≠ 0 by omega)
  have h0 : 0 ≤ a.toInt / b.toInt * b.toInt := Int.mul_nonneg h1 (Int.le_of_lt hb)
  have h4 := i32_hi a
  unfold iMax at h4
  have e2 : (a / b * b).toInt = a.toInt / b.toInt * b.toInt := tI_mul e1 rfl (by omega)
  have e3 : (a - a / b * b).toInt = a.toInt - a.toInt / b.toInt * b.toInt := tI_sub rfl e2 (by omega)
  have := Int.emod_def a.toInt b.toInt
  rw [e3, this, Int.mul_comm]

theorem bk_loop1 {hn pv : Int32} {bd : Int64} {pl rm oz : Nat → Int32} (X : ZC p s m args meth c cX11_buckets 7 RX11 G A (some .int) "buckets") (hn0 : 0 ≤ hn.toInt) (hn1 : hn.toInt ≤ 16)
    (hK : ∀ (ws : va_W) (f : Nat → Int32), BKw G ad w0 hn pl rm oz f ws → Z p l e (rmOf C_buckets) s m args below meth c 7 G A (MQ below (QQ G A (BKpo G ad w0 μ)) args s 0 0 A) 96 [(0, .ref (ad 0)), (1, .int pv), (2, .long bd), (4, .int (SS pl rm f pv hn.toInt.toNat))] [] ws 0 0) :
    ∀ (n : Nat) (h : Int32) (f : Nat → Int32) (ws : va_W), BKw G ad w0 hn pl rm oz f ws → 0 ≤ h.toInt → h.toInt ≤ hn.toInt → (hn.toInt - h.toInt).toNat < n → Z p l e (rmOf C_buckets) s m args below meth c 7 G A (MQ below (QQ G A (BKpo G ad w0 μ)) args s 0 0 A) 32 [(0, .ref (ad 0)), (1, .int pv), (2, .long bd), (4, .int (SS pl rm f pv h.toInt.toNat)), (5, .int h)] [] ws 0 0
  | 0, _, _, _, _, _, _, h9 => absurd h9 (Nat.not_lt_zero _)
  | n + 1, h, f, ws, hB, h0, h1, h9 => by
    refine z_iload X d_bk_32 4 rfl ?_
    refine z_aload_n X d_bk_34 rfl 0 rfl ?_
    refine hget (T := TM) X hB.1 (idx := 63) (fld_11_ok _ (by decide : (63, 11, 3) ∈ fld_11)) d_bk_35 rfl (hB.2.2.1) ?_
    refine zc_ge X d_bk_38 (tgt := 96) (by decide) (a := h.toInt) (b := hn.toInt) rfl rfl (fun hge => ?_) (fun hlt => ?_)
    · have eh : h.toInt = hn.toInt := by omega
      rw [eh]
      exact Z.mono (fun q hq => by simp only [List.mem_cons, List.not_mem_nil, or_false] at hq ⊢; rcases hq with h | h | h | h <;> simp [h]) (hK ws f hB)
    have hv16 : vp_in h 16 := vp_of h0 (by omega)
    have ehn : h.toNatClampNeg = h.toInt.toNat := rfl
    refine z_aload_n X d_bk_41 rfl 0 rfl ?_
    refine hget (T := TM) X hB.1 (idx := 456) (fld_11_ok _ (by decide : (456, 11, 67) ∈ fld_11)) d_bk_42 rfl (fget_ref hB.1 rfl rfl) ?_
    refine z_iload X d_bk_45 4 rfl ?_
    refine z_aload_n X d_bk_47 rfl 0 rfl ?_
    refine hget (T := TM) X hB.1 (idx := 82) (fld_11_ok _ (by decide : (82, 11, 8) ∈ fld_11)) d_bk_48 rfl (fget_ref hB.1 rfl rfl) ?_
    refine z_iload X d_bk_51 4 rfl ?_
    refine z_iald X d_bk_53 6 (hB.2.2.2.2.2.1) (hv16) rfl ?_
    refine z_iast X d_bk_54 42 (hB.2.2.2.2.2.2) (hv16) rfl ?_
    have hB' := hB.set h.toNatClampNeg (oz h.toNatClampNeg)
    generalize hws : ws.set 42 (ad 42, aI G 16 (upd f h.toNatClampNeg (oz h.toNatClampNeg))) = ws' at hB' ⊢
    refine z_iload X d_bk_55 3 rfl ?_
    refine z_aload_n X d_bk_57 rfl 0 rfl ?_
    refine hget (T := TM) X hB'.1 (idx := 66) (fld_11_ok _ (by decide : (66, 11, 4) ∈ fld_11)) d_bk_58 rfl (fget_ref hB'.1 rfl rfl) ?_
    refine z_iload X d_bk_61 4 rfl ?_
    refine z_iald X d_bk_63 2 (hB'.2.2.2.1) (hv16) rfl ?_
    refine z_iload_n X d_bk_64 rfl 1 rfl ?_
    have eS : SS pl rm (upd f h.toNatClampNeg (oz h.toNatClampNeg)) pv h.toInt.toNat = SS pl rm f pv h.toInt.toNat := SS_out _ (Nat.le_refl _)
    have eU : upd f h.toNatClampNeg (oz h.toNatClampNeg) h.toInt.toNat = oz h.toNatClampNeg := by rw [← ehn]; unfold upd; rw [if_pos rfl]
    have e1 : (h + Int32.ofInt 1).toInt = h.toInt + 1 := tI_add rfl (show (Int32.ofInt 1).toInt = 1 by decide) (by omega)
    have eN : (h + Int32.ofInt 1).toInt.toNat = h.toInt.toNat + 1 := by omega
    have fin : ∀ v : Int32, SS pl rm f pv h.toInt.toNat + v = SS pl rm (upd f h.toNatClampNeg (oz h.toNatClampNeg)) pv (h.toInt.toNat + 1) → Z p l e (rmOf C_buckets) s m args below meth c 7 G A (MQ below (QQ G A (BKpo G ad w0 μ)) args s 0 0 A) 87 [(0, .ref (ad 0)), (1, .int (pv)), (2, .long (bd)), (4, .int (SS pl rm f pv h.toInt.toNat)), (5, .int (h))] [.int v, .int (SS pl rm f pv h.toInt.toNat)] ws' 0 0 := by
      intro v hv
      refine z_iadd X d_bk_87 ?_
      refine z_istore X d_bk_88 (by decide) (lv' := [(4, .int (((SS pl rm f pv h.toInt.toNat) + (v)))), (0, .ref (ad 0)), (1, .int (pv)), (2, .long (bd)), (5, .int (h))]) rfl ?_
      refine z_iinc X d_bk_90 (k := 4) rfl rfl (by decide) (lv' := [(5, .int (h + Int32.ofInt (1))), (4, .int (((SS pl rm f pv h.toInt.toNat) + (v)))), (0, .ref (ad 0)), (1, .int (pv)), (2, .long (bd))]) rfl ?_
      refine z_goto X d_bk_93 (tgt := 32) (by decide) ?_
      rw [hv, ← eN]
      exact Z.mono (fun q hq => by simp only [List.mem_cons, List.not_mem_nil, or_false] at hq ⊢; rcases hq with h | h | h | h | h <;> simp [h]) (bk_loop1 (bd := bd) X hn0 hn1 hK n (h + Int32.ofInt 1) _ ws' hB' (by omega) (by omega) (by omega))
    refine zc_ne X d_bk_65 (tgt := 86) (by decide) (a := (pl h.toNatClampNeg).toInt) (b := pv.toInt) rfl rfl (fun hne => ?_) (fun heq => ?_)
    · skip
      refine z_iconst X d_bk_86 (v := 0) (by decide) ?_
      refine fin 0 ?_
      show _ = SS pl rm (upd f h.toNatClampNeg (oz h.toNatClampNeg)) pv h.toInt.toNat + (if pl h.toInt.toNat = pv then _ else 0)
      rw [eS, if_neg (fun q => hne (by rw [ehn, q]))]
    · skip
      refine z_aload_n X d_bk_68 rfl 0 rfl ?_
      refine hget (T := TM) X hB'.1 (idx := 79) (fld_11_ok _ (by decide : (79, 11, 7) ∈ fld_11)) d_bk_69 rfl (fget_ref hB'.1 rfl rfl) ?_
      refine z_iload X d_bk_72 4 rfl ?_
      refine z_iald X d_bk_74 5 (hB'.2.2.2.2.1) (hv16) rfl ?_
      refine z_aload_n X d_bk_75 rfl 0 rfl ?_
      refine hget (T := TM) X hB'.1 (idx := 82) (fld_11_ok _ (by decide : (82, 11, 8) ∈ fld_11)) d_bk_76 rfl (fget_ref hB'.1 rfl rfl) ?_
      refine z_iload X d_bk_79 4 rfl ?_
      refine z_iald X d_bk_81 6 (hB'.2.2.2.2.2.1) (hv16) rfl ?_
      refine z_isub X d_bk_82 ?_
      refine z_goto X d_bk_83 (tgt := 87) (by decide) ?_
      refine fin _ ?_
      show _ = SS pl rm (upd f h.toNatClampNeg (oz h.toNatClampNeg)) pv h.toInt.toNat + (if pl h.toInt.toNat = pv then rm h.toInt.toNat - upd f h.toNatClampNeg (oz h.toNatClampNeg) h.toInt.toNat else 0)
      rw [eS, eU, if_pos (by rw [← ehn]; exact Int32.toInt_inj.mp heq), ehn]
theorem bk_inner {hn pv left mi : Int32} {bd : Int64} {pl rm oz f : Nat → Int32} {ws : va_W} {t0 : Nat} (X : ZC p s m args meth c cX11_buckets 7 RX11 G A (some .int) "buckets") (hn0 : 0 < hn.toInt) (hn1 : hn.toInt ≤ 16) (hB : BKw G ad w0 hn pl rm oz f ws) (ht0 : t0 < hn.toInt.toNat) (hp0 : pl t0 = pv) (hf0 : f t0 ≠ rm t0)
    (hK : ∀ t : Int32, 0 ≤ t.toInt → t.toInt < hn.toInt → pl t.toNatClampNeg = pv → f t.toNatClampNeg ≠ rm t.toNatClampNeg → Z p l e (rmOf C_buckets) s m args below meth c 7 G A (MQ below (QQ G A (BKpo G ad w0 μ)) args s 0 0 A) 162 [(0, .ref (ad 0)), (1, .int pv), (2, .long bd), (4, .int left), (5, .int mi), (6, .int t)] [] ws 0 0) :
    ∀ (n : Nat) (t : Int32), 0 ≤ t.toInt → t.toInt < hn.toInt → (if t.toInt.toNat ≤ t0 then t0 - t.toInt.toNat else hn.toInt.toNat - t.toInt.toNat + t0) < n → Z p l e (rmOf C_buckets) s m args below meth c 7 G A (MQ below (QQ G A (BKpo G ad w0 μ)) args s 0 0 A) 120 [(0, .ref (ad 0)), (1, .int pv), (2, .long bd), (4, .int left), (5, .int mi), (6, .int t)] [] ws 0 0
  | 0, _, _, _, h9 => absurd h9 (Nat.not_lt_zero _)
  | n + 1, t, h0, h1, h9 => by
    have hv16 : vp_in t 16 := vp_of h0 (by omega)
    have etn : t.toNatClampNeg = t.toInt.toNat := rfl
    have step : (t.toInt.toNat ≠ t0) → Z p l e (rmOf C_buckets) s m args below meth c 7 G A (MQ below (QQ G A (BKpo G ad w0 μ)) args s 0 0 A) 148 [(0, .ref (ad 0)), (1, .int pv), (2, .long bd), (4, .int left), (5, .int mi), (6, .int t)] [] ws 0 0 := by
      intro hne
      refine z_iload X d_bk_148 5 rfl ?_
      refine z_iconst X d_bk_150 (v := 1) (by decide) ?_
      refine z_iadd X d_bk_151 ?_
      refine z_aload_n X d_bk_152 rfl 0 rfl ?_
      refine hget (T := TM) X hB.1 (idx := 63) (fld_11_ok _ (by decide : (63, 11, 3) ∈ fld_11)) d_bk_153 rfl (hB.2.2.1) ?_
      have e1 : (t + 1).toInt = t.toInt + 1 := tI_add rfl rfl (by omega)
      have e2 := irem_v (a := t + 1) (b := hn) (by omega) hn0
      have m1 := Int.emod_nonneg (t + 1).toInt (show hn.toInt ≠ 0 by omega)
      have m2 := Int.emod_lt_of_pos (t + 1).toInt hn0
      refine z_irem X d_bk_156 (fun q => by rw [q] at hn0; exact absurd hn0 (by decide)) ?_
      refine z_istore X d_bk_157 (by decide) (lv' := [(6, .int (((t + 1) - (t + 1) / hn * hn))), (0, .ref (ad 0)), (1, .int (pv)), (2, .long (bd)), (4, .int (left)), (5, .int (mi))]) rfl ?_
      refine z_goto X d_bk_159 (tgt := 120) (by decide) ?_
      refine Z.mono (fun q hq => by simp only [List.mem_cons, List.not_mem_nil, or_false] at hq ⊢; rcases hq with h | h | h | h | h | h <;> simp [h]) (bk_inner (bd := bd) X hn0 hn1 hB ht0 hp0 hf0 hK n ((t + 1) - (t + 1) / hn * hn) (by omega) (by omega) ?_)
      rw [e2, e1]
      rcases (by omega : t.toInt + 1 < hn.toInt ∨ t.toInt + 1 = hn.toInt) with h | h
      · rw [Int.emod_eq_of_lt (by omega) h]; split at h9 <;> split <;> omega
      · rw [h, Int.emod_self]; split at h9 <;> split <;> omega
    refine z_aload_n X d_bk_120 rfl 0 rfl ?_
    refine hget (T := TM) X hB.1 (idx := 66) (fld_11_ok _ (by decide : (66, 11, 4) ∈ fld_11)) d_bk_121 rfl (fget_ref hB.1 rfl rfl) ?_
    refine z_iload X d_bk_124 5 rfl ?_
    refine z_iald X d_bk_126 2 (hB.2.2.2.1) (hv16) rfl ?_
    refine z_iload_n X d_bk_127 rfl 1 rfl ?_
    refine zc_ne X d_bk_128 (tgt := 148) (by decide) (a := (pl t.toNatClampNeg).toInt) (b := pv.toInt) rfl rfl (fun hne => step (fun q => hne (by rw [etn, q, hp0]))) (fun heq => ?_)
    refine z_aload_n X d_bk_131 rfl 0 rfl ?_
    refine hget (T := TM) X hB.1 (idx := 456) (fld_11_ok _ (by decide : (456, 11, 67) ∈ fld_11)) d_bk_132 rfl (fget_ref hB.1 rfl rfl) ?_
    refine z_iload X d_bk_135 5 rfl ?_
    refine z_iald X d_bk_137 42 (hB.2.2.2.2.2.2) (hv16) rfl ?_
    refine z_aload_n X d_bk_138 rfl 0 rfl ?_
    refine hget (T := TM) X hB.1 (idx := 79) (fld_11_ok _ (by decide : (79, 11, 7) ∈ fld_11)) d_bk_139 rfl (fget_ref hB.1 rfl rfl) ?_
    refine z_iload X d_bk_142 5 rfl ?_
    refine z_iald X d_bk_144 5 (hB.2.2.2.2.1) (hv16) rfl ?_
    refine zc_ne X d_bk_145 (tgt := 162) (by decide) (a := (f t.toNatClampNeg).toInt) (b := (rm t.toNatClampNeg).toInt) rfl rfl (fun hne => hK t h0 h1 (Int32.toInt_inj.mp heq) (fun q => hne (by rw [q]))) (fun heq2 => step (fun q => hf0 (by rw [← q, ← etn]; exact Int32.toInt_inj.mp heq2)))
theorem bk_outer {hn pv : Int32} {bd : Int64} {pl rm oz : Nat → Int32} (X : ZC p s m args meth c cX11_buckets 7 RX11 G A (some .int) "buckets") (hpv : 0 ≤ pv.toInt ∧ pv.toInt ≤ 1) (hn0 : 0 ≤ hn.toInt) (hn1 : hn.toInt ≤ 16) :
    ∀ (n : Nat) (left mi t : Int32) (f : Nat → Int32) (ws : va_W), BKw G ad w0 hn pl rm oz f ws → left = SS pl rm f pv hn.toInt.toNat → 0 ≤ t.toInt → (0 < hn.toInt → t.toInt < hn.toInt) → left.toBitVec.toNat < n → Z p l e (rmOf C_buckets) s m args below meth c 7 G A (MQ below (QQ G A (BKpo G ad w0 μ)) args s 0 0 A) 102 [(0, .ref (ad 0)), (1, .int pv), (2, .long bd), (4, .int left), (5, .int mi), (6, .int t)] [] ws 0 0
  | 0, _, _, _, _, _, _, _, _, _, h9 => absurd h9 (Nat.not_lt_zero _)
  | n + 1, left, mi, t, f, ws, hB, hS, h0, h1, h9 => by
    refine z_aload_n X d_bk_102 rfl 0 rfl ?_
    refine z_iload_n X d_bk_103 rfl 1 rfl ?_
    obtain ⟨μ', hμ⟩ : ∃ μ' : Nat → Value, μ' = fun i => if i = 0 then .ref (ad 0) else .int pv := ⟨_, rfl⟩
    have m0 : μ' 0 = .ref (ad 0) := by rw [hμ]; rfl
    have m1 : μ' 1 = .int pv := by rw [hμ]; rfl
    have hpre : PRE ad C_X11_restOf_0 μ' ws := by
      refine ⟨fun j t hj => ?_, fun j q hj => ?_, fun q hq => ?_⟩
      · match j, hj with
        | 0, hj => cases hj; rw [m0]; exact Or.inr (Or.inr (Or.inl ⟨rfl, rfl⟩))
        | 1, hj => cases hj; rw [m1]; exact vty_i hpv.1 hpv.2
        | n + 2, hj => cases hj
      · cases hj
      · cases hq
    have hct := ac_X11_restOf_0 l G ad ws μ' hB.1 hpre
    have hct : Ct l G yX11_restOf cX11_restOf 2 (some .long) (rmOf C_X11_restOf_0) [.ref (ad 0), .int pv] ws (fun r w1 => POST G ad TM C_X11_restOf_0 μ' ws r w1) := by
      have e0 : (List.range C_X11_restOf_0.1.length).map μ' = [.ref (ad 0), .int pv] := by show [μ' 0, μ' 1] = _; rw [m0, m1]
      rw [← e0]; exact hct
    refine hcallV (T := TM) (k := 0) (rest := []) (avs := [.int pv]) X k_11_358 hct d_bk_104 hB.1 rfl rfl rfl rfl ⟨by decide, by decide⟩ ⟨Nat.le_refl 0, Nat.le_refl 0⟩ (by decide) rfl (fun r w1 hp => ?_)
    obtain ⟨A1, hA1, μ2, -, -, a3, -, -, -, a7, a8⟩ := hp
    have hA2 := List.mem_singleton.mp hA1
    subst hA2
    obtain ⟨rfl, a4⟩ := a3
    obtain ⟨v, hv, -⟩ := vty1 a4 rfl
    rw [hv]
    have hB' : BKw G ad w0 hn pl rm oz f w1 := by
      obtain ⟨g1, g2, g3, g4, g5, g6, g7⟩ := hB
      have ar : ∀ (k n : Nat) (t : VT) (z : Nat → Int32), TM[k]? = some (.inr (0, n, t)) → ws[k]? = some (ad k, aI G n z) → w1[k]? = some (ad k, aI G n z) := fun k n t z hT hz => by
        obtain ⟨b, hb⟩ := a8.arr (k := k) rfl hz
        rw [WT.adr (T := TM) a7 hT hb] at hb
        exact hb
      exact ⟨a7, frm_trans g2 a8 (by decide), fget_frame a8 rfl g3, ar 2 16 _ _ rfl g4, ar 5 16 _ _ rfl g5, ar 6 16 _ _ rfl g6, ar 42 16 _ _ rfl g7⟩
    refine z_lload_n X d_bk_107 rfl 2 rfl ?_
    refine zl_gt X d_bk_108 d_bk_109 (tgt := 231) (by decide) (a := v.toInt) (b := bd.toInt) rfl rfl (fun _ => ?_) (fun _ => ?_)
    · skip
      refine z_iload X d_bk_231 4 rfl ?_
      exact z_iret X rfl d_bk_233 (Nat.le_refl 0) (Nat.le_refl 0) (bk_post hB'.1 hB'.2.1)
    refine z_iload X d_bk_112 3 rfl ?_
    refine zi_ne X d_bk_114 (tgt := 120) (by decide) (a := left.toInt) rfl (fun hne => ?_) (fun heq => ?_)
    rotate_left
    · skip
      refine z_bipush X d_bk_117 (v := (-2)) (by decide) ?_
      exact z_iret X rfl d_bk_119 (Nat.le_refl 0) (Nat.le_refl 0) (bk_post hB'.1 hB'.2.1)
    have hpos : 0 < hn.toInt := by
      rcases (by omega : 0 < hn.toInt ∨ hn.toInt = 0) with h | h
      · exact h
      · rw [h] at hS
        exact absurd (by rw [hS]; rfl) hne
    obtain ⟨t0, q1, q2, q3⟩ : ∃ t0, t0 < hn.toInt.toNat ∧ pl t0 = pv ∧ f t0 ≠ rm t0 := by
      rcases Classical.em (∃ t0, t0 < hn.toInt.toNat ∧ pl t0 = pv ∧ f t0 ≠ rm t0) with h | h
      · exact h
      · refine absurd ?_ hne
        rw [hS, SS_zero hn.toInt.toNat (fun k hk hpk => Classical.byContradiction (fun hq => h ⟨k, hk, hpk, hq⟩))]
        rfl
    refine bk_inner X hpos hn1 hB' q1 q2 q3 (fun t h0 h1 hpt hft => ?_) _ t h0 (h1 hpos) (Nat.lt_succ_self _)
    have hv16 : vp_in t 16 := vp_of h0 (by omega)
    have etn : t.toNatClampNeg = t.toInt.toNat := rfl
    refine z_aload_n X d_bk_162 rfl 0 rfl ?_
    refine hget (T := TM) X hB'.1 (idx := 456) (fld_11_ok _ (by decide : (456, 11, 67) ∈ fld_11)) d_bk_163 rfl (fget_ref hB'.1 rfl rfl) ?_
    refine z_iload X d_bk_166 5 rfl ?_
    refine z_dup2_11 X d_bk_168 rfl rfl ?_
    refine z_iald X d_bk_169 42 (hB'.2.2.2.2.2.2) (hv16) rfl ?_
    refine z_iconst X d_bk_170 (v := 1) (by decide) ?_
    refine z_iadd X d_bk_171 ?_
    refine z_iast X d_bk_172 42 (hB'.2.2.2.2.2.2) (hv16) rfl ?_
    have hB2 := hB'.set t.toNatClampNeg (f t.toNatClampNeg + 1)
    generalize hws2 : w1.set 42 (ad 42, aI G 16 (upd f t.toNatClampNeg (f t.toNatClampNeg + 1))) = ws2 at hB2 ⊢
    have p2 : ((2 : Int32) * pv).toInt = 2 * pv.toInt := tI_mul rfl rfl (by omega)
    have p3 : ((2 : Int32) * pv + 1).toInt = 2 * pv.toInt + 1 := tI_add p2 rfl (by omega)
    have hl0 : vp_in ((2 : Int32) * pv) 4 := vp_of (by omega) (by omega)
    have hl1 : vp_in ((2 : Int32) * pv + 1) 4 := vp_of (by omega) (by omega)
    obtain ⟨g1, ug1, -⟩ := WT.ints (T := TM) (k := 20) (n := 4) hB2.1 rfl
    obtain ⟨xg1, vg1, -⟩ := WT.ints (T := TM) (k := 3) (n := 16) hB2.1 rfl
    refine z_aload_n X d_bk_173 rfl 0 rfl ?_
    refine hget (T := TM) X hB2.1 (idx := 166) (fld_11_ok _ (by decide : (166, 11, 30) ∈ fld_11)) d_bk_174 rfl (fget_ref hB2.1 rfl rfl) ?_
    refine z_iconst X d_bk_177 (v := 2) (by decide) ?_
    refine z_iload_n X d_bk_178 rfl 1 rfl ?_
    refine z_imul X d_bk_179 ?_
    refine z_dup2_11 X d_bk_180 rfl rfl ?_
    refine z_iald X d_bk_181 20 (ug1) (hl0) rfl ?_
    refine z_aload_n X d_bk_182 rfl 0 rfl ?_
    refine hget (T := TM) X hB2.1 (idx := 69) (fld_11_ok _ (by decide : (69, 11, 5) ∈ fld_11)) d_bk_183 rfl (fget_ref hB2.1 rfl rfl) ?_
    refine z_iload X d_bk_186 5 rfl ?_
    refine z_iald X d_bk_188 3 (vg1) (hv16) rfl ?_
    refine z_iadd X d_bk_189 ?_
    refine z_iast X d_bk_190 20 (ug1) (hl0) rfl ?_
    have hB3 := hB2.setL ug1 ((2 : Int32) * pv).toNatClampNeg (((g1 (((2 : Int32) * pv)).toNatClampNeg) + (xg1 (t).toNatClampNeg)))
    generalize hws3 : ws2.set 20 _ = ws3 at hB3 ⊢
    obtain ⟨g2, ug2, -⟩ := WT.ints (T := TM) (k := 20) (n := 4) hB3.1 rfl
    obtain ⟨xg2, vg2, -⟩ := WT.ints (T := TM) (k := 4) (n := 16) hB3.1 rfl
    refine z_aload_n X d_bk_191 rfl 0 rfl ?_
    refine hget (T := TM) X hB3.1 (idx := 166) (fld_11_ok _ (by decide : (166, 11, 30) ∈ fld_11)) d_bk_192 rfl (fget_ref hB3.1 rfl rfl) ?_
    refine z_iconst X d_bk_195 (v := 2) (by decide) ?_
    refine z_iload_n X d_bk_196 rfl 1 rfl ?_
    refine z_imul X d_bk_197 ?_
    refine z_iconst X d_bk_198 (v := 1) (by decide) ?_
    refine z_iadd X d_bk_199 ?_
    refine z_dup2_11 X d_bk_200 rfl rfl ?_
    refine z_iald X d_bk_201 20 (ug2) (hl1) rfl ?_
    refine z_aload_n X d_bk_202 rfl 0 rfl ?_
    refine hget (T := TM) X hB3.1 (idx := 76) (fld_11_ok _ (by decide : (76, 11, 6) ∈ fld_11)) d_bk_203 rfl (fget_ref hB3.1 rfl rfl) ?_
    refine z_iload X d_bk_206 5 rfl ?_
    refine z_iald X d_bk_208 4 (vg2) (hv16) rfl ?_
    refine z_iadd X d_bk_209 ?_
    refine z_iast X d_bk_210 20 (ug2) (hl1) rfl ?_
    have hB4 := hB3.setL ug2 ((2 : Int32) * pv + 1).toNatClampNeg (((g2 (((2 : Int32) * pv + 1)).toNatClampNeg) + (xg2 (t).toNatClampNeg)))
    generalize hws4 : ws3.set 20 _ = ws4 at hB4 ⊢
    refine z_iload X d_bk_211 5 rfl ?_
    refine z_iconst X d_bk_213 (v := 1) (by decide) ?_
    refine z_iadd X d_bk_214 ?_
    refine z_aload_n X d_bk_215 rfl 0 rfl ?_
    refine hget (T := TM) X hB4.1 (idx := 63) (fld_11_ok _ (by decide : (63, 11, 3) ∈ fld_11)) d_bk_216 rfl (hB4.2.2.1) ?_
    have e1 : (t + 1).toInt = t.toInt + 1 := tI_add rfl rfl (by omega)
    have e2 := irem_v (a := t + 1) (b := hn) (by omega) hpos
    have m1 := Int.emod_nonneg (t + 1).toInt (show hn.toInt ≠ 0 by omega)
    have m2 := Int.emod_lt_of_pos (t + 1).toInt hpos
    refine z_irem X d_bk_219 (fun q => by rw [q] at hpos; exact absurd hpos (by decide)) ?_
    refine z_istore X d_bk_220 (by decide) (lv' := [(6, .int (((t + 1) - (t + 1) / hn * hn))), (0, .ref (ad 0)), (1, .int (pv)), (2, .long (bd)), (4, .int (left)), (5, .int (mi))]) rfl ?_
    refine z_iinc X d_bk_222 (k := 4) rfl rfl (by decide) (lv' := [(4, .int (left + Int32.ofInt (-1))), (6, .int (((t + 1) - (t + 1) / hn * hn))), (0, .ref (ad 0)), (1, .int (pv)), (2, .long (bd)), (5, .int (mi))]) rfl ?_
    refine z_iinc X d_bk_225 (k := 5) rfl rfl (by decide) (lv' := [(5, .int (mi + Int32.ofInt (1))), (4, .int (left + Int32.ofInt (-1))), (6, .int (((t + 1) - (t + 1) / hn * hn))), (0, .ref (ad 0)), (1, .int (pv)), (2, .long (bd))]) rfl ?_
    refine z_goto X d_bk_228 (tgt := 102) (by decide) ?_
    have eL : left + Int32.ofInt (-1) = left - 1 := by rw [Int32.sub_eq_add_neg]; rfl
    refine Z.mono (fun q hq => by simp only [List.mem_cons, List.not_mem_nil, or_false] at hq ⊢; rcases hq with h | h | h | h | h | h <;> simp [h]) (bk_outer (bd := bd) X hpv hn0 hn1 n (left + Int32.ofInt (-1)) (mi + Int32.ofInt 1) ((t + 1) - (t + 1) / hn * hn) _ ws4 hB4 ?_ (by omega) (fun _ => by omega) ?_)
    · rw [eL, hS, SS_one hpt _ (by omega)]
    · rw [eL]
      have hl : left.toBitVec.toNat ≠ 0 := fun q => hne (by rw [show left = 0 from Int32.toBitVec_inj.mp (BitVec.eq_of_toNat_eq q)]; rfl)
      have : (left - 1).toBitVec.toNat = left.toBitVec.toNat - 1 := by
        rw [Int32.toBitVec_sub, BitVec.toNat_sub]
        show (2 ^ 32 - 1 + left.toBitVec.toNat) % 2 ^ 32 = _
        have := left.toBitVec.isLt
        omega
      omega
end BKS
theorem ac_buckets (l : Launch) (G : KG) : ACt l G TM yX11_buckets cX11_buckets 7 (some .int) C_buckets := by
  refine hand_of (by decide) (by decide) (by decide) (by decide) (by decide) ?_
  intro p e s m args below meth c A X ad w0 μ lw hW hPre hg
  refine aseg (C := sC_bk) (PO := BKpo G ad w0 μ) (fld := fld_11) (put := put_11) (cst := cst_11) (cstl := cstl_11) (hk := hk0) (tab := D_X11_buckets) (rk := 1) (pids := [0, 1, 2]) D_X11_buckets_ok X rfl rfl hok0 (Or.inr (Or.inl ⟨rfl, rfl⟩)) (Nat.le_refl 0) (Nat.le_refl 0) (spin1 (C := C_buckets)) (spin2 (C := C_buckets)) (fun r w1 h => h) fld_11_ok put_11_ok cst_11_ok cstl_11_ok (sl_bk_ok l G) (Nat.le_refl 0) (Nat.le_refl 0) spin3 sg_bk (fun d hd ν2 lw2 sw2 ws2 hg2 => ?_) μ lw [] w0 hg
  rw [List.mem_singleton.mp hd] at hg2 ⊢
  have hs : sw2 = [] := hg2.2.1
  subst hs
  have h3 := hg2.2.2
  have el : lw2 = [(0, ν2 0), (1, ν2 1), (2, ν2 2), (4, ν2 500), (5, ν2 501)] := hg2.1
  have e0 : ν2 0 = .ref (ad 0) := h3.ref (i := 0) rfl
  obtain ⟨pv, e1, p1, p2⟩ := h3.rng (i := 1) (a := 0) (b := 1) (by decide)
  obtain ⟨bd, e2, -⟩ := vty1 (h3.2.1 (2, (1, 0, 9223372036854775807)) (by decide)) rfl
  have e2 : ν2 2 = .long bd := e2
  obtain ⟨z4, e4, q1, q2⟩ := h3.rng (i := 500) (a := 0) (b := 0) (by decide)
  obtain ⟨z5, e5, q3, q4⟩ := h3.rng (i := 501) (a := 0) (b := 0) (by decide)
  have f4 : z4 = 0 := Int32.toInt_inj.mp (by show z4.toInt = 0; omega)
  have f5 : z5 = 0 := Int32.toInt_inj.mp (by show z5.toInt = 0; omega)
  obtain ⟨hn, e6, n1, n2⟩ := h3.rng (i := 503) (a := 0) (b := 16) (by decide)
  have hf := h3.2.2.1 (0, 3, 503) (by decide)
  have hf : fget ws2 0 3 = some (ν2 503) := hf
  rw [e6] at hf
  have hW2 := h3.2.2.2.2.2.1
  have hF2 := h3.2.2.2.2.2.2
  obtain ⟨pl, a1, -⟩ := WT.ints (T := TM) (k := 2) (n := 16) hW2 rfl
  obtain ⟨rm, a2, -⟩ := WT.ints (T := TM) (k := 5) (n := 16) hW2 rfl
  obtain ⟨oz, a3, -⟩ := WT.ints (T := TM) (k := 6) (n := 16) hW2 rfl
  obtain ⟨f, a4, -⟩ := WT.ints (T := TM) (k := 42) (n := 16) hW2 rfl
  rw [el, e0, e1, e2, e4, e5, f4, f5]
  have h00 : (0 : Int32).toInt = 0 := rfl
  refine bk_loop1 (bd := bd) (pv := pv) (pl := pl) (rm := rm) (oz := oz) X n1 n2 (fun ws f hB => ?_) _ 0 f ws2 ⟨hW2, hF2, hf, a1, a2, a3, a4⟩ (by omega) (by omega) (Nat.lt_succ_self _)
  refine z_iconst X d_bk_96 (v := 0) (by decide) ?_
  refine z_istore X d_bk_97 (by decide) (lv' := [(5, .int ((0 : Int32))), (0, .ref (ad 0)), (1, .int (pv)), (2, .long (bd)), (4, .int (SS pl rm f pv hn.toInt.toNat))]) rfl ?_
  refine z_iconst X d_bk_99 (v := 0) (by decide) ?_
  refine z_istore X d_bk_100 (by decide) (lv' := [(6, .int ((0 : Int32))), (5, .int ((0 : Int32))), (0, .ref (ad 0)), (1, .int (pv)), (2, .long (bd)), (4, .int (SS pl rm f pv hn.toInt.toNat))]) rfl ?_
  refine Z.mono (fun q hq => by simp only [List.mem_cons, List.not_mem_nil, or_false] at hq ⊢; rcases hq with h | h | h | h | h | h <;> simp [h]) (bk_outer (bd := bd) (pl := pl) (rm := rm) (oz := oz) X ⟨p1, p2⟩ n1 n2 _ (SS pl rm f pv hn.toInt.toNat) 0 0 f ws hB rfl (by omega) (fun h => by omega) (Nat.lt_succ_self _))
