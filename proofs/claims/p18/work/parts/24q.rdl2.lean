/-! the class's readLine, readLines -/
def SUM (cell mf : Nat) (MX : Int) (ws : va_W) : Prop := ∃ c m : Int32, fget ws cell 0 = some (.int c) ∧ fget ws 3 mf = some (.int m) ∧ 0 ≤ c.toInt ∧ 0 ≤ m.toInt ∧ c.toInt + m.toInt ≤ MX
theorem SUM.frm {cell mf : Nat} {MX : Int} {w0 ws : va_W} {mk : List (Nat × Nat)} (h : SUM cell mf MX w0) (hF : FRM mk w0 ws) (h1 : mkq mk cell 0 = false) (h2 : mkq mk 3 mf = false) : SUM cell mf MX ws := by
  obtain ⟨c, m, a1, a2, a3⟩ := h
  exact ⟨c, m, fget_frame hF h1 a1, fget_frame hF h2 a2, a3⟩
theorem FRM.up {mk mk2 : List (Nat × Nat)} {w0 ws : va_W} (h : FRM mk2 w0 ws) (hc : cov mk mk2 = true) : FRM mk w0 ws := frm_trans (mk := mk) (wa := w0) ⟨rfl, fun _ _ _ => rfl⟩ h hc
/-- one more hole, speed or cog: by the number that there is -/
theorem rd_of {G : KG} {l : Launch} {y : MethodName} {cc : ByteArray} {cell mf MX fr lo : Nat} {msk : List (Nat × Nat)} {ts : List VT} {ci : Nat} {hi : Int} (fam : ∀ n, n < MX + 1 → ACt l G TX y cc 3 (some .boolean) (CFg cell mf MX msk fr lo n)) (hT : TX[cell]? = some (.inl (ci, ts))) (ht : ts[0]? = some (0, 0, hi)) (hm : mkq msk cell 0 = false) {ad : Nat → Nat} {w0 : va_W} (hW : WT G ad TX w0) (hS : SUM cell mf MX w0) {pv : Int32} (hp : fget w0 3 3 = some (.int pv)) (hp0 : 0 ≤ pv.toInt) (hp1 : pv.toInt ≤ 59) : Ct l G y cc 3 (some .boolean) { frames := fr, cells := 0, slots := 0, locals := lo } [.ref (ad 3), .ref (ad cell)] w0 (fun r w1 => WT G ad TX w1 ∧ FRM msk w0 w1 ∧ (∃ b : Int32, r = some (.int b) ∧ 0 ≤ b.toInt ∧ b.toInt ≤ 1) ∧ SUM cell mf MX w1) := by
  obtain ⟨c, m, a1, a2, a3, a4, a5⟩ := hS
  obtain ⟨μ, hμ⟩ : ∃ μ : Nat → Value, μ = fun i => if i = 0 then .ref (ad 3) else if i = 1 then .ref (ad cell) else if i = 100 then .int pv else if i = 101 then .int c else .int m := ⟨_, rfl⟩
  have m0 : μ 0 = .ref (ad 3) := by rw [hμ]; rfl
  have m1 : μ 1 = .ref (ad cell) := by rw [hμ]; rfl
  have m2 : μ 100 = .int pv := by rw [hμ]; rfl
  have m3 : μ 101 = .int c := by rw [hμ]; rfl
  have m4 : μ 102 = .int m := by rw [hμ]; rfl
  have ec : ((c.toInt.toNat : Nat) : Int) = c.toInt := by omega
  have hpre : PRE ad (CFg cell mf MX msk fr lo c.toInt.toNat) μ w0 := by
    refine ⟨fun j t hj => ?_, fun j q hj => ?_, fun q hq => ?_⟩
    · match j, hj with
      | 0, hj => cases hj; rw [m0]; exact Or.inr (Or.inr (Or.inl ⟨rfl, rfl⟩))
      | 1, hj => cases hj; rw [m1]; exact Or.inr (Or.inr (Or.inl ⟨rfl, rfl⟩))
      | n + 2, hj => cases hj
    · match j, hj with
      | 0, hj => cases hj; exact ⟨by rw [m2]; exact vty_i hp0 hp1, by show fget w0 3 3 = some (μ 100); rw [m2]; exact hp⟩
      | 1, hj => cases hj; exact ⟨by rw [m3]; exact vty_i (by omega) (by omega), by show fget w0 cell 0 = some (μ 101); rw [m3]; exact a1⟩
      | 2, hj => cases hj; exact ⟨by rw [m4]; exact vty_i a4 (by omega), by show fget w0 3 mf = some (μ 102); rw [m4]; exact a2⟩
      | n + 3, hj => cases hj
    · cases hq
  have h1 := fam c.toInt.toNat (by omega) ad w0 μ hW hpre
  have e0 : (List.range (CFg cell mf MX msk fr lo c.toInt.toNat).1.length).map μ = [.ref (ad 3), .ref (ad cell)] := by show [μ 0, μ 1] = _; rw [m0, m1]
  rw [e0] at h1
  refine Ct.weak h1 (fun r w1 hp => ?_)
  obtain ⟨A1, hA, μ2, b1, b2, b3, b4, b5, b6, b7, b8⟩ := hp
  have hA : A1 ∈ [((some (0, 0, 0), [], [(3, mf, (0, 0, (MX : Int) - (c.toInt.toNat : Nat)))], []) : ALT), (some (0, 1, 1), [], [(3, mf, (0, 0, (MX : Int) - (c.toInt.toNat : Nat)))], [])] := hA
  have hcw : fget w1 cell 0 = some (.int c) := fget_frame b8 hm a1
  have fin : ∀ (x1 x2 : Int), (0 ≤ x1 ∧ x2 ≤ 1) → A1 = (some (0, x1, x2), [], [(3, mf, (0, 0, (MX : Int) - (c.toInt.toNat : Nat)))], []) → WT G ad TX w1 ∧ FRM msk w0 w1 ∧ (∃ b : Int32, r = some (.int b) ∧ 0 ≤ b.toInt ∧ b.toInt ≤ 1) ∧ SUM cell mf MX w1 := by
    intro x1 x2 hx e
    subst e
    obtain ⟨r1, r2⟩ := b3
    obtain ⟨b, eb, u1, u2⟩ := vty0 r2 rfl
    have u1 : x1 ≤ b.toInt := u1
    have u2 : b.toInt ≤ x2 := u2
    obtain ⟨v1, v2⟩ := b5 0 _ rfl
    obtain ⟨z, ez, z1, z2⟩ := vty0 v1 rfl
    have z1 : 0 ≤ z.toInt := z1
    have z2 : z.toInt ≤ (MX : Int) - (c.toInt.toNat : Nat) := z2
    have v2 : fget w1 3 mf = some (μ2 200) := v2
    have ez : μ2 200 = .int z := ez
    rw [ez] at v2
    exact ⟨b7, b8, ⟨b, by rw [r1, eb], by omega, by omega⟩, c, z, hcw, v2, a3, z1, by omega⟩
  rcases List.mem_cons.mp hA with e | hA
  · exact fin 0 0 (by omega) e
  · exact fin 1 1 (by omega) (List.mem_singleton.mp hA)
section RL
variable {p : Program} {l : Launch} {e : Env} {s : State} {m : MethodId} {args : Array Value} {below : List Frame} {meth : Method} {c : Code} {G : KG} {A : Nat → Prop} {ad : Nat → Nat} {w0 : va_W} {μ : Nat → Value}
def RLpo (G : KG) (ad : Nat → Nat) (w0 : va_W) : Option Value → va_W → Prop := fun r w1 => WT G ad TX w1 ∧ FRM mk_rl w0 w1 ∧ (∃ b : Int32, r = some (.int b) ∧ 0 ≤ b.toInt ∧ b.toInt ≤ 1) ∧ SUM 5 5 16 w1 ∧ SUM 12 6 6 w1 ∧ SUM 18 7 8 w1
theorem rl_body (X : ZC p s m args meth c cX4_readLine 4 RX4 G A (some .boolean) "readLine") (hW : WT G ad TX w0) (s1 : SUM 5 5 16 w0) (s2 : SUM 12 6 6 w0) (s3 : SUM 18 7 8 w0) : Z p l e rm_rl s m args below meth c 4 G A (MQ below (QQ G A (RLpo G ad w0)) args s 0 0 A) 0 [(0, .ref (ad 3)), (1, .ref (ad 5)), (2, .ref (ad 12)), (3, .ref (ad 18))] [] w0 0 0 := by
  obtain ⟨pv, hp, p0, p1⟩ := fget_int (T := TX) (k := 3) (j := 3) hW rfl rfl
  obtain ⟨lim, hl, l0, l1⟩ := fget_int (T := TX) (k := 3) (j := 2) hW rfl rfl
  obtain ⟨sg, hsg, -⟩ := WT.ints (T := TX) (k := 4) (n := 80) hW rfl
  have ret : ∀ (pc : Nat) (lw : List (Nat × Value)) (b : Int32) (w1 : va_W), decode cX4_readLine pc = .ok (.ireturn, 1) → RLpo G ad w0 (some (.int b)) w1 → 0 ≤ b.toInt → b.toInt ≤ 1 → Z p l e rm_rl s m args below meth c 4 G A (MQ below (QQ G A (RLpo G ad w0)) args s 0 0 A) pc lw [.int b] w1 0 0 := fun pc lw b w1 hd hp h0 h1 => z_zret X rfl (nar_z h0 h1) hd (Nat.le_refl 0) (Nat.le_refl 0) hp
  have refl0 : FRM mk_rl w0 w0 := ⟨rfl, fun _ _ _ => rfl⟩
  have no : RLpo G ad w0 (some (.int 0)) w0 := ⟨hW, refl0, ⟨0, rfl, by decide, by decide⟩, s1, s2, s3⟩
  refine z_aload_n X d_ll_0 rfl 0 rfl ?_
  refine hget (T := TX) X hW (idx := 28) (fld_4_ok _ (by decide : (28, 4, 3) ∈ fld_4)) d_ll_1 rfl (hp) ?_
  refine z_aload_n X d_ll_4 rfl 0 rfl ?_
  refine hget (T := TX) X hW (idx := 25) (fld_4_ok _ (by decide : (25, 4, 2) ∈ fld_4)) d_ll_5 rfl (hl) ?_
  refine zc_lt X d_ll_8 (tgt := 13) (by decide) (a := pv.toInt) (b := lim.toInt) rfl rfl (fun hlt => ?_) (fun hge => ?_)
  rotate_left
  · skip
    refine z_iconst X d_ll_11 (v := 0) (by decide) ?_
    exact ret _ _ 0 w0 d_ll_12 no (by decide) (by decide)
  have hv80 : vp_in pv 80 := vp_of p0 (by omega)
  refine z_aload_n X d_ll_13 rfl 0 rfl ?_
  refine hget (T := TX) X hW (idx := 9) (fld_4_ok _ (by decide : (9, 4, 0) ∈ fld_4)) d_ll_14 rfl (fget_ref hW rfl rfl) ?_
  refine z_aload_n X d_ll_17 rfl 0 rfl ?_
  refine hget (T := TX) X hW (idx := 28) (fld_4_ok _ (by decide : (28, 4, 3) ∈ fld_4)) d_ll_18 rfl (hp) ?_
  refine z_iald X d_ll_21 4 (hsg) (hv80) rfl ?_
  rcases look_off [(99, 46), (104, 34), (115, 40)] 52 (sg pv.toNatClampNeg).toInt with e | ⟨q, hq, e1, e2⟩
  · refine z_lookup X d_ll_22 (by decide) e (tgt := 74) (by decide) ?_
    refine z_iconst X d_ll_74 (v := 0) (by decide) ?_
    exact ret _ _ 0 w0 d_ll_75 no (by decide) (by decide)
  simp only [List.mem_cons, List.not_mem_nil, or_false] at hq
  rcases hq with rfl | rfl | rfl
  · refine z_lookup X d_ll_22 (by decide) e2 (tgt := 68) (by decide) ?_
    refine z_aload_n X d_ll_68 rfl 0 rfl ?_
    refine z_aload_n X d_ll_69 rfl 3 rfl ?_
    have hct := rd_of (cell := 18) (mf := 7) (MX := 8) (fun n hn => ac_rc l G n hn) rfl rfl (by decide) hW s3 hp p0 (by omega)
    refine hcallV (T := TX) (k := 3) (rest := []) (avs := [.ref (ad 18)]) X k_4_67 hct d_ll_70 hW rfl rfl rfl rfl ⟨by decide, by decide⟩ ⟨Nat.le_refl 0, Nat.le_refl 0⟩ (by decide) rfl (fun r w1 hp => ?_)
    obtain ⟨a1, a2, ⟨b, rfl, b1, b2⟩, a4⟩ := hp
    exact ret _ _ b w1 d_ll_73 ⟨a1, a2.up (by decide), ⟨b, rfl, b1, b2⟩, s1.frm a2 (by decide) (by decide), s2.frm a2 (by decide) (by decide), a4⟩ b1 b2
  · refine z_lookup X d_ll_22 (by decide) e2 (tgt := 56) (by decide) ?_
    refine z_aload_n X d_ll_56 rfl 0 rfl ?_
    refine z_aload_n X d_ll_57 rfl 1 rfl ?_
    have hct := rd_of (cell := 5) (mf := 5) (MX := 16) (fun n hn => ac_rh l G n hn) rfl rfl (by decide) hW s1 hp p0 (by omega)
    refine hcallV (T := TX) (k := 3) (rest := []) (avs := [.ref (ad 5)]) X k_4_59 hct d_ll_58 hW rfl rfl rfl rfl ⟨by decide, by decide⟩ ⟨Nat.le_refl 0, Nat.le_refl 0⟩ (by decide) rfl (fun r w1 hp => ?_)
    obtain ⟨a1, a2, ⟨b, rfl, b1, b2⟩, a4⟩ := hp
    exact ret _ _ b w1 d_ll_61 ⟨a1, a2.up (by decide), ⟨b, rfl, b1, b2⟩, a4, s2.frm a2 (by decide) (by decide), s3.frm a2 (by decide) (by decide)⟩ b1 b2
  · refine z_lookup X d_ll_22 (by decide) e2 (tgt := 62) (by decide) ?_
    refine z_aload_n X d_ll_62 rfl 0 rfl ?_
    refine z_aload_n X d_ll_63 rfl 2 rfl ?_
    have hct := rd_of (cell := 12) (mf := 6) (MX := 6) (fun n hn => ac_rs l G n hn) rfl rfl (by decide) hW s2 hp p0 (by omega)
    refine hcallV (T := TX) (k := 3) (rest := []) (avs := [.ref (ad 12)]) X k_4_63 hct d_ll_64 hW rfl rfl rfl rfl ⟨by decide, by decide⟩ ⟨Nat.le_refl 0, Nat.le_refl 0⟩ (by decide) rfl (fun r w1 hp => ?_)
    obtain ⟨a1, a2, ⟨b, rfl, b1, b2⟩, a4⟩ := hp
    exact ret _ _ b w1 d_ll_67 ⟨a1, a2.up (by decide), ⟨b, rfl, b1, b2⟩, s1.frm a2 (by decide) (by decide), a4, s3.frm a2 (by decide) (by decide)⟩ b1 b2
end RL
theorem ac_readLine (l : Launch) (G : KG) {ad : Nat → Nat} {w0 : va_W} (hW : WT G ad TX w0) (s1 : SUM 5 5 16 w0) (s2 : SUM 12 6 6 w0) (s3 : SUM 18 7 8 w0) : Ct l G yX4_readLine cX4_readLine 4 (some .boolean) rm_rl [.ref (ad 3), .ref (ad 5), .ref (ad 12), .ref (ad 18)] w0 (RLpo G ad w0) := by
  refine ct_of _ (by decide) (Nat.le_of_ble_eq_true rfl) rfl ?_
  intro p e s m args below meth c A X
  exact rl_body X hW s1 s2 s3
section RLS
variable {p : Program} {l : Launch} {e : Env} {s : State} {m : MethodId} {args : Array Value} {below : List Frame} {meth : Method} {c : Code} {G : KG} {A : Nat → Prop} {ad : Nat → Nat} {w0 : va_W} {μ : Nat → Value}
abbrev LSpo (G : KG) (ad : Nat → Nat) (w0 : va_W) (μ : Nat → Value) : Option Value → va_W → Prop := fun r w1 => POST G ad TX C_readLines μ w0 r w1
theorem ls_post {x : Int32} {ws : va_W} (h1 : WT G ad TX ws) (h2 : FRM C_readLines.2.2.2.2.1 w0 ws) : LSpo G ad w0 μ (some (.int x)) ws :=
  ⟨_, List.mem_cons_self, nup μ 50 (.int x), fun i hi => nup_ne hi, fun i hi _ => if_neg (by omega), (show resOK ad (some _) (some (.int x)) (nup μ 50 (.int x) 50) from ⟨by rw [nup_eq], by rw [nup_eq]; exact vty_i0 x⟩), fun q hq => absurd hq List.not_mem_nil, fun n q hq => (by have hq : ([] : List (Nat × Nat × VT))[n]? = some q := hq; simp at hq), fun q hq => absurd hq List.not_mem_nil, h1, h2⟩
/-- an int field set: typed as before, where no array leans on it -/
theorem wt_setI {ws : va_W} (hW : WT G ad TX ws) {k ci j : Nat} {a b : Int} {ts : List VT} {v : Int32} {fs : List Value} (hT : TX[k]? = some (.inl (ci, ts))) (ht : ts[j]? = some (0, a, b)) (hf : ws[k]? = some (ad k, ob ci fs)) (h1 : a ≤ v.toInt) (h2 : v.toInt ≤ b) : WT G ad TX (ws.set k (ad k, ob ci (fs.set j (.int v)))) := by
  refine hW.setO hT ht hf (vty_i h1 h2) (fun k' n t' g1 g2 _ _ => ?_)
  have h9 : TX.all (fun te => match te with | .inr o => !(Nat.beq o.1 0) || Nat.ble o.2.2.1 1 | .inl _ => true) = true := by decide
  have h8 := List.all_eq_true.mp h9 _ (List.mem_of_getElem? g1)
  have h8 : Nat.ble t'.1 1 = true := h8
  have := Nat.le_of_ble_eq_true h8
  omega
theorem frm_setO {ws : va_W} {mk : List (Nat × Nat)} (h : FRM mk w0 ws) {k ci j a : Nat} {v : Value} {fs : List Value} (hf : ws[k]? = some (a, ob ci fs)) (hm : mkq mk k j = true) : FRM mk w0 (ws.set k (a, ob ci (fs.set j v))) := by
  refine ⟨by rw [List.length_set]; exact h.1, fun k' j' hk => ?_⟩
  rw [cget_set hf]
  · exact h.2 k' j' hk
  · rintro ⟨e1, e2⟩
    rw [e1, e2, hm] at hk
    cases hk
theorem ls_loop (X : ZC p s m args meth c cX4_readLines 5 RX4 G A (some .int) "readLines") : ∀ (n : Nat) (k : Int32) (ws : va_W), WT G ad TX ws → FRM C_readLines.2.2.2.2.1 w0 ws → SUM 5 5 16 ws → SUM 12 6 6 ws → SUM 18 7 8 ws → 1 ≤ k.toInt → k.toInt ≤ 61 → (61 - k.toInt).toNat < n → Z p l e (rmOf C_readLines) s m args below meth c 5 G A (MQ below (QQ G A (LSpo G ad w0 μ)) args s 0 0 A) 45 [(0, .ref (ad 3)), (1, .ref (ad 5)), (2, .ref (ad 12)), (3, .ref (ad 18)), (4, .int k)] [] ws 0 0
  | 0, _, _, _, _, _, _, _, _, _, h9 => absurd h9 (Nat.not_lt_zero _)
  | n + 1, k, ws, hW, hF, s1, s2, s3, k1, k2, h9 => by
    have fail : ∀ (pc : Nat) (w1 : va_W) (b : Int32), decode cX4_readLines pc = .ok (.ireturn, 1) → WT G ad TX w1 → FRM C_readLines.2.2.2.2.1 w0 w1 → ∀ lw, Z p l e (rmOf C_readLines) s m args below meth c 5 G A (MQ below (QQ G A (LSpo G ad w0 μ)) args s 0 0 A) pc lw [.int b] w1 0 0 := fun pc w1 b hd h1 h2 lw => z_iret X rfl hd (Nat.le_refl 0) (Nat.le_refl 0) (ls_post h1 h2)
    obtain ⟨pv, hp, p0, p1⟩ := fget_int (T := TX) (k := 3) (j := 3) hW rfl rfl
    refine z_iload X d_ls_45 4 rfl ?_
    refine z_bipush X d_ls_47 (v := 60) (by decide) ?_
    refine zc_gt X d_ls_49 (tgt := 144) (by decide) (a := k.toInt) (b := 60) rfl rfl (fun hgt => ?_) (fun hle => ?_)
    · skip
      refine z_iconst X d_ls_144 (v := (-1)) (by decide) ?_
      refine z_aload_n X d_ls_145 rfl 0 rfl ?_
      refine hget (T := TX) X hW (idx := 28) (fld_4_ok _ (by decide : (28, 4, 3) ∈ fld_4)) d_ls_146 rfl (hp) ?_
      refine z_isub X d_ls_149 ?_
      exact fail _ ws _ d_ls_150 hW hF _
    refine z_aload_n X d_ls_52 rfl 0 rfl ?_
    refine z_aload_n X d_ls_53 rfl 1 rfl ?_
    refine z_aload_n X d_ls_54 rfl 2 rfl ?_
    refine z_aload_n X d_ls_55 rfl 3 rfl ?_
    have hct := ac_readLine l G hW s1 s2 s3
    refine hcallV (T := TX) (k := 3) (rest := []) (avs := [.ref (ad 5), .ref (ad 12), .ref (ad 18)]) X k_4_40 hct d_ls_56 hW rfl rfl rfl rfl ⟨by decide, by decide⟩ ⟨Nat.le_refl 0, Nat.le_refl 0⟩ (by decide) rfl (fun r w1 hpp => ?_)
    obtain ⟨a1, a2, ⟨b, rfl, b1, b2⟩, t1, t2, t3⟩ := hpp
    have hF1 := frm_trans hF a2 (by decide)
    obtain ⟨pw, hpw, q0, q1⟩ := fget_int (T := TX) (k := 3) (j := 3) a1 rfl rfl
    obtain ⟨le, hle', r0, r1⟩ := fget_int (T := TX) (k := 3) (j := 1) a1 rfl rfl
    refine zi_ne X d_ls_59 (tgt := 69) (by decide) (a := b.toInt) rfl (fun hb => ?_) (fun hb => ?_)
    rotate_left
    · skip
      refine z_iconst X d_ls_62 (v := (-1)) (by decide) ?_
      refine z_aload_n X d_ls_63 rfl 0 rfl ?_
      refine hget (T := TX) X a1 (idx := 28) (fld_4_ok _ (by decide : (28, 4, 3) ∈ fld_4)) d_ls_64 rfl (hpw) ?_
      refine z_isub X d_ls_67 ?_
      exact fail _ w1 _ d_ls_68 a1 hF1 _
    refine z_aload_n X d_ls_69 rfl 0 rfl ?_
    refine hget (T := TX) X a1 (idx := 28) (fld_4_ok _ (by decide : (28, 4, 3) ∈ fld_4)) d_ls_70 rfl (hpw) ?_
    refine z_aload_n X d_ls_73 rfl 0 rfl ?_
    refine hget (T := TX) X a1 (idx := 15) (fld_4_ok _ (by decide : (15, 4, 1) ∈ fld_4)) d_ls_74 rfl (hle') ?_
    refine zc_ne X d_ls_77 (tgt := 122) (by decide) (a := pw.toInt) (b := le.toInt) rfl rfl (fun hne => ?_) (fun heq => ?_)
    · skip
      refine z_aload_n X d_ls_122 rfl 0 rfl ?_
      refine z_bipush X d_ls_123 (v := 59) (by decide) ?_
      obtain ⟨μ', hμ⟩ : ∃ μ' : Nat → Value, μ' = fun i => if i = 0 then .ref (ad 3) else .int (59 : Int32) := ⟨_, rfl⟩
      have m0 : μ' 0 = .ref (ad 3) := by rw [hμ]; rfl
      have m1 : μ' 1 = .int (59 : Int32) := by rw [hμ]; rfl
      have hpre : PRE ad C_u_X4_readSign_2 μ' w1 := by
        refine ⟨fun j t hj => ?_, fun j q hj => ?_, fun q hq => ?_⟩
        · match j, hj with
          | 0, hj => cases hj; rw [m0]; exact Or.inr (Or.inr (Or.inl ⟨rfl, rfl⟩))
          | 1, hj => cases hj; rw [m1]; exact vty_i0 _
          | n + 2, hj => cases hj
        · cases hj
        · cases hq
      have hct := ac_u_X4_readSign_2 l G ad w1 μ' a1 hpre
      have hct : Ct l G yX4_readSign cX4_readSign 2 (some .boolean) (rmOf C_u_X4_readSign_2) [.ref (ad 3), .int 59] w1 (fun r w2 => POST G ad TX C_u_X4_readSign_2 μ' w1 r w2) := by
        have e0 : (List.range C_u_X4_readSign_2.1.length).map μ' = [.ref (ad 3), .int 59] := by show [μ' 0, μ' 1] = _; rw [m0, m1]
        rw [← e0]; exact hct
      refine hcallV (T := TX) (k := 3) (rest := []) (avs := [.int 59]) X k_4_55 hct d_ls_125 a1 rfl rfl rfl rfl ⟨by decide, by decide⟩ ⟨Nat.le_refl 0, Nat.le_refl 0⟩ (by decide) rfl (fun r w2 hpp => ?_)
      obtain ⟨A1, hA1, μ2, -, -, c3, -, -, -, c7, c8⟩ := hpp
      have hr : ∃ b2 : Int32, r = some (.int b2) := by
        have hA1 : A1 ∈ [_, _] := hA1
        rcases List.mem_cons.mp hA1 with e | hA1
        · subst e
          obtain ⟨e1, e2⟩ := c3
          obtain ⟨z, ez, -⟩ := vty0 e2 rfl
          exact ⟨z, by rw [e1, ez]⟩
        · have e := List.mem_singleton.mp hA1
          subst e
          obtain ⟨e1, e2⟩ := c3
          obtain ⟨z, ez, -⟩ := vty0 e2 rfl
          exact ⟨z, by rw [e1, ez]⟩
      obtain ⟨b2, rfl⟩ := hr
      have hF2 := frm_trans hF1 c8 (by decide)
      obtain ⟨px, hpx, -, -⟩ := fget_int (T := TX) (k := 3) (j := 3) c7 rfl rfl
      refine zi_ne X d_ls_128 (tgt := 138) (by decide) (a := b2.toInt) rfl (fun _ => ?_) (fun _ => ?_)
      rotate_left
      · skip
        refine z_iconst X d_ls_131 (v := (-1)) (by decide) ?_
        refine z_aload_n X d_ls_132 rfl 0 rfl ?_
        refine hget (T := TX) X c7 (idx := 28) (fld_4_ok _ (by decide : (28, 4, 3) ∈ fld_4)) d_ls_133 rfl (hpx) ?_
        refine z_isub X d_ls_136 ?_
        exact fail _ w2 _ d_ls_137 c7 hF2 _
      refine z_iinc X d_ls_138 (k := 4) rfl rfl (by decide) (lv' := [(4, .int (k + Int32.ofInt (1))), (0, .ref (ad 3)), (1, .ref (ad 5)), (2, .ref (ad 12)), (3, .ref (ad 18))]) rfl ?_
      refine z_goto X d_ls_141 (tgt := 45) (by decide) ?_
      have ek : (k + Int32.ofInt 1).toInt = k.toInt + 1 := tI_add rfl (show (Int32.ofInt 1).toInt = 1 by decide) (by omega)
      exact Z.mono (fun q hq => by simp only [List.mem_cons, List.not_mem_nil, or_false] at hq ⊢; rcases hq with h | h | h | h | h <;> simp [h]) (ls_loop X n (k + Int32.ofInt 1) w2 c7 hF2 (t1.frm c8 (by decide) (by decide)) (t2.frm c8 (by decide) (by decide)) (t3.frm c8 (by decide) (by decide)) (by omega) (by omega) (by omega))
    obtain ⟨x1, y1, f1, g1, u1, v1, z1⟩ := t1
    obtain ⟨x2, y2, f2, g2, u2, v2, z2⟩ := t2
    obtain ⟨x3, y3, f3, g3, u3, v3, z3⟩ := t3
    refine z_aload_n X d_ls_80 rfl 1 rfl ?_
    refine z_dup X d_ls_81 rfl ?_
    refine hget (T := TX) X a1 (idx := 44) (fld_4_ok _ (by decide : (44, 5, 0) ∈ fld_4)) d_ls_82 rfl (f1) ?_
    refine z_aload_n X d_ls_85 rfl 0 rfl ?_
    refine hget (T := TX) X a1 (idx := 31) (fld_4_ok _ (by decide : (31, 4, 5) ∈ fld_4)) d_ls_86 rfl (g1) ?_
    refine z_iadd X d_ls_89 ?_
    have es0 : (x1 + y1).toInt = x1.toInt + y1.toInt := tI_add rfl rfl (by omega)
    obtain ⟨fs0, o0, o0'⟩ := fget_ob (T := TX) a1 (k := 5) (j := 0) rfl f1
    refine put_row (ad := ad) X (put_4_ok (44, 5, 0, 0) (by decide)) (t := (0, 0, 16)) (by decide) d_ls_90 o0 (lt_of_getE o0') (vty_i (by omega) (by omega)) ?_
    have hWw3 := wt_setI a1 (k := 5) (j := 0) (v := x1 + y1) rfl rfl o0 (by omega) (by omega)
    have hFw3 := frm_setO hF1 o0 (v := .int (x1 + y1)) (j := 0) (by decide)
    have f2_0 : fget (w1.set 5 (ad 5, ob 5 (fs0.set 0 (.int (x1 + y1))))) 12 0 = some (.int x2) := by rw [fget_set o0 (by decide)]; exact f2
    have g2_0 : fget (w1.set 5 (ad 5, ob 5 (fs0.set 0 (.int (x1 + y1))))) 3 6 = some (.int y2) := by rw [fget_set o0 (by decide)]; exact g2
    have f3_0 : fget (w1.set 5 (ad 5, ob 5 (fs0.set 0 (.int (x1 + y1))))) 18 0 = some (.int x3) := by rw [fget_set o0 (by decide)]; exact f3
    have g3_0 : fget (w1.set 5 (ad 5, ob 5 (fs0.set 0 (.int (x1 + y1))))) 3 7 = some (.int y3) := by rw [fget_set o0 (by decide)]; exact g3
    generalize hgen0 : w1.set 5 (ad 5, ob 5 (fs0.set 0 (.int (x1 + y1)))) = w3 at *
    refine z_aload_n X d_ls_93 rfl 2 rfl ?_
    refine z_dup X d_ls_94 rfl ?_
    refine hget (T := TX) X hWw3 (idx := 49) (fld_4_ok _ (by decide : (49, 7, 0) ∈ fld_4)) d_ls_95 rfl (f2_0) ?_
    refine z_aload_n X d_ls_98 rfl 0 rfl ?_
    refine hget (T := TX) X hWw3 (idx := 34) (fld_4_ok _ (by decide : (34, 4, 6) ∈ fld_4)) d_ls_99 rfl (g2_0) ?_
    refine z_iadd X d_ls_102 ?_
    have es1 : (x2 + y2).toInt = x2.toInt + y2.toInt := tI_add rfl rfl (by omega)
    obtain ⟨fs1, o1, o1'⟩ := fget_ob (T := TX) hWw3 (k := 12) (j := 0) rfl f2_0
    refine put_row (ad := ad) X (put_4_ok (49, 7, 0, 0) (by decide)) (t := (0, 0, 6)) (by decide) d_ls_103 o1 (lt_of_getE o1') (vty_i (by omega) (by omega)) ?_
    have hWw4 := wt_setI hWw3 (k := 12) (j := 0) (v := x2 + y2) rfl rfl o1 (by omega) (by omega)
    have hFw4 := frm_setO hFw3 o1 (v := .int (x2 + y2)) (j := 0) (by decide)
    have f3_1 : fget (w3.set 12 (ad 12, ob 7 (fs1.set 0 (.int (x2 + y2))))) 18 0 = some (.int x3) := by rw [fget_set o1 (by decide)]; exact f3_0
    have g3_1 : fget (w3.set 12 (ad 12, ob 7 (fs1.set 0 (.int (x2 + y2))))) 3 7 = some (.int y3) := by rw [fget_set o1 (by decide)]; exact g3_0
    generalize hgen1 : w3.set 12 (ad 12, ob 7 (fs1.set 0 (.int (x2 + y2)))) = w4 at *
    refine z_aload_n X d_ls_106 rfl 3 rfl ?_
    refine z_dup X d_ls_107 rfl ?_
    refine hget (T := TX) X hWw4 (idx := 52) (fld_4_ok _ (by decide : (52, 0, 0) ∈ fld_4)) d_ls_108 rfl (f3_1) ?_
    refine z_aload_n X d_ls_111 rfl 0 rfl ?_
    refine hget (T := TX) X hWw4 (idx := 37) (fld_4_ok _ (by decide : (37, 4, 7) ∈ fld_4)) d_ls_112 rfl (g3_1) ?_
    refine z_iadd X d_ls_115 ?_
    have es2 : (x3 + y3).toInt = x3.toInt + y3.toInt := tI_add rfl rfl (by omega)
    obtain ⟨fs2, o2, o2'⟩ := fget_ob (T := TX) hWw4 (k := 18) (j := 0) rfl f3_1
    refine put_row (ad := ad) X (put_4_ok (52, 0, 0, 0) (by decide)) (t := (0, 0, 8)) (by decide) d_ls_116 o2 (lt_of_getE o2') (vty_i (by omega) (by omega)) ?_
    have hWw5 := wt_setI hWw4 (k := 18) (j := 0) (v := x3 + y3) rfl rfl o2 (by omega) (by omega)
    have hFw5 := frm_setO hFw4 o2 (v := .int (x3 + y3)) (j := 0) (by decide)
    generalize hgen2 : w4.set 18 (ad 18, ob 0 (fs2.set 0 (.int (x3 + y3)))) = w5 at *
    refine z_iload X d_ls_119 4 rfl ?_
    exact fail _ w5 _ d_ls_121 hWw5 hFw5 _
end RLS
theorem ac_readLines (l : Launch) (G : KG) : ACt l G TX yX4_readLines cX4_readLines 5 (some .int) C_readLines := by
  refine hand_of (by decide) (by decide) (by decide) (by decide) (by decide) ?_
  intro p e s m args below meth c A X ad w0 μ lw hW hPre hg
  refine aseg (C := sC_ls) (PO := LSpo G ad w0 μ) (fld := fld_4) (put := put_4) (cst := cst_4) (cstl := cstl_4) (hk := hk0) (tab := D_X4_readLines) (rk := 1) (pids := [0, 1, 2, 3]) D_X4_readLines_ok X rfl rfl hok0 (Or.inr (Or.inl ⟨rfl, rfl⟩)) (Nat.le_refl 0) (Nat.le_refl 0) (spin1 (C := C_readLines)) (spin2 (C := C_readLines)) (fun r w1 h => h) fld_4_ok put_4_ok cst_4_ok cstl_4_ok (sl_ls_ok l G) (Nat.le_refl 0) (Nat.le_refl 0) spin3 sg_ls (fun d hd ν2 lw2 sw2 ws2 hg2 => ?_) μ lw [] w0 hg
  rw [List.mem_singleton.mp hd] at hg2 ⊢
  have hs : sw2 = [] := hg2.2.1
  subst hs
  have h3 := hg2.2.2
  have el : lw2 = [(0, ν2 0), (1, ν2 1), (2, ν2 2), (3, ν2 3), (4, ν2 500)] := hg2.1
  have e0 : ν2 0 = .ref (ad 3) := h3.ref (i := 0) rfl
  have e1 : ν2 1 = .ref (ad 5) := h3.ref (i := 1) rfl
  have e2 : ν2 2 = .ref (ad 12) := h3.ref (i := 2) rfl
  have e3 : ν2 3 = .ref (ad 18) := h3.ref (i := 3) rfl
  obtain ⟨k, e4, k1, k2⟩ := h3.rng (i := 500) (a := 1) (b := 1) (by decide)
  have hW2 := h3.2.2.2.2.2.1
  have hF2 := h3.2.2.2.2.2.2
  have zero : ∀ (cell mf nm : Nat) (MX : Int), (∃ c : Int32, fget ws2 cell 0 = some (.int c) ∧ 0 ≤ c.toInt ∧ c.toInt ≤ MX) → (nm, (0, 0, 0)) ∈ se_ls_45.2.1.2.2.1 → (3, mf, nm) ∈ se_ls_45.2.1.2.2.2.1 → SUM cell mf MX ws2 := by
    intro cell mf nm MX hc h1 h2
    obtain ⟨c, c1, c2, c3⟩ := hc
    obtain ⟨x, x1, x2, x3⟩ := h3.rng h1
    have h5 := h3.2.2.1 _ h2
    have h5 : fget ws2 3 mf = some (ν2 nm) := h5
    rw [x1] at h5
    exact ⟨c, x, c1, h5, c2, x2, by omega⟩
  rw [el, e0, e1, e2, e3, e4]
  exact ls_loop X _ k ws2 hW2 hF2 (zero 5 5 504 16 (fget_int (T := TX) hW2 rfl rfl) (by decide) (by decide)) (zero 12 6 505 6 (fget_int (T := TX) hW2 rfl rfl) (by decide) (by decide)) (zero 18 7 506 8 (fget_int (T := TX) hW2 rfl rfl) (by decide) (by decide)) k1 (by omega) (Nat.lt_succ_self _)
