section
/-! the class's readLine, readLines -/
def SUM (cell mf : Nat) (MX : Int) (ws : va_W) : Prop := ∃ c m : Int32, fget ws cell 0 = some (.int c) ∧ fget ws 3 mf = some (.int m) ∧ 0 ≤ c.toInt ∧ 0 ≤ m.toInt ∧ c.toInt + m.toInt ≤ MX
theorem SUM.frm {cell mf : Nat} {MX : Int} {w0 ws : va_W} {mk : List (Nat × Nat)} (h : SUM cell mf MX w0) (hF : FRM mk w0 ws) (h1 : mkq mk cell 0 = false) (h2 : mkq mk 3 mf = false) : SUM cell mf MX ws := by
  obtain ⟨c, m, a1, a2, a3⟩ := h
  exact ⟨c, m, fget_frame hF h1 a1, fget_frame hF h2 a2, a3⟩
theorem FRM.up {mk mk2 : List (Nat × Nat)} {w0 ws : va_W} (h : FRM mk2 w0 ws) (hc : cov mk mk2 = true) : FRM mk w0 ws := frm_trans (mk := mk) (wa := w0) ⟨rfl, fun _ _ _ => rfl⟩ h hc
/-- one more hole, speed or cog: by the number that there is -/
theorem rd_of {G : KG} {l : Launch} {y : MethodName} {cc : ByteArray} {cell mf MX fr lo : Nat} {msk : List (Nat × Nat)} {ts : List VT} {ci : Nat} {hi : Int} (fam : ∀ n, n < MX + 1 → ACt l G TX y cc 3 (some .boolean) (CFg cell mf MX msk fr lo n)) (hT : TX[cell]? = some (.inl (ci, ts))) (ht : ts[0]? = some (0, 0, hi)) (hm : mkq msk cell 0 = false) {ad : Nat → Nat} {w0 : va_W} (hW : WT G ad TX w0) (hS : SUM cell mf MX w0) {pv : Int32} (hp : fget w0 3 3 = some (.int pv)) (hp0 : 0 ≤ pv.toInt) (hp1 : pv.toInt ≤ 59) : Ct l G y cc 3 (some .boolean) { frames := fr, cells := 0, slots := 0, locals := lo } [.ref (ad 3), .ref (ad cell)] w0 (fun r w1 => WT G ad TX w1 ∧ FRM msk w0 w1 ∧ (∃ b : Int32, r = some (.int b) ∧ 0 ≤ b.toInt ∧ b.toInt ≤ 1) ∧ SUM cell mf MX w1) := by
  obtain ⟨c, m, a1, a2, a3, a4, a5⟩ := hS
  obtain ⟨μ, hμ⟩ : ∃ μ : Nat → Value, μ = fun i => if i = 0 then .ref (ad 3) else if i = 1 then .ref (ad cell) else if i = 100 then .int pv else if i = 101 then .int c else .int m := ⟨_, rfl⟩
  have m0 : μ 0 = .ref (ad 3) := by rw [hμ]; rfl
  have m1 : μ 1 = .ref (ad cell) := by rw [hμ]; rfl
  have m2 : μ 100 = .int pv := by rw [hμ]; rfl
  have m3 : μ 101 = .int c := by rw [hμ]; rfl
  have m4 : μ 102 = .int m := by rw [hμ]; rfl
  have ec : ((c.toInt.toNat : Nat) : Int) = c.toInt := by omega
  have hpre : PRE ad (CFg cell mf MX msk fr lo c.toInt.toNat) μ w0 := by
    refine ⟨fun j t hj => ?_, fun j q hj => ?_, fun q hq => ?_⟩
    · match j, hj with
      | 0, hj => cases hj; rw [m0]; exact Or.inr (Or.inr (Or.inl ⟨rfl, rfl⟩))
      | 1, hj => cases hj; rw [m1]; exact Or.inr (Or.inr (Or.inl ⟨rfl, rfl⟩))
      | n + 2, hj => cases hj
    · match j, hj with
      | 0, hj => cases hj; exact ⟨by rw [m2]; exact vty_i hp0 hp1, by show fget w0 3 3 = some (μ 100); rw [m2]; exact hp⟩
      | 1, hj => cases hj; exact ⟨by rw [m3]; exact vty_i (by omega) (by omega), by show fget w0 cell 0 = some (μ 101); rw [m3]; exact a1⟩
      | 2, hj => cases hj; exact ⟨by rw [m4]; exact vty_i a4 (by omega), by show fget w0 3 mf = some (μ 102); rw [m4]; exact a2⟩
      | n + 3, hj => cases hj
    · cases hq
  have h1 := fam c.toInt.toNat (by omega) ad w0 μ hW hpre
  have e0 : (List.range (CFg cell mf MX msk fr lo c.toInt.toNat).1.length).map μ = [.ref (ad 3), .ref (ad cell)] := by show [μ 0, μ 1] = _; rw [m0, m1]
  rw [e0] at h1
  refine Ct.weak h1 (fun r w1 hp => ?_)
  obtain ⟨A1, hA, μ2, b1, b2, b3, b4, b5, b6, b7, b8⟩ := hp
  have hA : A1 ∈ [((some (0, 0, 0), [], [(3, mf, (0, 0, (MX : Int) - (c.toInt.toNat : Nat)))], []) : ALT), (some (0, 1, 1), [], [(3, mf, (0, 0, (MX : Int) - (c.toInt.toNat : Nat)))], [])] := hA
  have hcw : fget w1 cell 0 = some (.int c) := fget_frame b8 hm a1
  have fin : ∀ (x1 x2 : Int), (0 ≤ x1 ∧ x2 ≤ 1) → A1 = (some (0, x1, x2), [], [(3, mf, (0, 0, (MX : Int) - (c.toInt.toNat : Nat)))], []) → WT G ad TX w1 ∧ FRM msk w0 w1 ∧ (∃ b : Int32, r = some (.int b) ∧ 0 ≤ b.toInt ∧ b.toInt ≤ 1) ∧ SUM cell mf MX w1 := by
    intro x1 x2 hx e
    subst e
    obtain ⟨r1, r2⟩ := b3
    obtain ⟨b, eb, u1, u2⟩ := vty0 r2 rfl
    have u1 : x1 ≤ b.toInt := u1
    have u2 : b.toInt ≤ x2 := u2
    obtain ⟨v1, v2⟩ := b5 0 _ rfl
    obtain ⟨z, ez, z1, z2⟩ := vty0 v1 rfl
    have z1 : 0 ≤ z.toInt := z1
    have z2 : z.toInt ≤ (MX : Int) - (c.toInt.toNat : Nat) := z2
    have v2 : fget w1 3 mf = some (μ2 200) := v2
    have ez : μ2 200 = .int z := ez
    rw [ez] at v2
    exact ⟨b7, b8, ⟨b, by rw [r1, eb], by omega, by omega⟩, c, z, hcw, v2, a3, z1, by omega⟩
  rcases List.mem_cons.mp hA with e | hA
  · exact fin 0 0 (by omega) e
  · exact fin 1 1 (by omega) (List.mem_singleton.mp hA)
section RL
variable {p : Program} {l : Launch} {e : Env} {s : State} {m : MethodId} {args : Array Value} {below : List Frame} {meth : Method} {c : Code} {G : KG} {A : Nat → Prop} {ad : Nat → Nat} {w0 : va_W} {μ : Nat → Value}
def RLpo (G : KG) (ad : Nat → Nat) (w0 : va_W) : Option Value → va_W → Prop := fun r w1 => WT G ad TX w1 ∧ FRM mk_rl w0 w1 ∧ (∃ b : Int32, r = some (.int b) ∧ 0 ≤ b.toInt ∧ b.toInt ≤ 1) ∧ SUM 5 5 16 w1 ∧ SUM 12 6 6 w1 ∧ SUM 18 7 8 w1
theorem rl_body (X : ZC p s m args meth c cX4_readLine 4 RX4 G A (some .boolean) "readLine") (hW : WT G ad TX w0) (s1 : SUM 5 5 16 w0) (s2 : SUM 12 6 6 w0) (s3 : SUM 18 7 8 w0) : Z p l e rm_rl s m args below meth c 4 G A (MQ below (QQ G A (RLpo G ad w0)) args s 0 0 A) 0 [(0, .ref (ad 3)), (1, .ref (ad 5)), (2, .ref (ad 12)), (3, .ref (ad 18))] [] w0 0 0 := by
  obtain ⟨pv, hp, p0, p1⟩ := fget_int (T := TX) (k := 3) (j := 3) hW rfl rfl
  obtain ⟨lim, hl, l0, l1⟩ := fget_int (T := TX) (k := 3) (j := 2) hW rfl rfl
  obtain ⟨sg, hsg, -⟩ := WT.ints (T := TX) (k := 4) (n := 80) hW rfl
  have ret : ∀ (pc : Nat) (lw : List (Nat × Value)) (b : Int32) (w1 : va_W), decode cX4_readLine pc = .ok (.ireturn, 1) → RLpo G ad w0 (some (.int b)) w1 → 0 ≤ b.toInt → b.toInt ≤ 1 → Z p l e rm_rl s m args below meth c 4 G A (MQ below (QQ G A (RLpo G ad w0)) args s 0 0 A) pc lw [.int b] w1 0 0 := fun pc lw b w1 hd hp h0 h1 => z_zret X rfl (nar_z h0 h1) hd (Nat.le_refl 0) (Nat.le_refl 0) hp
  have refl0 : FRM mk_rl w0 w0 := ⟨rfl, fun _ _ _ => rfl⟩
  have no : RLpo G ad w0 (some (.int 0)) w0 := ⟨hW, refl0, ⟨0, rfl, by decide, by decide⟩, s1, s2, s3⟩
  refine z_aload_n X d_ll_0 rfl 0 rfl ?_
  refine hget (T := TX) X hW (idx := 28) (fld_4_ok _ (by decide : (28, 4, 3) ∈ fld_4)) d_ll_1 rfl (hp) ?_
  refine z_aload_n X d_ll_4 rfl 0 rfl ?_
  refine hget (T := TX) X hW (idx := 25) (fld_4_ok _ (by decide : (25, 4, 2) ∈ fld_4)) d_ll_5 rfl (hl) ?_
  refine zc_lt X d_ll_8 (tgt := 13) (by decide) (a := pv.toInt) (b := lim.toInt) rfl rfl (fun hlt => ?_) (fun hge => ?_)
  rotate_left
  · skip
    refine z_iconst X d_ll_11 (v := 0) (by decide) ?_
    exact ret _ _ 0 w0 d_ll_12 no (by decide) (by decide)
  have hv80 : vp_in pv 80 := vp_of p0 (by omega)
  refine z_aload_n X d_ll_13 rfl 0 rfl ?_
  refine hget (T := TX) X hW (idx := 9) (fld_4_ok _ (by decide : (9, 4, 0) ∈ fld_4)) d_ll_14 rfl (fget_ref hW rfl rfl) ?_
  refine z_aload_n X d_ll_17 rfl 0 rfl ?_
  refine hget (T := TX) X hW (idx := 28) (fld_4_ok _ (by decide : (28, 4, 3) ∈ fld_4)) d_ll_18 rfl (hp) ?_
  refine z_iald X d_ll_21 4 (hsg) (hv80) rfl ?_
  rcases look_off [(99, 46), (104, 34), (115, 40)] 52 (sg pv.toNatClampNeg).toInt with e | ⟨q, hq, e1, e2⟩
  · refine z_lookup X d_ll_22 (by decide) e (tgt := 74) (by decide) ?_
    refine z_iconst X d_ll_74 (v := 0) (by decide) ?_
    exact ret _ _ 0 w0 d_ll_75 no (by decide) (by decide)
  simp only [List.mem_cons, List.not_mem_nil, or_false] at hq
  rcases hq with rfl | rfl | rfl
  · refine z_lookup X d_ll_22 (by decide) e2 (tgt := 68) (by decide) ?_
    refine z_aload_n X d_ll_68 rfl 0 rfl ?_
    refine z_aload_n X d_ll_69 rfl 3 rfl ?_
    have hct := rd_of (cell := 18) (mf := 7) (MX := 8) (fun n hn => ac_rc l G n hn) rfl rfl (by decide) hW s3 hp p0 (by omega)
    refine hcallV (T := TX) (k := 3) (rest := []) (avs := [.ref (ad 18)]) X k_4_67 hct d_ll_70 hW rfl rfl rfl rfl ⟨by decide, by decide⟩ ⟨Nat.le_refl 0, Nat.le_refl 0⟩ (by decide) rfl (fun r w1 hp => ?_)
    obtain ⟨a1, a2, ⟨b, rfl, b1, b2⟩, a4⟩ := hp
    exact ret _ _ b w1 d_ll_73 ⟨a1, a2.up (by decide), ⟨b, rfl, b1, b2⟩, s1.frm a2 (by decide) (by decide), s2.frm a2 (by decide) (by decide), a4⟩ b1 b2
  · refine z_lookup X d_ll_22 (by decide) e2 (tgt := 56) (by decide) ?_
    refine z_aload_n X d_ll_56 rfl 0 rfl ?_
    refine z_aload_n X d_ll_57 rfl 1 rfl ?_
    have hct := rd_of (cell := 5) (mf := 5) (MX := 16) (fun n hn => ac_rh l G n hn) rfl rfl (by decide) hW s1 hp p0 (by omega)
    refine hcallV (T := TX) (k := 3) (rest := []) (avs := [.ref (ad 5)]) X k_4_59 hct d_ll_58 hW rfl rfl rfl rfl ⟨by decide, by decide⟩ ⟨Nat.le_refl 0, Nat.le_refl 0⟩ (by decide) rfl (fun r w1 hp => ?_)
    obtain ⟨a1, a2, ⟨b, rfl, b1, b2⟩, a4⟩ := hp
    exact ret _ _ b w1 d_ll_61 ⟨a1, a2.up (by decide), ⟨b, rfl, b1, b2⟩, a4, s2.frm a2 (by decide) (by decide), s3.frm a2 (by decide) (by decide)⟩ b1 b2
  · refine z_lookup X d_ll_22 (by decide) e2 (tgt := 62) (by decide) ?_
    refine z_aload_n X d_ll_62 rfl 0 rfl ?_
    refine z_aload_n X d_ll_63 rfl 2 rfl ?_
    have hct := rd_of (cell := 12) (mf := 6) (MX := 6) (fun n hn => ac_rs l G n hn) rfl rfl (by decide) hW s2 hp p0 (by omega)
    refine hcallV (T := TX) (k := 3) (rest := []) (avs := [.ref (ad 12)]) X k_4_63 hct d_ll_64 hW rfl rfl rfl rfl ⟨by decide, by decide⟩ ⟨Nat.le_refl 0, Nat.le_refl 0⟩ (by decide) rfl (fun r w1 hp => ?_)
    obtain ⟨a1, a2, ⟨b, rfl, b1, b2⟩, a4⟩ := hp
    exact ret _ _ b w1 d_ll_67 ⟨a1, a2.up (by decide), ⟨b, rfl, b1, b2⟩, s1.frm a2 (by decide) (by decide), a4, s3.frm a2 (by decide) (by decide)⟩ b1 b2
end RL
theorem ac_readLine (l : Launch) (G : KG) {ad : Nat → Nat} {w0 : va_W} (hW : WT G ad TX w0) (s1 : SUM 5 5 16 w0) (s2 : SUM 12 6 6 w0) (s3 : SUM 18 7 8 w0) : Ct l G yX4_readLine cX4_readLine 4 (some .boolean) rm_rl [.ref (ad 3), .ref (ad 5), .ref (ad 12), .ref (ad 18)] w0 (RLpo G ad w0) := by
  refine ct_of _ (by decide) (Nat.le_of_ble_eq_true rfl) rfl ?_
  intro p e s m args below meth c A X
  exact rl_body X hW s1 s2 s3
section RLS
variable {p : Program} {l : Launch} {e : Env} {s : State} {m : MethodId} {args : Array Value} {below : List Frame} {meth : Method} {c : Code} {G : KG} {A : Nat → Prop} {ad : Nat → Nat} {w0 : va_W} {μ : Nat → Value}
abbrev LSpo (G : KG) (ad : Nat → Nat) (w0 : va_W) (μ : Nat → Value) : Option Value → va_W → Prop := fun r w1 => POST G ad TX C_readLines μ w0 r w1
theorem ls_post {x : Int32} {ws : va_W} (h1 : WT G ad TX ws) (h2 : FRM C_readLines.2.2.2.2.1 w0 ws) : LSpo G ad w0 μ (some (.int x)) ws :=
  ⟨_, List.mem_cons_self, nup μ 50 (.int x), fun i hi => nup_ne hi, fun i hi _ => if_neg (by omega), (show resOK ad (some _) (some (.int x)) (nup μ 50 (.int x) 50) from ⟨by rw [nup_eq], by rw [nup_eq]; exact vty_i0 x⟩), fun q hq => absurd hq List.not_mem_nil, fun n q hq => (by have hq : ([] : List (Nat × Nat × VT))[n]? = some q := hq; simp at hq), fun q hq => absurd hq List.not_mem_nil, h1, h2⟩
/-- an int field set: typed as before, where no array leans on it -/
theorem wt_setI {ws : va_W} (hW : WT G ad TX ws) {k ci j : Nat} {a b : Int} {ts : List VT} {v : Int32} {fs : List Value} (hT : TX[k]? = some (.inl (ci, ts))) (ht : ts[j]? = some (0, a, b)) (hf : ws[k]? = some (ad k, ob ci fs)) (h1 : a ≤ v.toInt) (h2 : v.toInt ≤ b) : WT G ad TX (ws.set k (ad k, ob ci (fs.set j (.int v)))) := by
  refine hW.setO hT ht hf (vty_i h1 h2) (fun k' n t' g1 g2 _ _ => ?_)
  have h9 : TX.all (fun te => match te with | .inr o => !(Nat.beq o.1 0) || Nat.ble o.2.2.1 1 | .inl _ => true) = true := by decide
  have h8 := List.all_eq_true.mp h9 _ (List.mem_of_getElem? g1)
  have h8 : Nat.ble t'.1 1 = true := h8
  have := Nat.le_of_ble_eq_true h8
  omega
theorem frm_setO {ws : va_W} {mk : List (Nat × Nat)} (h : FRM mk w0 ws) {k ci j a : Nat} {v : Value} {fs : List Value} (hf : ws[k]? = some (a, ob ci fs)) (hm : mkq mk k j = true) : FRM mk w0 (ws.set k (a, ob ci (fs.set j v))) := by
  refine ⟨by rw [List.length_set]; exact h.1, fun k' j' hk => ?_⟩
  rw [cget_set hf]
  · exact h.2 k' j' hk
  · rintro ⟨e1, e2⟩
    rw [e1, e2, hm] at hk
    cases hk
theorem ls_loop (X : ZC p s m args meth c cX4_readLines 5 RX4 G A (some .int) "readLines") : ∀ (n : Nat) (k : Int32) (ws : va_W), WT G ad TX ws → FRM C_readLines.2.2.2.2.1 w0 ws → SUM 5 5 16 ws → SUM 12 6 6 ws → SUM 18 7 8 ws → 1 ≤ k.toInt → k.toInt ≤ 61 → (61 - k.toInt).toNat < n → Z p l e (rmOf C_readLines) s m args below meth c 5 G A (MQ below (QQ G A (LSpo G ad w0 μ)) args s 0 0 A) 45 [(0, .ref (ad 3)), (1, .ref (ad 5)), (2, .ref (ad 12)), (3, .ref (ad 18)), (4, .int k)] [] ws 0 0
  | 0, _, _, _, _, _, _, _, _, _, h9 => absurd h9 (Nat.not_lt_zero _)
  | n + 1, k, ws, hW, hF, s1, s2, s3, k1, k2, h9 => by
    have fail : ∀ (pc : Nat) (w1 : va_W) (b : Int32), decode cX4_readLines pc = .ok (.ireturn, 1) → WT G ad TX w1 → FRM C_readLines.2.2.2.2.1 w0 w1 → ∀ lw, Z p l e (rmOf C_readLines) s m args below meth c 5 G A (MQ below (QQ G A (LSpo G ad w0 μ)) args s 0 0 A) pc lw [.int b] w1 0 0 := fun pc w1 b hd h1 h2 lw => z_iret X rfl hd (Nat.le_refl 0) (Nat.le_refl 0) (ls_post h1 h2)
    obtain ⟨pv, hp, p0, p1⟩ := fget_int (T := TX) (k := 3) (j := 3) hW rfl rfl
    refine z_iload X d_ls_45 4 rfl ?_
    refine z_bipush X d_ls_47 (v := 60) (by decide) ?_
    refine zc_gt X d_ls_49 (tgt := 144) (by decide) (a := k.toInt) (b := 60) rfl rfl (fun hgt => ?_) (fun hle => ?_)
    · skip
      refine z_iconst X d_ls_144 (v := (-1)) (by decide) ?_
      refine z_aload_n X d_ls_145 rfl 0 rfl ?_
      refine hget (T := TX) X hW (idx := 28) (fld_4_ok _ (by decide : (28, 4, 3) ∈ fld_4)) d_ls_146 rfl (hp) ?_
      refine z_isub X d_ls_149 ?_
      exact fail _ ws _ d_ls_150 hW hF _
    refine z_aload_n X d_ls_52 rfl 0 rfl ?_
    refine z_aload_n X d_ls_53 rfl 1 rfl ?_
    refine z_aload_n X d_ls_54 rfl 2 rfl ?_
    refine z_aload_n X d_ls_55 rfl 3 rfl ?_
    have hct := ac_readLine l G hW s1 s2 s3
    refine hcallV (T := TX) (k := 3) (rest := []) (avs := [.ref (ad 5), .ref (ad 12), .ref (ad 18)]) X k_4_40 hct d_ls_56 hW rfl rfl rfl rfl ⟨by decide, by decide⟩ ⟨Nat.le_refl 0, Nat.le_refl 0⟩ (by decide) rfl (fun r w1 hpp => ?_)
    obtain ⟨a1, a2, ⟨b, rfl, b1, b2⟩, t1, t2, t3⟩ := hpp
    have hF1 := frm_trans hF a2 (by decide)
    obtain ⟨pw, hpw, q0, q1⟩ := fget_int (T := TX) (k := 3) (j := 3) a1 rfl rfl
    obtain ⟨le, hle', r0, r1⟩ := fget_int (T := TX) (k := 3) (j := 1) a1 rfl rfl
    refine zi_ne X d_ls_59 (tgt := 69) (by decide) (a := b.toInt) rfl (fun hb => ?_) (fun hb => ?_)
    rotate_left
    · skip
      refine z_iconst X d_ls_62 (v := (-1)) (by decide) ?_
      refine z_aload_n X d_ls_63 rfl 0 rfl ?_
      refine hget (T := TX) X a1 (idx := 28) (fld_4_ok _ (by decide : (28, 4, 3) ∈ fld_4)) d_ls_64 rfl (hpw) ?_
      refine z_isub X d_ls_67 ?_
      exact fail _ w1 _ d_ls_68 a1 hF1 _
    refine z_aload_n X d_ls_69 rfl 0 rfl ?_
    refine hget (T := TX) X a1 (idx := 28) (fld_4_ok _ (by decide : (28, 4, 3) ∈ fld_4)) d_ls_70 rfl (hpw) ?_
    refine z_aload_n X d_ls_73 rfl 0 rfl ?_
    refine hget (T := TX) X a1 (idx := 15) (fld_4_ok _ (by decide : (15, 4, 1) ∈ fld_4)) d_ls_74 rfl (hle') ?_
    refine zc_ne X d_ls_77 (tgt := 122) (by decide) (a := pw.toInt) (b := le.toInt) rfl rfl (fun hne => ?_) (fun heq => ?_)
    · skip
      refine z_aload_n X d_ls_122 rfl 0 rfl ?_
      refine z_bipush X d_ls_123 (v := 59) (by decide) ?_
      obtain ⟨μ', hμ⟩ : ∃ μ' : Nat → Value, μ' = fun i => if i = 0 then .ref (ad 3) else .int (59 : Int32) := ⟨_, rfl⟩
      have m0 : μ' 0 = .ref (ad 3) := by rw [hμ]; rfl
      have m1 : μ' 1 = .int (59 : Int32) := by rw [hμ]; rfl
      have hpre : PRE ad C_u_X4_readSign_2 μ' w1 := by
        refine ⟨fun j t hj => ?_, fun j q hj => ?_, fun q hq => ?_⟩
        · match j, hj with
          | 0, hj => cases hj; rw [m0]; exact Or.inr (Or.inr (Or.inl ⟨rfl, rfl⟩))
          | 1, hj => cases hj; rw [m1]; exact vty_i0 _
          | n + 2, hj => cases hj
        · cases hj
        · cases hq
      have hct := ac_u_X4_readSign_2 l G ad w1 μ' a1 hpre
      have hct : Ct l G yX4_readSign cX4_readSign 2 (some .boolean) (rmOf C_u_X4_readSign_2) [.ref (ad 3), .int 59] w1 (fun r w2 => POST G ad TX C_u_X4_readSign_2 μ' w1 r w2) := by
        have e0 : (List.range C_u_X4_readSign_2.1.length).map μ' = [.ref (ad 3), .int 59] := by show [μ' 0, μ' 1] = _; rw [m0, m1]
        rw [← e0]; exact hct
      refine hcallV (T := TX) (k := 3) (rest := []) (avs := [.int 59]) X k_4_55 hct d_ls_125 a1 rfl rfl rfl rfl ⟨by decide, by decide⟩ ⟨Nat.le_refl 0, Nat.le_refl 0⟩ (by decide) rfl (fun r w2 hpp => ?_)
      obtain ⟨A1, hA1, μ2, -, -, c3, -, -, -, c7, c8⟩ := hpp
      have hr : ∃ b2 : Int32, r = some (.int b2) := by
        have hA1 : A1 ∈ [_, _] := hA1
        rcases List.mem_cons.mp hA1 with e | hA1
        · subst e
          obtain ⟨e1, e2⟩ := c3
          obtain ⟨z, ez, -⟩ := vty0 e2 rfl
          exact ⟨z, by rw [e1, ez]⟩
        · have e := List.mem_singleton.mp hA1
          subst e
          obtain ⟨e1, e2⟩ := c3
          obtain ⟨z, ez, -⟩ := vty0 e2 rfl
          exact ⟨z, by rw [e1, ez]⟩
      obtain ⟨b2, rfl⟩ := hr
      have hF2 := frm_trans hF1 c8 (by decide)
      obtain ⟨px, hpx, -, -⟩ := fget_int (T := TX) (k := 3) (j := 3) c7 rfl rfl
      refine zi_ne X d_ls_128 (tgt := 138) (by decide) (a := b2.toInt) rfl (fun _ => ?_) (fun _ => ?_)
      rotate_left
      · skip
        refine z_iconst X d_ls_131 (v := (-1)) (by decide) ?_
        refine z_aload_n X d_ls_132 rfl 0 rfl ?_
        refine hget (T := TX) X c7 (idx := 28) (fld_4_ok _ (by decide : (28, 4, 3) ∈ fld_4)) d_ls_133 rfl (hpx) ?_
        refine z_isub X d_ls_136 ?_
        exact fail _ w2 _ d_ls_137 c7 hF2 _
      refine z_iinc X d_ls_138 (k := 4) rfl rfl (by decide) (lv' := [(4, .int (k + Int32.ofInt (1))), (0, .ref (ad 3)), (1, .ref (ad 5)), (2, .ref (ad 12)), (3, .ref (ad 18))]) rfl ?_
      refine z_goto X d_ls_141 (tgt := 45) (by decide) ?_
      have ek : (k + Int32.ofInt 1).toInt = k.toInt + 1 := tI_add rfl (show (Int32.ofInt 1).toInt = 1 by decide) (by omega)
      exact Z.mono (fun q hq => by simp only [List.mem_cons, List.not_mem_nil, or_false] at hq ⊢; rcases hq with h | h | h | h | h <;> simp [h]) (ls_loop X n (k + Int32.ofInt 1) w2 c7 hF2 (t1.frm c8 (by decide) (by decide)) (t2.frm c8 (by decide) (by decide)) (t3.frm c8 (by decide) (by decide)) (by omega) (by omega) (by omega))
    obtain ⟨x1, y1, f1, g1, u1, v1, z1⟩ := t1
    obtain ⟨x2, y2, f2, g2, u2, v2, z2⟩ := t2
    obtain ⟨x3, y3, f3, g3, u3, v3, z3⟩ := t3
    refine z_aload_n X d_ls_80 rfl 1 rfl ?_
    refine z_dup X d_ls_81 rfl ?_
    refine hget (T := TX) X a1 (idx := 44) (fld_4_ok _ (by decide : (44, 5, 0) ∈ fld_4)) d_ls_82 rfl (f1) ?_
    refine z_aload_n X d_ls_85 rfl 0 rfl ?_
    refine hget (T := TX) X a1 (idx := 31) (fld_4_ok _ (by decide : (31, 4, 5) ∈ fld_4)) d_ls_86 rfl (g1) ?_
    refine z_iadd X d_ls_89 ?_
    have es0 : (x1 + y1).toInt = x1.toInt + y1.toInt := tI_add rfl rfl (by omega)
    obtain ⟨fs0, o0, o0'⟩ := fget_ob (T := TX) a1 (k := 5) (j := 0) rfl f1
    refine put_row (ad := ad) X (put_4_ok (44, 5, 0, 0) (by decide)) (t := (0, 0, 16)) (by decide) d_ls_90 o0 (lt_of_getE o0') (vty_i (by omega) (by omega)) ?_
    have hWw3 := wt_setI a1 (k := 5) (j := 0) (v := x1 + y1) rfl rfl o0 (by omega) (by omega)
    have hFw3 := frm_setO hF1 o0 (v := .int (x1 + y1)) (j := 0) (by decide)
    have f2_0 : fget (w1.set 5 (ad 5, ob 5 (fs0.set 0 (.int (x1 + y1))))) 12 0 = some (.int x2) := by rw [fget_set o0 (by decide)]; exact f2
    have g2_0 : fget (w1.set 5 (ad 5, ob 5 (fs0.set 0 (.int (x1 + y1))))) 3 6 = some (.int y2) := by rw [fget_set o0 (by decide)]; exact g2
    have f3_0 : fget (w1.set 5 (ad 5, ob 5 (fs0.set 0 (.int (x1 + y1))))) 18 0 = some (.int x3) := by rw [fget_set o0 (by decide)]; exact f3
    have g3_0 : fget (w1.set 5 (ad 5, ob 5 (fs0.set 0 (.int (x1 + y1))))) 3 7 = some (.int y3) := by rw [fget_set o0 (by decide)]; exact g3
    generalize hgen0 : w1.set 5 (ad 5, ob 5 (fs0.set 0 (.int (x1 + y1)))) = w3 at *
    refine z_aload_n X d_ls_93 rfl 2 rfl ?_
    refine z_dup X d_ls_94 rfl ?_
    refine hget (T := TX) X hWw3 (idx := 49) (fld_4_ok _ (by decide : (49, 7, 0) ∈ fld_4)) d_ls_95 rfl (f2_0) ?_
    refine z_aload_n X d_ls_98 rfl 0 rfl ?_
    refine hget (T := TX) X hWw3 (idx := 34) (fld_4_ok _ (by decide : (34, 4, 6) ∈ fld_4)) d_ls_99 rfl (g2_0) ?_
    refine z_iadd X d_ls_102 ?_
    have es1 : (x2 + y2).toInt = x2.toInt + y2.toInt := tI_add rfl rfl (by omega)
    obtain ⟨fs1, o1, o1'⟩ := fget_ob (T := TX) hWw3 (k := 12) (j := 0) rfl f2_0
    refine put_row (ad := ad) X (put_4_ok (49, 7, 0, 0) (by decide)) (t := (0, 0, 6)) (by decide) d_ls_103 o1 (lt_of_getE o1') (vty_i (by omega) (by omega)) ?_
    have hWw4 := wt_setI hWw3 (k := 12) (j := 0) (v := x2 + y2) rfl rfl o1 (by omega) (by omega)
    have hFw4 := frm_setO hFw3 o1 (v := .int (x2 + y2)) (j := 0) (by decide)
    have f3_1 : fget (w3.set 12 (ad 12, ob 7 (fs1.set 0 (.int (x2 + y2))))) 18 0 = some (.int x3) := by rw [fget_set o1 (by decide)]; exact f3_0
    have g3_1 : fget (w3.set 12 (ad 12, ob 7 (fs1.set 0 (.int (x2 + y2))))) 3 7 = some (.int y3) := by rw [fget_set o1 (by decide)]; exact g3_0
    generalize hgen1 : w3.set 12 (ad 12, ob 7 (fs1.set 0 (.int (x2 + y2)))) = w4 at *
    refine z_aload_n X d_ls_106 rfl 3 rfl ?_
    refine z_dup X d_ls_107 rfl ?_
    refine hget (T := TX) X hWw4 (idx := 52) (fld_4_ok _ (by decide : (52, 0, 0) ∈ fld_4)) d_ls_108 rfl (f3_1) ?_
    refine z_aload_n X d_ls_111 rfl 0 rfl ?_
    refine hget (T := TX) X hWw4 (idx := 37) (fld_4_ok _ (by decide : (37, 4, 7) ∈ fld_4)) d_ls_112 rfl (g3_1) ?_
    refine z_iadd X d_ls_115 ?_
    have es2 : (x3 + y3).toInt = x3.toInt + y3.toInt := tI_add rfl rfl (by omega)
    obtain ⟨fs2, o2, o2'⟩ := fget_ob (T := TX) hWw4 (k := 18) (j := 0) rfl f3_1
    refine put_row (ad := ad) X (put_4_ok (52, 0, 0, 0) (by decide)) (t := (0, 0, 8)) (by decide) d_ls_116 o2 (lt_of_getE o2') (vty_i (by omega) (by omega)) ?_
    have hWw5 := wt_setI hWw4 (k := 18) (j := 0) (v := x3 + y3) rfl rfl o2 (by omega) (by omega)
    have hFw5 := frm_setO hFw4 o2 (v := .int (x3 + y3)) (j := 0) (by decide)
    generalize hgen2 : w4.set 18 (ad 18, ob 0 (fs2.set 0 (.int (x3 + y3)))) = w5 at *
    refine z_iload X d_ls_119 4 rfl ?_
    exact fail _ w5 _ d_ls_121 hWw5 hFw5 _
end RLS
theorem ac_readLines (l : Launch) (G : KG) : ACt l G TX yX4_readLines cX4_readLines 5 (some .int) C_readLines := by
  refine hand_of (by decide) (by decide) (by decide) (by decide) (by decide) ?_
  intro p e s m args below meth c A X ad w0 μ lw hW hPre hg
  refine aseg (C := sC_ls) (PO := LSpo G ad w0 μ) (fld := fld_4) (put := put_4) (cst := cst_4) (cstl := cstl_4) (hk := hk0) (tab := D_X4_readLines) (rk := 1) (pids := [0, 1, 2, 3]) D_X4_readLines_ok X rfl rfl hok0 (Or.inr (Or.inl ⟨rfl, rfl⟩)) (Nat.le_refl 0) (Nat.le_refl 0) (spin1 (C := C_readLines)) (spin2 (C := C_readLines)) (fun r w1 h => h) fld_4_ok put_4_ok cst_4_ok cstl_4_ok (sl_ls_ok l G) (Nat.le_refl 0) (Nat.le_refl 0) spin3 sg_ls (fun d hd ν2 lw2 sw2 ws2 hg2 => ?_) μ lw [] w0 hg
  rw [List.mem_singleton.mp hd] at hg2 ⊢
  have hs : sw2 = [] := hg2.2.1
  subst hs
  have h3 := hg2.2.2
  have el : lw2 = [(0, ν2 0), (1, ν2 1), (2, ν2 2), (3, ν2 3), (4, ν2 500)] := hg2.1
  have e0 : ν2 0 = .ref (ad 3) := h3.ref (i := 0) rfl
  have e1 : ν2 1 = .ref (ad 5) := h3.ref (i := 1) rfl
  have e2 : ν2 2 = .ref (ad 12) := h3.ref (i := 2) rfl
  have e3 : ν2 3 = .ref (ad 18) := h3.ref (i := 3) rfl
  obtain ⟨k, e4, k1, k2⟩ := h3.rng (i := 500) (a := 1) (b := 1) (by decide)
  have hW2 := h3.2.2.2.2.2.1
  have hF2 := h3.2.2.2.2.2.2
  have zero : ∀ (cell mf nm : Nat) (MX : Int), (∃ c : Int32, fget ws2 cell 0 = some (.int c) ∧ 0 ≤ c.toInt ∧ c.toInt ≤ MX) → (nm, (0, 0, 0)) ∈ se_ls_45.2.1.2.2.1 → (3, mf, nm) ∈ se_ls_45.2.1.2.2.2.1 → SUM cell mf MX ws2 := by
    intro cell mf nm MX hc h1 h2
    obtain ⟨c, c1, c2, c3⟩ := hc
    obtain ⟨x, x1, x2, x3⟩ := h3.rng h1
    have h5 := h3.2.2.1 _ h2
    have h5 : fget ws2 3 mf = some (ν2 nm) := h5
    rw [x1] at h5
    exact ⟨c, x, c1, h5, c2, x2, by omega⟩
  rw [el, e0, e1, e2, e3, e4]
  exact ls_loop X _ k ws2 hW2 hF2 (zero 5 5 504 16 (fget_int (T := TX) hW2 rfl rfl) (by decide) (by decide)) (zero 12 6 505 6 (fget_int (T := TX) hW2 rfl rfl) (by decide) (by decide)) (zero 18 7 506 8 (fget_int (T := TX) hW2 rfl rfl) (by decide) (by decide)) k1 (by omega) (Nat.lt_succ_self _)
end
section
/-! a call with more than eight words left below its arguments -/
section WIDE
variable {p : Program} {l : Launch} {e : Env} {R : Room} {s : State} {m : MethodId} {args : Array Value} {below : List Frame} {meth : Method} {c : Code} {nL : Nat} {G : KG} {A : Nat → Prop} {Q : State → Prop} {cc : ByteArray} {own : String} {ret : Option FieldType} {nm : String} {kc ks : Nat}
theorem lv_room12 {ls : Array Slot} {pc : Nat} {rest st : List Value} (h : (st.map fun v => v.category).sum ≤ 12) : 2 * (F0 m pc ls rest).monitorRoom + (st.map fun v => v.category).sum ≤ 12 := by
  show 2 * 0 + _ ≤ 12
  omega
theorem wide_back {index mc ms n maxL : Nat} {y : MethodName} {bytes : ByteArray} {rt : Option FieldType} {ws : List Cond} {rm : Room} {Pc : Array Value → State → Prop} {Qc : Array Value → State → Outcome → State → Prop} {free : Addr → Prop} (cb : CallB R s args own index y bytes maxL rt ws rm mc ms n) (hM : Met l y ws rm Pc Qc mc ms free) (hbl : FrameBlind Pc) (h12 : 12 + (maxL + 11) + rm.locals ≤ R.locals) : Back l R p e below s args y 3 12 (PreOf R mc ms Pc) (PostOf Qc mc ms free) := by
  obtain ⟨hrc, hrs, hfr, -, hws, hcw, -, hini, -⟩ := cb
  exact back_of (bytes := bytes) (maxL := maxL) (ret := rt) hM hbl hrc hrs hfr h12 hws hcw (fun a' U hW => word_at hW (Or.inl (by first | rfl | simp [Cond.onTables, Cond.keeps, Cond.steady])) hini)
theorem wide_runS {index mc ms n maxL cells slots : Nat} {y : MethodName} {bytes : ByteArray} {rt : Option FieldType} {ws : List Cond} {rm : Room} {Pc : Array Value → State → Prop} {Qc : Array Value → State → Outcome → State → Prop} {free : Addr → Prop} {Ts : List Cond} {H : Heap} {locs : List Loc} {g : JFrame} {As rest : List Value} (S : CallFix p m c cc nL s args Ts own) (hM : Met l y ws rm Pc Qc mc ms free) (cw : CallB R s args own index y bytes maxL rt ws rm mc ms n ∧ (Cond.static y).before args s = true) (h12 : 12 + (maxL + 11) + rm.locals ≤ R.locals) (hp : PreS s H Pc As)
    (hg : g.method = m) (hn : As.length = n) (hsize : g.locals.size = nL) (hstack : g.stack = As.reverse ++ rest) (hW : 2 * g.monitorRoom + (rest.map fun v => v.category).sum ≤ 12) (hdg : decode cc g.pc = .ok (.invokestatic index, 3)) (hf : cells + mc ≤ R.cells ∧ slots + ms ≤ R.slots) :
    va_Run p l e R s m args below meth c H locs cells slots mc ms g rest (Qc As.toArray) (free) := by
  have hK : Back l R p e below s args y 3 12 (PreOf R mc ms Pc) (PostOf Qc mc ms free) := wide_back cw.1 hM hp.1 h12
  obtain ⟨⟨-, -, -, -, -, -, hcode, hini, hy, hlen, hl⟩, hstt⟩ := cw
  obtain ⟨hx, hb, hml, ho, -⟩ := S
  intro T hT X
  obtain ⟨v, vm₁, ⟨U', l2, c2, s2⟩, hW₁, X', ⟨g', mk, t, L, e1, e2, hq, h1, hL, h2, h3⟩, st⟩ := callS X hx (bytes := bytes) (maxL := maxL) (ret := rt) ho hl hstt hini hcode hy hK hg (hsize.trans hml.symm) (argsL := As) (rest := rest) (fun sig h => hn.trans (hlen sig h)) hstack hW (by rw [hb]; exact hdg)
    (fun vm₁ hW₁ => ⟨hf.1, hf.2, hp.2 (T.setVm vm₁) hT hW₁⟩)
  dsimp only [Pt.U, Pt.locs, Pt.cells, Pt.slots] at X' e1 e2 h1 h2 h3 st
  subst h1; subst h2; subst h3
  exact ⟨v, (T.setVm vm₁).calling g' mk As.toArray, t, U', L, hT, X', hL, e1, e2, hq, st⟩
theorem wide_callS {idx mx n pc : Nat} {y : MethodName} {cy : ByteArray} {rt : Option FieldType} {rm : Room} {As rest st : List Value} {post : Option Value → va_W → Prop} {ws : va_W} {lw : List (Nat × Value)} (X : ZC p s m args meth c cc nL own G A ret nm) (K : LkS own idx y cy mx rt n) (hM : Ct l G y cy mx rt rm As ws post) (hdg : decode cc pc = .ok (.invokestatic idx, 3)) (hR : rm.frames + 1 ≤ R.frames ∧ 12 + (mx + 11) + rm.locals ≤ R.locals) (hf : kc + rm.cells ≤ R.cells ∧ ks + rm.slots ≤ R.slots) (hn : As.length = n) (hst : st = As.reverse ++ rest) (hcat : (rest.map fun v => v.category).sum ≤ 12)
    (kk : ∀ (r : Option Value) (w1 : va_W), post r w1 → Z p l e R s m args below meth c nL G A Q (pc + 3) lw (r.toList ++ rest) w1 (kc + rm.cells) (ks + rm.slots)) : Z p l e R s m args below meth c nL G A Q pc lw st ws kc ks := by
  obtain ⟨k1, k2, k3, k5, k7, k8, k9⟩ := K
  subst hst
  intro H locs ls hP hD hS hl
  have hts := X.2.2.2.2.1
  exact z_cont (wr := []) (wide_runS (As := As) (rest := rest) ⟨X.1, X.2.1, X.2.2.1, X.2.2.2.1, hts⟩ (hM H.size) ⟨callB_of n hts (goodIn_wsOf k5) rfl rfl rfl (hts _ k3) (hts _ k1) ⟨k7, k8, k9⟩ ⟨hR.1, by omega⟩, hts _ k2⟩ hR.2 ⟨Pcx.blind, pre_v (locs := locs) X hP hD (List.range ws.length) (range_pick ws) (va_nd_range _) _⟩ rfl hn hl.1 rfl (lv_room12 hcat) hdg hf) X.2.2.2.2.2.2.1 hP hD hS hl (List.range ws.length) [] (range_pick ws) rfl rfl rfl (fun r w1 hp => kk r w1 hp)
end WIDE
/-- the hook: a point's part, at the head of a long stack -/
noncomputable def hkPt (p0 : Nat) : HKT := fun pc σ => bif Nat.beq pc p0 then (match σ.2.1 with
  | y :: x :: st => bif pId σ.2.2.1 x 1 && (pId σ.2.2.1 y 0 && Nat.ble (scat σ.2.2.1 st) 12) then some [(pc + 3, ((σ.1, σ.2.2.2.2.2 :: st, (σ.2.2.2.2.2, (1, lMin, lMax)) :: σ.2.2.1, σ.2.2.2.1, σ.2.2.2.2.1, σ.2.2.2.2.2 + 1) : AS))] else none
  | _ => none) else none
theorem cat12_ok {G : KG} {ad : Nat → Nat} {T : List TE} {mk : List (Nat × Nat)} {w0 : va_W} {pin : List (Nat × Value)} {lv : ALv} {st : List Nat} {ev : AEv} {ca : ACa} {rl : ARl} {nx : Nat} {ν : Nat → Value} {ws : va_W} (h : AK G ad T mk w0 pin (lv, st, ev, ca, rl, nx) ν ws) : ∀ (l : List Nat), ((l.map ν).map fun v => v.category).sum ≤ scat ev l
  | [] => by simp [scat]
  | i :: l => by
    have ih := cat12_ok h l
    have h1 : (ν i).category ≤ bif Nat.beq (aty ev i).1 1 then 2 else bif Nat.ble (aty ev i).1 3 then 1 else 9 := by
      rcases aty_sound (ad := ad) (ν := ν) ev i h.2.1 with e9 | ht
      · rw [e9]
        show (ν i).category ≤ 9
        cases ν i <;> first | exact (by decide : (1 : Nat) ≤ 9) | exact (by decide : (2 : Nat) ≤ 9)
      · rcases ht with ⟨e, ⟨x, hx⟩, -⟩ | ⟨e, ⟨x, hx⟩, -⟩ | ⟨e, hx⟩ | ⟨e, hx | ⟨a, hx⟩⟩
        all_goals (rw [e, hx]; first | exact Nat.le_refl 1 | exact Nat.le_refl 2)
    simp only [List.map_cons, List.sum_cons]
    show _ ≤ (bif Nat.beq (aty ev i).1 1 then 2 else bif Nat.ble (aty ev i).1 3 then 1 else 9) + scat ev l
    omega
theorem hkPt_ok {l : Launch} {G : KG} {cc : ByteArray} {nL : Nat} {ret : Option FieldType} {Rf Rl p0 : Nat} (d0 : decode cc p0 = .ok (.invokestatic 441, 3)) (hRf : 1 ≤ Rf) (hRl : 26 ≤ Rl) : HOK l G TM RX11 cc nL ret Rf Rl (hkPt p0) := by
  intro p e R s m args below meth c A nm Q kc ks X eRf eRl hkc hks ad mk w0 pin pc σ L hf h k
  obtain ⟨lv, st, ev, ca, rl, nx⟩ := σ
  unfold hkPt at h
  cases hb : Nat.beq pc p0 with
  | false => rw [hb] at h; cases h
  | true =>
    have hb := Nat.eq_of_beq_eq_true hb
    subst hb
    rw [Nat.beq_refl] at h
    match st, h, hf with
    | [], h, _ => cases h
    | [x], h, _ => cases h
    | y :: x :: st, h, hf =>
      have h : (bif pId ev x 1 && (pId ev y 0 && Nat.ble (scat ev st) 12) then some [(pc + 3, ((lv, nx :: st, (nx, (1, lMin, lMax)) :: ev, ca, rl, nx + 1) : AS))] else none) = some L := h
      cases hc : (pId ev x 1 && (pId ev y 0 && Nat.ble (scat ev st) 12)) with
      | false => rw [hc] at h; cases h
      | true =>
        rw [hc] at h
        cases h
        have k := k _ List.mem_cons_self
        obtain ⟨c1, hc⟩ := and2 hc
        obtain ⟨c2, c3⟩ := and2 hc
        intro ν lw sw ws hg
        obtain ⟨h1, h2, h3⟩ := hg
        have h3 : AK G ad TM mk w0 pin (lv, y :: x :: st, ev, ca, rl, nx) ν ws := h3
        have h2 : sw = ν y :: ν x :: st.map ν := h2
        obtain ⟨b, hb⟩ := h3.int (pId_ok c2)
        obtain ⟨a, ha⟩ := h3.long (pId_ok c1)
        have hW := h3.2.2.2.2.2.1
        obtain ⟨μ, hμ⟩ : ∃ μ : Nat → Value, μ = fun i => if i = 0 then .long a else .int b := ⟨_, rfl⟩
        have m0 : μ 0 = .long a := by rw [hμ]; rfl
        have m1 : μ 1 = .int b := by rw [hμ]; rfl
        have hpre : PRE ad C_X11_pointAt_0 μ ws := by
          refine ⟨fun j t hj => ?_, fun j q hj => ?_, fun q hq => ?_⟩
          · match j, hj with
            | 0, hj => cases hj; rw [m0]; exact vty_l0 _
            | 1, hj => cases hj; rw [m1]; exact vty_i0 _
            | n + 2, hj => cases hj
          · cases hj
          · cases hq
        have hct := ac_X11_pointAt_0 l G ad ws μ hW hpre
        have e0 : (List.range C_X11_pointAt_0.1.length).map μ = [.long a, .int b] := by show [μ 0, μ 1] = _; rw [m0, m1]
        rw [e0] at hct
        rw [h2, ha, hb]
        refine wide_callS (rest := st.map ν) X k_11_441 hct d0 ⟨by show 0 + 1 ≤ R.frames; omega, by show 12 + (3 + 11) + 0 ≤ R.locals; omega⟩ ⟨hkc, hks⟩ rfl rfl (Nat.le_trans (cat12_ok h3 st) (Nat.le_of_ble_eq_true c3)) (fun r w1 hp => ?_)
        obtain ⟨A1, hA1, μ2, -, -, q3, -, -, -, q7, q8⟩ := hp
        have e := List.mem_singleton.mp hA1
        subst e
        obtain ⟨r1, r2⟩ := q3
        obtain ⟨v, ev', -⟩ := vty1 r2 rfl
        rw [r1, ev']
        have g0 : AG G ad TM mk w0 pin (lv, st, ev, ca.filter (fun q => !(mkq [] q.1 q.2.1)), rl, nx) ν lw (st.map ν) w1 := AG.world (st2 := st) ⟨h1, h2, h3⟩ q7 q8 rfl
        have ef : ca.filter (fun q => !(mkq [] q.1 q.2.1)) = ca := List.filter_eq_self.mpr (fun q _ => rfl)
        rw [ef] at g0
        exact k _ _ _ _ (AG.push (nr := []) g0 (afr_pop (afr_pop hf)) (vty_l0 v) (fun q hq => absurd hq List.not_mem_nil))
end
section
theorem d_cs_0 : decode cX11_cogSize 0 = .ok (.lconst 0, 1) := by decide +kernel
theorem d_cs_1 : decode cX11_cogSize 1 = .ok (.lstore_n 1, 1) := by decide +kernel
theorem d_cs_2 : decode cX11_cogSize 2 = .ok (.lconst 0, 1) := by decide +kernel
theorem d_cs_3 : decode cX11_cogSize 3 = .ok (.lstore_n 3, 1) := by decide +kernel
theorem d_cs_4 : decode cX11_cogSize 4 = .ok (.iconst 0, 1) := by decide +kernel
theorem d_cs_5 : decode cX11_cogSize 5 = .ok (.istore 5, 2) := by decide +kernel
theorem d_cs_7 : decode cX11_cogSize 7 = .ok (.iload 5, 2) := by decide +kernel
theorem d_cs_9 : decode cX11_cogSize 9 = .ok (.aload_n 0, 1) := by decide +kernel
theorem d_cs_10 : decode cX11_cogSize 10 = .ok (.getfield 101, 3) := by decide +kernel
theorem d_cs_13 : decode cX11_cogSize 13 = .ok (.if_icmp .ge 57, 3) := by decide +kernel
theorem d_cs_16 : decode cX11_cogSize 16 = .ok (.lload_n 1, 1) := by decide +kernel
theorem d_cs_17 : decode cX11_cogSize 17 = .ok (.aload_n 0, 1) := by decide +kernel
theorem d_cs_18 : decode cX11_cogSize 18 = .ok (.getfield 104, 3) := by decide +kernel
theorem d_cs_21 : decode cX11_cogSize 21 = .ok (.aload_n 0, 1) := by decide +kernel
theorem d_cs_22 : decode cX11_cogSize 22 = .ok (.getfield 459, 3) := by decide +kernel
theorem d_cs_25 : decode cX11_cogSize 25 = .ok (.iload 5, 2) := by decide +kernel
theorem d_cs_27 : decode cX11_cogSize 27 = .ok (.iaload, 1) := by decide +kernel
theorem d_cs_28 : decode cX11_cogSize 28 = .ok (.iaload, 1) := by decide +kernel
theorem d_cs_29 : decode cX11_cogSize 29 = .ok (.aload_n 0, 1) := by decide +kernel
theorem d_cs_30 : decode cX11_cogSize 30 = .ok (.getfield 69, 3) := by decide +kernel
theorem d_cs_33 : decode cX11_cogSize 33 = .ok (.iload 5, 2) := by decide +kernel
theorem d_cs_35 : decode cX11_cogSize 35 = .ok (.iaload, 1) := by decide +kernel
theorem d_cs_36 : decode cX11_cogSize 36 = .ok (.imul, 1) := by decide +kernel
theorem d_cs_37 : decode cX11_cogSize 37 = .ok (.i2l, 1) := by decide +kernel
theorem d_cs_38 : decode cX11_cogSize 38 = .ok (.ladd, 1) := by decide +kernel
theorem d_cs_39 : decode cX11_cogSize 39 = .ok (.lstore_n 1, 1) := by decide +kernel
theorem d_cs_40 : decode cX11_cogSize 40 = .ok (.lload_n 3, 1) := by decide +kernel
theorem d_cs_41 : decode cX11_cogSize 41 = .ok (.aload_n 0, 1) := by decide +kernel
theorem d_cs_42 : decode cX11_cogSize 42 = .ok (.getfield 104, 3) := by decide +kernel
theorem d_cs_45 : decode cX11_cogSize 45 = .ok (.aload_n 0, 1) := by decide +kernel
theorem d_cs_46 : decode cX11_cogSize 46 = .ok (.getfield 459, 3) := by decide +kernel
theorem d_cs_49 : decode cX11_cogSize 49 = .ok (.iload 5, 2) := by decide +kernel
theorem d_cs_51 : decode cX11_cogSize 51 = .ok (.iaload, 1) := by decide +kernel
theorem d_cs_52 : decode cX11_cogSize 52 = .ok (.iaload, 1) := by decide +kernel
theorem d_cs_53 : decode cX11_cogSize 53 = .ok (.aload_n 0, 1) := by decide +kernel
theorem d_cs_54 : decode cX11_cogSize 54 = .ok (.getfield 76, 3) := by decide +kernel
theorem d_cs_57 : decode cX11_cogSize 57 = .ok (.iload 5, 2) := by decide +kernel
theorem d_cs_59 : decode cX11_cogSize 59 = .ok (.iaload, 1) := by decide +kernel
theorem d_cs_60 : decode cX11_cogSize 60 = .ok (.imul, 1) := by decide +kernel
theorem d_cs_61 : decode cX11_cogSize 61 = .ok (.i2l, 1) := by decide +kernel
theorem d_cs_62 : decode cX11_cogSize 62 = .ok (.ladd, 1) := by decide +kernel
theorem d_cs_63 : decode cX11_cogSize 63 = .ok (.lstore_n 3, 1) := by decide +kernel
theorem d_cs_64 : decode cX11_cogSize 64 = .ok (.iinc 5 1, 3) := by decide +kernel
theorem d_cs_67 : decode cX11_cogSize 67 = .ok (.goto (-60), 3) := by decide +kernel
theorem d_cs_70 : decode cX11_cogSize 70 = .ok (.lload_n 1, 1) := by decide +kernel
theorem d_cs_71 : decode cX11_cogSize 71 = .ok (.lload_n 3, 1) := by decide +kernel
theorem d_cs_72 : decode cX11_cogSize 72 = .ok (.invokestatic 184, 3) := by decide +kernel
theorem d_cs_75 : decode cX11_cogSize 75 = .ok (.lreturn, 1) := by decide +kernel
theorem d_xg_0 : decode cX11_exchanges 0 = .ok (.aload_n 0, 1) := by decide +kernel
theorem d_xg_1 : decode cX11_exchanges 1 = .ok (.getfield 459, 3) := by decide +kernel
theorem d_xg_4 : decode cX11_exchanges 4 = .ok (.iload_n 1, 1) := by decide +kernel
theorem d_xg_5 : decode cX11_exchanges 5 = .ok (.iaload, 1) := by decide +kernel
theorem d_xg_6 : decode cX11_exchanges 6 = .ok (.istore_n 3, 1) := by decide +kernel
theorem d_xg_7 : decode cX11_exchanges 7 = .ok (.aload_n 0, 1) := by decide +kernel
theorem d_xg_8 : decode cX11_exchanges 8 = .ok (.getfield 459, 3) := by decide +kernel
theorem d_xg_11 : decode cX11_exchanges 11 = .ok (.iload_n 1, 1) := by decide +kernel
theorem d_xg_12 : decode cX11_exchanges 12 = .ok (.aload_n 0, 1) := by decide +kernel
theorem d_xg_13 : decode cX11_exchanges 13 = .ok (.getfield 459, 3) := by decide +kernel
theorem d_xg_16 : decode cX11_exchanges 16 = .ok (.iload_n 2, 1) := by decide +kernel
theorem d_xg_17 : decode cX11_exchanges 17 = .ok (.iaload, 1) := by decide +kernel
theorem d_xg_18 : decode cX11_exchanges 18 = .ok (.iastore, 1) := by decide +kernel
theorem d_xg_19 : decode cX11_exchanges 19 = .ok (.aload_n 0, 1) := by decide +kernel
theorem d_xg_20 : decode cX11_exchanges 20 = .ok (.getfield 459, 3) := by decide +kernel
theorem d_xg_23 : decode cX11_exchanges 23 = .ok (.iload_n 2, 1) := by decide +kernel
theorem d_xg_24 : decode cX11_exchanges 24 = .ok (.iload_n 3, 1) := by decide +kernel
theorem d_xg_25 : decode cX11_exchanges 25 = .ok (.iastore, 1) := by decide +kernel
theorem d_xg_26 : decode cX11_exchanges 26 = .ok (.return_, 1) := by decide +kernel
theorem d_sz_0 : decode cX11_size 0 = .ok (.lload_n 0, 1) := by decide +kernel
theorem d_sz_1 : decode cX11_size 1 = .ok (.lload_n 0, 1) := by decide +kernel
theorem d_sz_2 : decode cX11_size 2 = .ok (.lmul, 1) := by decide +kernel
theorem d_sz_3 : decode cX11_size 3 = .ok (.lload_n 2, 1) := by decide +kernel
theorem d_sz_4 : decode cX11_size 4 = .ok (.lload_n 2, 1) := by decide +kernel
theorem d_sz_5 : decode cX11_size 5 = .ok (.lmul, 1) := by decide +kernel
theorem d_sz_6 : decode cX11_size 6 = .ok (.ladd, 1) := by decide +kernel
theorem d_sz_7 : decode cX11_size 7 = .ok (.lreturn, 1) := by decide +kernel
theorem d_rn_0 : decode cX11_round 0 = .ok (.aload_n 0, 1) := by decide +kernel
theorem d_rn_1 : decode cX11_round 1 = .ok (.iconst 0, 1) := by decide +kernel
theorem d_rn_2 : decode cX11_round 2 = .ok (.putfield 3, 3) := by decide +kernel
theorem d_rn_5 : decode cX11_round 5 = .ok (.aload_n 0, 1) := by decide +kernel
theorem d_rn_6 : decode cX11_round 6 = .ok (.invokevirtual 462, 3) := by decide +kernel
theorem d_rn_9 : decode cX11_round 9 = .ok (.ifCond .ne 5, 3) := by decide +kernel
theorem d_rn_12 : decode cX11_round 12 = .ok (.iconst (-1), 1) := by decide +kernel
theorem d_rn_13 : decode cX11_round 13 = .ok (.ireturn, 1) := by decide +kernel
theorem d_rn_14 : decode cX11_round 14 = .ok (.aload_n 0, 1) := by decide +kernel
theorem d_rn_15 : decode cX11_round 15 = .ok (.invokevirtual 465, 3) := by decide +kernel
theorem d_rn_18 : decode cX11_round 18 = .ok (.iconst 0, 1) := by decide +kernel
theorem d_rn_19 : decode cX11_round 19 = .ok (.istore_n 1, 1) := by decide +kernel
theorem d_rn_20 : decode cX11_round 20 = .ok (.iconst 1, 1) := by decide +kernel
theorem d_rn_21 : decode cX11_round 21 = .ok (.istore_n 2, 1) := by decide +kernel
theorem d_rn_22 : decode cX11_round 22 = .ok (.iload_n 2, 1) := by decide +kernel
theorem d_rn_23 : decode cX11_round 23 = .ok (.ifCond .eq 120, 3) := by decide +kernel
theorem d_rn_26 : decode cX11_round 26 = .ok (.aload_n 0, 1) := by decide +kernel
theorem d_rn_27 : decode cX11_round 27 = .ok (.invokevirtual 468, 3) := by decide +kernel
theorem d_rn_30 : decode cX11_round 30 = .ok (.lstore_n 3, 1) := by decide +kernel
theorem d_rn_31 : decode cX11_round 31 = .ok (.iconst (-1), 1) := by decide +kernel
theorem d_rn_32 : decode cX11_round 32 = .ok (.istore 5, 2) := by decide +kernel
theorem d_rn_34 : decode cX11_round 34 = .ok (.iconst (-1), 1) := by decide +kernel
theorem d_rn_35 : decode cX11_round 35 = .ok (.istore 6, 2) := by decide +kernel
theorem d_rn_37 : decode cX11_round 37 = .ok (.iconst 0, 1) := by decide +kernel
theorem d_rn_38 : decode cX11_round 38 = .ok (.istore 7, 2) := by decide +kernel
theorem d_rn_40 : decode cX11_round 40 = .ok (.iload 7, 2) := by decide +kernel
theorem d_rn_42 : decode cX11_round 42 = .ok (.aload_n 0, 1) := by decide +kernel
theorem d_rn_43 : decode cX11_round 43 = .ok (.getfield 101, 3) := by decide +kernel
theorem d_rn_46 : decode cX11_round 46 = .ok (.if_icmp .ge 68, 3) := by decide +kernel
theorem d_rn_49 : decode cX11_round 49 = .ok (.iload 7, 2) := by decide +kernel
theorem d_rn_51 : decode cX11_round 51 = .ok (.iconst 1, 1) := by decide +kernel
theorem d_rn_52 : decode cX11_round 52 = .ok (.iadd, 1) := by decide +kernel
theorem d_rn_53 : decode cX11_round 53 = .ok (.istore 8, 2) := by decide +kernel
theorem d_rn_55 : decode cX11_round 55 = .ok (.iload 8, 2) := by decide +kernel
theorem d_rn_57 : decode cX11_round 57 = .ok (.aload_n 0, 1) := by decide +kernel
theorem d_rn_58 : decode cX11_round 58 = .ok (.getfield 101, 3) := by decide +kernel
theorem d_rn_61 : decode cX11_round 61 = .ok (.if_icmp .ge 47, 3) := by decide +kernel
theorem d_rn_64 : decode cX11_round 64 = .ok (.aload_n 0, 1) := by decide +kernel
theorem d_rn_65 : decode cX11_round 65 = .ok (.iload 7, 2) := by decide +kernel
theorem d_rn_67 : decode cX11_round 67 = .ok (.iload 8, 2) := by decide +kernel
theorem d_rn_69 : decode cX11_round 69 = .ok (.invokevirtual 483, 3) := by decide +kernel
theorem d_rn_72 : decode cX11_round 72 = .ok (.aload_n 0, 1) := by decide +kernel
theorem d_rn_73 : decode cX11_round 73 = .ok (.invokevirtual 468, 3) := by decide +kernel
theorem d_rn_76 : decode cX11_round 76 = .ok (.lload_n 3, 1) := by decide +kernel
theorem d_rn_77 : decode cX11_round 77 = .ok (.lcmp, 1) := by decide +kernel
theorem d_rn_78 : decode cX11_round 78 = .ok (.ifCond .ge 16, 3) := by decide +kernel
theorem d_rn_81 : decode cX11_round 81 = .ok (.aload_n 0, 1) := by decide +kernel
theorem d_rn_82 : decode cX11_round 82 = .ok (.invokevirtual 468, 3) := by decide +kernel
theorem d_rn_85 : decode cX11_round 85 = .ok (.lstore_n 3, 1) := by decide +kernel
theorem d_rn_86 : decode cX11_round 86 = .ok (.iload 7, 2) := by decide +kernel
theorem d_rn_88 : decode cX11_round 88 = .ok (.istore 5, 2) := by decide +kernel
theorem d_rn_90 : decode cX11_round 90 = .ok (.iload 8, 2) := by decide +kernel
theorem d_rn_92 : decode cX11_round 92 = .ok (.istore 6, 2) := by decide +kernel
theorem d_rn_94 : decode cX11_round 94 = .ok (.aload_n 0, 1) := by decide +kernel
theorem d_rn_95 : decode cX11_round 95 = .ok (.iload 7, 2) := by decide +kernel
theorem d_rn_97 : decode cX11_round 97 = .ok (.iload 8, 2) := by decide +kernel
theorem d_rn_99 : decode cX11_round 99 = .ok (.invokevirtual 483, 3) := by decide +kernel
theorem d_rn_102 : decode cX11_round 102 = .ok (.iinc 8 1, 3) := by decide +kernel
theorem d_rn_105 : decode cX11_round 105 = .ok (.goto (-50), 3) := by decide +kernel
theorem d_rn_108 : decode cX11_round 108 = .ok (.iinc 7 1, 3) := by decide +kernel
theorem d_rn_111 : decode cX11_round 111 = .ok (.goto (-71), 3) := by decide +kernel
theorem d_rn_114 : decode cX11_round 114 = .ok (.iload 5, 2) := by decide +kernel
theorem d_rn_116 : decode cX11_round 116 = .ok (.ifCond .lt 7, 3) := by decide +kernel
theorem d_rn_119 : decode cX11_round 119 = .ok (.iconst 1, 1) := by decide +kernel
theorem d_rn_120 : decode cX11_round 120 = .ok (.goto 4, 3) := by decide +kernel
theorem d_rn_123 : decode cX11_round 123 = .ok (.iconst 0, 1) := by decide +kernel
theorem d_rn_124 : decode cX11_round 124 = .ok (.istore_n 2, 1) := by decide +kernel
theorem d_rn_125 : decode cX11_round 125 = .ok (.iload_n 2, 1) := by decide +kernel
theorem d_rn_126 : decode cX11_round 126 = .ok (.ifCond .eq 14, 3) := by decide +kernel
theorem d_rn_129 : decode cX11_round 129 = .ok (.aload_n 0, 1) := by decide +kernel
theorem d_rn_130 : decode cX11_round 130 = .ok (.iload 5, 2) := by decide +kernel
theorem d_rn_132 : decode cX11_round 132 = .ok (.iload 6, 2) := by decide +kernel
theorem d_rn_134 : decode cX11_round 134 = .ok (.invokevirtual 483, 3) := by decide +kernel
theorem d_rn_137 : decode cX11_round 137 = .ok (.iinc 1 1, 3) := by decide +kernel
theorem d_rn_140 : decode cX11_round 140 = .ok (.goto (-118), 3) := by decide +kernel
theorem d_rn_143 : decode cX11_round 143 = .ok (.aload_n 0, 1) := by decide +kernel
theorem d_rn_144 : decode cX11_round 144 = .ok (.iconst 0, 1) := by decide +kernel
theorem d_rn_145 : decode cX11_round 145 = .ok (.putfield 11, 3) := by decide +kernel
theorem d_rn_148 : decode cX11_round 148 = .ok (.iconst 0, 1) := by decide +kernel
theorem d_rn_149 : decode cX11_round 149 = .ok (.istore_n 3, 1) := by decide +kernel
theorem d_rn_150 : decode cX11_round 150 = .ok (.iload_n 3, 1) := by decide +kernel
theorem d_rn_151 : decode cX11_round 151 = .ok (.aload_n 0, 1) := by decide +kernel
theorem d_rn_152 : decode cX11_round 152 = .ok (.getfield 101, 3) := by decide +kernel
theorem d_rn_155 : decode cX11_round 155 = .ok (.if_icmp .ge 20, 3) := by decide +kernel
theorem d_rn_158 : decode cX11_round 158 = .ok (.aload_n 0, 1) := by decide +kernel
theorem d_rn_159 : decode cX11_round 159 = .ok (.aload_n 0, 1) := by decide +kernel
theorem d_rn_160 : decode cX11_round 160 = .ok (.getfield 459, 3) := by decide +kernel
theorem d_rn_163 : decode cX11_round 163 = .ok (.iload_n 3, 1) := by decide +kernel
theorem d_rn_164 : decode cX11_round 164 = .ok (.iaload, 1) := by decide +kernel
theorem d_rn_165 : decode cX11_round 165 = .ok (.i2l, 1) := by decide +kernel
theorem d_rn_166 : decode cX11_round 166 = .ok (.invokevirtual 18, 3) := by decide +kernel
theorem d_rn_169 : decode cX11_round 169 = .ok (.iinc 3 1, 3) := by decide +kernel
theorem d_rn_172 : decode cX11_round 172 = .ok (.goto (-22), 3) := by decide +kernel
theorem d_rn_175 : decode cX11_round 175 = .ok (.aload_n 0, 1) := by decide +kernel
theorem d_rn_176 : decode cX11_round 176 = .ok (.aload_n 0, 1) := by decide +kernel
theorem d_rn_177 : decode cX11_round 177 = .ok (.invokevirtual 468, 3) := by decide +kernel
theorem d_rn_180 : decode cX11_round 180 = .ok (.invokevirtual 18, 3) := by decide +kernel
theorem d_rn_183 : decode cX11_round 183 = .ok (.iload_n 1, 1) := by decide +kernel
theorem d_rn_184 : decode cX11_round 184 = .ok (.ireturn, 1) := by decide +kernel
def D_X11_round : DT := [(0, .aload_n 0, 1), (1, .iconst 0, 1), (2, .putfield 3, 3), (5, .aload_n 0, 1), (6, .invokevirtual 462, 3), (9, .ifCond .ne 5, 3), (12, .iconst (-1), 1), (13, .ireturn, 1), (14, .aload_n 0, 1), (15, .invokevirtual 465, 3), (18, .iconst 0, 1), (19, .istore_n 1, 1), (20, .iconst 1, 1), (21, .istore_n 2, 1), (22, .iload_n 2, 1), (23, .ifCond .eq 120, 3), (26, .aload_n 0, 1), (27, .invokevirtual 468, 3), (30, .lstore_n 3, 1), (31, .iconst (-1), 1), (32, .istore 5, 2), (34, .iconst (-1), 1), (35, .istore 6, 2), (37, .iconst 0, 1), (38, .istore 7, 2), (40, .iload 7, 2), (42, .aload_n 0, 1), (43, .getfield 101, 3), (46, .if_icmp .ge 68, 3), (49, .iload 7, 2), (51, .iconst 1, 1), (52, .iadd, 1), (53, .istore 8, 2), (55, .iload 8, 2), (57, .aload_n 0, 1), (58, .getfield 101, 3), (61, .if_icmp .ge 47, 3), (64, .aload_n 0, 1), (65, .iload 7, 2), (67, .iload 8, 2), (69, .invokevirtual 483, 3), (72, .aload_n 0, 1), (73, .invokevirtual 468, 3), (76, .lload_n 3, 1), (77, .lcmp, 1), (78, .ifCond .ge 16, 3), (81, .aload_n 0, 1), (82, .invokevirtual 468, 3), (85, .lstore_n 3, 1), (86, .iload 7, 2), (88, .istore 5, 2), (90, .iload 8, 2), (92, .istore 6, 2), (94, .aload_n 0, 1), (95, .iload 7, 2), (97, .iload 8, 2), (99, .invokevirtual 483, 3), (102, .iinc 8 1, 3), (105, .goto (-50), 3), (108, .iinc 7 1, 3), (111, .goto (-71), 3), (114, .iload 5, 2), (116, .ifCond .lt 7, 3), (119, .iconst 1, 1), (120, .goto 4, 3), (123, .iconst 0, 1), (124, .istore_n 2, 1), (125, .iload_n 2, 1), (126, .ifCond .eq 14, 3), (129, .aload_n 0, 1), (130, .iload 5, 2), (132, .iload 6, 2), (134, .invokevirtual 483, 3), (137, .iinc 1 1, 3), (140, .goto (-118), 3), (143, .aload_n 0, 1), (144, .iconst 0, 1), (145, .putfield 11, 3), (148, .iconst 0, 1), (149, .istore_n 3, 1), (150, .iload_n 3, 1), (151, .aload_n 0, 1), (152, .getfield 101, 3), (155, .if_icmp .ge 20, 3), (158, .aload_n 0, 1), (159, .aload_n 0, 1), (160, .getfield 459, 3), (163, .iload_n 3, 1), (164, .iaload, 1), (165, .i2l, 1), (166, .invokevirtual 18, 3), (169, .iinc 3 1, 3), (172, .goto (-22), 3), (175, .aload_n 0, 1), (176, .aload_n 0, 1), (177, .invokevirtual 468, 3), (180, .invokevirtual 18, 3), (183, .iload_n 1, 1), (184, .ireturn, 1)]
theorem D_X11_round_ok : dtOK cX11_round D_X11_round = true := by decide +kernel
abbrev C_u_X11_enters_rn0 : CE := ([(2, 0, 0), (1, -9223372036854775808, 9223372036854775807)], [(0, 1, (0, 0, 8))], [], [(none, [], [(0, 1, (0, 1, 9))], [(100, 200, -1), (200, 100, 1)])], [(0, 1), (1, 999)], 0, 0)
theorem ac_u_X11_enters_rn0 (l : Launch) (G : KG) : ACt l G TM yX11_enters cX11_enters 3 none C_u_X11_enters_rn0 := acert (tab := D_X11_enters) (fld := fld_11) (put := put_11) (cst := cst_11) (cstl := cstl_11) (cal := []) (rk := 0) (cuts := []) (fuel := 4000) (by decide) (Or.inl ⟨rfl, rfl⟩) fld_11_ok put_11_ok cst_11_ok cstl_11_ok (fun _ h => absurd h List.not_mem_nil) D_X11_enters_ok (by decide +kernel)
abbrev C_round : CE := ([(2, 0, 0)], [], [], [(some (0, -2147483648, 2147483647), [], [], [])], [(0, 0), (0, 1), (1, 999), (43, 999)], 2, 52)
abbrev rm_cs : Room := { frames := 1, cells := 0, slots := 0, locals := 27 }
abbrev rm_0 : Room := { frames := 0, cells := 0, slots := 0, locals := 0 }
abbrev sC_rnA : CE := C_round
def sl_rnA : List CAL := [(462, 0, 1, C_X11_areCogs_0), (465, 0, 2, C_X11_asTold_0)]
theorem sl_rnA_ok (l : Launch) (G : KG) : ∀ q ∈ sl_rnA, COK l G RX11 TM q := List.forall_mem_cons.mpr ⟨cok_v k_11_462 (ac_X11_areCogs_0 l G) rfl rfl rfl rfl rfl rfl, List.forall_mem_cons.mpr ⟨cok_v k_11_465 (ac_X11_asTold_0 l G) rfl rfl rfl rfl rfl rfl, fun _ h => absurd h List.not_mem_nil⟩⟩
def sk_rnA : List CUT := []
abbrev se_rnA_22 : CUT := (22, ([(0, 0, false), (1, 500, false), (2, 501, false)], [], [(0, (2, 0, 0)), (500, (0, 0, 0)), (501, (0, 1, 1)), (502, (0, 0, 0)), (503, (0, 1, 16)), (504, (0, 1, 8))], [(0, 0, 502), (0, 3, 503), (0, 16, 504)], [], 1000), 0, [(0, 0)])
def sx_rnA : List CUT := [se_rnA_22]
abbrev ss_rnA : AS := ([(0, 0, false)], [], [(0, (2, 0, 0))], [], [], 1000)
theorem sg_rnA : xcheckS hk0 D_X11_round 9 TM fld_11 put_11 cst_11 cstl_11 sl_rnA 1 sC_rnA sk_rnA sx_rnA [0] 4000 0 ss_rnA = true := by decide +kernel
abbrev sC_rnB : CE := C_round
def sl_rnB : List CAL := [(18, 0, 3, C_X11_enters_15), (468, 0, 6, C_X11_cogSize_0), (18, 0, 3, C_u_X11_enters_rn0)]
theorem sl_rnB_ok (l : Launch) (G : KG) : ∀ q ∈ sl_rnB, COK l G RX11 TM q := List.forall_mem_cons.mpr ⟨cok_v k_11_18 (ac_X11_enters_15 l G) rfl rfl rfl rfl rfl rfl, List.forall_mem_cons.mpr ⟨cok_v k_11_468 (ac_X11_cogSize_0 l G) rfl rfl rfl rfl rfl rfl, List.forall_mem_cons.mpr ⟨cok_v k_11_18 (ac_u_X11_enters_rn0 l G) rfl rfl rfl rfl rfl rfl, fun _ h => absurd h List.not_mem_nil⟩⟩⟩
def sk_rnB : List CUT := [(150, ([(0, 0, false), (1, 700, false), (3, 500, false)], [], [(0, (2, 0, 0)), (500, (0, 0, 8)), (501, (0, 0, 8)), (700, (0, -2147483648, 2147483647))], [(0, 1, 501)], [(500, 501, 0), (501, 500, 0)], 1000), 19, [(1, 500)])]
def sx_rnB : List CUT := []
abbrev ss_rnB : AS := ([(0, 0, false), (1, 700, false)], [], [(0, (2, 0, 0)), (700, (0, -2147483648, 2147483647))], [], [], 1000)
theorem sg_rnB : xcheckS hk0 D_X11_round 9 TM fld_11 put_11 cst_11 cstl_11 sl_rnB 1 sC_rnB sk_rnB sx_rnB [0, 700] 4000 143 ss_rnB = true := by decide +kernel
end
section
/-! the reference's round -/
section RNS
variable {p : Program} {l : Launch} {e : Env} {s : State} {m : MethodId} {args : Array Value} {below : List Frame} {meth : Method} {c : Code} {G : KG} {A : Nat → Prop} {ad : Nat → Nat} {w0 : va_W} {μ : Nat → Value}
theorem set_self {ws : va_W} {k : Nat} {q : Nat × va_E} (h : ws[k]? = some q) : ws.set k q = ws := by
  refine List.ext_getElem? (fun i => ?_)
  rcases Nat.decEq k i with hk | hk
  · exact set_other hk
  · subst hk; rw [set_same h, h]
def CSf (wt a h : Nat → Int32) : Nat → Int64
  | 0 => 0
  | n + 1 => CSf wt a h n + (wt (a n).toNatClampNeg * h n).toInt64
def SZ (wt hx hy a : Nat → Int32) (n : Nat) : Int64 := CSf wt a hx n * CSf wt a hx n + CSf wt a hy n * CSf wt a hy n
def swp (a : Nat → Int32) (i j : Int32) : Nat → Int32 := upd (upd a i.toNatClampNeg (a j.toNatClampNeg)) j.toNatClampNeg (a i.toNatClampNeg)
theorem swp_swp (a : Nat → Int32) (i j : Int32) : swp (swp a i j) i j = a := by
  funext n
  unfold swp upd
  by_cases h1 : n = j.toNatClampNeg
  · rw [if_pos h1]
    by_cases h2 : i.toNatClampNeg = j.toNatClampNeg
    · rw [if_pos h2, h1, h2]
    · rw [if_neg h2, if_pos rfl, h1]
  · rw [if_neg h1]
    by_cases h2 : n = i.toNatClampNeg
    · rw [if_pos h2, if_pos rfl, h2]
    · rw [if_neg h2, if_neg h1, if_neg h2]
/-- what is known of the world -/
def CKw (G : KG) (ad : Nat → Nat) (hn : Int32) (wt hx hy a : Nat → Int32) (ws : va_W) : Prop := WT G ad TM ws ∧ fget ws 0 16 = some (.int hn) ∧ ws[13]? = some (ad 13, aI G 8 wt) ∧ ws[43]? = some (ad 43, aI G 8 a) ∧ ws[3]? = some (ad 3, aI G 16 hx) ∧ ws[4]? = some (ad 4, aI G 16 hy) ∧ 0 ≤ hn.toInt ∧ hn.toInt ≤ 8 ∧ ∀ k, k < 8 → 0 ≤ (a k).toInt ∧ (a k).toInt ≤ 7
theorem CKw.put {hn : Int32} {wt hx hy a : Nat → Int32} {ws : va_W} (h : CKw G ad hn wt hx hy a ws) (j : Nat) {v : Int32} (v0 : 0 ≤ v.toInt) (v1 : v.toInt ≤ 7) : CKw G ad hn wt hx hy (upd a j v) (ws.set 43 (ad 43, aI G 8 (upd a j v))) := by
  obtain ⟨h1, h2, h3, h4, h5, h6, h7, h8, h9⟩ := h
  refine ⟨WT.wr h1 rfl h4 v0 v1, by rw [fget_arr_eq h4]; exact h2, by rw [set_other (by decide)]; exact h3, set_same h4, by rw [set_other (by decide)]; exact h5, by rw [set_other (by decide)]; exact h6, h7, h8, fun k hk => ?_⟩
  unfold upd
  split
  · exact ⟨v0, v1⟩
  · exact h9 k hk
theorem CKw.el {hn : Int32} {wt hx hy a : Nat → Int32} {ws : va_W} (h : CKw G ad hn wt hx hy a ws) {i : Int32} (h0 : 0 ≤ i.toInt) (h1 : i.toInt < 8) : vp_in (a i.toNatClampNeg) 8 := by
  have e : i.toNatClampNeg = i.toInt.toNat := rfl
  have := h.2.2.2.2.2.2.2.2 i.toNatClampNeg (by omega)
  exact vp_of this.1 (by omega)
theorem CKw.swp {hn : Int32} {wt hx hy a : Nat → Int32} {ws : va_W} (h : CKw G ad hn wt hx hy a ws) {i j : Int32} (i0 : 0 ≤ i.toInt) (i1 : i.toInt < 8) (j0 : 0 ≤ j.toInt) (j1 : j.toInt < 8) : CKw G ad hn wt hx hy (swp a i j) (ws.set 43 (ad 43, aI G 8 (swp a i j))) := by
  have ei : i.toNatClampNeg = i.toInt.toNat := rfl
  have ej : j.toNatClampNeg = j.toInt.toNat := rfl
  have a1 := h.2.2.2.2.2.2.2.2 i.toNatClampNeg (by omega)
  have a2 := h.2.2.2.2.2.2.2.2 j.toNatClampNeg (by omega)
  have b1 := h.put i.toNatClampNeg a2.1 a2.2
  have b2 := b1.put j.toNatClampNeg a1.1 a1.2
  rw [List.set_set] at b2
  exact b2
theorem ac_sizeH (l : Launch) (G : KG) (x y : Int64) (w0 : va_W) : Ct l G yX11_size cX11_size 4 (some .long) rm_0 [.long x, .long y] w0 (fun r w1 => w1 = w0 ∧ r = some (.long (x * x + y * y))) := by
  refine ct_of [(0, .long x), (2, .long y)] (by decide) (Nat.le_of_ble_eq_true rfl) rfl ?_
  intro p e s m args below meth c A X
  refine z_lload_n X d_sz_0 rfl 0 rfl ?_
  refine z_lload_n X d_sz_1 rfl 0 rfl ?_
  refine z_lmul X d_sz_2 ?_
  refine z_lload_n X d_sz_3 rfl 1 rfl ?_
  refine z_lload_n X d_sz_4 rfl 1 rfl ?_
  refine z_lmul X d_sz_5 ?_
  refine z_ladd X d_sz_6 ?_
  exact z_lret X rfl d_sz_7 (Nat.le_refl 0) (Nat.le_refl 0) ⟨rfl, rfl⟩
theorem ac_exch (l : Launch) (G : KG) {ad : Nat → Nat} {hn : Int32} {wt hx hy a : Nat → Int32} {ws : va_W} (hB : CKw G ad hn wt hx hy a ws) {i j : Int32} (i0 : 0 ≤ i.toInt) (i1 : i.toInt < 8) (j0 : 0 ≤ j.toInt) (j1 : j.toInt < 8) : Ct l G yX11_exchanges cX11_exchanges 4 none rm_0 [.ref (ad 0), .int i, .int j] ws (fun r w1 => w1 = ws.set 43 (ad 43, aI G 8 (swp a i j)) ∧ r = none) := by
  refine ct_of [(0, .ref (ad 0)), (1, .int i), (2, .int j)] (by decide) (Nat.le_of_ble_eq_true rfl) rfl ?_
  intro p e s m args below meth c A X
  have vi : vp_in i 8 := vp_of i0 i1
  have vj : vp_in j 8 := vp_of j0 j1
  refine z_aload_n X d_xg_0 rfl 0 rfl ?_
  refine hget (T := TM) X hB.1 (idx := 459) (fld_11_ok _ (by decide : (459, 11, 68) ∈ fld_11)) d_xg_1 rfl (fget_ref hB.1 rfl rfl) ?_
  refine z_iload_n X d_xg_4 rfl 1 rfl ?_
  refine z_iald X d_xg_5 43 (hB.2.2.2.1) (vi) rfl ?_
  refine z_istore_n X d_xg_6 rfl (by decide) (lv' := [(3, .int (a (i).toNatClampNeg)), (0, .ref (ad 0)), (1, .int (i)), (2, .int (j))]) rfl ?_
  refine z_aload_n X d_xg_7 rfl 1 rfl ?_
  refine hget (T := TM) X hB.1 (idx := 459) (fld_11_ok _ (by decide : (459, 11, 68) ∈ fld_11)) d_xg_8 rfl (fget_ref hB.1 rfl rfl) ?_
  refine z_iload_n X d_xg_11 rfl 2 rfl ?_
  refine z_aload_n X d_xg_12 rfl 1 rfl ?_
  refine hget (T := TM) X hB.1 (idx := 459) (fld_11_ok _ (by decide : (459, 11, 68) ∈ fld_11)) d_xg_13 rfl (fget_ref hB.1 rfl rfl) ?_
  refine z_iload_n X d_xg_16 rfl 3 rfl ?_
  refine z_iald X d_xg_17 43 (hB.2.2.2.1) (vj) rfl ?_
  refine z_iast X d_xg_18 43 (hB.2.2.2.1) (vi) rfl ?_
  have ej : j.toNatClampNeg = j.toInt.toNat := rfl
  have aj := hB.2.2.2.2.2.2.2.2 j.toNatClampNeg (by omega)
  have hB2 := hB.put i.toNatClampNeg aj.1 aj.2
  refine z_aload_n X d_xg_19 rfl 1 rfl ?_
  refine hget (T := TM) X hB2.1 (idx := 459) (fld_11_ok _ (by decide : (459, 11, 68) ∈ fld_11)) d_xg_20 rfl (fget_ref hB2.1 rfl rfl) ?_
  refine z_iload_n X d_xg_23 rfl 3 rfl ?_
  refine z_iload_n X d_xg_24 rfl 0 rfl ?_
  refine z_iast X d_xg_25 43 (hB2.2.2.2.1) (vj) rfl ?_
  refine z_vret X rfl d_xg_26 (Nat.le_refl 0) (Nat.le_refl 0) ⟨?_, rfl⟩
  rw [List.set_set]
  rfl
theorem cs_loop {hn : Int32} {wt hx hy a : Nat → Int32} {ws : va_W} (X : ZC p s m args meth c cX11_cogSize 6 RX11 G A (some .long) "cogSize") (hB : CKw G ad hn wt hx hy a ws) : ∀ (n : Nat) (i : Int32), 0 ≤ i.toInt → i.toInt ≤ hn.toInt → (hn.toInt - i.toInt).toNat < n → Z p l e rm_cs s m args below meth c 6 G A (MQ below (QQ G A (fun r w1 => w1 = ws ∧ r = some (.long (SZ wt hx hy a hn.toInt.toNat)))) args s 0 0 A) 7 [(0, .ref (ad 0)), (1, .long (CSf wt a hx i.toInt.toNat)), (3, .long (CSf wt a hy i.toInt.toNat)), (5, .int i)] [] ws 0 0
  | 0, _, _, _, h9 => absurd h9 (Nat.not_lt_zero _)
  | n + 1, i, i0, i1, h9 => by
    have b0 := hB.2.2.2.2.2.2.1
    have b1 := hB.2.2.2.2.2.2.2.1
    refine z_iload X d_cs_7 3 rfl ?_
    refine z_aload_n X d_cs_9 rfl 0 rfl ?_
    refine hget (T := TM) X hB.1 (idx := 101) (fld_11_ok _ (by decide : (101, 11, 16) ∈ fld_11)) d_cs_10 rfl (hB.2.1) ?_
    refine zc_ge X d_cs_13 (tgt := 70) (by decide) (a := i.toInt) (b := hn.toInt) rfl rfl (fun hge => ?_) (fun hlt => ?_)
    · have ei : i.toInt = hn.toInt := by omega
      rw [ei]
      refine z_lload_n X d_cs_70 rfl 1 rfl ?_
      refine z_lload_n X d_cs_71 rfl 2 rfl ?_
      refine wide_callS (rest := []) X k_11_184 (ac_sizeH l G _ _ _) d_cs_72 ⟨by decide, by decide⟩ ⟨Nat.le_refl 0, Nat.le_refl 0⟩ rfl rfl (by decide) (fun r w1 hp => ?_)
      obtain ⟨rfl, rfl⟩ := hp
      exact z_lret X rfl d_cs_75 (Nat.le_refl 0) (Nat.le_refl 0) ⟨rfl, rfl⟩
    have v8 : vp_in i 8 := vp_of i0 (by omega)
    have v16 : vp_in i 16 := vp_of i0 (by omega)
    have ve : vp_in (a i.toNatClampNeg) 8 := hB.el i0 (by omega)
    refine z_lload_n X d_cs_16 rfl 1 rfl ?_
    refine z_aload_n X d_cs_17 rfl 0 rfl ?_
    refine hget (T := TM) X hB.1 (idx := 104) (fld_11_ok _ (by decide : (104, 11, 17) ∈ fld_11)) d_cs_18 rfl (fget_ref hB.1 rfl rfl) ?_
    refine z_aload_n X d_cs_21 rfl 0 rfl ?_
    refine hget (T := TM) X hB.1 (idx := 459) (fld_11_ok _ (by decide : (459, 11, 68) ∈ fld_11)) d_cs_22 rfl (fget_ref hB.1 rfl rfl) ?_
    refine z_iload X d_cs_25 3 rfl ?_
    refine z_iald X d_cs_27 43 (hB.2.2.2.1) (v8) rfl ?_
    refine z_iald X d_cs_28 13 (hB.2.2.1) (ve) rfl ?_
    refine z_aload_n X d_cs_29 rfl 0 rfl ?_
    refine hget (T := TM) X hB.1 (idx := 69) (fld_11_ok _ (by decide : (69, 11, 5) ∈ fld_11)) d_cs_30 rfl (fget_ref hB.1 rfl rfl) ?_
    refine z_iload X d_cs_33 3 rfl ?_
    refine z_iald X d_cs_35 3 (hB.2.2.2.2.1) (v16) rfl ?_
    refine z_imul X d_cs_36 ?_
    refine z_i2l X d_cs_37 rfl ?_
    refine z_ladd X d_cs_38 ?_
    refine z_lstore_n X d_cs_39 rfl (by decide) (lv' := [(1, .long (((CSf wt a hx i.toInt.toNat) + ((((wt (a (i).toNatClampNeg).toNatClampNeg) * (hx (i).toNatClampNeg))).toInt64)))), (0, .ref (ad 0)), (3, .long (CSf wt a hy i.toInt.toNat)), (5, .int (i))]) rfl ?_
    refine z_lload_n X d_cs_40 rfl 2 rfl ?_
    refine z_aload_n X d_cs_41 rfl 1 rfl ?_
    refine hget (T := TM) X hB.1 (idx := 104) (fld_11_ok _ (by decide : (104, 11, 17) ∈ fld_11)) d_cs_42 rfl (fget_ref hB.1 rfl rfl) ?_
    refine z_aload_n X d_cs_45 rfl 1 rfl ?_
    refine hget (T := TM) X hB.1 (idx := 459) (fld_11_ok _ (by decide : (459, 11, 68) ∈ fld_11)) d_cs_46 rfl (fget_ref hB.1 rfl rfl) ?_
    refine z_iload X d_cs_49 3 rfl ?_
    refine z_iald X d_cs_51 43 (hB.2.2.2.1) (v8) rfl ?_
    refine z_iald X d_cs_52 13 (hB.2.2.1) (ve) rfl ?_
    refine z_aload_n X d_cs_53 rfl 1 rfl ?_
    refine hget (T := TM) X hB.1 (idx := 76) (fld_11_ok _ (by decide : (76, 11, 6) ∈ fld_11)) d_cs_54 rfl (fget_ref hB.1 rfl rfl) ?_
    refine z_iload X d_cs_57 3 rfl ?_
    refine z_iald X d_cs_59 4 (hB.2.2.2.2.2.1) (v16) rfl ?_
    refine z_imul X d_cs_60 ?_
    refine z_i2l X d_cs_61 rfl ?_
    refine z_ladd X d_cs_62 ?_
    refine z_lstore_n X d_cs_63 rfl (by decide) (lv' := [(3, .long (((CSf wt a hy i.toInt.toNat) + ((((wt (a (i).toNatClampNeg).toNatClampNeg) * (hy (i).toNatClampNeg))).toInt64)))), (1, .long (((CSf wt a hx i.toInt.toNat) + ((((wt (a (i).toNatClampNeg).toNatClampNeg) * (hx (i).toNatClampNeg))).toInt64)))), (0, .ref (ad 0)), (5, .int (i))]) rfl ?_
    refine z_iinc X d_cs_64 (k := 3) rfl rfl (by decide) (lv' := [(5, .int (i + Int32.ofInt (1))), (3, .long (((CSf wt a hy i.toInt.toNat) + ((((wt (a (i).toNatClampNeg).toNatClampNeg) * (hy (i).toNatClampNeg))).toInt64)))), (1, .long (((CSf wt a hx i.toInt.toNat) + ((((wt (a (i).toNatClampNeg).toNatClampNeg) * (hx (i).toNatClampNeg))).toInt64)))), (0, .ref (ad 0))]) rfl ?_
    refine z_goto X d_cs_67 (tgt := 7) (by decide) ?_
    have e1 : (i + Int32.ofInt 1).toInt = i.toInt + 1 := tI_add rfl (show (Int32.ofInt 1).toInt = 1 by decide) (by omega)
    have eN : (i + Int32.ofInt 1).toInt.toNat = i.toInt.toNat + 1 := by omega
    have ei : i.toNatClampNeg = i.toInt.toNat := rfl
    have g1 : ∀ h : Nat → Int32, CSf wt a h i.toInt.toNat + (wt (a i.toNatClampNeg).toNatClampNeg * h i.toNatClampNeg).toInt64 = CSf wt a h (i + Int32.ofInt 1).toInt.toNat := fun h => by rw [eN, ei]; rfl
    have := cs_loop X hB n (i + Int32.ofInt 1) (by omega) (by omega) (by omega)
    rw [← g1 hx, ← g1 hy] at this
    exact Z.mono (fun q hq => by simp only [List.mem_cons, List.not_mem_nil, or_false] at hq ⊢; rcases hq with h | h | h | h <;> simp [h]) this
theorem ac_cogSizeH (l : Launch) (G : KG) {ad : Nat → Nat} {hn : Int32} {wt hx hy a : Nat → Int32} {ws : va_W} (hB : CKw G ad hn wt hx hy a ws) : Ct l G yX11_cogSize cX11_cogSize 6 (some .long) rm_cs [.ref (ad 0)] ws (fun r w1 => w1 = ws ∧ r = some (.long (SZ wt hx hy a hn.toInt.toNat))) := by
  refine ct_of [(0, .ref (ad 0))] (by decide) (Nat.le_of_ble_eq_true rfl) rfl ?_
  intro p e s m args below meth c A X
  have b0 := hB.2.2.2.2.2.2.1
  refine z_lconst X d_cs_0 (v := 0) (by decide) ?_
  refine z_lstore_n X d_cs_1 rfl (by decide) (lv' := [(1, .long ((0 : Int64))), (0, .ref (ad 0))]) rfl ?_
  refine z_lconst X d_cs_2 (v := 0) (by decide) ?_
  refine z_lstore_n X d_cs_3 rfl (by decide) (lv' := [(3, .long ((0 : Int64))), (1, .long ((0 : Int64))), (0, .ref (ad 0))]) rfl ?_
  refine z_iconst X d_cs_4 (v := 0) (by decide) ?_
  refine z_istore X d_cs_5 (by decide) (lv' := [(5, .int ((0 : Int32))), (3, .long ((0 : Int64))), (1, .long ((0 : Int64))), (0, .ref (ad 0))]) rfl ?_
  exact Z.mono (fun q hq => by simp only [List.mem_cons, List.not_mem_nil, or_false] at hq ⊢; rcases hq with h | h | h | h <;> simp [h, show ∀ g : Nat → Int32, CSf wt a g 0 = 0 from fun _ => rfl]) (cs_loop X hB _ 0 (by decide) b0 (Nat.lt_succ_self _))
abbrev RNpo (G : KG) (ad : Nat → Nat) (w0 : va_W) (μ : Nat → Value) : Option Value → va_W → Prop := fun r w1 => POST G ad TM C_round μ w0 r w1
def RNi (hn : Int32) (wt hx hy a : Nat → Int32) (le : Int64) (fi se : Int32) : Prop := (fi.toInt = -1 ∧ le = SZ wt hx hy a hn.toInt.toNat) ∨ (0 ≤ fi.toInt ∧ fi.toInt < 8 ∧ 0 ≤ se.toInt ∧ se.toInt < 8 ∧ le = SZ wt hx hy (swp a fi se) hn.toInt.toNat ∧ le.toInt < (SZ wt hx hy a hn.toInt.toNat).toInt)
theorem RNi.le {hn : Int32} {wt hx hy a : Nat → Int32} {le : Int64} {fi se : Int32} (h : RNi hn wt hx hy a le fi se) : le.toInt ≤ (SZ wt hx hy a hn.toInt.toNat).toInt := by
  rcases h with ⟨-, h⟩ | ⟨-, -, -, -, -, h⟩
  · rw [h]; exact Int.le_refl _
  · exact Int.le_of_lt h
theorem rn_inner {hn cn i : Int32} {wt hx hy a : Nat → Int32} {ws : va_W} (X : ZC p s m args meth c cX11_round 9 RX11 G A (some .int) "round") (hB : CKw G ad hn wt hx hy a ws) (i0 : 0 ≤ i.toInt) (i1 : i.toInt < hn.toInt)
    (hK : ∀ (le : Int64) (fi se : Int32), RNi hn wt hx hy a le fi se → Z p l e (rmOf C_round) s m args below meth c 9 G A (MQ below (QQ G A (RNpo G ad w0 μ)) args s 0 0 A) 108 [(0, .ref (ad 0)), (1, .int cn), (3, .long le), (5, .int fi), (6, .int se), (7, .int i)] [] ws 0 0) :
    ∀ (n : Nat) (j : Int32) (le : Int64) (fi se : Int32), RNi hn wt hx hy a le fi se → 0 ≤ j.toInt → j.toInt ≤ hn.toInt → (hn.toInt - j.toInt).toNat < n → Z p l e (rmOf C_round) s m args below meth c 9 G A (MQ below (QQ G A (RNpo G ad w0 μ)) args s 0 0 A) 55 [(0, .ref (ad 0)), (1, .int cn), (3, .long le), (5, .int fi), (6, .int se), (7, .int i), (8, .int j)] [] ws 0 0
  | 0, _, _, _, _, _, _, _, h9 => absurd h9 (Nat.not_lt_zero _)
  | n + 1, j, le, fi, se, hI, j0, j1, h9 => by
    have b1 := hB.2.2.2.2.2.2.2.1
    refine z_iload X d_rn_55 6 rfl ?_
    refine z_aload_n X d_rn_57 rfl 0 rfl ?_
    refine hget (T := TM) X hB.1 (idx := 101) (fld_11_ok _ (by decide : (101, 11, 16) ∈ fld_11)) d_rn_58 rfl (hB.2.1) ?_
    refine zc_ge X d_rn_61 (tgt := 108) (by decide) (a := j.toInt) (b := hn.toInt) rfl rfl (fun hge => Z.mono (fun q hq => by simp only [List.mem_cons, List.not_mem_nil, or_false] at hq ⊢; rcases hq with h | h | h | h | h | h <;> simp [h]) (hK le fi se hI)) (fun hlt => ?_)
    refine z_aload_n X d_rn_64 rfl 0 rfl ?_
    refine z_iload X d_rn_65 5 rfl ?_
    refine z_iload X d_rn_67 6 rfl ?_
    refine hcallV (T := TM) (k := 0) (rest := []) (avs := [.int i, .int j]) X k_11_483 (ac_exch l G hB i0 (by omega) j0 (by omega)) d_rn_69 hB.1 rfl rfl rfl rfl ⟨by decide, by decide⟩ ⟨Nat.le_refl 0, Nat.le_refl 0⟩ (by decide) rfl (fun r w1 hp => ?_)
    obtain ⟨hw1, rfl⟩ := hp
    have hB1 : CKw G ad hn wt hx hy (swp a i j) w1 := by rw [hw1]; exact hB.swp i0 (by omega) j0 (by omega)
    refine z_aload_n X d_rn_72 rfl 0 rfl ?_
    refine hcallV (T := TM) (k := 0) (rest := []) (avs := []) X k_11_468 (ac_cogSizeH l G hB1) d_rn_73 hB1.1 rfl rfl rfl rfl ⟨by decide, by decide⟩ ⟨Nat.le_refl 0, Nat.le_refl 0⟩ (by decide) rfl (fun r w2 hp => ?_)
    obtain ⟨hw2, rfl⟩ := hp
    subst hw2
    refine z_lload_n X d_rn_76 rfl 2 rfl ?_
    have back : ∀ (le2 : Int64) (fi2 se2 : Int32), RNi hn wt hx hy a le2 fi2 se2 → Z p l e (rmOf C_round) s m args below meth c 9 G A (MQ below (QQ G A (RNpo G ad w0 μ)) args s 0 0 A) 94 [(0, .ref (ad 0)), (1, .int cn), (3, .long le2), (5, .int fi2), (6, .int se2), (7, .int i), (8, .int j)] [] w2 0 0 := by
      intro le2 fi2 se2 hI2
      refine z_aload_n X d_rn_94 rfl 0 rfl ?_
      refine z_iload X d_rn_95 5 rfl ?_
      refine z_iload X d_rn_97 6 rfl ?_
      refine hcallV (T := TM) (k := 0) (rest := []) (avs := [.int i, .int j]) X k_11_483 (ac_exch l G hB1 i0 (by omega) j0 (by omega)) d_rn_99 hB1.1 rfl rfl rfl rfl ⟨by decide, by decide⟩ ⟨Nat.le_refl 0, Nat.le_refl 0⟩ (by decide) rfl (fun r w3 hp => ?_)
      obtain ⟨hw3, rfl⟩ := hp
      have e3 : w3 = ws := by rw [hw3, hw1, List.set_set, swp_swp]; exact set_self hB.2.2.2.1
      subst e3
      refine z_iinc X d_rn_102 (k := 6) rfl rfl (by decide) (lv' := [(8, .int (j + Int32.ofInt (1))), (0, .ref (ad 0)), (1, .int (cn)), (3, .long (le2)), (5, .int (fi2)), (6, .int (se2)), (7, .int (i))]) rfl ?_
      refine z_goto X d_rn_105 (tgt := 55) (by decide) ?_
      have e1 : (j + Int32.ofInt 1).toInt = j.toInt + 1 := tI_add rfl (show (Int32.ofInt 1).toInt = 1 by decide) (by omega)
      exact Z.mono (fun q hq => by simp only [List.mem_cons, List.not_mem_nil, or_false] at hq ⊢; rcases hq with h | h | h | h | h | h | h <;> simp [h]) (rn_inner X hB i0 i1 hK n (j + Int32.ofInt 1) le2 fi2 se2 hI2 (by omega) (by omega) (by omega))
    refine zl_ge X d_rn_77 d_rn_78 (tgt := 94) (by decide) (a := (SZ wt hx hy (swp a i j) hn.toInt.toNat).toInt) (b := le.toInt) rfl rfl (fun _ => back le fi se hI) (fun hlt2 => ?_)
    refine z_aload_n X d_rn_81 rfl 0 rfl ?_
    refine hcallV (T := TM) (k := 0) (rest := []) (avs := []) X k_11_468 (ac_cogSizeH l G hB1) d_rn_82 hB1.1 rfl rfl rfl rfl ⟨by decide, by decide⟩ ⟨Nat.le_refl 0, Nat.le_refl 0⟩ (by decide) rfl (fun r w2 hp => ?_)
    obtain ⟨hw2, rfl⟩ := hp
    subst hw2
    refine z_lstore_n X d_rn_85 rfl (by decide) (lv' := [(3, .long (SZ wt hx hy (swp a i j) hn.toInt.toNat)), (0, .ref (ad 0)), (1, .int (cn)), (5, .int (fi)), (6, .int (se)), (7, .int (i)), (8, .int (j))]) rfl ?_
    refine z_iload X d_rn_86 5 rfl ?_
    refine z_istore X d_rn_88 (by decide) (lv' := [(5, .int (i)), (3, .long (SZ wt hx hy (swp a i j) hn.toInt.toNat)), (0, .ref (ad 0)), (1, .int (cn)), (6, .int (se)), (7, .int (i)), (8, .int (j))]) rfl ?_
    refine z_iload X d_rn_90 6 rfl ?_
    refine z_istore X d_rn_92 (by decide) (lv' := [(6, .int (j)), (5, .int (i)), (3, .long (SZ wt hx hy (swp a i j) hn.toInt.toNat)), (0, .ref (ad 0)), (1, .int (cn)), (7, .int (i)), (8, .int (j))]) rfl ?_
    have hle := hI.le
    exact Z.mono (fun q hq => by simp only [List.mem_cons, List.not_mem_nil, or_false] at hq ⊢; rcases hq with h | h | h | h | h | h | h <;> simp [h]) (back (SZ wt hx hy (swp a i j) hn.toInt.toNat) i j (Or.inr ⟨i0, by omega, j0, by omega, rfl, by omega⟩))
theorem rn_trial {hn cn : Int32} {wt hx hy a : Nat → Int32} {ws : va_W} (X : ZC p s m args meth c cX11_round 9 RX11 G A (some .int) "round") (hB : CKw G ad hn wt hx hy a ws)
    (hK : ∀ (le : Int64) (fi se : Int32), RNi hn wt hx hy a le fi se → Z p l e (rmOf C_round) s m args below meth c 9 G A (MQ below (QQ G A (RNpo G ad w0 μ)) args s 0 0 A) 114 [(0, .ref (ad 0)), (1, .int cn), (3, .long le), (5, .int fi), (6, .int se)] [] ws 0 0) :
    ∀ (n : Nat) (i : Int32) (le : Int64) (fi se : Int32), RNi hn wt hx hy a le fi se → 0 ≤ i.toInt → i.toInt ≤ hn.toInt → (hn.toInt - i.toInt).toNat < n → Z p l e (rmOf C_round) s m args below meth c 9 G A (MQ below (QQ G A (RNpo G ad w0 μ)) args s 0 0 A) 40 [(0, .ref (ad 0)), (1, .int cn), (3, .long le), (5, .int fi), (6, .int se), (7, .int i)] [] ws 0 0
  | 0, _, _, _, _, _, _, _, h9 => absurd h9 (Nat.not_lt_zero _)
  | n + 1, i, le, fi, se, hI, i0, i1, h9 => by
    have b1 := hB.2.2.2.2.2.2.2.1
    refine z_iload X d_rn_40 5 rfl ?_
    refine z_aload_n X d_rn_42 rfl 0 rfl ?_
    refine hget (T := TM) X hB.1 (idx := 101) (fld_11_ok _ (by decide : (101, 11, 16) ∈ fld_11)) d_rn_43 rfl (hB.2.1) ?_
    refine zc_ge X d_rn_46 (tgt := 114) (by decide) (a := i.toInt) (b := hn.toInt) rfl rfl (fun hge => Z.mono (fun q hq => by simp only [List.mem_cons, List.not_mem_nil, or_false] at hq ⊢; rcases hq with h | h | h | h | h <;> simp [h]) (hK le fi se hI)) (fun hlt => ?_)
    refine z_iload X d_rn_49 5 rfl ?_
    refine z_iconst X d_rn_51 (v := 1) (by decide) ?_
    refine z_iadd X d_rn_52 ?_
    refine z_istore X d_rn_53 (by decide) (lv' := [(8, .int (((i) + ((1 : Int32))))), (0, .ref (ad 0)), (1, .int (cn)), (3, .long (le)), (5, .int (fi)), (6, .int (se)), (7, .int (i))]) rfl ?_
    have ej : (i + 1).toInt = i.toInt + 1 := tI_add rfl rfl (by omega)
    refine Z.mono (fun q hq => by simp only [List.mem_cons, List.not_mem_nil, or_false] at hq ⊢; rcases hq with h | h | h | h | h | h | h <;> simp [h]) (rn_inner (cn := cn) X hB i0 hlt (fun le2 fi2 se2 hI2 => ?_) _ (i + 1) le fi se hI (by omega) (by omega) (Nat.lt_succ_self _))
    refine z_iinc X d_rn_108 (k := 5) rfl rfl (by decide) (lv' := [(7, .int (i + Int32.ofInt (1))), (0, .ref (ad 0)), (1, .int (cn)), (3, .long (le2)), (5, .int (fi2)), (6, .int (se2))]) rfl ?_
    refine z_goto X d_rn_111 (tgt := 40) (by decide) ?_
    have e1 : (i + Int32.ofInt 1).toInt = i.toInt + 1 := tI_add rfl (show (Int32.ofInt 1).toInt = 1 by decide) (by omega)
    exact Z.mono (fun q hq => by simp only [List.mem_cons, List.not_mem_nil, or_false] at hq ⊢; rcases hq with h | h | h | h | h | h <;> simp [h]) (rn_trial X hB hK n (i + Int32.ofInt 1) le2 fi2 se2 hI2 (by omega) (by omega) (by omega))
theorem rn_rounds {hn : Int32} {wt hx hy : Nat → Int32} (X : ZC p s m args meth c cX11_round 9 RX11 G A (some .int) "round")
    (hK : ∀ (cn : Int32) (ws : va_W), WT G ad TM ws → FRM C_round.2.2.2.2.1 w0 ws → Z p l e (rmOf C_round) s m args below meth c 9 G A (MQ below (QQ G A (RNpo G ad w0 μ)) args s 0 0 A) 143 [(0, .ref (ad 0)), (1, .int cn)] [] ws 0 0) :
    ∀ (n : Nat) (cn : Int32) (a : Nat → Int32) (ws : va_W), CKw G ad hn wt hx hy a ws → FRM C_round.2.2.2.2.1 w0 ws → ((SZ wt hx hy a hn.toInt.toNat).toInt + 9223372036854775808).toNat < n → Z p l e (rmOf C_round) s m args below meth c 9 G A (MQ below (QQ G A (RNpo G ad w0 μ)) args s 0 0 A) 26 [(0, .ref (ad 0)), (1, .int cn)] [] ws 0 0
  | 0, _, _, _, _, _, h9 => absurd h9 (Nat.not_lt_zero _)
  | n + 1, cn, a, ws, hB, hF, h9 => by
    have b0 := hB.2.2.2.2.2.2.1
    refine z_aload_n X d_rn_26 rfl 0 rfl ?_
    refine hcallV (T := TM) (k := 0) (rest := []) (avs := []) X k_11_468 (ac_cogSizeH l G hB) d_rn_27 hB.1 rfl rfl rfl rfl ⟨by decide, by decide⟩ ⟨Nat.le_refl 0, Nat.le_refl 0⟩ (by decide) rfl (fun r w2 hp => ?_)
    obtain ⟨hw2, rfl⟩ := hp
    subst hw2
    refine z_lstore_n X d_rn_30 rfl (by decide) (lv' := [(3, .long (SZ wt hx hy a hn.toInt.toNat)), (0, .ref (ad 0)), (1, .int (cn))]) rfl ?_
    refine z_iconst X d_rn_31 (v := (-1)) (by decide) ?_
    refine z_istore X d_rn_32 (by decide) (lv' := [(5, .int ((-1 : Int32))), (3, .long (SZ wt hx hy a hn.toInt.toNat)), (0, .ref (ad 0)), (1, .int (cn))]) rfl ?_
    refine z_iconst X d_rn_34 (v := (-1)) (by decide) ?_
    refine z_istore X d_rn_35 (by decide) (lv' := [(6, .int ((-1 : Int32))), (5, .int ((-1 : Int32))), (3, .long (SZ wt hx hy a hn.toInt.toNat)), (0, .ref (ad 0)), (1, .int (cn))]) rfl ?_
    refine z_iconst X d_rn_37 (v := 0) (by decide) ?_
    refine z_istore X d_rn_38 (by decide) (lv' := [(7, .int ((0 : Int32))), (6, .int ((-1 : Int32))), (5, .int ((-1 : Int32))), (3, .long (SZ wt hx hy a hn.toInt.toNat)), (0, .ref (ad 0)), (1, .int (cn))]) rfl ?_
    refine Z.mono (fun q hq => by simp only [List.mem_cons, List.not_mem_nil, or_false] at hq ⊢; rcases hq with h | h | h | h | h | h <;> simp [h]) (rn_trial (cn := cn) X hB (fun le fi se hI => ?_) _ 0 (SZ wt hx hy a hn.toInt.toNat) (-1) (-1) (Or.inl ⟨rfl, rfl⟩) (by decide) b0 (Nat.lt_succ_self _))
    refine z_iload X d_rn_114 3 rfl ?_
    refine zi_lt X d_rn_116 (tgt := 123) (by decide) (a := fi.toInt) rfl (fun hneg => ?_) (fun hpos => ?_)
    · skip
      refine z_iconst X d_rn_123 (v := 0) (by decide) ?_
      refine z_istore_n X d_rn_124 rfl (by decide) (lv' := [(2, .int ((0 : Int32))), (0, .ref (ad 0)), (1, .int (cn)), (3, .long (le)), (5, .int (fi)), (6, .int (se))]) rfl ?_
      refine z_iload_n X d_rn_125 rfl 0 rfl ?_
      refine zi_eq X d_rn_126 (tgt := 140) (by decide) (a := 0) rfl (fun _ => ?_) (fun h => absurd rfl h)
      refine z_goto X d_rn_140 (tgt := 22) (by decide) ?_
      refine z_iload_n X d_rn_22 rfl 0 rfl ?_
      refine zi_eq X d_rn_23 (tgt := 143) (by decide) (a := 0) rfl (fun _ => ?_) (fun h => absurd rfl h)
      exact Z.mono (fun q hq => by simp only [List.mem_cons, List.not_mem_nil, or_false] at hq ⊢; rcases hq with h | h <;> simp [h]) (hK cn w2 hB.1 hF)
    refine z_iconst X d_rn_119 (v := 1) (by decide) ?_
    refine z_goto X d_rn_120 (tgt := 124) (by decide) ?_
    refine z_istore_n X d_rn_124 rfl (by decide) (lv' := [(2, .int ((1 : Int32))), (0, .ref (ad 0)), (1, .int (cn)), (3, .long (le)), (5, .int (fi)), (6, .int (se))]) rfl ?_
    refine z_iload_n X d_rn_125 rfl 0 rfl ?_
    refine zi_eq X d_rn_126 (tgt := 140) (by decide) (a := 1) rfl (fun h => absurd h (by decide)) (fun _ => ?_)
    rcases hI with ⟨h, -⟩ | ⟨f0, f1, g0, g1, hle, hlt⟩
    · omega
    refine z_aload_n X d_rn_129 rfl 1 rfl ?_
    refine z_iload X d_rn_130 4 rfl ?_
    refine z_iload X d_rn_132 5 rfl ?_
    refine hcallV (T := TM) (k := 0) (rest := []) (avs := [.int fi, .int se]) X k_11_483 (ac_exch l G hB f0 f1 g0 g1) d_rn_134 hB.1 rfl rfl rfl rfl ⟨by decide, by decide⟩ ⟨Nat.le_refl 0, Nat.le_refl 0⟩ (by decide) rfl (fun r w3 hp => ?_)
    obtain ⟨hw3, rfl⟩ := hp
    have hB3 : CKw G ad hn wt hx hy (swp a fi se) w3 := by rw [hw3]; exact hB.swp f0 f1 g0 g1
    have hF3 : FRM C_round.2.2.2.2.1 w0 w3 := by rw [hw3]; exact hF.wr (x := (cyI G, 8, .inl a)) (b := 0) (by decide)
    refine z_iinc X d_rn_137 (k := 2) rfl rfl (by decide) (lv' := [(1, .int (cn + Int32.ofInt (1))), (2, .int ((1 : Int32))), (0, .ref (ad 0)), (3, .long (le)), (5, .int (fi)), (6, .int (se))]) rfl ?_
    refine z_goto X d_rn_140 (tgt := 22) (by decide) ?_
    refine z_iload_n X d_rn_22 rfl 1 rfl ?_
    refine zi_eq X d_rn_23 (tgt := 143) (by decide) (a := 1) rfl (fun h => absurd h (by decide)) (fun _ => ?_)
    have l1 := i64_lo (SZ wt hx hy (swp a fi se) hn.toInt.toNat)
    unfold lMin at l1
    rw [hle] at hlt
    exact Z.mono (fun q hq => by simp only [List.mem_cons, List.not_mem_nil, or_false] at hq ⊢; rcases hq with h | h <;> simp [h]) (rn_rounds X hK n (cn + Int32.ofInt 1) (swp a fi se) w3 hB3 hF3 (by omega))
end RNS
theorem ac_round (l : Launch) (G : KG) : ACt l G TM yX11_round cX11_round 9 (some .int) C_round := by
  refine hand_of (by decide) (by decide) (by decide) (by decide) (by decide) ?_
  intro p e s m args below meth c A X ad w0 μ lw hW hPre hg
  refine aseg (C := sC_rnA) (PO := RNpo G ad w0 μ) (fld := fld_11) (put := put_11) (cst := cst_11) (cstl := cstl_11) (hk := hk0) (tab := D_X11_round) (rk := 1) (pids := [0]) D_X11_round_ok X rfl rfl hok0 (Or.inr (Or.inl ⟨rfl, rfl⟩)) (Nat.le_refl 0) (Nat.le_refl 0) (spin1 (C := C_round)) (spin2 (C := C_round)) (fun r w1 h => h) fld_11_ok put_11_ok cst_11_ok cstl_11_ok (sl_rnA_ok l G) (Nat.le_refl 0) (Nat.le_refl 0) spin3 sg_rnA (fun d hd ν2 lw2 sw2 ws2 hg2 => ?_) μ lw [] w0 hg
  rw [List.mem_singleton.mp hd] at hg2 ⊢
  have hs : sw2 = [] := hg2.2.1
  subst hs
  have h3 := hg2.2.2
  have e0 : ν2 0 = .ref (ad 0) := h3.ref (i := 0) rfl
  have hW2 := h3.2.2.2.2.2.1
  have hF2 := h3.2.2.2.2.2.2
  obtain ⟨hn, f1, n0, n1⟩ := fget_int (T := TM) (k := 0) (j := 16) hW2 rfl rfl
  obtain ⟨wt, a1, -⟩ := WT.ints (T := TM) (k := 13) (n := 8) hW2 rfl
  obtain ⟨a, a2, a3⟩ := WT.ints (T := TM) (k := 43) (n := 8) hW2 rfl
  obtain ⟨hx, a4, -⟩ := WT.ints (T := TM) (k := 3) (n := 16) hW2 rfl
  obtain ⟨hy, a5, -⟩ := WT.ints (T := TM) (k := 4) (n := 16) hW2 rfl
  have el : lw2 = [(0, ν2 0), (1, ν2 500), (2, ν2 501)] := hg2.1
  obtain ⟨z4, e4, q1, q2⟩ := h3.rng (i := 500) (a := 0) (b := 0) (by decide)
  obtain ⟨z5, e5, q3, q4⟩ := h3.rng (i := 501) (a := 1) (b := 1) (by decide)
  have f5 : z5 = 1 := Int32.toInt_inj.mp (by show z5.toInt = 1; omega)
  rw [el, e0, e4, e5, f5]
  have hB : CKw G ad hn wt hx hy a ws2 := ⟨hW2, f1, a1, a2, a4, a5, n0, n1, fun k hk => ⟨(a3 k hk).1, (a3 k hk).2.1⟩⟩
  have d22 : decode cX11_round 22 = .ok (.iload_n 2, 1) := d_rn_22
  refine z_iload_n X d22 rfl 2 rfl ?_
  refine zi_eq X d_rn_23 (tgt := 143) (by decide) (a := 1) rfl (fun h => absurd h (by decide)) (fun _ => ?_)
  refine Z.mono (fun q hq => by simp only [List.mem_cons, List.not_mem_nil, or_false] at hq ⊢; rcases hq with h | h <;> simp [h]) (rn_rounds (μ := μ) X (fun cn ws hW3 hF3 => ?_) _ z4 a ws2 hB hF2 (Nat.lt_succ_self _))
  obtain ⟨ν, hν⟩ : ∃ ν : Nat → Value, ν = fun i => if i = 700 then .int cn else μ i := ⟨_, rfl⟩
  have m7 : ν 700 = .int cn := by rw [hν]; rfl
  have mμ : ∀ i, i ≠ 700 → ν i = μ i := fun i hi => by rw [hν]; exact if_neg hi
  have m0 : ν 0 = .ref (ad 0) := by rw [mμ 0 (by decide)]; exact hg.2.2.ref (i := 0) rfl
  obtain ⟨pinB, hpB⟩ : ∃ pinB, pinB = (700, Value.int cn) :: spin C_round μ := ⟨_, rfl⟩
  have hgB : AG G ad TM sC_rnB.2.2.2.2.1 ws pinB ss_rnB ν [(0, .ref (ad 0)), (1, .int cn)] [] ws := by
    refine ⟨by show _ = [(0, ν 0), (1, ν 700)]; rw [m0, m7], rfl, fun q hq => ?_, fun q hq => ?_, fun q hq => (by cases hq), fun q hq => (by cases hq), fun q hq => ?_, hW3, rfl, fun _ _ _ => rfl⟩
    · have hq : q ∈ [((0, 0, false) : Nat × Nat × Bool), (1, 700, false)] := hq
      rcases List.mem_cons.mp hq with rfl | hq
      · show (ν 0).category = 1; rw [m0]; rfl
      · rw [List.mem_singleton.mp hq]; show (ν 700).category = 1; rw [m7]; rfl
    · have hq : q ∈ [((0, (2, 0, 0)) : Nat × VT), (700, (0, -2147483648, 2147483647))] := hq
      rcases List.mem_cons.mp hq with rfl | hq
      · show vty ad (2, 0, 0) (ν 0); rw [m0]; exact Or.inr (Or.inr (Or.inl ⟨rfl, rfl⟩))
      · rw [List.mem_singleton.mp hq]; show vty ad _ (ν 700); rw [m7]; exact vty_i0 cn
    · rw [hpB] at hq
      rcases List.mem_cons.mp hq with rfl | hq
      · exact ⟨by show 700 < 1000; decide, m7⟩
      · have h1 := spin3 q hq
        have h1 : q.1 ∈ [0] := h1
        have h2 := (hg.2.2.2.2.2.2.1 q hq).2
        have h1 := List.mem_singleton.mp h1
        refine ⟨by rw [h1]; decide, ?_⟩
        rw [mμ q.1 (by rw [h1]; decide)]
        exact h2
  refine aseg (C := sC_rnB) (PO := RNpo G ad w0 μ) (fld := fld_11) (put := put_11) (cst := cst_11) (cstl := cstl_11) (hk := hk0) (tab := D_X11_round) (rk := 1) (pids := [0, 700]) D_X11_round_ok X rfl rfl hok0 (Or.inr (Or.inl ⟨rfl, rfl⟩)) (Nat.le_refl 0) (Nat.le_refl 0) (fun j hj => by rw [hpB]; exact List.mem_cons_of_mem _ (spin1 (C := C_round) j hj)) (fun j hj => by rw [hpB]; exact List.mem_cons_of_mem _ (spin2 (C := C_round) j hj)) (fun r w1 h => POST.mono (C := sC_rnB) (C' := C_round) h rfl hF3 (by decide)) fld_11_ok put_11_ok cst_11_ok cstl_11_ok (sl_rnB_ok l G) (Nat.le_refl 0) (Nat.le_refl 0) (fun q hq => by
      rw [hpB] at hq
      rcases List.mem_cons.mp hq with rfl | hq
      · exact (by decide : (700 : Nat) ∈ [0, 700])
      · have h1 := List.mem_singleton.mp (show q.1 ∈ [0] from spin3 q hq)
        rw [h1]; decide) sg_rnB (fun d hd ν2 lw2 sw2 ws2 hg2 => absurd hd List.not_mem_nil) ν _ [] ws hgB
end
