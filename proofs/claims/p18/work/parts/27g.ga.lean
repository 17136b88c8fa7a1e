/-! the pulls that agree, gathered -/
section GAS
variable {p : Program} {l : Launch} {e : Env} {s : State} {m : MethodId} {args : Array Value} {below : List Frame} {meth : Method} {c : Code} {G : KG} {A : Nat → Prop} {ad : Nat → Nat} {w0 : va_W}
/-- an int field set: typed as before, where no array leans on it -/
theorem wt_setIP {ws : va_W} (hW : WT G ad TXP ws) {k ci j : Nat} {a b : Int} {ts : List VT} {v : Int32} {fs : List Value} (hT : TXP[k]? = some (.inl (ci, ts))) (ht : ts[j]? = some (0, a, b)) (hf : ws[k]? = some (ad k, ob ci fs)) (h1 : a ≤ v.toInt) (h2 : v.toInt ≤ b) : WT G ad TXP (ws.set k (ad k, ob ci (fs.set j (.int v)))) := by
  refine hW.setO hT ht hf (vty_i h1 h2) (fun k' n t' g1 g2 _ _ => ?_)
  have h9 : TXP.all (fun te => match te with | .inr o => !(Nat.beq o.1 0) || Nat.ble o.2.2.1 1 | .inl _ => true) = true := by decide
  have h8 := List.all_eq_true.mp h9 _ (List.mem_of_getElem? g1)
  have h8 : Nat.ble t'.1 1 = true := h8
  have := Nat.le_of_ble_eq_true h8
  omega
theorem GC.setO {ws : va_W} (h : GC G ws) {k ci a : Nat} {fs : List Value} (hk : k ≠ 111) : GC G (ws.set k (a, ob ci fs)) := by
  obtain ⟨b, f, h1, h2⟩ := h
  exact ⟨b, f, by rw [set_other hk]; exact h1, h2⟩
abbrev mk_ga : List (Nat × Nat) := [(109, 0), (111, 999)]
abbrev rm_ga : Room := { frames := 3, cells := 0, slots := 0, locals := 73 }
def GApo (G : KG) (ad : Nat → Nat) (w0 : va_W) : Option Value → va_W → Prop := fun r w1 => r = none ∧ WT G ad TXP w1 ∧ FRM mk_ga w0 w1 ∧ GC G w1
def GAw (G : KG) (ad : Nat → Nat) (w0 : va_W) (n : Int32) (ws : va_W) : Prop := WT G ad TXP ws ∧ FRM mk_ga w0 ws ∧ GC G ws ∧ fget ws 109 0 = some (.int n)
theorem GAw.cnt {n v : Int32} {ws : va_W} (h : GAw G ad w0 n ws) (v0 : 0 ≤ v.toInt) (v1 : v.toInt ≤ 14641) : ∃ fs, ws[109]? = some (ad 109, ob 3 fs) ∧ 0 < fs.length ∧ GAw G ad w0 v (ws.set 109 (ad 109, ob 3 (fs.set 0 (.int v)))) := by
  obtain ⟨h1, h2, h3, h4⟩ := h
  obtain ⟨fs, o1, o2⟩ := fget_ob (T := TXP) h1 (k := 109) (j := 0) rfl h4
  refine ⟨fs, o1, lt_of_getE o2, wt_setIP h1 rfl rfl o1 v0 v1, frm_setO h2 o1 (by decide), h3.setO (by decide), ?_⟩
  rw [fget_of (set_same o1)]
  exact List.getElem?_set_self (lt_of_getE o2)
theorem GAw.put {n : Int32} {ws : va_W} (h : GAw G ad w0 n ws) {v : Int32} (hv : gcode v) (k : Nat) : ∃ f, ws[111]? = some (ad 111, aI G 14641 f) ∧ GAw G ad w0 n (ws.set 111 (ad 111, aI G 14641 (upd f k v))) := by
  obtain ⟨h1, h2, ⟨b, f, h3, h5⟩, h4⟩ := h
  have e := WT.adr (T := TXP) (k := 111) h1 rfl h3
  rw [e] at h3
  refine ⟨f, h3, WT.wr h1 rfl h3 hv.1 hv.2.1, h2.wr (x := (cyI G, 14641, .inl f)) (b := 0) (by decide), ⟨ad 111, _, set_same h3, fun q hq => ?_⟩, by rw [fget_arr_eq h3]; exact h4⟩
  unfold upd
  split
  · exact hv
  · exact h5 q hq
theorem ga_in {i : Int32} (X : ZC p s m args meth c cX3_gather 4 RX3 G A none "gather") (i0 : 0 ≤ i.toInt) (i1 : i.toInt ≤ 120)
    (hK : ∀ (n : Int32) (ws : va_W), GAw G ad w0 n ws → 0 ≤ n.toInt → n.toInt ≤ 121 * i.toInt + 121 → Z p l e rm_ga s m args below meth c 4 G A (MQ below (QQ G A (GApo G ad w0)) args s 0 0 A) 69 [(0, .ref (ad 109)), (1, .ref (ad 22)), (2, .int i)] [] ws 0 0) :
    ∀ (N : Nat) (j n : Int32) (ws : va_W), GAw G ad w0 n ws → 0 ≤ n.toInt → n.toInt ≤ 121 * i.toInt + j.toInt → 0 ≤ j.toInt → j.toInt ≤ 121 → (121 - j.toInt).toNat < N → Z p l e rm_ga s m args below meth c 4 G A (MQ below (QQ G A (GApo G ad w0)) args s 0 0 A) 15 [(0, .ref (ad 109)), (1, .ref (ad 22)), (2, .int i), (3, .int j)] [] ws 0 0
  | 0, _, _, _, _, _, _, _, _, h9 => absurd h9 (Nat.not_lt_zero _)
  | N + 1, j, n, ws, hB, n0, n1, j0, j1, h9 => by
    refine z_iload_n X d_ga_15 rfl 3 rfl ?_
    refine z_bipush X d_ga_16 (v := 121) (by decide) ?_
    refine zc_ge X d_ga_18 (tgt := 69) (by decide) (a := j.toInt) (b := 121) rfl rfl (fun hge => Z.mono (fun q hq => by simp only [List.mem_cons, List.not_mem_nil, or_false] at hq ⊢; rcases hq with h | h | h <;> simp [h]) (hK n ws hB n0 (by omega))) (fun hlt => ?_)
    refine z_aload_n X d_ga_21 rfl 1 rfl ?_
    refine z_iload_n X d_ga_22 rfl 2 rfl ?_
    refine z_bipush X d_ga_23 (v := 60) (by decide) ?_
    refine z_isub X d_ga_25 ?_
    refine z_iload_n X d_ga_26 rfl 3 rfl ?_
    refine z_bipush X d_ga_27 (v := 60) (by decide) ?_
    refine z_isub X d_ga_29 ?_
    have on : ∀ (n2 : Int32) (w2 : va_W), GAw G ad w0 n2 w2 → 0 ≤ n2.toInt → n2.toInt ≤ 121 * i.toInt + (j.toInt + 1) → Z p l e rm_ga s m args below meth c 4 G A (MQ below (QQ G A (GApo G ad w0)) args s 0 0 A) 63 [(0, .ref (ad 109)), (1, .ref (ad 22)), (2, .int i), (3, .int j)] [] w2 0 0 := by
      intro n2 w2 hB2 q0 q1
      refine z_iinc X d_ga_63 (k := 3) rfl rfl (by decide) (lv' := [(3, .int (j + Int32.ofInt (1))), (0, .ref (ad 109)), (1, .ref (ad 22)), (2, .int (i))]) rfl ?_
      refine z_goto X d_ga_66 (tgt := 15) (by decide) ?_
      have e1 : (j + Int32.ofInt 1).toInt = j.toInt + 1 := tI_add rfl (show (Int32.ofInt 1).toInt = 1 by decide) (by omega)
      exact Z.mono (fun q hq => by simp only [List.mem_cons, List.not_mem_nil, or_false] at hq ⊢; rcases hq with h | h | h | h <;> simp [h]) (ga_in X i0 i1 hK N (j + Int32.ofInt 1) n2 w2 hB2 q0 (by omega) (by omega) (by omega) (by omega))
    obtain ⟨μ, hμ⟩ : ∃ μ : Nat → Value, μ = fun k => if k = 0 then .ref (ad 22) else if k = 1 then .int (((i) - ((60 : Int32)))) else .int (((j) - ((60 : Int32)))) := ⟨_, rfl⟩
    have m0 : μ 0 = .ref (ad 22) := by rw [hμ]; rfl
    have m1 : μ 1 = .int (((i) - ((60 : Int32)))) := by rw [hμ]; rfl
    have m2 : μ 2 = .int (((j) - ((60 : Int32)))) := by rw [hμ]; rfl
    have hpre : PRE ad C_p_X9_firstAgainst_0 μ ws := by
      refine ⟨fun k t hk => ?_, fun k q hk => ?_, fun q hq => ?_⟩
      · match k, hk with
        | 0, hk => cases hk; rw [m0]; exact Or.inr (Or.inr (Or.inl ⟨rfl, rfl⟩))
        | 1, hk => cases hk; rw [m1]; exact vty_i0 _
        | 2, hk => cases hk; rw [m2]; exact vty_i0 _
        | N + 3, hk => cases hk
      · cases hk
      · cases hq
    have hct := ac_p_X9_firstAgainst_0 l G ad ws μ hB.1 hpre
    have e0 : (List.range C_p_X9_firstAgainst_0.1.length).map μ = [.ref (ad 22), .int (((i) - ((60 : Int32)))), .int (((j) - ((60 : Int32))))] := by show [μ 0, μ 1, μ 2] = _; rw [m0, m1, m2]
    rw [e0] at hct
    refine hcallV (T := TXP) (k := 22) (rest := []) (avs := [.int (((i) - ((60 : Int32)))), .int (((j) - ((60 : Int32))))]) X k_3_36 hct d_ga_30 hB.1 rfl rfl rfl rfl ⟨by decide, by decide⟩ ⟨Nat.le_refl 0, Nat.le_refl 0⟩ (by decide) rfl (fun r w1 hp => ?_)
    obtain ⟨A1, hA1, μ2, -, -, q3, -, -, -, q7, q8⟩ := hp
    have ee := List.mem_singleton.mp hA1
    subst ee
    obtain ⟨r1, r2⟩ := q3
    obtain ⟨v, ev', -⟩ := vty0 r2 rfl
    rw [r1, ev']
    have hB1 : GAw G ad w0 n w1 := ⟨q7, frm_trans hB.2.1 q8 (by decide), hB.2.2.1.frm q8 (by decide), fget_frame q8 (by decide) hB.2.2.2⟩
    refine z_bipush X d_ga_33 (v := (-2)) (by decide) ?_
    refine zc_ne X d_ga_35 (tgt := 63) (by decide) (a := v.toInt) (b := -2) rfl rfl (fun _ => on n w1 hB1 n0 (by omega)) (fun _ => ?_)
    obtain ⟨f, f1, hB3⟩ := hB1.put (v := (i <<< ((7 : Int32) &&& 31)) ||| j) (mkcode i0 i1 j0 (by omega)) n.toNatClampNeg
    have vn : vp_in n 14641 := vp_of n0 (by omega)
    refine z_aload_n X d_ga_38 rfl 0 rfl ?_
    refine hget (T := TXP) X hB1.1 (idx := 15) (fld_3_ok _ (by decide : (15, 3, 4) ∈ fld_3)) d_ga_39 rfl (fget_ref hB1.1 rfl rfl) ?_
    refine z_aload_n X d_ga_42 rfl 0 rfl ?_
    refine hget (T := TXP) X hB1.1 (idx := 32) (fld_3_ok _ (by decide : (32, 3, 0) ∈ fld_3)) d_ga_43 rfl (hB1.2.2.2) ?_
    refine z_iload_n X d_ga_46 rfl 2 rfl ?_
    refine z_bipush X d_ga_47 (v := 7) (by decide) ?_
    refine z_ishl X d_ga_49 ?_
    refine z_iload_n X d_ga_50 rfl 3 rfl ?_
    refine z_ior X d_ga_51 ?_
    refine z_iast X d_ga_52 111 (f1) (vn) rfl ?_
    generalize hgen : w1.set 111 (ad 111, aI G 14641 (upd f n.toNatClampNeg ((i <<< ((7 : Int32) &&& 31)) ||| j))) = w3 at hB3
    refine z_aload_n X d_ga_53 rfl 0 rfl ?_
    refine z_dup X d_ga_54 rfl ?_
    refine hget (T := TXP) X hB3.1 (idx := 32) (fld_3_ok _ (by decide : (32, 3, 0) ∈ fld_3)) d_ga_55 rfl (hB3.2.2.2) ?_
    refine z_iconst X d_ga_58 (v := 1) (by decide) ?_
    refine z_iadd X d_ga_59 ?_
    have e2 : (n + 1).toInt = n.toInt + 1 := tI_add rfl rfl (by omega)
    obtain ⟨fs, o1, o2, hB4⟩ := hB3.cnt (v := n + 1) (by omega) (by omega)
    refine put_row (ad := ad) X (put_3_ok (32, 3, 0, 0) (by decide)) (t := (0, 0, 14641)) (by decide) d_ga_60 o1 o2 (vty_i (by show (0 : Int) ≤ (n + 1).toInt; omega) (by show (n + 1).toInt ≤ 14641; omega)) ?_
    exact on (n + 1) _ hB4 (by omega) (by omega)
theorem ga_out (X : ZC p s m args meth c cX3_gather 4 RX3 G A none "gather") : ∀ (N : Nat) (i n : Int32) (ws : va_W), GAw G ad w0 n ws → 0 ≤ n.toInt → n.toInt ≤ 121 * i.toInt → 0 ≤ i.toInt → i.toInt ≤ 121 → (121 - i.toInt).toNat < N → Z p l e rm_ga s m args below meth c 4 G A (MQ below (QQ G A (GApo G ad w0)) args s 0 0 A) 7 [(0, .ref (ad 109)), (1, .ref (ad 22)), (2, .int i)] [] ws 0 0
  | 0, _, _, _, _, _, _, _, _, h9 => absurd h9 (Nat.not_lt_zero _)
  | N + 1, i, n, ws, hB, n0, n1, i0, i1, h9 => by
    refine z_iload_n X d_ga_7 rfl 2 rfl ?_
    refine z_bipush X d_ga_8 (v := 121) (by decide) ?_
    refine zc_ge X d_ga_10 (tgt := 75) (by decide) (a := i.toInt) (b := 121) rfl rfl (fun hge => z_vret X rfl d_ga_75 (Nat.le_refl 0) (Nat.le_refl 0) ⟨rfl, hB.1, hB.2.1, hB.2.2.1⟩) (fun hlt => ?_)
    refine z_iconst X d_ga_13 (v := 0) (by decide) ?_
    refine z_istore_n X d_ga_14 rfl (by decide) (lv' := [(3, .int ((0 : Int32))), (0, .ref (ad 109)), (1, .ref (ad 22)), (2, .int (i))]) rfl ?_
    refine Z.mono (fun q hq => by simp only [List.mem_cons, List.not_mem_nil, or_false] at hq ⊢; rcases hq with h | h | h | h <;> simp [h]) (ga_in (i := i) X i0 (by omega) (fun n2 w2 hB2 q0 q1 => ?_) _ 0 n ws hB n0 (by show n.toInt ≤ 121 * i.toInt + 0; omega) (by decide) (by decide) (Nat.lt_succ_self _))
    refine z_iinc X d_ga_69 (k := 2) rfl rfl (by decide) (lv' := [(2, .int (i + Int32.ofInt (1))), (0, .ref (ad 109)), (1, .ref (ad 22))]) rfl ?_
    refine z_goto X d_ga_72 (tgt := 7) (by decide) ?_
    have e1 : (i + Int32.ofInt 1).toInt = i.toInt + 1 := tI_add rfl (show (Int32.ofInt 1).toInt = 1 by decide) (by omega)
    exact Z.mono (fun q hq => by simp only [List.mem_cons, List.not_mem_nil, or_false] at hq ⊢; rcases hq with h | h | h <;> simp [h]) (ga_out X N (i + Int32.ofInt 1) n2 w2 hB2 q0 (by omega) (by omega) (by omega) (by omega))
end GAS
theorem ac_gather (l : Launch) (G : KG) {ad : Nat → Nat} {w0 : va_W} (hW : WT G ad TXP w0) (hG : GC G w0) : Ct l G yX3_gather cX3_gather 4 none rm_ga [.ref (ad 109), .ref (ad 22)] w0 (GApo G ad w0) := by
  refine ct_of [(0, .ref (ad 109)), (1, .ref (ad 22))] (by decide) (Nat.le_of_ble_eq_true rfl) rfl ?_
  intro p e s m args below meth c A X
  obtain ⟨n, hn, -⟩ := fget_int (T := TXP) (k := 109) (j := 0) hW rfl rfl
  have hB0 : GAw G ad w0 n w0 := ⟨hW, ⟨rfl, fun _ _ _ => rfl⟩, hG, hn⟩
  obtain ⟨fs, o1, o2, hB⟩ := hB0.cnt (v := 0) (by decide) (by decide)
  refine z_aload_n X d_ga_0 rfl 0 rfl ?_
  refine z_iconst X d_ga_1 (v := 0) (by decide) ?_
  refine put_row (ad := ad) X (put_3_ok (32, 3, 0, 0) (by decide)) (t := (0, 0, 14641)) (by decide) d_ga_2 o1 o2 (vty_i (by decide) (by decide)) ?_
  refine z_iconst X d_ga_5 (v := 0) (by decide) ?_
  refine z_istore_n X d_ga_6 rfl (by decide) (lv' := [(2, .int ((0 : Int32))), (0, .ref (ad 109)), (1, .ref (ad 22))]) rfl ?_
  exact Z.mono (fun q hq => by simp only [List.mem_cons, List.not_mem_nil, or_false] at hq ⊢; rcases hq with h | h | h <;> simp [h]) (ga_out X _ 0 0 _ hB (by decide) (by decide) (by decide) (by decide) (Nat.lt_succ_self _))
