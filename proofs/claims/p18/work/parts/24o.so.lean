theorem FRM.nil {mk : List (Nat × Nat)} {w0 ws : va_W} (h : FRM [] w0 ws) : FRM mk w0 ws := ⟨h.1, fun k j _ => h.2 k j rfl⟩
section SO
variable {p : Program} {l : Launch} {e : Env} {s : State} {m : MethodId} {args : Array Value} {below : List Frame} {meth : Method} {c : Code} {G : KG} {A : Nat → Prop} {ad : Nat → Nat} {w0 : va_W} {μ : Nat → Value}
abbrev SOpo (G : KG) (ad : Nat → Nat) (w0 : va_W) (μ : Nat → Value) : Option Value → va_W → Prop := fun r w1 => POST G ad TX C_settleOunce μ w0 r w1
theorem so_frm {ws w1 : va_W} (h1 : FRM [] w0 ws) (h2 : FRM [] ws w1) : FRM [] w0 w1 := ⟨h2.1.trans h1.1, fun k j _ => (h2.2 k j rfl).trans (h1.2 k j rfl)⟩
/-- the call of bestOunce -/
theorem so_call {pc : Nat} {ws : va_W} {lw : List (Nat × Value)} {pv wh : Int32} {Q : State → Prop} (X : ZC p s m args meth c cX10_settleOunce 8 RX10 G A (some .boolean) "settleOunce") (hd : decode cX10_settleOunce pc = .ok (.invokevirtual 392, 3)) (hW : WT G ad TX ws) (h1 : 0 ≤ pv.toInt ∧ pv.toInt ≤ 1) (h2 : 0 ≤ wh.toInt ∧ wh.toInt ≤ 1)
    (kk : ∀ (w1 : va_W) (x : Int32), WT G ad TX w1 → FRM [] ws w1 → -2 ≤ x.toInt → x.toInt ≤ 15 → (0 ≤ x.toInt → OPx G ad w1 (decide (wh.toInt = 0)) x) → Z p l e (rmOf C_settleOunce) s m args below meth c 8 G A Q (pc + 3) lw [.int x] w1 0 0) : Z p l e (rmOf C_settleOunce) s m args below meth c 8 G A Q pc lw [.int wh, .int pv, .ref (ad 0)] ws 0 0 := by
  obtain ⟨hv, f1, f2, f3⟩ := fget_int (T := TX) (k := 5) (j := 0) hW rfl rfl
  obtain ⟨μ', hμ⟩ : ∃ μ' : Nat → Value, μ' = fun i => if i = 0 then .ref (ad 0) else if i = 1 then .int pv else if i = 2 then .int wh else .int hv := ⟨_, rfl⟩
  have m0 : μ' 0 = .ref (ad 0) := by rw [hμ]; rfl
  have m1 : μ' 1 = .int pv := by rw [hμ]; rfl
  have m2 : μ' 2 = .int wh := by rw [hμ]; rfl
  have m100 : μ' 100 = .int hv := by rw [hμ]; rfl
  have hpre : PRE ad C_bo0 μ' ws := by
    refine ⟨fun j t hj => ?_, fun j q hj => ?_, fun q hq => ?_⟩
    · match j, hj with
      | 0, hj => cases hj; rw [m0]; exact Or.inr (Or.inr (Or.inl ⟨rfl, rfl⟩))
      | 1, hj => cases hj; rw [m1]; exact vty_i h1.1 h1.2
      | 2, hj => cases hj; rw [m2]; exact vty_i h2.1 h2.2
      | n + 3, hj => cases hj
    · match j, hj with
      | 0, hj =>
        cases hj
        exact ⟨by rw [m100]; exact vty_i f2 f3, by show fget ws 5 0 = some (μ' 100); rw [m100]; exact f1⟩
      | n + 1, hj => cases hj
    · cases hq
  have hct := ac_bestOunce l G ad ws μ' hW hpre
  rw [m0, m1, m2] at hct
  refine hcallV (T := TX) (k := 0) (rest := []) (avs := [.int pv, .int wh]) X k_10_392 hct hd hW rfl rfl rfl rfl ⟨by decide, by decide⟩ ⟨Nat.le_refl 0, Nat.le_refl 0⟩ (by decide) rfl (fun r w1 hp => ?_)
  obtain ⟨q1, q2, x, rfl, x1, x2, x3⟩ := hp
  refine kk w1 x q1 q2 x1 x2 (fun h0 => ?_)
  have h9 := x3 h0
  rw [m2] at h9
  exact h9.frm q1 q2 rfl rfl
end SO
set_option maxHeartbeats 2000000 in
theorem ac_settleOunce (l : Launch) (G : KG) : ACt l G TX yX10_settleOunce cX10_settleOunce 8 (some .boolean) C_settleOunce := by
  refine hand_of (by decide) (by decide) (by decide) (by decide) (by decide) ?_
  intro p e s m args below meth c A X ad w0 μ lw hW hPre hg
  have hPO : ∀ (wa : va_W), FRM [] w0 wa → ∀ r w1, POST G ad TX sC_so0 μ wa r w1 → SOpo G ad w0 μ r w1 := fun wa hwa r w1 h => POST.mono (C := sC_so0) (C' := C_settleOunce) h rfl hwa.nil (by decide)
  have sp : ∀ q ∈ spin C_settleOunce μ, q.1 ∈ [0, 1] := spin3
  have hg0 : AG G ad TX sC_so0.2.2.2.2.1 w0 (spin C_settleOunce μ) ss_so0 μ lw [] w0 := AG.rew (st2 := []) hg
  refine aseg (C := sC_so0) (PO := SOpo G ad w0 μ) (fld := fld_10) (put := put_10) (cst := cst_10) (cstl := cstl_10) (hk := hk0) (tab := D_X10_settleOunce) (rk := 3) (pids := [0, 1]) D_X10_settleOunce_ok X rfl rfl hok0 (Or.inr (Or.inr (Or.inr ⟨rfl, rfl⟩))) (Nat.le_refl 0) (Nat.le_refl 0) (spin1 (C := C_settleOunce)) (spin2 (C := C_settleOunce)) (hPO w0 ⟨rfl, fun _ _ _ => rfl⟩) fld_10_ok put_10_ok cst_10_ok cstl_10_ok (sl_so0_ok l G) (Nat.le_refl 0) (Nat.le_refl 0) spin3 sg_so0 (fun d hd ν2 lw2 sw2 ws2 hg2 => ?_) μ lw [] w0 hg0
  rw [List.mem_singleton.mp hd] at hg2 ⊢
  have hs : sw2 = [ν2 500, ν2 1, ν2 0] := hg2.2.1
  have h0 : ν2 0 = .ref (ad 0) := hg2.2.2.ref (i := 0) rfl
  obtain ⟨pv, e1, p1, p2⟩ := hg2.2.2.rng (i := 1) (a := 0) (b := 1) (by decide)
  obtain ⟨wh, e5, q1, q2⟩ := hg2.2.2.rng (i := 500) (a := 0) (b := 0) (by decide)
  have ew : wh = 0 := Int32.toInt_inj.mp (by show wh.toInt = 0; omega)
  subst ew
  rw [hs, h0, e1, e5]
  have hF2 := hg2.2.2.2.2.2.2.2.2
  refine so_call X d_so_3 hg2.2.2.2.2.2.2.2.1 ⟨p1, p2⟩ ⟨by decide, by decide⟩ (fun w1 x hW1 hF1 x1 x2 x3 => ?_)
  have hgw := (AG.worldR (mk2 := sC_so0.2.2.2.2.1) (st2 := []) hg2 hW1 hF1).pushN (n := 710) (t := (0, -2, 15)) (v := .int x) (by decide) (by decide) (fun q hq e9 => by
    have h1 := sp q hq
    rw [e9] at h1
    revert h1
    decide) (vty_i x1 x2)
  have hF01 := so_frm hF2 hF1
  refine aseg (C := sC_so1) (PO := SOpo G ad w0 μ) (fld := fld_10) (put := put_10) (cst := cst_10) (cstl := cstl_10) (hk := hk0) (tab := D_X10_settleOunce) (rk := 3) (pids := [0, 1, 710]) D_X10_settleOunce_ok X rfl rfl hok0 (Or.inr (Or.inr (Or.inr ⟨rfl, rfl⟩))) (Nat.le_refl 0) (Nat.le_refl 0) (fun j hj => List.mem_cons_of_mem _ (spin1 (C := C_settleOunce) j hj)) (fun j hj => List.mem_cons_of_mem _ (spin2 (C := C_settleOunce) j hj)) (hPO w1 hF01) fld_10_ok put_10_ok cst_10_ok cstl_10_ok (sl_so1_ok l G) (Nat.le_refl 0) (Nat.le_refl 0) (fun q hq => by
    rcases List.mem_cons.mp hq with e1 | hq
    · rw [e1]; exact (by decide : (710 : Nat) ∈ [0, 1, 710])
    · have hsub : ∀ z ∈ [0, 1], z ∈ [0, 1, 710] := by decide
      exact hsub _ (sp q hq)) sg_so1 (fun d hd ν3 lw3 sw3 ws3 hg3 => ?_) _ lw2 _ w1 hgw
  rw [List.mem_singleton.mp hd] at hg3 ⊢
  have hs3 : sw3 = [ν3 500, ν3 1, ν3 0] := hg3.2.1
  have h03 : ν3 0 = .ref (ad 0) := hg3.2.2.ref (i := 0) rfl
  obtain ⟨pv3, e13, p13, p23⟩ := hg3.2.2.rng (i := 1) (a := 0) (b := 1) (by decide)
  obtain ⟨wh3, e53, q13, q23⟩ := hg3.2.2.rng (i := 500) (a := 1) (b := 1) (by decide)
  have ew3 : wh3 = 1 := Int32.toInt_inj.mp (by show wh3.toInt = 1; omega)
  subst ew3
  rw [hs3, h03, e13, e53]
  have hF3 := hg3.2.2.2.2.2.2.2.2
  refine so_call X d_so_10 hg3.2.2.2.2.2.2.2.1 ⟨p13, p23⟩ ⟨by decide, by decide⟩ (fun w4 y hW4 hF4 y1 y2 y3 => ?_)
  have hgw4 := (AG.worldR (mk2 := sC_so0.2.2.2.2.1) (st2 := []) hg3 hW4 hF4).pushN (n := 711) (t := (0, -2, 15)) (v := .int y) (by decide) (by decide) (fun q hq e9 => by
    rcases List.mem_cons.mp hq with e1 | hq
    · rw [e1] at e9; exact absurd (show (710 : Nat) = 711 from e9) (by decide)
    · have h1 := sp q hq
      rw [e9] at h1
      revert h1
      decide) (vty_i y1 y2)
  have hF14 := so_frm hF3 hF4
  have hF04 := so_frm hF01 hF14
  refine aseg (C := sC_so2) (PO := SOpo G ad w0 μ) (fld := fld_10) (put := put_10) (cst := cst_10) (cstl := cstl_10) (hk := hk0) (tab := D_X10_settleOunce) (rk := 3) (pids := [0, 1, 710, 711]) D_X10_settleOunce_ok X rfl rfl hok0 (Or.inr (Or.inr (Or.inr ⟨rfl, rfl⟩))) (Nat.le_refl 0) (Nat.le_refl 0) (fun j hj => List.mem_cons_of_mem _ (List.mem_cons_of_mem _ (spin1 (C := C_settleOunce) j hj))) (fun j hj => List.mem_cons_of_mem _ (List.mem_cons_of_mem _ (spin2 (C := C_settleOunce) j hj))) (hPO w4 hF04) fld_10_ok put_10_ok cst_10_ok cstl_10_ok (sl_so2_ok l G) (Nat.le_refl 0) (Nat.le_refl 0) (fun q hq => by
    rcases List.mem_cons.mp hq with e1 | hq
    · rw [e1]; exact (by decide : (711 : Nat) ∈ [0, 1, 710, 711])
    rcases List.mem_cons.mp hq with e1 | hq
    · rw [e1]; exact (by decide : (710 : Nat) ∈ [0, 1, 710, 711])
    · have hsub : ∀ z ∈ [0, 1], z ∈ [0, 1, 710, 711] := by decide
      exact hsub _ (sp q hq)) sg_so2 (fun d hd ν5 lw5 sw5 ws5 hg5 => ?_) _ lw3 _ w4 hgw4
  have hd : d ∈ [se_so2_79, se_so2_95] := hd
  have p5 := hg5.2.2.2.2.2.2.1
  have c711 : ν5 711 = .int y := (p5 (711, .int y) List.mem_cons_self).2
  have c710 : ν5 710 = .int x := (p5 (710, .int x) (List.mem_cons_of_mem _ List.mem_cons_self)).2
  have hF5 := hg5.2.2.2.2.2.2.2.2
  have hW5 := hg5.2.2.2.2.2.2.2.1
  have hF05 : FRM C_settleOunce.2.2.2.2.1 w0 w4 := hF04.nil
  have hids5 : ∀ q ∈ (711, Value.int y) :: (710, Value.int x) :: spin C_settleOunce μ, q.1 ∈ [0, 1, 710, 711, 500, 501] := fun q hq => by
    rcases List.mem_cons.mp hq with e1 | hq
    · rw [e1]; exact (by decide : (711 : Nat) ∈ [0, 1, 710, 711, 500, 501])
    rcases List.mem_cons.mp hq with e1 | hq
    · rw [e1]; exact (by decide : (710 : Nat) ∈ [0, 1, 710, 711, 500, 501])
    · have hsub : ∀ z ∈ [0, 1], z ∈ [0, 1, 710, 711, 500, 501] := by decide
      exact hsub _ (sp q hq)
  have hgb := AG.rebase (mk := C_settleOunce.2.2.2.2.1) (w0 := w0) hg5 hF05 (by decide)
  rcases List.mem_cons.mp hd with e1 | hd
  · subst e1
    obtain ⟨x', f, u1, u2, u3, u4, u5, u6, u7, u8⟩ := AG.elem (i := 710) (r := 502) (k := 10) (n := 16) (a := 0) (b := 15) hg5 (by decide) (by decide) (by decide) rfl rfl rfl
    rw [c710] at u1
    cases u1
    have h5 : ν5 502 = .ref (ad 10) := hg5.2.2.ref (i := 502) rfl
    have u2 : sw5 = [.int x, .ref (ad 10), .int x, .ref (ad 10)] := by rw [u2]; show [_, _, ν5 710, ν5 502] = _; rw [c710, h5]
    have hop := ((x3 u6).frm hg3.2.2.2.2.2.2.2.1 hF3 rfl rfl).frm hW4 hF4 rfl rfl
    obtain ⟨f', g', a1, a2, a3⟩ := hop.frm hW5 hF5 rfl rfl
    rw [u3] at a1
    have ef : f = f' := Sum.inl.inj (congrArg (fun z : ClassId × vp_A => z.2.2) (Sum.inl.inj (congrArg Prod.snd (Option.some.inj a1))))
    subst ef
    obtain ⟨g0, b1, b2⟩ := WT.ints (T := TX) (k := 9) (n := 16) hW5 rfl
    rw [a2] at b1
    have eg : g' = g0 := Sum.inl.inj (congrArg (fun z : ClassId × vp_A => z.2.2) (Sum.inl.inj (congrArg Prod.snd (Option.some.inj b1))))
    subst eg
    have hg9 : (g' x.toNatClampNeg).toInt ≤ 9 := (b2 _ u8).2.1
    have hf0 : 0 ≤ (f x.toNatClampNeg).toInt := (u4 _ u8).1
    have hlt : (f x.toNatClampNeg).toInt < (g' x.toNatClampNeg).toInt := by
      rcases a3 with ⟨-, a3⟩ | ⟨a3, -⟩
      · exact a3
      · cases a3
    have hsum : (f x.toNatClampNeg + 1).toInt = (f x.toNatClampNeg).toInt + 1 := tI_add rfl rfl (by omega)
    rw [u2]
    refine z_iald X d_so_79 10 u3 u5 rfl (z_iconst X d_so_80 (v := 1) rfl (z_iadd X d_so_81 (z_iast X d_so_82 10 u3 u5 rfl ?_)))
    have g3 := hgb.2.2.setA (k := 10) (te := .inr (0, 16, (0, 0, 9))) (y := (cyI G, 16, .inl (upd f x.toNatClampNeg (f x.toNatClampNeg + 1)))) rfl u3 (Or.inl ⟨rfl, _, rfl, aint_upd u4 (by show (0 : Int) ≤ _; omega) (by show _ ≤ (9 : Int); omega) (fun e => by cases e)⟩) (fun n' t' e' g2 => by
      cases e'
      exact absurd g2 (by decide)) (by decide)
    have hgU : AG G ad TX sC_so3.2.2.2.2.1 w0 ((711, .int y) :: (710, .int x) :: spin C_settleOunce μ) ss_so3 ν5 lw5 [] (ws5.set 10 (ad 10, aI G 16 (upd f x.toNatClampNeg (f x.toNatClampNeg + 1)))) := ⟨hg5.1, rfl, g3⟩
    exact aseg (C := sC_so3) (PO := SOpo G ad w0 μ) (fld := fld_10) (put := put_10) (cst := cst_10) (cstl := cstl_10) (hk := hk0) (tab := D_X10_settleOunce) (rk := 3) (pids := [0, 1, 710, 711, 500, 501]) D_X10_settleOunce_ok X rfl rfl hok0 (Or.inr (Or.inr (Or.inr ⟨rfl, rfl⟩))) (Nat.le_refl 0) (Nat.le_refl 0) (fun j hj => List.mem_cons_of_mem _ (List.mem_cons_of_mem _ (spin1 (C := C_settleOunce) j hj))) (fun j hj => List.mem_cons_of_mem _ (List.mem_cons_of_mem _ (spin2 (C := C_settleOunce) j hj))) (fun r w1 h => h) fld_10_ok put_10_ok cst_10_ok cstl_10_ok (sl_so3_ok l G) (Nat.le_refl 0) (Nat.le_refl 0) hids5 sg_so3 (fun d hd => absurd hd List.not_mem_nil) ν5 lw5 [] _ hgU
  · have e1 := List.mem_singleton.mp hd
    subst e1
    obtain ⟨x', f, u1, u2, u3, u4, u5, u6, u7, u8⟩ := AG.elem (i := 711) (r := 502) (k := 10) (n := 16) (a := 0) (b := 15) hg5 (by decide) (by decide) (by decide) rfl rfl rfl
    rw [c711] at u1
    cases u1
    have h5 : ν5 502 = .ref (ad 10) := hg5.2.2.ref (i := 502) rfl
    have u2 : sw5 = [.int y, .ref (ad 10), .int y, .ref (ad 10)] := by rw [u2]; show [_, _, ν5 711, ν5 502] = _; rw [c711, h5]
    obtain ⟨f', g', a1, a2, a3⟩ := (y3 u6).frm hW5 hF5 rfl rfl
    rw [u3] at a1
    have ef : f = f' := Sum.inl.inj (congrArg (fun z : ClassId × vp_A => z.2.2) (Sum.inl.inj (congrArg Prod.snd (Option.some.inj a1))))
    subst ef
    have hf9 : (f y.toNatClampNeg).toInt ≤ 9 := (u4 _ u8).2.1
    have hlt : 0 < (f y.toNatClampNeg).toInt := by
      rcases a3 with ⟨a3, -⟩ | ⟨-, a3⟩
      · cases a3
      · exact a3
    have hsum : (f y.toNatClampNeg - 1).toInt = (f y.toNatClampNeg).toInt - 1 := tI_sub rfl rfl (by omega)
    rw [u2]
    refine z_iald X d_so_95 10 u3 u5 rfl (z_iconst X d_so_96 (v := 1) rfl (z_isub X d_so_97 (z_iast X d_so_98 10 u3 u5 rfl ?_)))
    have g3 := hgb.2.2.setA (k := 10) (te := .inr (0, 16, (0, 0, 9))) (y := (cyI G, 16, .inl (upd f y.toNatClampNeg (f y.toNatClampNeg - 1)))) rfl u3 (Or.inl ⟨rfl, _, rfl, aint_upd u4 (by show (0 : Int) ≤ _; omega) (by show _ ≤ (9 : Int); omega) (fun e => by cases e)⟩) (fun n' t' e' g2 => by
      cases e'
      exact absurd g2 (by decide)) (by decide)
    have hgU : AG G ad TX sC_so4.2.2.2.2.1 w0 ((711, .int y) :: (710, .int x) :: spin C_settleOunce μ) ss_so4 ν5 lw5 [] (ws5.set 10 (ad 10, aI G 16 (upd f y.toNatClampNeg (f y.toNatClampNeg - 1)))) := ⟨hg5.1, rfl, g3⟩
    exact aseg (C := sC_so4) (PO := SOpo G ad w0 μ) (fld := fld_10) (put := put_10) (cst := cst_10) (cstl := cstl_10) (hk := hk0) (tab := D_X10_settleOunce) (rk := 3) (pids := [0, 1, 710, 711, 500, 501]) D_X10_settleOunce_ok X rfl rfl hok0 (Or.inr (Or.inr (Or.inr ⟨rfl, rfl⟩))) (Nat.le_refl 0) (Nat.le_refl 0) (fun j hj => List.mem_cons_of_mem _ (List.mem_cons_of_mem _ (spin1 (C := C_settleOunce) j hj))) (fun j hj => List.mem_cons_of_mem _ (List.mem_cons_of_mem _ (spin2 (C := C_settleOunce) j hj))) (fun r w1 h => h) fld_10_ok put_10_ok cst_10_ok cstl_10_ok (sl_so4_ok l G) (Nat.le_refl 0) (Nat.le_refl 0) hids5 sg_so4 (fun d hd => absurd hd List.not_mem_nil) ν5 lw5 [] _ hgU
