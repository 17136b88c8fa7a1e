/-! the class's roomLeft, bestOunce -/
def RLP (G : KG) (ad : Nat → Nat) (w0 : va_W) (μ : Nat → Value) (r : Option Value) (w1 : va_W) : Prop := WT G ad TX w1 ∧ FRM [] w0 w1 ∧ ∃ (f g : Nat → Int32) (x : Int32), w0[10]? = some (ad 10, aI G 16 f) ∧ w0[9]? = some (ad 9, aI G 16 g) ∧ μ 1 = .int x ∧ r = some (.int (g x.toNatClampNeg - f x.toNatClampNeg)) ∧ 0 ≤ (f x.toNatClampNeg).toInt ∧ (f x.toNatClampNeg).toInt ≤ 9 ∧ 0 ≤ (g x.toNatClampNeg).toInt ∧ (g x.toNatClampNeg).toInt ≤ 9
theorem ac_roomLeft (l : Launch) (G : KG) : ∀ (ad : Nat → Nat) (w0 : va_W) (μ : Nat → Value), WT G ad TX w0 → PRE ad C_roomLeft0 μ w0 → Ct l G yX5_roomLeft cX5_roomLeft 2 (some .int) (rmOf C_roomLeft0) [μ 0, μ 1] w0 (RLP G ad w0 μ) := by
  refine hand_ofP (C := C_roomLeft0) (by decide) (by decide) (by decide) (by decide) (by decide) ?_
  intro p e s m args below meth c A X ad w0 μ lw hW hPre hg
  have noret : ∀ (w : va_W) r w1, POST G ad TX C_roomLeft0 μ w r w1 → RLP G ad w0 μ r w1 := fun w r w1 h => by
    obtain ⟨A1, hA1, -⟩ := h
    cases hA1
  refine aseg (C := sC_rR0) (PO := RLP G ad w0 μ) (fld := fld_5) (put := put_5) (cst := cst_5) (cstl := cstl_5) (hk := hk0) (tab := D_X5_roomLeft) (rk := 1) (pids := [0, 1]) D_X5_roomLeft_ok X rfl rfl hok0 (Or.inr (Or.inl ⟨rfl, rfl⟩)) (Nat.le_refl 0) (Nat.le_refl 0) (spin1 (C := C_roomLeft0)) (spin2 (C := C_roomLeft0)) (noret w0) fld_5_ok put_5_ok cst_5_ok cstl_5_ok (sl_rR0_ok l G) (Nat.le_refl 0) (Nat.le_refl 0) spin3 sg_rR0 (fun d hd ν2 lw2 sw2 ws2 hg2 => ?_) μ lw [] w0 hg
  rw [List.mem_singleton.mp hd] at hg2 ⊢
  obtain ⟨x, g, x1, x2, x3, x4, x5, x6, x7, x8⟩ := AG.elem (i := 1) (r := 500) (k := 9) (n := 16) (a := 0) (b := 15) hg2 (by decide) (by decide) (by decide) rfl rfl rfl
  have x2 : sw2 = [.int x, .ref (ad 9)] := x2
  have bm : ν2 1 = μ 1 := (hg2.2.2.2.2.2.2.1 (1, μ 1) (spin1 (C := C_roomLeft0) 1 (by decide))).2
  rw [x2]
  refine z_iald X d_rm_5 9 x3 x5 rfl ?_
  have hgB := (AG.stk (st2 := []) hg2).pushN (n := 702) (t := (0, 0, 9)) (v := .int (g x.toNatClampNeg)) (by decide) (by decide) (fun q hq e9 => by
    have h1 : q.1 ∈ [0, 1] := spin3 q hq
    rw [e9] at h1
    revert h1
    decide) (vty_i (x4 _ x8).1 (x4 _ x8).2.1)
  refine aseg (C := sC_rR1) (PO := RLP G ad w0 μ) (fld := fld_5) (put := put_5) (cst := cst_5) (cstl := cstl_5) (hk := hk0) (tab := D_X5_roomLeft) (rk := 1) (pids := [0, 1, 702]) D_X5_roomLeft_ok X rfl rfl hok0 (Or.inr (Or.inl ⟨rfl, rfl⟩)) (Nat.le_refl 0) (Nat.le_refl 0) (fun j hj => List.mem_cons_of_mem _ (spin1 (C := C_roomLeft0) j hj)) (fun j hj => List.mem_cons_of_mem _ (spin2 (C := C_roomLeft0) j hj)) (noret w0) fld_5_ok put_5_ok cst_5_ok cstl_5_ok (sl_rR1_ok l G) (Nat.le_refl 0) (Nat.le_refl 0) (fun q hq => by
    rcases List.mem_cons.mp hq with e1 | hq
    · rw [e1]; exact (by decide : (702 : Nat) ∈ [0, 1, 702])
    · have hsub : ∀ z ∈ [0, 1], z ∈ [0, 1, 702] := by decide
      exact hsub _ (spin3 q hq)) sg_rR1 (fun d hd ν3 lw3 sw3 ws3 hg3 => ?_) _ lw2 _ ws2 hgB
  rw [List.mem_singleton.mp hd] at hg3 ⊢
  obtain ⟨x', f, y1, y2, y3, y4, y5, y6, y7, y8⟩ := AG.elem (i := 1) (r := 500) (k := 10) (n := 16) (a := 0) (b := 15) hg3 (by decide) (by decide) (by decide) rfl rfl rfl
  have p3 := hg3.2.2.2.2.2.2.1
  have c1 : ν3 1 = μ 1 := (p3 (1, μ 1) (List.mem_cons_of_mem _ (spin1 (C := C_roomLeft0) 1 (by decide)))).2
  have c702 : ν3 702 = .int (g x.toNatClampNeg) := (p3 (702, .int (g x.toNatClampNeg)) List.mem_cons_self).2
  rw [c1, ← bm, x1] at y1
  cases y1
  have y2 : sw3 = [.int x, .ref (ad 10), ν3 702] := y2
  rw [y2, c702]
  refine z_iald X d_rm_11 10 y3 y5 rfl (z_isub X d_rm_12 ?_)
  have hF2 := hg2.2.2.2.2.2.2.2.2
  have hF3 := hg3.2.2.2.2.2.2.2.2
  obtain ⟨f0, u1, -⟩ := WT.ints (T := TX) (k := 10) (n := 16) hW rfl
  obtain ⟨g0, u2, -⟩ := WT.ints (T := TX) (k := 9) (n := 16) hW rfl
  obtain ⟨b1, v1⟩ := hF3.arr (k := 10) (by decide) u1
  obtain ⟨b2, v2⟩ := hF2.arr (k := 9) (by decide) u2
  rw [y3] at v1
  rw [x3] at v2
  have e1 : f = f0 := Sum.inl.inj (congrArg (fun z : ClassId × vp_A => z.2.2) (Sum.inl.inj (congrArg Prod.snd (Option.some.inj v1))))
  have e2 : g = g0 := Sum.inl.inj (congrArg (fun z : ClassId × vp_A => z.2.2) (Sum.inl.inj (congrArg Prod.snd (Option.some.inj v2))))
  subst e1
  subst e2
  exact z_iret X rfl d_rm_13 (Nat.le_refl 0) (Nat.le_refl 0) ⟨hg3.2.2.2.2.2.2.2.1, hF3, f, g, x, u1, u2, by rw [← bm]; exact x1, rfl, (y4 _ y8).1, (y4 _ y8).2.1, (x4 _ x8).1, (x4 _ x8).2.1⟩
/-- ounceOf's answer: a hole that can -/
def OPx (G : KG) (ad : Nat → Nat) (ws : va_W) (w : Bool) (r : Int32) : Prop := ∃ f g : Nat → Int32, ws[10]? = some (ad 10, aI G 16 f) ∧ ws[9]? = some (ad 9, aI G 16 g) ∧ ((w = true ∧ (f r.toNatClampNeg).toInt < (g r.toNatClampNeg).toInt) ∨ (w = false ∧ 0 < (f r.toNatClampNeg).toInt))
theorem OPx.frm {G : KG} {ad : Nat → Nat} {mk : List (Nat × Nat)} {w0 ws : va_W} {w : Bool} {r : Int32} (h : OPx G ad w0 w r) (hW : WT G ad TX ws) (hF : FRM mk w0 ws) (h6 : mkq mk 10 0 = false) (h5 : mkq mk 9 0 = false) : OPx G ad ws w r := by
  obtain ⟨f, g, a1, a2, a3⟩ := h
  obtain ⟨b1, c1⟩ := hF.arr h6 a1
  obtain ⟨b2, c2⟩ := hF.arr h5 a2
  rw [WT.adr (T := TX) (k := 10) hW rfl c1] at c1
  rw [WT.adr (T := TX) (k := 9) hW rfl c2] at c2
  exact ⟨f, g, c1, c2, a3⟩
theorem OPx.bak {G : KG} {ad : Nat → Nat} {mk : List (Nat × Nat)} {w0 ws : va_W} {w : Bool} {r : Int32} (h : OPx G ad ws w r) (hW : WT G ad TX w0) (hF : FRM mk w0 ws) (h6 : mkq mk 10 0 = false) (h5 : mkq mk 9 0 = false) : OPx G ad w0 w r := by
  obtain ⟨f, g, a1, a2, a3⟩ := h
  obtain ⟨f0, u1, -⟩ := WT.ints (k := 10) (n := 16) hW rfl
  obtain ⟨g0, u2, -⟩ := WT.ints (k := 9) (n := 16) hW rfl
  obtain ⟨b1, c1⟩ := hF.arr h6 u1
  obtain ⟨b2, c2⟩ := hF.arr h5 u2
  rw [a1] at c1
  rw [a2] at c2
  have e1 : f = f0 := Sum.inl.inj (congrArg (fun z : ClassId × vp_A => z.2.2) (Sum.inl.inj (congrArg Prod.snd (Option.some.inj c1))))
  have e2 : g = g0 := Sum.inl.inj (congrArg (fun z : ClassId × vp_A => z.2.2) (Sum.inl.inj (congrArg Prod.snd (Option.some.inj c2))))
  subst e1
  subst e2
  exact ⟨f, g, u1, u2, a3⟩
def BOP (G : KG) (ad : Nat → Nat) (w0 : va_W) (μ : Nat → Value) (r : Option Value) (w1 : va_W) : Prop := WT G ad TX w1 ∧ FRM C_bo0.2.2.2.2.1 w0 w1 ∧ ∃ x : Int32, r = some (.int x) ∧ -2 ≤ x.toInt ∧ x.toInt ≤ 15 ∧ (0 ≤ x.toInt → OPx G ad w0 (decide (vI (μ 2) = 0)) x)
section BO
variable {p : Program} {l : Launch} {e : Env} {s : State} {m : MethodId} {args : Array Value} {below : List Frame} {meth : Method} {c : Code} {G : KG} {A : Nat → Prop} {ad : Nat → Nat} {w0 : va_W} {μ : Nat → Value}
theorem bo_head {σ : AS} {ν : Nat → Value} {lw : List (Nat × Value)} {ws : va_W} {pin : List (Nat × Value)} (hg : AG G ad TX C_bo0.2.2.2.2.1 w0 pin σ ν lw [] ws) (hp : ∀ q ∈ spin C_bo0 μ, q.1 < 1000 ∧ ν q.1 = q.2) (ha : aarr (apids C_bo0) none boH σ = true) : ∃ (ν' : Nat → Value) (lw' : List (Nat × Value)), AG G ad TX C_bo0.2.2.2.2.1 w0 (spin C_bo0 μ) boH.2.1 ν' lw' [] ws ∧ ∀ q ∈ lw', q ∈ lw := AG.arrive (d := boH) (hg.pins hp) spin3 ha (by decide)
theorem bo_loop (hs0 : WT G ad TX w0) (X : ZC p s m args meth c cX10_bestOunce 10 RX10 G A (some .int) "bestOunce") : ∀ (n : Nat) (ν : Nat → Value) (lw : List (Nat × Value)) (ws : va_W), AG G ad TX C_bo0.2.2.2.2.1 w0 (spin C_bo0 μ) boH.2.1 ν lw [] ws → (16 - vI (ν 701)).toNat < n → (∀ x, ν 700 = .int x → 0 ≤ x.toInt → OPx G ad w0 (decide (vI (μ 2) = 0)) x) → Z p l e (rmOf C_bo0) s m args below meth c 10 G A (MQ below (QQ G A (BOP G ad w0 μ)) args s 0 0 A) 9 lw [] ws 0 0
  | 0, _, _, _, _, h9, _ => absurd h9 (Nat.not_lt_zero _)
  | n + 1, ν, lw, ws, hg, h9, hbest => by
    have h3 := hg.2.2
    have hgA := hg.pins (pin2 := (700, ν 700) :: (701, ν 701) :: spin C_bo0 μ) (fun q hq => by
      rcases List.mem_cons.mp hq with e1 | hq
      · rw [e1]; exact ⟨(by decide : (700 : Nat) < 1000), rfl⟩
      rcases List.mem_cons.mp hq with e1 | hq
      · rw [e1]; exact ⟨(by decide : (701 : Nat) < 1000), rfl⟩
      · exact h3.2.2.2.2.1 q hq)
    have hids : ∀ q ∈ (700, ν 700) :: (701, ν 701) :: spin C_bo0 μ, q.1 ∈ [0, 1, 2, 100, 700, 701, 704] := fun q hq => by
      rcases List.mem_cons.mp hq with e1 | hq
      · rw [e1]; exact (by decide : (700 : Nat) ∈ [0, 1, 2, 100, 700, 701, 704])
      rcases List.mem_cons.mp hq with e1 | hq
      · rw [e1]; exact (by decide : (701 : Nat) ∈ [0, 1, 2, 100, 700, 701, 704])
      · have := spin3 q hq
        revert this
        show q.1 ∈ [0, 1, 2, 100] → _
        intro h
        have hsub : ∀ z ∈ [0, 1, 2, 100], z ∈ [0, 1, 2, 100, 700, 701, 704] := by decide
        exact hsub _ h
    have noret : ∀ (w : va_W) r w1, POST G ad TX C_bo0 μ w r w1 → BOP G ad w0 μ r w1 := fun w r w1 h => by
      obtain ⟨A1, hA1, -⟩ := h
      cases hA1
    have sp2 : ∀ q ∈ spin C_bo0 μ, q ∈ (700, ν 700) :: (701, ν 701) :: spin C_bo0 μ := fun q hq => List.mem_cons_of_mem _ (List.mem_cons_of_mem _ hq)
    -- behind an iteration
    have back : ∀ (σ : AS) (ν2 : Nat → Value) (lw2 : List (Nat × Value)) (ws2 : va_W) (pin2 : List (Nat × Value)) (b h : Nat), AG G ad TX C_bo0.2.2.2.2.1 w0 pin2 σ ν2 lw2 [] ws2 → (∀ q ∈ spin C_bo0 μ, q.1 < 1000 ∧ ν2 q.1 = q.2) → aarr (apids C_bo0) none boH σ = true → ((3, ν2 b) ∈ lw2 ∧ ∀ v, (3, v) ∈ lw2 → v = ν2 b) → (∀ v, (6, v) ∈ lw2 → v = ν2 h) → vI (ν 701) < vI (ν2 h) → vI (ν2 h) ≤ 16 → (∀ x, ν2 b = .int x → 0 ≤ x.toInt → OPx G ad w0 (decide (vI (μ 2) = 0)) x) → Z p l e (rmOf C_bo0) s m args below meth c 10 G A (MQ below (QQ G A (BOP G ad w0 μ)) args s 0 0 A) 9 lw2 [] ws2 0 0 := by
      intro σ ν2 lw2 ws2 pin2 b h hg2 hp2 ha hb hh hlt hle hop
      obtain ⟨ν', lw', q1, q2⟩ := bo_head hg2 hp2 ha
      have e1 : lw' = boH.2.1.1.map (fun q => (q.1, ν' q.2.1)) := q1.1
      have m3 : (3, ν' 700) ∈ lw' := by rw [e1]; exact List.mem_map.mpr ⟨(3, 700, false), by decide, rfl⟩
      have m4 : (6, ν' 701) ∈ lw' := by rw [e1]; exact List.mem_map.mpr ⟨(6, 701, false), by decide, rfl⟩
      have k3 : ν' 700 = ν2 b := hb.2 _ (q2 _ m3)
      have k4 : ν' 701 = ν2 h := hh _ (q2 _ m4)
      refine Z.mono q2 (bo_loop hs0 X n ν' lw' ws2 q1 ?_ (fun x hx => ?_))
      · rw [k4]
        have : vI (ν 701) ≤ 15 := by omega
        omega
      · rw [k3] at hx; exact hop x hx
    refine aseg (C := sC_boA) (PO := BOP G ad w0 μ) (fld := fld_10) (put := put_10) (cst := cst_10) (cstl := cstl_10) (hk := hk0) (tab := D_X10_bestOunce) (rk := 1) (pids := [0, 1, 2, 100, 700, 701, 704]) D_X10_bestOunce_ok X rfl rfl hok0 (Or.inr (Or.inl ⟨rfl, rfl⟩)) (Nat.le_refl 0) (Nat.le_refl 0) (fun j hj => sp2 _ (spin1 (C := C_bo0) j hj)) (fun j hj => sp2 _ (spin2 (C := C_bo0) j hj)) (noret w0) fld_10_ok put_10_ok cst_10_ok cstl_10_ok (sl_boA_ok l G) (Nat.le_refl 0) (Nat.le_refl 0) hids sg_boA (fun d hd ν2 lw2 sw2 ws2 hg2 => ?_) ν lw [] ws hgA
    have hd : d ∈ [se_boA_31, se_boA_54, se_boA_122] := hd
    have b700 := (hg2.2.2.2.2.2.2.1 (700, ν 700) List.mem_cons_self).2
    have b701 := (hg2.2.2.2.2.2.2.1 (701, ν 701) (List.mem_cons_of_mem _ List.mem_cons_self)).2
    have b700 : ν2 700 = ν 700 := b700
    have b701 : ν2 701 = ν 701 := b701
    have bw := (hg2.2.2.2.2.2.2.1 (2, μ 2) (sp2 _ (spin1 (C := C_bo0) 2 (by decide)))).2
    have bw : ν2 2 = μ 2 := bw
    have psp : ∀ q ∈ spin C_bo0 μ, q.1 < 1000 ∧ ν2 q.1 = q.2 := fun q hq => hg2.2.2.2.2.2.2.1 q (sp2 q hq)
    have pfree : ∀ k, k ∉ [0, 1, 2, 100, 700, 701, 704] → ∀ q ∈ (700, ν 700) :: (701, ν 701) :: spin C_bo0 μ, q.1 ≠ k := fun k hk q hq e9 => hk (e9 ▸ hids q hq)
    rcases List.mem_cons.mp hd with e1 | hd
    · -- what = 0: roomLeft
      subst e1
      obtain ⟨x, x1, x6, x7⟩ := hg2.2.2.rng (i := 701) (a := 0) (b := 15) (by decide)
      have hrr : ν2 501 = .ref (ad 5) := hg2.2.2.ref (i := 501) rfl
      have hs : sw2 = [.int x, .ref (ad 5)] := by
        have : sw2 = [ν2 701, ν2 501] := hg2.2.1
        rw [this, x1, hrr]
      have hW2 := hg2.2.2.2.2.2.2.2.1
      obtain ⟨μ', hμ⟩ : ∃ μ' : Nat → Value, μ' = fun i => if i = 0 then .ref (ad 5) else .int x := ⟨_, rfl⟩
      have m0 : μ' 0 = .ref (ad 5) := by rw [hμ]; rfl
      have m1 : μ' 1 = .int x := by rw [hμ]; rfl
      have hpre : PRE ad C_roomLeft0 μ' ws2 := by
        refine ⟨fun j t hj => ?_, fun j q hj => ?_, fun q hq => ?_⟩
        · match j, hj with
          | 0, hj => cases hj; rw [m0]; exact Or.inr (Or.inr (Or.inl ⟨rfl, rfl⟩))
          | 1, hj => cases hj; rw [m1]; exact vty_i x6 x7
          | n + 2, hj => cases hj
        · cases hj
        · cases hq
      have hct := ac_roomLeft l G ad ws2 μ' hW2 hpre
      rw [m0, m1] at hct
      refine hcallV (T := TX) (k := 5) (rest := []) (avs := [.int x]) X k_10_371 hct d_bo_31 hW2 rfl rfl rfl rfl ⟨by decide, by decide⟩ ⟨Nat.le_refl 0, Nat.le_refl 0⟩ (by decide) hs (fun r w1 hp => ?_)
      obtain ⟨q1, q2, f, gg, x', y1, y2, y3, rfl, y5, y6, y7, y8⟩ := hp
      rw [m1] at y3
      cases y3
      have hgw := AG.worldR (mk2 := C_bo0.2.2.2.2.1) (st2 := []) hg2 q1 q2
      have hgw : AG G ad TX C_bo0.2.2.2.2.1 w1 _ (se_boA_31.2.1.1, [], se_boA_31.2.1.2.2.1, se_boA_31.2.1.2.2.2.1, se_boA_31.2.1.2.2.2.2.1, 1000) ν2 lw2 [] w1 := hgw
      have hF02 := hg2.2.2.2.2.2.2.2.2
      have hgw := AG.rebase (mk := C_bo0.2.2.2.2.1) (w0 := w0) hgw (frm_trans hF02 q2 (by decide)) (by decide)
      have hsub : (gg x.toNatClampNeg - f x.toNatClampNeg).toInt = (gg x.toNatClampNeg).toInt - (f x.toNatClampNeg).toInt := tI_sub rfl rfl (by omega)
      have hgB := hgw.pushN (n := 702) (t := (0, -9, 9)) (v := .int (gg x.toNatClampNeg - f x.toNatClampNeg)) (by decide) (by decide) (pfree 702 (by decide)) (vty_i (by rw [hsub]; omega) (by rw [hsub]; omega))
      refine aseg (C := sC_boB) (PO := BOP G ad w0 μ) (fld := fld_10) (put := put_10) (cst := cst_10) (cstl := cstl_10) (hk := hk0) (tab := D_X10_bestOunce) (rk := 1) (pids := [0, 1, 2, 100, 700, 701, 704, 702]) D_X10_bestOunce_ok X rfl rfl hok0 (Or.inr (Or.inl ⟨rfl, rfl⟩)) (Nat.le_refl 0) (Nat.le_refl 0) (fun j hj => List.mem_cons_of_mem _ (sp2 _ (spin1 (C := C_bo0) j hj))) (fun j hj => List.mem_cons_of_mem _ (sp2 _ (spin2 (C := C_bo0) j hj))) (noret w0) fld_10_ok put_10_ok cst_10_ok cstl_10_ok (sl_boB_ok l G) (Nat.le_refl 0) (Nat.le_refl 0) (fun q hq => by
        rcases List.mem_cons.mp hq with e1 | hq
        · rw [e1]; exact (by decide : (702 : Nat) ∈ [0, 1, 2, 100, 700, 701, 704, 702])
        · have hsub : ∀ z ∈ [0, 1, 2, 100, 700, 701, 704], z ∈ [0, 1, 2, 100, 700, 701, 704, 702] := by decide
          exact hsub _ (hids q hq)) sg_boB (fun d hd ν4 lw4 sw4 ws4 hg4 => ?_) _ lw2 _ w1 hgB
      have hd : d ∈ [se_boB_9, se_boB_9_1] := hd
      have p4 := hg4.2.2.2.2.2.2.1
      have d701 : ν4 701 = ν 701 := (p4 (701, ν 701) (List.mem_cons_of_mem _ (List.mem_cons_of_mem _ List.mem_cons_self))).2
      have d700 : ν4 700 = ν 700 := (p4 (700, ν 700) (List.mem_cons_of_mem _ List.mem_cons_self)).2
      have d702 : ν4 702 = .int (gg x.toNatClampNeg - f x.toNatClampNeg) := (p4 (702, .int (gg x.toNatClampNeg - f x.toNatClampNeg)) List.mem_cons_self).2
      have psp4 : ∀ q ∈ spin C_bo0 μ, q.1 < 1000 ∧ ν4 q.1 = q.2 := fun q hq => p4 q (List.mem_cons_of_mem _ (sp2 q hq))
      rcases List.mem_cons.mp hd with e1 | hd
      · subst e1
        have hs4 : sw4 = [] := hg4.2.1
        subst hs4
        have el : lw4 = [(0, ν4 0), (1, ν4 1), (2, ν4 2), (3, ν4 700), (4, ν4 500), (6, ν4 501), (7, ν4 502)] := hg4.1
        have r1 : vI (ν4 701) ≤ vI (ν4 501) + -1 := hg4.2.2.dl (a := 701) (b := 501) (c := -1) (by decide)
        obtain ⟨z, z1, z2, z3⟩ := hg4.2.2.rng (i := 501) (a := 1) (b := 16) (by decide)
        rw [d701, z1] at r1
        have r1 : vI (ν 701) ≤ z.toInt + -1 := r1
        refine back _ ν4 lw4 ws4 _ 700 501 hg4 psp4 (by decide +kernel) (by rw [el]; exact ⟨by simp, by simp⟩) (by rw [el]; simp) (by rw [z1]; show _ < z.toInt; omega) (by rw [z1]; exact z3) (fun x9 hx9 => by rw [d700] at hx9; exact hbest x9 hx9)
      · have e1 := List.mem_singleton.mp hd
        subst e1
        have hs4 : sw4 = [] := hg4.2.1
        subst hs4
        have el : lw4 = [(0, ν4 0), (1, ν4 1), (2, ν4 2), (3, ν4 701), (4, ν4 500), (6, ν4 501), (7, ν4 502), (8, ν4 500)] := hg4.1
        have r1 : vI (ν4 701) ≤ vI (ν4 501) + -1 := hg4.2.2.dl (a := 701) (b := 501) (c := -1) (by decide)
        obtain ⟨z, z1, z2, z3⟩ := hg4.2.2.rng (i := 501) (a := 1) (b := 16) (by decide)
        rw [d701, z1] at r1
        have r1 : vI (ν 701) ≤ z.toInt + -1 := r1
        obtain ⟨z8, t1, t2, t3⟩ := hg4.2.2.rng (i := 702) (a := 1) (b := 9) (by decide)
        rw [d702] at t1
        cases t1
        obtain ⟨z9, w1', w2, w3⟩ := hg4.2.2.rng (i := 2) (a := 0) (b := 0) (by decide)
        have hw0 : vI (μ 2) = 0 := by
          have := (psp4 (2, μ 2) (spin1 (C := C_bo0) 2 (by decide))).2
          have this : ν4 2 = μ 2 := this
          rw [← this, w1']
          show z9.toInt = 0
          omega
        refine back _ ν4 lw4 ws4 _ 701 501 hg4 psp4 (by decide +kernel) (by rw [el]; exact ⟨by simp, by simp⟩) (by rw [el]; simp) (by rw [z1]; show _ < z.toInt; omega) (by rw [z1]; exact z3) (fun x9 hx9 h09 => ?_)
        rw [d701, ← b701, x1] at hx9
        cases hx9
        have hop : OPx G ad ws2 (decide (vI (μ 2) = 0)) x := ⟨f, gg, y1, y2, Or.inl ⟨by rw [hw0]; rfl, by omega⟩⟩
        exact hop.bak hs0 hF02 (by decide) (by decide)
    rcases List.mem_cons.mp hd with e1 | hd
    · -- what = 1
      subst e1
      obtain ⟨x, f, x1, x2, x3, x4, x5, x6, x7, x8⟩ := AG.elem (i := 701) (r := 501) (k := 10) (n := 16) (a := 0) (b := 15) hg2 (by decide) (by decide) (by decide) rfl rfl rfl
      have x2 : sw2 = [.int x, .ref (ad 10)] := x2
      rw [x2]
      refine z_iald X d_bo_54 10 x3 x5 rfl ?_
      have hgB := (AG.stk (st2 := []) hg2).pushN (n := 702) (t := (0, 0, 9)) (v := .int (f x.toNatClampNeg)) (by decide) (by decide) (pfree 702 (by decide)) (vty_i (x4 _ x8).1 (x4 _ x8).2.1)
      refine aseg (C := sC_boD) (PO := BOP G ad w0 μ) (fld := fld_10) (put := put_10) (cst := cst_10) (cstl := cstl_10) (hk := hk0) (tab := D_X10_bestOunce) (rk := 1) (pids := [0, 1, 2, 100, 700, 701, 704, 702]) D_X10_bestOunce_ok X rfl rfl hok0 (Or.inr (Or.inl ⟨rfl, rfl⟩)) (Nat.le_refl 0) (Nat.le_refl 0) (fun j hj => List.mem_cons_of_mem _ (sp2 _ (spin1 (C := C_bo0) j hj))) (fun j hj => List.mem_cons_of_mem _ (sp2 _ (spin2 (C := C_bo0) j hj))) (noret w0) fld_10_ok put_10_ok cst_10_ok cstl_10_ok (sl_boD_ok l G) (Nat.le_refl 0) (Nat.le_refl 0) (fun q hq => by
        rcases List.mem_cons.mp hq with e1 | hq
        · rw [e1]; exact (by decide : (702 : Nat) ∈ [0, 1, 2, 100, 700, 701, 704, 702])
        · have hsub : ∀ z ∈ [0, 1, 2, 100, 700, 701, 704], z ∈ [0, 1, 2, 100, 700, 701, 704, 702] := by decide
          exact hsub _ (hids q hq)) sg_boD (fun d hd ν4 lw4 sw4 ws4 hg4 => ?_) _ lw2 _ ws2 hgB
      have hd : d ∈ [se_boD_9, se_boD_9_1] := hd
      have p4 := hg4.2.2.2.2.2.2.1
      have d701 : ν4 701 = ν 701 := (p4 (701, ν 701) (List.mem_cons_of_mem _ (List.mem_cons_of_mem _ List.mem_cons_self))).2
      have d700 : ν4 700 = ν 700 := (p4 (700, ν 700) (List.mem_cons_of_mem _ List.mem_cons_self)).2
      have d702 : ν4 702 = .int (f x.toNatClampNeg) := (p4 (702, .int (f x.toNatClampNeg)) List.mem_cons_self).2
      have psp4 : ∀ q ∈ spin C_bo0 μ, q.1 < 1000 ∧ ν4 q.1 = q.2 := fun q hq => p4 q (List.mem_cons_of_mem _ (sp2 q hq))
      rcases List.mem_cons.mp hd with e1 | hd
      · subst e1
        have hs4 : sw4 = [] := hg4.2.1
        subst hs4
        have el : lw4 = [(0, ν4 0), (1, ν4 1), (2, ν4 2), (3, ν4 700), (4, ν4 500), (6, ν4 501), (7, ν4 502)] := hg4.1
        have r1 : vI (ν4 701) ≤ vI (ν4 501) + -1 := hg4.2.2.dl (a := 701) (b := 501) (c := -1) (by decide)
        obtain ⟨z, z1, z2, z3⟩ := hg4.2.2.rng (i := 501) (a := 1) (b := 16) (by decide)
        rw [d701, z1] at r1
        have r1 : vI (ν 701) ≤ z.toInt + -1 := r1
        refine back _ ν4 lw4 ws4 _ 700 501 hg4 psp4 (by decide +kernel) (by rw [el]; exact ⟨by simp, by simp⟩) (by rw [el]; simp) (by rw [z1]; show _ < z.toInt; omega) (by rw [z1]; exact z3) (fun x9 hx9 => by rw [d700] at hx9; exact hbest x9 hx9)
      · have e1 := List.mem_singleton.mp hd
        subst e1
        have hs4 : sw4 = [] := hg4.2.1
        subst hs4
        have el : lw4 = [(0, ν4 0), (1, ν4 1), (2, ν4 2), (3, ν4 701), (4, ν4 500), (6, ν4 501), (7, ν4 502), (8, ν4 500)] := hg4.1
        have r1 : vI (ν4 701) ≤ vI (ν4 501) + -1 := hg4.2.2.dl (a := 701) (b := 501) (c := -1) (by decide)
        obtain ⟨z, z1, z2, z3⟩ := hg4.2.2.rng (i := 501) (a := 1) (b := 16) (by decide)
        rw [d701, z1] at r1
        have r1 : vI (ν 701) ≤ z.toInt + -1 := r1
        obtain ⟨z8, t1, t2, t3⟩ := hg4.2.2.rng (i := 702) (a := 1) (b := 9) (by decide)
        rw [d702] at t1
        cases t1
        obtain ⟨z9, w1, w2, w3⟩ := hg4.2.2.rng (i := 2) (a := 1) (b := 1) (by decide)
        have hw0 : vI (μ 2) = 1 := by
          have := (psp4 (2, μ 2) (spin1 (C := C_bo0) 2 (by decide))).2
          have this : ν4 2 = μ 2 := this
          rw [← this, w1]
          show z9.toInt = 1
          omega
        refine back _ ν4 lw4 ws4 _ 701 501 hg4 psp4 (by decide +kernel) (by rw [el]; exact ⟨by simp, by simp⟩) (by rw [el]; simp) (by rw [z1]; show _ < z.toInt; omega) (by rw [z1]; exact z3) (fun x9 hx9 h09 => ?_)
        rw [d701, ← b701, x1] at hx9
        cases hx9
        obtain ⟨g, u2, -⟩ := WT.ints (k := 9) (n := 16) hg2.2.2.2.2.2.2.2.1 rfl
        have hop : OPx G ad ws2 (decide (vI (μ 2) = 0)) x := ⟨f, g, x3, u2, Or.inr ⟨by rw [hw0]; rfl, by omega⟩⟩
        exact hop.bak hs0 hg2.2.2.2.2.2.2.2.2 (by decide) (by decide)
    · have e1 := List.mem_singleton.mp hd
      subst e1
      have hs : sw2 = [ν2 700] := hg2.2.1
      obtain ⟨z, z1, z2, z3⟩ := hg2.2.2.rng (i := 700) (a := -2) (b := 15) (by decide)
      rw [hs, z1]
      exact z_iret X rfl d_bo_122 (Nat.le_refl 0) (Nat.le_refl 0) ⟨hg2.2.2.2.2.2.2.2.1, hg2.2.2.2.2.2.2.2.2, z, rfl, z2, z3, hbest z (by rw [← b700]; exact z1)⟩
end BO
theorem ac_bestOunce (l : Launch) (G : KG) : ∀ (ad : Nat → Nat) (w0 : va_W) (μ : Nat → Value), WT G ad TX w0 → PRE ad C_bo0 μ w0 → Ct l G yX10_bestOunce cX10_bestOunce 10 (some .int) (rmOf C_bo0) [μ 0, μ 1, μ 2] w0 (BOP G ad w0 μ) := by
  refine hand_ofP (C := C_bo0) (by decide) (by decide) (by decide) (by decide) (by decide) ?_
  intro p e s m args below meth c A X ad w0 μ lw hW hPre hg
  refine aseg (C := sC_boS) (PO := BOP G ad w0 μ) (fld := fld_10) (put := put_10) (cst := cst_10) (cstl := cstl_10) (hk := hk0) (tab := D_X10_bestOunce) (rk := 1) (pids := [0, 1, 2, 100]) D_X10_bestOunce_ok X rfl rfl hok0 (Or.inr (Or.inl ⟨rfl, rfl⟩)) (Nat.le_refl 0) (Nat.le_refl 0) (spin1 (C := C_bo0)) (spin2 (C := C_bo0)) (fun r w1 h => by
    obtain ⟨A1, hA1, -⟩ := h
    cases hA1) fld_10_ok put_10_ok cst_10_ok cstl_10_ok (sl_boS_ok l G) (Nat.le_refl 0) (Nat.le_refl 0) spin3 sg_boS (fun d hd ν2 lw2 sw2 ws2 hg2 => ?_) μ lw [] w0 hg
  rw [List.mem_singleton.mp hd] at hg2 ⊢
  have hs : sw2 = [] := hg2.2.1
  subst hs
  obtain ⟨ν', lw', q1, q2⟩ := bo_head (μ := μ) hg2 hg2.2.2.2.2.2.2.1 (by decide +kernel)
  refine Z.mono q2 (bo_loop hW X _ ν' lw' ws2 q1 (Nat.lt_succ_self _) (fun x hx h0 => ?_))
  have el : lw2 = [(0, ν2 0), (1, ν2 1), (2, ν2 2), (3, ν2 500), (4, ν2 501), (6, ν2 502)] := hg2.1
  have e1 : lw' = boH.2.1.1.map (fun q => (q.1, ν' q.2.1)) := q1.1
  have m3 : (3, ν' 700) ∈ lw' := by rw [e1]; exact List.mem_map.mpr ⟨(3, 700, false), by decide, rfl⟩
  have m3 := q2 _ m3
  rw [el] at m3
  have m3 : ν' 700 = ν2 500 := by simpa using m3
  obtain ⟨z, z1, z2, z3⟩ := hg2.2.2.rng (i := 500) (a := -2) (b := -2) (by decide)
  rw [m3, z1] at hx
  cases hx
  omega
