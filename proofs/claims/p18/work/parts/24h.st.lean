theorem lwv {σ : AS} {ν : Nat → Value} {lw : List (Nat × Value)} (e : lw = σ.1.map (fun q => (q.1, ν q.2.1))) {i n : Nat} {b : Bool} (h : (i, n, b) ∈ σ.1) : (i, ν n) ∈ lw := by rw [e]; exact List.mem_map.mpr ⟨(i, n, b), h, rfl⟩
section HL5
variable {G : KG} {T : List TE} {ad : Nat → Nat} {mk mk2 : List (Nat × Nat)} {w0 : va_W} {pin : List (Nat × Value)}
variable {lv : ALv} {st : List Nat} {ev : AEv} {ca : ACa} {rl : ARl} {nx : Nat} {ν : Nat → Value} {ws : va_W} {lw : List (Nat × Value)} {sw : List Value}
/-- another world, from which all begins anew -/
theorem AG.worldR {msk : List (Nat × Nat)} {w1 : va_W} {st2 : List Nat} (h : AG G ad T mk w0 pin (lv, st, ev, ca, rl, nx) ν lw sw ws) (hW : WT G ad T w1) (hF : FRM msk ws w1) : AG G ad T mk2 w1 pin (lv, st2, ev, ca.filter (fun q => !(mkq msk q.1 q.2.1)), rl, nx) ν lw (st2.map ν) w1 := by
  obtain ⟨h1, h2, h3⟩ := h
  refine ⟨h1, rfl, h3.1, h3.2.1, fun q hq => ?_, h3.2.2.2.1, h3.2.2.2.2.1, hW, rfl, fun _ _ _ => rfl⟩
  obtain ⟨m1, m2⟩ := List.mem_filter.mp hq
  refine fget_frame hF ?_ (h3.2.2.1 q m1)
  cases e9 : mkq msk q.1 q.2.1 with
  | false => rfl
  | true => rw [e9] at m2; cases m2
end HL5
section ST
variable {p : Program} {l : Launch} {e : Env} {s : State} {m : MethodId} {args : Array Value} {below : List Frame} {meth : Method} {c : Code} {G : KG} {A : Nat → Prop} {ad : Nat → Nat} {w0 : va_W} {μ : Nat → Value}
abbrev STpo (G : KG) (ad : Nat → Nat) (w0 : va_W) (μ : Nat → Value) : Option Value → va_W → Prop := fun r w1 => POST G ad TM C_settle μ w0 r w1
def STi (G : KG) (ad : Nat → Nat) (ws : va_W) (h v : Value) : Prop := ∀ x k : Int32, h = .int x → v = .int k → 0 ≤ x.toInt → (k.toInt = 1 ∧ OPr G ad ws true x) ∨ (k.toInt = -1 ∧ OPr G ad ws false x)
theorem st_inner (X : ZC p s m args meth c cX11_settle 9 RX11 G A (some .int) "settle") {nn : Int}
    (hK : ∀ (ν : Nat → Value) (lw : List (Nat × Value)) (ws : va_W), AG G ad TM C_settle.2.2.2.2.1 w0 (spin C_settle μ) st16.2.1 ν lw [] ws → vI (ν 720) = nn + 1 → Z p l e (rmOf C_settle) s m args below meth c 9 G A (MQ below (QQ G A (STpo G ad w0 μ)) args s 0 0 A) 16 lw [] ws 0 0) :
    ∀ (n : Nat) (ν : Nat → Value) (lw : List (Nat × Value)) (ws : va_W), AG G ad TM C_settle.2.2.2.2.1 w0 (spin C_settle μ) st44.2.1 ν lw [] ws → (2 - vI (ν 724)).toNat < n → vI (ν 720) = nn → STi G ad ws (ν 722) (ν 723) → Z p l e (rmOf C_settle) s m args below meth c 9 G A (MQ below (QQ G A (STpo G ad w0 μ)) args s 0 0 A) 44 lw [] ws 0 0
  | 0, _, _, _, _, h9, _, _ => absurd h9 (Nat.not_lt_zero _)
  | n + 1, ν, lw, ws, hg, h9, hnn, hinv => by
    have h3 := hg.2.2
    obtain ⟨pinA, hpA⟩ : ∃ pinA, pinA = [(720, ν 720), (721, ν 721), (722, ν 722), (723, ν 723), (724, ν 724)] ++ spin C_settle μ := ⟨_, rfl⟩
    have hpm : ∀ q ∈ pinA, q.1 ∈ [0, 1, 720, 721, 722, 723, 724] ∧ ν q.1 = q.2 := fun q hq => by
      rw [hpA] at hq
      rcases List.mem_append.mp hq with hq | hq
      · simp only [List.mem_cons, List.not_mem_nil, or_false] at hq
        rcases hq with rfl | rfl | rfl | rfl | rfl <;> exact ⟨by simp, rfl⟩
      · have h1 := spin3 q hq
        have h1 : q.1 ∈ [0, 1] := h1
        exact ⟨by
          have hsub : ∀ z ∈ [0, 1], z ∈ [0, 1, 720, 721, 722, 723, 724] := by decide
          exact hsub _ h1, (h3.2.2.2.2.1 q hq).2⟩
    have hlt : ∀ z ∈ [0, 1, 720, 721, 722, 723, 724], z < 1000 := by decide
    have sp2 : ∀ q ∈ spin C_settle μ, q ∈ pinA := fun q hq => by rw [hpA]; exact List.mem_append_right _ hq
    have pm : ∀ q ∈ [(720, ν 720), (721, ν 721), (722, ν 722), (723, ν 723), (724, ν 724)], q ∈ pinA := fun q hq => by rw [hpA]; exact List.mem_append_left _ hq
    have hgA := hg.pins (pin2 := pinA) (fun q hq => ⟨hlt _ (hpm q hq).1, (hpm q hq).2⟩)
    have hF0 := h3.2.2.2.2.2.2
    have hgQ : AG G ad TM sC_stQ.2.2.2.2.1 ws pinA ss_stQ ν lw [] ws := AG.rew (st2 := []) hgA
    have hPO : ∀ (wa : va_W), FRM C_settle.2.2.2.2.1 w0 wa → ∀ r w1, POST G ad TM sC_stQ μ wa r w1 → STpo G ad w0 μ r w1 := fun wa hwa r w1 h => POST.mono (C := sC_stQ) (C' := C_settle) h rfl hwa (by decide)
    refine aseg (C := sC_stQ) (PO := STpo G ad w0 μ) (fld := fld_11) (put := put_11) (cst := cst_11) (cstl := cstl_11) (hk := hk0) (tab := D_X11_settle) (rk := 1) (pids := [0, 1, 720, 721, 722, 723, 724]) D_X11_settle_ok X rfl rfl hok0 (Or.inr (Or.inl ⟨rfl, rfl⟩)) (Nat.le_refl 0) (Nat.le_refl 0) (fun j hj => sp2 _ (spin1 (C := C_settle) j hj)) (fun j hj => sp2 _ (spin2 (C := C_settle) j hj)) (hPO ws hF0) fld_11_ok put_11_ok cst_11_ok cstl_11_ok (sl_stQ_ok l G) (Nat.le_refl 0) (Nat.le_refl 0) (fun q hq => (hpm q hq).1) sg_stQ (fun d hd ν2 lw2 sw2 ws2 hg2 => ?_) ν lw [] ws hgQ
    have hd : d ∈ [se_stQ_54, se_stQ_114] := hd
    have p2 := hg2.2.2.2.2.2.2.1
    have b720 : ν2 720 = ν 720 := (p2 (720, ν 720) (pm _ (by simp))).2
    have b722 : ν2 722 = ν 722 := (p2 (722, ν 722) (pm _ (by simp))).2
    have b723 : ν2 723 = ν 723 := (p2 (723, ν 723) (pm _ (by simp))).2
    have b724 : ν2 724 = ν 724 := (p2 (724, ν 724) (pm _ (by simp))).2
    have hF2 := hg2.2.2.2.2.2.2.2.2
    rcases List.mem_cons.mp hd with e1 | hd
    · subst e1
      have hs : sw2 = [ν2 724, ν2 1, ν2 0] := hg2.2.1
      have h0 : ν2 0 = .ref (ad 0) := hg2.2.2.ref (i := 0) rfl
      obtain ⟨fs, hv, u1, u2, u3, u4⟩ := WT.obj (T := TM) (k := 0) (j := 3) hg2.2.2.2.2.2.2.2.1 rfl rfl
      obtain ⟨μ', hμ⟩ : ∃ μ' : Nat → Value, μ' = fun i => if i = 0 then ν2 0 else if i = 1 then ν2 1 else if i = 2 then ν2 724 else hv := ⟨_, rfl⟩
      have m0 : μ' 0 = ν2 0 := by rw [hμ]; rfl
      have m1 : μ' 1 = ν2 1 := by rw [hμ]; rfl
      have m2 : μ' 2 = ν2 724 := by rw [hμ]; rfl
      have m100 : μ' 100 = hv := by rw [hμ]; rfl
      have hpre : PRE ad C_ounceOf μ' ws2 := by
        refine ⟨fun j t hj => ?_, fun j q hj => ?_, fun q hq => by cases hq⟩
        · have ev2 := hg2.2.2.2.1
          match j, hj with
          | 0, hj => cases hj; rw [m0]; exact ev2 (0, (2, 0, 0)) (by decide)
          | 1, hj => cases hj; rw [m1]; exact ev2 (1, (0, 0, 1)) (by decide)
          | 2, hj => cases hj; rw [m2]; exact ev2 (724, (0, 0, 1)) (by decide)
          | n + 3, hj => cases hj
        · match j, hj with
          | 0, hj =>
            cases hj
            refine ⟨by rw [m100]; exact u4, ?_⟩
            show fget ws2 0 3 = some (μ' 100)
            rw [m100, fget_of u1]; exact u3
          | n + 1, hj => cases hj
      have hct := ac_ounceOf l G ad ws2 μ' hg2.2.2.2.2.2.2.2.1 hpre
      rw [m0, h0] at hct
      have hFw2 : FRM C_settle.2.2.2.2.1 w0 ws2 := frm_trans hF0 hF2 (by decide)
      refine hcallV (T := TM) (k := 0) (rest := []) (avs := [μ' 1, μ' 2]) X k_11_424 hct d_st_54 hg2.2.2.2.2.2.2.2.1 rfl rfl rfl rfl ⟨by decide, by decide⟩ ⟨Nat.le_refl 0, Nat.le_refl 0⟩ (by decide) (by rw [hs, m1, m2, h0]; rfl) (fun r w1 hp => ?_)
      obtain ⟨q1, q2, x, rfl, x1, x2, x3⟩ := hp
      have hgw : AG G ad TM sC_stR.2.2.2.2.1 w1 pinA (se_stQ_54.2.1.1, [], se_stQ_54.2.1.2.2.1, [], se_stQ_54.2.1.2.2.2.2.1, 1000) ν2 lw2 [] w1 := AG.worldR (st2 := []) hg2 q1 q2
      have hgR := hgw.pushN (n := 725) (t := (0, -1, 15)) (v := .int x) (by decide) (by decide) (fun q hq e9 => by
        have h1 := (hpm q hq).1
        rw [e9] at h1
        revert h1
        decide) (vty_i x1 x2)
      have hFw1 : FRM C_settle.2.2.2.2.1 w0 w1 := frm_trans hFw2 q2 (by decide)
      refine aseg (C := sC_stR) (PO := STpo G ad w0 μ) (fld := fld_11) (put := put_11) (cst := cst_11) (cstl := cstl_11) (hk := hk0) (tab := D_X11_settle) (rk := 1) (pids := [0, 1, 720, 721, 722, 723, 724, 725]) D_X11_settle_ok X rfl rfl hok0 (Or.inr (Or.inl ⟨rfl, rfl⟩)) (Nat.le_refl 0) (Nat.le_refl 0) (fun j hj => List.mem_cons_of_mem _ (sp2 _ (spin1 (C := C_settle) j hj))) (fun j hj => List.mem_cons_of_mem _ (sp2 _ (spin2 (C := C_settle) j hj))) (hPO w1 hFw1) fld_11_ok put_11_ok cst_11_ok cstl_11_ok (sl_stR_ok l G) (Nat.le_refl 0) (Nat.le_refl 0) (fun q hq => by
        rcases List.mem_cons.mp hq with e1 | hq
        · rw [e1]; exact (by decide : (725 : Nat) ∈ [0, 1, 720, 721, 722, 723, 724, 725])
        · have hsub : ∀ z ∈ [0, 1, 720, 721, 722, 723, 724], z ∈ [0, 1, 720, 721, 722, 723, 724, 725] := by decide
          exact hsub _ (hpm q hq).1) sg_stR (fun d hd ν4 lw4 sw4 ws4 hg4 => ?_) _ lw2 _ w1 hgR
      have hd : d ∈ [se_stR_44, se_stR_44_1, se_stR_44_2] := hd
      have p4 := hg4.2.2.2.2.2.2.1
      have p4' : ∀ q ∈ pinA, ν4 q.1 = q.2 := fun q hq => (p4 q (List.mem_cons_of_mem _ hq)).2
      have d720 : ν4 720 = ν 720 := p4' (720, ν 720) (pm _ (by simp))
      have d722 : ν4 722 = ν 722 := p4' (722, ν 722) (pm _ (by simp))
      have d723 : ν4 723 = ν 723 := p4' (723, ν 723) (pm _ (by simp))
      have d724 : ν4 724 = ν 724 := p4' (724, ν 724) (pm _ (by simp))
      have d725 : ν4 725 = .int x := (p4 (725, .int x) List.mem_cons_self).2
      have hF4 := hg4.2.2.2.2.2.2.2.2
      have hW4 := hg4.2.2.2.2.2.2.2.1
      have hps : ∀ q ∈ spin C_settle μ, q.1 < 1000 ∧ ν4 q.1 = q.2 := fun q hq => ⟨hlt _ (hpm q (sp2 q hq)).1, p4' q (sp2 q hq)⟩
      have tr : ∀ w r, OPr G ad ws2 w r → OPr G ad ws4 w r := fun w r h => (h.frm q1 q2 (by decide) (by decide)).frm hW4 hF4 (by decide) (by decide)
      -- behind an iteration
      have back : ∀ (σ : AS) (b v h : Nat), AG G ad TM sC_stR.2.2.2.2.1 w1 ((725, .int x) :: pinA) σ ν4 lw4 [] ws4 → aarr (apids C_settle) none st44 σ = true → (∀ u, (2, u) ∈ lw4 → u = ν4 720) → (∀ u, (5, u) ∈ lw4 → u = ν4 b) → (∀ u, (6, u) ∈ lw4 → u = ν4 v) → (∀ u, (7, u) ∈ lw4 → u = ν4 h) → vI (ν 724) < vI (ν4 h) → vI (ν4 h) ≤ 2 → STi G ad ws4 (ν4 b) (ν4 v) → Z p l e (rmOf C_settle) s m args below meth c 9 G A (MQ below (QQ G A (STpo G ad w0 μ)) args s 0 0 A) 44 lw4 [] ws4 0 0 := by
        intro σ b v h hgs ha l2 l5 l6 l7 hlt2 hle hst
        have hgb := AG.rebase (mk := C_settle.2.2.2.2.1) (w0 := w0) hgs hFw1 (by decide)
        obtain ⟨ν', lw', r1, r2⟩ := AG.arrive (d := st44) (hgb.pins hps) spin3 ha (by decide)
        have k2 := l2 _ (r2 _ (lwv r1.1 (i := 2) (n := 720) (b := false) (by decide)))
        have k5 := l5 _ (r2 _ (lwv r1.1 (i := 5) (n := 722) (b := false) (by decide)))
        have k6 := l6 _ (r2 _ (lwv r1.1 (i := 6) (n := 723) (b := false) (by decide)))
        have k7 := l7 _ (r2 _ (lwv r1.1 (i := 7) (n := 724) (b := false) (by decide)))
        refine Z.mono r2 (st_inner X hK n ν' lw' ws4 r1 ?_ ?_ ?_)
        · rw [k7]; omega
        · rw [k2, d720]; exact hnn
        · rw [k5, k6]; exact hst
      rcases List.mem_cons.mp hd with e1 | hd
      · subst e1
        have hs4 : sw4 = [] := hg4.2.1
        subst hs4
        have el : lw4 = [(0, ν4 0), (1, ν4 1), (2, ν4 720), (3, ν4 721), (5, ν4 722), (6, ν4 723), (7, ν4 500), (8, ν4 725)] := hg4.1
        have r1 : vI (ν4 724) ≤ vI (ν4 500) + -1 := hg4.2.2.dl (a := 724) (b := 500) (c := -1) (by decide)
        obtain ⟨z, z1, z2, z3⟩ := hg4.2.2.rng (i := 500) (a := 1) (b := 2) (by decide)
        rw [d724] at r1
        refine back _ 722 723 500 hg4 (by decide +kernel) (by rw [el]; simp) (by rw [el]; simp) (by rw [el]; simp) (by rw [el]; simp) (by omega) (by rw [z1]; exact z3) ?_
        rw [d722, d723]
        intro x9 k9 h1 h2 h3
        rcases hinv x9 k9 h1 h2 h3 with ⟨a1, a2⟩ | ⟨a1, a2⟩
        · exact Or.inl ⟨a1, tr _ _ (a2.frm hg2.2.2.2.2.2.2.2.1 hF2 (by decide) (by decide))⟩
        · exact Or.inr ⟨a1, tr _ _ (a2.frm hg2.2.2.2.2.2.2.2.1 hF2 (by decide) (by decide))⟩
      rcases List.mem_cons.mp hd with e1 | hd
      · subst e1
        have hs4 : sw4 = [] := hg4.2.1
        subst hs4
        have el : lw4 = [(0, ν4 0), (1, ν4 1), (2, ν4 720), (3, ν4 500), (5, ν4 725), (6, ν4 501), (7, ν4 502), (8, ν4 725)] := hg4.1
        obtain ⟨z, z1, z2, z3⟩ := hg4.2.2.rng (i := 502) (a := 2) (b := 2) (by decide)
        obtain ⟨u, v1, v2, v3⟩ := hg4.2.2.rng (i := 501) (a := -1) (b := -1) (by decide)
        obtain ⟨t, t1, t2, t3⟩ := hg4.2.2.rng (i := 724) (a := 1) (b := 1) (by decide)
        have ht : vI (ν 724) = t.toInt := by rw [← d724, t1]; rfl
        refine back _ 725 501 502 hg4 (by decide +kernel) (by rw [el]; simp) (by rw [el]; simp) (by rw [el]; simp) (by rw [el]; simp) (by rw [z1, ht]; show _ < z.toInt; omega) (by rw [z1]; exact z3) ?_
        rw [d725, v1]
        intro x9 k9 h1 h2 h3
        cases h1
        cases h2
        have hop := x3 h3
        rw [m2, b724, ht] at hop
        have e9 : decide (t.toInt = 0) = false := by simp; omega
        rw [e9] at hop
        exact Or.inr ⟨by omega, tr _ _ hop⟩
      · have e1 := List.mem_singleton.mp hd
        subst e1
        have hs4 : sw4 = [] := hg4.2.1
        subst hs4
        have el : lw4 = [(0, ν4 0), (1, ν4 1), (2, ν4 720), (3, ν4 500), (5, ν4 725), (6, ν4 501), (7, ν4 502), (8, ν4 725)] := hg4.1
        obtain ⟨z, z1, z2, z3⟩ := hg4.2.2.rng (i := 502) (a := 1) (b := 1) (by decide)
        obtain ⟨u, v1, v2, v3⟩ := hg4.2.2.rng (i := 501) (a := 1) (b := 1) (by decide)
        obtain ⟨t, t1, t2, t3⟩ := hg4.2.2.rng (i := 724) (a := 0) (b := 0) (by decide)
        have ht : vI (ν 724) = t.toInt := by rw [← d724, t1]; rfl
        refine back _ 725 501 502 hg4 (by decide +kernel) (by rw [el]; simp) (by rw [el]; simp) (by rw [el]; simp) (by rw [el]; simp) (by rw [z1, ht]; show _ < z.toInt; omega) (by rw [z1]; show z.toInt ≤ 2; omega) ?_
        rw [d725, v1]
        intro x9 k9 h1 h2 h3
        cases h1
        cases h2
        have hop := x3 h3
        rw [m2, b724, ht] at hop
        have e9 : decide (t.toInt = 0) = true := by simp; omega
        rw [e9] at hop
        exact Or.inl ⟨by omega, tr _ _ hop⟩
    · have e1 := List.mem_singleton.mp hd
      subst e1
      obtain ⟨x, f, x1, x2, x3, x4, x5, x6, x7, x8⟩ := AG.elem (i := 722) (r := 500) (k := 6) (n := 16) (a := 0) (b := 15) hg2 (by decide) (by decide) (by decide) rfl rfl rfl
      have h5 : ν2 500 = .ref (ad 6) := hg2.2.2.ref (i := 500) rfl
      have x2 : sw2 = [.int x, .ref (ad 6), .int x, .ref (ad 6)] := by
        rw [x2]; show [_, _, ν2 722, ν2 500] = _; rw [x1, h5]
      obtain ⟨k, k1, k2, k3⟩ := hg2.2.2.rng (i := 723) (a := -1) (b := 1) (by decide)
      have el : lw2 = [(0, ν2 0), (1, ν2 1), (2, ν2 720), (3, ν2 721), (5, ν2 722), (6, ν2 723), (7, ν2 724)] := hg2.1
      have hop : (k.toInt = 1 ∧ OPr G ad ws2 true x) ∨ (k.toInt = -1 ∧ OPr G ad ws2 false x) := by
        rcases hinv x k (by rw [← b722]; exact x1) (by rw [← b723]; exact k1) x6 with ⟨a1, a2⟩ | ⟨a1, a2⟩
        · exact Or.inl ⟨a1, a2.frm hg2.2.2.2.2.2.2.2.1 hF2 (by decide) (by decide)⟩
        · exact Or.inr ⟨a1, a2.frm hg2.2.2.2.2.2.2.2.1 hF2 (by decide) (by decide)⟩
      have hfx := x4 _ x8
      have hfx1 : 0 ≤ (f x.toNatClampNeg).toInt := hfx.1
      have hfx2 : (f x.toNatClampNeg).toInt ≤ 9 := hfx.2.1
      have hsum : 0 ≤ (f x.toNatClampNeg + k).toInt ∧ (f x.toNatClampNeg + k).toInt ≤ 9 := by
        have e9 : (f x.toNatClampNeg + k).toInt = (f x.toNatClampNeg).toInt + k.toInt := tI_add rfl rfl (by omega)
        rw [e9]
        rcases hop with ⟨a1, f', g', c1, c2, c3⟩ | ⟨a1, f', g', c1, c2, c3⟩
        · rw [x3] at c1
          have ef : f = f' := Sum.inl.inj (congrArg (fun z : ClassId × vp_A => z.2.2) (Sum.inl.inj (congrArg Prod.snd (Option.some.inj c1))))
          subst ef
          rcases c3 with ⟨-, c3⟩ | ⟨c3, -⟩
          · obtain ⟨g0, u1, u2⟩ := WT.ints (T := TM) (k := 5) (n := 16) hg2.2.2.2.2.2.2.2.1 rfl
            rw [c2] at u1
            have eg : g' = g0 := Sum.inl.inj (congrArg (fun z : ClassId × vp_A => z.2.2) (Sum.inl.inj (congrArg Prod.snd (Option.some.inj u1))))
            subst eg
            have hg9 : (g' x.toNatClampNeg).toInt ≤ 9 := (u2 _ x8).2.1
            omega
          · cases c3
        · rw [x3] at c1
          have ef : f = f' := Sum.inl.inj (congrArg (fun z : ClassId × vp_A => z.2.2) (Sum.inl.inj (congrArg Prod.snd (Option.some.inj c1))))
          subst ef
          rcases c3 with ⟨c3, -⟩ | ⟨-, c3⟩
          · cases c3
          · omega
      rw [x2]
      refine z_iald X d_st_114 6 x3 x5 rfl ?_
      refine z_iload X d_st_115 5 (x := k) (by rw [el, k1]; rfl) ?_
      refine z_iadd X d_st_117 ?_
      refine z_iast X d_st_118 6 x3 x5 rfl ?_
      have hgb := AG.rebase (mk := C_settle.2.2.2.2.1) (w0 := w0) hg2 hF0 (by decide)
      have g3 := hgb.2.2.setA (k := 6) (te := .inr (0, 16, (0, 0, 9))) (y := (cyI G, 16, .inl (upd f x.toNatClampNeg (f x.toNatClampNeg + k)))) rfl x3 (Or.inl ⟨rfl, _, rfl, aint_upd x4 hsum.1 hsum.2 (fun e => by cases e)⟩) (fun n' t' e' g2 => by
        cases e'
        exact absurd g2 (by decide)) (by decide)
      have hgU : AG G ad TM sC_stU.2.2.2.2.1 w0 pinA ss_stU ν2 lw2 [] (ws2.set 6 (ad 6, aI G 16 (upd f x.toNatClampNeg (f x.toNatClampNeg + k)))) := ⟨hg2.1, rfl, g3⟩
      refine aseg (C := sC_stU) (PO := STpo G ad w0 μ) (fld := fld_11) (put := put_11) (cst := cst_11) (cstl := cstl_11) (hk := hk0) (tab := D_X11_settle) (rk := 1) (pids := [0, 1, 720, 721, 722, 723, 724]) D_X11_settle_ok X rfl rfl hok0 (Or.inr (Or.inl ⟨rfl, rfl⟩)) (Nat.le_refl 0) (Nat.le_refl 0) (fun j hj => sp2 _ (spin1 (C := C_settle) j hj)) (fun j hj => sp2 _ (spin2 (C := C_settle) j hj)) (fun r w1 h => h) fld_11_ok put_11_ok cst_11_ok cstl_11_ok (sl_stU_ok l G) (Nat.le_refl 0) (Nat.le_refl 0) (fun q hq => (hpm q hq).1) sg_stU (fun d hd ν4 lw4 sw4 ws4 hg4 => ?_) ν2 lw2 [] _ hgU
      rw [List.mem_singleton.mp hd] at hg4 ⊢
      have hs4 : sw4 = [] := hg4.2.1
      subst hs4
      have p4 := hg4.2.2.2.2.2.2.1
      have d720 : ν4 720 = ν 720 := (p4 (720, ν 720) (pm _ (by simp))).2
      have r1 : vI (ν4 720) ≤ vI (ν4 500) + -1 := hg4.2.2.dl (a := 720) (b := 500) (c := -1) (by decide)
      have r2 : vI (ν4 500) ≤ vI (ν4 720) + 1 := hg4.2.2.dl (a := 500) (b := 720) (c := 1) (by decide)
      obtain ⟨ν', lw', q1, q2⟩ := AG.arrive (d := st16) (hg4.pins (pin2 := spin C_settle μ) (fun q hq => p4 q (sp2 q hq))) spin3 (by decide +kernel) (by decide)
      have m2 := q2 _ (lwv q1.1 (i := 2) (n := 720) (b := false) (by decide))
      have el4 : lw4 = [(0, ν4 0), (1, ν4 1), (2, ν4 500), (3, ν4 721), (5, ν4 722), (6, ν4 723), (7, ν4 724)] := hg4.1
      rw [el4] at m2
      have m2 : ν' 720 = ν4 500 := by simpa using m2
      refine Z.mono q2 (hK ν' lw' ws4 q1 ?_)
      rw [m2]
      rw [d720] at r1 r2
      omega
theorem st_outer (X : ZC p s m args meth c cX11_settle 9 RX11 G A (some .int) "settle") : ∀ (n : Nat) (ν : Nat → Value) (lw : List (Nat × Value)) (ws : va_W), AG G ad TM C_settle.2.2.2.2.1 w0 (spin C_settle μ) st16.2.1 ν lw [] ws → (200 - vI (ν 720)).toNat < n → Z p l e (rmOf C_settle) s m args below meth c 9 G A (MQ below (QQ G A (STpo G ad w0 μ)) args s 0 0 A) 16 lw [] ws 0 0
  | 0, _, _, _, _, h9 => absurd h9 (Nat.not_lt_zero _)
  | n + 1, ν, lw, ws, hg, h9 => by
    have h3 := hg.2.2
    have hgA := hg.pins (pin2 := (720, ν 720) :: spin C_settle μ) (fun q hq => by
      rcases List.mem_cons.mp hq with e1 | hq
      · rw [e1]; exact ⟨(by decide : (720 : Nat) < 1000), rfl⟩
      · exact h3.2.2.2.2.1 q hq)
    refine aseg (C := sC_stP) (PO := STpo G ad w0 μ) (fld := fld_11) (put := put_11) (cst := cst_11) (cstl := cstl_11) (hk := hk0) (tab := D_X11_settle) (rk := 1) (pids := [0, 1, 720]) D_X11_settle_ok X rfl rfl hok0 (Or.inr (Or.inl ⟨rfl, rfl⟩)) (Nat.le_refl 0) (Nat.le_refl 0) (fun j hj => List.mem_cons_of_mem _ (spin1 (C := C_settle) j hj)) (fun j hj => List.mem_cons_of_mem _ (spin2 (C := C_settle) j hj)) (fun r w1 h => h) fld_11_ok put_11_ok cst_11_ok cstl_11_ok (sl_stP_ok l G) (Nat.le_refl 0) (Nat.le_refl 0) (fun q hq => by
      rcases List.mem_cons.mp hq with e1 | hq
      · rw [e1]; exact (by decide : (720 : Nat) ∈ [0, 1, 720])
      · have h1 : q.1 ∈ [0, 1] := spin3 q hq
        have hsub : ∀ z ∈ [0, 1], z ∈ [0, 1, 720] := by decide
        exact hsub _ h1) sg_stP (fun d hd ν4 lw4 sw4 ws4 hg4 => ?_) ν lw [] ws hgA
    rw [List.mem_singleton.mp hd] at hg4 ⊢
    have hs4 : sw4 = [] := hg4.2.1
    subst hs4
    have p4 := hg4.2.2.2.2.2.2.1
    have d720 : ν4 720 = ν 720 := (p4 (720, ν 720) List.mem_cons_self).2
    obtain ⟨ν', lw', q1, q2⟩ := AG.arrive (d := st44) (hg4.pins (pin2 := spin C_settle μ) (fun q hq => p4 q (List.mem_cons_of_mem _ hq))) spin3 (by decide +kernel) (by decide)
    have el4 : lw4 = [(0, ν4 0), (1, ν4 1), (2, ν4 720), (3, ν4 500), (5, ν4 501), (6, ν4 502), (7, ν4 503)] := hg4.1
    have m2 := q2 _ (lwv q1.1 (i := 2) (n := 720) (b := false) (by decide))
    have m5 := q2 _ (lwv q1.1 (i := 5) (n := 722) (b := false) (by decide))
    rw [el4] at m2 m5
    have m2 : ν' 720 = ν4 720 := by simpa using m2
    have m5 : ν' 722 = ν4 501 := by simpa using m5
    obtain ⟨z, z1, z2, z3⟩ := hg4.2.2.rng (i := 501) (a := -1) (b := -1) (by decide)
    obtain ⟨y, y1, y2, y3⟩ := hg4.2.2.rng (i := 720) (a := 0) (b := 199) (by decide)
    have hy : vI (ν 720) = y.toInt := by rw [← d720, y1]; rfl
    refine Z.mono q2 (st_inner X (nn := vI (ν 720)) (fun ν5 lw5 ws5 hg5 h5 => st_outer X n ν5 lw5 ws5 hg5 (by omega)) _ ν' lw' ws4 q1 (Nat.lt_succ_self _) (by rw [m2, d720]) (fun x k hx hk h0 => ?_))
    rw [m5, z1] at hx
    cases hx
    omega
end ST
theorem ac_settle (l : Launch) (G : KG) : ACt l G TM yX11_settle cX11_settle 9 (some .int) C_settle := by
  refine hand_of (by decide) (by decide) (by decide) (by decide) (by decide) ?_
  intro p e s m args below meth c A X ad w0 μ lw hW hPre hg
  refine aseg (C := sC_stO) (PO := STpo G ad w0 μ) (fld := fld_11) (put := put_11) (cst := cst_11) (cstl := cstl_11) (hk := hk0) (tab := D_X11_settle) (rk := 1) (pids := [0, 1]) D_X11_settle_ok X rfl rfl hok0 (Or.inr (Or.inl ⟨rfl, rfl⟩)) (Nat.le_refl 0) (Nat.le_refl 0) (spin1 (C := C_settle)) (spin2 (C := C_settle)) (fun r w1 h => h) fld_11_ok put_11_ok cst_11_ok cstl_11_ok (sl_stO_ok l G) (Nat.le_refl 0) (Nat.le_refl 0) spin3 sg_stO (fun d hd ν2 lw2 sw2 ws2 hg2 => ?_) μ lw [] w0 hg
  rw [List.mem_singleton.mp hd] at hg2 ⊢
  have hs : sw2 = [] := hg2.2.1
  subst hs
  obtain ⟨ν', lw', q1, q2⟩ := AG.arrive (d := st16) hg2 spin3 (by decide +kernel) (by decide)
  exact Z.mono q2 (st_outer X _ ν' lw' ws2 q1 (Nat.lt_succ_self _))
