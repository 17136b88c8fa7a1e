section
section HL4
variable {l : Launch} {G : KG} {T : List TE} {cc : ByteArray} {nL : Nat} {ret : Option FieldType} {C : CE} {y : MethodName}
/-- from its start, to a post of one's own -/
theorem hand_ofP {PO : (Nat → Nat) → va_W → (Nat → Value) → Option Value → va_W → Prop} (hy : plainName y.cls = true) (c3 : aslots C.1 ≤ nL) (c4 : ∀ t ∈ C.1, t.1 ≤ 2) (c1 : C.1.length ≤ 50) (c2 : C.2.1.length ≤ 100)
    (body : ∀ (p : Program) (e : Env) (s : State) (m : MethodId) (args : Array Value) (below : List Frame) (meth : Method) (c : Code) (A : Nat → Prop), ZC p s m args meth c cc nL y.cls G A ret y.name → ∀ (ad : Nat → Nat) (w0 : va_W) (μ : Nat → Value) (lw : List (Nat × Value)), WT G ad T w0 → PRE ad C μ w0 → AG G ad T C.2.2.2.2.1 w0 (spin C μ) (ast0 C) μ lw [] w0 → Z p l e (rmOf C) s m args below meth c nL G A (MQ below (QQ G A (PO ad w0 μ)) args s 0 0 A) 0 lw [] w0 0 0) : ∀ (ad : Nat → Nat) (w0 : va_W) (μ : Nat → Value), WT G ad T w0 → PRE ad C μ w0 → Ct l G y cc nL ret (rmOf C) ((List.range C.1.length).map μ) w0 (PO ad w0 μ) := by
  intro ad w0 μ hW hPre
  obtain ⟨r1, r2, r3⟩ := lv0_ok (μ := μ) (ad := ad) C.1 0 0 c4 (fun k t hk => by rw [Nat.zero_add]; exact hPre.1 k t hk)
  rw [List.range_eq_range']
  refine ct_of _ hy (by rw [r3]; exact c3) rfl ?_
  intro p e s m args below meth c A X
  refine body p e s m args below meth c A X ad w0 μ _ hW hPre ⟨r1, rfl, r2, fun q hq => ?_, fun q hq => ?_, hPre.2.2, ?_, hW, rfl, fun k j _ => rfl⟩
  · rcases List.mem_append.mp hq with hq | hq
    · obtain ⟨z, hz, rfl⟩ := List.mem_map.mp hq
      exact hPre.1 z.2 z.1 (zipIdx_mem hz)
    · obtain ⟨z, hz, rfl⟩ := List.mem_map.mp hq
      exact (hPre.2.1 z.2 z.1 (zipIdx_mem hz)).1
  · obtain ⟨z, hz, rfl⟩ := List.mem_map.mp hq
    exact (hPre.2.1 z.2 z.1 (zipIdx_mem hz)).2
  · intro q hq
    rcases List.mem_append.mp hq with hq | hq
    · obtain ⟨j, hj, rfl⟩ := List.mem_map.mp hq
      have := List.mem_range.mp hj
      exact ⟨by show j < 1000; omega, rfl⟩
    · obtain ⟨j, hj, rfl⟩ := List.mem_map.mp hq
      have := List.mem_range.mp hj
      exact ⟨by show 100 + j < 1000; omega, rfl⟩
variable {p : Program} {e : Env} {R : Room} {s : State} {m : MethodId} {args : Array Value} {below : List Frame} {meth : Method} {c : Code} {A : Nat → Prop} {Q : State → Prop} {own : String} {nm : String} {kc ks : Nat}
variable {ad : Nat → Nat} {mk : List (Nat × Nat)} {w0 : va_W} {pin : List (Nat × Value)}
variable {lv : ALv} {st : List Nat} {ev : AEv} {ca : ACa} {rl : ARl} {nx pc : Nat} {ν : Nat → Value} {ws : va_W} {lw : List (Nat × Value)} {sw : List Value}
/-- a call by hand -/
theorem hcallV (X : ZC p s m args meth c cc nL own G A ret nm) {idx mx n : Nat} {Cn : String} {y : MethodName} {cy : ByteArray} {rt : Option FieldType} {rm : Room} {avs rest : List Value} {post : Option Value → va_W → Prop} {k ci : Nat} {ts : List VT} {vc : vw_C} (hL : LkV own idx Cn y cy mx rt n) (hM : Ct l G y cy mx rt rm (.ref (ad k) :: avs) ws post) (hd : decode cc pc = .ok (.invokevirtual idx, 3)) (hW : WT G ad T ws) (hT : T[k]? = some (.inl (ci, ts))) (hv : vwCl[ci]? = some vc) (hn : vc.1 = Cn) (hlen : avs.length = n) (hR : rm.frames + 1 ≤ R.frames ∧ 8 + (mx + 11) + rm.locals ≤ R.locals) (hf : kc + rm.cells ≤ R.cells ∧ ks + rm.slots ≤ R.slots) (hcat : (rest.map fun v => v.category).sum ≤ 8) {stk : List Value} (hst : stk = avs.reverse ++ .ref (ad k) :: rest)
    (kk : ∀ (r : Option Value) (w1 : va_W), post r w1 → Z p l e R s m args below meth c nL G A Q (pc + 3) lw (r.toList ++ rest) w1 (kc + rm.cells) (ks + rm.slots)) : Z p l e R s m args below meth c nL G A Q pc lw stk ws kc ks := by
  obtain ⟨en, w1, fs, rfl, w2, w3⟩ := hW.2.1 k _ hT
  exact z_callV (wr := []) X hL hM hd k w1 hv hn hR hf hlen hst hcat (List.range ws.length) [] (range_pick ws) (va_nd_range _) rfl rfl rfl (fun r w1 hp => kk r w1 hp)
/-- another world, alike but for what is masked -/
theorem AG.world {msk : List (Nat × Nat)} {w1 : va_W} {st2 : List Nat} (h : AG G ad T mk w0 pin (lv, st, ev, ca, rl, nx) ν lw sw ws) (hW : WT G ad T w1) (hF : FRM msk ws w1) (hc : cov mk msk = true) : AG G ad T mk w0 pin (lv, st2, ev, ca.filter (fun q => !(mkq msk q.1 q.2.1)), rl, nx) ν lw (st2.map ν) w1 := by
  obtain ⟨h1, h2, h3⟩ := h
  refine ⟨h1, rfl, h3.1, h3.2.1, fun q hq => ?_, h3.2.2.2.1, h3.2.2.2.2.1, hW, frm_trans h3.2.2.2.2.2.2 hF hc⟩
  obtain ⟨m1, m2⟩ := List.mem_filter.mp hq
  refine fget_frame hF ?_ (h3.2.2.1 q m1)
  cases e9 : mkq msk q.1 q.2.1 with
  | false => rfl
  | true => rw [e9] at m2; cases m2
end HL4
/-- ounceOf's answer: a hole that can -/
def OPr (G : KG) (ad : Nat → Nat) (ws : va_W) (w : Bool) (r : Int32) : Prop := ∃ f g : Nat → Int32, ws[6]? = some (ad 6, aI G 16 f) ∧ ws[5]? = some (ad 5, aI G 16 g) ∧ ((w = true ∧ (f r.toNatClampNeg).toInt < (g r.toNatClampNeg).toInt) ∨ (w = false ∧ 0 < (f r.toNatClampNeg).toInt))
theorem OPr.frm {G : KG} {ad : Nat → Nat} {mk : List (Nat × Nat)} {w0 ws : va_W} {w : Bool} {r : Int32} (h : OPr G ad w0 w r) (hW : WT G ad TM ws) (hF : FRM mk w0 ws) (h6 : mkq mk 6 0 = false) (h5 : mkq mk 5 0 = false) : OPr G ad ws w r := by
  obtain ⟨f, g, a1, a2, a3⟩ := h
  obtain ⟨b1, c1⟩ := hF.arr h6 a1
  obtain ⟨b2, c2⟩ := hF.arr h5 a2
  rw [WT.adr (T := TM) (k := 6) hW rfl c1] at c1
  rw [WT.adr (T := TM) (k := 5) hW rfl c2] at c2
  exact ⟨f, g, c1, c2, a3⟩
theorem OPr.bak {G : KG} {ad : Nat → Nat} {mk : List (Nat × Nat)} {w0 ws : va_W} {w : Bool} {r : Int32} (h : OPr G ad ws w r) (hW : WT G ad TM w0) (hF : FRM mk w0 ws) (h6 : mkq mk 6 0 = false) (h5 : mkq mk 5 0 = false) : OPr G ad w0 w r := by
  obtain ⟨f, g, a1, a2, a3⟩ := h
  obtain ⟨f0, u1, -⟩ := WT.ints (k := 6) (n := 16) hW rfl
  obtain ⟨g0, u2, -⟩ := WT.ints (k := 5) (n := 16) hW rfl
  obtain ⟨b1, c1⟩ := hF.arr h6 u1
  obtain ⟨b2, c2⟩ := hF.arr h5 u2
  rw [a1] at c1
  rw [a2] at c2
  have e1 : f = f0 := Sum.inl.inj (congrArg (fun z : ClassId × vp_A => z.2.2) (Sum.inl.inj (congrArg Prod.snd (Option.some.inj c1))))
  have e2 : g = g0 := Sum.inl.inj (congrArg (fun z : ClassId × vp_A => z.2.2) (Sum.inl.inj (congrArg Prod.snd (Option.some.inj c2))))
  subst e1
  subst e2
  exact ⟨f, g, u1, u2, a3⟩
def OCP (G : KG) (ad : Nat → Nat) (w0 : va_W) (μ : Nat → Value) (r : Option Value) (w1 : va_W) : Prop := WT G ad TM w1 ∧ FRM C_oc0.2.2.2.2.1 w0 w1 ∧ ∃ x : Int32, r = some (.int x) ∧ -1 ≤ x.toInt ∧ x.toInt ≤ 15 ∧ (0 ≤ x.toInt → OPr G ad w0 (decide (vI (μ 2) = 0)) x)
section OC
variable {p : Program} {l : Launch} {e : Env} {s : State} {m : MethodId} {args : Array Value} {below : List Frame} {meth : Method} {c : Code} {G : KG} {A : Nat → Prop} {ad : Nat → Nat} {w0 : va_W} {μ : Nat → Value}
theorem oc_head {σ : AS} {ν : Nat → Value} {lw : List (Nat × Value)} {ws : va_W} {pin : List (Nat × Value)} (hg : AG G ad TM C_oc0.2.2.2.2.1 w0 pin σ ν lw [] ws) (hp : ∀ q ∈ spin C_ounceOf μ, q.1 < 1000 ∧ ν q.1 = q.2) (ha : aarr (apids C_ounceOf) none ocH σ = true) : ∃ (ν' : Nat → Value) (lw' : List (Nat × Value)), AG G ad TM C_oc0.2.2.2.2.1 w0 (spin C_ounceOf μ) ocH.2.1 ν' lw' [] ws ∧ ∀ q ∈ lw', q ∈ lw := AG.arrive (d := ocH) (hg.pins hp) spin3 ha (by decide)
theorem oc_loop (hs0 : WT G ad TM w0) (X : ZC p s m args meth c cX11_ounceOf 6 RX11 G A (some .int) "ounceOf") : ∀ (n : Nat) (ν : Nat → Value) (lw : List (Nat × Value)) (ws : va_W), AG G ad TM C_oc0.2.2.2.2.1 w0 (spin C_ounceOf μ) ocH.2.1 ν lw [] ws → (16 - vI (ν 701)).toNat < n → (∀ x, ν 700 = .int x → 0 ≤ x.toInt → OPr G ad w0 (decide (vI (μ 2) = 0)) x) → Z p l e (rmOf C_ounceOf) s m args below meth c 6 G A (MQ below (QQ G A (OCP G ad w0 μ)) args s 0 0 A) 5 lw [] ws 0 0
  | 0, _, _, _, _, h9, _ => absurd h9 (Nat.not_lt_zero _)
  | n + 1, ν, lw, ws, hg, h9, hbest => by
    have h3 := hg.2.2
    have hgA := hg.pins (pin2 := (700, ν 700) :: (701, ν 701) :: spin C_ounceOf μ) (fun q hq => by
      rcases List.mem_cons.mp hq with e1 | hq
      · rw [e1]; exact ⟨(by decide : (700 : Nat) < 1000), rfl⟩
      rcases List.mem_cons.mp hq with e1 | hq
      · rw [e1]; exact ⟨(by decide : (701 : Nat) < 1000), rfl⟩
      · exact h3.2.2.2.2.1 q hq)
    have hids : ∀ q ∈ (700, ν 700) :: (701, ν 701) :: spin C_ounceOf μ, q.1 ∈ [0, 1, 2, 100, 700, 701] := fun q hq => by
      rcases List.mem_cons.mp hq with e1 | hq
      · rw [e1]; exact (by decide : (700 : Nat) ∈ [0, 1, 2, 100, 700, 701])
      rcases List.mem_cons.mp hq with e1 | hq
      · rw [e1]; exact (by decide : (701 : Nat) ∈ [0, 1, 2, 100, 700, 701])
      · have := spin3 q hq
        revert this
        show q.1 ∈ [0, 1, 2, 100] → _
        intro h
        have hsub : ∀ z ∈ [0, 1, 2, 100], z ∈ [0, 1, 2, 100, 700, 701] := by decide
        exact hsub _ h
    have noret : ∀ (w : va_W) r w1, POST G ad TM C_oc0 μ w r w1 → OCP G ad w0 μ r w1 := fun w r w1 h => by
      obtain ⟨A1, hA1, -⟩ := h
      cases hA1
    have sp2 : ∀ q ∈ spin C_ounceOf μ, q ∈ (700, ν 700) :: (701, ν 701) :: spin C_ounceOf μ := fun q hq => List.mem_cons_of_mem _ (List.mem_cons_of_mem _ hq)
    -- behind an iteration
    have back : ∀ (σ : AS) (ν2 : Nat → Value) (lw2 : List (Nat × Value)) (ws2 : va_W) (pin2 : List (Nat × Value)) (b h : Nat), AG G ad TM C_oc0.2.2.2.2.1 w0 pin2 σ ν2 lw2 [] ws2 → (∀ q ∈ spin C_ounceOf μ, q.1 < 1000 ∧ ν2 q.1 = q.2) → aarr (apids C_ounceOf) none ocH σ = true → ((3, ν2 b) ∈ lw2 ∧ ∀ v, (3, v) ∈ lw2 → v = ν2 b) → (∀ v, (4, v) ∈ lw2 → v = ν2 h) → vI (ν 701) < vI (ν2 h) → vI (ν2 h) ≤ 16 → (∀ x, ν2 b = .int x → 0 ≤ x.toInt → OPr G ad w0 (decide (vI (μ 2) = 0)) x) → Z p l e (rmOf C_ounceOf) s m args below meth c 6 G A (MQ below (QQ G A (OCP G ad w0 μ)) args s 0 0 A) 5 lw2 [] ws2 0 0 := by
      intro σ ν2 lw2 ws2 pin2 b h hg2 hp2 ha hb hh hlt hle hop
      obtain ⟨ν', lw', q1, q2⟩ := oc_head hg2 hp2 ha
      have e1 : lw' = ocH.2.1.1.map (fun q => (q.1, ν' q.2.1)) := q1.1
      have m3 : (3, ν' 700) ∈ lw' := by rw [e1]; exact List.mem_map.mpr ⟨(3, 700, false), by decide, rfl⟩
      have m4 : (4, ν' 701) ∈ lw' := by rw [e1]; exact List.mem_map.mpr ⟨(4, 701, false), by decide, rfl⟩
      have k3 : ν' 700 = ν2 b := hb.2 _ (q2 _ m3)
      have k4 : ν' 701 = ν2 h := hh _ (q2 _ m4)
      refine Z.mono q2 (oc_loop hs0 X n ν' lw' ws2 q1 ?_ (fun x hx => ?_))
      · rw [k4]
        have : vI (ν 701) ≤ 15 := by omega
        omega
      · rw [k3] at hx; exact hop x hx
    refine aseg (C := sC_ocA) (PO := OCP G ad w0 μ) (fld := fld_11) (put := put_11) (cst := cst_11) (cstl := cstl_11) (hk := hk0) (tab := D_X11_ounceOf) (rk := 1) (pids := [0, 1, 2, 100, 700, 701]) D_X11_ounceOf_ok X rfl rfl hok0 (Or.inr (Or.inl ⟨rfl, rfl⟩)) (Nat.le_refl 0) (Nat.le_refl 0) (fun j hj => sp2 _ (spin1 (C := C_ounceOf) j hj)) (fun j hj => sp2 _ (spin2 (C := C_ounceOf) j hj)) (noret w0) fld_11_ok put_11_ok cst_11_ok cstl_11_ok (sl_ocA_ok l G) (Nat.le_refl 0) (Nat.le_refl 0) hids sg_ocA (fun d hd ν2 lw2 sw2 ws2 hg2 => ?_) ν lw [] ws hgA
    have hd : d ∈ [se_ocA_24, se_ocA_49, se_ocA_130] := hd
    have b700 := (hg2.2.2.2.2.2.2.1 (700, ν 700) List.mem_cons_self).2
    have b701 := (hg2.2.2.2.2.2.2.1 (701, ν 701) (List.mem_cons_of_mem _ List.mem_cons_self)).2
    have b700 : ν2 700 = ν 700 := b700
    have b701 : ν2 701 = ν 701 := b701
    have bw := (hg2.2.2.2.2.2.2.1 (2, μ 2) (sp2 _ (spin1 (C := C_ounceOf) 2 (by decide)))).2
    have bw : ν2 2 = μ 2 := bw
    have psp : ∀ q ∈ spin C_ounceOf μ, q.1 < 1000 ∧ ν2 q.1 = q.2 := fun q hq => hg2.2.2.2.2.2.2.1 q (sp2 q hq)
    have pfree : ∀ k, k ∉ [0, 1, 2, 100, 700, 701] → ∀ q ∈ (700, ν 700) :: (701, ν 701) :: spin C_ounceOf μ, q.1 ≠ k := fun k hk q hq e9 => hk (e9 ▸ hids q hq)
    rcases List.mem_cons.mp hd with e1 | hd
    · -- what = 0
      subst e1
      obtain ⟨x, f, x1, x2, x3, x4, x5, x6, x7, x8⟩ := AG.elem (i := 701) (r := 500) (k := 6) (n := 16) (a := 0) (b := 15) hg2 (by decide) (by decide) (by decide) rfl rfl rfl
      have x2 : sw2 = [.int x, .ref (ad 6)] := x2
      rw [x2]
      refine z_iald X d_oc_24 6 x3 x5 rfl ?_
      have hgB := (AG.stk (st2 := []) hg2).pushN (n := 702) (t := (0, 0, 9)) (v := .int (f x.toNatClampNeg)) (by decide) (by decide) (pfree 702 (by decide)) (vty_i (x4 _ x8).1 (x4 _ x8).2.1)
      refine aseg (C := sC_ocB) (PO := OCP G ad w0 μ) (fld := fld_11) (put := put_11) (cst := cst_11) (cstl := cstl_11) (hk := hk0) (tab := D_X11_ounceOf) (rk := 1) (pids := [0, 1, 2, 100, 700, 701, 702]) D_X11_ounceOf_ok X rfl rfl hok0 (Or.inr (Or.inl ⟨rfl, rfl⟩)) (Nat.le_refl 0) (Nat.le_refl 0) (fun j hj => List.mem_cons_of_mem _ (sp2 _ (spin1 (C := C_ounceOf) j hj))) (fun j hj => List.mem_cons_of_mem _ (sp2 _ (spin2 (C := C_ounceOf) j hj))) (noret w0) fld_11_ok put_11_ok cst_11_ok cstl_11_ok (sl_ocB_ok l G) (Nat.le_refl 0) (Nat.le_refl 0) (fun q hq => by
        rcases List.mem_cons.mp hq with e1 | hq
        · rw [e1]; exact (by decide : (702 : Nat) ∈ [0, 1, 2, 100, 700, 701, 702])
        · have hsub : ∀ z ∈ [0, 1, 2, 100, 700, 701], z ∈ [0, 1, 2, 100, 700, 701, 702] := by decide
          exact hsub _ (hids q hq)) sg_ocB (fun d hd ν3 lw3 sw3 ws3 hg3 => ?_) _ lw2 _ ws2 hgB
      rw [List.mem_singleton.mp hd] at hg3 ⊢
      obtain ⟨x', g, y1, y2, y3, y4, y5, y6, y7, y8⟩ := AG.elem (i := 701) (r := 500) (k := 5) (n := 16) (a := 0) (b := 15) hg3 (by decide) (by decide) (by decide) rfl rfl rfl
      have p3 := hg3.2.2.2.2.2.2.1
      have c701 : ν3 701 = ν 701 := (p3 (701, ν 701) (List.mem_cons_of_mem _ (List.mem_cons_of_mem _ List.mem_cons_self))).2
      have c700 : ν3 700 = ν 700 := (p3 (700, ν 700) (List.mem_cons_of_mem _ List.mem_cons_self)).2
      have c702 : ν3 702 = .int (f x.toNatClampNeg) := (p3 (702, .int (f x.toNatClampNeg)) List.mem_cons_self).2
      rw [c701, ← b701, x1] at y1
      cases y1
      have y2 : sw3 = [.int x, .ref (ad 5), ν3 702] := y2
      rw [y2]
      refine z_iald X d_oc_31 5 y3 y5 rfl ?_
      have hgC := (AG.stk (st2 := [702]) hg3).pushN (n := 703) (t := (0, -1, 9)) (v := .int (g x.toNatClampNeg)) (by decide) (by decide) (fun q hq => by
        rcases List.mem_cons.mp hq with e1 | hq
        · rw [e1]; exact (by decide : (702 : Nat) ≠ 703)
        · exact pfree 703 (by decide) q hq) (vty_i (y4 _ y8).1 (y4 _ y8).2.1)
      refine aseg (C := sC_ocC) (PO := OCP G ad w0 μ) (fld := fld_11) (put := put_11) (cst := cst_11) (cstl := cstl_11) (hk := hk0) (tab := D_X11_ounceOf) (rk := 1) (pids := [0, 1, 2, 100, 700, 701, 702, 703]) D_X11_ounceOf_ok X rfl rfl hok0 (Or.inr (Or.inl ⟨rfl, rfl⟩)) (Nat.le_refl 0) (Nat.le_refl 0) (fun j hj => List.mem_cons_of_mem _ (List.mem_cons_of_mem _ (sp2 _ (spin1 (C := C_ounceOf) j hj)))) (fun j hj => List.mem_cons_of_mem _ (List.mem_cons_of_mem _ (sp2 _ (spin2 (C := C_ounceOf) j hj)))) (noret w0) fld_11_ok put_11_ok cst_11_ok cstl_11_ok (sl_ocC_ok l G) (Nat.le_refl 0) (Nat.le_refl 0) (fun q hq => by
        rcases List.mem_cons.mp hq with e1 | hq
        · rw [e1]; exact (by decide : (703 : Nat) ∈ [0, 1, 2, 100, 700, 701, 702, 703])
        rcases List.mem_cons.mp hq with e1 | hq
        · rw [e1]; exact (by decide : (702 : Nat) ∈ [0, 1, 2, 100, 700, 701, 702, 703])
        · have hsub : ∀ z ∈ [0, 1, 2, 100, 700, 701], z ∈ [0, 1, 2, 100, 700, 701, 702, 703] := by decide
          exact hsub _ (hids q hq)) sg_ocC (fun d hd ν4 lw4 sw4 ws4 hg4 => ?_) _ lw3 _ ws3 hgC
      have hd : d ∈ [se_ocC_5, se_ocC_5_1] := hd
      have p4 := hg4.2.2.2.2.2.2.1
      have d701 : ν4 701 = ν 701 := (p4 (701, ν 701) (List.mem_cons_of_mem _ (List.mem_cons_of_mem _ (List.mem_cons_of_mem _ List.mem_cons_self)))).2
      have d700 : ν4 700 = ν 700 := (p4 (700, ν 700) (List.mem_cons_of_mem _ (List.mem_cons_of_mem _ List.mem_cons_self))).2
      have d702 : ν4 702 = .int (f x.toNatClampNeg) := (p4 (702, .int (f x.toNatClampNeg)) (List.mem_cons_of_mem _ List.mem_cons_self)).2
      have d703 : ν4 703 = .int (g x.toNatClampNeg) := (p4 (703, .int (g x.toNatClampNeg)) List.mem_cons_self).2
      have psp4 : ∀ q ∈ spin C_ounceOf μ, q.1 < 1000 ∧ ν4 q.1 = q.2 := fun q hq => p4 q (List.mem_cons_of_mem _ (List.mem_cons_of_mem _ (sp2 q hq)))
      rcases List.mem_cons.mp hd with e1 | hd
      · subst e1
        have hs4 : sw4 = [] := hg4.2.1
        subst hs4
        have el : lw4 = [(0, ν4 0), (1, ν4 1), (2, ν4 2), (3, ν4 700), (4, ν4 500), (5, ν4 501)] := hg4.1
        have r1 : vI (ν4 701) ≤ vI (ν4 500) + -1 := hg4.2.2.dl (a := 701) (b := 500) (c := -1) (by decide)
        obtain ⟨z, z1, z2, z3⟩ := hg4.2.2.rng (i := 500) (a := 1) (b := 16) (by decide)
        rw [d701, z1] at r1
        have r1 : vI (ν 701) ≤ z.toInt + -1 := r1
        refine back _ ν4 lw4 ws4 _ 700 500 hg4 psp4 (by decide +kernel) (by rw [el]; exact ⟨by simp, by simp⟩) (by rw [el]; simp) (by rw [z1]; show _ < z.toInt; omega) (by rw [z1]; exact z3) (fun x9 hx9 => by rw [d700] at hx9; exact hbest x9 hx9)
      · have e1 := List.mem_singleton.mp hd
        subst e1
        have hs4 : sw4 = [] := hg4.2.1
        subst hs4
        have el : lw4 = [(0, ν4 0), (1, ν4 1), (2, ν4 2), (3, ν4 701), (4, ν4 500), (5, ν4 501)] := hg4.1
        have r1 : vI (ν4 701) ≤ vI (ν4 500) + -1 := hg4.2.2.dl (a := 701) (b := 500) (c := -1) (by decide)
        have r2 : vI (ν4 702) ≤ vI (ν4 703) + -1 := hg4.2.2.dl (a := 702) (b := 703) (c := -1) (by decide)
        obtain ⟨z, z1, z2, z3⟩ := hg4.2.2.rng (i := 500) (a := 1) (b := 16) (by decide)
        rw [d701, z1] at r1
        have r1 : vI (ν 701) ≤ z.toInt + -1 := r1
        rw [d702, d703] at r2
        have r2 : (f x.toNatClampNeg).toInt ≤ (g x.toNatClampNeg).toInt + -1 := r2
        obtain ⟨z9, w1, w2, w3⟩ := hg4.2.2.rng (i := 2) (a := 0) (b := 0) (by decide)
        have hw0 : vI (μ 2) = 0 := by
          have := (psp4 (2, μ 2) (spin1 (C := C_ounceOf) 2 (by decide))).2
          have this : ν4 2 = μ 2 := this
          rw [← this, w1]
          show z9.toInt = 0
          omega
        refine back _ ν4 lw4 ws4 _ 701 500 hg4 psp4 (by decide +kernel) (by rw [el]; exact ⟨by simp, by simp⟩) (by rw [el]; simp) (by rw [z1]; show _ < z.toInt; omega) (by rw [z1]; exact z3) (fun x9 hx9 h09 => ?_)
        rw [d701, ← b701, x1] at hx9
        cases hx9
        have hop : OPr G ad ws3 (decide (vI (μ 2) = 0)) x := by
          refine ⟨f, g, ?_, y3, Or.inl ⟨by rw [hw0]; rfl, by omega⟩⟩
          have hF3 := hg3.2.2.2.2.2.2.2.2
          have hF2 := hg2.2.2.2.2.2.2.2.2
          obtain ⟨f0, u1, -⟩ := WT.ints (k := 6) (n := 16) hs0 rfl
          obtain ⟨b1, c1⟩ := hF2.arr (k := 6) (by decide) u1
          obtain ⟨b2, c2⟩ := hF3.arr (k := 6) (by decide) u1
          rw [x3] at c1
          have e1 : f = f0 := Sum.inl.inj (congrArg (fun z : ClassId × vp_A => z.2.2) (Sum.inl.inj (congrArg Prod.snd (Option.some.inj c1))))
          subst e1
          rw [WT.adr (T := TM) (k := 6) hg3.2.2.2.2.2.2.2.1 rfl c2] at c2
          exact c2
        exact hop.bak hs0 hg3.2.2.2.2.2.2.2.2 (by decide) (by decide)
    rcases List.mem_cons.mp hd with e1 | hd
    · -- what = 1
      subst e1
      obtain ⟨x, f, x1, x2, x3, x4, x5, x6, x7, x8⟩ := AG.elem (i := 701) (r := 500) (k := 6) (n := 16) (a := 0) (b := 15) hg2 (by decide) (by decide) (by decide) rfl rfl rfl
      have x2 : sw2 = [.int x, .ref (ad 6)] := x2
      rw [x2]
      refine z_iald X d_oc_49 6 x3 x5 rfl ?_
      have hgB := (AG.stk (st2 := []) hg2).pushN (n := 702) (t := (0, 0, 9)) (v := .int (f x.toNatClampNeg)) (by decide) (by decide) (pfree 702 (by decide)) (vty_i (x4 _ x8).1 (x4 _ x8).2.1)
      refine aseg (C := sC_ocD) (PO := OCP G ad w0 μ) (fld := fld_11) (put := put_11) (cst := cst_11) (cstl := cstl_11) (hk := hk0) (tab := D_X11_ounceOf) (rk := 1) (pids := [0, 1, 2, 100, 700, 701, 702]) D_X11_ounceOf_ok X rfl rfl hok0 (Or.inr (Or.inl ⟨rfl, rfl⟩)) (Nat.le_refl 0) (Nat.le_refl 0) (fun j hj => List.mem_cons_of_mem _ (sp2 _ (spin1 (C := C_ounceOf) j hj))) (fun j hj => List.mem_cons_of_mem _ (sp2 _ (spin2 (C := C_ounceOf) j hj))) (noret w0) fld_11_ok put_11_ok cst_11_ok cstl_11_ok (sl_ocD_ok l G) (Nat.le_refl 0) (Nat.le_refl 0) (fun q hq => by
        rcases List.mem_cons.mp hq with e1 | hq
        · rw [e1]; exact (by decide : (702 : Nat) ∈ [0, 1, 2, 100, 700, 701, 702])
        · have hsub : ∀ z ∈ [0, 1, 2, 100, 700, 701], z ∈ [0, 1, 2, 100, 700, 701, 702] := by decide
          exact hsub _ (hids q hq)) sg_ocD (fun d hd ν4 lw4 sw4 ws4 hg4 => ?_) _ lw2 _ ws2 hgB
      have hd : d ∈ [se_ocD_5, se_ocD_5_1] := hd
      have p4 := hg4.2.2.2.2.2.2.1
      have d701 : ν4 701 = ν 701 := (p4 (701, ν 701) (List.mem_cons_of_mem _ (List.mem_cons_of_mem _ List.mem_cons_self))).2
      have d700 : ν4 700 = ν 700 := (p4 (700, ν 700) (List.mem_cons_of_mem _ List.mem_cons_self)).2
      have d702 : ν4 702 = .int (f x.toNatClampNeg) := (p4 (702, .int (f x.toNatClampNeg)) List.mem_cons_self).2
      have psp4 : ∀ q ∈ spin C_ounceOf μ, q.1 < 1000 ∧ ν4 q.1 = q.2 := fun q hq => p4 q (List.mem_cons_of_mem _ (sp2 q hq))
      rcases List.mem_cons.mp hd with e1 | hd
      · subst e1
        have hs4 : sw4 = [] := hg4.2.1
        subst hs4
        have el : lw4 = [(0, ν4 0), (1, ν4 1), (2, ν4 2), (3, ν4 700), (4, ν4 500), (5, ν4 501)] := hg4.1
        have r1 : vI (ν4 701) ≤ vI (ν4 500) + -1 := hg4.2.2.dl (a := 701) (b := 500) (c := -1) (by decide)
        obtain ⟨z, z1, z2, z3⟩ := hg4.2.2.rng (i := 500) (a := 1) (b := 16) (by decide)
        rw [d701, z1] at r1
        have r1 : vI (ν 701) ≤ z.toInt + -1 := r1
        refine back _ ν4 lw4 ws4 _ 700 500 hg4 psp4 (by decide +kernel) (by rw [el]; exact ⟨by simp, by simp⟩) (by rw [el]; simp) (by rw [z1]; show _ < z.toInt; omega) (by rw [z1]; exact z3) (fun x9 hx9 => by rw [d700] at hx9; exact hbest x9 hx9)
      · have e1 := List.mem_singleton.mp hd
        subst e1
        have hs4 : sw4 = [] := hg4.2.1
        subst hs4
        have el : lw4 = [(0, ν4 0), (1, ν4 1), (2, ν4 2), (3, ν4 701), (4, ν4 500), (5, ν4 501)] := hg4.1
        have r1 : vI (ν4 701) ≤ vI (ν4 500) + -1 := hg4.2.2.dl (a := 701) (b := 500) (c := -1) (by decide)
        obtain ⟨z, z1, z2, z3⟩ := hg4.2.2.rng (i := 500) (a := 1) (b := 16) (by decide)
        rw [d701, z1] at r1
        have r1 : vI (ν 701) ≤ z.toInt + -1 := r1
        obtain ⟨z8, t1, t2, t3⟩ := hg4.2.2.rng (i := 702) (a := 1) (b := 9) (by decide)
        rw [d702] at t1
        cases t1
        obtain ⟨z9, w1, w2, w3⟩ := hg4.2.2.rng (i := 2) (a := 1) (b := 1) (by decide)
        have hw0 : vI (μ 2) = 1 := by
          have := (psp4 (2, μ 2) (spin1 (C := C_ounceOf) 2 (by decide))).2
          have this : ν4 2 = μ 2 := this
          rw [← this, w1]
          show z9.toInt = 1
          omega
        refine back _ ν4 lw4 ws4 _ 701 500 hg4 psp4 (by decide +kernel) (by rw [el]; exact ⟨by simp, by simp⟩) (by rw [el]; simp) (by rw [z1]; show _ < z.toInt; omega) (by rw [z1]; exact z3) (fun x9 hx9 h09 => ?_)
        rw [d701, ← b701, x1] at hx9
        cases hx9
        obtain ⟨g, u2, -⟩ := WT.ints (k := 5) (n := 16) hg2.2.2.2.2.2.2.2.1 rfl
        have hop : OPr G ad ws2 (decide (vI (μ 2) = 0)) x := ⟨f, g, x3, u2, Or.inr ⟨by rw [hw0]; rfl, by omega⟩⟩
        exact hop.bak hs0 hg2.2.2.2.2.2.2.2.2 (by decide) (by decide)
    · have e1 := List.mem_singleton.mp hd
      subst e1
      have hs : sw2 = [ν2 700] := hg2.2.1
      obtain ⟨z, z1, z2, z3⟩ := hg2.2.2.rng (i := 700) (a := -1) (b := 15) (by decide)
      rw [hs, z1]
      exact z_iret X rfl d_oc_130 (Nat.le_refl 0) (Nat.le_refl 0) ⟨hg2.2.2.2.2.2.2.2.1, hg2.2.2.2.2.2.2.2.2, z, rfl, z2, z3, hbest z (by rw [← b700]; exact z1)⟩
end OC
theorem ac_ounceOf (l : Launch) (G : KG) : ∀ (ad : Nat → Nat) (w0 : va_W) (μ : Nat → Value), WT G ad TM w0 → PRE ad C_ounceOf μ w0 → Ct l G yX11_ounceOf cX11_ounceOf 6 (some .int) (rmOf C_ounceOf) [μ 0, μ 1, μ 2] w0 (OCP G ad w0 μ) := by
  refine hand_ofP (C := C_ounceOf) (by decide) (by decide) (by decide) (by decide) (by decide) ?_
  intro p e s m args below meth c A X ad w0 μ lw hW hPre hg
  refine aseg (C := sC_ocS) (PO := OCP G ad w0 μ) (fld := fld_11) (put := put_11) (cst := cst_11) (cstl := cstl_11) (hk := hk0) (tab := D_X11_ounceOf) (rk := 1) (pids := [0, 1, 2, 100]) D_X11_ounceOf_ok X rfl rfl hok0 (Or.inr (Or.inl ⟨rfl, rfl⟩)) (Nat.le_refl 0) (Nat.le_refl 0) (spin1 (C := C_ounceOf)) (spin2 (C := C_ounceOf)) (fun r w1 h => by
    obtain ⟨A1, hA1, -⟩ := h
    cases hA1) fld_11_ok put_11_ok cst_11_ok cstl_11_ok (sl_ocS_ok l G) (Nat.le_refl 0) (Nat.le_refl 0) spin3 sg_ocS (fun d hd ν2 lw2 sw2 ws2 hg2 => ?_) μ lw [] w0 hg
  rw [List.mem_singleton.mp hd] at hg2 ⊢
  have hs : sw2 = [] := hg2.2.1
  subst hs
  obtain ⟨ν', lw', q1, q2⟩ := oc_head (μ := μ) hg2 hg2.2.2.2.2.2.2.1 (by decide +kernel)
  refine Z.mono q2 (oc_loop hW X _ ν' lw' ws2 q1 (Nat.lt_succ_self _) (fun x hx h0 => ?_))
  have el : lw2 = [(0, ν2 0), (1, ν2 1), (2, ν2 2), (3, ν2 500), (4, ν2 501)] := hg2.1
  have e1 : lw' = ocH.2.1.1.map (fun q => (q.1, ν' q.2.1)) := q1.1
  have m3 : (3, ν' 700) ∈ lw' := by rw [e1]; exact List.mem_map.mpr ⟨(3, 700, false), by decide, rfl⟩
  have m3 := q2 _ m3
  rw [el] at m3
  have m3 : ν' 700 = ν2 500 := by simpa using m3
  obtain ⟨z, z1, z2, z3⟩ := hg2.2.2.rng (i := 500) (a := -1) (b := -1) (by decide)
  rw [m3, z1] at hx
  cases hx
  omega
end
section
theorem lwv {σ : AS} {ν : Nat → Value} {lw : List (Nat × Value)} (e : lw = σ.1.map (fun q => (q.1, ν q.2.1))) {i n : Nat} {b : Bool} (h : (i, n, b) ∈ σ.1) : (i, ν n) ∈ lw := by rw [e]; exact List.mem_map.mpr ⟨(i, n, b), h, rfl⟩
section HL5
variable {G : KG} {T : List TE} {ad : Nat → Nat} {mk mk2 : List (Nat × Nat)} {w0 : va_W} {pin : List (Nat × Value)}
variable {lv : ALv} {st : List Nat} {ev : AEv} {ca : ACa} {rl : ARl} {nx : Nat} {ν : Nat → Value} {ws : va_W} {lw : List (Nat × Value)} {sw : List Value}
/-- another world, from which all begins anew -/
theorem AG.worldR {msk : List (Nat × Nat)} {w1 : va_W} {st2 : List Nat} (h : AG G ad T mk w0 pin (lv, st, ev, ca, rl, nx) ν lw sw ws) (hW : WT G ad T w1) (hF : FRM msk ws w1) : AG G ad T mk2 w1 pin (lv, st2, ev, ca.filter (fun q => !(mkq msk q.1 q.2.1)), rl, nx) ν lw (st2.map ν) w1 := by
  obtain ⟨h1, h2, h3⟩ := h
  refine ⟨h1, rfl, h3.1, h3.2.1, fun q hq => ?_, h3.2.2.2.1, h3.2.2.2.2.1, hW, rfl, fun _ _ _ => rfl⟩
  obtain ⟨m1, m2⟩ := List.mem_filter.mp hq
  refine fget_frame hF ?_ (h3.2.2.1 q m1)
  cases e9 : mkq msk q.1 q.2.1 with
  | false => rfl
  | true => rw [e9] at m2; cases m2
end HL5
section ST
variable {p : Program} {l : Launch} {e : Env} {s : State} {m : MethodId} {args : Array Value} {below : List Frame} {meth : Method} {c : Code} {G : KG} {A : Nat → Prop} {ad : Nat → Nat} {w0 : va_W} {μ : Nat → Value}
abbrev STpo (G : KG) (ad : Nat → Nat) (w0 : va_W) (μ : Nat → Value) : Option Value → va_W → Prop := fun r w1 => POST G ad TM C_settle μ w0 r w1
def STi (G : KG) (ad : Nat → Nat) (ws : va_W) (h v : Value) : Prop := ∀ x k : Int32, h = .int x → v = .int k → 0 ≤ x.toInt → (k.toInt = 1 ∧ OPr G ad ws true x) ∨ (k.toInt = -1 ∧ OPr G ad ws false x)
theorem st_inner (X : ZC p s m args meth c cX11_settle 9 RX11 G A (some .int) "settle") {nn : Int}
    (hK : ∀ (ν : Nat → Value) (lw : List (Nat × Value)) (ws : va_W), AG G ad TM C_settle.2.2.2.2.1 w0 (spin C_settle μ) st16.2.1 ν lw [] ws → vI (ν 720) = nn + 1 → Z p l e (rmOf C_settle) s m args below meth c 9 G A (MQ below (QQ G A (STpo G ad w0 μ)) args s 0 0 A) 16 lw [] ws 0 0) :
    ∀ (n : Nat) (ν : Nat → Value) (lw : List (Nat × Value)) (ws : va_W), AG G ad TM C_settle.2.2.2.2.1 w0 (spin C_settle μ) st44.2.1 ν lw [] ws → (2 - vI (ν 724)).toNat < n → vI (ν 720) = nn → STi G ad ws (ν 722) (ν 723) → Z p l e (rmOf C_settle) s m args below meth c 9 G A (MQ below (QQ G A (STpo G ad w0 μ)) args s 0 0 A) 44 lw [] ws 0 0
  | 0, _, _, _, _, h9, _, _ => absurd h9 (Nat.not_lt_zero _)
  | n + 1, ν, lw, ws, hg, h9, hnn, hinv => by
    have h3 := hg.2.2
    obtain ⟨pinA, hpA⟩ : ∃ pinA, pinA = [(720, ν 720), (721, ν 721), (722, ν 722), (723, ν 723), (724, ν 724)] ++ spin C_settle μ := ⟨_, rfl⟩
    have hpm : ∀ q ∈ pinA, q.1 ∈ [0, 1, 720, 721, 722, 723, 724] ∧ ν q.1 = q.2 := fun q hq => by
      rw [hpA] at hq
      rcases List.mem_append.mp hq with hq | hq
      · simp only [List.mem_cons, List.not_mem_nil, or_false] at hq
        rcases hq with rfl | rfl | rfl | rfl | rfl <;> exact ⟨by simp, rfl⟩
      · have h1 := spin3 q hq
        have h1 : q.1 ∈ [0, 1] := h1
        exact ⟨by
          have hsub : ∀ z ∈ [0, 1], z ∈ [0, 1, 720, 721, 722, 723, 724] := by decide
          exact hsub _ h1, (h3.2.2.2.2.1 q hq).2⟩
    have hlt : ∀ z ∈ [0, 1, 720, 721, 722, 723, 724], z < 1000 := by decide
    have sp2 : ∀ q ∈ spin C_settle μ, q ∈ pinA := fun q hq => by rw [hpA]; exact List.mem_append_right _ hq
    have pm : ∀ q ∈ [(720, ν 720), (721, ν 721), (722, ν 722), (723, ν 723), (724, ν 724)], q ∈ pinA := fun q hq => by rw [hpA]; exact List.mem_append_left _ hq
    have hgA := hg.pins (pin2 := pinA) (fun q hq => ⟨hlt _ (hpm q hq).1, (hpm q hq).2⟩)
    have hF0 := h3.2.2.2.2.2.2
    have hgQ : AG G ad TM sC_stQ.2.2.2.2.1 ws pinA ss_stQ ν lw [] ws := AG.rew (st2 := []) hgA
    have hPO : ∀ (wa : va_W), FRM C_settle.2.2.2.2.1 w0 wa → ∀ r w1, POST G ad TM sC_stQ μ wa r w1 → STpo G ad w0 μ r w1 := fun wa hwa r w1 h => POST.mono (C := sC_stQ) (C' := C_settle) h rfl hwa (by decide)
    refine aseg (C := sC_stQ) (PO := STpo G ad w0 μ) (fld := fld_11) (put := put_11) (cst := cst_11) (cstl := cstl_11) (hk := hk0) (tab := D_X11_settle) (rk := 1) (pids := [0, 1, 720, 721, 722, 723, 724]) D_X11_settle_ok X rfl rfl hok0 (Or.inr (Or.inl ⟨rfl, rfl⟩)) (Nat.le_refl 0) (Nat.le_refl 0) (fun j hj => sp2 _ (spin1 (C := C_settle) j hj)) (fun j hj => sp2 _ (spin2 (C := C_settle) j hj)) (hPO ws hF0) fld_11_ok put_11_ok cst_11_ok cstl_11_ok (sl_stQ_ok l G) (Nat.le_refl 0) (Nat.le_refl 0) (fun q hq => (hpm q hq).1) sg_stQ (fun d hd ν2 lw2 sw2 ws2 hg2 => ?_) ν lw [] ws hgQ
    have hd : d ∈ [se_stQ_54, se_stQ_114] := hd
    have p2 := hg2.2.2.2.2.2.2.1
    have b720 : ν2 720 = ν 720 := (p2 (720, ν 720) (pm _ (by simp))).2
    have b722 : ν2 722 = ν 722 := (p2 (722, ν 722) (pm _ (by simp))).2
    have b723 : ν2 723 = ν 723 := (p2 (723, ν 723) (pm _ (by simp))).2
    have b724 : ν2 724 = ν 724 := (p2 (724, ν 724) (pm _ (by simp))).2
    have hF2 := hg2.2.2.2.2.2.2.2.2
    rcases List.mem_cons.mp hd with e1 | hd
    · subst e1
      have hs : sw2 = [ν2 724, ν2 1, ν2 0] := hg2.2.1
      have h0 : ν2 0 = .ref (ad 0) := hg2.2.2.ref (i := 0) rfl
      obtain ⟨fs, hv, u1, u2, u3, u4⟩ := WT.obj (T := TM) (k := 0) (j := 3) hg2.2.2.2.2.2.2.2.1 rfl rfl
      obtain ⟨μ', hμ⟩ : ∃ μ' : Nat → Value, μ' = fun i => if i = 0 then ν2 0 else if i = 1 then ν2 1 else if i = 2 then ν2 724 else hv := ⟨_, rfl⟩
      have m0 : μ' 0 = ν2 0 := by rw [hμ]; rfl
      have m1 : μ' 1 = ν2 1 := by rw [hμ]; rfl
      have m2 : μ' 2 = ν2 724 := by rw [hμ]; rfl
      have m100 : μ' 100 = hv := by rw [hμ]; rfl
      have hpre : PRE ad C_ounceOf μ' ws2 := by
        refine ⟨fun j t hj => ?_, fun j q hj => ?_, fun q hq => by cases hq⟩
        · have ev2 := hg2.2.2.2.1
          match j, hj with
          | 0, hj => cases hj; rw [m0]; exact ev2 (0, (2, 0, 0)) (by decide)
          | 1, hj => cases hj; rw [m1]; exact ev2 (1, (0, 0, 1)) (by decide)
          | 2, hj => cases hj; rw [m2]; exact ev2 (724, (0, 0, 1)) (by decide)
          | n + 3, hj => cases hj
        · match j, hj with
          | 0, hj =>
            cases hj
            refine ⟨by rw [m100]; exact u4, ?_⟩
            show fget ws2 0 3 = some (μ' 100)
            rw [m100, fget_of u1]; exact u3
          | n + 1, hj => cases hj
      have hct := ac_ounceOf l G ad ws2 μ' hg2.2.2.2.2.2.2.2.1 hpre
      rw [m0, h0] at hct
      have hFw2 : FRM C_settle.2.2.2.2.1 w0 ws2 := frm_trans hF0 hF2 (by decide)
      refine hcallV (T := TM) (k := 0) (rest := []) (avs := [μ' 1, μ' 2]) X k_11_424 hct d_st_54 hg2.2.2.2.2.2.2.2.1 rfl rfl rfl rfl ⟨by decide, by decide⟩ ⟨Nat.le_refl 0, Nat.le_refl 0⟩ (by decide) (by rw [hs, m1, m2, h0]; rfl) (fun r w1 hp => ?_)
      obtain ⟨q1, q2, x, rfl, x1, x2, x3⟩ := hp
      have hgw : AG G ad TM sC_stR.2.2.2.2.1 w1 pinA (se_stQ_54.2.1.1, [], se_stQ_54.2.1.2.2.1, [], se_stQ_54.2.1.2.2.2.2.1, 1000) ν2 lw2 [] w1 := AG.worldR (st2 := []) hg2 q1 q2
      have hgR := hgw.pushN (n := 725) (t := (0, -1, 15)) (v := .int x) (by decide) (by decide) (fun q hq e9 => by
        have h1 := (hpm q hq).1
        rw [e9] at h1
        revert h1
        decide) (vty_i x1 x2)
      have hFw1 : FRM C_settle.2.2.2.2.1 w0 w1 := frm_trans hFw2 q2 (by decide)
      refine aseg (C := sC_stR) (PO := STpo G ad w0 μ) (fld := fld_11) (put := put_11) (cst := cst_11) (cstl := cstl_11) (hk := hk0) (tab := D_X11_settle) (rk := 1) (pids := [0, 1, 720, 721, 722, 723, 724, 725]) D_X11_settle_ok X rfl rfl hok0 (Or.inr (Or.inl ⟨rfl, rfl⟩)) (Nat.le_refl 0) (Nat.le_refl 0) (fun j hj => List.mem_cons_of_mem _ (sp2 _ (spin1 (C := C_settle) j hj))) (fun j hj => List.mem_cons_of_mem _ (sp2 _ (spin2 (C := C_settle) j hj))) (hPO w1 hFw1) fld_11_ok put_11_ok cst_11_ok cstl_11_ok (sl_stR_ok l G) (Nat.le_refl 0) (Nat.le_refl 0) (fun q hq => by
        rcases List.mem_cons.mp hq with e1 | hq
        · rw [e1]; exact (by decide : (725 : Nat) ∈ [0, 1, 720, 721, 722, 723, 724, 725])
        · have hsub : ∀ z ∈ [0, 1, 720, 721, 722, 723, 724], z ∈ [0, 1, 720, 721, 722, 723, 724, 725] := by decide
          exact hsub _ (hpm q hq).1) sg_stR (fun d hd ν4 lw4 sw4 ws4 hg4 => ?_) _ lw2 _ w1 hgR
      have hd : d ∈ [se_stR_44, se_stR_44_1, se_stR_44_2] := hd
      have p4 := hg4.2.2.2.2.2.2.1
      have p4' : ∀ q ∈ pinA, ν4 q.1 = q.2 := fun q hq => (p4 q (List.mem_cons_of_mem _ hq)).2
      have d720 : ν4 720 = ν 720 := p4' (720, ν 720) (pm _ (by simp))
      have d722 : ν4 722 = ν 722 := p4' (722, ν 722) (pm _ (by simp))
      have d723 : ν4 723 = ν 723 := p4' (723, ν 723) (pm _ (by simp))
      have d724 : ν4 724 = ν 724 := p4' (724, ν 724) (pm _ (by simp))
      have d725 : ν4 725 = .int x := (p4 (725, .int x) List.mem_cons_self).2
      have hF4 := hg4.2.2.2.2.2.2.2.2
      have hW4 := hg4.2.2.2.2.2.2.2.1
      have hps : ∀ q ∈ spin C_settle μ, q.1 < 1000 ∧ ν4 q.1 = q.2 := fun q hq => ⟨hlt _ (hpm q (sp2 q hq)).1, p4' q (sp2 q hq)⟩
      have tr : ∀ w r, OPr G ad ws2 w r → OPr G ad ws4 w r := fun w r h => (h.frm q1 q2 (by decide) (by decide)).frm hW4 hF4 (by decide) (by decide)
      -- behind an iteration
      have back : ∀ (σ : AS) (b v h : Nat), AG G ad TM sC_stR.2.2.2.2.1 w1 ((725, .int x) :: pinA) σ ν4 lw4 [] ws4 → aarr (apids C_settle) none st44 σ = true → (∀ u, (2, u) ∈ lw4 → u = ν4 720) → (∀ u, (5, u) ∈ lw4 → u = ν4 b) → (∀ u, (6, u) ∈ lw4 → u = ν4 v) → (∀ u, (7, u) ∈ lw4 → u = ν4 h) → vI (ν 724) < vI (ν4 h) → vI (ν4 h) ≤ 2 → STi G ad ws4 (ν4 b) (ν4 v) → Z p l e (rmOf C_settle) s m args below meth c 9 G A (MQ below (QQ G A (STpo G ad w0 μ)) args s 0 0 A) 44 lw4 [] ws4 0 0 := by
        intro σ b v h hgs ha l2 l5 l6 l7 hlt2 hle hst
        have hgb := AG.rebase (mk := C_settle.2.2.2.2.1) (w0 := w0) hgs hFw1 (by decide)
        obtain ⟨ν', lw', r1, r2⟩ := AG.arrive (d := st44) (hgb.pins hps) spin3 ha (by decide)
        have k2 := l2 _ (r2 _ (lwv r1.1 (i := 2) (n := 720) (b := false) (by decide)))
        have k5 := l5 _ (r2 _ (lwv r1.1 (i := 5) (n := 722) (b := false) (by decide)))
        have k6 := l6 _ (r2 _ (lwv r1.1 (i := 6) (n := 723) (b := false) (by decide)))
        have k7 := l7 _ (r2 _ (lwv r1.1 (i := 7) (n := 724) (b := false) (by decide)))
        refine Z.mono r2 (st_inner X hK n ν' lw' ws4 r1 ?_ ?_ ?_)
        · rw [k7]; omega
        · rw [k2, d720]; exact hnn
        · rw [k5, k6]; exact hst
      rcases List.mem_cons.mp hd with e1 | hd
      · subst e1
        have hs4 : sw4 = [] := hg4.2.1
        subst hs4
        have el : lw4 = [(0, ν4 0), (1, ν4 1), (2, ν4 720), (3, ν4 721), (5, ν4 722), (6, ν4 723), (7, ν4 500), (8, ν4 725)] := hg4.1
        have r1 : vI (ν4 724) ≤ vI (ν4 500) + -1 := hg4.2.2.dl (a := 724) (b := 500) (c := -1) (by decide)
        obtain ⟨z, z1, z2, z3⟩ := hg4.2.2.rng (i := 500) (a := 1) (b := 2) (by decide)
        rw [d724] at r1
        refine back _ 722 723 500 hg4 (by decide +kernel) (by rw [el]; simp) (by rw [el]; simp) (by rw [el]; simp) (by rw [el]; simp) (by omega) (by rw [z1]; exact z3) ?_
        rw [d722, d723]
        intro x9 k9 h1 h2 h3
        rcases hinv x9 k9 h1 h2 h3 with ⟨a1, a2⟩ | ⟨a1, a2⟩
        · exact Or.inl ⟨a1, tr _ _ (a2.frm hg2.2.2.2.2.2.2.2.1 hF2 (by decide) (by decide))⟩
        · exact Or.inr ⟨a1, tr _ _ (a2.frm hg2.2.2.2.2.2.2.2.1 hF2 (by decide) (by decide))⟩
      rcases List.mem_cons.mp hd with e1 | hd
      · subst e1
        have hs4 : sw4 = [] := hg4.2.1
        subst hs4
        have el : lw4 = [(0, ν4 0), (1, ν4 1), (2, ν4 720), (3, ν4 500), (5, ν4 725), (6, ν4 501), (7, ν4 502), (8, ν4 725)] := hg4.1
        obtain ⟨z, z1, z2, z3⟩ := hg4.2.2.rng (i := 502) (a := 2) (b := 2) (by decide)
        obtain ⟨u, v1, v2, v3⟩ := hg4.2.2.rng (i := 501) (a := -1) (b := -1) (by decide)
        obtain ⟨t, t1, t2, t3⟩ := hg4.2.2.rng (i := 724) (a := 1) (b := 1) (by decide)
        have ht : vI (ν 724) = t.toInt := by rw [← d724, t1]; rfl
        refine back _ 725 501 502 hg4 (by decide +kernel) (by rw [el]; simp) (by rw [el]; simp) (by rw [el]; simp) (by rw [el]; simp) (by rw [z1, ht]; show _ < z.toInt; omega) (by rw [z1]; exact z3) ?_
        rw [d725, v1]
        intro x9 k9 h1 h2 h3
        cases h1
        cases h2
        have hop := x3 h3
        rw [m2, b724, ht] at hop
        have e9 : decide (t.toInt = 0) = false := by simp; omega
        rw [e9] at hop
        exact Or.inr ⟨by omega, tr _ _ hop⟩
      · have e1 := List.mem_singleton.mp hd
        subst e1
        have hs4 : sw4 = [] := hg4.2.1
        subst hs4
        have el : lw4 = [(0, ν4 0), (1, ν4 1), (2, ν4 720), (3, ν4 500), (5, ν4 725), (6, ν4 501), (7, ν4 502), (8, ν4 725)] := hg4.1
        obtain ⟨z, z1, z2, z3⟩ := hg4.2.2.rng (i := 502) (a := 1) (b := 1) (by decide)
        obtain ⟨u, v1, v2, v3⟩ := hg4.2.2.rng (i := 501) (a := 1) (b := 1) (by decide)
        obtain ⟨t, t1, t2, t3⟩ := hg4.2.2.rng (i := 724) (a := 0) (b := 0) (by decide)
        have ht : vI (ν 724) = t.toInt := by rw [← d724, t1]; rfl
        refine back _ 725 501 502 hg4 (by decide +kernel) (by rw [el]; simp) (by rw [el]; simp) (by rw [el]; simp) (by rw [el]; simp) (by rw [z1, ht]; show _ < z.toInt; omega) (by rw [z1]; show z.toInt ≤ 2; omega) ?_
        rw [d725, v1]
        intro x9 k9 h1 h2 h3
        cases h1
        cases h2
        have hop := x3 h3
        rw [m2, b724, ht] at hop
        have e9 : decide (t.toInt = 0) = true := by simp; omega
        rw [e9] at hop
        exact Or.inl ⟨by omega, tr _ _ hop⟩
    · have e1 := List.mem_singleton.mp hd
      subst e1
      obtain ⟨x, f, x1, x2, x3, x4, x5, x6, x7, x8⟩ := AG.elem (i := 722) (r := 500) (k := 6) (n := 16) (a := 0) (b := 15) hg2 (by decide) (by decide) (by decide) rfl rfl rfl
      have h5 : ν2 500 = .ref (ad 6) := hg2.2.2.ref (i := 500) rfl
      have x2 : sw2 = [.int x, .ref (ad 6), .int x, .ref (ad 6)] := by
        rw [x2]; show [_, _, ν2 722, ν2 500] = _; rw [x1, h5]
      obtain ⟨k, k1, k2, k3⟩ := hg2.2.2.rng (i := 723) (a := -1) (b := 1) (by decide)
      have el : lw2 = [(0, ν2 0), (1, ν2 1), (2, ν2 720), (3, ν2 721), (5, ν2 722), (6, ν2 723), (7, ν2 724)] := hg2.1
      have hop : (k.toInt = 1 ∧ OPr G ad ws2 true x) ∨ (k.toInt = -1 ∧ OPr G ad ws2 false x) := by
        rcases hinv x k (by rw [← b722]; exact x1) (by rw [← b723]; exact k1) x6 with ⟨a1, a2⟩ | ⟨a1, a2⟩
        · exact Or.inl ⟨a1, a2.frm hg2.2.2.2.2.2.2.2.1 hF2 (by decide) (by decide)⟩
        · exact Or.inr ⟨a1, a2.frm hg2.2.2.2.2.2.2.2.1 hF2 (by decide) (by decide)⟩
      have hfx := x4 _ x8
      have hfx1 : 0 ≤ (f x.toNatClampNeg).toInt := hfx.1
      have hfx2 : (f x.toNatClampNeg).toInt ≤ 9 := hfx.2.1
      have hsum : 0 ≤ (f x.toNatClampNeg + k).toInt ∧ (f x.toNatClampNeg + k).toInt ≤ 9 := by
        have e9 : (f x.toNatClampNeg + k).toInt = (f x.toNatClampNeg).toInt + k.toInt := tI_add rfl rfl (by omega)
        rw [e9]
        rcases hop with ⟨a1, f', g', c1, c2, c3⟩ | ⟨a1, f', g', c1, c2, c3⟩
        · rw [x3] at c1
          have ef : f = f' := Sum.inl.inj (congrArg (fun z : ClassId × vp_A => z.2.2) (Sum.inl.inj (congrArg Prod.snd (Option.some.inj c1))))
          subst ef
          rcases c3 with ⟨-, c3⟩ | ⟨c3, -⟩
          · obtain ⟨g0, u1, u2⟩ := WT.ints (T := TM) (k := 5) (n := 16) hg2.2.2.2.2.2.2.2.1 rfl
            rw [c2] at u1
            have eg : g' = g0 := Sum.inl.inj (congrArg (fun z : ClassId × vp_A => z.2.2) (Sum.inl.inj (congrArg Prod.snd (Option.some.inj u1))))
            subst eg
            have hg9 : (g' x.toNatClampNeg).toInt ≤ 9 := (u2 _ x8).2.1
            omega
          · cases c3
        · rw [x3] at c1
          have ef : f = f' := Sum.inl.inj (congrArg (fun z : ClassId × vp_A => z.2.2) (Sum.inl.inj (congrArg Prod.snd (Option.some.inj c1))))
          subst ef
          rcases c3 with ⟨c3, -⟩ | ⟨-, c3⟩
          · cases c3
          · omega
      rw [x2]
      refine z_iald X d_st_114 6 x3 x5 rfl ?_
      refine z_iload X d_st_115 5 (x := k) (by rw [el, k1]; rfl) ?_
      refine z_iadd X d_st_117 ?_
      refine z_iast X d_st_118 6 x3 x5 rfl ?_
      have hgb := AG.rebase (mk := C_settle.2.2.2.2.1) (w0 := w0) hg2 hF0 (by decide)
      have g3 := hgb.2.2.setA (k := 6) (te := .inr (0, 16, (0, 0, 9))) (y := (cyI G, 16, .inl (upd f x.toNatClampNeg (f x.toNatClampNeg + k)))) rfl x3 (Or.inl ⟨rfl, _, rfl, aint_upd x4 hsum.1 hsum.2 (fun e => by cases e)⟩) (fun n' t' e' g2 => by
        cases e'
        exact absurd g2 (by decide)) (by decide)
      have hgU : AG G ad TM sC_stU.2.2.2.2.1 w0 pinA ss_stU ν2 lw2 [] (ws2.set 6 (ad 6, aI G 16 (upd f x.toNatClampNeg (f x.toNatClampNeg + k)))) := ⟨hg2.1, rfl, g3⟩
      refine aseg (C := sC_stU) (PO := STpo G ad w0 μ) (fld := fld_11) (put := put_11) (cst := cst_11) (cstl := cstl_11) (hk := hk0) (tab := D_X11_settle) (rk := 1) (pids := [0, 1, 720, 721, 722, 723, 724]) D_X11_settle_ok X rfl rfl hok0 (Or.inr (Or.inl ⟨rfl, rfl⟩)) (Nat.le_refl 0) (Nat.le_refl 0) (fun j hj => sp2 _ (spin1 (C := C_settle) j hj)) (fun j hj => sp2 _ (spin2 (C := C_settle) j hj)) (fun r w1 h => h) fld_11_ok put_11_ok cst_11_ok cstl_11_ok (sl_stU_ok l G) (Nat.le_refl 0) (Nat.le_refl 0) (fun q hq => (hpm q hq).1) sg_stU (fun d hd ν4 lw4 sw4 ws4 hg4 => ?_) ν2 lw2 [] _ hgU
      rw [List.mem_singleton.mp hd] at hg4 ⊢
      have hs4 : sw4 = [] := hg4.2.1
      subst hs4
      have p4 := hg4.2.2.2.2.2.2.1
      have d720 : ν4 720 = ν 720 := (p4 (720, ν 720) (pm _ (by simp))).2
      have r1 : vI (ν4 720) ≤ vI (ν4 500) + -1 := hg4.2.2.dl (a := 720) (b := 500) (c := -1) (by decide)
      have r2 : vI (ν4 500) ≤ vI (ν4 720) + 1 := hg4.2.2.dl (a := 500) (b := 720) (c := 1) (by decide)
      obtain ⟨ν', lw', q1, q2⟩ := AG.arrive (d := st16) (hg4.pins (pin2 := spin C_settle μ) (fun q hq => p4 q (sp2 q hq))) spin3 (by decide +kernel) (by decide)
      have m2 := q2 _ (lwv q1.1 (i := 2) (n := 720) (b := false) (by decide))
      have el4 : lw4 = [(0, ν4 0), (1, ν4 1), (2, ν4 500), (3, ν4 721), (5, ν4 722), (6, ν4 723), (7, ν4 724)] := hg4.1
      rw [el4] at m2
      have m2 : ν' 720 = ν4 500 := by simpa using m2
      refine Z.mono q2 (hK ν' lw' ws4 q1 ?_)
      rw [m2]
      rw [d720] at r1 r2
      omega
theorem st_outer (X : ZC p s m args meth c cX11_settle 9 RX11 G A (some .int) "settle") : ∀ (n : Nat) (ν : Nat → Value) (lw : List (Nat × Value)) (ws : va_W), AG G ad TM C_settle.2.2.2.2.1 w0 (spin C_settle μ) st16.2.1 ν lw [] ws → (200 - vI (ν 720)).toNat < n → Z p l e (rmOf C_settle) s m args below meth c 9 G A (MQ below (QQ G A (STpo G ad w0 μ)) args s 0 0 A) 16 lw [] ws 0 0
  | 0, _, _, _, _, h9 => absurd h9 (Nat.not_lt_zero _)
  | n + 1, ν, lw, ws, hg, h9 => by
    have h3 := hg.2.2
    have hgA := hg.pins (pin2 := (720, ν 720) :: spin C_settle μ) (fun q hq => by
      rcases List.mem_cons.mp hq with e1 | hq
      · rw [e1]; exact ⟨(by decide : (720 : Nat) < 1000), rfl⟩
      · exact h3.2.2.2.2.1 q hq)
    refine aseg (C := sC_stP) (PO := STpo G ad w0 μ) (fld := fld_11) (put := put_11) (cst := cst_11) (cstl := cstl_11) (hk := hk0) (tab := D_X11_settle) (rk := 1) (pids := [0, 1, 720]) D_X11_settle_ok X rfl rfl hok0 (Or.inr (Or.inl ⟨rfl, rfl⟩)) (Nat.le_refl 0) (Nat.le_refl 0) (fun j hj => List.mem_cons_of_mem _ (spin1 (C := C_settle) j hj)) (fun j hj => List.mem_cons_of_mem _ (spin2 (C := C_settle) j hj)) (fun r w1 h => h) fld_11_ok put_11_ok cst_11_ok cstl_11_ok (sl_stP_ok l G) (Nat.le_refl 0) (Nat.le_refl 0) (fun q hq => by
      rcases List.mem_cons.mp hq with e1 | hq
      · rw [e1]; exact (by decide : (720 : Nat) ∈ [0, 1, 720])
      · have h1 : q.1 ∈ [0, 1] := spin3 q hq
        have hsub : ∀ z ∈ [0, 1], z ∈ [0, 1, 720] := by decide
        exact hsub _ h1) sg_stP (fun d hd ν4 lw4 sw4 ws4 hg4 => ?_) ν lw [] ws hgA
    rw [List.mem_singleton.mp hd] at hg4 ⊢
    have hs4 : sw4 = [] := hg4.2.1
    subst hs4
    have p4 := hg4.2.2.2.2.2.2.1
    have d720 : ν4 720 = ν 720 := (p4 (720, ν 720) List.mem_cons_self).2
    obtain ⟨ν', lw', q1, q2⟩ := AG.arrive (d := st44) (hg4.pins (pin2 := spin C_settle μ) (fun q hq => p4 q (List.mem_cons_of_mem _ hq))) spin3 (by decide +kernel) (by decide)
    have el4 : lw4 = [(0, ν4 0), (1, ν4 1), (2, ν4 720), (3, ν4 500), (5, ν4 501), (6, ν4 502), (7, ν4 503)] := hg4.1
    have m2 := q2 _ (lwv q1.1 (i := 2) (n := 720) (b := false) (by decide))
    have m5 := q2 _ (lwv q1.1 (i := 5) (n := 722) (b := false) (by decide))
    rw [el4] at m2 m5
    have m2 : ν' 720 = ν4 720 := by simpa using m2
    have m5 : ν' 722 = ν4 501 := by simpa using m5
    obtain ⟨z, z1, z2, z3⟩ := hg4.2.2.rng (i := 501) (a := -1) (b := -1) (by decide)
    obtain ⟨y, y1, y2, y3⟩ := hg4.2.2.rng (i := 720) (a := 0) (b := 199) (by decide)
    have hy : vI (ν 720) = y.toInt := by rw [← d720, y1]; rfl
    refine Z.mono q2 (st_inner X (nn := vI (ν 720)) (fun ν5 lw5 ws5 hg5 h5 => st_outer X n ν5 lw5 ws5 hg5 (by omega)) _ ν' lw' ws4 q1 (Nat.lt_succ_self _) (by rw [m2, d720]) (fun x k hx hk h0 => ?_))
    rw [m5, z1] at hx
    cases hx
    omega
end ST
theorem ac_settle (l : Launch) (G : KG) : ACt l G TM yX11_settle cX11_settle 9 (some .int) C_settle := by
  refine hand_of (by decide) (by decide) (by decide) (by decide) (by decide) ?_
  intro p e s m args below meth c A X ad w0 μ lw hW hPre hg
  refine aseg (C := sC_stO) (PO := STpo G ad w0 μ) (fld := fld_11) (put := put_11) (cst := cst_11) (cstl := cstl_11) (hk := hk0) (tab := D_X11_settle) (rk := 1) (pids := [0, 1]) D_X11_settle_ok X rfl rfl hok0 (Or.inr (Or.inl ⟨rfl, rfl⟩)) (Nat.le_refl 0) (Nat.le_refl 0) (spin1 (C := C_settle)) (spin2 (C := C_settle)) (fun r w1 h => h) fld_11_ok put_11_ok cst_11_ok cstl_11_ok (sl_stO_ok l G) (Nat.le_refl 0) (Nat.le_refl 0) spin3 sg_stO (fun d hd ν2 lw2 sw2 ws2 hg2 => ?_) μ lw [] w0 hg
  rw [List.mem_singleton.mp hd] at hg2 ⊢
  have hs : sw2 = [] := hg2.2.1
  subst hs
  obtain ⟨ν', lw', q1, q2⟩ := AG.arrive (d := st16) hg2 spin3 (by decide +kernel) (by decide)
  exact Z.mono q2 (st_outer X _ ν' lw' ws2 q1 (Nat.lt_succ_self _))
end
section
/-! mill, in the table where asked is coded -/
theorem tm_set : TM0 = TM.set 36 (.inr (0, 16, (0, 0, 15))) := rfl
theorem wt_dn {G : KG} {ad : Nat → Nat} {w : va_W} (h : WT G ad TM w) : WT G ad TM0 w := by
  refine ⟨h.1, fun k te hT => ?_, fun k n t a f c i hT h2 hw hf hi => ?_⟩
  · by_cases e : k = 36
    · subst e
      have : te = .inr (0, 16, (0, 0, 15)) := Option.some.inj (hT.symm.trans (by rfl))
      subst this
      obtain ⟨f, w1, w2⟩ := WT.ints (T := TM) (k := 36) (n := 16) h rfl
      exact ⟨_, w1, Or.inl ⟨rfl, f, rfl, fun k hk => ⟨(w2 k hk).1, (w2 k hk).2.1, fun e => by cases e⟩⟩⟩
    · rw [tm_set, List.getElem?_set_ne (fun h => e h.symm)] at hT
      exact h.2.1 k te hT
  · by_cases e : k = 36
    · subst e
      have : (.inr (0, n, t) : TE) = .inr (0, 16, (0, 0, 15)) := Option.some.inj (hT.symm.trans (by rfl))
      cases this
      exact absurd h2 (by decide)
    · rw [tm_set, List.getElem?_set_ne (fun h => e h.symm)] at hT
      exact h.2.2 k n t a f c i hT h2 hw hf hi
theorem wt_up {G : KG} {ad : Nat → Nat} {mk : List (Nat × Nat)} {w0 w1 : va_W} {o x : Int32} (h0 : WT G ad TM w0) (h : WT G ad TM0 w1) (hF : FRM mk w0 w1) (hm : mkq mk 36 0 = false) (ho : fget w0 0 3 = some (.int o)) (hx : fget w1 0 3 = some (.int x)) (hle : o.toInt ≤ x.toInt) : WT G ad TM w1 := by
  obtain ⟨f, u1, u2⟩ := WT.ints (T := TM) (k := 36) (n := 16) h0 rfl
  obtain ⟨b, v1⟩ := hF.arr hm u1
  rw [WT.adr (T := TM0) (k := 36) h rfl v1] at v1
  refine ⟨h.1, fun k te hT => ?_, fun k n t a f' c i hT h2 hw hf hi => ?_⟩
  · by_cases e : k = 36
    · subst e
      have : te = .inr (0, 16, (16, 0, 15)) := Option.some.inj (hT.symm.trans (by rfl))
      subst this
      exact ⟨_, v1, Or.inl ⟨rfl, f, rfl, u2⟩⟩
    · refine h.2.1 k te ?_
      rw [tm_set, List.getElem?_set_ne (fun h => e h.symm)]
      exact hT
  · by_cases e : k = 36
    · subst e
      have e1 : (.inr (0, n, t) : TE) = .inr (0, 16, (16, 0, 15)) := Option.some.inj (hT.symm.trans (by rfl))
      cases e1
      rw [v1] at hw
      have ef : f = f' := Sum.inl.inj (congrArg (fun z : ClassId × vp_A => z.2.2) (Sum.inl.inj (congrArg Prod.snd (Option.some.inj hw))))
      subst ef
      have hf : fget w1 0 3 = some (.int c) := hf
      rw [hx] at hf
      cases hf
      rcases h0.2.2 36 16 _ _ f o i rfl (by decide) u1 ho hi with ⟨h9, -⟩ | ⟨h9, hp⟩
      · exact absurd h9 (by decide)
      · exact Or.inr ⟨h9, hp.imp id (fun h => by omega)⟩
    · refine h.2.2 k n t a f' c i ?_ h2 hw hf hi
      rw [tm_set, List.getElem?_set_ne (fun h => e h.symm)]
      exact hT
theorem ac_mill (l : Launch) (G : KG) : ACt l G TM yX11_mill cX11_mill 10 (some .int) C_z_X11_mill_0 := by
  intro ad w0 μ hW hP
  have h1 := ac_z_X11_mill_0 l G ad w0 μ (wt_dn hW) hP
  refine h1.weak (fun r w1 hp => ?_)
  obtain ⟨A1, hA, μ', a1, a2, a3, a4, a5, a6, a7, a8⟩ := hp
  have hA2 := List.mem_singleton.mp hA
  subst hA2
  have p0 := hP.2.1 0 _ rfl
  have q1 := a5 1 _ rfl
  obtain ⟨o, ho, -⟩ := vty0 p0.1 rfl
  obtain ⟨x, hx, -⟩ := vty0 q1.1 rfl
  have p2 : fget w0 0 3 = some (μ (100 + 0)) := p0.2
  have q2 : fget w1 0 3 = some (μ' (200 + 1)) := q1.2
  rw [ho] at p2
  rw [hx] at q2
  have r1 := a6 (100, 201, 0) (by decide)
  have r1 : vI (μ' 100) ≤ vI (μ' 201) + 0 := r1
  rw [a2 100 (by decide) (by decide)] at r1
  have ho : μ 100 = .int o := ho
  have hx : μ' 201 = .int x := hx
  rw [ho, hx] at r1
  have r1 : o.toInt ≤ x.toInt + 0 := r1
  exact ⟨_, hA, μ', a1, a2, a3, a4, a5, a6, wt_up hW a7 a8 (by decide) p2 q2 (by omega), a8⟩
end
section
def D_X10_settleOunce : DT := [(0, .aload_n 0, 1), (1, .iload_n 1, 1), (2, .iconst 0, 1), (3, .invokevirtual 392, 3), (6, .istore_n 2, 1), (7, .aload_n 0, 1), (8, .iload_n 1, 1), (9, .iconst 1, 1), (10, .invokevirtual 392, 3), (13, .istore_n 3, 1), (14, .iload_n 2, 1), (15, .ifCond .lt 12, 3), (18, .aload_n 0, 1), (19, .iload_n 2, 1), (20, .iconst 0, 1), (21, .invokevirtual 395, 3), (24, .goto 4, 3), (27, .lconst 0, 1), (28, .lstore 4, 2), (30, .iload_n 3, 1), (31, .ifCond .lt 12, 3), (34, .aload_n 0, 1), (35, .iload_n 3, 1), (36, .iconst 1, 1), (37, .invokevirtual 395, 3), (40, .goto 4, 3), (43, .lconst 0, 1), (44, .lstore 6, 2), (46, .lload 4, 2), (48, .lconst 0, 1), (49, .lcmp, 1), (50, .ifCond .lt 12, 3), (53, .lload 6, 2), (55, .lconst 0, 1), (56, .lcmp, 1), (57, .ifCond .lt 5, 3), (60, .iconst 0, 1), (61, .ireturn, 1), (62, .lload 4, 2), (64, .lload 6, 2), (66, .lcmp, 1), (67, .ifCond .gt 19, 3), (70, .aload_n 0, 1), (71, .getfield 26, 3), (74, .getfield 128, 3), (77, .iload_n 2, 1), (78, .dup2, 1), (79, .iaload, 1), (80, .iconst 1, 1), (81, .iadd, 1), (82, .iastore, 1), (83, .goto 16, 3), (86, .aload_n 0, 1), (87, .getfield 26, 3), (90, .getfield 128, 3), (93, .iload_n 3, 1), (94, .dup2, 1), (95, .iaload, 1), (96, .iconst 1, 1), (97, .isub, 1), (98, .iastore, 1), (99, .iconst 1, 1), (100, .ireturn, 1)]
theorem D_X10_settleOunce_ok : dtOK cX10_settleOunce D_X10_settleOunce = true := by decide +kernel
abbrev C_roomLeft0 : CE := ([(2, 5, 0), (0, 0, 15)], [], [], [], [], 0, 0)
abbrev sC_rR0 : CE := ([(2, 5, 0), (0, 0, 15)], [], [], [], [], 0, 0)
def sl_rR0 : List CAL := []
theorem sl_rR0_ok (l : Launch) (G : KG) : ∀ q ∈ sl_rR0, COK l G RX5 TX q := fun _ h => absurd h List.not_mem_nil
def sk_rR0 : List CUT := []
abbrev se_rR0_5 : CUT := (5, ([(0, 0, false), (1, 1, false)], [1, 500], [(0, (2, 5, 0)), (1, (0, 0, 15)), (500, (2, 9, 0))], [(5, 4, 500)], [], 1000), 0, [(0, 0)])
def sx_rR0 : List CUT := [se_rR0_5]
abbrev ss_rR0 : AS := ([(0, 0, false), (1, 1, false)], [], [(0, (2, 5, 0)), (1, (0, 0, 15))], [], [], 1000)
theorem sg_rR0 : xcheckS hk0 D_X5_roomLeft 2 TX fld_5 put_5 cst_5 cstl_5 sl_rR0 1 sC_rR0 sk_rR0 sx_rR0 [0, 1] 4000 0 ss_rR0 = true := by decide +kernel
abbrev sC_rR1 : CE := ([(2, 5, 0), (0, 0, 15)], [], [], [], [], 0, 0)
def sl_rR1 : List CAL := []
theorem sl_rR1_ok (l : Launch) (G : KG) : ∀ q ∈ sl_rR1, COK l G RX5 TX q := fun _ h => absurd h List.not_mem_nil
def sk_rR1 : List CUT := []
abbrev se_rR1_11 : CUT := (11, ([(0, 0, false), (1, 1, false)], [1, 500, 702], [(0, (2, 5, 0)), (1, (0, 0, 15)), (500, (2, 10, 0)), (501, (2, 9, 0)), (702, (0, 0, 9))], [(5, 4, 501), (5, 5, 500)], [], 1000), 0, [(0, 0)])
def sx_rR1 : List CUT := [se_rR1_11]
abbrev ss_rR1 : AS := (se_rR0_5.2.1.1, [702], (702, (0, 0, 9)) :: se_rR0_5.2.1.2.2.1, se_rR0_5.2.1.2.2.2.1, se_rR0_5.2.1.2.2.2.2.1, 1000)
theorem sg_rR1 : xcheckS hk0 D_X5_roomLeft 2 TX fld_5 put_5 cst_5 cstl_5 sl_rR1 1 sC_rR1 sk_rR1 sx_rR1 [0, 1, 702] 4000 6 ss_rR1 = true := by decide +kernel
abbrev C_bo0 : CE := ([(2, 0, 0), (0, 0, 1), (0, 0, 1)], [(5, 0, (0, 0, 16))], [], [], [], 3, 73)
abbrev sC_boS : CE := ([(2, 0, 0), (0, 0, 1), (0, 0, 1)], [(5, 0, (0, 0, 16))], [], [], [], 3, 73)
def sl_boS : List CAL := []
theorem sl_boS_ok (l : Launch) (G : KG) : ∀ q ∈ sl_boS, COK l G RX10 TX q := fun _ h => absurd h List.not_mem_nil
def sk_boS : List CUT := []
abbrev se_boS_9 : CUT := (9, ([(0, 0, false), (1, 1, false), (2, 2, false), (3, 500, false), (4, 501, true), (6, 502, false)], [], [(0, (2, 0, 0)), (1, (0, 0, 1)), (2, (0, 0, 1)), (100, (0, 0, 16)), (500, (0, -2, -2)), (501, (1, 0, 0)), (502, (0, 0, 0))], [(5, 0, 100)], [], 1000), 0, [(0, 0)])
def sx_boS : List CUT := [se_boS_9]
abbrev ss_boS : AS := ([(0, 0, false), (1, 1, false), (2, 2, false)], [], [(0, (2, 0, 0)), (1, (0, 0, 1)), (2, (0, 0, 1)), (100, (0, 0, 16))], [(5, 0, 100)], [], 1000)
theorem sg_boS : xcheckS hk0 D_X10_bestOunce 10 TX fld_10 put_10 cst_10 cstl_10 sl_boS 1 sC_boS sk_boS sx_boS [0, 1, 2, 100] 4000 0 ss_boS = true := by decide +kernel
abbrev boH : CUT := (9, ([(0, 0, false), (1, 1, false), (2, 2, false), (3, 700, false), (4, 704, true), (6, 701, false)], [], [(0, (2, 0, 0)), (1, (0, 0, 1)), (2, (0, 0, 1)), (100, (0, 0, 16)), (700, (0, -2, 15)), (701, (0, 0, 16)), (704, (1, -9223372036854775808, 9223372036854775807))], [(5, 0, 100)], [(701, 100, 0)], 1000), 0, [(0, 0)])
abbrev sC_boA : CE := ([(2, 0, 0), (0, 0, 1), (0, 0, 1)], [(5, 0, (0, 0, 16))], [], [], [], 3, 73)
def sl_boA : List CAL := []
theorem sl_boA_ok (l : Launch) (G : KG) : ∀ q ∈ sl_boA, COK l G RX10 TX q := fun _ h => absurd h List.not_mem_nil
def sk_boA : List CUT := []
abbrev se_boA_31 : CUT := (31, ([(0, 0, false), (1, 1, false), (2, 2, false), (3, 700, false), (4, 500, true), (6, 701, false)], [701, 501], [(0, (2, 0, 0)), (1, (0, 0, 1)), (2, (0, 0, 0)), (100, (0, 1, 16)), (500, (1, -9223372036854775808, 9223372036854775807)), (501, (2, 5, 0)), (700, (0, -2, 15)), (701, (0, 0, 15)), (704, (1, -9223372036854775808, 9223372036854775807))], [(0, 2, 501), (5, 0, 100)], [(701, 100, -1)], 1000), 0, [(0, 0)])
abbrev se_boA_54 : CUT := (54, ([(0, 0, false), (1, 1, false), (2, 2, false), (3, 700, false), (4, 500, true), (6, 701, false)], [701, 501], [(0, (2, 0, 0)), (1, (0, 0, 1)), (2, (0, 1, 1)), (100, (0, 1, 16)), (500, (1, -9223372036854775808, 9223372036854775807)), (501, (2, 10, 0)), (502, (2, 5, 0)), (700, (0, -2, 15)), (701, (0, 0, 15)), (704, (1, -9223372036854775808, 9223372036854775807))], [(0, 2, 502), (5, 0, 100), (5, 5, 501)], [(701, 100, -1)], 1000), 0, [(0, 0)])
abbrev se_boA_122 : CUT := (122, ([(0, 0, false), (1, 1, false), (2, 2, false), (3, 700, false), (4, 500, true), (6, 701, false)], [700], [(0, (2, 0, 0)), (1, (0, 0, 1)), (2, (0, 0, 1)), (100, (0, 0, 16)), (500, (1, -9223372036854775808, 9223372036854775807)), (501, (2, 5, 0)), (700, (0, -2, 15)), (701, (0, 0, 16)), (704, (1, -9223372036854775808, 9223372036854775807))], [(0, 2, 501), (5, 0, 100)], [(100, 701, 0), (701, 100, 0)], 1000), 0, [(0, 0)])
def sx_boA : List CUT := [se_boA_31, se_boA_54, se_boA_122]
abbrev ss_boA : AS := boH.2.1
theorem sg_boA : xcheckS hk0 D_X10_bestOunce 10 TX fld_10 put_10 cst_10 cstl_10 sl_boA 1 sC_boA sk_boA sx_boA [0, 1, 2, 100, 700, 701, 704] 4000 9 ss_boA = true := by decide +kernel
abbrev sC_boB : CE := ([(2, 0, 0), (0, 0, 1), (0, 0, 1)], [(5, 0, (0, 0, 16))], [], [], [], 3, 73)
def sl_boB : List CAL := [(395, 0, 7, C_X10_changeByOunce_0)]
theorem sl_boB_ok (l : Launch) (G : KG) : ∀ q ∈ sl_boB, COK l G RX10 TX q := List.forall_mem_cons.mpr ⟨cok_v k_10_395 (ac_X10_changeByOunce_0 l G) rfl rfl rfl rfl rfl rfl, fun _ h => absurd h List.not_mem_nil⟩
def sk_boB : List CUT := []
abbrev se_boB_9 : CUT := (9, ([(0, 0, false), (1, 1, false), (2, 2, false), (3, 700, false), (4, 500, true), (6, 501, false), (7, 502, false)], [], [(0, (2, 0, 0)), (1, (0, 0, 1)), (2, (0, 0, 0)), (100, (0, 1, 16)), (500, (1, -9223372036854775808, 9223372036854775807)), (501, (0, 1, 16)), (502, (0, 0, 1)), (503, (2, 5, 0)), (504, (2, 6, 0)), (700, (0, -2, 15)), (701, (0, 0, 15)), (702, (0, -9, 9)), (704, (1, -9223372036854775808, 9223372036854775807))], [(0, 2, 503), (5, 0, 100), (5, 1, 504)], [(701, 100, -1), (701, 501, -1), (501, 100, 0), (501, 701, 1)], 1000), 0, [(0, 0)])
abbrev se_boB_9_1 : CUT := (9, ([(0, 0, false), (1, 1, false), (2, 2, false), (3, 701, false), (4, 500, true), (6, 501, false), (7, 502, false), (8, 500, true)], [], [(0, (2, 0, 0)), (1, (0, 0, 1)), (2, (0, 0, 0)), (100, (0, 1, 16)), (500, (1, -9223372036854775808, 9223372036854775807)), (501, (0, 1, 16)), (502, (0, 1, 1)), (503, (2, 5, 0)), (504, (2, 6, 0)), (700, (0, -2, 15)), (701, (0, 0, 15)), (702, (0, 1, 9)), (704, (1, -9223372036854775808, 9223372036854775807))], [(0, 2, 503), (5, 0, 100), (5, 1, 504)], [(701, 100, -1), (701, 501, -1), (501, 100, 0), (501, 701, 1)], 1000), 0, [(0, 0)])
def sx_boB : List CUT := [se_boB_9, se_boB_9_1]
abbrev ss_boB : AS := (se_boA_31.2.1.1, [702], (702, (0, -9, 9)) :: se_boA_31.2.1.2.2.1, se_boA_31.2.1.2.2.2.1, se_boA_31.2.1.2.2.2.2.1, 1000)
theorem sg_boB : xcheckS hk0 D_X10_bestOunce 10 TX fld_10 put_10 cst_10 cstl_10 sl_boB 1 sC_boB sk_boB sx_boB [0, 1, 2, 100, 700, 701, 704, 702] 4000 34 ss_boB = true := by decide +kernel
abbrev sC_boD : CE := ([(2, 0, 0), (0, 0, 1), (0, 0, 1)], [(5, 0, (0, 0, 16))], [], [], [], 3, 73)
def sl_boD : List CAL := [(395, 0, 7, C_X10_changeByOunce_1)]
theorem sl_boD_ok (l : Launch) (G : KG) : ∀ q ∈ sl_boD, COK l G RX10 TX q := List.forall_mem_cons.mpr ⟨cok_v k_10_395 (ac_X10_changeByOunce_1 l G) rfl rfl rfl rfl rfl rfl, fun _ h => absurd h List.not_mem_nil⟩
def sk_boD : List CUT := []
abbrev se_boD_9 : CUT := (9, ([(0, 0, false), (1, 1, false), (2, 2, false), (3, 700, false), (4, 500, true), (6, 501, false), (7, 502, false)], [], [(0, (2, 0, 0)), (1, (0, 0, 1)), (2, (0, 1, 1)), (100, (0, 1, 16)), (500, (1, -9223372036854775808, 9223372036854775807)), (501, (0, 1, 16)), (502, (0, 0, 1)), (503, (2, 5, 0)), (504, (2, 6, 0)), (505, (2, 10, 0)), (700, (0, -2, 15)), (701, (0, 0, 15)), (702, (0, 0, 9)), (704, (1, -9223372036854775808, 9223372036854775807))], [(0, 2, 503), (5, 0, 100), (5, 1, 504), (5, 5, 505)], [(701, 100, -1), (701, 501, -1), (501, 100, 0), (501, 701, 1), (502, 702, 0)], 1000), 0, [(0, 0)])
abbrev se_boD_9_1 : CUT := (9, ([(0, 0, false), (1, 1, false), (2, 2, false), (3, 701, false), (4, 500, true), (6, 501, false), (7, 502, false), (8, 500, true)], [], [(0, (2, 0, 0)), (1, (0, 0, 1)), (2, (0, 1, 1)), (100, (0, 1, 16)), (500, (1, -9223372036854775808, 9223372036854775807)), (501, (0, 1, 16)), (502, (0, 1, 1)), (503, (2, 5, 0)), (504, (2, 6, 0)), (505, (2, 10, 0)), (700, (0, -2, 15)), (701, (0, 0, 15)), (702, (0, 1, 9)), (704, (1, -9223372036854775808, 9223372036854775807))], [(0, 2, 503), (5, 0, 100), (5, 1, 504), (5, 5, 505)], [(701, 100, -1), (701, 501, -1), (501, 100, 0), (501, 701, 1)], 1000), 0, [(0, 0)])
def sx_boD : List CUT := [se_boD_9, se_boD_9_1]
abbrev ss_boD : AS := (se_boA_54.2.1.1, [702], (702, (0, 0, 9)) :: se_boA_54.2.1.2.2.1, se_boA_54.2.1.2.2.2.1, se_boA_54.2.1.2.2.2.2.1, 1000)
theorem sg_boD : xcheckS hk0 D_X10_bestOunce 10 TX fld_10 put_10 cst_10 cstl_10 sl_boD 1 sC_boD sk_boD sx_boD [0, 1, 2, 100, 700, 701, 704, 702] 4000 55 ss_boD = true := by decide +kernel
abbrev C_settleOunce : CE := ([(2, 0, 0), (0, 0, 1)], [], [], [(some (0, 0, 0), [], [], []), (some (0, 1, 1), [], [], [])], [(10, 999)], 4, 102)
abbrev sC_so0 : CE := ([(2, 0, 0), (0, 0, 1)], [], [], [(some (0, 0, 0), [], [], []), (some (0, 1, 1), [], [], [])], [], 4, 102)
def sl_so0 : List CAL := []
theorem sl_so0_ok (l : Launch) (G : KG) : ∀ q ∈ sl_so0, COK l G RX10 TX q := fun _ h => absurd h List.not_mem_nil
def sk_so0 : List CUT := []
abbrev se_so0_3 : CUT := (3, ([(0, 0, false), (1, 1, false)], [500, 1, 0], [(0, (2, 0, 0)), (1, (0, 0, 1)), (500, (0, 0, 0))], [], [], 1000), 0, [(0, 0)])
def sx_so0 : List CUT := [se_so0_3]
abbrev ss_so0 : AS := ([(0, 0, false), (1, 1, false)], [], [(0, (2, 0, 0)), (1, (0, 0, 1))], [], [], 1000)
theorem sg_so0 : xcheckS hk0 D_X10_settleOunce 8 TX fld_10 put_10 cst_10 cstl_10 sl_so0 3 sC_so0 sk_so0 sx_so0 [0, 1] 4000 0 ss_so0 = true := by decide +kernel
abbrev sC_so1 : CE := ([(2, 0, 0), (0, 0, 1)], [], [], [(some (0, 0, 0), [], [], []), (some (0, 1, 1), [], [], [])], [], 4, 102)
def sl_so1 : List CAL := []
theorem sl_so1_ok (l : Launch) (G : KG) : ∀ q ∈ sl_so1, COK l G RX10 TX q := fun _ h => absurd h List.not_mem_nil
def sk_so1 : List CUT := []
abbrev se_so1_10 : CUT := (10, ([(0, 0, false), (1, 1, false), (2, 710, false)], [500, 1, 0], [(0, (2, 0, 0)), (1, (0, 0, 1)), (500, (0, 1, 1)), (710, (0, -2, 15))], [], [], 1000), 0, [(0, 0)])
def sx_so1 : List CUT := [se_so1_10]
abbrev ss_so1 : AS := (se_so0_3.2.1.1, [710], (710, (0, -2, 15)) :: se_so0_3.2.1.2.2.1, se_so0_3.2.1.2.2.2.1, se_so0_3.2.1.2.2.2.2.1, 1000)
theorem sg_so1 : xcheckS hk0 D_X10_settleOunce 8 TX fld_10 put_10 cst_10 cstl_10 sl_so1 3 sC_so1 sk_so1 sx_so1 [0, 1, 710] 4000 6 ss_so1 = true := by decide +kernel
abbrev sC_so2 : CE := ([(2, 0, 0), (0, 0, 1)], [], [], [(some (0, 0, 0), [], [], []), (some (0, 1, 1), [], [], [])], [], 4, 102)
def sl_so2 : List CAL := [(395, 0, 7, C_X10_changeByOunce_0), (395, 0, 7, C_X10_changeByOunce_1)]
theorem sl_so2_ok (l : Launch) (G : KG) : ∀ q ∈ sl_so2, COK l G RX10 TX q := List.forall_mem_cons.mpr ⟨cok_v k_10_395 (ac_X10_changeByOunce_0 l G) rfl rfl rfl rfl rfl rfl, List.forall_mem_cons.mpr ⟨cok_v k_10_395 (ac_X10_changeByOunce_1 l G) rfl rfl rfl rfl rfl rfl, fun _ h => absurd h List.not_mem_nil⟩⟩
def sk_so2 : List CUT := []
abbrev se_so2_79 : CUT := (79, ([(0, 0, false), (1, 1, false), (2, 710, false), (3, 711, false), (4, 500, true), (6, 501, true)], [710, 502, 710, 502], [(0, (2, 0, 0)), (1, (0, 0, 1)), (500, (1, -9223372036854775808, -1)), (501, (1, -9223372036854775808, 9223372036854775807)), (502, (2, 10, 0)), (503, (2, 5, 0)), (710, (0, 0, 15)), (711, (0, -2, 15))], [(0, 2, 503), (5, 5, 502)], [(500, 501, 0)], 1000), 0, [(0, 0)])
abbrev se_so2_95 : CUT := (95, ([(0, 0, false), (1, 1, false), (2, 710, false), (3, 711, false), (4, 500, true), (6, 501, true)], [711, 502, 711, 502], [(0, (2, 0, 0)), (1, (0, 0, 1)), (500, (1, -9223372036854775807, 9223372036854775807)), (501, (1, -9223372036854775808, -1)), (502, (2, 10, 0)), (503, (2, 5, 0)), (710, (0, -2, 15)), (711, (0, 0, 15))], [(0, 2, 503), (5, 5, 502)], [(501, 500, -1)], 1000), 0, [(0, 0)])
def sx_so2 : List CUT := [se_so2_79, se_so2_95]
abbrev ss_so2 : AS := (se_so1_10.2.1.1, [711], (711, (0, -2, 15)) :: se_so1_10.2.1.2.2.1, se_so1_10.2.1.2.2.2.1, se_so1_10.2.1.2.2.2.2.1, 1000)
theorem sg_so2 : xcheckS hk0 D_X10_settleOunce 8 TX fld_10 put_10 cst_10 cstl_10 sl_so2 3 sC_so2 sk_so2 sx_so2 [0, 1, 710, 711] 4000 13 ss_so2 = true := by decide +kernel
abbrev sC_so3 : CE := ([(2, 0, 0), (0, 0, 1)], [], [], [(some (0, 0, 0), [], [], []), (some (0, 1, 1), [], [], [])], [(10, 999)], 4, 102)
def sl_so3 : List CAL := []
theorem sl_so3_ok (l : Launch) (G : KG) : ∀ q ∈ sl_so3, COK l G RX10 TX q := fun _ h => absurd h List.not_mem_nil
def sk_so3 : List CUT := []
def sx_so3 : List CUT := []
abbrev ss_so3 : AS := (se_so2_79.2.1.1, [], se_so2_79.2.1.2.2.1, se_so2_79.2.1.2.2.2.1, se_so2_79.2.1.2.2.2.2.1, 1000)
theorem sg_so3 : xcheckS hk0 D_X10_settleOunce 8 TX fld_10 put_10 cst_10 cstl_10 sl_so3 3 sC_so3 sk_so3 sx_so3 [0, 1, 710, 711, 500, 501] 4000 83 ss_so3 = true := by decide +kernel
abbrev sC_so4 : CE := ([(2, 0, 0), (0, 0, 1)], [], [], [(some (0, 0, 0), [], [], []), (some (0, 1, 1), [], [], [])], [(10, 999)], 4, 102)
def sl_so4 : List CAL := []
theorem sl_so4_ok (l : Launch) (G : KG) : ∀ q ∈ sl_so4, COK l G RX10 TX q := fun _ h => absurd h List.not_mem_nil
def sk_so4 : List CUT := []
def sx_so4 : List CUT := []
abbrev ss_so4 : AS := (se_so2_95.2.1.1, [], se_so2_95.2.1.2.2.1, se_so2_95.2.1.2.2.2.1, se_so2_95.2.1.2.2.2.2.1, 1000)
theorem sg_so4 : xcheckS hk0 D_X10_settleOunce 8 TX fld_10 put_10 cst_10 cstl_10 sl_so4 3 sC_so4 sk_so4 sx_so4 [0, 1, 710, 711, 500, 501] 4000 99 ss_so4 = true := by decide +kernel
theorem d_rm_5 : decode cX5_roomLeft 5 = .ok (.iaload, 1) := by decide +kernel
theorem d_rm_11 : decode cX5_roomLeft 11 = .ok (.iaload, 1) := by decide +kernel
theorem d_rm_12 : decode cX5_roomLeft 12 = .ok (.isub, 1) := by decide +kernel
theorem d_rm_13 : decode cX5_roomLeft 13 = .ok (.ireturn, 1) := by decide +kernel
theorem d_bo_31 : decode cX10_bestOunce 31 = .ok (.invokevirtual 371, 3) := by decide +kernel
theorem d_bo_54 : decode cX10_bestOunce 54 = .ok (.iaload, 1) := by decide +kernel
theorem d_bo_122 : decode cX10_bestOunce 122 = .ok (.ireturn, 1) := by decide +kernel
theorem d_so_3 : decode cX10_settleOunce 3 = .ok (.invokevirtual 392, 3) := by decide +kernel
theorem d_so_10 : decode cX10_settleOunce 10 = .ok (.invokevirtual 392, 3) := by decide +kernel
theorem d_so_79 : decode cX10_settleOunce 79 = .ok (.iaload, 1) := by decide +kernel
theorem d_so_80 : decode cX10_settleOunce 80 = .ok (.iconst 1, 1) := by decide +kernel
theorem d_so_81 : decode cX10_settleOunce 81 = .ok (.iadd, 1) := by decide +kernel
theorem d_so_82 : decode cX10_settleOunce 82 = .ok (.iastore, 1) := by decide +kernel
theorem d_so_95 : decode cX10_settleOunce 95 = .ok (.iaload, 1) := by decide +kernel
theorem d_so_96 : decode cX10_settleOunce 96 = .ok (.iconst 1, 1) := by decide +kernel
theorem d_so_97 : decode cX10_settleOunce 97 = .ok (.isub, 1) := by decide +kernel
theorem d_so_98 : decode cX10_settleOunce 98 = .ok (.iastore, 1) := by decide +kernel
end
section
/-! rows over a typed world, for walks by hand -/
section HW
variable {p : Program} {l : Launch} {e : Env} {R : Room} {s : State} {m : MethodId} {args : Array Value} {below : List Frame} {meth : Method} {c : Code} {nL : Nat} {G : KG} {A : Nat → Prop} {Q : State → Prop} {cc : ByteArray} {own : String} {ret : Option FieldType} {nm : String} {kc ks : Nat}
variable {ad : Nat → Nat} {T : List TE} {ws : va_W} {lw : List (Nat × Value)} {rest : List Value} {pc : Nat}
theorem fget_ob (hW : WT G ad T ws) {k ci j : Nat} {ts : List VT} {v : Value} (hT : T[k]? = some (.inl (ci, ts))) (hv : fget ws k j = some v) : ∃ fs, ws[k]? = some (ad k, ob ci fs) ∧ fs[j]? = some v := by
  obtain ⟨en, h1, fs, rfl, h2, h3⟩ := hW.2.1 k _ hT
  exact ⟨fs, h1, by rw [← fget_of h1]; exact hv⟩
theorem hget (X : ZC p s m args meth c cc nL own G A ret nm) (hW : WT G ad T ws) {idx ci k j : Nat} {ts : List VT} {v : Value} (hF : FL own idx ci j ∨ FN own idx ci j) (hd : decode cc pc = .ok (.getfield idx, 3)) (hT : T[k]? = some (.inl (ci, ts))) (hv : fget ws k j = some v) (kz : Z p l e R s m args below meth c nL G A Q (pc + 3) lw (v :: rest) ws kc ks) : Z p l e R s m args below meth c nL G A Q pc lw (.ref (ad k) :: rest) ws kc ks := by
  obtain ⟨fs, h1, h2⟩ := fget_ob hW hT hv
  rcases hF with hF | hF
  · exact z_get X hF hd k h1 h2 kz
  · exact z_getN X hF hd k h1 h2 kz
theorem fget_ref (hW : WT G ad T ws) {k ci j b : Nat} {ts : List VT} (hT : T[k]? = some (.inl (ci, ts))) (ht : ts[j]? = some (2, (b : Int), 0)) : fget ws k j = some (.ref (ad b)) := by
  obtain ⟨fs, v, h1, h2, h3, h4⟩ := WT.obj hW hT ht
  rw [fget_of h1, h3, vty2 h4 rfl]
  rfl
theorem fget_int (hW : WT G ad T ws) {k ci j : Nat} {a b : Int} {ts : List VT} (hT : T[k]? = some (.inl (ci, ts))) (ht : ts[j]? = some (0, a, b)) : ∃ x : Int32, fget ws k j = some (.int x) ∧ a ≤ x.toInt ∧ x.toInt ≤ b := by
  obtain ⟨fs, v, h1, h2, h3, h4⟩ := WT.obj hW hT ht
  obtain ⟨x, rfl, x1, x2⟩ := vty0 h4 rfl
  exact ⟨x, by rw [fget_of h1, h3], x1, x2⟩
/-- an int array written: the world is typed as before -/
theorem WT.wr (hW : WT G ad T ws) {k n : Nat} {a b : Int} {f : Nat → Int32} {j : Nat} {v : Int32} (hT : T[k]? = some (.inr (0, n, (0, a, b)))) (hf : ws[k]? = some (ad k, aI G n f)) (h1 : a ≤ v.toInt) (h2 : v.toInt ≤ b) : WT G ad T (ws.set k (ad k, aI G n (upd f j v))) := by
  obtain ⟨f0, u1, u2⟩ := WT.ints hW hT
  rw [hf] at u1
  have e1 : f = f0 := Sum.inl.inj (congrArg (fun z : ClassId × vp_A => z.2.2) (Sum.inl.inj (congrArg Prod.snd (Option.some.inj u1))))
  subst e1
  exact hW.setA (y := (cyI G, n, .inl (upd f j v))) hT hf (Or.inl ⟨rfl, _, rfl, aint_upd u2 h1 h2 (fun e => by cases e)⟩) (fun n' t' e' g2 => by
    cases e'
    exact absurd g2 (by show ¬ (2 ≤ 0); omega))
theorem FRM.wr {mk : List (Nat × Nat)} {w0 : va_W} (h : FRM mk w0 ws) {k : Nat} {x : ClassId × vp_A} {b b2 : Nat} {y : ClassId × vp_A} (hm : mk.any (fun q => Nat.beq q.1 k && Nat.beq q.2 999) = true) : FRM mk w0 (ws.set k (b2, .inl y)) := by
  refine ⟨by rw [List.length_set]; exact h.1, fun k' j' hk => ?_⟩
  rw [cget_arr]
  · exact h.2 k' j' hk
  · intro e
    rw [e, mkq_arr hm] at hk
    cases hk
theorem i32r {x : Int32} {a b : Int} (h1 : iMin ≤ a ∨ True) : iMin ≤ x.toInt ∧ x.toInt ≤ iMax := ⟨i32_lo x, i32_hi x⟩
theorem cFRM (C : CE) {w : va_W} : FRM C.2.2.2.2.1 w w := ⟨rfl, fun _ _ _ => rfl⟩
end HW
/-! the reference's buckets -/
def SS (p rm f : Nat → Int32) (pv : Int32) : Nat → Int32
  | 0 => 0
  | n + 1 => SS p rm f pv n + (if p n = pv then rm n - f n else 0)
theorem SS_zero {p rm f : Nat → Int32} {pv : Int32} : ∀ n, (∀ k, k < n → p k = pv → f k = rm k) → SS p rm f pv n = 0
  | 0, _ => rfl
  | n + 1, h => by
    show SS p rm f pv n + _ = 0
    rw [SS_zero n (fun k hk => h k (by omega))]
    split
    · rename_i e
      rw [h n (by omega) e, Int32.sub_self]
      rfl
    · rfl
theorem SS_out {p rm f : Nat → Int32} {pv v : Int32} {t : Nat} : ∀ n, n ≤ t → SS p rm (upd f t v) pv n = SS p rm f pv n
  | 0, _ => rfl
  | n + 1, h => by
    show SS p rm (upd f t v) pv n + (if p n = pv then rm n - upd f t v n else 0) = SS p rm f pv n + _
    rw [SS_out n (by omega)]
    have : upd f t v n = f n := by unfold upd; rw [if_neg (by omega)]
    rw [this]
theorem SS_one {p rm f : Nat → Int32} {pv : Int32} {t : Nat} (ht : p t = pv) : ∀ n, t < n → SS p rm (upd f t (f t + 1)) pv n = SS p rm f pv n - 1
  | 0, h => by omega
  | n + 1, h => by
    show SS p rm (upd f t (f t + 1)) pv n + (if p n = pv then rm n - upd f t (f t + 1) n else 0) = SS p rm f pv n + (if p n = pv then rm n - f n else 0) - 1
    by_cases e : t = n
    · subst e
      rw [SS_out t (Nat.le_refl _), if_pos ht, if_pos ht]
      have : upd f t (f t + 1) t = f t + 1 := by unfold upd; rw [if_pos rfl]
      rw [this]
      simp only [Int32.sub_eq_add_neg, Int32.neg_add, Int32.add_assoc]
    · rw [SS_one ht n (by omega)]
      have : upd f t (f t + 1) n = f n := by unfold upd; rw [if_neg (by omega)]
      rw [this]
      simp only [Int32.sub_eq_add_neg, Int32.add_assoc]
      rw [Int32.add_comm (-1)]
end
section
theorem d_bk_32 : decode cX11_buckets 32 = .ok (.iload 5, 2) := by decide +kernel
theorem d_bk_34 : decode cX11_buckets 34 = .ok (.aload_n 0, 1) := by decide +kernel
theorem d_bk_35 : decode cX11_buckets 35 = .ok (.getfield 63, 3) := by decide +kernel
theorem d_bk_38 : decode cX11_buckets 38 = .ok (.if_icmp .ge 58, 3) := by decide +kernel
theorem d_bk_41 : decode cX11_buckets 41 = .ok (.aload_n 0, 1) := by decide +kernel
theorem d_bk_42 : decode cX11_buckets 42 = .ok (.getfield 456, 3) := by decide +kernel
theorem d_bk_45 : decode cX11_buckets 45 = .ok (.iload 5, 2) := by decide +kernel
theorem d_bk_47 : decode cX11_buckets 47 = .ok (.aload_n 0, 1) := by decide +kernel
theorem d_bk_48 : decode cX11_buckets 48 = .ok (.getfield 82, 3) := by decide +kernel
theorem d_bk_51 : decode cX11_buckets 51 = .ok (.iload 5, 2) := by decide +kernel
theorem d_bk_53 : decode cX11_buckets 53 = .ok (.iaload, 1) := by decide +kernel
theorem d_bk_54 : decode cX11_buckets 54 = .ok (.iastore, 1) := by decide +kernel
theorem d_bk_55 : decode cX11_buckets 55 = .ok (.iload 4, 2) := by decide +kernel
theorem d_bk_57 : decode cX11_buckets 57 = .ok (.aload_n 0, 1) := by decide +kernel
theorem d_bk_58 : decode cX11_buckets 58 = .ok (.getfield 66, 3) := by decide +kernel
theorem d_bk_61 : decode cX11_buckets 61 = .ok (.iload 5, 2) := by decide +kernel
theorem d_bk_63 : decode cX11_buckets 63 = .ok (.iaload, 1) := by decide +kernel
theorem d_bk_64 : decode cX11_buckets 64 = .ok (.iload_n 1, 1) := by decide +kernel
theorem d_bk_65 : decode cX11_buckets 65 = .ok (.if_icmp .ne 21, 3) := by decide +kernel
theorem d_bk_68 : decode cX11_buckets 68 = .ok (.aload_n 0, 1) := by decide +kernel
theorem d_bk_69 : decode cX11_buckets 69 = .ok (.getfield 79, 3) := by decide +kernel
theorem d_bk_72 : decode cX11_buckets 72 = .ok (.iload 5, 2) := by decide +kernel
theorem d_bk_74 : decode cX11_buckets 74 = .ok (.iaload, 1) := by decide +kernel
theorem d_bk_75 : decode cX11_buckets 75 = .ok (.aload_n 0, 1) := by decide +kernel
theorem d_bk_76 : decode cX11_buckets 76 = .ok (.getfield 82, 3) := by decide +kernel
theorem d_bk_79 : decode cX11_buckets 79 = .ok (.iload 5, 2) := by decide +kernel
theorem d_bk_81 : decode cX11_buckets 81 = .ok (.iaload, 1) := by decide +kernel
theorem d_bk_82 : decode cX11_buckets 82 = .ok (.isub, 1) := by decide +kernel
theorem d_bk_83 : decode cX11_buckets 83 = .ok (.goto 4, 3) := by decide +kernel
theorem d_bk_86 : decode cX11_buckets 86 = .ok (.iconst 0, 1) := by decide +kernel
theorem d_bk_87 : decode cX11_buckets 87 = .ok (.iadd, 1) := by decide +kernel
theorem d_bk_88 : decode cX11_buckets 88 = .ok (.istore 4, 2) := by decide +kernel
theorem d_bk_90 : decode cX11_buckets 90 = .ok (.iinc 5 1, 3) := by decide +kernel
theorem d_bk_93 : decode cX11_buckets 93 = .ok (.goto (-61), 3) := by decide +kernel
theorem d_bk_96 : decode cX11_buckets 96 = .ok (.iconst 0, 1) := by decide +kernel
theorem d_bk_97 : decode cX11_buckets 97 = .ok (.istore 5, 2) := by decide +kernel
theorem d_bk_99 : decode cX11_buckets 99 = .ok (.iconst 0, 1) := by decide +kernel
theorem d_bk_100 : decode cX11_buckets 100 = .ok (.istore 6, 2) := by decide +kernel
theorem d_bk_102 : decode cX11_buckets 102 = .ok (.aload_n 0, 1) := by decide +kernel
theorem d_bk_103 : decode cX11_buckets 103 = .ok (.iload_n 1, 1) := by decide +kernel
theorem d_bk_104 : decode cX11_buckets 104 = .ok (.invokevirtual 358, 3) := by decide +kernel
theorem d_bk_107 : decode cX11_buckets 107 = .ok (.lload_n 2, 1) := by decide +kernel
theorem d_bk_108 : decode cX11_buckets 108 = .ok (.lcmp, 1) := by decide +kernel
theorem d_bk_109 : decode cX11_buckets 109 = .ok (.ifCond .gt 122, 3) := by decide +kernel
theorem d_bk_112 : decode cX11_buckets 112 = .ok (.iload 4, 2) := by decide +kernel
theorem d_bk_114 : decode cX11_buckets 114 = .ok (.ifCond .ne 6, 3) := by decide +kernel
theorem d_bk_117 : decode cX11_buckets 117 = .ok (.bipush (-2), 2) := by decide +kernel
theorem d_bk_119 : decode cX11_buckets 119 = .ok (.ireturn, 1) := by decide +kernel
theorem d_bk_120 : decode cX11_buckets 120 = .ok (.aload_n 0, 1) := by decide +kernel
theorem d_bk_121 : decode cX11_buckets 121 = .ok (.getfield 66, 3) := by decide +kernel
theorem d_bk_124 : decode cX11_buckets 124 = .ok (.iload 6, 2) := by decide +kernel
theorem d_bk_126 : decode cX11_buckets 126 = .ok (.iaload, 1) := by decide +kernel
theorem d_bk_127 : decode cX11_buckets 127 = .ok (.iload_n 1, 1) := by decide +kernel
theorem d_bk_128 : decode cX11_buckets 128 = .ok (.if_icmp .ne 20, 3) := by decide +kernel
theorem d_bk_131 : decode cX11_buckets 131 = .ok (.aload_n 0, 1) := by decide +kernel
theorem d_bk_132 : decode cX11_buckets 132 = .ok (.getfield 456, 3) := by decide +kernel
theorem d_bk_135 : decode cX11_buckets 135 = .ok (.iload 6, 2) := by decide +kernel
theorem d_bk_137 : decode cX11_buckets 137 = .ok (.iaload, 1) := by decide +kernel
theorem d_bk_138 : decode cX11_buckets 138 = .ok (.aload_n 0, 1) := by decide +kernel
theorem d_bk_139 : decode cX11_buckets 139 = .ok (.getfield 79, 3) := by decide +kernel
theorem d_bk_142 : decode cX11_buckets 142 = .ok (.iload 6, 2) := by decide +kernel
theorem d_bk_144 : decode cX11_buckets 144 = .ok (.iaload, 1) := by decide +kernel
theorem d_bk_145 : decode cX11_buckets 145 = .ok (.if_icmp .ne 17, 3) := by decide +kernel
theorem d_bk_148 : decode cX11_buckets 148 = .ok (.iload 6, 2) := by decide +kernel
theorem d_bk_150 : decode cX11_buckets 150 = .ok (.iconst 1, 1) := by decide +kernel
theorem d_bk_151 : decode cX11_buckets 151 = .ok (.iadd, 1) := by decide +kernel
theorem d_bk_152 : decode cX11_buckets 152 = .ok (.aload_n 0, 1) := by decide +kernel
theorem d_bk_153 : decode cX11_buckets 153 = .ok (.getfield 63, 3) := by decide +kernel
theorem d_bk_156 : decode cX11_buckets 156 = .ok (.irem, 1) := by decide +kernel
theorem d_bk_157 : decode cX11_buckets 157 = .ok (.istore 6, 2) := by decide +kernel
theorem d_bk_159 : decode cX11_buckets 159 = .ok (.goto (-39), 3) := by decide +kernel
theorem d_bk_162 : decode cX11_buckets 162 = .ok (.aload_n 0, 1) := by decide +kernel
theorem d_bk_163 : decode cX11_buckets 163 = .ok (.getfield 456, 3) := by decide +kernel
theorem d_bk_166 : decode cX11_buckets 166 = .ok (.iload 6, 2) := by decide +kernel
theorem d_bk_168 : decode cX11_buckets 168 = .ok (.dup2, 1) := by decide +kernel
theorem d_bk_169 : decode cX11_buckets 169 = .ok (.iaload, 1) := by decide +kernel
theorem d_bk_170 : decode cX11_buckets 170 = .ok (.iconst 1, 1) := by decide +kernel
theorem d_bk_171 : decode cX11_buckets 171 = .ok (.iadd, 1) := by decide +kernel
theorem d_bk_172 : decode cX11_buckets 172 = .ok (.iastore, 1) := by decide +kernel
theorem d_bk_173 : decode cX11_buckets 173 = .ok (.aload_n 0, 1) := by decide +kernel
theorem d_bk_174 : decode cX11_buckets 174 = .ok (.getfield 166, 3) := by decide +kernel
theorem d_bk_177 : decode cX11_buckets 177 = .ok (.iconst 2, 1) := by decide +kernel
theorem d_bk_178 : decode cX11_buckets 178 = .ok (.iload_n 1, 1) := by decide +kernel
theorem d_bk_179 : decode cX11_buckets 179 = .ok (.imul, 1) := by decide +kernel
theorem d_bk_180 : decode cX11_buckets 180 = .ok (.dup2, 1) := by decide +kernel
theorem d_bk_181 : decode cX11_buckets 181 = .ok (.iaload, 1) := by decide +kernel
theorem d_bk_182 : decode cX11_buckets 182 = .ok (.aload_n 0, 1) := by decide +kernel
theorem d_bk_183 : decode cX11_buckets 183 = .ok (.getfield 69, 3) := by decide +kernel
theorem d_bk_186 : decode cX11_buckets 186 = .ok (.iload 6, 2) := by decide +kernel
theorem d_bk_188 : decode cX11_buckets 188 = .ok (.iaload, 1) := by decide +kernel
theorem d_bk_189 : decode cX11_buckets 189 = .ok (.iadd, 1) := by decide +kernel
theorem d_bk_190 : decode cX11_buckets 190 = .ok (.iastore, 1) := by decide +kernel
theorem d_bk_191 : decode cX11_buckets 191 = .ok (.aload_n 0, 1) := by decide +kernel
theorem d_bk_192 : decode cX11_buckets 192 = .ok (.getfield 166, 3) := by decide +kernel
theorem d_bk_195 : decode cX11_buckets 195 = .ok (.iconst 2, 1) := by decide +kernel
theorem d_bk_196 : decode cX11_buckets 196 = .ok (.iload_n 1, 1) := by decide +kernel
theorem d_bk_197 : decode cX11_buckets 197 = .ok (.imul, 1) := by decide +kernel
theorem d_bk_198 : decode cX11_buckets 198 = .ok (.iconst 1, 1) := by decide +kernel
theorem d_bk_199 : decode cX11_buckets 199 = .ok (.iadd, 1) := by decide +kernel
theorem d_bk_200 : decode cX11_buckets 200 = .ok (.dup2, 1) := by decide +kernel
theorem d_bk_201 : decode cX11_buckets 201 = .ok (.iaload, 1) := by decide +kernel
theorem d_bk_202 : decode cX11_buckets 202 = .ok (.aload_n 0, 1) := by decide +kernel
theorem d_bk_203 : decode cX11_buckets 203 = .ok (.getfield 76, 3) := by decide +kernel
theorem d_bk_206 : decode cX11_buckets 206 = .ok (.iload 6, 2) := by decide +kernel
theorem d_bk_208 : decode cX11_buckets 208 = .ok (.iaload, 1) := by decide +kernel
theorem d_bk_209 : decode cX11_buckets 209 = .ok (.iadd, 1) := by decide +kernel
theorem d_bk_210 : decode cX11_buckets 210 = .ok (.iastore, 1) := by decide +kernel
theorem d_bk_211 : decode cX11_buckets 211 = .ok (.iload 6, 2) := by decide +kernel
theorem d_bk_213 : decode cX11_buckets 213 = .ok (.iconst 1, 1) := by decide +kernel
theorem d_bk_214 : decode cX11_buckets 214 = .ok (.iadd, 1) := by decide +kernel
theorem d_bk_215 : decode cX11_buckets 215 = .ok (.aload_n 0, 1) := by decide +kernel
theorem d_bk_216 : decode cX11_buckets 216 = .ok (.getfield 63, 3) := by decide +kernel
theorem d_bk_219 : decode cX11_buckets 219 = .ok (.irem, 1) := by decide +kernel
theorem d_bk_220 : decode cX11_buckets 220 = .ok (.istore 6, 2) := by decide +kernel
theorem d_bk_222 : decode cX11_buckets 222 = .ok (.iinc 4 (-1), 3) := by decide +kernel
theorem d_bk_225 : decode cX11_buckets 225 = .ok (.iinc 5 1, 3) := by decide +kernel
theorem d_bk_228 : decode cX11_buckets 228 = .ok (.goto (-126), 3) := by decide +kernel
theorem d_bk_231 : decode cX11_buckets 231 = .ok (.iload 5, 2) := by decide +kernel
theorem d_bk_233 : decode cX11_buckets 233 = .ok (.ireturn, 1) := by decide +kernel
def D_X11_buckets : DT := [(0, .aload_n 0, 1), (1, .iconst 0, 1), (2, .putfield 3, 3), (5, .iload_n 1, 1), (6, .invokestatic 130, 3), (9, .ifCond .eq 9, 3), (12, .lload_n 2, 1), (13, .lconst 0, 1), (14, .lcmp, 1), (15, .ifCond .ge 5, 3), (18, .iconst (-1), 1), (19, .ireturn, 1), (20, .aload_n 0, 1), (21, .iconst (-1), 1), (22, .iconst 0, 1), (23, .invokevirtual 169, 3), (26, .iconst 0, 1), (27, .istore 4, 2), (29, .iconst 0, 1), (30, .istore 5, 2), (32, .iload 5, 2), (34, .aload_n 0, 1), (35, .getfield 63, 3), (38, .if_icmp .ge 58, 3), (41, .aload_n 0, 1), (42, .getfield 456, 3), (45, .iload 5, 2), (47, .aload_n 0, 1), (48, .getfield 82, 3), (51, .iload 5, 2), (53, .iaload, 1), (54, .iastore, 1), (55, .iload 4, 2), (57, .aload_n 0, 1), (58, .getfield 66, 3), (61, .iload 5, 2), (63, .iaload, 1), (64, .iload_n 1, 1), (65, .if_icmp .ne 21, 3), (68, .aload_n 0, 1), (69, .getfield 79, 3), (72, .iload 5, 2), (74, .iaload, 1), (75, .aload_n 0, 1), (76, .getfield 82, 3), (79, .iload 5, 2), (81, .iaload, 1), (82, .isub, 1), (83, .goto 4, 3), (86, .iconst 0, 1), (87, .iadd, 1), (88, .istore 4, 2), (90, .iinc 5 1, 3), (93, .goto (-61), 3), (96, .iconst 0, 1), (97, .istore 5, 2), (99, .iconst 0, 1), (100, .istore 6, 2), (102, .aload_n 0, 1), (103, .iload_n 1, 1), (104, .invokevirtual 358, 3), (107, .lload_n 2, 1), (108, .lcmp, 1), (109, .ifCond .gt 122, 3), (112, .iload 4, 2), (114, .ifCond .ne 6, 3), (117, .bipush (-2), 2), (119, .ireturn, 1), (120, .aload_n 0, 1), (121, .getfield 66, 3), (124, .iload 6, 2), (126, .iaload, 1), (127, .iload_n 1, 1), (128, .if_icmp .ne 20, 3), (131, .aload_n 0, 1), (132, .getfield 456, 3), (135, .iload 6, 2), (137, .iaload, 1), (138, .aload_n 0, 1), (139, .getfield 79, 3), (142, .iload 6, 2), (144, .iaload, 1), (145, .if_icmp .ne 17, 3), (148, .iload 6, 2), (150, .iconst 1, 1), (151, .iadd, 1), (152, .aload_n 0, 1), (153, .getfield 63, 3), (156, .irem, 1), (157, .istore 6, 2), (159, .goto (-39), 3), (162, .aload_n 0, 1), (163, .getfield 456, 3), (166, .iload 6, 2), (168, .dup2, 1), (169, .iaload, 1), (170, .iconst 1, 1), (171, .iadd, 1), (172, .iastore, 1), (173, .aload_n 0, 1), (174, .getfield 166, 3), (177, .iconst 2, 1), (178, .iload_n 1, 1), (179, .imul, 1), (180, .dup2, 1), (181, .iaload, 1), (182, .aload_n 0, 1), (183, .getfield 69, 3), (186, .iload 6, 2), (188, .iaload, 1), (189, .iadd, 1), (190, .iastore, 1), (191, .aload_n 0, 1), (192, .getfield 166, 3), (195, .iconst 2, 1), (196, .iload_n 1, 1), (197, .imul, 1), (198, .iconst 1, 1), (199, .iadd, 1), (200, .dup2, 1), (201, .iaload, 1), (202, .aload_n 0, 1), (203, .getfield 76, 3), (206, .iload 6, 2), (208, .iaload, 1), (209, .iadd, 1), (210, .iastore, 1), (211, .iload 6, 2), (213, .iconst 1, 1), (214, .iadd, 1), (215, .aload_n 0, 1), (216, .getfield 63, 3), (219, .irem, 1), (220, .istore 6, 2), (222, .iinc 4 (-1), 3), (225, .iinc 5 1, 3), (228, .goto (-126), 3), (231, .iload 5, 2), (233, .ireturn, 1)]
theorem D_X11_buckets_ok : dtOK cX11_buckets D_X11_buckets = true := by decide +kernel
abbrev C_buckets : CE := ([(2, 0, 0), (0, -2147483648, 2147483647), (1, -9223372036854775808, 9223372036854775807)], [], [], [(some (0, -2147483648, 2147483647), [], [], [])], [(0, 0), (20, 999), (42, 999)], 2, 49)
abbrev sC_bk : CE := C_buckets
def sl_bk : List CAL := [(130, 1, 1, C_X11_isPlane_0), (169, 0, 5, C_X11_leads_0)]
theorem sl_bk_ok (l : Launch) (G : KG) : ∀ q ∈ sl_bk, COK l G RX11 TM q := List.forall_mem_cons.mpr ⟨cok_s k_11_130 (ac_X11_isPlane_0 l G) rfl, List.forall_mem_cons.mpr ⟨cok_v k_11_169 (ac_X11_leads_0 l G) rfl rfl rfl rfl rfl rfl, fun _ h => absurd h List.not_mem_nil⟩⟩
def sk_bk : List CUT := []
abbrev se_bk_32 : CUT := (32, ([(0, 0, false), (1, 1, false), (2, 2, true), (4, 500, false), (5, 501, false)], [], [(0, (2, 0, 0)), (1, (0, 0, 1)), (2, (1, 0, 9223372036854775807)), (500, (0, 0, 0)), (501, (0, 0, 0)), (502, (0, 0, 0)), (503, (0, 0, 16))], [(0, 0, 502), (0, 3, 503)], [], 1000), 0, [(0, 0)])
def sx_bk : List CUT := [se_bk_32]
abbrev ss_bk : AS := ([(0, 0, false), (1, 1, false), (2, 2, true)], [], [(0, (2, 0, 0)), (1, (0, -2147483648, 2147483647)), (2, (1, -9223372036854775808, 9223372036854775807))], [], [], 1000)
theorem sg_bk : xcheckS hk0 D_X11_buckets 7 TM fld_11 put_11 cst_11 cstl_11 sl_bk 1 sC_bk sk_bk sx_bk [0, 1, 2] 4000 0 ss_bk = true := by decide +kernel
end
section
section BKS
variable {p : Program} {l : Launch} {e : Env} {s : State} {m : MethodId} {args : Array Value} {below : List Frame} {meth : Method} {c : Code} {G : KG} {A : Nat → Prop} {ad : Nat → Nat} {w0 : va_W} {μ : Nat → Value}
/-- what the walk knows of the world -/
def BKw (G : KG) (ad : Nat → Nat) (w0 : va_W) (hn : Int32) (p rm oz f : Nat → Int32) (ws : va_W) : Prop := WT G ad TM ws ∧ FRM C_buckets.2.2.2.2.1 w0 ws ∧ fget ws 0 3 = some (.int hn) ∧ ws[2]? = some (ad 2, aI G 16 p) ∧ ws[5]? = some (ad 5, aI G 16 rm) ∧ ws[6]? = some (ad 6, aI G 16 oz) ∧ ws[42]? = some (ad 42, aI G 16 f)
theorem BKw.set {hn : Int32} {p rm oz f : Nat → Int32} {ws : va_W} (h : BKw G ad w0 hn p rm oz f ws) (j : Nat) (v : Int32) : BKw G ad w0 hn p rm oz (upd f j v) (ws.set 42 (ad 42, aI G 16 (upd f j v))) := by
  obtain ⟨h1, h2, h3, h4, h5, h6, h7⟩ := h
  refine ⟨WT.wr h1 rfl h7 (i32_lo v) (i32_hi v), h2.wr (x := (cyI G, 16, .inl f)) (b := 0) (by decide), ?_, ?_, ?_, ?_, set_same h7⟩
  · rw [fget_arr_eq h7]; exact h3
  · rw [set_other (by decide)]; exact h4
  · rw [set_other (by decide)]; exact h5
  · rw [set_other (by decide)]; exact h6
theorem BKw.setL {hn : Int32} {p rm oz f g : Nat → Int32} {ws : va_W} (h : BKw G ad w0 hn p rm oz f ws) (hg : ws[20]? = some (ad 20, aI G 4 g)) (j : Nat) (v : Int32) : BKw G ad w0 hn p rm oz f (ws.set 20 (ad 20, aI G 4 (upd g j v))) := by
  obtain ⟨h1, h2, h3, h4, h5, h6, h7⟩ := h
  refine ⟨WT.wr h1 rfl hg (i32_lo v) (i32_hi v), h2.wr (x := (cyI G, 4, .inl g)) (b := 0) (by decide), ?_, ?_, ?_, ?_, ?_⟩
  · rw [fget_arr_eq hg]; exact h3
  · rw [set_other (by decide)]; exact h4
  · rw [set_other (by decide)]; exact h5
  · rw [set_other (by decide)]; exact h6
  · rw [set_other (by decide)]; exact h7
abbrev BKpo (G : KG) (ad : Nat → Nat) (w0 : va_W) (μ : Nat → Value) : Option Value → va_W → Prop := fun r w1 => POST G ad TM C_buckets μ w0 r w1
theorem bk_post {x : Int32} {ws : va_W} (h1 : WT G ad TM ws) (h2 : FRM C_buckets.2.2.2.2.1 w0 ws) : BKpo G ad w0 μ (some (.int x)) ws :=
  ⟨_, List.mem_cons_self, nup μ 50 (.int x), fun i hi => nup_ne hi, fun i hi _ => if_neg (by omega), (show resOK ad (some _) (some (.int x)) (nup μ 50 (.int x) 50) from ⟨by rw [nup_eq], by rw [nup_eq]; exact vty_i0 x⟩), fun q hq => absurd hq List.not_mem_nil, fun n q hq => (by have hq : ([] : List (Nat × Nat × VT))[n]? = some q := hq; simp at hq), fun q hq => absurd hq List.not_mem_nil, h1, h2⟩
theorem irem_v {a b : Int32} (ha : 0 ≤ a.toInt) (hb : 0 < b.toInt) : (a - a / b * b).toInt = a.toInt % b.toInt := by
  have h1 := Int.ediv_nonneg ha (Int.le_of_lt hb)
  have e1 := i32_div ha hb
  have h3 := Int.ediv_mul_le a.toInt (show b.toInt ≠ 0 by omega)
  have h0 : 0 ≤ a.toInt / b.toInt * b.toInt := Int.mul_nonneg h1 (Int.le_of_lt hb)
  have h4 := i32_hi a
  unfold iMax at h4
  have e2 : (a / b * b).toInt = a.toInt / b.toInt * b.toInt := tI_mul e1 rfl (by omega)
  have e3 : (a - a / b * b).toInt = a.toInt - a.toInt / b.toInt * b.toInt := tI_sub rfl e2 (by omega)
  have := Int.emod_def a.toInt b.toInt
  rw [e3, this, Int.mul_comm]

theorem bk_loop1 {hn pv : Int32} {bd : Int64} {pl rm oz : Nat → Int32} (X : ZC p s m args meth c cX11_buckets 7 RX11 G A (some .int) "buckets") (hn0 : 0 ≤ hn.toInt) (hn1 : hn.toInt ≤ 16)
    (hK : ∀ (ws : va_W) (f : Nat → Int32), BKw G ad w0 hn pl rm oz f ws → Z p l e (rmOf C_buckets) s m args below meth c 7 G A (MQ below (QQ G A (BKpo G ad w0 μ)) args s 0 0 A) 96 [(0, .ref (ad 0)), (1, .int pv), (2, .long bd), (4, .int (SS pl rm f pv hn.toInt.toNat))] [] ws 0 0) :
    ∀ (n : Nat) (h : Int32) (f : Nat → Int32) (ws : va_W), BKw G ad w0 hn pl rm oz f ws → 0 ≤ h.toInt → h.toInt ≤ hn.toInt → (hn.toInt - h.toInt).toNat < n → Z p l e (rmOf C_buckets) s m args below meth c 7 G A (MQ below (QQ G A (BKpo G ad w0 μ)) args s 0 0 A) 32 [(0, .ref (ad 0)), (1, .int pv), (2, .long bd), (4, .int (SS pl rm f pv h.toInt.toNat)), (5, .int h)] [] ws 0 0
  | 0, _, _, _, _, _, _, h9 => absurd h9 (Nat.not_lt_zero _)
  | n + 1, h, f, ws, hB, h0, h1, h9 => by
    refine z_iload X d_bk_32 4 rfl ?_
    refine z_aload_n X d_bk_34 rfl 0 rfl ?_
    refine hget (T := TM) X hB.1 (idx := 63) (fld_11_ok _ (by decide : (63, 11, 3) ∈ fld_11)) d_bk_35 rfl (hB.2.2.1) ?_
    refine zc_ge X d_bk_38 (tgt := 96) (by decide) (a := h.toInt) (b := hn.toInt) rfl rfl (fun hge => ?_) (fun hlt => ?_)
    · have eh : h.toInt = hn.toInt := by omega
      rw [eh]
      exact Z.mono (fun q hq => by simp only [List.mem_cons, List.not_mem_nil, or_false] at hq ⊢; rcases hq with h | h | h | h <;> simp [h]) (hK ws f hB)
    have hv16 : vp_in h 16 := vp_of h0 (by omega)
    have ehn : h.toNatClampNeg = h.toInt.toNat := rfl
    refine z_aload_n X d_bk_41 rfl 0 rfl ?_
    refine hget (T := TM) X hB.1 (idx := 456) (fld_11_ok _ (by decide : (456, 11, 67) ∈ fld_11)) d_bk_42 rfl (fget_ref hB.1 rfl rfl) ?_
    refine z_iload X d_bk_45 4 rfl ?_
    refine z_aload_n X d_bk_47 rfl 0 rfl ?_
    refine hget (T := TM) X hB.1 (idx := 82) (fld_11_ok _ (by decide : (82, 11, 8) ∈ fld_11)) d_bk_48 rfl (fget_ref hB.1 rfl rfl) ?_
    refine z_iload X d_bk_51 4 rfl ?_
    refine z_iald X d_bk_53 6 (hB.2.2.2.2.2.1) (hv16) rfl ?_
    refine z_iast X d_bk_54 42 (hB.2.2.2.2.2.2) (hv16) rfl ?_
    have hB' := hB.set h.toNatClampNeg (oz h.toNatClampNeg)
    generalize hws : ws.set 42 (ad 42, aI G 16 (upd f h.toNatClampNeg (oz h.toNatClampNeg))) = ws' at hB' ⊢
    refine z_iload X d_bk_55 3 rfl ?_
    refine z_aload_n X d_bk_57 rfl 0 rfl ?_
    refine hget (T := TM) X hB'.1 (idx := 66) (fld_11_ok _ (by decide : (66, 11, 4) ∈ fld_11)) d_bk_58 rfl (fget_ref hB'.1 rfl rfl) ?_
    refine z_iload X d_bk_61 4 rfl ?_
    refine z_iald X d_bk_63 2 (hB'.2.2.2.1) (hv16) rfl ?_
    refine z_iload_n X d_bk_64 rfl 1 rfl ?_
    have eS : SS pl rm (upd f h.toNatClampNeg (oz h.toNatClampNeg)) pv h.toInt.toNat = SS pl rm f pv h.toInt.toNat := SS_out _ (Nat.le_refl _)
    have eU : upd f h.toNatClampNeg (oz h.toNatClampNeg) h.toInt.toNat = oz h.toNatClampNeg := by rw [← ehn]; unfold upd; rw [if_pos rfl]
    have e1 : (h + Int32.ofInt 1).toInt = h.toInt + 1 := tI_add rfl (show (Int32.ofInt 1).toInt = 1 by decide) (by omega)
    have eN : (h + Int32.ofInt 1).toInt.toNat = h.toInt.toNat + 1 := by omega
    have fin : ∀ v : Int32, SS pl rm f pv h.toInt.toNat + v = SS pl rm (upd f h.toNatClampNeg (oz h.toNatClampNeg)) pv (h.toInt.toNat + 1) → Z p l e (rmOf C_buckets) s m args below meth c 7 G A (MQ below (QQ G A (BKpo G ad w0 μ)) args s 0 0 A) 87 [(0, .ref (ad 0)), (1, .int (pv)), (2, .long (bd)), (4, .int (SS pl rm f pv h.toInt.toNat)), (5, .int (h))] [.int v, .int (SS pl rm f pv h.toInt.toNat)] ws' 0 0 := by
      intro v hv
      refine z_iadd X d_bk_87 ?_
      refine z_istore X d_bk_88 (by decide) (lv' := [(4, .int (((SS pl rm f pv h.toInt.toNat) + (v)))), (0, .ref (ad 0)), (1, .int (pv)), (2, .long (bd)), (5, .int (h))]) rfl ?_
      refine z_iinc X d_bk_90 (k := 4) rfl rfl (by decide) (lv' := [(5, .int (h + Int32.ofInt (1))), (4, .int (((SS pl rm f pv h.toInt.toNat) + (v)))), (0, .ref (ad 0)), (1, .int (pv)), (2, .long (bd))]) rfl ?_
      refine z_goto X d_bk_93 (tgt := 32) (by decide) ?_
      rw [hv, ← eN]
      exact Z.mono (fun q hq => by simp only [List.mem_cons, List.not_mem_nil, or_false] at hq ⊢; rcases hq with h | h | h | h | h <;> simp [h]) (bk_loop1 (bd := bd) X hn0 hn1 hK n (h + Int32.ofInt 1) _ ws' hB' (by omega) (by omega) (by omega))
    refine zc_ne X d_bk_65 (tgt := 86) (by decide) (a := (pl h.toNatClampNeg).toInt) (b := pv.toInt) rfl rfl (fun hne => ?_) (fun heq => ?_)
    · skip
      refine z_iconst X d_bk_86 (v := 0) (by decide) ?_
      refine fin 0 ?_
      show _ = SS pl rm (upd f h.toNatClampNeg (oz h.toNatClampNeg)) pv h.toInt.toNat + (if pl h.toInt.toNat = pv then _ else 0)
      rw [eS, if_neg (fun q => hne (by rw [ehn, q]))]
    · skip
      refine z_aload_n X d_bk_68 rfl 0 rfl ?_
      refine hget (T := TM) X hB'.1 (idx := 79) (fld_11_ok _ (by decide : (79, 11, 7) ∈ fld_11)) d_bk_69 rfl (fget_ref hB'.1 rfl rfl) ?_
      refine z_iload X d_bk_72 4 rfl ?_
      refine z_iald X d_bk_74 5 (hB'.2.2.2.2.1) (hv16) rfl ?_
      refine z_aload_n X d_bk_75 rfl 0 rfl ?_
      refine hget (T := TM) X hB'.1 (idx := 82) (fld_11_ok _ (by decide : (82, 11, 8) ∈ fld_11)) d_bk_76 rfl (fget_ref hB'.1 rfl rfl) ?_
      refine z_iload X d_bk_79 4 rfl ?_
      refine z_iald X d_bk_81 6 (hB'.2.2.2.2.2.1) (hv16) rfl ?_
      refine z_isub X d_bk_82 ?_
      refine z_goto X d_bk_83 (tgt := 87) (by decide) ?_
      refine fin _ ?_
      show _ = SS pl rm (upd f h.toNatClampNeg (oz h.toNatClampNeg)) pv h.toInt.toNat + (if pl h.toInt.toNat = pv then rm h.toInt.toNat - upd f h.toNatClampNeg (oz h.toNatClampNeg) h.toInt.toNat else 0)
      rw [eS, eU, if_pos (by rw [← ehn]; exact Int32.toInt_inj.mp heq), ehn]
theorem bk_inner {hn pv left mi : Int32} {bd : Int64} {pl rm oz f : Nat → Int32} {ws : va_W} {t0 : Nat} (X : ZC p s m args meth c cX11_buckets 7 RX11 G A (some .int) "buckets") (hn0 : 0 < hn.toInt) (hn1 : hn.toInt ≤ 16) (hB : BKw G ad w0 hn pl rm oz f ws) (ht0 : t0 < hn.toInt.toNat) (hp0 : pl t0 = pv) (hf0 : f t0 ≠ rm t0)
    (hK : ∀ t : Int32, 0 ≤ t.toInt → t.toInt < hn.toInt → pl t.toNatClampNeg = pv → f t.toNatClampNeg ≠ rm t.toNatClampNeg → Z p l e (rmOf C_buckets) s m args below meth c 7 G A (MQ below (QQ G A (BKpo G ad w0 μ)) args s 0 0 A) 162 [(0, .ref (ad 0)), (1, .int pv), (2, .long bd), (4, .int left), (5, .int mi), (6, .int t)] [] ws 0 0) :
    ∀ (n : Nat) (t : Int32), 0 ≤ t.toInt → t.toInt < hn.toInt → (if t.toInt.toNat ≤ t0 then t0 - t.toInt.toNat else hn.toInt.toNat - t.toInt.toNat + t0) < n → Z p l e (rmOf C_buckets) s m args below meth c 7 G A (MQ below (QQ G A (BKpo G ad w0 μ)) args s 0 0 A) 120 [(0, .ref (ad 0)), (1, .int pv), (2, .long bd), (4, .int left), (5, .int mi), (6, .int t)] [] ws 0 0
  | 0, _, _, _, h9 => absurd h9 (Nat.not_lt_zero _)
  | n + 1, t, h0, h1, h9 => by
    have hv16 : vp_in t 16 := vp_of h0 (by omega)
    have etn : t.toNatClampNeg = t.toInt.toNat := rfl
    have step : (t.toInt.toNat ≠ t0) → Z p l e (rmOf C_buckets) s m args below meth c 7 G A (MQ below (QQ G A (BKpo G ad w0 μ)) args s 0 0 A) 148 [(0, .ref (ad 0)), (1, .int pv), (2, .long bd), (4, .int left), (5, .int mi), (6, .int t)] [] ws 0 0 := by
      intro hne
      refine z_iload X d_bk_148 5 rfl ?_
      refine z_iconst X d_bk_150 (v := 1) (by decide) ?_
      refine z_iadd X d_bk_151 ?_
      refine z_aload_n X d_bk_152 rfl 0 rfl ?_
      refine hget (T := TM) X hB.1 (idx := 63) (fld_11_ok _ (by decide : (63, 11, 3) ∈ fld_11)) d_bk_153 rfl (hB.2.2.1) ?_
      have e1 : (t + 1).toInt = t.toInt + 1 := tI_add rfl rfl (by omega)
      have e2 := irem_v (a := t + 1) (b := hn) (by omega) hn0
      have m1 := Int.emod_nonneg (t + 1).toInt (show hn.toInt ≠ 0 by omega)
      have m2 := Int.emod_lt_of_pos (t + 1).toInt hn0
      refine z_irem X d_bk_156 (fun q => by rw [q] at hn0; exact absurd hn0 (by decide)) ?_
      refine z_istore X d_bk_157 (by decide) (lv' := [(6, .int (((t + 1) - (t + 1) / hn * hn))), (0, .ref (ad 0)), (1, .int (pv)), (2, .long (bd)), (4, .int (left)), (5, .int (mi))]) rfl ?_
      refine z_goto X d_bk_159 (tgt := 120) (by decide) ?_
      refine Z.mono (fun q hq => by simp only [List.mem_cons, List.not_mem_nil, or_false] at hq ⊢; rcases hq with h | h | h | h | h | h <;> simp [h]) (bk_inner (bd := bd) X hn0 hn1 hB ht0 hp0 hf0 hK n ((t + 1) - (t + 1) / hn * hn) (by omega) (by omega) ?_)
      rw [e2, e1]
      rcases (by omega : t.toInt + 1 < hn.toInt ∨ t.toInt + 1 = hn.toInt) with h | h
      · rw [Int.emod_eq_of_lt (by omega) h]; split at h9 <;> split <;> omega
      · rw [h, Int.emod_self]; split at h9 <;> split <;> omega
    refine z_aload_n X d_bk_120 rfl 0 rfl ?_
    refine hget (T := TM) X hB.1 (idx := 66) (fld_11_ok _ (by decide : (66, 11, 4) ∈ fld_11)) d_bk_121 rfl (fget_ref hB.1 rfl rfl) ?_
    refine z_iload X d_bk_124 5 rfl ?_
    refine z_iald X d_bk_126 2 (hB.2.2.2.1) (hv16) rfl ?_
    refine z_iload_n X d_bk_127 rfl 1 rfl ?_
    refine zc_ne X d_bk_128 (tgt := 148) (by decide) (a := (pl t.toNatClampNeg).toInt) (b := pv.toInt) rfl rfl (fun hne => step (fun q => hne (by rw [etn, q, hp0]))) (fun heq => ?_)
    refine z_aload_n X d_bk_131 rfl 0 rfl ?_
    refine hget (T := TM) X hB.1 (idx := 456) (fld_11_ok _ (by decide : (456, 11, 67) ∈ fld_11)) d_bk_132 rfl (fget_ref hB.1 rfl rfl) ?_
    refine z_iload X d_bk_135 5 rfl ?_
    refine z_iald X d_bk_137 42 (hB.2.2.2.2.2.2) (hv16) rfl ?_
    refine z_aload_n X d_bk_138 rfl 0 rfl ?_
    refine hget (T := TM) X hB.1 (idx := 79) (fld_11_ok _ (by decide : (79, 11, 7) ∈ fld_11)) d_bk_139 rfl (fget_ref hB.1 rfl rfl) ?_
    refine z_iload X d_bk_142 5 rfl ?_
    refine z_iald X d_bk_144 5 (hB.2.2.2.2.1) (hv16) rfl ?_
    refine zc_ne X d_bk_145 (tgt := 162) (by decide) (a := (f t.toNatClampNeg).toInt) (b := (rm t.toNatClampNeg).toInt) rfl rfl (fun hne => hK t h0 h1 (Int32.toInt_inj.mp heq) (fun q => hne (by rw [q]))) (fun heq2 => step (fun q => hf0 (by rw [← q, ← etn]; exact Int32.toInt_inj.mp heq2)))
theorem bk_outer {hn pv : Int32} {bd : Int64} {pl rm oz : Nat → Int32} (X : ZC p s m args meth c cX11_buckets 7 RX11 G A (some .int) "buckets") (hpv : 0 ≤ pv.toInt ∧ pv.toInt ≤ 1) (hn0 : 0 ≤ hn.toInt) (hn1 : hn.toInt ≤ 16) :
    ∀ (n : Nat) (left mi t : Int32) (f : Nat → Int32) (ws : va_W), BKw G ad w0 hn pl rm oz f ws → left = SS pl rm f pv hn.toInt.toNat → 0 ≤ t.toInt → (0 < hn.toInt → t.toInt < hn.toInt) → left.toBitVec.toNat < n → Z p l e (rmOf C_buckets) s m args below meth c 7 G A (MQ below (QQ G A (BKpo G ad w0 μ)) args s 0 0 A) 102 [(0, .ref (ad 0)), (1, .int pv), (2, .long bd), (4, .int left), (5, .int mi), (6, .int t)] [] ws 0 0
  | 0, _, _, _, _, _, _, _, _, _, h9 => absurd h9 (Nat.not_lt_zero _)
  | n + 1, left, mi, t, f, ws, hB, hS, h0, h1, h9 => by
    refine z_aload_n X d_bk_102 rfl 0 rfl ?_
    refine z_iload_n X d_bk_103 rfl 1 rfl ?_
    obtain ⟨μ', hμ⟩ : ∃ μ' : Nat → Value, μ' = fun i => if i = 0 then .ref (ad 0) else .int pv := ⟨_, rfl⟩
    have m0 : μ' 0 = .ref (ad 0) := by rw [hμ]; rfl
    have m1 : μ' 1 = .int pv := by rw [hμ]; rfl
    have hpre : PRE ad C_X11_restOf_0 μ' ws := by
      refine ⟨fun j t hj => ?_, fun j q hj => ?_, fun q hq => ?_⟩
      · match j, hj with
        | 0, hj => cases hj; rw [m0]; exact Or.inr (Or.inr (Or.inl ⟨rfl, rfl⟩))
        | 1, hj => cases hj; rw [m1]; exact vty_i hpv.1 hpv.2
        | n + 2, hj => cases hj
      · cases hj
      · cases hq
    have hct := ac_X11_restOf_0 l G ad ws μ' hB.1 hpre
    have hct : Ct l G yX11_restOf cX11_restOf 2 (some .long) (rmOf C_X11_restOf_0) [.ref (ad 0), .int pv] ws (fun r w1 => POST G ad TM C_X11_restOf_0 μ' ws r w1) := by
      have e0 : (List.range C_X11_restOf_0.1.length).map μ' = [.ref (ad 0), .int pv] := by show [μ' 0, μ' 1] = _; rw [m0, m1]
      rw [← e0]; exact hct
    refine hcallV (T := TM) (k := 0) (rest := []) (avs := [.int pv]) X k_11_358 hct d_bk_104 hB.1 rfl rfl rfl rfl ⟨by decide, by decide⟩ ⟨Nat.le_refl 0, Nat.le_refl 0⟩ (by decide) rfl (fun r w1 hp => ?_)
    obtain ⟨A1, hA1, μ2, -, -, a3, -, -, -, a7, a8⟩ := hp
    have hA2 := List.mem_singleton.mp hA1
    subst hA2
    obtain ⟨rfl, a4⟩ := a3
    obtain ⟨v, hv, -⟩ := vty1 a4 rfl
    rw [hv]
    have hB' : BKw G ad w0 hn pl rm oz f w1 := by
      obtain ⟨g1, g2, g3, g4, g5, g6, g7⟩ := hB
      have ar : ∀ (k n : Nat) (t : VT) (z : Nat → Int32), TM[k]? = some (.inr (0, n, t)) → ws[k]? = some (ad k, aI G n z) → w1[k]? = some (ad k, aI G n z) := fun k n t z hT hz => by
        obtain ⟨b, hb⟩ := a8.arr (k := k) rfl hz
        rw [WT.adr (T := TM) a7 hT hb] at hb
        exact hb
      exact ⟨a7, frm_trans g2 a8 (by decide), fget_frame a8 rfl g3, ar 2 16 _ _ rfl g4, ar 5 16 _ _ rfl g5, ar 6 16 _ _ rfl g6, ar 42 16 _ _ rfl g7⟩
    refine z_lload_n X d_bk_107 rfl 2 rfl ?_
    refine zl_gt X d_bk_108 d_bk_109 (tgt := 231) (by decide) (a := v.toInt) (b := bd.toInt) rfl rfl (fun _ => ?_) (fun _ => ?_)
    · skip
      refine z_iload X d_bk_231 4 rfl ?_
      exact z_iret X rfl d_bk_233 (Nat.le_refl 0) (Nat.le_refl 0) (bk_post hB'.1 hB'.2.1)
    refine z_iload X d_bk_112 3 rfl ?_
    refine zi_ne X d_bk_114 (tgt := 120) (by decide) (a := left.toInt) rfl (fun hne => ?_) (fun heq => ?_)
    rotate_left
    · skip
      refine z_bipush X d_bk_117 (v := (-2)) (by decide) ?_
      exact z_iret X rfl d_bk_119 (Nat.le_refl 0) (Nat.le_refl 0) (bk_post hB'.1 hB'.2.1)
    have hpos : 0 < hn.toInt := by
      rcases (by omega : 0 < hn.toInt ∨ hn.toInt = 0) with h | h
      · exact h
      · rw [h] at hS
        exact absurd (by rw [hS]; rfl) hne
    obtain ⟨t0, q1, q2, q3⟩ : ∃ t0, t0 < hn.toInt.toNat ∧ pl t0 = pv ∧ f t0 ≠ rm t0 := by
      rcases Classical.em (∃ t0, t0 < hn.toInt.toNat ∧ pl t0 = pv ∧ f t0 ≠ rm t0) with h | h
      · exact h
      · refine absurd ?_ hne
        rw [hS, SS_zero hn.toInt.toNat (fun k hk hpk => Classical.byContradiction (fun hq => h ⟨k, hk, hpk, hq⟩))]
        rfl
    refine bk_inner X hpos hn1 hB' q1 q2 q3 (fun t h0 h1 hpt hft => ?_) _ t h0 (h1 hpos) (Nat.lt_succ_self _)
    have hv16 : vp_in t 16 := vp_of h0 (by omega)
    have etn : t.toNatClampNeg = t.toInt.toNat := rfl
    refine z_aload_n X d_bk_162 rfl 0 rfl ?_
    refine hget (T := TM) X hB'.1 (idx := 456) (fld_11_ok _ (by decide : (456, 11, 67) ∈ fld_11)) d_bk_163 rfl (fget_ref hB'.1 rfl rfl) ?_
    refine z_iload X d_bk_166 5 rfl ?_
    refine z_dup2_11 X d_bk_168 rfl rfl ?_
    refine z_iald X d_bk_169 42 (hB'.2.2.2.2.2.2) (hv16) rfl ?_
    refine z_iconst X d_bk_170 (v := 1) (by decide) ?_
    refine z_iadd X d_bk_171 ?_
    refine z_iast X d_bk_172 42 (hB'.2.2.2.2.2.2) (hv16) rfl ?_
    have hB2 := hB'.set t.toNatClampNeg (f t.toNatClampNeg + 1)
    generalize hws2 : w1.set 42 (ad 42, aI G 16 (upd f t.toNatClampNeg (f t.toNatClampNeg + 1))) = ws2 at hB2 ⊢
    have p2 : ((2 : Int32) * pv).toInt = 2 * pv.toInt := tI_mul rfl rfl (by omega)
    have p3 : ((2 : Int32) * pv + 1).toInt = 2 * pv.toInt + 1 := tI_add p2 rfl (by omega)
    have hl0 : vp_in ((2 : Int32) * pv) 4 := vp_of (by omega) (by omega)
    have hl1 : vp_in ((2 : Int32) * pv + 1) 4 := vp_of (by omega) (by omega)
    obtain ⟨g1, ug1, -⟩ := WT.ints (T := TM) (k := 20) (n := 4) hB2.1 rfl
    obtain ⟨xg1, vg1, -⟩ := WT.ints (T := TM) (k := 3) (n := 16) hB2.1 rfl
    refine z_aload_n X d_bk_173 rfl 0 rfl ?_
    refine hget (T := TM) X hB2.1 (idx := 166) (fld_11_ok _ (by decide : (166, 11, 30) ∈ fld_11)) d_bk_174 rfl (fget_ref hB2.1 rfl rfl) ?_
    refine z_iconst X d_bk_177 (v := 2) (by decide) ?_
    refine z_iload_n X d_bk_178 rfl 1 rfl ?_
    refine z_imul X d_bk_179 ?_
    refine z_dup2_11 X d_bk_180 rfl rfl ?_
    refine z_iald X d_bk_181 20 (ug1) (hl0) rfl ?_
    refine z_aload_n X d_bk_182 rfl 0 rfl ?_
    refine hget (T := TM) X hB2.1 (idx := 69) (fld_11_ok _ (by decide : (69, 11, 5) ∈ fld_11)) d_bk_183 rfl (fget_ref hB2.1 rfl rfl) ?_
    refine z_iload X d_bk_186 5 rfl ?_
    refine z_iald X d_bk_188 3 (vg1) (hv16) rfl ?_
    refine z_iadd X d_bk_189 ?_
    refine z_iast X d_bk_190 20 (ug1) (hl0) rfl ?_
    have hB3 := hB2.setL ug1 ((2 : Int32) * pv).toNatClampNeg (((g1 (((2 : Int32) * pv)).toNatClampNeg) + (xg1 (t).toNatClampNeg)))
    generalize hws3 : ws2.set 20 _ = ws3 at hB3 ⊢
    obtain ⟨g2, ug2, -⟩ := WT.ints (T := TM) (k := 20) (n := 4) hB3.1 rfl
    obtain ⟨xg2, vg2, -⟩ := WT.ints (T := TM) (k := 4) (n := 16) hB3.1 rfl
    refine z_aload_n X d_bk_191 rfl 0 rfl ?_
    refine hget (T := TM) X hB3.1 (idx := 166) (fld_11_ok _ (by decide : (166, 11, 30) ∈ fld_11)) d_bk_192 rfl (fget_ref hB3.1 rfl rfl) ?_
    refine z_iconst X d_bk_195 (v := 2) (by decide) ?_
    refine z_iload_n X d_bk_196 rfl 1 rfl ?_
    refine z_imul X d_bk_197 ?_
    refine z_iconst X d_bk_198 (v := 1) (by decide) ?_
    refine z_iadd X d_bk_199 ?_
    refine z_dup2_11 X d_bk_200 rfl rfl ?_
    refine z_iald X d_bk_201 20 (ug2) (hl1) rfl ?_
    refine z_aload_n X d_bk_202 rfl 0 rfl ?_
    refine hget (T := TM) X hB3.1 (idx := 76) (fld_11_ok _ (by decide : (76, 11, 6) ∈ fld_11)) d_bk_203 rfl (fget_ref hB3.1 rfl rfl) ?_
    refine z_iload X d_bk_206 5 rfl ?_
    refine z_iald X d_bk_208 4 (vg2) (hv16) rfl ?_
    refine z_iadd X d_bk_209 ?_
    refine z_iast X d_bk_210 20 (ug2) (hl1) rfl ?_
    have hB4 := hB3.setL ug2 ((2 : Int32) * pv + 1).toNatClampNeg (((g2 (((2 : Int32) * pv + 1)).toNatClampNeg) + (xg2 (t).toNatClampNeg)))
    generalize hws4 : ws3.set 20 _ = ws4 at hB4 ⊢
    refine z_iload X d_bk_211 5 rfl ?_
    refine z_iconst X d_bk_213 (v := 1) (by decide) ?_
    refine z_iadd X d_bk_214 ?_
    refine z_aload_n X d_bk_215 rfl 0 rfl ?_
    refine hget (T := TM) X hB4.1 (idx := 63) (fld_11_ok _ (by decide : (63, 11, 3) ∈ fld_11)) d_bk_216 rfl (hB4.2.2.1) ?_
    have e1 : (t + 1).toInt = t.toInt + 1 := tI_add rfl rfl (by omega)
    have e2 := irem_v (a := t + 1) (b := hn) (by omega) hpos
    have m1 := Int.emod_nonneg (t + 1).toInt (show hn.toInt ≠ 0 by omega)
    have m2 := Int.emod_lt_of_pos (t + 1).toInt hpos
    refine z_irem X d_bk_219 (fun q => by rw [q] at hpos; exact absurd hpos (by decide)) ?_
    refine z_istore X d_bk_220 (by decide) (lv' := [(6, .int (((t + 1) - (t + 1) / hn * hn))), (0, .ref (ad 0)), (1, .int (pv)), (2, .long (bd)), (4, .int (left)), (5, .int (mi))]) rfl ?_
    refine z_iinc X d_bk_222 (k := 4) rfl rfl (by decide) (lv' := [(4, .int (left + Int32.ofInt (-1))), (6, .int (((t + 1) - (t + 1) / hn * hn))), (0, .ref (ad 0)), (1, .int (pv)), (2, .long (bd)), (5, .int (mi))]) rfl ?_
    refine z_iinc X d_bk_225 (k := 5) rfl rfl (by decide) (lv' := [(5, .int (mi + Int32.ofInt (1))), (4, .int (left + Int32.ofInt (-1))), (6, .int (((t + 1) - (t + 1) / hn * hn))), (0, .ref (ad 0)), (1, .int (pv)), (2, .long (bd))]) rfl ?_
    refine z_goto X d_bk_228 (tgt := 102) (by decide) ?_
    have eL : left + Int32.ofInt (-1) = left - 1 := by rw [Int32.sub_eq_add_neg]; rfl
    refine Z.mono (fun q hq => by simp only [List.mem_cons, List.not_mem_nil, or_false] at hq ⊢; rcases hq with h | h | h | h | h | h <;> simp [h]) (bk_outer (bd := bd) X hpv hn0 hn1 n (left + Int32.ofInt (-1)) (mi + Int32.ofInt 1) ((t + 1) - (t + 1) / hn * hn) _ ws4 hB4 ?_ (by omega) (fun _ => by omega) ?_)
    · rw [eL, hS, SS_one hpt _ (by omega)]
    · rw [eL]
      have hl : left.toBitVec.toNat ≠ 0 := fun q => hne (by rw [show left = 0 from Int32.toBitVec_inj.mp (BitVec.eq_of_toNat_eq q)]; rfl)
      have : (left - 1).toBitVec.toNat = left.toBitVec.toNat - 1 := by
        rw [Int32.toBitVec_sub, BitVec.toNat_sub]
        show (2 ^ 32 - 1 + left.toBitVec.toNat) % 2 ^ 32 = _
        have := left.toBitVec.isLt
        omega
      omega
end BKS
theorem ac_buckets (l : Launch) (G : KG) : ACt l G TM yX11_buckets cX11_buckets 7 (some .int) C_buckets := by
  refine hand_of (by decide) (by decide) (by decide) (by decide) (by decide) ?_
  intro p e s m args below meth c A X ad w0 μ lw hW hPre hg
  refine aseg (C := sC_bk) (PO := BKpo G ad w0 μ) (fld := fld_11) (put := put_11) (cst := cst_11) (cstl := cstl_11) (hk := hk0) (tab := D_X11_buckets) (rk := 1) (pids := [0, 1, 2]) D_X11_buckets_ok X rfl rfl hok0 (Or.inr (Or.inl ⟨rfl, rfl⟩)) (Nat.le_refl 0) (Nat.le_refl 0) (spin1 (C := C_buckets)) (spin2 (C := C_buckets)) (fun r w1 h => h) fld_11_ok put_11_ok cst_11_ok cstl_11_ok (sl_bk_ok l G) (Nat.le_refl 0) (Nat.le_refl 0) spin3 sg_bk (fun d hd ν2 lw2 sw2 ws2 hg2 => ?_) μ lw [] w0 hg
  rw [List.mem_singleton.mp hd] at hg2 ⊢
  have hs : sw2 = [] := hg2.2.1
  subst hs
  have h3 := hg2.2.2
  have el : lw2 = [(0, ν2 0), (1, ν2 1), (2, ν2 2), (4, ν2 500), (5, ν2 501)] := hg2.1
  have e0 : ν2 0 = .ref (ad 0) := h3.ref (i := 0) rfl
  obtain ⟨pv, e1, p1, p2⟩ := h3.rng (i := 1) (a := 0) (b := 1) (by decide)
  obtain ⟨bd, e2, -⟩ := vty1 (h3.2.1 (2, (1, 0, 9223372036854775807)) (by decide)) rfl
  have e2 : ν2 2 = .long bd := e2
  obtain ⟨z4, e4, q1, q2⟩ := h3.rng (i := 500) (a := 0) (b := 0) (by decide)
  obtain ⟨z5, e5, q3, q4⟩ := h3.rng (i := 501) (a := 0) (b := 0) (by decide)
  have f4 : z4 = 0 := Int32.toInt_inj.mp (by show z4.toInt = 0; omega)
  have f5 : z5 = 0 := Int32.toInt_inj.mp (by show z5.toInt = 0; omega)
  obtain ⟨hn, e6, n1, n2⟩ := h3.rng (i := 503) (a := 0) (b := 16) (by decide)
  have hf := h3.2.2.1 (0, 3, 503) (by decide)
  have hf : fget ws2 0 3 = some (ν2 503) := hf
  rw [e6] at hf
  have hW2 := h3.2.2.2.2.2.1
  have hF2 := h3.2.2.2.2.2.2
  obtain ⟨pl, a1, -⟩ := WT.ints (T := TM) (k := 2) (n := 16) hW2 rfl
  obtain ⟨rm, a2, -⟩ := WT.ints (T := TM) (k := 5) (n := 16) hW2 rfl
  obtain ⟨oz, a3, -⟩ := WT.ints (T := TM) (k := 6) (n := 16) hW2 rfl
  obtain ⟨f, a4, -⟩ := WT.ints (T := TM) (k := 42) (n := 16) hW2 rfl
  rw [el, e0, e1, e2, e4, e5, f4, f5]
  have h00 : (0 : Int32).toInt = 0 := rfl
  refine bk_loop1 (bd := bd) (pv := pv) (pl := pl) (rm := rm) (oz := oz) X n1 n2 (fun ws f hB => ?_) _ 0 f ws2 ⟨hW2, hF2, hf, a1, a2, a3, a4⟩ (by omega) (by omega) (Nat.lt_succ_self _)
  refine z_iconst X d_bk_96 (v := 0) (by decide) ?_
  refine z_istore X d_bk_97 (by decide) (lv' := [(5, .int ((0 : Int32))), (0, .ref (ad 0)), (1, .int (pv)), (2, .long (bd)), (4, .int (SS pl rm f pv hn.toInt.toNat))]) rfl ?_
  refine z_iconst X d_bk_99 (v := 0) (by decide) ?_
  refine z_istore X d_bk_100 (by decide) (lv' := [(6, .int ((0 : Int32))), (5, .int ((0 : Int32))), (0, .ref (ad 0)), (1, .int (pv)), (2, .long (bd)), (4, .int (SS pl rm f pv hn.toInt.toNat))]) rfl ?_
  refine Z.mono (fun q hq => by simp only [List.mem_cons, List.not_mem_nil, or_false] at hq ⊢; rcases hq with h | h | h | h | h | h <;> simp [h]) (bk_outer (bd := bd) (pl := pl) (rm := rm) (oz := oz) X ⟨p1, p2⟩ n1 n2 _ (SS pl rm f pv hn.toInt.toNat) 0 0 f ws hB rfl (by omega) (fun h => by omega) (Nat.lt_succ_self _))
end
section
/-! the class's roomLeft, bestOunce -/
def RLP (G : KG) (ad : Nat → Nat) (w0 : va_W) (μ : Nat → Value) (r : Option Value) (w1 : va_W) : Prop := WT G ad TX w1 ∧ FRM [] w0 w1 ∧ ∃ (f g : Nat → Int32) (x : Int32), w0[10]? = some (ad 10, aI G 16 f) ∧ w0[9]? = some (ad 9, aI G 16 g) ∧ μ 1 = .int x ∧ r = some (.int (g x.toNatClampNeg - f x.toNatClampNeg)) ∧ 0 ≤ (f x.toNatClampNeg).toInt ∧ (f x.toNatClampNeg).toInt ≤ 9 ∧ 0 ≤ (g x.toNatClampNeg).toInt ∧ (g x.toNatClampNeg).toInt ≤ 9
theorem ac_roomLeft (l : Launch) (G : KG) : ∀ (ad : Nat → Nat) (w0 : va_W) (μ : Nat → Value), WT G ad TX w0 → PRE ad C_roomLeft0 μ w0 → Ct l G yX5_roomLeft cX5_roomLeft 2 (some .int) (rmOf C_roomLeft0) [μ 0, μ 1] w0 (RLP G ad w0 μ) := by
  refine hand_ofP (C := C_roomLeft0) (by decide) (by decide) (by decide) (by decide) (by decide) ?_
  intro p e s m args below meth c A X ad w0 μ lw hW hPre hg
  have noret : ∀ (w : va_W) r w1, POST G ad TX C_roomLeft0 μ w r w1 → RLP G ad w0 μ r w1 := fun w r w1 h => by
    obtain ⟨A1, hA1, -⟩ := h
    cases hA1
  refine aseg (C := sC_rR0) (PO := RLP G ad w0 μ) (fld := fld_5) (put := put_5) (cst := cst_5) (cstl := cstl_5) (hk := hk0) (tab := D_X5_roomLeft) (rk := 1) (pids := [0, 1]) D_X5_roomLeft_ok X rfl rfl hok0 (Or.inr (Or.inl ⟨rfl, rfl⟩)) (Nat.le_refl 0) (Nat.le_refl 0) (spin1 (C := C_roomLeft0)) (spin2 (C := C_roomLeft0)) (noret w0) fld_5_ok put_5_ok cst_5_ok cstl_5_ok (sl_rR0_ok l G) (Nat.le_refl 0) (Nat.le_refl 0) spin3 sg_rR0 (fun d hd ν2 lw2 sw2 ws2 hg2 => ?_) μ lw [] w0 hg
  rw [List.mem_singleton.mp hd] at hg2 ⊢
  obtain ⟨x, g, x1, x2, x3, x4, x5, x6, x7, x8⟩ := AG.elem (i := 1) (r := 500) (k := 9) (n := 16) (a := 0) (b := 15) hg2 (by decide) (by decide) (by decide) rfl rfl rfl
  have x2 : sw2 = [.int x, .ref (ad 9)] := x2
  have bm : ν2 1 = μ 1 := (hg2.2.2.2.2.2.2.1 (1, μ 1) (spin1 (C := C_roomLeft0) 1 (by decide))).2
  rw [x2]
  refine z_iald X d_rm_5 9 x3 x5 rfl ?_
  have hgB := (AG.stk (st2 := []) hg2).pushN (n := 702) (t := (0, 0, 9)) (v := .int (g x.toNatClampNeg)) (by decide) (by decide) (fun q hq e9 => by
    have h1 : q.1 ∈ [0, 1] := spin3 q hq
    rw [e9] at h1
    revert h1
    decide) (vty_i (x4 _ x8).1 (x4 _ x8).2.1)
  refine aseg (C := sC_rR1) (PO := RLP G ad w0 μ) (fld := fld_5) (put := put_5) (cst := cst_5) (cstl := cstl_5) (hk := hk0) (tab := D_X5_roomLeft) (rk := 1) (pids := [0, 1, 702]) D_X5_roomLeft_ok X rfl rfl hok0 (Or.inr (Or.inl ⟨rfl, rfl⟩)) (Nat.le_refl 0) (Nat.le_refl 0) (fun j hj => List.mem_cons_of_mem _ (spin1 (C := C_roomLeft0) j hj)) (fun j hj => List.mem_cons_of_mem _ (spin2 (C := C_roomLeft0) j hj)) (noret w0) fld_5_ok put_5_ok cst_5_ok cstl_5_ok (sl_rR1_ok l G) (Nat.le_refl 0) (Nat.le_refl 0) (fun q hq => by
    rcases List.mem_cons.mp hq with e1 | hq
    · rw [e1]; exact (by decide : (702 : Nat) ∈ [0, 1, 702])
    · have hsub : ∀ z ∈ [0, 1], z ∈ [0, 1, 702] := by decide
      exact hsub _ (spin3 q hq)) sg_rR1 (fun d hd ν3 lw3 sw3 ws3 hg3 => ?_) _ lw2 _ ws2 hgB
  rw [List.mem_singleton.mp hd] at hg3 ⊢
  obtain ⟨x', f, y1, y2, y3, y4, y5, y6, y7, y8⟩ := AG.elem (i := 1) (r := 500) (k := 10) (n := 16) (a := 0) (b := 15) hg3 (by decide) (by decide) (by decide) rfl rfl rfl
  have p3 := hg3.2.2.2.2.2.2.1
  have c1 : ν3 1 = μ 1 := (p3 (1, μ 1) (List.mem_cons_of_mem _ (spin1 (C := C_roomLeft0) 1 (by decide)))).2
  have c702 : ν3 702 = .int (g x.toNatClampNeg) := (p3 (702, .int (g x.toNatClampNeg)) List.mem_cons_self).2
  rw [c1, ← bm, x1] at y1
  cases y1
  have y2 : sw3 = [.int x, .ref (ad 10), ν3 702] := y2
  rw [y2, c702]
  refine z_iald X d_rm_11 10 y3 y5 rfl (z_isub X d_rm_12 ?_)
  have hF2 := hg2.2.2.2.2.2.2.2.2
  have hF3 := hg3.2.2.2.2.2.2.2.2
  obtain ⟨f0, u1, -⟩ := WT.ints (T := TX) (k := 10) (n := 16) hW rfl
  obtain ⟨g0, u2, -⟩ := WT.ints (T := TX) (k := 9) (n := 16) hW rfl
  obtain ⟨b1, v1⟩ := hF3.arr (k := 10) (by decide) u1
  obtain ⟨b2, v2⟩ := hF2.arr (k := 9) (by decide) u2
  rw [y3] at v1
  rw [x3] at v2
  have e1 : f = f0 := Sum.inl.inj (congrArg (fun z : ClassId × vp_A => z.2.2) (Sum.inl.inj (congrArg Prod.snd (Option.some.inj v1))))
  have e2 : g = g0 := Sum.inl.inj (congrArg (fun z : ClassId × vp_A => z.2.2) (Sum.inl.inj (congrArg Prod.snd (Option.some.inj v2))))
  subst e1
  subst e2
  exact z_iret X rfl d_rm_13 (Nat.le_refl 0) (Nat.le_refl 0) ⟨hg3.2.2.2.2.2.2.2.1, hF3, f, g, x, u1, u2, by rw [← bm]; exact x1, rfl, (y4 _ y8).1, (y4 _ y8).2.1, (x4 _ x8).1, (x4 _ x8).2.1⟩
/-- ounceOf's answer: a hole that can -/
def OPx (G : KG) (ad : Nat → Nat) (ws : va_W) (w : Bool) (r : Int32) : Prop := ∃ f g : Nat → Int32, ws[10]? = some (ad 10, aI G 16 f) ∧ ws[9]? = some (ad 9, aI G 16 g) ∧ ((w = true ∧ (f r.toNatClampNeg).toInt < (g r.toNatClampNeg).toInt) ∨ (w = false ∧ 0 < (f r.toNatClampNeg).toInt))
theorem OPx.frm {G : KG} {ad : Nat → Nat} {mk : List (Nat × Nat)} {w0 ws : va_W} {w : Bool} {r : Int32} (h : OPx G ad w0 w r) (hW : WT G ad TX ws) (hF : FRM mk w0 ws) (h6 : mkq mk 10 0 = false) (h5 : mkq mk 9 0 = false) : OPx G ad ws w r := by
  obtain ⟨f, g, a1, a2, a3⟩ := h
  obtain ⟨b1, c1⟩ := hF.arr h6 a1
  obtain ⟨b2, c2⟩ := hF.arr h5 a2
  rw [WT.adr (T := TX) (k := 10) hW rfl c1] at c1
  rw [WT.adr (T := TX) (k := 9) hW rfl c2] at c2
  exact ⟨f, g, c1, c2, a3⟩
theorem OPx.bak {G : KG} {ad : Nat → Nat} {mk : List (Nat × Nat)} {w0 ws : va_W} {w : Bool} {r : Int32} (h : OPx G ad ws w r) (hW : WT G ad TX w0) (hF : FRM mk w0 ws) (h6 : mkq mk 10 0 = false) (h5 : mkq mk 9 0 = false) : OPx G ad w0 w r := by
  obtain ⟨f, g, a1, a2, a3⟩ := h
  obtain ⟨f0, u1, -⟩ := WT.ints (k := 10) (n := 16) hW rfl
  obtain ⟨g0, u2, -⟩ := WT.ints (k := 9) (n := 16) hW rfl
  obtain ⟨b1, c1⟩ := hF.arr h6 u1
  obtain ⟨b2, c2⟩ := hF.arr h5 u2
  rw [a1] at c1
  rw [a2] at c2
  have e1 : f = f0 := Sum.inl.inj (congrArg (fun z : ClassId × vp_A => z.2.2) (Sum.inl.inj (congrArg Prod.snd (Option.some.inj c1))))
  have e2 : g = g0 := Sum.inl.inj (congrArg (fun z : ClassId × vp_A => z.2.2) (Sum.inl.inj (congrArg Prod.snd (Option.some.inj c2))))
  subst e1
  subst e2
  exact ⟨f, g, u1, u2, a3⟩
def BOP (G : KG) (ad : Nat → Nat) (w0 : va_W) (μ : Nat → Value) (r : Option Value) (w1 : va_W) : Prop := WT G ad TX w1 ∧ FRM C_bo0.2.2.2.2.1 w0 w1 ∧ ∃ x : Int32, r = some (.int x) ∧ -2 ≤ x.toInt ∧ x.toInt ≤ 15 ∧ (0 ≤ x.toInt → OPx G ad w0 (decide (vI (μ 2) = 0)) x)
section BO
variable {p : Program} {l : Launch} {e : Env} {s : State} {m : MethodId} {args : Array Value} {below : List Frame} {meth : Method} {c : Code} {G : KG} {A : Nat → Prop} {ad : Nat → Nat} {w0 : va_W} {μ : Nat → Value}
theorem bo_head {σ : AS} {ν : Nat → Value} {lw : List (Nat × Value)} {ws : va_W} {pin : List (Nat × Value)} (hg : AG G ad TX C_bo0.2.2.2.2.1 w0 pin σ ν lw [] ws) (hp : ∀ q ∈ spin C_bo0 μ, q.1 < 1000 ∧ ν q.1 = q.2) (ha : aarr (apids C_bo0) none boH σ = true) : ∃ (ν' : Nat → Value) (lw' : List (Nat × Value)), AG G ad TX C_bo0.2.2.2.2.1 w0 (spin C_bo0 μ) boH.2.1 ν' lw' [] ws ∧ ∀ q ∈ lw', q ∈ lw := AG.arrive (d := boH) (hg.pins hp) spin3 ha (by decide)
theorem bo_loop (hs0 : WT G ad TX w0) (X : ZC p s m args meth c cX10_bestOunce 10 RX10 G A (some .int) "bestOunce") : ∀ (n : Nat) (ν : Nat → Value) (lw : List (Nat × Value)) (ws : va_W), AG G ad TX C_bo0.2.2.2.2.1 w0 (spin C_bo0 μ) boH.2.1 ν lw [] ws → (16 - vI (ν 701)).toNat < n → (∀ x, ν 700 = .int x → 0 ≤ x.toInt → OPx G ad w0 (decide (vI (μ 2) = 0)) x) → Z p l e (rmOf C_bo0) s m args below meth c 10 G A (MQ below (QQ G A (BOP G ad w0 μ)) args s 0 0 A) 9 lw [] ws 0 0
  | 0, _, _, _, _, h9, _ => absurd h9 (Nat.not_lt_zero _)
  | n + 1, ν, lw, ws, hg, h9, hbest => by
    have h3 := hg.2.2
    have hgA := hg.pins (pin2 := (700, ν 700) :: (701, ν 701) :: spin C_bo0 μ) (fun q hq => by
      rcases List.mem_cons.mp hq with e1 | hq
      · rw [e1]; exact ⟨(by decide : (700 : Nat) < 1000), rfl⟩
      rcases List.mem_cons.mp hq with e1 | hq
      · rw [e1]; exact ⟨(by decide : (701 : Nat) < 1000), rfl⟩
      · exact h3.2.2.2.2.1 q hq)
    have hids : ∀ q ∈ (700, ν 700) :: (701, ν 701) :: spin C_bo0 μ, q.1 ∈ [0, 1, 2, 100, 700, 701, 704] := fun q hq => by
      rcases List.mem_cons.mp hq with e1 | hq
      · rw [e1]; exact (by decide : (700 : Nat) ∈ [0, 1, 2, 100, 700, 701, 704])
      rcases List.mem_cons.mp hq with e1 | hq
      · rw [e1]; exact (by decide : (701 : Nat) ∈ [0, 1, 2, 100, 700, 701, 704])
      · have := spin3 q hq
        revert this
        show q.1 ∈ [0, 1, 2, 100] → _
        intro h
        have hsub : ∀ z ∈ [0, 1, 2, 100], z ∈ [0, 1, 2, 100, 700, 701, 704] := by decide
        exact hsub _ h
    have noret : ∀ (w : va_W) r w1, POST G ad TX C_bo0 μ w r w1 → BOP G ad w0 μ r w1 := fun w r w1 h => by
      obtain ⟨A1, hA1, -⟩ := h
      cases hA1
    have sp2 : ∀ q ∈ spin C_bo0 μ, q ∈ (700, ν 700) :: (701, ν 701) :: spin C_bo0 μ := fun q hq => List.mem_cons_of_mem _ (List.mem_cons_of_mem _ hq)
    -- behind an iteration
    have back : ∀ (σ : AS) (ν2 : Nat → Value) (lw2 : List (Nat × Value)) (ws2 : va_W) (pin2 : List (Nat × Value)) (b h : Nat), AG G ad TX C_bo0.2.2.2.2.1 w0 pin2 σ ν2 lw2 [] ws2 → (∀ q ∈ spin C_bo0 μ, q.1 < 1000 ∧ ν2 q.1 = q.2) → aarr (apids C_bo0) none boH σ = true → ((3, ν2 b) ∈ lw2 ∧ ∀ v, (3, v) ∈ lw2 → v = ν2 b) → (∀ v, (6, v) ∈ lw2 → v = ν2 h) → vI (ν 701) < vI (ν2 h) → vI (ν2 h) ≤ 16 → (∀ x, ν2 b = .int x → 0 ≤ x.toInt → OPx G ad w0 (decide (vI (μ 2) = 0)) x) → Z p l e (rmOf C_bo0) s m args below meth c 10 G A (MQ below (QQ G A (BOP G ad w0 μ)) args s 0 0 A) 9 lw2 [] ws2 0 0 := by
      intro σ ν2 lw2 ws2 pin2 b h hg2 hp2 ha hb hh hlt hle hop
      obtain ⟨ν', lw', q1, q2⟩ := bo_head hg2 hp2 ha
      have e1 : lw' = boH.2.1.1.map (fun q => (q.1, ν' q.2.1)) := q1.1
      have m3 : (3, ν' 700) ∈ lw' := by rw [e1]; exact List.mem_map.mpr ⟨(3, 700, false), by decide, rfl⟩
      have m4 : (6, ν' 701) ∈ lw' := by rw [e1]; exact List.mem_map.mpr ⟨(6, 701, false), by decide, rfl⟩
      have k3 : ν' 700 = ν2 b := hb.2 _ (q2 _ m3)
      have k4 : ν' 701 = ν2 h := hh _ (q2 _ m4)
      refine Z.mono q2 (bo_loop hs0 X n ν' lw' ws2 q1 ?_ (fun x hx => ?_))
      · rw [k4]
        have : vI (ν 701) ≤ 15 := by omega
        omega
      · rw [k3] at hx; exact hop x hx
    refine aseg (C := sC_boA) (PO := BOP G ad w0 μ) (fld := fld_10) (put := put_10) (cst := cst_10) (cstl := cstl_10) (hk := hk0) (tab := D_X10_bestOunce) (rk := 1) (pids := [0, 1, 2, 100, 700, 701, 704]) D_X10_bestOunce_ok X rfl rfl hok0 (Or.inr (Or.inl ⟨rfl, rfl⟩)) (Nat.le_refl 0) (Nat.le_refl 0) (fun j hj => sp2 _ (spin1 (C := C_bo0) j hj)) (fun j hj => sp2 _ (spin2 (C := C_bo0) j hj)) (noret w0) fld_10_ok put_10_ok cst_10_ok cstl_10_ok (sl_boA_ok l G) (Nat.le_refl 0) (Nat.le_refl 0) hids sg_boA (fun d hd ν2 lw2 sw2 ws2 hg2 => ?_) ν lw [] ws hgA
    have hd : d ∈ [se_boA_31, se_boA_54, se_boA_122] := hd
    have b700 := (hg2.2.2.2.2.2.2.1 (700, ν 700) List.mem_cons_self).2
    have b701 := (hg2.2.2.2.2.2.2.1 (701, ν 701) (List.mem_cons_of_mem _ List.mem_cons_self)).2
    have b700 : ν2 700 = ν 700 := b700
    have b701 : ν2 701 = ν 701 := b701
    have bw := (hg2.2.2.2.2.2.2.1 (2, μ 2) (sp2 _ (spin1 (C := C_bo0) 2 (by decide)))).2
    have bw : ν2 2 = μ 2 := bw
    have psp : ∀ q ∈ spin C_bo0 μ, q.1 < 1000 ∧ ν2 q.1 = q.2 := fun q hq => hg2.2.2.2.2.2.2.1 q (sp2 q hq)
    have pfree : ∀ k, k ∉ [0, 1, 2, 100, 700, 701, 704] → ∀ q ∈ (700, ν 700) :: (701, ν 701) :: spin C_bo0 μ, q.1 ≠ k := fun k hk q hq e9 => hk (e9 ▸ hids q hq)
    rcases List.mem_cons.mp hd with e1 | hd
    · -- what = 0: roomLeft
      subst e1
      obtain ⟨x, x1, x6, x7⟩ := hg2.2.2.rng (i := 701) (a := 0) (b := 15) (by decide)
      have hrr : ν2 501 = .ref (ad 5) := hg2.2.2.ref (i := 501) rfl
      have hs : sw2 = [.int x, .ref (ad 5)] := by
        have : sw2 = [ν2 701, ν2 501] := hg2.2.1
        rw [this, x1, hrr]
      have hW2 := hg2.2.2.2.2.2.2.2.1
      obtain ⟨μ', hμ⟩ : ∃ μ' : Nat → Value, μ' = fun i => if i = 0 then .ref (ad 5) else .int x := ⟨_, rfl⟩
      have m0 : μ' 0 = .ref (ad 5) := by rw [hμ]; rfl
      have m1 : μ' 1 = .int x := by rw [hμ]; rfl
      have hpre : PRE ad C_roomLeft0 μ' ws2 := by
        refine ⟨fun j t hj => ?_, fun j q hj => ?_, fun q hq => ?_⟩
        · match j, hj with
          | 0, hj => cases hj; rw [m0]; exact Or.inr (Or.inr (Or.inl ⟨rfl, rfl⟩))
          | 1, hj => cases hj; rw [m1]; exact vty_i x6 x7
          | n + 2, hj => cases hj
        · cases hj
        · cases hq
      have hct := ac_roomLeft l G ad ws2 μ' hW2 hpre
      rw [m0, m1] at hct
      refine hcallV (T := TX) (k := 5) (rest := []) (avs := [.int x]) X k_10_371 hct d_bo_31 hW2 rfl rfl rfl rfl ⟨by decide, by decide⟩ ⟨Nat.le_refl 0, Nat.le_refl 0⟩ (by decide) hs (fun r w1 hp => ?_)
      obtain ⟨q1, q2, f, gg, x', y1, y2, y3, rfl, y5, y6, y7, y8⟩ := hp
      rw [m1] at y3
      cases y3
      have hgw := AG.worldR (mk2 := C_bo0.2.2.2.2.1) (st2 := []) hg2 q1 q2
      have hgw : AG G ad TX C_bo0.2.2.2.2.1 w1 _ (se_boA_31.2.1.1, [], se_boA_31.2.1.2.2.1, se_boA_31.2.1.2.2.2.1, se_boA_31.2.1.2.2.2.2.1, 1000) ν2 lw2 [] w1 := hgw
      have hF02 := hg2.2.2.2.2.2.2.2.2
      have hgw := AG.rebase (mk := C_bo0.2.2.2.2.1) (w0 := w0) hgw (frm_trans hF02 q2 (by decide)) (by decide)
      have hsub : (gg x.toNatClampNeg - f x.toNatClampNeg).toInt = (gg x.toNatClampNeg).toInt - (f x.toNatClampNeg).toInt := tI_sub rfl rfl (by omega)
      have hgB := hgw.pushN (n := 702) (t := (0, -9, 9)) (v := .int (gg x.toNatClampNeg - f x.toNatClampNeg)) (by decide) (by decide) (pfree 702 (by decide)) (vty_i (by rw [hsub]; omega) (by rw [hsub]; omega))
      refine aseg (C := sC_boB) (PO := BOP G ad w0 μ) (fld := fld_10) (put := put_10) (cst := cst_10) (cstl := cstl_10) (hk := hk0) (tab := D_X10_bestOunce) (rk := 1) (pids := [0, 1, 2, 100, 700, 701, 704, 702]) D_X10_bestOunce_ok X rfl rfl hok0 (Or.inr (Or.inl ⟨rfl, rfl⟩)) (Nat.le_refl 0) (Nat.le_refl 0) (fun j hj => List.mem_cons_of_mem _ (sp2 _ (spin1 (C := C_bo0) j hj))) (fun j hj => List.mem_cons_of_mem _ (sp2 _ (spin2 (C := C_bo0) j hj))) (noret w0) fld_10_ok put_10_ok cst_10_ok cstl_10_ok (sl_boB_ok l G) (Nat.le_refl 0) (Nat.le_refl 0) (fun q hq => by
        rcases List.mem_cons.mp hq with e1 | hq
        · rw [e1]; exact (by decide : (702 : Nat) ∈ [0, 1, 2, 100, 700, 701, 704, 702])
        · have hsub : ∀ z ∈ [0, 1, 2, 100, 700, 701, 704], z ∈ [0, 1, 2, 100, 700, 701, 704, 702] := by decide
          exact hsub _ (hids q hq)) sg_boB (fun d hd ν4 lw4 sw4 ws4 hg4 => ?_) _ lw2 _ w1 hgB
      have hd : d ∈ [se_boB_9, se_boB_9_1] := hd
      have p4 := hg4.2.2.2.2.2.2.1
      have d701 : ν4 701 = ν 701 := (p4 (701, ν 701) (List.mem_cons_of_mem _ (List.mem_cons_of_mem _ List.mem_cons_self))).2
      have d700 : ν4 700 = ν 700 := (p4 (700, ν 700) (List.mem_cons_of_mem _ List.mem_cons_self)).2
      have d702 : ν4 702 = .int (gg x.toNatClampNeg - f x.toNatClampNeg) := (p4 (702, .int (gg x.toNatClampNeg - f x.toNatClampNeg)) List.mem_cons_self).2
      have psp4 : ∀ q ∈ spin C_bo0 μ, q.1 < 1000 ∧ ν4 q.1 = q.2 := fun q hq => p4 q (List.mem_cons_of_mem _ (sp2 q hq))
      rcases List.mem_cons.mp hd with e1 | hd
      · subst e1
        have hs4 : sw4 = [] := hg4.2.1
        subst hs4
        have el : lw4 = [(0, ν4 0), (1, ν4 1), (2, ν4 2), (3, ν4 700), (4, ν4 500), (6, ν4 501), (7, ν4 502)] := hg4.1
        have r1 : vI (ν4 701) ≤ vI (ν4 501) + -1 := hg4.2.2.dl (a := 701) (b := 501) (c := -1) (by decide)
        obtain ⟨z, z1, z2, z3⟩ := hg4.2.2.rng (i := 501) (a := 1) (b := 16) (by decide)
        rw [d701, z1] at r1
        have r1 : vI (ν 701) ≤ z.toInt + -1 := r1
        refine back _ ν4 lw4 ws4 _ 700 501 hg4 psp4 (by decide +kernel) (by rw [el]; exact ⟨by simp, by simp⟩) (by rw [el]; simp) (by rw [z1]; show _ < z.toInt; omega) (by rw [z1]; exact z3) (fun x9 hx9 => by rw [d700] at hx9; exact hbest x9 hx9)
      · have e1 := List.mem_singleton.mp hd
        subst e1
        have hs4 : sw4 = [] := hg4.2.1
        subst hs4
        have el : lw4 = [(0, ν4 0), (1, ν4 1), (2, ν4 2), (3, ν4 701), (4, ν4 500), (6, ν4 501), (7, ν4 502), (8, ν4 500)] := hg4.1
        have r1 : vI (ν4 701) ≤ vI (ν4 501) + -1 := hg4.2.2.dl (a := 701) (b := 501) (c := -1) (by decide)
        obtain ⟨z, z1, z2, z3⟩ := hg4.2.2.rng (i := 501) (a := 1) (b := 16) (by decide)
        rw [d701, z1] at r1
        have r1 : vI (ν 701) ≤ z.toInt + -1 := r1
        obtain ⟨z8, t1, t2, t3⟩ := hg4.2.2.rng (i := 702) (a := 1) (b := 9) (by decide)
        rw [d702] at t1
        cases t1
        obtain ⟨z9, w1', w2, w3⟩ := hg4.2.2.rng (i := 2) (a := 0) (b := 0) (by decide)
        have hw0 : vI (μ 2) = 0 := by
          have := (psp4 (2, μ 2) (spin1 (C := C_bo0) 2 (by decide))).2
          have this : ν4 2 = μ 2 := this
          rw [← this, w1']
          show z9.toInt = 0
          omega
        refine back _ ν4 lw4 ws4 _ 701 501 hg4 psp4 (by decide +kernel) (by rw [el]; exact ⟨by simp, by simp⟩) (by rw [el]; simp) (by rw [z1]; show _ < z.toInt; omega) (by rw [z1]; exact z3) (fun x9 hx9 h09 => ?_)
        rw [d701, ← b701, x1] at hx9
        cases hx9
        have hop : OPx G ad ws2 (decide (vI (μ 2) = 0)) x := ⟨f, gg, y1, y2, Or.inl ⟨by rw [hw0]; rfl, by omega⟩⟩
        exact hop.bak hs0 hF02 (by decide) (by decide)
    rcases List.mem_cons.mp hd with e1 | hd
    · -- what = 1
      subst e1
      obtain ⟨x, f, x1, x2, x3, x4, x5, x6, x7, x8⟩ := AG.elem (i := 701) (r := 501) (k := 10) (n := 16) (a := 0) (b := 15) hg2 (by decide) (by decide) (by decide) rfl rfl rfl
      have x2 : sw2 = [.int x, .ref (ad 10)] := x2
      rw [x2]
      refine z_iald X d_bo_54 10 x3 x5 rfl ?_
      have hgB := (AG.stk (st2 := []) hg2).pushN (n := 702) (t := (0, 0, 9)) (v := .int (f x.toNatClampNeg)) (by decide) (by decide) (pfree 702 (by decide)) (vty_i (x4 _ x8).1 (x4 _ x8).2.1)
      refine aseg (C := sC_boD) (PO := BOP G ad w0 μ) (fld := fld_10) (put := put_10) (cst := cst_10) (cstl := cstl_10) (hk := hk0) (tab := D_X10_bestOunce) (rk := 1) (pids := [0, 1, 2, 100, 700, 701, 704, 702]) D_X10_bestOunce_ok X rfl rfl hok0 (Or.inr (Or.inl ⟨rfl, rfl⟩)) (Nat.le_refl 0) (Nat.le_refl 0) (fun j hj => List.mem_cons_of_mem _ (sp2 _ (spin1 (C := C_bo0) j hj))) (fun j hj => List.mem_cons_of_mem _ (sp2 _ (spin2 (C := C_bo0) j hj))) (noret w0) fld_10_ok put_10_ok cst_10_ok cstl_10_ok (sl_boD_ok l G) (Nat.le_refl 0) (Nat.le_refl 0) (fun q hq => by
        rcases List.mem_cons.mp hq with e1 | hq
        · rw [e1]; exact (by decide : (702 : Nat) ∈ [0, 1, 2, 100, 700, 701, 704, 702])
        · have hsub : ∀ z ∈ [0, 1, 2, 100, 700, 701, 704], z ∈ [0, 1, 2, 100, 700, 701, 704, 702] := by decide
          exact hsub _ (hids q hq)) sg_boD (fun d hd ν4 lw4 sw4 ws4 hg4 => ?_) _ lw2 _ ws2 hgB
      have hd : d ∈ [se_boD_9, se_boD_9_1] := hd
      have p4 := hg4.2.2.2.2.2.2.1
      have d701 : ν4 701 = ν 701 := (p4 (701, ν 701) (List.mem_cons_of_mem _ (List.mem_cons_of_mem _ List.mem_cons_self))).2
      have d700 : ν4 700 = ν 700 := (p4 (700, ν 700) (List.mem_cons_of_mem _ List.mem_cons_self)).2
      have d702 : ν4 702 = .int (f x.toNatClampNeg) := (p4 (702, .int (f x.toNatClampNeg)) List.mem_cons_self).2
      have psp4 : ∀ q ∈ spin C_bo0 μ, q.1 < 1000 ∧ ν4 q.1 = q.2 := fun q hq => p4 q (List.mem_cons_of_mem _ (sp2 q hq))
      rcases List.mem_cons.mp hd with e1 | hd
      · subst e1
        have hs4 : sw4 = [] := hg4.2.1
        subst hs4
        have el : lw4 = [(0, ν4 0), (1, ν4 1), (2, ν4 2), (3, ν4 700), (4, ν4 500), (6, ν4 501), (7, ν4 502)] := hg4.1
        have r1 : vI (ν4 701) ≤ vI (ν4 501) + -1 := hg4.2.2.dl (a := 701) (b := 501) (c := -1) (by decide)
        obtain ⟨z, z1, z2, z3⟩ := hg4.2.2.rng (i := 501) (a := 1) (b := 16) (by decide)
        rw [d701, z1] at r1
        have r1 : vI (ν 701) ≤ z.toInt + -1 := r1
        refine back _ ν4 lw4 ws4 _ 700 501 hg4 psp4 (by decide +kernel) (by rw [el]; exact ⟨by simp, by simp⟩) (by rw [el]; simp) (by rw [z1]; show _ < z.toInt; omega) (by rw [z1]; exact z3) (fun x9 hx9 => by rw [d700] at hx9; exact hbest x9 hx9)
      · have e1 := List.mem_singleton.mp hd
        subst e1
        have hs4 : sw4 = [] := hg4.2.1
        subst hs4
        have el : lw4 = [(0, ν4 0), (1, ν4 1), (2, ν4 2), (3, ν4 701), (4, ν4 500), (6, ν4 501), (7, ν4 502), (8, ν4 500)] := hg4.1
        have r1 : vI (ν4 701) ≤ vI (ν4 501) + -1 := hg4.2.2.dl (a := 701) (b := 501) (c := -1) (by decide)
        obtain ⟨z, z1, z2, z3⟩ := hg4.2.2.rng (i := 501) (a := 1) (b := 16) (by decide)
        rw [d701, z1] at r1
        have r1 : vI (ν 701) ≤ z.toInt + -1 := r1
        obtain ⟨z8, t1, t2, t3⟩ := hg4.2.2.rng (i := 702) (a := 1) (b := 9) (by decide)
        rw [d702] at t1
        cases t1
        obtain ⟨z9, w1, w2, w3⟩ := hg4.2.2.rng (i := 2) (a := 1) (b := 1) (by decide)
        have hw0 : vI (μ 2) = 1 := by
          have := (psp4 (2, μ 2) (spin1 (C := C_bo0) 2 (by decide))).2
          have this : ν4 2 = μ 2 := this
          rw [← this, w1]
          show z9.toInt = 1
          omega
        refine back _ ν4 lw4 ws4 _ 701 501 hg4 psp4 (by decide +kernel) (by rw [el]; exact ⟨by simp, by simp⟩) (by rw [el]; simp) (by rw [z1]; show _ < z.toInt; omega) (by rw [z1]; exact z3) (fun x9 hx9 h09 => ?_)
        rw [d701, ← b701, x1] at hx9
        cases hx9
        obtain ⟨g, u2, -⟩ := WT.ints (k := 9) (n := 16) hg2.2.2.2.2.2.2.2.1 rfl
        have hop : OPx G ad ws2 (decide (vI (μ 2) = 0)) x := ⟨f, g, x3, u2, Or.inr ⟨by rw [hw0]; rfl, by omega⟩⟩
        exact hop.bak hs0 hg2.2.2.2.2.2.2.2.2 (by decide) (by decide)
    · have e1 := List.mem_singleton.mp hd
      subst e1
      have hs : sw2 = [ν2 700] := hg2.2.1
      obtain ⟨z, z1, z2, z3⟩ := hg2.2.2.rng (i := 700) (a := -2) (b := 15) (by decide)
      rw [hs, z1]
      exact z_iret X rfl d_bo_122 (Nat.le_refl 0) (Nat.le_refl 0) ⟨hg2.2.2.2.2.2.2.2.1, hg2.2.2.2.2.2.2.2.2, z, rfl, z2, z3, hbest z (by rw [← b700]; exact z1)⟩
end BO
theorem ac_bestOunce (l : Launch) (G : KG) : ∀ (ad : Nat → Nat) (w0 : va_W) (μ : Nat → Value), WT G ad TX w0 → PRE ad C_bo0 μ w0 → Ct l G yX10_bestOunce cX10_bestOunce 10 (some .int) (rmOf C_bo0) [μ 0, μ 1, μ 2] w0 (BOP G ad w0 μ) := by
  refine hand_ofP (C := C_bo0) (by decide) (by decide) (by decide) (by decide) (by decide) ?_
  intro p e s m args below meth c A X ad w0 μ lw hW hPre hg
  refine aseg (C := sC_boS) (PO := BOP G ad w0 μ) (fld := fld_10) (put := put_10) (cst := cst_10) (cstl := cstl_10) (hk := hk0) (tab := D_X10_bestOunce) (rk := 1) (pids := [0, 1, 2, 100]) D_X10_bestOunce_ok X rfl rfl hok0 (Or.inr (Or.inl ⟨rfl, rfl⟩)) (Nat.le_refl 0) (Nat.le_refl 0) (spin1 (C := C_bo0)) (spin2 (C := C_bo0)) (fun r w1 h => by
    obtain ⟨A1, hA1, -⟩ := h
    cases hA1) fld_10_ok put_10_ok cst_10_ok cstl_10_ok (sl_boS_ok l G) (Nat.le_refl 0) (Nat.le_refl 0) spin3 sg_boS (fun d hd ν2 lw2 sw2 ws2 hg2 => ?_) μ lw [] w0 hg
  rw [List.mem_singleton.mp hd] at hg2 ⊢
  have hs : sw2 = [] := hg2.2.1
  subst hs
  obtain ⟨ν', lw', q1, q2⟩ := bo_head (μ := μ) hg2 hg2.2.2.2.2.2.2.1 (by decide +kernel)
  refine Z.mono q2 (bo_loop hW X _ ν' lw' ws2 q1 (Nat.lt_succ_self _) (fun x hx h0 => ?_))
  have el : lw2 = [(0, ν2 0), (1, ν2 1), (2, ν2 2), (3, ν2 500), (4, ν2 501), (6, ν2 502)] := hg2.1
  have e1 : lw' = boH.2.1.1.map (fun q => (q.1, ν' q.2.1)) := q1.1
  have m3 : (3, ν' 700) ∈ lw' := by rw [e1]; exact List.mem_map.mpr ⟨(3, 700, false), by decide, rfl⟩
  have m3 := q2 _ m3
  rw [el] at m3
  have m3 : ν' 700 = ν2 500 := by simpa using m3
  obtain ⟨z, z1, z2, z3⟩ := hg2.2.2.rng (i := 500) (a := -2) (b := -2) (by decide)
  rw [m3, z1] at hx
  cases hx
  omega
end
section
theorem FRM.nil {mk : List (Nat × Nat)} {w0 ws : va_W} (h : FRM [] w0 ws) : FRM mk w0 ws := ⟨h.1, fun k j _ => h.2 k j rfl⟩
section SO
variable {p : Program} {l : Launch} {e : Env} {s : State} {m : MethodId} {args : Array Value} {below : List Frame} {meth : Method} {c : Code} {G : KG} {A : Nat → Prop} {ad : Nat → Nat} {w0 : va_W} {μ : Nat → Value}
abbrev SOpo (G : KG) (ad : Nat → Nat) (w0 : va_W) (μ : Nat → Value) : Option Value → va_W → Prop := fun r w1 => POST G ad TX C_settleOunce μ w0 r w1
theorem so_frm {ws w1 : va_W} (h1 : FRM [] w0 ws) (h2 : FRM [] ws w1) : FRM [] w0 w1 := ⟨h2.1.trans h1.1, fun k j _ => (h2.2 k j rfl).trans (h1.2 k j rfl)⟩
/-- the call of bestOunce -/
theorem so_call {pc : Nat} {ws : va_W} {lw : List (Nat × Value)} {pv wh : Int32} {Q : State → Prop} (X : ZC p s m args meth c cX10_settleOunce 8 RX10 G A (some .boolean) "settleOunce") (hd : decode cX10_settleOunce pc = .ok (.invokevirtual 392, 3)) (hW : WT G ad TX ws) (h1 : 0 ≤ pv.toInt ∧ pv.toInt ≤ 1) (h2 : 0 ≤ wh.toInt ∧ wh.toInt ≤ 1)
    (kk : ∀ (w1 : va_W) (x : Int32), WT G ad TX w1 → FRM [] ws w1 → -2 ≤ x.toInt → x.toInt ≤ 15 → (0 ≤ x.toInt → OPx G ad w1 (decide (wh.toInt = 0)) x) → Z p l e (rmOf C_settleOunce) s m args below meth c 8 G A Q (pc + 3) lw [.int x] w1 0 0) : Z p l e (rmOf C_settleOunce) s m args below meth c 8 G A Q pc lw [.int wh, .int pv, .ref (ad 0)] ws 0 0 := by
  obtain ⟨hv, f1, f2, f3⟩ := fget_int (T := TX) (k := 5) (j := 0) hW rfl rfl
  obtain ⟨μ', hμ⟩ : ∃ μ' : Nat → Value, μ' = fun i => if i = 0 then .ref (ad 0) else if i = 1 then .int pv else if i = 2 then .int wh else .int hv := ⟨_, rfl⟩
  have m0 : μ' 0 = .ref (ad 0) := by rw [hμ]; rfl
  have m1 : μ' 1 = .int pv := by rw [hμ]; rfl
  have m2 : μ' 2 = .int wh := by rw [hμ]; rfl
  have m100 : μ' 100 = .int hv := by rw [hμ]; rfl
  have hpre : PRE ad C_bo0 μ' ws := by
    refine ⟨fun j t hj => ?_, fun j q hj => ?_, fun q hq => ?_⟩
    · match j, hj with
      | 0, hj => cases hj; rw [m0]; exact Or.inr (Or.inr (Or.inl ⟨rfl, rfl⟩))
      | 1, hj => cases hj; rw [m1]; exact vty_i h1.1 h1.2
      | 2, hj => cases hj; rw [m2]; exact vty_i h2.1 h2.2
      | n + 3, hj => cases hj
    · match j, hj with
      | 0, hj =>
        cases hj
        exact ⟨by rw [m100]; exact vty_i f2 f3, by show fget ws 5 0 = some (μ' 100); rw [m100]; exact f1⟩
      | n + 1, hj => cases hj
    · cases hq
  have hct := ac_bestOunce l G ad ws μ' hW hpre
  rw [m0, m1, m2] at hct
  refine hcallV (T := TX) (k := 0) (rest := []) (avs := [.int pv, .int wh]) X k_10_392 hct hd hW rfl rfl rfl rfl ⟨by decide, by decide⟩ ⟨Nat.le_refl 0, Nat.le_refl 0⟩ (by decide) rfl (fun r w1 hp => ?_)
  obtain ⟨q1, q2, x, rfl, x1, x2, x3⟩ := hp
  refine kk w1 x q1 q2 x1 x2 (fun h0 => ?_)
  have h9 := x3 h0
  rw [m2] at h9
  exact h9.frm q1 q2 rfl rfl
end SO
set_option maxHeartbeats 2000000 in
theorem ac_settleOunce (l : Launch) (G : KG) : ACt l G TX yX10_settleOunce cX10_settleOunce 8 (some .boolean) C_settleOunce := by
  refine hand_of (by decide) (by decide) (by decide) (by decide) (by decide) ?_
  intro p e s m args below meth c A X ad w0 μ lw hW hPre hg
  have hPO : ∀ (wa : va_W), FRM [] w0 wa → ∀ r w1, POST G ad TX sC_so0 μ wa r w1 → SOpo G ad w0 μ r w1 := fun wa hwa r w1 h => POST.mono (C := sC_so0) (C' := C_settleOunce) h rfl hwa.nil (by decide)
  have sp : ∀ q ∈ spin C_settleOunce μ, q.1 ∈ [0, 1] := spin3
  have hg0 : AG G ad TX sC_so0.2.2.2.2.1 w0 (spin C_settleOunce μ) ss_so0 μ lw [] w0 := AG.rew (st2 := []) hg
  refine aseg (C := sC_so0) (PO := SOpo G ad w0 μ) (fld := fld_10) (put := put_10) (cst := cst_10) (cstl := cstl_10) (hk := hk0) (tab := D_X10_settleOunce) (rk := 3) (pids := [0, 1]) D_X10_settleOunce_ok X rfl rfl hok0 (Or.inr (Or.inr (Or.inr ⟨rfl, rfl⟩))) (Nat.le_refl 0) (Nat.le_refl 0) (spin1 (C := C_settleOunce)) (spin2 (C := C_settleOunce)) (hPO w0 ⟨rfl, fun _ _ _ => rfl⟩) fld_10_ok put_10_ok cst_10_ok cstl_10_ok (sl_so0_ok l G) (Nat.le_refl 0) (Nat.le_refl 0) spin3 sg_so0 (fun d hd ν2 lw2 sw2 ws2 hg2 => ?_) μ lw [] w0 hg0
  rw [List.mem_singleton.mp hd] at hg2 ⊢
  have hs : sw2 = [ν2 500, ν2 1, ν2 0] := hg2.2.1
  have h0 : ν2 0 = .ref (ad 0) := hg2.2.2.ref (i := 0) rfl
  obtain ⟨pv, e1, p1, p2⟩ := hg2.2.2.rng (i := 1) (a := 0) (b := 1) (by decide)
  obtain ⟨wh, e5, q1, q2⟩ := hg2.2.2.rng (i := 500) (a := 0) (b := 0) (by decide)
  have ew : wh = 0 := Int32.toInt_inj.mp (by show wh.toInt = 0; omega)
  subst ew
  rw [hs, h0, e1, e5]
  have hF2 := hg2.2.2.2.2.2.2.2.2
  refine so_call X d_so_3 hg2.2.2.2.2.2.2.2.1 ⟨p1, p2⟩ ⟨by decide, by decide⟩ (fun w1 x hW1 hF1 x1 x2 x3 => ?_)
  have hgw := (AG.worldR (mk2 := sC_so0.2.2.2.2.1) (st2 := []) hg2 hW1 hF1).pushN (n := 710) (t := (0, -2, 15)) (v := .int x) (by decide) (by decide) (fun q hq e9 => by
    have h1 := sp q hq
    rw [e9] at h1
    revert h1
    decide) (vty_i x1 x2)
  have hF01 := so_frm hF2 hF1
  refine aseg (C := sC_so1) (PO := SOpo G ad w0 μ) (fld := fld_10) (put := put_10) (cst := cst_10) (cstl := cstl_10) (hk := hk0) (tab := D_X10_settleOunce) (rk := 3) (pids := [0, 1, 710]) D_X10_settleOunce_ok X rfl rfl hok0 (Or.inr (Or.inr (Or.inr ⟨rfl, rfl⟩))) (Nat.le_refl 0) (Nat.le_refl 0) (fun j hj => List.mem_cons_of_mem _ (spin1 (C := C_settleOunce) j hj)) (fun j hj => List.mem_cons_of_mem _ (spin2 (C := C_settleOunce) j hj)) (hPO w1 hF01) fld_10_ok put_10_ok cst_10_ok cstl_10_ok (sl_so1_ok l G) (Nat.le_refl 0) (Nat.le_refl 0) (fun q hq => by
    rcases List.mem_cons.mp hq with e1 | hq
    · rw [e1]; exact (by decide : (710 : Nat) ∈ [0, 1, 710])
    · have hsub : ∀ z ∈ [0, 1], z ∈ [0, 1, 710] := by decide
      exact hsub _ (sp q hq)) sg_so1 (fun d hd ν3 lw3 sw3 ws3 hg3 => ?_) _ lw2 _ w1 hgw
  rw [List.mem_singleton.mp hd] at hg3 ⊢
  have hs3 : sw3 = [ν3 500, ν3 1, ν3 0] := hg3.2.1
  have h03 : ν3 0 = .ref (ad 0) := hg3.2.2.ref (i := 0) rfl
  obtain ⟨pv3, e13, p13, p23⟩ := hg3.2.2.rng (i := 1) (a := 0) (b := 1) (by decide)
  obtain ⟨wh3, e53, q13, q23⟩ := hg3.2.2.rng (i := 500) (a := 1) (b := 1) (by decide)
  have ew3 : wh3 = 1 := Int32.toInt_inj.mp (by show wh3.toInt = 1; omega)
  subst ew3
  rw [hs3, h03, e13, e53]
  have hF3 := hg3.2.2.2.2.2.2.2.2
  refine so_call X d_so_10 hg3.2.2.2.2.2.2.2.1 ⟨p13, p23⟩ ⟨by decide, by decide⟩ (fun w4 y hW4 hF4 y1 y2 y3 => ?_)
  have hgw4 := (AG.worldR (mk2 := sC_so0.2.2.2.2.1) (st2 := []) hg3 hW4 hF4).pushN (n := 711) (t := (0, -2, 15)) (v := .int y) (by decide) (by decide) (fun q hq e9 => by
    rcases List.mem_cons.mp hq with e1 | hq
    · rw [e1] at e9; exact absurd (show (710 : Nat) = 711 from e9) (by decide)
    · have h1 := sp q hq
      rw [e9] at h1
      revert h1
      decide) (vty_i y1 y2)
  have hF14 := so_frm hF3 hF4
  have hF04 := so_frm hF01 hF14
  refine aseg (C := sC_so2) (PO := SOpo G ad w0 μ) (fld := fld_10) (put := put_10) (cst := cst_10) (cstl := cstl_10) (hk := hk0) (tab := D_X10_settleOunce) (rk := 3) (pids := [0, 1, 710, 711]) D_X10_settleOunce_ok X rfl rfl hok0 (Or.inr (Or.inr (Or.inr ⟨rfl, rfl⟩))) (Nat.le_refl 0) (Nat.le_refl 0) (fun j hj => List.mem_cons_of_mem _ (List.mem_cons_of_mem _ (spin1 (C := C_settleOunce) j hj))) (fun j hj => List.mem_cons_of_mem _ (List.mem_cons_of_mem _ (spin2 (C := C_settleOunce) j hj))) (hPO w4 hF04) fld_10_ok put_10_ok cst_10_ok cstl_10_ok (sl_so2_ok l G) (Nat.le_refl 0) (Nat.le_refl 0) (fun q hq => by
    rcases List.mem_cons.mp hq with e1 | hq
    · rw [e1]; exact (by decide : (711 : Nat) ∈ [0, 1, 710, 711])
    rcases List.mem_cons.mp hq with e1 | hq
    · rw [e1]; exact (by decide : (710 : Nat) ∈ [0, 1, 710, 711])
    · have hsub : ∀ z ∈ [0, 1], z ∈ [0, 1, 710, 711] := by decide
      exact hsub _ (sp q hq)) sg_so2 (fun d hd ν5 lw5 sw5 ws5 hg5 => ?_) _ lw3 _ w4 hgw4
  have hd : d ∈ [se_so2_79, se_so2_95] := hd
  have p5 := hg5.2.2.2.2.2.2.1
  have c711 : ν5 711 = .int y := (p5 (711, .int y) List.mem_cons_self).2
  have c710 : ν5 710 = .int x := (p5 (710, .int x) (List.mem_cons_of_mem _ List.mem_cons_self)).2
  have hF5 := hg5.2.2.2.2.2.2.2.2
  have hW5 := hg5.2.2.2.2.2.2.2.1
  have hF05 : FRM C_settleOunce.2.2.2.2.1 w0 w4 := hF04.nil
  have hids5 : ∀ q ∈ (711, Value.int y) :: (710, Value.int x) :: spin C_settleOunce μ, q.1 ∈ [0, 1, 710, 711, 500, 501] := fun q hq => by
    rcases List.mem_cons.mp hq with e1 | hq
    · rw [e1]; exact (by decide : (711 : Nat) ∈ [0, 1, 710, 711, 500, 501])
    rcases List.mem_cons.mp hq with e1 | hq
    · rw [e1]; exact (by decide : (710 : Nat) ∈ [0, 1, 710, 711, 500, 501])
    · have hsub : ∀ z ∈ [0, 1], z ∈ [0, 1, 710, 711, 500, 501] := by decide
      exact hsub _ (sp q hq)
  have hgb := AG.rebase (mk := C_settleOunce.2.2.2.2.1) (w0 := w0) hg5 hF05 (by decide)
  rcases List.mem_cons.mp hd with e1 | hd
  · subst e1
    obtain ⟨x', f, u1, u2, u3, u4, u5, u6, u7, u8⟩ := AG.elem (i := 710) (r := 502) (k := 10) (n := 16) (a := 0) (b := 15) hg5 (by decide) (by decide) (by decide) rfl rfl rfl
    rw [c710] at u1
    cases u1
    have h5 : ν5 502 = .ref (ad 10) := hg5.2.2.ref (i := 502) rfl
    have u2 : sw5 = [.int x, .ref (ad 10), .int x, .ref (ad 10)] := by rw [u2]; show [_, _, ν5 710, ν5 502] = _; rw [c710, h5]
    have hop := ((x3 u6).frm hg3.2.2.2.2.2.2.2.1 hF3 rfl rfl).frm hW4 hF4 rfl rfl
    obtain ⟨f', g', a1, a2, a3⟩ := hop.frm hW5 hF5 rfl rfl
    rw [u3] at a1
    have ef : f = f' := Sum.inl.inj (congrArg (fun z : ClassId × vp_A => z.2.2) (Sum.inl.inj (congrArg Prod.snd (Option.some.inj a1))))
    subst ef
    obtain ⟨g0, b1, b2⟩ := WT.ints (T := TX) (k := 9) (n := 16) hW5 rfl
    rw [a2] at b1
    have eg : g' = g0 := Sum.inl.inj (congrArg (fun z : ClassId × vp_A => z.2.2) (Sum.inl.inj (congrArg Prod.snd (Option.some.inj b1))))
    subst eg
    have hg9 : (g' x.toNatClampNeg).toInt ≤ 9 := (b2 _ u8).2.1
    have hf0 : 0 ≤ (f x.toNatClampNeg).toInt := (u4 _ u8).1
    have hlt : (f x.toNatClampNeg).toInt < (g' x.toNatClampNeg).toInt := by
      rcases a3 with ⟨-, a3⟩ | ⟨a3, -⟩
      · exact a3
      · cases a3
    have hsum : (f x.toNatClampNeg + 1).toInt = (f x.toNatClampNeg).toInt + 1 := tI_add rfl rfl (by omega)
    rw [u2]
    refine z_iald X d_so_79 10 u3 u5 rfl (z_iconst X d_so_80 (v := 1) rfl (z_iadd X d_so_81 (z_iast X d_so_82 10 u3 u5 rfl ?_)))
    have g3 := hgb.2.2.setA (k := 10) (te := .inr (0, 16, (0, 0, 9))) (y := (cyI G, 16, .inl (upd f x.toNatClampNeg (f x.toNatClampNeg + 1)))) rfl u3 (Or.inl ⟨rfl, _, rfl, aint_upd u4 (by show (0 : Int) ≤ _; omega) (by show _ ≤ (9 : Int); omega) (fun e => by cases e)⟩) (fun n' t' e' g2 => by
      cases e'
      exact absurd g2 (by decide)) (by decide)
    have hgU : AG G ad TX sC_so3.2.2.2.2.1 w0 ((711, .int y) :: (710, .int x) :: spin C_settleOunce μ) ss_so3 ν5 lw5 [] (ws5.set 10 (ad 10, aI G 16 (upd f x.toNatClampNeg (f x.toNatClampNeg + 1)))) := ⟨hg5.1, rfl, g3⟩
    exact aseg (C := sC_so3) (PO := SOpo G ad w0 μ) (fld := fld_10) (put := put_10) (cst := cst_10) (cstl := cstl_10) (hk := hk0) (tab := D_X10_settleOunce) (rk := 3) (pids := [0, 1, 710, 711, 500, 501]) D_X10_settleOunce_ok X rfl rfl hok0 (Or.inr (Or.inr (Or.inr ⟨rfl, rfl⟩))) (Nat.le_refl 0) (Nat.le_refl 0) (fun j hj => List.mem_cons_of_mem _ (List.mem_cons_of_mem _ (spin1 (C := C_settleOunce) j hj))) (fun j hj => List.mem_cons_of_mem _ (List.mem_cons_of_mem _ (spin2 (C := C_settleOunce) j hj))) (fun r w1 h => h) fld_10_ok put_10_ok cst_10_ok cstl_10_ok (sl_so3_ok l G) (Nat.le_refl 0) (Nat.le_refl 0) hids5 sg_so3 (fun d hd => absurd hd List.not_mem_nil) ν5 lw5 [] _ hgU
  · have e1 := List.mem_singleton.mp hd
    subst e1
    obtain ⟨x', f, u1, u2, u3, u4, u5, u6, u7, u8⟩ := AG.elem (i := 711) (r := 502) (k := 10) (n := 16) (a := 0) (b := 15) hg5 (by decide) (by decide) (by decide) rfl rfl rfl
    rw [c711] at u1
    cases u1
    have h5 : ν5 502 = .ref (ad 10) := hg5.2.2.ref (i := 502) rfl
    have u2 : sw5 = [.int y, .ref (ad 10), .int y, .ref (ad 10)] := by rw [u2]; show [_, _, ν5 711, ν5 502] = _; rw [c711, h5]
    obtain ⟨f', g', a1, a2, a3⟩ := (y3 u6).frm hW5 hF5 rfl rfl
    rw [u3] at a1
    have ef : f = f' := Sum.inl.inj (congrArg (fun z : ClassId × vp_A => z.2.2) (Sum.inl.inj (congrArg Prod.snd (Option.some.inj a1))))
    subst ef
    have hf9 : (f y.toNatClampNeg).toInt ≤ 9 := (u4 _ u8).2.1
    have hlt : 0 < (f y.toNatClampNeg).toInt := by
      rcases a3 with ⟨a3, -⟩ | ⟨-, a3⟩
      · cases a3
      · exact a3
    have hsum : (f y.toNatClampNeg - 1).toInt = (f y.toNatClampNeg).toInt - 1 := tI_sub rfl rfl (by omega)
    rw [u2]
    refine z_iald X d_so_95 10 u3 u5 rfl (z_iconst X d_so_96 (v := 1) rfl (z_isub X d_so_97 (z_iast X d_so_98 10 u3 u5 rfl ?_)))
    have g3 := hgb.2.2.setA (k := 10) (te := .inr (0, 16, (0, 0, 9))) (y := (cyI G, 16, .inl (upd f y.toNatClampNeg (f y.toNatClampNeg - 1)))) rfl u3 (Or.inl ⟨rfl, _, rfl, aint_upd u4 (by show (0 : Int) ≤ _; omega) (by show _ ≤ (9 : Int); omega) (fun e => by cases e)⟩) (fun n' t' e' g2 => by
      cases e'
      exact absurd g2 (by decide)) (by decide)
    have hgU : AG G ad TX sC_so4.2.2.2.2.1 w0 ((711, .int y) :: (710, .int x) :: spin C_settleOunce μ) ss_so4 ν5 lw5 [] (ws5.set 10 (ad 10, aI G 16 (upd f y.toNatClampNeg (f y.toNatClampNeg - 1)))) := ⟨hg5.1, rfl, g3⟩
    exact aseg (C := sC_so4) (PO := SOpo G ad w0 μ) (fld := fld_10) (put := put_10) (cst := cst_10) (cstl := cstl_10) (hk := hk0) (tab := D_X10_settleOunce) (rk := 3) (pids := [0, 1, 710, 711, 500, 501]) D_X10_settleOunce_ok X rfl rfl hok0 (Or.inr (Or.inr (Or.inr ⟨rfl, rfl⟩))) (Nat.le_refl 0) (Nat.le_refl 0) (fun j hj => List.mem_cons_of_mem _ (List.mem_cons_of_mem _ (spin1 (C := C_settleOunce) j hj))) (fun j hj => List.mem_cons_of_mem _ (List.mem_cons_of_mem _ (spin2 (C := C_settleOunce) j hj))) (fun r w1 h => h) fld_10_ok put_10_ok cst_10_ok cstl_10_ok (sl_so4_ok l G) (Nat.le_refl 0) (Nat.le_refl 0) hids5 sg_so4 (fun d hd => absurd hd List.not_mem_nil) ν5 lw5 [] _ hgU
end
