section HL4
variable {l : Launch} {G : KG} {T : List TE} {cc : ByteArray} {nL : Nat} {ret : Option FieldType} {C : CE} {y : MethodName}
/-- from its start, to a post of one's own -/
theorem hand_ofP {PO : (Nat → Nat) → va_W → (Nat → Value) → Option Value → va_W → Prop} (hy : plainName y.cls = true) (c3 : aslots C.1 ≤ nL) (c4 : ∀ t ∈ C.1, t.1 ≤ 2) (c1 : C.1.length ≤ 50) (c2 : C.2.1.length ≤ 100)
    (body : ∀ (p : Program) (e : Env) (s : State) (m : MethodId) (args : Array Value) (below : List Frame) (meth : Method) (c : Code) (A : Nat → Prop), ZC p s m args meth c cc nL y.cls G A ret y.name → ∀ (ad : Nat → Nat) (w0 : va_W) (μ : Nat → Value) (lw : List (Nat × Value)), WT G ad T w0 → PRE ad C μ w0 → AG G ad T C.2.2.2.2.1 w0 (spin C μ) (ast0 C) μ lw [] w0 → Z p l e (rmOf C) s m args below meth c nL G A (MQ below (QQ G A (PO ad w0 μ)) args s 0 0 A) 0 lw [] w0 0 0) : ∀ (ad : Nat → Nat) (w0 : va_W) (μ : Nat → Value), WT G ad T w0 → PRE ad C μ w0 → Ct l G y cc nL ret (rmOf C) ((List.range C.1.length).map μ) w0 (PO ad w0 μ) := by
  intro ad w0 μ hW hPre
  obtain ⟨r1, r2, r3⟩ := lv0_ok (μ := μ) (ad := ad) C.1 0 0 c4 (fun k t hk => by rw [Nat.zero_add]; exact hPre.1 k t hk)
  rw [List.range_eq_range']
  refine ct_of _ hy (by rw [r3]; exact c3) rfl ?_
  intro p e s m args below meth c A X
  refine body p e s m args below meth c A X ad w0 μ _ hW hPre ⟨r1, rfl, r2, fun q hq => ?_, fun q hq => ?_, hPre.2.2, ?_, hW, rfl, fun k j _ => rfl⟩
  · rcases List.mem_append.mp hq with hq | hq
    · obtain ⟨z, hz, rfl⟩ := List.mem_map.mp hq
      exact hPre.1 z.2 z.1 (zipIdx_mem hz)
    · obtain ⟨z, hz, rfl⟩ := List.mem_map.mp hq
      exact (hPre.2.1 z.2 z.1 (zipIdx_mem hz)).1
  · obtain ⟨z, hz, rfl⟩ := List.mem_map.mp hq
    exact (hPre.2.1 z.2 z.1 (zipIdx_mem hz)).2
  · intro q hq
    rcases List.mem_append.mp hq with hq | hq
    · obtain ⟨j, hj, rfl⟩ := List.mem_map.mp hq
      have := List.mem_range.mp hj
      exact ⟨by show j < 1000; omega, rfl⟩
    · obtain ⟨j, hj, rfl⟩ := List.mem_map.mp hq
      have := List.mem_range.mp hj
      exact ⟨by show 100 + j < 1000; omega, rfl⟩
variable {p : Program} {e : Env} {R : Room} {s : State} {m : MethodId} {args : Array Value} {below : List Frame} {meth : Method} {c : Code} {A : Nat → Prop} {Q : State → Prop} {own : String} {nm : String} {kc ks : Nat}
variable {ad : Nat → Nat} {mk : List (Nat × Nat)} {w0 : va_W} {pin : List (Nat × Value)}
variable {lv : ALv} {st : List Nat} {ev : AEv} {ca : ACa} {rl : ARl} {nx pc : Nat} {ν : Nat → Value} {ws : va_W} {lw : List (Nat × Value)} {sw : List Value}
/-- a call by hand -/
theorem hcallV (X : ZC p s m args meth c cc nL own G A ret nm) {idx mx n : Nat} {Cn : String} {y : MethodName} {cy : ByteArray} {rt : Option FieldType} {rm : Room} {avs rest : List Value} {post : Option Value → va_W → Prop} {k ci : Nat} {ts : List VT} {vc : vw_C} (hL : LkV own idx Cn y cy mx rt n) (hM : Ct l G y cy mx rt rm (.ref (ad k) :: avs) ws post) (hd : decode cc pc = .ok (.invokevirtual idx, 3)) (hW : WT G ad T ws) (hT : T[k]? = some (.inl (ci, ts))) (hv : vwCl[ci]? = some vc) (hn : vc.1 = Cn) (hlen : avs.length = n) (hR : rm.frames + 1 ≤ R.frames ∧ 8 + (mx + 11) + rm.locals ≤ R.locals) (hf : kc + rm.cells ≤ R.cells ∧ ks + rm.slots ≤ R.slots) (hcat : (rest.map fun v => v.category).sum ≤ 8) {stk : List Value} (hst : stk = avs.reverse ++ .ref (ad k) :: rest)
    (kk : ∀ (r : Option Value) (w1 : va_W), post r w1 → Z p l e R s m args below meth c nL G A Q (pc + 3) lw (r.toList ++ rest) w1 (kc + rm.cells) (ks + rm.slots)) : Z p l e R s m args below meth c nL G A Q pc lw stk ws kc ks := by
  obtain ⟨en, w1, fs, rfl, w2, w3⟩ := hW.2.1 k _ hT
  exact z_callV (wr := []) X hL hM hd k w1 hv hn hR hf hlen hst hcat (List.range ws.length) [] (range_pick ws) (va_nd_range _) rfl rfl rfl (fun r w1 hp => kk r w1 hp)
/-- another world, alike but for what is masked -/
theorem AG.world {msk : List (Nat × Nat)} {w1 : va_W} {st2 : List Nat} (h : AG G ad T mk w0 pin (lv, st, ev, ca, rl, nx) ν lw sw ws) (hW : WT G ad T w1) (hF : FRM msk ws w1) (hc : cov mk msk = true) : AG G ad T mk w0 pin (lv, st2, ev, ca.filter (fun q => !(mkq msk q.1 q.2.1)), rl, nx) ν lw (st2.map ν) w1 := by
  obtain ⟨h1, h2, h3⟩ := h
  refine ⟨h1, rfl, h3.1, h3.2.1, fun q hq => ?_, h3.2.2.2.1, h3.2.2.2.2.1, hW, frm_trans h3.2.2.2.2.2.2 hF hc⟩
  obtain ⟨m1, m2⟩ := List.mem_filter.mp hq
  refine fget_frame hF ?_ (h3.2.2.1 q m1)
  cases e9 : mkq msk q.1 q.2.1 with
  | false => rfl
  | true => rw [e9] at m2; cases m2
end HL4
/-- ounceOf's answer: a hole that can -/
def OPr (G : KG) (ad : Nat → Nat) (ws : va_W) (w : Bool) (r : Int32) : Prop := ∃ f g : Nat → Int32, ws[6]? = some (ad 6, aI G 16 f) ∧ ws[5]? = some (ad 5, aI G 16 g) ∧ ((w = true ∧ (f r.toNatClampNeg).toInt < (g r.toNatClampNeg).toInt) ∨ (w = false ∧ 0 < (f r.toNatClampNeg).toInt))
theorem OPr.frm {G : KG} {ad : Nat → Nat} {mk : List (Nat × Nat)} {w0 ws : va_W} {w : Bool} {r : Int32} (h : OPr G ad w0 w r) (hW : WT G ad TM ws) (hF : FRM mk w0 ws) (h6 : mkq mk 6 0 = false) (h5 : mkq mk 5 0 = false) : OPr G ad ws w r := by
  obtain ⟨f, g, a1, a2, a3⟩ := h
  obtain ⟨b1, c1⟩ := hF.arr h6 a1
  obtain ⟨b2, c2⟩ := hF.arr h5 a2
  rw [WT.adr (T := TM) (k := 6) hW rfl c1] at c1
  rw [WT.adr (T := TM) (k := 5) hW rfl c2] at c2
  exact ⟨f, g, c1, c2, a3⟩
theorem OPr.bak {G : KG} {ad : Nat → Nat} {mk : List (Nat × Nat)} {w0 ws : va_W} {w : Bool} {r : Int32} (h : OPr G ad ws w r) (hW : WT G ad TM w0) (hF : FRM mk w0 ws) (h6 : mkq mk 6 0 = false) (h5 : mkq mk 5 0 = false) : OPr G ad w0 w r := by
  obtain ⟨f, g, a1, a2, a3⟩ := h
  obtain ⟨f0, u1, -⟩ := WT.ints (k := 6) (n := 16) hW rfl
  obtain ⟨g0, u2, -⟩ := WT.ints (k := 5) (n := 16) hW rfl
  obtain ⟨b1, c1⟩ := hF.arr h6 u1
  obtain ⟨b2, c2⟩ := hF.arr h5 u2
  rw [a1] at c1
  rw [a2] at c2
  have e1 : f = f0 := Sum.inl.inj (congrArg (fun z : ClassId × vp_A => z.2.2) (Sum.inl.inj (congrArg Prod.snd (Option.some.inj c1))))
  have e2 : g = g0 := Sum.inl.inj (congrArg (fun z : ClassId × vp_A => z.2.2) (Sum.inl.inj (congrArg Prod.snd (Option.some.inj c2))))
  subst e1
  subst e2
  exact ⟨f, g, u1, u2, a3⟩
def OCP (G : KG) (ad : Nat → Nat) (w0 : va_W) (μ : Nat → Value) (r : Option Value) (w1 : va_W) : Prop := WT G ad TM w1 ∧ FRM C_oc0.2.2.2.2.1 w0 w1 ∧ ∃ x : Int32, r = some (.int x) ∧ -1 ≤ x.toInt ∧ x.toInt ≤ 15 ∧ (0 ≤ x.toInt → OPr G ad w0 (decide (vI (μ 2) = 0)) x)
section OC
variable {p : Program} {l : Launch} {e : Env} {s : State} {m : MethodId} {args : Array Value} {below : List Frame} {meth : Method} {c : Code} {G : KG} {A : Nat → Prop} {ad : Nat → Nat} {w0 : va_W} {μ : Nat → Value}
theorem oc_head {σ : AS} {ν : Nat → Value} {lw : List (Nat × Value)} {ws : va_W} {pin : List (Nat × Value)} (hg : AG G ad TM C_oc0.2.2.2.2.1 w0 pin σ ν lw [] ws) (hp : ∀ q ∈ spin C_ounceOf μ, q.1 < 1000 ∧ ν q.1 = q.2) (ha : aarr (apids C_ounceOf) none ocH σ = true) : ∃ (ν' : Nat → Value) (lw' : List (Nat × Value)), AG G ad TM C_oc0.2.2.2.2.1 w0 (spin C_ounceOf μ) ocH.2.1 ν' lw' [] ws ∧ ∀ q ∈ lw', q ∈ lw := AG.arrive (d := ocH) (hg.pins hp) spin3 ha (by decide)
theorem oc_loop (hs0 : WT G ad TM w0) (X : ZC p s m args meth c cX11_ounceOf 6 RX11 G A (some .int) "ounceOf") : ∀ (n : Nat) (ν : Nat → Value) (lw : List (Nat × Value)) (ws : va_W), AG G ad TM C_oc0.2.2.2.2.1 w0 (spin C_ounceOf μ) ocH.2.1 ν lw [] ws → (16 - vI (ν 701)).toNat < n → (∀ x, ν 700 = .int x → 0 ≤ x.toInt → OPr G ad w0 (decide (vI (μ 2) = 0)) x) → Z p l e (rmOf C_ounceOf) s m args below meth c 6 G A (MQ below (QQ G A (OCP G ad w0 μ)) args s 0 0 A) 5 lw [] ws 0 0
  | 0, _, _, _, _, h9, _ => absurd h9 (Nat.not_lt_zero _)
  | n + 1, ν, lw, ws, hg, h9, hbest => by
    have h3 := hg.2.2
    have hgA := hg.pins (pin2 := (700, ν 700) :: (701, ν 701) :: spin C_ounceOf μ) (fun q hq => by
      rcases List.mem_cons.mp hq with e1 | hq
      · rw [e1]; exact ⟨(by decide : (700 : Nat) < 1000), rfl⟩
      rcases List.mem_cons.mp hq with e1 | hq
      · rw [e1]; exact ⟨(by decide : (701 : Nat) < 1000), rfl⟩
      · exact h3.2.2.2.2.1 q hq)
    have hids : ∀ q ∈ (700, ν 700) :: (701, ν 701) :: spin C_ounceOf μ, q.1 ∈ [0, 1, 2, 100, 700, 701] := fun q hq => by
      rcases List.mem_cons.mp hq with e1 | hq
      · rw [e1]; exact (by decide : (700 : Nat) ∈ [0, 1, 2, 100, 700, 701])
      rcases List.mem_cons.mp hq with e1 | hq
      · rw [e1]; exact (by decide : (701 : Nat) ∈ [0, 1, 2, 100, 700, 701])
      · have := spin3 q hq
        revert this
        show q.1 ∈ [0, 1, 2, 100] → _
        intro h
        have hsub : ∀ z ∈ [0, 1, 2, 100], z ∈ [0, 1, 2, 100, 700, 701] := by decide
        exact hsub _ h
    have noret : ∀ (w : va_W) r w1, POST G ad TM C_oc0 μ w r w1 → OCP G ad w0 μ r w1 := fun w r w1 h => by
      obtain ⟨A1, hA1, -⟩ := h
      cases hA1
    have sp2 : ∀ q ∈ spin C_ounceOf μ, q ∈ (700, ν 700) :: (701, ν 701) :: spin C_ounceOf μ := fun q hq => List.mem_cons_of_mem _ (List.mem_cons_of_mem _ hq)
    -- behind an iteration
    have back : ∀ (σ : AS) (ν2 : Nat → Value) (lw2 : List (Nat × Value)) (ws2 : va_W) (pin2 : List (Nat × Value)) (b h : Nat), AG G ad TM C_oc0.2.2.2.2.1 w0 pin2 σ ν2 lw2 [] ws2 → (∀ q ∈ spin C_ounceOf μ, q.1 < 1000 ∧ ν2 q.1 = q.2) → aarr (apids C_ounceOf) none ocH σ = true → ((3, ν2 b) ∈ lw2 ∧ ∀ v, (3, v) ∈ lw2 → v = ν2 b) → (∀ v, (4, v) ∈ lw2 → v = ν2 h) → vI (ν 701) < vI (ν2 h) → vI (ν2 h) ≤ 16 → (∀ x, ν2 b = .int x → 0 ≤ x.toInt → OPr G ad w0 (decide (vI (μ 2) = 0)) x) → Z p l e (rmOf C_ounceOf) s m args below meth c 6 G A (MQ below (QQ G A (OCP G ad w0 μ)) args s 0 0 A) 5 lw2 [] ws2 0 0 := by
      intro σ ν2 lw2 ws2 pin2 b h hg2 hp2 ha hb hh hlt hle hop
      obtain ⟨ν', lw', q1, q2⟩ := oc_head hg2 hp2 ha
      have e1 : lw' = ocH.2.1.1.map (fun q => (q.1, ν' q.2.1)) := q1.1
      have m3 : (3, ν' 700) ∈ lw' := by rw [e1]; exact List.mem_map.mpr ⟨(3, 700, false), by decide, rfl⟩
      have m4 : (4, ν' 701) ∈ lw' := by rw [e1]; exact List.mem_map.mpr ⟨(4, 701, false), by decide, rfl⟩
      have k3 : ν' 700 = ν2 b := hb.2 _ (q2 _ m3)
      have k4 : ν' 701 = ν2 h := hh _ (q2 _ m4)
      refine Z.mono q2 (oc_loop hs0 X n ν' lw' ws2 q1 ?_ (fun x hx => ?_))
      · rw [k4]
        have : vI (ν 701) ≤ 15 := by omega
        omega
      · rw [k3] at hx; exact hop x hx
    refine aseg (C := sC_ocA) (PO := OCP G ad w0 μ) (fld := fld_11) (put := put_11) (cst := cst_11) (cstl := cstl_11) (hk := hk0) (tab := D_X11_ounceOf) (rk := 1) (pids := [0, 1, 2, 100, 700, 701]) D_X11_ounceOf_ok X rfl rfl hok0 (Or.inr (Or.inl ⟨rfl, rfl⟩)) (Nat.le_refl 0) (Nat.le_refl 0) (fun j hj => sp2 _ (spin1 (C := C_ounceOf) j hj)) (fun j hj => sp2 _ (spin2 (C := C_ounceOf) j hj)) (noret w0) fld_11_ok put_11_ok cst_11_ok cstl_11_ok (sl_ocA_ok l G) (Nat.le_refl 0) (Nat.le_refl 0) hids sg_ocA (fun d hd ν2 lw2 sw2 ws2 hg2 => ?_) ν lw [] ws hgA
    have hd : d ∈ [se_ocA_24, se_ocA_49, se_ocA_130] := hd
    have b700 := (hg2.2.2.2.2.2.2.1 (700, ν 700) List.mem_cons_self).2
    have b701 := (hg2.2.2.2.2.2.2.1 (701, ν 701) (List.mem_cons_of_mem _ List.mem_cons_self)).2
    have b700 : ν2 700 = ν 700 := b700
    have b701 : ν2 701 = ν 701 := b701
    have bw := (hg2.2.2.2.2.2.2.1 (2, μ 2) (sp2 _ (spin1 (C := C_ounceOf) 2 (by decide)))).2
    have bw : ν2 2 = μ 2 := bw
    have psp : ∀ q ∈ spin C_ounceOf μ, q.1 < 1000 ∧ ν2 q.1 = q.2 := fun q hq => hg2.2.2.2.2.2.2.1 q (sp2 q hq)
    have pfree : ∀ k, k ∉ [0, 1, 2, 100, 700, 701] → ∀ q ∈ (700, ν 700) :: (701, ν 701) :: spin C_ounceOf μ, q.1 ≠ k := fun k hk q hq e9 => hk (e9 ▸ hids q hq)
    rcases List.mem_cons.mp hd with e1 | hd
    · -- what = 0
      subst e1
      obtain ⟨x, f, x1, x2, x3, x4, x5, x6, x7, x8⟩ := AG.elem (i := 701) (r := 500) (k := 6) (n := 16) (a := 0) (b := 15) hg2 (by decide) (by decide) (by decide) rfl rfl rfl
      have x2 : sw2 = [.int x, .ref (ad 6)] := x2
      rw [x2]
      refine z_iald X d_oc_24 6 x3 x5 rfl ?_
      have hgB := (AG.stk (st2 := []) hg2).pushN (n := 702) (t := (0, 0, 9)) (v := .int (f x.toNatClampNeg)) (by decide) (by decide) (pfree 702 (by decide)) (vty_i (x4 _ x8).1 (x4 _ x8).2.1)
      refine aseg (C := sC_ocB) (PO := OCP G ad w0 μ) (fld := fld_11) (put := put_11) (cst := cst_11) (cstl := cstl_11) (hk := hk0) (tab := D_X11_ounceOf) (rk := 1) (pids := [0, 1, 2, 100, 700, 701, 702]) D_X11_ounceOf_ok X rfl rfl hok0 (Or.inr (Or.inl ⟨rfl, rfl⟩)) (Nat.le_refl 0) (Nat.le_refl 0) (fun j hj => List.mem_cons_of_mem _ (sp2 _ (spin1 (C := C_ounceOf) j hj))) (fun j hj => List.mem_cons_of_mem _ (sp2 _ (spin2 (C := C_ounceOf) j hj))) (noret w0) fld_11_ok put_11_ok cst_11_ok cstl_11_ok (sl_ocB_ok l G) (Nat.le_refl 0) (Nat.le_refl 0) (fun q hq => by
        rcases List.mem_cons.mp hq with e1 | hq
        · rw [e1]; exact (by decide : (702 : Nat) ∈ [0, 1, 2, 100, 700, 701, 702])
        · have hsub : ∀ z ∈ [0, 1, 2, 100, 700, 701], z ∈ [0, 1, 2, 100, 700, 701, 702] := by decide
          exact hsub _ (hids q hq)) sg_ocB (fun d hd ν3 lw3 sw3 ws3 hg3 => ?_) _ lw2 _ ws2 hgB
      rw [List.mem_singleton.mp hd] at hg3 ⊢
      obtain ⟨x', g, y1, y2, y3, y4, y5, y6, y7, y8⟩ := AG.elem (i := 701) (r := 500) (k := 5) (n := 16) (a := 0) (b := 15) hg3 (by decide) (by decide) (by decide) rfl rfl rfl
      have p3 := hg3.2.2.2.2.2.2.1
      have c701 : ν3 701 = ν 701 := (p3 (701, ν 701) (List.mem_cons_of_mem _ (List.mem_cons_of_mem _ List.mem_cons_self))).2
      have c700 : ν3 700 = ν 700 := (p3 (700, ν 700) (List.mem_cons_of_mem _ List.mem_cons_self)).2
      have c702 : ν3 702 = .int (f x.toNatClampNeg) := (p3 (702, .int (f x.toNatClampNeg)) List.mem_cons_self).2
      rw [c701, ← b701, x1] at y1
      cases y1
      have y2 : sw3 = [.int x, .ref (ad 5), ν3 702] := y2
      rw [y2]
      refine z_iald X d_oc_31 5 y3 y5 rfl ?_
      have hgC := (AG.stk (st2 := [702]) hg3).pushN (n := 703) (t := (0, -1, 9)) (v := .int (g x.toNatClampNeg)) (by decide) (by decide) (fun q hq => by
        rcases List.mem_cons.mp hq with e1 | hq
        · rw [e1]; exact (by decide : (702 : Nat) ≠ 703)
        · exact pfree 703 (by decide) q hq) (vty_i (y4 _ y8).1 (y4 _ y8).2.1)
      refine aseg (C := sC_ocC) (PO := OCP G ad w0 μ) (fld := fld_11) (put := put_11) (cst := cst_11) (cstl := cstl_11) (hk := hk0) (tab := D_X11_ounceOf) (rk := 1) (pids := [0, 1, 2, 100, 700, 701, 702, 703]) D_X11_ounceOf_ok X rfl rfl hok0 (Or.inr (Or.inl ⟨rfl, rfl⟩)) (Nat.le_refl 0) (Nat.le_refl 0) (fun j hj => List.mem_cons_of_mem _ (List.mem_cons_of_mem _ (sp2 _ (spin1 (C := C_ounceOf) j hj)))) (fun j hj => List.mem_cons_of_mem _ (List.mem_cons_of_mem _ (sp2 _ (spin2 (C := C_ounceOf) j hj)))) (noret w0) fld_11_ok put_11_ok cst_11_ok cstl_11_ok (sl_ocC_ok l G) (Nat.le_refl 0) (Nat.le_refl 0) (fun q hq => by
        rcases List.mem_cons.mp hq with e1 | hq
        · rw [e1]; exact (by decide : (703 : Nat) ∈ [0, 1, 2, 100, 700, 701, 702, 703])
        rcases List.mem_cons.mp hq with e1 | hq
        · rw [e1]; exact (by decide : (702 : Nat) ∈ [0, 1, 2, 100, 700, 701, 702, 703])
        · have hsub : ∀ z ∈ [0, 1, 2, 100, 700, 701], z ∈ [0, 1, 2, 100, 700, 701, 702, 703] := by decide
          exact hsub _ (hids q hq)) sg_ocC (fun d hd ν4 lw4 sw4 ws4 hg4 => ?_) _ lw3 _ ws3 hgC
      have hd : d ∈ [se_ocC_5, se_ocC_5_1] := hd
      have p4 := hg4.2.2.2.2.2.2.1
      have d701 : ν4 701 = ν 701 := (p4 (701, ν 701) (List.mem_cons_of_mem _ (List.mem_cons_of_mem _ (List.mem_cons_of_mem _ List.mem_cons_self)))).2
      have d700 : ν4 700 = ν 700 := (p4 (700, ν 700) (List.mem_cons_of_mem _ (List.mem_cons_of_mem _ List.mem_cons_self))).2
      have d702 : ν4 702 = .int (f x.toNatClampNeg) := (p4 (702, .int (f x.toNatClampNeg)) (List.mem_cons_of_mem _ List.mem_cons_self)).2
      have d703 : ν4 703 = .int (g x.toNatClampNeg) := (p4 (703, .int (g x.toNatClampNeg)) List.mem_cons_self).2
      have psp4 : ∀ q ∈ spin C_ounceOf μ, q.1 < 1000 ∧ ν4 q.1 = q.2 := fun q hq => p4 q (List.mem_cons_of_mem _ (List.mem_cons_of_mem _ (sp2 q hq)))
      rcases List.mem_cons.mp hd with e1 | hd
      · subst e1
        have hs4 : sw4 = [] := hg4.2.1
        subst hs4
        have el : lw4 = [(0, ν4 0), (1, ν4 1), (2, ν4 2), (3, ν4 700), (4, ν4 500), (5, ν4 501)] := hg4.1
        have r1 : vI (ν4 701) ≤ vI (ν4 500) + -1 := hg4.2.2.dl (a := 701) (b := 500) (c := -1) (by decide)
        obtain ⟨z, z1, z2, z3⟩ := hg4.2.2.rng (i := 500) (a := 1) (b := 16) (by decide)
        rw [d701, z1] at r1
        have r1 : vI (ν 701) ≤ z.toInt + -1 := r1
        refine back _ ν4 lw4 ws4 _ 700 500 hg4 psp4 (by decide +kernel) (by rw [el]; exact ⟨by simp, by simp⟩) (by rw [el]; simp) (by rw [z1]; show _ < z.toInt; omega) (by rw [z1]; exact z3) (fun x9 hx9 => by rw [d700] at hx9; exact hbest x9 hx9)
      · have e1 := List.mem_singleton.mp hd
        subst e1
        have hs4 : sw4 = [] := hg4.2.1
        subst hs4
        have el : lw4 = [(0, ν4 0), (1, ν4 1), (2, ν4 2), (3, ν4 701), (4, ν4 500), (5, ν4 501)] := hg4.1
        have r1 : vI (ν4 701) ≤ vI (ν4 500) + -1 := hg4.2.2.dl (a := 701) (b := 500) (c := -1) (by decide)
        have r2 : vI (ν4 702) ≤ vI (ν4 703) + -1 := hg4.2.2.dl (a := 702) (b := 703) (c := -1) (by decide)
        obtain ⟨z, z1, z2, z3⟩ := hg4.2.2.rng (i := 500) (a := 1) (b := 16) (by decide)
        rw [d701, z1] at r1
        have r1 : vI (ν 701) ≤ z.toInt + -1 := r1
        rw [d702, d703] at r2
        have r2 : (f x.toNatClampNeg).toInt ≤ (g x.toNatClampNeg).toInt + -1 := r2
        obtain ⟨z9, w1, w2, w3⟩ := hg4.2.2.rng (i := 2) (a := 0) (b := 0) (by decide)
        have hw0 : vI (μ 2) = 0 := by
          have := (psp4 (2, μ 2) (spin1 (C := C_ounceOf) 2 (by decide))).2
          have this : ν4 2 = μ 2 := this
          rw [← this, w1]
          show z9.toInt = 0
          omega
        refine back _ ν4 lw4 ws4 _ 701 500 hg4 psp4 (by decide +kernel) (by rw [el]; exact ⟨by simp, by simp⟩) (by rw [el]; simp) (by rw [z1]; show _ < z.toInt; omega) (by rw [z1]; exact z3) (fun x9 hx9 h09 => ?_)
        rw [d701, ← b701, x1] at hx9
        cases hx9
        have hop : OPr G ad ws3 (decide (vI (μ 2) = 0)) x := by
          refine ⟨f, g, ?_, y3, Or.inl ⟨by rw [hw0]; rfl, by omega⟩⟩
          have hF3 := hg3.2.2.2.2.2.2.2.2
          have hF2 := hg2.2.2.2.2.2.2.2.2
          obtain ⟨f0, u1, -⟩ := WT.ints (k := 6) (n := 16) hs0 rfl
          obtain ⟨b1, c1⟩ := hF2.arr (k := 6) (by decide) u1
          obtain ⟨b2, c2⟩ := hF3.arr (k := 6) (by decide) u1
          rw [x3] at c1
          have e1 : f = f0 := Sum.inl.inj (congrArg (fun z : ClassId × vp_A => z.2.2) (Sum.inl.inj (congrArg Prod.snd (Option.some.inj c1))))
          subst e1
          rw [WT.adr (T := TM) (k := 6) hg3.2.2.2.2.2.2.2.1 rfl c2] at c2
          exact c2
        exact hop.bak hs0 hg3.2.2.2.2.2.2.2.2 (by decide) (by decide)
    rcases List.mem_cons.mp hd with e1 | hd
    · -- what = 1
      subst e1
      obtain ⟨x, f, x1, x2, x3, x4, x5, x6, x7, x8⟩ := AG.elem (i := 701) (r := 500) (k := 6) (n := 16) (a := 0) (b := 15) hg2 (by decide) (by decide) (by decide) rfl rfl rfl
      have x2 : sw2 = [.int x, .ref (ad 6)] := x2
      rw [x2]
      refine z_iald X d_oc_49 6 x3 x5 rfl ?_
      have hgB := (AG.stk (st2 := []) hg2).pushN (n := 702) (t := (0, 0, 9)) (v := .int (f x.toNatClampNeg)) (by decide) (by decide) (pfree 702 (by decide)) (vty_i (x4 _ x8).1 (x4 _ x8).2.1)
      refine aseg (C := sC_ocD) (PO := OCP G ad w0 μ) (fld := fld_11) (put := put_11) (cst := cst_11) (cstl := cstl_11) (hk := hk0) (tab := D_X11_ounceOf) (rk := 1) (pids := [0, 1, 2, 100, 700, 701, 702]) D_X11_ounceOf_ok X rfl rfl hok0 (Or.inr (Or.inl ⟨rfl, rfl⟩)) (Nat.le_refl 0) (Nat.le_refl 0) (fun j hj => List.mem_cons_of_mem _ (sp2 _ (spin1 (C := C_ounceOf) j hj))) (fun j hj => List.mem_cons_of_mem _ (sp2 _ (spin2 (C := C_ounceOf) j hj))) (noret w0) fld_11_ok put_11_ok cst_11_ok cstl_11_ok (sl_ocD_ok l G) (Nat.le_refl 0) (Nat.le_refl 0) (fun q hq => by
        rcases List.mem_cons.mp hq with e1 | hq
        · rw [e1]; exact (by decide : (702 : Nat) ∈ [0, 1, 2, 100, 700, 701, 702])
        · have hsub : ∀ z ∈ [0, 1, 2, 100, 700, 701], z ∈ [0, 1, 2, 100, 700, 701, 702] := by decide
          exact hsub _ (hids q hq)) sg_ocD (fun d hd ν4 lw4 sw4 ws4 hg4 => ?_) _ lw2 _ ws2 hgB
      have hd : d ∈ [se_ocD_5, se_ocD_5_1] := hd
      have p4 := hg4.2.2.2.2.2.2.1
      have d701 : ν4 701 = ν 701 := (p4 (701, ν 701) (List.mem_cons_of_mem _ (List.mem_cons_of_mem _ List.mem_cons_self))).2
      have d700 : ν4 700 = ν 700 := (p4 (700, ν 700) (List.mem_cons_of_mem _ List.mem_cons_self)).2
      have d702 : ν4 702 = .int (f x.toNatClampNeg) := (p4 (702, .int (f x.toNatClampNeg)) List.mem_cons_self).2
      have psp4 : ∀ q ∈ spin C_ounceOf μ, q.1 < 1000 ∧ ν4 q.1 = q.2 := fun q hq => p4 q (List.mem_cons_of_mem _ (sp2 q hq))
      rcases List.mem_cons.mp hd with e1 | hd
      · subst e1
        have hs4 : sw4 = [] := hg4.2.1
        subst hs4
        have el : lw4 = [(0, ν4 0), (1, ν4 1), (2, ν4 2), (3, ν4 700), (4, ν4 500), (5, ν4 501)] := hg4.1
        have r1 : vI (ν4 701) ≤ vI (ν4 500) + -1 := hg4.2.2.dl (a := 701) (b := 500) (c := -1) (by decide)
        obtain ⟨z, z1, z2, z3⟩ := hg4.2.2.rng (i := 500) (a := 1) (b := 16) (by decide)
        rw [d701, z1] at r1
        have r1 : vI (ν 701) ≤ z.toInt + -1 := r1
        refine back _ ν4 lw4 ws4 _ 700 500 hg4 psp4 (by decide +kernel) (by rw [el]; exact ⟨by simp, by simp⟩) (by rw [el]; simp) (by rw [z1]; show _ < z.toInt; omega) (by rw [z1]; exact z3) (fun x9 hx9 => by rw [d700] at hx9; exact hbest x9 hx9)
      · have e1 := List.mem_singleton.mp hd
        subst e1
        have hs4 : sw4 = [] := hg4.2.1
        subst hs4
        have el : lw4 = [(0, ν4 0), (1, ν4 1), (2, ν4 2), (3, ν4 701), (4, ν4 500), (5, ν4 501)] := hg4.1
        have r1 : vI (ν4 701) ≤ vI (ν4 500) + -1 := hg4.2.2.dl (a := 701) (b := 500) (c := -1) (by decide)
        obtain ⟨z, z1, z2, z3⟩ := hg4.2.2.rng (i := 500) (a := 1) (b := 16) (by decide)
        rw [d701, z1] at r1
        have r1 : vI (ν 701) ≤ z.toInt + -1 := r1
        obtain ⟨z8, t1, t2, t3⟩ := hg4.2.2.rng (i := 702) (a := 1) (b := 9) (by decide)
        rw [d702] at t1
        cases t1
        obtain ⟨z9, w1, w2, w3⟩ := hg4.2.2.rng (i := 2) (a := 1) (b := 1) (by decide)
        have hw0 : vI (μ 2) = 1 := by
          have := (psp4 (2, μ 2) (spin1 (C := C_ounceOf) 2 (by decide))).2
          have this : ν4 2 = μ 2 := this
          rw [← this, w1]
          show z9.toInt = 1
          omega
        refine back _ ν4 lw4 ws4 _ 701 500 hg4 psp4 (by decide +kernel) (by rw [el]; exact ⟨by simp, by simp⟩) (by rw [el]; simp) (by rw [z1]; show _ < z.toInt; omega) (by rw [z1]; exact z3) (fun x9 hx9 h09 => ?_)
        rw [d701, ← b701, x1] at hx9
        cases hx9
        obtain ⟨g, u2, -⟩ := WT.ints (k := 5) (n := 16) hg2.2.2.2.2.2.2.2.1 rfl
        have hop : OPr G ad ws2 (decide (vI (μ 2) = 0)) x := ⟨f, g, x3, u2, Or.inr ⟨by rw [hw0]; rfl, by omega⟩⟩
        exact hop.bak hs0 hg2.2.2.2.2.2.2.2.2 (by decide) (by decide)
    · have e1 := List.mem_singleton.mp hd
      subst e1
      have hs : sw2 = [ν2 700] := hg2.2.1
      obtain ⟨z, z1, z2, z3⟩ := hg2.2.2.rng (i := 700) (a := -1) (b := 15) (by decide)
      rw [hs, z1]
      exact z_iret X rfl d_oc_130 (Nat.le_refl 0) (Nat.le_refl 0) ⟨hg2.2.2.2.2.2.2.2.1, hg2.2.2.2.2.2.2.2.2, z, rfl, z2, z3, hbest z (by rw [← b700]; exact z1)⟩
end OC
theorem ac_ounceOf (l : Launch) (G : KG) : ∀ (ad : Nat → Nat) (w0 : va_W) (μ : Nat → Value), WT G ad TM w0 → PRE ad C_ounceOf μ w0 → Ct l G yX11_ounceOf cX11_ounceOf 6 (some .int) (rmOf C_ounceOf) [μ 0, μ 1, μ 2] w0 (OCP G ad w0 μ) := by
  refine hand_ofP (C := C_ounceOf) (by decide) (by decide) (by decide) (by decide) (by decide) ?_
  intro p e s m args below meth c A X ad w0 μ lw hW hPre hg
  refine aseg (C := sC_ocS) (PO := OCP G ad w0 μ) (fld := fld_11) (put := put_11) (cst := cst_11) (cstl := cstl_11) (hk := hk0) (tab := D_X11_ounceOf) (rk := 1) (pids := [0, 1, 2, 100]) D_X11_ounceOf_ok X rfl rfl hok0 (Or.inr (Or.inl ⟨rfl, rfl⟩)) (Nat.le_refl 0) (Nat.le_refl 0) (spin1 (C := C_ounceOf)) (spin2 (C := C_ounceOf)) (fun r w1 h => by
    obtain ⟨A1, hA1, -⟩ := h
    cases hA1) fld_11_ok put_11_ok cst_11_ok cstl_11_ok (sl_ocS_ok l G) (Nat.le_refl 0) (Nat.le_refl 0) spin3 sg_ocS (fun d hd ν2 lw2 sw2 ws2 hg2 => ?_) μ lw [] w0 hg
  rw [List.mem_singleton.mp hd] at hg2 ⊢
  have hs : sw2 = [] := hg2.2.1
  subst hs
  obtain ⟨ν', lw', q1, q2⟩ := oc_head (μ := μ) hg2 hg2.2.2.2.2.2.2.1 (by decide +kernel)
  refine Z.mono q2 (oc_loop hW X _ ν' lw' ws2 q1 (Nat.lt_succ_self _) (fun x hx h0 => ?_))
  have el : lw2 = [(0, ν2 0), (1, ν2 1), (2, ν2 2), (3, ν2 500), (4, ν2 501)] := hg2.1
  have e1 : lw' = ocH.2.1.1.map (fun q => (q.1, ν' q.2.1)) := q1.1
  have m3 : (3, ν' 700) ∈ lw' := by rw [e1]; exact List.mem_map.mpr ⟨(3, 700, false), by decide, rfl⟩
  have m3 := q2 _ m3
  rw [el] at m3
  have m3 : ν' 700 = ν2 500 := by simpa using m3
  obtain ⟨z, z1, z2, z3⟩ := hg2.2.2.rng (i := 500) (a := -1) (b := -1) (by decide)
  rw [m3, z1] at hx
  cases hx
  omega
