/-! mill, in the table where asked is coded -/
theorem tm_set : TM0 = TM.set 36 (.inr (0, 16, (0, 0, 15))) := rfl
theorem wt_dn {G : KG} {ad : Nat → Nat} {w : va_W} (h : WT G ad TM w) : WT G ad TM0 w := by
  refine ⟨h.1, fun k te hT => ?_, fun k n t a f c i hT h2 hw hf hi => ?_⟩
  · by_cases e : k = 36
    · subst e
      have : te = .inr (0, 16, (0, 0, 15)) := Option.some.inj (hT.symm.trans (by rfl))
      subst this
      obtain ⟨f, w1, w2⟩ := WT.ints (T := TM) (k := 36) (n := 16) h rfl
      exact ⟨_, w1, Or.inl ⟨rfl, f, rfl, fun k hk => ⟨(w2 k hk).1, (w2 k hk).2.1, fun e => by cases e⟩⟩⟩
    · rw [tm_set, List.getElem?_set_ne (fun h => e h.symm)] at hT
      exact h.2.1 k te hT
  · by_cases e : k = 36
    · subst e
      have : (.inr (0, n, t) : TE) = .inr (0, 16, (0, 0, 15)) := Option.some.inj (hT.symm.trans (by rfl))
      cases this
      exact absurd h2 (by decide)
    · rw [tm_set, List.getElem?_set_ne (fun h => e h.symm)] at hT
      exact h.2.2 k n t a f c i hT h2 hw hf hi
theorem wt_up {G : KG} {ad : Nat → Nat} {mk : List (Nat × Nat)} {w0 w1 : va_W} {o x : Int32} (h0 : WT G ad TM w0) (h : WT G ad TM0 w1) (hF : FRM mk w0 w1) (hm : mkq mk 36 0 = false) (ho : fget w0 0 3 = some (.int o)) (hx : fget w1 0 3 = some (.int x)) (hle : o.toInt ≤ x.toInt) : WT G ad TM w1 := by
  obtain ⟨f, u1, u2⟩ := WT.ints (T := TM) (k := 36) (n := 16) h0 rfl
  obtain ⟨b, v1⟩ := hF.arr hm u1
  rw [WT.adr (T := TM0) (k := 36) h rfl v1] at v1
  refine ⟨h.1, fun k te hT => ?_, fun k n t a f' c i hT h2 hw hf hi => ?_⟩
  · by_cases e : k = 36
    · subst e
      have : te = .inr (0, 16, (16, 0, 15)) := Option.some.inj (hT.symm.trans (by rfl))
      subst this
      exact ⟨_, v1, Or.inl ⟨rfl, f, rfl, u2⟩⟩
    · refine h.2.1 k te ?_
      rw [tm_set, List.getElem?_set_ne (fun h => e h.symm)]
      exact hT
  · by_cases e : k = 36
    · subst e
      have e1 : (.inr (0, n, t) : TE) = .inr (0, 16, (16, 0, 15)) := Option.some.inj (hT.symm.trans (by rfl))
      cases e1
      rw [v1] at hw
      have ef : f = f' := Sum.inl.inj (congrArg (fun z : ClassId × vp_A => z.2.2) (Sum.inl.inj (congrArg Prod.snd (Option.some.inj hw))))
      subst ef
      have hf : fget w1 0 3 = some (.int c) := hf
      rw [hx] at hf
      cases hf
      rcases h0.2.2 36 16 _ _ f o i rfl (by decide) u1 ho hi with ⟨h9, -⟩ | ⟨h9, hp⟩
      · exact absurd h9 (by decide)
      · exact Or.inr ⟨h9, hp.imp id (fun h => by omega)⟩
    · refine h.2.2 k n t a f' c i ?_ h2 hw hf hi
      rw [tm_set, List.getElem?_set_ne (fun h => e h.symm)]
      exact hT
theorem ac_mill (l : Launch) (G : KG) : ACt l G TM yX11_mill cX11_mill 10 (some .int) C_z_X11_mill_0 := by
  intro ad w0 μ hW hP
  have h1 := ac_z_X11_mill_0 l G ad w0 μ (wt_dn hW) hP
  refine h1.weak (fun r w1 hp => ?_)
  obtain ⟨A1, hA, μ', a1, a2, a3, a4, a5, a6, a7, a8⟩ := hp
  have hA2 := List.mem_singleton.mp hA
  subst hA2
  have p0 := hP.2.1 0 _ rfl
  have q1 := a5 1 _ rfl
  obtain ⟨o, ho, -⟩ := vty0 p0.1 rfl
  obtain ⟨x, hx, -⟩ := vty0 q1.1 rfl
  have p2 : fget w0 0 3 = some (μ (100 + 0)) := p0.2
  have q2 : fget w1 0 3 = some (μ' (200 + 1)) := q1.2
  rw [ho] at p2
  rw [hx] at q2
  have r1 := a6 (100, 201, 0) (by decide)
  have r1 : vI (μ' 100) ≤ vI (μ' 201) + 0 := r1
  rw [a2 100 (by decide) (by decide)] at r1
  have ho : μ 100 = .int o := ho
  have hx : μ' 201 = .int x := hx
  rw [ho, hx] at r1
  have r1 : o.toInt ≤ x.toInt + 0 := r1
  exact ⟨_, hA, μ', a1, a2, a3, a4, a5, a6, wt_up hW a7 a8 (by decide) p2 q2 (by omega), a8⟩
