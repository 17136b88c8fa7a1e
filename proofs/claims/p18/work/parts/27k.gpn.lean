/-- where they are made now -/
def ad7 (ad : Nat → Nat) (l : List Nat) : Nat → Nat := fun k => if k < 109 then ad k else (l[k - 109]?).getD 0
theorem ad7_lo {ad : Nat → Nat} {l : List Nat} {k : Nat} (h : k < 109) : ad7 ad l k = ad k := if_pos h
theorem vty_ad7 {ad : Nat → Nat} {l : List Nat} {t : VT} {v : Value} (h : vty ad t v) (ht : t.1 = 2 → t.2.1.toNat < 109) : vty (ad7 ad l) t v := by
  rcases h with h | h | ⟨h1, h2⟩ | h
  · exact Or.inl h
  · exact Or.inr (Or.inl h)
  · exact Or.inr (Or.inr (Or.inl ⟨h1, by rw [h2, ad7_lo (ht h1)]⟩))
  · exact Or.inr (Or.inr (Or.inr h))
def tlow : TE → Bool
  | .inl q => q.2.all (fun t => !(Nat.beq t.1 2) || Nat.blt t.2.1.toNat 109)
  | .inr o => !(Nat.beq o.1 3) || (List.range o.2.1).all (fun k => Nat.blt (o.2.2.2.1.toNat + k * o.2.2.2.2.toNat) 109)
theorem tlow_TX : TX.all tlow = true := by decide
theorem ety_ad7 {G : KG} {ad : Nat → Nat} {l : List Nat} {te : TE} {en : va_E} (h : ety G ad te en) (ht : tlow te = true) : ety G (ad7 ad l) te en := by
  cases te with
  | inl q =>
    obtain ⟨ci, ts⟩ := q
    obtain ⟨fs, h1, h2, h3⟩ := h
    refine ⟨fs, h1, h2, fun j t v g1 g2 => vty_ad7 (h3 j t v g1 g2) (fun e => ?_)⟩
    have h4 := List.all_eq_true.mp ht t (List.mem_of_getElem? g1)
    rw [e] at h4
    exact blt_lt h4
  | inr o =>
    obtain ⟨kd, n, t⟩ := o
    rcases h with h | h | h | ⟨h0, f, h1, h2⟩
    · exact Or.inl h
    · exact Or.inr (Or.inl h)
    · exact Or.inr (Or.inr (Or.inl h))
    · refine Or.inr (Or.inr (Or.inr ⟨h0, f, h1, fun k hk => ?_⟩))
      subst h0
      have h4 := List.all_eq_true.mp (show (List.range n).all (fun k => Nat.blt (t.2.1.toNat + k * t.2.2.toNat) 109) = true from ht) k (List.mem_range.mpr hk)
      rw [h2 k hk, ad7_lo (blt_lt h4)]
theorem nopfx {G : KG} {ws : va_W} : PFX G TXP ws := by
  intro k n t a f c i h1 h2 _ _ _
  have h9 : TXP.all (fun te => match te with | .inr o => !(Nat.beq o.1 0) || Nat.ble o.2.2.1 1 | .inl _ => true) = true := by decide
  have h8 := List.all_eq_true.mp h9 _ (List.mem_of_getElem? h1)
  have h8 : Nat.ble t.1 1 = true := h8
  have := Nat.le_of_ble_eq_true h8
  omega
def fty (te : Option TE) (j : Nat) : Option VT := match te with
  | some (Sum.inl q) => q.2[j]?
  | _ => none
theorem fty_eq : ∀ j, j < 16 → 15 ≠ j → fty TX[0]? j = fty TXP[0]? j
  | 0, _, _ => rfl
  | 1, _, _ => rfl
  | 2, _, _ => rfl
  | 3, _, _ => rfl
  | 4, _, _ => rfl
  | 5, _, _ => rfl
  | 6, _, _ => rfl
  | 7, _, _ => rfl
  | 8, _, _ => rfl
  | 9, _, _ => rfl
  | 10, _, _ => rfl
  | 11, _, _ => rfl
  | 12, _, _ => rfl
  | 13, _, _ => rfl
  | 14, _, _ => rfl
  | 15, _, h => absurd rfl h
  | n + 16, h, _ => by omega
set_option maxRecDepth 100000 in
theorem TXP_tail : TXP.drop 1 = TX.drop 1 ++ TXP.drop 109 := rfl
set_option maxRecDepth 100000 in
theorem TXP_eq {k : Nat} (h : k < 109) (h0 : 0 < k) : TXP[k]? = TX[k]? := by
  have e1 : TXP[k]? = (TXP.drop 1)[k - 1]? := by rw [List.getElem?_drop, show 1 + (k - 1) = k by omega]
  have e2 : TX[k]? = (TX.drop 1)[k - 1]? := by rw [List.getElem?_drop, show 1 + (k - 1) = k by omega]
  have hl : (TX.drop 1).length = 108 := rfl
  have e3 : (TX.drop 1 ++ TXP.drop 109)[k - 1]? = (TX.drop 1)[k - 1]? := List.getElem?_append_left (by rw [hl]; omega)
  rw [← TXP_tail] at e3
  exact e1.trans (e3.trans e2.symm)
abbrev c7 (G : KG) (a pb pc px py ps pt : Nat) : va_W := [(a, ob 3 [.int 0, .int 0, .int 0, .ref pb, .ref pc, .ref px, .ref py, .ref ps, .ref pt]), (pb, aI G 6 (fun _ => 0)), (pc, aI G 14641 (fun _ => 0)), (px, aJ G 121 (fun _ => 0)), (py, aJ G 121 (fun _ => 0)), (ps, aJ G 32768 (fun _ => 0)), (pt, aI G 32768 (fun _ => 0))]
theorem wt_made {G : KG} {ad : Nat → Nat} {w0 : va_W} (hW : WT G ad TX w0) (hl : w0.length = 109) {fs : List Value} (o1 : w0[0]? = some (ad 0, ob 10 fs)) (a pb pc px py ps pt : Nat) : WT G (ad7 ad [a, pb, pc, px, py, ps, pt]) TXP ((w0 ++ c7 G a pb pc px py ps pt).set 0 (ad 0, ob 10 (fs.set 15 (.ref a)))) := by
  refine ⟨?_, fun k te hk => ?_, nopfx⟩
  · rw [List.length_set, List.length_append, hl]; show 116 ≤ 109 + 7; decide
  · rcases Nat.lt_or_ge k 109 with h | h
    · rcases Nat.eq_zero_or_pos k with h0 | h0
      · subst h0
        obtain ⟨en, e1, e2⟩ := hW.2.1 0 _ rfl
        rw [o1] at e1
        have e3 := congrArg Prod.snd (Option.some.inj e1)
        have e3 : ob 10 fs = en := e3
        subst e3
        obtain ⟨fs', f1, f2, f3⟩ := e2
        have f1 : fs = fs' := congrArg Prod.snd (Sum.inr.inj f1)
        subst f1
        have hte := Option.some.inj hk
        refine ⟨ob 10 (fs.set 15 (.ref a)), set_same (q := (ad 0, ob 10 fs)) (by rw [List.getElem?_append_left (by omega)]; exact o1), ?_⟩
        rw [← hte]
        refine ⟨_, rfl, by rw [List.length_set]; exact f2, fun j t v g1 g2 => ?_⟩
        rcases Nat.decEq 15 j with hj | hj
        · rw [List.getElem?_set_ne hj] at g2
          have hlt : j < 16 := (List.getElem?_eq_some_iff.mp g1).1
          have g3 : fty TX[0]? j = some t := by rw [fty_eq j hlt hj]; exact g1
          refine vty_ad7 (f3 j t v g3 g2) (fun e => ?_)
          have h5 := List.all_eq_true.mp tlow_TX _ (List.mem_of_getElem? (show TX[0]? = some _ from rfl))
          have h4 := List.all_eq_true.mp h5 t (List.mem_of_getElem? g3)
          rw [e] at h4
          exact blt_lt h4
        · subst hj
          have g4 := Option.some.inj g1
          rw [List.getElem?_set_self (by rw [f2]; decide)] at g2
          rw [← Option.some.inj g2, ← g4]
          exact Or.inr (Or.inr (Or.inl ⟨rfl, rfl⟩))
      · rw [TXP_eq h h0] at hk
        obtain ⟨en, e1, e2⟩ := hW.2.1 k _ hk
        refine ⟨en, ?_, ety_ad7 e2 (List.all_eq_true.mp tlow_TX _ (List.mem_of_getElem? hk))⟩
        rw [set_other (by omega), List.getElem?_append_left (by omega), e1, ad7_lo h]
    · obtain ⟨q, rfl⟩ : ∃ q, k = 109 + q := ⟨k - 109, by omega⟩
      rw [set_other (by omega), List.getElem?_append_right (by omega), hl, show 109 + q - 109 = q by omega]
      have hq : q < 7 := by
        have := (List.getElem?_eq_some_iff.mp hk).1
        have h9 : TXP.length = 116 := rfl
        omega
      have zI : ∀ (n : Nat) (t : VT), t.2.1 ≤ 0 → 0 ≤ t.2.2 → t.1 ≠ 1 → aint n t (fun _ => 0) := fun n t z1 z2 z3 k _ => ⟨z1, z2, fun e => absurd e z3⟩
      match q, hq, hk with
      | 0, _, hk =>
        have hte := Option.some.inj hk
        refine ⟨_, rfl, ?_⟩
        rw [← hte]
        refine ⟨_, rfl, rfl, fun j t v g1 g2 => ?_⟩
        match j, g1, g2 with
        | 0, g1, g2 => rw [← Option.some.inj g1, ← Option.some.inj g2]; exact vty_i (by decide) (by decide)
        | 1, g1, g2 => rw [← Option.some.inj g1, ← Option.some.inj g2]; exact vty_i (by decide) (by decide)
        | 2, g1, g2 => rw [← Option.some.inj g1, ← Option.some.inj g2]; exact vty_i (by decide) (by decide)
        | 3, g1, g2 => rw [← Option.some.inj g1, ← Option.some.inj g2]; exact Or.inr (Or.inr (Or.inl ⟨rfl, rfl⟩))
        | 4, g1, g2 => rw [← Option.some.inj g1, ← Option.some.inj g2]; exact Or.inr (Or.inr (Or.inl ⟨rfl, rfl⟩))
        | 5, g1, g2 => rw [← Option.some.inj g1, ← Option.some.inj g2]; exact Or.inr (Or.inr (Or.inl ⟨rfl, rfl⟩))
        | 6, g1, g2 => rw [← Option.some.inj g1, ← Option.some.inj g2]; exact Or.inr (Or.inr (Or.inl ⟨rfl, rfl⟩))
        | 7, g1, g2 => rw [← Option.some.inj g1, ← Option.some.inj g2]; exact Or.inr (Or.inr (Or.inl ⟨rfl, rfl⟩))
        | 8, g1, g2 => rw [← Option.some.inj g1, ← Option.some.inj g2]; exact Or.inr (Or.inr (Or.inl ⟨rfl, rfl⟩))
        | n + 9, g1, g2 => cases g1
      | 1, _, hk => refine ⟨_, rfl, ?_⟩; rw [← Option.some.inj hk]; exact Or.inl ⟨rfl, _, rfl, zI _ _ (by decide) (by decide) (by decide)⟩
      | 2, _, hk => refine ⟨_, rfl, ?_⟩; rw [← Option.some.inj hk]; exact Or.inl ⟨rfl, _, rfl, zI _ _ (by decide) (by decide) (by decide)⟩
      | 3, _, hk => refine ⟨_, rfl, ?_⟩; rw [← Option.some.inj hk]; exact Or.inr (Or.inl ⟨rfl, _, rfl⟩)
      | 4, _, hk => refine ⟨_, rfl, ?_⟩; rw [← Option.some.inj hk]; exact Or.inr (Or.inl ⟨rfl, _, rfl⟩)
      | 5, _, hk => refine ⟨_, rfl, ?_⟩; rw [← Option.some.inj hk]; exact Or.inr (Or.inl ⟨rfl, _, rfl⟩)
      | 6, _, hk => refine ⟨_, rfl, ?_⟩; rw [← Option.some.inj hk]; exact Or.inl ⟨rfl, _, rfl, zI _ _ (by decide) (by decide) (by decide)⟩
theorem gc_made {G : KG} {w0 : va_W} (hl : w0.length = 109) {x : Nat × va_E} (a pb pc px py ps pt : Nat) : GC G ((w0 ++ c7 G a pb pc px py ps pt).set 0 x) := by
  refine ⟨pc, fun _ => 0, ?_, fun k _ => ⟨by show 0 ≤ (0 : Int32).toInt; decide, by show (0 : Int32).toInt ≤ 15480; decide, by show (0 : Int32).toInt % 128 ≤ 120; decide⟩⟩
  rw [set_other (by decide), List.getElem?_append_right (by omega), hl]
  rfl
theorem fx_made {G : KG} {ad : Nat → Nat} {w0 : va_W} (hl : w0.length = 109) {fs : List Value} (o1 : w0[0]? = some (ad 0, ob 10 fs)) (a pb pc px py ps pt : Nat) : FX mk_nxe 109 w0 ((w0 ++ c7 G a pb pc px py ps pt).set 0 (ad 0, ob 10 (fs.set 15 (.ref a)))) := by
  intro k j hk hM
  have o3 : (w0 ++ c7 G a pb pc px py ps pt)[0]? = some (ad 0, ob 10 fs) := by rw [List.getElem?_append_left (by omega)]; exact o1
  rw [cget_set o3 (fun h => by rw [h.1, h.2] at hM; exact absurd hM (by decide))]
  unfold cget
  rw [List.getElem?_append_left (by omega)]
abbrev rm_gpN : Room := { frames := 4, cells := 7, slots := 80434, locals := 96 }
theorem ac_gpN (l : Launch) (G : KG) {ad : Nat → Nat} {w0 : va_W} (hW : WT G ad TX w0) (hl : w0.length = 109) (hn : fget w0 0 15 = some .null) : Ct l G yX10_gatherPulls cX10_gatherPulls 1 (some (.object RX3)) rm_gpN [.ref (ad 0)] w0 (fun r w1 => ∃ ad' : Nat → Nat, (∀ k, k < 109 → ad' k = ad k) ∧ r = some (.ref (ad' 109)) ∧ WT G ad' TXP w1 ∧ GF G w0 w1 ∧ w1.length = 116) := by
  refine ct_of [(0, .ref (ad 0))] (by decide) (Nat.le_of_ble_eq_true rfl) rfl ?_
  intro p e s m args below meth c A X
  obtain ⟨fs, o1, o2⟩ := fget_ob (T := TX) hW (k := 0) (j := 15) rfl hn
  refine z_aload_n X d_gp_0 rfl 0 rfl ?_
  refine hget (T := TX) X hW (idx := 291) (fld_10_ok _ (by decide : (291, 10, 15) ∈ fld_10)) d_gp_1 rfl hn ?_
  refine z_ifnonnullN X d_gp_4 ?_
  refine z_aload_n X d_gp_7 rfl 0 rfl ?_
  refine z_new X (T := TX3) (N := 9) (ci := 3) rfl wsb_3 tyX3 tyX3_ok cl_10_269 is_3 in_3 (fs := [.int 0, .int 0, .int 0, .null, .null, .null, .null, .null, .null]) (by decide) (Nat.le_of_ble_eq_true rfl) (Nat.le_of_ble_eq_true rfl) d_gp_8 (fun a => ?_)
  refine z_dup X d_gp_11 rfl ?_
  refine z_callIN X k_10_295 (c_X3_init l G a) d_gp_12 ⟨Nat.le_of_ble_eq_true rfl, Nat.le_of_ble_eq_true rfl⟩ ⟨Nat.le_of_ble_eq_true rfl, Nat.le_of_ble_eq_true rfl⟩ rfl (rest := [.ref a, .ref (ad 0)]) (As := []) rfl (Nat.le_of_ble_eq_true rfl) [109] (List.range 109) (by
    show [(w0 ++ _)[109]?] = _
    rw [List.getElem?_append_right (by omega), hl]
    rfl) (by decide) (wr := w0) (by
    have h9 := range_pick w0
    rw [hl] at h9
    rw [← h9]
    refine List.map_congr_left (fun i hi => ?_)
    have := List.mem_range.mp hi
    exact List.getElem?_append_left (by omega)) (va_nd_range _) (by decide) (fun r w1 hp => ?_)
  obtain ⟨pb, pc, px, py, ps, pt, rfl, rfl⟩ := hp
  have o3 : (w0 ++ c7 G a pb pc px py ps pt)[0]? = some (ad 0, ob 10 fs) := by rw [List.getElem?_append_left (by omega)]; exact o1
  refine z_put X fl_10_291 d_gp_15 0 o3 (ty := (.object "StoneThatShakes$Pulls")) (T := TX10) (N := 16) rfl (Or.inl rfl) (by decide +kernel) rfl (by rfl) (lt_of_getE o2) rfl ?_
  have h0 : ad7 ad [a, pb, pc, px, py, ps, pt] 0 = ad 0 := ad7_lo (by decide)
  have ht : Z p l e rm_gpN s m args below meth c 1 G A (MQ below (QQ G A (fun r w1 => ∃ ad' : Nat → Nat, (∀ k, k < 109 → ad' k = ad k) ∧ r = some (.ref (ad' 109)) ∧ WT G ad' TXP w1 ∧ GF G w0 w1 ∧ w1.length = 116)) args s 7 80434 A) 18 [(0, .ref (ad7 ad [a, pb, pc, px, py, ps, pt] 0))] [] ((w0 ++ c7 G a pb pc px py ps pt).set 0 (ad 0, ob 10 (fs.set 15 (.ref a)))) 7 80434 := gp_tail (ad := ad7 ad [a, pb, pc, px, py, ps, pt]) X (wt_made hW hl o1 a pb pc px py ps pt) ⟨gc_made hl a pb pc px py ps pt, fx_made hl o1 a pb pc px py ps pt⟩ (by decide) (by decide) (by decide) (by decide) (Nat.le_refl _) (Nat.le_refl _) (fun w1 h1 h2 h3 => ⟨_, fun k hk => ad7_lo hk, rfl, h1, h2, by rw [h3, List.length_set, List.length_append, hl]; rfl⟩)
  rw [h0] at ht
  exact ht
