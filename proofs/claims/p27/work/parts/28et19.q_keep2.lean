section
/-! again where nothing is kept -/
theorem de_X11_again_27 : decode cX11_again 27 = .ok (.ireturn, 1) := by decide +kernel
abbrev be_X11_again_26_27 : ZB := [(.iconst 0, .int 0)]
theorem ke_X11_again_26_27 : zchk cX11_again be_X11_again_26_27 26 = true ∧ zpc be_X11_again_26_27 26 = 27 := ⟨by decide +kernel, rfl⟩
set_option maxHeartbeats 4000000 in
set_option maxRecDepth 100000 in
theorem ce_X11_again0 (l : Launch) (G : KG) (mo : Nat) (th : Int32) (g_rows : Value) (g_row : Value) (hc : Int32) (r_planeOf : Nat) (r_holeX : Nat) (r_holeY : Nat) (r_room : Nat) (r_ounces : Nat) (r_deepOf : Nat) (sc : Int32) (r_factor : Nat) (r_otherOf : Nat) (r_isApart : Nat) (r_apartX : Nat) (r_apartY : Nat) (cc : Int32) (r_weight : Nat) (r_tape : Nat) (n : Int32) (p : Int32) (lim : Int32) (fi : Int32) (g_crossOf : Value) (g_trueX : Value) (g_trueY : Value) (r_thoughtX : Nat) (r_thoughtY : Nat) (g_poundHole : Int32) (g_poundOunces : Int32) (g_lead : Value) (g_trials : Int32) (r_trialSpeed : Nat) (r_isWhole : Nat) (r_trialX : Nat) (r_trialY : Nat) (r_trialGive : Nat) (r_trialLead : Nat) (g_baseX : Value) (g_baseY : Value) (g_timesPull : Value) (g_trialBaseX : Value) (g_trialBaseY : Value) (g_trialTimes : Value) (g_pulls : Value) (g_pullMany : Value) (g_sizes : Value) (g_merged : Value) (g_nextHole : Value) (g_nextOunces : Value) (g_leftBehind : Value) (g_manUp : Value) (g_manLow : Value) (g_asked : Value) (g_lowOf : Value) (g_highOf : Value) (g_tried : Value) (g_found : Value) (g_askedMany : Value) (g_mostHoles : Value) (g_isFound : Value) (g_foundRest : Value) (g_foundOunces : Value) (g_question : Value) (g_questionSpeed : Value) (g_ounceRest : Value) (g_parts : Value) (g_filled : Value) (g_cogAt : Value) (g_cogBest : Value) (g_isOrdered : Value) (g_orderSize : Value) (r_isKept : Nat) (r_kept : Nat) (g_keptAt : Int32) (fk : Nat → Int32) (fb : Nat → Int32) (fu : Nat → Int32) (fX : Nat → Int32) (fY : Nat → Int32) (fa : Nat → Int32) (fA : Nat → Int32) (fB : Nat → Int32) (fS : Nat → Int32) (fW : Nat → Int32) (f1 : Nat → Int32) (f2 : Nat → Int32) (f3 : Nat → Int32) (f4 : Nat → Int32) (a : Int32) (ai : Int) (hci : Int) (sci : Int) (ha : a.toInt = ai) (hhc : hc.toInt = hci) (hsc : sc.toInt = sci) (hc0 : 0 ≤ hci ∧ hci ≤ 16 ∧ 0 ≤ sci ∧ sci ≤ 6) (ha0 : 0 ≤ ai ∧ ai ≤ 2) (hb0 : (fb a.toNatClampNeg).toInt = 0) : Ct l G yX11_again cX11_again 4 (some .boolean) { frames := 1, cells := 0, slots := 0, locals := 25 } [.ref mo, .int a] [(mo, ob 11 [.int th, g_rows, g_row, .int hc, .ref r_planeOf, .ref r_holeX, .ref r_holeY, .ref r_room, .ref r_ounces, .ref r_deepOf, .int sc, .ref r_factor, .ref r_otherOf, .ref r_isApart, .ref r_apartX, .ref r_apartY, .int cc, .ref r_weight, .ref r_tape, .int n, .int p, .int lim, .int fi, g_crossOf, g_trueX, g_trueY, .ref r_thoughtX, .ref r_thoughtY, .int g_poundHole, .int g_poundOunces, g_lead, .int g_trials, .ref r_trialSpeed, .ref r_isWhole, .ref r_trialX, .ref r_trialY, .ref r_trialGive, .ref r_trialLead, g_baseX, g_baseY, g_timesPull, g_trialBaseX, g_trialBaseY, g_trialTimes, g_pulls, g_pullMany, g_sizes, g_merged, g_nextHole, g_nextOunces, g_leftBehind, g_manUp, g_manLow, g_asked, g_lowOf, g_highOf, g_tried, g_found, g_askedMany, g_mostHoles, g_isFound, g_foundRest, g_foundOunces, g_question, g_questionSpeed, g_ounceRest, g_parts, g_filled, g_cogAt, g_cogBest, g_isOrdered, g_orderSize, .ref r_isKept, .ref r_kept, .int g_keptAt]), (r_kept, aI G 462 fk), (r_isKept, aZ G 3 fb), (r_ounces, aI G 16 fu), (r_thoughtX, aI G 4 fX), (r_thoughtY, aI G 4 fY), (r_isApart, aZ G 6 fa), (r_apartX, aI G 6 fA), (r_apartY, aI G 6 fB), (r_trialSpeed, aI G 12 fS), (r_isWhole, aZ G 12 fW), (r_trialX, aI G 12 f1), (r_trialY, aI G 12 f2), (r_trialGive, aI G 12 f3), (r_trialLead, aI G 48 f4)] (fun r w1 => r = some (.int 0) ∧ w1 = [(mo, ob 11 [.int (0 : Int32), g_rows, g_row, .int hc, .ref r_planeOf, .ref r_holeX, .ref r_holeY, .ref r_room, .ref r_ounces, .ref r_deepOf, .int sc, .ref r_factor, .ref r_otherOf, .ref r_isApart, .ref r_apartX, .ref r_apartY, .int cc, .ref r_weight, .ref r_tape, .int n, .int p, .int lim, .int fi, g_crossOf, g_trueX, g_trueY, .ref r_thoughtX, .ref r_thoughtY, .int g_poundHole, .int g_poundOunces, g_lead, .int g_trials, .ref r_trialSpeed, .ref r_isWhole, .ref r_trialX, .ref r_trialY, .ref r_trialGive, .ref r_trialLead, g_baseX, g_baseY, g_timesPull, g_trialBaseX, g_trialBaseY, g_trialTimes, g_pulls, g_pullMany, g_sizes, g_merged, g_nextHole, g_nextOunces, g_leftBehind, g_manUp, g_manLow, g_asked, g_lowOf, g_highOf, g_tried, g_found, g_askedMany, g_mostHoles, g_isFound, g_foundRest, g_foundOunces, g_question, g_questionSpeed, g_ounceRest, g_parts, g_filled, g_cogAt, g_cogBest, g_isOrdered, g_orderSize, .ref r_isKept, .ref r_kept, .int g_keptAt]), (r_kept, aI G 462 fk), (r_isKept, aZ G 3 fb), (r_ounces, aI G 16 fu), (r_thoughtX, aI G 4 fX), (r_thoughtY, aI G 4 fY), (r_isApart, aZ G 6 fa), (r_apartX, aI G 6 fA), (r_apartY, aI G 6 fB), (r_trialSpeed, aI G 12 fS), (r_isWhole, aZ G 12 fW), (r_trialX, aI G 12 f1), (r_trialY, aI G 12 f2), (r_trialGive, aI G 12 f3), (r_trialLead, aI G 48 f4)]) := by
  refine ct_of [(0, .ref mo), (1, .int a)] (by decide) (Nat.le_of_ble_eq_true rfl) rfl ?_
  intro p0 e0 s0 m0 args0 below0 meth0 c0 A X
  refine z_run X be_X11_again_0_2 ke_X11_again_0_2 (lv' := [(0, .ref mo), (1, .int a)]) (st' := [.int 0, .ref mo]) rfl ?_
  refine z_put X fl_11_3 de_X11_again_2 0 rfl (ty := .int) (T := TX11) (N := 75) rfl (Or.inl rfl) (by decide +kernel) rfl (by rfl) (Nat.le_of_ble_eq_true rfl) (ws' := [(mo, ob 11 [.int 0, g_rows, g_row, .int hc, .ref r_planeOf, .ref r_holeX, .ref r_holeY, .ref r_room, .ref r_ounces, .ref r_deepOf, .int sc, .ref r_factor, .ref r_otherOf, .ref r_isApart, .ref r_apartX, .ref r_apartY, .int cc, .ref r_weight, .ref r_tape, .int n, .int p, .int lim, .int fi, g_crossOf, g_trueX, g_trueY, .ref r_thoughtX, .ref r_thoughtY, .int g_poundHole, .int g_poundOunces, g_lead, .int g_trials, .ref r_trialSpeed, .ref r_isWhole, .ref r_trialX, .ref r_trialY, .ref r_trialGive, .ref r_trialLead, g_baseX, g_baseY, g_timesPull, g_trialBaseX, g_trialBaseY, g_trialTimes, g_pulls, g_pullMany, g_sizes, g_merged, g_nextHole, g_nextOunces, g_leftBehind, g_manUp, g_manLow, g_asked, g_lowOf, g_highOf, g_tried, g_found, g_askedMany, g_mostHoles, g_isFound, g_foundRest, g_foundOunces, g_question, g_questionSpeed, g_ounceRest, g_parts, g_filled, g_cogAt, g_cogBest, g_isOrdered, g_orderSize, .ref r_isKept, .ref r_kept, .int g_keptAt]), (r_kept, aI G 462 fk), (r_isKept, aZ G 3 fb), (r_ounces, aI G 16 fu), (r_thoughtX, aI G 4 fX), (r_thoughtY, aI G 4 fY), (r_isApart, aZ G 6 fa), (r_apartX, aI G 6 fA), (r_apartY, aI G 6 fB), (r_trialSpeed, aI G 12 fS), (r_isWhole, aZ G 12 fW), (r_trialX, aI G 12 f1), (r_trialY, aI G 12 f2), (r_trialGive, aI G 12 f3), (r_trialLead, aI G 48 f4)]) rfl ?_
  refine z_run X be_X11_again_5_8 ke_X11_again_5_8 (lv' := [(0, .ref mo), (1, .int a)]) (st' := [.long 0, .long a.toInt64]) rfl ?_
  refine z_ldc2 X de_X11_again_8 cn_11_335 ?_
  refine z_callS X k_11_29 (cm_X11_in l G a.toInt64 0 2 ai 0 2 (tI64 ha) (show (0 : Int64).toInt = 0 from by decide) (show (2 : Int64).toInt = 2 from by decide)) de_X11_again_11 ⟨Nat.le_of_ble_eq_true rfl, Nat.le_of_ble_eq_true rfl⟩ ⟨Nat.le_of_ble_eq_true rfl, Nat.le_of_ble_eq_true rfl⟩ rfl (rest := []) (As := [.long a.toInt64, .long 0, .long 2]) rfl (Nat.le_of_ble_eq_true rfl) [] [0, 1, 2, 3, 4, 5, 6, 7, 8, 9, 10, 11, 12, 13, 14] rfl (by decide) (wr := [(mo, ob 11 [.int 0, g_rows, g_row, .int hc, .ref r_planeOf, .ref r_holeX, .ref r_holeY, .ref r_room, .ref r_ounces, .ref r_deepOf, .int sc, .ref r_factor, .ref r_otherOf, .ref r_isApart, .ref r_apartX, .ref r_apartY, .int cc, .ref r_weight, .ref r_tape, .int n, .int p, .int lim, .int fi, g_crossOf, g_trueX, g_trueY, .ref r_thoughtX, .ref r_thoughtY, .int g_poundHole, .int g_poundOunces, g_lead, .int g_trials, .ref r_trialSpeed, .ref r_isWhole, .ref r_trialX, .ref r_trialY, .ref r_trialGive, .ref r_trialLead, g_baseX, g_baseY, g_timesPull, g_trialBaseX, g_trialBaseY, g_trialTimes, g_pulls, g_pullMany, g_sizes, g_merged, g_nextHole, g_nextOunces, g_leftBehind, g_manUp, g_manLow, g_asked, g_lowOf, g_highOf, g_tried, g_found, g_askedMany, g_mostHoles, g_isFound, g_foundRest, g_foundOunces, g_question, g_questionSpeed, g_ounceRest, g_parts, g_filled, g_cogAt, g_cogBest, g_isOrdered, g_orderSize, .ref r_isKept, .ref r_kept, .int g_keptAt]), (r_kept, aI G 462 fk), (r_isKept, aZ G 3 fb), (r_ounces, aI G 16 fu), (r_thoughtX, aI G 4 fX), (r_thoughtY, aI G 4 fY), (r_isApart, aZ G 6 fa), (r_apartX, aI G 6 fA), (r_apartY, aI G 6 fB), (r_trialSpeed, aI G 12 fS), (r_isWhole, aZ G 12 fW), (r_trialX, aI G 12 f1), (r_trialY, aI G 12 f2), (r_trialGive, aI G 12 f3), (r_trialLead, aI G 48 f4)]) rfl (by decide) (by decide) ?_
  rintro _ _ ⟨rfl, rfl⟩
  refine Z.at (pc' := 14) (st' := [.int (zb (decide (0 ≤ ai ∧ ai ≤ 2)))]) (ws' := [(mo, ob 11 [.int 0, g_rows, g_row, .int hc, .ref r_planeOf, .ref r_holeX, .ref r_holeY, .ref r_room, .ref r_ounces, .ref r_deepOf, .int sc, .ref r_factor, .ref r_otherOf, .ref r_isApart, .ref r_apartX, .ref r_apartY, .int cc, .ref r_weight, .ref r_tape, .int n, .int p, .int lim, .int fi, g_crossOf, g_trueX, g_trueY, .ref r_thoughtX, .ref r_thoughtY, .int g_poundHole, .int g_poundOunces, g_lead, .int g_trials, .ref r_trialSpeed, .ref r_isWhole, .ref r_trialX, .ref r_trialY, .ref r_trialGive, .ref r_trialLead, g_baseX, g_baseY, g_timesPull, g_trialBaseX, g_trialBaseY, g_trialTimes, g_pulls, g_pullMany, g_sizes, g_merged, g_nextHole, g_nextOunces, g_leftBehind, g_manUp, g_manLow, g_asked, g_lowOf, g_highOf, g_tried, g_found, g_askedMany, g_mostHoles, g_isFound, g_foundRest, g_foundOunces, g_question, g_questionSpeed, g_ounceRest, g_parts, g_filled, g_cogAt, g_cogBest, g_isOrdered, g_orderSize, .ref r_isKept, .ref r_kept, .int g_keptAt]), (r_kept, aI G 462 fk), (r_isKept, aZ G 3 fb), (r_ounces, aI G 16 fu), (r_thoughtX, aI G 4 fX), (r_thoughtY, aI G 4 fY), (r_isApart, aZ G 6 fa), (r_apartX, aI G 6 fA), (r_apartY, aI G 6 fB), (r_trialSpeed, aI G 12 fS), (r_isWhole, aZ G 12 fW), (r_trialX, aI G 12 f1), (r_trialY, aI G 12 f2), (r_trialGive, aI G 12 f3), (r_trialLead, aI G 48 f4)]) (kc' := 0) (ks' := 0) rfl rfl rfl rfl rfl ?_
  refine zi_eq_zb X de_X11_again_14 (tgt := 26) (by decide) (fun c14_1n => absurd c14_1n (by omega)) (fun c14_1 => ?_)
  refine z_run X be_X11_again_17_18 ke_X11_again_17_18 (lv' := [(0, .ref mo), (1, .int a)]) (st' := [.ref mo]) rfl ?_
  refine z_get X fl_11_492 de_X11_again_18 0 rfl (v := .ref r_isKept) rfl ?_
  refine z_run X be_X11_again_21_22 ke_X11_again_21_22 (lv' := [(0, .ref mo), (1, .int a)]) (st' := [.int a, .ref r_isKept]) rfl ?_
  refine z_zald X de_X11_again_22 2 rfl (vin ha (by omega) (by omega)) (v := (fb a.toNatClampNeg)) rfl ?_
  refine zi_ne X de_X11_again_23 (tgt := 28) (by decide) (a := (fb a.toNatClampNeg).toInt) rfl (fun c23_2n => absurd c23_2n (by omega)) (fun c23_2 => ?_)
  refine z_run X be_X11_again_26_27 ke_X11_again_26_27 (lv' := [(0, .ref mo), (1, .int a)]) (st' := [.int 0]) rfl ?_
  exact z_zret X rfl rfl de_X11_again_27 (Nat.le_of_ble_eq_true rfl) (Nat.le_of_ble_eq_true rfl) ⟨rfl, rfl⟩
end
section
/-! the counts of trials, and what is kept of them -/
theorem pre_F2 {C : CE} {ts : List VT} {As : List Value} {x k0 j0 k1 j1 : Nat} {f g : Value} {t0 t1 : VT} (h1 : C.1 = (2, 0, 0) :: ts) (h2 : C.2.1 = [(k0, j0, t0), (k1, j1, t1)]) (hl : As.length < 99) (hA : AOK ts As) (ht : ∀ ad, vty ad t0 f) (hu : ∀ ad, vty ad t1 g) (hr : ∀ q ∈ C.2.2.1, vI (muF x As [f, g] q.1) ≤ vI (muF x As [f, g] q.2.1) + q.2.2) (ad : Nat → Nat) (w0 : va_W) (he : ad 0 = x) (hf : fget w0 k0 j0 = some f) (hg : fget w0 k1 j1 = some g) : PRE ad C (muF x As [f, g]) w0 := by
  refine ⟨fun j t hj => ?_, fun j q hj => ?_, hr⟩
  · rw [h1] at hj
    have hlt : j < 100 := by
      have h3 := (List.getElem?_eq_some_iff.mp hj).1
      rw [List.length_cons, aok_len ts As hA] at h3
      omega
    have e : muF x As [f, g] j = ((Value.ref x :: As)[j]?).getD .null := if_pos hlt
    rw [e]
    match j, hj with
    | 0, hj =>
      cases hj
      exact Or.inr (Or.inr (Or.inl ⟨rfl, by show Value.ref x = .ref (ad 0); rw [he]⟩))
    | j + 1, hj => exact aok_get ts As hA j t hj ad
  · rw [h2] at hj
    match j, hj with
    | 0, hj =>
      cases hj
      exact ⟨ht ad, hf⟩
    | 1, hj =>
      cases hj
      exact ⟨hu ad, hg⟩
    | j + 2, hj => cases hj
/-- a value by its relation to another -/
theorem rel_eq {ν : Nat → Value} {rl : ARl} {a b : Nat} {d : Int} {x y : Int32} (H : ∀ q ∈ rl, vI (ν q.1) ≤ vI (ν q.2.1) + q.2.2) (h1 : (a, b, d) ∈ rl) (h2 : (b, a, -d) ∈ rl) (ea : ν a = .int x) (eb : ν b = .int y) : x.toInt = y.toInt + d := by
  have g1 := H _ h1
  have g2 := H _ h2
  have g1 : vI (ν a) ≤ vI (ν b) + d := g1
  have g2 : vI (ν b) ≤ vI (ν a) + -d := g2
  rw [ea, eb] at g1 g2
  have g1 : x.toInt ≤ y.toInt + d := g1
  have g2 : y.toInt ≤ x.toInt + -d := g2
  omega
def RKi (kk b : Nat → Int32) (wx : va_W) (i : Nat) : Prop := ∃ fl c : Int32, fget wx (46 + 19 * i) 0 = some (.int fl) ∧ fget wx (55 + 19 * i) 0 = some (.int c) ∧ b i = fl ∧ (0 ≤ fl.toInt ∧ fl.toInt ≤ 1) ∧ (0 ≤ c.toInt ∧ c.toInt ≤ 12) ∧ (fl.toInt ≠ 0 → kk (154 * i + 44) = c)
def RelK (G : KG) (wx wm : va_W) : Prop := ∃ (t : Int32) (b kk : Nat → Int32), (0 ≤ t.toInt ∧ t.toInt ≤ 12) ∧ (fget wx 22 0 = some (.int t) ∧ fget wm 0 31 = some (.int t)) ∧ cget wm 45 0 = some (.inr (cyZ G, 3, .inl b)) ∧ cget wm 46 0 = some (.inr (cyI G, 462, .inl kk)) ∧ ∀ i : Nat, i < 3 → RKi kk b wx i
abbrev mK (m : List (Nat × Nat)) : Prop := (mkq m 46 0 = false ∧ mkq m 65 0 = false ∧ mkq m 84 0 = false) ∧ mkq m 55 0 = false ∧ mkq m 74 0 = false ∧ mkq m 93 0 = false
theorem RKi.keep {kk b : Nat → Int32} {wx wx' : va_W} {i : Nat} {m : List (Nat × Nat)} (h : RKi kk b wx i) (h1 : FX m 109 wx wx') (hi : i < 3) (hm : mkq m (46 + 19 * i) 0 = false ∧ mkq m (55 + 19 * i) 0 = false) : RKi kk b wx' i := by
  obtain ⟨fl, c, e1, e2, r⟩ := h
  exact ⟨fl, c, h1.get (by omega) hm.1 e1, h1.get (by omega) hm.2 e2, r⟩
theorem mK.at {m : List (Nat × Nat)} (h : mK m) {i : Nat} (hi : i < 3) : mkq m (46 + 19 * i) 0 = false ∧ mkq m (55 + 19 * i) 0 = false := by
  obtain ⟨⟨a0, a1, a2⟩, b0, b1, b2⟩ := h
  rcases (by omega : i = 0 ∨ i = 1 ∨ i = 2) with rfl | rfl | rfl
  · exact ⟨a0, b0⟩
  · exact ⟨a1, b1⟩
  · exact ⟨a2, b2⟩
section RLK
variable {G : KG} {wx wm wx' wm' : va_W} {m m' : List (Nat × Nat)}
theorem RelK.keep (h : RelK G wx wm) (h1 : FX m 109 wx wx') (h2 : FX m' 47 wm wm') (hm : mK m ∧ (mkq m 22 0 = false ∧ mkq m' 0 31 = false) ∧ mkq m' 45 0 = false ∧ mkq m' 46 0 = false) : RelK G wx' wm' := by
  obtain ⟨t, b, kk, ht, ⟨e1, e2⟩, e3, e4, e5⟩ := h
  obtain ⟨m0, ⟨m1, m2⟩, m3, m4⟩ := hm
  exact ⟨t, b, kk, ht, ⟨h1.get (by decide) m1 e1, h2.get (by decide) m2 e2⟩, (h2 45 0 (by decide) m3).trans e3, (h2 46 0 (by decide) m4).trans e4, fun i hi => (e5 i hi).keep h1 hi (m0.at hi)⟩
/-- another number of trials -/
theorem RelK.cnt (h : RelK G wx wm) (h1 : FX m 109 wx wx') (h2 : FX m' 47 wm wm') (hm : mK m ∧ mkq m' 45 0 = false ∧ mkq m' 46 0 = false) {t : Int32} (ht : 0 ≤ t.toInt ∧ t.toInt ≤ 12) (f1 : fget wx' 22 0 = some (.int t)) (f2 : fget wm' 0 31 = some (.int t)) : RelK G wx' wm' := by
  obtain ⟨_, b, kk, _, _, e3, e4, e5⟩ := h
  obtain ⟨m0, m3, m4⟩ := hm
  exact ⟨t, b, kk, ht, ⟨f1, f2⟩, (h2 45 0 (by decide) m3).trans e3, (h2 46 0 (by decide) m4).trans e4, fun i hi => (e5 i hi).keep h1 hi (m0.at hi)⟩
def KpE (G : KG) (t a : Int32) (b kk : Nat → Int32) (r : Option Value) (w1 : va_W) : Prop := r = some (.int 1) ∧ (∃ q : Nat → Int32, cget w1 45 0 = some (.inr (cyZ G, 3, .inl q)) ∧ ∀ j : Nat, j < 3 → q j = if (j : Int) = a.toInt then 1 else b j) ∧ ∃ q : Nat → Int32, cget w1 46 0 = some (.inr (cyI G, 462, .inl q)) ∧ q (154 * a.toInt + 44).toNat = t ∧ ∀ j : Nat, j < 462 → ((j : Int) < 154 * a.toInt ∨ 154 * a.toInt + 154 ≤ (j : Int)) → q j = kk j
/-- keep, at a number: the others as they were -/
theorem RelK.kp (h : RelK G wx wm) (h1 : FX m 109 wx wx') (h2 : FX m' 47 wm wm') {i : Nat} {t a : Int32} {b kk : Nat → Int32} (hi : i < 3) (ha : a.toInt = (i : Int)) (hm : (∀ j : Nat, j < 3 → j ≠ i → mkq m (46 + 19 * j) 0 = false ∧ mkq m (55 + 19 * j) 0 = false) ∧ mkq m 22 0 = false ∧ mkq m' 0 31 = false) (et : fget wx 22 0 = some (.int t)) (eb : cget wm 45 0 = some (.inr (cyZ G, 3, .inl b))) (ek : cget wm 46 0 = some (.inr (cyI G, 462, .inl kk))) {r : Option Value} (B : KpE G t a b kk r wm') {fl c : Int32} (x1 : fget wx' (46 + 19 * i) 0 = some (.int fl)) (x2 : fget wx' (55 + 19 * i) 0 = some (.int c)) (hf : fl.toInt = 1) (hc : c = t) : RelK G wx' wm' := by
  obtain ⟨t0, b0, k0, ht, ⟨e1, e2⟩, e3, e4, e5⟩ := h
  obtain rfl := some_int (et.symm.trans e1)
  have zb : b = b0 := by
    have z := Sum.inr.inj (Option.some.inj (eb.symm.trans e3))
    exact Sum.inl.inj (congrArg (fun q => q.2.2) z)
  subst zb
  obtain rfl := arrinj (ek.symm.trans e4)
  obtain ⟨-, ⟨q, q1, q2⟩, p, p1, p2, p3⟩ := B
  refine ⟨t, q, p, ht, ⟨h1.get (by decide) hm.2.1 e1, h2.get (by decide) hm.2.2 e2⟩, q1, p1, fun j hj => ?_⟩
  by_cases e : j = i
  · subst e
    refine ⟨fl, c, x1, x2, ?_, by omega, by rw [hc]; exact ht, fun _ => ?_⟩
    · rw [q2 j hj, if_pos ha.symm]
      exact Int32.toInt_inj.mp (by rw [hf]; decide)
    · rw [hc, ← p2, ha]
      congr 1
  · obtain ⟨f9, c9, y1, y2, y3, y4, y5, y6⟩ := (e5 j hj).keep h1 hj (hm.1 j hj e)
    refine ⟨f9, c9, y1, y2, ?_, y4, y5, fun g => ?_⟩
    · rw [q2 j hj, if_neg (by omega)]
      exact y3
    · rw [p3 (154 * j + 44) (by omega) (by omega)]
      exact y6 g
end RLK
def RelP (G : KG) (wx wm : va_W) : Prop := RelM G wx wm ∧ RelK G wx wm
theorem RelP.of {G : KG} {wx wm : va_W} (a : RelM G wx wm) (b : RelK G wx wm) : RelP G wx wm := ⟨a, b⟩
theorem RelP.m {G : KG} {wx wm : va_W} (h : RelP G wx wm) : RelM G wx wm := And.left h
theorem RelP.k {G : KG} {wx wm : va_W} (h : RelP G wx wm) : RelK G wx wm := And.right h
end
section
/-! copies, store, bringBack of the class -/
theorem dx_X10_copy_4 : decode cX10_copy 4 = .ok (.arraylength, 1) := by decide +kernel
theorem dx_X10_copy_5 : decode cX10_copy 5 = .ok (.if_icmp .ge 21, 3) := by decide +kernel
theorem dx_X10_copy_26 : decode cX10_copy 26 = .ok (.return_, 1) := by decide +kernel
theorem dx_X10_copy_10 : decode cX10_copy 10 = .ok (.arraylength, 1) := by decide +kernel
theorem dx_X10_copy_11 : decode cX10_copy 11 = .ok (.if_icmp .ge 15, 3) := by decide +kernel
theorem dx_X10_copy_18 : decode cX10_copy 18 = .ok (.iaload, 1) := by decide +kernel
theorem dx_X10_copy_19 : decode cX10_copy 19 = .ok (.iastore, 1) := by decide +kernel
theorem dx_X10_copy_23 : decode cX10_copy 23 = .ok (.goto (-21), 3) := by decide +kernel
abbrev bx_X10_copy_0_2 : ZB := [(.iconst 0, .int 0), (.istore_n 2, .null)]
theorem kx_X10_copy_0_2 : zchk cX10_copy bx_X10_copy_0_2 0 = true ∧ zpc bx_X10_copy_0_2 0 = 2 := ⟨by decide +kernel, rfl⟩
abbrev bx_X10_copy_2_4 : ZB := [(.iload_n 2, .null), (.aload_n 0, .null)]
theorem kx_X10_copy_2_4 : zchk cX10_copy bx_X10_copy_2_4 2 = true ∧ zpc bx_X10_copy_2_4 2 = 4 := ⟨by decide +kernel, rfl⟩
abbrev bx_X10_copy_8_10 : ZB := [(.iload_n 2, .null), (.aload_n 1, .null)]
theorem kx_X10_copy_8_10 : zchk cX10_copy bx_X10_copy_8_10 8 = true ∧ zpc bx_X10_copy_8_10 8 = 10 := ⟨by decide +kernel, rfl⟩
abbrev bx_X10_copy_14_18 : ZB := [(.aload_n 1, .null), (.iload_n 2, .null), (.aload_n 0, .null), (.iload_n 2, .null)]
theorem kx_X10_copy_14_18 : zchk cX10_copy bx_X10_copy_14_18 14 = true ∧ zpc bx_X10_copy_14_18 14 = 18 := ⟨by decide +kernel, rfl⟩
abbrev bx_X10_copy_20_23 : ZB := [(.iinc 2 1, .int 1)]
theorem kx_X10_copy_20_23 : zchk cX10_copy bx_X10_copy_20_23 20 = true ∧ zpc bx_X10_copy_20_23 20 = 23 := ⟨by decide +kernel, rfl⟩
set_option maxHeartbeats 4000000 in
set_option maxRecDepth 100000 in
theorem cx_X10_copy16 (l : Launch) (G : KG) (ff : Nat) (tt : Nat) (f : Nat → Int32) (g : Nat → Int32) : Ct l G yX10_copy cX10_copy 3 none { frames := 0, cells := 0, slots := 0, locals := 0 } [.ref ff, .ref tt] [(ff, aI G 16 f), (tt, aI G 16 g)] (fun r w1 => ∃ (g2 : Nat → Int32), (∀ j : Nat, j < 16 → g2 j = f j) ∧ r = none ∧ w1 = [(ff, aI G 16 f), (tt, aI G 16 g2)]) := by
  refine ct_of [(0, .ref ff), (1, .ref tt)] (by decide) (Nat.le_of_ble_eq_true rfl) rfl ?_
  intro p0 e0 s0 m0 args0 below0 meth0 c0 A X
  refine z_run X bx_X10_copy_0_2 kx_X10_copy_0_2 (lv' := [(2, .int 0), (0, .ref ff), (1, .ref tt)]) (st' := []) rfl ?_
  refine zloop (σ := Int32 × (Nat → Int32)) (fun z => [(2, .int z.1), (0, .ref ff), (1, .ref tt)]) (fun z => []) (fun z => [(ff, aI G 16 f), (tt, aI G 16 z.2)]) (fun z => (0 ≤ z.1.toInt ∧ z.1.toInt ≤ 16) ∧ (∀ j : Nat, (j : Int) < z.1.toInt → z.2 j = f j)) (fun z => (16 - z.1.toInt).toNat) (0, g) ?_ ?_
  ·
    rintro ⟨i_, g1⟩ ⟨hi, hg⟩ ih2
    dsimp only at *
    refine z_run X bx_X10_copy_2_4 kx_X10_copy_2_4 (lv' := [(2, .int i_), (0, .ref ff), (1, .ref tt)]) (st' := [.ref ff, .int i_]) rfl ?_
    refine z_alen X dx_X10_copy_4 0 0 rfl rfl (v := 16) rfl ?_
    refine zc_ge X dx_X10_copy_5 (tgt := 26) (by decide) (a := i_.toInt) (b := 16) rfl (show (16 : Int32).toInt = 16 from by decide) (fun c5_1 => ?_) (fun c5_1 => ?_)
    ·
      exact z_vret X rfl dx_X10_copy_26 (Nat.le_of_ble_eq_true rfl) (Nat.le_of_ble_eq_true rfl) ⟨g1, (fun j hj => hg j (by omega)), rfl, rfl⟩
    ·
      refine z_run X bx_X10_copy_8_10 kx_X10_copy_8_10 (lv' := [(2, .int i_), (0, .ref ff), (1, .ref tt)]) (st' := [.ref tt, .int i_]) rfl ?_
      refine z_alen X dx_X10_copy_10 1 0 rfl rfl (v := 16) rfl ?_
      refine zc_ge X dx_X10_copy_11 (tgt := 26) (by decide) (a := i_.toInt) (b := 16) rfl (show (16 : Int32).toInt = 16 from by decide) (fun c11_2n => absurd c11_2n (by omega)) (fun c11_2 => ?_)
      refine z_run X bx_X10_copy_14_18 kx_X10_copy_14_18 (lv' := [(2, .int i_), (0, .ref ff), (1, .ref tt)]) (st' := [.int i_, .ref ff, .int i_, .ref tt]) rfl ?_
      refine z_iald X dx_X10_copy_18 0 rfl (vin rfl (by omega) (by omega)) (v := (f i_.toNatClampNeg)) rfl ?_
      refine z_iast X dx_X10_copy_19 1 rfl (vin rfl (by omega) (by omega)) (ws' := [(ff, aI G 16 f), (tt, aI G 16 (upd g1 i_.toNatClampNeg (f i_.toNatClampNeg)))]) rfl ?_
      refine z_run X bx_X10_copy_20_23 kx_X10_copy_20_23 (lv' := [(2, .int (i_ + 1)), (0, .ref ff), (1, .ref tt)]) (st' := []) rfl ?_
      refine z_goto X dx_X10_copy_23 (tgt := 2) (by decide) ?_
      exact ih2 ((i_ + 1), (upd g1 i_.toNatClampNeg (f i_.toNatClampNeg))) ⟨(by dsimp only; have e : (i_ + 1).toInt = i_.toInt + 1 := tI_add rfl (show (1 : Int32).toInt = 1 from by decide) (by omega); omega), (by dsimp only; have e : (i_ + 1).toInt = i_.toInt + 1 := tI_add rfl (show (1 : Int32).toInt = 1 from by decide) (by omega); rw [e]; exact st_step hi.1 hg rfl)⟩ (by dsimp only; have e : (i_ + 1).toInt = i_.toInt + 1 := tI_add rfl (show (1 : Int32).toInt = 1 from by decide) (by omega); omega)
  · exact ⟨(by dsimp only; have e0 : (0 : Int32).toInt = 0 := (by decide); omega), (by dsimp only; have e0 : (0 : Int32).toInt = 0 := (by decide); intro j hj; omega)⟩

set_option maxHeartbeats 4000000 in
set_option maxRecDepth 100000 in
theorem cx_X10_copy8 (l : Launch) (G : KG) (ff : Nat) (tt : Nat) (f : Nat → Int32) (g : Nat → Int32) : Ct l G yX10_copy cX10_copy 3 none { frames := 0, cells := 0, slots := 0, locals := 0 } [.ref ff, .ref tt] [(ff, aI G 8 f), (tt, aI G 8 g)] (fun r w1 => ∃ (g2 : Nat → Int32), (∀ j : Nat, j < 8 → g2 j = f j) ∧ r = none ∧ w1 = [(ff, aI G 8 f), (tt, aI G 8 g2)]) := by
  refine ct_of [(0, .ref ff), (1, .ref tt)] (by decide) (Nat.le_of_ble_eq_true rfl) rfl ?_
  intro p0 e0 s0 m0 args0 below0 meth0 c0 A X
  refine z_run X bx_X10_copy_0_2 kx_X10_copy_0_2 (lv' := [(2, .int 0), (0, .ref ff), (1, .ref tt)]) (st' := []) rfl ?_
  refine zloop (σ := Int32 × (Nat → Int32)) (fun z => [(2, .int z.1), (0, .ref ff), (1, .ref tt)]) (fun z => []) (fun z => [(ff, aI G 8 f), (tt, aI G 8 z.2)]) (fun z => (0 ≤ z.1.toInt ∧ z.1.toInt ≤ 8) ∧ (∀ j : Nat, (j : Int) < z.1.toInt → z.2 j = f j)) (fun z => (8 - z.1.toInt).toNat) (0, g) ?_ ?_
  ·
    rintro ⟨i_, g1⟩ ⟨hi, hg⟩ ih2
    dsimp only at *
    refine z_run X bx_X10_copy_2_4 kx_X10_copy_2_4 (lv' := [(2, .int i_), (0, .ref ff), (1, .ref tt)]) (st' := [.ref ff, .int i_]) rfl ?_
    refine z_alen X dx_X10_copy_4 0 0 rfl rfl (v := 8) rfl ?_
    refine zc_ge X dx_X10_copy_5 (tgt := 26) (by decide) (a := i_.toInt) (b := 8) rfl (show (8 : Int32).toInt = 8 from by decide) (fun c5_1 => ?_) (fun c5_1 => ?_)
    ·
      exact z_vret X rfl dx_X10_copy_26 (Nat.le_of_ble_eq_true rfl) (Nat.le_of_ble_eq_true rfl) ⟨g1, (fun j hj => hg j (by omega)), rfl, rfl⟩
    ·
      refine z_run X bx_X10_copy_8_10 kx_X10_copy_8_10 (lv' := [(2, .int i_), (0, .ref ff), (1, .ref tt)]) (st' := [.ref tt, .int i_]) rfl ?_
      refine z_alen X dx_X10_copy_10 1 0 rfl rfl (v := 8) rfl ?_
      refine zc_ge X dx_X10_copy_11 (tgt := 26) (by decide) (a := i_.toInt) (b := 8) rfl (show (8 : Int32).toInt = 8 from by decide) (fun c11_2n => absurd c11_2n (by omega)) (fun c11_2 => ?_)
      refine z_run X bx_X10_copy_14_18 kx_X10_copy_14_18 (lv' := [(2, .int i_), (0, .ref ff), (1, .ref tt)]) (st' := [.int i_, .ref ff, .int i_, .ref tt]) rfl ?_
      refine z_iald X dx_X10_copy_18 0 rfl (vin rfl (by omega) (by omega)) (v := (f i_.toNatClampNeg)) rfl ?_
      refine z_iast X dx_X10_copy_19 1 rfl (vin rfl (by omega) (by omega)) (ws' := [(ff, aI G 8 f), (tt, aI G 8 (upd g1 i_.toNatClampNeg (f i_.toNatClampNeg)))]) rfl ?_
      refine z_run X bx_X10_copy_20_23 kx_X10_copy_20_23 (lv' := [(2, .int (i_ + 1)), (0, .ref ff), (1, .ref tt)]) (st' := []) rfl ?_
      refine z_goto X dx_X10_copy_23 (tgt := 2) (by decide) ?_
      exact ih2 ((i_ + 1), (upd g1 i_.toNatClampNeg (f i_.toNatClampNeg))) ⟨(by dsimp only; have e : (i_ + 1).toInt = i_.toInt + 1 := tI_add rfl (show (1 : Int32).toInt = 1 from by decide) (by omega); omega), (by dsimp only; have e : (i_ + 1).toInt = i_.toInt + 1 := tI_add rfl (show (1 : Int32).toInt = 1 from by decide) (by omega); rw [e]; exact st_step hi.1 hg rfl)⟩ (by dsimp only; have e : (i_ + 1).toInt = i_.toInt + 1 := tI_add rfl (show (1 : Int32).toInt = 1 from by decide) (by omega); omega)
  · exact ⟨(by dsimp only; have e0 : (0 : Int32).toInt = 0 := (by decide); omega), (by dsimp only; have e0 : (0 : Int32).toInt = 0 := (by decide); intro j hj; omega)⟩

set_option maxHeartbeats 4000000 in
set_option maxRecDepth 100000 in
theorem cx_X10_copy6 (l : Launch) (G : KG) (ff : Nat) (tt : Nat) (f : Nat → Int32) (g : Nat → Int32) : Ct l G yX10_copy cX10_copy 3 none { frames := 0, cells := 0, slots := 0, locals := 0 } [.ref ff, .ref tt] [(ff, aI G 6 f), (tt, aI G 6 g)] (fun r w1 => ∃ (g2 : Nat → Int32), (∀ j : Nat, j < 6 → g2 j = f j) ∧ r = none ∧ w1 = [(ff, aI G 6 f), (tt, aI G 6 g2)]) := by
  refine ct_of [(0, .ref ff), (1, .ref tt)] (by decide) (Nat.le_of_ble_eq_true rfl) rfl ?_
  intro p0 e0 s0 m0 args0 below0 meth0 c0 A X
  refine z_run X bx_X10_copy_0_2 kx_X10_copy_0_2 (lv' := [(2, .int 0), (0, .ref ff), (1, .ref tt)]) (st' := []) rfl ?_
  refine zloop (σ := Int32 × (Nat → Int32)) (fun z => [(2, .int z.1), (0, .ref ff), (1, .ref tt)]) (fun z => []) (fun z => [(ff, aI G 6 f), (tt, aI G 6 z.2)]) (fun z => (0 ≤ z.1.toInt ∧ z.1.toInt ≤ 6) ∧ (∀ j : Nat, (j : Int) < z.1.toInt → z.2 j = f j)) (fun z => (6 - z.1.toInt).toNat) (0, g) ?_ ?_
  ·
    rintro ⟨i_, g1⟩ ⟨hi, hg⟩ ih2
    dsimp only at *
    refine z_run X bx_X10_copy_2_4 kx_X10_copy_2_4 (lv' := [(2, .int i_), (0, .ref ff), (1, .ref tt)]) (st' := [.ref ff, .int i_]) rfl ?_
    refine z_alen X dx_X10_copy_4 0 0 rfl rfl (v := 6) rfl ?_
    refine zc_ge X dx_X10_copy_5 (tgt := 26) (by decide) (a := i_.toInt) (b := 6) rfl (show (6 : Int32).toInt = 6 from by decide) (fun c5_1 => ?_) (fun c5_1 => ?_)
    ·
      exact z_vret X rfl dx_X10_copy_26 (Nat.le_of_ble_eq_true rfl) (Nat.le_of_ble_eq_true rfl) ⟨g1, (fun j hj => hg j (by omega)), rfl, rfl⟩
    ·
      refine z_run X bx_X10_copy_8_10 kx_X10_copy_8_10 (lv' := [(2, .int i_), (0, .ref ff), (1, .ref tt)]) (st' := [.ref tt, .int i_]) rfl ?_
      refine z_alen X dx_X10_copy_10 1 0 rfl rfl (v := 6) rfl ?_
      refine zc_ge X dx_X10_copy_11 (tgt := 26) (by decide) (a := i_.toInt) (b := 6) rfl (show (6 : Int32).toInt = 6 from by decide) (fun c11_2n => absurd c11_2n (by omega)) (fun c11_2 => ?_)
      refine z_run X bx_X10_copy_14_18 kx_X10_copy_14_18 (lv' := [(2, .int i_), (0, .ref ff), (1, .ref tt)]) (st' := [.int i_, .ref ff, .int i_, .ref tt]) rfl ?_
      refine z_iald X dx_X10_copy_18 0 rfl (vin rfl (by omega) (by omega)) (v := (f i_.toNatClampNeg)) rfl ?_
      refine z_iast X dx_X10_copy_19 1 rfl (vin rfl (by omega) (by omega)) (ws' := [(ff, aI G 6 f), (tt, aI G 6 (upd g1 i_.toNatClampNeg (f i_.toNatClampNeg)))]) rfl ?_
      refine z_run X bx_X10_copy_20_23 kx_X10_copy_20_23 (lv' := [(2, .int (i_ + 1)), (0, .ref ff), (1, .ref tt)]) (st' := []) rfl ?_
      refine z_goto X dx_X10_copy_23 (tgt := 2) (by decide) ?_
      exact ih2 ((i_ + 1), (upd g1 i_.toNatClampNeg (f i_.toNatClampNeg))) ⟨(by dsimp only; have e : (i_ + 1).toInt = i_.toInt + 1 := tI_add rfl (show (1 : Int32).toInt = 1 from by decide) (by omega); omega), (by dsimp only; have e : (i_ + 1).toInt = i_.toInt + 1 := tI_add rfl (show (1 : Int32).toInt = 1 from by decide) (by omega); rw [e]; exact st_step hi.1 hg rfl)⟩ (by dsimp only; have e : (i_ + 1).toInt = i_.toInt + 1 := tI_add rfl (show (1 : Int32).toInt = 1 from by decide) (by omega); omega)
  · exact ⟨(by dsimp only; have e0 : (0 : Int32).toInt = 0 := (by decide); omega), (by dsimp only; have e0 : (0 : Int32).toInt = 0 := (by decide); intro j hj; omega)⟩

set_option maxHeartbeats 4000000 in
set_option maxRecDepth 100000 in
theorem cx_X10_copy12 (l : Launch) (G : KG) (ff : Nat) (tt : Nat) (f : Nat → Int32) (g : Nat → Int32) : Ct l G yX10_copy cX10_copy 3 none { frames := 0, cells := 0, slots := 0, locals := 0 } [.ref ff, .ref tt] [(ff, aI G 12 f), (tt, aI G 12 g)] (fun r w1 => ∃ (g2 : Nat → Int32), (∀ j : Nat, j < 12 → g2 j = f j) ∧ r = none ∧ w1 = [(ff, aI G 12 f), (tt, aI G 12 g2)]) := by
  refine ct_of [(0, .ref ff), (1, .ref tt)] (by decide) (Nat.le_of_ble_eq_true rfl) rfl ?_
  intro p0 e0 s0 m0 args0 below0 meth0 c0 A X
  refine z_run X bx_X10_copy_0_2 kx_X10_copy_0_2 (lv' := [(2, .int 0), (0, .ref ff), (1, .ref tt)]) (st' := []) rfl ?_
  refine zloop (σ := Int32 × (Nat → Int32)) (fun z => [(2, .int z.1), (0, .ref ff), (1, .ref tt)]) (fun z => []) (fun z => [(ff, aI G 12 f), (tt, aI G 12 z.2)]) (fun z => (0 ≤ z.1.toInt ∧ z.1.toInt ≤ 12) ∧ (∀ j : Nat, (j : Int) < z.1.toInt → z.2 j = f j)) (fun z => (12 - z.1.toInt).toNat) (0, g) ?_ ?_
  ·
    rintro ⟨i_, g1⟩ ⟨hi, hg⟩ ih2
    dsimp only at *
    refine z_run X bx_X10_copy_2_4 kx_X10_copy_2_4 (lv' := [(2, .int i_), (0, .ref ff), (1, .ref tt)]) (st' := [.ref ff, .int i_]) rfl ?_
    refine z_alen X dx_X10_copy_4 0 0 rfl rfl (v := 12) rfl ?_
    refine zc_ge X dx_X10_copy_5 (tgt := 26) (by decide) (a := i_.toInt) (b := 12) rfl (show (12 : Int32).toInt = 12 from by decide) (fun c5_1 => ?_) (fun c5_1 => ?_)
    ·
      exact z_vret X rfl dx_X10_copy_26 (Nat.le_of_ble_eq_true rfl) (Nat.le_of_ble_eq_true rfl) ⟨g1, (fun j hj => hg j (by omega)), rfl, rfl⟩
    ·
      refine z_run X bx_X10_copy_8_10 kx_X10_copy_8_10 (lv' := [(2, .int i_), (0, .ref ff), (1, .ref tt)]) (st' := [.ref tt, .int i_]) rfl ?_
      refine z_alen X dx_X10_copy_10 1 0 rfl rfl (v := 12) rfl ?_
      refine zc_ge X dx_X10_copy_11 (tgt := 26) (by decide) (a := i_.toInt) (b := 12) rfl (show (12 : Int32).toInt = 12 from by decide) (fun c11_2n => absurd c11_2n (by omega)) (fun c11_2 => ?_)
      refine z_run X bx_X10_copy_14_18 kx_X10_copy_14_18 (lv' := [(2, .int i_), (0, .ref ff), (1, .ref tt)]) (st' := [.int i_, .ref ff, .int i_, .ref tt]) rfl ?_
      refine z_iald X dx_X10_copy_18 0 rfl (vin rfl (by omega) (by omega)) (v := (f i_.toNatClampNeg)) rfl ?_
      refine z_iast X dx_X10_copy_19 1 rfl (vin rfl (by omega) (by omega)) (ws' := [(ff, aI G 12 f), (tt, aI G 12 (upd g1 i_.toNatClampNeg (f i_.toNatClampNeg)))]) rfl ?_
      refine z_run X bx_X10_copy_20_23 kx_X10_copy_20_23 (lv' := [(2, .int (i_ + 1)), (0, .ref ff), (1, .ref tt)]) (st' := []) rfl ?_
      refine z_goto X dx_X10_copy_23 (tgt := 2) (by decide) ?_
      exact ih2 ((i_ + 1), (upd g1 i_.toNatClampNeg (f i_.toNatClampNeg))) ⟨(by dsimp only; have e : (i_ + 1).toInt = i_.toInt + 1 := tI_add rfl (show (1 : Int32).toInt = 1 from by decide) (by omega); omega), (by dsimp only; have e : (i_ + 1).toInt = i_.toInt + 1 := tI_add rfl (show (1 : Int32).toInt = 1 from by decide) (by omega); rw [e]; exact st_step hi.1 hg rfl)⟩ (by dsimp only; have e : (i_ + 1).toInt = i_.toInt + 1 := tI_add rfl (show (1 : Int32).toInt = 1 from by decide) (by omega); omega)
  · exact ⟨(by dsimp only; have e0 : (0 : Int32).toInt = 0 := (by decide); omega), (by dsimp only; have e0 : (0 : Int32).toInt = 0 := (by decide); intro j hj; omega)⟩

set_option maxHeartbeats 4000000 in
set_option maxRecDepth 100000 in
theorem cx_X10_copy48 (l : Launch) (G : KG) (ff : Nat) (tt : Nat) (f : Nat → Int32) (g : Nat → Int32) : Ct l G yX10_copy cX10_copy 3 none { frames := 0, cells := 0, slots := 0, locals := 0 } [.ref ff, .ref tt] [(ff, aI G 48 f), (tt, aI G 48 g)] (fun r w1 => ∃ (g2 : Nat → Int32), (∀ j : Nat, j < 48 → g2 j = f j) ∧ r = none ∧ w1 = [(ff, aI G 48 f), (tt, aI G 48 g2)]) := by
  refine ct_of [(0, .ref ff), (1, .ref tt)] (by decide) (Nat.le_of_ble_eq_true rfl) rfl ?_
  intro p0 e0 s0 m0 args0 below0 meth0 c0 A X
  refine z_run X bx_X10_copy_0_2 kx_X10_copy_0_2 (lv' := [(2, .int 0), (0, .ref ff), (1, .ref tt)]) (st' := []) rfl ?_
  refine zloop (σ := Int32 × (Nat → Int32)) (fun z => [(2, .int z.1), (0, .ref ff), (1, .ref tt)]) (fun z => []) (fun z => [(ff, aI G 48 f), (tt, aI G 48 z.2)]) (fun z => (0 ≤ z.1.toInt ∧ z.1.toInt ≤ 48) ∧ (∀ j : Nat, (j : Int) < z.1.toInt → z.2 j = f j)) (fun z => (48 - z.1.toInt).toNat) (0, g) ?_ ?_
  ·
    rintro ⟨i_, g1⟩ ⟨hi, hg⟩ ih2
    dsimp only at *
    refine z_run X bx_X10_copy_2_4 kx_X10_copy_2_4 (lv' := [(2, .int i_), (0, .ref ff), (1, .ref tt)]) (st' := [.ref ff, .int i_]) rfl ?_
    refine z_alen X dx_X10_copy_4 0 0 rfl rfl (v := 48) rfl ?_
    refine zc_ge X dx_X10_copy_5 (tgt := 26) (by decide) (a := i_.toInt) (b := 48) rfl (show (48 : Int32).toInt = 48 from by decide) (fun c5_1 => ?_) (fun c5_1 => ?_)
    ·
      exact z_vret X rfl dx_X10_copy_26 (Nat.le_of_ble_eq_true rfl) (Nat.le_of_ble_eq_true rfl) ⟨g1, (fun j hj => hg j (by omega)), rfl, rfl⟩
    ·
      refine z_run X bx_X10_copy_8_10 kx_X10_copy_8_10 (lv' := [(2, .int i_), (0, .ref ff), (1, .ref tt)]) (st' := [.ref tt, .int i_]) rfl ?_
      refine z_alen X dx_X10_copy_10 1 0 rfl rfl (v := 48) rfl ?_
      refine zc_ge X dx_X10_copy_11 (tgt := 26) (by decide) (a := i_.toInt) (b := 48) rfl (show (48 : Int32).toInt = 48 from by decide) (fun c11_2n => absurd c11_2n (by omega)) (fun c11_2 => ?_)
      refine z_run X bx_X10_copy_14_18 kx_X10_copy_14_18 (lv' := [(2, .int i_), (0, .ref ff), (1, .ref tt)]) (st' := [.int i_, .ref ff, .int i_, .ref tt]) rfl ?_
      refine z_iald X dx_X10_copy_18 0 rfl (vin rfl (by omega) (by omega)) (v := (f i_.toNatClampNeg)) rfl ?_
      refine z_iast X dx_X10_copy_19 1 rfl (vin rfl (by omega) (by omega)) (ws' := [(ff, aI G 48 f), (tt, aI G 48 (upd g1 i_.toNatClampNeg (f i_.toNatClampNeg)))]) rfl ?_
      refine z_run X bx_X10_copy_20_23 kx_X10_copy_20_23 (lv' := [(2, .int (i_ + 1)), (0, .ref ff), (1, .ref tt)]) (st' := []) rfl ?_
      refine z_goto X dx_X10_copy_23 (tgt := 2) (by decide) ?_
      exact ih2 ((i_ + 1), (upd g1 i_.toNatClampNeg (f i_.toNatClampNeg))) ⟨(by dsimp only; have e : (i_ + 1).toInt = i_.toInt + 1 := tI_add rfl (show (1 : Int32).toInt = 1 from by decide) (by omega); omega), (by dsimp only; have e : (i_ + 1).toInt = i_.toInt + 1 := tI_add rfl (show (1 : Int32).toInt = 1 from by decide) (by omega); rw [e]; exact st_step hi.1 hg rfl)⟩ (by dsimp only; have e : (i_ + 1).toInt = i_.toInt + 1 := tI_add rfl (show (1 : Int32).toInt = 1 from by decide) (by omega); omega)
  · exact ⟨(by dsimp only; have e0 : (0 : Int32).toInt = 0 := (by decide); omega), (by dsimp only; have e0 : (0 : Int32).toInt = 0 := (by decide); intro j hj; omega)⟩

theorem dx_X7_copyApart_1 : decode cX7_copyApart 1 = .ok (.getfield 22, 3) := by decide +kernel
theorem dx_X7_copyApart_5 : decode cX7_copyApart 5 = .ok (.getfield 22, 3) := by decide +kernel
theorem dx_X7_copyApart_8 : decode cX7_copyApart 8 = .ok (.invokestatic 32, 3) := by decide +kernel
theorem dx_X7_copyApart_12 : decode cX7_copyApart 12 = .ok (.getfield 25, 3) := by decide +kernel
theorem dx_X7_copyApart_16 : decode cX7_copyApart 16 = .ok (.getfield 25, 3) := by decide +kernel
theorem dx_X7_copyApart_19 : decode cX7_copyApart 19 = .ok (.invokestatic 32, 3) := by decide +kernel
theorem dx_X7_copyApart_27 : decode cX7_copyApart 27 = .ok (.if_icmp .ge 21, 3) := by decide +kernel
theorem dx_X7_copyApart_48 : decode cX7_copyApart 48 = .ok (.return_, 1) := by decide +kernel
theorem dx_X7_copyApart_31 : decode cX7_copyApart 31 = .ok (.getfield 18, 3) := by decide +kernel
theorem dx_X7_copyApart_36 : decode cX7_copyApart 36 = .ok (.getfield 18, 3) := by decide +kernel
theorem dx_X7_copyApart_40 : decode cX7_copyApart 40 = .ok (.baload, 1) := by decide +kernel
theorem dx_X7_copyApart_41 : decode cX7_copyApart 41 = .ok (.bastore, 1) := by decide +kernel
theorem dx_X7_copyApart_45 : decode cX7_copyApart 45 = .ok (.goto (-21), 3) := by decide +kernel
abbrev bx_X7_copyApart_0_1 : ZB := [(.aload_n 1, .null)]
theorem kx_X7_copyApart_0_1 : zchk cX7_copyApart bx_X7_copyApart_0_1 0 = true ∧ zpc bx_X7_copyApart_0_1 0 = 1 := ⟨by decide +kernel, rfl⟩
abbrev bx_X7_copyApart_4_5 : ZB := [(.aload_n 0, .null)]
theorem kx_X7_copyApart_4_5 : zchk cX7_copyApart bx_X7_copyApart_4_5 4 = true ∧ zpc bx_X7_copyApart_4_5 4 = 5 := ⟨by decide +kernel, rfl⟩
abbrev bx_X7_copyApart_11_12 : ZB := [(.aload_n 1, .null)]
theorem kx_X7_copyApart_11_12 : zchk cX7_copyApart bx_X7_copyApart_11_12 11 = true ∧ zpc bx_X7_copyApart_11_12 11 = 12 := ⟨by decide +kernel, rfl⟩
abbrev bx_X7_copyApart_15_16 : ZB := [(.aload_n 0, .null)]
theorem kx_X7_copyApart_15_16 : zchk cX7_copyApart bx_X7_copyApart_15_16 15 = true ∧ zpc bx_X7_copyApart_15_16 15 = 16 := ⟨by decide +kernel, rfl⟩
abbrev bx_X7_copyApart_22_24 : ZB := [(.iconst 0, .int 0), (.istore_n 2, .null)]
theorem kx_X7_copyApart_22_24 : zchk cX7_copyApart bx_X7_copyApart_22_24 22 = true ∧ zpc bx_X7_copyApart_22_24 22 = 24 := ⟨by decide +kernel, rfl⟩
abbrev bx_X7_copyApart_24_27 : ZB := [(.iload_n 2, .null), (.bipush 6, .int 6)]
theorem kx_X7_copyApart_24_27 : zchk cX7_copyApart bx_X7_copyApart_24_27 24 = true ∧ zpc bx_X7_copyApart_24_27 24 = 27 := ⟨by decide +kernel, rfl⟩
abbrev bx_X7_copyApart_30_31 : ZB := [(.aload_n 0, .null)]
theorem kx_X7_copyApart_30_31 : zchk cX7_copyApart bx_X7_copyApart_30_31 30 = true ∧ zpc bx_X7_copyApart_30_31 30 = 31 := ⟨by decide +kernel, rfl⟩
abbrev bx_X7_copyApart_34_36 : ZB := [(.iload_n 2, .null), (.aload_n 1, .null)]
theorem kx_X7_copyApart_34_36 : zchk cX7_copyApart bx_X7_copyApart_34_36 34 = true ∧ zpc bx_X7_copyApart_34_36 34 = 36 := ⟨by decide +kernel, rfl⟩
abbrev bx_X7_copyApart_39_40 : ZB := [(.iload_n 2, .null)]
theorem kx_X7_copyApart_39_40 : zchk cX7_copyApart bx_X7_copyApart_39_40 39 = true ∧ zpc bx_X7_copyApart_39_40 39 = 40 := ⟨by decide +kernel, rfl⟩
abbrev bx_X7_copyApart_42_45 : ZB := [(.iinc 2 1, .int 1)]
theorem kx_X7_copyApart_42_45 : zchk cX7_copyApart bx_X7_copyApart_42_45 42 = true ∧ zpc bx_X7_copyApart_42_45 42 = 45 := ⟨by decide +kernel, rfl⟩
set_option maxHeartbeats 4000000 in
set_option maxRecDepth 100000 in
theorem cx_X7_copyApart (l : Launch) (G : KG) (dS : Nat) (dS0 : Value) (dS1 : Value) (dS2 : Value) (dA : Nat) (dX : Nat) (dY : Nat) (sS : Nat) (sS0 : Value) (sS1 : Value) (sS2 : Value) (sA : Nat) (sX : Nat) (sY : Nat) (dfA : Nat → Int32) (dfX : Nat → Int32) (dfY : Nat → Int32) (sfA : Nat → Int32) (sfX : Nat → Int32) (sfY : Nat → Int32) : Ct l G yX7_copyApart cX7_copyApart 3 none { frames := 1, cells := 0, slots := 0, locals := 22 } [.ref dS, .ref sS] [(dS, ob 7 [dS0, dS1, dS2, .ref dA, .ref dX, .ref dY]), (sS, ob 7 [sS0, sS1, sS2, .ref sA, .ref sX, .ref sY]), (dA, aZ G 6 dfA), (dX, aI G 6 dfX), (dY, aI G 6 dfY), (sA, aZ G 6 sfA), (sX, aI G 6 sfX), (sY, aI G 6 sfY)] (fun r w1 => ∃ (dfA2 : Nat → Int32), ∃ (dfX2 : Nat → Int32), ∃ (dfY2 : Nat → Int32), (∀ j : Nat, j < 6 → dfX2 j = sfX j) ∧ (∀ j : Nat, j < 6 → dfY2 j = sfY j) ∧ (∀ j : Nat, j < 6 → dfA2 j = vp_nar .boolean (sfA j)) ∧ r = none ∧ w1 = [(dS, ob 7 [dS0, dS1, dS2, .ref dA, .ref dX, .ref dY]), (sS, ob 7 [sS0, sS1, sS2, .ref sA, .ref sX, .ref sY]), (dA, aZ G 6 dfA2), (dX, aI G 6 dfX2), (dY, aI G 6 dfY2), (sA, aZ G 6 sfA), (sX, aI G 6 sfX), (sY, aI G 6 sfY)]) := by
  refine ct_of [(0, .ref dS), (1, .ref sS)] (by decide) (Nat.le_of_ble_eq_true rfl) rfl ?_
  intro p0 e0 s0 m0 args0 below0 meth0 c0 A X
  refine z_run X bx_X7_copyApart_0_1 kx_X7_copyApart_0_1 (lv' := [(0, .ref dS), (1, .ref sS)]) (st' := [.ref sS]) rfl ?_
  refine z_get X fl_7_22 dx_X7_copyApart_1 1 rfl (v := .ref sX) rfl ?_
  refine z_run X bx_X7_copyApart_4_5 kx_X7_copyApart_4_5 (lv' := [(0, .ref dS), (1, .ref sS)]) (st' := [.ref dS, .ref sX]) rfl ?_
  refine z_get X fl_7_22 dx_X7_copyApart_5 0 rfl (v := .ref dX) rfl ?_
  refine z_callSN X k_7_32 (cx_X10_copy6 l G sX dX sfX dfX) dx_X7_copyApart_8 ⟨Nat.le_of_ble_eq_true rfl, Nat.le_of_ble_eq_true rfl⟩ ⟨Nat.le_of_ble_eq_true rfl, Nat.le_of_ble_eq_true rfl⟩ rfl (rest := []) (As := [.ref sX, .ref dX]) rfl (Nat.le_of_ble_eq_true rfl) [6, 3] [0, 1, 2, 4, 5, 7] rfl (by decide) (wr := [(dS, ob 7 [dS0, dS1, dS2, .ref dA, .ref dX, .ref dY]), (sS, ob 7 [sS0, sS1, sS2, .ref sA, .ref sX, .ref sY]), (dA, aZ G 6 dfA), (dY, aI G 6 dfY), (sA, aZ G 6 sfA), (sY, aI G 6 sfY)]) rfl (by decide) (by decide) ?_
  rintro _ _ ⟨g2_1, f8_2, rfl, rfl⟩
  refine Z.at (pc' := 11) (st' := []) (ws' := [(dS, ob 7 [dS0, dS1, dS2, .ref dA, .ref dX, .ref dY]), (sS, ob 7 [sS0, sS1, sS2, .ref sA, .ref sX, .ref sY]), (dA, aZ G 6 dfA), (dY, aI G 6 dfY), (sA, aZ G 6 sfA), (sY, aI G 6 sfY), (sX, aI G 6 sfX), (dX, aI G 6 g2_1)]) (kc' := 0) (ks' := 0) rfl rfl rfl rfl rfl ?_
  refine z_run X bx_X7_copyApart_11_12 kx_X7_copyApart_11_12 (lv' := [(0, .ref dS), (1, .ref sS)]) (st' := [.ref sS]) rfl ?_
  refine z_get X fl_7_25 dx_X7_copyApart_12 1 rfl (v := .ref sY) rfl ?_
  refine z_run X bx_X7_copyApart_15_16 kx_X7_copyApart_15_16 (lv' := [(0, .ref dS), (1, .ref sS)]) (st' := [.ref dS, .ref sY]) rfl ?_
  refine z_get X fl_7_25 dx_X7_copyApart_16 0 rfl (v := .ref dY) rfl ?_
  refine z_callSN X k_7_32 (cx_X10_copy6 l G sY dY sfY dfY) dx_X7_copyApart_19 ⟨Nat.le_of_ble_eq_true rfl, Nat.le_of_ble_eq_true rfl⟩ ⟨Nat.le_of_ble_eq_true rfl, Nat.le_of_ble_eq_true rfl⟩ rfl (rest := []) (As := [.ref sY, .ref dY]) rfl (Nat.le_of_ble_eq_true rfl) [5, 3] [0, 1, 2, 4, 6, 7] rfl (by decide) (wr := [(dS, ob 7 [dS0, dS1, dS2, .ref dA, .ref dX, .ref dY]), (sS, ob 7 [sS0, sS1, sS2, .ref sA, .ref sX, .ref sY]), (dA, aZ G 6 dfA), (sA, aZ G 6 sfA), (sX, aI G 6 sfX), (dX, aI G 6 g2_1)]) rfl (by decide) (by decide) ?_
  rintro _ _ ⟨g2_3, f19_4, rfl, rfl⟩
  refine Z.at (pc' := 22) (st' := []) (ws' := [(dS, ob 7 [dS0, dS1, dS2, .ref dA, .ref dX, .ref dY]), (sS, ob 7 [sS0, sS1, sS2, .ref sA, .ref sX, .ref sY]), (dA, aZ G 6 dfA), (sA, aZ G 6 sfA), (sX, aI G 6 sfX), (dX, aI G 6 g2_1), (sY, aI G 6 sfY), (dY, aI G 6 g2_3)]) (kc' := 0) (ks' := 0) rfl rfl rfl rfl rfl ?_
  refine z_run X bx_X7_copyApart_22_24 kx_X7_copyApart_22_24 (lv' := [(2, .int 0), (0, .ref dS), (1, .ref sS)]) (st' := []) rfl ?_
  refine zloop (σ := Int32 × (Nat → Int32)) (fun z => [(2, .int z.1), (0, .ref dS), (1, .ref sS)]) (fun z => []) (fun z => [(dS, ob 7 [dS0, dS1, dS2, .ref dA, .ref dX, .ref dY]), (sS, ob 7 [sS0, sS1, sS2, .ref sA, .ref sX, .ref sY]), (dA, aZ G 6 z.2), (sA, aZ G 6 sfA), (sX, aI G 6 sfX), (dX, aI G 6 g2_1), (sY, aI G 6 sfY), (dY, aI G 6 g2_3)]) (fun z => (0 ≤ z.1.toInt ∧ z.1.toInt ≤ 6) ∧ (∀ j : Nat, (j : Int) < z.1.toInt → z.2 j = vp_nar .boolean (sfA j))) (fun z => (6 - z.1.toInt).toNat) (0, dfA) ?_ ?_
  ·
    rintro ⟨i_, g1⟩ ⟨hi, hg⟩ ih24
    dsimp only at *
    refine z_run X bx_X7_copyApart_24_27 kx_X7_copyApart_24_27 (lv' := [(2, .int i_), (0, .ref dS), (1, .ref sS)]) (st' := [.int 6, .int i_]) rfl ?_
    refine zc_ge X dx_X7_copyApart_27 (tgt := 48) (by decide) (a := i_.toInt) (b := 6) rfl (show (6 : Int32).toInt = 6 from by decide) (fun c27_5 => ?_) (fun c27_5 => ?_)
    ·
      refine Z.sub (lv' := []) [] rfl [0, 1, 2, 5, 7, 3, 4, 6] (ws' := [(dS, ob 7 [dS0, dS1, dS2, .ref dA, .ref dX, .ref dY]), (sS, ob 7 [sS0, sS1, sS2, .ref sA, .ref sX, .ref sY]), (dA, aZ G 6 g1), (dX, aI G 6 g2_1), (dY, aI G 6 g2_3), (sA, aZ G 6 sfA), (sX, aI G 6 sfX), (sY, aI G 6 sfY)]) rfl (by decide) ?_
      exact z_vret X rfl dx_X7_copyApart_48 (Nat.le_of_ble_eq_true rfl) (Nat.le_of_ble_eq_true rfl) ⟨g1, g2_1, g2_3, f8_2, f19_4, (fun j hj => hg j (by omega)), rfl, rfl⟩
    ·
      refine z_run X bx_X7_copyApart_30_31 kx_X7_copyApart_30_31 (lv' := [(2, .int i_), (0, .ref dS), (1, .ref sS)]) (st' := [.ref dS]) rfl ?_
      refine z_get X fl_7_18 dx_X7_copyApart_31 0 rfl (v := .ref dA) rfl ?_
      refine z_run X bx_X7_copyApart_34_36 kx_X7_copyApart_34_36 (lv' := [(2, .int i_), (0, .ref dS), (1, .ref sS)]) (st' := [.ref sS, .int i_, .ref dA]) rfl ?_
      refine z_get X fl_7_18 dx_X7_copyApart_36 1 rfl (v := .ref sA) rfl ?_
      refine z_run X bx_X7_copyApart_39_40 kx_X7_copyApart_39_40 (lv' := [(2, .int i_), (0, .ref dS), (1, .ref sS)]) (st' := [.int i_, .ref sA, .int i_, .ref dA]) rfl ?_
      refine z_zald X dx_X7_copyApart_40 3 rfl (vin rfl (by omega) (by omega)) (v := (sfA i_.toNatClampNeg)) rfl ?_
      refine z_zast X dx_X7_copyApart_41 2 rfl (vin rfl (by omega) (by omega)) (ws' := [(dS, ob 7 [dS0, dS1, dS2, .ref dA, .ref dX, .ref dY]), (sS, ob 7 [sS0, sS1, sS2, .ref sA, .ref sX, .ref sY]), (dA, aZ G 6 (upd g1 i_.toNatClampNeg (vp_nar .boolean (sfA i_.toNatClampNeg)))), (sA, aZ G 6 sfA), (sX, aI G 6 sfX), (dX, aI G 6 g2_1), (sY, aI G 6 sfY), (dY, aI G 6 g2_3)]) rfl ?_
      refine z_run X bx_X7_copyApart_42_45 kx_X7_copyApart_42_45 (lv' := [(2, .int (i_ + 1)), (0, .ref dS), (1, .ref sS)]) (st' := []) rfl ?_
      refine z_goto X dx_X7_copyApart_45 (tgt := 24) (by decide) ?_
      exact ih24 ((i_ + 1), (upd g1 i_.toNatClampNeg (vp_nar .boolean (sfA i_.toNatClampNeg)))) ⟨(by dsimp only; have e : (i_ + 1).toInt = i_.toInt + 1 := tI_add rfl (show (1 : Int32).toInt = 1 from by decide) (by omega); omega), (by dsimp only; have e : (i_ + 1).toInt = i_.toInt + 1 := tI_add rfl (show (1 : Int32).toInt = 1 from by decide) (by omega); rw [e]; exact st_step (F := fun j => vp_nar .boolean (sfA j)) hi.1 hg rfl)⟩ (by dsimp only; have e : (i_ + 1).toInt = i_.toInt + 1 := tI_add rfl (show (1 : Int32).toInt = 1 from by decide) (by omega); omega)
  · exact ⟨(by dsimp only; have e0 : (0 : Int32).toInt = 0 := (by decide); omega), (by dsimp only; have e0 : (0 : Int32).toInt = 0 := (by decide); intro j hj; omega)⟩

theorem dx_X9_copyTrials_2 : decode cX9_copyTrials 2 = .ok (.getfield 44, 3) := by decide +kernel
theorem dx_X9_copyTrials_5 : decode cX9_copyTrials 5 = .ok (.putfield 44, 3) := by decide +kernel
theorem dx_X9_copyTrials_9 : decode cX9_copyTrials 9 = .ok (.getfield 9, 3) := by decide +kernel
theorem dx_X9_copyTrials_13 : decode cX9_copyTrials 13 = .ok (.getfield 9, 3) := by decide +kernel
theorem dx_X9_copyTrials_16 : decode cX9_copyTrials 16 = .ok (.invokestatic 66, 3) := by decide +kernel
theorem dx_X9_copyTrials_20 : decode cX9_copyTrials 20 = .ok (.getfield 19, 3) := by decide +kernel
theorem dx_X9_copyTrials_24 : decode cX9_copyTrials 24 = .ok (.getfield 19, 3) := by decide +kernel
theorem dx_X9_copyTrials_27 : decode cX9_copyTrials 27 = .ok (.invokestatic 66, 3) := by decide +kernel
theorem dx_X9_copyTrials_31 : decode cX9_copyTrials 31 = .ok (.getfield 22, 3) := by decide +kernel
theorem dx_X9_copyTrials_35 : decode cX9_copyTrials 35 = .ok (.getfield 22, 3) := by decide +kernel
theorem dx_X9_copyTrials_38 : decode cX9_copyTrials 38 = .ok (.invokestatic 66, 3) := by decide +kernel
theorem dx_X9_copyTrials_42 : decode cX9_copyTrials 42 = .ok (.getfield 25, 3) := by decide +kernel
theorem dx_X9_copyTrials_46 : decode cX9_copyTrials 46 = .ok (.getfield 25, 3) := by decide +kernel
theorem dx_X9_copyTrials_49 : decode cX9_copyTrials 49 = .ok (.invokestatic 66, 3) := by decide +kernel
theorem dx_X9_copyTrials_53 : decode cX9_copyTrials 53 = .ok (.getfield 28, 3) := by decide +kernel
theorem dx_X9_copyTrials_57 : decode cX9_copyTrials 57 = .ok (.getfield 28, 3) := by decide +kernel
theorem dx_X9_copyTrials_60 : decode cX9_copyTrials 60 = .ok (.invokestatic 66, 3) := by decide +kernel
theorem dx_X9_copyTrials_68 : decode cX9_copyTrials 68 = .ok (.if_icmp .ge 21, 3) := by decide +kernel
theorem dx_X9_copyTrials_89 : decode cX9_copyTrials 89 = .ok (.return_, 1) := by decide +kernel
theorem dx_X9_copyTrials_72 : decode cX9_copyTrials 72 = .ok (.getfield 15, 3) := by decide +kernel
theorem dx_X9_copyTrials_77 : decode cX9_copyTrials 77 = .ok (.getfield 15, 3) := by decide +kernel
theorem dx_X9_copyTrials_81 : decode cX9_copyTrials 81 = .ok (.baload, 1) := by decide +kernel
theorem dx_X9_copyTrials_82 : decode cX9_copyTrials 82 = .ok (.bastore, 1) := by decide +kernel
theorem dx_X9_copyTrials_86 : decode cX9_copyTrials 86 = .ok (.goto (-21), 3) := by decide +kernel
abbrev bx_X9_copyTrials_0_2 : ZB := [(.aload_n 0, .null), (.aload_n 1, .null)]
theorem kx_X9_copyTrials_0_2 : zchk cX9_copyTrials bx_X9_copyTrials_0_2 0 = true ∧ zpc bx_X9_copyTrials_0_2 0 = 2 := ⟨by decide +kernel, rfl⟩
abbrev bx_X9_copyTrials_8_9 : ZB := [(.aload_n 1, .null)]
theorem kx_X9_copyTrials_8_9 : zchk cX9_copyTrials bx_X9_copyTrials_8_9 8 = true ∧ zpc bx_X9_copyTrials_8_9 8 = 9 := ⟨by decide +kernel, rfl⟩
abbrev bx_X9_copyTrials_12_13 : ZB := [(.aload_n 0, .null)]
theorem kx_X9_copyTrials_12_13 : zchk cX9_copyTrials bx_X9_copyTrials_12_13 12 = true ∧ zpc bx_X9_copyTrials_12_13 12 = 13 := ⟨by decide +kernel, rfl⟩
abbrev bx_X9_copyTrials_19_20 : ZB := [(.aload_n 1, .null)]
theorem kx_X9_copyTrials_19_20 : zchk cX9_copyTrials bx_X9_copyTrials_19_20 19 = true ∧ zpc bx_X9_copyTrials_19_20 19 = 20 := ⟨by decide +kernel, rfl⟩
abbrev bx_X9_copyTrials_23_24 : ZB := [(.aload_n 0, .null)]
theorem kx_X9_copyTrials_23_24 : zchk cX9_copyTrials bx_X9_copyTrials_23_24 23 = true ∧ zpc bx_X9_copyTrials_23_24 23 = 24 := ⟨by decide +kernel, rfl⟩
abbrev bx_X9_copyTrials_30_31 : ZB := [(.aload_n 1, .null)]
theorem kx_X9_copyTrials_30_31 : zchk cX9_copyTrials bx_X9_copyTrials_30_31 30 = true ∧ zpc bx_X9_copyTrials_30_31 30 = 31 := ⟨by decide +kernel, rfl⟩
abbrev bx_X9_copyTrials_34_35 : ZB := [(.aload_n 0, .null)]
theorem kx_X9_copyTrials_34_35 : zchk cX9_copyTrials bx_X9_copyTrials_34_35 34 = true ∧ zpc bx_X9_copyTrials_34_35 34 = 35 := ⟨by decide +kernel, rfl⟩
abbrev bx_X9_copyTrials_41_42 : ZB := [(.aload_n 1, .null)]
theorem kx_X9_copyTrials_41_42 : zchk cX9_copyTrials bx_X9_copyTrials_41_42 41 = true ∧ zpc bx_X9_copyTrials_41_42 41 = 42 := ⟨by decide +kernel, rfl⟩
abbrev bx_X9_copyTrials_45_46 : ZB := [(.aload_n 0, .null)]
theorem kx_X9_copyTrials_45_46 : zchk cX9_copyTrials bx_X9_copyTrials_45_46 45 = true ∧ zpc bx_X9_copyTrials_45_46 45 = 46 := ⟨by decide +kernel, rfl⟩
abbrev bx_X9_copyTrials_52_53 : ZB := [(.aload_n 1, .null)]
theorem kx_X9_copyTrials_52_53 : zchk cX9_copyTrials bx_X9_copyTrials_52_53 52 = true ∧ zpc bx_X9_copyTrials_52_53 52 = 53 := ⟨by decide +kernel, rfl⟩
abbrev bx_X9_copyTrials_56_57 : ZB := [(.aload_n 0, .null)]
theorem kx_X9_copyTrials_56_57 : zchk cX9_copyTrials bx_X9_copyTrials_56_57 56 = true ∧ zpc bx_X9_copyTrials_56_57 56 = 57 := ⟨by decide +kernel, rfl⟩
abbrev bx_X9_copyTrials_63_65 : ZB := [(.iconst 0, .int 0), (.istore_n 2, .null)]
theorem kx_X9_copyTrials_63_65 : zchk cX9_copyTrials bx_X9_copyTrials_63_65 63 = true ∧ zpc bx_X9_copyTrials_63_65 63 = 65 := ⟨by decide +kernel, rfl⟩
abbrev bx_X9_copyTrials_65_68 : ZB := [(.iload_n 2, .null), (.bipush 12, .int 12)]
theorem kx_X9_copyTrials_65_68 : zchk cX9_copyTrials bx_X9_copyTrials_65_68 65 = true ∧ zpc bx_X9_copyTrials_65_68 65 = 68 := ⟨by decide +kernel, rfl⟩
abbrev bx_X9_copyTrials_71_72 : ZB := [(.aload_n 0, .null)]
theorem kx_X9_copyTrials_71_72 : zchk cX9_copyTrials bx_X9_copyTrials_71_72 71 = true ∧ zpc bx_X9_copyTrials_71_72 71 = 72 := ⟨by decide +kernel, rfl⟩
abbrev bx_X9_copyTrials_75_77 : ZB := [(.iload_n 2, .null), (.aload_n 1, .null)]
theorem kx_X9_copyTrials_75_77 : zchk cX9_copyTrials bx_X9_copyTrials_75_77 75 = true ∧ zpc bx_X9_copyTrials_75_77 75 = 77 := ⟨by decide +kernel, rfl⟩
abbrev bx_X9_copyTrials_80_81 : ZB := [(.iload_n 2, .null)]
theorem kx_X9_copyTrials_80_81 : zchk cX9_copyTrials bx_X9_copyTrials_80_81 80 = true ∧ zpc bx_X9_copyTrials_80_81 80 = 81 := ⟨by decide +kernel, rfl⟩
abbrev bx_X9_copyTrials_83_86 : ZB := [(.iinc 2 1, .int 1)]
theorem kx_X9_copyTrials_83_86 : zchk cX9_copyTrials bx_X9_copyTrials_83_86 83 = true ∧ zpc bx_X9_copyTrials_83_86 83 = 86 := ⟨by decide +kernel, rfl⟩
set_option maxHeartbeats 4000000 in
set_option maxRecDepth 100000 in
theorem cx_X9_copyTrials (l : Launch) (G : KG) (dT : Nat) (dc : Int32) (dsp : Nat) (dwh : Nat) (dfi : Nat) (dse : Nat) (dgi : Nat) (dle : Nat) (dT0 : Value) (dT1 : Value) (dT2 : Value) (sT : Nat) (sc : Int32) (ssp : Nat) (swh : Nat) (sfi : Nat) (sse : Nat) (sgi : Nat) (sle : Nat) (sT0 : Value) (sT1 : Value) (sT2 : Value) (dfsp : Nat → Int32) (dfwh : Nat → Int32) (dffi : Nat → Int32) (dfse : Nat → Int32) (dfgi : Nat → Int32) (dfle : Nat → Int32) (sfsp : Nat → Int32) (sfwh : Nat → Int32) (sffi : Nat → Int32) (sfse : Nat → Int32) (sfgi : Nat → Int32) (sfle : Nat → Int32) : Ct l G yX9_copyTrials cX9_copyTrials 3 none { frames := 1, cells := 0, slots := 0, locals := 22 } [.ref dT, .ref sT] [(dT, ob 9 [.int dc, .ref dsp, .ref dwh, .ref dfi, .ref dse, .ref dgi, .ref dle, dT0, dT1, dT2]), (sT, ob 9 [.int sc, .ref ssp, .ref swh, .ref sfi, .ref sse, .ref sgi, .ref sle, sT0, sT1, sT2]), (dsp, aI G 12 dfsp), (dwh, aZ G 12 dfwh), (dfi, aI G 12 dffi), (dse, aI G 12 dfse), (dgi, aI G 12 dfgi), (dle, aI G 48 dfle), (ssp, aI G 12 sfsp), (swh, aZ G 12 sfwh), (sfi, aI G 12 sffi), (sse, aI G 12 sfse), (sgi, aI G 12 sfgi), (sle, aI G 48 sfle)] (fun r w1 => ∃ (dfsp2 : Nat → Int32), ∃ (dfwh2 : Nat → Int32), ∃ (dffi2 : Nat → Int32), ∃ (dfse2 : Nat → Int32), ∃ (dfgi2 : Nat → Int32), ∃ (dfle2 : Nat → Int32), (∀ j : Nat, j < 12 → dfsp2 j = sfsp j) ∧ (∀ j : Nat, j < 12 → dfwh2 j = vp_nar .boolean (sfwh j)) ∧ (∀ j : Nat, j < 12 → dffi2 j = sffi j) ∧ (∀ j : Nat, j < 12 → dfse2 j = sfse j) ∧ (∀ j : Nat, j < 12 → dfgi2 j = sfgi j) ∧ (∀ j : Nat, j < 48 → dfle2 j = sfle j) ∧ r = none ∧ w1 = [(dT, ob 9 [.int sc, .ref dsp, .ref dwh, .ref dfi, .ref dse, .ref dgi, .ref dle, dT0, dT1, dT2]), (sT, ob 9 [.int sc, .ref ssp, .ref swh, .ref sfi, .ref sse, .ref sgi, .ref sle, sT0, sT1, sT2]), (dsp, aI G 12 dfsp2), (dwh, aZ G 12 dfwh2), (dfi, aI G 12 dffi2), (dse, aI G 12 dfse2), (dgi, aI G 12 dfgi2), (dle, aI G 48 dfle2), (ssp, aI G 12 sfsp), (swh, aZ G 12 sfwh), (sfi, aI G 12 sffi), (sse, aI G 12 sfse), (sgi, aI G 12 sfgi), (sle, aI G 48 sfle)]) := by
  refine ct_of [(0, .ref dT), (1, .ref sT)] (by decide) (Nat.le_of_ble_eq_true rfl) rfl ?_
  intro p0 e0 s0 m0 args0 below0 meth0 c0 A X
  refine z_run X bx_X9_copyTrials_0_2 kx_X9_copyTrials_0_2 (lv' := [(0, .ref dT), (1, .ref sT)]) (st' := [.ref sT, .ref dT]) rfl ?_
  refine z_get X fl_9_44 dx_X9_copyTrials_2 1 rfl (v := .int sc) rfl ?_
  refine z_put X fl_9_44 dx_X9_copyTrials_5 0 rfl (ty := .int) (T := TX9) (N := 10) rfl (Or.inl rfl) (by decide +kernel) rfl (by rfl) (Nat.le_of_ble_eq_true rfl) (ws' := [(dT, ob 9 [.int sc, .ref dsp, .ref dwh, .ref dfi, .ref dse, .ref dgi, .ref dle, dT0, dT1, dT2]), (sT, ob 9 [.int sc, .ref ssp, .ref swh, .ref sfi, .ref sse, .ref sgi, .ref sle, sT0, sT1, sT2]), (dsp, aI G 12 dfsp), (dwh, aZ G 12 dfwh), (dfi, aI G 12 dffi), (dse, aI G 12 dfse), (dgi, aI G 12 dfgi), (dle, aI G 48 dfle), (ssp, aI G 12 sfsp), (swh, aZ G 12 sfwh), (sfi, aI G 12 sffi), (sse, aI G 12 sfse), (sgi, aI G 12 sfgi), (sle, aI G 48 sfle)]) rfl ?_
  refine z_run X bx_X9_copyTrials_8_9 kx_X9_copyTrials_8_9 (lv' := [(0, .ref dT), (1, .ref sT)]) (st' := [.ref sT]) rfl ?_
  refine z_get X fl_9_9 dx_X9_copyTrials_9 1 rfl (v := .ref ssp) rfl ?_
  refine z_run X bx_X9_copyTrials_12_13 kx_X9_copyTrials_12_13 (lv' := [(0, .ref dT), (1, .ref sT)]) (st' := [.ref dT, .ref ssp]) rfl ?_
  refine z_get X fl_9_9 dx_X9_copyTrials_13 0 rfl (v := .ref dsp) rfl ?_
  refine z_callSN X k_9_66 (cx_X10_copy12 l G ssp dsp sfsp dfsp) dx_X9_copyTrials_16 ⟨Nat.le_of_ble_eq_true rfl, Nat.le_of_ble_eq_true rfl⟩ ⟨Nat.le_of_ble_eq_true rfl, Nat.le_of_ble_eq_true rfl⟩ rfl (rest := []) (As := [.ref ssp, .ref dsp]) rfl (Nat.le_of_ble_eq_true rfl) [8, 2] [0, 1, 3, 4, 5, 6, 7, 9, 10, 11, 12, 13] rfl (by decide) (wr := [(dT, ob 9 [.int sc, .ref dsp, .ref dwh, .ref dfi, .ref dse, .ref dgi, .ref dle, dT0, dT1, dT2]), (sT, ob 9 [.int sc, .ref ssp, .ref swh, .ref sfi, .ref sse, .ref sgi, .ref sle, sT0, sT1, sT2]), (dwh, aZ G 12 dfwh), (dfi, aI G 12 dffi), (dse, aI G 12 dfse), (dgi, aI G 12 dfgi), (dle, aI G 48 dfle), (swh, aZ G 12 sfwh), (sfi, aI G 12 sffi), (sse, aI G 12 sfse), (sgi, aI G 12 sfgi), (sle, aI G 48 sfle)]) rfl (by decide) (by decide) ?_
  rintro _ _ ⟨g2_1, f16_2, rfl, rfl⟩
  refine Z.at (pc' := 19) (st' := []) (ws' := [(dT, ob 9 [.int sc, .ref dsp, .ref dwh, .ref dfi, .ref dse, .ref dgi, .ref dle, dT0, dT1, dT2]), (sT, ob 9 [.int sc, .ref ssp, .ref swh, .ref sfi, .ref sse, .ref sgi, .ref sle, sT0, sT1, sT2]), (dwh, aZ G 12 dfwh), (dfi, aI G 12 dffi), (dse, aI G 12 dfse), (dgi, aI G 12 dfgi), (dle, aI G 48 dfle), (swh, aZ G 12 sfwh), (sfi, aI G 12 sffi), (sse, aI G 12 sfse), (sgi, aI G 12 sfgi), (sle, aI G 48 sfle), (ssp, aI G 12 sfsp), (dsp, aI G 12 g2_1)]) (kc' := 0) (ks' := 0) rfl rfl rfl rfl rfl ?_
  refine z_run X bx_X9_copyTrials_19_20 kx_X9_copyTrials_19_20 (lv' := [(0, .ref dT), (1, .ref sT)]) (st' := [.ref sT]) rfl ?_
  refine z_get X fl_9_19 dx_X9_copyTrials_20 1 rfl (v := .ref sfi) rfl ?_
  refine z_run X bx_X9_copyTrials_23_24 kx_X9_copyTrials_23_24 (lv' := [(0, .ref dT), (1, .ref sT)]) (st' := [.ref dT, .ref sfi]) rfl ?_
  refine z_get X fl_9_19 dx_X9_copyTrials_24 0 rfl (v := .ref dfi) rfl ?_
  refine z_callSN X k_9_66 (cx_X10_copy12 l G sfi dfi sffi dffi) dx_X9_copyTrials_27 ⟨Nat.le_of_ble_eq_true rfl, Nat.le_of_ble_eq_true rfl⟩ ⟨Nat.le_of_ble_eq_true rfl, Nat.le_of_ble_eq_true rfl⟩ rfl (rest := []) (As := [.ref sfi, .ref dfi]) rfl (Nat.le_of_ble_eq_true rfl) [8, 3] [0, 1, 2, 4, 5, 6, 7, 9, 10, 11, 12, 13] rfl (by decide) (wr := [(dT, ob 9 [.int sc, .ref dsp, .ref dwh, .ref dfi, .ref dse, .ref dgi, .ref dle, dT0, dT1, dT2]), (sT, ob 9 [.int sc, .ref ssp, .ref swh, .ref sfi, .ref sse, .ref sgi, .ref sle, sT0, sT1, sT2]), (dwh, aZ G 12 dfwh), (dse, aI G 12 dfse), (dgi, aI G 12 dfgi), (dle, aI G 48 dfle), (swh, aZ G 12 sfwh), (sse, aI G 12 sfse), (sgi, aI G 12 sfgi), (sle, aI G 48 sfle), (ssp, aI G 12 sfsp), (dsp, aI G 12 g2_1)]) rfl (by decide) (by decide) ?_
  rintro _ _ ⟨g2_3, f27_4, rfl, rfl⟩
  refine Z.at (pc' := 30) (st' := []) (ws' := [(dT, ob 9 [.int sc, .ref dsp, .ref dwh, .ref dfi, .ref dse, .ref dgi, .ref dle, dT0, dT1, dT2]), (sT, ob 9 [.int sc, .ref ssp, .ref swh, .ref sfi, .ref sse, .ref sgi, .ref sle, sT0, sT1, sT2]), (dwh, aZ G 12 dfwh), (dse, aI G 12 dfse), (dgi, aI G 12 dfgi), (dle, aI G 48 dfle), (swh, aZ G 12 sfwh), (sse, aI G 12 sfse), (sgi, aI G 12 sfgi), (sle, aI G 48 sfle), (ssp, aI G 12 sfsp), (dsp, aI G 12 g2_1), (sfi, aI G 12 sffi), (dfi, aI G 12 g2_3)]) (kc' := 0) (ks' := 0) rfl rfl rfl rfl rfl ?_
  refine z_run X bx_X9_copyTrials_30_31 kx_X9_copyTrials_30_31 (lv' := [(0, .ref dT), (1, .ref sT)]) (st' := [.ref sT]) rfl ?_
  refine z_get X fl_9_22 dx_X9_copyTrials_31 1 rfl (v := .ref sse) rfl ?_
  refine z_run X bx_X9_copyTrials_34_35 kx_X9_copyTrials_34_35 (lv' := [(0, .ref dT), (1, .ref sT)]) (st' := [.ref dT, .ref sse]) rfl ?_
  refine z_get X fl_9_22 dx_X9_copyTrials_35 0 rfl (v := .ref dse) rfl ?_
  refine z_callSN X k_9_66 (cx_X10_copy12 l G sse dse sfse dfse) dx_X9_copyTrials_38 ⟨Nat.le_of_ble_eq_true rfl, Nat.le_of_ble_eq_true rfl⟩ ⟨Nat.le_of_ble_eq_true rfl, Nat.le_of_ble_eq_true rfl⟩ rfl (rest := []) (As := [.ref sse, .ref dse]) rfl (Nat.le_of_ble_eq_true rfl) [7, 3] [0, 1, 2, 4, 5, 6, 8, 9, 10, 11, 12, 13] rfl (by decide) (wr := [(dT, ob 9 [.int sc, .ref dsp, .ref dwh, .ref dfi, .ref dse, .ref dgi, .ref dle, dT0, dT1, dT2]), (sT, ob 9 [.int sc, .ref ssp, .ref swh, .ref sfi, .ref sse, .ref sgi, .ref sle, sT0, sT1, sT2]), (dwh, aZ G 12 dfwh), (dgi, aI G 12 dfgi), (dle, aI G 48 dfle), (swh, aZ G 12 sfwh), (sgi, aI G 12 sfgi), (sle, aI G 48 sfle), (ssp, aI G 12 sfsp), (dsp, aI G 12 g2_1), (sfi, aI G 12 sffi), (dfi, aI G 12 g2_3)]) rfl (by decide) (by decide) ?_
  rintro _ _ ⟨g2_5, f38_6, rfl, rfl⟩
  refine Z.at (pc' := 41) (st' := []) (ws' := [(dT, ob 9 [.int sc, .ref dsp, .ref dwh, .ref dfi, .ref dse, .ref dgi, .ref dle, dT0, dT1, dT2]), (sT, ob 9 [.int sc, .ref ssp, .ref swh, .ref sfi, .ref sse, .ref sgi, .ref sle, sT0, sT1, sT2]), (dwh, aZ G 12 dfwh), (dgi, aI G 12 dfgi), (dle, aI G 48 dfle), (swh, aZ G 12 sfwh), (sgi, aI G 12 sfgi), (sle, aI G 48 sfle), (ssp, aI G 12 sfsp), (dsp, aI G 12 g2_1), (sfi, aI G 12 sffi), (dfi, aI G 12 g2_3), (sse, aI G 12 sfse), (dse, aI G 12 g2_5)]) (kc' := 0) (ks' := 0) rfl rfl rfl rfl rfl ?_
  refine z_run X bx_X9_copyTrials_41_42 kx_X9_copyTrials_41_42 (lv' := [(0, .ref dT), (1, .ref sT)]) (st' := [.ref sT]) rfl ?_
  refine z_get X fl_9_25 dx_X9_copyTrials_42 1 rfl (v := .ref sgi) rfl ?_
  refine z_run X bx_X9_copyTrials_45_46 kx_X9_copyTrials_45_46 (lv' := [(0, .ref dT), (1, .ref sT)]) (st' := [.ref dT, .ref sgi]) rfl ?_
  refine z_get X fl_9_25 dx_X9_copyTrials_46 0 rfl (v := .ref dgi) rfl ?_
  refine z_callSN X k_9_66 (cx_X10_copy12 l G sgi dgi sfgi dfgi) dx_X9_copyTrials_49 ⟨Nat.le_of_ble_eq_true rfl, Nat.le_of_ble_eq_true rfl⟩ ⟨Nat.le_of_ble_eq_true rfl, Nat.le_of_ble_eq_true rfl⟩ rfl (rest := []) (As := [.ref sgi, .ref dgi]) rfl (Nat.le_of_ble_eq_true rfl) [6, 3] [0, 1, 2, 4, 5, 7, 8, 9, 10, 11, 12, 13] rfl (by decide) (wr := [(dT, ob 9 [.int sc, .ref dsp, .ref dwh, .ref dfi, .ref dse, .ref dgi, .ref dle, dT0, dT1, dT2]), (sT, ob 9 [.int sc, .ref ssp, .ref swh, .ref sfi, .ref sse, .ref sgi, .ref sle, sT0, sT1, sT2]), (dwh, aZ G 12 dfwh), (dle, aI G 48 dfle), (swh, aZ G 12 sfwh), (sle, aI G 48 sfle), (ssp, aI G 12 sfsp), (dsp, aI G 12 g2_1), (sfi, aI G 12 sffi), (dfi, aI G 12 g2_3), (sse, aI G 12 sfse), (dse, aI G 12 g2_5)]) rfl (by decide) (by decide) ?_
  rintro _ _ ⟨g2_7, f49_8, rfl, rfl⟩
  refine Z.at (pc' := 52) (st' := []) (ws' := [(dT, ob 9 [.int sc, .ref dsp, .ref dwh, .ref dfi, .ref dse, .ref dgi, .ref dle, dT0, dT1, dT2]), (sT, ob 9 [.int sc, .ref ssp, .ref swh, .ref sfi, .ref sse, .ref sgi, .ref sle, sT0, sT1, sT2]), (dwh, aZ G 12 dfwh), (dle, aI G 48 dfle), (swh, aZ G 12 sfwh), (sle, aI G 48 sfle), (ssp, aI G 12 sfsp), (dsp, aI G 12 g2_1), (sfi, aI G 12 sffi), (dfi, aI G 12 g2_3), (sse, aI G 12 sfse), (dse, aI G 12 g2_5), (sgi, aI G 12 sfgi), (dgi, aI G 12 g2_7)]) (kc' := 0) (ks' := 0) rfl rfl rfl rfl rfl ?_
  refine z_run X bx_X9_copyTrials_52_53 kx_X9_copyTrials_52_53 (lv' := [(0, .ref dT), (1, .ref sT)]) (st' := [.ref sT]) rfl ?_
  refine z_get X fl_9_28 dx_X9_copyTrials_53 1 rfl (v := .ref sle) rfl ?_
  refine z_run X bx_X9_copyTrials_56_57 kx_X9_copyTrials_56_57 (lv' := [(0, .ref dT), (1, .ref sT)]) (st' := [.ref dT, .ref sle]) rfl ?_
  refine z_get X fl_9_28 dx_X9_copyTrials_57 0 rfl (v := .ref dle) rfl ?_
  refine z_callSN X k_9_66 (cx_X10_copy48 l G sle dle sfle dfle) dx_X9_copyTrials_60 ⟨Nat.le_of_ble_eq_true rfl, Nat.le_of_ble_eq_true rfl⟩ ⟨Nat.le_of_ble_eq_true rfl, Nat.le_of_ble_eq_true rfl⟩ rfl (rest := []) (As := [.ref sle, .ref dle]) rfl (Nat.le_of_ble_eq_true rfl) [5, 3] [0, 1, 2, 4, 6, 7, 8, 9, 10, 11, 12, 13] rfl (by decide) (wr := [(dT, ob 9 [.int sc, .ref dsp, .ref dwh, .ref dfi, .ref dse, .ref dgi, .ref dle, dT0, dT1, dT2]), (sT, ob 9 [.int sc, .ref ssp, .ref swh, .ref sfi, .ref sse, .ref sgi, .ref sle, sT0, sT1, sT2]), (dwh, aZ G 12 dfwh), (swh, aZ G 12 sfwh), (ssp, aI G 12 sfsp), (dsp, aI G 12 g2_1), (sfi, aI G 12 sffi), (dfi, aI G 12 g2_3), (sse, aI G 12 sfse), (dse, aI G 12 g2_5), (sgi, aI G 12 sfgi), (dgi, aI G 12 g2_7)]) rfl (by decide) (by decide) ?_
  rintro _ _ ⟨g2_9, f60_10, rfl, rfl⟩
  refine Z.at (pc' := 63) (st' := []) (ws' := [(dT, ob 9 [.int sc, .ref dsp, .ref dwh, .ref dfi, .ref dse, .ref dgi, .ref dle, dT0, dT1, dT2]), (sT, ob 9 [.int sc, .ref ssp, .ref swh, .ref sfi, .ref sse, .ref sgi, .ref sle, sT0, sT1, sT2]), (dwh, aZ G 12 dfwh), (swh, aZ G 12 sfwh), (ssp, aI G 12 sfsp), (dsp, aI G 12 g2_1), (sfi, aI G 12 sffi), (dfi, aI G 12 g2_3), (sse, aI G 12 sfse), (dse, aI G 12 g2_5), (sgi, aI G 12 sfgi), (dgi, aI G 12 g2_7), (sle, aI G 48 sfle), (dle, aI G 48 g2_9)]) (kc' := 0) (ks' := 0) rfl rfl rfl rfl rfl ?_
  refine z_run X bx_X9_copyTrials_63_65 kx_X9_copyTrials_63_65 (lv' := [(2, .int 0), (0, .ref dT), (1, .ref sT)]) (st' := []) rfl ?_
  refine zloop (σ := Int32 × (Nat → Int32)) (fun z => [(2, .int z.1), (0, .ref dT), (1, .ref sT)]) (fun z => []) (fun z => [(dT, ob 9 [.int sc, .ref dsp, .ref dwh, .ref dfi, .ref dse, .ref dgi, .ref dle, dT0, dT1, dT2]), (sT, ob 9 [.int sc, .ref ssp, .ref swh, .ref sfi, .ref sse, .ref sgi, .ref sle, sT0, sT1, sT2]), (dwh, aZ G 12 z.2), (swh, aZ G 12 sfwh), (ssp, aI G 12 sfsp), (dsp, aI G 12 g2_1), (sfi, aI G 12 sffi), (dfi, aI G 12 g2_3), (sse, aI G 12 sfse), (dse, aI G 12 g2_5), (sgi, aI G 12 sfgi), (dgi, aI G 12 g2_7), (sle, aI G 48 sfle), (dle, aI G 48 g2_9)]) (fun z => (0 ≤ z.1.toInt ∧ z.1.toInt ≤ 12) ∧ (∀ j : Nat, (j : Int) < z.1.toInt → z.2 j = vp_nar .boolean (sfwh j))) (fun z => (12 - z.1.toInt).toNat) (0, dfwh) ?_ ?_
  ·
    rintro ⟨i_, g1⟩ ⟨hi, hg⟩ ih65
    dsimp only at *
    refine z_run X bx_X9_copyTrials_65_68 kx_X9_copyTrials_65_68 (lv' := [(2, .int i_), (0, .ref dT), (1, .ref sT)]) (st' := [.int 12, .int i_]) rfl ?_
    refine zc_ge X dx_X9_copyTrials_68 (tgt := 89) (by decide) (a := i_.toInt) (b := 12) rfl (show (12 : Int32).toInt = 12 from by decide) (fun c68_11 => ?_) (fun c68_11 => ?_)
    ·
      refine Z.sub (lv' := []) [] rfl [0, 1, 5, 2, 7, 9, 11, 13, 4, 3, 6, 8, 10, 12] (ws' := [(dT, ob 9 [.int sc, .ref dsp, .ref dwh, .ref dfi, .ref dse, .ref dgi, .ref dle, dT0, dT1, dT2]), (sT, ob 9 [.int sc, .ref ssp, .ref swh, .ref sfi, .ref sse, .ref sgi, .ref sle, sT0, sT1, sT2]), (dsp, aI G 12 g2_1), (dwh, aZ G 12 g1), (dfi, aI G 12 g2_3), (dse, aI G 12 g2_5), (dgi, aI G 12 g2_7), (dle, aI G 48 g2_9), (ssp, aI G 12 sfsp), (swh, aZ G 12 sfwh), (sfi, aI G 12 sffi), (sse, aI G 12 sfse), (sgi, aI G 12 sfgi), (sle, aI G 48 sfle)]) rfl (by decide) ?_
      exact z_vret X rfl dx_X9_copyTrials_89 (Nat.le_of_ble_eq_true rfl) (Nat.le_of_ble_eq_true rfl) ⟨g2_1, g1, g2_3, g2_5, g2_7, g2_9, f16_2, (fun j hj => hg j (by omega)), f27_4, f38_6, f49_8, f60_10, rfl, rfl⟩
    ·
      refine z_run X bx_X9_copyTrials_71_72 kx_X9_copyTrials_71_72 (lv' := [(2, .int i_), (0, .ref dT), (1, .ref sT)]) (st' := [.ref dT]) rfl ?_
      refine z_get X fl_9_15 dx_X9_copyTrials_72 0 rfl (v := .ref dwh) rfl ?_
      refine z_run X bx_X9_copyTrials_75_77 kx_X9_copyTrials_75_77 (lv' := [(2, .int i_), (0, .ref dT), (1, .ref sT)]) (st' := [.ref sT, .int i_, .ref dwh]) rfl ?_
      refine z_get X fl_9_15 dx_X9_copyTrials_77 1 rfl (v := .ref swh) rfl ?_
      refine z_run X bx_X9_copyTrials_80_81 kx_X9_copyTrials_80_81 (lv' := [(2, .int i_), (0, .ref dT), (1, .ref sT)]) (st' := [.int i_, .ref swh, .int i_, .ref dwh]) rfl ?_
      refine z_zald X dx_X9_copyTrials_81 3 rfl (vin rfl (by omega) (by omega)) (v := (sfwh i_.toNatClampNeg)) rfl ?_
      refine z_zast X dx_X9_copyTrials_82 2 rfl (vin rfl (by omega) (by omega)) (ws' := [(dT, ob 9 [.int sc, .ref dsp, .ref dwh, .ref dfi, .ref dse, .ref dgi, .ref dle, dT0, dT1, dT2]), (sT, ob 9 [.int sc, .ref ssp, .ref swh, .ref sfi, .ref sse, .ref sgi, .ref sle, sT0, sT1, sT2]), (dwh, aZ G 12 (upd g1 i_.toNatClampNeg (vp_nar .boolean (sfwh i_.toNatClampNeg)))), (swh, aZ G 12 sfwh), (ssp, aI G 12 sfsp), (dsp, aI G 12 g2_1), (sfi, aI G 12 sffi), (dfi, aI G 12 g2_3), (sse, aI G 12 sfse), (dse, aI G 12 g2_5), (sgi, aI G 12 sfgi), (dgi, aI G 12 g2_7), (sle, aI G 48 sfle), (dle, aI G 48 g2_9)]) rfl ?_
      refine z_run X bx_X9_copyTrials_83_86 kx_X9_copyTrials_83_86 (lv' := [(2, .int (i_ + 1)), (0, .ref dT), (1, .ref sT)]) (st' := []) rfl ?_
      refine z_goto X dx_X9_copyTrials_86 (tgt := 65) (by decide) ?_
      exact ih65 ((i_ + 1), (upd g1 i_.toNatClampNeg (vp_nar .boolean (sfwh i_.toNatClampNeg)))) ⟨(by dsimp only; have e : (i_ + 1).toInt = i_.toInt + 1 := tI_add rfl (show (1 : Int32).toInt = 1 from by decide) (by omega); omega), (by dsimp only; have e : (i_ + 1).toInt = i_.toInt + 1 := tI_add rfl (show (1 : Int32).toInt = 1 from by decide) (by omega); rw [e]; exact st_step (F := fun j => vp_nar .boolean (sfwh j)) hi.1 hg rfl)⟩ (by dsimp only; have e : (i_ + 1).toInt = i_.toInt + 1 := tI_add rfl (show (1 : Int32).toInt = 1 from by decide) (by omega); omega)
  · exact ⟨(by dsimp only; have e0 : (0 : Int32).toInt = 0 := (by decide); omega), (by dsimp only; have e0 : (0 : Int32).toInt = 0 := (by decide); intro j hj; omega)⟩

theorem dx_X2_store_2 : decode cX2_store 2 = .ok (.putfield 32, 3) := by decide +kernel
theorem dx_X2_store_6 : decode cX2_store 6 = .ok (.getfield 36, 3) := by decide +kernel
theorem dx_X2_store_10 : decode cX2_store 10 = .ok (.getfield 9, 3) := by decide +kernel
theorem dx_X2_store_13 : decode cX2_store 13 = .ok (.invokestatic 39, 3) := by decide +kernel
theorem dx_X2_store_19 : decode cX2_store 19 = .ok (.getfield 15, 3) := by decide +kernel
theorem dx_X2_store_22 : decode cX2_store 22 = .ok (.invokestatic 39, 3) := by decide +kernel
theorem dx_X2_store_26 : decode cX2_store 26 = .ok (.getfield 21, 3) := by decide +kernel
theorem dx_X2_store_30 : decode cX2_store 30 = .ok (.invokevirtual 43, 3) := by decide +kernel
theorem dx_X2_store_34 : decode cX2_store 34 = .ok (.getfield 28, 3) := by decide +kernel
theorem dx_X2_store_38 : decode cX2_store 38 = .ok (.invokevirtual 47, 3) := by decide +kernel
theorem dx_X2_store_43 : decode cX2_store 43 = .ok (.getfield 51, 3) := by decide +kernel
theorem dx_X2_store_46 : decode cX2_store 46 = .ok (.putfield 55, 3) := by decide +kernel
theorem dx_X2_store_51 : decode cX2_store 51 = .ok (.getfield 56, 3) := by decide +kernel
theorem dx_X2_store_54 : decode cX2_store 54 = .ok (.putfield 59, 3) := by decide +kernel
theorem dx_X2_store_57 : decode cX2_store 57 = .ok (.return_, 1) := by decide +kernel
abbrev bx_X2_store_0_2 : ZB := [(.aload_n 0, .null), (.iconst 1, .int 1)]
theorem kx_X2_store_0_2 : zchk cX2_store bx_X2_store_0_2 0 = true ∧ zpc bx_X2_store_0_2 0 = 2 := ⟨by decide +kernel, rfl⟩
abbrev bx_X2_store_5_6 : ZB := [(.aload_n 1, .null)]
theorem kx_X2_store_5_6 : zchk cX2_store bx_X2_store_5_6 5 = true ∧ zpc bx_X2_store_5_6 5 = 6 := ⟨by decide +kernel, rfl⟩
abbrev bx_X2_store_9_10 : ZB := [(.aload_n 0, .null)]
theorem kx_X2_store_9_10 : zchk cX2_store bx_X2_store_9_10 9 = true ∧ zpc bx_X2_store_9_10 9 = 10 := ⟨by decide +kernel, rfl⟩
abbrev bx_X2_store_16_19 : ZB := [(.aload 4, .null), (.aload_n 0, .null)]
theorem kx_X2_store_16_19 : zchk cX2_store bx_X2_store_16_19 16 = true ∧ zpc bx_X2_store_16_19 16 = 19 := ⟨by decide +kernel, rfl⟩
abbrev bx_X2_store_25_26 : ZB := [(.aload_n 0, .null)]
theorem kx_X2_store_25_26 : zchk cX2_store bx_X2_store_25_26 25 = true ∧ zpc bx_X2_store_25_26 25 = 26 := ⟨by decide +kernel, rfl⟩
abbrev bx_X2_store_29_30 : ZB := [(.aload_n 2, .null)]
theorem kx_X2_store_29_30 : zchk cX2_store bx_X2_store_29_30 29 = true ∧ zpc bx_X2_store_29_30 29 = 30 := ⟨by decide +kernel, rfl⟩
abbrev bx_X2_store_33_34 : ZB := [(.aload_n 0, .null)]
theorem kx_X2_store_33_34 : zchk cX2_store bx_X2_store_33_34 33 = true ∧ zpc bx_X2_store_33_34 33 = 34 := ⟨by decide +kernel, rfl⟩
abbrev bx_X2_store_37_38 : ZB := [(.aload_n 3, .null)]
theorem kx_X2_store_37_38 : zchk cX2_store bx_X2_store_37_38 37 = true ∧ zpc bx_X2_store_37_38 37 = 38 := ⟨by decide +kernel, rfl⟩
abbrev bx_X2_store_41_43 : ZB := [(.aload_n 0, .null), (.aload_n 1, .null)]
theorem kx_X2_store_41_43 : zchk cX2_store bx_X2_store_41_43 41 = true ∧ zpc bx_X2_store_41_43 41 = 43 := ⟨by decide +kernel, rfl⟩
abbrev bx_X2_store_49_51 : ZB := [(.aload_n 0, .null), (.aload_n 1, .null)]
theorem kx_X2_store_49_51 : zchk cX2_store bx_X2_store_49_51 49 = true ∧ zpc bx_X2_store_49_51 49 = 51 := ⟨by decide +kernel, rfl⟩
set_option maxHeartbeats 4000000 in
set_option maxRecDepth 100000 in
theorem cx_X2_store (l : Launch) (G : KG) (kO : Nat) (kf : Int32) (kh : Nat) (kt : Nat) (kp : Int32) (ko : Int32) (kS : Nat) (kS0 : Value) (kS1 : Value) (kS2 : Value) (kA : Nat) (kX : Nat) (kY : Nat) (kT : Nat) (kc : Int32) (ksp : Nat) (kwh : Nat) (kfi : Nat) (kse : Nat) (kgi : Nat) (kle : Nat) (kT0 : Value) (kT1 : Value) (kT2 : Value) (ring : Nat) (g_hc : Value) (g_0 : Value) (g_1 : Value) (g_2 : Value) (g_3 : Value) (rh : Nat) (g_rd : Value) (ph : Int32) (po : Int32) (sS : Nat) (sS0 : Value) (sS1 : Value) (sS2 : Value) (sA : Nat) (sX : Nat) (sY : Nat) (sT : Nat) (sc : Int32) (ssp : Nat) (swh : Nat) (sfi : Nat) (sse : Nat) (sgi : Nat) (sle : Nat) (sT0 : Value) (sT1 : Value) (sT2 : Value) (th_ : Nat) (kfh : Nat → Int32) (kft : Nat → Int32) (kfA : Nat → Int32) (kfX : Nat → Int32) (kfY : Nat → Int32) (kfsp : Nat → Int32) (kfwh : Nat → Int32) (kffi : Nat → Int32) (kfse : Nat → Int32) (kfgi : Nat → Int32) (kfle : Nat → Int32) (rfh : Nat → Int32) (sfA : Nat → Int32) (sfX : Nat → Int32) (sfY : Nat → Int32) (sfsp : Nat → Int32) (sfwh : Nat → Int32) (sffi : Nat → Int32) (sfse : Nat → Int32) (sfgi : Nat → Int32) (sfle : Nat → Int32) (tft : Nat → Int32) : Ct l G yX2_store cX2_store 5 none { frames := 2, cells := 0, slots := 0, locals := 44 } [.ref kO, .ref ring, .ref sS, .ref sT, .ref th_] [(kO, ob 2 [.int kf, .ref kh, .ref kt, .ref kS, .ref kT, .int kp, .int ko]), (kh, aI G 16 kfh), (kt, aI G 8 kft), (kS, ob 7 [kS0, kS1, kS2, .ref kA, .ref kX, .ref kY]), (kA, aZ G 6 kfA), (kX, aI G 6 kfX), (kY, aI G 6 kfY), (kT, ob 9 [.int kc, .ref ksp, .ref kwh, .ref kfi, .ref kse, .ref kgi, .ref kle, kT0, kT1, kT2]), (ksp, aI G 12 kfsp), (kwh, aZ G 12 kfwh), (kfi, aI G 12 kffi), (kse, aI G 12 kfse), (kgi, aI G 12 kfgi), (kle, aI G 48 kfle), (ring, ob 5 [g_hc, g_0, g_1, g_2, g_3, .ref rh, g_rd, .int ph, .int po]), (rh, aI G 16 rfh), (sS, ob 7 [sS0, sS1, sS2, .ref sA, .ref sX, .ref sY]), (sA, aZ G 6 sfA), (sX, aI G 6 sfX), (sY, aI G 6 sfY), (sT, ob 9 [.int sc, .ref ssp, .ref swh, .ref sfi, .ref sse, .ref sgi, .ref sle, sT0, sT1, sT2]), (ssp, aI G 12 sfsp), (swh, aZ G 12 sfwh), (sfi, aI G 12 sffi), (sse, aI G 12 sfse), (sgi, aI G 12 sfgi), (sle, aI G 48 sfle), (th_, aI G 8 tft)] (fun r w1 => ∃ (kfh2 : Nat → Int32), ∃ (kft2 : Nat → Int32), ∃ (kfA2 : Nat → Int32), ∃ (kfX2 : Nat → Int32), ∃ (kfY2 : Nat → Int32), ∃ (kfsp2 : Nat → Int32), ∃ (kfwh2 : Nat → Int32), ∃ (kffi2 : Nat → Int32), ∃ (kfse2 : Nat → Int32), ∃ (kfgi2 : Nat → Int32), ∃ (kfle2 : Nat → Int32), (∀ j : Nat, j < 16 → kfh2 j = rfh j) ∧ (∀ j : Nat, j < 8 → kft2 j = tft j) ∧ (∀ j : Nat, j < 6 → kfX2 j = sfX j) ∧ (∀ j : Nat, j < 6 → kfY2 j = sfY j) ∧ (∀ j : Nat, j < 6 → kfA2 j = vp_nar .boolean (sfA j)) ∧ (∀ j : Nat, j < 12 → kfsp2 j = sfsp j) ∧ (∀ j : Nat, j < 12 → kfwh2 j = vp_nar .boolean (sfwh j)) ∧ (∀ j : Nat, j < 12 → kffi2 j = sffi j) ∧ (∀ j : Nat, j < 12 → kfse2 j = sfse j) ∧ (∀ j : Nat, j < 12 → kfgi2 j = sfgi j) ∧ (∀ j : Nat, j < 48 → kfle2 j = sfle j) ∧ r = none ∧ w1 = [(kO, ob 2 [.int (1 : Int32), .ref kh, .ref kt, .ref kS, .ref kT, .int ph, .int po]), (kh, aI G 16 kfh2), (kt, aI G 8 kft2), (kS, ob 7 [kS0, kS1, kS2, .ref kA, .ref kX, .ref kY]), (kA, aZ G 6 kfA2), (kX, aI G 6 kfX2), (kY, aI G 6 kfY2), (kT, ob 9 [.int sc, .ref ksp, .ref kwh, .ref kfi, .ref kse, .ref kgi, .ref kle, kT0, kT1, kT2]), (ksp, aI G 12 kfsp2), (kwh, aZ G 12 kfwh2), (kfi, aI G 12 kffi2), (kse, aI G 12 kfse2), (kgi, aI G 12 kfgi2), (kle, aI G 48 kfle2), (ring, ob 5 [g_hc, g_0, g_1, g_2, g_3, .ref rh, g_rd, .int ph, .int po]), (rh, aI G 16 rfh), (sS, ob 7 [sS0, sS1, sS2, .ref sA, .ref sX, .ref sY]), (sA, aZ G 6 sfA), (sX, aI G 6 sfX), (sY, aI G 6 sfY), (sT, ob 9 [.int sc, .ref ssp, .ref swh, .ref sfi, .ref sse, .ref sgi, .ref sle, sT0, sT1, sT2]), (ssp, aI G 12 sfsp), (swh, aZ G 12 sfwh), (sfi, aI G 12 sffi), (sse, aI G 12 sfse), (sgi, aI G 12 sfgi), (sle, aI G 48 sfle), (th_, aI G 8 tft)]) := by
  refine ct_of [(0, .ref kO), (1, .ref ring), (2, .ref sS), (3, .ref sT), (4, .ref th_)] (by decide) (Nat.le_of_ble_eq_true rfl) rfl ?_
  intro p0 e0 s0 m0 args0 below0 meth0 c0 A X
  refine z_run X bx_X2_store_0_2 kx_X2_store_0_2 (lv' := [(0, .ref kO), (1, .ref ring), (2, .ref sS), (3, .ref sT), (4, .ref th_)]) (st' := [.int 1, .ref kO]) rfl ?_
  refine z_put X fl_2_32 dx_X2_store_2 0 rfl (ty := .boolean) (T := TX2) (N := 7) rfl (Or.inl rfl) (by decide +kernel) rfl (by rfl) (Nat.le_of_ble_eq_true rfl) (ws' := [(kO, ob 2 [.int 1, .ref kh, .ref kt, .ref kS, .ref kT, .int kp, .int ko]), (kh, aI G 16 kfh), (kt, aI G 8 kft), (kS, ob 7 [kS0, kS1, kS2, .ref kA, .ref kX, .ref kY]), (kA, aZ G 6 kfA), (kX, aI G 6 kfX), (kY, aI G 6 kfY), (kT, ob 9 [.int kc, .ref ksp, .ref kwh, .ref kfi, .ref kse, .ref kgi, .ref kle, kT0, kT1, kT2]), (ksp, aI G 12 kfsp), (kwh, aZ G 12 kfwh), (kfi, aI G 12 kffi), (kse, aI G 12 kfse), (kgi, aI G 12 kfgi), (kle, aI G 48 kfle), (ring, ob 5 [g_hc, g_0, g_1, g_2, g_3, .ref rh, g_rd, .int ph, .int po]), (rh, aI G 16 rfh), (sS, ob 7 [sS0, sS1, sS2, .ref sA, .ref sX, .ref sY]), (sA, aZ G 6 sfA), (sX, aI G 6 sfX), (sY, aI G 6 sfY), (sT, ob 9 [.int sc, .ref ssp, .ref swh, .ref sfi, .ref sse, .ref sgi, .ref sle, sT0, sT1, sT2]), (ssp, aI G 12 sfsp), (swh, aZ G 12 sfwh), (sfi, aI G 12 sffi), (sse, aI G 12 sfse), (sgi, aI G 12 sfgi), (sle, aI G 48 sfle), (th_, aI G 8 tft)]) rfl ?_
  refine z_run X bx_X2_store_5_6 kx_X2_store_5_6 (lv' := [(0, .ref kO), (1, .ref ring), (2, .ref sS), (3, .ref sT), (4, .ref th_)]) (st' := [.ref ring]) rfl ?_
  refine z_getN X fl_2_36 dx_X2_store_6 14 rfl (v := .ref rh) rfl ?_
  refine z_run X bx_X2_store_9_10 kx_X2_store_9_10 (lv' := [(0, .ref kO), (1, .ref ring), (2, .ref sS), (3, .ref sT), (4, .ref th_)]) (st' := [.ref kO, .ref rh]) rfl ?_
  refine z_get X fl_2_9 dx_X2_store_10 0 rfl (v := .ref kh) rfl ?_
  refine z_callSN X k_2_39 (cx_X10_copy16 l G rh kh rfh kfh) dx_X2_store_13 ⟨Nat.le_of_ble_eq_true rfl, Nat.le_of_ble_eq_true rfl⟩ ⟨Nat.le_of_ble_eq_true rfl, Nat.le_of_ble_eq_true rfl⟩ rfl (rest := []) (As := [.ref rh, .ref kh]) rfl (Nat.le_of_ble_eq_true rfl) [15, 1] [0, 2, 3, 4, 5, 6, 7, 8, 9, 10, 11, 12, 13, 14, 16, 17, 18, 19, 20, 21, 22, 23, 24, 25, 26, 27] rfl (by decide) (wr := [(kO, ob 2 [.int 1, .ref kh, .ref kt, .ref kS, .ref kT, .int kp, .int ko]), (kt, aI G 8 kft), (kS, ob 7 [kS0, kS1, kS2, .ref kA, .ref kX, .ref kY]), (kA, aZ G 6 kfA), (kX, aI G 6 kfX), (kY, aI G 6 kfY), (kT, ob 9 [.int kc, .ref ksp, .ref kwh, .ref kfi, .ref kse, .ref kgi, .ref kle, kT0, kT1, kT2]), (ksp, aI G 12 kfsp), (kwh, aZ G 12 kfwh), (kfi, aI G 12 kffi), (kse, aI G 12 kfse), (kgi, aI G 12 kfgi), (kle, aI G 48 kfle), (ring, ob 5 [g_hc, g_0, g_1, g_2, g_3, .ref rh, g_rd, .int ph, .int po]), (sS, ob 7 [sS0, sS1, sS2, .ref sA, .ref sX, .ref sY]), (sA, aZ G 6 sfA), (sX, aI G 6 sfX), (sY, aI G 6 sfY), (sT, ob 9 [.int sc, .ref ssp, .ref swh, .ref sfi, .ref sse, .ref sgi, .ref sle, sT0, sT1, sT2]), (ssp, aI G 12 sfsp), (swh, aZ G 12 sfwh), (sfi, aI G 12 sffi), (sse, aI G 12 sfse), (sgi, aI G 12 sfgi), (sle, aI G 48 sfle), (th_, aI G 8 tft)]) rfl (by decide) (by decide) ?_
  rintro _ _ ⟨g2_1, f13_2, rfl, rfl⟩
  refine Z.at (pc' := 16) (st' := []) (ws' := [(kO, ob 2 [.int 1, .ref kh, .ref kt, .ref kS, .ref kT, .int kp, .int ko]), (kt, aI G 8 kft), (kS, ob 7 [kS0, kS1, kS2, .ref kA, .ref kX, .ref kY]), (kA, aZ G 6 kfA), (kX, aI G 6 kfX), (kY, aI G 6 kfY), (kT, ob 9 [.int kc, .ref ksp, .ref kwh, .ref kfi, .ref kse, .ref kgi, .ref kle, kT0, kT1, kT2]), (ksp, aI G 12 kfsp), (kwh, aZ G 12 kfwh), (kfi, aI G 12 kffi), (kse, aI G 12 kfse), (kgi, aI G 12 kfgi), (kle, aI G 48 kfle), (ring, ob 5 [g_hc, g_0, g_1, g_2, g_3, .ref rh, g_rd, .int ph, .int po]), (sS, ob 7 [sS0, sS1, sS2, .ref sA, .ref sX, .ref sY]), (sA, aZ G 6 sfA), (sX, aI G 6 sfX), (sY, aI G 6 sfY), (sT, ob 9 [.int sc, .ref ssp, .ref swh, .ref sfi, .ref sse, .ref sgi, .ref sle, sT0, sT1, sT2]), (ssp, aI G 12 sfsp), (swh, aZ G 12 sfwh), (sfi, aI G 12 sffi), (sse, aI G 12 sfse), (sgi, aI G 12 sfgi), (sle, aI G 48 sfle), (th_, aI G 8 tft), (rh, aI G 16 rfh), (kh, aI G 16 g2_1)]) (kc' := 0) (ks' := 0) rfl rfl rfl rfl rfl ?_
  refine z_run X bx_X2_store_16_19 kx_X2_store_16_19 (lv' := [(0, .ref kO), (1, .ref ring), (2, .ref sS), (3, .ref sT), (4, .ref th_)]) (st' := [.ref kO, .ref th_]) rfl ?_
  refine z_get X fl_2_15 dx_X2_store_19 0 rfl (v := .ref kt) rfl ?_
  refine z_callSN X k_2_39 (cx_X10_copy8 l G th_ kt tft kft) dx_X2_store_22 ⟨Nat.le_of_ble_eq_true rfl, Nat.le_of_ble_eq_true rfl⟩ ⟨Nat.le_of_ble_eq_true rfl, Nat.le_of_ble_eq_true rfl⟩ rfl (rest := []) (As := [.ref th_, .ref kt]) rfl (Nat.le_of_ble_eq_true rfl) [25, 1] [0, 2, 3, 4, 5, 6, 7, 8, 9, 10, 11, 12, 13, 14, 15, 16, 17, 18, 19, 20, 21, 22, 23, 24, 26, 27] rfl (by decide) (wr := [(kO, ob 2 [.int 1, .ref kh, .ref kt, .ref kS, .ref kT, .int kp, .int ko]), (kS, ob 7 [kS0, kS1, kS2, .ref kA, .ref kX, .ref kY]), (kA, aZ G 6 kfA), (kX, aI G 6 kfX), (kY, aI G 6 kfY), (kT, ob 9 [.int kc, .ref ksp, .ref kwh, .ref kfi, .ref kse, .ref kgi, .ref kle, kT0, kT1, kT2]), (ksp, aI G 12 kfsp), (kwh, aZ G 12 kfwh), (kfi, aI G 12 kffi), (kse, aI G 12 kfse), (kgi, aI G 12 kfgi), (kle, aI G 48 kfle), (ring, ob 5 [g_hc, g_0, g_1, g_2, g_3, .ref rh, g_rd, .int ph, .int po]), (sS, ob 7 [sS0, sS1, sS2, .ref sA, .ref sX, .ref sY]), (sA, aZ G 6 sfA), (sX, aI G 6 sfX), (sY, aI G 6 sfY), (sT, ob 9 [.int sc, .ref ssp, .ref swh, .ref sfi, .ref sse, .ref sgi, .ref sle, sT0, sT1, sT2]), (ssp, aI G 12 sfsp), (swh, aZ G 12 sfwh), (sfi, aI G 12 sffi), (sse, aI G 12 sfse), (sgi, aI G 12 sfgi), (sle, aI G 48 sfle), (rh, aI G 16 rfh), (kh, aI G 16 g2_1)]) rfl (by decide) (by decide) ?_
  rintro _ _ ⟨g2_3, f22_4, rfl, rfl⟩
  refine Z.at (pc' := 25) (st' := []) (ws' := [(kO, ob 2 [.int 1, .ref kh, .ref kt, .ref kS, .ref kT, .int kp, .int ko]), (kS, ob 7 [kS0, kS1, kS2, .ref kA, .ref kX, .ref kY]), (kA, aZ G 6 kfA), (kX, aI G 6 kfX), (kY, aI G 6 kfY), (kT, ob 9 [.int kc, .ref ksp, .ref kwh, .ref kfi, .ref kse, .ref kgi, .ref kle, kT0, kT1, kT2]), (ksp, aI G 12 kfsp), (kwh, aZ G 12 kfwh), (kfi, aI G 12 kffi), (kse, aI G 12 kfse), (kgi, aI G 12 kfgi), (kle, aI G 48 kfle), (ring, ob 5 [g_hc, g_0, g_1, g_2, g_3, .ref rh, g_rd, .int ph, .int po]), (sS, ob 7 [sS0, sS1, sS2, .ref sA, .ref sX, .ref sY]), (sA, aZ G 6 sfA), (sX, aI G 6 sfX), (sY, aI G 6 sfY), (sT, ob 9 [.int sc, .ref ssp, .ref swh, .ref sfi, .ref sse, .ref sgi, .ref sle, sT0, sT1, sT2]), (ssp, aI G 12 sfsp), (swh, aZ G 12 sfwh), (sfi, aI G 12 sffi), (sse, aI G 12 sfse), (sgi, aI G 12 sfgi), (sle, aI G 48 sfle), (rh, aI G 16 rfh), (kh, aI G 16 g2_1), (th_, aI G 8 tft), (kt, aI G 8 g2_3)]) (kc' := 0) (ks' := 0) rfl rfl rfl rfl rfl ?_
  refine z_run X bx_X2_store_25_26 kx_X2_store_25_26 (lv' := [(0, .ref kO), (1, .ref ring), (2, .ref sS), (3, .ref sT), (4, .ref th_)]) (st' := [.ref kO]) rfl ?_
  refine z_get X fl_2_21 dx_X2_store_26 0 rfl (v := .ref kS) rfl ?_
  refine z_run X bx_X2_store_29_30 kx_X2_store_29_30 (lv' := [(0, .ref kO), (1, .ref ring), (2, .ref sS), (3, .ref sT), (4, .ref th_)]) (st' := [.ref sS, .ref kS]) rfl ?_
  refine z_callV X k_2_43 (cx_X7_copyApart l G kS kS0 kS1 kS2 kA kX kY sS sS0 sS1 sS2 sA sX sY kfA kfX kfY sfA sfX sfY) dx_X2_store_30 1 rfl rfl rfl ⟨Nat.le_of_ble_eq_true rfl, Nat.le_of_ble_eq_true rfl⟩ ⟨Nat.le_of_ble_eq_true rfl, Nat.le_of_ble_eq_true rfl⟩ rfl (rest := []) (As := [.ref sS]) rfl (Nat.le_of_ble_eq_true rfl) [1, 13, 2, 3, 4, 14, 15, 16] [0, 5, 6, 7, 8, 9, 10, 11, 12, 17, 18, 19, 20, 21, 22, 23, 24, 25, 26, 27] rfl (by decide) (wr := [(kO, ob 2 [.int 1, .ref kh, .ref kt, .ref kS, .ref kT, .int kp, .int ko]), (kT, ob 9 [.int kc, .ref ksp, .ref kwh, .ref kfi, .ref kse, .ref kgi, .ref kle, kT0, kT1, kT2]), (ksp, aI G 12 kfsp), (kwh, aZ G 12 kfwh), (kfi, aI G 12 kffi), (kse, aI G 12 kfse), (kgi, aI G 12 kfgi), (kle, aI G 48 kfle), (ring, ob 5 [g_hc, g_0, g_1, g_2, g_3, .ref rh, g_rd, .int ph, .int po]), (sT, ob 9 [.int sc, .ref ssp, .ref swh, .ref sfi, .ref sse, .ref sgi, .ref sle, sT0, sT1, sT2]), (ssp, aI G 12 sfsp), (swh, aZ G 12 sfwh), (sfi, aI G 12 sffi), (sse, aI G 12 sfse), (sgi, aI G 12 sfgi), (sle, aI G 48 sfle), (rh, aI G 16 rfh), (kh, aI G 16 g2_1), (th_, aI G 8 tft), (kt, aI G 8 g2_3)]) rfl (by decide) (by decide) ?_
  rintro _ _ ⟨dfA2_5, dfX2_6, dfY2_7, f30_8, f30_9, f30_10, rfl, rfl⟩
  refine Z.at (pc' := 33) (st' := []) (ws' := [(kO, ob 2 [.int 1, .ref kh, .ref kt, .ref kS, .ref kT, .int kp, .int ko]), (kT, ob 9 [.int kc, .ref ksp, .ref kwh, .ref kfi, .ref kse, .ref kgi, .ref kle, kT0, kT1, kT2]), (ksp, aI G 12 kfsp), (kwh, aZ G 12 kfwh), (kfi, aI G 12 kffi), (kse, aI G 12 kfse), (kgi, aI G 12 kfgi), (kle, aI G 48 kfle), (ring, ob 5 [g_hc, g_0, g_1, g_2, g_3, .ref rh, g_rd, .int ph, .int po]), (sT, ob 9 [.int sc, .ref ssp, .ref swh, .ref sfi, .ref sse, .ref sgi, .ref sle, sT0, sT1, sT2]), (ssp, aI G 12 sfsp), (swh, aZ G 12 sfwh), (sfi, aI G 12 sffi), (sse, aI G 12 sfse), (sgi, aI G 12 sfgi), (sle, aI G 48 sfle), (rh, aI G 16 rfh), (kh, aI G 16 g2_1), (th_, aI G 8 tft), (kt, aI G 8 g2_3), (kS, ob 7 [kS0, kS1, kS2, .ref kA, .ref kX, .ref kY]), (sS, ob 7 [sS0, sS1, sS2, .ref sA, .ref sX, .ref sY]), (kA, aZ G 6 dfA2_5), (kX, aI G 6 dfX2_6), (kY, aI G 6 dfY2_7), (sA, aZ G 6 sfA), (sX, aI G 6 sfX), (sY, aI G 6 sfY)]) (kc' := 0) (ks' := 0) rfl rfl rfl rfl rfl ?_
  refine z_run X bx_X2_store_33_34 kx_X2_store_33_34 (lv' := [(0, .ref kO), (1, .ref ring), (2, .ref sS), (3, .ref sT), (4, .ref th_)]) (st' := [.ref kO]) rfl ?_
  refine z_get X fl_2_28 dx_X2_store_34 0 rfl (v := .ref kT) rfl ?_
  refine z_run X bx_X2_store_37_38 kx_X2_store_37_38 (lv' := [(0, .ref kO), (1, .ref ring), (2, .ref sS), (3, .ref sT), (4, .ref th_)]) (st' := [.ref sT, .ref kT]) rfl ?_
  refine z_callV X k_2_47 (cx_X9_copyTrials l G kT kc ksp kwh kfi kse kgi kle kT0 kT1 kT2 sT sc ssp swh sfi sse sgi sle sT0 sT1 sT2 kfsp kfwh kffi kfse kfgi kfle sfsp sfwh sffi sfse sfgi sfle) dx_X2_store_38 1 rfl rfl rfl ⟨Nat.le_of_ble_eq_true rfl, Nat.le_of_ble_eq_true rfl⟩ ⟨Nat.le_of_ble_eq_true rfl, Nat.le_of_ble_eq_true rfl⟩ rfl (rest := []) (As := [.ref sT]) rfl (Nat.le_of_ble_eq_true rfl) [1, 9, 2, 3, 4, 5, 6, 7, 10, 11, 12, 13, 14, 15] [0, 8, 16, 17, 18, 19, 20, 21, 22, 23, 24, 25, 26, 27] rfl (by decide) (wr := [(kO, ob 2 [.int 1, .ref kh, .ref kt, .ref kS, .ref kT, .int kp, .int ko]), (ring, ob 5 [g_hc, g_0, g_1, g_2, g_3, .ref rh, g_rd, .int ph, .int po]), (rh, aI G 16 rfh), (kh, aI G 16 g2_1), (th_, aI G 8 tft), (kt, aI G 8 g2_3), (kS, ob 7 [kS0, kS1, kS2, .ref kA, .ref kX, .ref kY]), (sS, ob 7 [sS0, sS1, sS2, .ref sA, .ref sX, .ref sY]), (kA, aZ G 6 dfA2_5), (kX, aI G 6 dfX2_6), (kY, aI G 6 dfY2_7), (sA, aZ G 6 sfA), (sX, aI G 6 sfX), (sY, aI G 6 sfY)]) rfl (by decide) (by decide) ?_
  rintro _ _ ⟨dfsp2_11, dfwh2_12, dffi2_13, dfse2_14, dfgi2_15, dfle2_16, f38_17, f38_18, f38_19, f38_20, f38_21, f38_22, rfl, rfl⟩
  refine Z.at (pc' := 41) (st' := []) (ws' := [(kO, ob 2 [.int 1, .ref kh, .ref kt, .ref kS, .ref kT, .int kp, .int ko]), (ring, ob 5 [g_hc, g_0, g_1, g_2, g_3, .ref rh, g_rd, .int ph, .int po]), (rh, aI G 16 rfh), (kh, aI G 16 g2_1), (th_, aI G 8 tft), (kt, aI G 8 g2_3), (kS, ob 7 [kS0, kS1, kS2, .ref kA, .ref kX, .ref kY]), (sS, ob 7 [sS0, sS1, sS2, .ref sA, .ref sX, .ref sY]), (kA, aZ G 6 dfA2_5), (kX, aI G 6 dfX2_6), (kY, aI G 6 dfY2_7), (sA, aZ G 6 sfA), (sX, aI G 6 sfX), (sY, aI G 6 sfY), (kT, ob 9 [.int sc, .ref ksp, .ref kwh, .ref kfi, .ref kse, .ref kgi, .ref kle, kT0, kT1, kT2]), (sT, ob 9 [.int sc, .ref ssp, .ref swh, .ref sfi, .ref sse, .ref sgi, .ref sle, sT0, sT1, sT2]), (ksp, aI G 12 dfsp2_11), (kwh, aZ G 12 dfwh2_12), (kfi, aI G 12 dffi2_13), (kse, aI G 12 dfse2_14), (kgi, aI G 12 dfgi2_15), (kle, aI G 48 dfle2_16), (ssp, aI G 12 sfsp), (swh, aZ G 12 sfwh), (sfi, aI G 12 sffi), (sse, aI G 12 sfse), (sgi, aI G 12 sfgi), (sle, aI G 48 sfle)]) (kc' := 0) (ks' := 0) rfl rfl rfl rfl rfl ?_
  refine z_run X bx_X2_store_41_43 kx_X2_store_41_43 (lv' := [(0, .ref kO), (1, .ref ring), (2, .ref sS), (3, .ref sT), (4, .ref th_)]) (st' := [.ref ring, .ref kO]) rfl ?_
  refine z_getN X fl_2_51 dx_X2_store_43 1 rfl (v := .int ph) rfl ?_
  refine z_put X fl_2_55 dx_X2_store_46 0 rfl (ty := .int) (T := TX2) (N := 7) rfl (Or.inl rfl) (by decide +kernel) rfl (by rfl) (Nat.le_of_ble_eq_true rfl) (ws' := [(kO, ob 2 [.int 1, .ref kh, .ref kt, .ref kS, .ref kT, .int ph, .int ko]), (ring, ob 5 [g_hc, g_0, g_1, g_2, g_3, .ref rh, g_rd, .int ph, .int po]), (rh, aI G 16 rfh), (kh, aI G 16 g2_1), (th_, aI G 8 tft), (kt, aI G 8 g2_3), (kS, ob 7 [kS0, kS1, kS2, .ref kA, .ref kX, .ref kY]), (sS, ob 7 [sS0, sS1, sS2, .ref sA, .ref sX, .ref sY]), (kA, aZ G 6 dfA2_5), (kX, aI G 6 dfX2_6), (kY, aI G 6 dfY2_7), (sA, aZ G 6 sfA), (sX, aI G 6 sfX), (sY, aI G 6 sfY), (kT, ob 9 [.int sc, .ref ksp, .ref kwh, .ref kfi, .ref kse, .ref kgi, .ref kle, kT0, kT1, kT2]), (sT, ob 9 [.int sc, .ref ssp, .ref swh, .ref sfi, .ref sse, .ref sgi, .ref sle, sT0, sT1, sT2]), (ksp, aI G 12 dfsp2_11), (kwh, aZ G 12 dfwh2_12), (kfi, aI G 12 dffi2_13), (kse, aI G 12 dfse2_14), (kgi, aI G 12 dfgi2_15), (kle, aI G 48 dfle2_16), (ssp, aI G 12 sfsp), (swh, aZ G 12 sfwh), (sfi, aI G 12 sffi), (sse, aI G 12 sfse), (sgi, aI G 12 sfgi), (sle, aI G 48 sfle)]) rfl ?_
  refine z_run X bx_X2_store_49_51 kx_X2_store_49_51 (lv' := [(0, .ref kO), (1, .ref ring), (2, .ref sS), (3, .ref sT), (4, .ref th_)]) (st' := [.ref ring, .ref kO]) rfl ?_
  refine z_getN X fl_2_56 dx_X2_store_51 1 rfl (v := .int po) rfl ?_
  refine z_put X fl_2_59 dx_X2_store_54 0 rfl (ty := .int) (T := TX2) (N := 7) rfl (Or.inl rfl) (by decide +kernel) rfl (by rfl) (Nat.le_of_ble_eq_true rfl) (ws' := [(kO, ob 2 [.int 1, .ref kh, .ref kt, .ref kS, .ref kT, .int ph, .int po]), (ring, ob 5 [g_hc, g_0, g_1, g_2, g_3, .ref rh, g_rd, .int ph, .int po]), (rh, aI G 16 rfh), (kh, aI G 16 g2_1), (th_, aI G 8 tft), (kt, aI G 8 g2_3), (kS, ob 7 [kS0, kS1, kS2, .ref kA, .ref kX, .ref kY]), (sS, ob 7 [sS0, sS1, sS2, .ref sA, .ref sX, .ref sY]), (kA, aZ G 6 dfA2_5), (kX, aI G 6 dfX2_6), (kY, aI G 6 dfY2_7), (sA, aZ G 6 sfA), (sX, aI G 6 sfX), (sY, aI G 6 sfY), (kT, ob 9 [.int sc, .ref ksp, .ref kwh, .ref kfi, .ref kse, .ref kgi, .ref kle, kT0, kT1, kT2]), (sT, ob 9 [.int sc, .ref ssp, .ref swh, .ref sfi, .ref sse, .ref sgi, .ref sle, sT0, sT1, sT2]), (ksp, aI G 12 dfsp2_11), (kwh, aZ G 12 dfwh2_12), (kfi, aI G 12 dffi2_13), (kse, aI G 12 dfse2_14), (kgi, aI G 12 dfgi2_15), (kle, aI G 48 dfle2_16), (ssp, aI G 12 sfsp), (swh, aZ G 12 sfwh), (sfi, aI G 12 sffi), (sse, aI G 12 sfse), (sgi, aI G 12 sfgi), (sle, aI G 48 sfle)]) rfl ?_
  refine Z.sub (lv' := []) [] rfl [0, 3, 5, 6, 8, 9, 10, 14, 16, 17, 18, 19, 20, 21, 1, 2, 7, 11, 12, 13, 15, 22, 23, 24, 25, 26, 27, 4] (ws' := [(kO, ob 2 [.int 1, .ref kh, .ref kt, .ref kS, .ref kT, .int ph, .int po]), (kh, aI G 16 g2_1), (kt, aI G 8 g2_3), (kS, ob 7 [kS0, kS1, kS2, .ref kA, .ref kX, .ref kY]), (kA, aZ G 6 dfA2_5), (kX, aI G 6 dfX2_6), (kY, aI G 6 dfY2_7), (kT, ob 9 [.int sc, .ref ksp, .ref kwh, .ref kfi, .ref kse, .ref kgi, .ref kle, kT0, kT1, kT2]), (ksp, aI G 12 dfsp2_11), (kwh, aZ G 12 dfwh2_12), (kfi, aI G 12 dffi2_13), (kse, aI G 12 dfse2_14), (kgi, aI G 12 dfgi2_15), (kle, aI G 48 dfle2_16), (ring, ob 5 [g_hc, g_0, g_1, g_2, g_3, .ref rh, g_rd, .int ph, .int po]), (rh, aI G 16 rfh), (sS, ob 7 [sS0, sS1, sS2, .ref sA, .ref sX, .ref sY]), (sA, aZ G 6 sfA), (sX, aI G 6 sfX), (sY, aI G 6 sfY), (sT, ob 9 [.int sc, .ref ssp, .ref swh, .ref sfi, .ref sse, .ref sgi, .ref sle, sT0, sT1, sT2]), (ssp, aI G 12 sfsp), (swh, aZ G 12 sfwh), (sfi, aI G 12 sffi), (sse, aI G 12 sfse), (sgi, aI G 12 sfgi), (sle, aI G 48 sfle), (th_, aI G 8 tft)]) rfl (by decide) ?_
  exact z_vret X rfl dx_X2_store_57 (Nat.le_of_ble_eq_true rfl) (Nat.le_of_ble_eq_true rfl) ⟨g2_1, g2_3, dfA2_5, dfX2_6, dfY2_7, dfsp2_11, dfwh2_12, dffi2_13, dfse2_14, dfgi2_15, dfle2_16, f13_2, f22_4, f30_8, f30_9, f30_10, f38_17, f38_18, f38_19, f38_20, f38_21, f38_22, rfl, rfl⟩

theorem dx_X2_bringBack_1 : decode cX2_bringBack 1 = .ok (.getfield 9, 3) := by decide +kernel
theorem dx_X2_bringBack_5 : decode cX2_bringBack 5 = .ok (.getfield 36, 3) := by decide +kernel
theorem dx_X2_bringBack_8 : decode cX2_bringBack 8 = .ok (.invokestatic 39, 3) := by decide +kernel
theorem dx_X2_bringBack_12 : decode cX2_bringBack 12 = .ok (.getfield 15, 3) := by decide +kernel
theorem dx_X2_bringBack_17 : decode cX2_bringBack 17 = .ok (.invokestatic 39, 3) := by decide +kernel
theorem dx_X2_bringBack_22 : decode cX2_bringBack 22 = .ok (.getfield 21, 3) := by decide +kernel
theorem dx_X2_bringBack_25 : decode cX2_bringBack 25 = .ok (.invokevirtual 43, 3) := by decide +kernel
theorem dx_X2_bringBack_30 : decode cX2_bringBack 30 = .ok (.getfield 28, 3) := by decide +kernel
theorem dx_X2_bringBack_33 : decode cX2_bringBack 33 = .ok (.invokevirtual 47, 3) := by decide +kernel
theorem dx_X2_bringBack_38 : decode cX2_bringBack 38 = .ok (.getfield 55, 3) := by decide +kernel
theorem dx_X2_bringBack_41 : decode cX2_bringBack 41 = .ok (.putfield 51, 3) := by decide +kernel
theorem dx_X2_bringBack_46 : decode cX2_bringBack 46 = .ok (.getfield 59, 3) := by decide +kernel
theorem dx_X2_bringBack_49 : decode cX2_bringBack 49 = .ok (.putfield 56, 3) := by decide +kernel
theorem dx_X2_bringBack_52 : decode cX2_bringBack 52 = .ok (.return_, 1) := by decide +kernel
abbrev bx_X2_bringBack_0_1 : ZB := [(.aload_n 0, .null)]
theorem kx_X2_bringBack_0_1 : zchk cX2_bringBack bx_X2_bringBack_0_1 0 = true ∧ zpc bx_X2_bringBack_0_1 0 = 1 := ⟨by decide +kernel, rfl⟩
abbrev bx_X2_bringBack_4_5 : ZB := [(.aload_n 1, .null)]
theorem kx_X2_bringBack_4_5 : zchk cX2_bringBack bx_X2_bringBack_4_5 4 = true ∧ zpc bx_X2_bringBack_4_5 4 = 5 := ⟨by decide +kernel, rfl⟩
abbrev bx_X2_bringBack_11_12 : ZB := [(.aload_n 0, .null)]
theorem kx_X2_bringBack_11_12 : zchk cX2_bringBack bx_X2_bringBack_11_12 11 = true ∧ zpc bx_X2_bringBack_11_12 11 = 12 := ⟨by decide +kernel, rfl⟩
abbrev bx_X2_bringBack_15_17 : ZB := [(.aload 4, .null)]
theorem kx_X2_bringBack_15_17 : zchk cX2_bringBack bx_X2_bringBack_15_17 15 = true ∧ zpc bx_X2_bringBack_15_17 15 = 17 := ⟨by decide +kernel, rfl⟩
abbrev bx_X2_bringBack_20_22 : ZB := [(.aload_n 2, .null), (.aload_n 0, .null)]
theorem kx_X2_bringBack_20_22 : zchk cX2_bringBack bx_X2_bringBack_20_22 20 = true ∧ zpc bx_X2_bringBack_20_22 20 = 22 := ⟨by decide +kernel, rfl⟩
abbrev bx_X2_bringBack_28_30 : ZB := [(.aload_n 3, .null), (.aload_n 0, .null)]
theorem kx_X2_bringBack_28_30 : zchk cX2_bringBack bx_X2_bringBack_28_30 28 = true ∧ zpc bx_X2_bringBack_28_30 28 = 30 := ⟨by decide +kernel, rfl⟩
abbrev bx_X2_bringBack_36_38 : ZB := [(.aload_n 1, .null), (.aload_n 0, .null)]
theorem kx_X2_bringBack_36_38 : zchk cX2_bringBack bx_X2_bringBack_36_38 36 = true ∧ zpc bx_X2_bringBack_36_38 36 = 38 := ⟨by decide +kernel, rfl⟩
abbrev bx_X2_bringBack_44_46 : ZB := [(.aload_n 1, .null), (.aload_n 0, .null)]
theorem kx_X2_bringBack_44_46 : zchk cX2_bringBack bx_X2_bringBack_44_46 44 = true ∧ zpc bx_X2_bringBack_44_46 44 = 46 := ⟨by decide +kernel, rfl⟩
set_option maxHeartbeats 4000000 in
set_option maxRecDepth 100000 in
theorem cx_X2_bringBack (l : Launch) (G : KG) (kO : Nat) (kf : Int32) (kh : Nat) (kt : Nat) (kp : Int32) (ko : Int32) (kS : Nat) (kS0 : Value) (kS1 : Value) (kS2 : Value) (kA : Nat) (kX : Nat) (kY : Nat) (kT : Nat) (kc : Int32) (ksp : Nat) (kwh : Nat) (kfi : Nat) (kse : Nat) (kgi : Nat) (kle : Nat) (kT0 : Value) (kT1 : Value) (kT2 : Value) (ring : Nat) (g_hc : Value) (g_0 : Value) (g_1 : Value) (g_2 : Value) (g_3 : Value) (rh : Nat) (g_rd : Value) (ph : Int32) (po : Int32) (sS : Nat) (sS0 : Value) (sS1 : Value) (sS2 : Value) (sA : Nat) (sX : Nat) (sY : Nat) (sT : Nat) (sc : Int32) (ssp : Nat) (swh : Nat) (sfi : Nat) (sse : Nat) (sgi : Nat) (sle : Nat) (sT0 : Value) (sT1 : Value) (sT2 : Value) (th_ : Nat) (kfh : Nat → Int32) (kft : Nat → Int32) (kfA : Nat → Int32) (kfX : Nat → Int32) (kfY : Nat → Int32) (kfsp : Nat → Int32) (kfwh : Nat → Int32) (kffi : Nat → Int32) (kfse : Nat → Int32) (kfgi : Nat → Int32) (kfle : Nat → Int32) (rfh : Nat → Int32) (sfA : Nat → Int32) (sfX : Nat → Int32) (sfY : Nat → Int32) (sfsp : Nat → Int32) (sfwh : Nat → Int32) (sffi : Nat → Int32) (sfse : Nat → Int32) (sfgi : Nat → Int32) (sfle : Nat → Int32) (tft : Nat → Int32) : Ct l G yX2_bringBack cX2_bringBack 5 none { frames := 2, cells := 0, slots := 0, locals := 44 } [.ref kO, .ref ring, .ref sS, .ref sT, .ref th_] [(kO, ob 2 [.int kf, .ref kh, .ref kt, .ref kS, .ref kT, .int kp, .int ko]), (kh, aI G 16 kfh), (kt, aI G 8 kft), (kS, ob 7 [kS0, kS1, kS2, .ref kA, .ref kX, .ref kY]), (kA, aZ G 6 kfA), (kX, aI G 6 kfX), (kY, aI G 6 kfY), (kT, ob 9 [.int kc, .ref ksp, .ref kwh, .ref kfi, .ref kse, .ref kgi, .ref kle, kT0, kT1, kT2]), (ksp, aI G 12 kfsp), (kwh, aZ G 12 kfwh), (kfi, aI G 12 kffi), (kse, aI G 12 kfse), (kgi, aI G 12 kfgi), (kle, aI G 48 kfle), (ring, ob 5 [g_hc, g_0, g_1, g_2, g_3, .ref rh, g_rd, .int ph, .int po]), (rh, aI G 16 rfh), (sS, ob 7 [sS0, sS1, sS2, .ref sA, .ref sX, .ref sY]), (sA, aZ G 6 sfA), (sX, aI G 6 sfX), (sY, aI G 6 sfY), (sT, ob 9 [.int sc, .ref ssp, .ref swh, .ref sfi, .ref sse, .ref sgi, .ref sle, sT0, sT1, sT2]), (ssp, aI G 12 sfsp), (swh, aZ G 12 sfwh), (sfi, aI G 12 sffi), (sse, aI G 12 sfse), (sgi, aI G 12 sfgi), (sle, aI G 48 sfle), (th_, aI G 8 tft)] (fun r w1 => ∃ (rfh2 : Nat → Int32), ∃ (tft2 : Nat → Int32), ∃ (sfA2 : Nat → Int32), ∃ (sfX2 : Nat → Int32), ∃ (sfY2 : Nat → Int32), ∃ (sfsp2 : Nat → Int32), ∃ (sfwh2 : Nat → Int32), ∃ (sffi2 : Nat → Int32), ∃ (sfse2 : Nat → Int32), ∃ (sfgi2 : Nat → Int32), ∃ (sfle2 : Nat → Int32), (∀ j : Nat, j < 16 → rfh2 j = kfh j) ∧ (∀ j : Nat, j < 8 → tft2 j = kft j) ∧ (∀ j : Nat, j < 6 → sfX2 j = kfX j) ∧ (∀ j : Nat, j < 6 → sfY2 j = kfY j) ∧ (∀ j : Nat, j < 6 → sfA2 j = vp_nar .boolean (kfA j)) ∧ (∀ j : Nat, j < 12 → sfsp2 j = kfsp j) ∧ (∀ j : Nat, j < 12 → sfwh2 j = vp_nar .boolean (kfwh j)) ∧ (∀ j : Nat, j < 12 → sffi2 j = kffi j) ∧ (∀ j : Nat, j < 12 → sfse2 j = kfse j) ∧ (∀ j : Nat, j < 12 → sfgi2 j = kfgi j) ∧ (∀ j : Nat, j < 48 → sfle2 j = kfle j) ∧ r = none ∧ w1 = [(kO, ob 2 [.int kf, .ref kh, .ref kt, .ref kS, .ref kT, .int kp, .int ko]), (kh, aI G 16 kfh), (kt, aI G 8 kft), (kS, ob 7 [kS0, kS1, kS2, .ref kA, .ref kX, .ref kY]), (kA, aZ G 6 kfA), (kX, aI G 6 kfX), (kY, aI G 6 kfY), (kT, ob 9 [.int kc, .ref ksp, .ref kwh, .ref kfi, .ref kse, .ref kgi, .ref kle, kT0, kT1, kT2]), (ksp, aI G 12 kfsp), (kwh, aZ G 12 kfwh), (kfi, aI G 12 kffi), (kse, aI G 12 kfse), (kgi, aI G 12 kfgi), (kle, aI G 48 kfle), (ring, ob 5 [g_hc, g_0, g_1, g_2, g_3, .ref rh, g_rd, .int kp, .int ko]), (rh, aI G 16 rfh2), (sS, ob 7 [sS0, sS1, sS2, .ref sA, .ref sX, .ref sY]), (sA, aZ G 6 sfA2), (sX, aI G 6 sfX2), (sY, aI G 6 sfY2), (sT, ob 9 [.int kc, .ref ssp, .ref swh, .ref sfi, .ref sse, .ref sgi, .ref sle, sT0, sT1, sT2]), (ssp, aI G 12 sfsp2), (swh, aZ G 12 sfwh2), (sfi, aI G 12 sffi2), (sse, aI G 12 sfse2), (sgi, aI G 12 sfgi2), (sle, aI G 48 sfle2), (th_, aI G 8 tft2)]) := by
  refine ct_of [(0, .ref kO), (1, .ref ring), (2, .ref sS), (3, .ref sT), (4, .ref th_)] (by decide) (Nat.le_of_ble_eq_true rfl) rfl ?_
  intro p0 e0 s0 m0 args0 below0 meth0 c0 A X
  refine z_run X bx_X2_bringBack_0_1 kx_X2_bringBack_0_1 (lv' := [(0, .ref kO), (1, .ref ring), (2, .ref sS), (3, .ref sT), (4, .ref th_)]) (st' := [.ref kO]) rfl ?_
  refine z_get X fl_2_9 dx_X2_bringBack_1 0 rfl (v := .ref kh) rfl ?_
  refine z_run X bx_X2_bringBack_4_5 kx_X2_bringBack_4_5 (lv' := [(0, .ref kO), (1, .ref ring), (2, .ref sS), (3, .ref sT), (4, .ref th_)]) (st' := [.ref ring, .ref kh]) rfl ?_
  refine z_getN X fl_2_36 dx_X2_bringBack_5 14 rfl (v := .ref rh) rfl ?_
  refine z_callSN X k_2_39 (cx_X10_copy16 l G kh rh kfh rfh) dx_X2_bringBack_8 ⟨Nat.le_of_ble_eq_true rfl, Nat.le_of_ble_eq_true rfl⟩ ⟨Nat.le_of_ble_eq_true rfl, Nat.le_of_ble_eq_true rfl⟩ rfl (rest := []) (As := [.ref kh, .ref rh]) rfl (Nat.le_of_ble_eq_true rfl) [1, 15] [0, 2, 3, 4, 5, 6, 7, 8, 9, 10, 11, 12, 13, 14, 16, 17, 18, 19, 20, 21, 22, 23, 24, 25, 26, 27] rfl (by decide) (wr := [(kO, ob 2 [.int kf, .ref kh, .ref kt, .ref kS, .ref kT, .int kp, .int ko]), (kt, aI G 8 kft), (kS, ob 7 [kS0, kS1, kS2, .ref kA, .ref kX, .ref kY]), (kA, aZ G 6 kfA), (kX, aI G 6 kfX), (kY, aI G 6 kfY), (kT, ob 9 [.int kc, .ref ksp, .ref kwh, .ref kfi, .ref kse, .ref kgi, .ref kle, kT0, kT1, kT2]), (ksp, aI G 12 kfsp), (kwh, aZ G 12 kfwh), (kfi, aI G 12 kffi), (kse, aI G 12 kfse), (kgi, aI G 12 kfgi), (kle, aI G 48 kfle), (ring, ob 5 [g_hc, g_0, g_1, g_2, g_3, .ref rh, g_rd, .int ph, .int po]), (sS, ob 7 [sS0, sS1, sS2, .ref sA, .ref sX, .ref sY]), (sA, aZ G 6 sfA), (sX, aI G 6 sfX), (sY, aI G 6 sfY), (sT, ob 9 [.int sc, .ref ssp, .ref swh, .ref sfi, .ref sse, .ref sgi, .ref sle, sT0, sT1, sT2]), (ssp, aI G 12 sfsp), (swh, aZ G 12 sfwh), (sfi, aI G 12 sffi), (sse, aI G 12 sfse), (sgi, aI G 12 sfgi), (sle, aI G 48 sfle), (th_, aI G 8 tft)]) rfl (by decide) (by decide) ?_
  rintro _ _ ⟨g2_1, f8_2, rfl, rfl⟩
  refine Z.at (pc' := 11) (st' := []) (ws' := [(kO, ob 2 [.int kf, .ref kh, .ref kt, .ref kS, .ref kT, .int kp, .int ko]), (kt, aI G 8 kft), (kS, ob 7 [kS0, kS1, kS2, .ref kA, .ref kX, .ref kY]), (kA, aZ G 6 kfA), (kX, aI G 6 kfX), (kY, aI G 6 kfY), (kT, ob 9 [.int kc, .ref ksp, .ref kwh, .ref kfi, .ref kse, .ref kgi, .ref kle, kT0, kT1, kT2]), (ksp, aI G 12 kfsp), (kwh, aZ G 12 kfwh), (kfi, aI G 12 kffi), (kse, aI G 12 kfse), (kgi, aI G 12 kfgi), (kle, aI G 48 kfle), (ring, ob 5 [g_hc, g_0, g_1, g_2, g_3, .ref rh, g_rd, .int ph, .int po]), (sS, ob 7 [sS0, sS1, sS2, .ref sA, .ref sX, .ref sY]), (sA, aZ G 6 sfA), (sX, aI G 6 sfX), (sY, aI G 6 sfY), (sT, ob 9 [.int sc, .ref ssp, .ref swh, .ref sfi, .ref sse, .ref sgi, .ref sle, sT0, sT1, sT2]), (ssp, aI G 12 sfsp), (swh, aZ G 12 sfwh), (sfi, aI G 12 sffi), (sse, aI G 12 sfse), (sgi, aI G 12 sfgi), (sle, aI G 48 sfle), (th_, aI G 8 tft), (kh, aI G 16 kfh), (rh, aI G 16 g2_1)]) (kc' := 0) (ks' := 0) rfl rfl rfl rfl rfl ?_
  refine z_run X bx_X2_bringBack_11_12 kx_X2_bringBack_11_12 (lv' := [(0, .ref kO), (1, .ref ring), (2, .ref sS), (3, .ref sT), (4, .ref th_)]) (st' := [.ref kO]) rfl ?_
  refine z_get X fl_2_15 dx_X2_bringBack_12 0 rfl (v := .ref kt) rfl ?_
  refine z_run X bx_X2_bringBack_15_17 kx_X2_bringBack_15_17 (lv' := [(0, .ref kO), (1, .ref ring), (2, .ref sS), (3, .ref sT), (4, .ref th_)]) (st' := [.ref th_, .ref kt]) rfl ?_
  refine z_callSN X k_2_39 (cx_X10_copy8 l G kt th_ kft tft) dx_X2_bringBack_17 ⟨Nat.le_of_ble_eq_true rfl, Nat.le_of_ble_eq_true rfl⟩ ⟨Nat.le_of_ble_eq_true rfl, Nat.le_of_ble_eq_true rfl⟩ rfl (rest := []) (As := [.ref kt, .ref th_]) rfl (Nat.le_of_ble_eq_true rfl) [1, 25] [0, 2, 3, 4, 5, 6, 7, 8, 9, 10, 11, 12, 13, 14, 15, 16, 17, 18, 19, 20, 21, 22, 23, 24, 26, 27] rfl (by decide) (wr := [(kO, ob 2 [.int kf, .ref kh, .ref kt, .ref kS, .ref kT, .int kp, .int ko]), (kS, ob 7 [kS0, kS1, kS2, .ref kA, .ref kX, .ref kY]), (kA, aZ G 6 kfA), (kX, aI G 6 kfX), (kY, aI G 6 kfY), (kT, ob 9 [.int kc, .ref ksp, .ref kwh, .ref kfi, .ref kse, .ref kgi, .ref kle, kT0, kT1, kT2]), (ksp, aI G 12 kfsp), (kwh, aZ G 12 kfwh), (kfi, aI G 12 kffi), (kse, aI G 12 kfse), (kgi, aI G 12 kfgi), (kle, aI G 48 kfle), (ring, ob 5 [g_hc, g_0, g_1, g_2, g_3, .ref rh, g_rd, .int ph, .int po]), (sS, ob 7 [sS0, sS1, sS2, .ref sA, .ref sX, .ref sY]), (sA, aZ G 6 sfA), (sX, aI G 6 sfX), (sY, aI G 6 sfY), (sT, ob 9 [.int sc, .ref ssp, .ref swh, .ref sfi, .ref sse, .ref sgi, .ref sle, sT0, sT1, sT2]), (ssp, aI G 12 sfsp), (swh, aZ G 12 sfwh), (sfi, aI G 12 sffi), (sse, aI G 12 sfse), (sgi, aI G 12 sfgi), (sle, aI G 48 sfle), (kh, aI G 16 kfh), (rh, aI G 16 g2_1)]) rfl (by decide) (by decide) ?_
  rintro _ _ ⟨g2_3, f17_4, rfl, rfl⟩
  refine Z.at (pc' := 20) (st' := []) (ws' := [(kO, ob 2 [.int kf, .ref kh, .ref kt, .ref kS, .ref kT, .int kp, .int ko]), (kS, ob 7 [kS0, kS1, kS2, .ref kA, .ref kX, .ref kY]), (kA, aZ G 6 kfA), (kX, aI G 6 kfX), (kY, aI G 6 kfY), (kT, ob 9 [.int kc, .ref ksp, .ref kwh, .ref kfi, .ref kse, .ref kgi, .ref kle, kT0, kT1, kT2]), (ksp, aI G 12 kfsp), (kwh, aZ G 12 kfwh), (kfi, aI G 12 kffi), (kse, aI G 12 kfse), (kgi, aI G 12 kfgi), (kle, aI G 48 kfle), (ring, ob 5 [g_hc, g_0, g_1, g_2, g_3, .ref rh, g_rd, .int ph, .int po]), (sS, ob 7 [sS0, sS1, sS2, .ref sA, .ref sX, .ref sY]), (sA, aZ G 6 sfA), (sX, aI G 6 sfX), (sY, aI G 6 sfY), (sT, ob 9 [.int sc, .ref ssp, .ref swh, .ref sfi, .ref sse, .ref sgi, .ref sle, sT0, sT1, sT2]), (ssp, aI G 12 sfsp), (swh, aZ G 12 sfwh), (sfi, aI G 12 sffi), (sse, aI G 12 sfse), (sgi, aI G 12 sfgi), (sle, aI G 48 sfle), (kh, aI G 16 kfh), (rh, aI G 16 g2_1), (kt, aI G 8 kft), (th_, aI G 8 g2_3)]) (kc' := 0) (ks' := 0) rfl rfl rfl rfl rfl ?_
  refine z_run X bx_X2_bringBack_20_22 kx_X2_bringBack_20_22 (lv' := [(0, .ref kO), (1, .ref ring), (2, .ref sS), (3, .ref sT), (4, .ref th_)]) (st' := [.ref kO, .ref sS]) rfl ?_
  refine z_get X fl_2_21 dx_X2_bringBack_22 0 rfl (v := .ref kS) rfl ?_
  refine z_callV X k_2_43 (cx_X7_copyApart l G sS sS0 sS1 sS2 sA sX sY kS kS0 kS1 kS2 kA kX kY sfA sfX sfY kfA kfX kfY) dx_X2_bringBack_25 13 rfl rfl rfl ⟨Nat.le_of_ble_eq_true rfl, Nat.le_of_ble_eq_true rfl⟩ ⟨Nat.le_of_ble_eq_true rfl, Nat.le_of_ble_eq_true rfl⟩ rfl (rest := []) (As := [.ref kS]) rfl (Nat.le_of_ble_eq_true rfl) [13, 1, 14, 15, 16, 2, 3, 4] [0, 5, 6, 7, 8, 9, 10, 11, 12, 17, 18, 19, 20, 21, 22, 23, 24, 25, 26, 27] rfl (by decide) (wr := [(kO, ob 2 [.int kf, .ref kh, .ref kt, .ref kS, .ref kT, .int kp, .int ko]), (kT, ob 9 [.int kc, .ref ksp, .ref kwh, .ref kfi, .ref kse, .ref kgi, .ref kle, kT0, kT1, kT2]), (ksp, aI G 12 kfsp), (kwh, aZ G 12 kfwh), (kfi, aI G 12 kffi), (kse, aI G 12 kfse), (kgi, aI G 12 kfgi), (kle, aI G 48 kfle), (ring, ob 5 [g_hc, g_0, g_1, g_2, g_3, .ref rh, g_rd, .int ph, .int po]), (sT, ob 9 [.int sc, .ref ssp, .ref swh, .ref sfi, .ref sse, .ref sgi, .ref sle, sT0, sT1, sT2]), (ssp, aI G 12 sfsp), (swh, aZ G 12 sfwh), (sfi, aI G 12 sffi), (sse, aI G 12 sfse), (sgi, aI G 12 sfgi), (sle, aI G 48 sfle), (kh, aI G 16 kfh), (rh, aI G 16 g2_1), (kt, aI G 8 kft), (th_, aI G 8 g2_3)]) rfl (by decide) (by decide) ?_
  rintro _ _ ⟨dfA2_5, dfX2_6, dfY2_7, f25_8, f25_9, f25_10, rfl, rfl⟩
  refine Z.at (pc' := 28) (st' := []) (ws' := [(kO, ob 2 [.int kf, .ref kh, .ref kt, .ref kS, .ref kT, .int kp, .int ko]), (kT, ob 9 [.int kc, .ref ksp, .ref kwh, .ref kfi, .ref kse, .ref kgi, .ref kle, kT0, kT1, kT2]), (ksp, aI G 12 kfsp), (kwh, aZ G 12 kfwh), (kfi, aI G 12 kffi), (kse, aI G 12 kfse), (kgi, aI G 12 kfgi), (kle, aI G 48 kfle), (ring, ob 5 [g_hc, g_0, g_1, g_2, g_3, .ref rh, g_rd, .int ph, .int po]), (sT, ob 9 [.int sc, .ref ssp, .ref swh, .ref sfi, .ref sse, .ref sgi, .ref sle, sT0, sT1, sT2]), (ssp, aI G 12 sfsp), (swh, aZ G 12 sfwh), (sfi, aI G 12 sffi), (sse, aI G 12 sfse), (sgi, aI G 12 sfgi), (sle, aI G 48 sfle), (kh, aI G 16 kfh), (rh, aI G 16 g2_1), (kt, aI G 8 kft), (th_, aI G 8 g2_3), (sS, ob 7 [sS0, sS1, sS2, .ref sA, .ref sX, .ref sY]), (kS, ob 7 [kS0, kS1, kS2, .ref kA, .ref kX, .ref kY]), (sA, aZ G 6 dfA2_5), (sX, aI G 6 dfX2_6), (sY, aI G 6 dfY2_7), (kA, aZ G 6 kfA), (kX, aI G 6 kfX), (kY, aI G 6 kfY)]) (kc' := 0) (ks' := 0) rfl rfl rfl rfl rfl ?_
  refine z_run X bx_X2_bringBack_28_30 kx_X2_bringBack_28_30 (lv' := [(0, .ref kO), (1, .ref ring), (2, .ref sS), (3, .ref sT), (4, .ref th_)]) (st' := [.ref kO, .ref sT]) rfl ?_
  refine z_get X fl_2_28 dx_X2_bringBack_30 0 rfl (v := .ref kT) rfl ?_
  refine z_callV X k_2_47 (cx_X9_copyTrials l G sT sc ssp swh sfi sse sgi sle sT0 sT1 sT2 kT kc ksp kwh kfi kse kgi kle kT0 kT1 kT2 sfsp sfwh sffi sfse sfgi sfle kfsp kfwh kffi kfse kfgi kfle) dx_X2_bringBack_33 9 rfl rfl rfl ⟨Nat.le_of_ble_eq_true rfl, Nat.le_of_ble_eq_true rfl⟩ ⟨Nat.le_of_ble_eq_true rfl, Nat.le_of_ble_eq_true rfl⟩ rfl (rest := []) (As := [.ref kT]) rfl (Nat.le_of_ble_eq_true rfl) [9, 1, 10, 11, 12, 13, 14, 15, 2, 3, 4, 5, 6, 7] [0, 8, 16, 17, 18, 19, 20, 21, 22, 23, 24, 25, 26, 27] rfl (by decide) (wr := [(kO, ob 2 [.int kf, .ref kh, .ref kt, .ref kS, .ref kT, .int kp, .int ko]), (ring, ob 5 [g_hc, g_0, g_1, g_2, g_3, .ref rh, g_rd, .int ph, .int po]), (kh, aI G 16 kfh), (rh, aI G 16 g2_1), (kt, aI G 8 kft), (th_, aI G 8 g2_3), (sS, ob 7 [sS0, sS1, sS2, .ref sA, .ref sX, .ref sY]), (kS, ob 7 [kS0, kS1, kS2, .ref kA, .ref kX, .ref kY]), (sA, aZ G 6 dfA2_5), (sX, aI G 6 dfX2_6), (sY, aI G 6 dfY2_7), (kA, aZ G 6 kfA), (kX, aI G 6 kfX), (kY, aI G 6 kfY)]) rfl (by decide) (by decide) ?_
  rintro _ _ ⟨dfsp2_11, dfwh2_12, dffi2_13, dfse2_14, dfgi2_15, dfle2_16, f33_17, f33_18, f33_19, f33_20, f33_21, f33_22, rfl, rfl⟩
  refine Z.at (pc' := 36) (st' := []) (ws' := [(kO, ob 2 [.int kf, .ref kh, .ref kt, .ref kS, .ref kT, .int kp, .int ko]), (ring, ob 5 [g_hc, g_0, g_1, g_2, g_3, .ref rh, g_rd, .int ph, .int po]), (kh, aI G 16 kfh), (rh, aI G 16 g2_1), (kt, aI G 8 kft), (th_, aI G 8 g2_3), (sS, ob 7 [sS0, sS1, sS2, .ref sA, .ref sX, .ref sY]), (kS, ob 7 [kS0, kS1, kS2, .ref kA, .ref kX, .ref kY]), (sA, aZ G 6 dfA2_5), (sX, aI G 6 dfX2_6), (sY, aI G 6 dfY2_7), (kA, aZ G 6 kfA), (kX, aI G 6 kfX), (kY, aI G 6 kfY), (sT, ob 9 [.int kc, .ref ssp, .ref swh, .ref sfi, .ref sse, .ref sgi, .ref sle, sT0, sT1, sT2]), (kT, ob 9 [.int kc, .ref ksp, .ref kwh, .ref kfi, .ref kse, .ref kgi, .ref kle, kT0, kT1, kT2]), (ssp, aI G 12 dfsp2_11), (swh, aZ G 12 dfwh2_12), (sfi, aI G 12 dffi2_13), (sse, aI G 12 dfse2_14), (sgi, aI G 12 dfgi2_15), (sle, aI G 48 dfle2_16), (ksp, aI G 12 kfsp), (kwh, aZ G 12 kfwh), (kfi, aI G 12 kffi), (kse, aI G 12 kfse), (kgi, aI G 12 kfgi), (kle, aI G 48 kfle)]) (kc' := 0) (ks' := 0) rfl rfl rfl rfl rfl ?_
  refine z_run X bx_X2_bringBack_36_38 kx_X2_bringBack_36_38 (lv' := [(0, .ref kO), (1, .ref ring), (2, .ref sS), (3, .ref sT), (4, .ref th_)]) (st' := [.ref kO, .ref ring]) rfl ?_
  refine z_get X fl_2_55 dx_X2_bringBack_38 0 rfl (v := .int kp) rfl ?_
  refine z_putN X fl_2_51 dx_X2_bringBack_41 1 rfl (ty := .int) (T := TX5) (N := 9) rfl rfl (by decide +kernel) rfl (by rfl) (Nat.le_of_ble_eq_true rfl) (ws' := [(kO, ob 2 [.int kf, .ref kh, .ref kt, .ref kS, .ref kT, .int kp, .int ko]), (ring, ob 5 [g_hc, g_0, g_1, g_2, g_3, .ref rh, g_rd, .int kp, .int po]), (kh, aI G 16 kfh), (rh, aI G 16 g2_1), (kt, aI G 8 kft), (th_, aI G 8 g2_3), (sS, ob 7 [sS0, sS1, sS2, .ref sA, .ref sX, .ref sY]), (kS, ob 7 [kS0, kS1, kS2, .ref kA, .ref kX, .ref kY]), (sA, aZ G 6 dfA2_5), (sX, aI G 6 dfX2_6), (sY, aI G 6 dfY2_7), (kA, aZ G 6 kfA), (kX, aI G 6 kfX), (kY, aI G 6 kfY), (sT, ob 9 [.int kc, .ref ssp, .ref swh, .ref sfi, .ref sse, .ref sgi, .ref sle, sT0, sT1, sT2]), (kT, ob 9 [.int kc, .ref ksp, .ref kwh, .ref kfi, .ref kse, .ref kgi, .ref kle, kT0, kT1, kT2]), (ssp, aI G 12 dfsp2_11), (swh, aZ G 12 dfwh2_12), (sfi, aI G 12 dffi2_13), (sse, aI G 12 dfse2_14), (sgi, aI G 12 dfgi2_15), (sle, aI G 48 dfle2_16), (ksp, aI G 12 kfsp), (kwh, aZ G 12 kfwh), (kfi, aI G 12 kffi), (kse, aI G 12 kfse), (kgi, aI G 12 kfgi), (kle, aI G 48 kfle)]) rfl ?_
  refine z_run X bx_X2_bringBack_44_46 kx_X2_bringBack_44_46 (lv' := [(0, .ref kO), (1, .ref ring), (2, .ref sS), (3, .ref sT), (4, .ref th_)]) (st' := [.ref kO, .ref ring]) rfl ?_
  refine z_get X fl_2_59 dx_X2_bringBack_46 0 rfl (v := .int ko) rfl ?_
  refine z_putN X fl_2_56 dx_X2_bringBack_49 1 rfl (ty := .int) (T := TX5) (N := 9) rfl rfl (by decide +kernel) rfl (by rfl) (Nat.le_of_ble_eq_true rfl) (ws' := [(kO, ob 2 [.int kf, .ref kh, .ref kt, .ref kS, .ref kT, .int kp, .int ko]), (ring, ob 5 [g_hc, g_0, g_1, g_2, g_3, .ref rh, g_rd, .int kp, .int ko]), (kh, aI G 16 kfh), (rh, aI G 16 g2_1), (kt, aI G 8 kft), (th_, aI G 8 g2_3), (sS, ob 7 [sS0, sS1, sS2, .ref sA, .ref sX, .ref sY]), (kS, ob 7 [kS0, kS1, kS2, .ref kA, .ref kX, .ref kY]), (sA, aZ G 6 dfA2_5), (sX, aI G 6 dfX2_6), (sY, aI G 6 dfY2_7), (kA, aZ G 6 kfA), (kX, aI G 6 kfX), (kY, aI G 6 kfY), (sT, ob 9 [.int kc, .ref ssp, .ref swh, .ref sfi, .ref sse, .ref sgi, .ref sle, sT0, sT1, sT2]), (kT, ob 9 [.int kc, .ref ksp, .ref kwh, .ref kfi, .ref kse, .ref kgi, .ref kle, kT0, kT1, kT2]), (ssp, aI G 12 dfsp2_11), (swh, aZ G 12 dfwh2_12), (sfi, aI G 12 dffi2_13), (sse, aI G 12 dfse2_14), (sgi, aI G 12 dfgi2_15), (sle, aI G 48 dfle2_16), (ksp, aI G 12 kfsp), (kwh, aZ G 12 kfwh), (kfi, aI G 12 kffi), (kse, aI G 12 kfse), (kgi, aI G 12 kfgi), (kle, aI G 48 kfle)]) rfl ?_
  refine Z.sub (lv' := []) [] rfl [0, 2, 4, 7, 11, 12, 13, 15, 22, 23, 24, 25, 26, 27, 1, 3, 6, 8, 9, 10, 14, 16, 17, 18, 19, 20, 21, 5] (ws' := [(kO, ob 2 [.int kf, .ref kh, .ref kt, .ref kS, .ref kT, .int kp, .int ko]), (kh, aI G 16 kfh), (kt, aI G 8 kft), (kS, ob 7 [kS0, kS1, kS2, .ref kA, .ref kX, .ref kY]), (kA, aZ G 6 kfA), (kX, aI G 6 kfX), (kY, aI G 6 kfY), (kT, ob 9 [.int kc, .ref ksp, .ref kwh, .ref kfi, .ref kse, .ref kgi, .ref kle, kT0, kT1, kT2]), (ksp, aI G 12 kfsp), (kwh, aZ G 12 kfwh), (kfi, aI G 12 kffi), (kse, aI G 12 kfse), (kgi, aI G 12 kfgi), (kle, aI G 48 kfle), (ring, ob 5 [g_hc, g_0, g_1, g_2, g_3, .ref rh, g_rd, .int kp, .int ko]), (rh, aI G 16 g2_1), (sS, ob 7 [sS0, sS1, sS2, .ref sA, .ref sX, .ref sY]), (sA, aZ G 6 dfA2_5), (sX, aI G 6 dfX2_6), (sY, aI G 6 dfY2_7), (sT, ob 9 [.int kc, .ref ssp, .ref swh, .ref sfi, .ref sse, .ref sgi, .ref sle, sT0, sT1, sT2]), (ssp, aI G 12 dfsp2_11), (swh, aZ G 12 dfwh2_12), (sfi, aI G 12 dffi2_13), (sse, aI G 12 dfse2_14), (sgi, aI G 12 dfgi2_15), (sle, aI G 48 dfle2_16), (th_, aI G 8 g2_3)]) rfl (by decide) ?_
  exact z_vret X rfl dx_X2_bringBack_52 (Nat.le_of_ble_eq_true rfl) (Nat.le_of_ble_eq_true rfl) ⟨g2_1, g2_3, dfA2_5, dfX2_6, dfY2_7, dfsp2_11, dfwh2_12, dffi2_13, dfse2_14, dfgi2_15, dfle2_16, f8_2, f17_4, f25_8, f25_9, f25_10, f33_17, f33_18, f33_19, f33_20, f33_21, f33_22, rfl, rfl⟩
end
section
/-! keep, again of the class -/
theorem dx_X10_keep_1 : decode cX10_keep 1 = .ok (.ifCond .lt 17, 3) := by decide +kernel
theorem dx_X10_keep_6 : decode cX10_keep 6 = .ok (.if_icmp .ge 12, 3) := by decide +kernel
theorem dx_X10_keep_10 : decode cX10_keep 10 = .ok (.getfield 67, 3) := by decide +kernel
theorem dx_X10_keep_14 : decode cX10_keep 14 = .ok (.aaload, 1) := by decide +kernel
theorem dx_X10_keep_15 : decode cX10_keep 15 = .ok (.ifnonnull 5, 3) := by decide +kernel
theorem dx_X10_keep_21 : decode cX10_keep 21 = .ok (.getfield 67, 3) := by decide +kernel
theorem dx_X10_keep_25 : decode cX10_keep 25 = .ok (.aaload, 1) := by decide +kernel
theorem dx_X10_keep_27 : decode cX10_keep 27 = .ok (.getfield 26, 3) := by decide +kernel
theorem dx_X10_keep_31 : decode cX10_keep 31 = .ok (.getfield 33, 3) := by decide +kernel
theorem dx_X10_keep_35 : decode cX10_keep 35 = .ok (.getfield 47, 3) := by decide +kernel
theorem dx_X10_keep_39 : decode cX10_keep 39 = .ok (.getfield 78, 3) := by decide +kernel
theorem dx_X10_keep_42 : decode cX10_keep 42 = .ok (.invokevirtual 481, 3) := by decide +kernel
theorem dx_X10_keep_46 : decode cX10_keep 46 = .ok (.ireturn, 1) := by decide +kernel
abbrev bx_X10_keep_0_1 : ZB := [(.iload_n 1, .null)]
theorem kx_X10_keep_0_1 : zchk cX10_keep bx_X10_keep_0_1 0 = true ∧ zpc bx_X10_keep_0_1 0 = 1 := ⟨by decide +kernel, rfl⟩
abbrev bx_X10_keep_4_6 : ZB := [(.iload_n 1, .null), (.iconst 3, .int 3)]
theorem kx_X10_keep_4_6 : zchk cX10_keep bx_X10_keep_4_6 4 = true ∧ zpc bx_X10_keep_4_6 4 = 6 := ⟨by decide +kernel, rfl⟩
abbrev bx_X10_keep_9_10 : ZB := [(.aload_n 0, .null)]
theorem kx_X10_keep_9_10 : zchk cX10_keep bx_X10_keep_9_10 9 = true ∧ zpc bx_X10_keep_9_10 9 = 10 := ⟨by decide +kernel, rfl⟩
abbrev bx_X10_keep_13_14 : ZB := [(.iload_n 1, .null)]
theorem kx_X10_keep_13_14 : zchk cX10_keep bx_X10_keep_13_14 13 = true ∧ zpc bx_X10_keep_13_14 13 = 14 := ⟨by decide +kernel, rfl⟩
abbrev bx_X10_keep_20_21 : ZB := [(.aload_n 0, .null)]
theorem kx_X10_keep_20_21 : zchk cX10_keep bx_X10_keep_20_21 20 = true ∧ zpc bx_X10_keep_20_21 20 = 21 := ⟨by decide +kernel, rfl⟩
abbrev bx_X10_keep_24_25 : ZB := [(.iload_n 1, .null)]
theorem kx_X10_keep_24_25 : zchk cX10_keep bx_X10_keep_24_25 24 = true ∧ zpc bx_X10_keep_24_25 24 = 25 := ⟨by decide +kernel, rfl⟩
abbrev bx_X10_keep_26_27 : ZB := [(.aload_n 0, .null)]
theorem kx_X10_keep_26_27 : zchk cX10_keep bx_X10_keep_26_27 26 = true ∧ zpc bx_X10_keep_26_27 26 = 27 := ⟨by decide +kernel, rfl⟩
abbrev bx_X10_keep_30_31 : ZB := [(.aload_n 0, .null)]
theorem kx_X10_keep_30_31 : zchk cX10_keep bx_X10_keep_30_31 30 = true ∧ zpc bx_X10_keep_30_31 30 = 31 := ⟨by decide +kernel, rfl⟩
abbrev bx_X10_keep_34_35 : ZB := [(.aload_n 0, .null)]
theorem kx_X10_keep_34_35 : zchk cX10_keep bx_X10_keep_34_35 34 = true ∧ zpc bx_X10_keep_34_35 34 = 35 := ⟨by decide +kernel, rfl⟩
abbrev bx_X10_keep_38_39 : ZB := [(.aload_n 0, .null)]
theorem kx_X10_keep_38_39 : zchk cX10_keep bx_X10_keep_38_39 38 = true ∧ zpc bx_X10_keep_38_39 38 = 39 := ⟨by decide +kernel, rfl⟩
abbrev bx_X10_keep_45_46 : ZB := [(.iconst 1, .int 1)]
theorem kx_X10_keep_45_46 : zchk cX10_keep bx_X10_keep_45_46 45 = true ∧ zpc bx_X10_keep_45_46 45 = 46 := ⟨by decide +kernel, rfl⟩
set_option maxHeartbeats 4000000 in
set_option maxRecDepth 100000 in
theorem cx_X10_keep0 (l : Launch) (G : KG) (x : Nat) (x_told : Value) (x_reader : Value) (x_wheel : Value) (x_span : Value) (x_search : Value) (x_crosses : Value) (x_trueMasses : Value) (x_up : Value) (x_low : Value) (x_fits : Value) (x_pulls : Value) (ka3 : Nat) (fO : Nat → Option Nat) (kO : Nat) (kf : Int32) (kh : Nat) (kt : Nat) (kp : Int32) (ko : Int32) (kS : Nat) (kS0 : Value) (kS1 : Value) (kS2 : Value) (kA : Nat) (kX : Nat) (kY : Nat) (kT : Nat) (kc : Int32) (ksp : Nat) (kwh : Nat) (kfi : Nat) (kse : Nat) (kgi : Nat) (kle : Nat) (kT0 : Value) (kT1 : Value) (kT2 : Value) (ring : Nat) (g_hc : Value) (g_0 : Value) (g_1 : Value) (g_2 : Value) (g_3 : Value) (rh : Nat) (g_rd : Value) (ph : Int32) (po : Int32) (sS : Nat) (sS0 : Value) (sS1 : Value) (sS2 : Value) (sA : Nat) (sX : Nat) (sY : Nat) (sT : Nat) (sc : Int32) (ssp : Nat) (swh : Nat) (sfi : Nat) (sse : Nat) (sgi : Nat) (sle : Nat) (sT0 : Value) (sT1 : Value) (sT2 : Value) (th_ : Nat) (kfh : Nat → Int32) (kft : Nat → Int32) (kfA : Nat → Int32) (kfX : Nat → Int32) (kfY : Nat → Int32) (kfsp : Nat → Int32) (kfwh : Nat → Int32) (kffi : Nat → Int32) (kfse : Nat → Int32) (kfgi : Nat → Int32) (kfle : Nat → Int32) (rfh : Nat → Int32) (sfA : Nat → Int32) (sfX : Nat → Int32) (sfY : Nat → Int32) (sfsp : Nat → Int32) (sfwh : Nat → Int32) (sffi : Nat → Int32) (sfse : Nat → Int32) (sfgi : Nat → Int32) (sfle : Nat → Int32) (tft : Nat → Int32) (hO : va_rf (fO (0 : Int32).toNatClampNeg) = .ref kO) : Ct l G yX10_keep cX10_keep 2 (some .boolean) { frames := 3, cells := 0, slots := 0, locals := 68 } [.ref x, .int 0] [(x, ob 10 [x_told, x_reader, .ref ring, .ref sS, x_wheel, .ref sT, x_span, x_search, .ref ka3, x_crosses, x_trueMasses, .ref th_, x_up, x_low, x_fits, x_pulls]), (ka3, aO G 3 fO), (kO, ob 2 [.int kf, .ref kh, .ref kt, .ref kS, .ref kT, .int kp, .int ko]), (kh, aI G 16 kfh), (kt, aI G 8 kft), (kS, ob 7 [kS0, kS1, kS2, .ref kA, .ref kX, .ref kY]), (kA, aZ G 6 kfA), (kX, aI G 6 kfX), (kY, aI G 6 kfY), (kT, ob 9 [.int kc, .ref ksp, .ref kwh, .ref kfi, .ref kse, .ref kgi, .ref kle, kT0, kT1, kT2]), (ksp, aI G 12 kfsp), (kwh, aZ G 12 kfwh), (kfi, aI G 12 kffi), (kse, aI G 12 kfse), (kgi, aI G 12 kfgi), (kle, aI G 48 kfle), (ring, ob 5 [g_hc, g_0, g_1, g_2, g_3, .ref rh, g_rd, .int ph, .int po]), (rh, aI G 16 rfh), (sS, ob 7 [sS0, sS1, sS2, .ref sA, .ref sX, .ref sY]), (sA, aZ G 6 sfA), (sX, aI G 6 sfX), (sY, aI G 6 sfY), (sT, ob 9 [.int sc, .ref ssp, .ref swh, .ref sfi, .ref sse, .ref sgi, .ref sle, sT0, sT1, sT2]), (ssp, aI G 12 sfsp), (swh, aZ G 12 sfwh), (sfi, aI G 12 sffi), (sse, aI G 12 sfse), (sgi, aI G 12 sfgi), (sle, aI G 48 sfle), (th_, aI G 8 tft)] (fun r w1 => ∃ (kfh2 : Nat → Int32), ∃ (kft2 : Nat → Int32), ∃ (kfA2 : Nat → Int32), ∃ (kfX2 : Nat → Int32), ∃ (kfY2 : Nat → Int32), ∃ (kfsp2 : Nat → Int32), ∃ (kfwh2 : Nat → Int32), ∃ (kffi2 : Nat → Int32), ∃ (kfse2 : Nat → Int32), ∃ (kfgi2 : Nat → Int32), ∃ (kfle2 : Nat → Int32), (∀ j : Nat, j < 16 → kfh2 j = rfh j) ∧ (∀ j : Nat, j < 8 → kft2 j = tft j) ∧ (∀ j : Nat, j < 6 → kfX2 j = sfX j) ∧ (∀ j : Nat, j < 6 → kfY2 j = sfY j) ∧ (∀ j : Nat, j < 6 → kfA2 j = vp_nar .boolean (sfA j)) ∧ (∀ j : Nat, j < 12 → kfsp2 j = sfsp j) ∧ (∀ j : Nat, j < 12 → kfwh2 j = vp_nar .boolean (sfwh j)) ∧ (∀ j : Nat, j < 12 → kffi2 j = sffi j) ∧ (∀ j : Nat, j < 12 → kfse2 j = sfse j) ∧ (∀ j : Nat, j < 12 → kfgi2 j = sfgi j) ∧ (∀ j : Nat, j < 48 → kfle2 j = sfle j) ∧ r = some (.int 1) ∧ w1 = [(x, ob 10 [x_told, x_reader, .ref ring, .ref sS, x_wheel, .ref sT, x_span, x_search, .ref ka3, x_crosses, x_trueMasses, .ref th_, x_up, x_low, x_fits, x_pulls]), (ka3, aO G 3 fO), (kO, ob 2 [.int (1 : Int32), .ref kh, .ref kt, .ref kS, .ref kT, .int ph, .int po]), (kh, aI G 16 kfh2), (kt, aI G 8 kft2), (kS, ob 7 [kS0, kS1, kS2, .ref kA, .ref kX, .ref kY]), (kA, aZ G 6 kfA2), (kX, aI G 6 kfX2), (kY, aI G 6 kfY2), (kT, ob 9 [.int sc, .ref ksp, .ref kwh, .ref kfi, .ref kse, .ref kgi, .ref kle, kT0, kT1, kT2]), (ksp, aI G 12 kfsp2), (kwh, aZ G 12 kfwh2), (kfi, aI G 12 kffi2), (kse, aI G 12 kfse2), (kgi, aI G 12 kfgi2), (kle, aI G 48 kfle2), (ring, ob 5 [g_hc, g_0, g_1, g_2, g_3, .ref rh, g_rd, .int ph, .int po]), (rh, aI G 16 rfh), (sS, ob 7 [sS0, sS1, sS2, .ref sA, .ref sX, .ref sY]), (sA, aZ G 6 sfA), (sX, aI G 6 sfX), (sY, aI G 6 sfY), (sT, ob 9 [.int sc, .ref ssp, .ref swh, .ref sfi, .ref sse, .ref sgi, .ref sle, sT0, sT1, sT2]), (ssp, aI G 12 sfsp), (swh, aZ G 12 sfwh), (sfi, aI G 12 sffi), (sse, aI G 12 sfse), (sgi, aI G 12 sfgi), (sle, aI G 48 sfle), (th_, aI G 8 tft)]) := by
  refine ct_of [(0, .ref x), (1, .int 0)] (by decide) (Nat.le_of_ble_eq_true rfl) rfl ?_
  intro p0 e0 s0 m0 args0 below0 meth0 c0 A X
  refine z_run X bx_X10_keep_0_1 kx_X10_keep_0_1 (lv' := [(0, .ref x), (1, .int 0)]) (st' := [.int 0]) rfl ?_
  refine zi_lt X dx_X10_keep_1 (tgt := 18) (by decide) (a := 0) (show (0 : Int32).toInt = 0 from by decide) (fun c1_1 => absurd c1_1 (by decide)) (fun _ => ?_)
  refine z_run X bx_X10_keep_4_6 kx_X10_keep_4_6 (lv' := [(0, .ref x), (1, .int 0)]) (st' := [.int 3, .int 0]) rfl ?_
  refine zc_ge X dx_X10_keep_6 (tgt := 18) (by decide) (a := 0) (b := 3) (show (0 : Int32).toInt = 0 from by decide) (show (3 : Int32).toInt = 3 from by decide) (fun c6_2 => absurd c6_2 (by decide)) (fun _ => ?_)
  refine z_run X bx_X10_keep_9_10 kx_X10_keep_9_10 (lv' := [(0, .ref x), (1, .int 0)]) (st' := [.ref x]) rfl ?_
  refine z_get X fl_10_67 dx_X10_keep_10 0 rfl (v := .ref ka3) rfl ?_
  refine z_run X bx_X10_keep_13_14 kx_X10_keep_13_14 (lv' := [(0, .ref x), (1, .int 0)]) (st' := [.int 0, .ref ka3]) rfl ?_
  refine z_oald X dx_X10_keep_14 1 rfl (show vp_in _ _ from by unfold vp_in; decide) (v := .ref kO) hO ?_
  refine z_ifnonnull X dx_X10_keep_15 (tgt := 20) (by decide) ?_
  refine z_run X bx_X10_keep_20_21 kx_X10_keep_20_21 (lv' := [(0, .ref x), (1, .int 0)]) (st' := [.ref x]) rfl ?_
  refine z_get X fl_10_67 dx_X10_keep_21 0 rfl (v := .ref ka3) rfl ?_
  refine z_run X bx_X10_keep_24_25 kx_X10_keep_24_25 (lv' := [(0, .ref x), (1, .int 0)]) (st' := [.int 0, .ref ka3]) rfl ?_
  refine z_oald X dx_X10_keep_25 1 rfl (show vp_in _ _ from by unfold vp_in; decide) (v := .ref kO) hO ?_
  refine z_run X bx_X10_keep_26_27 kx_X10_keep_26_27 (lv' := [(0, .ref x), (1, .int 0)]) (st' := [.ref x, .ref kO]) rfl ?_
  refine z_get X fl_10_26 dx_X10_keep_27 0 rfl (v := .ref ring) rfl ?_
  refine z_run X bx_X10_keep_30_31 kx_X10_keep_30_31 (lv' := [(0, .ref x), (1, .int 0)]) (st' := [.ref x, .ref ring, .ref kO]) rfl ?_
  refine z_get X fl_10_33 dx_X10_keep_31 0 rfl (v := .ref sS) rfl ?_
  refine z_run X bx_X10_keep_34_35 kx_X10_keep_34_35 (lv' := [(0, .ref x), (1, .int 0)]) (st' := [.ref x, .ref sS, .ref ring, .ref kO]) rfl ?_
  refine z_get X fl_10_47 dx_X10_keep_35 0 rfl (v := .ref sT) rfl ?_
  refine z_run X bx_X10_keep_38_39 kx_X10_keep_38_39 (lv' := [(0, .ref x), (1, .int 0)]) (st' := [.ref x, .ref sT, .ref sS, .ref ring, .ref kO]) rfl ?_
  refine z_get X fl_10_78 dx_X10_keep_39 0 rfl (v := .ref th_) rfl ?_
  refine z_callV X k_10_481 (cx_X2_store l G kO kf kh kt kp ko kS kS0 kS1 kS2 kA kX kY kT kc ksp kwh kfi kse kgi kle kT0 kT1 kT2 ring g_hc g_0 g_1 g_2 g_3 rh g_rd ph po sS sS0 sS1 sS2 sA sX sY sT sc ssp swh sfi sse sgi sle sT0 sT1 sT2 th_ kfh kft kfA kfX kfY kfsp kfwh kffi kfse kfgi kfle rfh sfA sfX sfY sfsp sfwh sffi sfse sfgi sfle tft) dx_X10_keep_42 2 rfl rfl rfl ⟨Nat.le_of_ble_eq_true rfl, Nat.le_of_ble_eq_true rfl⟩ ⟨Nat.le_of_ble_eq_true rfl, Nat.le_of_ble_eq_true rfl⟩ rfl (rest := []) (As := [.ref ring, .ref sS, .ref sT, .ref th_]) rfl (Nat.le_of_ble_eq_true rfl) [2, 3, 4, 5, 6, 7, 8, 9, 10, 11, 12, 13, 14, 15, 16, 17, 18, 19, 20, 21, 22, 23, 24, 25, 26, 27, 28, 29] [0, 1] rfl (by decide) (wr := [(x, ob 10 [x_told, x_reader, .ref ring, .ref sS, x_wheel, .ref sT, x_span, x_search, .ref ka3, x_crosses, x_trueMasses, .ref th_, x_up, x_low, x_fits, x_pulls]), (ka3, aO G 3 fO)]) rfl (by decide) (by decide) ?_
  rintro _ _ ⟨kfh2_3, kft2_4, kfA2_5, kfX2_6, kfY2_7, kfsp2_8, kfwh2_9, kffi2_10, kfse2_11, kfgi2_12, kfle2_13, f42_14, f42_15, f42_16, f42_17, f42_18, f42_19, f42_20, f42_21, f42_22, f42_23, f42_24, rfl, rfl⟩
  refine Z.at (pc' := 45) (st' := []) (ws' := [(x, ob 10 [x_told, x_reader, .ref ring, .ref sS, x_wheel, .ref sT, x_span, x_search, .ref ka3, x_crosses, x_trueMasses, .ref th_, x_up, x_low, x_fits, x_pulls]), (ka3, aO G 3 fO), (kO, ob 2 [.int (1 : Int32), .ref kh, .ref kt, .ref kS, .ref kT, .int ph, .int po]), (kh, aI G 16 kfh2_3), (kt, aI G 8 kft2_4), (kS, ob 7 [kS0, kS1, kS2, .ref kA, .ref kX, .ref kY]), (kA, aZ G 6 kfA2_5), (kX, aI G 6 kfX2_6), (kY, aI G 6 kfY2_7), (kT, ob 9 [.int sc, .ref ksp, .ref kwh, .ref kfi, .ref kse, .ref kgi, .ref kle, kT0, kT1, kT2]), (ksp, aI G 12 kfsp2_8), (kwh, aZ G 12 kfwh2_9), (kfi, aI G 12 kffi2_10), (kse, aI G 12 kfse2_11), (kgi, aI G 12 kfgi2_12), (kle, aI G 48 kfle2_13), (ring, ob 5 [g_hc, g_0, g_1, g_2, g_3, .ref rh, g_rd, .int ph, .int po]), (rh, aI G 16 rfh), (sS, ob 7 [sS0, sS1, sS2, .ref sA, .ref sX, .ref sY]), (sA, aZ G 6 sfA), (sX, aI G 6 sfX), (sY, aI G 6 sfY), (sT, ob 9 [.int sc, .ref ssp, .ref swh, .ref sfi, .ref sse, .ref sgi, .ref sle, sT0, sT1, sT2]), (ssp, aI G 12 sfsp), (swh, aZ G 12 sfwh), (sfi, aI G 12 sffi), (sse, aI G 12 sfse), (sgi, aI G 12 sfgi), (sle, aI G 48 sfle), (th_, aI G 8 tft)]) (kc' := 0) (ks' := 0) rfl rfl rfl rfl rfl ?_
  refine z_run X bx_X10_keep_45_46 kx_X10_keep_45_46 (lv' := [(0, .ref x), (1, .int 0)]) (st' := [.int 1]) rfl ?_
  exact z_zret X rfl rfl dx_X10_keep_46 (Nat.le_of_ble_eq_true rfl) (Nat.le_of_ble_eq_true rfl) ⟨kfh2_3, kft2_4, kfA2_5, kfX2_6, kfY2_7, kfsp2_8, kfwh2_9, kffi2_10, kfse2_11, kfgi2_12, kfle2_13, f42_14, f42_15, f42_16, f42_17, f42_18, f42_19, f42_20, f42_21, f42_22, f42_23, f42_24, rfl, rfl⟩

set_option maxHeartbeats 4000000 in
set_option maxRecDepth 100000 in
theorem cx_X10_keep1 (l : Launch) (G : KG) (x : Nat) (x_told : Value) (x_reader : Value) (x_wheel : Value) (x_span : Value) (x_search : Value) (x_crosses : Value) (x_trueMasses : Value) (x_up : Value) (x_low : Value) (x_fits : Value) (x_pulls : Value) (ka3 : Nat) (fO : Nat → Option Nat) (kO : Nat) (kf : Int32) (kh : Nat) (kt : Nat) (kp : Int32) (ko : Int32) (kS : Nat) (kS0 : Value) (kS1 : Value) (kS2 : Value) (kA : Nat) (kX : Nat) (kY : Nat) (kT : Nat) (kc : Int32) (ksp : Nat) (kwh : Nat) (kfi : Nat) (kse : Nat) (kgi : Nat) (kle : Nat) (kT0 : Value) (kT1 : Value) (kT2 : Value) (ring : Nat) (g_hc : Value) (g_0 : Value) (g_1 : Value) (g_2 : Value) (g_3 : Value) (rh : Nat) (g_rd : Value) (ph : Int32) (po : Int32) (sS : Nat) (sS0 : Value) (sS1 : Value) (sS2 : Value) (sA : Nat) (sX : Nat) (sY : Nat) (sT : Nat) (sc : Int32) (ssp : Nat) (swh : Nat) (sfi : Nat) (sse : Nat) (sgi : Nat) (sle : Nat) (sT0 : Value) (sT1 : Value) (sT2 : Value) (th_ : Nat) (kfh : Nat → Int32) (kft : Nat → Int32) (kfA : Nat → Int32) (kfX : Nat → Int32) (kfY : Nat → Int32) (kfsp : Nat → Int32) (kfwh : Nat → Int32) (kffi : Nat → Int32) (kfse : Nat → Int32) (kfgi : Nat → Int32) (kfle : Nat → Int32) (rfh : Nat → Int32) (sfA : Nat → Int32) (sfX : Nat → Int32) (sfY : Nat → Int32) (sfsp : Nat → Int32) (sfwh : Nat → Int32) (sffi : Nat → Int32) (sfse : Nat → Int32) (sfgi : Nat → Int32) (sfle : Nat → Int32) (tft : Nat → Int32) (hO : va_rf (fO (1 : Int32).toNatClampNeg) = .ref kO) : Ct l G yX10_keep cX10_keep 2 (some .boolean) { frames := 3, cells := 0, slots := 0, locals := 68 } [.ref x, .int 1] [(x, ob 10 [x_told, x_reader, .ref ring, .ref sS, x_wheel, .ref sT, x_span, x_search, .ref ka3, x_crosses, x_trueMasses, .ref th_, x_up, x_low, x_fits, x_pulls]), (ka3, aO G 3 fO), (kO, ob 2 [.int kf, .ref kh, .ref kt, .ref kS, .ref kT, .int kp, .int ko]), (kh, aI G 16 kfh), (kt, aI G 8 kft), (kS, ob 7 [kS0, kS1, kS2, .ref kA, .ref kX, .ref kY]), (kA, aZ G 6 kfA), (kX, aI G 6 kfX), (kY, aI G 6 kfY), (kT, ob 9 [.int kc, .ref ksp, .ref kwh, .ref kfi, .ref kse, .ref kgi, .ref kle, kT0, kT1, kT2]), (ksp, aI G 12 kfsp), (kwh, aZ G 12 kfwh), (kfi, aI G 12 kffi), (kse, aI G 12 kfse), (kgi, aI G 12 kfgi), (kle, aI G 48 kfle), (ring, ob 5 [g_hc, g_0, g_1, g_2, g_3, .ref rh, g_rd, .int ph, .int po]), (rh, aI G 16 rfh), (sS, ob 7 [sS0, sS1, sS2, .ref sA, .ref sX, .ref sY]), (sA, aZ G 6 sfA), (sX, aI G 6 sfX), (sY, aI G 6 sfY), (sT, ob 9 [.int sc, .ref ssp, .ref swh, .ref sfi, .ref sse, .ref sgi, .ref sle, sT0, sT1, sT2]), (ssp, aI G 12 sfsp), (swh, aZ G 12 sfwh), (sfi, aI G 12 sffi), (sse, aI G 12 sfse), (sgi, aI G 12 sfgi), (sle, aI G 48 sfle), (th_, aI G 8 tft)] (fun r w1 => ∃ (kfh2 : Nat → Int32), ∃ (kft2 : Nat → Int32), ∃ (kfA2 : Nat → Int32), ∃ (kfX2 : Nat → Int32), ∃ (kfY2 : Nat → Int32), ∃ (kfsp2 : Nat → Int32), ∃ (kfwh2 : Nat → Int32), ∃ (kffi2 : Nat → Int32), ∃ (kfse2 : Nat → Int32), ∃ (kfgi2 : Nat → Int32), ∃ (kfle2 : Nat → Int32), (∀ j : Nat, j < 16 → kfh2 j = rfh j) ∧ (∀ j : Nat, j < 8 → kft2 j = tft j) ∧ (∀ j : Nat, j < 6 → kfX2 j = sfX j) ∧ (∀ j : Nat, j < 6 → kfY2 j = sfY j) ∧ (∀ j : Nat, j < 6 → kfA2 j = vp_nar .boolean (sfA j)) ∧ (∀ j : Nat, j < 12 → kfsp2 j = sfsp j) ∧ (∀ j : Nat, j < 12 → kfwh2 j = vp_nar .boolean (sfwh j)) ∧ (∀ j : Nat, j < 12 → kffi2 j = sffi j) ∧ (∀ j : Nat, j < 12 → kfse2 j = sfse j) ∧ (∀ j : Nat, j < 12 → kfgi2 j = sfgi j) ∧ (∀ j : Nat, j < 48 → kfle2 j = sfle j) ∧ r = some (.int 1) ∧ w1 = [(x, ob 10 [x_told, x_reader, .ref ring, .ref sS, x_wheel, .ref sT, x_span, x_search, .ref ka3, x_crosses, x_trueMasses, .ref th_, x_up, x_low, x_fits, x_pulls]), (ka3, aO G 3 fO), (kO, ob 2 [.int (1 : Int32), .ref kh, .ref kt, .ref kS, .ref kT, .int ph, .int po]), (kh, aI G 16 kfh2), (kt, aI G 8 kft2), (kS, ob 7 [kS0, kS1, kS2, .ref kA, .ref kX, .ref kY]), (kA, aZ G 6 kfA2), (kX, aI G 6 kfX2), (kY, aI G 6 kfY2), (kT, ob 9 [.int sc, .ref ksp, .ref kwh, .ref kfi, .ref kse, .ref kgi, .ref kle, kT0, kT1, kT2]), (ksp, aI G 12 kfsp2), (kwh, aZ G 12 kfwh2), (kfi, aI G 12 kffi2), (kse, aI G 12 kfse2), (kgi, aI G 12 kfgi2), (kle, aI G 48 kfle2), (ring, ob 5 [g_hc, g_0, g_1, g_2, g_3, .ref rh, g_rd, .int ph, .int po]), (rh, aI G 16 rfh), (sS, ob 7 [sS0, sS1, sS2, .ref sA, .ref sX, .ref sY]), (sA, aZ G 6 sfA), (sX, aI G 6 sfX), (sY, aI G 6 sfY), (sT, ob 9 [.int sc, .ref ssp, .ref swh, .ref sfi, .ref sse, .ref sgi, .ref sle, sT0, sT1, sT2]), (ssp, aI G 12 sfsp), (swh, aZ G 12 sfwh), (sfi, aI G 12 sffi), (sse, aI G 12 sfse), (sgi, aI G 12 sfgi), (sle, aI G 48 sfle), (th_, aI G 8 tft)]) := by
  refine ct_of [(0, .ref x), (1, .int 1)] (by decide) (Nat.le_of_ble_eq_true rfl) rfl ?_
  intro p0 e0 s0 m0 args0 below0 meth0 c0 A X
  refine z_run X bx_X10_keep_0_1 kx_X10_keep_0_1 (lv' := [(0, .ref x), (1, .int 1)]) (st' := [.int 1]) rfl ?_
  refine zi_lt X dx_X10_keep_1 (tgt := 18) (by decide) (a := 1) (show (1 : Int32).toInt = 1 from by decide) (fun c1_1 => absurd c1_1 (by decide)) (fun _ => ?_)
  refine z_run X bx_X10_keep_4_6 kx_X10_keep_4_6 (lv' := [(0, .ref x), (1, .int 1)]) (st' := [.int 3, .int 1]) rfl ?_
  refine zc_ge X dx_X10_keep_6 (tgt := 18) (by decide) (a := 1) (b := 3) (show (1 : Int32).toInt = 1 from by decide) (show (3 : Int32).toInt = 3 from by decide) (fun c6_2 => absurd c6_2 (by decide)) (fun _ => ?_)
  refine z_run X bx_X10_keep_9_10 kx_X10_keep_9_10 (lv' := [(0, .ref x), (1, .int 1)]) (st' := [.ref x]) rfl ?_
  refine z_get X fl_10_67 dx_X10_keep_10 0 rfl (v := .ref ka3) rfl ?_
  refine z_run X bx_X10_keep_13_14 kx_X10_keep_13_14 (lv' := [(0, .ref x), (1, .int 1)]) (st' := [.int 1, .ref ka3]) rfl ?_
  refine z_oald X dx_X10_keep_14 1 rfl (show vp_in _ _ from by unfold vp_in; decide) (v := .ref kO) hO ?_
  refine z_ifnonnull X dx_X10_keep_15 (tgt := 20) (by decide) ?_
  refine z_run X bx_X10_keep_20_21 kx_X10_keep_20_21 (lv' := [(0, .ref x), (1, .int 1)]) (st' := [.ref x]) rfl ?_
  refine z_get X fl_10_67 dx_X10_keep_21 0 rfl (v := .ref ka3) rfl ?_
  refine z_run X bx_X10_keep_24_25 kx_X10_keep_24_25 (lv' := [(0, .ref x), (1, .int 1)]) (st' := [.int 1, .ref ka3]) rfl ?_
  refine z_oald X dx_X10_keep_25 1 rfl (show vp_in _ _ from by unfold vp_in; decide) (v := .ref kO) hO ?_
  refine z_run X bx_X10_keep_26_27 kx_X10_keep_26_27 (lv' := [(0, .ref x), (1, .int 1)]) (st' := [.ref x, .ref kO]) rfl ?_
  refine z_get X fl_10_26 dx_X10_keep_27 0 rfl (v := .ref ring) rfl ?_
  refine z_run X bx_X10_keep_30_31 kx_X10_keep_30_31 (lv' := [(0, .ref x), (1, .int 1)]) (st' := [.ref x, .ref ring, .ref kO]) rfl ?_
  refine z_get X fl_10_33 dx_X10_keep_31 0 rfl (v := .ref sS) rfl ?_
  refine z_run X bx_X10_keep_34_35 kx_X10_keep_34_35 (lv' := [(0, .ref x), (1, .int 1)]) (st' := [.ref x, .ref sS, .ref ring, .ref kO]) rfl ?_
  refine z_get X fl_10_47 dx_X10_keep_35 0 rfl (v := .ref sT) rfl ?_
  refine z_run X bx_X10_keep_38_39 kx_X10_keep_38_39 (lv' := [(0, .ref x), (1, .int 1)]) (st' := [.ref x, .ref sT, .ref sS, .ref ring, .ref kO]) rfl ?_
  refine z_get X fl_10_78 dx_X10_keep_39 0 rfl (v := .ref th_) rfl ?_
  refine z_callV X k_10_481 (cx_X2_store l G kO kf kh kt kp ko kS kS0 kS1 kS2 kA kX kY kT kc ksp kwh kfi kse kgi kle kT0 kT1 kT2 ring g_hc g_0 g_1 g_2 g_3 rh g_rd ph po sS sS0 sS1 sS2 sA sX sY sT sc ssp swh sfi sse sgi sle sT0 sT1 sT2 th_ kfh kft kfA kfX kfY kfsp kfwh kffi kfse kfgi kfle rfh sfA sfX sfY sfsp sfwh sffi sfse sfgi sfle tft) dx_X10_keep_42 2 rfl rfl rfl ⟨Nat.le_of_ble_eq_true rfl, Nat.le_of_ble_eq_true rfl⟩ ⟨Nat.le_of_ble_eq_true rfl, Nat.le_of_ble_eq_true rfl⟩ rfl (rest := []) (As := [.ref ring, .ref sS, .ref sT, .ref th_]) rfl (Nat.le_of_ble_eq_true rfl) [2, 3, 4, 5, 6, 7, 8, 9, 10, 11, 12, 13, 14, 15, 16, 17, 18, 19, 20, 21, 22, 23, 24, 25, 26, 27, 28, 29] [0, 1] rfl (by decide) (wr := [(x, ob 10 [x_told, x_reader, .ref ring, .ref sS, x_wheel, .ref sT, x_span, x_search, .ref ka3, x_crosses, x_trueMasses, .ref th_, x_up, x_low, x_fits, x_pulls]), (ka3, aO G 3 fO)]) rfl (by decide) (by decide) ?_
  rintro _ _ ⟨kfh2_3, kft2_4, kfA2_5, kfX2_6, kfY2_7, kfsp2_8, kfwh2_9, kffi2_10, kfse2_11, kfgi2_12, kfle2_13, f42_14, f42_15, f42_16, f42_17, f42_18, f42_19, f42_20, f42_21, f42_22, f42_23, f42_24, rfl, rfl⟩
  refine Z.at (pc' := 45) (st' := []) (ws' := [(x, ob 10 [x_told, x_reader, .ref ring, .ref sS, x_wheel, .ref sT, x_span, x_search, .ref ka3, x_crosses, x_trueMasses, .ref th_, x_up, x_low, x_fits, x_pulls]), (ka3, aO G 3 fO), (kO, ob 2 [.int (1 : Int32), .ref kh, .ref kt, .ref kS, .ref kT, .int ph, .int po]), (kh, aI G 16 kfh2_3), (kt, aI G 8 kft2_4), (kS, ob 7 [kS0, kS1, kS2, .ref kA, .ref kX, .ref kY]), (kA, aZ G 6 kfA2_5), (kX, aI G 6 kfX2_6), (kY, aI G 6 kfY2_7), (kT, ob 9 [.int sc, .ref ksp, .ref kwh, .ref kfi, .ref kse, .ref kgi, .ref kle, kT0, kT1, kT2]), (ksp, aI G 12 kfsp2_8), (kwh, aZ G 12 kfwh2_9), (kfi, aI G 12 kffi2_10), (kse, aI G 12 kfse2_11), (kgi, aI G 12 kfgi2_12), (kle, aI G 48 kfle2_13), (ring, ob 5 [g_hc, g_0, g_1, g_2, g_3, .ref rh, g_rd, .int ph, .int po]), (rh, aI G 16 rfh), (sS, ob 7 [sS0, sS1, sS2, .ref sA, .ref sX, .ref sY]), (sA, aZ G 6 sfA), (sX, aI G 6 sfX), (sY, aI G 6 sfY), (sT, ob 9 [.int sc, .ref ssp, .ref swh, .ref sfi, .ref sse, .ref sgi, .ref sle, sT0, sT1, sT2]), (ssp, aI G 12 sfsp), (swh, aZ G 12 sfwh), (sfi, aI G 12 sffi), (sse, aI G 12 sfse), (sgi, aI G 12 sfgi), (sle, aI G 48 sfle), (th_, aI G 8 tft)]) (kc' := 0) (ks' := 0) rfl rfl rfl rfl rfl ?_
  refine z_run X bx_X10_keep_45_46 kx_X10_keep_45_46 (lv' := [(0, .ref x), (1, .int 1)]) (st' := [.int 1]) rfl ?_
  exact z_zret X rfl rfl dx_X10_keep_46 (Nat.le_of_ble_eq_true rfl) (Nat.le_of_ble_eq_true rfl) ⟨kfh2_3, kft2_4, kfA2_5, kfX2_6, kfY2_7, kfsp2_8, kfwh2_9, kffi2_10, kfse2_11, kfgi2_12, kfle2_13, f42_14, f42_15, f42_16, f42_17, f42_18, f42_19, f42_20, f42_21, f42_22, f42_23, f42_24, rfl, rfl⟩

set_option maxHeartbeats 4000000 in
set_option maxRecDepth 100000 in
theorem cx_X10_keep2 (l : Launch) (G : KG) (x : Nat) (x_told : Value) (x_reader : Value) (x_wheel : Value) (x_span : Value) (x_search : Value) (x_crosses : Value) (x_trueMasses : Value) (x_up : Value) (x_low : Value) (x_fits : Value) (x_pulls : Value) (ka3 : Nat) (fO : Nat → Option Nat) (kO : Nat) (kf : Int32) (kh : Nat) (kt : Nat) (kp : Int32) (ko : Int32) (kS : Nat) (kS0 : Value) (kS1 : Value) (kS2 : Value) (kA : Nat) (kX : Nat) (kY : Nat) (kT : Nat) (kc : Int32) (ksp : Nat) (kwh : Nat) (kfi : Nat) (kse : Nat) (kgi : Nat) (kle : Nat) (kT0 : Value) (kT1 : Value) (kT2 : Value) (ring : Nat) (g_hc : Value) (g_0 : Value) (g_1 : Value) (g_2 : Value) (g_3 : Value) (rh : Nat) (g_rd : Value) (ph : Int32) (po : Int32) (sS : Nat) (sS0 : Value) (sS1 : Value) (sS2 : Value) (sA : Nat) (sX : Nat) (sY : Nat) (sT : Nat) (sc : Int32) (ssp : Nat) (swh : Nat) (sfi : Nat) (sse : Nat) (sgi : Nat) (sle : Nat) (sT0 : Value) (sT1 : Value) (sT2 : Value) (th_ : Nat) (kfh : Nat → Int32) (kft : Nat → Int32) (kfA : Nat → Int32) (kfX : Nat → Int32) (kfY : Nat → Int32) (kfsp : Nat → Int32) (kfwh : Nat → Int32) (kffi : Nat → Int32) (kfse : Nat → Int32) (kfgi : Nat → Int32) (kfle : Nat → Int32) (rfh : Nat → Int32) (sfA : Nat → Int32) (sfX : Nat → Int32) (sfY : Nat → Int32) (sfsp : Nat → Int32) (sfwh : Nat → Int32) (sffi : Nat → Int32) (sfse : Nat → Int32) (sfgi : Nat → Int32) (sfle : Nat → Int32) (tft : Nat → Int32) (hO : va_rf (fO (2 : Int32).toNatClampNeg) = .ref kO) : Ct l G yX10_keep cX10_keep 2 (some .boolean) { frames := 3, cells := 0, slots := 0, locals := 68 } [.ref x, .int 2] [(x, ob 10 [x_told, x_reader, .ref ring, .ref sS, x_wheel, .ref sT, x_span, x_search, .ref ka3, x_crosses, x_trueMasses, .ref th_, x_up, x_low, x_fits, x_pulls]), (ka3, aO G 3 fO), (kO, ob 2 [.int kf, .ref kh, .ref kt, .ref kS, .ref kT, .int kp, .int ko]), (kh, aI G 16 kfh), (kt, aI G 8 kft), (kS, ob 7 [kS0, kS1, kS2, .ref kA, .ref kX, .ref kY]), (kA, aZ G 6 kfA), (kX, aI G 6 kfX), (kY, aI G 6 kfY), (kT, ob 9 [.int kc, .ref ksp, .ref kwh, .ref kfi, .ref kse, .ref kgi, .ref kle, kT0, kT1, kT2]), (ksp, aI G 12 kfsp), (kwh, aZ G 12 kfwh), (kfi, aI G 12 kffi), (kse, aI G 12 kfse), (kgi, aI G 12 kfgi), (kle, aI G 48 kfle), (ring, ob 5 [g_hc, g_0, g_1, g_2, g_3, .ref rh, g_rd, .int ph, .int po]), (rh, aI G 16 rfh), (sS, ob 7 [sS0, sS1, sS2, .ref sA, .ref sX, .ref sY]), (sA, aZ G 6 sfA), (sX, aI G 6 sfX), (sY, aI G 6 sfY), (sT, ob 9 [.int sc, .ref ssp, .ref swh, .ref sfi, .ref sse, .ref sgi, .ref sle, sT0, sT1, sT2]), (ssp, aI G 12 sfsp), (swh, aZ G 12 sfwh), (sfi, aI G 12 sffi), (sse, aI G 12 sfse), (sgi, aI G 12 sfgi), (sle, aI G 48 sfle), (th_, aI G 8 tft)] (fun r w1 => ∃ (kfh2 : Nat → Int32), ∃ (kft2 : Nat → Int32), ∃ (kfA2 : Nat → Int32), ∃ (kfX2 : Nat → Int32), ∃ (kfY2 : Nat → Int32), ∃ (kfsp2 : Nat → Int32), ∃ (kfwh2 : Nat → Int32), ∃ (kffi2 : Nat → Int32), ∃ (kfse2 : Nat → Int32), ∃ (kfgi2 : Nat → Int32), ∃ (kfle2 : Nat → Int32), (∀ j : Nat, j < 16 → kfh2 j = rfh j) ∧ (∀ j : Nat, j < 8 → kft2 j = tft j) ∧ (∀ j : Nat, j < 6 → kfX2 j = sfX j) ∧ (∀ j : Nat, j < 6 → kfY2 j = sfY j) ∧ (∀ j : Nat, j < 6 → kfA2 j = vp_nar .boolean (sfA j)) ∧ (∀ j : Nat, j < 12 → kfsp2 j = sfsp j) ∧ (∀ j : Nat, j < 12 → kfwh2 j = vp_nar .boolean (sfwh j)) ∧ (∀ j : Nat, j < 12 → kffi2 j = sffi j) ∧ (∀ j : Nat, j < 12 → kfse2 j = sfse j) ∧ (∀ j : Nat, j < 12 → kfgi2 j = sfgi j) ∧ (∀ j : Nat, j < 48 → kfle2 j = sfle j) ∧ r = some (.int 1) ∧ w1 = [(x, ob 10 [x_told, x_reader, .ref ring, .ref sS, x_wheel, .ref sT, x_span, x_search, .ref ka3, x_crosses, x_trueMasses, .ref th_, x_up, x_low, x_fits, x_pulls]), (ka3, aO G 3 fO), (kO, ob 2 [.int (1 : Int32), .ref kh, .ref kt, .ref kS, .ref kT, .int ph, .int po]), (kh, aI G 16 kfh2), (kt, aI G 8 kft2), (kS, ob 7 [kS0, kS1, kS2, .ref kA, .ref kX, .ref kY]), (kA, aZ G 6 kfA2), (kX, aI G 6 kfX2), (kY, aI G 6 kfY2), (kT, ob 9 [.int sc, .ref ksp, .ref kwh, .ref kfi, .ref kse, .ref kgi, .ref kle, kT0, kT1, kT2]), (ksp, aI G 12 kfsp2), (kwh, aZ G 12 kfwh2), (kfi, aI G 12 kffi2), (kse, aI G 12 kfse2), (kgi, aI G 12 kfgi2), (kle, aI G 48 kfle2), (ring, ob 5 [g_hc, g_0, g_1, g_2, g_3, .ref rh, g_rd, .int ph, .int po]), (rh, aI G 16 rfh), (sS, ob 7 [sS0, sS1, sS2, .ref sA, .ref sX, .ref sY]), (sA, aZ G 6 sfA), (sX, aI G 6 sfX), (sY, aI G 6 sfY), (sT, ob 9 [.int sc, .ref ssp, .ref swh, .ref sfi, .ref sse, .ref sgi, .ref sle, sT0, sT1, sT2]), (ssp, aI G 12 sfsp), (swh, aZ G 12 sfwh), (sfi, aI G 12 sffi), (sse, aI G 12 sfse), (sgi, aI G 12 sfgi), (sle, aI G 48 sfle), (th_, aI G 8 tft)]) := by
  refine ct_of [(0, .ref x), (1, .int 2)] (by decide) (Nat.le_of_ble_eq_true rfl) rfl ?_
  intro p0 e0 s0 m0 args0 below0 meth0 c0 A X
  refine z_run X bx_X10_keep_0_1 kx_X10_keep_0_1 (lv' := [(0, .ref x), (1, .int 2)]) (st' := [.int 2]) rfl ?_
  refine zi_lt X dx_X10_keep_1 (tgt := 18) (by decide) (a := 2) (show (2 : Int32).toInt = 2 from by decide) (fun c1_1 => absurd c1_1 (by decide)) (fun _ => ?_)
  refine z_run X bx_X10_keep_4_6 kx_X10_keep_4_6 (lv' := [(0, .ref x), (1, .int 2)]) (st' := [.int 3, .int 2]) rfl ?_
  refine zc_ge X dx_X10_keep_6 (tgt := 18) (by decide) (a := 2) (b := 3) (show (2 : Int32).toInt = 2 from by decide) (show (3 : Int32).toInt = 3 from by decide) (fun c6_2 => absurd c6_2 (by decide)) (fun _ => ?_)
  refine z_run X bx_X10_keep_9_10 kx_X10_keep_9_10 (lv' := [(0, .ref x), (1, .int 2)]) (st' := [.ref x]) rfl ?_
  refine z_get X fl_10_67 dx_X10_keep_10 0 rfl (v := .ref ka3) rfl ?_
  refine z_run X bx_X10_keep_13_14 kx_X10_keep_13_14 (lv' := [(0, .ref x), (1, .int 2)]) (st' := [.int 2, .ref ka3]) rfl ?_
  refine z_oald X dx_X10_keep_14 1 rfl (show vp_in _ _ from by unfold vp_in; decide) (v := .ref kO) hO ?_
  refine z_ifnonnull X dx_X10_keep_15 (tgt := 20) (by decide) ?_
  refine z_run X bx_X10_keep_20_21 kx_X10_keep_20_21 (lv' := [(0, .ref x), (1, .int 2)]) (st' := [.ref x]) rfl ?_
  refine z_get X fl_10_67 dx_X10_keep_21 0 rfl (v := .ref ka3) rfl ?_
  refine z_run X bx_X10_keep_24_25 kx_X10_keep_24_25 (lv' := [(0, .ref x), (1, .int 2)]) (st' := [.int 2, .ref ka3]) rfl ?_
  refine z_oald X dx_X10_keep_25 1 rfl (show vp_in _ _ from by unfold vp_in; decide) (v := .ref kO) hO ?_
  refine z_run X bx_X10_keep_26_27 kx_X10_keep_26_27 (lv' := [(0, .ref x), (1, .int 2)]) (st' := [.ref x, .ref kO]) rfl ?_
  refine z_get X fl_10_26 dx_X10_keep_27 0 rfl (v := .ref ring) rfl ?_
  refine z_run X bx_X10_keep_30_31 kx_X10_keep_30_31 (lv' := [(0, .ref x), (1, .int 2)]) (st' := [.ref x, .ref ring, .ref kO]) rfl ?_
  refine z_get X fl_10_33 dx_X10_keep_31 0 rfl (v := .ref sS) rfl ?_
  refine z_run X bx_X10_keep_34_35 kx_X10_keep_34_35 (lv' := [(0, .ref x), (1, .int 2)]) (st' := [.ref x, .ref sS, .ref ring, .ref kO]) rfl ?_
  refine z_get X fl_10_47 dx_X10_keep_35 0 rfl (v := .ref sT) rfl ?_
  refine z_run X bx_X10_keep_38_39 kx_X10_keep_38_39 (lv' := [(0, .ref x), (1, .int 2)]) (st' := [.ref x, .ref sT, .ref sS, .ref ring, .ref kO]) rfl ?_
  refine z_get X fl_10_78 dx_X10_keep_39 0 rfl (v := .ref th_) rfl ?_
  refine z_callV X k_10_481 (cx_X2_store l G kO kf kh kt kp ko kS kS0 kS1 kS2 kA kX kY kT kc ksp kwh kfi kse kgi kle kT0 kT1 kT2 ring g_hc g_0 g_1 g_2 g_3 rh g_rd ph po sS sS0 sS1 sS2 sA sX sY sT sc ssp swh sfi sse sgi sle sT0 sT1 sT2 th_ kfh kft kfA kfX kfY kfsp kfwh kffi kfse kfgi kfle rfh sfA sfX sfY sfsp sfwh sffi sfse sfgi sfle tft) dx_X10_keep_42 2 rfl rfl rfl ⟨Nat.le_of_ble_eq_true rfl, Nat.le_of_ble_eq_true rfl⟩ ⟨Nat.le_of_ble_eq_true rfl, Nat.le_of_ble_eq_true rfl⟩ rfl (rest := []) (As := [.ref ring, .ref sS, .ref sT, .ref th_]) rfl (Nat.le_of_ble_eq_true rfl) [2, 3, 4, 5, 6, 7, 8, 9, 10, 11, 12, 13, 14, 15, 16, 17, 18, 19, 20, 21, 22, 23, 24, 25, 26, 27, 28, 29] [0, 1] rfl (by decide) (wr := [(x, ob 10 [x_told, x_reader, .ref ring, .ref sS, x_wheel, .ref sT, x_span, x_search, .ref ka3, x_crosses, x_trueMasses, .ref th_, x_up, x_low, x_fits, x_pulls]), (ka3, aO G 3 fO)]) rfl (by decide) (by decide) ?_
  rintro _ _ ⟨kfh2_3, kft2_4, kfA2_5, kfX2_6, kfY2_7, kfsp2_8, kfwh2_9, kffi2_10, kfse2_11, kfgi2_12, kfle2_13, f42_14, f42_15, f42_16, f42_17, f42_18, f42_19, f42_20, f42_21, f42_22, f42_23, f42_24, rfl, rfl⟩
  refine Z.at (pc' := 45) (st' := []) (ws' := [(x, ob 10 [x_told, x_reader, .ref ring, .ref sS, x_wheel, .ref sT, x_span, x_search, .ref ka3, x_crosses, x_trueMasses, .ref th_, x_up, x_low, x_fits, x_pulls]), (ka3, aO G 3 fO), (kO, ob 2 [.int (1 : Int32), .ref kh, .ref kt, .ref kS, .ref kT, .int ph, .int po]), (kh, aI G 16 kfh2_3), (kt, aI G 8 kft2_4), (kS, ob 7 [kS0, kS1, kS2, .ref kA, .ref kX, .ref kY]), (kA, aZ G 6 kfA2_5), (kX, aI G 6 kfX2_6), (kY, aI G 6 kfY2_7), (kT, ob 9 [.int sc, .ref ksp, .ref kwh, .ref kfi, .ref kse, .ref kgi, .ref kle, kT0, kT1, kT2]), (ksp, aI G 12 kfsp2_8), (kwh, aZ G 12 kfwh2_9), (kfi, aI G 12 kffi2_10), (kse, aI G 12 kfse2_11), (kgi, aI G 12 kfgi2_12), (kle, aI G 48 kfle2_13), (ring, ob 5 [g_hc, g_0, g_1, g_2, g_3, .ref rh, g_rd, .int ph, .int po]), (rh, aI G 16 rfh), (sS, ob 7 [sS0, sS1, sS2, .ref sA, .ref sX, .ref sY]), (sA, aZ G 6 sfA), (sX, aI G 6 sfX), (sY, aI G 6 sfY), (sT, ob 9 [.int sc, .ref ssp, .ref swh, .ref sfi, .ref sse, .ref sgi, .ref sle, sT0, sT1, sT2]), (ssp, aI G 12 sfsp), (swh, aZ G 12 sfwh), (sfi, aI G 12 sffi), (sse, aI G 12 sfse), (sgi, aI G 12 sfgi), (sle, aI G 48 sfle), (th_, aI G 8 tft)]) (kc' := 0) (ks' := 0) rfl rfl rfl rfl rfl ?_
  refine z_run X bx_X10_keep_45_46 kx_X10_keep_45_46 (lv' := [(0, .ref x), (1, .int 2)]) (st' := [.int 1]) rfl ?_
  exact z_zret X rfl rfl dx_X10_keep_46 (Nat.le_of_ble_eq_true rfl) (Nat.le_of_ble_eq_true rfl) ⟨kfh2_3, kft2_4, kfA2_5, kfX2_6, kfY2_7, kfsp2_8, kfwh2_9, kffi2_10, kfse2_11, kfgi2_12, kfle2_13, f42_14, f42_15, f42_16, f42_17, f42_18, f42_19, f42_20, f42_21, f42_22, f42_23, f42_24, rfl, rfl⟩

theorem dx_X10_again_1 : decode cX10_again 1 = .ok (.ifCond .lt 29, 3) := by decide +kernel
theorem dx_X10_again_6 : decode cX10_again 6 = .ok (.if_icmp .ge 24, 3) := by decide +kernel
theorem dx_X10_again_10 : decode cX10_again 10 = .ok (.getfield 67, 3) := by decide +kernel
theorem dx_X10_again_14 : decode cX10_again 14 = .ok (.aaload, 1) := by decide +kernel
theorem dx_X10_again_15 : decode cX10_again 15 = .ok (.ifnull 15, 3) := by decide +kernel
theorem dx_X10_again_19 : decode cX10_again 19 = .ok (.getfield 67, 3) := by decide +kernel
theorem dx_X10_again_23 : decode cX10_again 23 = .ok (.aaload, 1) := by decide +kernel
theorem dx_X10_again_24 : decode cX10_again 24 = .ok (.getfield 485, 3) := by decide +kernel
theorem dx_X10_again_27 : decode cX10_again 27 = .ok (.ifCond .ne 5, 3) := by decide +kernel
theorem dx_X10_again_33 : decode cX10_again 33 = .ok (.getfield 67, 3) := by decide +kernel
theorem dx_X10_again_37 : decode cX10_again 37 = .ok (.aaload, 1) := by decide +kernel
theorem dx_X10_again_39 : decode cX10_again 39 = .ok (.getfield 26, 3) := by decide +kernel
theorem dx_X10_again_43 : decode cX10_again 43 = .ok (.getfield 33, 3) := by decide +kernel
theorem dx_X10_again_47 : decode cX10_again 47 = .ok (.getfield 47, 3) := by decide +kernel
theorem dx_X10_again_51 : decode cX10_again 51 = .ok (.getfield 78, 3) := by decide +kernel
theorem dx_X10_again_54 : decode cX10_again 54 = .ok (.invokevirtual 489, 3) := by decide +kernel
theorem dx_X10_again_58 : decode cX10_again 58 = .ok (.ireturn, 1) := by decide +kernel
abbrev bx_X10_again_0_1 : ZB := [(.iload_n 1, .null)]
theorem kx_X10_again_0_1 : zchk cX10_again bx_X10_again_0_1 0 = true ∧ zpc bx_X10_again_0_1 0 = 1 := ⟨by decide +kernel, rfl⟩
abbrev bx_X10_again_4_6 : ZB := [(.iload_n 1, .null), (.iconst 3, .int 3)]
theorem kx_X10_again_4_6 : zchk cX10_again bx_X10_again_4_6 4 = true ∧ zpc bx_X10_again_4_6 4 = 6 := ⟨by decide +kernel, rfl⟩
abbrev bx_X10_again_9_10 : ZB := [(.aload_n 0, .null)]
theorem kx_X10_again_9_10 : zchk cX10_again bx_X10_again_9_10 9 = true ∧ zpc bx_X10_again_9_10 9 = 10 := ⟨by decide +kernel, rfl⟩
abbrev bx_X10_again_13_14 : ZB := [(.iload_n 1, .null)]
theorem kx_X10_again_13_14 : zchk cX10_again bx_X10_again_13_14 13 = true ∧ zpc bx_X10_again_13_14 13 = 14 := ⟨by decide +kernel, rfl⟩
abbrev bx_X10_again_18_19 : ZB := [(.aload_n 0, .null)]
theorem kx_X10_again_18_19 : zchk cX10_again bx_X10_again_18_19 18 = true ∧ zpc bx_X10_again_18_19 18 = 19 := ⟨by decide +kernel, rfl⟩
abbrev bx_X10_again_22_23 : ZB := [(.iload_n 1, .null)]
theorem kx_X10_again_22_23 : zchk cX10_again bx_X10_again_22_23 22 = true ∧ zpc bx_X10_again_22_23 22 = 23 := ⟨by decide +kernel, rfl⟩
abbrev bx_X10_again_32_33 : ZB := [(.aload_n 0, .null)]
theorem kx_X10_again_32_33 : zchk cX10_again bx_X10_again_32_33 32 = true ∧ zpc bx_X10_again_32_33 32 = 33 := ⟨by decide +kernel, rfl⟩
abbrev bx_X10_again_36_37 : ZB := [(.iload_n 1, .null)]
theorem kx_X10_again_36_37 : zchk cX10_again bx_X10_again_36_37 36 = true ∧ zpc bx_X10_again_36_37 36 = 37 := ⟨by decide +kernel, rfl⟩
abbrev bx_X10_again_38_39 : ZB := [(.aload_n 0, .null)]
theorem kx_X10_again_38_39 : zchk cX10_again bx_X10_again_38_39 38 = true ∧ zpc bx_X10_again_38_39 38 = 39 := ⟨by decide +kernel, rfl⟩
abbrev bx_X10_again_42_43 : ZB := [(.aload_n 0, .null)]
theorem kx_X10_again_42_43 : zchk cX10_again bx_X10_again_42_43 42 = true ∧ zpc bx_X10_again_42_43 42 = 43 := ⟨by decide +kernel, rfl⟩
abbrev bx_X10_again_46_47 : ZB := [(.aload_n 0, .null)]
theorem kx_X10_again_46_47 : zchk cX10_again bx_X10_again_46_47 46 = true ∧ zpc bx_X10_again_46_47 46 = 47 := ⟨by decide +kernel, rfl⟩
abbrev bx_X10_again_50_51 : ZB := [(.aload_n 0, .null)]
theorem kx_X10_again_50_51 : zchk cX10_again bx_X10_again_50_51 50 = true ∧ zpc bx_X10_again_50_51 50 = 51 := ⟨by decide +kernel, rfl⟩
abbrev bx_X10_again_57_58 : ZB := [(.iconst 1, .int 1)]
theorem kx_X10_again_57_58 : zchk cX10_again bx_X10_again_57_58 57 = true ∧ zpc bx_X10_again_57_58 57 = 58 := ⟨by decide +kernel, rfl⟩
set_option maxHeartbeats 4000000 in
set_option maxRecDepth 100000 in
theorem cx_X10_again0 (l : Launch) (G : KG) (x : Nat) (x_told : Value) (x_reader : Value) (x_wheel : Value) (x_span : Value) (x_search : Value) (x_crosses : Value) (x_trueMasses : Value) (x_up : Value) (x_low : Value) (x_fits : Value) (x_pulls : Value) (ka3 : Nat) (fO : Nat → Option Nat) (kO : Nat) (kf : Int32) (kh : Nat) (kt : Nat) (kp : Int32) (ko : Int32) (kS : Nat) (kS0 : Value) (kS1 : Value) (kS2 : Value) (kA : Nat) (kX : Nat) (kY : Nat) (kT : Nat) (kc : Int32) (ksp : Nat) (kwh : Nat) (kfi : Nat) (kse : Nat) (kgi : Nat) (kle : Nat) (kT0 : Value) (kT1 : Value) (kT2 : Value) (ring : Nat) (g_hc : Value) (g_0 : Value) (g_1 : Value) (g_2 : Value) (g_3 : Value) (rh : Nat) (g_rd : Value) (ph : Int32) (po : Int32) (sS : Nat) (sS0 : Value) (sS1 : Value) (sS2 : Value) (sA : Nat) (sX : Nat) (sY : Nat) (sT : Nat) (sc : Int32) (ssp : Nat) (swh : Nat) (sfi : Nat) (sse : Nat) (sgi : Nat) (sle : Nat) (sT0 : Value) (sT1 : Value) (sT2 : Value) (th_ : Nat) (kfh : Nat → Int32) (kft : Nat → Int32) (kfA : Nat → Int32) (kfX : Nat → Int32) (kfY : Nat → Int32) (kfsp : Nat → Int32) (kfwh : Nat → Int32) (kffi : Nat → Int32) (kfse : Nat → Int32) (kfgi : Nat → Int32) (kfle : Nat → Int32) (rfh : Nat → Int32) (sfA : Nat → Int32) (sfX : Nat → Int32) (sfY : Nat → Int32) (sfsp : Nat → Int32) (sfwh : Nat → Int32) (sffi : Nat → Int32) (sfse : Nat → Int32) (sfgi : Nat → Int32) (sfle : Nat → Int32) (tft : Nat → Int32) (hO : va_rf (fO (0 : Int32).toNatClampNeg) = .ref kO) (hkf : kf.toInt ≠ 0) : Ct l G yX10_again cX10_again 2 (some .boolean) { frames := 3, cells := 0, slots := 0, locals := 68 } [.ref x, .int 0] [(x, ob 10 [x_told, x_reader, .ref ring, .ref sS, x_wheel, .ref sT, x_span, x_search, .ref ka3, x_crosses, x_trueMasses, .ref th_, x_up, x_low, x_fits, x_pulls]), (ka3, aO G 3 fO), (kO, ob 2 [.int kf, .ref kh, .ref kt, .ref kS, .ref kT, .int kp, .int ko]), (kh, aI G 16 kfh), (kt, aI G 8 kft), (kS, ob 7 [kS0, kS1, kS2, .ref kA, .ref kX, .ref kY]), (kA, aZ G 6 kfA), (kX, aI G 6 kfX), (kY, aI G 6 kfY), (kT, ob 9 [.int kc, .ref ksp, .ref kwh, .ref kfi, .ref kse, .ref kgi, .ref kle, kT0, kT1, kT2]), (ksp, aI G 12 kfsp), (kwh, aZ G 12 kfwh), (kfi, aI G 12 kffi), (kse, aI G 12 kfse), (kgi, aI G 12 kfgi), (kle, aI G 48 kfle), (ring, ob 5 [g_hc, g_0, g_1, g_2, g_3, .ref rh, g_rd, .int ph, .int po]), (rh, aI G 16 rfh), (sS, ob 7 [sS0, sS1, sS2, .ref sA, .ref sX, .ref sY]), (sA, aZ G 6 sfA), (sX, aI G 6 sfX), (sY, aI G 6 sfY), (sT, ob 9 [.int sc, .ref ssp, .ref swh, .ref sfi, .ref sse, .ref sgi, .ref sle, sT0, sT1, sT2]), (ssp, aI G 12 sfsp), (swh, aZ G 12 sfwh), (sfi, aI G 12 sffi), (sse, aI G 12 sfse), (sgi, aI G 12 sfgi), (sle, aI G 48 sfle), (th_, aI G 8 tft)] (fun r w1 => ∃ (rfh2 : Nat → Int32), ∃ (tft2 : Nat → Int32), ∃ (sfA2 : Nat → Int32), ∃ (sfX2 : Nat → Int32), ∃ (sfY2 : Nat → Int32), ∃ (sfsp2 : Nat → Int32), ∃ (sfwh2 : Nat → Int32), ∃ (sffi2 : Nat → Int32), ∃ (sfse2 : Nat → Int32), ∃ (sfgi2 : Nat → Int32), ∃ (sfle2 : Nat → Int32), (∀ j : Nat, j < 16 → rfh2 j = kfh j) ∧ (∀ j : Nat, j < 8 → tft2 j = kft j) ∧ (∀ j : Nat, j < 6 → sfX2 j = kfX j) ∧ (∀ j : Nat, j < 6 → sfY2 j = kfY j) ∧ (∀ j : Nat, j < 6 → sfA2 j = vp_nar .boolean (kfA j)) ∧ (∀ j : Nat, j < 12 → sfsp2 j = kfsp j) ∧ (∀ j : Nat, j < 12 → sfwh2 j = vp_nar .boolean (kfwh j)) ∧ (∀ j : Nat, j < 12 → sffi2 j = kffi j) ∧ (∀ j : Nat, j < 12 → sfse2 j = kfse j) ∧ (∀ j : Nat, j < 12 → sfgi2 j = kfgi j) ∧ (∀ j : Nat, j < 48 → sfle2 j = kfle j) ∧ r = some (.int 1) ∧ w1 = [(x, ob 10 [x_told, x_reader, .ref ring, .ref sS, x_wheel, .ref sT, x_span, x_search, .ref ka3, x_crosses, x_trueMasses, .ref th_, x_up, x_low, x_fits, x_pulls]), (ka3, aO G 3 fO), (kO, ob 2 [.int kf, .ref kh, .ref kt, .ref kS, .ref kT, .int kp, .int ko]), (kh, aI G 16 kfh), (kt, aI G 8 kft), (kS, ob 7 [kS0, kS1, kS2, .ref kA, .ref kX, .ref kY]), (kA, aZ G 6 kfA), (kX, aI G 6 kfX), (kY, aI G 6 kfY), (kT, ob 9 [.int kc, .ref ksp, .ref kwh, .ref kfi, .ref kse, .ref kgi, .ref kle, kT0, kT1, kT2]), (ksp, aI G 12 kfsp), (kwh, aZ G 12 kfwh), (kfi, aI G 12 kffi), (kse, aI G 12 kfse), (kgi, aI G 12 kfgi), (kle, aI G 48 kfle), (ring, ob 5 [g_hc, g_0, g_1, g_2, g_3, .ref rh, g_rd, .int kp, .int ko]), (rh, aI G 16 rfh2), (sS, ob 7 [sS0, sS1, sS2, .ref sA, .ref sX, .ref sY]), (sA, aZ G 6 sfA2), (sX, aI G 6 sfX2), (sY, aI G 6 sfY2), (sT, ob 9 [.int kc, .ref ssp, .ref swh, .ref sfi, .ref sse, .ref sgi, .ref sle, sT0, sT1, sT2]), (ssp, aI G 12 sfsp2), (swh, aZ G 12 sfwh2), (sfi, aI G 12 sffi2), (sse, aI G 12 sfse2), (sgi, aI G 12 sfgi2), (sle, aI G 48 sfle2), (th_, aI G 8 tft2)]) := by
  refine ct_of [(0, .ref x), (1, .int 0)] (by decide) (Nat.le_of_ble_eq_true rfl) rfl ?_
  intro p0 e0 s0 m0 args0 below0 meth0 c0 A X
  refine z_run X bx_X10_again_0_1 kx_X10_again_0_1 (lv' := [(0, .ref x), (1, .int 0)]) (st' := [.int 0]) rfl ?_
  refine zi_lt X dx_X10_again_1 (tgt := 30) (by decide) (a := 0) (show (0 : Int32).toInt = 0 from by decide) (fun c1_1 => absurd c1_1 (by decide)) (fun _ => ?_)
  refine z_run X bx_X10_again_4_6 kx_X10_again_4_6 (lv' := [(0, .ref x), (1, .int 0)]) (st' := [.int 3, .int 0]) rfl ?_
  refine zc_ge X dx_X10_again_6 (tgt := 30) (by decide) (a := 0) (b := 3) (show (0 : Int32).toInt = 0 from by decide) (show (3 : Int32).toInt = 3 from by decide) (fun c6_2 => absurd c6_2 (by decide)) (fun _ => ?_)
  refine z_run X bx_X10_again_9_10 kx_X10_again_9_10 (lv' := [(0, .ref x), (1, .int 0)]) (st' := [.ref x]) rfl ?_
  refine z_get X fl_10_67 dx_X10_again_10 0 rfl (v := .ref ka3) rfl ?_
  refine z_run X bx_X10_again_13_14 kx_X10_again_13_14 (lv' := [(0, .ref x), (1, .int 0)]) (st' := [.int 0, .ref ka3]) rfl ?_
  refine z_oald X dx_X10_again_14 1 rfl (show vp_in _ _ from by unfold vp_in; decide) (v := .ref kO) hO ?_
  refine z_ifnull X dx_X10_again_15 ?_
  refine z_run X bx_X10_again_18_19 kx_X10_again_18_19 (lv' := [(0, .ref x), (1, .int 0)]) (st' := [.ref x]) rfl ?_
  refine z_get X fl_10_67 dx_X10_again_19 0 rfl (v := .ref ka3) rfl ?_
  refine z_run X bx_X10_again_22_23 kx_X10_again_22_23 (lv' := [(0, .ref x), (1, .int 0)]) (st' := [.int 0, .ref ka3]) rfl ?_
  refine z_oald X dx_X10_again_23 1 rfl (show vp_in _ _ from by unfold vp_in; decide) (v := .ref kO) hO ?_
  refine z_getN X fl_10_485 dx_X10_again_24 2 rfl (v := .int kf) rfl ?_
  refine zi_ne X dx_X10_again_27 (tgt := 32) (by decide) (a := kf.toInt) rfl (fun c27_3 => ?_) (fun c27_3n => absurd c27_3n (by omega))
  refine z_run X bx_X10_again_32_33 kx_X10_again_32_33 (lv' := [(0, .ref x), (1, .int 0)]) (st' := [.ref x]) rfl ?_
  refine z_get X fl_10_67 dx_X10_again_33 0 rfl (v := .ref ka3) rfl ?_
  refine z_run X bx_X10_again_36_37 kx_X10_again_36_37 (lv' := [(0, .ref x), (1, .int 0)]) (st' := [.int 0, .ref ka3]) rfl ?_
  refine z_oald X dx_X10_again_37 1 rfl (show vp_in _ _ from by unfold vp_in; decide) (v := .ref kO) hO ?_
  refine z_run X bx_X10_again_38_39 kx_X10_again_38_39 (lv' := [(0, .ref x), (1, .int 0)]) (st' := [.ref x, .ref kO]) rfl ?_
  refine z_get X fl_10_26 dx_X10_again_39 0 rfl (v := .ref ring) rfl ?_
  refine z_run X bx_X10_again_42_43 kx_X10_again_42_43 (lv' := [(0, .ref x), (1, .int 0)]) (st' := [.ref x, .ref ring, .ref kO]) rfl ?_
  refine z_get X fl_10_33 dx_X10_again_43 0 rfl (v := .ref sS) rfl ?_
  refine z_run X bx_X10_again_46_47 kx_X10_again_46_47 (lv' := [(0, .ref x), (1, .int 0)]) (st' := [.ref x, .ref sS, .ref ring, .ref kO]) rfl ?_
  refine z_get X fl_10_47 dx_X10_again_47 0 rfl (v := .ref sT) rfl ?_
  refine z_run X bx_X10_again_50_51 kx_X10_again_50_51 (lv' := [(0, .ref x), (1, .int 0)]) (st' := [.ref x, .ref sT, .ref sS, .ref ring, .ref kO]) rfl ?_
  refine z_get X fl_10_78 dx_X10_again_51 0 rfl (v := .ref th_) rfl ?_
  refine z_callV X k_10_489 (cx_X2_bringBack l G kO kf kh kt kp ko kS kS0 kS1 kS2 kA kX kY kT kc ksp kwh kfi kse kgi kle kT0 kT1 kT2 ring g_hc g_0 g_1 g_2 g_3 rh g_rd ph po sS sS0 sS1 sS2 sA sX sY sT sc ssp swh sfi sse sgi sle sT0 sT1 sT2 th_ kfh kft kfA kfX kfY kfsp kfwh kffi kfse kfgi kfle rfh sfA sfX sfY sfsp sfwh sffi sfse sfgi sfle tft) dx_X10_again_54 2 rfl rfl rfl ⟨Nat.le_of_ble_eq_true rfl, Nat.le_of_ble_eq_true rfl⟩ ⟨Nat.le_of_ble_eq_true rfl, Nat.le_of_ble_eq_true rfl⟩ rfl (rest := []) (As := [.ref ring, .ref sS, .ref sT, .ref th_]) rfl (Nat.le_of_ble_eq_true rfl) [2, 3, 4, 5, 6, 7, 8, 9, 10, 11, 12, 13, 14, 15, 16, 17, 18, 19, 20, 21, 22, 23, 24, 25, 26, 27, 28, 29] [0, 1] rfl (by decide) (wr := [(x, ob 10 [x_told, x_reader, .ref ring, .ref sS, x_wheel, .ref sT, x_span, x_search, .ref ka3, x_crosses, x_trueMasses, .ref th_, x_up, x_low, x_fits, x_pulls]), (ka3, aO G 3 fO)]) rfl (by decide) (by decide) ?_
  rintro _ _ ⟨rfh2_4, tft2_5, sfA2_6, sfX2_7, sfY2_8, sfsp2_9, sfwh2_10, sffi2_11, sfse2_12, sfgi2_13, sfle2_14, f54_15, f54_16, f54_17, f54_18, f54_19, f54_20, f54_21, f54_22, f54_23, f54_24, f54_25, rfl, rfl⟩
  refine Z.at (pc' := 57) (st' := []) (ws' := [(x, ob 10 [x_told, x_reader, .ref ring, .ref sS, x_wheel, .ref sT, x_span, x_search, .ref ka3, x_crosses, x_trueMasses, .ref th_, x_up, x_low, x_fits, x_pulls]), (ka3, aO G 3 fO), (kO, ob 2 [.int kf, .ref kh, .ref kt, .ref kS, .ref kT, .int kp, .int ko]), (kh, aI G 16 kfh), (kt, aI G 8 kft), (kS, ob 7 [kS0, kS1, kS2, .ref kA, .ref kX, .ref kY]), (kA, aZ G 6 kfA), (kX, aI G 6 kfX), (kY, aI G 6 kfY), (kT, ob 9 [.int kc, .ref ksp, .ref kwh, .ref kfi, .ref kse, .ref kgi, .ref kle, kT0, kT1, kT2]), (ksp, aI G 12 kfsp), (kwh, aZ G 12 kfwh), (kfi, aI G 12 kffi), (kse, aI G 12 kfse), (kgi, aI G 12 kfgi), (kle, aI G 48 kfle), (ring, ob 5 [g_hc, g_0, g_1, g_2, g_3, .ref rh, g_rd, .int kp, .int ko]), (rh, aI G 16 rfh2_4), (sS, ob 7 [sS0, sS1, sS2, .ref sA, .ref sX, .ref sY]), (sA, aZ G 6 sfA2_6), (sX, aI G 6 sfX2_7), (sY, aI G 6 sfY2_8), (sT, ob 9 [.int kc, .ref ssp, .ref swh, .ref sfi, .ref sse, .ref sgi, .ref sle, sT0, sT1, sT2]), (ssp, aI G 12 sfsp2_9), (swh, aZ G 12 sfwh2_10), (sfi, aI G 12 sffi2_11), (sse, aI G 12 sfse2_12), (sgi, aI G 12 sfgi2_13), (sle, aI G 48 sfle2_14), (th_, aI G 8 tft2_5)]) (kc' := 0) (ks' := 0) rfl rfl rfl rfl rfl ?_
  refine z_run X bx_X10_again_57_58 kx_X10_again_57_58 (lv' := [(0, .ref x), (1, .int 0)]) (st' := [.int 1]) rfl ?_
  exact z_zret X rfl rfl dx_X10_again_58 (Nat.le_of_ble_eq_true rfl) (Nat.le_of_ble_eq_true rfl) ⟨rfh2_4, tft2_5, sfA2_6, sfX2_7, sfY2_8, sfsp2_9, sfwh2_10, sffi2_11, sfse2_12, sfgi2_13, sfle2_14, f54_15, f54_16, f54_17, f54_18, f54_19, f54_20, f54_21, f54_22, f54_23, f54_24, f54_25, rfl, rfl⟩

set_option maxHeartbeats 4000000 in
set_option maxRecDepth 100000 in
theorem cx_X10_again1 (l : Launch) (G : KG) (x : Nat) (x_told : Value) (x_reader : Value) (x_wheel : Value) (x_span : Value) (x_search : Value) (x_crosses : Value) (x_trueMasses : Value) (x_up : Value) (x_low : Value) (x_fits : Value) (x_pulls : Value) (ka3 : Nat) (fO : Nat → Option Nat) (kO : Nat) (kf : Int32) (kh : Nat) (kt : Nat) (kp : Int32) (ko : Int32) (kS : Nat) (kS0 : Value) (kS1 : Value) (kS2 : Value) (kA : Nat) (kX : Nat) (kY : Nat) (kT : Nat) (kc : Int32) (ksp : Nat) (kwh : Nat) (kfi : Nat) (kse : Nat) (kgi : Nat) (kle : Nat) (kT0 : Value) (kT1 : Value) (kT2 : Value) (ring : Nat) (g_hc : Value) (g_0 : Value) (g_1 : Value) (g_2 : Value) (g_3 : Value) (rh : Nat) (g_rd : Value) (ph : Int32) (po : Int32) (sS : Nat) (sS0 : Value) (sS1 : Value) (sS2 : Value) (sA : Nat) (sX : Nat) (sY : Nat) (sT : Nat) (sc : Int32) (ssp : Nat) (swh : Nat) (sfi : Nat) (sse : Nat) (sgi : Nat) (sle : Nat) (sT0 : Value) (sT1 : Value) (sT2 : Value) (th_ : Nat) (kfh : Nat → Int32) (kft : Nat → Int32) (kfA : Nat → Int32) (kfX : Nat → Int32) (kfY : Nat → Int32) (kfsp : Nat → Int32) (kfwh : Nat → Int32) (kffi : Nat → Int32) (kfse : Nat → Int32) (kfgi : Nat → Int32) (kfle : Nat → Int32) (rfh : Nat → Int32) (sfA : Nat → Int32) (sfX : Nat → Int32) (sfY : Nat → Int32) (sfsp : Nat → Int32) (sfwh : Nat → Int32) (sffi : Nat → Int32) (sfse : Nat → Int32) (sfgi : Nat → Int32) (sfle : Nat → Int32) (tft : Nat → Int32) (hO : va_rf (fO (1 : Int32).toNatClampNeg) = .ref kO) (hkf : kf.toInt ≠ 0) : Ct l G yX10_again cX10_again 2 (some .boolean) { frames := 3, cells := 0, slots := 0, locals := 68 } [.ref x, .int 1] [(x, ob 10 [x_told, x_reader, .ref ring, .ref sS, x_wheel, .ref sT, x_span, x_search, .ref ka3, x_crosses, x_trueMasses, .ref th_, x_up, x_low, x_fits, x_pulls]), (ka3, aO G 3 fO), (kO, ob 2 [.int kf, .ref kh, .ref kt, .ref kS, .ref kT, .int kp, .int ko]), (kh, aI G 16 kfh), (kt, aI G 8 kft), (kS, ob 7 [kS0, kS1, kS2, .ref kA, .ref kX, .ref kY]), (kA, aZ G 6 kfA), (kX, aI G 6 kfX), (kY, aI G 6 kfY), (kT, ob 9 [.int kc, .ref ksp, .ref kwh, .ref kfi, .ref kse, .ref kgi, .ref kle, kT0, kT1, kT2]), (ksp, aI G 12 kfsp), (kwh, aZ G 12 kfwh), (kfi, aI G 12 kffi), (kse, aI G 12 kfse), (kgi, aI G 12 kfgi), (kle, aI G 48 kfle), (ring, ob 5 [g_hc, g_0, g_1, g_2, g_3, .ref rh, g_rd, .int ph, .int po]), (rh, aI G 16 rfh), (sS, ob 7 [sS0, sS1, sS2, .ref sA, .ref sX, .ref sY]), (sA, aZ G 6 sfA), (sX, aI G 6 sfX), (sY, aI G 6 sfY), (sT, ob 9 [.int sc, .ref ssp, .ref swh, .ref sfi, .ref sse, .ref sgi, .ref sle, sT0, sT1, sT2]), (ssp, aI G 12 sfsp), (swh, aZ G 12 sfwh), (sfi, aI G 12 sffi), (sse, aI G 12 sfse), (sgi, aI G 12 sfgi), (sle, aI G 48 sfle), (th_, aI G 8 tft)] (fun r w1 => ∃ (rfh2 : Nat → Int32), ∃ (tft2 : Nat → Int32), ∃ (sfA2 : Nat → Int32), ∃ (sfX2 : Nat → Int32), ∃ (sfY2 : Nat → Int32), ∃ (sfsp2 : Nat → Int32), ∃ (sfwh2 : Nat → Int32), ∃ (sffi2 : Nat → Int32), ∃ (sfse2 : Nat → Int32), ∃ (sfgi2 : Nat → Int32), ∃ (sfle2 : Nat → Int32), (∀ j : Nat, j < 16 → rfh2 j = kfh j) ∧ (∀ j : Nat, j < 8 → tft2 j = kft j) ∧ (∀ j : Nat, j < 6 → sfX2 j = kfX j) ∧ (∀ j : Nat, j < 6 → sfY2 j = kfY j) ∧ (∀ j : Nat, j < 6 → sfA2 j = vp_nar .boolean (kfA j)) ∧ (∀ j : Nat, j < 12 → sfsp2 j = kfsp j) ∧ (∀ j : Nat, j < 12 → sfwh2 j = vp_nar .boolean (kfwh j)) ∧ (∀ j : Nat, j < 12 → sffi2 j = kffi j) ∧ (∀ j : Nat, j < 12 → sfse2 j = kfse j) ∧ (∀ j : Nat, j < 12 → sfgi2 j = kfgi j) ∧ (∀ j : Nat, j < 48 → sfle2 j = kfle j) ∧ r = some (.int 1) ∧ w1 = [(x, ob 10 [x_told, x_reader, .ref ring, .ref sS, x_wheel, .ref sT, x_span, x_search, .ref ka3, x_crosses, x_trueMasses, .ref th_, x_up, x_low, x_fits, x_pulls]), (ka3, aO G 3 fO), (kO, ob 2 [.int kf, .ref kh, .ref kt, .ref kS, .ref kT, .int kp, .int ko]), (kh, aI G 16 kfh), (kt, aI G 8 kft), (kS, ob 7 [kS0, kS1, kS2, .ref kA, .ref kX, .ref kY]), (kA, aZ G 6 kfA), (kX, aI G 6 kfX), (kY, aI G 6 kfY), (kT, ob 9 [.int kc, .ref ksp, .ref kwh, .ref kfi, .ref kse, .ref kgi, .ref kle, kT0, kT1, kT2]), (ksp, aI G 12 kfsp), (kwh, aZ G 12 kfwh), (kfi, aI G 12 kffi), (kse, aI G 12 kfse), (kgi, aI G 12 kfgi), (kle, aI G 48 kfle), (ring, ob 5 [g_hc, g_0, g_1, g_2, g_3, .ref rh, g_rd, .int kp, .int ko]), (rh, aI G 16 rfh2), (sS, ob 7 [sS0, sS1, sS2, .ref sA, .ref sX, .ref sY]), (sA, aZ G 6 sfA2), (sX, aI G 6 sfX2), (sY, aI G 6 sfY2), (sT, ob 9 [.int kc, .ref ssp, .ref swh, .ref sfi, .ref sse, .ref sgi, .ref sle, sT0, sT1, sT2]), (ssp, aI G 12 sfsp2), (swh, aZ G 12 sfwh2), (sfi, aI G 12 sffi2), (sse, aI G 12 sfse2), (sgi, aI G 12 sfgi2), (sle, aI G 48 sfle2), (th_, aI G 8 tft2)]) := by
  refine ct_of [(0, .ref x), (1, .int 1)] (by decide) (Nat.le_of_ble_eq_true rfl) rfl ?_
  intro p0 e0 s0 m0 args0 below0 meth0 c0 A X
  refine z_run X bx_X10_again_0_1 kx_X10_again_0_1 (lv' := [(0, .ref x), (1, .int 1)]) (st' := [.int 1]) rfl ?_
  refine zi_lt X dx_X10_again_1 (tgt := 30) (by decide) (a := 1) (show (1 : Int32).toInt = 1 from by decide) (fun c1_1 => absurd c1_1 (by decide)) (fun _ => ?_)
  refine z_run X bx_X10_again_4_6 kx_X10_again_4_6 (lv' := [(0, .ref x), (1, .int 1)]) (st' := [.int 3, .int 1]) rfl ?_
  refine zc_ge X dx_X10_again_6 (tgt := 30) (by decide) (a := 1) (b := 3) (show (1 : Int32).toInt = 1 from by decide) (show (3 : Int32).toInt = 3 from by decide) (fun c6_2 => absurd c6_2 (by decide)) (fun _ => ?_)
  refine z_run X bx_X10_again_9_10 kx_X10_again_9_10 (lv' := [(0, .ref x), (1, .int 1)]) (st' := [.ref x]) rfl ?_
  refine z_get X fl_10_67 dx_X10_again_10 0 rfl (v := .ref ka3) rfl ?_
  refine z_run X bx_X10_again_13_14 kx_X10_again_13_14 (lv' := [(0, .ref x), (1, .int 1)]) (st' := [.int 1, .ref ka3]) rfl ?_
  refine z_oald X dx_X10_again_14 1 rfl (show vp_in _ _ from by unfold vp_in; decide) (v := .ref kO) hO ?_
  refine z_ifnull X dx_X10_again_15 ?_
  refine z_run X bx_X10_again_18_19 kx_X10_again_18_19 (lv' := [(0, .ref x), (1, .int 1)]) (st' := [.ref x]) rfl ?_
  refine z_get X fl_10_67 dx_X10_again_19 0 rfl (v := .ref ka3) rfl ?_
  refine z_run X bx_X10_again_22_23 kx_X10_again_22_23 (lv' := [(0, .ref x), (1, .int 1)]) (st' := [.int 1, .ref ka3]) rfl ?_
  refine z_oald X dx_X10_again_23 1 rfl (show vp_in _ _ from by unfold vp_in; decide) (v := .ref kO) hO ?_
  refine z_getN X fl_10_485 dx_X10_again_24 2 rfl (v := .int kf) rfl ?_
  refine zi_ne X dx_X10_again_27 (tgt := 32) (by decide) (a := kf.toInt) rfl (fun c27_3 => ?_) (fun c27_3n => absurd c27_3n (by omega))
  refine z_run X bx_X10_again_32_33 kx_X10_again_32_33 (lv' := [(0, .ref x), (1, .int 1)]) (st' := [.ref x]) rfl ?_
  refine z_get X fl_10_67 dx_X10_again_33 0 rfl (v := .ref ka3) rfl ?_
  refine z_run X bx_X10_again_36_37 kx_X10_again_36_37 (lv' := [(0, .ref x), (1, .int 1)]) (st' := [.int 1, .ref ka3]) rfl ?_
  refine z_oald X dx_X10_again_37 1 rfl (show vp_in _ _ from by unfold vp_in; decide) (v := .ref kO) hO ?_
  refine z_run X bx_X10_again_38_39 kx_X10_again_38_39 (lv' := [(0, .ref x), (1, .int 1)]) (st' := [.ref x, .ref kO]) rfl ?_
  refine z_get X fl_10_26 dx_X10_again_39 0 rfl (v := .ref ring) rfl ?_
  refine z_run X bx_X10_again_42_43 kx_X10_again_42_43 (lv' := [(0, .ref x), (1, .int 1)]) (st' := [.ref x, .ref ring, .ref kO]) rfl ?_
  refine z_get X fl_10_33 dx_X10_again_43 0 rfl (v := .ref sS) rfl ?_
  refine z_run X bx_X10_again_46_47 kx_X10_again_46_47 (lv' := [(0, .ref x), (1, .int 1)]) (st' := [.ref x, .ref sS, .ref ring, .ref kO]) rfl ?_
  refine z_get X fl_10_47 dx_X10_again_47 0 rfl (v := .ref sT) rfl ?_
  refine z_run X bx_X10_again_50_51 kx_X10_again_50_51 (lv' := [(0, .ref x), (1, .int 1)]) (st' := [.ref x, .ref sT, .ref sS, .ref ring, .ref kO]) rfl ?_
  refine z_get X fl_10_78 dx_X10_again_51 0 rfl (v := .ref th_) rfl ?_
  refine z_callV X k_10_489 (cx_X2_bringBack l G kO kf kh kt kp ko kS kS0 kS1 kS2 kA kX kY kT kc ksp kwh kfi kse kgi kle kT0 kT1 kT2 ring g_hc g_0 g_1 g_2 g_3 rh g_rd ph po sS sS0 sS1 sS2 sA sX sY sT sc ssp swh sfi sse sgi sle sT0 sT1 sT2 th_ kfh kft kfA kfX kfY kfsp kfwh kffi kfse kfgi kfle rfh sfA sfX sfY sfsp sfwh sffi sfse sfgi sfle tft) dx_X10_again_54 2 rfl rfl rfl ⟨Nat.le_of_ble_eq_true rfl, Nat.le_of_ble_eq_true rfl⟩ ⟨Nat.le_of_ble_eq_true rfl, Nat.le_of_ble_eq_true rfl⟩ rfl (rest := []) (As := [.ref ring, .ref sS, .ref sT, .ref th_]) rfl (Nat.le_of_ble_eq_true rfl) [2, 3, 4, 5, 6, 7, 8, 9, 10, 11, 12, 13, 14, 15, 16, 17, 18, 19, 20, 21, 22, 23, 24, 25, 26, 27, 28, 29] [0, 1] rfl (by decide) (wr := [(x, ob 10 [x_told, x_reader, .ref ring, .ref sS, x_wheel, .ref sT, x_span, x_search, .ref ka3, x_crosses, x_trueMasses, .ref th_, x_up, x_low, x_fits, x_pulls]), (ka3, aO G 3 fO)]) rfl (by decide) (by decide) ?_
  rintro _ _ ⟨rfh2_4, tft2_5, sfA2_6, sfX2_7, sfY2_8, sfsp2_9, sfwh2_10, sffi2_11, sfse2_12, sfgi2_13, sfle2_14, f54_15, f54_16, f54_17, f54_18, f54_19, f54_20, f54_21, f54_22, f54_23, f54_24, f54_25, rfl, rfl⟩
  refine Z.at (pc' := 57) (st' := []) (ws' := [(x, ob 10 [x_told, x_reader, .ref ring, .ref sS, x_wheel, .ref sT, x_span, x_search, .ref ka3, x_crosses, x_trueMasses, .ref th_, x_up, x_low, x_fits, x_pulls]), (ka3, aO G 3 fO), (kO, ob 2 [.int kf, .ref kh, .ref kt, .ref kS, .ref kT, .int kp, .int ko]), (kh, aI G 16 kfh), (kt, aI G 8 kft), (kS, ob 7 [kS0, kS1, kS2, .ref kA, .ref kX, .ref kY]), (kA, aZ G 6 kfA), (kX, aI G 6 kfX), (kY, aI G 6 kfY), (kT, ob 9 [.int kc, .ref ksp, .ref kwh, .ref kfi, .ref kse, .ref kgi, .ref kle, kT0, kT1, kT2]), (ksp, aI G 12 kfsp), (kwh, aZ G 12 kfwh), (kfi, aI G 12 kffi), (kse, aI G 12 kfse), (kgi, aI G 12 kfgi), (kle, aI G 48 kfle), (ring, ob 5 [g_hc, g_0, g_1, g_2, g_3, .ref rh, g_rd, .int kp, .int ko]), (rh, aI G 16 rfh2_4), (sS, ob 7 [sS0, sS1, sS2, .ref sA, .ref sX, .ref sY]), (sA, aZ G 6 sfA2_6), (sX, aI G 6 sfX2_7), (sY, aI G 6 sfY2_8), (sT, ob 9 [.int kc, .ref ssp, .ref swh, .ref sfi, .ref sse, .ref sgi, .ref sle, sT0, sT1, sT2]), (ssp, aI G 12 sfsp2_9), (swh, aZ G 12 sfwh2_10), (sfi, aI G 12 sffi2_11), (sse, aI G 12 sfse2_12), (sgi, aI G 12 sfgi2_13), (sle, aI G 48 sfle2_14), (th_, aI G 8 tft2_5)]) (kc' := 0) (ks' := 0) rfl rfl rfl rfl rfl ?_
  refine z_run X bx_X10_again_57_58 kx_X10_again_57_58 (lv' := [(0, .ref x), (1, .int 1)]) (st' := [.int 1]) rfl ?_
  exact z_zret X rfl rfl dx_X10_again_58 (Nat.le_of_ble_eq_true rfl) (Nat.le_of_ble_eq_true rfl) ⟨rfh2_4, tft2_5, sfA2_6, sfX2_7, sfY2_8, sfsp2_9, sfwh2_10, sffi2_11, sfse2_12, sfgi2_13, sfle2_14, f54_15, f54_16, f54_17, f54_18, f54_19, f54_20, f54_21, f54_22, f54_23, f54_24, f54_25, rfl, rfl⟩

set_option maxHeartbeats 4000000 in
set_option maxRecDepth 100000 in
theorem cx_X10_again2 (l : Launch) (G : KG) (x : Nat) (x_told : Value) (x_reader : Value) (x_wheel : Value) (x_span : Value) (x_search : Value) (x_crosses : Value) (x_trueMasses : Value) (x_up : Value) (x_low : Value) (x_fits : Value) (x_pulls : Value) (ka3 : Nat) (fO : Nat → Option Nat) (kO : Nat) (kf : Int32) (kh : Nat) (kt : Nat) (kp : Int32) (ko : Int32) (kS : Nat) (kS0 : Value) (kS1 : Value) (kS2 : Value) (kA : Nat) (kX : Nat) (kY : Nat) (kT : Nat) (kc : Int32) (ksp : Nat) (kwh : Nat) (kfi : Nat) (kse : Nat) (kgi : Nat) (kle : Nat) (kT0 : Value) (kT1 : Value) (kT2 : Value) (ring : Nat) (g_hc : Value) (g_0 : Value) (g_1 : Value) (g_2 : Value) (g_3 : Value) (rh : Nat) (g_rd : Value) (ph : Int32) (po : Int32) (sS : Nat) (sS0 : Value) (sS1 : Value) (sS2 : Value) (sA : Nat) (sX : Nat) (sY : Nat) (sT : Nat) (sc : Int32) (ssp : Nat) (swh : Nat) (sfi : Nat) (sse : Nat) (sgi : Nat) (sle : Nat) (sT0 : Value) (sT1 : Value) (sT2 : Value) (th_ : Nat) (kfh : Nat → Int32) (kft : Nat → Int32) (kfA : Nat → Int32) (kfX : Nat → Int32) (kfY : Nat → Int32) (kfsp : Nat → Int32) (kfwh : Nat → Int32) (kffi : Nat → Int32) (kfse : Nat → Int32) (kfgi : Nat → Int32) (kfle : Nat → Int32) (rfh : Nat → Int32) (sfA : Nat → Int32) (sfX : Nat → Int32) (sfY : Nat → Int32) (sfsp : Nat → Int32) (sfwh : Nat → Int32) (sffi : Nat → Int32) (sfse : Nat → Int32) (sfgi : Nat → Int32) (sfle : Nat → Int32) (tft : Nat → Int32) (hO : va_rf (fO (2 : Int32).toNatClampNeg) = .ref kO) (hkf : kf.toInt ≠ 0) : Ct l G yX10_again cX10_again 2 (some .boolean) { frames := 3, cells := 0, slots := 0, locals := 68 } [.ref x, .int 2] [(x, ob 10 [x_told, x_reader, .ref ring, .ref sS, x_wheel, .ref sT, x_span, x_search, .ref ka3, x_crosses, x_trueMasses, .ref th_, x_up, x_low, x_fits, x_pulls]), (ka3, aO G 3 fO), (kO, ob 2 [.int kf, .ref kh, .ref kt, .ref kS, .ref kT, .int kp, .int ko]), (kh, aI G 16 kfh), (kt, aI G 8 kft), (kS, ob 7 [kS0, kS1, kS2, .ref kA, .ref kX, .ref kY]), (kA, aZ G 6 kfA), (kX, aI G 6 kfX), (kY, aI G 6 kfY), (kT, ob 9 [.int kc, .ref ksp, .ref kwh, .ref kfi, .ref kse, .ref kgi, .ref kle, kT0, kT1, kT2]), (ksp, aI G 12 kfsp), (kwh, aZ G 12 kfwh), (kfi, aI G 12 kffi), (kse, aI G 12 kfse), (kgi, aI G 12 kfgi), (kle, aI G 48 kfle), (ring, ob 5 [g_hc, g_0, g_1, g_2, g_3, .ref rh, g_rd, .int ph, .int po]), (rh, aI G 16 rfh), (sS, ob 7 [sS0, sS1, sS2, .ref sA, .ref sX, .ref sY]), (sA, aZ G 6 sfA), (sX, aI G 6 sfX), (sY, aI G 6 sfY), (sT, ob 9 [.int sc, .ref ssp, .ref swh, .ref sfi, .ref sse, .ref sgi, .ref sle, sT0, sT1, sT2]), (ssp, aI G 12 sfsp), (swh, aZ G 12 sfwh), (sfi, aI G 12 sffi), (sse, aI G 12 sfse), (sgi, aI G 12 sfgi), (sle, aI G 48 sfle), (th_, aI G 8 tft)] (fun r w1 => ∃ (rfh2 : Nat → Int32), ∃ (tft2 : Nat → Int32), ∃ (sfA2 : Nat → Int32), ∃ (sfX2 : Nat → Int32), ∃ (sfY2 : Nat → Int32), ∃ (sfsp2 : Nat → Int32), ∃ (sfwh2 : Nat → Int32), ∃ (sffi2 : Nat → Int32), ∃ (sfse2 : Nat → Int32), ∃ (sfgi2 : Nat → Int32), ∃ (sfle2 : Nat → Int32), (∀ j : Nat, j < 16 → rfh2 j = kfh j) ∧ (∀ j : Nat, j < 8 → tft2 j = kft j) ∧ (∀ j : Nat, j < 6 → sfX2 j = kfX j) ∧ (∀ j : Nat, j < 6 → sfY2 j = kfY j) ∧ (∀ j : Nat, j < 6 → sfA2 j = vp_nar .boolean (kfA j)) ∧ (∀ j : Nat, j < 12 → sfsp2 j = kfsp j) ∧ (∀ j : Nat, j < 12 → sfwh2 j = vp_nar .boolean (kfwh j)) ∧ (∀ j : Nat, j < 12 → sffi2 j = kffi j) ∧ (∀ j : Nat, j < 12 → sfse2 j = kfse j) ∧ (∀ j : Nat, j < 12 → sfgi2 j = kfgi j) ∧ (∀ j : Nat, j < 48 → sfle2 j = kfle j) ∧ r = some (.int 1) ∧ w1 = [(x, ob 10 [x_told, x_reader, .ref ring, .ref sS, x_wheel, .ref sT, x_span, x_search, .ref ka3, x_crosses, x_trueMasses, .ref th_, x_up, x_low, x_fits, x_pulls]), (ka3, aO G 3 fO), (kO, ob 2 [.int kf, .ref kh, .ref kt, .ref kS, .ref kT, .int kp, .int ko]), (kh, aI G 16 kfh), (kt, aI G 8 kft), (kS, ob 7 [kS0, kS1, kS2, .ref kA, .ref kX, .ref kY]), (kA, aZ G 6 kfA), (kX, aI G 6 kfX), (kY, aI G 6 kfY), (kT, ob 9 [.int kc, .ref ksp, .ref kwh, .ref kfi, .ref kse, .ref kgi, .ref kle, kT0, kT1, kT2]), (ksp, aI G 12 kfsp), (kwh, aZ G 12 kfwh), (kfi, aI G 12 kffi), (kse, aI G 12 kfse), (kgi, aI G 12 kfgi), (kle, aI G 48 kfle), (ring, ob 5 [g_hc, g_0, g_1, g_2, g_3, .ref rh, g_rd, .int kp, .int ko]), (rh, aI G 16 rfh2), (sS, ob 7 [sS0, sS1, sS2, .ref sA, .ref sX, .ref sY]), (sA, aZ G 6 sfA2), (sX, aI G 6 sfX2), (sY, aI G 6 sfY2), (sT, ob 9 [.int kc, .ref ssp, .ref swh, .ref sfi, .ref sse, .ref sgi, .ref sle, sT0, sT1, sT2]), (ssp, aI G 12 sfsp2), (swh, aZ G 12 sfwh2), (sfi, aI G 12 sffi2), (sse, aI G 12 sfse2), (sgi, aI G 12 sfgi2), (sle, aI G 48 sfle2), (th_, aI G 8 tft2)]) := by
  refine ct_of [(0, .ref x), (1, .int 2)] (by decide) (Nat.le_of_ble_eq_true rfl) rfl ?_
  intro p0 e0 s0 m0 args0 below0 meth0 c0 A X
  refine z_run X bx_X10_again_0_1 kx_X10_again_0_1 (lv' := [(0, .ref x), (1, .int 2)]) (st' := [.int 2]) rfl ?_
  refine zi_lt X dx_X10_again_1 (tgt := 30) (by decide) (a := 2) (show (2 : Int32).toInt = 2 from by decide) (fun c1_1 => absurd c1_1 (by decide)) (fun _ => ?_)
  refine z_run X bx_X10_again_4_6 kx_X10_again_4_6 (lv' := [(0, .ref x), (1, .int 2)]) (st' := [.int 3, .int 2]) rfl ?_
  refine zc_ge X dx_X10_again_6 (tgt := 30) (by decide) (a := 2) (b := 3) (show (2 : Int32).toInt = 2 from by decide) (show (3 : Int32).toInt = 3 from by decide) (fun c6_2 => absurd c6_2 (by decide)) (fun _ => ?_)
  refine z_run X bx_X10_again_9_10 kx_X10_again_9_10 (lv' := [(0, .ref x), (1, .int 2)]) (st' := [.ref x]) rfl ?_
  refine z_get X fl_10_67 dx_X10_again_10 0 rfl (v := .ref ka3) rfl ?_
  refine z_run X bx_X10_again_13_14 kx_X10_again_13_14 (lv' := [(0, .ref x), (1, .int 2)]) (st' := [.int 2, .ref ka3]) rfl ?_
  refine z_oald X dx_X10_again_14 1 rfl (show vp_in _ _ from by unfold vp_in; decide) (v := .ref kO) hO ?_
  refine z_ifnull X dx_X10_again_15 ?_
  refine z_run X bx_X10_again_18_19 kx_X10_again_18_19 (lv' := [(0, .ref x), (1, .int 2)]) (st' := [.ref x]) rfl ?_
  refine z_get X fl_10_67 dx_X10_again_19 0 rfl (v := .ref ka3) rfl ?_
  refine z_run X bx_X10_again_22_23 kx_X10_again_22_23 (lv' := [(0, .ref x), (1, .int 2)]) (st' := [.int 2, .ref ka3]) rfl ?_
  refine z_oald X dx_X10_again_23 1 rfl (show vp_in _ _ from by unfold vp_in; decide) (v := .ref kO) hO ?_
  refine z_getN X fl_10_485 dx_X10_again_24 2 rfl (v := .int kf) rfl ?_
  refine zi_ne X dx_X10_again_27 (tgt := 32) (by decide) (a := kf.toInt) rfl (fun c27_3 => ?_) (fun c27_3n => absurd c27_3n (by omega))
  refine z_run X bx_X10_again_32_33 kx_X10_again_32_33 (lv' := [(0, .ref x), (1, .int 2)]) (st' := [.ref x]) rfl ?_
  refine z_get X fl_10_67 dx_X10_again_33 0 rfl (v := .ref ka3) rfl ?_
  refine z_run X bx_X10_again_36_37 kx_X10_again_36_37 (lv' := [(0, .ref x), (1, .int 2)]) (st' := [.int 2, .ref ka3]) rfl ?_
  refine z_oald X dx_X10_again_37 1 rfl (show vp_in _ _ from by unfold vp_in; decide) (v := .ref kO) hO ?_
  refine z_run X bx_X10_again_38_39 kx_X10_again_38_39 (lv' := [(0, .ref x), (1, .int 2)]) (st' := [.ref x, .ref kO]) rfl ?_
  refine z_get X fl_10_26 dx_X10_again_39 0 rfl (v := .ref ring) rfl ?_
  refine z_run X bx_X10_again_42_43 kx_X10_again_42_43 (lv' := [(0, .ref x), (1, .int 2)]) (st' := [.ref x, .ref ring, .ref kO]) rfl ?_
  refine z_get X fl_10_33 dx_X10_again_43 0 rfl (v := .ref sS) rfl ?_
  refine z_run X bx_X10_again_46_47 kx_X10_again_46_47 (lv' := [(0, .ref x), (1, .int 2)]) (st' := [.ref x, .ref sS, .ref ring, .ref kO]) rfl ?_
  refine z_get X fl_10_47 dx_X10_again_47 0 rfl (v := .ref sT) rfl ?_
  refine z_run X bx_X10_again_50_51 kx_X10_again_50_51 (lv' := [(0, .ref x), (1, .int 2)]) (st' := [.ref x, .ref sT, .ref sS, .ref ring, .ref kO]) rfl ?_
  refine z_get X fl_10_78 dx_X10_again_51 0 rfl (v := .ref th_) rfl ?_
  refine z_callV X k_10_489 (cx_X2_bringBack l G kO kf kh kt kp ko kS kS0 kS1 kS2 kA kX kY kT kc ksp kwh kfi kse kgi kle kT0 kT1 kT2 ring g_hc g_0 g_1 g_2 g_3 rh g_rd ph po sS sS0 sS1 sS2 sA sX sY sT sc ssp swh sfi sse sgi sle sT0 sT1 sT2 th_ kfh kft kfA kfX kfY kfsp kfwh kffi kfse kfgi kfle rfh sfA sfX sfY sfsp sfwh sffi sfse sfgi sfle tft) dx_X10_again_54 2 rfl rfl rfl ⟨Nat.le_of_ble_eq_true rfl, Nat.le_of_ble_eq_true rfl⟩ ⟨Nat.le_of_ble_eq_true rfl, Nat.le_of_ble_eq_true rfl⟩ rfl (rest := []) (As := [.ref ring, .ref sS, .ref sT, .ref th_]) rfl (Nat.le_of_ble_eq_true rfl) [2, 3, 4, 5, 6, 7, 8, 9, 10, 11, 12, 13, 14, 15, 16, 17, 18, 19, 20, 21, 22, 23, 24, 25, 26, 27, 28, 29] [0, 1] rfl (by decide) (wr := [(x, ob 10 [x_told, x_reader, .ref ring, .ref sS, x_wheel, .ref sT, x_span, x_search, .ref ka3, x_crosses, x_trueMasses, .ref th_, x_up, x_low, x_fits, x_pulls]), (ka3, aO G 3 fO)]) rfl (by decide) (by decide) ?_
  rintro _ _ ⟨rfh2_4, tft2_5, sfA2_6, sfX2_7, sfY2_8, sfsp2_9, sfwh2_10, sffi2_11, sfse2_12, sfgi2_13, sfle2_14, f54_15, f54_16, f54_17, f54_18, f54_19, f54_20, f54_21, f54_22, f54_23, f54_24, f54_25, rfl, rfl⟩
  refine Z.at (pc' := 57) (st' := []) (ws' := [(x, ob 10 [x_told, x_reader, .ref ring, .ref sS, x_wheel, .ref sT, x_span, x_search, .ref ka3, x_crosses, x_trueMasses, .ref th_, x_up, x_low, x_fits, x_pulls]), (ka3, aO G 3 fO), (kO, ob 2 [.int kf, .ref kh, .ref kt, .ref kS, .ref kT, .int kp, .int ko]), (kh, aI G 16 kfh), (kt, aI G 8 kft), (kS, ob 7 [kS0, kS1, kS2, .ref kA, .ref kX, .ref kY]), (kA, aZ G 6 kfA), (kX, aI G 6 kfX), (kY, aI G 6 kfY), (kT, ob 9 [.int kc, .ref ksp, .ref kwh, .ref kfi, .ref kse, .ref kgi, .ref kle, kT0, kT1, kT2]), (ksp, aI G 12 kfsp), (kwh, aZ G 12 kfwh), (kfi, aI G 12 kffi), (kse, aI G 12 kfse), (kgi, aI G 12 kfgi), (kle, aI G 48 kfle), (ring, ob 5 [g_hc, g_0, g_1, g_2, g_3, .ref rh, g_rd, .int kp, .int ko]), (rh, aI G 16 rfh2_4), (sS, ob 7 [sS0, sS1, sS2, .ref sA, .ref sX, .ref sY]), (sA, aZ G 6 sfA2_6), (sX, aI G 6 sfX2_7), (sY, aI G 6 sfY2_8), (sT, ob 9 [.int kc, .ref ssp, .ref swh, .ref sfi, .ref sse, .ref sgi, .ref sle, sT0, sT1, sT2]), (ssp, aI G 12 sfsp2_9), (swh, aZ G 12 sfwh2_10), (sfi, aI G 12 sffi2_11), (sse, aI G 12 sfse2_12), (sgi, aI G 12 sfgi2_13), (sle, aI G 48 sfle2_14), (th_, aI G 8 tft2_5)]) (kc' := 0) (ks' := 0) rfl rfl rfl rfl rfl ?_
  refine z_run X bx_X10_again_57_58 kx_X10_again_57_58 (lv' := [(0, .ref x), (1, .int 2)]) (st' := [.int 1]) rfl ?_
  exact z_zret X rfl rfl dx_X10_again_58 (Nat.le_of_ble_eq_true rfl) (Nat.le_of_ble_eq_true rfl) ⟨rfh2_4, tft2_5, sfA2_6, sfX2_7, sfY2_8, sfsp2_9, sfwh2_10, sffi2_11, sfse2_12, sfgi2_13, sfle2_14, f54_15, f54_16, f54_17, f54_18, f54_19, f54_20, f54_21, f54_22, f54_23, f54_24, f54_25, rfl, rfl⟩
end
section
/-! groups of the relation: x, y, HAS, THOUGHT, what is kept of them, bounds -/
def BE (G : KG) (w : va_W) (k n : Nat) (lo hi H : Int) : Prop := ∃ q : Nat → Int32, cget w k 0 = some (.inr (cyI G, n, .inl q)) ∧ ∀ j : Nat, j < n → (j : Int) < H → lo ≤ (q j).toInt ∧ (q j).toInt ≤ hi
theorem BE.keep {G : KG} {wx wx' : va_W} {m : List (Nat × Nat)} {k n : Nat} {lo hi H : Int} (h : BE G wx k n lo hi H) (h1 : FX m 109 wx wx') (hk : k < 109) (hm : mkq m k 0 = false) : BE G wx' k n lo hi H := by
  obtain ⟨q, a, b⟩ := h
  exact ⟨q, (h1 k 0 hk hm).trans a, b⟩
theorem AFc.bnd {G : KG} {w1 : va_W} {k n : Nat} {val : Int32 → Int32} {g0 a : Nat → Int32} {c H lo hi : Int} (A : AFc G w1 k n val g0 c H a) (B0 : ∀ j : Nat, j < n → (j : Int) < c → lo ≤ (g0 j).toInt ∧ (g0 j).toInt ≤ hi) (B1 : ∀ j : Nat, c ≤ (j : Int) → (j : Int) < H → lo ≤ (val (a j)).toInt ∧ (val (a j)).toInt ≤ hi) : BE G w1 k n lo hi H := by
  obtain ⟨q, q1, q2⟩ := A
  refine ⟨q, q1, fun j hj hH => ?_⟩
  by_cases hc : (j : Int) < c
  · rw [(q2 j hj).1 hc]
    exact B0 j hj hc
  · rw [(q2 j hj).2 (by omega) hH]
    exact B1 j (by omega) hH
/-- what mill leaves of x, y -/
def MilX (G : KG) (kh jh kx ky : Nat) (f : Nat → Int32) (L h s c : Int32) (x0 y0 : Nat → Int32) (w1 : va_W) : Prop :=
  ∃ h2 : Int32, fget w1 kh jh = some (.int h2) ∧ AFc G w1 kx 16 (fun p => (hC f L p).2.2) x0 h.toInt h2.toInt (run0 f L h.toInt s.toInt c.toInt).2.2.2.2.2.2.1 ∧ AFc G w1 ky 16 (fun p => (hE f L p).2.2) y0 h.toInt h2.toInt (run0 f L h.toInt s.toInt c.toInt).2.2.2.2.2.2.1
theorem MilX.app {G : KG} {kh jh kx ky : Nat} {f : Nat → Int32} {L h s c : Int32} {x0 y0 : Nat → Int32} {w1 wc : va_W} (hk : kh < w1.length ∧ kx < w1.length ∧ ky < w1.length) (A : MilX G kh jh kx ky f L h s c x0 y0 w1) : MilX G kh jh kx ky f L h s c x0 y0 (w1 ++ wc) := by
  obtain ⟨h2, e1, a1, a2⟩ := A
  exact ⟨h2, by rw [fget_app hk.1]; exact e1, a1.app hk.2.1, a2.app hk.2.2⟩
def RelXY (G : KG) (wx wm : va_W) : Prop := ∃ h : Int32, fget wx 5 0 = some (.int h) ∧ AE G wx wm 7 3 16 h.toInt ∧ AE G wx wm 8 4 16 h.toInt
def RelB (G : KG) (wx _wm : va_W) : Prop := ∃ h s c : Int32, (fget wx 5 0 = some (.int h) ∧ fget wx 12 0 = some (.int s) ∧ fget wx 18 0 = some (.int c)) ∧ BE G wx 7 16 (-99) 99 h.toInt ∧ BE G wx 8 16 (-99) 99 h.toInt ∧ BE G wx 13 6 1 9 s.toInt ∧ BE G wx 14 6 0 9 s.toInt ∧ BE G wx 19 8 0 99 c.toInt
/-- HAS is alike, nothing beyond the holes; no more than ROOM -/
def RelH (G : KG) (wx wm : va_W) : Prop := ∃ (h : Int32) (q g r : Nat → Int32), fget wx 5 0 = some (.int h) ∧ cget wx 10 0 = some (.inr (cyI G, 16, .inl q)) ∧ cget wm 6 0 = some (.inr (cyI G, 16, .inl g)) ∧ cget wx 9 0 = some (.inr (cyI G, 16, .inl r)) ∧ (∀ j : Nat, j < 16 → (j : Int) < h.toInt → q j = g j) ∧ (∀ j : Nat, j < 16 → h.toInt ≤ (j : Int) → q j = 0) ∧ ∀ j : Nat, j < 16 → (q j).toInt ≤ (r j).toInt
abbrev pr4 (t X Y : Nat → Int32) : Prop := ∀ j : Nat, j < 4 → t (2 * j) = X j ∧ t (2 * j + 1) = Y j
abbrev b8 (t : Nat → Int32) : Prop := ∀ j : Nat, j < 8 → -9999 ≤ (t j).toInt ∧ (t j).toInt ≤ 9999
def RelTh (G : KG) (wx wm : va_W) : Prop := ∃ t X Y : Nat → Int32, cget wx 105 0 = some (.inr (cyI G, 8, .inl t)) ∧ cget wm 18 0 = some (.inr (cyI G, 4, .inl X)) ∧ cget wm 19 0 = some (.inr (cyI G, 4, .inl Y)) ∧ pr4 t X Y ∧ b8 t
/-- what is kept under a number -/
def RKh (G : KG) (h : Int) (r kk b : Nat → Int32) (wx : va_W) (i : Nat) : Prop := ∃ (fl : Int32) (q t : Nat → Int32), fget wx (46 + 19 * i) 0 = some (.int fl) ∧ cget wx (47 + 19 * i) 0 = some (.inr (cyI G, 16, .inl q)) ∧ cget wx (48 + 19 * i) 0 = some (.inr (cyI G, 8, .inl t)) ∧ b i = fl ∧ (0 ≤ fl.toInt ∧ fl.toInt ≤ 1) ∧ (fl.toInt ≠ 0 → (∀ j : Nat, j < 16 → q j = kk (154 * i + 2 + j)) ∧ ∀ j : Nat, j < 4 → t (2 * j) = kk (154 * i + 18 + 2 * j) ∧ t (2 * j + 1) = kk (154 * i + 19 + 2 * j)) ∧ (∀ j : Nat, j < 16 → h ≤ (j : Int) → q j = 0) ∧ (∀ j : Nat, j < 16 → (q j).toInt ≤ (r j).toInt) ∧ b8 t
def RelKh (G : KG) (wx wm : va_W) : Prop := ∃ (h : Int32) (r b kk : Nat → Int32), fget wx 5 0 = some (.int h) ∧ cget wx 9 0 = some (.inr (cyI G, 16, .inl r)) ∧ cget wm 45 0 = some (.inr (cyZ G, 3, .inl b)) ∧ cget wm 46 0 = some (.inr (cyI G, 462, .inl kk)) ∧ ∀ i : Nat, i < 3 → RKh G h.toInt r kk b wx i
section GR3
variable {G : KG} {wx wm wx' wm' : va_W} {m m' : List (Nat × Nat)}
theorem RelXY.keep (h : RelXY G wx wm) (h1 : FX m 109 wx wx') (h2 : FX m' 47 wm wm') (hm : mkq m 5 0 = false ∧ (mkq m 7 0 = false ∧ mkq m' 3 0 = false) ∧ (mkq m 8 0 = false ∧ mkq m' 4 0 = false)) : RelXY G wx' wm' := by
  obtain ⟨a, e1, a1, a2⟩ := h
  exact ⟨a, h1.get (by decide) hm.1 e1, a1.keep h1 h2 (by decide) hm.2.1, a2.keep h1 h2 (by decide) hm.2.2⟩
theorem RelB.keep (h : RelB G wx wm) (h1 : FX m 109 wx wx') (_h2 : FX m' 47 wm wm') (hm : (mkq m 5 0 = false ∧ mkq m 12 0 = false ∧ mkq m 18 0 = false) ∧ mkq m 7 0 = false ∧ mkq m 8 0 = false ∧ mkq m 13 0 = false ∧ mkq m 14 0 = false ∧ mkq m 19 0 = false) : RelB G wx' wm' := by
  obtain ⟨a, s, c, ⟨e1, e2, e3⟩, a1, a2, a3, a4, a5⟩ := h
  obtain ⟨⟨m1, m2, m3⟩, m4, m5, m6, m7, m8⟩ := hm
  exact ⟨a, s, c, ⟨h1.get (by decide) m1 e1, h1.get (by decide) m2 e2, h1.get (by decide) m3 e3⟩, a1.keep h1 (by decide) m4, a2.keep h1 (by decide) m5, a3.keep h1 (by decide) m6, a4.keep h1 (by decide) m7, a5.keep h1 (by decide) m8⟩
theorem RelH.keep (h : RelH G wx wm) (h1 : FX m 109 wx wx') (h2 : FX m' 47 wm wm') (hm : mkq m 5 0 = false ∧ mkq m 10 0 = false ∧ mkq m' 6 0 = false ∧ mkq m 9 0 = false) : RelH G wx' wm' := by
  obtain ⟨a, q, g, r, e1, e2, e3, e4, e5, e6, e7⟩ := h
  exact ⟨a, q, g, r, h1.get (by decide) hm.1 e1, (h1 10 0 (by decide) hm.2.1).trans e2, (h2 6 0 (by decide) hm.2.2.1).trans e3, (h1 9 0 (by decide) hm.2.2.2).trans e4, e5, e6, e7⟩
theorem RelTh.keep (h : RelTh G wx wm) (h1 : FX m 109 wx wx') (h2 : FX m' 47 wm wm') (hm : mkq m 105 0 = false ∧ mkq m' 18 0 = false ∧ mkq m' 19 0 = false) : RelTh G wx' wm' := by
  obtain ⟨t, X, Y, e1, e2, e3, e4⟩ := h
  exact ⟨t, X, Y, (h1 105 0 (by decide) hm.1).trans e1, (h2 18 0 (by decide) hm.2.1).trans e2, (h2 19 0 (by decide) hm.2.2).trans e3, e4⟩
abbrev mKh (m : List (Nat × Nat)) (i : Nat) : Prop := mkq m (46 + 19 * i) 0 = false ∧ mkq m (47 + 19 * i) 0 = false ∧ mkq m (48 + 19 * i) 0 = false
theorem RKh.keep {h : Int} {r kk b : Nat → Int32} {i : Nat} (H : RKh G h r kk b wx i) (h1 : FX m 109 wx wx') (hi : i < 3) (hm : mKh m i) : RKh G h r kk b wx' i := by
  obtain ⟨fl, q, t, e1, e2, e3, e4⟩ := H
  exact ⟨fl, q, t, h1.get (by omega) hm.1 e1, (h1 _ 0 (by omega) hm.2.1).trans e2, (h1 _ 0 (by omega) hm.2.2).trans e3, e4⟩
theorem RelKh.keep (h : RelKh G wx wm) (h1 : FX m 109 wx wx') (h2 : FX m' 47 wm wm') (hm : (mKh m 0 ∧ mKh m 1 ∧ mKh m 2) ∧ mkq m 5 0 = false ∧ mkq m 9 0 = false ∧ mkq m' 45 0 = false ∧ mkq m' 46 0 = false) : RelKh G wx' wm' := by
  obtain ⟨a, r, b, kk, e1, e2, e3, e4, e5⟩ := h
  refine ⟨a, r, b, kk, h1.get (by decide) hm.2.1 e1, (h1 9 0 (by decide) hm.2.2.1).trans e2, (h2 45 0 (by decide) hm.2.2.2.1).trans e3, (h2 46 0 (by decide) hm.2.2.2.2).trans e4, fun i hi => (e5 i hi).keep h1 hi ?_⟩
  rcases (by omega : i = 0 ∨ i = 1 ∨ i = 2) with rfl | rfl | rfl
  · exact hm.1.1
  · exact hm.1.2.1
  · exact hm.1.2.2
-- the mill
theorem RelXY.mil (hM : RelM G wx' wm') {f g x0 y0 x9 y9 : Nat → Int32} {L h s c : Int32} (hL : L.toInt ≤ 60) (e : TE80 f g) (A : MilX G 5 0 7 8 f L h s c x0 y0 wx') (B : MilX G 0 3 3 4 g L h s c x9 y9 wm') (E : (∀ k : Nat, k < 16 → (k : Int) < h.toInt → x0 k = x9 k) ∧ ∀ k : Nat, k < 16 → (k : Int) < h.toInt → y0 k = y9 k) : RelXY G wx' wm' := by
  obtain ⟨_, a2, s2, c2, _, _, _, _, _, _, ⟨x1, y1⟩, _⟩ := hM
  obtain ⟨u1, z1, b1, b2⟩ := A
  obtain ⟨v1, t1, d1, d2⟩ := B
  obtain rfl := some_int (x1.symm.trans z1)
  obtain rfl := some_int (y1.symm.trans t1)
  rw [cg_run0 e hL, cg_hC e hL] at b1
  rw [cg_run0 e hL, cg_hE e hL] at b2
  exact ⟨_, z1, b1.same d1 E.1, b2.same d2 E.2⟩
theorem MilE.up {kn jn kh jh ks js kc jc : Nat} {n : Int32} {f : Nat → Int32} {h s c : Int32} {r : Option Value} {w1 : va_W} (H : MilE kn jn kh jh ks js kc jc n f h s c r w1) {h3 s3 c3 : Int32} (e1 : fget w1 kh jh = some (.int h3)) (e2 : fget w1 ks js = some (.int s3)) (e3 : fget w1 kc jc = some (.int c3)) : (h.toInt ≤ h3.toInt ∧ h3.toInt ≤ (run0 f (if 60 < n then 60 else n) h.toInt s.toInt c.toInt).2.2.2.1) ∧ (s.toInt ≤ s3.toInt ∧ s3.toInt ≤ (run0 f (if 60 < n then 60 else n) h.toInt s.toInt c.toInt).2.2.2.2.1) ∧ (c.toInt ≤ c3.toInt ∧ c3.toInt ≤ (run0 f (if 60 < n then 60 else n) h.toInt s.toInt c.toInt).2.2.2.2.2.1) := by
  obtain ⟨v, h2, s2, c2, -, C, -, -, f2, f3, f4⟩ := H
  obtain rfl := some_int (e1.symm.trans f2)
  obtain rfl := some_int (e2.symm.trans f3)
  obtain rfl := some_int (e3.symm.trans f4)
  exact C.up
theorem RelB.mil (hB : RelB G wx wm) {n h s c : Int32} {f x0 y0 p0 r0 f0 o0 w0 : Nat → Int32} {r : Option Value} (he : fget wx 5 0 = some (.int h) ∧ fget wx 12 0 = some (.int s) ∧ fget wx 18 0 = some (.int c)) (h0 : 0 ≤ h.toInt ∧ 0 ≤ s.toInt ∧ 0 ≤ c.toInt) (E : MilE 3 1 5 0 12 0 18 0 n f h s c r wx') (A : MilA G 5 0 12 0 18 0 6 9 13 14 19 f (if 60 < n then 60 else n) h s c p0 r0 f0 o0 w0 wx') (X : MilX G 5 0 7 8 f (if 60 < n then 60 else n) h s c x0 y0 wx') (ex : cget wx 7 0 = some (.inr (cyI G, 16, .inl x0)) ∧ cget wx 8 0 = some (.inr (cyI G, 16, .inl y0)) ∧ cget wx 13 0 = some (.inr (cyI G, 6, .inl f0)) ∧ cget wx 14 0 = some (.inr (cyI G, 6, .inl o0)) ∧ cget wx 19 0 = some (.inr (cyI G, 8, .inl w0))) : RelB G wx' wm' := by
  obtain ⟨h9, s9, c9, ⟨q1, q2, q3⟩, ⟨x, k1, k2⟩, ⟨y, k3, k4⟩, ⟨ff, k5, k6⟩, ⟨fo, k7, k8⟩, ⟨fw, k9, k10⟩⟩ := hB
  obtain rfl := some_int (he.1.symm.trans q1)
  obtain rfl := some_int (he.2.1.symm.trans q2)
  obtain rfl := some_int (he.2.2.symm.trans q3)
  obtain rfl := arrinj (ex.1.symm.trans k1)
  obtain rfl := arrinj (ex.2.1.symm.trans k3)
  obtain rfl := arrinj (ex.2.2.1.symm.trans k5)
  obtain rfl := arrinj (ex.2.2.2.1.symm.trans k7)
  obtain rfl := arrinj (ex.2.2.2.2.symm.trans k9)
  obtain ⟨u1, u2, u3, ⟨z1, z2, z3⟩, -, -, b3, b4, b5⟩ := A
  obtain ⟨v1, t1, d1, d2⟩ := X
  obtain rfl := some_int (z1.symm.trans t1)
  obtain ⟨⟨g1, l1⟩, ⟨g2, l2⟩, ⟨g3, l3⟩⟩ := E.up z1 z2 z3
  have e0 : (0 : Int32).toInt = 0 := by decide
  have e1 : (1 : Int32).toInt = 1 := by decide
  have e9 : (9 : Int32).toInt = 9 := by decide
  have e99 : (99 : Int32).toInt = 99 := by decide
  refine ⟨_, _, _, ⟨z1, z2, z3⟩, d1.bnd k2 (fun j a b => ?_), d2.bnd k4 (fun j a b => ?_), b3.bnd k6 (fun j a b => ?_), b4.bnd k8 (fun j a b => ?_), b5.bnd k10 (fun j a b => ?_)⟩
  · exact sg_b (okL_h (run0_h (f := f) (L := if 60 < n then 60 else n) (h := h.toInt) (s := s.toInt) (c := c.toInt) h0.1 j a (by omega))).2.1
  · exact sg_b (okL_h (run0_h (f := f) (L := if 60 < n then 60 else n) (h := h.toInt) (s := s.toInt) (c := c.toInt) h0.1 j a (by omega))).2.2.1
  · have z := num_b (okL_s (run0_s (f := f) (L := if 60 < n then 60 else n) (h := h.toInt) (s := s.toInt) (c := c.toInt) h0.2.1 j a (by omega))).1
    rw [e1, e9] at z
    exact z
  · have z := num_b (okL_s (run0_s (f := f) (L := if 60 < n then 60 else n) (h := h.toInt) (s := s.toInt) (c := c.toInt) h0.2.1 j a (by omega))).2
    rw [e0, e9] at z
    exact z
  · have z := num_b (okL_c (run0_c (f := f) (L := if 60 < n then 60 else n) (h := h.toInt) (s := s.toInt) (c := c.toInt) h0.2.2 j a (by omega)))
    rw [e0, e99] at z
    exact z
/-- a new ROOM is not below 0; what was told stays -/
theorem roomNew {r0 r1 : Nat → Int32} {h : Int} {q : Nat → Int32} (hr : ∀ j : Nat, j < 16 → (j : Int) < h → r1 j = r0 j) (h0 : ∀ j : Nat, j < 16 → 0 ≤ (r1 j).toInt) (hz : ∀ j : Nat, j < 16 → h ≤ (j : Int) → q j = 0) (hq : ∀ j : Nat, j < 16 → (q j).toInt ≤ (r0 j).toInt) : ∀ j : Nat, j < 16 → (q j).toInt ≤ (r1 j).toInt := by
  intro j hj
  by_cases c : (j : Int) < h
  · rw [hr j hj c]
    exact hq j hj
  · rw [hz j hj (by omega), show (0 : Int32).toInt = 0 by decide]
    exact h0 j hj
theorem RelH.mil (hM : RelM G wx' wm') (hH : RelH G wx wm) (h1 : FX m 109 wx wx') (hm : mkq m 10 0 = false) {g d9 r0 : Nat → Int32} {L h s c : Int32} (he : fget wx 5 0 = some (.int h)) (hd : cget wm 6 0 = some (.inr (cyI G, 16, .inl d9))) (er : cget wx 9 0 = some (.inr (cyI G, 16, .inl r0))) (B : MilD G 0 3 6 g L h s c d9 wm') {val : Int32 → Int32} {H : Int} {a : Nat → Int32} (R : AFc G wx' 9 16 val r0 h.toInt H a) (hr0 : ∀ q : Nat → Int32, cget wx' 9 0 = some (.inr (cyI G, 16, .inl q)) → ∀ j : Nat, j < 16 → 0 ≤ (q j).toInt) (hge : ∀ h2 : Int32, fget wx' 5 0 = some (.int h2) → h.toInt ≤ h2.toInt) : RelH G wx' wm' := by
  obtain ⟨_, a2, s2, c2, _, _, _, _, _, _, ⟨x1, y1⟩, _⟩ := hM
  obtain ⟨v1, t1, q, q1, q2⟩ := B
  obtain rfl := some_int (y1.symm.trans t1)
  obtain ⟨h9, hq, hg, hr, e0, e1, e2, e3, e4, e5, e6⟩ := hH
  obtain rfl := some_int (he.symm.trans e0)
  obtain rfl := arrinj (hd.symm.trans e2)
  obtain rfl := arrinj (er.symm.trans e3)
  have hg := hge _ x1
  obtain ⟨r1, p1, p2⟩ := R
  refine ⟨_, hq, q, r1, x1, (h1 10 0 (by decide) hm).trans e1, q1, p1, fun k hk hH => ?_, fun k hk hH => e5 k hk (by omega), roomNew (fun j hj hc => (p2 j hj).1 hc) (hr0 r1 p1) e5 e6⟩
  by_cases hc : (k : Int) < h.toInt
  · rw [e4 k hk hc, (q2 k hk).1 hc]
  · rw [e5 k hk (by omega), (q2 k hk).2 (by omega) hH]
theorem RelKh.mil (hK : RelKh G wx wm) (h1 : FX m 109 wx wx') (h2 : FX m' 47 wm wm') (hm : (mKh m 0 ∧ mKh m 1 ∧ mKh m 2) ∧ mkq m' 45 0 = false ∧ mkq m' 46 0 = false) {r0 : Nat → Int32} {h h3 : Int32} (he : fget wx 5 0 = some (.int h)) (he3 : fget wx' 5 0 = some (.int h3)) (er : cget wx 9 0 = some (.inr (cyI G, 16, .inl r0))) {val : Int32 → Int32} {H : Int} {a : Nat → Int32} (R : AFc G wx' 9 16 val r0 h.toInt H a) (hr0 : ∀ q : Nat → Int32, cget wx' 9 0 = some (.inr (cyI G, 16, .inl q)) → ∀ j : Nat, j < 16 → 0 ≤ (q j).toInt) (hge : h.toInt ≤ h3.toInt) : RelKh G wx' wm' := by
  obtain ⟨h9, r9, b, kk, e1, e2, e3, e4, e5⟩ := hK
  obtain rfl := some_int (he.symm.trans e1)
  obtain rfl := arrinj (er.symm.trans e2)
  obtain ⟨r1, p1, p2⟩ := R
  refine ⟨h3, r1, b, kk, he3, p1, (h2 45 0 (by decide) hm.2.1).trans e3, (h2 46 0 (by decide) hm.2.2).trans e4, fun i hi => ?_⟩
  have k := (e5 i hi).keep h1 hi (by
    rcases (by omega : i = 0 ∨ i = 1 ∨ i = 2) with rfl | rfl | rfl
    · exact hm.1.1
    · exact hm.1.2.1
    · exact hm.1.2.2)
  obtain ⟨fl, q, t, k1, k2, k3, k4, k5, k6, k7, k8, k9⟩ := k
  exact ⟨fl, q, t, k1, k2, k3, k4, k5, k6, fun j hj hH => k7 j hj (by omega), roomNew (fun j hj hc => (p2 j hj).1 hc) (hr0 r1 p1) k7 k8, k9⟩
/-- HAS becomes the same on both sides -/
theorem RelH.set (hH : RelH G wx wm) (h1 : FX m 109 wx wx') (hm : mkq m 5 0 = false ∧ mkq m 9 0 = false) {h : Int32} {r q1 g1 : Nat → Int32} (he : fget wx 5 0 = some (.int h)) (er : cget wx 9 0 = some (.inr (cyI G, 16, .inl r))) (A : CQ G wx' 10 16 q1) (B : CQ G wm' 6 16 g1) (e1 : ∀ j : Nat, j < 16 → (j : Int) < h.toInt → q1 j = g1 j) (e2 : ∀ j : Nat, j < 16 → h.toInt ≤ (j : Int) → q1 j = 0) (e3 : ∀ j : Nat, j < 16 → (q1 j).toInt ≤ (r j).toInt) : RelH G wx' wm' := by
  obtain ⟨q, a1, a2⟩ := A
  obtain ⟨g, b1, b2⟩ := B
  exact ⟨h, q, g, r, h1.get (by decide) hm.1 he, a1, b1, (h1 9 0 (by decide) hm.2).trans er, fun j hj hh => by rw [a2 j hj, b2 j hj]; exact e1 j hj hh, fun j hj hh => by rw [a2 j hj]; exact e2 j hj hh, fun j hj => by rw [a2 j hj]; exact e3 j hj⟩
theorem RelTh.set {t X Y : Nat → Int32} (A : CQ G wx' 105 8 t) (B : CQ G wm' 18 4 X) (C : CQ G wm' 19 4 Y) (e : pr4 t X Y) (b : b8 t) : RelTh G wx' wm' := by
  obtain ⟨q, a1, a2⟩ := A
  obtain ⟨g, b1, b2⟩ := B
  obtain ⟨k, c1, c2⟩ := C
  exact ⟨q, g, k, a1, b1, c1, fun j hj => ⟨by rw [a2 _ (by omega), b2 j hj]; exact (e j hj).1, by rw [a2 _ (by omega), c2 j hj]; exact (e j hj).2⟩, fun j hj => by rw [a2 j hj]; exact b j hj⟩
end GR3
-- lead
theorem lead_E {h : Int32} {q g r rm : Nat → Int32} {a v : Int32} (hh : h.toInt ≤ 16) (e4 : ∀ j : Nat, j < 16 → (j : Int) < h.toInt → q j = g j) (e5 : ∀ j : Nat, j < 16 → h.toInt ≤ (j : Int) → q j = 0) (e6 : ∀ j : Nat, j < 16 → (q j).toInt ≤ (r j).toInt) (er : ∀ j : Nat, j < 16 → (j : Int) < h.toInt → r j = rm j) : (mLead h.toInt r q a v).1 = (mLead h.toInt rm g a v).1 ∧ (∀ j : Nat, j < 16 → (j : Int) < h.toInt → (mLead h.toInt r q a v).2 j = (mLead h.toInt rm g a v).2 j) ∧ (∀ j : Nat, j < 16 → h.toInt ≤ (j : Int) → (mLead h.toInt r q a v).2 j = 0) ∧ ∀ j : Nat, j < 16 → ((mLead h.toInt r q a v).2 j).toInt ≤ (r j).toInt := by
  by_cases c0 : 0 ≤ a.toInt ∧ a.toInt < h.toInt
  · have ia : (a.toNatClampNeg : Int) = a.toInt := slot_of1 rfl c0.1
    have ra := er a.toNatClampNeg (by omega) (by omega)
    by_cases c : 0 ≤ a.toInt ∧ a.toInt < h.toInt ∧ 0 ≤ v.toInt ∧ v.toInt ≤ (r a.toNatClampNeg).toInt
    · have x1 : mLead h.toInt r q a v = (q a.toNatClampNeg, upd q a.toNatClampNeg v) := if_pos c
      have x2 : mLead h.toInt rm g a v = (g a.toNatClampNeg, upd g a.toNatClampNeg v) := if_pos (by rw [← ra]; exact c)
      rw [x1, x2]
      refine ⟨e4 _ (by omega) (by omega), fun j hj hl => ?_, fun j hj hl => ?_, fun j hj => ?_⟩
      · show upd q a.toNatClampNeg v j = upd g a.toNatClampNeg v j
        by_cases e : j = a.toNatClampNeg
        · rw [e, upd_at, upd_at]
        · rw [upd_off e, upd_off e]
          exact e4 j hj hl
      · show upd q a.toNatClampNeg v j = 0
        rw [upd_off (by omega)]
        exact e5 j hj hl
      · show (upd q a.toNatClampNeg v j).toInt ≤ _
        by_cases e : j = a.toNatClampNeg
        · rw [e, upd_at]
          exact c.2.2.2
        · rw [upd_off e]
          exact e6 j hj
    · have x1 : mLead h.toInt r q a v = (-1, q) := if_neg c
      have x2 : mLead h.toInt rm g a v = (-1, g) := if_neg (by rw [← ra]; exact c)
      rw [x1, x2]
      exact ⟨rfl, e4, e5, e6⟩
  · have x1 : mLead h.toInt r q a v = (-1, q) := if_neg (fun z => c0 ⟨z.1, z.2.1⟩)
    have x2 : mLead h.toInt rm g a v = (-1, g) := if_neg (fun z => c0 ⟨z.1, z.2.1⟩)
    rw [x1, x2]
    exact ⟨rfl, e4, e5, e6⟩
-- think
theorem think_E {t X Y : Nat → Int32} {a b c : Int32} (e : pr4 t X Y) (b0 : b8 t) : pr4 (mMass t a b c) (mMx X a b c) (mMy Y a b c) ∧ b8 (mMass t a b c) := by
  by_cases k : okMass a b c
  · have x1 : mMass t a b c = upd (upd t (2 * a).toNatClampNeg b) (2 * a + 1).toNatClampNeg c := if_pos k
    have x2 : mMx X a b c = upd X a.toNatClampNeg b := if_pos k
    have x3 : mMy Y a b c = upd Y a.toNatClampNeg c := if_pos k
    rw [x1, x2, x3]
    unfold okMass at k
    have d2 : (2 * a).toInt = 2 * a.toInt := tI_mul (show (2 : Int32).toInt = 2 from by decide) rfl (by omega)
    have d3 : (2 * a + 1).toInt = 2 * a.toInt + 1 := tI_add d2 (show (1 : Int32).toInt = 1 from by decide) (by omega)
    have n1 : (a.toNatClampNeg : Int) = a.toInt := slot_of1 rfl k.1
    have n2 : ((2 * a).toNatClampNeg : Int) = 2 * a.toInt := slot_of1 d2 (by omega)
    have n3 : ((2 * a + 1).toNatClampNeg : Int) = 2 * a.toInt + 1 := slot_of1 d3 (by omega)
    constructor
    · intro j hj
      by_cases ej : j = a.toNatClampNeg
      · constructor
        · rw [upd_off (by omega), show 2 * j = (2 * a).toNatClampNeg by omega, upd_at, ej, upd_at]
        · rw [show 2 * j + 1 = (2 * a + 1).toNatClampNeg by omega, upd_at, ej, upd_at]
      · constructor
        · rw [upd_off (by omega), upd_off (by omega), upd_off ej]
          exact (e j hj).1
        · rw [upd_off (by omega), upd_off (by omega), upd_off ej]
          exact (e j hj).2
    · intro j hj
      by_cases e3 : j = (2 * a + 1).toNatClampNeg
      · rw [e3, upd_at]
        omega
      · rw [upd_off e3]
        by_cases e2 : j = (2 * a).toNatClampNeg
        · rw [e2, upd_at]
          omega
        · rw [upd_off e2]
          exact b0 j hj
  · have x1 : mMass t a b c = t := if_neg k
    have x2 : mMx X a b c = X := if_neg k
    have x3 : mMy Y a b c = Y := if_neg k
    rw [x1, x2, x3]
    exact ⟨e, b0⟩
end
section
/-! settle: one thing on both sides -/
abbrev EH (h : Int) (f g : Nat → Int32) : Prop := ∀ j : Nat, (j : Int) < h → f j = g j
theorem bst_congr {ok ok' : Nat → Prop} [DecidablePred ok] [DecidablePred ok'] {S S' : Nat → Int} : ∀ {n : Nat}, (∀ j, j < n → (ok j ↔ ok' j)) → (∀ j, j < n → S j = S' j) → bst ok S n = bst ok' S' n
  | 0, _, _ => rfl
  | n + 1, h1, h2 => by
    have e := bst_congr (n := n) (fun j hj => h1 j (Nat.lt_succ_of_lt hj)) (fun j hj => h2 j (Nat.lt_succ_of_lt hj))
    have l := bst_lt (ok := ok) (S := S) (n := n)
    have hc : (ok n ∧ (bst ok S n < 0 ∨ S n < S (bst ok S n).toNat)) ↔ (ok' n ∧ (bst ok' S' n < 0 ∨ S' n < S' (bst ok' S' n).toNat)) := by
      rw [← e, ← h2 n (Nat.lt_succ_self n), h1 n (Nat.lt_succ_self n)]
      by_cases b : bst ok S n < 0
      · exact ⟨fun z => ⟨z.1, Or.inl b⟩, fun z => ⟨z.1, Or.inl b⟩⟩
      · rw [h2 (bst ok S n).toNat (by omega)]
    show (if ok n ∧ (bst ok S n < 0 ∨ S n < S (bst ok S n).toNat) then (n : Int) else bst ok S n) = (if ok' n ∧ (bst ok' S' n < 0 ∨ S' n < S' (bst ok' S' n).toNat) then (n : Int) else bst ok' S' n)
    by_cases c : ok n ∧ (bst ok S n < 0 ∨ S n < S (bst ok S n).toNat)
    · rw [if_pos c, if_pos (hc.mp c)]
    · rw [if_neg c, if_neg (fun z => c (hc.mpr z)), e]
theorem szO_congr {ux uy : Int32} {fx fy gx gy : Nat → Int32} {w : Int} {j : Nat} (e3 : fx j = gx j) (e4 : fy j = gy j) : szO ux uy fx fy w j = szO ux uy gx gy w j := by
  unfold szO
  rw [e3, e4]
section NXC
variable {h : Int} {fp fr fx fy gp gr gx gy : Nat → Int32} {tx ty : Int32} {p : Int}
theorem bO_congr {fh gh : Nat → Int32} {ux uy : Int32} {w : Int} (e1 : EH h fp gp) (e2 : EH h fr gr) (e3 : EH h fx gx) (e4 : EH h fy gy) (e5 : EH h fh gh) : bO fp fh fr fx fy ux uy p w h.toNat = bO gp gh gr gx gy ux uy p w h.toNat := by
  refine bst_congr (fun j hj => ?_) (fun j hj => ?_)
  · unfold okO
    rw [e1 j (by omega), e5 j (by omega), e2 j (by omega)]
  · rw [szO_congr (e3 j (by omega)) (e4 j (by omega))]
theorem upd_EH {fh gh : Nat → Int32} {j : Nat} {v w : Int32} (e5 : EH h fh gh) (e : v = w) : EH h (upd fh j v) (upd gh j w) := by
  intro k hk
  by_cases c : k = j
  · rw [c, upd_at, upd_at, e]
  · rw [upd_off c, upd_off c]
    exact e5 k hk
theorem nx1_congr {fh gh : Nat → Int32} (e1 : EH h fp gp) (e2 : EH h fr gr) (e3 : EH h fx gx) (e4 : EH h fy gy) (e5 : EH h fh gh) : (nx1 h fp fr fx fy tx ty p fh = none ∧ nx1 h gp gr gx gy tx ty p gh = none) ∨ ∃ a b, nx1 h fp fr fx fy tx ty p fh = some a ∧ nx1 h gp gr gx gy tx ty p gh = some b ∧ EH h a b := by
  have eux : lw gp gh gx p h.toNat = lw fp fh fx p h.toNat := (lw_congr (fun j hj => ⟨e1 j (by omega), e5 j (by omega), e3 j (by omega)⟩)).symm
  have euy : lw gp gh gy p h.toNat = lw fp fh fy p h.toNat := (lw_congr (fun j hj => ⟨e1 j (by omega), e5 j (by omega), e4 j (by omega)⟩)).symm
  have k0 := fun q => bO_ok (fp := fp) (fh := fh) (fr := fr) (fx := fx) (fy := fy) (ux := tx + lw fp fh fx p h.toNat) (uy := ty + lw fp fh fy p h.toNat) (p := p) (w := 0) (n := h.toNat) q
  have k1 := fun q => bO_ok (fp := fp) (fh := fh) (fr := fr) (fx := fx) (fy := fy) (ux := tx + lw fp fh fx p h.toNat) (uy := ty + lw fp fh fy p h.toNat) (p := p) (w := 1) (n := h.toNat) q
  unfold nx1
  dsimp only
  rw [eux, euy, ← bO_congr (p := p) (ux := tx + lw fp fh fx p h.toNat) (uy := ty + lw fp fh fy p h.toNat) (w := 0) e1 e2 e3 e4 e5, ← bO_congr (p := p) (ux := tx + lw fp fh fx p h.toNat) (uy := ty + lw fp fh fy p h.toNat) (w := 1) e1 e2 e3 e4 e5]
  generalize tx + lw fp fh fx p h.toNat = ux at k0 k1 ⊢
  generalize ty + lw fp fh fy p h.toNat = uy at k0 k1 ⊢
  generalize bO fp fh fr fx fy ux uy p 0 h.toNat = a at k0 ⊢
  generalize bO fp fh fr fx fy ux uy p 1 h.toNat = b at k1 ⊢
  have eA : (if 0 ≤ a then (szO ux uy gx gy 0 a.toNat).toInt - (sz ux uy).toInt else 0) = (if 0 ≤ a then (szO ux uy fx fy 0 a.toNat).toInt - (sz ux uy).toInt else 0) := by
    by_cases c : 0 ≤ a
    · have z := k0 c
      rw [if_pos c, if_pos c, szO_congr (e3 a.toNat (by omega)) (e4 a.toNat (by omega))]
    · rw [if_neg c, if_neg c]
  have eB : (if 0 ≤ b then (szO ux uy gx gy 1 b.toNat).toInt - (sz ux uy).toInt else 0) = (if 0 ≤ b then (szO ux uy fx fy 1 b.toNat).toInt - (sz ux uy).toInt else 0) := by
    by_cases c : 0 ≤ b
    · have z := k1 c
      rw [if_pos c, if_pos c, szO_congr (e3 b.toNat (by omega)) (e4 b.toNat (by omega))]
    · rw [if_neg c, if_neg c]
  rw [eA, eB]
  have hA : ¬ 0 ≤ a → (if 0 ≤ a then (szO ux uy fx fy 0 a.toNat).toInt - (sz ux uy).toInt else 0) = 0 := fun q => if_neg q
  have hB : ¬ 0 ≤ b → (if 0 ≤ b then (szO ux uy fx fy 1 b.toNat).toInt - (sz ux uy).toInt else 0) = 0 := fun q => if_neg q
  generalize (if 0 ≤ a then (szO ux uy fx fy 0 a.toNat).toInt - (sz ux uy).toInt else 0) = A at hA ⊢
  generalize (if 0 ≤ b then (szO ux uy fx fy 1 b.toNat).toInt - (sz ux uy).toInt else 0) = B at hB ⊢
  by_cases c : 0 ≤ A ∧ 0 ≤ B
  · exact Or.inl ⟨if_pos c, if_pos c⟩
  · by_cases d : A ≤ B
    · have ha : 0 ≤ a := by
        apply Classical.byContradiction
        intro q
        have z := hA q
        exact c ⟨by omega, by omega⟩
      have z := (k0 ha).1
      refine Or.inr ⟨_, _, (if_neg c).trans (if_pos d), (if_neg c).trans (if_pos d), upd_EH e5 ?_⟩
      rw [e5 a.toNat (by omega)]
    · have hb : 0 ≤ b := by
        apply Classical.byContradiction
        intro q
        have z := hB q
        exact c ⟨by omega, by omega⟩
      have z := (k1 hb).1
      refine Or.inr ⟨_, _, (if_neg c).trans (if_neg d), (if_neg c).trans (if_neg d), upd_EH e5 ?_⟩
      rw [e5 b.toNat (by omega)]
theorem itr_congr {fh gh : Nat → Int32} (e1 : EH h fp gp) (e2 : EH h fr gr) (e3 : EH h fx gx) (e4 : EH h fy gy) (e5 : EH h fh gh) : ∀ n, (itr (nx1 h fp fr fx fy tx ty p) fh n = none ∧ itr (nx1 h gp gr gx gy tx ty p) gh n = none) ∨ ∃ a b, itr (nx1 h fp fr fx fy tx ty p) fh n = some a ∧ itr (nx1 h gp gr gx gy tx ty p) gh n = some b ∧ EH h a b
  | 0 => Or.inr ⟨fh, gh, rfl, rfl, e5⟩
  | n + 1 => by
    show ((itr (nx1 h fp fr fx fy tx ty p) fh n).bind (nx1 h fp fr fx fy tx ty p) = none ∧ (itr (nx1 h gp gr gx gy tx ty p) gh n).bind (nx1 h gp gr gx gy tx ty p) = none) ∨ ∃ a b, (itr (nx1 h fp fr fx fy tx ty p) fh n).bind (nx1 h fp fr fx fy tx ty p) = some a ∧ (itr (nx1 h gp gr gx gy tx ty p) gh n).bind (nx1 h gp gr gx gy tx ty p) = some b ∧ EH h a b
    rcases itr_congr e1 e2 e3 e4 e5 n with ⟨a1, a2⟩ | ⟨a, b, a1, a2, a3⟩
    · rw [a1, a2]
      exact Or.inl ⟨rfl, rfl⟩
    · rw [a1, a2]
      exact nx1_congr e1 e2 e3 e4 a3
def SetE (h : Int) (fp fr fx fy : Nat → Int32) (tx ty : Int32) (p : Int) (fh : Nat → Int32) (rz : Int32) (fh2 : Nat → Int32) : Prop := (¬ (0 ≤ p ∧ p ≤ 1) ∧ rz = -1 ∧ fh2 = fh) ∨ ((0 ≤ p ∧ p ≤ 1) ∧ (0 ≤ rz.toInt ∧ rz.toInt ≤ 200) ∧ itr (nx1 h fp fr fx fy tx ty p) fh rz.toInt.toNat = some fh2 ∧ (rz.toInt.toNat = 200 ∨ nx1 h fp fr fx fy tx ty p fh2 = none))
theorem SetE.same {ux uy : Int32} {fh gh q1 g1 : Nat → Int32} {v1 v2 : Int32} (e1 : EH h fp gp) (e2 : EH h fr gr) (e3 : EH h fx gx) (e4 : EH h fy gy) (e5 : EH h fh gh) (et : 0 ≤ p ∧ p ≤ 1 → tx = ux ∧ ty = uy) (A : SetE h fp fr fx fy tx ty p fh v1 q1) (B : SetE h gp gr gx gy ux uy p gh v2 g1) : v1 = v2 ∧ EH h q1 g1 := by
  rcases A with ⟨a0, a1, a2⟩ | ⟨a0, a1, a2, a3⟩
  · rcases B with ⟨-, b1, b2⟩ | ⟨b0, -⟩
    · rw [a1, b1, a2, b2]
      exact ⟨rfl, e5⟩
    · exact absurd b0 a0
  · rcases B with ⟨b0, -⟩ | ⟨-, b1, b2, b3⟩
    · exact absurd a0 b0
    · obtain ⟨t1, t2⟩ := et a0
      subst t1
      subst t2
      rcases itr_congr (tx := tx) (ty := ty) (p := p) e1 e2 e3 e4 e5 v2.toInt.toNat with ⟨-, c2⟩ | ⟨a, b, c1, c2, c3⟩
      · rw [b2] at c2
        cases c2
      · rw [b2] at c2
        obtain rfl := Option.some.inj c2
        have s2 : v2.toInt.toNat = 200 ∨ nx1 h fp fr fx fy tx ty p a = none := by
          rcases b3 with b3 | b3
          · exact Or.inl b3
          · rcases nx1_congr (tx := tx) (ty := ty) (p := p) e1 e2 e3 e4 c3 with ⟨d1, -⟩ | ⟨_, _, -, d2, -⟩
            · exact Or.inr d1
            · rw [b3] at d2
              cases d2
        obtain ⟨n1, n2⟩ := itr_stop a2 c1 a3 s2 (by omega) (by omega)
        subst n2
        exact ⟨Int32.toInt_inj.mp (by omega), c3⟩
/-- what settle leaves: nothing beyond the holes, no more than ROOM -/
theorem itr_P {r fh : Nat → Int32} (hh : h ≤ 16) (hr : ∀ j : Nat, (j : Int) < h → fr j = r j) (r9 : ∀ j : Nat, j < 16 → 0 ≤ (r j).toInt ∧ (r j).toInt ≤ 9) (p1 : ∀ j : Nat, j < 16 → h ≤ (j : Int) → fh j = 0) (p2 : ∀ j : Nat, j < 16 → (fh j).toInt ≤ (r j).toInt) (p3 : ∀ j : Nat, (j : Int) < h → 0 ≤ (fh j).toInt) : ∀ n g, itr (nx1 h fp fr fx fy tx ty p) fh n = some g → (∀ j : Nat, j < 16 → h ≤ (j : Int) → g j = 0) ∧ (∀ j : Nat, j < 16 → (g j).toInt ≤ (r j).toInt) ∧ ∀ j : Nat, (j : Int) < h → 0 ≤ (g j).toInt
  | 0, g, e => by
    obtain rfl := Option.some.inj e
    exact ⟨p1, p2, p3⟩
  | n + 1, g, e => by
    have e : (itr (nx1 h fp fr fx fy tx ty p) fh n).bind (nx1 h fp fr fx fy tx ty p) = some g := e
    cases e9 : itr (nx1 h fp fr fx fy tx ty p) fh n with
    | none => rw [e9] at e; cases e
    | some f =>
      rw [e9] at e
      have e : nx1 h fp fr fx fy tx ty p f = some g := e
      obtain ⟨q1, q2, q3⟩ := itr_P hh hr r9 p1 p2 p3 n f e9
      obtain ⟨j, v, j1, rfl, hv⟩ := nx1_some e
      have bj := q3 j j1
      have rj := r9 j (by omega)
      have fj := q2 j (by omega)
      rw [hr j j1] at hv
      refine ⟨fun k hk hl => ?_, fun k hk => ?_, fun k hk => ?_⟩
      · rw [upd_off (by omega)]
        exact q1 k hk hl
      · by_cases ek : k = j
        · subst ek
          rw [upd_at]
          rcases hv with ⟨rfl, c⟩ | ⟨rfl, c⟩
          · rw [add_one (by omega)]
            omega
          · rw [sub_one (by omega)]
            omega
        · rw [upd_off ek]
          exact q2 k hk
      · by_cases ek : k = j
        · subst ek
          rw [upd_at]
          rcases hv with ⟨rfl, c⟩ | ⟨rfl, c⟩
          · rw [add_one (by omega)]
            omega
          · rw [sub_one (by omega)]
            omega
        · rw [upd_off ek]
          exact q3 k hk
theorem SetE.P {r fh q : Nat → Int32} {v : Int32} (hh : h ≤ 16) (hr : ∀ j : Nat, (j : Int) < h → fr j = r j) (r9 : ∀ j : Nat, j < 16 → 0 ≤ (r j).toInt ∧ (r j).toInt ≤ 9) (p1 : ∀ j : Nat, j < 16 → h ≤ (j : Int) → fh j = 0) (p2 : ∀ j : Nat, j < 16 → (fh j).toInt ≤ (r j).toInt) (p3 : ∀ j : Nat, (j : Int) < h → 0 ≤ (fh j).toInt) (A : SetE h fp fr fx fy tx ty p fh v q) : (∀ j : Nat, j < 16 → h ≤ (j : Int) → q j = 0) ∧ ∀ j : Nat, j < 16 → (q j).toInt ≤ (r j).toInt := by
  rcases A with ⟨-, -, rfl⟩ | ⟨-, -, a2, -⟩
  · exact ⟨p1, p2⟩
  · have z := itr_P (tx := tx) (ty := ty) (p := p) hh hr r9 p1 p2 p3 _ _ a2
    exact ⟨z.1, z.2.1⟩
end NXC
end
section
/-! lead, think, settle, mill in the typed worlds -/
set_option maxHeartbeats 4000000 in
set_option maxRecDepth 100000 in
theorem ac_ldx (l : Launch) (G : KG) {ad : Nat → Nat} {w0 : va_W} {h a v : Int32} {zr zh : Nat → Int32} (hW : WT G ad TX w0) (eh : fget w0 5 0 = some (.int h)) (er : cget w0 9 0 = some (.inr (cyI G, 16, .inl zr))) (ez : cget w0 10 0 = some (.inr (cyI G, 16, .inl zh))) : Ct l G yX10_lead cX10_lead 4 (some .int) { frames := 1, cells := 0, slots := 0, locals := 21 } [.ref (ad 0), .int a, .int v] w0 (fun r w1 => WT G ad TX w1 ∧ FRM C_X10_lead_0.2.2.2.2.1 w0 w1 ∧ (r = some (.int (mLead h.toInt zr zh a v).1) ∧ CQ G w1 10 16 (mLead h.toInt zr zh a v).2)) := by
  obtain ⟨g0, q0, t0⟩ := WT.tab hW (k := 0) rfl
  have r0_2 : g0 2 = .ref (ad 5) := vty2 (t0 2 _ rfl).1 rfl
  have c0 : w0[0]? = some ((ad 0), ob 10 [(g0 0), (g0 1), .ref (ad 5), (g0 3), (g0 4), (g0 5), (g0 6), (g0 7), (g0 8), (g0 9), (g0 10), (g0 11), (g0 12), (g0 13), (g0 14), (g0 15)]) := by
    rw [q0]
    show some (ad 0, ob 10 [g0 0, g0 1, g0 2, g0 3, g0 4, g0 5, g0 6, g0 7, g0 8, g0 9, g0 10, g0 11, g0 12, g0 13, g0 14, g0 15]) = _
    rw [r0_2]
  obtain ⟨g5, q5, t5⟩ := WT.tab hW (k := 5) rfl
  have r5_0 : g5 0 = .int h := Option.some.inj ((t5 0 _ rfl).2.symm.trans eh)
  have b5_0 : 0 ≤ h.toInt ∧ h.toInt ≤ 16 := by
    have h := (t5 0 _ rfl).1
    rw [r5_0] at h
    obtain ⟨y, e, l1, u1⟩ := vty0 h rfl
    obtain rfl := Value.int.inj e
    exact ⟨l1, u1⟩
  have r5_4 : g5 4 = .ref (ad 9) := vty2 (t5 4 _ rfl).1 rfl
  have r5_5 : g5 5 = .ref (ad 10) := vty2 (t5 5 _ rfl).1 rfl
  have c5 : w0[5]? = some ((ad 5), ob 5 [.int h, (g5 1), (g5 2), (g5 3), .ref (ad 9), .ref (ad 10), (g5 6), (g5 7), (g5 8)]) := by
    rw [q5]
    show some (ad 5, ob 5 [g5 0, g5 1, g5 2, g5 3, g5 4, g5 5, g5 6, g5 7, g5 8]) = _
    rw [r5_0, r5_4, r5_5]
  obtain ⟨f9, c9, -⟩ := WT.ints hW (k := 9) rfl
  have ef9 : f9 = zr := arrinj ((cgetI c9 0).symm.trans er)
  rw [ef9] at c9
  obtain ⟨f10, c10, -⟩ := WT.ints hW (k := 10) rfl
  have ef10 : f10 = zh := arrinj ((cgetI c10 0).symm.trans ez)
  rw [ef10] at c10
  have h2 := cl_X10_lead l G (ad 0) (g0 0) (g0 1) (ad 5) (g0 3) (g0 4) (g0 5) (g0 6) (g0 7) (g0 8) (g0 9) (g0 10) (g0 11) (g0 12) (g0 13) (g0 14) (g0 15) (ad 5) h (g5 1) (g5 2) (g5 3) (ad 9) (ad 10) (g5 6) (g5 7) (g5 8) zr zh a v h.toInt a.toInt v.toInt rfl rfl rfl (by omega)
  refine Ct.weak (Ct.and (show Ct l G yX10_lead cX10_lead 4 (some .int) { frames := 1, cells := 0, slots := 0, locals := 21 } [.ref (ad 0), .int a, .int v] w0 (fun r w1 => POST G ad TX C_X10_lead_0 (fun k => ((Value.ref (ad 0) :: [.int a, .int v])[k]?).getD .null) w0 r w1) from ac_X10_lead_0 l G ad w0 _ hW (pre_mu (C := C_X10_lead_0) (ts := [tI0, tI0]) (As := [.int a, .int v]) rfl rfl rfl rfl ⟨fun _ => vty_i0 _, fun _ => vty_i0 _, trivial⟩ ad w0 rfl)) h2 [0, 5, 9, 10] (pk_cons c0 (pk_cons c5 (pk_cons c9 (pk_cons c10 rfl)))) (by decide)) ?_
  rintro r w1 ⟨hp, w2, ⟨rz, fh2, hr, hd, rfl, rfl⟩, hS⟩
  obtain ⟨A1, hA1, μ2, -, -, -, -, -, -, hW1, hF1⟩ := hp
  obtain ⟨fs0, -, u0, ul0, -, -⟩ := WT.obj hW1 (k := 0) (j := 0) rfl rfl
  obtain ⟨fs5, -, u5, ul5, -, -⟩ := WT.obj hW1 (k := 5) (j := 0) rfl rfl
  obtain ⟨p9, u9, -⟩ := WT.ints hW1 (k := 9) rfl
  obtain ⟨p10, u10, -⟩ := WT.ints hW1 (k := 10) rfl
  exact ⟨hW1, hF1, by rw [hr], p10, cgetI u10 0, fun k hk => by rw [← hd]; exact (same_I hS (k := 10) (j := 3) u10 rfl) k hk⟩
set_option maxHeartbeats 4000000 in
set_option maxRecDepth 100000 in
theorem ac_ldm (l : Launch) (G : KG) {ad : Nat → Nat} {w0 : va_W} {h a v : Int32} {zr zh : Nat → Int32} (hW : WT G ad TM w0) (eh : fget w0 0 3 = some (.int h)) (er : cget w0 5 0 = some (.inr (cyI G, 16, .inl zr))) (ez : cget w0 6 0 = some (.inr (cyI G, 16, .inl zh))) : Ct l G yX11_lead cX11_lead 4 (some .int) { frames := 2, cells := 0, slots := 0, locals := 46 } [.ref (ad 0), .int a, .int v] w0 (fun r w1 => WT G ad TM w1 ∧ FRM C_X11_lead_0.2.2.2.2.1 w0 w1 ∧ (r = some (.int (mLead h.toInt zr zh a v).1) ∧ CQ G w1 6 16 (mLead h.toInt zr zh a v).2)) := by
  obtain ⟨g0, q0, t0⟩ := WT.tab hW (k := 0) rfl
  obtain ⟨y0_0, r0_0, -, -⟩ := vty0 (t0 0 _ rfl).1 rfl
  have r0_3 : g0 3 = .int h := Option.some.inj ((t0 3 _ rfl).2.symm.trans eh)
  have b0_3 : 0 ≤ h.toInt ∧ h.toInt ≤ 16 := by
    have h := (t0 3 _ rfl).1
    rw [r0_3] at h
    obtain ⟨y, e, l1, u1⟩ := vty0 h rfl
    obtain rfl := Value.int.inj e
    exact ⟨l1, u1⟩
  have r0_4 : g0 4 = .ref (ad 2) := vty2 (t0 4 _ rfl).1 rfl
  have r0_5 : g0 5 = .ref (ad 3) := vty2 (t0 5 _ rfl).1 rfl
  have r0_6 : g0 6 = .ref (ad 4) := vty2 (t0 6 _ rfl).1 rfl
  have r0_7 : g0 7 = .ref (ad 5) := vty2 (t0 7 _ rfl).1 rfl
  have r0_8 : g0 8 = .ref (ad 6) := vty2 (t0 8 _ rfl).1 rfl
  have r0_9 : g0 9 = .ref (ad 7) := vty2 (t0 9 _ rfl).1 rfl
  obtain ⟨y0_10, r0_10, -, -⟩ := vty0 (t0 10 _ rfl).1 rfl
  have r0_11 : g0 11 = .ref (ad 8) := vty2 (t0 11 _ rfl).1 rfl
  have r0_12 : g0 12 = .ref (ad 9) := vty2 (t0 12 _ rfl).1 rfl
  have r0_13 : g0 13 = .ref (ad 10) := vty2 (t0 13 _ rfl).1 rfl
  obtain ⟨y0_16, r0_16, -, -⟩ := vty0 (t0 16 _ rfl).1 rfl
  have r0_17 : g0 17 = .ref (ad 13) := vty2 (t0 17 _ rfl).1 rfl
  have r0_18 : g0 18 = .ref (ad 14) := vty2 (t0 18 _ rfl).1 rfl
  obtain ⟨y0_19, r0_19, -, -⟩ := vty0 (t0 19 _ rfl).1 rfl
  obtain ⟨y0_20, r0_20, -, -⟩ := vty0 (t0 20 _ rfl).1 rfl
  obtain ⟨y0_21, r0_21, -, -⟩ := vty0 (t0 21 _ rfl).1 rfl
  obtain ⟨y0_22, r0_22, -, -⟩ := vty0 (t0 22 _ rfl).1 rfl
  have c0 : w0[0]? = some ((ad 0), ob 11 [.int y0_0, (g0 1), (g0 2), .int h, .ref (ad 2), .ref (ad 3), .ref (ad 4), .ref (ad 5), .ref (ad 6), .ref (ad 7), .int y0_10, .ref (ad 8), .ref (ad 9), .ref (ad 10), (g0 14), (g0 15), .int y0_16, .ref (ad 13), .ref (ad 14), .int y0_19, .int y0_20, .int y0_21, .int y0_22, (g0 23), (g0 24), (g0 25), (g0 26), (g0 27), (g0 28), (g0 29), (g0 30), (g0 31), (g0 32), (g0 33), (g0 34), (g0 35), (g0 36), (g0 37), (g0 38), (g0 39), (g0 40), (g0 41), (g0 42), (g0 43), (g0 44), (g0 45), (g0 46), (g0 47), (g0 48), (g0 49), (g0 50), (g0 51), (g0 52), (g0 53), (g0 54), (g0 55), (g0 56), (g0 57), (g0 58), (g0 59), (g0 60), (g0 61), (g0 62), (g0 63), (g0 64), (g0 65), (g0 66), (g0 67), (g0 68), (g0 69), (g0 70), (g0 71), (g0 72), (g0 73), (g0 74)]) := by
    rw [q0]
    show some (ad 0, ob 11 [g0 0, g0 1, g0 2, g0 3, g0 4, g0 5, g0 6, g0 7, g0 8, g0 9, g0 10, g0 11, g0 12, g0 13, g0 14, g0 15, g0 16, g0 17, g0 18, g0 19, g0 20, g0 21, g0 22, g0 23, g0 24, g0 25, g0 26, g0 27, g0 28, g0 29, g0 30, g0 31, g0 32, g0 33, g0 34, g0 35, g0 36, g0 37, g0 38, g0 39, g0 40, g0 41, g0 42, g0 43, g0 44, g0 45, g0 46, g0 47, g0 48, g0 49, g0 50, g0 51, g0 52, g0 53, g0 54, g0 55, g0 56, g0 57, g0 58, g0 59, g0 60, g0 61, g0 62, g0 63, g0 64, g0 65, g0 66, g0 67, g0 68, g0 69, g0 70, g0 71, g0 72, g0 73, g0 74]) = _
    rw [r0_0, r0_3, r0_4, r0_5, r0_6, r0_7, r0_8, r0_9, r0_10, r0_11, r0_12, r0_13, r0_16, r0_17, r0_18, r0_19, r0_20, r0_21, r0_22]
  obtain ⟨f5, c5, -⟩ := WT.ints hW (k := 5) rfl
  have ef5 : f5 = zr := arrinj ((cgetI c5 0).symm.trans er)
  rw [ef5] at c5
  obtain ⟨f6, c6, -⟩ := WT.ints hW (k := 6) rfl
  have ef6 : f6 = zh := arrinj ((cgetI c6 0).symm.trans ez)
  rw [ef6] at c6
  have h2 := cl_X11_lead l G (ad 0) y0_0 (g0 1) (g0 2) h (ad 2) (ad 3) (ad 4) (ad 5) (ad 6) (ad 7) y0_10 (ad 8) (ad 9) (ad 10) (g0 14) (g0 15) y0_16 (ad 13) (ad 14) y0_19 y0_20 y0_21 y0_22 (g0 23) (g0 24) (g0 25) (g0 26) (g0 27) (g0 28) (g0 29) (g0 30) (g0 31) (g0 32) (g0 33) (g0 34) (g0 35) (g0 36) (g0 37) (g0 38) (g0 39) (g0 40) (g0 41) (g0 42) (g0 43) (g0 44) (g0 45) (g0 46) (g0 47) (g0 48) (g0 49) (g0 50) (g0 51) (g0 52) (g0 53) (g0 54) (g0 55) (g0 56) (g0 57) (g0 58) (g0 59) (g0 60) (g0 61) (g0 62) (g0 63) (g0 64) (g0 65) (g0 66) (g0 67) (g0 68) (g0 69) (g0 70) (g0 71) (g0 72) (g0 73) (g0 74) zr zh a v h.toInt a.toInt v.toInt rfl rfl rfl (by omega)
  refine Ct.weak (Ct.and (show Ct l G yX11_lead cX11_lead 4 (some .int) { frames := 2, cells := 0, slots := 0, locals := 46 } [.ref (ad 0), .int a, .int v] w0 (fun r w1 => POST G ad TM C_X11_lead_0 (fun k => ((Value.ref (ad 0) :: [.int a, .int v])[k]?).getD .null) w0 r w1) from ac_X11_lead_0 l G ad w0 _ hW (pre_mu (C := C_X11_lead_0) (ts := [tI0, tI0]) (As := [.int a, .int v]) rfl rfl rfl rfl ⟨fun _ => vty_i0 _, fun _ => vty_i0 _, trivial⟩ ad w0 rfl)) h2 [0, 5, 6] (pk_cons c0 (pk_cons c5 (pk_cons c6 rfl))) (by decide)) ?_
  rintro r w1 ⟨hp, w2, ⟨rz, fh2, hr, hd, rfl, rfl⟩, hS⟩
  obtain ⟨A1, hA1, μ2, -, -, -, -, -, -, hW1, hF1⟩ := hp
  obtain ⟨fs0, -, u0, ul0, -, -⟩ := WT.obj hW1 (k := 0) (j := 0) rfl rfl
  obtain ⟨p5, u5, -⟩ := WT.ints hW1 (k := 5) rfl
  obtain ⟨p6, u6, -⟩ := WT.ints hW1 (k := 6) rfl
  exact ⟨hW1, hF1, by rw [hr], p6, cgetI u6 0, fun k hk => by rw [← hd]; exact (same_I hS (k := 6) (j := 2) u6 rfl) k hk⟩
set_option maxHeartbeats 4000000 in
set_option maxRecDepth 100000 in
theorem ac_tkx (l : Launch) (G : KG) {ad : Nat → Nat} {w0 : va_W} {aq bq cq : Int32} {zt : Nat → Int32} (hW : WT G ad TX w0) (ez : cget w0 105 0 = some (.inr (cyI G, 8, .inl zt))) : Ct l G yX10_think cX10_think 4 (some .boolean) { frames := 2, cells := 0, slots := 0, locals := 44 } [.ref (ad 0), .int aq, .int bq, .int cq] w0 (fun r w1 => WT G ad TX w1 ∧ FRM C_X10_think_0.2.2.2.2.1 w0 w1 ∧ ((∃ v : Int32, r = some (.int v)) ∧ CQ G w1 105 8 (mMass zt aq bq cq))) := by
  obtain ⟨g0, q0, t0⟩ := WT.tab hW (k := 0) rfl
  have r0_11 : g0 11 = .ref (ad 105) := vty2 (t0 11 _ rfl).1 rfl
  have c0 : w0[0]? = some ((ad 0), ob 10 [(g0 0), (g0 1), (g0 2), (g0 3), (g0 4), (g0 5), (g0 6), (g0 7), (g0 8), (g0 9), (g0 10), .ref (ad 105), (g0 12), (g0 13), (g0 14), (g0 15)]) := by
    rw [q0]
    show some (ad 0, ob 10 [g0 0, g0 1, g0 2, g0 3, g0 4, g0 5, g0 6, g0 7, g0 8, g0 9, g0 10, g0 11, g0 12, g0 13, g0 14, g0 15]) = _
    rw [r0_11]
  obtain ⟨f105, c105, -⟩ := WT.ints hW (k := 105) rfl
  have ef105 : f105 = zt := arrinj ((cgetI c105 0).symm.trans ez)
  rw [ef105] at c105
  have h2 := cl_X10_think l G (ad 0) (g0 0) (g0 1) (g0 2) (g0 3) (g0 4) (g0 5) (g0 6) (g0 7) (g0 8) (g0 9) (g0 10) (ad 105) (g0 12) (g0 13) (g0 14) (g0 15) zt aq bq cq aq.toInt bq.toInt cq.toInt rfl rfl rfl 
  refine Ct.weak (Ct.and (show Ct l G yX10_think cX10_think 4 (some .boolean) { frames := 2, cells := 0, slots := 0, locals := 44 } [.ref (ad 0), .int aq, .int bq, .int cq] w0 (fun r w1 => POST G ad TX C_X10_think_0 (fun k => ((Value.ref (ad 0) :: [.int aq, .int bq, .int cq])[k]?).getD .null) w0 r w1) from ac_X10_think_0 l G ad w0 _ hW (pre_mu (C := C_X10_think_0) (ts := [tI0, tI0, tI0]) (As := [.int aq, .int bq, .int cq]) rfl rfl rfl rfl ⟨fun _ => vty_i0 _, fun _ => vty_i0 _, fun _ => vty_i0 _, trivial⟩ ad w0 rfl)) h2 [0, 105] (pk_cons c0 (pk_cons c105 rfl)) (by decide)) ?_
  rintro r w1 ⟨hp, w2, ⟨fm2, hf, rfl, rfl⟩, hS⟩
  obtain ⟨A1, hA1, μ2, -, -, -, -, -, -, hW1, hF1⟩ := hp
  obtain ⟨fs0, -, u0, ul0, -, -⟩ := WT.obj hW1 (k := 0) (j := 0) rfl rfl
  obtain ⟨p105, u105, -⟩ := WT.ints hW1 (k := 105) rfl
  exact ⟨hW1, hF1, ⟨_, rfl⟩, ⟨p105, cgetI u105 0, fun k hk => by rw [← hf]; exact (same_I hS (k := 105) (j := 1) u105 rfl) k hk⟩⟩
set_option maxHeartbeats 4000000 in
set_option maxRecDepth 100000 in
theorem ac_tkm (l : Launch) (G : KG) {ad : Nat → Nat} {w0 : va_W} {aq bq cq : Int32} {zx zy : Nat → Int32} (hW : WT G ad TM w0) (ex : cget w0 18 0 = some (.inr (cyI G, 4, .inl zx))) (ey : cget w0 19 0 = some (.inr (cyI G, 4, .inl zy))) : Ct l G yX11_think cX11_think 4 (some .boolean) { frames := 2, cells := 0, slots := 0, locals := 47 } [.ref (ad 0), .int aq, .int bq, .int cq] w0 (fun r w1 => WT G ad TM w1 ∧ FRM C_X11_think_0.2.2.2.2.1 w0 w1 ∧ ((∃ v : Int32, r = some (.int v)) ∧ CQ G w1 18 4 (mMx zx aq bq cq) ∧ CQ G w1 19 4 (mMy zy aq bq cq))) := by
  obtain ⟨g0, q0, t0⟩ := WT.tab hW (k := 0) rfl
  obtain ⟨y0_0, r0_0, -, -⟩ := vty0 (t0 0 _ rfl).1 rfl
  obtain ⟨y0_3, r0_3, bl0_3, bu0_3⟩ := vty0 (t0 3 _ rfl).1 rfl
  have b0_3 : 0 ≤ y0_3.toInt ∧ y0_3.toInt ≤ 16 := ⟨bl0_3, bu0_3⟩
  have r0_4 : g0 4 = .ref (ad 2) := vty2 (t0 4 _ rfl).1 rfl
  have r0_5 : g0 5 = .ref (ad 3) := vty2 (t0 5 _ rfl).1 rfl
  have r0_6 : g0 6 = .ref (ad 4) := vty2 (t0 6 _ rfl).1 rfl
  have r0_7 : g0 7 = .ref (ad 5) := vty2 (t0 7 _ rfl).1 rfl
  have r0_8 : g0 8 = .ref (ad 6) := vty2 (t0 8 _ rfl).1 rfl
  have r0_9 : g0 9 = .ref (ad 7) := vty2 (t0 9 _ rfl).1 rfl
  obtain ⟨y0_10, r0_10, -, -⟩ := vty0 (t0 10 _ rfl).1 rfl
  have r0_11 : g0 11 = .ref (ad 8) := vty2 (t0 11 _ rfl).1 rfl
  have r0_12 : g0 12 = .ref (ad 9) := vty2 (t0 12 _ rfl).1 rfl
  have r0_13 : g0 13 = .ref (ad 10) := vty2 (t0 13 _ rfl).1 rfl
  obtain ⟨y0_16, r0_16, -, -⟩ := vty0 (t0 16 _ rfl).1 rfl
  have r0_17 : g0 17 = .ref (ad 13) := vty2 (t0 17 _ rfl).1 rfl
  have r0_18 : g0 18 = .ref (ad 14) := vty2 (t0 18 _ rfl).1 rfl
  obtain ⟨y0_19, r0_19, -, -⟩ := vty0 (t0 19 _ rfl).1 rfl
  obtain ⟨y0_20, r0_20, -, -⟩ := vty0 (t0 20 _ rfl).1 rfl
  obtain ⟨y0_21, r0_21, -, -⟩ := vty0 (t0 21 _ rfl).1 rfl
  obtain ⟨y0_22, r0_22, -, -⟩ := vty0 (t0 22 _ rfl).1 rfl
  have r0_26 : g0 26 = .ref (ad 18) := vty2 (t0 26 _ rfl).1 rfl
  have r0_27 : g0 27 = .ref (ad 19) := vty2 (t0 27 _ rfl).1 rfl
  have c0 : w0[0]? = some ((ad 0), ob 11 [.int y0_0, (g0 1), (g0 2), .int y0_3, .ref (ad 2), .ref (ad 3), .ref (ad 4), .ref (ad 5), .ref (ad 6), .ref (ad 7), .int y0_10, .ref (ad 8), .ref (ad 9), .ref (ad 10), (g0 14), (g0 15), .int y0_16, .ref (ad 13), .ref (ad 14), .int y0_19, .int y0_20, .int y0_21, .int y0_22, (g0 23), (g0 24), (g0 25), .ref (ad 18), .ref (ad 19), (g0 28), (g0 29), (g0 30), (g0 31), (g0 32), (g0 33), (g0 34), (g0 35), (g0 36), (g0 37), (g0 38), (g0 39), (g0 40), (g0 41), (g0 42), (g0 43), (g0 44), (g0 45), (g0 46), (g0 47), (g0 48), (g0 49), (g0 50), (g0 51), (g0 52), (g0 53), (g0 54), (g0 55), (g0 56), (g0 57), (g0 58), (g0 59), (g0 60), (g0 61), (g0 62), (g0 63), (g0 64), (g0 65), (g0 66), (g0 67), (g0 68), (g0 69), (g0 70), (g0 71), (g0 72), (g0 73), (g0 74)]) := by
    rw [q0]
    show some (ad 0, ob 11 [g0 0, g0 1, g0 2, g0 3, g0 4, g0 5, g0 6, g0 7, g0 8, g0 9, g0 10, g0 11, g0 12, g0 13, g0 14, g0 15, g0 16, g0 17, g0 18, g0 19, g0 20, g0 21, g0 22, g0 23, g0 24, g0 25, g0 26, g0 27, g0 28, g0 29, g0 30, g0 31, g0 32, g0 33, g0 34, g0 35, g0 36, g0 37, g0 38, g0 39, g0 40, g0 41, g0 42, g0 43, g0 44, g0 45, g0 46, g0 47, g0 48, g0 49, g0 50, g0 51, g0 52, g0 53, g0 54, g0 55, g0 56, g0 57, g0 58, g0 59, g0 60, g0 61, g0 62, g0 63, g0 64, g0 65, g0 66, g0 67, g0 68, g0 69, g0 70, g0 71, g0 72, g0 73, g0 74]) = _
    rw [r0_0, r0_3, r0_4, r0_5, r0_6, r0_7, r0_8, r0_9, r0_10, r0_11, r0_12, r0_13, r0_16, r0_17, r0_18, r0_19, r0_20, r0_21, r0_22, r0_26, r0_27]
  obtain ⟨f18, c18, -⟩ := WT.ints hW (k := 18) rfl
  have ef18 : f18 = zx := arrinj ((cgetI c18 0).symm.trans ex)
  rw [ef18] at c18
  obtain ⟨f19, c19, -⟩ := WT.ints hW (k := 19) rfl
  have ef19 : f19 = zy := arrinj ((cgetI c19 0).symm.trans ey)
  rw [ef19] at c19
  have h2 := cl_X11_think l G (ad 0) y0_0 (g0 1) (g0 2) y0_3 (ad 2) (ad 3) (ad 4) (ad 5) (ad 6) (ad 7) y0_10 (ad 8) (ad 9) (ad 10) (g0 14) (g0 15) y0_16 (ad 13) (ad 14) y0_19 y0_20 y0_21 y0_22 (g0 23) (g0 24) (g0 25) (ad 18) (ad 19) (g0 28) (g0 29) (g0 30) (g0 31) (g0 32) (g0 33) (g0 34) (g0 35) (g0 36) (g0 37) (g0 38) (g0 39) (g0 40) (g0 41) (g0 42) (g0 43) (g0 44) (g0 45) (g0 46) (g0 47) (g0 48) (g0 49) (g0 50) (g0 51) (g0 52) (g0 53) (g0 54) (g0 55) (g0 56) (g0 57) (g0 58) (g0 59) (g0 60) (g0 61) (g0 62) (g0 63) (g0 64) (g0 65) (g0 66) (g0 67) (g0 68) (g0 69) (g0 70) (g0 71) (g0 72) (g0 73) (g0 74) zx zy aq bq cq aq.toInt bq.toInt cq.toInt rfl rfl rfl 
  refine Ct.weak (Ct.and (show Ct l G yX11_think cX11_think 4 (some .boolean) { frames := 2, cells := 0, slots := 0, locals := 47 } [.ref (ad 0), .int aq, .int bq, .int cq] w0 (fun r w1 => POST G ad TM C_X11_think_0 (fun k => ((Value.ref (ad 0) :: [.int aq, .int bq, .int cq])[k]?).getD .null) w0 r w1) from ac_X11_think_0 l G ad w0 _ hW (pre_mu (C := C_X11_think_0) (ts := [tI0, tI0, tI0]) (As := [.int aq, .int bq, .int cq]) rfl rfl rfl rfl ⟨fun _ => vty_i0 _, fun _ => vty_i0 _, fun _ => vty_i0 _, trivial⟩ ad w0 rfl)) h2 [0, 18, 19] (pk_cons c0 (pk_cons c18 (pk_cons c19 rfl))) (by decide)) ?_
  rintro r w1 ⟨hp, w2, ⟨k1, k2, h1, h2_, rfl, rfl⟩, hS⟩
  obtain ⟨A1, hA1, μ2, -, -, -, -, -, -, hW1, hF1⟩ := hp
  obtain ⟨fs0, -, u0, ul0, -, -⟩ := WT.obj hW1 (k := 0) (j := 0) rfl rfl
  obtain ⟨p18, u18, -⟩ := WT.ints hW1 (k := 18) rfl
  obtain ⟨p19, u19, -⟩ := WT.ints hW1 (k := 19) rfl
  exact ⟨hW1, hF1, ⟨_, rfl⟩, ⟨p18, cgetI u18 0, fun k hk => by rw [← h1]; exact (same_I hS (k := 18) (j := 1) u18 rfl) k hk⟩, ⟨p19, cgetI u19 0, fun k hk => by rw [← h2_]; exact (same_I hS (k := 19) (j := 2) u19 rfl) k hk⟩⟩
set_option maxHeartbeats 4000000 in
set_option maxRecDepth 100000 in
theorem ac_sex (l : Launch) (G : KG) {ad : Nat → Nat} {w0 : va_W} {h pq : Int32} {zp zx zy zr zh zt : Nat → Int32} (hW : WT G ad TX w0) (eh : fget w0 5 0 = some (.int h)) (ezp : cget w0 6 0 = some (.inr (cyI G, 16, .inl zp))) (ezx : cget w0 7 0 = some (.inr (cyI G, 16, .inl zx))) (ezy : cget w0 8 0 = some (.inr (cyI G, 16, .inl zy))) (ezr : cget w0 9 0 = some (.inr (cyI G, 16, .inl zr))) (ezh : cget w0 10 0 = some (.inr (cyI G, 16, .inl zh))) (ezt : cget w0 105 0 = some (.inr (cyI G, 8, .inl zt))) (hsb : 0 ≤ pq.toInt ∧ pq.toInt ≤ 1 → SB h.toInt zp zh zr zx zy (tX zt pq) (tY zt pq)) : Ct l G yX10_settle cX10_settle 3 (some .int) { frames := 5, cells := 0, slots := 0, locals := 129 } [.ref (ad 0), .int pq] w0 (fun r w1 => WT G ad TX w1 ∧ FRM C_t_X10_settle_0.2.2.2.2.1 w0 w1 ∧ (∃ (v : Int32) (q : Nat → Int32), r = some (.int v) ∧ SetE h.toInt zp zr zx zy (tX zt pq) (tY zt pq) pq.toInt zh v q ∧ CQ G w1 10 16 q)) := by
  obtain ⟨g0, q0, t0⟩ := WT.tab hW (k := 0) rfl
  have r0_2 : g0 2 = .ref (ad 5) := vty2 (t0 2 _ rfl).1 rfl
  have r0_11 : g0 11 = .ref (ad 105) := vty2 (t0 11 _ rfl).1 rfl
  have c0 : w0[0]? = some ((ad 0), ob 10 [(g0 0), (g0 1), .ref (ad 5), (g0 3), (g0 4), (g0 5), (g0 6), (g0 7), (g0 8), (g0 9), (g0 10), .ref (ad 105), (g0 12), (g0 13), (g0 14), (g0 15)]) := by
    rw [q0]
    show some (ad 0, ob 10 [g0 0, g0 1, g0 2, g0 3, g0 4, g0 5, g0 6, g0 7, g0 8, g0 9, g0 10, g0 11, g0 12, g0 13, g0 14, g0 15]) = _
    rw [r0_2, r0_11]
  obtain ⟨g5, q5, t5⟩ := WT.tab hW (k := 5) rfl
  have r5_0 : g5 0 = .int h := Option.some.inj ((t5 0 _ rfl).2.symm.trans eh)
  have b5_0 : 0 ≤ h.toInt ∧ h.toInt ≤ 16 := by
    have h := (t5 0 _ rfl).1
    rw [r5_0] at h
    obtain ⟨y, e, l1, u1⟩ := vty0 h rfl
    obtain rfl := Value.int.inj e
    exact ⟨l1, u1⟩
  have r5_1 : g5 1 = .ref (ad 6) := vty2 (t5 1 _ rfl).1 rfl
  have r5_2 : g5 2 = .ref (ad 7) := vty2 (t5 2 _ rfl).1 rfl
  have r5_3 : g5 3 = .ref (ad 8) := vty2 (t5 3 _ rfl).1 rfl
  have r5_4 : g5 4 = .ref (ad 9) := vty2 (t5 4 _ rfl).1 rfl
  have r5_5 : g5 5 = .ref (ad 10) := vty2 (t5 5 _ rfl).1 rfl
  obtain ⟨y5_7, r5_7, -, -⟩ := vty0 (t5 7 _ rfl).1 rfl
  obtain ⟨y5_8, r5_8, -, -⟩ := vty0 (t5 8 _ rfl).1 rfl
  have c5 : w0[5]? = some ((ad 5), ob 5 [.int h, .ref (ad 6), .ref (ad 7), .ref (ad 8), .ref (ad 9), .ref (ad 10), (g5 6), .int y5_7, .int y5_8]) := by
    rw [q5]
    show some (ad 5, ob 5 [g5 0, g5 1, g5 2, g5 3, g5 4, g5 5, g5 6, g5 7, g5 8]) = _
    rw [r5_0, r5_1, r5_2, r5_3, r5_4, r5_5, r5_7, r5_8]
  obtain ⟨f6, c6, -⟩ := WT.ints hW (k := 6) rfl
  have ef6 : f6 = zp := arrinj ((cgetI c6 0).symm.trans ezp)
  rw [ef6] at c6
  obtain ⟨f7, c7, -⟩ := WT.ints hW (k := 7) rfl
  have ef7 : f7 = zx := arrinj ((cgetI c7 0).symm.trans ezx)
  rw [ef7] at c7
  obtain ⟨f8, c8, -⟩ := WT.ints hW (k := 8) rfl
  have ef8 : f8 = zy := arrinj ((cgetI c8 0).symm.trans ezy)
  rw [ef8] at c8
  obtain ⟨f9, c9, -⟩ := WT.ints hW (k := 9) rfl
  have ef9 : f9 = zr := arrinj ((cgetI c9 0).symm.trans ezr)
  rw [ef9] at c9
  obtain ⟨f10, c10, -⟩ := WT.ints hW (k := 10) rfl
  have ef10 : f10 = zh := arrinj ((cgetI c10 0).symm.trans ezh)
  rw [ef10] at c10
  obtain ⟨f105, c105, -⟩ := WT.ints hW (k := 105) rfl
  have ef105 : f105 = zt := arrinj ((cgetI c105 0).symm.trans ezt)
  rw [ef105] at c105
  have h2 := cg_X10_settle l G (ad 0) (g0 0) (g0 1) (ad 5) (g0 3) (g0 4) (g0 5) (g0 6) (g0 7) (g0 8) (g0 9) (g0 10) (ad 105) (g0 12) (g0 13) (g0 14) (g0 15) h (ad 6) (ad 7) (ad 8) (ad 9) (ad 10) (g5 6) y5_7 y5_8 zp zx zy zr zh zt pq h.toInt pq.toInt rfl rfl (by omega) hsb
  refine Ct.weak (Ct.and (show Ct l G yX10_settle cX10_settle 3 (some .int) { frames := 5, cells := 0, slots := 0, locals := 129 } [.ref (ad 0), .int pq] w0 (fun r w1 => POST G ad TX C_t_X10_settle_0 (fun k => ((Value.ref (ad 0) :: [.int pq])[k]?).getD .null) w0 r w1) from ac_t_X10_settle_0 l G ad w0 _ hW (pre_mu (C := C_t_X10_settle_0) (ts := [tI0]) (As := [.int pq]) rfl rfl rfl rfl ⟨fun _ => vty_i0 _, trivial⟩ ad w0 rfl)) h2 [0, 5, 6, 7, 8, 9, 10, 105] (pk_cons c0 (pk_cons c5 (pk_cons c6 (pk_cons c7 (pk_cons c8 (pk_cons c9 (pk_cons c10 (pk_cons c105 rfl)))))))) (by decide)) ?_
  rintro r w1 ⟨hp, w2, ⟨rz, fh2, hs, rfl, rfl⟩, hS⟩
  obtain ⟨A1, hA1, μ2, -, -, -, -, -, -, hW1, hF1⟩ := hp
  obtain ⟨fs0, -, u0, ul0, -, -⟩ := WT.obj hW1 (k := 0) (j := 0) rfl rfl
  obtain ⟨fs5, -, u5, ul5, -, -⟩ := WT.obj hW1 (k := 5) (j := 0) rfl rfl
  obtain ⟨p6, u6, -⟩ := WT.ints hW1 (k := 6) rfl
  obtain ⟨p7, u7, -⟩ := WT.ints hW1 (k := 7) rfl
  obtain ⟨p8, u8, -⟩ := WT.ints hW1 (k := 8) rfl
  obtain ⟨p9, u9, -⟩ := WT.ints hW1 (k := 9) rfl
  obtain ⟨p10, u10, -⟩ := WT.ints hW1 (k := 10) rfl
  obtain ⟨p105, u105, -⟩ := WT.ints hW1 (k := 105) rfl
  exact ⟨hW1, hF1, rz, fh2, rfl, hs, p10, cgetI u10 0, fun k hk => (same_I hS (k := 10) (j := 6) u10 rfl) k hk⟩
set_option maxHeartbeats 4000000 in
set_option maxRecDepth 100000 in
theorem ac_sem (l : Launch) (G : KG) {ad : Nat → Nat} {w0 : va_W} {h pq : Int32} {zp zx zy zr zh zX zY : Nat → Int32} (hW : WT G ad TM w0) (eh : fget w0 0 3 = some (.int h)) (ezp : cget w0 2 0 = some (.inr (cyI G, 16, .inl zp))) (ezx : cget w0 3 0 = some (.inr (cyI G, 16, .inl zx))) (ezy : cget w0 4 0 = some (.inr (cyI G, 16, .inl zy))) (ezr : cget w0 5 0 = some (.inr (cyI G, 16, .inl zr))) (ezh : cget w0 6 0 = some (.inr (cyI G, 16, .inl zh))) (ezX : cget w0 18 0 = some (.inr (cyI G, 4, .inl zX))) (ezY : cget w0 19 0 = some (.inr (cyI G, 4, .inl zY))) : Ct l G yX11_settle cX11_settle 9 (some .int) { frames := 3, cells := 0, slots := 0, locals := 69 } [.ref (ad 0), .int pq] w0 (fun r w1 => WT G ad TM w1 ∧ FRM C_settle.2.2.2.2.1 w0 w1 ∧ (∃ (v : Int32) (q : Nat → Int32), r = some (.int v) ∧ SetE h.toInt zp zr zx zy (zX pq.toNatClampNeg) (zY pq.toNatClampNeg) pq.toInt zh v q ∧ CQ G w1 6 16 q)) := by
  obtain ⟨g0, q0, t0⟩ := WT.tab hW (k := 0) rfl
  obtain ⟨y0_0, r0_0, -, -⟩ := vty0 (t0 0 _ rfl).1 rfl
  have r0_3 : g0 3 = .int h := Option.some.inj ((t0 3 _ rfl).2.symm.trans eh)
  have b0_3 : 0 ≤ h.toInt ∧ h.toInt ≤ 16 := by
    have h := (t0 3 _ rfl).1
    rw [r0_3] at h
    obtain ⟨y, e, l1, u1⟩ := vty0 h rfl
    obtain rfl := Value.int.inj e
    exact ⟨l1, u1⟩
  have r0_4 : g0 4 = .ref (ad 2) := vty2 (t0 4 _ rfl).1 rfl
  have r0_5 : g0 5 = .ref (ad 3) := vty2 (t0 5 _ rfl).1 rfl
  have r0_6 : g0 6 = .ref (ad 4) := vty2 (t0 6 _ rfl).1 rfl
  have r0_7 : g0 7 = .ref (ad 5) := vty2 (t0 7 _ rfl).1 rfl
  have r0_8 : g0 8 = .ref (ad 6) := vty2 (t0 8 _ rfl).1 rfl
  have r0_9 : g0 9 = .ref (ad 7) := vty2 (t0 9 _ rfl).1 rfl
  obtain ⟨y0_10, r0_10, -, -⟩ := vty0 (t0 10 _ rfl).1 rfl
  have r0_11 : g0 11 = .ref (ad 8) := vty2 (t0 11 _ rfl).1 rfl
  have r0_12 : g0 12 = .ref (ad 9) := vty2 (t0 12 _ rfl).1 rfl
  have r0_13 : g0 13 = .ref (ad 10) := vty2 (t0 13 _ rfl).1 rfl
  obtain ⟨y0_16, r0_16, -, -⟩ := vty0 (t0 16 _ rfl).1 rfl
  have r0_17 : g0 17 = .ref (ad 13) := vty2 (t0 17 _ rfl).1 rfl
  have r0_18 : g0 18 = .ref (ad 14) := vty2 (t0 18 _ rfl).1 rfl
  obtain ⟨y0_19, r0_19, -, -⟩ := vty0 (t0 19 _ rfl).1 rfl
  obtain ⟨y0_20, r0_20, -, -⟩ := vty0 (t0 20 _ rfl).1 rfl
  obtain ⟨y0_21, r0_21, -, -⟩ := vty0 (t0 21 _ rfl).1 rfl
  obtain ⟨y0_22, r0_22, -, -⟩ := vty0 (t0 22 _ rfl).1 rfl
  have r0_26 : g0 26 = .ref (ad 18) := vty2 (t0 26 _ rfl).1 rfl
  have r0_27 : g0 27 = .ref (ad 19) := vty2 (t0 27 _ rfl).1 rfl
  obtain ⟨y0_28, r0_28, -, -⟩ := vty0 (t0 28 _ rfl).1 rfl
  obtain ⟨y0_29, r0_29, -, -⟩ := vty0 (t0 29 _ rfl).1 rfl
  have r0_30 : g0 30 = .ref (ad 20) := vty2 (t0 30 _ rfl).1 rfl
  obtain ⟨y0_65, r0_65, -, -⟩ := vty1 (t0 65 _ rfl).1 rfl
  have c0 : w0[0]? = some ((ad 0), ob 11 [.int y0_0, (g0 1), (g0 2), .int h, .ref (ad 2), .ref (ad 3), .ref (ad 4), .ref (ad 5), .ref (ad 6), .ref (ad 7), .int y0_10, .ref (ad 8), .ref (ad 9), .ref (ad 10), (g0 14), (g0 15), .int y0_16, .ref (ad 13), .ref (ad 14), .int y0_19, .int y0_20, .int y0_21, .int y0_22, (g0 23), (g0 24), (g0 25), .ref (ad 18), .ref (ad 19), .int y0_28, .int y0_29, .ref (ad 20), (g0 31), (g0 32), (g0 33), (g0 34), (g0 35), (g0 36), (g0 37), (g0 38), (g0 39), (g0 40), (g0 41), (g0 42), (g0 43), (g0 44), (g0 45), (g0 46), (g0 47), (g0 48), (g0 49), (g0 50), (g0 51), (g0 52), (g0 53), (g0 54), (g0 55), (g0 56), (g0 57), (g0 58), (g0 59), (g0 60), (g0 61), (g0 62), (g0 63), (g0 64), .long y0_65, (g0 66), (g0 67), (g0 68), (g0 69), (g0 70), (g0 71), (g0 72), (g0 73), (g0 74)]) := by
    rw [q0]
    show some (ad 0, ob 11 [g0 0, g0 1, g0 2, g0 3, g0 4, g0 5, g0 6, g0 7, g0 8, g0 9, g0 10, g0 11, g0 12, g0 13, g0 14, g0 15, g0 16, g0 17, g0 18, g0 19, g0 20, g0 21, g0 22, g0 23, g0 24, g0 25, g0 26, g0 27, g0 28, g0 29, g0 30, g0 31, g0 32, g0 33, g0 34, g0 35, g0 36, g0 37, g0 38, g0 39, g0 40, g0 41, g0 42, g0 43, g0 44, g0 45, g0 46, g0 47, g0 48, g0 49, g0 50, g0 51, g0 52, g0 53, g0 54, g0 55, g0 56, g0 57, g0 58, g0 59, g0 60, g0 61, g0 62, g0 63, g0 64, g0 65, g0 66, g0 67, g0 68, g0 69, g0 70, g0 71, g0 72, g0 73, g0 74]) = _
    rw [r0_0, r0_3, r0_4, r0_5, r0_6, r0_7, r0_8, r0_9, r0_10, r0_11, r0_12, r0_13, r0_16, r0_17, r0_18, r0_19, r0_20, r0_21, r0_22, r0_26, r0_27, r0_28, r0_29, r0_30, r0_65]
  obtain ⟨f20, c20, -⟩ := WT.ints hW (k := 20) rfl
  obtain ⟨f2, c2, -⟩ := WT.ints hW (k := 2) rfl
  have ef2 : f2 = zp := arrinj ((cgetI c2 0).symm.trans ezp)
  rw [ef2] at c2
  obtain ⟨f3, c3, -⟩ := WT.ints hW (k := 3) rfl
  have ef3 : f3 = zx := arrinj ((cgetI c3 0).symm.trans ezx)
  rw [ef3] at c3
  obtain ⟨f4, c4, -⟩ := WT.ints hW (k := 4) rfl
  have ef4 : f4 = zy := arrinj ((cgetI c4 0).symm.trans ezy)
  rw [ef4] at c4
  obtain ⟨f6, c6, -⟩ := WT.ints hW (k := 6) rfl
  have ef6 : f6 = zh := arrinj ((cgetI c6 0).symm.trans ezh)
  rw [ef6] at c6
  obtain ⟨f5, c5, -⟩ := WT.ints hW (k := 5) rfl
  have ef5 : f5 = zr := arrinj ((cgetI c5 0).symm.trans ezr)
  rw [ef5] at c5
  obtain ⟨f18, c18, -⟩ := WT.ints hW (k := 18) rfl
  have ef18 : f18 = zX := arrinj ((cgetI c18 0).symm.trans ezX)
  rw [ef18] at c18
  obtain ⟨f19, c19, -⟩ := WT.ints hW (k := 19) rfl
  have ef19 : f19 = zY := arrinj ((cgetI c19 0).symm.trans ezY)
  rw [ef19] at c19
  have hpl := ref_plane hW eh ezp
  have h2 := cg_X11_settle l G (ad 0) y0_0 (g0 1) (g0 2) h (ad 2) (ad 3) (ad 4) (ad 5) (ad 6) (ad 7) y0_10 (ad 8) (ad 9) (ad 10) (g0 14) (g0 15) y0_16 (ad 13) (ad 14) y0_19 y0_20 y0_21 y0_22 (g0 23) (g0 24) (g0 25) (ad 18) (ad 19) y0_28 y0_29 (ad 20) (g0 31) (g0 32) (g0 33) (g0 34) (g0 35) (g0 36) (g0 37) (g0 38) (g0 39) (g0 40) (g0 41) (g0 42) (g0 43) (g0 44) (g0 45) (g0 46) (g0 47) (g0 48) (g0 49) (g0 50) (g0 51) (g0 52) (g0 53) (g0 54) (g0 55) (g0 56) (g0 57) (g0 58) (g0 59) (g0 60) (g0 61) (g0 62) (g0 63) (g0 64) y0_65 (g0 66) (g0 67) (g0 68) (g0 69) (g0 70) (g0 71) (g0 72) (g0 73) (g0 74) zp zx zy zh f20 zr zX zY pq h.toInt pq.toInt rfl rfl (by omega) (by omega)
  refine Ct.weak (Ct.and (show Ct l G yX11_settle cX11_settle 9 (some .int) { frames := 3, cells := 0, slots := 0, locals := 69 } [.ref (ad 0), .int pq] w0 (fun r w1 => POST G ad TM C_settle (fun k => ((Value.ref (ad 0) :: [.int pq])[k]?).getD .null) w0 r w1) from ac_settle l G ad w0 _ hW (pre_mu (C := C_settle) (ts := [tI0]) (As := [.int pq]) rfl rfl rfl rfl ⟨fun _ => vty_i0 _, trivial⟩ ad w0 rfl)) h2 [0, 20, 2, 3, 4, 6, 5, 18, 19] (pk_cons c0 (pk_cons c20 (pk_cons c2 (pk_cons c3 (pk_cons c4 (pk_cons c6 (pk_cons c5 (pk_cons c18 (pk_cons c19 rfl))))))))) (by decide)) ?_
  rintro r w1 ⟨hp, w2, ⟨rz, fh2, fl2, q2, hs, rfl, rfl⟩, hS⟩
  obtain ⟨A1, hA1, μ2, -, -, -, -, -, -, hW1, hF1⟩ := hp
  obtain ⟨fs0, -, u0, ul0, -, -⟩ := WT.obj hW1 (k := 0) (j := 0) rfl rfl
  obtain ⟨p2, u2, -⟩ := WT.ints hW1 (k := 2) rfl
  obtain ⟨p3, u3, -⟩ := WT.ints hW1 (k := 3) rfl
  obtain ⟨p4, u4, -⟩ := WT.ints hW1 (k := 4) rfl
  obtain ⟨p5, u5, -⟩ := WT.ints hW1 (k := 5) rfl
  obtain ⟨p6, u6, -⟩ := WT.ints hW1 (k := 6) rfl
  obtain ⟨p18, u18, -⟩ := WT.ints hW1 (k := 18) rfl
  obtain ⟨p19, u19, -⟩ := WT.ints hW1 (k := 19) rfl
  obtain ⟨p20, u20, -⟩ := WT.ints hW1 (k := 20) rfl
  exact ⟨hW1, hF1, rz, fh2, rfl, hs, p6, cgetI u6 0, fun k hk => (same_I hS (k := 6) (j := 5) u6 rfl) k hk⟩
set_option maxHeartbeats 4000000 in
set_option maxRecDepth 100000 in
theorem ac_mi3x (l : Launch) (G : KG) {ad : Nat → Nat} {w0 : va_W} {n h s c : Int32} {f zp zr zf0 zo zw zx0 zy0 : Nat → Int32} (hW : WT G ad TX w0) (en : fget w0 3 1 = some (.int n)) (eh : fget w0 5 0 = some (.int h)) (es : fget w0 12 0 = some (.int s)) (ec : fget w0 18 0 = some (.int c)) (ef : cget w0 4 0 = some (.inr (cyI G, 80, .inl f))) (ep : cget w0 6 0 = some (.inr (cyI G, 16, .inl zp))) (er : cget w0 9 0 = some (.inr (cyI G, 16, .inl zr))) (ez : cget w0 13 0 = some (.inr (cyI G, 6, .inl zf0))) (eo : cget w0 14 0 = some (.inr (cyI G, 6, .inl zo))) (ew : cget w0 19 0 = some (.inr (cyI G, 8, .inl zw))) (exx : cget w0 7 0 = some (.inr (cyI G, 16, .inl zx0))) (eyy : cget w0 8 0 = some (.inr (cyI G, 16, .inl zy0))) : Ct l G yX10_mill cX10_mill 2 (some .int) { frames := 6, cells := 0, slots := 0, locals := 132 } [.ref (ad 0)] w0 (fun r w1 => WT G ad TX w1 ∧ FRM C_t_X10_mill_0.2.2.2.2.1 w0 w1 ∧ (MilE 3 1 5 0 12 0 18 0 n f h s c r w1 ∧ MilA G 5 0 12 0 18 0 6 9 13 14 19 f (if 60 < n then 60 else n) h s c zp zr zf0 zo zw w1 ∧ MilX G 5 0 7 8 f (if 60 < n then 60 else n) h s c zx0 zy0 w1)) := by
  obtain ⟨g0, q0, t0⟩ := WT.tab hW (k := 0) rfl
  have r0_1 : g0 1 = .ref (ad 3) := vty2 (t0 1 _ rfl).1 rfl
  have r0_2 : g0 2 = .ref (ad 5) := vty2 (t0 2 _ rfl).1 rfl
  have r0_3 : g0 3 = .ref (ad 12) := vty2 (t0 3 _ rfl).1 rfl
  have r0_4 : g0 4 = .ref (ad 18) := vty2 (t0 4 _ rfl).1 rfl
  have c0 : w0[0]? = some ((ad 0), ob 10 [(g0 0), .ref (ad 3), .ref (ad 5), .ref (ad 12), .ref (ad 18), (g0 5), (g0 6), (g0 7), (g0 8), (g0 9), (g0 10), (g0 11), (g0 12), (g0 13), (g0 14), (g0 15)]) := by
    rw [q0]
    show some (ad 0, ob 10 [g0 0, g0 1, g0 2, g0 3, g0 4, g0 5, g0 6, g0 7, g0 8, g0 9, g0 10, g0 11, g0 12, g0 13, g0 14, g0 15]) = _
    rw [r0_1, r0_2, r0_3, r0_4]
  obtain ⟨g3, q3, t3⟩ := WT.tab hW (k := 3) rfl
  have r3_0 : g3 0 = .ref (ad 4) := vty2 (t3 0 _ rfl).1 rfl
  have r3_1 : g3 1 = .int n := Option.some.inj ((t3 1 _ rfl).2.symm.trans en)
  have b3_1 : 0 ≤ n.toInt ∧ n.toInt ≤ 80 := by
    have h := (t3 1 _ rfl).1
    rw [r3_1] at h
    obtain ⟨y, e, l1, u1⟩ := vty0 h rfl
    obtain rfl := Value.int.inj e
    exact ⟨l1, u1⟩
  obtain ⟨y3_2, r3_2, -, -⟩ := vty0 (t3 2 _ rfl).1 rfl
  obtain ⟨y3_3, r3_3, -, -⟩ := vty0 (t3 3 _ rfl).1 rfl
  obtain ⟨y3_4, r3_4, -, -⟩ := vty0 (t3 4 _ rfl).1 rfl
  obtain ⟨y3_5, r3_5, -, -⟩ := vty0 (t3 5 _ rfl).1 rfl
  obtain ⟨y3_6, r3_6, -, -⟩ := vty0 (t3 6 _ rfl).1 rfl
  obtain ⟨y3_7, r3_7, -, -⟩ := vty0 (t3 7 _ rfl).1 rfl
  have c3 : w0[3]? = some ((ad 3), ob 4 [.ref (ad 4), .int n, .int y3_2, .int y3_3, .int y3_4, .int y3_5, .int y3_6, .int y3_7]) := by
    rw [q3]
    show some (ad 3, ob 4 [g3 0, g3 1, g3 2, g3 3, g3 4, g3 5, g3 6, g3 7]) = _
    rw [r3_0, r3_1, r3_2, r3_3, r3_4, r3_5, r3_6, r3_7]
  obtain ⟨f4, c4, -⟩ := WT.ints hW (k := 4) rfl
  have ef4 : f4 = f := arrinj ((cgetI c4 0).symm.trans ef)
  rw [ef4] at c4
  obtain ⟨g5, q5, t5⟩ := WT.tab hW (k := 5) rfl
  have r5_0 : g5 0 = .int h := Option.some.inj ((t5 0 _ rfl).2.symm.trans eh)
  have b5_0 : 0 ≤ h.toInt ∧ h.toInt ≤ 16 := by
    have h := (t5 0 _ rfl).1
    rw [r5_0] at h
    obtain ⟨y, e, l1, u1⟩ := vty0 h rfl
    obtain rfl := Value.int.inj e
    exact ⟨l1, u1⟩
  have r5_1 : g5 1 = .ref (ad 6) := vty2 (t5 1 _ rfl).1 rfl
  have r5_2 : g5 2 = .ref (ad 7) := vty2 (t5 2 _ rfl).1 rfl
  have r5_3 : g5 3 = .ref (ad 8) := vty2 (t5 3 _ rfl).1 rfl
  have r5_4 : g5 4 = .ref (ad 9) := vty2 (t5 4 _ rfl).1 rfl
  have c5 : w0[5]? = some ((ad 5), ob 5 [.int h, .ref (ad 6), .ref (ad 7), .ref (ad 8), .ref (ad 9), (g5 5), (g5 6), (g5 7), (g5 8)]) := by
    rw [q5]
    show some (ad 5, ob 5 [g5 0, g5 1, g5 2, g5 3, g5 4, g5 5, g5 6, g5 7, g5 8]) = _
    rw [r5_0, r5_1, r5_2, r5_3, r5_4]
  obtain ⟨f6, c6, -⟩ := WT.ints hW (k := 6) rfl
  have ef6 : f6 = zp := arrinj ((cgetI c6 0).symm.trans ep)
  rw [ef6] at c6
  obtain ⟨f7, c7, -⟩ := WT.ints hW (k := 7) rfl
  have ef7 : f7 = zx0 := arrinj ((cgetI c7 0).symm.trans exx)
  rw [ef7] at c7
  obtain ⟨f8, c8, -⟩ := WT.ints hW (k := 8) rfl
  have ef8 : f8 = zy0 := arrinj ((cgetI c8 0).symm.trans eyy)
  rw [ef8] at c8
  obtain ⟨f9, c9, -⟩ := WT.ints hW (k := 9) rfl
  have ef9 : f9 = zr := arrinj ((cgetI c9 0).symm.trans er)
  rw [ef9] at c9
  obtain ⟨g12, q12, t12⟩ := WT.tab hW (k := 12) rfl
  have r12_0 : g12 0 = .int s := Option.some.inj ((t12 0 _ rfl).2.symm.trans es)
  have b12_0 : 0 ≤ s.toInt ∧ s.toInt ≤ 6 := by
    have h := (t12 0 _ rfl).1
    rw [r12_0] at h
    obtain ⟨y, e, l1, u1⟩ := vty0 h rfl
    obtain rfl := Value.int.inj e
    exact ⟨l1, u1⟩
  have r12_1 : g12 1 = .ref (ad 13) := vty2 (t12 1 _ rfl).1 rfl
  have r12_2 : g12 2 = .ref (ad 14) := vty2 (t12 2 _ rfl).1 rfl
  have c12 : w0[12]? = some ((ad 12), ob 7 [.int s, .ref (ad 13), .ref (ad 14), (g12 3), (g12 4), (g12 5)]) := by
    rw [q12]
    show some (ad 12, ob 7 [g12 0, g12 1, g12 2, g12 3, g12 4, g12 5]) = _
    rw [r12_0, r12_1, r12_2]
  obtain ⟨f13, c13, -⟩ := WT.ints hW (k := 13) rfl
  have ef13 : f13 = zf0 := arrinj ((cgetI c13 0).symm.trans ez)
  rw [ef13] at c13
  obtain ⟨f14, c14, -⟩ := WT.ints hW (k := 14) rfl
  have ef14 : f14 = zo := arrinj ((cgetI c14 0).symm.trans eo)
  rw [ef14] at c14
  obtain ⟨g18, q18, t18⟩ := WT.tab hW (k := 18) rfl
  have r18_0 : g18 0 = .int c := Option.some.inj ((t18 0 _ rfl).2.symm.trans ec)
  have b18_0 : 0 ≤ c.toInt ∧ c.toInt ≤ 8 := by
    have h := (t18 0 _ rfl).1
    rw [r18_0] at h
    obtain ⟨y, e, l1, u1⟩ := vty0 h rfl
    obtain rfl := Value.int.inj e
    exact ⟨l1, u1⟩
  have r18_1 : g18 1 = .ref (ad 19) := vty2 (t18 1 _ rfl).1 rfl
  have c18 : w0[18]? = some ((ad 18), ob 0 [.int c, .ref (ad 19), (g18 2), (g18 3), (g18 4), (g18 5), (g18 6)]) := by
    rw [q18]
    show some (ad 18, ob 0 [g18 0, g18 1, g18 2, g18 3, g18 4, g18 5, g18 6]) = _
    rw [r18_0, r18_1]
  obtain ⟨f19, c19, -⟩ := WT.ints hW (k := 19) rfl
  have ef19 : f19 = zw := arrinj ((cgetI c19 0).symm.trans ew)
  rw [ef19] at c19
  have h2 := cm_X10_mill l G (ad 0) (g0 0) (g0 5) (g0 6) (g0 7) (g0 8) (g0 9) (g0 10) (g0 11) (g0 12) (g0 13) (g0 14) (g0 15) (ad 3) (ad 4) f n y3_2 y3_3 y3_4 y3_5 y3_6 y3_7 (ad 5) (ad 6) (ad 7) (ad 8) (ad 9) h (g5 5) (g5 6) (g5 7) (g5 8) zp zx0 zy0 zr (ad 12) (ad 13) (ad 14) s (g12 3) (g12 4) (g12 5) zf0 zo (ad 18) (ad 19) c (g18 2) (g18 3) (g18 4) (g18 5) (g18 6) zw n.toInt h.toInt s.toInt c.toInt rfl rfl rfl rfl (by omega) (by omega)
  refine Ct.weak (Ct.and (show Ct l G yX10_mill cX10_mill 2 (some .int) { frames := 6, cells := 0, slots := 0, locals := 132 } [.ref (ad 0)] w0 (fun r w1 => POST G ad TX C_t_X10_mill_0 (fun k => ((Value.ref (ad 0) :: ([] : List Value))[k]?).getD .null) w0 r w1) from ac_t_X10_mill_0 l G ad w0 _ hW (pre_mu (C := C_t_X10_mill_0) (ts := []) (As := []) rfl rfl rfl rfl trivial ad w0 rfl)) h2 [0, 3, 4, 5, 6, 7, 8, 9, 12, 13, 14, 18, 19] (pk_cons c0 (pk_cons c3 (pk_cons c4 (pk_cons c5 (pk_cons c6 (pk_cons c7 (pk_cons c8 (pk_cons c9 (pk_cons c12 (pk_cons c13 (pk_cons c14 (pk_cons c18 (pk_cons c19 rfl))))))))))))) (by decide)) ?_
  rintro r w1 ⟨hp, w2, ⟨lim2, q, m, mh2, ms2, mc2, hc2, sc2, cc2, fp2, fx2, fy2, fr2, ff2, fo2, fw2, rz, hCN, hA7, hB, rfl, rfl⟩, hS⟩
  obtain ⟨A1, hA1, μ2, -, -, -, -, -, -, hW1, hF1⟩ := hp
  obtain ⟨fs0, -, u0, ul0, -, -⟩ := WT.obj hW1 (k := 0) (j := 0) rfl rfl
  obtain ⟨fs3, -, u3, ul3, -, -⟩ := WT.obj hW1 (k := 3) (j := 0) rfl rfl
  obtain ⟨p4, u4, -⟩ := WT.ints hW1 (k := 4) rfl
  obtain ⟨fs5, -, u5, ul5, -, -⟩ := WT.obj hW1 (k := 5) (j := 0) rfl rfl
  obtain ⟨p6, u6, -⟩ := WT.ints hW1 (k := 6) rfl
  obtain ⟨p7, u7, -⟩ := WT.ints hW1 (k := 7) rfl
  obtain ⟨p8, u8, -⟩ := WT.ints hW1 (k := 8) rfl
  obtain ⟨p9, u9, -⟩ := WT.ints hW1 (k := 9) rfl
  obtain ⟨fs12, -, u12, ul12, -, -⟩ := WT.obj hW1 (k := 12) (j := 0) rfl rfl
  obtain ⟨p13, u13, -⟩ := WT.ints hW1 (k := 13) rfl
  obtain ⟨p14, u14, -⟩ := WT.ints hW1 (k := 14) rfl
  obtain ⟨fs18, -, u18, ul18, -, -⟩ := WT.obj hW1 (k := 18) (j := 0) rfl rfl
  obtain ⟨p19, u19, -⟩ := WT.ints hW1 (k := 19) rfl
  exact ⟨hW1, hF1, ⟨rz, hc2, sc2, cc2, rfl, hCN, hB, (same_f hS (k := 3) (j := 1) (q := (RX4, TX4, 8)) rfl u3 rfl (by decide) ul3 rfl), (same_f hS (k := 5) (j := 3) (q := (RX5, TX5, 9)) rfl u5 rfl (by decide) ul5 rfl), (same_f hS (k := 12) (j := 8) (q := (RX7, TX7, 6)) rfl u12 rfl (by decide) ul12 rfl), (same_f hS (k := 18) (j := 11) (q := (RX0, TX0, 7)) rfl u18 rfl (by decide) ul18 rfl)⟩, ⟨hc2, sc2, cc2, ⟨(same_f hS (k := 5) (j := 3) (q := (RX5, TX5, 9)) rfl u5 rfl (by decide) ul5 rfl), (same_f hS (k := 12) (j := 8) (q := (RX7, TX7, 6)) rfl u12 rfl (by decide) ul12 rfl), (same_f hS (k := 18) (j := 11) (q := (RX0, TX0, 7)) rfl u18 rfl (by decide) ul18 rfl)⟩, AFc.of hA7.1 (cgetI u6 0) (same_I hS (k := 6) (j := 4) u6 rfl), AFc.of hA7.2.2.2.1 (cgetI u9 0) (same_I hS (k := 9) (j := 7) u9 rfl), AFc.of hA7.2.2.2.2.1 (cgetI u13 0) (same_I hS (k := 13) (j := 9) u13 rfl), AFc.of hA7.2.2.2.2.2.1 (cgetI u14 0) (same_I hS (k := 14) (j := 10) u14 rfl), AFc.of hA7.2.2.2.2.2.2 (cgetI u19 0) (same_I hS (k := 19) (j := 12) u19 rfl)⟩, ⟨hc2, (same_f hS (k := 5) (j := 3) (q := (RX5, TX5, 9)) rfl u5 rfl (by decide) ul5 rfl), AFc.of hA7.2.1 (cgetI u7 0) (same_I hS (k := 7) (j := 5) u7 rfl), AFc.of hA7.2.2.1 (cgetI u8 0) (same_I hS (k := 8) (j := 6) u8 rfl)⟩⟩
set_option maxHeartbeats 4000000 in
set_option maxRecDepth 100000 in
theorem ac_mi3m (l : Launch) (G : KG) {ad : Nat → Nat} {w0 : va_W} {n h s c : Int32} {f zp zr zf0 zo zw zx0 zy0 zd zh : Nat → Int32} (hW : WT G ad TM w0) (en : fget w0 0 19 = some (.int n)) (eh : fget w0 0 3 = some (.int h)) (es : fget w0 0 10 = some (.int s)) (ec : fget w0 0 16 = some (.int c)) (ef : cget w0 14 0 = some (.inr (cyI G, 80, .inl f))) (ep : cget w0 2 0 = some (.inr (cyI G, 16, .inl zp))) (er : cget w0 5 0 = some (.inr (cyI G, 16, .inl zr))) (ez : cget w0 8 0 = some (.inr (cyI G, 6, .inl zf0))) (eo : cget w0 9 0 = some (.inr (cyI G, 6, .inl zo))) (ew : cget w0 13 0 = some (.inr (cyI G, 8, .inl zw))) (exx : cget w0 3 0 = some (.inr (cyI G, 16, .inl zx0))) (eyy : cget w0 4 0 = some (.inr (cyI G, 16, .inl zy0))) (ed : cget w0 7 0 = some (.inr (cyI G, 16, .inl zd))) (eh6 : cget w0 6 0 = some (.inr (cyI G, 16, .inl zh))) : Ct l G yX11_mill cX11_mill 10 (some .int) { frames := 5, cells := 0, slots := 0, locals := 110 } [.ref (ad 0)] w0 (fun r w1 => WT G ad TM w1 ∧ FRM C_mill1.2.2.2.2.1 w0 w1 ∧ (MilE 0 19 0 3 0 10 0 16 n f h s c r w1 ∧ MilA G 0 3 0 10 0 16 2 5 8 9 13 f (if 60 < n then 60 else n) h s c zp zr zf0 zo zw w1 ∧ MilX G 0 3 3 4 f (if 60 < n then 60 else n) h s c zx0 zy0 w1 ∧ MilD G 0 3 7 f (if 60 < n then 60 else n) h s c zd w1 ∧ MilD G 0 3 6 f (if 60 < n then 60 else n) h s c zh w1)) := by
  obtain ⟨g0, q0, t0⟩ := WT.tab hW (k := 0) rfl
  obtain ⟨y0_0, r0_0, -, -⟩ := vty0 (t0 0 _ rfl).1 rfl
  have r0_3 : g0 3 = .int h := Option.some.inj ((t0 3 _ rfl).2.symm.trans eh)
  have b0_3 : 0 ≤ h.toInt ∧ h.toInt ≤ 16 := by
    have h := (t0 3 _ rfl).1
    rw [r0_3] at h
    obtain ⟨y, e, l1, u1⟩ := vty0 h rfl
    obtain rfl := Value.int.inj e
    exact ⟨l1, u1⟩
  have r0_4 : g0 4 = .ref (ad 2) := vty2 (t0 4 _ rfl).1 rfl
  have r0_5 : g0 5 = .ref (ad 3) := vty2 (t0 5 _ rfl).1 rfl
  have r0_6 : g0 6 = .ref (ad 4) := vty2 (t0 6 _ rfl).1 rfl
  have r0_7 : g0 7 = .ref (ad 5) := vty2 (t0 7 _ rfl).1 rfl
  have r0_8 : g0 8 = .ref (ad 6) := vty2 (t0 8 _ rfl).1 rfl
  have r0_9 : g0 9 = .ref (ad 7) := vty2 (t0 9 _ rfl).1 rfl
  have r0_10 : g0 10 = .int s := Option.some.inj ((t0 10 _ rfl).2.symm.trans es)
  have b0_10 : 0 ≤ s.toInt ∧ s.toInt ≤ 6 := by
    have h := (t0 10 _ rfl).1
    rw [r0_10] at h
    obtain ⟨y, e, l1, u1⟩ := vty0 h rfl
    obtain rfl := Value.int.inj e
    exact ⟨l1, u1⟩
  have r0_11 : g0 11 = .ref (ad 8) := vty2 (t0 11 _ rfl).1 rfl
  have r0_12 : g0 12 = .ref (ad 9) := vty2 (t0 12 _ rfl).1 rfl
  have r0_13 : g0 13 = .ref (ad 10) := vty2 (t0 13 _ rfl).1 rfl
  have r0_16 : g0 16 = .int c := Option.some.inj ((t0 16 _ rfl).2.symm.trans ec)
  have b0_16 : 0 ≤ c.toInt ∧ c.toInt ≤ 8 := by
    have h := (t0 16 _ rfl).1
    rw [r0_16] at h
    obtain ⟨y, e, l1, u1⟩ := vty0 h rfl
    obtain rfl := Value.int.inj e
    exact ⟨l1, u1⟩
  have r0_17 : g0 17 = .ref (ad 13) := vty2 (t0 17 _ rfl).1 rfl
  have r0_18 : g0 18 = .ref (ad 14) := vty2 (t0 18 _ rfl).1 rfl
  have r0_19 : g0 19 = .int n := Option.some.inj ((t0 19 _ rfl).2.symm.trans en)
  have b0_19 : 0 ≤ n.toInt ∧ n.toInt ≤ 80 := by
    have h := (t0 19 _ rfl).1
    rw [r0_19] at h
    obtain ⟨y, e, l1, u1⟩ := vty0 h rfl
    obtain rfl := Value.int.inj e
    exact ⟨l1, u1⟩
  obtain ⟨y0_20, r0_20, -, -⟩ := vty0 (t0 20 _ rfl).1 rfl
  obtain ⟨y0_21, r0_21, -, -⟩ := vty0 (t0 21 _ rfl).1 rfl
  obtain ⟨y0_22, r0_22, -, -⟩ := vty0 (t0 22 _ rfl).1 rfl
  have c0 : w0[0]? = some ((ad 0), ob 11 [.int y0_0, (g0 1), (g0 2), .int h, .ref (ad 2), .ref (ad 3), .ref (ad 4), .ref (ad 5), .ref (ad 6), .ref (ad 7), .int s, .ref (ad 8), .ref (ad 9), .ref (ad 10), (g0 14), (g0 15), .int c, .ref (ad 13), .ref (ad 14), .int n, .int y0_20, .int y0_21, .int y0_22, (g0 23), (g0 24), (g0 25), (g0 26), (g0 27), (g0 28), (g0 29), (g0 30), (g0 31), (g0 32), (g0 33), (g0 34), (g0 35), (g0 36), (g0 37), (g0 38), (g0 39), (g0 40), (g0 41), (g0 42), (g0 43), (g0 44), (g0 45), (g0 46), (g0 47), (g0 48), (g0 49), (g0 50), (g0 51), (g0 52), (g0 53), (g0 54), (g0 55), (g0 56), (g0 57), (g0 58), (g0 59), (g0 60), (g0 61), (g0 62), (g0 63), (g0 64), (g0 65), (g0 66), (g0 67), (g0 68), (g0 69), (g0 70), (g0 71), (g0 72), (g0 73), (g0 74)]) := by
    rw [q0]
    show some (ad 0, ob 11 [g0 0, g0 1, g0 2, g0 3, g0 4, g0 5, g0 6, g0 7, g0 8, g0 9, g0 10, g0 11, g0 12, g0 13, g0 14, g0 15, g0 16, g0 17, g0 18, g0 19, g0 20, g0 21, g0 22, g0 23, g0 24, g0 25, g0 26, g0 27, g0 28, g0 29, g0 30, g0 31, g0 32, g0 33, g0 34, g0 35, g0 36, g0 37, g0 38, g0 39, g0 40, g0 41, g0 42, g0 43, g0 44, g0 45, g0 46, g0 47, g0 48, g0 49, g0 50, g0 51, g0 52, g0 53, g0 54, g0 55, g0 56, g0 57, g0 58, g0 59, g0 60, g0 61, g0 62, g0 63, g0 64, g0 65, g0 66, g0 67, g0 68, g0 69, g0 70, g0 71, g0 72, g0 73, g0 74]) = _
    rw [r0_0, r0_3, r0_4, r0_5, r0_6, r0_7, r0_8, r0_9, r0_10, r0_11, r0_12, r0_13, r0_16, r0_17, r0_18, r0_19, r0_20, r0_21, r0_22]
  obtain ⟨f14, c14, -⟩ := WT.ints hW (k := 14) rfl
  have ef14 : f14 = f := arrinj ((cgetI c14 0).symm.trans ef)
  rw [ef14] at c14
  obtain ⟨f2, c2, -⟩ := WT.ints hW (k := 2) rfl
  have ef2 : f2 = zp := arrinj ((cgetI c2 0).symm.trans ep)
  rw [ef2] at c2
  obtain ⟨f3, c3, -⟩ := WT.ints hW (k := 3) rfl
  have ef3 : f3 = zx0 := arrinj ((cgetI c3 0).symm.trans exx)
  rw [ef3] at c3
  obtain ⟨f4, c4, -⟩ := WT.ints hW (k := 4) rfl
  have ef4 : f4 = zy0 := arrinj ((cgetI c4 0).symm.trans eyy)
  rw [ef4] at c4
  obtain ⟨f5, c5, -⟩ := WT.ints hW (k := 5) rfl
  have ef5 : f5 = zr := arrinj ((cgetI c5 0).symm.trans er)
  rw [ef5] at c5
  obtain ⟨f6, c6, -⟩ := WT.ints hW (k := 6) rfl
  have ef6 : f6 = zh := arrinj ((cgetI c6 0).symm.trans eh6)
  rw [ef6] at c6
  obtain ⟨f7, c7, -⟩ := WT.ints hW (k := 7) rfl
  have ef7 : f7 = zd := arrinj ((cgetI c7 0).symm.trans ed)
  rw [ef7] at c7
  obtain ⟨f8, c8, -⟩ := WT.ints hW (k := 8) rfl
  have ef8 : f8 = zf0 := arrinj ((cgetI c8 0).symm.trans ez)
  rw [ef8] at c8
  obtain ⟨f9, c9, -⟩ := WT.ints hW (k := 9) rfl
  have ef9 : f9 = zo := arrinj ((cgetI c9 0).symm.trans eo)
  rw [ef9] at c9
  obtain ⟨f10, c10, -⟩ := WT.bools hW (k := 10) rfl
  obtain ⟨f13, c13, -⟩ := WT.ints hW (k := 13) rfl
  have ef13 : f13 = zw := arrinj ((cgetI c13 0).symm.trans ew)
  rw [ef13] at c13
  have h2 := cm_X11_mill l G (ad 0) y0_0 (g0 1) (g0 2) h (ad 2) (ad 3) (ad 4) (ad 5) (ad 6) (ad 7) s (ad 8) (ad 9) (ad 10) (g0 14) (g0 15) c (ad 13) (ad 14) n y0_20 y0_21 y0_22 (g0 23) (g0 24) (g0 25) (g0 26) (g0 27) (g0 28) (g0 29) (g0 30) (g0 31) (g0 32) (g0 33) (g0 34) (g0 35) (g0 36) (g0 37) (g0 38) (g0 39) (g0 40) (g0 41) (g0 42) (g0 43) (g0 44) (g0 45) (g0 46) (g0 47) (g0 48) (g0 49) (g0 50) (g0 51) (g0 52) (g0 53) (g0 54) (g0 55) (g0 56) (g0 57) (g0 58) (g0 59) (g0 60) (g0 61) (g0 62) (g0 63) (g0 64) (g0 65) (g0 66) (g0 67) (g0 68) (g0 69) (g0 70) (g0 71) (g0 72) (g0 73) (g0 74) f zp zx0 zy0 zr zh zd zf0 zo f10 zw n.toInt h.toInt s.toInt c.toInt rfl rfl rfl rfl (by omega) (by omega)
  refine Ct.weak (Ct.and (show Ct l G yX11_mill cX11_mill 10 (some .int) { frames := 5, cells := 0, slots := 0, locals := 110 } [.ref (ad 0)] w0 (fun r w1 => POST G ad TM C_mill1 (fun k => ((Value.ref (ad 0) :: ([] : List Value))[k]?).getD .null) w0 r w1) from ac_mill1 l G ad w0 _ hW (pre_mu (C := C_mill1) (ts := []) (As := []) rfl rfl rfl rfl trivial ad w0 rfl)) h2 [0, 14, 2, 3, 4, 5, 6, 7, 8, 9, 10, 13] (pk_cons c0 (pk_cons c14 (pk_cons c2 (pk_cons c3 (pk_cons c4 (pk_cons c5 (pk_cons c6 (pk_cons c7 (pk_cons c8 (pk_cons c9 (pk_cons c10 (pk_cons c13 rfl)))))))))))) (by decide)) ?_
  rintro r w1 ⟨hp, w2, ⟨lim2, q, fi2, hc2, sc2, cc2, fp2, fx2, fy2, fr2, fu2, fd2, ff2, fo2, fa2, fw2, rz, hCN, hA7, hE4, hE5, hE8, hB, rfl, rfl⟩, hS⟩
  obtain ⟨A1, hA1, μ2, -, -, -, -, -, -, hW1, hF1⟩ := hp
  obtain ⟨fs0, -, u0, ul0, -, -⟩ := WT.obj hW1 (k := 0) (j := 0) rfl rfl
  obtain ⟨p2, u2, -⟩ := WT.ints hW1 (k := 2) rfl
  obtain ⟨p3, u3, -⟩ := WT.ints hW1 (k := 3) rfl
  obtain ⟨p4, u4, -⟩ := WT.ints hW1 (k := 4) rfl
  obtain ⟨p5, u5, -⟩ := WT.ints hW1 (k := 5) rfl
  obtain ⟨p6, u6, -⟩ := WT.ints hW1 (k := 6) rfl
  obtain ⟨p7, u7, -⟩ := WT.ints hW1 (k := 7) rfl
  obtain ⟨p8, u8, -⟩ := WT.ints hW1 (k := 8) rfl
  obtain ⟨p9, u9, -⟩ := WT.ints hW1 (k := 9) rfl
  obtain ⟨p10, u10, -⟩ := WT.bools hW1 (k := 10) rfl
  obtain ⟨p13, u13, -⟩ := WT.ints hW1 (k := 13) rfl
  obtain ⟨p14, u14, -⟩ := WT.ints hW1 (k := 14) rfl
  exact ⟨hW1, hF1, ⟨rz, hc2, sc2, cc2, rfl, hCN, hB, (same_f hS (k := 0) (j := 0) (q := (RX11, TX11, 75)) rfl u0 rfl (by decide) ul0 rfl), (same_f hS (k := 0) (j := 0) (q := (RX11, TX11, 75)) rfl u0 rfl (by decide) ul0 rfl), (same_f hS (k := 0) (j := 0) (q := (RX11, TX11, 75)) rfl u0 rfl (by decide) ul0 rfl), (same_f hS (k := 0) (j := 0) (q := (RX11, TX11, 75)) rfl u0 rfl (by decide) ul0 rfl)⟩, ⟨hc2, sc2, cc2, ⟨(same_f hS (k := 0) (j := 0) (q := (RX11, TX11, 75)) rfl u0 rfl (by decide) ul0 rfl), (same_f hS (k := 0) (j := 0) (q := (RX11, TX11, 75)) rfl u0 rfl (by decide) ul0 rfl), (same_f hS (k := 0) (j := 0) (q := (RX11, TX11, 75)) rfl u0 rfl (by decide) ul0 rfl)⟩, AFc.of hA7.1 (cgetI u2 0) (same_I hS (k := 2) (j := 2) u2 rfl), AFc.of hA7.2.2.2.1 (cgetI u5 0) (same_I hS (k := 5) (j := 5) u5 rfl), AFc.of hA7.2.2.2.2.1 (cgetI u8 0) (same_I hS (k := 8) (j := 8) u8 rfl), AFc.of hA7.2.2.2.2.2.1 (cgetI u9 0) (same_I hS (k := 9) (j := 9) u9 rfl), AFc.of hA7.2.2.2.2.2.2 (cgetI u13 0) (same_I hS (k := 13) (j := 11) u13 rfl)⟩, ⟨hc2, (same_f hS (k := 0) (j := 0) (q := (RX11, TX11, 75)) rfl u0 rfl (by decide) ul0 rfl), AFc.of hA7.2.1 (cgetI u3 0) (same_I hS (k := 3) (j := 3) u3 rfl), AFc.of hA7.2.2.1 (cgetI u4 0) (same_I hS (k := 4) (j := 4) u4 rfl)⟩, ⟨hc2, (same_f hS (k := 0) (j := 0) (q := (RX11, TX11, 75)) rfl u0 rfl (by decide) ul0 rfl), AFc.of hE5 (cgetI u7 0) (same_I hS (k := 7) (j := 7) u7 rfl)⟩, ⟨hc2, (same_f hS (k := 0) (j := 0) (q := (RX11, TX11, 75)) rfl u0 rfl (by decide) ul0 rfl), AFc.of hE4 (cgetI u6 0) (same_I hS (k := 6) (j := 6) u6 rfl)⟩⟩
end
