/-! branches, calls, ends: sound -/
theorem va_nd_of : ∀ (l : List Nat), l.Nodup → va_nd l = true
  | [], _ => rfl
  | a :: l, h => by
    have h1 := List.nodup_cons.mp h
    show (decide (a ∉ l) && va_nd l) = true
    rw [decide_eq_true h1.1, va_nd_of l h1.2]
    rfl
theorem va_nd_range (n : Nat) : va_nd (List.range n) = true := va_nd_of _ List.nodup_range
theorem range_pick {α : Type} (ws : List α) : (List.range ws.length).map (fun i => ws[i]?) = ws.map some := by
  refine List.ext_getElem (by simp) (fun i q1 q2 => ?_)
  have hi : i < ws.length := by simpa using q2
  simp [List.getElem?_eq_getElem hi]
/-- a static method that the library runs: its row -/
def MROW (l : Launch) (G : KG) (own : String) (T : List TE) (q : CAL) : Prop := ∀ {p : Program} {e : Env} {R : Room} {s : State} {m : MethodId} {args : Array Value} {below : List Frame} {meth : Method} {c : Code} {nL : Nat} {A : Nat → Prop} {Q : State → Prop} {cc : ByteArray} {ret : Option FieldType} {nm : String} {kc ks pc : Nat} {ad : Nat → Nat}, ZC p s m args meth c cc nL own G A ret nm → decode cc pc = .ok (.invokestatic q.1, 3) → q.2.2.2.2.2.2.2.2.1 + 1 ≤ R.frames → 8 + (q.2.2.1 + 11) + q.2.2.2.2.2.2.2.2.2 ≤ R.locals → kc ≤ R.cells → ks ≤ R.slots →
    ∀ (lw : List (Nat × Value)) (rest : List Value) (ws : va_W) (μ : Nat → Value), (rest.map fun v => v.category).sum ≤ 8 → WT G ad T ws → PRE ad q.2.2.2 μ ws → (∀ (r : Option Value) (w1 : va_W), POST G ad T q.2.2.2 μ ws r w1 → Z p l e R s m args below meth c nL G A Q (pc + 3) lw (r.toList ++ rest) w1 kc ks) → Z p l e R s m args below meth c nL G A Q pc lw (((List.range q.2.2.2.1.length).map μ).reverse ++ rest) ws kc ks
def COK (l : Launch) (G : KG) (own : String) (T : List TE) (q : CAL) : Prop :=
  (q.2.1 = 0 ∧ ∃ (Cn : String) (y : MethodName) (cy : ByteArray) (rt : Option FieldType) (n k ci : Nat) (ts : List VT) (t : VT) (vc : vw_C), (LkV own q.1 Cn y cy q.2.2.1 rt n ∨ LnV own q.1 Cn y cy q.2.2.1 rt n) ∧ ACt l G T y cy q.2.2.1 rt q.2.2.2 ∧ q.2.2.2.1.length = n + 1 ∧ q.2.2.2.1[0]? = some t ∧ t.1 = 2 ∧ t.2.1.toNat = k ∧ T[k]? = some (.inl (ci, ts)) ∧ vwCl[ci]? = some vc ∧ vc.1 = Cn) ∨
  (q.2.1 = 1 ∧ ∃ (y : MethodName) (cy : ByteArray) (rt : Option FieldType) (n : Nat), (LkS own q.1 y cy q.2.2.1 rt n ∨ LnS own q.1 y cy q.2.2.1 rt n) ∧ ACt l G T y cy q.2.2.1 rt q.2.2.2 ∧ q.2.2.2.1.length = n) ∨
  (q.2.1 = 1 ∧ MROW l G own T q)
section AZ9
variable {p : Program} {l : Launch} {e : Env} {R : Room} {s : State} {m : MethodId} {args : Array Value} {below : List Frame} {meth : Method} {c : Code} {nL : Nat} {G : KG} {A : Nat → Prop} {Q : State → Prop} {cc : ByteArray} {own : String} {ret : Option FieldType} {nm : String} {kc ks : Nat}
variable {ad : Nat → Nat} {T : List TE} {mk : List (Nat × Nat)} {w0 : va_W} {pin : List (Nat × Value)}
variable {lv : ALv} {st : List Nat} {ev : AEv} {ca : ACa} {rl : ARl} {nx pc : Nat} {K : KT}
theorem tgt_eq {pc : Nat} {off : Int} (h : 0 ≤ (pc : Int) + off) : (pc : Int) + off = (tgtOf pc off : Int) := by
  unfold tgtOf
  omega
theorem sJ_ok {σ : Option (AEv × ARl)} (hK : ∀ pc σ, K pc σ = true → AQ p l e R s m args below meth c nL G A Q kc ks ad T mk w0 pin σ pc) (h : sJ K pc lv st ca nx σ = true) : ∀ q, σ = some q → AQ p l e R s m args below meth c nL G A Q kc ks ad T mk w0 pin (lv, st, q.1, ca, q.2, nx) pc := by
  intro q e
  subst e
  exact hK _ _ h
set_option maxHeartbeats 1000000 in
theorem sBr_ok (X : ZC p s m args meth c cc nL own G A ret nm) {co : Jvm.ClassFile.Cond} {off : Int} (hdg : decode cc pc = .ok (.if_icmp co off, 3)) (hK : ∀ pc σ, K pc σ = true → AQ p l e R s m args below meth c nL G A Q kc ks ad T mk w0 pin σ pc) (h : sBr K pc (ccode co) off lv st ev ca rl nx = true) : AQ p l e R s m args below meth c nL G A Q kc ks ad T mk w0 pin (lv, st, ev, ca, rl, nx) pc := by
  match st, h with
  | [], h => cases h
  | [x], h => cases h
  | y :: x :: st, h =>
    obtain ⟨h1, h⟩ := and2 h
    obtain ⟨h2, h⟩ := and2 h
    obtain ⟨h3, h⟩ := and2 h
    obtain ⟨h4, h5⟩ := and2 h
    have ht := tgt_eq (of_decide_eq_true h3)
    refine az_br (by decide) (pId_ok h1) (pId_ok h2) ?_ (sJ_ok hK h4) (sJ_ok hK h5)
    rintro _ _ lw rest ws ⟨a, rfl⟩ ⟨b, rfl⟩ kt kf
    cases co with
    | eq => exact zc_eq X hdg ht rfl rfl kt kf
    | ne => exact zc_ne X hdg ht rfl rfl kt kf
    | lt => exact zc_lt X hdg ht rfl rfl kt kf
    | ge => exact zc_ge X hdg ht rfl rfl kt kf
    | gt => exact zc_gt X hdg ht rfl rfl kt kf
    | le => exact zc_le X hdg ht rfl rfl kt kf
set_option maxHeartbeats 1000000 in
theorem sBr0_ok (X : ZC p s m args meth c cc nL own G A ret nm) {co : Jvm.ClassFile.Cond} {off : Int} (hdg : decode cc pc = .ok (.ifCond co off, 3)) (hf : afr (lv, st, ev, ca, rl, nx) = true) (hK : ∀ pc σ, K pc σ = true → AQ p l e R s m args below meth c nL G A Q kc ks ad T mk w0 pin σ pc) (h : sBr0 K pc (ccode co) off lv st ev ca rl nx = true) : AQ p l e R s m args below meth c nL G A Q kc ks ad T mk w0 pin (lv, st, ev, ca, rl, nx) pc := by
  match st, h, hf with
  | [], h, _ => cases h
  | x :: st, h, hf =>
    obtain ⟨h1, h⟩ := and2 h
    obtain ⟨h3, h⟩ := and2 h
    obtain ⟨h4, h5⟩ := and2 h
    have ht := tgt_eq (of_decide_eq_true h3)
    refine az_br0 (pId_ok h1) hf ?_ (sJ_ok hK h4) (sJ_ok hK h5)
    rintro _ lw rest ws ⟨a, rfl⟩ kt kf
    cases co with
    | eq => exact zi_eq X hdg ht rfl kt kf
    | ne => exact zi_ne X hdg ht rfl kt kf
    | lt => exact zi_lt X hdg ht rfl kt kf
    | ge => exact zi_ge X hdg ht rfl kt kf
    | gt => exact zi_gt X hdg ht rfl kt kf
    | le => exact zi_le X hdg ht rfl kt kf
theorem sJn_ok {co x y : Nat} {ν : Nat → Value} {lw : List (Nat × Value)} {ws : va_W} (hK : ∀ pc σ, K pc σ = true → AQ p l e R s m args below meth c nL G A Q kc ks ad T mk w0 pin σ pc) (h : sJn K pc co x y lv st ev ca rl nx = true) (h1 : lw = lv.map (fun q => (q.1, ν q.2.1))) (h3 : AK G ad T mk w0 pin (lv, st, ev, ca, rl, nx) ν ws) (hc : chold co (vI (ν x)) (vI (ν y))) : ZF p l e R s m args below meth c nL G A Q kc ks pc lw (st.map ν) ws := by
  have go : ∀ k, chold k (vI (ν x)) (vI (ν y)) → sJ K pc lv st ca nx (atk k x y ev rl) = true → ZF p l e R s m args below meth c nL G A Q kc ks pc lw (st.map ν) ws := by
    intro k hk hj
    obtain ⟨q, e, h4⟩ := h3.tk hk
    exact sJ_ok hK hj q e ν _ _ ws ⟨h1, rfl, h4⟩
  unfold sJn at h
  cases hb : Nat.beq co 1 with
  | false =>
    rw [hb] at h
    exact go co hc h
  | true =>
    rw [hb] at h
    obtain ⟨g1, g2⟩ := and2 h
    have e1 : co = 1 := Nat.eq_of_beq_eq_true hb
    subst e1
    have hc : vI (ν x) ≠ vI (ν y) := hc
    rcases Int.lt_or_gt_of_ne hc with h5 | h5
    · exact go 2 h5 g1
    · exact go 4 h5 g2
set_option maxHeartbeats 1000000 in
theorem sBrL_ok (X : ZC p s m args meth c cc nL own G A ret nm) {co : Jvm.ClassFile.Cond} {off : Int} (hd0 : decode cc pc = .ok (.lcmp, 1)) (hdg : decode cc (pc + 1) = .ok (.ifCond co off, 3)) (hK : ∀ pc σ, K pc σ = true → AQ p l e R s m args below meth c nL G A Q kc ks ad T mk w0 pin σ pc) (h : sBrL K pc (ccode co) off lv st ev ca rl nx = true) : AQ p l e R s m args below meth c nL G A Q kc ks ad T mk w0 pin (lv, st, ev, ca, rl, nx) pc := by
  match st, h with
  | [], h => cases h
  | [x], h => cases h
  | y :: x :: st, h =>
    obtain ⟨h1, h⟩ := and2 h
    obtain ⟨h2, h⟩ := and2 h
    obtain ⟨h3, h⟩ := and2 h
    obtain ⟨h4, h5⟩ := and2 h
    have ht := tgt_eq (of_decide_eq_true h3)
    intro ν lw sw ws hg
    obtain ⟨g1, g2, g3⟩ := hg
    have g3 : AK G ad T mk w0 pin (lv, st, ev, ca, rl, nx) ν ws := g3
    have g2 : sw = ν y :: ν x :: st.map ν := g2
    obtain ⟨a, ha⟩ := g3.long (pId_ok h1)
    obtain ⟨b, hb⟩ := g3.long (pId_ok h2)
    have kt : chold (ccode co) a.toInt b.toInt → ZF p l e R s m args below meth c nL G A Q kc ks (tgtOf (pc + 1) off) lw (st.map ν) ws := fun q => sJn_ok hK h4 g1 g3 (by rw [ha, hb]; exact q)
    have kf : chold (cneg (ccode co)) a.toInt b.toInt → ZF p l e R s m args below meth c nL G A Q kc ks (pc + 4) lw (st.map ν) ws := fun q => sJn_ok hK h5 g1 g3 (by rw [ha, hb]; exact q)
    rw [g2, ha, hb]
    cases co with
    | eq => exact zl_eq X hd0 hdg ht rfl rfl kt kf
    | ne => exact zl_ne X hd0 hdg ht rfl rfl kt kf
    | lt => exact zl_lt X hd0 hdg ht rfl rfl kt kf
    | ge => exact zl_ge X hd0 hdg ht rfl rfl kt kf
    | gt => exact zl_gt X hd0 hdg ht rfl rfl kt kf
    | le => exact zl_le X hd0 hdg ht rfl rfl kt kf
theorem sGo_ok (X : ZC p s m args meth c cc nL own G A ret nm) {off : Int} {σ : AS} (hdg : decode cc pc = .ok (.goto off, 3)) (hK : ∀ pc σ, K pc σ = true → AQ p l e R s m args below meth c nL G A Q kc ks ad T mk w0 pin σ pc) (h : sGo K pc off σ = true) : AQ p l e R s m args below meth c nL G A Q kc ks ad T mk w0 pin σ pc := by
  obtain ⟨h1, h2⟩ := and2 h
  intro ν lw sw ws hg
  exact z_goto X hdg (tgt_eq (of_decide_eq_true h1)) (hK _ _ h2 ν lw sw ws hg)
theorem sTab_ok (X : ZC p s m args meth c cc nL own G A ret nm) {dflt lo hi : Int} {offs : Array Int} {len : Nat} (hdg : decode cc pc = .ok (.tableswitch dflt lo hi offs, len)) (hK : ∀ pc σ, K pc σ = true → AQ p l e R s m args below meth c nL G A Q kc ks ad T mk w0 pin σ pc) (h : sTab K pc dflt lo hi offs.toList lv st ev ca rl nx = true) : AQ p l e R s m args below meth c nL G A Q kc ks ad T mk w0 pin (lv, st, ev, ca, rl, nx) pc := by
  match st, h with
  | [], h => cases h
  | x :: st, h =>
    obtain ⟨h1, h⟩ := and2 h
    obtain ⟨h2, h⟩ := and2 h
    obtain ⟨h3, h⟩ := and2 h
    obtain ⟨h4, h⟩ := and2 h
    obtain ⟨h5, h6⟩ := and2 h
    refine az_table (pId_ok h1) (of_decide_eq_true h2) rfl h3 (of_decide_eq_true h4) (fun v lw rest ws w1 kz => z_tableOut X hdg w1 (tgt_eq (of_decide_eq_true h2)) kz) (fun v off tgt lw rest ws w1 w2 w3 w4 kz => z_tableIn X hdg w1 w2 (by rw [← Array.getElem?_toList]; exact w3) w4 kz) (fun q => ?_) (fun q hq => hK _ _ (List.all_eq_true.mp h6 q hq))
    rw [q] at h5
    exact hK _ _ h5
theorem sLen_ok (X : ZC p s m args meth c cc nL own G A ret nm) (hdg : decode cc pc = .ok (.arraylength, 1)) (hf : afr (lv, st, ev, ca, rl, nx) = true) (hK : ∀ pc σ, K pc σ = true → AQ p l e R s m args below meth c nL G A Q kc ks ad T mk w0 pin σ pc) (h : sLen T K pc lv st ev ca rl nx = true) : AQ p l e R s m args below meth c nL G A Q kc ks ad T mk w0 pin (lv, st, ev, ca, rl, nx) pc := by
  match st, h, hf with
  | [], h, _ => cases h
  | a :: st, h, hf =>
    obtain ⟨h1, h⟩ := and2 h
    cases hT : T[(aty ev a).2.1.toNat]? with
    | none => rw [hT] at h; cases h
    | some te =>
      rw [hT] at h
      cases te with
      | inl o => cases h
      | inr o =>
        obtain ⟨kd, n, t⟩ := o
        obtain ⟨h2, h3⟩ := and2 h
        have h2 : n ≤ 2147483647 := Nat.le_of_ble_eq_true h2
        intro ν lw sw ws hg
        obtain ⟨g1, g2, g3⟩ := hg
        have g3 : AK G ad T mk w0 pin (lv, st, ev, ca, rl, nx) ν ws := g3
        have g2 : sw = ν a :: st.map ν := g2
        rw [g2, g3.ref (pId_ok h1)]
        have hn : (Int32.ofNat n).toInt = (n : Int) := tI_nI (n := n) (by omega)
        have kz := hK _ _ h3 _ lw _ ws (AG.push (st := st) (nr := []) (v := .int (Int32.ofNat n)) ⟨g1, rfl, g3⟩ (afr_pop hf) (vty_i (by rw [hn]; exact Int.le_refl _) (by rw [hn]; exact Int.le_refl _)) (fun q hq => by cases hq))
        obtain ⟨en, q1, q2⟩ := g3.2.2.2.2.2.1.arr hT
        rcases q2 with ⟨rfl, f, rfl, q3⟩ | ⟨rfl, f, rfl⟩ | ⟨rfl, f, rfl, q3⟩ | ⟨rfl, f, rfl, q3⟩
        · exact z_alen X hdg _ 0 q1 rfl rfl kz
        · exact z_alen X hdg _ 1 q1 rfl rfl kz
        · exact z_alen X hdg _ 2 q1 rfl rfl kz
        · exact z_alen X hdg _ 3 q1 rfl rfl kz
theorem sNul_ok (X : ZC p s m args meth c cc nL own G A ret nm) {off : Int} {j : Bool} (hdg : (j = false → decode cc pc = .ok (.ifnull off, 3)) ∧ (j = true → decode cc pc = .ok (.ifnonnull off, 3))) (hK : ∀ pc σ, K pc σ = true → AQ p l e R s m args below meth c nL G A Q kc ks ad T mk w0 pin σ pc) (h : sNul K pc off j lv st ev ca rl nx = true) : AQ p l e R s m args below meth c nL G A Q kc ks ad T mk w0 pin (lv, st, ev, ca, rl, nx) pc := by
  match st, h with
  | [], h => cases h
  | a :: st, h =>
    obtain ⟨h1, h⟩ := and2 h
    intro ν lw sw ws hg
    obtain ⟨g1, g2, g3⟩ := hg
    have g3 : AK G ad T mk w0 pin (lv, st, ev, ca, rl, nx) ν ws := g3
    have g2 : sw = ν a :: st.map ν := g2
    rw [g2, g3.ref (pId_ok h1)]
    cases j with
    | false => exact z_ifnull X (hdg.1 rfl) (hK _ _ h ν lw _ ws ⟨g1, rfl, g3⟩)
    | true =>
      obtain ⟨h2, h3⟩ := and2 h
      exact z_ifnonnull X (hdg.2 rfl) (tgt_eq (of_decide_eq_true h2)) (hK _ _ h3 ν lw _ ws ⟨g1, rfl, g3⟩)
theorem look_off (ps : List (Int × Int)) (d k : Int) : Op.lookupswitch.offset ps d k = d ∨ ∃ q ∈ ps, q.1 = k ∧ Op.lookupswitch.offset ps d k = q.2 := by
  cases hf : ps.find? (fun q => q.1 == k) with
  | none => exact Or.inl (Op.lookupswitch.offset_none hf)
  | some q =>
    obtain ⟨a, o⟩ := q
    have h1 := List.find?_some hf
    exact Or.inr ⟨(a, o), List.mem_of_find?_eq_some hf, by simpa using h1, Op.lookupswitch.offset_some hf⟩
theorem sLook_ok (X : ZC p s m args meth c cc nL own G A ret nm) {dflt : Int} {ps : Array (Int × Int)} {len : Nat} (hdg : decode cc pc = .ok (.lookupswitch dflt ps, len)) (hK : ∀ pc σ, K pc σ = true → AQ p l e R s m args below meth c nL G A Q kc ks ad T mk w0 pin σ pc) (h : sLook K pc dflt ps.toList lv st ev ca rl nx = true) : AQ p l e R s m args below meth c nL G A Q kc ks ad T mk w0 pin (lv, st, ev, ca, rl, nx) pc := by
  match st, h with
  | [], h => cases h
  | x :: st, h =>
    obtain ⟨h1, h⟩ := and2 h
    obtain ⟨h2, h⟩ := and2 h
    obtain ⟨h3, h⟩ := and2 h
    obtain ⟨h4, h5⟩ := and2 h
    intro ν lw sw ws hg
    obtain ⟨g1, g2, g3⟩ := hg
    have g3 : AK G ad T mk w0 pin (lv, st, ev, ca, rl, nx) ν ws := g3
    have g2 : sw = ν x :: st.map ν := g2
    obtain ⟨a, ha⟩ := g3.int (pId_ok h1)
    rw [g2, ha]
    rcases look_off ps.toList dflt a.toInt with e | ⟨q, hq, e1, e2⟩
    · exact z_lookup X hdg h2 e (tgt_eq (of_decide_eq_true h3)) (hK _ _ h4 ν lw _ ws ⟨g1, rfl, g3⟩)
    · obtain ⟨k1, k2⟩ := and2 (List.all_eq_true.mp h5 q hq)
      exact z_lookup X hdg h2 e2 (tgt_eq (of_decide_eq_true k1)) (hK _ _ k2 ν lw _ ws ⟨g1, rfl, g3.is (pId_ok h1) (by rw [ha]; exact e1.symm)⟩)
theorem scat_ok {ν : Nat → Value} {ws : va_W} (h : AK G ad T mk w0 pin (lv, st, ev, ca, rl, nx) ν ws) : ∀ (l : List Nat), scat ev l ≤ 8 → ((l.map ν).map fun v => v.category).sum ≤ scat ev l
  | [], _ => by simp [scat]
  | i :: l, hs => by
    have h0 : (bif Nat.beq (aty ev i).1 1 then 2 else bif Nat.ble (aty ev i).1 3 then 1 else 9) + scat ev l ≤ 8 := hs
    have ih := scat_ok h l (by omega)
    have h1 : (ν i).category ≤ bif Nat.beq (aty ev i).1 1 then 2 else bif Nat.ble (aty ev i).1 3 then 1 else 9 := by
      rcases aty_sound (ad := ad) (ν := ν) ev i h.2.1 with e9 | ht
      · rw [e9] at h0
        have h0 : 9 + scat ev l ≤ 8 := h0
        omega
      · rcases ht with ⟨e, ⟨x, hx⟩, -⟩ | ⟨e, ⟨x, hx⟩, -⟩ | ⟨e, hx⟩ | ⟨e, hx | ⟨a, hx⟩⟩
        all_goals (rw [e, hx]; first | exact Nat.le_refl 1 | exact Nat.le_refl 2)
    simp only [List.map_cons, List.sum_cons]
    show _ ≤ (bif Nat.beq (aty ev i).1 1 then 2 else bif Nat.ble (aty ev i).1 3 then 1 else 9) + scat ev l
    omega
theorem atch_ok {ZZ : ZZT} : ∀ (l : List (Nat × Nat × VT)) (ev : AEv) (ca : ACa) (nx : Nat) (q : AEv × ACa × Nat), atch T l ev ca nx = some q → afr (lv, st, q.1, q.2.1, rl, q.2.2) = true → afr (lv, st, ev, ca, rl, nx) = true → AZ ZZ G ad T mk w0 pin (lv, st, q.1, q.2.1, rl, q.2.2) pc → AZ ZZ G ad T mk w0 pin (lv, st, ev, ca, rl, nx) pc
  | [], ev, ca, nx, q, h, _, _, k => by
    cases h
    exact k
  | f :: l, ev, ca, nx, q, h, hq, hf, k => by
    unfold atch at h
    cases h1 : acaf ca f.1 f.2.1 with
    | some i =>
      rw [h1] at h
      exact atch_ok l ev ca nx q h hq hf k
    | none =>
      rw [h1] at h
      cases hT : T[f.1]? with
      | none => rw [hT] at h; cases h
      | some te =>
        rw [hT] at h
        cases te with
        | inr o => cases h
        | inl o =>
          obtain ⟨ci, ts⟩ := o
          cases ht : ts[f.2.1]? with
          | none => simp only [ht] at h; cases h
          | some t =>
            simp only [ht] at h
            refine az_touch hT ht hf (atch_ok l _ _ _ q h hq ?_ k)
            obtain ⟨f0, f1, f2, f3, f4, f5⟩ := afr_ok hf
            unfold afr
            simp only [Bool.and_eq_true, List.all_eq_true]
            have lt : ∀ {a b : Nat}, a < b → Nat.blt a b = true := fun h => Nat.ble_eq_true_of_le h
            refine ⟨Nat.ble_eq_true_of_le (by omega), fun q hq => lt (Nat.lt_succ_of_lt (f1 q hq)), fun q hq => lt (Nat.lt_succ_of_lt (f2 q hq)), fun q hq => ?_, fun q hq => ?_, fun q hq => ⟨lt (Nat.lt_succ_of_lt (f5 q hq).1), lt (Nat.lt_succ_of_lt (f5 q hq).2)⟩⟩
            · rcases List.mem_cons.mp hq with e | hq
              · rw [e]; exact lt (Nat.lt_succ_self nx)
              · exact lt (Nat.lt_succ_of_lt (f3 q hq))
            · rcases List.mem_cons.mp hq with e | hq
              · rw [e]; exact lt (Nat.lt_succ_self nx)
              · exact lt (Nat.lt_succ_of_lt (f4 q hq))
theorem atg_ok {ZZ : ZZT} {is : List Nat} {σ : AS} (k : AZ ZZ G ad T mk w0 pin (atg is σ) pc) : AZ ZZ G ad T mk w0 pin σ pc := by
  obtain ⟨lv, st, ev, ca, rl, nx⟩ := σ
  intro ν lw sw ws h
  obtain ⟨h1, h2, h3⟩ := h
  have h3 : AK G ad T mk w0 pin (lv, st, ev, ca, rl, nx) ν ws := h3
  refine k ν lw sw ws ⟨h1, h2, h3.1, fun q hq => ?_, h3.2.2⟩
  rcases List.mem_append.mp hq with hq | hq
  · obtain ⟨i, hi, rfl⟩ := List.mem_map.mp hq
    have hn : isNum (aty ev i) = true := (List.mem_filter.mp hi).2
    have hv : vty ad (aty ev i) (ν i) := (aty_sound ev i h3.2.1).resolve_left (fun e => by
      have : (aty ev i).1 ≤ 1 := Nat.le_of_ble_eq_true hn
      omega)
    exact vty_cut hv hn (h3.lo2 i) (h3.hi2 i)
  · exact h3.2.1 q hq
set_option maxHeartbeats 1000000 in
theorem call_row (X : ZC p s m args meth c cc nL own G A ret nm) {q : CAL} (hcok : COK l G own T q) (hdg : (q.2.1 = 0 → decode cc pc = .ok (.invokevirtual q.1, 3)) ∧ (q.2.1 = 1 → decode cc pc = .ok (.invokestatic q.1, 3))) (hR1 : q.2.2.2.2.2.2.2.2.1 + 1 ≤ R.frames) (hR2 : 8 + (q.2.2.1 + 11) + q.2.2.2.2.2.2.2.2.2 ≤ R.locals) (hkc : kc ≤ R.cells) (hks : ks ≤ R.slots)
    (lw : List (Nat × Value)) (rest : List Value) (ws : va_W) (μ : Nat → Value) (hcat : (rest.map fun v => v.category).sum ≤ 8) (hW : WT G ad T ws) (hP : PRE ad q.2.2.2 μ ws) (kk : ∀ (r : Option Value) (w1 : va_W), POST G ad T q.2.2.2 μ ws r w1 → ZF p l e R s m args below meth c nL G A Q kc ks (pc + 3) lw (r.toList ++ rest) w1) : ZF p l e R s m args below meth c nL G A Q kc ks pc lw (((List.range q.2.2.2.1.length).map μ).reverse ++ rest) ws := by
  rcases hcok with ⟨k0, Cn, y, cy, rt, n, k, ci, ts, t, vc, hL, hA, hn, ht0, ht1, ht2, hT, hv1, hv2⟩ | ⟨k0, y, cy, rt, n, hL, hA, hn⟩ | ⟨k0, hM⟩
  · have hM := hA ad ws μ hW hP
    have hd := hdg.1 k0
    have e0 : μ 0 = .ref (ad k) := by
      have := vty2 (hP.1 0 t ht0) ht1
      rw [ht2] at this
      exact this
    have eA : (List.range q.2.2.2.1.length).map μ = .ref (ad k) :: (List.range n).map (fun i => μ (i + 1)) := by
      rw [hn, List.range_succ_eq_map, List.map_cons, e0, List.map_map]
      rfl
    rw [eA] at hM ⊢
    obtain ⟨en, w1, fs, rfl, w2, w3⟩ := hW.2.1 k _ hT
    have est : ((.ref (ad k) :: (List.range n).map (fun i => μ (i + 1))).reverse ++ rest : List Value) = ((List.range n).map (fun i => μ (i + 1))).reverse ++ .ref (ad k) :: rest := by simp
    rcases hL with hL | hL
    · exact z_callV (wr := []) (rm := rmOf q.2.2.2) X hL hM hd k w1 hv1 hv2 ⟨hR1, hR2⟩ ⟨hkc, hks⟩ (by simp) est hcat (List.range ws.length) [] (range_pick ws) (va_nd_range _) rfl rfl rfl (fun r w1 hp => kk r w1 hp)
    · exact z_callVN (wr := []) (rm := rmOf q.2.2.2) X hL hM hd k w1 hv1 hv2 ⟨hR1, hR2⟩ ⟨hkc, hks⟩ (by simp) est hcat (List.range ws.length) [] (range_pick ws) (va_nd_range _) rfl rfl rfl (fun r w1 hp => kk r w1 hp)
  · have hM := hA ad ws μ hW hP
    have hd := hdg.2 k0
    rcases hL with hL | hL
    · exact z_callS (wr := []) (rm := rmOf q.2.2.2) X hL hM hd ⟨hR1, hR2⟩ ⟨hkc, hks⟩ (by simp [hn]) rfl hcat (List.range ws.length) [] (range_pick ws) (va_nd_range _) rfl rfl rfl (fun r w1 hp => kk r w1 hp)
    · exact z_callSN (wr := []) (rm := rmOf q.2.2.2) X hL hM hd ⟨hR1, hR2⟩ ⟨hkc, hks⟩ (by simp [hn]) rfl hcat (List.range ws.length) [] (range_pick ws) (va_nd_range _) rfl rfl rfl (fun r w1 hp => kk r w1 hp)
  · exact hM X (hdg.2 k0) hR1 hR2 hkc hks lw rest ws μ hcat hW hP kk
theorem sCall_ok (X : ZC p s m args meth c cc nL own G A ret nm) {cal : List CAL} {kd idx : Nat} (hcal : ∀ q ∈ cal, COK l G own T q) (hdg : (kd = 0 → decode cc pc = .ok (.invokevirtual idx, 3)) ∧ (kd = 1 → decode cc pc = .ok (.invokestatic idx, 3))) (hkc : kc ≤ R.cells) (hks : ks ≤ R.slots) (hf : afr (lv, st, ev, ca, rl, nx) = true) (hK : ∀ pc σ, K pc σ = true → AQ p l e R s m args below meth c nL G A Q kc ks ad T mk w0 pin σ pc) (h : sCall T mk cal R.frames R.locals K pc kd idx lv st ev ca rl nx = true) : AQ p l e R s m args below meth c nL G A Q kc ks ad T mk w0 pin (lv, st, ev, ca, rl, nx) pc := by
  unfold sCall at h
  obtain ⟨q, hq, hh⟩ := List.any_eq_true.mp h
  obtain ⟨b1, hh2⟩ := and2 hh
  obtain ⟨b2, h⟩ := and2 hh2
  obtain ⟨-, h⟩ := and2 h
  have h1 : idx = q.1 := (Nat.eq_of_beq_eq_true b1).symm
  have h2 : kd = q.2.1 := (Nat.eq_of_beq_eq_true b2).symm
  rw [h1, h2] at hdg
  unfold sCall1 at h
  cases ht : atch T q.2.2.2.2.1 ev ca nx with
  | none => simp only [ht] at h; cases h
  | some z =>
    obtain ⟨ev2, ca2, nx2⟩ := z
    simp only [ht] at h
    cases hp : acas ca2 q.2.2.2.2.1 with
    | none => simp only [hp] at h; cases h
    | some ps =>
      simp only [hp] at h
      obtain ⟨g1, h⟩ := and2 h
      obtain ⟨g2, h⟩ := and2 h
      obtain ⟨g3, h⟩ := and2 h
      obtain ⟨g4, h⟩ := and2 h
      obtain ⟨g5, h⟩ := and2 h
      obtain ⟨g6, h⟩ := and2 h
      obtain ⟨g7, h⟩ := and2 h
      obtain ⟨g8, h⟩ := and2 h
      obtain ⟨g9, h⟩ := and2 h
      obtain ⟨g10, h⟩ := and2 h
      obtain ⟨g11, h⟩ := and2 h
      obtain ⟨g12, h⟩ := and2 h
      refine atch_ok _ _ _ _ _ ht g1 hf ?_
      have est : st = ((st.take q.2.2.2.1.length).reverse).reverse ++ st.drop q.2.2.2.1.length := by rw [List.reverse_reverse, List.take_append_drop]
      have hn := Nat.le_of_ble_eq_true g2
      show AZ _ G ad T mk w0 pin (lv, st, ev2, ca2, rl, nx2) pc
      rw [est] at g1
      have hgoal : AZ (ZF p l e R s m args below meth c nL G A Q kc ks) G ad T mk w0 pin (lv, ((st.take q.2.2.2.1.length).reverse).reverse ++ st.drop q.2.2.2.1.length, ev2, ca2, rl, nx2) pc :=
        az_call (PR := fun rest => (rest.map fun v => v.category).sum ≤ 8) (fun ν ws hA => Nat.le_trans (scat_ok hA _ (Nat.le_of_ble_eq_true g7)) (Nat.le_of_ble_eq_true g7)) g1 (by simp [hn]) hp g8 g9 g10 g11 g12 (Nat.le_of_ble_eq_true g3) (Nat.le_of_ble_eq_true g4) (fun lw rest ws μ w0 w1 w2 w3 => call_row X (hcal q hq) hdg (Nat.le_of_ble_eq_true g5) (Nat.le_of_ble_eq_true g6) hkc hks lw rest ws μ w0 w1 w2 w3) (fun A' hA' => atg_ok (hK _ _ (List.all_eq_true.mp h A' hA')))
      rw [← est] at hgoal
      exact hgoal
end AZ9
