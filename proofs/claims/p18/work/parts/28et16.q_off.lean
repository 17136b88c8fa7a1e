/-! off of the reference: holeX, holeY end as they began -/
abbrev C_offq : CE := ([(2, 0, 0), (0, -2147483648, 2147483647), (0, -2147483648, 2147483647)], [], [], [(some (1, -9223372036854775808, 9223372036854775807), [], [], [])], [(0, 0), (0, 1), (0, 58), (0, 59), (0, 60), (0, 61), (0, 62), (0, 63), (0, 64), (1, 999), (20, 999), (36, 999), (37, 999), (38, 999), (39, 999), (40, 999)], 20, 513)
abbrev sC_ofO : CE := C_offq
def sl_ofO : List CAL := [(130, 1, 1, C_X11_isPlane_0), (29, 1, 6, C_X11_in_0)]
theorem sl_ofO_ok (l : Launch) (G : KG) : ∀ q ∈ sl_ofO, COK l G RX11 TM q := List.forall_mem_cons.mpr ⟨cok_s k_11_130 (ac_X11_isPlane_0 l G) rfl, List.forall_mem_cons.mpr ⟨cok_s k_11_29 (ac_X11_in_0 l G) rfl, fun _ h => absurd h List.not_mem_nil⟩⟩
def sk_ofO : List CUT := []
abbrev se_ofO_30 : CUT := (30, ([(0, 0, false), (1, 1, false), (2, 2, false), (3, 500, false)], [], [(0, (2, 0, 0)), (1, (0, 0, 1)), (2, (0, 1, 3)), (500, (0, 0, 0)), (501, (0, 0, 0))], [(0, 0, 501)], [], 1000), 0, [(0, 0)])
def sx_ofO : List CUT := [se_ofO_30]
abbrev ss_ofO : AS := ([(0, 0, false), (1, 1, false), (2, 2, false)], [], [(0, (2, 0, 0)), (1, (0, -2147483648, 2147483647)), (2, (0, -2147483648, 2147483647))], [], [], 1000)
theorem sg_ofO : acheckS hk0 D_X11_off 4 TM fld_11 put_11 cst_11 cstl_11 sl_ofO 2 sC_ofO sk_ofO sx_ofO [0, 1, 2] 4000 0 ss_ofO = true := by decide +kernel
abbrev of70 : CUT := (70, ([(0, 0, false), (1, 1, false), (2, 2, false), (3, 700, false)], [], [(0, (2, 0, 0)), (1, (0, 0, 1)), (2, (0, -2147483648, 2147483647)), (700, (0, 0, 16)), (701, (0, 0, 16))], [(0, 3, 701)], [(700, 701, 0)], 1000), 0, [(0, 0)])
abbrev sC_ofP : CE := ([(2, 0, 0), (0, -2147483648, 2147483647), (0, -2147483648, 2147483647)], [], [], [], [(0, 0), (0, 1), (0, 58), (0, 59), (0, 60), (0, 61), (0, 62), (0, 63), (0, 64), (1, 999), (20, 999), (36, 999), (37, 999), (38, 999), (39, 999), (40, 999)], 20, 513)
def sl_ofP : List CAL := [(169, 0, 5, C_X11_leads_0), (406, 0, 7, C_X11_goes_16)]
theorem sl_ofP_ok (l : Launch) (G : KG) : ∀ q ∈ sl_ofP, COK l G RX11 TM q := List.forall_mem_cons.mpr ⟨cok_v k_11_169 (ac_X11_leads_0 l G) rfl rfl rfl rfl rfl rfl, List.forall_mem_cons.mpr ⟨cok_v k_11_406 (ac_X11_goes_16 l G) rfl rfl rfl rfl rfl rfl, fun _ h => absurd h List.not_mem_nil⟩⟩
def sk_ofP : List CUT := [(87, ([(0, 0, false), (1, 1, false), (2, 2, false), (3, 500, false)], [], [(0, (2, 0, 0)), (1, (0, 0, 1)), (2, (0, -2147483648, 2147483647)), (500, (0, 0, 16)), (501, (0, 0, 16)), (502, (0, 0, 0)), (700, (0, 0, 16)), (701, (0, 0, 16))], [(0, 3, 701), (0, 58, 501), (0, 63, 502), (0, 64, 1)], [(700, 701, 0), (500, 701, 0), (501, 701, 0), (501, 500, 0)], 1000), 48, [(1, 500)]), (181, ([(0, 0, false), (3, 500, false)], [], [(0, (2, 0, 0)), (1, (0, 0, 1)), (2, (0, -2147483648, 2147483647)), (500, (0, 0, 4)), (501, (0, 0, 16)), (502, (0, 0, 0)), (503, (0, 0, 0)), (700, (0, 0, 16)), (701, (0, 0, 16))], [(0, 3, 701), (0, 58, 501), (0, 59, 2), (0, 60, 502), (0, 63, 503), (0, 64, 1)], [(501, 701, 0)], 1000), 11, [(1, 500)])]
abbrev se_ofP_214 : CUT := (214, ([(0, 0, false), (3, 500, false)], [], [(0, (2, 0, 0)), (1, (0, 0, 1)), (2, (0, -2147483648, 2147483647)), (500, (0, 0, 0)), (501, (0, 0, 16)), (502, (0, 0, 0)), (700, (0, 0, 16)), (701, (0, 0, 16))], [(0, 3, 701), (0, 58, 501), (0, 59, 2), (0, 63, 502), (0, 64, 1)], [(501, 701, 0)], 1000), 0, [(0, 0)])
def sx_ofP : List CUT := [se_ofP_214]
abbrev ss_ofP : AS := of70.2.1
theorem sg_ofP : acheckS hk0 D_X11_off 4 TM fld_11 put_11 cst_11 cstl_11 sl_ofP 2 sC_ofP sk_ofP sx_ofP [0, 1, 2, 700, 701] 4000 70 ss_ofP = true := by decide +kernel
abbrev of254 : CUT := (254, ([(0, 0, false), (3, 700, false)], [], [(0, (2, 0, 0)), (700, (0, 0, 16))], [], [], 1000), 0, [(0, 0)])
abbrev sC_ofQ : CE := C_offq
def sl_ofQ : List CAL := [(414, 0, 2, C_X11_entersFound_0)]
theorem sl_ofQ_ok (l : Launch) (G : KG) : ∀ q ∈ sl_ofQ, COK l G RX11 TM q := List.forall_mem_cons.mpr ⟨cok_v k_11_414 (ac_X11_entersFound_0 l G) rfl rfl rfl rfl rfl rfl, fun _ h => absurd h List.not_mem_nil⟩
def sk_ofQ : List CUT := []
def sx_ofQ : List CUT := []
abbrev ss_ofQ : AS := of254.2.1
theorem sg_ofQ : acheckS hk0 D_X11_off 4 TM fld_11 put_11 cst_11 cstl_11 sl_ofQ 2 sC_ofQ sk_ofQ sx_ofQ [0, 1, 2, 700] 4000 254 ss_ofQ = true := by decide +kernel
def ng (f : Nat → Int32) (i : Int) (j : Nat) : Int32 := if (j : Int) < i then -(f j) else f j
theorem ng_0 (f : Nat → Int32) : ng f 0 = f := by
  funext j
  unfold ng
  exact if_neg (by omega)
theorem ng_up {f g : Nat → Int32} {i : Int32} (h0 : 0 ≤ i.toInt) (h : g = ng f i.toInt) : upd g i.toNatClampNeg (-(g i.toNatClampNeg)) = ng f (i.toInt + 1) := by
  subst h
  have ei : ((i.toNatClampNeg : Nat) : Int) = i.toInt := slot_of1 rfl h0
  funext j
  unfold ng
  by_cases e : j = i.toNatClampNeg
  · subst e
    rw [upd_at, if_neg (by omega), if_pos (by omega)]
  · rw [upd_off e]
    by_cases c : (j : Int) < i.toInt
    · rw [if_pos c, if_pos (by omega)]
    · rw [if_neg c, if_neg (by omega)]
theorem ng_ng (f : Nat → Int32) (i : Int) : ng (ng f i) i = f := by
  funext j
  unfold ng
  by_cases c : (j : Int) < i
  · rw [if_pos c, if_pos c]
    grind
  · rw [if_neg c, if_neg c]
theorem list5 {w : va_W} {a b c d e : Nat × va_E} (h0 : w[0]? = some a) (h1 : w[1]? = some b) (h2 : w[2]? = some c) (h3 : w[3]? = some d) (h4 : w[4]? = some e) : w = [a, b, c, d, e] ++ w.drop 5 := by
  match w, h0, h1, h2, h3, h4 with
  | a' :: b' :: c' :: d' :: e' :: r, h0, h1, h2, h3, h4 =>
    cases h0
    cases h1
    cases h2
    cases h3
    cases h4
    rfl
section OFF
variable {p : Program} {l : Launch} {e : Env} {R : Room} {s : State} {m : MethodId} {args : Array Value} {below : List Frame} {meth : Method} {c : Code} {G : KG} {A : Nat → Prop} {Q : State → Prop} {ad : Nat → Nat} {kc ks : Nat}
theorem d_of_32 : decode cX11_off 32 = .ok (.getfield 63, 3) := by decide +kernel
theorem d_of_35 : decode cX11_off 35 = .ok (.if_icmp .ge 35, 3) := by decide +kernel
theorem d_of_39 : decode cX11_off 39 = .ok (.getfield 69, 3) := by decide +kernel
theorem d_of_44 : decode cX11_off 44 = .ok (.getfield 69, 3) := by decide +kernel
theorem d_of_48 : decode cX11_off 48 = .ok (.iaload, 1) := by decide +kernel
theorem d_of_50 : decode cX11_off 50 = .ok (.iastore, 1) := by decide +kernel
theorem d_of_52 : decode cX11_off 52 = .ok (.getfield 76, 3) := by decide +kernel
theorem d_of_57 : decode cX11_off 57 = .ok (.getfield 76, 3) := by decide +kernel
theorem d_of_61 : decode cX11_off 61 = .ok (.iaload, 1) := by decide +kernel
theorem d_of_63 : decode cX11_off 63 = .ok (.iastore, 1) := by decide +kernel
theorem d_of_67 : decode cX11_off 67 = .ok (.goto (-37), 3) := by decide +kernel
abbrev bb_of_30 : ZB := [(.iload_n 3, .null), (.aload_n 0, .null)]
theorem bk_of_30 : zchk cX11_off bb_of_30 30 = true ∧ zpc bb_of_30 30 = 32 := ⟨by decide +kernel, rfl⟩
abbrev bb_of_38 : ZB := [(.aload_n 0, .null)]
theorem bk_of_38 : zchk cX11_off bb_of_38 38 = true ∧ zpc bb_of_38 38 = 39 := ⟨by decide +kernel, rfl⟩
abbrev bb_of_42 : ZB := [(.iload_n 3, .null), (.aload_n 0, .null)]
theorem bk_of_42 : zchk cX11_off bb_of_42 42 = true ∧ zpc bb_of_42 42 = 44 := ⟨by decide +kernel, rfl⟩
abbrev bb_of_47 : ZB := [(.iload_n 3, .null)]
theorem bk_of_47 : zchk cX11_off bb_of_47 47 = true ∧ zpc bb_of_47 47 = 48 := ⟨by decide +kernel, rfl⟩
abbrev bb_of_49 : ZB := [(.ineg, .null)]
theorem bk_of_49 : zchk cX11_off bb_of_49 49 = true ∧ zpc bb_of_49 49 = 50 := ⟨by decide +kernel, rfl⟩
abbrev bb_of_51 : ZB := [(.aload_n 0, .null)]
theorem bk_of_51 : zchk cX11_off bb_of_51 51 = true ∧ zpc bb_of_51 51 = 52 := ⟨by decide +kernel, rfl⟩
abbrev bb_of_55 : ZB := [(.iload_n 3, .null), (.aload_n 0, .null)]
theorem bk_of_55 : zchk cX11_off bb_of_55 55 = true ∧ zpc bb_of_55 55 = 57 := ⟨by decide +kernel, rfl⟩
abbrev bb_of_60 : ZB := [(.iload_n 3, .null)]
theorem bk_of_60 : zchk cX11_off bb_of_60 60 = true ∧ zpc bb_of_60 60 = 61 := ⟨by decide +kernel, rfl⟩
abbrev bb_of_62 : ZB := [(.ineg, .null)]
theorem bk_of_62 : zchk cX11_off bb_of_62 62 = true ∧ zpc bb_of_62 62 = 63 := ⟨by decide +kernel, rfl⟩
abbrev bb_of_64 : ZB := [(.iinc 3 1, .int 1)]
theorem bk_of_64 : zchk cX11_off bb_of_64 64 = true ∧ zpc bb_of_64 64 = 67 := ⟨by decide +kernel, rfl⟩
theorem off_l1 (X : ZC p s m args meth c cX11_off 4 RX11 G A (some .long) "off") {fs : List Value} {m1 m2 : Nat × va_E} {wt : va_W} {hn : Int32} (v1 : Int32) (v2 : Int32) (h3 : fs[3]? = some (.int hn)) (h5 : fs[5]? = some (.ref (ad 3))) (h6 : fs[6]? = some (.ref (ad 4))) (hn0 : 0 ≤ hn.toInt ∧ hn.toInt ≤ 16) (f g : Nat → Int32)
    (hK : Z p l e R s m args below meth c 4 G A Q 70 [(3, .int hn), (0, .ref (ad 0)), (1, .int v1), (2, .int v2)] [] ([(ad 0, ob 11 fs), m1, m2, (ad 3, aI G 16 (ng f hn.toInt)), (ad 4, aI G 16 (ng g hn.toInt))] ++ wt) kc ks) : ∀ (n : Nat) (i : Int32) (x y : Nat → Int32), 0 ≤ i.toInt ∧ i.toInt ≤ hn.toInt → (hn.toInt - i.toInt).toNat < n → x = ng f i.toInt → y = ng g i.toInt → Z p l e R s m args below meth c 4 G A Q 30 [(3, .int i), (0, .ref (ad 0)), (1, .int v1), (2, .int v2)] [] ([(ad 0, ob 11 fs), m1, m2, (ad 3, aI G 16 x), (ad 4, aI G 16 y)] ++ wt) kc ks
  | 0, _, _, _, _, h, _, _ => absurd h (Nat.not_lt_zero _)
  | n + 1, i, x, y, hi, h, hx, hy => by
    refine z_run X bb_of_30 bk_of_30 (lv' := [(3, .int i), (0, .ref (ad 0)), (1, .int v1), (2, .int v2)]) (st' := [.ref (ad 0), .int i]) rfl ?_
    refine z_get X fl_11_63 d_of_32 0 rfl (v := .int hn) h3 ?_
    refine zc_ge X d_of_35 (tgt := 70) (by decide) (a := i.toInt) (b := hn.toInt) rfl rfl (fun hc => ?_) (fun hc => ?_)
    · have ei : i = hn := Int32.toInt_inj.mp (by omega)
      subst ei
      subst hx
      subst hy
      exact hK
    · refine z_run X bb_of_38 bk_of_38 (lv' := [(3, .int i), (0, .ref (ad 0)), (1, .int v1), (2, .int v2)]) (st' := [.ref (ad 0)]) rfl ?_
      refine z_get X fl_11_69 d_of_39 0 rfl (v := .ref (ad 3)) h5 ?_
      refine z_run X bb_of_42 bk_of_42 (lv' := [(3, .int i), (0, .ref (ad 0)), (1, .int v1), (2, .int v2)]) (st' := [.ref (ad 0), .int i, .ref (ad 3)]) rfl ?_
      refine z_get X fl_11_69 d_of_44 0 rfl (v := .ref (ad 3)) h5 ?_
      refine z_run X bb_of_47 bk_of_47 (lv' := [(3, .int i), (0, .ref (ad 0)), (1, .int v1), (2, .int v2)]) (st' := [.int i, .ref (ad 3), .int i, .ref (ad 3)]) rfl ?_
      refine z_iald X d_of_48 3 rfl (vin (x := i) rfl hi.1 (by omega)) (v := x i.toNatClampNeg) rfl ?_
      refine z_run X bb_of_49 bk_of_49 (lv' := [(3, .int i), (0, .ref (ad 0)), (1, .int v1), (2, .int v2)]) (st' := [.int (-(x i.toNatClampNeg)), .int i, .ref (ad 3)]) rfl ?_
      refine z_iast X d_of_50 3 rfl (vin (x := i) rfl hi.1 (by omega)) (ws' := ([(ad 0, ob 11 fs), m1, m2, (ad 3, aI G 16 (upd x i.toNatClampNeg (-(x i.toNatClampNeg)))), (ad 4, aI G 16 y)] ++ wt)) rfl ?_
      refine z_run X bb_of_51 bk_of_51 (lv' := [(3, .int i), (0, .ref (ad 0)), (1, .int v1), (2, .int v2)]) (st' := [.ref (ad 0)]) rfl ?_
      refine z_get X fl_11_76 d_of_52 0 rfl (v := .ref (ad 4)) h6 ?_
      refine z_run X bb_of_55 bk_of_55 (lv' := [(3, .int i), (0, .ref (ad 0)), (1, .int v1), (2, .int v2)]) (st' := [.ref (ad 0), .int i, .ref (ad 4)]) rfl ?_
      refine z_get X fl_11_76 d_of_57 0 rfl (v := .ref (ad 4)) h6 ?_
      refine z_run X bb_of_60 bk_of_60 (lv' := [(3, .int i), (0, .ref (ad 0)), (1, .int v1), (2, .int v2)]) (st' := [.int i, .ref (ad 4), .int i, .ref (ad 4)]) rfl ?_
      refine z_iald X d_of_61 4 rfl (vin (x := i) rfl hi.1 (by omega)) (v := y i.toNatClampNeg) rfl ?_
      refine z_run X bb_of_62 bk_of_62 (lv' := [(3, .int i), (0, .ref (ad 0)), (1, .int v1), (2, .int v2)]) (st' := [.int (-(y i.toNatClampNeg)), .int i, .ref (ad 4)]) rfl ?_
      refine z_iast X d_of_63 4 rfl (vin (x := i) rfl hi.1 (by omega)) (ws' := ([(ad 0, ob 11 fs), m1, m2, (ad 3, aI G 16 (upd x i.toNatClampNeg (-(x i.toNatClampNeg)))), (ad 4, aI G 16 (upd y i.toNatClampNeg (-(y i.toNatClampNeg))))] ++ wt)) rfl ?_
      refine z_run X bb_of_64 bk_of_64 (lv' := [(3, .int (i + 1)), (0, .ref (ad 0)), (1, .int v1), (2, .int v2)]) (st' := []) rfl ?_
      refine z_goto X d_of_67 (tgt := 30) (by decide) ?_
      have e1 : (i + 1).toInt = i.toInt + 1 := tI_add rfl (show (1 : Int32).toInt = 1 from by decide) (by omega)
      exact off_l1 X v1 v2 h3 h5 h6 hn0 f g hK n (i + 1) _ _ (by omega) (by omega) (by rw [e1]; exact ng_up hi.1 hx) (by rw [e1]; exact ng_up hi.1 hy)
theorem d_of_216 : decode cX11_off 216 = .ok (.getfield 63, 3) := by decide +kernel
theorem d_of_219 : decode cX11_off 219 = .ok (.if_icmp .ge 35, 3) := by decide +kernel
theorem d_of_223 : decode cX11_off 223 = .ok (.getfield 69, 3) := by decide +kernel
theorem d_of_228 : decode cX11_off 228 = .ok (.getfield 69, 3) := by decide +kernel
theorem d_of_232 : decode cX11_off 232 = .ok (.iaload, 1) := by decide +kernel
theorem d_of_234 : decode cX11_off 234 = .ok (.iastore, 1) := by decide +kernel
theorem d_of_236 : decode cX11_off 236 = .ok (.getfield 76, 3) := by decide +kernel
theorem d_of_241 : decode cX11_off 241 = .ok (.getfield 76, 3) := by decide +kernel
theorem d_of_245 : decode cX11_off 245 = .ok (.iaload, 1) := by decide +kernel
theorem d_of_247 : decode cX11_off 247 = .ok (.iastore, 1) := by decide +kernel
theorem d_of_251 : decode cX11_off 251 = .ok (.goto (-37), 3) := by decide +kernel
abbrev bb_of_214 : ZB := [(.iload_n 3, .null), (.aload_n 0, .null)]
theorem bk_of_214 : zchk cX11_off bb_of_214 214 = true ∧ zpc bb_of_214 214 = 216 := ⟨by decide +kernel, rfl⟩
abbrev bb_of_222 : ZB := [(.aload_n 0, .null)]
theorem bk_of_222 : zchk cX11_off bb_of_222 222 = true ∧ zpc bb_of_222 222 = 223 := ⟨by decide +kernel, rfl⟩
abbrev bb_of_226 : ZB := [(.iload_n 3, .null), (.aload_n 0, .null)]
theorem bk_of_226 : zchk cX11_off bb_of_226 226 = true ∧ zpc bb_of_226 226 = 228 := ⟨by decide +kernel, rfl⟩
abbrev bb_of_231 : ZB := [(.iload_n 3, .null)]
theorem bk_of_231 : zchk cX11_off bb_of_231 231 = true ∧ zpc bb_of_231 231 = 232 := ⟨by decide +kernel, rfl⟩
abbrev bb_of_233 : ZB := [(.ineg, .null)]
theorem bk_of_233 : zchk cX11_off bb_of_233 233 = true ∧ zpc bb_of_233 233 = 234 := ⟨by decide +kernel, rfl⟩
abbrev bb_of_235 : ZB := [(.aload_n 0, .null)]
theorem bk_of_235 : zchk cX11_off bb_of_235 235 = true ∧ zpc bb_of_235 235 = 236 := ⟨by decide +kernel, rfl⟩
abbrev bb_of_239 : ZB := [(.iload_n 3, .null), (.aload_n 0, .null)]
theorem bk_of_239 : zchk cX11_off bb_of_239 239 = true ∧ zpc bb_of_239 239 = 241 := ⟨by decide +kernel, rfl⟩
abbrev bb_of_244 : ZB := [(.iload_n 3, .null)]
theorem bk_of_244 : zchk cX11_off bb_of_244 244 = true ∧ zpc bb_of_244 244 = 245 := ⟨by decide +kernel, rfl⟩
abbrev bb_of_246 : ZB := [(.ineg, .null)]
theorem bk_of_246 : zchk cX11_off bb_of_246 246 = true ∧ zpc bb_of_246 246 = 247 := ⟨by decide +kernel, rfl⟩
abbrev bb_of_248 : ZB := [(.iinc 3 1, .int 1)]
theorem bk_of_248 : zchk cX11_off bb_of_248 248 = true ∧ zpc bb_of_248 248 = 251 := ⟨by decide +kernel, rfl⟩
theorem off_l2 (X : ZC p s m args meth c cX11_off 4 RX11 G A (some .long) "off") {fs : List Value} {m1 m2 : Nat × va_E} {wt : va_W} {hn : Int32} (h3 : fs[3]? = some (.int hn)) (h5 : fs[5]? = some (.ref (ad 3))) (h6 : fs[6]? = some (.ref (ad 4))) (hn0 : 0 ≤ hn.toInt ∧ hn.toInt ≤ 16) (f g : Nat → Int32)
    (hK : Z p l e R s m args below meth c 4 G A Q 254 [(3, .int hn), (0, .ref (ad 0))] [] ([(ad 0, ob 11 fs), m1, m2, (ad 3, aI G 16 (ng f hn.toInt)), (ad 4, aI G 16 (ng g hn.toInt))] ++ wt) kc ks) : ∀ (n : Nat) (i : Int32) (x y : Nat → Int32), 0 ≤ i.toInt ∧ i.toInt ≤ hn.toInt → (hn.toInt - i.toInt).toNat < n → x = ng f i.toInt → y = ng g i.toInt → Z p l e R s m args below meth c 4 G A Q 214 [(3, .int i), (0, .ref (ad 0))] [] ([(ad 0, ob 11 fs), m1, m2, (ad 3, aI G 16 x), (ad 4, aI G 16 y)] ++ wt) kc ks
  | 0, _, _, _, _, h, _, _ => absurd h (Nat.not_lt_zero _)
  | n + 1, i, x, y, hi, h, hx, hy => by
    refine z_run X bb_of_214 bk_of_214 (lv' := [(3, .int i), (0, .ref (ad 0))]) (st' := [.ref (ad 0), .int i]) rfl ?_
    refine z_get X fl_11_63 d_of_216 0 rfl (v := .int hn) h3 ?_
    refine zc_ge X d_of_219 (tgt := 254) (by decide) (a := i.toInt) (b := hn.toInt) rfl rfl (fun hc => ?_) (fun hc => ?_)
    · have ei : i = hn := Int32.toInt_inj.mp (by omega)
      subst ei
      subst hx
      subst hy
      exact hK
    · refine z_run X bb_of_222 bk_of_222 (lv' := [(3, .int i), (0, .ref (ad 0))]) (st' := [.ref (ad 0)]) rfl ?_
      refine z_get X fl_11_69 d_of_223 0 rfl (v := .ref (ad 3)) h5 ?_
      refine z_run X bb_of_226 bk_of_226 (lv' := [(3, .int i), (0, .ref (ad 0))]) (st' := [.ref (ad 0), .int i, .ref (ad 3)]) rfl ?_
      refine z_get X fl_11_69 d_of_228 0 rfl (v := .ref (ad 3)) h5 ?_
      refine z_run X bb_of_231 bk_of_231 (lv' := [(3, .int i), (0, .ref (ad 0))]) (st' := [.int i, .ref (ad 3), .int i, .ref (ad 3)]) rfl ?_
      refine z_iald X d_of_232 3 rfl (vin (x := i) rfl hi.1 (by omega)) (v := x i.toNatClampNeg) rfl ?_
      refine z_run X bb_of_233 bk_of_233 (lv' := [(3, .int i), (0, .ref (ad 0))]) (st' := [.int (-(x i.toNatClampNeg)), .int i, .ref (ad 3)]) rfl ?_
      refine z_iast X d_of_234 3 rfl (vin (x := i) rfl hi.1 (by omega)) (ws' := ([(ad 0, ob 11 fs), m1, m2, (ad 3, aI G 16 (upd x i.toNatClampNeg (-(x i.toNatClampNeg)))), (ad 4, aI G 16 y)] ++ wt)) rfl ?_
      refine z_run X bb_of_235 bk_of_235 (lv' := [(3, .int i), (0, .ref (ad 0))]) (st' := [.ref (ad 0)]) rfl ?_
      refine z_get X fl_11_76 d_of_236 0 rfl (v := .ref (ad 4)) h6 ?_
      refine z_run X bb_of_239 bk_of_239 (lv' := [(3, .int i), (0, .ref (ad 0))]) (st' := [.ref (ad 0), .int i, .ref (ad 4)]) rfl ?_
      refine z_get X fl_11_76 d_of_241 0 rfl (v := .ref (ad 4)) h6 ?_
      refine z_run X bb_of_244 bk_of_244 (lv' := [(3, .int i), (0, .ref (ad 0))]) (st' := [.int i, .ref (ad 4), .int i, .ref (ad 4)]) rfl ?_
      refine z_iald X d_of_245 4 rfl (vin (x := i) rfl hi.1 (by omega)) (v := y i.toNatClampNeg) rfl ?_
      refine z_run X bb_of_246 bk_of_246 (lv' := [(3, .int i), (0, .ref (ad 0))]) (st' := [.int (-(y i.toNatClampNeg)), .int i, .ref (ad 4)]) rfl ?_
      refine z_iast X d_of_247 4 rfl (vin (x := i) rfl hi.1 (by omega)) (ws' := ([(ad 0, ob 11 fs), m1, m2, (ad 3, aI G 16 (upd x i.toNatClampNeg (-(x i.toNatClampNeg)))), (ad 4, aI G 16 (upd y i.toNatClampNeg (-(y i.toNatClampNeg))))] ++ wt)) rfl ?_
      refine z_run X bb_of_248 bk_of_248 (lv' := [(3, .int (i + 1)), (0, .ref (ad 0))]) (st' := []) rfl ?_
      refine z_goto X d_of_251 (tgt := 214) (by decide) ?_
      have e1 : (i + 1).toInt = i.toInt + 1 := tI_add rfl (show (1 : Int32).toInt = 1 from by decide) (by omega)
      exact off_l2 X h3 h5 h6 hn0 f g hK n (i + 1) _ _ (by omega) (by omega) (by rw [e1]; exact ng_up hi.1 hx) (by rw [e1]; exact ng_up hi.1 hy)
end OFF
/-- the world, by its first cells -/
theorem wt5 {G : KG} {ad : Nat → Nat} {w : va_W} (hW : WT G ad TM w) : ∃ (fs : List Value) (m1 m2 : Nat × va_E) (f g : Nat → Int32) (hn : Int32), w = [(ad 0, ob 11 fs), m1, m2, (ad 3, aI G 16 f), (ad 4, aI G 16 g)] ++ w.drop 5 ∧ fs[3]? = some (.int hn) ∧ fs[5]? = some (.ref (ad 3)) ∧ fs[6]? = some (.ref (ad 4)) ∧ 0 ≤ hn.toInt ∧ hn.toInt ≤ 16 := by
  obtain ⟨fs, v, a0, a1, a2, a3⟩ := WT.obj hW (k := 0) (j := 3) rfl rfl
  obtain ⟨hn, rfl, b1, b2⟩ := vty0 a3 rfl
  obtain ⟨fs', v5, c0, c1, c2, c3⟩ := WT.obj hW (k := 0) (j := 5) rfl rfl
  obtain ⟨fs'', v6, d0, d1, d2, d3⟩ := WT.obj hW (k := 0) (j := 6) rfl rfl
  have e1 : fs' = fs := (Prod.mk.inj (Sum.inr.inj (Prod.mk.inj (Option.some.inj (c0.symm.trans a0))).2)).2
  have e2 : fs'' = fs := (Prod.mk.inj (Sum.inr.inj (Prod.mk.inj (Option.some.inj (d0.symm.trans a0))).2)).2
  rw [e1] at c2
  rw [e2] at d2
  have z5 := vty2 c3 rfl
  have z6 := vty2 d3 rfl
  obtain ⟨f, f0, -⟩ := WT.ints hW (k := 3) rfl
  obtain ⟨g, g0, -⟩ := WT.ints hW (k := 4) rfl
  have l5 : 5 < w.length := Nat.lt_of_lt_of_le (by decide) hW.1
  refine ⟨fs, w[1], w[2], f, g, hn, list5 a0 (List.getElem?_eq_getElem (by omega)) (List.getElem?_eq_getElem (by omega)) f0 g0, a2, ?_, ?_, b1, b2⟩
  · rw [c2, z5]
    rfl
  · rw [d2, z6]
    rfl
theorem wt34 {G : KG} {ad : Nat → Nat} {w : va_W} {a0 m1 m2 : Nat × va_E} {f g : Nat → Int32} {wt : va_W} (x y : Nat → Int32) (hW : WT G ad TM w) (e : w = [a0, m1, m2, (ad 3, aI G 16 f), (ad 4, aI G 16 g)] ++ wt) : WT G ad TM ([a0, m1, m2, (ad 3, aI G 16 x), (ad 4, aI G 16 y)] ++ wt) := by
  have h1 : WT G ad TM (w.set 3 (ad 3, aI G 16 x)) := WT.setA (x := (cyI G, 16, .inl f)) (y := (cyI G, 16, .inl x)) hW (k := 3) rfl (by rw [e]; rfl) (Or.inl ⟨rfl, _, rfl, fun k _ => ⟨i32_lo _, i32_hi _, fun z => by cases z⟩⟩) (fun n' t' e' g2 => by cases e'; exact absurd g2 (by decide))
  have h2 : WT G ad TM ((w.set 3 (ad 3, aI G 16 x)).set 4 (ad 4, aI G 16 y)) := WT.setA (x := (cyI G, 16, .inl g)) (y := (cyI G, 16, .inl y)) h1 (k := 4) rfl (by rw [e]; rfl) (Or.inl ⟨rfl, _, rfl, fun k _ => ⟨i32_lo _, i32_hi _, fun z => by cases z⟩⟩) (fun n' t' e' g2 => by cases e'; exact absurd g2 (by decide))
  rw [e] at h2
  exact h2
theorem cget34 {a0 m1 m2 : Nat × va_E} {b3 b4 c3 c4 : Nat × va_E} {wt : va_W} {k j : Nat} (h : k ≠ 3 ∧ k ≠ 4) : cget ([a0, m1, m2, b3, b4] ++ wt) k j = cget ([a0, m1, m2, c3, c4] ++ wt) k j := by
  unfold cget
  match k, h with
  | 0, _ => rfl
  | 1, _ => rfl
  | 2, _ => rfl
  | 3, h => exact absurd rfl h.1
  | 4, h => exact absurd rfl h.2
  | k + 5, _ => rfl
theorem ac_offq (l : Launch) (G : KG) : ACt l G TM yX11_off cX11_off 4 (some .long) C_offq := by
  refine hand_of (by decide) (by decide) (by decide) (by decide) (by decide) ?_
  intro p e s m args below meth c A X ad w0 μ lw hW hPre hg
  refine aseg (C := sC_ofO) (PO := fun r w1 => POST G ad TM C_offq μ w0 r w1) (fld := fld_11) (put := put_11) (cst := cst_11) (cstl := cstl_11) (hk := hk0) (tab := D_X11_off) (rk := 2) (pids := [0, 1, 2]) D_X11_off_ok X rfl rfl hok0 (Or.inr (Or.inr (Or.inl ⟨rfl, rfl⟩))) (Nat.le_refl 0) (Nat.le_refl 0) (spin1 (C := C_offq)) (spin2 (C := C_offq)) (fun r w1 h => h) fld_11_ok put_11_ok cst_11_ok cstl_11_ok (sl_ofO_ok l G) (Nat.le_refl 0) (Nat.le_refl 0) spin3 sg_ofO (fun d hd ν2 lw2 sw2 ws2 hg2 => ?_) μ lw [] w0 hg
  rw [List.mem_singleton.mp hd] at hg2 ⊢
  have hs : sw2 = [] := hg2.2.1
  subst hs
  have hW2 := hg2.2.2.2.2.2.2.2.1
  have hF2 := hg2.2.2.2.2.2.2.2.2
  have hps : ∀ q ∈ spin C_offq μ, q.1 < 1000 ∧ ν2 q.1 = q.2 := hg2.2.2.2.2.2.2.1
  obtain ⟨fs, m1, m2, f, g, hn, ew, k3, k5, k6, kn⟩ := wt5 hW2
  have el : lw2 = [(0, ν2 0), (1, ν2 1), (2, ν2 2), (3, ν2 500)] := hg2.1
  have n0 : ν2 0 = .ref (ad 0) := hg2.2.2.ref (i := 0) rfl
  obtain ⟨z0, z1, z2, z3⟩ := hg2.2.2.rng (i := 500) (a := 0) (b := 0) (by decide)
  obtain ⟨k1_, p1, p2, p3⟩ := hg2.2.2.rng (i := 1) (a := 0) (b := 1) (by decide)
  have pin2 : ∃ x : Int32, ν2 2 = .int x := hg2.2.2.int (i := 2) rfl
  have i0 : z0 = 0 := Int32.toInt_inj.mp (by have q : (0 : Int32).toInt = 0 := (by decide); omega)
  subst i0
  obtain ⟨x2, hx2⟩ := pin2
  refine Z.mono (lw' := [(3, .int 0), (0, .ref (ad 0)), (1, .int k1_), (2, .int x2)]) (fun q hq => by
    rw [el, n0, z1, p1, hx2]
    simp only [List.mem_cons, List.not_mem_nil, or_false] at hq ⊢
    rcases hq with h | h | h | h <;> simp [h]) ?_
  rw [ew]
  refine off_l1 X k1_ x2 k3 k5 k6 kn f g ?_ _ 0 f g ⟨by decide, by have q : (0 : Int32).toInt = 0 := (by decide); omega⟩ (Nat.lt_succ_self _) (ng_0 f).symm (ng_0 g).symm
  -- from 70 on, the signs turned
  have hW3 := wt34 (ng f hn.toInt) (ng g hn.toInt) hW2 ew
  obtain ⟨w3, e3⟩ : ∃ w3, w3 = [(ad 0, ob 11 fs), m1, m2, (ad 3, aI G 16 (ng f hn.toInt)), (ad 4, aI G 16 (ng g hn.toInt))] ++ ws2.drop 5 := ⟨_, rfl⟩
  rw [← e3] at hW3 ⊢
  obtain ⟨ν3, hν3⟩ : ∃ ν3 : Nat → Value, ν3 = nup (nup ν2 701 (.int hn)) 700 (.int hn) := ⟨_, rfl⟩
  have m0 : ν3 0 = .ref (ad 0) := by rw [hν3]; exact (if_neg (by decide)).trans ((if_neg (by decide)).trans n0)
  have q1 : ν3 1 = ν2 1 := by rw [hν3]; exact (if_neg (by decide)).trans (if_neg (by decide))
  have q2 : ν3 2 = ν2 2 := by rw [hν3]; exact (if_neg (by decide)).trans (if_neg (by decide))
  have q7 : ν3 700 = .int hn := by rw [hν3]; exact if_pos rfl
  have q8 : ν3 701 = .int hn := by rw [hν3]; exact (if_neg (by decide)).trans (if_pos rfl)
  have hps3 : ∀ q ∈ spin C_offq μ, q.1 < 1000 ∧ ν3 q.1 = q.2 := fun q hq => ⟨(hps q hq).1, by
    have hlt : q.1 ∈ [0, 1, 2] := spin3 q hq
    rw [hν3]
    exact ((if_neg (fun z => by rw [z] at hlt; revert hlt; decide)).trans (if_neg (fun z => by rw [z] at hlt; revert hlt; decide))).trans (hps q hq).2⟩
  obtain ⟨pn, hpn⟩ : ∃ pn, pn = (700, Value.int hn) :: (701, .int hn) :: spin C_offq μ := ⟨_, rfl⟩
  have hpm : ∀ q ∈ pn, q.1 < 1000 ∧ ν3 q.1 = q.2 := fun q hq => by
    rw [hpn] at hq
    rcases List.mem_cons.mp hq with e1 | hq
    · rw [e1]; exact ⟨(by decide : (700 : Nat) < 1000), q7⟩
    rcases List.mem_cons.mp hq with e1 | hq
    · rw [e1]; exact ⟨(by decide : (701 : Nat) < 1000), q8⟩
    · exact hps3 q hq
  have hpid : ∀ q ∈ pn, q.1 ∈ [0, 1, 2, 700, 701] := fun q hq => by
    rw [hpn] at hq
    rcases List.mem_cons.mp hq with e1 | hq
    · rw [e1]; exact (by decide : (700 : Nat) ∈ [0, 1, 2, 700, 701])
    rcases List.mem_cons.mp hq with e1 | hq
    · rw [e1]; exact (by decide : (701 : Nat) ∈ [0, 1, 2, 700, 701])
    · have h1 : q.1 ∈ [0, 1, 2] := spin3 q hq
      have hsub : ∀ z ∈ [0, 1, 2], z ∈ [0, 1, 2, 700, 701] := by decide
      exact hsub _ h1
  have hsp : ∀ q ∈ spin C_offq μ, q ∈ pn := fun q hq => by rw [hpn]; exact List.mem_cons_of_mem _ (List.mem_cons_of_mem _ hq)
  have hg3 : AG G ad TM sC_ofP.2.2.2.2.1 w3 pn of70.2.1 ν3 [(0, ν3 0), (1, ν3 1), (2, ν3 2), (3, ν3 700)] [] w3 := by
    refine ⟨rfl, rfl, fun q hq => ?_, fun q hq => ?_, fun q hq => ?_, fun q hq => ?_, hpm, hW3, rfl, fun _ _ _ => rfl⟩
    · have hq : q ∈ [(0, 0, false), (1, 1, false), (2, 2, false), (3, 700, false)] := hq
      simp only [List.mem_cons, List.not_mem_nil, or_false] at hq
      rcases hq with rfl | rfl | rfl | rfl
      · show (ν3 0).category = _; rw [m0]; rfl
      · show (ν3 1).category = _; rw [q1, p1]; rfl
      · show (ν3 2).category = _; rw [q2, hx2]; rfl
      · show (ν3 700).category = _; rw [q7]; rfl
    · have hq : q ∈ of70.2.1.2.2.1 := hq
      unfold of70 at hq
      simp only [List.mem_cons, List.not_mem_nil, or_false] at hq
      rcases hq with rfl | rfl | rfl | rfl | rfl
      · show vty ad (2, 0, 0) (ν3 0); rw [m0]; exact Or.inr (Or.inr (Or.inl ⟨rfl, rfl⟩))
      · show vty ad (0, 0, 1) (ν3 1); rw [q1, p1]; exact vty_i p2 p3
      · show vty ad tI0 (ν3 2); rw [q2, hx2]; exact vty_i0 _
      · show vty ad (0, 0, 16) (ν3 700); rw [q7]; exact vty_i kn.1 kn.2
      · show vty ad (0, 0, 16) (ν3 701); rw [q8]; exact vty_i kn.1 kn.2
    · have hq : q ∈ of70.2.1.2.2.2.1 := hq
      unfold of70 at hq
      rw [List.mem_singleton.mp hq]
      show fget w3 0 3 = some (ν3 701)
      rw [q8, e3]
      exact k3
    · have hq : q ∈ of70.2.1.2.2.2.2.1 := hq
      unfold of70 at hq
      rw [List.mem_singleton.mp hq]
      show vI (ν3 700) ≤ vI (ν3 701) + 0
      rw [q7, q8]
      exact Int.le_of_eq (Int.add_zero _).symm
  refine Z.mono (lw' := [(0, ν3 0), (1, ν3 1), (2, ν3 2), (3, ν3 700)]) (fun q hq => by
    rw [m0, q1, q2, q7, p1, hx2] at hq
    simp only [List.mem_cons, List.not_mem_nil, or_false] at hq ⊢
    rcases hq with h | h | h | h <;> simp [h]) ?_
  refine aseg (C := sC_ofP) (PO := fun r w1 => POST G ad TM C_offq μ w0 r w1) (fld := fld_11) (put := put_11) (cst := cst_11) (cstl := cstl_11) (hk := hk0) (tab := D_X11_off) (rk := 2) (pids := [0, 1, 2, 700, 701]) D_X11_off_ok X rfl rfl hok0 (Or.inr (Or.inr (Or.inl ⟨rfl, rfl⟩))) (Nat.le_refl 0) (Nat.le_refl 0) (fun j hj => hsp _ (spin1 (C := C_offq) j hj)) (fun j hj => hsp _ (spin2 (C := C_offq) j hj)) (fun r w1 h => by obtain ⟨A9, hA9, -⟩ := h; exact absurd hA9 List.not_mem_nil) fld_11_ok put_11_ok cst_11_ok cstl_11_ok (sl_ofP_ok l G) (Nat.le_refl 0) (Nat.le_refl 0) hpid sg_ofP (fun d hd ν4 lw4 sw4 ws4 hg4 => ?_) ν3 _ [] w3 hg3
  rw [List.mem_singleton.mp hd] at hg4 ⊢
  have hs4 : sw4 = [] := hg4.2.1
  subst hs4
  have hW4 := hg4.2.2.2.2.2.2.2.1
  have hF4 := hg4.2.2.2.2.2.2.2.2
  have hp4 := hg4.2.2.2.2.2.2.1
  obtain ⟨fs', n1, n2, f', g', hn', ew4, j3, j5, j6, jn⟩ := wt5 hW4
  have c3 : cget ws4 3 0 = cget w3 3 0 := hF4.2 3 0 (by decide)
  have c4 : cget ws4 4 0 = cget w3 4 0 := hF4.2 4 0 (by decide)
  have ef : f' = ng f hn.toInt := by
    rw [ew4, e3] at c3
    exact arrinj c3
  have eg : g' = ng g hn.toInt := by
    rw [ew4, e3] at c4
    exact arrinj c4
  have eh : hn' = hn := by
    have c5 : fget ws4 0 3 = fget w3 0 3 := fget_eq (hF4.2 0 3 (by decide))
    rw [ew4, e3] at c5
    have c6 : fs'[3]? = fs[3]? := c5
    rw [j3, k3] at c6
    exact Value.int.inj (Option.some.inj c6)
  subst ef
  subst eg
  subst eh
  have el4 : lw4 = [(0, ν4 0), (3, ν4 500)] := hg4.1
  have n04 : ν4 0 = .ref (ad 0) := hg4.2.2.ref (i := 0) rfl
  obtain ⟨y0, y1, y2, y3⟩ := hg4.2.2.rng (i := 500) (a := 0) (b := 0) (by decide)
  have i0 : y0 = 0 := Int32.toInt_inj.mp (by have q : (0 : Int32).toInt = 0 := (by decide); omega)
  subst i0
  refine Z.mono (lw' := [(3, .int 0), (0, .ref (ad 0))]) (fun q hq => by
    rw [el4, n04, y1]
    simp only [List.mem_cons, List.not_mem_nil, or_false] at hq ⊢
    rcases hq with h | h <;> simp [h]) ?_
  rw [ew4]
  refine off_l2 X j3 j5 j6 jn (ng f hn'.toInt) (ng g hn'.toInt) ?_ _ 0 _ _ ⟨by decide, by have q : (0 : Int32).toInt = 0 := (by decide); omega⟩ (Nat.lt_succ_self _) (ng_0 _).symm (ng_0 _).symm
  have hW5 := wt34 f g hW4 ew4
  rw [ng_ng, ng_ng]
  obtain ⟨w5, e5⟩ : ∃ w5, w5 = [(ad 0, ob 11 fs'), n1, n2, (ad 3, aI G 16 f), (ad 4, aI G 16 g)] ++ ws4.drop 5 := ⟨_, rfl⟩
  rw [← e5] at hW5 ⊢
  have hF5 : FRM C_offq.2.2.2.2.1 w0 w5 := by
    refine ⟨?_, fun k j hk => ?_⟩
    · have l4 : ws4.length = w5.length := by rw [e5, ew4]; rfl
      have l3 : ws2.length = w3.length := by rw [e3, ew]; rfl
      rw [← l4, hF4.1, ← l3, hF2.1]
    · by_cases a3 : k = 3
      · subst a3
        have b2 := hF2.2 3 j hk
        rw [← b2, e5, ew]
        rfl
      by_cases a4 : k = 4
      · subst a4
        have b2 := hF2.2 4 j hk
        rw [← b2, e5, ew]
        rfl
      · have b2 := hF2.2 k j hk
        have b4 : cget ws4 k j = cget w3 k j := hF4.2 k j hk
        rw [← b2]
        have b5 : cget w5 k j = cget ws4 k j := by rw [e5, ew4]; exact cget34 ⟨a3, a4⟩
        have b3 : cget w3 k j = cget ws2 k j := by rw [e3, ew]; exact cget34 ⟨a3, a4⟩
        rw [b5, b4, b3]
  obtain ⟨ν5, hν5⟩ : ∃ ν5 : Nat → Value, ν5 = nup ν4 700 (.int hn') := ⟨_, rfl⟩
  have r0 : ν5 0 = .ref (ad 0) := by rw [hν5]; exact (if_neg (by decide)).trans n04
  have r7 : ν5 700 = .int hn' := by rw [hν5]; exact if_pos rfl
  have hps5 : ∀ q ∈ spin C_offq μ, q.1 < 1000 ∧ ν5 q.1 = q.2 := fun q hq => ⟨(hps q hq).1, by
    have hlt : q.1 ∈ [0, 1, 2] := spin3 q hq
    rw [hν5]
    exact (if_neg (fun z => by rw [z] at hlt; revert hlt; decide)).trans (hp4 q (hsp q hq)).2⟩
  have hg5 : AG G ad TM sC_ofQ.2.2.2.2.1 w5 (spin C_offq μ) of254.2.1 ν5 [(0, ν5 0), (3, ν5 700)] [] w5 := by
    refine ⟨rfl, rfl, fun q hq => ?_, fun q hq => ?_, (fun q hq => by cases hq), (fun q hq => by cases hq), hps5, hW5, rfl, fun _ _ _ => rfl⟩
    · have hq : q ∈ [(0, 0, false), (3, 700, false)] := hq
      simp only [List.mem_cons, List.not_mem_nil, or_false] at hq
      rcases hq with rfl | rfl
      · show (ν5 0).category = _; rw [r0]; rfl
      · show (ν5 700).category = _; rw [r7]; rfl
    · have hq : q ∈ of254.2.1.2.2.1 := hq
      unfold of254 at hq
      simp only [List.mem_cons, List.not_mem_nil, or_false] at hq
      rcases hq with rfl | rfl
      · show vty ad (2, 0, 0) (ν5 0); rw [r0]; exact Or.inr (Or.inr (Or.inl ⟨rfl, rfl⟩))
      · show vty ad (0, 0, 16) (ν5 700); rw [r7]; exact vty_i jn.1 jn.2
  refine Z.mono (lw' := [(0, ν5 0), (3, ν5 700)]) (fun q hq => by
    rw [r0, r7] at hq
    simp only [List.mem_cons, List.not_mem_nil, or_false] at hq ⊢
    rcases hq with h | h <;> simp [h]) ?_
  exact aseg (C := sC_ofQ) (PO := fun r w1 => POST G ad TM C_offq μ w0 r w1) (fld := fld_11) (put := put_11) (cst := cst_11) (cstl := cstl_11) (hk := hk0) (tab := D_X11_off) (rk := 2) (pids := [0, 1, 2, 700]) D_X11_off_ok X rfl rfl hok0 (Or.inr (Or.inr (Or.inl ⟨rfl, rfl⟩))) (Nat.le_refl 0) (Nat.le_refl 0) (spin1 (C := C_offq)) (spin2 (C := C_offq)) (fun r w1 h => POST.mono (C := sC_ofQ) (C' := C_offq) h rfl hF5 (by decide)) fld_11_ok put_11_ok cst_11_ok cstl_11_ok (sl_ofQ_ok l G) (Nat.le_refl 0) (Nat.le_refl 0) (fun q hq => by
    have h1 : q.1 ∈ [0, 1, 2] := spin3 q hq
    have hsub : ∀ z ∈ [0, 1, 2], z ∈ [0, 1, 2, 700] := by decide
    exact hsub _ h1) sg_ofQ (fun d hd => absurd hd List.not_mem_nil) ν5 _ [] w5 hg5
