/-! the reference's common (Euclid): by hand -/
theorem d_X11_common_0 : decode cX11_common 0 = .ok (.lload_n 0, 1) := by decide +kernel
theorem d_X11_common_1 : decode cX11_common 1 = .ok (.lconst 0, 1) := by decide +kernel
theorem d_X11_common_2 : decode cX11_common 2 = .ok (.lcmp, 1) := by decide +kernel
theorem d_X11_common_3 : decode cX11_common 3 = .ok (.ifCond .ge 8, 3) := by decide +kernel
theorem d_X11_common_6 : decode cX11_common 6 = .ok (.lload_n 0, 1) := by decide +kernel
theorem d_X11_common_7 : decode cX11_common 7 = .ok (.lneg, 1) := by decide +kernel
theorem d_X11_common_8 : decode cX11_common 8 = .ok (.goto 4, 3) := by decide +kernel
theorem d_X11_common_11 : decode cX11_common 11 = .ok (.lload_n 0, 1) := by decide +kernel
theorem d_X11_common_12 : decode cX11_common 12 = .ok (.lstore 4, 2) := by decide +kernel
theorem d_X11_common_14 : decode cX11_common 14 = .ok (.lload_n 2, 1) := by decide +kernel
theorem d_X11_common_15 : decode cX11_common 15 = .ok (.lconst 0, 1) := by decide +kernel
theorem d_X11_common_16 : decode cX11_common 16 = .ok (.lcmp, 1) := by decide +kernel
theorem d_X11_common_17 : decode cX11_common 17 = .ok (.ifCond .ge 8, 3) := by decide +kernel
theorem d_X11_common_20 : decode cX11_common 20 = .ok (.lload_n 2, 1) := by decide +kernel
theorem d_X11_common_21 : decode cX11_common 21 = .ok (.lneg, 1) := by decide +kernel
theorem d_X11_common_22 : decode cX11_common 22 = .ok (.goto 4, 3) := by decide +kernel
theorem d_X11_common_25 : decode cX11_common 25 = .ok (.lload_n 2, 1) := by decide +kernel
theorem d_X11_common_26 : decode cX11_common 26 = .ok (.lstore 6, 2) := by decide +kernel
theorem d_X11_common_28 : decode cX11_common 28 = .ok (.lload 6, 2) := by decide +kernel
theorem d_X11_common_30 : decode cX11_common 30 = .ok (.lconst 0, 1) := by decide +kernel
theorem d_X11_common_31 : decode cX11_common 31 = .ok (.lcmp, 1) := by decide +kernel
theorem d_X11_common_32 : decode cX11_common 32 = .ok (.ifCond .eq 21, 3) := by decide +kernel
theorem d_X11_common_35 : decode cX11_common 35 = .ok (.lload 4, 2) := by decide +kernel
theorem d_X11_common_37 : decode cX11_common 37 = .ok (.lload 6, 2) := by decide +kernel
theorem d_X11_common_39 : decode cX11_common 39 = .ok (.lrem, 1) := by decide +kernel
theorem d_X11_common_40 : decode cX11_common 40 = .ok (.lstore 8, 2) := by decide +kernel
theorem d_X11_common_42 : decode cX11_common 42 = .ok (.lload 6, 2) := by decide +kernel
theorem d_X11_common_44 : decode cX11_common 44 = .ok (.lstore 4, 2) := by decide +kernel
theorem d_X11_common_46 : decode cX11_common 46 = .ok (.lload 8, 2) := by decide +kernel
theorem d_X11_common_48 : decode cX11_common 48 = .ok (.lstore 6, 2) := by decide +kernel
theorem d_X11_common_50 : decode cX11_common 50 = .ok (.goto (-22), 3) := by decide +kernel
theorem d_X11_common_53 : decode cX11_common 53 = .ok (.lload 4, 2) := by decide +kernel
theorem d_X11_common_55 : decode cX11_common 55 = .ok (.lreturn, 1) := by decide +kernel
theorem lrem_t (x y : Int64) : (x - x / y * y).toInt = x.toInt.tmod y.toInt := by
  have h1 := Int64.le_toInt (x % y)
  have h2 := Int64.toInt_lt (x % y)
  rw [Int64.toInt_sub, Int64.toInt_mul, Int64.toInt_div, Int.bmod_mul_bmod, Int.sub_bmod_bmod, Int.mul_comm (x.toInt.tdiv y.toInt), ← Int.tmod_def, ← Int64.toInt_mod]
  exact Int.bmod_eq_of_le_mul_two (by omega) (by omega)
abbrev cmAlts : List ALT := [(some (1, 1, 9223372036854775807), [], [], []), (some (1, -9223372036854775807, -1), [], [], []), (some (1, -9223372036854775808, -9223372036854775808), [], [], [])]
abbrev C_common_P : CE := ([tL0, (1, 1, 9223372036854775807)], [], [], cmAlts, [], 0, 0)
abbrev C_common_N : CE := ([tL0, (1, -9223372036854775808, -1)], [], [], cmAlts, [], 0, 0)
theorem cm_post {G : KG} {ad : Nat → Nat} {T : List TE} {C : CE} {μ : Nat → Value} {ws : va_W} (hC : C.2.2.2.1 = cmAlts) (hW : WT G ad T ws) (g : Int64) (hg : g.toInt ≠ 0) : POST G ad T C μ ws (some (.long g)) ws := by
  have h1 := i64_lo g
  have h2 := i64_hi g
  unfold lMin at h1
  unfold lMax at h2
  rcases (by omega : 1 ≤ g.toInt ∨ (-9223372036854775807 ≤ g.toInt ∧ g.toInt ≤ -1) ∨ g.toInt = -9223372036854775808) with h | h | h
  · exact post_pure (t := (1, 1, 9223372036854775807)) (rl := []) (by rw [hC]; exact List.mem_cons_self) hW (vty_l h h2) (fun q hq => by cases hq)
  · exact post_pure (t := (1, -9223372036854775807, -1)) (rl := []) (by rw [hC]; exact List.mem_cons_of_mem _ List.mem_cons_self) hW (vty_l h.1 h.2) (fun q hq => by cases hq)
  · exact post_pure (t := (1, -9223372036854775808, -9223372036854775808)) (rl := []) (by rw [hC]; exact List.mem_cons_of_mem _ (List.mem_cons_of_mem _ List.mem_cons_self)) hW (vty_l (by omega) (by omega)) (fun q hq => by cases hq)
section CM
variable {p : Program} {l : Launch} {e : Env} {R : Room} {s : State} {m : MethodId} {args : Array Value} {below : List Frame} {meth : Method} {c : Code} {G : KG} {A : Nat → Prop}
theorem cm_loop {post : Option Value → va_W → Prop} {ws : va_W} (X : ZC p s m args meth c cX11_common 10 RX11 G A (some .long) "common") (hp : ∀ g : Int64, g.toInt ≠ 0 → post (some (.long g)) ws) : ∀ (n : Nat) (x y : Int64) (lw : List (Nat × Value)), y.toInt.natAbs < n → (x.toInt ≠ 0 ∨ y.toInt ≠ 0) → (4, .long x) ∈ lw → (6, .long y) ∈ lw → Z p l e R s m args below meth c 10 G A (MQ below (QQ G A post) args s R.cells R.slots A) 28 lw [] ws 0 0
  | 0, _, _, _, h, _, _, _ => absurd h (Nat.not_lt_zero _)
  | n + 1, x, y, lw, h, h0, m1, m2 => by
    refine Z.mono (lw' := [(6, .long y), (4, .long x)]) (fun q hq => by
      rcases List.mem_cons.mp hq with e | hq
      · rw [e]; exact m2
      · rw [List.mem_singleton.mp hq]; exact m1) ?_
    refine z_lload X d_X11_common_28 0 rfl (z_lconst X d_X11_common_30 rfl (zl_eq X d_X11_common_31 d_X11_common_32 (tgt := 53) (by decide) (a := y.toInt) (b := 0) rfl rfl (fun hy => ?_) (fun hy => ?_)))
    · refine z_lload X d_X11_common_53 1 rfl ?_
      exact z_lret X rfl d_X11_common_55 (Nat.zero_le _) (Nat.zero_le _) (hp x (h0.resolve_right (fun q => q hy)))
    · have hy0 : ¬ y = 0 := fun q => hy (by rw [q]; rfl)
      refine z_lload X d_X11_common_35 1 rfl (z_lload X d_X11_common_37 0 rfl (z_lrem X d_X11_common_39 hy0 ?_))
      refine z_lstore X d_X11_common_40 (by decide) (lv' := [(8, .long (x - x / y * y)), (6, .long y), (4, .long x)]) rfl ?_
      refine z_lload X d_X11_common_42 1 rfl (z_lstore X d_X11_common_44 (by decide) (lv' := [(4, .long y), (8, .long (x - x / y * y)), (6, .long y)]) rfl ?_)
      refine z_lload X d_X11_common_46 1 rfl (z_lstore X d_X11_common_48 (by decide) (lv' := [(6, .long (x - x / y * y)), (4, .long y), (8, .long (x - x / y * y))]) rfl ?_)
      refine z_goto X d_X11_common_50 (tgt := 28) (by decide) ?_
      refine cm_loop X hp n y _ _ ?_ (Or.inl hy) (List.mem_cons_of_mem _ List.mem_cons_self) List.mem_cons_self
      rw [lrem_t, Int.natAbs_tmod]
      have := Nat.mod_lt x.toInt.natAbs (show 0 < y.toInt.natAbs by omega)
      omega
theorem neg_ne {x : Int64} (h : x.toInt ≠ 0) : (-x).toInt ≠ 0 := by
  have h1 := i64_lo x
  have h2 := i64_hi x
  unfold lMin at h1
  unfold lMax at h2
  rw [Int64.toInt_neg]
  rcases (by omega : x.toInt = -9223372036854775808 ∨ -9223372036854775808 < x.toInt) with e | e
  · rw [e]; decide
  · rw [b64 (by omega) (by omega)]; omega
theorem cm_body {post : Option Value → va_W → Prop} {ws : va_W} {x y : Int64} (hy : y.toInt ≠ 0) (X : ZC p s m args meth c cX11_common 10 RX11 G A (some .long) "common") (hp : ∀ g : Int64, g.toInt ≠ 0 → post (some (.long g)) ws) : Z p l e R s m args below meth c 10 G A (MQ below (QQ G A post) args s R.cells R.slots A) 0 [(0, .long x), (2, .long y)] [] ws 0 0 := by
  have two : ∀ x', Z p l e R s m args below meth c 10 G A (MQ below (QQ G A post) args s R.cells R.slots A) 14 [(4, .long x'), (0, .long x), (2, .long y)] [] ws 0 0 := by
    intro x'
    refine z_lload_n X d_X11_common_14 rfl 2 rfl (z_lconst X d_X11_common_15 rfl (zl_ge X d_X11_common_16 d_X11_common_17 (tgt := 25) (by decide) (a := y.toInt) (b := 0) rfl rfl (fun h => ?_) (fun h => ?_)))
    · refine z_lload_n X d_X11_common_25 rfl 2 rfl (z_lstore X d_X11_common_26 (by decide) (lv' := [(6, .long y), (4, .long x'), (0, .long x), (2, .long y)]) rfl ?_)
      exact cm_loop X hp _ x' y _ (Nat.lt_succ_self _) (Or.inr hy) (List.mem_cons_of_mem _ List.mem_cons_self) List.mem_cons_self
    · refine z_lload_n X d_X11_common_20 rfl 2 rfl (z_lneg X d_X11_common_21 (z_goto X d_X11_common_22 (tgt := 26) (by decide) (z_lstore X d_X11_common_26 (by decide) (lv' := [(6, .long (-y)), (4, .long x'), (0, .long x), (2, .long y)]) rfl ?_)))
      exact cm_loop X hp _ x' (-y) _ (Nat.lt_succ_self _) (Or.inr (neg_ne hy)) (List.mem_cons_of_mem _ List.mem_cons_self) List.mem_cons_self
  refine z_lload_n X d_X11_common_0 rfl 0 rfl (z_lconst X d_X11_common_1 rfl (zl_ge X d_X11_common_2 d_X11_common_3 (tgt := 11) (by decide) (a := x.toInt) (b := 0) rfl rfl (fun h => ?_) (fun h => ?_)))
  · exact z_lload_n X d_X11_common_11 rfl 0 rfl (z_lstore X d_X11_common_12 (by decide) (lv' := [(4, .long x), (0, .long x), (2, .long y)]) rfl (two x))
  · exact z_lload_n X d_X11_common_6 rfl 0 rfl (z_lneg X d_X11_common_7 (z_goto X d_X11_common_8 (tgt := 12) (by decide) (z_lstore X d_X11_common_12 (by decide) (lv' := [(4, .long (-x)), (0, .long x), (2, .long y)]) rfl (two (-x)))))
end CM
theorem ac_cm {T : List TE} {C : CE} {lo hi : Int} (h1 : C.1 = [tL0, (1, lo, hi)]) (h2 : C.2.2.2.1 = cmAlts) (h3 : C.2.2.2.2 = ([], 0, 0)) (h4 : 0 < lo ∨ hi < 0) (l : Launch) (G : KG) : ACt l G T yX11_common cX11_common 10 (some .long) C := by
  intro ad w0 μ hW hP
  obtain ⟨x, hx, -⟩ := vty1 (hP.1 0 tL0 (by rw [h1]; rfl)) rfl
  obtain ⟨y, hy, y1, y2⟩ := vty1 (hP.1 1 (1, lo, hi) (by rw [h1]; rfl)) rfl
  have y1 : lo ≤ y.toInt := y1
  have y2 : y.toInt ≤ hi := y2
  have e0 : (List.range C.1.length).map μ = [.long x, .long y] := by
    rw [h1]
    show [μ 0, μ 1] = _
    rw [hx, hy]
  rw [e0]
  refine ct_of _ (by decide) (Nat.le_of_ble_eq_true rfl) rfl ?_
  intro p e s m args below meth c A X
  exact cm_body (by omega) X (fun g hg => cm_post h2 hW g hg)
theorem ac_common_P (l : Launch) (G : KG) : ACt l G TM yX11_common cX11_common 10 (some .long) C_common_P := ac_cm rfl rfl rfl (Or.inl (by decide)) l G
theorem ac_common_N (l : Launch) (G : KG) : ACt l G TM yX11_common cX11_common 10 (some .long) C_common_N := ac_cm rfl rfl rfl (Or.inr (by decide)) l G
