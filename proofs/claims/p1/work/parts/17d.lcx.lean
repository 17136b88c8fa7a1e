theorem d_L_law_317 : decode cL_law 317 = .ok (.iaload, 1) := by decide +kernel
theorem d_L_law_323 : decode cL_law 323 = .ok (.iaload, 1) := by decide +kernel
theorem d_L_law_325 : decode cL_law 325 = .ok (.invokestatic 38, 3) := by decide +kernel
theorem d_L_law_336 : decode cL_law 336 = .ok (.iaload, 1) := by decide +kernel
theorem d_L_law_342 : decode cL_law 342 = .ok (.iaload, 1) := by decide +kernel
theorem d_L_law_343 : decode cL_law 343 = .ok (.invokevirtual 43, 3) := by decide +kernel
theorem d_L_law_349 : decode cL_law 349 = .ok (.invokevirtual 44, 3) := by decide +kernel
theorem d_L_law_354 : decode cL_law 354 = .ok (.if_icmp .eq 5, 3) := by decide +kernel
theorem d_L_law_361 : decode cL_law 361 = .ok (.ifCond .ne 15, 3) := by decide +kernel
theorem d_L_law_376 : decode cL_law 376 = .ok (.goto 1880, 3) := by decide +kernel
abbrev bb_L_law_311_317 : ZB := [(.aload_n 1, .null), (.aload_n 0, .null), (.iload 4, .null), (.iconst 1, .int 1), (.iadd, .null)]
theorem bk_L_law_311_317 : zchk cL_law bb_L_law_311_317 311 = true ∧ zpc bb_L_law_311_317 311 = 317 := ⟨by decide +kernel, rfl⟩
abbrev bb_L_law_318_323 : ZB := [(.aload_n 0, .null), (.iload 4, .null), (.iconst 2, .int 2), (.iadd, .null)]
theorem bk_L_law_318_323 : zchk cL_law bb_L_law_318_323 318 = true ∧ zpc bb_L_law_318_323 318 = 323 := ⟨by decide +kernel, rfl⟩
abbrev bb_L_law_324_325 : ZB := [(.aload_n 3, .null)]
theorem bk_L_law_324_325 : zchk cL_law bb_L_law_324_325 324 = true ∧ zpc bb_L_law_324_325 324 = 325 := ⟨by decide +kernel, rfl⟩
abbrev bb_L_law_328_336 : ZB := [(.istore 5, .null), (.aload_n 2, .null), (.aload_n 0, .null), (.iload 4, .null), (.iconst 1, .int 1), (.iadd, .null)]
theorem bk_L_law_328_336 : zchk cL_law bb_L_law_328_336 328 = true ∧ zpc bb_L_law_328_336 328 = 336 := ⟨by decide +kernel, rfl⟩
abbrev bb_L_law_337_342 : ZB := [(.aload_n 0, .null), (.iload 4, .null), (.iconst 2, .int 2), (.iadd, .null)]
theorem bk_L_law_337_342 : zchk cL_law bb_L_law_337_342 337 = true ∧ zpc bb_L_law_337_342 337 = 342 := ⟨by decide +kernel, rfl⟩
abbrev bb_L_law_346_349 : ZB := [(.istore 6, .null), (.aload_n 2, .null)]
theorem bk_L_law_346_349 : zchk cL_law bb_L_law_346_349 346 = true ∧ zpc bb_L_law_346_349 346 = 349 := ⟨by decide +kernel, rfl⟩
abbrev bb_L_law_352_354 : ZB := [(.iload 5, .null)]
theorem bk_L_law_352_354 : zchk cL_law bb_L_law_352_354 352 = true ∧ zpc bb_L_law_352_354 352 = 354 := ⟨by decide +kernel, rfl⟩
abbrev bb_L_law_359_361 : ZB := [(.iload 5, .null)]
theorem bk_L_law_359_361 : zchk cL_law bb_L_law_359_361 359 = true ∧ zpc bb_L_law_359_361 359 = 361 := ⟨by decide +kernel, rfl⟩
set_option maxHeartbeats 4000000 in
set_option maxRecDepth 100000 in
theorem lc_3 {p : Program} {l : Launch} {e : Env} {s : State} {m : MethodId} {below : List Frame} {meth : Method} {c : Code} {G : KG} {b : Nat} {xs : Nat → Int32} (X : ZC p s m #[Value.ref b] meth c cL_law 8 RL G (fun q : Nat => s.heap.size ≤ q) ret meth.name) (hX : va_X b 10 xs s s.heap) (hbl : b < s.heap.size) (hbA : ¬ (fun q : Nat => s.heap.size ≤ q) b) (hst : l.stackTraces = false) (hP0 : EXs (fun q : Nat => s.heap.size ≤ q) s s.heap) (x : Nat) (told : Nat) (reader : Nat) (ring : Nat) (speeds : Nat) (wheel : Nat) (trials : Nat) (span : Nat) (search : Nat) (kept : Nat) (crosses : Nat) (trueM : Nat) (thought : Nat) (up : Nat) (low : Nat) (fits : Nat) (rp : Nat) (rx : Nat) (ry : Nat) (rr : Nat) (rh : Nat) (rd : Nat) (mo : Nat) (r_row : Nat) (r_planeOf : Nat) (r_holeX : Nat) (r_holeY : Nat) (r_room : Nat) (r_ounces : Nat) (r_deepOf : Nat) (r_factor : Nat) (r_otherOf : Nat) (r_isApart : Nat) (r_apartX : Nat) (r_apartY : Nat) (r_weight : Nat) (r_tape : Nat) (r_crossOf : Nat) (r_trueX : Nat) (r_trueY : Nat) (r_thoughtX : Nat) (r_thoughtY : Nat) (r_lead : Nat) (r_trialSpeed : Nat) (r_isWhole : Nat) (r_trialX : Nat) (r_trialY : Nat) (r_trialGive : Nat) (r_trialLead : Nat) (r_trialBaseX : Nat) (r_trialBaseY : Nat) (r_trialTimes : Nat) (r_pulls : Nat) (r_sizes : Nat) (r_merged : Nat) (r_leftBehind : Nat) (r_manUp : Nat) (r_manLow : Nat) (r_asked : Nat) (r_lowOf : Nat) (r_highOf : Nat) (r_tried : Nat) (r_found : Nat) (r_parts : Nat) (r_filled : Nat) (r_cogAt : Nat) (r_cogBest : Nat) (r_isKept : Nat) (r_kept : Nat) (outa : Nat) : Z p l e room_1 s m #[Value.ref b] below meth c 8 G (fun q : Nat => s.heap.size ≤ q) (lw_Z below #[Value.ref b] s) 311 [(4, .int 0), (3, .ref outa), (2, .ref mo), (1, .ref x), (0, .ref b)] [] [(x, ob 10 [.ref told, .ref reader, .ref ring, .ref speeds, .ref wheel, .ref trials, .ref span, .ref search, .ref kept, .ref crosses, .ref trueM, .ref thought, .ref up, .ref low, .ref fits, .null]), (ring, ob 5 [.int 0, .ref rp, .ref rx, .ref ry, .ref rr, .ref rh, .ref rd, .int (-1), .int 0]), (mo, ob 11 [.int 0, .int 0, .ref r_row, .int 0, .ref r_planeOf, .ref r_holeX, .ref r_holeY, .ref r_room, .ref r_ounces, .ref r_deepOf, .int 0, .ref r_factor, .ref r_otherOf, .ref r_isApart, .ref r_apartX, .ref r_apartY, .int 0, .ref r_weight, .ref r_tape, .int 0, .int 0, .int 0, .int 0, .ref r_crossOf, .ref r_trueX, .ref r_trueY, .ref r_thoughtX, .ref r_thoughtY, .int (-1), .int 0, .ref r_lead, .int 0, .ref r_trialSpeed, .ref r_isWhole, .ref r_trialX, .ref r_trialY, .ref r_trialGive, .ref r_trialLead, .long 0, .long 0, .long 0, .ref r_trialBaseX, .ref r_trialBaseY, .ref r_trialTimes, .ref r_pulls, .int 0, .ref r_sizes, .ref r_merged, .int 0, .int 0, .ref r_leftBehind, .ref r_manUp, .ref r_manLow, .ref r_asked, .ref r_lowOf, .ref r_highOf, .ref r_tried, .ref r_found, .int 0, .int 0, .int 0, .long 0, .int 0, .int 0, .int 0, .long 0, .ref r_parts, .ref r_filled, .ref r_cogAt, .ref r_cogBest, .int 0, .long 0, .ref r_isKept, .ref r_kept, .int 0]), (outa, aJ G 1 (fun _ => 0))] 157 46547 := by
  sorry
theorem d_L_law_2207 : decode cL_law 2207 = .ok (.iaload, 1) := by decide +kernel
theorem d_L_law_2209 : decode cL_law 2209 = .ok (.invokestatic 231, 3) := by decide +kernel
theorem d_L_law_2220 : decode cL_law 2220 = .ok (.iaload, 1) := by decide +kernel
theorem d_L_law_2221 : decode cL_law 2221 = .ok (.invokevirtual 234, 3) := by decide +kernel
theorem d_L_law_2227 : decode cL_law 2227 = .ok (.invokevirtual 44, 3) := by decide +kernel
theorem d_L_law_2232 : decode cL_law 2232 = .ok (.if_icmp .eq 5, 3) := by decide +kernel
theorem d_L_law_2239 : decode cL_law 2239 = .ok (.ifCond .ne 14, 3) := by decide +kernel
theorem d_L_law_2253 : decode cL_law 2253 = .ok (.goto 3, 3) := by decide +kernel
abbrev bb_L_law_2201_2207 : ZB := [(.aload_n 1, .null), (.aload_n 0, .null), (.iload 4, .null), (.iconst 1, .int 1), (.iadd, .null)]
theorem bk_L_law_2201_2207 : zchk cL_law bb_L_law_2201_2207 2201 = true ∧ zpc bb_L_law_2201_2207 2201 = 2207 := ⟨by decide +kernel, rfl⟩
abbrev bb_L_law_2208_2209 : ZB := [(.aload_n 3, .null)]
theorem bk_L_law_2208_2209 : zchk cL_law bb_L_law_2208_2209 2208 = true ∧ zpc bb_L_law_2208_2209 2208 = 2209 := ⟨by decide +kernel, rfl⟩
abbrev bb_L_law_2212_2220 : ZB := [(.istore 5, .null), (.aload_n 2, .null), (.aload_n 0, .null), (.iload 4, .null), (.iconst 1, .int 1), (.iadd, .null)]
theorem bk_L_law_2212_2220 : zchk cL_law bb_L_law_2212_2220 2212 = true ∧ zpc bb_L_law_2212_2220 2212 = 2220 := ⟨by decide +kernel, rfl⟩
abbrev bb_L_law_2224_2227 : ZB := [(.lstore 6, .null), (.aload_n 2, .null)]
theorem bk_L_law_2224_2227 : zchk cL_law bb_L_law_2224_2227 2224 = true ∧ zpc bb_L_law_2224_2227 2224 = 2227 := ⟨by decide +kernel, rfl⟩
abbrev bb_L_law_2230_2232 : ZB := [(.iload 5, .null)]
theorem bk_L_law_2230_2232 : zchk cL_law bb_L_law_2230_2232 2230 = true ∧ zpc bb_L_law_2230_2232 2230 = 2232 := ⟨by decide +kernel, rfl⟩
abbrev bb_L_law_2237_2239 : ZB := [(.iload 5, .null)]
theorem bk_L_law_2237_2239 : zchk cL_law bb_L_law_2237_2239 2237 = true ∧ zpc bb_L_law_2237_2239 2237 = 2239 := ⟨by decide +kernel, rfl⟩
set_option maxHeartbeats 4000000 in
set_option maxRecDepth 100000 in
theorem lc_47 {p : Program} {l : Launch} {e : Env} {s : State} {m : MethodId} {below : List Frame} {meth : Method} {c : Code} {G : KG} {b : Nat} {xs : Nat → Int32} (X : ZC p s m #[Value.ref b] meth c cL_law 8 RL G (fun q : Nat => s.heap.size ≤ q) ret meth.name) (hX : va_X b 10 xs s s.heap) (hbl : b < s.heap.size) (hbA : ¬ (fun q : Nat => s.heap.size ≤ q) b) (hst : l.stackTraces = false) (hP0 : EXs (fun q : Nat => s.heap.size ≤ q) s s.heap) (x : Nat) (told : Nat) (reader : Nat) (ring : Nat) (speeds : Nat) (wheel : Nat) (trials : Nat) (span : Nat) (search : Nat) (kept : Nat) (crosses : Nat) (trueM : Nat) (thought : Nat) (up : Nat) (low : Nat) (fits : Nat) (tn : Nat) (mo : Nat) (r_row : Nat) (r_planeOf : Nat) (r_holeX : Nat) (r_holeY : Nat) (r_room : Nat) (r_ounces : Nat) (r_deepOf : Nat) (r_factor : Nat) (r_otherOf : Nat) (r_isApart : Nat) (r_apartX : Nat) (r_apartY : Nat) (r_weight : Nat) (r_tape : Nat) (r_crossOf : Nat) (r_trueX : Nat) (r_trueY : Nat) (r_thoughtX : Nat) (r_thoughtY : Nat) (r_lead : Nat) (r_trialSpeed : Nat) (r_isWhole : Nat) (r_trialX : Nat) (r_trialY : Nat) (r_trialGive : Nat) (r_trialLead : Nat) (r_trialBaseX : Nat) (r_trialBaseY : Nat) (r_trialTimes : Nat) (r_pulls : Nat) (r_sizes : Nat) (r_merged : Nat) (r_leftBehind : Nat) (r_manUp : Nat) (r_manLow : Nat) (r_asked : Nat) (r_lowOf : Nat) (r_highOf : Nat) (r_tried : Nat) (r_found : Nat) (r_parts : Nat) (r_filled : Nat) (r_cogAt : Nat) (r_cogBest : Nat) (r_isKept : Nat) (r_kept : Nat) (outa : Nat) : Z p l e room_1 s m #[Value.ref b] below meth c 8 G (fun q : Nat => s.heap.size ≤ q) (lw_Z below #[Value.ref b] s) 2201 [(4, .int 0), (3, .ref outa), (2, .ref mo), (1, .ref x), (0, .ref b)] [] [(x, ob 10 [.ref told, .ref reader, .ref ring, .ref speeds, .ref wheel, .ref trials, .ref span, .ref search, .ref kept, .ref crosses, .ref trueM, .ref thought, .ref up, .ref low, .ref fits, .null]), (told, ob 8 [.ref tn, .int 0]), (mo, ob 11 [.int 0, .int 0, .ref r_row, .int 0, .ref r_planeOf, .ref r_holeX, .ref r_holeY, .ref r_room, .ref r_ounces, .ref r_deepOf, .int 0, .ref r_factor, .ref r_otherOf, .ref r_isApart, .ref r_apartX, .ref r_apartY, .int 0, .ref r_weight, .ref r_tape, .int 0, .int 0, .int 0, .int 0, .ref r_crossOf, .ref r_trueX, .ref r_trueY, .ref r_thoughtX, .ref r_thoughtY, .int (-1), .int 0, .ref r_lead, .int 0, .ref r_trialSpeed, .ref r_isWhole, .ref r_trialX, .ref r_trialY, .ref r_trialGive, .ref r_trialLead, .long 0, .long 0, .long 0, .ref r_trialBaseX, .ref r_trialBaseY, .ref r_trialTimes, .ref r_pulls, .int 0, .ref r_sizes, .ref r_merged, .int 0, .int 0, .ref r_leftBehind, .ref r_manUp, .ref r_manLow, .ref r_asked, .ref r_lowOf, .ref r_highOf, .ref r_tried, .ref r_found, .int 0, .int 0, .int 0, .long 0, .int 0, .int 0, .int 0, .long 0, .ref r_parts, .ref r_filled, .ref r_cogAt, .ref r_cogBest, .int 0, .long 0, .ref r_isKept, .ref r_kept, .int 0]), (outa, aJ G 1 (fun _ => 0))] 157 46547 := by
  sorry
