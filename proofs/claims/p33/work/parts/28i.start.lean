set_option maxHeartbeats 200000 in
theorem p0_1 : Cond.laysStatic Bundle.tN "UNASSIGNED_STACK" Bundle.steD ∈ lw_tbl := by decide +kernel
set_option maxHeartbeats 200000 in
theorem p0_2 : Cond.laysStatic Bundle.tN "SUPPRESSED_SENTINEL" Bundle.listD ∈ lw_tbl := by decide +kernel
set_option maxHeartbeats 200000 in
theorem p0_3 : Cond.initialized Bundle.tN ∈ lw_tbl := by decide +kernel
set_option maxHeartbeats 200000 in
theorem p0_4 : Cond.castable NSE NSE ∈ lw_tbl := by decide +kernel
set_option maxHeartbeats 200000 in
theorem p0_5 : Cond.declares (Bundle.initS xRT) ∈ lw_tbl := by decide +kernel
set_option maxHeartbeats 200000 in
theorem p0_6 : Cond.declares (Bundle.initS "java/lang/Exception") ∈ lw_tbl := by decide +kernel
set_option maxHeartbeats 200000 in
theorem p0_7 : Cond.declares (Bundle.initS Bundle.tN) ∈ lw_tbl := by decide +kernel
set_option maxHeartbeats 200000 in
theorem p0_8 : Cond.stringRef RX10 111 "no such hole" ∈ lw_tbl := by decide +kernel
set_option maxHeartbeats 200000 in
theorem p0_8b : Cond.stringRef RX10 134 "nothing such of a hole" ∈ lw_tbl := by decide +kernel
set_option maxHeartbeats 200000 in
theorem p0_9 : Cond.stringRef RX10 496 "no such number of the row" ∈ lw_tbl := by decide +kernel
set_option maxHeartbeats 200000 in
theorem p0_10 : Cond.isRef (.static Bundle.tN "UNASSIGNED_STACK" Bundle.steD) ∈ flatC (Jvm.Cond.and given_1 narrow_1) := by decide +kernel
set_option maxHeartbeats 200000 in
theorem p0_11 : Cond.isRef (.static Bundle.tN "SUPPRESSED_SENTINEL" Bundle.listD) ∈ flatC (Jvm.Cond.and given_1 narrow_1) := by decide +kernel
set_option maxHeartbeats 200000 in
theorem p0_all {s : State} {b : Nat} (hts : ∀ w ∈ lw_tbl, w.before #[Value.ref b] s = true) (hgv : (Jvm.Cond.and given_1 narrow_1).before #[Value.ref b] s = true) : EXs (fun q : Nat => s.heap.size ≤ q) s s.heap := by
  have hs := flat_of_before _ hgv
  have hnA : ∀ a : Nat, a < s.heap.size → ¬ (fun q : Nat => s.heap.size ≤ q) a := fun a h => Nat.not_le.mpr h
  exact ⟨vx_Zqof (hts _ p0_1) (hts _ p0_3) (hs _ p0_10) hnA, vx_Zqof (hts _ p0_2) (hts _ p0_3) (hs _ p0_11) hnA, va_Nw.of rfl (hts _ p0_4), ⟨va_Nw.of rfl (hts _ p0_5), va_Nw.of rfl (hts _ p0_6), va_Nw.of rfl (hts _ p0_7)⟩, xn_st.of (hts _ p0_8), xn_st.of (hts _ p0_8b), xn_st.of (hts _ p0_9)⟩
set_option maxHeartbeats 8000000 in
set_option maxRecDepth 100000 in
theorem whole_start {p : Program} {e : Env} {s : State} {m : MethodId} {below : List Frame} {meth : Method} {c : Code} (l : Launch) (hflags : l.flags = flags0) {b L : Nat} {xs : Nat → Int32} (hL : L ≤ 5120) (C0 : lw_At p s m meth c b L xs) : W p l e room_1 s m #[Value.ref b] below meth c s.heap [] 0 0 (lw_Z below #[Value.ref b] s) (entryFrame m ([Value.ref b] : List Value).toArray 8) := by
  obtain ⟨hx, hb, hr, hml, hown, hts, hX, hbl, hlocks, hgv⟩ := id C0
  have hBIG : ∀ w ∈ BIG, w.before #[Value.ref b] s = true := fun w hw => hts w (big_tbl hw)
  obtain ⟨c0, iS0, hKn0⟩ := u_known (C := RX0) (T := TX0) (N := 7) (n := 7) hBIG wsb_0 (hBIG _ is_0)
  obtain ⟨c1, iS1, hKn1⟩ := u_known (C := RX1) (T := TX1) (N := 9) (n := 9) hBIG wsb_1 (hBIG _ is_1)
  obtain ⟨c2, iS2, hKn2⟩ := u_known (C := RX2) (T := TX2) (N := 7) (n := 7) hBIG wsb_2 (hBIG _ is_2)
  obtain ⟨c3, iS3, hKn3⟩ := u_known (C := RX3) (T := TX3) (N := 9) (n := 9) hBIG wsb_3 (hBIG _ is_3)
  obtain ⟨c4, iS4, hKn4⟩ := u_known (C := RX4) (T := TX4) (N := 8) (n := 8) hBIG wsb_4 (hBIG _ is_4)
  obtain ⟨c5, iS5, hKn5⟩ := u_known (C := RX5) (T := TX5) (N := 9) (n := 9) hBIG wsb_5 (hBIG _ is_5)
  obtain ⟨c6, iS6, hKn6⟩ := u_known (C := RX6) (T := TX6) (N := 15) (n := 15) hBIG wsb_6 (hBIG _ is_6)
  obtain ⟨c7, iS7, hKn7⟩ := u_known (C := RX7) (T := TX7) (N := 6) (n := 6) hBIG wsb_7 (hBIG _ is_7)
  obtain ⟨c8, iS8, hKn8⟩ := u_known (C := RX8) (T := TX8) (N := 2) (n := 2) hBIG wsb_8 (hBIG _ is_8)
  obtain ⟨c9, iS9, hKn9⟩ := u_known (C := RX9) (T := TX9) (N := 10) (n := 10) hBIG wsb_9 (hBIG _ is_9)
  obtain ⟨c10, iS10, hKn10⟩ := u_known (C := RX10) (T := TX10) (N := 16) (n := 16) hBIG wsb_10 (hBIG _ is_10)
  obtain ⟨c11, iS11, hKn11⟩ := u_known (C := RX11) (T := TX11) (N := 75) (n := 75) hBIG wsb_11 (hBIG _ is_11)
  obtain ⟨tI, hI⟩ := tys_in (Or.inl rfl) (hBIG _ ac_0)
  obtain ⟨tJ, hJ⟩ := tys_in (Or.inr (Or.inl rfl)) (hBIG _ ac_1)
  obtain ⟨tZ, hZ⟩ := tys_in (Or.inr (Or.inr rfl)) (hBIG _ ac_2)
  obtain ⟨tO, hO⟩ := tys_ob (hts _ ao_0)
  obtain ⟨G, hKK⟩ : ∃ G : KG, KK G s := by
    refine ⟨((fun k => [c0, c1, c2, c3, c4, c5, c6, c7, c8, c9, c10, c11].getD k c0, fun k => [iS0, iS1, iS2, iS3, iS4, iS5, iS6, iS7, iS8, iS9, iS10, iS11].getD k iS0), tI, tJ, tZ, tO), ⟨⟨?_, ?_⟩, NWs.of hts ao_0⟩⟩
    · intro k q hq
      match k, hq with
      | 0, hq => cases hq; exact hKn0
      | 1, hq => cases hq; exact hKn1
      | 2, hq => cases hq; exact hKn2
      | 3, hq => cases hq; exact hKn3
      | 4, hq => cases hq; exact hKn4
      | 5, hq => cases hq; exact hKn5
      | 6, hq => cases hq; exact hKn6
      | 7, hq => cases hq; exact hKn7
      | 8, hq => cases hq; exact hKn8
      | 9, hq => cases hq; exact hKn9
      | 10, hq => cases hq; exact hKn10
      | 11, hq => cases hq; exact hKn11
      | k + 12, hq => simp [vwCl] at hq
    · intro k q hq
      match k, hq with
      | 0, hq => cases hq; exact hI
      | 1, hq => cases hq; exact hJ
      | 2, hq => cases hq; exact hZ
      | 3, hq => cases hq; exact hO
      | k + 4, hq => simp at hq
  have hbA : ¬ (fun q : Nat => s.heap.size ≤ q) b := Nat.not_le.mpr hbl
  have X : ZC p s m #[Value.ref b] meth c code 8 RL G (fun q : Nat => s.heap.size ≤ q) ret meth.name := ⟨hx, hb, hml, hown, hBIG, hKK, fun _ h => h, hlocks, hr, rfl⟩
  have hst : l.stackTraces = false := by
    unfold Launch.stackTraces
    rw [hflags]
    decide +kernel
  have hP0 : EXs (fun q : Nat => s.heap.size ≤ q) s s.heap := p0_all hts hgv
  have hz : Z p l e room_1 s m #[Value.ref b] below meth c 8 G (fun q : Nat => s.heap.size ≤ q) (lw_Z below #[Value.ref b] s) 0 [(0, .ref b)] [] [] 0 0 := by
    refine z_new X (T := TX10) (N := 16) (ci := 10) rfl wsb_10 tyX10 tyX10_ok cl_L_8 is_10 in_10 (fs := [.null, .null, .null, .null, .null, .null, .null, .null, .null, .null, .null, .null, .null, .null, .null, .null]) (by decide) (Nat.le_of_ble_eq_true rfl) (Nat.le_of_ble_eq_true rfl) d_lw_0 (fun x => ?_)
    refine z_dup X d_lw_3 rfl ?_
    refine z_callI X k_L_19 (c_newX l G x) d_lw_4 ⟨Nat.le_of_ble_eq_true rfl, Nat.le_of_ble_eq_true rfl⟩ ⟨Nat.le_of_ble_eq_true rfl, Nat.le_of_ble_eq_true rfl⟩ rfl (rest := [.ref x]) (As := []) rfl (Nat.le_of_ble_eq_true rfl) [0] [] rfl (by decide) (wr := []) rfl (by decide) (by decide) (fun r wx hp => ?_)
    obtain ⟨rfl, ⟨hx1, hlx⟩, ht1⟩ := hp
    refine z_astore_n X d_lw_7 rfl (by decide) (lv' := [(1, .ref x), (0, .ref b)]) rfl ?_
    refine z_new X (T := TX11) (N := 75) (ci := 11) rfl wsb_11 tyX11 tyX11_ok cl_L_20 is_11 in_11 (fs := [.int 0, .int 0, .null, .int 0, .null, .null, .null, .null, .null, .null, .int 0, .null, .null, .null, .null, .null, .int 0, .null, .null, .int 0, .int 0, .int 0, .int 0, .null, .null, .null, .null, .null, .int 0, .int 0, .null, .int 0, .null, .null, .null, .null, .null, .null, .long 0, .long 0, .long 0, .null, .null, .null, .null, .int 0, .null, .null, .int 0, .int 0, .null, .null, .null, .null, .null, .null, .null, .null, .int 0, .int 0, .int 0, .long 0, .int 0, .int 0, .int 0, .long 0, .null, .null, .null, .null, .int 0, .long 0, .null, .null, .int 0]) (by decide) (Nat.le_of_ble_eq_true rfl) (Nat.le_of_ble_eq_true rfl) d_lw_8 (fun y => ?_)
    refine z_dup X d_lw_11 rfl ?_
    refine z_callI X k_L_22 (c_newM l G y) d_lw_12 ⟨Nat.le_of_ble_eq_true rfl, Nat.le_of_ble_eq_true rfl⟩ ⟨Nat.le_of_ble_eq_true rfl, Nat.le_of_ble_eq_true rfl⟩ rfl (rest := [.ref y]) (As := []) rfl (Nat.le_of_ble_eq_true rfl) [109] (List.range 109) (by
      show [(wx ++ _)[109]?] = _
      rw [List.getElem?_append_right (by omega), hlx]
      rfl) (by decide) (wr := wx) (by
      have h9 := range_pick wx
      rw [hlx] at h9
      rw [← h9]
      refine List.map_congr_left (fun i hi => ?_)
      have := List.mem_range.mp hi
      exact List.getElem?_append_left (by show i < wx.length; omega)) (va_nd_range _) (by decide) (fun r wm hp => ?_)
    obtain ⟨rfl, hy1, ht2⟩ := hp
    refine z_astore_n X d_lw_15 rfl (by decide) (lv' := [(2, .ref y), (1, .ref x), (0, .ref b)]) rfl ?_
    refine z_iconst X d_lw_16 (v := 1) (by decide) ?_
    refine z_newa X (atype := .long) (ty := .long) ac_1 rfl (Or.inr (Or.inl rfl)) 1 (n := 1) (N' := 1) (a0 := (1, .inr (.inl (fun _ => 0)))) rfl (fun _ => rfl) (by decide) rfl (Nat.le_of_ble_eq_true rfl) (Nat.le_of_ble_eq_true rfl) (Nat.le_of_ble_eq_true rfl) d_lw_17 (fun o => ?_)
    refine z_astore_n X d_lw_19 rfl (by decide) (lv' := [(3, .ref o), (2, .ref y), (1, .ref x), (0, .ref b)]) rfl ?_
    refine z_iconst X d_lw_20 (v := 0) (by decide) ?_
    refine z_istore X d_lw_21 (by decide) (lv' := [(4, .int 0), (3, .ref o), (2, .ref y), (1, .ref x), (0, .ref b)]) rfl ?_
    refine Z.mono (lw' := lv5 b x y o 0) (fun q hq => by simp only [List.mem_cons, List.not_mem_nil, or_false] at hq ⊢; rcases hq with h | h | h | h | h <;> simp [h]) ?_
    exact lw_loop (c0 := 157) (s0 := 46547) X hX hbl hbA hP0 hst hL (by decide) (by decide) (L + 1) 0 wx wm (fun _ => 0) _ _ 0 hx1 hy1 (RelQ.of ⟨0, 0, 0, 0, (fun _ => 0), (fun _ => 0), by decide, by decide, fun _ _ => rfl, ⟨ht1.1, ht2.1⟩, ⟨ht1.2.1, ht2.2.1⟩, ⟨ht1.2.2.1, ht2.2.2.1⟩, ⟨ht1.2.2.2.1, ht2.2.2.2.1⟩, ht1.2.2.2.2.1, ht2.2.2.2.2.1⟩ ⟨0, 0, 0, ⟨ht1.2.1, ht1.2.2.1, ht1.2.2.2.1⟩, ⟨_, _, ht1.2.2.2.2.2.1, ht2.2.2.2.2.2.1, fun _ _ _ => rfl⟩, ⟨_, _, ht1.2.2.2.2.2.2.1, ht2.2.2.2.2.2.2.1, fun _ _ _ => rfl⟩, ⟨_, _, ht1.2.2.2.2.2.2.2.1, ht2.2.2.2.2.2.2.2.1, fun _ _ _ => rfl⟩, ⟨_, _, ht1.2.2.2.2.2.2.2.2.1, ht2.2.2.2.2.2.2.2.2.1, fun _ _ _ => rfl⟩, ⟨_, _, ht1.2.2.2.2.2.2.2.2.2.1, ht2.2.2.2.2.2.2.2.2.2.1, fun _ _ _ => rfl⟩⟩ ⟨0, ht1.2.1, ⟨_, _, ht1.2.2.2.2.2.2.2.2.2.2.1, ht2.2.2.2.2.2.2.2.2.2.2.1, fun _ _ _ => rfl⟩, _, ht1.2.2.2.2.2.2.2.2.2.2.1, fun _ _ _ => rfl⟩ ⟨_, _, ht1.2.2.2.2.2.2.2.2.2.2.2.1, ht2.2.2.2.2.2.2.2.2.2.2.2.1, fun _ _ => rfl⟩ ⟨0, ht1.2.1, ⟨_, _, ht1.2.2.2.2.2.2.2.2.2.2.2.2.1, ht2.2.2.2.2.2.2.2.2.2.2.2.2.1, fun _ _ _ => rfl⟩, ⟨_, _, ht1.2.2.2.2.2.2.2.2.2.2.2.2.2.1, ht2.2.2.2.2.2.2.2.2.2.2.2.2.2.1, fun _ _ _ => rfl⟩⟩ ⟨0, 0, 0, ⟨ht1.2.1, ht1.2.2.1, ht1.2.2.2.1⟩, ⟨_, ht1.2.2.2.2.2.2.2.2.2.2.2.2.1, fun j _ h => absurd h (by have z : (0 : Int32).toInt = 0 := (by decide); omega)⟩, ⟨_, ht1.2.2.2.2.2.2.2.2.2.2.2.2.2.1, fun j _ h => absurd h (by have z : (0 : Int32).toInt = 0 := (by decide); omega)⟩, ⟨_, ht1.2.2.2.2.2.2.2.1, fun j _ h => absurd h (by have z : (0 : Int32).toInt = 0 := (by decide); omega)⟩, ⟨_, ht1.2.2.2.2.2.2.2.2.1, fun j _ h => absurd h (by have z : (0 : Int32).toInt = 0 := (by decide); omega)⟩, ⟨_, ht1.2.2.2.2.2.2.2.2.2.1, fun j _ h => absurd h (by have z : (0 : Int32).toInt = 0 := (by decide); omega)⟩⟩ ⟨0, _, _, _, ht1.2.1, ht1.2.2.2.2.2.2.2.2.2.2.2.2.2.2.1, ht2.2.2.2.2.2.2.2.2.2.2.2.2.2.2.1, ht1.2.2.2.2.2.2.1, fun _ _ _ => rfl, fun _ _ _ => rfl, fun _ _ => Int.le_refl _⟩ ⟨_, _, _, ht1.2.2.2.2.2.2.2.2.2.2.2.2.2.2.2.1, ht2.2.2.2.2.2.2.2.2.2.2.2.2.2.2.2.1, ht2.2.2.2.2.2.2.2.2.2.2.2.2.2.2.2.2.1, fun _ _ => ⟨rfl, rfl⟩, (fun _ _ => (by decide : -9999 ≤ (0 : Int32).toInt ∧ (0 : Int32).toInt ≤ 9999))⟩ ⟨0, _, _, _, ht1.2.1, ht1.2.2.2.2.2.2.1, ht2.2.2.2.2.2.2.2.2.2.2.2.2.2.2.2.2.2.1, ht2.2.2.2.2.2.2.2.2.2.2.2.2.2.2.2.2.2.2, (fun i hi => by rcases (by omega : i = 0 ∨ i = 1 ∨ i = 2) with rfl | rfl | rfl; exact ⟨0, _, _, ht1.2.2.2.2.2.2.2.2.2.2.2.2.2.2.2.2.1, ht1.2.2.2.2.2.2.2.2.2.2.2.2.2.2.2.2.2.1, ht1.2.2.2.2.2.2.2.2.2.2.2.2.2.2.2.2.2.2.1, rfl, by decide, fun z => absurd (show (0 : Int32).toInt = 0 by decide) z, fun _ _ _ => rfl, fun _ _ => Int.le_refl _, (fun _ _ => (by decide : -9999 ≤ (0 : Int32).toInt ∧ (0 : Int32).toInt ≤ 9999))⟩; exact ⟨0, _, _, ht1.2.2.2.2.2.2.2.2.2.2.2.2.2.2.2.2.2.2.2.1, ht1.2.2.2.2.2.2.2.2.2.2.2.2.2.2.2.2.2.2.2.2.1, ht1.2.2.2.2.2.2.2.2.2.2.2.2.2.2.2.2.2.2.2.2.2.1, rfl, by decide, fun z => absurd (show (0 : Int32).toInt = 0 by decide) z, fun _ _ _ => rfl, fun _ _ => Int.le_refl _, (fun _ _ => (by decide : -9999 ≤ (0 : Int32).toInt ∧ (0 : Int32).toInt ≤ 9999))⟩; exact ⟨0, _, _, ht1.2.2.2.2.2.2.2.2.2.2.2.2.2.2.2.2.2.2.2.2.2.2.1, ht1.2.2.2.2.2.2.2.2.2.2.2.2.2.2.2.2.2.2.2.2.2.2.2.1, ht1.2.2.2.2.2.2.2.2.2.2.2.2.2.2.2.2.2.2.2.2.2.2.2.2, rfl, by decide, fun z => absurd (show (0 : Int32).toInt = 0 by decide) z, fun _ _ _ => rfl, fun _ _ => Int.le_refl _, (fun _ _ => (by decide : -9999 ≤ (0 : Int32).toInt ∧ (0 : Int32).toInt ≤ 9999))⟩)⟩) (by decide) (by show (0 : Int) ≤ (L : Int); omega) (by decide) (Or.inl ⟨hlx, by decide, by decide⟩) (by show ((L : Int) - 0).toNat < L + 1; omega)
  have hl := lv_entry ([.ref b]) (n := 8) (Nat.le_of_ble_eq_true rfl)
  rw [lg_entry_eq]
  exact hz s.heap [] _ (fun k q h => by simp at h) ⟨fun i j p q h => by simp at h, fun k q h => by simp at h⟩ va_S.rf hl
