set_option maxHeartbeats 200000 in
theorem p0_1 : Cond.laysStatic Bundle.tN "UNASSIGNED_STACK" Bundle.steD ∈ lw_tbl := by decide +kernel
set_option maxHeartbeats 200000 in
theorem p0_2 : Cond.laysStatic Bundle.tN "SUPPRESSED_SENTINEL" Bundle.listD ∈ lw_tbl := by decide +kernel
set_option maxHeartbeats 200000 in
theorem p0_3 : Cond.initialized Bundle.tN ∈ lw_tbl := by decide +kernel
set_option maxHeartbeats 200000 in
theorem p0_4 : Cond.castable NSE NSE ∈ lw_tbl := by decide +kernel
set_option maxHeartbeats 200000 in
theorem p0_5 : Cond.declares (Bundle.initS xRT) ∈ lw_tbl := by decide +kernel
set_option maxHeartbeats 200000 in
theorem p0_6 : Cond.declares (Bundle.initS "java/lang/Exception") ∈ lw_tbl := by decide +kernel
set_option maxHeartbeats 200000 in
theorem p0_7 : Cond.declares (Bundle.initS Bundle.tN) ∈ lw_tbl := by decide +kernel
set_option maxHeartbeats 200000 in
theorem p0_8 : Cond.stringRef RX10 111 "no such hole" ∈ lw_tbl := by decide +kernel
set_option maxHeartbeats 200000 in
theorem p0_9 : Cond.stringRef RX10 496 "no such number of the row" ∈ lw_tbl := by decide +kernel
set_option maxHeartbeats 200000 in
theorem p0_10 : Cond.isRef (.static Bundle.tN "UNASSIGNED_STACK" Bundle.steD) ∈ flatC (Jvm.Cond.and given_1 narrow_1) := by decide +kernel
set_option maxHeartbeats 200000 in
theorem p0_11 : Cond.isRef (.static Bundle.tN "SUPPRESSED_SENTINEL" Bundle.listD) ∈ flatC (Jvm.Cond.and given_1 narrow_1) := by decide +kernel
set_option maxHeartbeats 200000 in
theorem p0_all {s : State} {b : Nat} (hts : ∀ w ∈ lw_tbl, w.before #[Value.ref b] s = true) (hgv : (Jvm.Cond.and given_1 narrow_1).before #[Value.ref b] s = true) : EXs (fun q : Nat => s.heap.size ≤ q) s s.heap := by
  have hs := flat_of_before _ hgv
  have hnA : ∀ a : Nat, a < s.heap.size → ¬ (fun q : Nat => s.heap.size ≤ q) a := fun a h => Nat.not_le.mpr h
  exact ⟨vx_Zqof (hts _ p0_1) (hts _ p0_3) (hs _ p0_10) hnA, vx_Zqof (hts _ p0_2) (hts _ p0_3) (hs _ p0_11) hnA, va_Nw.of rfl (hts _ p0_4), ⟨va_Nw.of rfl (hts _ p0_5), va_Nw.of rfl (hts _ p0_6), va_Nw.of rfl (hts _ p0_7)⟩, xn_st.of (hts _ p0_8), xn_st.of (hts _ p0_9)⟩
