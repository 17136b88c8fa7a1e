/-! the pulls, fetched or made -/
theorem d_gp_0 : decode cX10_gatherPulls 0 = .ok (.aload_n 0, 1) := by decide +kernel
theorem d_gp_1 : decode cX10_gatherPulls 1 = .ok (.getfield 291, 3) := by decide +kernel
theorem d_gp_4 : decode cX10_gatherPulls 4 = .ok (.ifnonnull 14, 3) := by decide +kernel
theorem d_gp_7 : decode cX10_gatherPulls 7 = .ok (.aload_n 0, 1) := by decide +kernel
theorem d_gp_8 : decode cX10_gatherPulls 8 = .ok (.new 269, 3) := by decide +kernel
theorem d_gp_11 : decode cX10_gatherPulls 11 = .ok (.dup, 1) := by decide +kernel
theorem d_gp_12 : decode cX10_gatherPulls 12 = .ok (.invokespecial 295, 3) := by decide +kernel
theorem d_gp_15 : decode cX10_gatherPulls 15 = .ok (.putfield 291, 3) := by decide +kernel
theorem d_gp_18 : decode cX10_gatherPulls 18 = .ok (.aload_n 0, 1) := by decide +kernel
theorem d_gp_19 : decode cX10_gatherPulls 19 = .ok (.invokevirtual 242, 3) := by decide +kernel
theorem d_gp_22 : decode cX10_gatherPulls 22 = .ok (.aload_n 0, 1) := by decide +kernel
theorem d_gp_23 : decode cX10_gatherPulls 23 = .ok (.getfield 291, 3) := by decide +kernel
theorem d_gp_26 : decode cX10_gatherPulls 26 = .ok (.aload_n 0, 1) := by decide +kernel
theorem d_gp_27 : decode cX10_gatherPulls 27 = .ok (.getfield 47, 3) := by decide +kernel
theorem d_gp_30 : decode cX10_gatherPulls 30 = .ok (.invokevirtual 296, 3) := by decide +kernel
theorem d_gp_33 : decode cX10_gatherPulls 33 = .ok (.aload_n 0, 1) := by decide +kernel
theorem d_gp_34 : decode cX10_gatherPulls 34 = .ok (.getfield 291, 3) := by decide +kernel
theorem d_gp_37 : decode cX10_gatherPulls 37 = .ok (.areturn, 1) := by decide +kernel
section GPS
variable {p : Program} {l : Launch} {e : Env} {R : Room} {s : State} {m : MethodId} {args : Array Value} {below : List Frame} {meth : Method} {c : Code} {G : KG} {ω : va_W} {A : Nat → Prop} {ad : Nat → Nat} {kc ks mc ms : Nat} {PO : Option Value → va_W → Prop}
theorem gp_tail {ws : va_W} (X : ZC p s m args meth c cX10_gatherPulls 1 RX10 G A (some (.object "StoneThatShakes$Pulls")) "gatherPulls") (hW : WT G ad TXP ws) (hG : GF G ω ws) (hR1 : 4 ≤ R.frames) (hR2 : 96 ≤ R.locals) (hc : kc ≤ R.cells) (hs : ks ≤ R.slots) (hmc : kc ≤ mc) (hms : ks ≤ ms) (hPO : ∀ w1, WT G ad TXP w1 → GF G ω w1 → w1.length = ws.length → PO (some (.ref (ad 109))) w1) : Z p l e R s m args below meth c 1 G A (MQ below (QQ G A PO) args s mc ms A) 18 [(0, .ref (ad 0))] [] ws kc ks := by
  refine z_aload_n X d_gp_18 rfl 0 rfl ?_
  obtain ⟨μ, hμ⟩ : ∃ μ : Nat → Value, μ = fun _ => .ref (ad 0) := ⟨_, rfl⟩
  have m0 : μ 0 = .ref (ad 0) := by rw [hμ]
  have hpre : PRE ad C_p_X10_prepareTrials_0 μ ws := by
    refine ⟨fun k t hk => ?_, fun k q hk => ?_, fun q hq => ?_⟩
    · match k, hk with
      | 0, hk => cases hk; rw [m0]; exact Or.inr (Or.inr (Or.inl ⟨rfl, rfl⟩))
      | N + 1, hk => cases hk
    · cases hk
    · cases hq
  have hct := ac_p_X10_prepareTrials_0 l G ad ws μ hW hpre
  have e0 : (List.range C_p_X10_prepareTrials_0.1.length).map μ = [.ref (ad 0)] := by show [μ 0] = _; rw [m0]
  rw [e0] at hct
  refine hcallV (T := TXP) (k := 0) (rest := []) (avs := []) X k_10_242 hct d_gp_19 hW rfl rfl rfl rfl ⟨by show 2 + 1 ≤ R.frames; omega, by show 8 + (3 + 11) + 48 ≤ R.locals; omega⟩ ⟨hc, hs⟩ (by decide) rfl (fun r w1 hp => ?_)
  obtain ⟨A1, hA1, μ2, -, -, q3, -, -, -, q7, q8⟩ := hp
  have ee := List.mem_singleton.mp hA1
  subst ee
  have r1 : r = none := q3
  subst r1
  have hG1 := hG.frm q8 (by decide)
  refine z_aload_n X d_gp_22 rfl 0 rfl ?_
  refine hget (T := TXP) X q7 (idx := 291) (fld_10_ok _ (by decide : (291, 10, 15) ∈ fld_10)) d_gp_23 rfl (fget_ref q7 rfl rfl) ?_
  refine z_aload_n X d_gp_26 rfl 0 rfl ?_
  refine hget (T := TXP) X q7 (idx := 47) (fld_10_ok _ (by decide : (47, 10, 5) ∈ fld_10)) d_gp_27 rfl (fget_ref q7 rfl rfl) ?_
  refine hcallV (T := TXP) (k := 109) (rest := []) (avs := [.ref (ad 22)]) X k_10_296 (ac_gather l G q7 hG1.1) d_gp_30 q7 rfl rfl rfl rfl ⟨by show 3 + 1 ≤ R.frames; omega, by show 8 + (4 + 11) + 73 ≤ R.locals; omega⟩ ⟨hc, hs⟩ (by decide) rfl (fun r w3 hp => ?_)
  obtain ⟨rfl, g1, g3, g2⟩ := hp
  refine z_aload_n X d_gp_33 rfl 0 rfl ?_
  refine hget (T := TXP) X g1 (idx := 291) (fld_10_ok _ (by decide : (291, 10, 15) ∈ fld_10)) d_gp_34 rfl (fget_ref g1 rfl rfl) ?_
  exact z_aret X rfl (Or.inl ⟨_, rfl⟩) d_gp_37 hmc hms (hPO _ g1 ⟨g2, hG1.2.frm g3 (by decide)⟩ (g3.1.trans q8.1))
end GPS
/-- where they are made already -/
theorem ac_gpR (l : Launch) (G : KG) {ω : va_W} {ad : Nat → Nat} {w0 : va_W} (hW : WT G ad TXP w0) (hG : GF G ω w0) : Ct l G yX10_gatherPulls cX10_gatherPulls 1 (some (.object "StoneThatShakes$Pulls")) { frames := 4, cells := 0, slots := 0, locals := 96 } [.ref (ad 0)] w0 (fun r w1 => r = some (.ref (ad 109)) ∧ WT G ad TXP w1 ∧ GF G ω w1 ∧ w1.length = w0.length) := by
  refine ct_of [(0, .ref (ad 0))] (by decide) (Nat.le_of_ble_eq_true rfl) rfl ?_
  intro p e s m args below meth c A X
  refine z_aload_n X d_gp_0 rfl 0 rfl ?_
  refine hget (T := TXP) X hW (idx := 291) (fld_10_ok _ (by decide : (291, 10, 15) ∈ fld_10)) d_gp_1 rfl (fget_ref hW rfl rfl) ?_
  refine z_ifnonnull X d_gp_4 (tgt := 18) (by decide) ?_
  exact gp_tail X hW hG (by decide) (by decide) (Nat.le_refl 0) (Nat.le_refl 0) (Nat.le_refl 0) (Nat.le_refl 0) (fun w1 h1 h2 h3 => ⟨rfl, h1, h2, h3⟩)
