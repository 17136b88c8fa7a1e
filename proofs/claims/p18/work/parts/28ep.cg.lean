/-! the mill's function by the signs that it reads alone -/
section CG
variable {f g : Nat → Int32} {L : Int32}
def TE80 (f g : Nat → Int32) : Prop := ∀ k, k < 80 → f k = g k
theorem cg_at (h : TE80 f g) (hL : L.toInt ≤ 60) {p : Int32} (hp : p.toInt < L.toInt) : f p.toNatClampNeg = g p.toNatClampNeg := by
  apply h
  show p.toInt.toNat < 80
  omega
theorem cg_at1 (h : TE80 f g) (hL : L.toInt ≤ 60) {p : Int32} (hp : p.toInt < L.toInt) : f (p + 1).toNatClampNeg = g (p + 1).toNatClampNeg := by
  apply h
  have e : (p + 1).toInt = p.toInt + 1 := tI_add rfl (show (1 : Int32).toInt = 1 from by decide) (by have q : (-2147483648 : Int) ≤ p.toInt := i32_lo p; omega)
  show (p + 1).toInt.toNat < 80
  omega
theorem cg_tk (h : TE80 f g) (hL : L.toInt ≤ 60) : tk f L = tk g L := by
  funext p c
  unfold tk
  by_cases hp : p.toInt < L.toInt
  · rw [cg_at h hL hp]
  · rw [if_neg (fun q => hp q.1), if_neg (fun q => hp q.1)]
theorem cg_num (h : TE80 f g) (hL : L.toInt ≤ 60) : num f L = num g L := by
  funext p lo hi
  unfold num
  by_cases hp : p.toInt < L.toInt
  · rw [cg_at h hL hp, cg_at1 h hL hp]
  · rw [if_neg (fun q => hp q.1), if_neg (fun q => hp q.1)]
theorem cg_sg (h : TE80 f g) (hL : L.toInt ≤ 60) : sg f L = sg g L := by
  funext p
  unfold sg
  rw [cg_tk h hL, cg_num h hL]
theorem cg_hA (h : TE80 f g) (hL : L.toInt ≤ 60) : hA f L = hA g L := by
  funext p
  unfold hA
  rw [cg_num h hL]
theorem cg_hB (h : TE80 f g) (hL : L.toInt ≤ 60) : hB f L = hB g L := by
  funext p
  unfold hB
  rw [cg_tk h hL, cg_hA h hL]
theorem cg_hC (h : TE80 f g) (hL : L.toInt ≤ 60) : hC f L = hC g L := by
  funext p
  unfold hC
  rw [cg_sg h hL, cg_hB h hL]
theorem cg_hD (h : TE80 f g) (hL : L.toInt ≤ 60) : hD f L = hD g L := by
  funext p
  unfold hD
  rw [cg_tk h hL, cg_hC h hL]
theorem cg_hE (h : TE80 f g) (hL : L.toInt ≤ 60) : hE f L = hE g L := by
  funext p
  unfold hE
  rw [cg_sg h hL, cg_hD h hL]
theorem cg_hF (h : TE80 f g) (hL : L.toInt ≤ 60) : hF f L = hF g L := by
  funext p
  unfold hF
  rw [cg_tk h hL, cg_hE h hL]
theorem cg_hG (h : TE80 f g) (hL : L.toInt ≤ 60) : hG f L = hG g L := by
  funext p
  unfold hG
  rw [cg_num h hL, cg_hF h hL]
theorem cg_hol (h : TE80 f g) (hL : L.toInt ≤ 60) : hol f L = hol g L := by
  funext p s
  unfold hol
  rw [cg_hA h hL, cg_hB h hL, cg_hC h hL, cg_hD h hL, cg_hE h hL, cg_hF h hL, cg_hG h hL]
theorem cg_pA (h : TE80 f g) (hL : L.toInt ≤ 60) : pA f L = pA g L := by
  funext p
  unfold pA
  rw [cg_num h hL]
theorem cg_pB (h : TE80 f g) (hL : L.toInt ≤ 60) : pB f L = pB g L := by
  funext p
  unfold pB
  rw [cg_tk h hL, cg_pA h hL]
theorem cg_pC (h : TE80 f g) (hL : L.toInt ≤ 60) : pC f L = pC g L := by
  funext p
  unfold pC
  rw [cg_num h hL, cg_pB h hL]
theorem cg_spd (h : TE80 f g) (hL : L.toInt ≤ 60) : spd f L = spd g L := by
  funext p s
  unfold spd
  rw [cg_pA h hL, cg_pB h hL, cg_pC h hL]
theorem cg_cA (h : TE80 f g) (hL : L.toInt ≤ 60) : cA f L = cA g L := by
  funext p
  unfold cA
  rw [cg_num h hL]
theorem cg_cog (h : TE80 f g) (hL : L.toInt ≤ 60) : cog f L = cog g L := by
  funext p s
  unfold cog
  rw [cg_cA h hL]
theorem cg_lin (h : TE80 f g) (hL : L.toInt ≤ 60) : lin f L = lin g L := by
  funext p a b c
  unfold lin
  by_cases hp : p.toInt < L.toInt
  · rw [cg_at h hL hp, cg_hol h hL, cg_spd h hL, cg_cog h hL]
  · rw [if_neg (fun q => hp q.1), if_neg (fun q => hp q.1), if_neg (fun q => hp q.1), if_neg (fun q => hp q.1), if_neg (fun q => hp q.1), if_neg (fun q => hp q.1)]
theorem cg_run (h : TE80 f g) (hL : L.toInt ≤ 60) : ∀ (n : Nat) (p : Int32) (H S C k : Int) (a b d : Nat → Int32), run f L n p H S C k a b d = run g L n p H S C k a b d
  | 0, _, _, _, _, _, _, _, _ => rfl
  | n + 1, p, H, S, C, k, a, b, d => by
    show (if (lin f L p H S C).1 = true then (if (tk f L (lin f L p H S C).2 59).1 = true then _ else _) else _) = (if (lin g L p H S C).1 = true then (if (tk g L (lin g L p H S C).2 59).1 = true then _ else _) else _)
    rw [cg_lin h hL, cg_tk h hL]
    by_cases hy : (lin g L p H S C).1 = true
    · have e := cg_at h hL (lin_lt hy)
      rw [if_pos hy, if_pos hy]
      have d1 : ∀ c, dl c f p = dl c g p := fun c => by unfold dl; rw [e]
      have n1 : ∀ c s r, nx c f p s r = nx c g p s r := fun c s r => by unfold nx; rw [e]
      rw [d1, d1, d1, n1, n1, n1]
      split
      · exact cg_run h hL n _ _ _ _ _ _ _ _
      · rfl
    · rw [if_neg hy, if_neg hy]
theorem cg_run0 (h : TE80 f g) (hL : L.toInt ≤ 60) (a b c : Int) : run0 f L a b c = run0 g L a b c := cg_run h hL 60 0 a b c 0 zf zf zf
theorem cg_w4 (h : TE80 f g) (N : Nat) (v : Int32) : TE80 (w4 f N v) (w4 g N v) := by
  intro k hk
  unfold w4
  rw [h k hk]
end CG
