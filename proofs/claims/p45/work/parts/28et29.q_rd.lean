/-! round: what both sides do -/
def cS (w f s : Nat → Int32) (n : Nat) : Int32 := csum (fun j => w (s j).toNatClampNeg) f n
def swpR (s : Nat → Int32) (i j : Nat) : Nat → Int32 := upd (upd s i (s j)) j (s i)
theorem swpR_at {s : Nat → Int32} {i j k : Nat} (hij : i ≠ j) : swpR s i j k = if k = j then s i else if k = i then s j else s k := by
  unfold swpR
  by_cases a : k = j
  · rw [if_pos a, a, upd_at]
  · rw [if_neg a, upd_off a]
    by_cases b : k = i
    · rw [if_pos b, b, upd_at]
    · rw [if_neg b, upd_off b]
theorem swpR_swp {s : Nat → Int32} {i j : Nat} (hij : i ≠ j) : swpR (swpR s i j) i j = s := by
  funext k
  rw [swpR_at hij, swpR_at hij, swpR_at hij, swpR_at hij]
  by_cases a : k = j
  · subst a
    rw [if_pos rfl, if_neg hij, if_pos rfl]
  · rw [if_neg a]
    by_cases b : k = i
    · subst b
      rw [if_pos rfl, if_pos rfl]
    · rw [if_neg b, if_neg a, if_neg b]
theorem csum_upd {w f : Nat → Int32} {k : Nat} {v : Int32} : ∀ {n : Nat}, k < n → csum (upd w k v) f n = csum w f n + (v - w k) * f k
  | 0, h => absurd h (Nat.not_lt_zero k)
  | n + 1, h => by
    show csum (upd w k v) f n + upd w k v n * f n = csum w f n + w n * f n + (v - w k) * f k
    by_cases c : k = n
    · subst c
      rw [upd_at, csum_congr (w := upd w k v) (w' := w) (f' := f) (fun j hj => ⟨upd_off (by omega), rfl⟩)]
      grind
    · rw [upd_off (by omega), csum_upd (by omega)]
      grind
theorem cS_swp {w f s : Nat → Int32} {i j n : Nat} (hij : i ≠ j) (hi : i < n) (hj : j < n) : cS w f (swpR s i j) n = cS w f s n + (w (s j).toNatClampNeg - w (s i).toNatClampNeg) * (f i - f j) := by
  have e : cS w f (swpR s i j) n = csum (upd (upd (fun k => w (s k).toNatClampNeg) i (w (s j).toNatClampNeg)) j (w (s i).toNatClampNeg)) f n := by
    refine csum_congr (fun k _ => ⟨?_, rfl⟩)
    show w (swpR s i j k).toNatClampNeg = _
    rw [swpR_at hij]
    by_cases a : k = j
    · rw [if_pos a, a, upd_at]
    · rw [if_neg a, upd_off a]
      by_cases b : k = i
      · rw [if_pos b, b, upd_at]
      · rw [if_neg b, upd_off b]
  rw [e, csum_upd hj, csum_upd hi, upd_off (fun q => hij q.symm)]
  show csum (fun k => w (s k).toNatClampNeg) f n + _ + _ = csum (fun k => w (s k).toNatClampNeg) f n + _
  generalize csum (fun k => w (s k).toNatClampNeg) f n = A
  grind
def OKS (s : Nat → Int32) (c : Nat) : Prop := (∀ k, k < c → 0 ≤ (s k).toInt ∧ (s k).toInt < (c : Int)) ∧ ∀ k k', k < c → k' < c → s k = s k' → k = k'
theorem OKS.sw2 {s : Nat → Int32} {c i j : Nat} (h : OKS s c) (hij : i ≠ j) (hi : i < c) (hj : j < c) : OKS (swpR s i j) c := by
  have ev : ∀ k, swpR s i j k = s (if k = j then i else if k = i then j else k) := by
    intro k
    rw [swpR_at hij]
    by_cases a : k = j
    · rw [if_pos a, if_pos a]
    · rw [if_neg a, if_neg a]
      by_cases b : k = i
      · rw [if_pos b, if_pos b]
      · rw [if_neg b, if_neg b]
  have lt : ∀ k, k < c → (if k = j then i else if k = i then j else k) < c := by
    intro k hk
    by_cases a : k = j
    · rw [if_pos a]
      exact hi
    · rw [if_neg a]
      by_cases b : k = i
      · rw [if_pos b]
        exact hj
      · rw [if_neg b]
        exact hk
  refine ⟨fun k hk => by rw [ev]; exact h.1 _ (lt k hk), fun k k' hk hk' e => ?_⟩
  rw [ev, ev] at e
  have e2 := h.2 _ _ (lt k hk) (lt k' hk') e
  by_cases a : k = j
  · by_cases a' : k' = j
    · omega
    · rw [if_pos a, if_neg a'] at e2
      by_cases b' : k' = i
      · rw [if_pos b'] at e2
        omega
      · rw [if_neg b'] at e2
        omega
  · by_cases a' : k' = j
    · rw [if_neg a, if_pos a'] at e2
      by_cases b : k = i
      · rw [if_pos b] at e2
        omega
      · rw [if_neg b] at e2
        omega
    · rw [if_neg a, if_neg a'] at e2
      by_cases b : k = i
      · rw [if_pos b] at e2
        by_cases b' : k' = i
        · omega
        · rw [if_neg b'] at e2
          omega
      · rw [if_neg b] at e2
        by_cases b' : k' = i
        · rw [if_pos b'] at e2
          omega
        · rw [if_neg b'] at e2
          exact e2
theorem OKS.id {s : Nat → Int32} {c : Nat} (h : ∀ j : Nat, j < c → (s j).toInt = (j : Int)) : OKS s c := by
  refine ⟨fun k hk => by rw [h k hk]; omega, fun k k' hk hk' e => ?_⟩
  have a := h k hk
  have b := h k' hk'
  rw [e] at a
  omega
/-- the sums in longs -/
theorem cgL_cS {w f s : Nat → Int32} : ∀ {n : Nat}, n ≤ 8 → (∀ j, j < n → 0 ≤ (w (s j).toNatClampNeg).toInt ∧ (w (s j).toNatClampNeg).toInt ≤ 99) → (∀ j, j < n → -99 ≤ (f j).toInt ∧ (f j).toInt ≤ 99) → cgL w f s n = (cS w f s n).toInt64
  | 0, _, _, _ => rfl
  | n + 1, hn, hw, hf => by
    have ih := cgL_cS (w := w) (f := f) (s := s) (n := n) (by omega) (fun j hj => hw j (by omega)) (fun j hj => hf j (by omega))
    have b := csum_b (w := fun j => w (s j).toNatClampNeg) (f := f) (n := n) (by omega) (fun j hj => hw j (by omega)) (fun j hj => hf j (by omega))
    have m := wf_b (hw n (by omega)) (hf n (by omega))
    show cgL w f s n + (w (s n).toNatClampNeg * f n).toInt64 = (csum (fun j => w (s j).toNatClampNeg) f n + w (s n).toNatClampNeg * f n).toInt64
    rw [ih]
    show (csum (fun j => w (s j).toNatClampNeg) f n).toInt64 + _ = _
    have e1 : (csum (fun j => w (s j).toNatClampNeg) f n + w (s n).toNatClampNeg * f n).toInt = (csum (fun j => w (s j).toNatClampNeg) f n).toInt + (w (s n).toNatClampNeg).toInt * (f n).toInt := tI_add rfl m.1 (by omega)
    have e2 : ((csum (fun j => w (s j).toNatClampNeg) f n).toInt64 + (w (s n).toNatClampNeg * f n).toInt64).toInt = (csum (fun j => w (s j).toNatClampNeg) f n).toInt + (w (s n).toNatClampNeg).toInt * (f n).toInt := tJ_add (Int32.toInt_toInt64 _) ((Int32.toInt_toInt64 _).trans m.1) (by omega)
    exact Int64.toInt_inj.mp ((e2.trans e1.symm).trans (Int32.toInt_toInt64 _).symm)
theorem OKS.wb {w s : Nat → Int32} {c : Nat} (h : OKS s c) (hw : ∀ j : Nat, j < c → 0 ≤ (w j).toInt ∧ (w j).toInt ≤ 99) : ∀ j, j < c → 0 ≤ (w (s j).toNatClampNeg).toInt ∧ (w (s j).toNatClampNeg).toInt ≤ 99 := by
  intro j hj
  have z := h.1 j hj
  exact hw (s j).toNatClampNeg (show (s j).toInt.toNat < c by omega)
def SZr (w fx fy : Nat → Int32) (c : Nat) (s : Nat → Int32) : Int := (sz (cS w fx s c) (cS w fy s c)).toInt
theorem SZr_pos {w fx fy s : Nat → Int32} {c : Nat} (hc : c ≤ 8) (h : OKS s c) (hw : ∀ j : Nat, j < c → 0 ≤ (w j).toInt ∧ (w j).toInt ≤ 99) (hx : ∀ j : Nat, j < c → -99 ≤ (fx j).toInt ∧ (fx j).toInt ≤ 99) (hy : ∀ j : Nat, j < c → -99 ≤ (fy j).toInt ∧ (fy j).toInt ≤ 99) : 0 ≤ SZr w fx fy c s := by
  have b1 := csum_b (w := fun j => w (s j).toNatClampNeg) (f := fx) hc (h.wb hw) hx
  have b2 := csum_b (w := fun j => w (s j).toNatClampNeg) (f := fy) hc (h.wb hw) hy
  exact (sz_b8 (x := cS w fx s c) (y := cS w fy s c) (show -80000 ≤ (csum (fun j => w (s j).toNatClampNeg) fx c).toInt ∧ (csum (fun j => w (s j).toNatClampNeg) fx c).toInt ≤ 80000 by omega) (show -80000 ≤ (csum (fun j => w (s j).toNatClampNeg) fy c).toInt ∧ (csum (fun j => w (s j).toNatClampNeg) fy c).toInt ≤ 80000 by omega)).1
abbrev T3 := Int × Int × Int
def rdJ (S : Nat → Nat → Int) (i : Nat) : Nat → T3 → T3
  | 0, t => t
  | j + 1, t => if i < j ∧ S i j < (rdJ S i j t).1 then (S i j, (i : Int), (j : Int)) else rdJ S i j t
def rdI (S : Nat → Nat → Int) (c : Nat) : Nat → T3 → T3
  | 0, t => t
  | i + 1, t => rdJ S i c (rdI S c i t)
theorem rdJ_start {S : Nat → Nat → Int} {i : Nat} {t : T3} : ∀ {n : Nat}, n ≤ i + 1 → rdJ S i n t = t
  | 0, _ => rfl
  | n + 1, h => by
    rw [show rdJ S i (n + 1) t = rdJ S i n t from if_neg (fun q => by omega)]
    exact rdJ_start (by omega)
theorem rdJ_y {S : Nat → Nat → Int} {i j : Nat} {t u : T3} (e : u = rdJ S i j t) (h : i < j) (q : S i j < u.1) : rdJ S i (j + 1) t = (S i j, (i : Int), (j : Int)) := if_pos ⟨h, by rw [← e]; exact q⟩
theorem rdJ_n {S : Nat → Nat → Int} {i j : Nat} {t u : T3} (e : u = rdJ S i j t) (q : ¬ S i j < u.1) : rdJ S i (j + 1) t = u := (if_neg (fun z => q (by rw [e]; exact z.2))).trans e.symm
def RTP (S : Nat → Nat → Int) (c : Nat) (L : Int) (t : T3) : Prop := (t.2.1 = -1 ∧ t.2.2 = -1 ∧ t.1 = L) ∨ (0 ≤ t.2.1 ∧ t.2.1 < t.2.2 ∧ t.2.2 < (c : Int) ∧ t.1 = S t.2.1.toNat t.2.2.toNat ∧ t.1 < L)
theorem RTP.j {S : Nat → Nat → Int} {c i : Nat} {L : Int} {t : T3} (h : RTP S c L t) : ∀ {n : Nat}, n ≤ c → RTP S c L (rdJ S i n t)
  | 0, _ => h
  | n + 1, hn => by
    have ih := RTP.j (i := i) h (n := n) (by omega)
    by_cases q : i < n ∧ S i n < (rdJ S i n t).1
    · rw [show rdJ S i (n + 1) t = (S i n, (i : Int), (n : Int)) from if_pos q]
      refine Or.inr ⟨by show (0 : Int) ≤ (i : Int); omega, by show (i : Int) < (n : Int); omega, by show (n : Int) < (c : Int); omega, ?_, ?_⟩
      · show S i n = S (i : Int).toNat (n : Int).toNat
        rw [Int.toNat_natCast, Int.toNat_natCast]
      · show S i n < L
        rcases ih with ⟨_, _, z⟩ | ⟨_, _, _, _, z⟩
        · rw [← z]
          exact q.2
        · exact Int.lt_trans q.2 z
    · rw [show rdJ S i (n + 1) t = rdJ S i n t from if_neg q]
      exact ih
theorem RTP.i {S : Nat → Nat → Int} {c : Nat} {L : Int} : ∀ {n : Nat}, RTP S c L (rdI S c n (L, -1, -1))
  | 0 => Or.inl ⟨rfl, rfl, rfl⟩
  | n + 1 => (RTP.i (n := n)).j (Nat.le_refl c)
abbrev SW (w fx fy : Nat → Int32) (c : Nat) (s : Nat → Int32) : Nat → Nat → Int := fun i j => SZr w fx fy c (swpR s i j)
abbrev rdT (w fx fy : Nat → Int32) (c : Nat) (s : Nat → Int32) : T3 := rdI (SW w fx fy c s) c c (SZr w fx fy c s, -1, -1)
def nxR (w fx fy : Nat → Int32) (c : Nat) (s : Nat → Int32) : Option (Nat → Int32) := if (rdT w fx fy c s).2.1 < 0 then none else some (swpR s (rdT w fx fy c s).2.1.toNat (rdT w fx fy c s).2.2.toNat)
theorem nxR_none {w fx fy s : Nat → Int32} {c : Nat} {t : T3} (e : t = rdT w fx fy c s) (h : t.2.1 < 0) : nxR w fx fy c s = none := if_pos (by rw [← e]; exact h)
theorem nxR_some {w fx fy s : Nat → Int32} {c : Nat} {t : T3} (e : t = rdT w fx fy c s) (h : 0 ≤ t.2.1) : nxR w fx fy c s = some (swpR s t.2.1.toNat t.2.2.toNat) := by
  rw [e]
  rw [e] at h
  exact if_neg (by omega)
theorem nxR_dec {w fx fy s g : Nat → Int32} {c : Nat} (e : nxR w fx fy c s = some g) : SZr w fx fy c g < SZr w fx fy c s ∧ (OKS s c → OKS g c) := by
  unfold nxR at e
  by_cases q : (rdT w fx fy c s).2.1 < 0
  · rw [if_pos q] at e
    cases e
  · rw [if_neg q] at e
    obtain rfl := Option.some.inj e
    have R : RTP (SW w fx fy c s) c (SZr w fx fy c s) (rdT w fx fy c s) := RTP.i
    generalize rdT w fx fy c s = t at q R ⊢
    rcases R with ⟨z, -, -⟩ | ⟨z1, z2, z3, z4, z5⟩
    · exact absurd z (by omega)
    · rw [z4] at z5
      exact ⟨z5, fun h => h.sw2 (by omega) (by omega) (by omega)⟩
theorem cS_congr {w f w' f' s s' : Nat → Int32} {n : Nat} (e : ∀ j, j < n → w (s j).toNatClampNeg = w' (s' j).toNatClampNeg ∧ f j = f' j) : cS w f s n = cS w' f' s' n := csum_congr (fun j hj => e j hj)
section RDC
variable {w fx fy w' fx' fy' : Nat → Int32} {c : Nat}
abbrev EC (c : Nat) (f g : Nat → Int32) : Prop := ∀ j, j < c → f j = g j
theorem SZr_congr {s s' : Nat → Int32} (ew : EC c w w') (ex : EC c fx fx') (ey : EC c fy fy') (h : OKS s c) (e : EC c s s') : SZr w fx fy c s = SZr w' fx' fy' c s' := by
  have k : ∀ j, j < c → w (s j).toNatClampNeg = w' (s' j).toNatClampNeg := by
    intro j hj
    have z := h.1 j hj
    rw [← e j hj]
    exact ew _ (show (s j).toInt.toNat < c by omega)
  unfold SZr
  rw [cS_congr (f := fx) (f' := fx') (fun j hj => ⟨k j hj, ex j hj⟩), cS_congr (f := fy) (f' := fy') (fun j hj => ⟨k j hj, ey j hj⟩)]
theorem swp_EC {s s' : Nat → Int32} {i j : Nat} (hij : i ≠ j) (hi : i < c) (hj : j < c) (e : EC c s s') : EC c (swpR s i j) (swpR s' i j) := by
  intro k hk
  rw [swpR_at hij, swpR_at hij]
  by_cases a : k = j
  · rw [if_pos a, if_pos a]
    exact e i hi
  · rw [if_neg a, if_neg a]
    by_cases b : k = i
    · rw [if_pos b, if_pos b]
      exact e j hj
    · rw [if_neg b, if_neg b]
      exact e k hk
theorem rdJ_congr {S S' : Nat → Nat → Int} {i : Nat} {t : T3} (hi : i < c) (e : ∀ i j, i < j → i < c → j < c → S i j = S' i j) : ∀ {n : Nat}, n ≤ c → rdJ S i n t = rdJ S' i n t
  | 0, _ => rfl
  | n + 1, hn => by
    have ih := rdJ_congr (t := t) hi e (n := n) (by omega)
    show (if i < n ∧ S i n < (rdJ S i n t).1 then (S i n, (i : Int), (n : Int)) else rdJ S i n t) = (if i < n ∧ S' i n < (rdJ S' i n t).1 then (S' i n, (i : Int), (n : Int)) else rdJ S' i n t)
    by_cases q : i < n
    · rw [← ih, e i n q hi (by omega)]
    · rw [if_neg (fun z => q z.1), if_neg (fun z => q z.1), ih]
theorem rdI_congr {S S' : Nat → Nat → Int} {t : T3} (e : ∀ i j, i < j → i < c → j < c → S i j = S' i j) : ∀ {n : Nat}, n ≤ c → rdI S c n t = rdI S' c n t
  | 0, _ => rfl
  | n + 1, hn => by
    show rdJ S n c (rdI S c n t) = rdJ S' n c (rdI S' c n t)
    rw [rdI_congr e (by omega), rdJ_congr (by omega) e (Nat.le_refl c)]
theorem nxR_congr {s s' : Nat → Int32} (ew : EC c w w') (ex : EC c fx fx') (ey : EC c fy fy') (h : OKS s c) (e : EC c s s') : (nxR w fx fy c s = none ∧ nxR w' fx' fy' c s' = none) ∨ ∃ a b, nxR w fx fy c s = some a ∧ nxR w' fx' fy' c s' = some b ∧ OKS a c ∧ EC c a b := by
  have et : rdT w fx fy c s = rdT w' fx' fy' c s' := by
    show rdI (SW w fx fy c s) c c (SZr w fx fy c s, -1, -1) = rdI (SW w' fx' fy' c s') c c (SZr w' fx' fy' c s', -1, -1)
    rw [SZr_congr ew ex ey h e]
    exact rdI_congr (fun i j q hi hj => SZr_congr ew ex ey (h.sw2 (by omega) hi hj) (swp_EC (by omega) hi hj e)) (Nat.le_refl c)
  by_cases q : (rdT w fx fy c s).2.1 < 0
  · exact Or.inl ⟨nxR_none rfl q, nxR_none et q⟩
  · have z1 := nxR_some (t := rdT w fx fy c s) rfl (by omega)
    have z2 := nxR_some (t := rdT w fx fy c s) et (by omega)
    refine Or.inr ⟨_, _, z1, z2, (nxR_dec z1).2 h, ?_⟩
    have R : RTP (SW w fx fy c s) c (SZr w fx fy c s) (rdT w fx fy c s) := RTP.i
    clear z1 z2 et
    generalize rdT w fx fy c s = t at q R ⊢
    rcases R with ⟨z, -, -⟩ | ⟨y1, y2, y3, -, -⟩
    · exact absurd z (by omega)
    · exact swp_EC (by omega) (by omega) (by omega) e
theorem itrR_congr {s s' : Nat → Int32} (ew : EC c w w') (ex : EC c fx fx') (ey : EC c fy fy') (h : OKS s c) (e : EC c s s') : ∀ n, (itr (nxR w fx fy c) s n = none ∧ itr (nxR w' fx' fy' c) s' n = none) ∨ ∃ a b, itr (nxR w fx fy c) s n = some a ∧ itr (nxR w' fx' fy' c) s' n = some b ∧ OKS a c ∧ EC c a b
  | 0 => Or.inr ⟨s, s', rfl, rfl, h, e⟩
  | n + 1 => by
    show ((itr (nxR w fx fy c) s n).bind (nxR w fx fy c) = none ∧ (itr (nxR w' fx' fy' c) s' n).bind (nxR w' fx' fy' c) = none) ∨ ∃ a b, (itr (nxR w fx fy c) s n).bind (nxR w fx fy c) = some a ∧ (itr (nxR w' fx' fy' c) s' n).bind (nxR w' fx' fy' c) = some b ∧ OKS a c ∧ EC c a b
    rcases itrR_congr ew ex ey h e n with ⟨a1, a2⟩ | ⟨a, b, a1, a2, a3, a4⟩
    · rw [a1, a2]
      exact Or.inl ⟨rfl, rfl⟩
    · rw [a1, a2]
      exact nxR_congr ew ex ey a3 a4
end RDC
/-! no more than 8! seats -/
def arrs : Nat → List Int → List (List Int)
  | 0, _ => [[]]
  | n + 1, l => l.flatMap (fun a => (arrs n (l.erase a)).map (a :: ·))
def fac : Nat → Nat
  | 0 => 1
  | n + 1 => (n + 1) * fac n
theorem flat_len {l : List Int} {f : Int → List (List Int)} {k : Nat} (h : ∀ a, a ∈ l → (f a).length = k) : (l.flatMap f).length = l.length * k := by
  induction l with
  | nil => rw [List.flatMap_nil, List.length_nil, List.length_nil, Nat.zero_mul]
  | cons a l ih =>
    rw [List.flatMap_cons, List.length_append, h a List.mem_cons_self, ih (fun b hb => h b (List.mem_cons_of_mem a hb)), List.length_cons, Nat.succ_mul]
    omega
theorem arrs_len : ∀ {n : Nat} {l : List Int}, l.length = n → (arrs n l).length = fac n
  | 0, _, _ => rfl
  | n + 1, l, h => by
    show (l.flatMap (fun a => (arrs n (l.erase a)).map (a :: ·))).length = (n + 1) * fac n
    rw [flat_len (k := fac n) (fun a ha => by rw [List.length_map]; exact arrs_len (by rw [List.length_erase_of_mem ha, h]; rfl)), h]
theorem arrs_mem : ∀ {n : Nat} {l t : List Int}, t.length = n → t.Nodup → (∀ x, x ∈ t → x ∈ l) → t ∈ arrs n l
  | 0, l, t, h, _, _ => by
    rw [List.eq_nil_of_length_eq_zero h]
    exact List.mem_singleton.mpr rfl
  | n + 1, l, [], h, _, _ => absurd h (by rw [List.length_nil]; omega)
  | n + 1, l, a :: t, h, hn, hm => by
    obtain ⟨h1, h2⟩ := List.nodup_cons.mp hn
    refine List.mem_flatMap.mpr ⟨a, hm a List.mem_cons_self, List.mem_map.mpr ⟨t, arrs_mem (by rw [List.length_cons] at h; omega) h2 (fun x hx => ?_), rfl⟩⟩
    exact (List.mem_erase_of_ne (fun q => h1 (by rw [← q]; exact hx))).mpr (hm x (List.mem_cons_of_mem a hx))
theorem nodup_len {l m : List (List Int)} (h : l.Nodup) (hm : ∀ x, x ∈ l → x ∈ m) : l.length ≤ m.length := by
  induction l generalizing m with
  | nil => exact Nat.zero_le _
  | cons a l ih =>
    obtain ⟨h1, h2⟩ := List.nodup_cons.mp h
    have ha := hm a List.mem_cons_self
    have k := ih (m := m.erase a) h2 (fun x hx => (List.mem_erase_of_ne (fun q => h1 (by rw [← q]; exact hx))).mpr (hm x (List.mem_cons_of_mem a hx)))
    rw [List.length_erase_of_mem ha] at k
    have := List.length_pos_of_mem ha
    rw [List.length_cons]
    omega
def rcode (s : Nat → Int32) (c : Nat) : List Int := (List.range c).map (fun k => (s k).toInt)
theorem rcode_mem {s : Nat → Int32} {c : Nat} (h : OKS s c) : rcode s c ∈ arrs c ((List.range c).map (fun k : Nat => (k : Int))) := by
  refine arrs_mem (by unfold rcode; rw [List.length_map, List.length_range]) ?_ (fun x hx => ?_)
  · unfold rcode
    refine List.pairwise_map.mpr ((List.nodup_range (n := c)).imp_of_mem (fun {a b} ha hb q e => q ?_))
    exact h.2 a b (List.mem_range.mp ha) (List.mem_range.mp hb) (Int32.toInt_inj.mp e)
  · obtain ⟨k, hk, rfl⟩ := List.mem_map.mp hx
    have z := h.1 k (List.mem_range.mp hk)
    exact List.mem_map.mpr ⟨(s k).toInt.toNat, List.mem_range.mpr (by omega), by show (((s k).toInt.toNat : Nat) : Int) = (s k).toInt; omega⟩
theorem rcode_EC {s s' : Nat → Int32} {c : Nat} (e : rcode s c = rcode s' c) : ∀ j, j < c → s j = s' j := by
  intro j hj
  have z := congrArg (fun l : List Int => l[j]?) e
  unfold rcode at z
  try dsimp only at z
  rw [List.getElem?_map, List.getElem?_map, List.getElem?_range hj] at z
  exact Int32.toInt_inj.mp (Option.some.inj z)
theorem chain {w fx fy : Nat → Int32} {c : Nat} {s : Nat → Int32} (h : OKS s c) : ∀ {n : Nat} {g : Nat → Int32}, itr (nxR w fx fy c) s n = some g → OKS g c ∧ ∃ l : List (List Int), l.length = n + 1 ∧ l.Nodup ∧ (∀ x, x ∈ l → x ∈ arrs c ((List.range c).map (fun k : Nat => (k : Int)))) ∧ ∀ x, x ∈ l → ∃ t, OKS t c ∧ rcode t c = x ∧ SZr w fx fy c g ≤ SZr w fx fy c t
  | 0, g, e => by
    obtain rfl := Option.some.inj e
    refine ⟨h, [rcode s c], rfl, List.pairwise_singleton _ _, fun x hx => ?_, fun x hx => ?_⟩
    · rw [List.mem_singleton.mp hx]
      exact rcode_mem h
    · exact ⟨s, h, (List.mem_singleton.mp hx).symm, Int.le_refl _⟩
  | n + 1, g, e => by
    have e : (itr (nxR w fx fy c) s n).bind (nxR w fx fy c) = some g := e
    cases e9 : itr (nxR w fx fy c) s n with
    | none => rw [e9] at e; cases e
    | some f =>
      rw [e9] at e
      have e : nxR w fx fy c f = some g := e
      obtain ⟨hf, l, l1, l2, l3, l4⟩ := chain h e9
      have d := nxR_dec e
      have hg := d.2 hf
      refine ⟨hg, rcode g c :: l, by rw [List.length_cons, l1], List.nodup_cons.mpr ⟨fun q => ?_, l2⟩, fun x hx => ?_, fun x hx => ?_⟩
      · obtain ⟨t, t1, t2, t3⟩ := l4 _ q
        have z := SZr_congr (w := w) (w' := w) (fx := fx) (fx' := fx) (fy := fy) (fy' := fy) (fun _ _ => rfl) (fun _ _ => rfl) (fun _ _ => rfl) t1 (rcode_EC t2)
        have d1 := d.1
        omega
      · rcases List.mem_cons.mp hx with rfl | hx
        · exact rcode_mem hg
        · exact l3 x hx
      · rcases List.mem_cons.mp hx with rfl | hx
        · exact ⟨g, hg, rfl, Int.le_refl _⟩
        · obtain ⟨t, t1, t2, t3⟩ := l4 x hx
          have d1 := d.1
          exact ⟨t, t1, t2, by omega⟩
theorem fac_le {c : Nat} (h : c ≤ 8) : fac c ≤ 40320 := by
  rcases (by omega : c = 0 ∨ c = 1 ∨ c = 2 ∨ c = 3 ∨ c = 4 ∨ c = 5 ∨ c = 6 ∨ c = 7 ∨ c = 8) with e | e | e | e | e | e | e | e | e <;> subst e <;> decide
theorem chain_le {w fx fy : Nat → Int32} {c n : Nat} {s g : Nat → Int32} (h : OKS s c) (hc : c ≤ 8) (e : itr (nxR w fx fy c) s n = some g) : n ≤ 40319 ∧ OKS g c := by
  obtain ⟨hg, l, l1, l2, l3, -⟩ := chain h e
  have z := nodup_len l2 l3
  rw [arrs_len (by rw [List.length_map, List.length_range]), l1] at z
  have f := fac_le hc
  exact ⟨by omega, hg⟩
/-- what round tells -/
def RdE (w fx fy : Nat → Int32) (c h : Int) (v : Int32) : Prop := (¬ (0 < c ∧ c ≤ h) ∧ v = -1) ∨ ((0 < c ∧ c ≤ h) ∧ 0 ≤ v.toInt ∧ ∃ s0 g : Nat → Int32, (∀ j : Nat, (j : Int) < c → (s0 j).toInt = (j : Int)) ∧ itr (nxR w fx fy c.toNat) s0 v.toInt.toNat = some g ∧ (v.toInt.toNat = 1000000 ∨ nxR w fx fy c.toNat g = none))
theorem RdE.same {w fx fy w' fx' fy' : Nat → Int32} {c h : Int} {v v' : Int32} (h8 : c ≤ 8) (ew : EH c w w') (ex : EH h fx fx') (ey : EH h fy fy') (A : RdE w fx fy c h v) (B : RdE w' fx' fy' c h v') : v = v' := by
  rcases A with ⟨a0, a1⟩ | ⟨a0, a1, s, g, a2, a3, a4⟩
  · rcases B with ⟨-, b1⟩ | ⟨b0, -⟩
    · rw [a1, b1]
    · exact absurd b0 a0
  · rcases B with ⟨b0, -⟩ | ⟨-, b1, s', g', b2, b3, b4⟩
    · exact absurd a0 b0
    · have hs : OKS s c.toNat := OKS.id (fun j hj => a2 j (by omega))
      have hs' : OKS s' c.toNat := OKS.id (fun j hj => b2 j (by omega))
      have es : EC c.toNat s s' := fun j hj => Int32.toInt_inj.mp ((a2 j (by omega)).trans (b2 j (by omega)).symm)
      have ew' : EC c.toNat w w' := fun j hj => ew j (by omega)
      have ex' : EC c.toNat fx fx' := fun j hj => ex j (by omega)
      have ey' : EC c.toNat fy fy' := fun j hj => ey j (by omega)
      have k1 := chain_le hs (by omega) a3
      have k2 := chain_le hs' (by omega) b3
      rcases itrR_congr ew' ex' ey' hs es v'.toInt.toNat with ⟨-, z⟩ | ⟨a, b, z1, z2, z3, z4⟩
      · rw [b3] at z
        cases z
      · rw [b3] at z2
        obtain rfl := Option.some.inj z2
        have s2 : v'.toInt.toNat = 1000000 ∨ nxR w fx fy c.toNat a = none := by
          rcases b4 with b4 | b4
          · exact Or.inl b4
          · rcases nxR_congr ew' ex' ey' z3 z4 with ⟨d1, -⟩ | ⟨_, _, -, d2, -⟩
            · exact Or.inr d1
            · rw [b4] at d2
              cases d2
        obtain ⟨n1, -⟩ := itr_stop a3 z1 a4 s2 (by omega) (by omega)
        exact Int32.toInt_inj.mp (by omega)
theorem dr_X0_moved_1 : decode cX0_moved 1 = .ok (.getfield 9, 3) := by decide +kernel
theorem dr_X0_moved_5 : decode cX0_moved 5 = .ok (.getfield 15, 3) := by decide +kernel
theorem dr_X0_moved_9 : decode cX0_moved 9 = .ok (.iaload, 1) := by decide +kernel
theorem dr_X0_moved_10 : decode cX0_moved 10 = .ok (.iaload, 1) := by decide +kernel
theorem dr_X0_moved_12 : decode cX0_moved 12 = .ok (.getfield 9, 3) := by decide +kernel
theorem dr_X0_moved_16 : decode cX0_moved 16 = .ok (.getfield 15, 3) := by decide +kernel
theorem dr_X0_moved_20 : decode cX0_moved 20 = .ok (.iaload, 1) := by decide +kernel
theorem dr_X0_moved_21 : decode cX0_moved 21 = .ok (.iaload, 1) := by decide +kernel
theorem dr_X0_moved_25 : decode cX0_moved 25 = .ok (.iaload, 1) := by decide +kernel
theorem dr_X0_moved_28 : decode cX0_moved 28 = .ok (.iaload, 1) := by decide +kernel
theorem dr_X0_moved_31 : decode cX0_moved 31 = .ok (.ireturn, 1) := by decide +kernel
abbrev br_X0_moved_0_1 : ZB := [(.aload_n 0, .null)]
theorem kr_X0_moved_0_1 : zchk cX0_moved br_X0_moved_0_1 0 = true ∧ zpc br_X0_moved_0_1 0 = 1 := ⟨by decide +kernel, rfl⟩
abbrev br_X0_moved_4_5 : ZB := [(.aload_n 0, .null)]
theorem kr_X0_moved_4_5 : zchk cX0_moved br_X0_moved_4_5 4 = true ∧ zpc br_X0_moved_4_5 4 = 5 := ⟨by decide +kernel, rfl⟩
abbrev br_X0_moved_8_9 : ZB := [(.iload_n 2, .null)]
theorem kr_X0_moved_8_9 : zchk cX0_moved br_X0_moved_8_9 8 = true ∧ zpc br_X0_moved_8_9 8 = 9 := ⟨by decide +kernel, rfl⟩
abbrev br_X0_moved_11_12 : ZB := [(.aload_n 0, .null)]
theorem kr_X0_moved_11_12 : zchk cX0_moved br_X0_moved_11_12 11 = true ∧ zpc br_X0_moved_11_12 11 = 12 := ⟨by decide +kernel, rfl⟩
abbrev br_X0_moved_15_16 : ZB := [(.aload_n 0, .null)]
theorem kr_X0_moved_15_16 : zchk cX0_moved br_X0_moved_15_16 15 = true ∧ zpc br_X0_moved_15_16 15 = 16 := ⟨by decide +kernel, rfl⟩
abbrev br_X0_moved_19_20 : ZB := [(.iload_n 1, .null)]
theorem kr_X0_moved_19_20 : zchk cX0_moved br_X0_moved_19_20 19 = true ∧ zpc br_X0_moved_19_20 19 = 20 := ⟨by decide +kernel, rfl⟩
abbrev br_X0_moved_22_25 : ZB := [(.isub, .null), (.aload_n 3, .null), (.iload_n 1, .null)]
theorem kr_X0_moved_22_25 : zchk cX0_moved br_X0_moved_22_25 22 = true ∧ zpc br_X0_moved_22_25 22 = 25 := ⟨by decide +kernel, rfl⟩
abbrev br_X0_moved_26_28 : ZB := [(.aload_n 3, .null), (.iload_n 2, .null)]
theorem kr_X0_moved_26_28 : zchk cX0_moved br_X0_moved_26_28 26 = true ∧ zpc br_X0_moved_26_28 26 = 28 := ⟨by decide +kernel, rfl⟩
abbrev br_X0_moved_29_31 : ZB := [(.isub, .null), (.imul, .null)]
theorem kr_X0_moved_29_31 : zchk cX0_moved br_X0_moved_29_31 29 = true ∧ zpc br_X0_moved_29_31 29 = 31 := ⟨by decide +kernel, rfl⟩
set_option maxHeartbeats 4000000 in
set_option maxRecDepth 100000 in
theorem cr_X0_moved (l : Launch) (G : KG) (wheel : Nat) (cc : Int32) (kw : Nat) (ks : Nat) (wX3 : Value) (wa : Int32) (wb : Int32) (wX6 : Value) (fw : Nat → Int32) (fs : Nat → Int32) (pr : Nat) (fp_ : Nat → Int32) (iq : Int32) (jq : Int32) (ii : Int) (ji : Int) (hiq : iq.toInt = ii) (hjq : jq.toInt = ji) (hi0 : 0 ≤ ii ∧ ii < 8) (hj0 : 0 ≤ ji ∧ ji < 8) (hsi : 0 ≤ (fs iq.toNatClampNeg).toInt ∧ (fs iq.toNatClampNeg).toInt < 8) (hsj : 0 ≤ (fs jq.toNatClampNeg).toInt ∧ (fs jq.toNatClampNeg).toInt < 8) : Ct l G yX0_moved cX0_moved 4 (some .int) { frames := 0, cells := 0, slots := 0, locals := 0 } [.ref wheel, .int iq, .int jq, .ref pr] [(wheel, ob 0 [.int cc, .ref kw, .ref ks, wX3, .int wa, .int wb, wX6]), (kw, aI G 8 fw), (ks, aI G 8 fs), (pr, aI G 16 fp_)] (fun r w1 => ∃ (rz : Int32), (rz = (fw (fs jq.toNatClampNeg).toNatClampNeg - fw (fs iq.toNatClampNeg).toNatClampNeg) * (fp_ iq.toNatClampNeg - fp_ jq.toNatClampNeg)) ∧ r = some (.int rz) ∧ w1 = [(wheel, ob 0 [.int cc, .ref kw, .ref ks, wX3, .int wa, .int wb, wX6]), (kw, aI G 8 fw), (ks, aI G 8 fs), (pr, aI G 16 fp_)]) := by
  refine ct_of [(0, .ref wheel), (1, .int iq), (2, .int jq), (3, .ref pr)] (by decide) (Nat.le_of_ble_eq_true rfl) rfl ?_
  intro p0 e0 s0 m0 args0 below0 meth0 c0 A X
  refine z_run X br_X0_moved_0_1 kr_X0_moved_0_1 (lv' := [(0, .ref wheel), (1, .int iq), (2, .int jq), (3, .ref pr)]) (st' := [.ref wheel]) rfl ?_
  refine z_get X fl_0_9 dr_X0_moved_1 0 rfl (v := .ref kw) rfl ?_
  refine z_run X br_X0_moved_4_5 kr_X0_moved_4_5 (lv' := [(0, .ref wheel), (1, .int iq), (2, .int jq), (3, .ref pr)]) (st' := [.ref wheel, .ref kw]) rfl ?_
  refine z_get X fl_0_15 dr_X0_moved_5 0 rfl (v := .ref ks) rfl ?_
  refine z_run X br_X0_moved_8_9 kr_X0_moved_8_9 (lv' := [(0, .ref wheel), (1, .int iq), (2, .int jq), (3, .ref pr)]) (st' := [.int jq, .ref ks, .ref kw]) rfl ?_
  refine z_iald X dr_X0_moved_9 2 rfl (vin hjq (by omega) (by omega)) (v := (fs jq.toNatClampNeg)) rfl ?_
  refine z_iald X dr_X0_moved_10 1 rfl (vin rfl (by omega) (by omega)) (v := (fw (fs jq.toNatClampNeg).toNatClampNeg)) rfl ?_
  refine z_run X br_X0_moved_11_12 kr_X0_moved_11_12 (lv' := [(0, .ref wheel), (1, .int iq), (2, .int jq), (3, .ref pr)]) (st' := [.ref wheel, .int (fw (fs jq.toNatClampNeg).toNatClampNeg)]) rfl ?_
  refine z_get X fl_0_9 dr_X0_moved_12 0 rfl (v := .ref kw) rfl ?_
  refine z_run X br_X0_moved_15_16 kr_X0_moved_15_16 (lv' := [(0, .ref wheel), (1, .int iq), (2, .int jq), (3, .ref pr)]) (st' := [.ref wheel, .ref kw, .int (fw (fs jq.toNatClampNeg).toNatClampNeg)]) rfl ?_
  refine z_get X fl_0_15 dr_X0_moved_16 0 rfl (v := .ref ks) rfl ?_
  refine z_run X br_X0_moved_19_20 kr_X0_moved_19_20 (lv' := [(0, .ref wheel), (1, .int iq), (2, .int jq), (3, .ref pr)]) (st' := [.int iq, .ref ks, .ref kw, .int (fw (fs jq.toNatClampNeg).toNatClampNeg)]) rfl ?_
  refine z_iald X dr_X0_moved_20 2 rfl (vin hiq (by omega) (by omega)) (v := (fs iq.toNatClampNeg)) rfl ?_
  refine z_iald X dr_X0_moved_21 1 rfl (vin rfl (by omega) (by omega)) (v := (fw (fs iq.toNatClampNeg).toNatClampNeg)) rfl ?_
  refine z_run X br_X0_moved_22_25 kr_X0_moved_22_25 (lv' := [(0, .ref wheel), (1, .int iq), (2, .int jq), (3, .ref pr)]) (st' := [.int iq, .ref pr, .int ((fw (fs jq.toNatClampNeg).toNatClampNeg) - (fw (fs iq.toNatClampNeg).toNatClampNeg))]) rfl ?_
  refine z_iald X dr_X0_moved_25 3 rfl (vin hiq (by omega) (by omega)) (v := (fp_ iq.toNatClampNeg)) rfl ?_
  refine z_run X br_X0_moved_26_28 kr_X0_moved_26_28 (lv' := [(0, .ref wheel), (1, .int iq), (2, .int jq), (3, .ref pr)]) (st' := [.int jq, .ref pr, .int (fp_ iq.toNatClampNeg), .int ((fw (fs jq.toNatClampNeg).toNatClampNeg) - (fw (fs iq.toNatClampNeg).toNatClampNeg))]) rfl ?_
  refine z_iald X dr_X0_moved_28 3 rfl (vin hjq (by omega) (by omega)) (v := (fp_ jq.toNatClampNeg)) rfl ?_
  refine z_run X br_X0_moved_29_31 kr_X0_moved_29_31 (lv' := [(0, .ref wheel), (1, .int iq), (2, .int jq), (3, .ref pr)]) (st' := [.int (((fw (fs jq.toNatClampNeg).toNatClampNeg) - (fw (fs iq.toNatClampNeg).toNatClampNeg)) * ((fp_ iq.toNatClampNeg) - (fp_ jq.toNatClampNeg)))]) rfl ?_
  exact z_iret X rfl dr_X0_moved_31 (Nat.le_of_ble_eq_true rfl) (Nat.le_of_ble_eq_true rfl) ⟨(((fw (fs jq.toNatClampNeg).toNatClampNeg) - (fw (fs iq.toNatClampNeg).toNatClampNeg)) * ((fp_ iq.toNatClampNeg) - (fp_ jq.toNatClampNeg))), rfl, rfl, rfl⟩

theorem dr_X0_exchangeBest_5 : decode cX0_exchangeBest 5 = .ok (.getfield 21, 3) := by decide +kernel
theorem dr_X0_exchangeBest_10 : decode cX0_exchangeBest 10 = .ok (.getfield 25, 3) := by decide +kernel
theorem dr_X0_exchangeBest_14 : decode cX0_exchangeBest 14 = .ok (.invokestatic 49, 3) := by decide +kernel
theorem dr_X0_exchangeBest_25 : decode cX0_exchangeBest 25 = .ok (.getfield 28, 3) := by decide +kernel
theorem dr_X0_exchangeBest_28 : decode cX0_exchangeBest 28 = .ok (.if_icmp .ge 89, 3) := by decide +kernel
theorem dr_X0_exchangeBest_118 : decode cX0_exchangeBest 118 = .ok (.ifCond .lt 7, 3) := by decide +kernel
theorem dr_X0_exchangeBest_126 : decode cX0_exchangeBest 126 = .ok (.ireturn, 1) := by decide +kernel
theorem dr_X0_exchangeBest_122 : decode cX0_exchangeBest 122 = .ok (.ifCond .ge 5, 3) := by decide +kernel
theorem dr_X0_exchangeBest_129 : decode cX0_exchangeBest 129 = .ok (.getfield 21, 3) := by decide +kernel
theorem dr_X0_exchangeBest_136 : decode cX0_exchangeBest 136 = .ok (.getfield 31, 3) := by decide +kernel
theorem dr_X0_exchangeBest_139 : decode cX0_exchangeBest 139 = .ok (.invokevirtual 57, 3) := by decide +kernel
theorem dr_X0_exchangeBest_143 : decode cX0_exchangeBest 143 = .ok (.putfield 21, 3) := by decide +kernel
theorem dr_X0_exchangeBest_148 : decode cX0_exchangeBest 148 = .ok (.getfield 25, 3) := by decide +kernel
theorem dr_X0_exchangeBest_155 : decode cX0_exchangeBest 155 = .ok (.getfield 35, 3) := by decide +kernel
theorem dr_X0_exchangeBest_158 : decode cX0_exchangeBest 158 = .ok (.invokevirtual 57, 3) := by decide +kernel
theorem dr_X0_exchangeBest_162 : decode cX0_exchangeBest 162 = .ok (.putfield 25, 3) := by decide +kernel
theorem dr_X0_exchangeBest_166 : decode cX0_exchangeBest 166 = .ok (.getfield 15, 3) := by decide +kernel
theorem dr_X0_exchangeBest_170 : decode cX0_exchangeBest 170 = .ok (.iaload, 1) := by decide +kernel
theorem dr_X0_exchangeBest_174 : decode cX0_exchangeBest 174 = .ok (.getfield 15, 3) := by decide +kernel
theorem dr_X0_exchangeBest_179 : decode cX0_exchangeBest 179 = .ok (.getfield 15, 3) := by decide +kernel
theorem dr_X0_exchangeBest_183 : decode cX0_exchangeBest 183 = .ok (.iaload, 1) := by decide +kernel
theorem dr_X0_exchangeBest_184 : decode cX0_exchangeBest 184 = .ok (.iastore, 1) := by decide +kernel
theorem dr_X0_exchangeBest_186 : decode cX0_exchangeBest 186 = .ok (.getfield 15, 3) := by decide +kernel
theorem dr_X0_exchangeBest_192 : decode cX0_exchangeBest 192 = .ok (.iastore, 1) := by decide +kernel
theorem dr_X0_exchangeBest_194 : decode cX0_exchangeBest 194 = .ok (.ireturn, 1) := by decide +kernel
theorem dr_X0_exchangeBest_40 : decode cX0_exchangeBest 40 = .ok (.getfield 28, 3) := by decide +kernel
theorem dr_X0_exchangeBest_43 : decode cX0_exchangeBest 43 = .ok (.if_icmp .ge 68, 3) := by decide +kernel
theorem dr_X0_exchangeBest_114 : decode cX0_exchangeBest 114 = .ok (.goto (-92), 3) := by decide +kernel
theorem dr_X0_exchangeBest_47 : decode cX0_exchangeBest 47 = .ok (.getfield 21, 3) := by decide +kernel
theorem dr_X0_exchangeBest_56 : decode cX0_exchangeBest 56 = .ok (.getfield 31, 3) := by decide +kernel
theorem dr_X0_exchangeBest_59 : decode cX0_exchangeBest 59 = .ok (.invokevirtual 57, 3) := by decide +kernel
theorem dr_X0_exchangeBest_65 : decode cX0_exchangeBest 65 = .ok (.getfield 25, 3) := by decide +kernel
theorem dr_X0_exchangeBest_74 : decode cX0_exchangeBest 74 = .ok (.getfield 35, 3) := by decide +kernel
theorem dr_X0_exchangeBest_77 : decode cX0_exchangeBest 77 = .ok (.invokevirtual 57, 3) := by decide +kernel
theorem dr_X0_exchangeBest_82 : decode cX0_exchangeBest 82 = .ok (.invokestatic 49, 3) := by decide +kernel
theorem dr_X0_exchangeBest_91 : decode cX0_exchangeBest 91 = .ok (.lcmp, 1) := by decide +kernel
theorem dr_X0_exchangeBest_92 : decode cX0_exchangeBest 92 = .ok (.ifCond .ge 13, 3) := by decide +kernel
theorem dr_X0_exchangeBest_108 : decode cX0_exchangeBest 108 = .ok (.goto (-71), 3) := by decide +kernel
abbrev br_X0_exchangeBest_0_5 : ZB := [(.iconst (-1), .int (-1)), (.istore_n 2, .null), (.iconst (-1), .int (-1)), (.istore_n 3, .null), (.aload_n 0, .null)]
theorem kr_X0_exchangeBest_0_5 : zchk cX0_exchangeBest br_X0_exchangeBest_0_5 0 = true ∧ zpc br_X0_exchangeBest_0_5 0 = 5 := ⟨by decide +kernel, rfl⟩
abbrev br_X0_exchangeBest_8_10 : ZB := [(.i2l, .null), (.aload_n 0, .null)]
theorem kr_X0_exchangeBest_8_10 : zchk cX0_exchangeBest br_X0_exchangeBest_8_10 8 = true ∧ zpc br_X0_exchangeBest_8_10 8 = 10 := ⟨by decide +kernel, rfl⟩
abbrev br_X0_exchangeBest_13_14 : ZB := [(.i2l, .null)]
theorem kr_X0_exchangeBest_13_14 : zchk cX0_exchangeBest br_X0_exchangeBest_13_14 13 = true ∧ zpc br_X0_exchangeBest_13_14 13 = 14 := ⟨by decide +kernel, rfl⟩
abbrev br_X0_exchangeBest_17_22 : ZB := [(.lstore 4, .null), (.iconst 0, .int 0), (.istore 6, .null)]
theorem kr_X0_exchangeBest_17_22 : zchk cX0_exchangeBest br_X0_exchangeBest_17_22 17 = true ∧ zpc br_X0_exchangeBest_17_22 17 = 22 := ⟨by decide +kernel, rfl⟩
abbrev br_X0_exchangeBest_22_25 : ZB := [(.iload 6, .null), (.aload_n 0, .null)]
theorem kr_X0_exchangeBest_22_25 : zchk cX0_exchangeBest br_X0_exchangeBest_22_25 22 = true ∧ zpc br_X0_exchangeBest_22_25 22 = 25 := ⟨by decide +kernel, rfl⟩
abbrev br_X0_exchangeBest_117_118 : ZB := [(.iload_n 2, .null)]
theorem kr_X0_exchangeBest_117_118 : zchk cX0_exchangeBest br_X0_exchangeBest_117_118 117 = true ∧ zpc br_X0_exchangeBest_117_118 117 = 118 := ⟨by decide +kernel, rfl⟩
abbrev br_X0_exchangeBest_125_126 : ZB := [(.iconst 0, .int 0)]
theorem kr_X0_exchangeBest_125_126 : zchk cX0_exchangeBest br_X0_exchangeBest_125_126 125 = true ∧ zpc br_X0_exchangeBest_125_126 125 = 126 := ⟨by decide +kernel, rfl⟩
abbrev br_X0_exchangeBest_121_122 : ZB := [(.iload_n 3, .null)]
theorem kr_X0_exchangeBest_121_122 : zchk cX0_exchangeBest br_X0_exchangeBest_121_122 121 = true ∧ zpc br_X0_exchangeBest_121_122 121 = 122 := ⟨by decide +kernel, rfl⟩
abbrev br_X0_exchangeBest_127_129 : ZB := [(.aload_n 0, .null), (.dup, .null)]
theorem kr_X0_exchangeBest_127_129 : zchk cX0_exchangeBest br_X0_exchangeBest_127_129 127 = true ∧ zpc br_X0_exchangeBest_127_129 127 = 129 := ⟨by decide +kernel, rfl⟩
abbrev br_X0_exchangeBest_132_136 : ZB := [(.aload_n 0, .null), (.iload_n 2, .null), (.iload_n 3, .null), (.aload_n 1, .null)]
theorem kr_X0_exchangeBest_132_136 : zchk cX0_exchangeBest br_X0_exchangeBest_132_136 132 = true ∧ zpc br_X0_exchangeBest_132_136 132 = 136 := ⟨by decide +kernel, rfl⟩
abbrev br_X0_exchangeBest_142_143 : ZB := [(.iadd, .null)]
theorem kr_X0_exchangeBest_142_143 : zchk cX0_exchangeBest br_X0_exchangeBest_142_143 142 = true ∧ zpc br_X0_exchangeBest_142_143 142 = 143 := ⟨by decide +kernel, rfl⟩
abbrev br_X0_exchangeBest_146_148 : ZB := [(.aload_n 0, .null), (.dup, .null)]
theorem kr_X0_exchangeBest_146_148 : zchk cX0_exchangeBest br_X0_exchangeBest_146_148 146 = true ∧ zpc br_X0_exchangeBest_146_148 146 = 148 := ⟨by decide +kernel, rfl⟩
abbrev br_X0_exchangeBest_151_155 : ZB := [(.aload_n 0, .null), (.iload_n 2, .null), (.iload_n 3, .null), (.aload_n 1, .null)]
theorem kr_X0_exchangeBest_151_155 : zchk cX0_exchangeBest br_X0_exchangeBest_151_155 151 = true ∧ zpc br_X0_exchangeBest_151_155 151 = 155 := ⟨by decide +kernel, rfl⟩
abbrev br_X0_exchangeBest_161_162 : ZB := [(.iadd, .null)]
theorem kr_X0_exchangeBest_161_162 : zchk cX0_exchangeBest br_X0_exchangeBest_161_162 161 = true ∧ zpc br_X0_exchangeBest_161_162 161 = 162 := ⟨by decide +kernel, rfl⟩
abbrev br_X0_exchangeBest_165_166 : ZB := [(.aload_n 0, .null)]
theorem kr_X0_exchangeBest_165_166 : zchk cX0_exchangeBest br_X0_exchangeBest_165_166 165 = true ∧ zpc br_X0_exchangeBest_165_166 165 = 166 := ⟨by decide +kernel, rfl⟩
abbrev br_X0_exchangeBest_169_170 : ZB := [(.iload_n 2, .null)]
theorem kr_X0_exchangeBest_169_170 : zchk cX0_exchangeBest br_X0_exchangeBest_169_170 169 = true ∧ zpc br_X0_exchangeBest_169_170 169 = 170 := ⟨by decide +kernel, rfl⟩
abbrev br_X0_exchangeBest_171_174 : ZB := [(.istore 6, .null), (.aload_n 0, .null)]
theorem kr_X0_exchangeBest_171_174 : zchk cX0_exchangeBest br_X0_exchangeBest_171_174 171 = true ∧ zpc br_X0_exchangeBest_171_174 171 = 174 := ⟨by decide +kernel, rfl⟩
abbrev br_X0_exchangeBest_177_179 : ZB := [(.iload_n 2, .null), (.aload_n 0, .null)]
theorem kr_X0_exchangeBest_177_179 : zchk cX0_exchangeBest br_X0_exchangeBest_177_179 177 = true ∧ zpc br_X0_exchangeBest_177_179 177 = 179 := ⟨by decide +kernel, rfl⟩
abbrev br_X0_exchangeBest_182_183 : ZB := [(.iload_n 3, .null)]
theorem kr_X0_exchangeBest_182_183 : zchk cX0_exchangeBest br_X0_exchangeBest_182_183 182 = true ∧ zpc br_X0_exchangeBest_182_183 182 = 183 := ⟨by decide +kernel, rfl⟩
abbrev br_X0_exchangeBest_185_186 : ZB := [(.aload_n 0, .null)]
theorem kr_X0_exchangeBest_185_186 : zchk cX0_exchangeBest br_X0_exchangeBest_185_186 185 = true ∧ zpc br_X0_exchangeBest_185_186 185 = 186 := ⟨by decide +kernel, rfl⟩
abbrev br_X0_exchangeBest_189_192 : ZB := [(.iload_n 3, .null), (.iload 6, .null)]
theorem kr_X0_exchangeBest_189_192 : zchk cX0_exchangeBest br_X0_exchangeBest_189_192 189 = true ∧ zpc br_X0_exchangeBest_189_192 189 = 192 := ⟨by decide +kernel, rfl⟩
abbrev br_X0_exchangeBest_193_194 : ZB := [(.iconst 1, .int 1)]
theorem kr_X0_exchangeBest_193_194 : zchk cX0_exchangeBest br_X0_exchangeBest_193_194 193 = true ∧ zpc br_X0_exchangeBest_193_194 193 = 194 := ⟨by decide +kernel, rfl⟩
abbrev br_X0_exchangeBest_31_37 : ZB := [(.iload 6, .null), (.iconst 1, .int 1), (.iadd, .null), (.istore 7, .null)]
theorem kr_X0_exchangeBest_31_37 : zchk cX0_exchangeBest br_X0_exchangeBest_31_37 31 = true ∧ zpc br_X0_exchangeBest_31_37 31 = 37 := ⟨by decide +kernel, rfl⟩
abbrev br_X0_exchangeBest_37_40 : ZB := [(.iload 7, .null), (.aload_n 0, .null)]
theorem kr_X0_exchangeBest_37_40 : zchk cX0_exchangeBest br_X0_exchangeBest_37_40 37 = true ∧ zpc br_X0_exchangeBest_37_40 37 = 40 := ⟨by decide +kernel, rfl⟩
abbrev br_X0_exchangeBest_111_114 : ZB := [(.iinc 6 1, .int 1)]
theorem kr_X0_exchangeBest_111_114 : zchk cX0_exchangeBest br_X0_exchangeBest_111_114 111 = true ∧ zpc br_X0_exchangeBest_111_114 111 = 114 := ⟨by decide +kernel, rfl⟩
abbrev br_X0_exchangeBest_46_47 : ZB := [(.aload_n 0, .null)]
theorem kr_X0_exchangeBest_46_47 : zchk cX0_exchangeBest br_X0_exchangeBest_46_47 46 = true ∧ zpc br_X0_exchangeBest_46_47 46 = 47 := ⟨by decide +kernel, rfl⟩
abbrev br_X0_exchangeBest_50_56 : ZB := [(.aload_n 0, .null), (.iload 6, .null), (.iload 7, .null), (.aload_n 1, .null)]
theorem kr_X0_exchangeBest_50_56 : zchk cX0_exchangeBest br_X0_exchangeBest_50_56 50 = true ∧ zpc br_X0_exchangeBest_50_56 50 = 56 := ⟨by decide +kernel, rfl⟩
abbrev br_X0_exchangeBest_62_65 : ZB := [(.iadd, .null), (.i2l, .null), (.aload_n 0, .null)]
theorem kr_X0_exchangeBest_62_65 : zchk cX0_exchangeBest br_X0_exchangeBest_62_65 62 = true ∧ zpc br_X0_exchangeBest_62_65 62 = 65 := ⟨by decide +kernel, rfl⟩
abbrev br_X0_exchangeBest_68_74 : ZB := [(.aload_n 0, .null), (.iload 6, .null), (.iload 7, .null), (.aload_n 1, .null)]
theorem kr_X0_exchangeBest_68_74 : zchk cX0_exchangeBest br_X0_exchangeBest_68_74 68 = true ∧ zpc br_X0_exchangeBest_68_74 68 = 74 := ⟨by decide +kernel, rfl⟩
abbrev br_X0_exchangeBest_80_82 : ZB := [(.iadd, .null), (.i2l, .null)]
theorem kr_X0_exchangeBest_80_82 : zchk cX0_exchangeBest br_X0_exchangeBest_80_82 80 = true ∧ zpc br_X0_exchangeBest_80_82 80 = 82 := ⟨by decide +kernel, rfl⟩
abbrev br_X0_exchangeBest_85_91 : ZB := [(.lstore 8, .null), (.lload 8, .null), (.lload 4, .null)]
theorem kr_X0_exchangeBest_85_91 : zchk cX0_exchangeBest br_X0_exchangeBest_85_91 85 = true ∧ zpc br_X0_exchangeBest_85_91 85 = 91 := ⟨by decide +kernel, rfl⟩
abbrev br_X0_exchangeBest_105_108 : ZB := [(.iinc 7 1, .int 1)]
theorem kr_X0_exchangeBest_105_108 : zchk cX0_exchangeBest br_X0_exchangeBest_105_108 105 = true ∧ zpc br_X0_exchangeBest_105_108 105 = 108 := ⟨by decide +kernel, rfl⟩
abbrev br_X0_exchangeBest_95_108 : ZB := [(.lload 8, .null), (.lstore 4, .null), (.iload 6, .null), (.istore_n 2, .null), (.iload 7, .null), (.istore_n 3, .null), (.iinc 7 1, .int 1)]
theorem kr_X0_exchangeBest_95_108 : zchk cX0_exchangeBest br_X0_exchangeBest_95_108 95 = true ∧ zpc br_X0_exchangeBest_95_108 95 = 108 := ⟨by decide +kernel, rfl⟩
set_option maxHeartbeats 4000000 in
set_option maxRecDepth 100000 in
theorem cr_X0_exchangeBest (l : Launch) (G : KG) (wheel : Nat) (cc : Int32) (kw : Nat) (ks : Nat) (wX3 : Value) (wa : Int32) (wb : Int32) (wX6 : Value) (fw : Nat → Int32) (fs : Nat → Int32) (ring : Nat) (hc : Int32) (g_rp : Value) (rx : Nat) (ry : Nat) (g_rr : Value) (g_rh : Value) (g_rd : Value) (g_ph : Value) (g_po : Value) (fx : Nat → Int32) (fy : Nat → Int32) (cci : Int) (hcc : cc.toInt = cci) (hcb : 0 ≤ cci ∧ cci ≤ 8) (hok : OKS fs cci.toNat) (hx0 : wa = cS fw fx fs cci.toNat) (hy0 : wb = cS fw fy fs cci.toNat) : Ct l G yX0_exchangeBest cX0_exchangeBest 10 (some .boolean) { frames := 1, cells := 0, slots := 0, locals := 23 } [.ref wheel, .ref ring] [(wheel, ob 0 [.int cc, .ref kw, .ref ks, wX3, .int wa, .int wb, wX6]), (kw, aI G 8 fw), (ks, aI G 8 fs), (ring, ob 5 [.int hc, g_rp, .ref rx, .ref ry, g_rr, g_rh, g_rd, g_ph, g_po]), (rx, aI G 16 fx), (ry, aI G 16 fy)] (fun r w1 => ∃ (rz : Int32), ∃ (a2 : Int32), ∃ (b2 : Int32), ∃ (g2 : Nat → Int32), (((nxR fw fx fy cci.toNat fs) = none ∧ rz = 0 ∧ g2 = fs) ∨ ((nxR fw fx fy cci.toNat fs) = some g2 ∧ rz = 1)) ∧ (a2 = cS fw fx g2 cci.toNat) ∧ (b2 = cS fw fy g2 cci.toNat) ∧ r = some (.int rz) ∧ w1 = [(wheel, ob 0 [.int cc, .ref kw, .ref ks, wX3, .int a2, .int b2, wX6]), (kw, aI G 8 fw), (ks, aI G 8 g2), (ring, ob 5 [.int hc, g_rp, .ref rx, .ref ry, g_rr, g_rh, g_rd, g_ph, g_po]), (rx, aI G 16 fx), (ry, aI G 16 fy)]) := by
  refine ct_of [(0, .ref wheel), (1, .ref ring)] (by decide) (Nat.le_of_ble_eq_true rfl) rfl ?_
  intro p0 e0 s0 m0 args0 below0 meth0 c0 A X
  refine z_run X br_X0_exchangeBest_0_5 kr_X0_exchangeBest_0_5 (lv' := [(3, .int (-1)), (2, .int (-1)), (0, .ref wheel), (1, .ref ring)]) (st' := [.ref wheel]) rfl ?_
  refine z_get X fl_0_21 dr_X0_exchangeBest_5 0 rfl (v := .int wa) rfl ?_
  refine z_run X br_X0_exchangeBest_8_10 kr_X0_exchangeBest_8_10 (lv' := [(3, .int (-1)), (2, .int (-1)), (0, .ref wheel), (1, .ref ring)]) (st' := [.ref wheel, .long wa.toInt64]) rfl ?_
  refine z_get X fl_0_25 dr_X0_exchangeBest_10 0 rfl (v := .int wb) rfl ?_
  refine z_run X br_X0_exchangeBest_13_14 kr_X0_exchangeBest_13_14 (lv' := [(3, .int (-1)), (2, .int (-1)), (0, .ref wheel), (1, .ref ring)]) (st' := [.long wb.toInt64, .long wa.toInt64]) rfl ?_
  refine z_callSN X k_0_49 (cg_X10_sizeOf l G wa.toInt64 wb.toInt64) dr_X0_exchangeBest_14 ⟨Nat.le_of_ble_eq_true rfl, Nat.le_of_ble_eq_true rfl⟩ ⟨Nat.le_of_ble_eq_true rfl, Nat.le_of_ble_eq_true rfl⟩ rfl (rest := []) (As := [.long wa.toInt64, .long wb.toInt64]) rfl (Nat.le_of_ble_eq_true rfl) [] [0, 1, 2, 3, 4, 5] rfl (by decide) (wr := [(wheel, ob 0 [.int cc, .ref kw, .ref ks, wX3, .int wa, .int wb, wX6]), (kw, aI G 8 fw), (ks, aI G 8 fs), (ring, ob 5 [.int hc, g_rp, .ref rx, .ref ry, g_rr, g_rh, g_rd, g_ph, g_po]), (rx, aI G 16 fx), (ry, aI G 16 fy)]) rfl (by decide) (by decide) ?_
  rintro _ _ ⟨rz_1, f14_2, rfl, rfl⟩
  refine Z.at (pc' := 17) (st' := [.long rz_1]) (ws' := [(wheel, ob 0 [.int cc, .ref kw, .ref ks, wX3, .int wa, .int wb, wX6]), (kw, aI G 8 fw), (ks, aI G 8 fs), (ring, ob 5 [.int hc, g_rp, .ref rx, .ref ry, g_rr, g_rh, g_rd, g_ph, g_po]), (rx, aI G 16 fx), (ry, aI G 16 fy)]) (kc' := 0) (ks' := 0) rfl rfl rfl rfl rfl ?_
  have hl0_ : rz_1.toInt = (SZr fw fx fy cci.toNat fs) := by show _ = (sz (cS fw fx fs cci.toNat) (cS fw fy fs cci.toNat)).toInt; rw [← hx0, ← hy0, f14_2]; rfl
  refine z_run X br_X0_exchangeBest_17_22 kr_X0_exchangeBest_17_22 (lv' := [(6, .int 0), (4, .long rz_1), (3, .int (-1)), (2, .int (-1)), (0, .ref wheel), (1, .ref ring)]) (st' := []) rfl ?_
  refine zloop (σ := Int32 × Int64 × Int32 × Int32) (fun z => [(6, .int z.1), (4, .long z.2.1), (3, .int z.2.2.2), (2, .int z.2.2.1), (0, .ref wheel), (1, .ref ring)]) (fun z => []) (fun z => [(wheel, ob 0 [.int cc, .ref kw, .ref ks, wX3, .int wa, .int wb, wX6]), (kw, aI G 8 fw), (ks, aI G 8 fs), (ring, ob 5 [.int hc, g_rp, .ref rx, .ref ry, g_rr, g_rh, g_rd, g_ph, g_po]), (rx, aI G 16 fx), (ry, aI G 16 fy)]) (fun z => (0 ≤ z.1.toInt ∧ z.1.toInt ≤ cci) ∧ ((z.2.1.toInt, z.2.2.1.toInt, z.2.2.2.toInt) = rdI (SW fw fx fy cci.toNat fs) cci.toNat z.1.toInt.toNat ((SZr fw fx fy cci.toNat fs), -1, -1))) (fun z => (cci - z.1.toInt).toNat) (0, rz_1, (-1), (-1)) ?_ ?_
  ·
    rintro ⟨i_, l_, o_, a_⟩ ⟨hi, ht⟩ ih22
    dsimp only at *
    refine z_run X br_X0_exchangeBest_22_25 kr_X0_exchangeBest_22_25 (lv' := [(6, .int i_), (4, .long l_), (3, .int a_), (2, .int o_), (0, .ref wheel), (1, .ref ring)]) (st' := [.ref wheel, .int i_]) rfl ?_
    refine z_get X fl_0_28 dr_X0_exchangeBest_25 0 rfl (v := .int cc) rfl ?_
    refine zc_ge X dr_X0_exchangeBest_28 (tgt := 117) (by decide) (a := i_.toInt) (b := cci) rfl hcc (fun c28_3 => ?_) (fun c28_3 => ?_)
    ·
      refine z_run X br_X0_exchangeBest_117_118 kr_X0_exchangeBest_117_118 (lv' := [(6, .int i_), (4, .long l_), (3, .int a_), (2, .int o_), (0, .ref wheel), (1, .ref ring)]) (st' := [.int o_]) rfl ?_
      refine zi_lt X dr_X0_exchangeBest_118 (tgt := 125) (by decide) (a := o_.toInt) rfl (fun c118_4 => ?_) (fun c118_4 => ?_)
      ·
        have ht2 := ht
        rw [show i_.toInt.toNat = cci.toNat by omega] at ht2
        have hRT : RTP (SW fw fx fy cci.toNat fs) cci.toNat (SZr fw fx fy cci.toNat fs) (l_.toInt, o_.toInt, a_.toInt) := by rw [ht2]; exact RTP.i
        refine z_run X br_X0_exchangeBest_125_126 kr_X0_exchangeBest_125_126 (lv' := [(6, .int i_), (4, .long l_), (3, .int a_), (2, .int o_), (0, .ref wheel), (1, .ref ring)]) (st' := [.int 0]) rfl ?_
        exact z_zret X rfl rfl dr_X0_exchangeBest_126 (Nat.le_of_ble_eq_true rfl) (Nat.le_of_ble_eq_true rfl) ⟨(0 : Int32), wa, wb, fs, (Or.inl ⟨nxR_none ht2 (show o_.toInt < 0 by omega), rfl, rfl⟩), hx0, hy0, rfl, rfl⟩
      ·
        have ht2 := ht
        rw [show i_.toInt.toNat = cci.toNat by omega] at ht2
        have hRT : RTP (SW fw fx fy cci.toNat fs) cci.toNat (SZr fw fx fy cci.toNat fs) (l_.toInt, o_.toInt, a_.toInt) := by rw [ht2]; exact RTP.i
        have hoa_ : 0 ≤ o_.toInt ∧ o_.toInt < a_.toInt ∧ a_.toInt < cci := by rcases hRT with ⟨z1, -, -⟩ | ⟨z1, z2, z3, -, -⟩; (have z1 : o_.toInt = -1 := z1; omega); (have z1 : 0 ≤ o_.toInt := z1; have z2 : o_.toInt < a_.toInt := z2; have z3 : a_.toInt < (cci.toNat : Int) := z3; omega)
        refine z_run X br_X0_exchangeBest_121_122 kr_X0_exchangeBest_121_122 (lv' := [(6, .int i_), (4, .long l_), (3, .int a_), (2, .int o_), (0, .ref wheel), (1, .ref ring)]) (st' := [.int a_]) rfl ?_
        refine zi_ge X dr_X0_exchangeBest_122 (tgt := 127) (by decide) (a := a_.toInt) rfl (fun c122_5 => ?_) (fun c122_5n => absurd c122_5n (by omega))
        refine z_run X br_X0_exchangeBest_127_129 kr_X0_exchangeBest_127_129 (lv' := [(6, .int i_), (4, .long l_), (3, .int a_), (2, .int o_), (0, .ref wheel), (1, .ref ring)]) (st' := [.ref wheel, .ref wheel]) rfl ?_
        refine z_get X fl_0_21 dr_X0_exchangeBest_129 0 rfl (v := .int wa) rfl ?_
        refine z_run X br_X0_exchangeBest_132_136 kr_X0_exchangeBest_132_136 (lv' := [(6, .int i_), (4, .long l_), (3, .int a_), (2, .int o_), (0, .ref wheel), (1, .ref ring)]) (st' := [.ref ring, .int a_, .int o_, .ref wheel, .int wa, .ref wheel]) rfl ?_
        refine z_getN X fl_0_31 dr_X0_exchangeBest_136 3 rfl (v := .ref rx) rfl ?_
        refine z_callV X k_0_57 (cr_X0_moved l G wheel cc kw ks wX3 wa wb wX6 fw fs rx fx o_ a_ o_.toInt a_.toInt rfl rfl (by omega) (by omega) (by have z := hok.1 o_.toNatClampNeg (show o_.toNatClampNeg < cci.toNat from (show o_.toInt.toNat < cci.toNat by omega)); omega) (by have z := hok.1 a_.toNatClampNeg (show a_.toNatClampNeg < cci.toNat from (show a_.toInt.toNat < cci.toNat by omega)); omega)) dr_X0_exchangeBest_139 0 rfl rfl rfl ⟨Nat.le_of_ble_eq_true rfl, Nat.le_of_ble_eq_true rfl⟩ ⟨Nat.le_of_ble_eq_true rfl, Nat.le_of_ble_eq_true rfl⟩ rfl (rest := [.int wa, .ref wheel]) (As := [.int o_, .int a_, .ref rx]) rfl (Nat.le_of_ble_eq_true rfl) [0, 1, 2, 4] [3, 5] rfl (by decide) (wr := [(ring, ob 5 [.int hc, g_rp, .ref rx, .ref ry, g_rr, g_rh, g_rd, g_ph, g_po]), (ry, aI G 16 fy)]) rfl (by decide) (by decide) ?_
        rintro _ _ ⟨rz_6, f139_7, rfl, rfl⟩
        refine Z.at (pc' := 142) (st' := [.int rz_6, .int wa, .ref wheel]) (ws' := [(ring, ob 5 [.int hc, g_rp, .ref rx, .ref ry, g_rr, g_rh, g_rd, g_ph, g_po]), (ry, aI G 16 fy), (wheel, ob 0 [.int cc, .ref kw, .ref ks, wX3, .int wa, .int wb, wX6]), (kw, aI G 8 fw), (ks, aI G 8 fs), (rx, aI G 16 fx)]) (kc' := 0) (ks' := 0) rfl rfl rfl rfl rfl ?_
        refine z_run X br_X0_exchangeBest_142_143 kr_X0_exchangeBest_142_143 (lv' := [(6, .int i_), (4, .long l_), (3, .int a_), (2, .int o_), (0, .ref wheel), (1, .ref ring)]) (st' := [.int (wa + rz_6), .ref wheel]) rfl ?_
        refine z_put X fl_0_21 dr_X0_exchangeBest_143 2 rfl (ty := .int) (T := TX0) (N := 7) rfl (Or.inl rfl) (by decide +kernel) rfl (by rfl) (Nat.le_of_ble_eq_true rfl) (ws' := [(ring, ob 5 [.int hc, g_rp, .ref rx, .ref ry, g_rr, g_rh, g_rd, g_ph, g_po]), (ry, aI G 16 fy), (wheel, ob 0 [.int cc, .ref kw, .ref ks, wX3, .int (wa + rz_6), .int wb, wX6]), (kw, aI G 8 fw), (ks, aI G 8 fs), (rx, aI G 16 fx)]) rfl ?_
        refine z_run X br_X0_exchangeBest_146_148 kr_X0_exchangeBest_146_148 (lv' := [(6, .int i_), (4, .long l_), (3, .int a_), (2, .int o_), (0, .ref wheel), (1, .ref ring)]) (st' := [.ref wheel, .ref wheel]) rfl ?_
        refine z_get X fl_0_25 dr_X0_exchangeBest_148 2 rfl (v := .int wb) rfl ?_
        refine z_run X br_X0_exchangeBest_151_155 kr_X0_exchangeBest_151_155 (lv' := [(6, .int i_), (4, .long l_), (3, .int a_), (2, .int o_), (0, .ref wheel), (1, .ref ring)]) (st' := [.ref ring, .int a_, .int o_, .ref wheel, .int wb, .ref wheel]) rfl ?_
        refine z_getN X fl_0_35 dr_X0_exchangeBest_155 0 rfl (v := .ref ry) rfl ?_
        refine z_callV X k_0_57 (cr_X0_moved l G wheel cc kw ks wX3 (wa + rz_6) wb wX6 fw fs ry fy o_ a_ o_.toInt a_.toInt rfl rfl (by omega) (by omega) (by have z := hok.1 o_.toNatClampNeg (show o_.toNatClampNeg < cci.toNat from (show o_.toInt.toNat < cci.toNat by omega)); omega) (by have z := hok.1 a_.toNatClampNeg (show a_.toNatClampNeg < cci.toNat from (show a_.toInt.toNat < cci.toNat by omega)); omega)) dr_X0_exchangeBest_158 2 rfl rfl rfl ⟨Nat.le_of_ble_eq_true rfl, Nat.le_of_ble_eq_true rfl⟩ ⟨Nat.le_of_ble_eq_true rfl, Nat.le_of_ble_eq_true rfl⟩ rfl (rest := [.int wb, .ref wheel]) (As := [.int o_, .int a_, .ref ry]) rfl (Nat.le_of_ble_eq_true rfl) [2, 3, 4, 1] [0, 5] rfl (by decide) (wr := [(ring, ob 5 [.int hc, g_rp, .ref rx, .ref ry, g_rr, g_rh, g_rd, g_ph, g_po]), (rx, aI G 16 fx)]) rfl (by decide) (by decide) ?_
        rintro _ _ ⟨rz_8, f158_9, rfl, rfl⟩
        refine Z.at (pc' := 161) (st' := [.int rz_8, .int wb, .ref wheel]) (ws' := [(ring, ob 5 [.int hc, g_rp, .ref rx, .ref ry, g_rr, g_rh, g_rd, g_ph, g_po]), (rx, aI G 16 fx), (wheel, ob 0 [.int cc, .ref kw, .ref ks, wX3, .int (wa + rz_6), .int wb, wX6]), (kw, aI G 8 fw), (ks, aI G 8 fs), (ry, aI G 16 fy)]) (kc' := 0) (ks' := 0) rfl rfl rfl rfl rfl ?_
        have hx_ : cS fw fx (swpR fs o_.toNatClampNeg a_.toNatClampNeg) cci.toNat = wa + rz_6 := by rw [cS_swp (show o_.toNatClampNeg ≠ a_.toNatClampNeg from (show o_.toInt.toNat ≠ a_.toInt.toNat by omega)) (show o_.toNatClampNeg < cci.toNat from (show o_.toInt.toNat < cci.toNat by omega)) (show a_.toNatClampNeg < cci.toNat from (show a_.toInt.toNat < cci.toNat by omega)), ← hx0, f139_7]
        have hy_ : cS fw fy (swpR fs o_.toNatClampNeg a_.toNatClampNeg) cci.toNat = wb + rz_8 := by rw [cS_swp (show o_.toNatClampNeg ≠ a_.toNatClampNeg from (show o_.toInt.toNat ≠ a_.toInt.toNat by omega)) (show o_.toNatClampNeg < cci.toNat from (show o_.toInt.toNat < cci.toNat by omega)) (show a_.toNatClampNeg < cci.toNat from (show a_.toInt.toNat < cci.toNat by omega)), ← hy0, f158_9]
        refine z_run X br_X0_exchangeBest_161_162 kr_X0_exchangeBest_161_162 (lv' := [(6, .int i_), (4, .long l_), (3, .int a_), (2, .int o_), (0, .ref wheel), (1, .ref ring)]) (st' := [.int (wb + rz_8), .ref wheel]) rfl ?_
        refine z_put X fl_0_25 dr_X0_exchangeBest_162 2 rfl (ty := .int) (T := TX0) (N := 7) rfl (Or.inl rfl) (by decide +kernel) rfl (by rfl) (Nat.le_of_ble_eq_true rfl) (ws' := [(ring, ob 5 [.int hc, g_rp, .ref rx, .ref ry, g_rr, g_rh, g_rd, g_ph, g_po]), (rx, aI G 16 fx), (wheel, ob 0 [.int cc, .ref kw, .ref ks, wX3, .int (wa + rz_6), .int (wb + rz_8), wX6]), (kw, aI G 8 fw), (ks, aI G 8 fs), (ry, aI G 16 fy)]) rfl ?_
        refine z_run X br_X0_exchangeBest_165_166 kr_X0_exchangeBest_165_166 (lv' := [(6, .int i_), (4, .long l_), (3, .int a_), (2, .int o_), (0, .ref wheel), (1, .ref ring)]) (st' := [.ref wheel]) rfl ?_
        refine z_get X fl_0_15 dr_X0_exchangeBest_166 2 rfl (v := .ref ks) rfl ?_
        refine z_run X br_X0_exchangeBest_169_170 kr_X0_exchangeBest_169_170 (lv' := [(6, .int i_), (4, .long l_), (3, .int a_), (2, .int o_), (0, .ref wheel), (1, .ref ring)]) (st' := [.int o_, .ref ks]) rfl ?_
        refine z_iald X dr_X0_exchangeBest_170 4 rfl (vin rfl (by omega) (by omega)) (v := (fs o_.toNatClampNeg)) rfl ?_
        refine z_run X br_X0_exchangeBest_171_174 kr_X0_exchangeBest_171_174 (lv' := [(6, .int (fs o_.toNatClampNeg)), (4, .long l_), (3, .int a_), (2, .int o_), (0, .ref wheel), (1, .ref ring)]) (st' := [.ref wheel]) rfl ?_
        refine z_get X fl_0_15 dr_X0_exchangeBest_174 2 rfl (v := .ref ks) rfl ?_
        refine z_run X br_X0_exchangeBest_177_179 kr_X0_exchangeBest_177_179 (lv' := [(6, .int (fs o_.toNatClampNeg)), (4, .long l_), (3, .int a_), (2, .int o_), (0, .ref wheel), (1, .ref ring)]) (st' := [.ref wheel, .int o_, .ref ks]) rfl ?_
        refine z_get X fl_0_15 dr_X0_exchangeBest_179 2 rfl (v := .ref ks) rfl ?_
        refine z_run X br_X0_exchangeBest_182_183 kr_X0_exchangeBest_182_183 (lv' := [(6, .int (fs o_.toNatClampNeg)), (4, .long l_), (3, .int a_), (2, .int o_), (0, .ref wheel), (1, .ref ring)]) (st' := [.int a_, .ref ks, .int o_, .ref ks]) rfl ?_
        refine z_iald X dr_X0_exchangeBest_183 4 rfl (vin rfl (by omega) (by omega)) (v := (fs a_.toNatClampNeg)) rfl ?_
        refine z_iast X dr_X0_exchangeBest_184 4 rfl (vin rfl (by omega) (by omega)) (ws' := [(ring, ob 5 [.int hc, g_rp, .ref rx, .ref ry, g_rr, g_rh, g_rd, g_ph, g_po]), (rx, aI G 16 fx), (wheel, ob 0 [.int cc, .ref kw, .ref ks, wX3, .int (wa + rz_6), .int (wb + rz_8), wX6]), (kw, aI G 8 fw), (ks, aI G 8 (upd fs o_.toNatClampNeg (fs a_.toNatClampNeg))), (ry, aI G 16 fy)]) rfl ?_
        refine z_run X br_X0_exchangeBest_185_186 kr_X0_exchangeBest_185_186 (lv' := [(6, .int (fs o_.toNatClampNeg)), (4, .long l_), (3, .int a_), (2, .int o_), (0, .ref wheel), (1, .ref ring)]) (st' := [.ref wheel]) rfl ?_
        refine z_get X fl_0_15 dr_X0_exchangeBest_186 2 rfl (v := .ref ks) rfl ?_
        refine z_run X br_X0_exchangeBest_189_192 kr_X0_exchangeBest_189_192 (lv' := [(6, .int (fs o_.toNatClampNeg)), (4, .long l_), (3, .int a_), (2, .int o_), (0, .ref wheel), (1, .ref ring)]) (st' := [.int (fs o_.toNatClampNeg), .int a_, .ref ks]) rfl ?_
        refine z_iast X dr_X0_exchangeBest_192 4 rfl (vin rfl (by omega) (by omega)) (ws' := [(ring, ob 5 [.int hc, g_rp, .ref rx, .ref ry, g_rr, g_rh, g_rd, g_ph, g_po]), (rx, aI G 16 fx), (wheel, ob 0 [.int cc, .ref kw, .ref ks, wX3, .int (wa + rz_6), .int (wb + rz_8), wX6]), (kw, aI G 8 fw), (ks, aI G 8 (upd (upd fs o_.toNatClampNeg (fs a_.toNatClampNeg)) a_.toNatClampNeg (fs o_.toNatClampNeg))), (ry, aI G 16 fy)]) rfl ?_
        refine z_run X br_X0_exchangeBest_193_194 kr_X0_exchangeBest_193_194 (lv' := [(6, .int (fs o_.toNatClampNeg)), (4, .long l_), (3, .int a_), (2, .int o_), (0, .ref wheel), (1, .ref ring)]) (st' := [.int 1]) rfl ?_
        refine Z.sub (lv' := []) [] rfl [2, 3, 4, 0, 1, 5] (ws' := [(wheel, ob 0 [.int cc, .ref kw, .ref ks, wX3, .int (wa + rz_6), .int (wb + rz_8), wX6]), (kw, aI G 8 fw), (ks, aI G 8 (upd (upd fs o_.toNatClampNeg (fs a_.toNatClampNeg)) a_.toNatClampNeg (fs o_.toNatClampNeg))), (ring, ob 5 [.int hc, g_rp, .ref rx, .ref ry, g_rr, g_rh, g_rd, g_ph, g_po]), (rx, aI G 16 fx), (ry, aI G 16 fy)]) rfl (by decide) ?_
        exact z_zret X rfl rfl dr_X0_exchangeBest_194 (Nat.le_of_ble_eq_true rfl) (Nat.le_of_ble_eq_true rfl) ⟨(1 : Int32), (wa + rz_6), (wb + rz_8), (upd (upd fs o_.toNatClampNeg (fs a_.toNatClampNeg)) a_.toNatClampNeg (fs o_.toNatClampNeg)), (Or.inr ⟨nxR_some ht2 (show 0 ≤ o_.toInt by omega), rfl⟩), hx_.symm, hy_.symm, rfl, rfl⟩
    ·
      refine z_run X br_X0_exchangeBest_31_37 kr_X0_exchangeBest_31_37 (lv' := [(7, .int (i_ + 1)), (6, .int i_), (4, .long l_), (3, .int a_), (2, .int o_), (0, .ref wheel), (1, .ref ring)]) (st' := []) rfl ?_
      refine zloop (σ := Int32 × Int64 × Int32 × Int32) (fun z => [(7, .int z.1), (6, .int i_), (4, .long z.2.1), (3, .int z.2.2.2), (2, .int z.2.2.1), (0, .ref wheel), (1, .ref ring)]) (fun z => []) (fun z => [(wheel, ob 0 [.int cc, .ref kw, .ref ks, wX3, .int wa, .int wb, wX6]), (kw, aI G 8 fw), (ks, aI G 8 fs), (ring, ob 5 [.int hc, g_rp, .ref rx, .ref ry, g_rr, g_rh, g_rd, g_ph, g_po]), (rx, aI G 16 fx), (ry, aI G 16 fy)]) (fun z => (i_.toInt + 1 ≤ z.1.toInt ∧ z.1.toInt ≤ cci) ∧ ((z.2.1.toInt, z.2.2.1.toInt, z.2.2.2.toInt) = rdJ (SW fw fx fy cci.toNat fs) i_.toInt.toNat z.1.toInt.toNat (rdI (SW fw fx fy cci.toNat fs) cci.toNat i_.toInt.toNat ((SZr fw fx fy cci.toNat fs), -1, -1)))) (fun z => (cci - z.1.toInt).toNat) ((i_ + 1), l_, o_, a_) ?_ ?_
      ·
        rintro ⟨j_, l2_, o2_, a2_⟩ ⟨gj, gt⟩ ih37
        dsimp only at *
        refine z_run X br_X0_exchangeBest_37_40 kr_X0_exchangeBest_37_40 (lv' := [(7, .int j_), (6, .int i_), (4, .long l2_), (3, .int a2_), (2, .int o2_), (0, .ref wheel), (1, .ref ring)]) (st' := [.ref wheel, .int j_]) rfl ?_
        refine z_get X fl_0_28 dr_X0_exchangeBest_40 0 rfl (v := .int cc) rfl ?_
        refine zc_ge X dr_X0_exchangeBest_43 (tgt := 111) (by decide) (a := j_.toInt) (b := cci) rfl hcc (fun c43_10 => ?_) (fun c43_10 => ?_)
        ·
          refine z_run X br_X0_exchangeBest_111_114 kr_X0_exchangeBest_111_114 (lv' := [(6, .int (i_ + 1)), (7, .int j_), (4, .long l2_), (3, .int a2_), (2, .int o2_), (0, .ref wheel), (1, .ref ring)]) (st' := []) rfl ?_
          refine z_goto X dr_X0_exchangeBest_114 (tgt := 22) (by decide) ?_
          refine Z.sub (lv' := [(6, .int (i_ + 1)), (4, .long l2_), (3, .int a2_), (2, .int o2_), (0, .ref wheel), (1, .ref ring)]) [0, 2, 3, 4, 5, 6] rfl [0, 1, 2, 3, 4, 5] (ws' := [(wheel, ob 0 [.int cc, .ref kw, .ref ks, wX3, .int wa, .int wb, wX6]), (kw, aI G 8 fw), (ks, aI G 8 fs), (ring, ob 5 [.int hc, g_rp, .ref rx, .ref ry, g_rr, g_rh, g_rd, g_ph, g_po]), (rx, aI G 16 fx), (ry, aI G 16 fy)]) rfl (by decide) ?_
          exact ih22 ((i_ + 1), l2_, o2_, a2_) ⟨(by dsimp only; have e : (i_ + 1).toInt = i_.toInt + 1 := tI_add rfl (show (1 : Int32).toInt = 1 from by decide) (by omega); omega), (by dsimp only; have e : (i_ + 1).toInt = i_.toInt + 1 := tI_add rfl (show (1 : Int32).toInt = 1 from by decide) (by omega); rw [e, show (i_.toInt + 1).toNat = i_.toInt.toNat + 1 by omega]; rw [show j_.toInt.toNat = cci.toNat by omega] at gt; exact gt)⟩ (by dsimp only; have e : (i_ + 1).toInt = i_.toInt + 1 := tI_add rfl (show (1 : Int32).toInt = 1 from by decide) (by omega); omega)
        ·
          refine z_run X br_X0_exchangeBest_46_47 kr_X0_exchangeBest_46_47 (lv' := [(7, .int j_), (6, .int i_), (4, .long l2_), (3, .int a2_), (2, .int o2_), (0, .ref wheel), (1, .ref ring)]) (st' := [.ref wheel]) rfl ?_
          refine z_get X fl_0_21 dr_X0_exchangeBest_47 0 rfl (v := .int wa) rfl ?_
          refine z_run X br_X0_exchangeBest_50_56 kr_X0_exchangeBest_50_56 (lv' := [(7, .int j_), (6, .int i_), (4, .long l2_), (3, .int a2_), (2, .int o2_), (0, .ref wheel), (1, .ref ring)]) (st' := [.ref ring, .int j_, .int i_, .ref wheel, .int wa]) rfl ?_
          refine z_getN X fl_0_31 dr_X0_exchangeBest_56 3 rfl (v := .ref rx) rfl ?_
          refine z_callV X k_0_57 (cr_X0_moved l G wheel cc kw ks wX3 wa wb wX6 fw fs rx fx i_ j_ i_.toInt j_.toInt rfl rfl (by omega) (by omega) (by have z := hok.1 i_.toNatClampNeg (show i_.toNatClampNeg < cci.toNat from (show i_.toInt.toNat < cci.toNat by omega)); omega) (by have z := hok.1 j_.toNatClampNeg (show j_.toNatClampNeg < cci.toNat from (show j_.toInt.toNat < cci.toNat by omega)); omega)) dr_X0_exchangeBest_59 0 rfl rfl rfl ⟨Nat.le_of_ble_eq_true rfl, Nat.le_of_ble_eq_true rfl⟩ ⟨Nat.le_of_ble_eq_true rfl, Nat.le_of_ble_eq_true rfl⟩ rfl (rest := [.int wa]) (As := [.int i_, .int j_, .ref rx]) rfl (Nat.le_of_ble_eq_true rfl) [0, 1, 2, 4] [3, 5] rfl (by decide) (wr := [(ring, ob 5 [.int hc, g_rp, .ref rx, .ref ry, g_rr, g_rh, g_rd, g_ph, g_po]), (ry, aI G 16 fy)]) rfl (by decide) (by decide) ?_
          rintro _ _ ⟨rz_11, f59_12, rfl, rfl⟩
          refine Z.at (pc' := 62) (st' := [.int rz_11, .int wa]) (ws' := [(ring, ob 5 [.int hc, g_rp, .ref rx, .ref ry, g_rr, g_rh, g_rd, g_ph, g_po]), (ry, aI G 16 fy), (wheel, ob 0 [.int cc, .ref kw, .ref ks, wX3, .int wa, .int wb, wX6]), (kw, aI G 8 fw), (ks, aI G 8 fs), (rx, aI G 16 fx)]) (kc' := 0) (ks' := 0) rfl rfl rfl rfl rfl ?_
          refine z_run X br_X0_exchangeBest_62_65 kr_X0_exchangeBest_62_65 (lv' := [(7, .int j_), (6, .int i_), (4, .long l2_), (3, .int a2_), (2, .int o2_), (0, .ref wheel), (1, .ref ring)]) (st' := [.ref wheel, .long (wa + rz_11).toInt64]) rfl ?_
          refine z_get X fl_0_25 dr_X0_exchangeBest_65 2 rfl (v := .int wb) rfl ?_
          refine z_run X br_X0_exchangeBest_68_74 kr_X0_exchangeBest_68_74 (lv' := [(7, .int j_), (6, .int i_), (4, .long l2_), (3, .int a2_), (2, .int o2_), (0, .ref wheel), (1, .ref ring)]) (st' := [.ref ring, .int j_, .int i_, .ref wheel, .int wb, .long (wa + rz_11).toInt64]) rfl ?_
          refine z_getN X fl_0_35 dr_X0_exchangeBest_74 0 rfl (v := .ref ry) rfl ?_
          refine z_callV X k_0_57 (cr_X0_moved l G wheel cc kw ks wX3 wa wb wX6 fw fs ry fy i_ j_ i_.toInt j_.toInt rfl rfl (by omega) (by omega) (by have z := hok.1 i_.toNatClampNeg (show i_.toNatClampNeg < cci.toNat from (show i_.toInt.toNat < cci.toNat by omega)); omega) (by have z := hok.1 j_.toNatClampNeg (show j_.toNatClampNeg < cci.toNat from (show j_.toInt.toNat < cci.toNat by omega)); omega)) dr_X0_exchangeBest_77 2 rfl rfl rfl ⟨Nat.le_of_ble_eq_true rfl, Nat.le_of_ble_eq_true rfl⟩ ⟨Nat.le_of_ble_eq_true rfl, Nat.le_of_ble_eq_true rfl⟩ rfl (rest := [.int wb, .long (wa + rz_11).toInt64]) (As := [.int i_, .int j_, .ref ry]) rfl (Nat.le_of_ble_eq_true rfl) [2, 3, 4, 1] [0, 5] rfl (by decide) (wr := [(ring, ob 5 [.int hc, g_rp, .ref rx, .ref ry, g_rr, g_rh, g_rd, g_ph, g_po]), (rx, aI G 16 fx)]) rfl (by decide) (by decide) ?_
          rintro _ _ ⟨rz_13, f77_14, rfl, rfl⟩
          refine Z.at (pc' := 80) (st' := [.int rz_13, .int wb, .long (wa + rz_11).toInt64]) (ws' := [(ring, ob 5 [.int hc, g_rp, .ref rx, .ref ry, g_rr, g_rh, g_rd, g_ph, g_po]), (rx, aI G 16 fx), (wheel, ob 0 [.int cc, .ref kw, .ref ks, wX3, .int wa, .int wb, wX6]), (kw, aI G 8 fw), (ks, aI G 8 fs), (ry, aI G 16 fy)]) (kc' := 0) (ks' := 0) rfl rfl rfl rfl rfl ?_
          refine z_run X br_X0_exchangeBest_80_82 kr_X0_exchangeBest_80_82 (lv' := [(7, .int j_), (6, .int i_), (4, .long l2_), (3, .int a2_), (2, .int o2_), (0, .ref wheel), (1, .ref ring)]) (st' := [.long (wb + rz_13).toInt64, .long (wa + rz_11).toInt64]) rfl ?_
          refine z_callSN X k_0_49 (cg_X10_sizeOf l G (wa + rz_11).toInt64 (wb + rz_13).toInt64) dr_X0_exchangeBest_82 ⟨Nat.le_of_ble_eq_true rfl, Nat.le_of_ble_eq_true rfl⟩ ⟨Nat.le_of_ble_eq_true rfl, Nat.le_of_ble_eq_true rfl⟩ rfl (rest := []) (As := [.long (wa + rz_11).toInt64, .long (wb + rz_13).toInt64]) rfl (Nat.le_of_ble_eq_true rfl) [] [0, 1, 2, 3, 4, 5] rfl (by decide) (wr := [(ring, ob 5 [.int hc, g_rp, .ref rx, .ref ry, g_rr, g_rh, g_rd, g_ph, g_po]), (rx, aI G 16 fx), (wheel, ob 0 [.int cc, .ref kw, .ref ks, wX3, .int wa, .int wb, wX6]), (kw, aI G 8 fw), (ks, aI G 8 fs), (ry, aI G 16 fy)]) rfl (by decide) (by decide) ?_
          rintro _ _ ⟨rz_15, f82_16, rfl, rfl⟩
          refine Z.at (pc' := 85) (st' := [.long rz_15]) (ws' := [(ring, ob 5 [.int hc, g_rp, .ref rx, .ref ry, g_rr, g_rh, g_rd, g_ph, g_po]), (rx, aI G 16 fx), (wheel, ob 0 [.int cc, .ref kw, .ref ks, wX3, .int wa, .int wb, wX6]), (kw, aI G 8 fw), (ks, aI G 8 fs), (ry, aI G 16 fy)]) (kc' := 0) (ks' := 0) rfl rfl rfl rfl rfl ?_
          have hx_ : cS fw fx (swpR fs i_.toNatClampNeg j_.toNatClampNeg) cci.toNat = wa + rz_11 := by rw [cS_swp (show i_.toNatClampNeg ≠ j_.toNatClampNeg from (show i_.toInt.toNat ≠ j_.toInt.toNat by omega)) (show i_.toNatClampNeg < cci.toNat from (show i_.toInt.toNat < cci.toNat by omega)) (show j_.toNatClampNeg < cci.toNat from (show j_.toInt.toNat < cci.toNat by omega)), ← hx0, f59_12]
          have hy_ : cS fw fy (swpR fs i_.toNatClampNeg j_.toNatClampNeg) cci.toNat = wb + rz_13 := by rw [cS_swp (show i_.toNatClampNeg ≠ j_.toNatClampNeg from (show i_.toInt.toNat ≠ j_.toInt.toNat by omega)) (show i_.toNatClampNeg < cci.toNat from (show i_.toInt.toNat < cci.toNat by omega)) (show j_.toNatClampNeg < cci.toNat from (show j_.toInt.toNat < cci.toNat by omega)), ← hy0, f77_14]
          have hz_ : rz_15.toInt = (SW fw fx fy cci.toNat fs) i_.toInt.toNat j_.toInt.toNat := by show _ = (sz (cS fw fx (swpR fs i_.toNatClampNeg j_.toNatClampNeg) cci.toNat) (cS fw fy (swpR fs i_.toNatClampNeg j_.toNatClampNeg) cci.toNat)).toInt; rw [hx_, hy_, f82_16]; rfl
          have hii_ : ((i_.toInt.toNat : Nat) : Int) = i_.toInt := by omega
          have hjj_ : ((j_.toInt.toNat : Nat) : Int) = j_.toInt := by omega
          refine z_run X br_X0_exchangeBest_85_91 kr_X0_exchangeBest_85_91 (lv' := [(8, .long rz_15), (7, .int j_), (6, .int i_), (4, .long l2_), (3, .int a2_), (2, .int o2_), (0, .ref wheel), (1, .ref ring)]) (st' := [.long l2_, .long rz_15]) rfl ?_
          refine zl_ge X dr_X0_exchangeBest_91 dr_X0_exchangeBest_92 (tgt := 105) (by decide) (a := rz_15.toInt) (b := l2_.toInt) rfl rfl (fun c91_17 => ?_) (fun c91_17 => ?_)
          ·
            refine z_run X br_X0_exchangeBest_105_108 kr_X0_exchangeBest_105_108 (lv' := [(7, .int (j_ + 1)), (8, .long rz_15), (6, .int i_), (4, .long l2_), (3, .int a2_), (2, .int o2_), (0, .ref wheel), (1, .ref ring)]) (st' := []) rfl ?_
            refine z_goto X dr_X0_exchangeBest_108 (tgt := 37) (by decide) ?_
            refine Z.sub (lv' := [(7, .int (j_ + 1)), (6, .int i_), (4, .long l2_), (3, .int a2_), (2, .int o2_), (0, .ref wheel), (1, .ref ring)]) [0, 2, 3, 4, 5, 6, 7] rfl [2, 3, 4, 0, 1, 5] (ws' := [(wheel, ob 0 [.int cc, .ref kw, .ref ks, wX3, .int wa, .int wb, wX6]), (kw, aI G 8 fw), (ks, aI G 8 fs), (ring, ob 5 [.int hc, g_rp, .ref rx, .ref ry, g_rr, g_rh, g_rd, g_ph, g_po]), (rx, aI G 16 fx), (ry, aI G 16 fy)]) rfl (by decide) ?_
            exact ih37 ((j_ + 1), l2_, o2_, a2_) ⟨(by dsimp only; have e : (j_ + 1).toInt = j_.toInt + 1 := tI_add rfl (show (1 : Int32).toInt = 1 from by decide) (by omega); omega), (by dsimp only; have e : (j_ + 1).toInt = j_.toInt + 1 := tI_add rfl (show (1 : Int32).toInt = 1 from by decide) (by omega); rw [e, show (j_.toInt + 1).toNat = j_.toInt.toNat + 1 by omega]; exact (rdJ_n gt (by rw [← hz_]; show ¬ _ < l2_.toInt; omega)).symm)⟩ (by dsimp only; have e : (j_ + 1).toInt = j_.toInt + 1 := tI_add rfl (show (1 : Int32).toInt = 1 from by decide) (by omega); omega)
          ·
            refine z_run X br_X0_exchangeBest_95_108 kr_X0_exchangeBest_95_108 (lv' := [(7, .int (j_ + 1)), (3, .int j_), (2, .int i_), (4, .long rz_15), (8, .long rz_15), (6, .int i_), (0, .ref wheel), (1, .ref ring)]) (st' := []) rfl ?_
            refine z_goto X dr_X0_exchangeBest_108 (tgt := 37) (by decide) ?_
            refine Z.sub (lv' := [(7, .int (j_ + 1)), (6, .int i_), (4, .long rz_15), (3, .int j_), (2, .int i_), (0, .ref wheel), (1, .ref ring)]) [0, 5, 3, 1, 2, 6, 7] rfl [2, 3, 4, 0, 1, 5] (ws' := [(wheel, ob 0 [.int cc, .ref kw, .ref ks, wX3, .int wa, .int wb, wX6]), (kw, aI G 8 fw), (ks, aI G 8 fs), (ring, ob 5 [.int hc, g_rp, .ref rx, .ref ry, g_rr, g_rh, g_rd, g_ph, g_po]), (rx, aI G 16 fx), (ry, aI G 16 fy)]) rfl (by decide) ?_
            exact ih37 ((j_ + 1), rz_15, i_, j_) ⟨(by dsimp only; have e : (j_ + 1).toInt = j_.toInt + 1 := tI_add rfl (show (1 : Int32).toInt = 1 from by decide) (by omega); omega), (by dsimp only; have e : (j_ + 1).toInt = j_.toInt + 1 := tI_add rfl (show (1 : Int32).toInt = 1 from by decide) (by omega); rw [e, show (j_.toInt + 1).toNat = j_.toInt.toNat + 1 by omega, rdJ_y gt (show i_.toInt.toNat < j_.toInt.toNat by omega) (by rw [← hz_]; show _ < l2_.toInt; omega), ← hz_, hii_, hjj_])⟩ (by dsimp only; have e : (j_ + 1).toInt = j_.toInt + 1 := tI_add rfl (show (1 : Int32).toInt = 1 from by decide) (by omega); omega)
      · exact ⟨(by dsimp only; have e : (i_ + 1).toInt = i_.toInt + 1 := tI_add rfl (show (1 : Int32).toInt = 1 from by decide) (by omega); omega), (by dsimp only; have e : (i_ + 1).toInt = i_.toInt + 1 := tI_add rfl (show (1 : Int32).toInt = 1 from by decide) (by omega); rw [e, rdJ_start (show (i_.toInt + 1).toNat ≤ i_.toInt.toNat + 1 by omega)]; exact ht)⟩
  · exact ⟨(by dsimp only; have e0 : (0 : Int32).toInt = 0 := (by decide); omega), (by dsimp only; have e0 : (0 : Int32).toInt = 0 := (by decide); rw [e0, show (-1 : Int32).toInt = -1 from by decide, hl0_]; rfl)⟩

set_option maxHeartbeats 4000000 in
set_option maxRecDepth 100000 in
theorem cr_X10_cogsHavePlacesR (l : Launch) (G : KG) (x : Nat) (told : Nat) (x_reader : Value) (ring : Nat) (x_speeds : Value) (wheel : Nat) (x_trials : Value) (x_span : Value) (x_search : Value) (x_kept : Value) (x_crosses : Value) (x_trueMasses : Value) (x_thought : Value) (x_up : Value) (x_low : Value) (x_fits : Value) (x_pulls : Value) (cc : Int32) (kw : Nat) (ks : Nat) (wX3 : Value) (wa : Int32) (wb : Int32) (wX6 : Value) (fw : Nat → Int32) (fs : Nat → Int32) (hc : Int32) (g_rp : Value) (rx : Nat) (ry : Nat) (g_rr : Value) (g_rh : Value) (g_rd : Value) (g_ph : Value) (g_po : Value) (fx : Nat → Int32) (fy : Nat → Int32) (cci : Int) (hci : Int) (hcc : cc.toInt = cci) (hhc : hc.toInt = hci) : Ct l G yX10_cogsHavePlaces cX10_cogsHavePlaces 1 (some .boolean) { frames := 0, cells := 0, slots := 0, locals := 0 } [.ref x] [(x, ob 10 [.ref told, x_reader, .ref ring, x_speeds, .ref wheel, x_trials, x_span, x_search, x_kept, x_crosses, x_trueMasses, x_thought, x_up, x_low, x_fits, x_pulls]), (wheel, ob 0 [.int cc, .ref kw, .ref ks, wX3, .int wa, .int wb, wX6]), (kw, aI G 8 fw), (ks, aI G 8 fs), (ring, ob 5 [.int hc, g_rp, .ref rx, .ref ry, g_rr, g_rh, g_rd, g_ph, g_po]), (rx, aI G 16 fx), (ry, aI G 16 fy)] (fun r w1 => r = some (.int (zb (decide (0 < cci ∧ cci ≤ hci)))) ∧ w1 = [(x, ob 10 [.ref told, x_reader, .ref ring, x_speeds, .ref wheel, x_trials, x_span, x_search, x_kept, x_crosses, x_trueMasses, x_thought, x_up, x_low, x_fits, x_pulls]), (wheel, ob 0 [.int cc, .ref kw, .ref ks, wX3, .int wa, .int wb, wX6]), (kw, aI G 8 fw), (ks, aI G 8 fs), (ring, ob 5 [.int hc, g_rp, .ref rx, .ref ry, g_rr, g_rh, g_rd, g_ph, g_po]), (rx, aI G 16 fx), (ry, aI G 16 fy)]) := by
  refine ct_of [(0, .ref x)] (by decide) (Nat.le_of_ble_eq_true rfl) rfl ?_
  intro p0 e0 s0 m0 args0 below0 meth0 c0 A X
  refine z_run X bh_X10_cogsHavePlaces_0_1 kh_X10_cogsHavePlaces_0_1 (lv' := [(0, .ref x)]) (st' := [.ref x]) rfl ?_
  refine z_get X fl_10_40 dh_X10_cogsHavePlaces_1 0 rfl (v := .ref wheel) rfl ?_
  refine z_getN X fl_10_467 dh_X10_cogsHavePlaces_4 1 rfl (v := .int cc) rfl ?_
  refine zi_le X dh_X10_cogsHavePlaces_7 (tgt := 31) (by decide) (a := cci) hcc (fun c7_1 => ?_) (fun c7_1 => ?_)
  ·
    refine z_run X bh_X10_cogsHavePlaces_31_32 kh_X10_cogsHavePlaces_31_32 (lv' := [(0, .ref x)]) (st' := [.int 0]) rfl ?_
    exact z_zret X rfl rfl dh_X10_cogsHavePlaces_32 (Nat.le_of_ble_eq_true rfl) (Nat.le_of_ble_eq_true rfl) ⟨(congrArg (fun z => some (Value.int z)) (zb_f (by omega)).symm), rfl⟩
  ·
    refine z_run X bh_X10_cogsHavePlaces_10_11 kh_X10_cogsHavePlaces_10_11 (lv' := [(0, .ref x)]) (st' := [.ref x]) rfl ?_
    refine z_get X fl_10_40 dh_X10_cogsHavePlaces_11 0 rfl (v := .ref wheel) rfl ?_
    refine z_getN X fl_10_467 dh_X10_cogsHavePlaces_14 1 rfl (v := .int cc) rfl ?_
    refine z_run X bh_X10_cogsHavePlaces_17_18 kh_X10_cogsHavePlaces_17_18 (lv' := [(0, .ref x)]) (st' := [.ref x, .int cc]) rfl ?_
    refine z_get X fl_10_26 dh_X10_cogsHavePlaces_18 0 rfl (v := .ref ring) rfl ?_
    refine z_getN X fl_10_136 dh_X10_cogsHavePlaces_21 4 rfl (v := .int hc) rfl ?_
    refine zc_gt X dh_X10_cogsHavePlaces_24 (tgt := 31) (by decide) (a := cci) (b := hci) hcc hhc (fun c24_2 => ?_) (fun c24_2 => ?_)
    ·
      refine z_run X bh_X10_cogsHavePlaces_31_32 kh_X10_cogsHavePlaces_31_32 (lv' := [(0, .ref x)]) (st' := [.int 0]) rfl ?_
      exact z_zret X rfl rfl dh_X10_cogsHavePlaces_32 (Nat.le_of_ble_eq_true rfl) (Nat.le_of_ble_eq_true rfl) ⟨(congrArg (fun z => some (Value.int z)) (zb_f (by omega)).symm), rfl⟩
    ·
      refine z_run X bh_X10_cogsHavePlaces_27_28 kh_X10_cogsHavePlaces_27_28 (lv' := [(0, .ref x)]) (st' := [.int 1]) rfl ?_
      refine z_goto X dh_X10_cogsHavePlaces_28 (tgt := 32) (by decide) ?_
      exact z_zret X rfl rfl dh_X10_cogsHavePlaces_32 (Nat.le_of_ble_eq_true rfl) (Nat.le_of_ble_eq_true rfl) ⟨(congrArg (fun z => some (Value.int z)) (zb_t (by omega)).symm), rfl⟩

theorem dr_X10_round_1 : decode cX10_round 1 = .ok (.invokevirtual 452, 3) := by decide +kernel
theorem dr_X10_round_4 : decode cX10_round 4 = .ok (.ifCond .ne 5, 3) := by decide +kernel
theorem dr_X10_round_10 : decode cX10_round 10 = .ok (.getfield 40, 3) := by decide +kernel
theorem dr_X10_round_14 : decode cX10_round 14 = .ok (.getfield 26, 3) := by decide +kernel
theorem dr_X10_round_17 : decode cX10_round 17 = .ok (.invokevirtual 456, 3) := by decide +kernel
theorem dr_X10_round_23 : decode cX10_round 23 = .ok (.ldc_w 473, 3) := by decide +kernel
theorem dr_X10_round_26 : decode cX10_round 26 = .ok (.if_icmp .ge 23, 3) := by decide +kernel
theorem dr_X10_round_50 : decode cX10_round 50 = .ok (.getfield 12, 3) := by decide +kernel
theorem dr_X10_round_53 : decode cX10_round 53 = .ok (.invokevirtual 180, 3) := by decide +kernel
theorem dr_X10_round_60 : decode cX10_round 60 = .ok (.getfield 40, 3) := by decide +kernel
theorem dr_X10_round_63 : decode cX10_round 63 = .ok (.getfield 467, 3) := by decide +kernel
theorem dr_X10_round_66 : decode cX10_round 66 = .ok (.if_icmp .ge 26, 3) := by decide +kernel
theorem dr_X10_round_93 : decode cX10_round 93 = .ok (.getfield 12, 3) := by decide +kernel
theorem dr_X10_round_97 : decode cX10_round 97 = .ok (.getfield 40, 3) := by decide +kernel
theorem dr_X10_round_100 : decode cX10_round 100 = .ok (.getfield 460, 3) := by decide +kernel
theorem dr_X10_round_105 : decode cX10_round 105 = .ok (.getfield 40, 3) := by decide +kernel
theorem dr_X10_round_108 : decode cX10_round 108 = .ok (.getfield 462, 3) := by decide +kernel
theorem dr_X10_round_112 : decode cX10_round 112 = .ok (.invokestatic 187, 3) := by decide +kernel
theorem dr_X10_round_115 : decode cX10_round 115 = .ok (.invokevirtual 183, 3) := by decide +kernel
theorem dr_X10_round_119 : decode cX10_round 119 = .ok (.ireturn, 1) := by decide +kernel
theorem dr_X10_round_70 : decode cX10_round 70 = .ok (.getfield 12, 3) := by decide +kernel
theorem dr_X10_round_74 : decode cX10_round 74 = .ok (.getfield 40, 3) := by decide +kernel
theorem dr_X10_round_77 : decode cX10_round 77 = .ok (.getfield 478, 3) := by decide +kernel
theorem dr_X10_round_81 : decode cX10_round 81 = .ok (.iaload, 1) := by decide +kernel
theorem dr_X10_round_83 : decode cX10_round 83 = .ok (.invokevirtual 183, 3) := by decide +kernel
theorem dr_X10_round_89 : decode cX10_round 89 = .ok (.goto (-31), 3) := by decide +kernel
theorem dr_X10_round_30 : decode cX10_round 30 = .ok (.getfield 40, 3) := by decide +kernel
theorem dr_X10_round_34 : decode cX10_round 34 = .ok (.getfield 26, 3) := by decide +kernel
theorem dr_X10_round_37 : decode cX10_round 37 = .ok (.invokevirtual 474, 3) := by decide +kernel
theorem dr_X10_round_40 : decode cX10_round 40 = .ok (.ifCond .eq 9, 3) := by decide +kernel
theorem dr_X10_round_46 : decode cX10_round 46 = .ok (.goto (-24), 3) := by decide +kernel
theorem dr_X10_round_8 : decode cX10_round 8 = .ok (.ireturn, 1) := by decide +kernel
abbrev br_X10_round_0_1 : ZB := [(.aload_n 0, .null)]
theorem kr_X10_round_0_1 : zchk cX10_round br_X10_round_0_1 0 = true ∧ zpc br_X10_round_0_1 0 = 1 := ⟨by decide +kernel, rfl⟩
abbrev br_X10_round_9_10 : ZB := [(.aload_n 0, .null)]
theorem kr_X10_round_9_10 : zchk cX10_round br_X10_round_9_10 9 = true ∧ zpc br_X10_round_9_10 9 = 10 := ⟨by decide +kernel, rfl⟩
abbrev br_X10_round_13_14 : ZB := [(.aload_n 0, .null)]
theorem kr_X10_round_13_14 : zchk cX10_round br_X10_round_13_14 13 = true ∧ zpc br_X10_round_13_14 13 = 14 := ⟨by decide +kernel, rfl⟩
abbrev br_X10_round_20_22 : ZB := [(.iconst 0, .int 0), (.istore_n 1, .null)]
theorem kr_X10_round_20_22 : zchk cX10_round br_X10_round_20_22 20 = true ∧ zpc br_X10_round_20_22 20 = 22 := ⟨by decide +kernel, rfl⟩
abbrev br_X10_round_22_23 : ZB := [(.iload_n 1, .null)]
theorem kr_X10_round_22_23 : zchk cX10_round br_X10_round_22_23 22 = true ∧ zpc br_X10_round_22_23 22 = 23 := ⟨by decide +kernel, rfl⟩
abbrev br_X10_round_49_50 : ZB := [(.aload_n 0, .null)]
theorem kr_X10_round_49_50 : zchk cX10_round br_X10_round_49_50 49 = true ∧ zpc br_X10_round_49_50 49 = 50 := ⟨by decide +kernel, rfl⟩
abbrev br_X10_round_56_58 : ZB := [(.iconst 0, .int 0), (.istore_n 2, .null)]
theorem kr_X10_round_56_58 : zchk cX10_round br_X10_round_56_58 56 = true ∧ zpc br_X10_round_56_58 56 = 58 := ⟨by decide +kernel, rfl⟩
abbrev br_X10_round_58_60 : ZB := [(.iload_n 2, .null), (.aload_n 0, .null)]
theorem kr_X10_round_58_60 : zchk cX10_round br_X10_round_58_60 58 = true ∧ zpc br_X10_round_58_60 58 = 60 := ⟨by decide +kernel, rfl⟩
abbrev br_X10_round_92_93 : ZB := [(.aload_n 0, .null)]
theorem kr_X10_round_92_93 : zchk cX10_round br_X10_round_92_93 92 = true ∧ zpc br_X10_round_92_93 92 = 93 := ⟨by decide +kernel, rfl⟩
abbrev br_X10_round_96_97 : ZB := [(.aload_n 0, .null)]
theorem kr_X10_round_96_97 : zchk cX10_round br_X10_round_96_97 96 = true ∧ zpc br_X10_round_96_97 96 = 97 := ⟨by decide +kernel, rfl⟩
abbrev br_X10_round_103_105 : ZB := [(.i2l, .null), (.aload_n 0, .null)]
theorem kr_X10_round_103_105 : zchk cX10_round br_X10_round_103_105 103 = true ∧ zpc br_X10_round_103_105 103 = 105 := ⟨by decide +kernel, rfl⟩
abbrev br_X10_round_111_112 : ZB := [(.i2l, .null)]
theorem kr_X10_round_111_112 : zchk cX10_round br_X10_round_111_112 111 = true ∧ zpc br_X10_round_111_112 111 = 112 := ⟨by decide +kernel, rfl⟩
abbrev br_X10_round_118_119 : ZB := [(.iload_n 1, .null)]
theorem kr_X10_round_118_119 : zchk cX10_round br_X10_round_118_119 118 = true ∧ zpc br_X10_round_118_119 118 = 119 := ⟨by decide +kernel, rfl⟩
abbrev br_X10_round_69_70 : ZB := [(.aload_n 0, .null)]
theorem kr_X10_round_69_70 : zchk cX10_round br_X10_round_69_70 69 = true ∧ zpc br_X10_round_69_70 69 = 70 := ⟨by decide +kernel, rfl⟩
abbrev br_X10_round_73_74 : ZB := [(.aload_n 0, .null)]
theorem kr_X10_round_73_74 : zchk cX10_round br_X10_round_73_74 73 = true ∧ zpc br_X10_round_73_74 73 = 74 := ⟨by decide +kernel, rfl⟩
abbrev br_X10_round_80_81 : ZB := [(.iload_n 2, .null)]
theorem kr_X10_round_80_81 : zchk cX10_round br_X10_round_80_81 80 = true ∧ zpc br_X10_round_80_81 80 = 81 := ⟨by decide +kernel, rfl⟩
abbrev br_X10_round_82_83 : ZB := [(.i2l, .null)]
theorem kr_X10_round_82_83 : zchk cX10_round br_X10_round_82_83 82 = true ∧ zpc br_X10_round_82_83 82 = 83 := ⟨by decide +kernel, rfl⟩
abbrev br_X10_round_86_89 : ZB := [(.iinc 2 1, .int 1)]
theorem kr_X10_round_86_89 : zchk cX10_round br_X10_round_86_89 86 = true ∧ zpc br_X10_round_86_89 86 = 89 := ⟨by decide +kernel, rfl⟩
abbrev br_X10_round_29_30 : ZB := [(.aload_n 0, .null)]
theorem kr_X10_round_29_30 : zchk cX10_round br_X10_round_29_30 29 = true ∧ zpc br_X10_round_29_30 29 = 30 := ⟨by decide +kernel, rfl⟩
abbrev br_X10_round_33_34 : ZB := [(.aload_n 0, .null)]
theorem kr_X10_round_33_34 : zchk cX10_round br_X10_round_33_34 33 = true ∧ zpc br_X10_round_33_34 33 = 34 := ⟨by decide +kernel, rfl⟩
abbrev br_X10_round_43_46 : ZB := [(.iinc 1 1, .int 1)]
theorem kr_X10_round_43_46 : zchk cX10_round br_X10_round_43_46 43 = true ∧ zpc br_X10_round_43_46 43 = 46 := ⟨by decide +kernel, rfl⟩
abbrev br_X10_round_7_8 : ZB := [(.iconst (-1), .int (-1))]
theorem kr_X10_round_7_8 : zchk cX10_round br_X10_round_7_8 7 = true ∧ zpc br_X10_round_7_8 7 = 8 := ⟨by decide +kernel, rfl⟩
set_option maxHeartbeats 4000000 in
set_option maxRecDepth 100000 in
theorem cr_X10_round (l : Launch) (G : KG) (x : Nat) (told : Nat) (x_reader : Value) (ring : Nat) (x_speeds : Value) (wheel : Nat) (x_trials : Value) (x_span : Value) (x_search : Value) (x_kept : Value) (x_crosses : Value) (x_trueMasses : Value) (x_thought : Value) (x_up : Value) (x_low : Value) (x_fits : Value) (x_pulls : Value) (tn : Nat) (tl : Int32) (fn : Nat → Int64) (cc : Int32) (kw : Nat) (ks : Nat) (wX3 : Value) (wa : Int32) (wb : Int32) (wX6 : Value) (fw : Nat → Int32) (fs : Nat → Int32) (hc : Int32) (g_rp : Value) (rx : Nat) (ry : Nat) (g_rr : Value) (g_rh : Value) (g_rd : Value) (g_ph : Value) (g_po : Value) (fx : Nat → Int32) (fy : Nat → Int32) (cci : Int) (hci : Int) (tli : Int) (hcc : cc.toInt = cci) (hhc : hc.toInt = hci) (htl : tl.toInt = tli) (hc0 : 0 ≤ hci ∧ hci ≤ 16) (hcb : 0 ≤ cci ∧ cci ≤ 8) (ht16 : 0 ≤ tli ∧ tli ≤ 16) : Ct l G yX10_round cX10_round 3 (some .int) { frames := 2, cells := 0, slots := 0, locals := 52 } [.ref x] [(x, ob 10 [.ref told, x_reader, .ref ring, x_speeds, .ref wheel, x_trials, x_span, x_search, x_kept, x_crosses, x_trueMasses, x_thought, x_up, x_low, x_fits, x_pulls]), (told, ob 8 [.ref tn, .int tl]), (tn, aJ G 16 fn), (wheel, ob 0 [.int cc, .ref kw, .ref ks, wX3, .int wa, .int wb, wX6]), (kw, aI G 8 fw), (ks, aI G 8 fs), (ring, ob 5 [.int hc, g_rp, .ref rx, .ref ry, g_rr, g_rh, g_rd, g_ph, g_po]), (rx, aI G 16 fx), (ry, aI G 16 fy)] (fun r w1 => ∃ (rz : Int32), ∃ (a2 : Int32), ∃ (b2 : Int32), ∃ (g2 : Nat → Int32), ∃ (tl2 : Int32), ∃ (fn2 : Nat → Int64), (RdE fw fx fy cci hci rz) ∧ r = some (.int rz) ∧ w1 = [(x, ob 10 [.ref told, x_reader, .ref ring, x_speeds, .ref wheel, x_trials, x_span, x_search, x_kept, x_crosses, x_trueMasses, x_thought, x_up, x_low, x_fits, x_pulls]), (told, ob 8 [.ref tn, .int tl2]), (tn, aJ G 16 fn2), (wheel, ob 0 [.int cc, .ref kw, .ref ks, wX3, .int a2, .int b2, wX6]), (kw, aI G 8 fw), (ks, aI G 8 g2), (ring, ob 5 [.int hc, g_rp, .ref rx, .ref ry, g_rr, g_rh, g_rd, g_ph, g_po]), (rx, aI G 16 fx), (ry, aI G 16 fy)]) := by
  refine ct_of [(0, .ref x)] (by decide) (Nat.le_of_ble_eq_true rfl) rfl ?_
  intro p0 e0 s0 m0 args0 below0 meth0 c0 A X
  refine z_run X br_X10_round_0_1 kr_X10_round_0_1 (lv' := [(0, .ref x)]) (st' := [.ref x]) rfl ?_
  refine z_callV X k_10_452 (cr_X10_cogsHavePlacesR l G x told x_reader ring x_speeds wheel x_trials x_span x_search x_kept x_crosses x_trueMasses x_thought x_up x_low x_fits x_pulls cc kw ks wX3 wa wb wX6 fw fs hc g_rp rx ry g_rr g_rh g_rd g_ph g_po fx fy cci hci hcc hhc) dr_X10_round_1 0 rfl rfl rfl ⟨Nat.le_of_ble_eq_true rfl, Nat.le_of_ble_eq_true rfl⟩ ⟨Nat.le_of_ble_eq_true rfl, Nat.le_of_ble_eq_true rfl⟩ rfl (rest := []) (As := []) rfl (Nat.le_of_ble_eq_true rfl) [0, 3, 4, 5, 6, 7, 8] [1, 2] rfl (by decide) (wr := [(told, ob 8 [.ref tn, .int tl]), (tn, aJ G 16 fn)]) rfl (by decide) (by decide) ?_
  rintro _ _ ⟨rfl, rfl⟩
  refine Z.at (pc' := 4) (st' := [.int (zb (decide (0 < cci ∧ cci ≤ hci)))]) (ws' := [(told, ob 8 [.ref tn, .int tl]), (tn, aJ G 16 fn), (x, ob 10 [.ref told, x_reader, .ref ring, x_speeds, .ref wheel, x_trials, x_span, x_search, x_kept, x_crosses, x_trueMasses, x_thought, x_up, x_low, x_fits, x_pulls]), (wheel, ob 0 [.int cc, .ref kw, .ref ks, wX3, .int wa, .int wb, wX6]), (kw, aI G 8 fw), (ks, aI G 8 fs), (ring, ob 5 [.int hc, g_rp, .ref rx, .ref ry, g_rr, g_rh, g_rd, g_ph, g_po]), (rx, aI G 16 fx), (ry, aI G 16 fy)]) (kc' := 0) (ks' := 0) rfl rfl rfl rfl rfl ?_
  refine zi_ne_zb X dr_X10_round_4 (tgt := 9) (by decide) (fun c4_1 => ?_) (fun c4_1 => ?_)
  ·
    refine z_run X br_X10_round_9_10 kr_X10_round_9_10 (lv' := [(0, .ref x)]) (st' := [.ref x]) rfl ?_
    refine z_get X fl_10_40 dr_X10_round_10 2 rfl (v := .ref wheel) rfl ?_
    refine z_run X br_X10_round_13_14 kr_X10_round_13_14 (lv' := [(0, .ref x)]) (st' := [.ref x, .ref wheel]) rfl ?_
    refine z_get X fl_10_26 dr_X10_round_14 2 rfl (v := .ref ring) rfl ?_
    refine z_callV X k_10_456 (ch_X0_seatAsTold l G wheel cc kw ks wX3 wa wb wX6 fw fs ring hc g_rp rx ry g_rr g_rh g_rd g_ph g_po fx fy cci hcc (by omega)) dr_X10_round_17 3 rfl rfl rfl ⟨Nat.le_of_ble_eq_true rfl, Nat.le_of_ble_eq_true rfl⟩ ⟨Nat.le_of_ble_eq_true rfl, Nat.le_of_ble_eq_true rfl⟩ rfl (rest := []) (As := [.ref ring]) rfl (Nat.le_of_ble_eq_true rfl) [3, 4, 5, 6, 7, 8] [0, 1, 2] rfl (by decide) (wr := [(told, ob 8 [.ref tn, .int tl]), (tn, aJ G 16 fn), (x, ob 10 [.ref told, x_reader, .ref ring, x_speeds, .ref wheel, x_trials, x_span, x_search, x_kept, x_crosses, x_trueMasses, x_thought, x_up, x_low, x_fits, x_pulls])]) rfl (by decide) (by decide) ?_
    rintro _ _ ⟨a2_2, b2_3, g2_4, f17_5, f17_6, f17_7, rfl, rfl⟩
    refine Z.at (pc' := 20) (st' := []) (ws' := [(told, ob 8 [.ref tn, .int tl]), (tn, aJ G 16 fn), (x, ob 10 [.ref told, x_reader, .ref ring, x_speeds, .ref wheel, x_trials, x_span, x_search, x_kept, x_crosses, x_trueMasses, x_thought, x_up, x_low, x_fits, x_pulls]), (wheel, ob 0 [.int cc, .ref kw, .ref ks, wX3, .int a2_2, .int b2_3, wX6]), (kw, aI G 8 fw), (ks, aI G 8 g2_4), (ring, ob 5 [.int hc, g_rp, .ref rx, .ref ry, g_rr, g_rh, g_rd, g_ph, g_po]), (rx, aI G 16 fx), (ry, aI G 16 fy)]) (kc' := 0) (ks' := 0) rfl rfl rfl rfl rfl ?_
    refine z_run X br_X10_round_20_22 kr_X10_round_20_22 (lv' := [(1, .int 0), (0, .ref x)]) (st' := []) rfl ?_
    refine zloop (σ := Int32 × Int32 × Int32 × (Nat → Int32)) (fun z => [(1, .int z.1), (0, .ref x)]) (fun z => []) (fun z => [(told, ob 8 [.ref tn, .int tl]), (tn, aJ G 16 fn), (x, ob 10 [.ref told, x_reader, .ref ring, x_speeds, .ref wheel, x_trials, x_span, x_search, x_kept, x_crosses, x_trueMasses, x_thought, x_up, x_low, x_fits, x_pulls]), (wheel, ob 0 [.int cc, .ref kw, .ref ks, wX3, .int z.2.1, .int z.2.2.1, wX6]), (kw, aI G 8 fw), (ks, aI G 8 z.2.2.2), (ring, ob 5 [.int hc, g_rp, .ref rx, .ref ry, g_rr, g_rh, g_rd, g_ph, g_po]), (rx, aI G 16 fx), (ry, aI G 16 fy)]) (fun z => (0 ≤ z.1.toInt ∧ z.1.toInt ≤ 1000000) ∧ (itr (nxR fw fx fy cci.toNat) g2_4 z.1.toInt.toNat = some z.2.2.2) ∧ (OKS z.2.2.2 cci.toNat) ∧ (z.2.1 = cS fw fx z.2.2.2 cci.toNat) ∧ (z.2.2.1 = cS fw fy z.2.2.2 cci.toNat)) (fun z => (1000000 - z.1.toInt).toNat) (0, a2_2, b2_3, g2_4) ?_ ?_
    ·
      rintro ⟨n_, a_, b_, g⟩ ⟨hi, hk, hg, ha, hb⟩ ih22
      dsimp only at *
      refine z_run X br_X10_round_22_23 kr_X10_round_22_23 (lv' := [(1, .int n_), (0, .ref x)]) (st' := [.int n_]) rfl ?_
      refine z_ldcw X dr_X10_round_23 cn_10_473 ?_
      refine zc_ge X dr_X10_round_26 (tgt := 49) (by decide) (a := n_.toInt) (b := 1000000) rfl (show (1000000 : Int32).toInt = 1000000 from by decide) (fun c26_8 => ?_) (fun c26_8 => ?_)
      ·
        refine z_run X br_X10_round_49_50 kr_X10_round_49_50 (lv' := [(1, .int n_), (0, .ref x)]) (st' := [.ref x]) rfl ?_
        refine z_get X fl_10_12 dr_X10_round_50 2 rfl (v := .ref told) rfl ?_
        refine z_callV X k_10_180 (ch_X8_start l G told tn tl fn) dr_X10_round_53 0 rfl rfl rfl ⟨Nat.le_of_ble_eq_true rfl, Nat.le_of_ble_eq_true rfl⟩ ⟨Nat.le_of_ble_eq_true rfl, Nat.le_of_ble_eq_true rfl⟩ rfl (rest := []) (As := []) rfl (Nat.le_of_ble_eq_true rfl) [0, 1] [2, 3, 4, 5, 6, 7, 8] rfl (by decide) (wr := [(x, ob 10 [.ref told, x_reader, .ref ring, x_speeds, .ref wheel, x_trials, x_span, x_search, x_kept, x_crosses, x_trueMasses, x_thought, x_up, x_low, x_fits, x_pulls]), (wheel, ob 0 [.int cc, .ref kw, .ref ks, wX3, .int a_, .int b_, wX6]), (kw, aI G 8 fw), (ks, aI G 8 g), (ring, ob 5 [.int hc, g_rp, .ref rx, .ref ry, g_rr, g_rh, g_rd, g_ph, g_po]), (rx, aI G 16 fx), (ry, aI G 16 fy)]) rfl (by decide) (by decide) ?_
        rintro _ _ ⟨rfl, rfl⟩
        refine Z.at (pc' := 56) (st' := []) (ws' := [(x, ob 10 [.ref told, x_reader, .ref ring, x_speeds, .ref wheel, x_trials, x_span, x_search, x_kept, x_crosses, x_trueMasses, x_thought, x_up, x_low, x_fits, x_pulls]), (wheel, ob 0 [.int cc, .ref kw, .ref ks, wX3, .int a_, .int b_, wX6]), (kw, aI G 8 fw), (ks, aI G 8 g), (ring, ob 5 [.int hc, g_rp, .ref rx, .ref ry, g_rr, g_rh, g_rd, g_ph, g_po]), (rx, aI G 16 fx), (ry, aI G 16 fy), (told, ob 8 [.ref tn, .int 0]), (tn, aJ G 16 fn)]) (kc' := 0) (ks' := 0) rfl rfl rfl rfl rfl ?_
        refine z_run X br_X10_round_56_58 kr_X10_round_56_58 (lv' := [(2, .int 0), (1, .int n_), (0, .ref x)]) (st' := []) rfl ?_
        refine zloop (σ := Int32 × Int32 × (Nat → Int64)) (fun z => [(2, .int z.1), (1, .int n_), (0, .ref x)]) (fun z => []) (fun z => [(x, ob 10 [.ref told, x_reader, .ref ring, x_speeds, .ref wheel, x_trials, x_span, x_search, x_kept, x_crosses, x_trueMasses, x_thought, x_up, x_low, x_fits, x_pulls]), (wheel, ob 0 [.int cc, .ref kw, .ref ks, wX3, .int a_, .int b_, wX6]), (kw, aI G 8 fw), (ks, aI G 8 g), (ring, ob 5 [.int hc, g_rp, .ref rx, .ref ry, g_rr, g_rh, g_rd, g_ph, g_po]), (rx, aI G 16 fx), (ry, aI G 16 fy), (told, ob 8 [.ref tn, .int z.2.1]), (tn, aJ G 16 z.2.2)]) (fun z => (0 ≤ z.1.toInt ∧ z.1.toInt ≤ cci) ∧ (0 ≤ z.2.1.toInt ∧ z.2.1.toInt ≤ 16)) (fun z => (cci - z.1.toInt).toNat) (0, 0, fn) ?_ ?_
        ·
          rintro ⟨j_, tl_, fn_⟩ ⟨hj, ht⟩ ih58
          dsimp only at *
          refine z_run X br_X10_round_58_60 kr_X10_round_58_60 (lv' := [(2, .int j_), (1, .int n_), (0, .ref x)]) (st' := [.ref x, .int j_]) rfl ?_
          refine z_get X fl_10_40 dr_X10_round_60 0 rfl (v := .ref wheel) rfl ?_
          refine z_getN X fl_10_467 dr_X10_round_63 1 rfl (v := .int cc) rfl ?_
          refine zc_ge X dr_X10_round_66 (tgt := 92) (by decide) (a := j_.toInt) (b := cci) rfl hcc (fun c66_9 => ?_) (fun c66_9 => ?_)
          ·
            refine z_run X br_X10_round_92_93 kr_X10_round_92_93 (lv' := [(2, .int j_), (1, .int n_), (0, .ref x)]) (st' := [.ref x]) rfl ?_
            refine z_get X fl_10_12 dr_X10_round_93 0 rfl (v := .ref told) rfl ?_
            refine z_run X br_X10_round_96_97 kr_X10_round_96_97 (lv' := [(2, .int j_), (1, .int n_), (0, .ref x)]) (st' := [.ref x, .ref told]) rfl ?_
            refine z_get X fl_10_40 dr_X10_round_97 0 rfl (v := .ref wheel) rfl ?_
            refine z_getN X fl_10_460 dr_X10_round_100 1 rfl (v := .int a_) rfl ?_
            refine z_run X br_X10_round_103_105 kr_X10_round_103_105 (lv' := [(2, .int j_), (1, .int n_), (0, .ref x)]) (st' := [.ref x, .long a_.toInt64, .ref told]) rfl ?_
            refine z_get X fl_10_40 dr_X10_round_105 0 rfl (v := .ref wheel) rfl ?_
            refine z_getN X fl_10_462 dr_X10_round_108 1 rfl (v := .int b_) rfl ?_
            refine z_run X br_X10_round_111_112 kr_X10_round_111_112 (lv' := [(2, .int j_), (1, .int n_), (0, .ref x)]) (st' := [.long b_.toInt64, .long a_.toInt64, .ref told]) rfl ?_
            refine z_callS X k_10_187 (cg_X10_sizeOf l G a_.toInt64 b_.toInt64) dr_X10_round_112 ⟨Nat.le_of_ble_eq_true rfl, Nat.le_of_ble_eq_true rfl⟩ ⟨Nat.le_of_ble_eq_true rfl, Nat.le_of_ble_eq_true rfl⟩ rfl (rest := [.ref told]) (As := [.long a_.toInt64, .long b_.toInt64]) rfl (Nat.le_of_ble_eq_true rfl) [] [0, 1, 2, 3, 4, 5, 6, 7, 8] rfl (by decide) (wr := [(x, ob 10 [.ref told, x_reader, .ref ring, x_speeds, .ref wheel, x_trials, x_span, x_search, x_kept, x_crosses, x_trueMasses, x_thought, x_up, x_low, x_fits, x_pulls]), (wheel, ob 0 [.int cc, .ref kw, .ref ks, wX3, .int a_, .int b_, wX6]), (kw, aI G 8 fw), (ks, aI G 8 g), (ring, ob 5 [.int hc, g_rp, .ref rx, .ref ry, g_rr, g_rh, g_rd, g_ph, g_po]), (rx, aI G 16 fx), (ry, aI G 16 fy), (told, ob 8 [.ref tn, .int tl_]), (tn, aJ G 16 fn_)]) rfl (by decide) (by decide) ?_
            rintro _ _ ⟨rz_10, f112_11, rfl, rfl⟩
            refine Z.at (pc' := 115) (st' := [.long rz_10, .ref told]) (ws' := [(x, ob 10 [.ref told, x_reader, .ref ring, x_speeds, .ref wheel, x_trials, x_span, x_search, x_kept, x_crosses, x_trueMasses, x_thought, x_up, x_low, x_fits, x_pulls]), (wheel, ob 0 [.int cc, .ref kw, .ref ks, wX3, .int a_, .int b_, wX6]), (kw, aI G 8 fw), (ks, aI G 8 g), (ring, ob 5 [.int hc, g_rp, .ref rx, .ref ry, g_rr, g_rh, g_rd, g_ph, g_po]), (rx, aI G 16 fx), (ry, aI G 16 fy), (told, ob 8 [.ref tn, .int tl_]), (tn, aJ G 16 fn_)]) (kc' := 0) (ks' := 0) rfl rfl rfl rfl rfl ?_
            refine z_callV X k_10_183 (ch_X8_add l G told tn tl_ fn_ rz_10 tl_.toInt rfl (by omega)) dr_X10_round_115 7 rfl rfl rfl ⟨Nat.le_of_ble_eq_true rfl, Nat.le_of_ble_eq_true rfl⟩ ⟨Nat.le_of_ble_eq_true rfl, Nat.le_of_ble_eq_true rfl⟩ rfl (rest := []) (As := [.long rz_10]) rfl (Nat.le_of_ble_eq_true rfl) [7, 8] [0, 1, 2, 3, 4, 5, 6] rfl (by decide) (wr := [(x, ob 10 [.ref told, x_reader, .ref ring, x_speeds, .ref wheel, x_trials, x_span, x_search, x_kept, x_crosses, x_trueMasses, x_thought, x_up, x_low, x_fits, x_pulls]), (wheel, ob 0 [.int cc, .ref kw, .ref ks, wX3, .int a_, .int b_, wX6]), (kw, aI G 8 fw), (ks, aI G 8 g), (ring, ob 5 [.int hc, g_rp, .ref rx, .ref ry, g_rr, g_rh, g_rd, g_ph, g_po]), (rx, aI G 16 fx), (ry, aI G 16 fy)]) rfl (by decide) (by decide) ?_
            rintro _ _ ⟨tl2_12, fn2_13, f115_14, rfl, rfl⟩
            refine Z.at (pc' := 118) (st' := []) (ws' := [(x, ob 10 [.ref told, x_reader, .ref ring, x_speeds, .ref wheel, x_trials, x_span, x_search, x_kept, x_crosses, x_trueMasses, x_thought, x_up, x_low, x_fits, x_pulls]), (wheel, ob 0 [.int cc, .ref kw, .ref ks, wX3, .int a_, .int b_, wX6]), (kw, aI G 8 fw), (ks, aI G 8 g), (ring, ob 5 [.int hc, g_rp, .ref rx, .ref ry, g_rr, g_rh, g_rd, g_ph, g_po]), (rx, aI G 16 fx), (ry, aI G 16 fy), (told, ob 8 [.ref tn, .int tl2_12]), (tn, aJ G 16 fn2_13)]) (kc' := 0) (ks' := 0) rfl rfl rfl rfl rfl ?_
            refine z_run X br_X10_round_118_119 kr_X10_round_118_119 (lv' := [(2, .int j_), (1, .int n_), (0, .ref x)]) (st' := [.int n_]) rfl ?_
            refine Z.sub (lv' := []) [] rfl [0, 7, 8, 1, 2, 3, 4, 5, 6] (ws' := [(x, ob 10 [.ref told, x_reader, .ref ring, x_speeds, .ref wheel, x_trials, x_span, x_search, x_kept, x_crosses, x_trueMasses, x_thought, x_up, x_low, x_fits, x_pulls]), (told, ob 8 [.ref tn, .int tl2_12]), (tn, aJ G 16 fn2_13), (wheel, ob 0 [.int cc, .ref kw, .ref ks, wX3, .int a_, .int b_, wX6]), (kw, aI G 8 fw), (ks, aI G 8 g), (ring, ob 5 [.int hc, g_rp, .ref rx, .ref ry, g_rr, g_rh, g_rd, g_ph, g_po]), (rx, aI G 16 fx), (ry, aI G 16 fy)]) rfl (by decide) ?_
            exact z_iret X rfl dr_X10_round_119 (Nat.le_of_ble_eq_true rfl) (Nat.le_of_ble_eq_true rfl) ⟨n_, a_, b_, g, tl2_12, fn2_13, (Or.inr ⟨by omega, by omega, _, g, f17_7, hk, Or.inl (by omega)⟩), rfl, rfl⟩
          ·
            refine z_run X br_X10_round_69_70 kr_X10_round_69_70 (lv' := [(2, .int j_), (1, .int n_), (0, .ref x)]) (st' := [.ref x]) rfl ?_
            refine z_get X fl_10_12 dr_X10_round_70 0 rfl (v := .ref told) rfl ?_
            refine z_run X br_X10_round_73_74 kr_X10_round_73_74 (lv' := [(2, .int j_), (1, .int n_), (0, .ref x)]) (st' := [.ref x, .ref told]) rfl ?_
            refine z_get X fl_10_40 dr_X10_round_74 0 rfl (v := .ref wheel) rfl ?_
            refine z_getN X fl_10_478 dr_X10_round_77 1 rfl (v := .ref ks) rfl ?_
            refine z_run X br_X10_round_80_81 kr_X10_round_80_81 (lv' := [(2, .int j_), (1, .int n_), (0, .ref x)]) (st' := [.int j_, .ref ks, .ref told]) rfl ?_
            refine z_iald X dr_X10_round_81 3 rfl (vin rfl (by omega) (by omega)) (v := (g j_.toNatClampNeg)) rfl ?_
            refine z_run X br_X10_round_82_83 kr_X10_round_82_83 (lv' := [(2, .int j_), (1, .int n_), (0, .ref x)]) (st' := [.long (g j_.toNatClampNeg).toInt64, .ref told]) rfl ?_
            refine z_callV X k_10_183 (ch_X8_add l G told tn tl_ fn_ (g j_.toNatClampNeg).toInt64 tl_.toInt rfl (by omega)) dr_X10_round_83 7 rfl rfl rfl ⟨Nat.le_of_ble_eq_true rfl, Nat.le_of_ble_eq_true rfl⟩ ⟨Nat.le_of_ble_eq_true rfl, Nat.le_of_ble_eq_true rfl⟩ rfl (rest := []) (As := [.long (g j_.toNatClampNeg).toInt64]) rfl (Nat.le_of_ble_eq_true rfl) [7, 8] [0, 1, 2, 3, 4, 5, 6] rfl (by decide) (wr := [(x, ob 10 [.ref told, x_reader, .ref ring, x_speeds, .ref wheel, x_trials, x_span, x_search, x_kept, x_crosses, x_trueMasses, x_thought, x_up, x_low, x_fits, x_pulls]), (wheel, ob 0 [.int cc, .ref kw, .ref ks, wX3, .int a_, .int b_, wX6]), (kw, aI G 8 fw), (ks, aI G 8 g), (ring, ob 5 [.int hc, g_rp, .ref rx, .ref ry, g_rr, g_rh, g_rd, g_ph, g_po]), (rx, aI G 16 fx), (ry, aI G 16 fy)]) rfl (by decide) (by decide) ?_
            rintro _ _ ⟨tl2_15, fn2_16, f83_17, rfl, rfl⟩
            refine Z.at (pc' := 86) (st' := []) (ws' := [(x, ob 10 [.ref told, x_reader, .ref ring, x_speeds, .ref wheel, x_trials, x_span, x_search, x_kept, x_crosses, x_trueMasses, x_thought, x_up, x_low, x_fits, x_pulls]), (wheel, ob 0 [.int cc, .ref kw, .ref ks, wX3, .int a_, .int b_, wX6]), (kw, aI G 8 fw), (ks, aI G 8 g), (ring, ob 5 [.int hc, g_rp, .ref rx, .ref ry, g_rr, g_rh, g_rd, g_ph, g_po]), (rx, aI G 16 fx), (ry, aI G 16 fy), (told, ob 8 [.ref tn, .int tl2_15]), (tn, aJ G 16 fn2_16)]) (kc' := 0) (ks' := 0) rfl rfl rfl rfl rfl ?_
            refine z_run X br_X10_round_86_89 kr_X10_round_86_89 (lv' := [(2, .int (j_ + 1)), (1, .int n_), (0, .ref x)]) (st' := []) rfl ?_
            refine z_goto X dr_X10_round_89 (tgt := 58) (by decide) ?_
            exact ih58 ((j_ + 1), tl2_15, fn2_16) ⟨(by dsimp only; have e : (j_ + 1).toInt = j_.toInt + 1 := tI_add rfl (show (1 : Int32).toInt = 1 from by decide) (by omega); omega), (by dsimp only; omega)⟩ (by dsimp only; have e : (j_ + 1).toInt = j_.toInt + 1 := tI_add rfl (show (1 : Int32).toInt = 1 from by decide) (by omega); omega)
        · exact ⟨(by dsimp only; have e0 : (0 : Int32).toInt = 0 := (by decide); omega), (by dsimp only; have e0 : (0 : Int32).toInt = 0 := (by decide); omega)⟩
      ·
        refine z_run X br_X10_round_29_30 kr_X10_round_29_30 (lv' := [(1, .int n_), (0, .ref x)]) (st' := [.ref x]) rfl ?_
        refine z_get X fl_10_40 dr_X10_round_30 2 rfl (v := .ref wheel) rfl ?_
        refine z_run X br_X10_round_33_34 kr_X10_round_33_34 (lv' := [(1, .int n_), (0, .ref x)]) (st' := [.ref x, .ref wheel]) rfl ?_
        refine z_get X fl_10_26 dr_X10_round_34 2 rfl (v := .ref ring) rfl ?_
        refine z_callV X k_10_474 (cr_X0_exchangeBest l G wheel cc kw ks wX3 a_ b_ wX6 fw g ring hc g_rp rx ry g_rr g_rh g_rd g_ph g_po fx fy cci hcc (by omega) (by omega) (by omega) (by omega)) dr_X10_round_37 3 rfl rfl rfl ⟨Nat.le_of_ble_eq_true rfl, Nat.le_of_ble_eq_true rfl⟩ ⟨Nat.le_of_ble_eq_true rfl, Nat.le_of_ble_eq_true rfl⟩ rfl (rest := []) (As := [.ref ring]) rfl (Nat.le_of_ble_eq_true rfl) [3, 4, 5, 6, 7, 8] [0, 1, 2] rfl (by decide) (wr := [(told, ob 8 [.ref tn, .int tl]), (tn, aJ G 16 fn), (x, ob 10 [.ref told, x_reader, .ref ring, x_speeds, .ref wheel, x_trials, x_span, x_search, x_kept, x_crosses, x_trueMasses, x_thought, x_up, x_low, x_fits, x_pulls])]) rfl (by decide) (by decide) ?_
        rintro _ _ ⟨rz_18, a2_19, b2_20, g2_21, f37_22, f37_23, f37_24, rfl, rfl⟩
        refine Z.at (pc' := 40) (st' := [.int rz_18]) (ws' := [(told, ob 8 [.ref tn, .int tl]), (tn, aJ G 16 fn), (x, ob 10 [.ref told, x_reader, .ref ring, x_speeds, .ref wheel, x_trials, x_span, x_search, x_kept, x_crosses, x_trueMasses, x_thought, x_up, x_low, x_fits, x_pulls]), (wheel, ob 0 [.int cc, .ref kw, .ref ks, wX3, .int a2_19, .int b2_20, wX6]), (kw, aI G 8 fw), (ks, aI G 8 g2_21), (ring, ob 5 [.int hc, g_rp, .ref rx, .ref ry, g_rr, g_rh, g_rd, g_ph, g_po]), (rx, aI G 16 fx), (ry, aI G 16 fy)]) (kc' := 0) (ks' := 0) rfl rfl rfl rfl rfl ?_
        refine zi_eq X dr_X10_round_40 (tgt := 49) (by decide) (a := rz_18.toInt) rfl (fun c40_25 => ?_) (fun c40_25 => ?_)
        ·
          refine z_run X br_X10_round_49_50 kr_X10_round_49_50 (lv' := [(1, .int n_), (0, .ref x)]) (st' := [.ref x]) rfl ?_
          refine z_get X fl_10_12 dr_X10_round_50 2 rfl (v := .ref told) rfl ?_
          refine z_callV X k_10_180 (ch_X8_start l G told tn tl fn) dr_X10_round_53 0 rfl rfl rfl ⟨Nat.le_of_ble_eq_true rfl, Nat.le_of_ble_eq_true rfl⟩ ⟨Nat.le_of_ble_eq_true rfl, Nat.le_of_ble_eq_true rfl⟩ rfl (rest := []) (As := []) rfl (Nat.le_of_ble_eq_true rfl) [0, 1] [2, 3, 4, 5, 6, 7, 8] rfl (by decide) (wr := [(x, ob 10 [.ref told, x_reader, .ref ring, x_speeds, .ref wheel, x_trials, x_span, x_search, x_kept, x_crosses, x_trueMasses, x_thought, x_up, x_low, x_fits, x_pulls]), (wheel, ob 0 [.int cc, .ref kw, .ref ks, wX3, .int a2_19, .int b2_20, wX6]), (kw, aI G 8 fw), (ks, aI G 8 g2_21), (ring, ob 5 [.int hc, g_rp, .ref rx, .ref ry, g_rr, g_rh, g_rd, g_ph, g_po]), (rx, aI G 16 fx), (ry, aI G 16 fy)]) rfl (by decide) (by decide) ?_
          rintro _ _ ⟨rfl, rfl⟩
          refine Z.at (pc' := 56) (st' := []) (ws' := [(x, ob 10 [.ref told, x_reader, .ref ring, x_speeds, .ref wheel, x_trials, x_span, x_search, x_kept, x_crosses, x_trueMasses, x_thought, x_up, x_low, x_fits, x_pulls]), (wheel, ob 0 [.int cc, .ref kw, .ref ks, wX3, .int a2_19, .int b2_20, wX6]), (kw, aI G 8 fw), (ks, aI G 8 g2_21), (ring, ob 5 [.int hc, g_rp, .ref rx, .ref ry, g_rr, g_rh, g_rd, g_ph, g_po]), (rx, aI G 16 fx), (ry, aI G 16 fy), (told, ob 8 [.ref tn, .int 0]), (tn, aJ G 16 fn)]) (kc' := 0) (ks' := 0) rfl rfl rfl rfl rfl ?_
          refine z_run X br_X10_round_56_58 kr_X10_round_56_58 (lv' := [(2, .int 0), (1, .int n_), (0, .ref x)]) (st' := []) rfl ?_
          refine zloop (σ := Int32 × Int32 × (Nat → Int64)) (fun z => [(2, .int z.1), (1, .int n_), (0, .ref x)]) (fun z => []) (fun z => [(x, ob 10 [.ref told, x_reader, .ref ring, x_speeds, .ref wheel, x_trials, x_span, x_search, x_kept, x_crosses, x_trueMasses, x_thought, x_up, x_low, x_fits, x_pulls]), (wheel, ob 0 [.int cc, .ref kw, .ref ks, wX3, .int a2_19, .int b2_20, wX6]), (kw, aI G 8 fw), (ks, aI G 8 g2_21), (ring, ob 5 [.int hc, g_rp, .ref rx, .ref ry, g_rr, g_rh, g_rd, g_ph, g_po]), (rx, aI G 16 fx), (ry, aI G 16 fy), (told, ob 8 [.ref tn, .int z.2.1]), (tn, aJ G 16 z.2.2)]) (fun z => (0 ≤ z.1.toInt ∧ z.1.toInt ≤ cci) ∧ (0 ≤ z.2.1.toInt ∧ z.2.1.toInt ≤ 16)) (fun z => (cci - z.1.toInt).toNat) (0, 0, fn) ?_ ?_
          ·
            rintro ⟨j_, tl_, fn_⟩ ⟨hj, ht⟩ ih58
            dsimp only at *
            refine z_run X br_X10_round_58_60 kr_X10_round_58_60 (lv' := [(2, .int j_), (1, .int n_), (0, .ref x)]) (st' := [.ref x, .int j_]) rfl ?_
            refine z_get X fl_10_40 dr_X10_round_60 0 rfl (v := .ref wheel) rfl ?_
            refine z_getN X fl_10_467 dr_X10_round_63 1 rfl (v := .int cc) rfl ?_
            refine zc_ge X dr_X10_round_66 (tgt := 92) (by decide) (a := j_.toInt) (b := cci) rfl hcc (fun c66_26 => ?_) (fun c66_26 => ?_)
            ·
              refine z_run X br_X10_round_92_93 kr_X10_round_92_93 (lv' := [(2, .int j_), (1, .int n_), (0, .ref x)]) (st' := [.ref x]) rfl ?_
              refine z_get X fl_10_12 dr_X10_round_93 0 rfl (v := .ref told) rfl ?_
              refine z_run X br_X10_round_96_97 kr_X10_round_96_97 (lv' := [(2, .int j_), (1, .int n_), (0, .ref x)]) (st' := [.ref x, .ref told]) rfl ?_
              refine z_get X fl_10_40 dr_X10_round_97 0 rfl (v := .ref wheel) rfl ?_
              refine z_getN X fl_10_460 dr_X10_round_100 1 rfl (v := .int a2_19) rfl ?_
              refine z_run X br_X10_round_103_105 kr_X10_round_103_105 (lv' := [(2, .int j_), (1, .int n_), (0, .ref x)]) (st' := [.ref x, .long a2_19.toInt64, .ref told]) rfl ?_
              refine z_get X fl_10_40 dr_X10_round_105 0 rfl (v := .ref wheel) rfl ?_
              refine z_getN X fl_10_462 dr_X10_round_108 1 rfl (v := .int b2_20) rfl ?_
              refine z_run X br_X10_round_111_112 kr_X10_round_111_112 (lv' := [(2, .int j_), (1, .int n_), (0, .ref x)]) (st' := [.long b2_20.toInt64, .long a2_19.toInt64, .ref told]) rfl ?_
              refine z_callS X k_10_187 (cg_X10_sizeOf l G a2_19.toInt64 b2_20.toInt64) dr_X10_round_112 ⟨Nat.le_of_ble_eq_true rfl, Nat.le_of_ble_eq_true rfl⟩ ⟨Nat.le_of_ble_eq_true rfl, Nat.le_of_ble_eq_true rfl⟩ rfl (rest := [.ref told]) (As := [.long a2_19.toInt64, .long b2_20.toInt64]) rfl (Nat.le_of_ble_eq_true rfl) [] [0, 1, 2, 3, 4, 5, 6, 7, 8] rfl (by decide) (wr := [(x, ob 10 [.ref told, x_reader, .ref ring, x_speeds, .ref wheel, x_trials, x_span, x_search, x_kept, x_crosses, x_trueMasses, x_thought, x_up, x_low, x_fits, x_pulls]), (wheel, ob 0 [.int cc, .ref kw, .ref ks, wX3, .int a2_19, .int b2_20, wX6]), (kw, aI G 8 fw), (ks, aI G 8 g2_21), (ring, ob 5 [.int hc, g_rp, .ref rx, .ref ry, g_rr, g_rh, g_rd, g_ph, g_po]), (rx, aI G 16 fx), (ry, aI G 16 fy), (told, ob 8 [.ref tn, .int tl_]), (tn, aJ G 16 fn_)]) rfl (by decide) (by decide) ?_
              rintro _ _ ⟨rz_27, f112_28, rfl, rfl⟩
              refine Z.at (pc' := 115) (st' := [.long rz_27, .ref told]) (ws' := [(x, ob 10 [.ref told, x_reader, .ref ring, x_speeds, .ref wheel, x_trials, x_span, x_search, x_kept, x_crosses, x_trueMasses, x_thought, x_up, x_low, x_fits, x_pulls]), (wheel, ob 0 [.int cc, .ref kw, .ref ks, wX3, .int a2_19, .int b2_20, wX6]), (kw, aI G 8 fw), (ks, aI G 8 g2_21), (ring, ob 5 [.int hc, g_rp, .ref rx, .ref ry, g_rr, g_rh, g_rd, g_ph, g_po]), (rx, aI G 16 fx), (ry, aI G 16 fy), (told, ob 8 [.ref tn, .int tl_]), (tn, aJ G 16 fn_)]) (kc' := 0) (ks' := 0) rfl rfl rfl rfl rfl ?_
              refine z_callV X k_10_183 (ch_X8_add l G told tn tl_ fn_ rz_27 tl_.toInt rfl (by omega)) dr_X10_round_115 7 rfl rfl rfl ⟨Nat.le_of_ble_eq_true rfl, Nat.le_of_ble_eq_true rfl⟩ ⟨Nat.le_of_ble_eq_true rfl, Nat.le_of_ble_eq_true rfl⟩ rfl (rest := []) (As := [.long rz_27]) rfl (Nat.le_of_ble_eq_true rfl) [7, 8] [0, 1, 2, 3, 4, 5, 6] rfl (by decide) (wr := [(x, ob 10 [.ref told, x_reader, .ref ring, x_speeds, .ref wheel, x_trials, x_span, x_search, x_kept, x_crosses, x_trueMasses, x_thought, x_up, x_low, x_fits, x_pulls]), (wheel, ob 0 [.int cc, .ref kw, .ref ks, wX3, .int a2_19, .int b2_20, wX6]), (kw, aI G 8 fw), (ks, aI G 8 g2_21), (ring, ob 5 [.int hc, g_rp, .ref rx, .ref ry, g_rr, g_rh, g_rd, g_ph, g_po]), (rx, aI G 16 fx), (ry, aI G 16 fy)]) rfl (by decide) (by decide) ?_
              rintro _ _ ⟨tl2_29, fn2_30, f115_31, rfl, rfl⟩
              refine Z.at (pc' := 118) (st' := []) (ws' := [(x, ob 10 [.ref told, x_reader, .ref ring, x_speeds, .ref wheel, x_trials, x_span, x_search, x_kept, x_crosses, x_trueMasses, x_thought, x_up, x_low, x_fits, x_pulls]), (wheel, ob 0 [.int cc, .ref kw, .ref ks, wX3, .int a2_19, .int b2_20, wX6]), (kw, aI G 8 fw), (ks, aI G 8 g2_21), (ring, ob 5 [.int hc, g_rp, .ref rx, .ref ry, g_rr, g_rh, g_rd, g_ph, g_po]), (rx, aI G 16 fx), (ry, aI G 16 fy), (told, ob 8 [.ref tn, .int tl2_29]), (tn, aJ G 16 fn2_30)]) (kc' := 0) (ks' := 0) rfl rfl rfl rfl rfl ?_
              refine z_run X br_X10_round_118_119 kr_X10_round_118_119 (lv' := [(2, .int j_), (1, .int n_), (0, .ref x)]) (st' := [.int n_]) rfl ?_
              refine Z.sub (lv' := []) [] rfl [0, 7, 8, 1, 2, 3, 4, 5, 6] (ws' := [(x, ob 10 [.ref told, x_reader, .ref ring, x_speeds, .ref wheel, x_trials, x_span, x_search, x_kept, x_crosses, x_trueMasses, x_thought, x_up, x_low, x_fits, x_pulls]), (told, ob 8 [.ref tn, .int tl2_29]), (tn, aJ G 16 fn2_30), (wheel, ob 0 [.int cc, .ref kw, .ref ks, wX3, .int a2_19, .int b2_20, wX6]), (kw, aI G 8 fw), (ks, aI G 8 g2_21), (ring, ob 5 [.int hc, g_rp, .ref rx, .ref ry, g_rr, g_rh, g_rd, g_ph, g_po]), (rx, aI G 16 fx), (ry, aI G 16 fy)]) rfl (by decide) ?_
              exact z_iret X rfl dr_X10_round_119 (Nat.le_of_ble_eq_true rfl) (Nat.le_of_ble_eq_true rfl) ⟨n_, a2_19, b2_20, g2_21, tl2_29, fn2_30, (Or.inr ⟨by omega, by omega, _, g, f17_7, hk, Or.inr (by rcases f37_22 with ⟨z1, z2, z3⟩ | ⟨z1, z2⟩; (exact z1); (exact absurd c40_25 (by rw [z2]; decide)))⟩), rfl, rfl⟩
            ·
              refine z_run X br_X10_round_69_70 kr_X10_round_69_70 (lv' := [(2, .int j_), (1, .int n_), (0, .ref x)]) (st' := [.ref x]) rfl ?_
              refine z_get X fl_10_12 dr_X10_round_70 0 rfl (v := .ref told) rfl ?_
              refine z_run X br_X10_round_73_74 kr_X10_round_73_74 (lv' := [(2, .int j_), (1, .int n_), (0, .ref x)]) (st' := [.ref x, .ref told]) rfl ?_
              refine z_get X fl_10_40 dr_X10_round_74 0 rfl (v := .ref wheel) rfl ?_
              refine z_getN X fl_10_478 dr_X10_round_77 1 rfl (v := .ref ks) rfl ?_
              refine z_run X br_X10_round_80_81 kr_X10_round_80_81 (lv' := [(2, .int j_), (1, .int n_), (0, .ref x)]) (st' := [.int j_, .ref ks, .ref told]) rfl ?_
              refine z_iald X dr_X10_round_81 3 rfl (vin rfl (by omega) (by omega)) (v := (g2_21 j_.toNatClampNeg)) rfl ?_
              refine z_run X br_X10_round_82_83 kr_X10_round_82_83 (lv' := [(2, .int j_), (1, .int n_), (0, .ref x)]) (st' := [.long (g2_21 j_.toNatClampNeg).toInt64, .ref told]) rfl ?_
              refine z_callV X k_10_183 (ch_X8_add l G told tn tl_ fn_ (g2_21 j_.toNatClampNeg).toInt64 tl_.toInt rfl (by omega)) dr_X10_round_83 7 rfl rfl rfl ⟨Nat.le_of_ble_eq_true rfl, Nat.le_of_ble_eq_true rfl⟩ ⟨Nat.le_of_ble_eq_true rfl, Nat.le_of_ble_eq_true rfl⟩ rfl (rest := []) (As := [.long (g2_21 j_.toNatClampNeg).toInt64]) rfl (Nat.le_of_ble_eq_true rfl) [7, 8] [0, 1, 2, 3, 4, 5, 6] rfl (by decide) (wr := [(x, ob 10 [.ref told, x_reader, .ref ring, x_speeds, .ref wheel, x_trials, x_span, x_search, x_kept, x_crosses, x_trueMasses, x_thought, x_up, x_low, x_fits, x_pulls]), (wheel, ob 0 [.int cc, .ref kw, .ref ks, wX3, .int a2_19, .int b2_20, wX6]), (kw, aI G 8 fw), (ks, aI G 8 g2_21), (ring, ob 5 [.int hc, g_rp, .ref rx, .ref ry, g_rr, g_rh, g_rd, g_ph, g_po]), (rx, aI G 16 fx), (ry, aI G 16 fy)]) rfl (by decide) (by decide) ?_
              rintro _ _ ⟨tl2_32, fn2_33, f83_34, rfl, rfl⟩
              refine Z.at (pc' := 86) (st' := []) (ws' := [(x, ob 10 [.ref told, x_reader, .ref ring, x_speeds, .ref wheel, x_trials, x_span, x_search, x_kept, x_crosses, x_trueMasses, x_thought, x_up, x_low, x_fits, x_pulls]), (wheel, ob 0 [.int cc, .ref kw, .ref ks, wX3, .int a2_19, .int b2_20, wX6]), (kw, aI G 8 fw), (ks, aI G 8 g2_21), (ring, ob 5 [.int hc, g_rp, .ref rx, .ref ry, g_rr, g_rh, g_rd, g_ph, g_po]), (rx, aI G 16 fx), (ry, aI G 16 fy), (told, ob 8 [.ref tn, .int tl2_32]), (tn, aJ G 16 fn2_33)]) (kc' := 0) (ks' := 0) rfl rfl rfl rfl rfl ?_
              refine z_run X br_X10_round_86_89 kr_X10_round_86_89 (lv' := [(2, .int (j_ + 1)), (1, .int n_), (0, .ref x)]) (st' := []) rfl ?_
              refine z_goto X dr_X10_round_89 (tgt := 58) (by decide) ?_
              exact ih58 ((j_ + 1), tl2_32, fn2_33) ⟨(by dsimp only; have e : (j_ + 1).toInt = j_.toInt + 1 := tI_add rfl (show (1 : Int32).toInt = 1 from by decide) (by omega); omega), (by dsimp only; omega)⟩ (by dsimp only; have e : (j_ + 1).toInt = j_.toInt + 1 := tI_add rfl (show (1 : Int32).toInt = 1 from by decide) (by omega); omega)
          · exact ⟨(by dsimp only; have e0 : (0 : Int32).toInt = 0 := (by decide); omega), (by dsimp only; have e0 : (0 : Int32).toInt = 0 := (by decide); omega)⟩
        ·
          refine z_run X br_X10_round_43_46 kr_X10_round_43_46 (lv' := [(1, .int (n_ + 1)), (0, .ref x)]) (st' := []) rfl ?_
          refine z_goto X dr_X10_round_46 (tgt := 22) (by decide) ?_
          exact ih22 ((n_ + 1), a2_19, b2_20, g2_21) ⟨(by dsimp only; have e : (n_ + 1).toInt = n_.toInt + 1 := tI_add rfl (show (1 : Int32).toInt = 1 from by decide) (by omega); omega), (by dsimp only; have e : (n_ + 1).toInt = n_.toInt + 1 := tI_add rfl (show (1 : Int32).toInt = 1 from by decide) (by omega); rw [e, show (n_.toInt + 1).toNat = n_.toInt.toNat + 1 by omega]; show (itr (nxR fw fx fy cci.toNat) g2_4 n_.toInt.toNat).bind (nxR fw fx fy cci.toNat) = some g2_21; rw [hk]; exact (show nxR fw fx fy cci.toNat g = some g2_21 from by rcases f37_22 with ⟨z1, z2, z3⟩ | ⟨z1, z2⟩; (exact absurd z2 (fun q => c40_25 (by rw [q]; rfl))); (exact z1))), ((nxR_dec (show nxR fw fx fy cci.toNat g = some g2_21 from by rcases f37_22 with ⟨z1, z2, z3⟩ | ⟨z1, z2⟩; (exact absurd z2 (fun q => c40_25 (by rw [q]; rfl))); (exact z1))).2 hg), f37_23, f37_24⟩ (by dsimp only; have e : (n_ + 1).toInt = n_.toInt + 1 := tI_add rfl (show (1 : Int32).toInt = 1 from by decide) (by omega); omega)
    · exact ⟨(by dsimp only; have e0 : (0 : Int32).toInt = 0 := (by decide); omega), (by dsimp only; have e0 : (0 : Int32).toInt = 0 := (by decide); rw [e0]; rfl), (OKS.id (fun j hj => f17_7 j (by omega))), (by dsimp only; rw [f17_5]; exact csum_congr (fun j hj => ⟨by show fw j = fw (g2_4 j).toNatClampNeg; rw [show (g2_4 j).toNatClampNeg = j from (show (g2_4 j).toInt.toNat = j by rw [f17_7 j (by omega)]; omega)], rfl⟩)), (by dsimp only; rw [f17_6]; exact csum_congr (fun j hj => ⟨by show fw j = fw (g2_4 j).toNatClampNeg; rw [show (g2_4 j).toNatClampNeg = j from (show (g2_4 j).toInt.toNat = j by rw [f17_7 j (by omega)]; omega)], rfl⟩))⟩
  ·
    refine z_run X br_X10_round_7_8 kr_X10_round_7_8 (lv' := [(0, .ref x)]) (st' := [.int (-1)]) rfl ?_
    refine Z.sub (lv' := []) [] rfl [2, 0, 1, 3, 4, 5, 6, 7, 8] (ws' := [(x, ob 10 [.ref told, x_reader, .ref ring, x_speeds, .ref wheel, x_trials, x_span, x_search, x_kept, x_crosses, x_trueMasses, x_thought, x_up, x_low, x_fits, x_pulls]), (told, ob 8 [.ref tn, .int tl]), (tn, aJ G 16 fn), (wheel, ob 0 [.int cc, .ref kw, .ref ks, wX3, .int wa, .int wb, wX6]), (kw, aI G 8 fw), (ks, aI G 8 fs), (ring, ob 5 [.int hc, g_rp, .ref rx, .ref ry, g_rr, g_rh, g_rd, g_ph, g_po]), (rx, aI G 16 fx), (ry, aI G 16 fy)]) rfl (by decide) ?_
    exact z_iret X rfl dr_X10_round_8 (Nat.le_of_ble_eq_true rfl) (Nat.le_of_ble_eq_true rfl) ⟨((-1) : Int32), wa, wb, fs, tl, fn, (Or.inl ⟨by omega, rfl⟩), rfl, rfl⟩

