/-! buckets: what both sides do -/
abbrev okK (fp fh fr : Nat → Int32) (p : Int) (t h : Nat) : Prop := (fp h).toInt = p ∧ (t : Int) < (fr h).toInt - (fh h).toInt
def bkF (fp fh fr fx fy : Nat → Int32) (p B : Int) (n : Nat) : Nat → Nat → Nat → Int → Int32 → Int32 → Int
  | 0, _, _, _, _, _ => -2
  | f + 1, t, h, m, x, y =>
    if h < n then
      (if okK fp fh fr p t h then (if B < (sz (x + fx h) (y + fy h)).toInt then m + 1 else bkF fp fh fr fx fy p B n f t (h + 1) (m + 1) (x + fx h) (y + fy h)) else bkF fp fh fr fx fy p B n f t (h + 1) m x y)
    else
      (if okK fp fh fr p (t + 1) 0 then (if B < (sz (x + fx 0) (y + fy 0)).toInt then m + 1 else bkF fp fh fr fx fy p B n f (t + 1) 1 (m + 1) (x + fx 0) (y + fy 0)) else bkF fp fh fr fx fy p B n f (t + 1) 1 m x y)
def bkH (B S m r : Int) : Int := if B < S then m else r
theorem bkH_t {B S m r : Int} (h : B < S) : bkH B S m r = m := if_pos h
theorem bkH_f {B S m r : Int} (h : ¬ B < S) : bkH B S m r = r := if_neg h
def cn1 (k h : Nat) : Int := if k < h then 1 else 0
theorem cn1_t {k h : Nat} (q : k < h) : cn1 k h = 1 := if_pos q
theorem cn1_f {k h : Nat} (q : ¬ k < h) : cn1 k h = 0 := if_neg q
section BKS
variable {fp fh fr fx fy : Nat → Int32} {p B : Int} {n : Nat}
theorem bkF_s {f t h : Nat} {m : Int} {x y : Int32} : bkF fp fh fr fx fy p B n (f + 1) t h m x y = (if h < n then
      (if okK fp fh fr p t h then (if B < (sz (x + fx h) (y + fy h)).toInt then m + 1 else bkF fp fh fr fx fy p B n f t (h + 1) (m + 1) (x + fx h) (y + fy h)) else bkF fp fh fr fx fy p B n f t (h + 1) m x y)
    else
      (if okK fp fh fr p (t + 1) 0 then (if B < (sz (x + fx 0) (y + fy 0)).toInt then m + 1 else bkF fp fh fr fx fy p B n f (t + 1) 1 (m + 1) (x + fx 0) (y + fy 0)) else bkF fp fh fr fx fy p B n f (t + 1) 1 m x y)) := rfl
theorem bkF_wrap {f t : Nat} {m : Int} {x y : Int32} (h : 0 < n ∨ f = 0) : bkF fp fh fr fx fy p B n f t n m x y = bkF fp fh fr fx fy p B n f (t + 1) 0 m x y := by
  cases f with
  | zero => rfl
  | succ f =>
    have hn : 0 < n := by
      rcases h with h | h
      · exact h
      · exact absurd h (Nat.succ_ne_zero f)
    rw [bkF_s, if_neg (Nat.lt_irrefl n), bkF_s, if_pos hn]
theorem bkF_skip {f t h : Nat} {m : Int} {x y : Int32} (hh : h < n) (q : ¬ okK fp fh fr p t h) : bkF fp fh fr fx fy p B n (f + 1) t h m x y = bkF fp fh fr fx fy p B n f t (h + 1) m x y := by
  rw [bkF_s, if_pos hh, if_neg q]
theorem bkF_pour {f t h : Nat} {m : Int} {x y : Int32} (hh : h < n) (q : okK fp fh fr p t h) : bkF fp fh fr fx fy p B n (f + 1) t h m x y = if B < (sz (x + fx h) (y + fy h)).toInt then m + 1 else bkF fp fh fr fx fy p B n f t (h + 1) (m + 1) (x + fx h) (y + fy h) := by
  rw [bkF_s, if_pos hh, if_pos q]
theorem bkF_end {f t h : Nat} {m : Int} {x y : Int32} (hh : h < n) (q : okK fp fh fr p t h) (e : B < (sz (x + fx h) (y + fy h)).toInt) : bkF fp fh fr fx fy p B n (f + 1) t h m x y = m + 1 := by
  rw [bkF_pour hh q, if_pos e]
theorem bkF_go {f t h : Nat} {m : Int} {x y : Int32} (hh : h < n) (q : okK fp fh fr p t h) (e : ¬ B < (sz (x + fx h) (y + fy h)).toInt) : bkF fp fh fr fx fy p B n (f + 1) t h m x y = bkF fp fh fr fx fy p B n f t (h + 1) (m + 1) (x + fx h) (y + fy h) := by
  rw [bkF_pour hh q, if_neg e]
theorem bkF_none : ∀ {f t h : Nat} {m : Int} {x y : Int32}, h ≤ n → 0 < n → (∀ k, k < n → (fp k).toInt = p → (fr k).toInt - (fh k).toInt ≤ (t : Int) + cn1 k h) → bkF fp fh fr fx fy p B n f t h m x y = -2
  | 0, _, _, _, _, _, _, _, _ => rfl
  | f + 1, t, h, m, x, y, hh, hn, q => by
    rw [bkF_s]
    by_cases c : h < n
    · rw [if_pos c, if_neg (fun z => by
        have w := q h c z.1
        rw [cn1_f (Nat.lt_irrefl h)] at w
        have z2 := z.2
        omega)]
      refine bkF_none (by omega) hn (fun k hk hp => ?_)
      have w := q k hk hp
      by_cases d : k < h
      · rw [cn1_t d] at w
        rw [cn1_t (by omega)]
        exact w
      · rw [cn1_f d] at w
        by_cases e : k < h + 1
        · rw [cn1_t e]
          omega
        · rw [cn1_f e]
          omega
    · rw [if_neg c, if_neg (fun z => by
        have w := q 0 hn z.1
        rw [cn1_t (by omega)] at w
        have z2 := z.2
        omega)]
      refine bkF_none (by omega) hn (fun k hk hp => ?_)
      have w := q k hk hp
      rw [cn1_t (by omega)] at w
      by_cases e : k < 1
      · rw [cn1_t e]
        omega
      · rw [cn1_f e]
        omega
theorem bkF_congr {gp gh gr gx gy : Nat → Int32} (e : ∀ k, k < n → fp k = gp k ∧ fh k = gh k ∧ fr k = gr k ∧ fx k = gx k ∧ fy k = gy k) (hn : 0 < n) : ∀ {f t h : Nat} {m : Int} {x y : Int32}, bkF fp fh fr fx fy p B n f t h m x y = bkF gp gh gr gx gy p B n f t h m x y
  | 0, _, _, _, _, _ => rfl
  | f + 1, t, h, m, x, y => by
    have ok : ∀ t k, k < n → (okK fp fh fr p t k ↔ okK gp gh gr p t k) := by
      intro t k hk
      obtain ⟨a, b, c, -⟩ := e k hk
      unfold okK
      rw [a, b, c]
    rw [bkF_s, bkF_s]
    by_cases c : h < n
    · rw [if_pos c, if_pos c]
      obtain ⟨-, -, -, ex, ey⟩ := e h c
      by_cases d : okK fp fh fr p t h
      · rw [if_pos d, if_pos ((ok t h c).mp d), ex, ey, bkF_congr e hn]
      · rw [if_neg d, if_neg (fun z => d ((ok t h c).mpr z)), bkF_congr e hn]
    · rw [if_neg c, if_neg c]
      obtain ⟨-, -, -, ex, ey⟩ := e 0 hn
      by_cases d : okK fp fh fr p (t + 1) 0
      · rw [if_pos d, if_pos ((ok (t + 1) 0 hn).mp d), ex, ey, bkF_congr e hn]
      · rw [if_neg d, if_neg (fun z => d ((ok (t + 1) 0 hn).mpr z)), bkF_congr e hn]
end BKS
/-- what is left to fill -/
def lfS (fp fr g : Nat → Int32) (p : Int) : Nat → Int
  | 0 => 0
  | n + 1 => lfS fp fr g p n + (if (fp n).toInt = p then (fr n).toInt - (g n).toInt else 0)
section LFS
variable {fp fr g : Nat → Int32} {p : Int}
theorem lfS_yes {n : Nat} (h : (fp n).toInt = p) : lfS fp fr g p (n + 1) = lfS fp fr g p n + ((fr n).toInt - (g n).toInt) := by
  show lfS fp fr g p n + _ = _
  rw [if_pos h]
theorem lfS_no {n : Nat} (h : ¬ (fp n).toInt = p) : lfS fp fr g p (n + 1) = lfS fp fr g p n := by
  show lfS fp fr g p n + _ = _
  rw [if_neg h, Int.add_zero]
theorem lfS_congr {g' : Nat → Int32} : ∀ {n : Nat}, (∀ k, k < n → g k = g' k) → lfS fp fr g p n = lfS fp fr g' p n
  | 0, _ => rfl
  | n + 1, h => by
    have ih := lfS_congr (n := n) (fun k hk => h k (Nat.lt_succ_of_lt hk))
    by_cases c : (fp n).toInt = p
    · rw [lfS_yes c, lfS_yes c, ih, h n (Nat.lt_succ_self n)]
    · rw [lfS_no c, lfS_no c, ih]
theorem lfS_b : ∀ {n : Nat}, (∀ k, k < n → (fp k).toInt = p → 0 ≤ (fr k).toInt - (g k).toInt ∧ (fr k).toInt - (g k).toInt ≤ 9) → 0 ≤ lfS fp fr g p n ∧ lfS fp fr g p n ≤ 9 * (n : Int)
  | 0, _ => ⟨Int.le_refl 0, by show (0 : Int) ≤ 9 * ((0 : Nat) : Int); omega⟩
  | n + 1, h => by
    have ih := lfS_b (n := n) (fun k hk => h k (Nat.lt_succ_of_lt hk))
    by_cases c : (fp n).toInt = p
    · have z := h n (Nat.lt_succ_self n) c
      rw [lfS_yes c]
      omega
    · rw [lfS_no c]
      omega
theorem lfS_zero : ∀ {n : Nat}, (∀ k, k < n → (fp k).toInt = p → 0 ≤ (fr k).toInt - (g k).toInt ∧ (fr k).toInt - (g k).toInt ≤ 9) → lfS fp fr g p n = 0 → ∀ k, k < n → (fp k).toInt = p → (fr k).toInt - (g k).toInt = 0
  | 0, _, _, k, hk, _ => absurd hk (Nat.not_lt_zero k)
  | n + 1, h, e, k, hk, hp => by
    have b := lfS_b (n := n) (fun k hk => h k (Nat.lt_succ_of_lt hk))
    have ih := lfS_zero (n := n) (fun k hk => h k (Nat.lt_succ_of_lt hk))
    by_cases c : (fp n).toInt = p
    · have z := h n (Nat.lt_succ_self n) c
      rw [lfS_yes c] at e
      by_cases d : k = n
      · subst d
        omega
      · exact ih (by omega) k (by omega) hp
    · rw [lfS_no c] at e
      by_cases d : k = n
      · subst d
        exact absurd hp c
      · exact ih e k (by omega) hp
theorem lfS_all : ∀ {n : Nat}, (∀ k, k < n → (fp k).toInt = p → (fr k).toInt - (g k).toInt = 0) → lfS fp fr g p n = 0
  | 0, _ => rfl
  | n + 1, h => by
    have ih := lfS_all (n := n) (fun k hk => h k (Nat.lt_succ_of_lt hk))
    by_cases c : (fp n).toInt = p
    · rw [lfS_yes c, ih, h n (Nat.lt_succ_self n) c]
      rfl
    · rw [lfS_no c, ih]
theorem lfS_upd {u : Nat} {v : Int32} (hu : (fp u).toInt = p) : ∀ {n : Nat}, u < n → lfS fp fr (upd g u v) p n = lfS fp fr g p n - (v.toInt - (g u).toInt)
  | 0, h => absurd h (Nat.not_lt_zero u)
  | n + 1, h => by
    by_cases d : u = n
    · subst d
      rw [lfS_yes hu, lfS_yes hu, upd_at, lfS_congr (g := upd g u v) (g' := g) (fun k hk => upd_off (by omega))]
      omega
    · have ih := lfS_upd (v := v) hu (n := n) (by omega)
      by_cases c : (fp n).toInt = p
      · rw [lfS_yes c, lfS_yes c, ih, upd_off (by omega)]
        omega
      · rw [lfS_no c, lfS_no c, ih]
end LFS
/-- how full the buckets are when the turn t stands at the hole u -/
def FI (fp fo fr g : Nat → Int32) (p : Int) (n t u : Nat) : Prop := ∀ k, k < n → (fp k).toInt = p → (g k).toInt = (fo k).toInt + min ((fr k).toInt - (fo k).toInt) ((t : Int) + cn1 k u)
def nxT (n t u : Nat) : Nat := if u + 1 < n then t else t + 1
def nxU (n u : Nat) : Nat := if u + 1 < n then u + 1 else 0
section FIS
variable {fp fo fr fx fy g : Nat → Int32} {p B : Int} {n t u f : Nat}
theorem cn1_s {k u : Nat} (h : k ≠ u) : cn1 k (u + 1) = cn1 k u := by
  by_cases c : k < u
  · rw [cn1_t c, cn1_t (by omega)]
  · rw [cn1_f c, cn1_f (by omega)]
theorem FI.init (h0 : ∀ k, k < n → g k = fo k) (hr : ∀ k, k < n → 0 ≤ (fr k).toInt - (fo k).toInt) : FI fp fo fr g p n 0 0 := by
  intro k hk hp
  have z := hr k hk
  rw [h0 k hk, cn1_f (by omega)]
  omega
theorem FI.skip (F : FI fp fo fr g p n t u) (q : ¬ okK fp fo fr p t u) : FI fp fo fr g p n t (u + 1) := by
  intro k hk hp
  have z := F k hk hp
  by_cases c : k = u
  · subst c
    have q2 : ¬ (t : Int) < (fr k).toInt - (fo k).toInt := fun w => q ⟨hp, w⟩
    rw [cn1_f (Nat.lt_irrefl k)] at z
    rw [cn1_t (Nat.lt_succ_self k)]
    omega
  · rw [cn1_s c]
    exact z
theorem FI.pour {v : Int32} (F : FI fp fo fr g p n t u) (q : okK fp fo fr p t u) (hv : v.toInt = (g u).toInt + 1) : FI fp fo fr (upd g u v) p n t (u + 1) := by
  intro k hk hp
  have z := F k hk hp
  by_cases c : k = u
  · subst c
    have q2 := q.2
    rw [cn1_f (Nat.lt_irrefl k)] at z
    rw [cn1_t (Nat.lt_succ_self k), upd_at, hv]
    omega
  · rw [cn1_s c, upd_off c]
    exact z
theorem FI.wrap (F : FI fp fo fr g p n t n) : FI fp fo fr g p n (t + 1) 0 := by
  intro k hk hp
  have z := F k hk hp
  rw [cn1_t hk] at z
  rw [cn1_f (by omega)]
  omega
theorem FI.nx (F : FI fp fo fr g p n t (u + 1)) (hu : u < n) : FI fp fo fr g p n (nxT n t u) (nxU n u) := by
  unfold nxT nxU
  by_cases c : u + 1 < n
  · rw [if_pos c, if_pos c]
    exact F
  · rw [if_neg c, if_neg c]
    have e : u + 1 = n := by omega
    rw [e] at F
    exact F.wrap
theorem bkF_nx {m : Int} {x y : Int32} (hu : u < n) : bkF fp fo fr fx fy p B n f t (u + 1) m x y = bkF fp fo fr fx fy p B n f (nxT n t u) (nxU n u) m x y := by
  unfold nxT nxU
  by_cases c : u + 1 < n
  · rw [if_pos c, if_pos c]
  · rw [if_neg c, if_neg c]
    have e : u + 1 = n := by omega
    rw [e]
    exact bkF_wrap (Or.inl (by omega))
theorem fu_nx (hf : f + u = (9 - t) * n) (ht : t ≤ 8) (hu : u < n) : 0 < f ∧ f - 1 + nxU n u = (9 - nxT n t u) * n := by
  have e : (9 - t) * n = (8 - t) * n + n := by
    rw [show 9 - t = (8 - t) + 1 by omega, Nat.succ_mul]
  rw [e] at hf
  unfold nxT nxU
  by_cases c : u + 1 < n
  · rw [if_pos c, if_pos c, e]
    omega
  · rw [if_neg c, if_neg c, show 9 - (t + 1) = 8 - t by omega]
    omega
theorem FI.b (F : FI fp fo fr g p n t u) (H : ∀ k, k < n → 0 ≤ (fo k).toInt ∧ (fo k).toInt ≤ (fr k).toInt ∧ (fr k).toInt ≤ 9) : ∀ k, k < n → (fp k).toInt = p → 0 ≤ (fr k).toInt - (g k).toInt ∧ (fr k).toInt - (g k).toInt ≤ 9 := by
  intro k hk hp
  have z := F k hk hp
  have h := H k hk
  have c : 0 ≤ cn1 k u := by
    by_cases d : k < u
    · rw [cn1_t d]
      decide
    · rw [cn1_f d]
      decide
  omega
theorem FI.t8 (F : FI fp fo fr g p n t u) (H : ∀ k, k < n → 0 ≤ (fo k).toInt ∧ (fo k).toInt ≤ (fr k).toInt ∧ (fr k).toInt ≤ 9) (L : lfS fp fr g p n ≠ 0) : t ≤ 8 := by
  apply Classical.byContradiction
  intro q
  refine L (lfS_all (fun k hk hp => ?_))
  have z := F k hk hp
  have h := H k hk
  have c : 0 ≤ cn1 k u := by
    by_cases d : k < u
    · rw [cn1_t d]
      decide
    · rw [cn1_f d]
      decide
  omega
/-- not full: it pours -/
theorem FI.ok (F : FI fp fo fr g p n t u) (hu : u < n) (hp : (fp u).toInt = p) : okK fp fo fr p t u ↔ (g u).toInt ≠ (fr u).toInt := by
  have z := F u hu hp
  rw [cn1_f (Nat.lt_irrefl u)] at z
  constructor
  · intro q
    have q2 := q.2
    omega
  · intro q
    exact ⟨hp, by omega⟩
theorem bk_skip (hu : u < n) (F : FI fp fo fr g p n t u) (H : ∀ k, k < n → 0 ≤ (fo k).toInt ∧ (fo k).toInt ≤ (fr k).toInt ∧ (fr k).toInt ≤ 9) (L : lfS fp fr g p n ≠ 0) (hf : f + u = (9 - t) * n) (q : ¬ okK fp fo fr p t u) : FI fp fo fr g p n (nxT n t u) (nxU n u) ∧ f - 1 + nxU n u = (9 - nxT n t u) * n ∧ f - 1 < f ∧ ∀ m x y, bkF fp fo fr fx fy p B n f t u m x y = bkF fp fo fr fx fy p B n (f - 1) (nxT n t u) (nxU n u) m x y := by
  have ht := F.t8 H L
  obtain ⟨f0, f1⟩ := fu_nx hf ht hu
  refine ⟨(F.skip q).nx hu, f1, by omega, fun m x y => ?_⟩
  obtain ⟨f', rfl⟩ : ∃ f', f = f' + 1 := ⟨f - 1, by omega⟩
  rw [bkF_skip hu q, bkF_nx hu]
  rfl
theorem bk_pour {v : Int32} (hu : u < n) (F : FI fp fo fr g p n t u) (H : ∀ k, k < n → 0 ≤ (fo k).toInt ∧ (fo k).toInt ≤ (fr k).toInt ∧ (fr k).toInt ≤ 9) (hf : f + u = (9 - t) * n) (q : okK fp fo fr p t u) (hv : v.toInt = (g u).toInt + 1) : FI fp fo fr (upd g u v) p n (nxT n t u) (nxU n u) ∧ f - 1 + nxU n u = (9 - nxT n t u) * n ∧ f - 1 < f ∧ lfS fp fr (upd g u v) p n = lfS fp fr g p n - 1 ∧ ∀ m x y, bkF fp fo fr fx fy p B n f t u m x y = bkH B (sz (x + fx u) (y + fy u)).toInt (m + 1) (bkF fp fo fr fx fy p B n (f - 1) (nxT n t u) (nxU n u) (m + 1) (x + fx u) (y + fy u)) := by
  have ht : t ≤ 8 := by
    have q2 := q.2
    have h := H u hu
    omega
  obtain ⟨f0, f1⟩ := fu_nx hf ht hu
  refine ⟨(F.pour q hv).nx hu, f1, by omega, ?_, fun m x y => ?_⟩
  · rw [lfS_upd q.1 hu, hv]
    omega
  · obtain ⟨f', rfl⟩ : ∃ f', f = f' + 1 := ⟨f - 1, by omega⟩
    rw [bkF_pour hu q, bkF_nx hu]
    rfl
end FIS
theorem rem_nxU {u n : Int32} (hu : 0 ≤ u.toInt ∧ u.toInt < n.toInt) (hn : n.toInt ≤ 16) : (u + 1 - (u + 1) / n * n).toNatClampNeg = nxU n.toInt.toNat u.toNatClampNeg ∧ 0 ≤ (u + 1 - (u + 1) / n * n).toInt ∧ (u + 1 - (u + 1) / n * n).toInt < n.toInt := by
  have e : (u + 1).toInt = u.toInt + 1 := tI_add rfl (show (1 : Int32).toInt = 1 from by decide) (by omega)
  have e2 : (u + 1 - (u + 1) / n * n).toInt = (u.toInt + 1) % n.toInt := by
    rw [irem_v (by omega) (by omega), e]
  show (u + 1 - (u + 1) / n * n).toInt.toNat = nxU n.toInt.toNat u.toInt.toNat ∧ _
  rw [e2]
  unfold nxU
  by_cases c : u.toInt + 1 < n.toInt
  · rw [if_pos (by omega), Int.emod_eq_of_lt (by omega) c]
    omega
  · rw [if_neg (by omega), show u.toInt + 1 = n.toInt by omega, Int.emod_self]
    omega
theorem lead_up {gl : Nat → Int32} {pq x y tx ty : Int32} (hp : 0 ≤ pq.toInt ∧ pq.toInt ≤ 1) : tx + upd (upd gl (2 * pq).toNatClampNeg (gl (2 * pq).toNatClampNeg + x)) (2 * pq + 1).toNatClampNeg (upd gl (2 * pq).toNatClampNeg (gl (2 * pq).toNatClampNeg + x) (2 * pq + 1).toNatClampNeg + y) (2 * pq).toNatClampNeg = tx + gl (2 * pq).toNatClampNeg + x ∧ ty + upd (upd gl (2 * pq).toNatClampNeg (gl (2 * pq).toNatClampNeg + x)) (2 * pq + 1).toNatClampNeg (upd gl (2 * pq).toNatClampNeg (gl (2 * pq).toNatClampNeg + x) (2 * pq + 1).toNatClampNeg + y) (2 * pq + 1).toNatClampNeg = ty + gl (2 * pq + 1).toNatClampNeg + y := by
  have z0 : (0 : Int32).toInt = 0 := by decide
  have z1 : (1 : Int32).toInt = 1 := by decide
  have ne : (2 * pq).toNatClampNeg ≠ (2 * pq + 1).toNatClampNeg := by
    rcases (by omega : pq.toInt = 0 ∨ pq.toInt = 1) with e | e
    · obtain rfl : pq = 0 := Int32.toInt_inj.mp (e.trans z0.symm)
      decide
    · obtain rfl : pq = 1 := Int32.toInt_inj.mp (e.trans z1.symm)
      decide
  refine ⟨?_, ?_⟩
  · rw [upd_off ne, upd_at, add3]
  · rw [upd_at, upd_off (fun q => ne q.symm), add3]
theorem lead_N {fl fp fo fx fy : Nat → Int32} {h : Int} {m pq : Int32} (hp : 0 ≤ pq.toInt ∧ pq.toInt ≤ 1) (hl : ∀ j, j < 4 → fl j = ldq fp (its fo (-1) m) fx fy h.toNat j) : fl (2 * pq).toNatClampNeg = lw fp fo fx pq.toInt h.toNat ∧ fl (2 * pq + 1).toNatClampNeg = lw fp fo fy pq.toInt h.toNat := by
  have z0 : (0 : Int32).toInt = 0 := by decide
  have z1 : (1 : Int32).toInt = 1 := by decide
  have zm : (-1 : Int32).toInt = -1 := by decide
  have en : ∀ (g : Nat → Int32) (w : Int), lw fp (its fo (-1) m) g w h.toNat = lw fp fo g w h.toNat := by
    intro g w
    rw [lw_its]
    exact if_neg (by omega)
  rcases (by omega : pq.toInt = 0 ∨ pq.toInt = 1) with e | e
  · obtain rfl : pq = 0 := Int32.toInt_inj.mp (e.trans z0.symm)
    rw [show ((2 : Int32) * 0).toNatClampNeg = 0 by decide, show ((2 : Int32) * 0 + 1).toNatClampNeg = 1 by decide, hl 0 (by decide), hl 1 (by decide), z0]
    exact ⟨en fx 0, en fy 0⟩
  · obtain rfl : pq = 1 := Int32.toInt_inj.mp (e.trans z1.symm)
    rw [show ((2 : Int32) * 1).toNatClampNeg = 2 by decide, show ((2 : Int32) * 1 + 1).toNatClampNeg = 3 by decide, hl 2 (by decide), hl 3 (by decide), z1]
    exact ⟨en fx 1, en fy 1⟩
def mBk (fp fh fr fx fy : Nat → Int32) (p B : Int) (n : Nat) (X Y : Int32) : Int := if (0 ≤ p ∧ p ≤ 1) ∧ 0 ≤ B then (if B < (sz X Y).toInt then 0 else bkF fp fh fr fx fy p B n (9 * n) 0 0 0 X Y) else -1
theorem mBk_no {fp fh fr fx fy : Nat → Int32} {p B : Int} {n : Nat} {X Y : Int32} (q : ¬ ((0 ≤ p ∧ p ≤ 1) ∧ 0 ≤ B)) : mBk fp fh fr fx fy p B n X Y = -1 := if_neg q
theorem mBk_0 {fp fh fr fx fy : Nat → Int32} {p B : Int} {n : Nat} {X Y : Int32} (q : (0 ≤ p ∧ p ≤ 1) ∧ 0 ≤ B) (e : B < (sz X Y).toInt) : mBk fp fh fr fx fy p B n X Y = 0 := (if_pos q).trans (if_pos e)
theorem mBk_1 {fp fh fr fx fy : Nat → Int32} {p B : Int} {n : Nat} {X Y : Int32} (q : (0 ≤ p ∧ p ≤ 1) ∧ 0 ≤ B) (e : ¬ B < (sz X Y).toInt) : mBk fp fh fr fx fy p B n X Y = bkF fp fh fr fx fy p B n (9 * n) 0 0 0 X Y := (if_pos q).trans (if_neg e)
theorem mBk_i {fp fh fr fx fy : Nat → Int32} {p B : Int} {n : Nat} {X Y : Int32} (q : (0 ≤ p ∧ p ≤ 1) ∧ 0 ≤ B) : mBk fp fh fr fx fy p B n X Y = bkH B (sz X Y).toInt 0 (bkF fp fh fr fx fy p B n (9 * n) 0 0 0 X Y) := if_pos q
/-- an equation that omega does not look into -/
def Eqi (a b : Int) : Prop := a = b
theorem Eqi.out {a b : Int} (h : Eqi a b) : a = b := h
theorem Eqi.tr {a b c : Int} (h : Eqi a b) (e : b = c) : Eqi a c := Eq.trans h e
section BKP
variable {fp fh fr fx fy : Nat → Int32} {p B : Int} {n f t h : Nat}
theorem bkF_skipP {m : Int} {x y : Int32} (f0 : 0 < f) (hh : h < n) (q : ¬ okK fp fh fr p t h) : bkF fp fh fr fx fy p B n f t h m x y = bkF fp fh fr fx fy p B n (f - 1) t (h + 1) m x y := by
  obtain ⟨f', rfl⟩ : ∃ f', f = f' + 1 := ⟨f - 1, by omega⟩
  exact bkF_skip hh q
theorem bkF_goP {m : Int} {x y : Int32} (f0 : 0 < f) (hh : h < n) (q : okK fp fh fr p t h) (e : ¬ B < (sz (x + fx h) (y + fy h)).toInt) : bkF fp fh fr fx fy p B n f t h m x y = bkF fp fh fr fx fy p B n (f - 1) t (h + 1) (m + 1) (x + fx h) (y + fy h) := by
  obtain ⟨f', rfl⟩ : ∃ f', f = f' + 1 := ⟨f - 1, by omega⟩
  exact bkF_go hh q e
theorem bkF_endP {m : Int} {x y : Int32} (f0 : 0 < f) (hh : h < n) (q : okK fp fh fr p t h) (e : B < (sz (x + fx h) (y + fy h)).toInt) : bkF fp fh fr fx fy p B n f t h m x y = m + 1 := by
  obtain ⟨f', rfl⟩ : ∃ f', f = f' + 1 := ⟨f - 1, by omega⟩
  exact bkF_end hh q e
theorem bk_done {g : Nat → Int32} {u : Nat} (hu : u < n ∨ n = 0) (F : FI fp fh fr g p n t u) (H : ∀ k, k < n → 0 ≤ (fh k).toInt ∧ (fh k).toInt ≤ (fr k).toInt ∧ (fr k).toInt ≤ 9) (L : lfS fp fr g p n = 0) (hf : f + u = (9 - t) * n) (m : Int) (x y : Int32) : bkF fp fh fr fx fy p B n f t u m x y = -2 := by
  rcases hu with hu | hu
  · refine bkF_none (by omega) (by omega) (fun k hk hp => ?_)
    have z := lfS_zero (F.b H) L k hk hp
    have w := F k hk hp
    omega
  · subst hu
    have e : f = 0 := by omega
    subst e
    rfl
end BKP
theorem dw_X10_buckets_1 : decode cX10_buckets 1 = .ok (.invokestatic 156, 3) := by decide +kernel
theorem dw_X10_buckets_4 : decode cX10_buckets 4 = .ok (.ifCond .eq 9, 3) := by decide +kernel
theorem dw_X10_buckets_14 : decode cX10_buckets 14 = .ok (.ireturn, 1) := by decide +kernel
theorem dw_X10_buckets_9 : decode cX10_buckets 9 = .ok (.lcmp, 1) := by decide +kernel
theorem dw_X10_buckets_10 : decode cX10_buckets 10 = .ok (.ifCond .ge 5, 3) := by decide +kernel
theorem dw_X10_buckets_18 : decode cX10_buckets 18 = .ok (.invokevirtual 348, 3) := by decide +kernel
theorem dw_X10_buckets_26 : decode cX10_buckets 26 = .ok (.invokevirtual 348, 3) := by decide +kernel
theorem dw_X10_buckets_37 : decode cX10_buckets 37 = .ok (.invokestatic 187, 3) := by decide +kernel
theorem dw_X10_buckets_41 : decode cX10_buckets 41 = .ok (.lcmp, 1) := by decide +kernel
theorem dw_X10_buckets_42 : decode cX10_buckets 42 = .ok (.ifCond .le 5, 3) := by decide +kernel
theorem dw_X10_buckets_57 : decode cX10_buckets 57 = .ok (.if_icmp .ge 111, 3) := by decide +kernel
theorem dw_X10_buckets_170 : decode cX10_buckets 170 = .ok (.ireturn, 1) := by decide +kernel
theorem dw_X10_buckets_66 : decode cX10_buckets 66 = .ok (.getfield 26, 3) := by decide +kernel
theorem dw_X10_buckets_69 : decode cX10_buckets 69 = .ok (.getfield 136, 3) := by decide +kernel
theorem dw_X10_buckets_72 : decode cX10_buckets 72 = .ok (.if_icmp .ge 90, 3) := by decide +kernel
theorem dw_X10_buckets_165 : decode cX10_buckets 165 = .ok (.goto (-112), 3) := by decide +kernel
theorem dw_X10_buckets_76 : decode cX10_buckets 76 = .ok (.getfield 26, 3) := by decide +kernel
theorem dw_X10_buckets_79 : decode cX10_buckets 79 = .ok (.getfield 116, 3) := by decide +kernel
theorem dw_X10_buckets_84 : decode cX10_buckets 84 = .ok (.iaload, 1) := by decide +kernel
theorem dw_X10_buckets_86 : decode cX10_buckets 86 = .ok (.if_icmp .ne 70, 3) := by decide +kernel
theorem dw_X10_buckets_159 : decode cX10_buckets 159 = .ok (.goto (-96), 3) := by decide +kernel
theorem dw_X10_buckets_90 : decode cX10_buckets 90 = .ok (.getfield 26, 3) := by decide +kernel
theorem dw_X10_buckets_95 : decode cX10_buckets 95 = .ok (.invokevirtual 371, 3) := by decide +kernel
theorem dw_X10_buckets_100 : decode cX10_buckets 100 = .ok (.if_icmp .gt 6, 3) := by decide +kernel
theorem dw_X10_buckets_112 : decode cX10_buckets 112 = .ok (.getfield 26, 3) := by decide +kernel
theorem dw_X10_buckets_115 : decode cX10_buckets 115 = .ok (.getfield 119, 3) := by decide +kernel
theorem dw_X10_buckets_120 : decode cX10_buckets 120 = .ok (.iaload, 1) := by decide +kernel
theorem dw_X10_buckets_127 : decode cX10_buckets 127 = .ok (.getfield 26, 3) := by decide +kernel
theorem dw_X10_buckets_130 : decode cX10_buckets 130 = .ok (.getfield 122, 3) := by decide +kernel
theorem dw_X10_buckets_135 : decode cX10_buckets 135 = .ok (.iaload, 1) := by decide +kernel
theorem dw_X10_buckets_145 : decode cX10_buckets 145 = .ok (.invokestatic 187, 3) := by decide +kernel
theorem dw_X10_buckets_149 : decode cX10_buckets 149 = .ok (.lcmp, 1) := by decide +kernel
theorem dw_X10_buckets_150 : decode cX10_buckets 150 = .ok (.ifCond .le 6, 3) := by decide +kernel
theorem dw_X10_buckets_155 : decode cX10_buckets 155 = .ok (.ireturn, 1) := by decide +kernel
theorem dw_X10_buckets_103 : decode cX10_buckets 103 = .ok (.goto 53, 3) := by decide +kernel
theorem dw_X10_buckets_46 : decode cX10_buckets 46 = .ok (.ireturn, 1) := by decide +kernel
abbrev bw_X10_buckets_0_1 : ZB := [(.iload_n 1, .null)]
theorem kw_X10_buckets_0_1 : zchk cX10_buckets bw_X10_buckets_0_1 0 = true ∧ zpc bw_X10_buckets_0_1 0 = 1 := ⟨by decide +kernel, rfl⟩
abbrev bw_X10_buckets_13_14 : ZB := [(.iconst (-1), .int (-1))]
theorem kw_X10_buckets_13_14 : zchk cX10_buckets bw_X10_buckets_13_14 13 = true ∧ zpc bw_X10_buckets_13_14 13 = 14 := ⟨by decide +kernel, rfl⟩
abbrev bw_X10_buckets_7_9 : ZB := [(.lload_n 2, .null), (.lconst 0, .long 0)]
theorem kw_X10_buckets_7_9 : zchk cX10_buckets bw_X10_buckets_7_9 7 = true ∧ zpc bw_X10_buckets_7_9 7 = 9 := ⟨by decide +kernel, rfl⟩
abbrev bw_X10_buckets_15_18 : ZB := [(.aload_n 0, .null), (.iload_n 1, .null), (.iconst 0, .int 0)]
theorem kw_X10_buckets_15_18 : zchk cX10_buckets bw_X10_buckets_15_18 15 = true ∧ zpc bw_X10_buckets_15_18 15 = 18 := ⟨by decide +kernel, rfl⟩
abbrev bw_X10_buckets_21_26 : ZB := [(.istore 4, .null), (.aload_n 0, .null), (.iload_n 1, .null), (.iconst 1, .int 1)]
theorem kw_X10_buckets_21_26 : zchk cX10_buckets bw_X10_buckets_21_26 21 = true ∧ zpc bw_X10_buckets_21_26 21 = 26 := ⟨by decide +kernel, rfl⟩
abbrev bw_X10_buckets_29_37 : ZB := [(.istore 5, .null), (.iload 4, .null), (.i2l, .null), (.iload 5, .null), (.i2l, .null)]
theorem kw_X10_buckets_29_37 : zchk cX10_buckets bw_X10_buckets_29_37 29 = true ∧ zpc bw_X10_buckets_29_37 29 = 37 := ⟨by decide +kernel, rfl⟩
abbrev bw_X10_buckets_40_41 : ZB := [(.lload_n 2, .null)]
theorem kw_X10_buckets_40_41 : zchk cX10_buckets bw_X10_buckets_40_41 40 = true ∧ zpc bw_X10_buckets_40_41 40 = 41 := ⟨by decide +kernel, rfl⟩
abbrev bw_X10_buckets_47_53 : ZB := [(.iconst 0, .int 0), (.istore 6, .null), (.iconst 0, .int 0), (.istore 7, .null)]
theorem kw_X10_buckets_47_53 : zchk cX10_buckets bw_X10_buckets_47_53 47 = true ∧ zpc bw_X10_buckets_47_53 47 = 53 := ⟨by decide +kernel, rfl⟩
abbrev bw_X10_buckets_53_57 : ZB := [(.iload 7, .null), (.bipush 9, .int 9)]
theorem kw_X10_buckets_53_57 : zchk cX10_buckets bw_X10_buckets_53_57 53 = true ∧ zpc bw_X10_buckets_53_57 53 = 57 := ⟨by decide +kernel, rfl⟩
abbrev bw_X10_buckets_168_170 : ZB := [(.bipush (-2), .int (-2))]
theorem kw_X10_buckets_168_170 : zchk cX10_buckets bw_X10_buckets_168_170 168 = true ∧ zpc bw_X10_buckets_168_170 168 = 170 := ⟨by decide +kernel, rfl⟩
abbrev bw_X10_buckets_60_63 : ZB := [(.iconst 0, .int 0), (.istore 8, .null)]
theorem kw_X10_buckets_60_63 : zchk cX10_buckets bw_X10_buckets_60_63 60 = true ∧ zpc bw_X10_buckets_60_63 60 = 63 := ⟨by decide +kernel, rfl⟩
abbrev bw_X10_buckets_63_66 : ZB := [(.iload 8, .null), (.aload_n 0, .null)]
theorem kw_X10_buckets_63_66 : zchk cX10_buckets bw_X10_buckets_63_66 63 = true ∧ zpc bw_X10_buckets_63_66 63 = 66 := ⟨by decide +kernel, rfl⟩
abbrev bw_X10_buckets_162_165 : ZB := [(.iinc 7 1, .int 1)]
theorem kw_X10_buckets_162_165 : zchk cX10_buckets bw_X10_buckets_162_165 162 = true ∧ zpc bw_X10_buckets_162_165 162 = 165 := ⟨by decide +kernel, rfl⟩
abbrev bw_X10_buckets_75_76 : ZB := [(.aload_n 0, .null)]
theorem kw_X10_buckets_75_76 : zchk cX10_buckets bw_X10_buckets_75_76 75 = true ∧ zpc bw_X10_buckets_75_76 75 = 76 := ⟨by decide +kernel, rfl⟩
abbrev bw_X10_buckets_82_84 : ZB := [(.iload 8, .null)]
theorem kw_X10_buckets_82_84 : zchk cX10_buckets bw_X10_buckets_82_84 82 = true ∧ zpc bw_X10_buckets_82_84 82 = 84 := ⟨by decide +kernel, rfl⟩
abbrev bw_X10_buckets_85_86 : ZB := [(.iload_n 1, .null)]
theorem kw_X10_buckets_85_86 : zchk cX10_buckets bw_X10_buckets_85_86 85 = true ∧ zpc bw_X10_buckets_85_86 85 = 86 := ⟨by decide +kernel, rfl⟩
abbrev bw_X10_buckets_156_159 : ZB := [(.iinc 8 1, .int 1)]
theorem kw_X10_buckets_156_159 : zchk cX10_buckets bw_X10_buckets_156_159 156 = true ∧ zpc bw_X10_buckets_156_159 156 = 159 := ⟨by decide +kernel, rfl⟩
abbrev bw_X10_buckets_89_90 : ZB := [(.aload_n 0, .null)]
theorem kw_X10_buckets_89_90 : zchk cX10_buckets bw_X10_buckets_89_90 89 = true ∧ zpc bw_X10_buckets_89_90 89 = 90 := ⟨by decide +kernel, rfl⟩
abbrev bw_X10_buckets_93_95 : ZB := [(.iload 8, .null)]
theorem kw_X10_buckets_93_95 : zchk cX10_buckets bw_X10_buckets_93_95 93 = true ∧ zpc bw_X10_buckets_93_95 93 = 95 := ⟨by decide +kernel, rfl⟩
abbrev bw_X10_buckets_98_100 : ZB := [(.iload 7, .null)]
theorem kw_X10_buckets_98_100 : zchk cX10_buckets bw_X10_buckets_98_100 98 = true ∧ zpc bw_X10_buckets_98_100 98 = 100 := ⟨by decide +kernel, rfl⟩
abbrev bw_X10_buckets_106_112 : ZB := [(.iinc 6 1, .int 1), (.iload 4, .null), (.aload_n 0, .null)]
theorem kw_X10_buckets_106_112 : zchk cX10_buckets bw_X10_buckets_106_112 106 = true ∧ zpc bw_X10_buckets_106_112 106 = 112 := ⟨by decide +kernel, rfl⟩
abbrev bw_X10_buckets_118_120 : ZB := [(.iload 8, .null)]
theorem kw_X10_buckets_118_120 : zchk cX10_buckets bw_X10_buckets_118_120 118 = true ∧ zpc bw_X10_buckets_118_120 118 = 120 := ⟨by decide +kernel, rfl⟩
abbrev bw_X10_buckets_121_127 : ZB := [(.iadd, .null), (.istore 4, .null), (.iload 5, .null), (.aload_n 0, .null)]
theorem kw_X10_buckets_121_127 : zchk cX10_buckets bw_X10_buckets_121_127 121 = true ∧ zpc bw_X10_buckets_121_127 121 = 127 := ⟨by decide +kernel, rfl⟩
abbrev bw_X10_buckets_133_135 : ZB := [(.iload 8, .null)]
theorem kw_X10_buckets_133_135 : zchk cX10_buckets bw_X10_buckets_133_135 133 = true ∧ zpc bw_X10_buckets_133_135 133 = 135 := ⟨by decide +kernel, rfl⟩
abbrev bw_X10_buckets_136_145 : ZB := [(.iadd, .null), (.istore 5, .null), (.iload 4, .null), (.i2l, .null), (.iload 5, .null), (.i2l, .null)]
theorem kw_X10_buckets_136_145 : zchk cX10_buckets bw_X10_buckets_136_145 136 = true ∧ zpc bw_X10_buckets_136_145 136 = 145 := ⟨by decide +kernel, rfl⟩
abbrev bw_X10_buckets_148_149 : ZB := [(.lload_n 2, .null)]
theorem kw_X10_buckets_148_149 : zchk cX10_buckets bw_X10_buckets_148_149 148 = true ∧ zpc bw_X10_buckets_148_149 148 = 149 := ⟨by decide +kernel, rfl⟩
abbrev bw_X10_buckets_153_155 : ZB := [(.iload 6, .null)]
theorem kw_X10_buckets_153_155 : zchk cX10_buckets bw_X10_buckets_153_155 153 = true ∧ zpc bw_X10_buckets_153_155 153 = 155 := ⟨by decide +kernel, rfl⟩
abbrev bw_X10_buckets_45_46 : ZB := [(.iconst 0, .int 0)]
theorem kw_X10_buckets_45_46 : zchk cX10_buckets bw_X10_buckets_45_46 45 = true ∧ zpc bw_X10_buckets_45_46 45 = 46 := ⟨by decide +kernel, rfl⟩
set_option maxHeartbeats 4000000 in
set_option maxRecDepth 100000 in
theorem cw_X10_buckets (l : Launch) (G : KG) (x : Nat) (x_told : Value) (x_reader : Value) (ring : Nat) (x_speeds : Value) (x_wheel : Value) (x_trials : Value) (x_span : Value) (x_search : Value) (x_kept : Value) (x_crosses : Value) (x_trueMasses : Value) (thought : Nat) (x_up : Value) (x_low : Value) (x_fits : Value) (x_pulls : Value) (hc : Int32) (rp : Nat) (rx : Nat) (ry : Nat) (rr : Nat) (rh : Nat) (g_rd : Value) (ph : Int32) (po : Int32) (fp : Nat → Int32) (fx : Nat → Int32) (fy : Nat → Int32) (fr : Nat → Int32) (fh : Nat → Int32) (ft : Nat → Int32) (pq : Int32) (bq : Int64) (hci : Int) (pi : Int) (bi : Int) (hhc : hc.toInt = hci) (hpq : pq.toInt = pi) (hbq : bq.toInt = bi) (hc0 : 0 ≤ hci ∧ hci ≤ 16) (hsb : 0 ≤ pi ∧ pi ≤ 1 → SB hci fp fh fr fx fy (tX ft pq) (tY ft pq)) : Ct l G yX10_buckets cX10_buckets 9 (some .int) { frames := 2, cells := 0, slots := 0, locals := 47 } [.ref x, .int pq, .long bq] [(x, ob 10 [x_told, x_reader, .ref ring, x_speeds, x_wheel, x_trials, x_span, x_search, x_kept, x_crosses, x_trueMasses, .ref thought, x_up, x_low, x_fits, x_pulls]), (ring, ob 5 [.int hc, .ref rp, .ref rx, .ref ry, .ref rr, .ref rh, g_rd, .int ph, .int po]), (rp, aI G 16 fp), (rx, aI G 16 fx), (ry, aI G 16 fy), (rr, aI G 16 fr), (rh, aI G 16 fh), (thought, aI G 8 ft)] (fun r w1 => ∃ (rz : Int32), (rz.toInt = (mBk fp fh fr fx fy pi bi hci.toNat (tX ft pq + lw fp fh fx pi hci.toNat) (tY ft pq + lw fp fh fy pi hci.toNat))) ∧ r = some (.int rz) ∧ w1 = [(x, ob 10 [x_told, x_reader, .ref ring, x_speeds, x_wheel, x_trials, x_span, x_search, x_kept, x_crosses, x_trueMasses, .ref thought, x_up, x_low, x_fits, x_pulls]), (ring, ob 5 [.int hc, .ref rp, .ref rx, .ref ry, .ref rr, .ref rh, g_rd, .int ph, .int po]), (rp, aI G 16 fp), (rx, aI G 16 fx), (ry, aI G 16 fy), (rr, aI G 16 fr), (rh, aI G 16 fh), (thought, aI G 8 ft)]) := by
  refine ct_of [(0, .ref x), (1, .int pq), (2, .long bq)] (by decide) (Nat.le_of_ble_eq_true rfl) rfl ?_
  intro p0 e0 s0 m0 args0 below0 meth0 c0 A X
  refine z_run X bw_X10_buckets_0_1 kw_X10_buckets_0_1 (lv' := [(0, .ref x), (1, .int pq), (2, .long bq)]) (st' := [.int pq]) rfl ?_
  refine z_callS X k_10_156 (cg_X10_isOneOfTwo l G pq pi hpq) dw_X10_buckets_1 ⟨Nat.le_of_ble_eq_true rfl, Nat.le_of_ble_eq_true rfl⟩ ⟨Nat.le_of_ble_eq_true rfl, Nat.le_of_ble_eq_true rfl⟩ rfl (rest := []) (As := [.int pq]) rfl (Nat.le_of_ble_eq_true rfl) [] [0, 1, 2, 3, 4, 5, 6, 7] rfl (by decide) (wr := [(x, ob 10 [x_told, x_reader, .ref ring, x_speeds, x_wheel, x_trials, x_span, x_search, x_kept, x_crosses, x_trueMasses, .ref thought, x_up, x_low, x_fits, x_pulls]), (ring, ob 5 [.int hc, .ref rp, .ref rx, .ref ry, .ref rr, .ref rh, g_rd, .int ph, .int po]), (rp, aI G 16 fp), (rx, aI G 16 fx), (ry, aI G 16 fy), (rr, aI G 16 fr), (rh, aI G 16 fh), (thought, aI G 8 ft)]) rfl (by decide) (by decide) ?_
  rintro _ _ ⟨rfl, rfl⟩
  refine Z.at (pc' := 4) (st' := [.int (zb (decide (0 ≤ pi ∧ pi ≤ 1)))]) (ws' := [(x, ob 10 [x_told, x_reader, .ref ring, x_speeds, x_wheel, x_trials, x_span, x_search, x_kept, x_crosses, x_trueMasses, .ref thought, x_up, x_low, x_fits, x_pulls]), (ring, ob 5 [.int hc, .ref rp, .ref rx, .ref ry, .ref rr, .ref rh, g_rd, .int ph, .int po]), (rp, aI G 16 fp), (rx, aI G 16 fx), (ry, aI G 16 fy), (rr, aI G 16 fr), (rh, aI G 16 fh), (thought, aI G 8 ft)]) (kc' := 0) (ks' := 0) rfl rfl rfl rfl rfl ?_
  refine zi_eq_zb X dw_X10_buckets_4 (tgt := 13) (by decide) (fun c4_1 => ?_) (fun c4_1 => ?_)
  ·
    refine z_run X bw_X10_buckets_13_14 kw_X10_buckets_13_14 (lv' := [(0, .ref x), (1, .int pq), (2, .long bq)]) (st' := [.int (-1)]) rfl ?_
    exact z_iret X rfl dw_X10_buckets_14 (Nat.le_of_ble_eq_true rfl) (Nat.le_of_ble_eq_true rfl) ⟨((-1) : Int32), ((show (-1 : Int32).toInt = -1 from by decide).trans (mBk_no (by omega)).symm), rfl, rfl⟩
  ·
    refine z_run X bw_X10_buckets_7_9 kw_X10_buckets_7_9 (lv' := [(0, .ref x), (1, .int pq), (2, .long bq)]) (st' := [.long 0, .long bq]) rfl ?_
    refine zl_ge X dw_X10_buckets_9 dw_X10_buckets_10 (tgt := 15) (by decide) (a := bi) (b := 0) hbq (show (0 : Int64).toInt = 0 from by decide) (fun c9_2 => ?_) (fun c9_2 => ?_)
    ·
      refine z_run X bw_X10_buckets_15_18 kw_X10_buckets_15_18 (lv' := [(0, .ref x), (1, .int pq), (2, .long bq)]) (st' := [.int 0, .int pq, .ref x]) rfl ?_
      refine z_callV X k_10_348 (cg_X10_unmended l G x x_told x_reader ring x_speeds x_wheel x_trials x_span x_search x_kept x_crosses x_trueMasses thought x_up x_low x_fits x_pulls hc rp rx ry (.ref rr) rh g_rd ph po fp fx fy fh ft pq 0 hci pi 0 hhc hpq (show (0 : Int32).toInt = 0 from by decide) (by omega) (by omega) (by omega)) dw_X10_buckets_18 0 rfl rfl rfl ⟨Nat.le_of_ble_eq_true rfl, Nat.le_of_ble_eq_true rfl⟩ ⟨Nat.le_of_ble_eq_true rfl, Nat.le_of_ble_eq_true rfl⟩ rfl (rest := []) (As := [.int pq, .int 0]) rfl (Nat.le_of_ble_eq_true rfl) [0, 1, 2, 3, 4, 6, 7] [5] rfl (by decide) (wr := [(rr, aI G 16 fr)]) rfl (by decide) (by decide) ?_
      rintro _ _ ⟨rz_3, f18_4, rfl, rfl⟩
      refine Z.at (pc' := 21) (st' := [.int rz_3]) (ws' := [(rr, aI G 16 fr), (x, ob 10 [x_told, x_reader, .ref ring, x_speeds, x_wheel, x_trials, x_span, x_search, x_kept, x_crosses, x_trueMasses, .ref thought, x_up, x_low, x_fits, x_pulls]), (ring, ob 5 [.int hc, .ref rp, .ref rx, .ref ry, .ref rr, .ref rh, g_rd, .int ph, .int po]), (rp, aI G 16 fp), (rx, aI G 16 fx), (ry, aI G 16 fy), (rh, aI G 16 fh), (thought, aI G 8 ft)]) (kc' := 0) (ks' := 0) rfl rfl rfl rfl rfl ?_
      refine z_run X bw_X10_buckets_21_26 kw_X10_buckets_21_26 (lv' := [(4, .int rz_3), (0, .ref x), (1, .int pq), (2, .long bq)]) (st' := [.int 1, .int pq, .ref x]) rfl ?_
      refine z_callV X k_10_348 (cg_X10_unmended l G x x_told x_reader ring x_speeds x_wheel x_trials x_span x_search x_kept x_crosses x_trueMasses thought x_up x_low x_fits x_pulls hc rp rx ry (.ref rr) rh g_rd ph po fp fx fy fh ft pq 1 hci pi 1 hhc hpq (show (1 : Int32).toInt = 1 from by decide) (by omega) (by omega) (by omega)) dw_X10_buckets_26 1 rfl rfl rfl ⟨Nat.le_of_ble_eq_true rfl, Nat.le_of_ble_eq_true rfl⟩ ⟨Nat.le_of_ble_eq_true rfl, Nat.le_of_ble_eq_true rfl⟩ rfl (rest := []) (As := [.int pq, .int 1]) rfl (Nat.le_of_ble_eq_true rfl) [1, 2, 3, 4, 5, 6, 7] [0] rfl (by decide) (wr := [(rr, aI G 16 fr)]) rfl (by decide) (by decide) ?_
      rintro _ _ ⟨rz_5, f26_6, rfl, rfl⟩
      refine Z.at (pc' := 29) (st' := [.int rz_5]) (ws' := [(rr, aI G 16 fr), (x, ob 10 [x_told, x_reader, .ref ring, x_speeds, x_wheel, x_trials, x_span, x_search, x_kept, x_crosses, x_trueMasses, .ref thought, x_up, x_low, x_fits, x_pulls]), (ring, ob 5 [.int hc, .ref rp, .ref rx, .ref ry, .ref rr, .ref rh, g_rd, .int ph, .int po]), (rp, aI G 16 fp), (rx, aI G 16 fx), (ry, aI G 16 fy), (rh, aI G 16 fh), (thought, aI G 8 ft)]) (kc' := 0) (ks' := 0) rfl rfl rfl rfl rfl ?_
      refine z_run X bw_X10_buckets_29_37 kw_X10_buckets_29_37 (lv' := [(5, .int rz_5), (4, .int rz_3), (0, .ref x), (1, .int pq), (2, .long bq)]) (st' := [.long rz_5.toInt64, .long rz_3.toInt64]) rfl ?_
      refine z_callS X k_10_187 (cg_X10_sizeOf l G rz_3.toInt64 rz_5.toInt64) dw_X10_buckets_37 ⟨Nat.le_of_ble_eq_true rfl, Nat.le_of_ble_eq_true rfl⟩ ⟨Nat.le_of_ble_eq_true rfl, Nat.le_of_ble_eq_true rfl⟩ rfl (rest := []) (As := [.long rz_3.toInt64, .long rz_5.toInt64]) rfl (Nat.le_of_ble_eq_true rfl) [] [0, 1, 2, 3, 4, 5, 6, 7] rfl (by decide) (wr := [(rr, aI G 16 fr), (x, ob 10 [x_told, x_reader, .ref ring, x_speeds, x_wheel, x_trials, x_span, x_search, x_kept, x_crosses, x_trueMasses, .ref thought, x_up, x_low, x_fits, x_pulls]), (ring, ob 5 [.int hc, .ref rp, .ref rx, .ref ry, .ref rr, .ref rh, g_rd, .int ph, .int po]), (rp, aI G 16 fp), (rx, aI G 16 fx), (ry, aI G 16 fy), (rh, aI G 16 fh), (thought, aI G 8 ft)]) rfl (by decide) (by decide) ?_
      rintro _ _ ⟨rz_7, f37_8, rfl, rfl⟩
      refine Z.at (pc' := 40) (st' := [.long rz_7]) (ws' := [(rr, aI G 16 fr), (x, ob 10 [x_told, x_reader, .ref ring, x_speeds, x_wheel, x_trials, x_span, x_search, x_kept, x_crosses, x_trueMasses, .ref thought, x_up, x_low, x_fits, x_pulls]), (ring, ob 5 [.int hc, .ref rp, .ref rx, .ref ry, .ref rr, .ref rh, g_rd, .int ph, .int po]), (rp, aI G 16 fp), (rx, aI G 16 fx), (ry, aI G 16 fy), (rh, aI G 16 fh), (thought, aI G 8 ft)]) (kc' := 0) (ks' := 0) rfl rfl rfl rfl rfl ?_
      refine z_run X bw_X10_buckets_40_41 kw_X10_buckets_40_41 (lv' := [(5, .int rz_5), (4, .int rz_3), (0, .ref x), (1, .int pq), (2, .long bq)]) (st' := [.long bq, .long rz_7]) rfl ?_
      refine zl_le X dw_X10_buckets_41 dw_X10_buckets_42 (tgt := 47) (by decide) (a := rz_7.toInt) (b := bi) rfl hbq (fun c41_9 => ?_) (fun c41_9 => ?_)
      ·
        have hs0 : rz_7.toInt = (sz (tX ft pq + lw fp fh fx pi hci.toNat) (tY ft pq + lw fp fh fy pi hci.toNat)).toInt := by rw [f37_8, f18_4, f26_6]; rfl
        refine z_run X bw_X10_buckets_47_53 kw_X10_buckets_47_53 (lv' := [(7, .int 0), (6, .int 0), (5, .int rz_5), (4, .int rz_3), (0, .ref x), (1, .int pq), (2, .long bq)]) (st' := []) rfl ?_
        refine zloop (σ := Int32 × Int32 × Int32 × Int32 × Nat) (fun z => [(7, .int z.1), (6, .int z.2.1), (5, .int z.2.2.2.1), (4, .int z.2.2.1), (0, .ref x), (1, .int pq), (2, .long bq)]) (fun z => []) (fun z => [(rr, aI G 16 fr), (x, ob 10 [x_told, x_reader, .ref ring, x_speeds, x_wheel, x_trials, x_span, x_search, x_kept, x_crosses, x_trueMasses, .ref thought, x_up, x_low, x_fits, x_pulls]), (ring, ob 5 [.int hc, .ref rp, .ref rx, .ref ry, .ref rr, .ref rh, g_rd, .int ph, .int po]), (rp, aI G 16 fp), (rx, aI G 16 fx), (ry, aI G 16 fy), (rh, aI G 16 fh), (thought, aI G 8 ft)]) (fun z => (0 ≤ z.1.toInt ∧ z.1.toInt ≤ 9) ∧ (0 ≤ z.2.1.toInt ∧ z.2.1.toInt ≤ 16 * z.1.toInt) ∧ (z.2.2.2.2 = (9 - z.1.toInt).toNat * hci.toNat) ∧ ((bkF fp fh fr fx fy pi bi hci.toNat (9 * hci.toNat) 0 0 0 (tX ft pq + lw fp fh fx pi hci.toNat) (tY ft pq + lw fp fh fy pi hci.toNat)) = (bkF fp fh fr fx fy pi bi hci.toNat z.2.2.2.2 z.1.toInt.toNat 0 z.2.1.toInt z.2.2.1 z.2.2.2.1))) (fun z => (9 - z.1.toInt).toNat) (0, 0, rz_3, rz_5, (9 * hci.toNat)) ?_ ?_
        ·
          rintro ⟨t_, m_, x_, y_, f_⟩ ⟨hi, hm, hf, hk⟩ ih53
          dsimp only at *
          refine z_run X bw_X10_buckets_53_57 kw_X10_buckets_53_57 (lv' := [(7, .int t_), (6, .int m_), (5, .int y_), (4, .int x_), (0, .ref x), (1, .int pq), (2, .long bq)]) (st' := [.int 9, .int t_]) rfl ?_
          refine zc_ge X dw_X10_buckets_57 (tgt := 168) (by decide) (a := t_.toInt) (b := 9) rfl (show (9 : Int32).toInt = 9 from by decide) (fun c57_10 => ?_) (fun c57_10 => ?_)
          ·
            refine z_run X bw_X10_buckets_168_170 kw_X10_buckets_168_170 (lv' := [(7, .int t_), (6, .int m_), (5, .int y_), (4, .int x_), (0, .ref x), (1, .int pq), (2, .long bq)]) (st' := [.int (-2)]) rfl ?_
            refine Z.sub (lv' := []) [] rfl [1, 2, 3, 4, 5, 0, 6, 7] (ws' := [(x, ob 10 [x_told, x_reader, .ref ring, x_speeds, x_wheel, x_trials, x_span, x_search, x_kept, x_crosses, x_trueMasses, .ref thought, x_up, x_low, x_fits, x_pulls]), (ring, ob 5 [.int hc, .ref rp, .ref rx, .ref ry, .ref rr, .ref rh, g_rd, .int ph, .int po]), (rp, aI G 16 fp), (rx, aI G 16 fx), (ry, aI G 16 fy), (rr, aI G 16 fr), (rh, aI G 16 fh), (thought, aI G 8 ft)]) rfl (by decide) ?_
            exact z_iret X rfl dw_X10_buckets_170 (Nat.le_of_ble_eq_true rfl) (Nat.le_of_ble_eq_true rfl) ⟨((-2) : Int32), (by rw [mBk_1 (by omega) (by omega), hk, hf, show (9 - t_.toInt).toNat = 0 by omega, Nat.zero_mul]; exact (show (-2 : Int32).toInt = -2 from by decide)), rfl, rfl⟩
          ·
            refine z_run X bw_X10_buckets_60_63 kw_X10_buckets_60_63 (lv' := [(8, .int 0), (7, .int t_), (6, .int m_), (5, .int y_), (4, .int x_), (0, .ref x), (1, .int pq), (2, .long bq)]) (st' := []) rfl ?_
            refine zloop (σ := Int32 × Int32 × Int32 × Int32 × Nat) (fun z => [(8, .int z.1), (7, .int t_), (6, .int z.2.1), (5, .int z.2.2.2.1), (4, .int z.2.2.1), (0, .ref x), (1, .int pq), (2, .long bq)]) (fun z => []) (fun z => [(rr, aI G 16 fr), (x, ob 10 [x_told, x_reader, .ref ring, x_speeds, x_wheel, x_trials, x_span, x_search, x_kept, x_crosses, x_trueMasses, .ref thought, x_up, x_low, x_fits, x_pulls]), (ring, ob 5 [.int hc, .ref rp, .ref rx, .ref ry, .ref rr, .ref rh, g_rd, .int ph, .int po]), (rp, aI G 16 fp), (rx, aI G 16 fx), (ry, aI G 16 fy), (rh, aI G 16 fh), (thought, aI G 8 ft)]) (fun z => (0 ≤ z.1.toInt ∧ z.1.toInt ≤ hci) ∧ (0 ≤ z.2.1.toInt ∧ z.2.1.toInt ≤ 16 * t_.toInt + z.1.toInt) ∧ (z.2.2.2.2 + z.1.toInt.toNat = (8 - t_.toInt).toNat * hci.toNat + hci.toNat) ∧ ((bkF fp fh fr fx fy pi bi hci.toNat (9 * hci.toNat) 0 0 0 (tX ft pq + lw fp fh fx pi hci.toNat) (tY ft pq + lw fp fh fy pi hci.toNat)) = (bkF fp fh fr fx fy pi bi hci.toNat z.2.2.2.2 t_.toInt.toNat z.1.toInt.toNat z.2.1.toInt z.2.2.1 z.2.2.2.1))) (fun z => (hci - z.1.toInt).toNat) (0, m_, x_, y_, f_) ?_ ?_
            ·
              rintro ⟨hh_, mm_, xx_, yy_, ff_⟩ ⟨gi, gm, gf, gk⟩ ih63
              dsimp only at *
              refine z_run X bw_X10_buckets_63_66 kw_X10_buckets_63_66 (lv' := [(8, .int hh_), (7, .int t_), (6, .int mm_), (5, .int yy_), (4, .int xx_), (0, .ref x), (1, .int pq), (2, .long bq)]) (st' := [.ref x, .int hh_]) rfl ?_
              refine z_get X fl_10_26 dw_X10_buckets_66 1 rfl (v := .ref ring) rfl ?_
              refine z_getN X fl_10_136 dw_X10_buckets_69 2 rfl (v := .int hc) rfl ?_
              refine zc_ge X dw_X10_buckets_72 (tgt := 162) (by decide) (a := hh_.toInt) (b := hci) rfl hhc (fun c72_11 => ?_) (fun c72_11 => ?_)
              ·
                refine z_run X bw_X10_buckets_162_165 kw_X10_buckets_162_165 (lv' := [(7, .int (t_ + 1)), (8, .int hh_), (6, .int mm_), (5, .int yy_), (4, .int xx_), (0, .ref x), (1, .int pq), (2, .long bq)]) (st' := []) rfl ?_
                refine z_goto X dw_X10_buckets_165 (tgt := 53) (by decide) ?_
                refine Z.sub (lv' := [(7, .int (t_ + 1)), (6, .int mm_), (5, .int yy_), (4, .int xx_), (0, .ref x), (1, .int pq), (2, .long bq)]) [0, 2, 3, 4, 5, 6, 7] rfl [0, 1, 2, 3, 4, 5, 6, 7] (ws' := [(rr, aI G 16 fr), (x, ob 10 [x_told, x_reader, .ref ring, x_speeds, x_wheel, x_trials, x_span, x_search, x_kept, x_crosses, x_trueMasses, .ref thought, x_up, x_low, x_fits, x_pulls]), (ring, ob 5 [.int hc, .ref rp, .ref rx, .ref ry, .ref rr, .ref rh, g_rd, .int ph, .int po]), (rp, aI G 16 fp), (rx, aI G 16 fx), (ry, aI G 16 fy), (rh, aI G 16 fh), (thought, aI G 8 ft)]) rfl (by decide) ?_
                exact ih53 ((t_ + 1), mm_, xx_, yy_, ff_) ⟨(by dsimp only; have e : (t_ + 1).toInt = t_.toInt + 1 := tI_add rfl (show (1 : Int32).toInt = 1 from by decide) (by omega); omega), (by dsimp only; have e : (t_ + 1).toInt = t_.toInt + 1 := tI_add rfl (show (1 : Int32).toInt = 1 from by decide) (by omega); omega), (by dsimp only; have e : (t_ + 1).toInt = t_.toInt + 1 := tI_add rfl (show (1 : Int32).toInt = 1 from by decide) (by omega); rw [e, show (9 - (t_.toInt + 1)).toNat = (8 - t_.toInt).toNat by omega]; omega), (by dsimp only; have e : (t_ + 1).toInt = t_.toInt + 1 := tI_add rfl (show (1 : Int32).toInt = 1 from by decide) (by omega); rw [e, show (t_.toInt + 1).toNat = t_.toInt.toNat + 1 by omega]; rw [show hh_.toInt.toNat = hci.toNat by omega] at gk gf; exact gk.trans (bkF_wrap (by rcases Nat.eq_zero_or_pos hci.toNat with z | z; (exact Or.inr (by rw [z, Nat.mul_zero] at gf; omega)); (exact Or.inl z))))⟩ (by dsimp only; have e : (t_ + 1).toInt = t_.toInt + 1 := tI_add rfl (show (1 : Int32).toInt = 1 from by decide) (by omega); omega)
              ·
                refine z_run X bw_X10_buckets_75_76 kw_X10_buckets_75_76 (lv' := [(8, .int hh_), (7, .int t_), (6, .int mm_), (5, .int yy_), (4, .int xx_), (0, .ref x), (1, .int pq), (2, .long bq)]) (st' := [.ref x]) rfl ?_
                refine z_get X fl_10_26 dw_X10_buckets_76 1 rfl (v := .ref ring) rfl ?_
                refine z_getN X fl_10_116 dw_X10_buckets_79 2 rfl (v := .ref rp) rfl ?_
                refine z_run X bw_X10_buckets_82_84 kw_X10_buckets_82_84 (lv' := [(8, .int hh_), (7, .int t_), (6, .int mm_), (5, .int yy_), (4, .int xx_), (0, .ref x), (1, .int pq), (2, .long bq)]) (st' := [.int hh_, .ref rp]) rfl ?_
                refine z_iald X dw_X10_buckets_84 3 rfl (vin rfl (by omega) (by omega)) (v := (fp hh_.toNatClampNeg)) rfl ?_
                refine z_run X bw_X10_buckets_85_86 kw_X10_buckets_85_86 (lv' := [(8, .int hh_), (7, .int t_), (6, .int mm_), (5, .int yy_), (4, .int xx_), (0, .ref x), (1, .int pq), (2, .long bq)]) (st' := [.int pq, .int (fp hh_.toNatClampNeg)]) rfl ?_
                refine zc_ne X dw_X10_buckets_86 (tgt := 156) (by decide) (a := (fp hh_.toNatClampNeg).toInt) (b := pi) rfl hpq (fun c86_12 => ?_) (fun c86_12 => ?_)
                ·
                  refine z_run X bw_X10_buckets_156_159 kw_X10_buckets_156_159 (lv' := [(8, .int (hh_ + 1)), (7, .int t_), (6, .int mm_), (5, .int yy_), (4, .int xx_), (0, .ref x), (1, .int pq), (2, .long bq)]) (st' := []) rfl ?_
                  refine z_goto X dw_X10_buckets_159 (tgt := 63) (by decide) ?_
                  exact ih63 ((hh_ + 1), mm_, xx_, yy_, (ff_ - 1)) ⟨(by dsimp only; have e : (hh_ + 1).toInt = hh_.toInt + 1 := tI_add rfl (show (1 : Int32).toInt = 1 from by decide) (by omega); omega), (by dsimp only; have e : (hh_ + 1).toInt = hh_.toInt + 1 := tI_add rfl (show (1 : Int32).toInt = 1 from by decide) (by omega); omega), (by dsimp only; have e : (hh_ + 1).toInt = hh_.toInt + 1 := tI_add rfl (show (1 : Int32).toInt = 1 from by decide) (by omega); rw [e, show (hh_.toInt + 1).toNat = hh_.toInt.toNat + 1 by omega]; omega), (by dsimp only; have e : (hh_ + 1).toInt = hh_.toInt + 1 := tI_add rfl (show (1 : Int32).toInt = 1 from by decide) (by omega); rw [e, show (hh_.toInt + 1).toNat = hh_.toInt.toNat + 1 by omega]; exact gk.trans (bkF_skipP (by omega) (show hh_.toInt.toNat < hci.toNat by omega) (show ¬ okK fp fh fr pi t_.toInt.toNat hh_.toNatClampNeg by unfold okK; omega)))⟩ (by dsimp only; have e : (hh_ + 1).toInt = hh_.toInt + 1 := tI_add rfl (show (1 : Int32).toInt = 1 from by decide) (by omega); omega)
                ·
                  refine z_run X bw_X10_buckets_89_90 kw_X10_buckets_89_90 (lv' := [(8, .int hh_), (7, .int t_), (6, .int mm_), (5, .int yy_), (4, .int xx_), (0, .ref x), (1, .int pq), (2, .long bq)]) (st' := [.ref x]) rfl ?_
                  refine z_get X fl_10_26 dw_X10_buckets_90 1 rfl (v := .ref ring) rfl ?_
                  refine z_run X bw_X10_buckets_93_95 kw_X10_buckets_93_95 (lv' := [(8, .int hh_), (7, .int t_), (6, .int mm_), (5, .int yy_), (4, .int xx_), (0, .ref x), (1, .int pq), (2, .long bq)]) (st' := [.int hh_, .ref ring]) rfl ?_
                  refine z_callV X k_10_371 (cg_X5_roomLeft l G ring hc (.ref rp) (.ref rx) (.ref ry) rr rh g_rd (.int ph) (.int po) fr fh hh_ hh_.toInt rfl (by omega) ((hsb (by omega)).hr _ (show ((hh_.toInt.toNat : Nat) : Int) < hci by omega)) ((hsb (by omega)).hh _ (show ((hh_.toInt.toNat : Nat) : Int) < hci by omega))) dw_X10_buckets_95 2 rfl rfl rfl ⟨Nat.le_of_ble_eq_true rfl, Nat.le_of_ble_eq_true rfl⟩ ⟨Nat.le_of_ble_eq_true rfl, Nat.le_of_ble_eq_true rfl⟩ rfl (rest := []) (As := [.int hh_]) rfl (Nat.le_of_ble_eq_true rfl) [2, 0, 6] [1, 3, 4, 5, 7] rfl (by decide) (wr := [(x, ob 10 [x_told, x_reader, .ref ring, x_speeds, x_wheel, x_trials, x_span, x_search, x_kept, x_crosses, x_trueMasses, .ref thought, x_up, x_low, x_fits, x_pulls]), (rp, aI G 16 fp), (rx, aI G 16 fx), (ry, aI G 16 fy), (thought, aI G 8 ft)]) rfl (by decide) (by decide) ?_
                  rintro _ _ ⟨rz_13, f95_14, rfl, rfl⟩
                  refine Z.at (pc' := 98) (st' := [.int rz_13]) (ws' := [(x, ob 10 [x_told, x_reader, .ref ring, x_speeds, x_wheel, x_trials, x_span, x_search, x_kept, x_crosses, x_trueMasses, .ref thought, x_up, x_low, x_fits, x_pulls]), (rp, aI G 16 fp), (rx, aI G 16 fx), (ry, aI G 16 fy), (thought, aI G 8 ft), (ring, ob 5 [.int hc, .ref rp, .ref rx, .ref ry, .ref rr, .ref rh, g_rd, .int ph, .int po]), (rr, aI G 16 fr), (rh, aI G 16 fh)]) (kc' := 0) (ks' := 0) rfl rfl rfl rfl rfl ?_
                  refine z_run X bw_X10_buckets_98_100 kw_X10_buckets_98_100 (lv' := [(8, .int hh_), (7, .int t_), (6, .int mm_), (5, .int yy_), (4, .int xx_), (0, .ref x), (1, .int pq), (2, .long bq)]) (st' := [.int t_, .int rz_13]) rfl ?_
                  refine zc_gt X dw_X10_buckets_100 (tgt := 106) (by decide) (a := rz_13.toInt) (b := t_.toInt) rfl rfl (fun c100_15 => ?_) (fun c100_15 => ?_)
                  ·
                    refine z_run X bw_X10_buckets_106_112 kw_X10_buckets_106_112 (lv' := [(6, .int (mm_ + 1)), (8, .int hh_), (7, .int t_), (5, .int yy_), (4, .int xx_), (0, .ref x), (1, .int pq), (2, .long bq)]) (st' := [.ref x, .int xx_]) rfl ?_
                    refine z_get X fl_10_26 dw_X10_buckets_112 0 rfl (v := .ref ring) rfl ?_
                    refine z_getN X fl_10_119 dw_X10_buckets_115 5 rfl (v := .ref rx) rfl ?_
                    refine z_run X bw_X10_buckets_118_120 kw_X10_buckets_118_120 (lv' := [(6, .int (mm_ + 1)), (8, .int hh_), (7, .int t_), (5, .int yy_), (4, .int xx_), (0, .ref x), (1, .int pq), (2, .long bq)]) (st' := [.int hh_, .ref rx, .int xx_]) rfl ?_
                    refine z_iald X dw_X10_buckets_120 2 rfl (vin rfl (by omega) (by omega)) (v := (fx hh_.toNatClampNeg)) rfl ?_
                    refine z_run X bw_X10_buckets_121_127 kw_X10_buckets_121_127 (lv' := [(4, .int (xx_ + (fx hh_.toNatClampNeg))), (6, .int (mm_ + 1)), (8, .int hh_), (7, .int t_), (5, .int yy_), (0, .ref x), (1, .int pq), (2, .long bq)]) (st' := [.ref x, .int yy_]) rfl ?_
                    refine z_get X fl_10_26 dw_X10_buckets_127 0 rfl (v := .ref ring) rfl ?_
                    refine z_getN X fl_10_122 dw_X10_buckets_130 5 rfl (v := .ref ry) rfl ?_
                    refine z_run X bw_X10_buckets_133_135 kw_X10_buckets_133_135 (lv' := [(4, .int (xx_ + (fx hh_.toNatClampNeg))), (6, .int (mm_ + 1)), (8, .int hh_), (7, .int t_), (5, .int yy_), (0, .ref x), (1, .int pq), (2, .long bq)]) (st' := [.int hh_, .ref ry, .int yy_]) rfl ?_
                    refine z_iald X dw_X10_buckets_135 3 rfl (vin rfl (by omega) (by omega)) (v := (fy hh_.toNatClampNeg)) rfl ?_
                    refine z_run X bw_X10_buckets_136_145 kw_X10_buckets_136_145 (lv' := [(5, .int (yy_ + (fy hh_.toNatClampNeg))), (4, .int (xx_ + (fx hh_.toNatClampNeg))), (6, .int (mm_ + 1)), (8, .int hh_), (7, .int t_), (0, .ref x), (1, .int pq), (2, .long bq)]) (st' := [.long (yy_ + (fy hh_.toNatClampNeg)).toInt64, .long (xx_ + (fx hh_.toNatClampNeg)).toInt64]) rfl ?_
                    refine z_callS X k_10_187 (cg_X10_sizeOf l G (xx_ + (fx hh_.toNatClampNeg)).toInt64 (yy_ + (fy hh_.toNatClampNeg)).toInt64) dw_X10_buckets_145 ⟨Nat.le_of_ble_eq_true rfl, Nat.le_of_ble_eq_true rfl⟩ ⟨Nat.le_of_ble_eq_true rfl, Nat.le_of_ble_eq_true rfl⟩ rfl (rest := []) (As := [.long (xx_ + (fx hh_.toNatClampNeg)).toInt64, .long (yy_ + (fy hh_.toNatClampNeg)).toInt64]) rfl (Nat.le_of_ble_eq_true rfl) [] [0, 1, 2, 3, 4, 5, 6, 7] rfl (by decide) (wr := [(x, ob 10 [x_told, x_reader, .ref ring, x_speeds, x_wheel, x_trials, x_span, x_search, x_kept, x_crosses, x_trueMasses, .ref thought, x_up, x_low, x_fits, x_pulls]), (rp, aI G 16 fp), (rx, aI G 16 fx), (ry, aI G 16 fy), (thought, aI G 8 ft), (ring, ob 5 [.int hc, .ref rp, .ref rx, .ref ry, .ref rr, .ref rh, g_rd, .int ph, .int po]), (rr, aI G 16 fr), (rh, aI G 16 fh)]) rfl (by decide) (by decide) ?_
                    rintro _ _ ⟨rz_16, f145_17, rfl, rfl⟩
                    refine Z.at (pc' := 148) (st' := [.long rz_16]) (ws' := [(x, ob 10 [x_told, x_reader, .ref ring, x_speeds, x_wheel, x_trials, x_span, x_search, x_kept, x_crosses, x_trueMasses, .ref thought, x_up, x_low, x_fits, x_pulls]), (rp, aI G 16 fp), (rx, aI G 16 fx), (ry, aI G 16 fy), (thought, aI G 8 ft), (ring, ob 5 [.int hc, .ref rp, .ref rx, .ref ry, .ref rr, .ref rh, g_rd, .int ph, .int po]), (rr, aI G 16 fr), (rh, aI G 16 fh)]) (kc' := 0) (ks' := 0) rfl rfl rfl rfl rfl ?_
                    refine z_run X bw_X10_buckets_148_149 kw_X10_buckets_148_149 (lv' := [(5, .int (yy_ + (fy hh_.toNatClampNeg))), (4, .int (xx_ + (fx hh_.toNatClampNeg))), (6, .int (mm_ + 1)), (8, .int hh_), (7, .int t_), (0, .ref x), (1, .int pq), (2, .long bq)]) (st' := [.long bq, .long rz_16]) rfl ?_
                    refine zl_le X dw_X10_buckets_149 dw_X10_buckets_150 (tgt := 156) (by decide) (a := rz_16.toInt) (b := bi) rfl hbq (fun c149_18 => ?_) (fun c149_18 => ?_)
                    ·
                      refine z_run X bw_X10_buckets_156_159 kw_X10_buckets_156_159 (lv' := [(8, .int (hh_ + 1)), (5, .int (yy_ + (fy hh_.toNatClampNeg))), (4, .int (xx_ + (fx hh_.toNatClampNeg))), (6, .int (mm_ + 1)), (7, .int t_), (0, .ref x), (1, .int pq), (2, .long bq)]) (st' := []) rfl ?_
                      refine z_goto X dw_X10_buckets_159 (tgt := 63) (by decide) ?_
                      refine Z.sub (lv' := [(8, .int (hh_ + 1)), (7, .int t_), (6, .int (mm_ + 1)), (5, .int (yy_ + (fy hh_.toNatClampNeg))), (4, .int (xx_ + (fx hh_.toNatClampNeg))), (0, .ref x), (1, .int pq), (2, .long bq)]) [0, 4, 3, 1, 2, 5, 6, 7] rfl [6, 0, 5, 1, 2, 3, 7, 4] (ws' := [(rr, aI G 16 fr), (x, ob 10 [x_told, x_reader, .ref ring, x_speeds, x_wheel, x_trials, x_span, x_search, x_kept, x_crosses, x_trueMasses, .ref thought, x_up, x_low, x_fits, x_pulls]), (ring, ob 5 [.int hc, .ref rp, .ref rx, .ref ry, .ref rr, .ref rh, g_rd, .int ph, .int po]), (rp, aI G 16 fp), (rx, aI G 16 fx), (ry, aI G 16 fy), (rh, aI G 16 fh), (thought, aI G 8 ft)]) rfl (by decide) ?_
                      exact ih63 ((hh_ + 1), (mm_ + 1), (xx_ + (fx hh_.toNatClampNeg)), (yy_ + (fy hh_.toNatClampNeg)), (ff_ - 1)) ⟨(by dsimp only; have e : (hh_ + 1).toInt = hh_.toInt + 1 := tI_add rfl (show (1 : Int32).toInt = 1 from by decide) (by omega); omega), (by dsimp only; have e : (hh_ + 1).toInt = hh_.toInt + 1 := tI_add rfl (show (1 : Int32).toInt = 1 from by decide) (by omega); have em : ((mm_ + 1) : Int32).toInt = mm_.toInt + 1 := (tI_add rfl (show (1 : Int32).toInt = 1 from by decide) (by omega)); omega), (by dsimp only; have e : (hh_ + 1).toInt = hh_.toInt + 1 := tI_add rfl (show (1 : Int32).toInt = 1 from by decide) (by omega); rw [e, show (hh_.toInt + 1).toNat = hh_.toInt.toNat + 1 by omega]; omega), (by dsimp only; have e : (hh_ + 1).toInt = hh_.toInt + 1 := tI_add rfl (show (1 : Int32).toInt = 1 from by decide) (by omega); have em : ((mm_ + 1) : Int32).toInt = mm_.toInt + 1 := (tI_add rfl (show (1 : Int32).toInt = 1 from by decide) (by omega)); rw [e, show (hh_.toInt + 1).toNat = hh_.toInt.toNat + 1 by omega, em]; exact gk.trans (bkF_goP (by omega) (show hh_.toInt.toNat < hci.toNat by omega) (show okK fp fh fr pi t_.toInt.toNat hh_.toNatClampNeg by unfold okK; omega) (show ¬ bi < (sz (xx_ + fx hh_.toNatClampNeg) (yy_ + fy hh_.toNatClampNeg)).toInt by have zs : rz_16.toInt = (sz (xx_ + fx hh_.toNatClampNeg) (yy_ + fy hh_.toNatClampNeg)).toInt := congrArg Int64.toInt f145_17; omega)))⟩ (by dsimp only; have e : (hh_ + 1).toInt = hh_.toInt + 1 := tI_add rfl (show (1 : Int32).toInt = 1 from by decide) (by omega); omega)
                    ·
                      refine z_run X bw_X10_buckets_153_155 kw_X10_buckets_153_155 (lv' := [(5, .int (yy_ + (fy hh_.toNatClampNeg))), (4, .int (xx_ + (fx hh_.toNatClampNeg))), (6, .int (mm_ + 1)), (8, .int hh_), (7, .int t_), (0, .ref x), (1, .int pq), (2, .long bq)]) (st' := [.int (mm_ + 1)]) rfl ?_
                      refine Z.sub (lv' := []) [] rfl [0, 5, 1, 2, 3, 6, 7, 4] (ws' := [(x, ob 10 [x_told, x_reader, .ref ring, x_speeds, x_wheel, x_trials, x_span, x_search, x_kept, x_crosses, x_trueMasses, .ref thought, x_up, x_low, x_fits, x_pulls]), (ring, ob 5 [.int hc, .ref rp, .ref rx, .ref ry, .ref rr, .ref rh, g_rd, .int ph, .int po]), (rp, aI G 16 fp), (rx, aI G 16 fx), (ry, aI G 16 fy), (rr, aI G 16 fr), (rh, aI G 16 fh), (thought, aI G 8 ft)]) rfl (by decide) ?_
                      exact z_iret X rfl dw_X10_buckets_155 (Nat.le_of_ble_eq_true rfl) (Nat.le_of_ble_eq_true rfl) ⟨(mm_ + 1), (by have em : ((mm_ + 1) : Int32).toInt = mm_.toInt + 1 := (tI_add rfl (show (1 : Int32).toInt = 1 from by decide) (by omega)); rw [em, mBk_1 (by omega) (by omega)]; exact (gk.trans (bkF_endP (by omega) (show hh_.toInt.toNat < hci.toNat by omega) (show okK fp fh fr pi t_.toInt.toNat hh_.toNatClampNeg by unfold okK; omega) (show bi < (sz (xx_ + fx hh_.toNatClampNeg) (yy_ + fy hh_.toNatClampNeg)).toInt by have zs : rz_16.toInt = (sz (xx_ + fx hh_.toNatClampNeg) (yy_ + fy hh_.toNatClampNeg)).toInt := congrArg Int64.toInt f145_17; omega))).symm), rfl, rfl⟩
                  ·
                    refine z_goto X dw_X10_buckets_103 (tgt := 156) (by decide) ?_
                    refine z_run X bw_X10_buckets_156_159 kw_X10_buckets_156_159 (lv' := [(8, .int (hh_ + 1)), (7, .int t_), (6, .int mm_), (5, .int yy_), (4, .int xx_), (0, .ref x), (1, .int pq), (2, .long bq)]) (st' := []) rfl ?_
                    refine z_goto X dw_X10_buckets_159 (tgt := 63) (by decide) ?_
                    refine Z.sub (lv' := [(8, .int (hh_ + 1)), (7, .int t_), (6, .int mm_), (5, .int yy_), (4, .int xx_), (0, .ref x), (1, .int pq), (2, .long bq)]) [0, 1, 2, 3, 4, 5, 6, 7] rfl [6, 0, 5, 1, 2, 3, 7, 4] (ws' := [(rr, aI G 16 fr), (x, ob 10 [x_told, x_reader, .ref ring, x_speeds, x_wheel, x_trials, x_span, x_search, x_kept, x_crosses, x_trueMasses, .ref thought, x_up, x_low, x_fits, x_pulls]), (ring, ob 5 [.int hc, .ref rp, .ref rx, .ref ry, .ref rr, .ref rh, g_rd, .int ph, .int po]), (rp, aI G 16 fp), (rx, aI G 16 fx), (ry, aI G 16 fy), (rh, aI G 16 fh), (thought, aI G 8 ft)]) rfl (by decide) ?_
                    exact ih63 ((hh_ + 1), mm_, xx_, yy_, (ff_ - 1)) ⟨(by dsimp only; have e : (hh_ + 1).toInt = hh_.toInt + 1 := tI_add rfl (show (1 : Int32).toInt = 1 from by decide) (by omega); omega), (by dsimp only; have e : (hh_ + 1).toInt = hh_.toInt + 1 := tI_add rfl (show (1 : Int32).toInt = 1 from by decide) (by omega); omega), (by dsimp only; have e : (hh_ + 1).toInt = hh_.toInt + 1 := tI_add rfl (show (1 : Int32).toInt = 1 from by decide) (by omega); rw [e, show (hh_.toInt + 1).toNat = hh_.toInt.toNat + 1 by omega]; omega), (by dsimp only; have e : (hh_ + 1).toInt = hh_.toInt + 1 := tI_add rfl (show (1 : Int32).toInt = 1 from by decide) (by omega); rw [e, show (hh_.toInt + 1).toNat = hh_.toInt.toNat + 1 by omega]; exact gk.trans (bkF_skipP (by omega) (show hh_.toInt.toNat < hci.toNat by omega) (show ¬ okK fp fh fr pi t_.toInt.toNat hh_.toNatClampNeg by unfold okK; omega)))⟩ (by dsimp only; have e : (hh_ + 1).toInt = hh_.toInt + 1 := tI_add rfl (show (1 : Int32).toInt = 1 from by decide) (by omega); omega)
            · exact ⟨(by dsimp only; have e0 : (0 : Int32).toInt = 0 := (by decide); omega), (by dsimp only; have e0 : (0 : Int32).toInt = 0 := (by decide); omega), (by dsimp only; have e0 : (0 : Int32).toInt = 0 := (by decide); rw [e0, hf, show (9 - t_.toInt).toNat = (8 - t_.toInt).toNat + 1 by omega, Nat.succ_mul]; rfl), (by dsimp only; have e0 : (0 : Int32).toInt = 0 := (by decide); rw [e0]; exact hk)⟩
        · exact ⟨(by dsimp only; have e0 : (0 : Int32).toInt = 0 := (by decide); omega), (by dsimp only; have e0 : (0 : Int32).toInt = 0 := (by decide); omega), (by dsimp only; have e0 : (0 : Int32).toInt = 0 := (by decide); rw [e0]; rfl), (by dsimp only; have e0 : (0 : Int32).toInt = 0 := (by decide); rw [e0, f18_4, f26_6]; rfl)⟩
      ·
        have hs0 : rz_7.toInt = (sz (tX ft pq + lw fp fh fx pi hci.toNat) (tY ft pq + lw fp fh fy pi hci.toNat)).toInt := by rw [f37_8, f18_4, f26_6]; rfl
        refine z_run X bw_X10_buckets_45_46 kw_X10_buckets_45_46 (lv' := [(5, .int rz_5), (4, .int rz_3), (0, .ref x), (1, .int pq), (2, .long bq)]) (st' := [.int 0]) rfl ?_
        refine Z.sub (lv' := []) [] rfl [1, 2, 3, 4, 5, 0, 6, 7] (ws' := [(x, ob 10 [x_told, x_reader, .ref ring, x_speeds, x_wheel, x_trials, x_span, x_search, x_kept, x_crosses, x_trueMasses, .ref thought, x_up, x_low, x_fits, x_pulls]), (ring, ob 5 [.int hc, .ref rp, .ref rx, .ref ry, .ref rr, .ref rh, g_rd, .int ph, .int po]), (rp, aI G 16 fp), (rx, aI G 16 fx), (ry, aI G 16 fy), (rr, aI G 16 fr), (rh, aI G 16 fh), (thought, aI G 8 ft)]) rfl (by decide) ?_
        exact z_iret X rfl dw_X10_buckets_46 (Nat.le_of_ble_eq_true rfl) (Nat.le_of_ble_eq_true rfl) ⟨(0 : Int32), ((show (0 : Int32).toInt = 0 from by decide).trans (mBk_0 (by omega) (by omega)).symm), rfl, rfl⟩
    ·
      refine z_run X bw_X10_buckets_13_14 kw_X10_buckets_13_14 (lv' := [(0, .ref x), (1, .int pq), (2, .long bq)]) (st' := [.int (-1)]) rfl ?_
      exact z_iret X rfl dw_X10_buckets_14 (Nat.le_of_ble_eq_true rfl) (Nat.le_of_ble_eq_true rfl) ⟨((-1) : Int32), ((show (-1 : Int32).toInt = -1 from by decide).trans (mBk_no (by omega)).symm), rfl, rfl⟩

