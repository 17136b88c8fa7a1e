/-! the least over the ways to lay ounces, few holes at a time -/
section SRCH
variable {σ τ : Type}
def Rch (st : Nat → Int → σ → σ) (lo hi : Nat → Int) : Nat → Nat → Int → σ → σ → Prop
  | 0, _, _, s, t => t = s
  | d + 1, i, k, s, t => ∃ v : Int, (lo i ≤ v ∧ v ≤ hi i) ∧ ((v = 0 ∧ Rch st lo hi d (i + 1) k s t) ∨ (v ≠ 0 ∧ 0 < k ∧ Rch st lo hi d (i + 1) (k - 1) (st i v s) t))
/-- one number of ounces in hole i, then the holes behind -/
def RchV (st : Nat → Int → σ → σ) (lo hi : Nat → Int) (d i : Nat) (k : Int) (s : σ) (v : Int) (t : σ) : Prop := (v = 0 ∧ Rch st lo hi d (i + 1) k s t) ∨ (v ≠ 0 ∧ 0 < k ∧ Rch st lo hi d (i + 1) (k - 1) (st i v s) t)
/-- the reference: found or not, the least found, before and behind -/
def GW (C : σ → Int) (b c b' c' : Int) (T : σ → Prop) : Prop := (b ≠ 0 → b' ≠ 0 ∧ c' ≤ c) ∧ (∀ t, T t → b' ≠ 0 ∧ c' ≤ C t) ∧ (b' ≠ 0 → (b ≠ 0 ∧ c' = c) ∨ ∃ t, T t ∧ c' = C t)
theorem GW.none {C : σ → Int} {b c : Int} {T : σ → Prop} (h : ∀ t, ¬ T t) : GW C b c b c T := ⟨fun q => ⟨q, Int.le_refl _⟩, fun t q => absurd q (h t), fun q => Or.inl ⟨q, rfl⟩⟩
theorem GW.cg {C : σ → Int} {b c b' c' : Int} {T T' : σ → Prop} (h : GW C b c b' c' T) (e : ∀ t, T' t ↔ T t) : GW C b c b' c' T' := ⟨h.1, fun t q => h.2.1 t ((e t).mp q), fun q => (h.2.2 q).elim Or.inl (fun ⟨t, a, z⟩ => Or.inr ⟨t, (e t).mpr a, z⟩)⟩
theorem GW.trans {C : σ → Int} {b c b1 c1 b2 c2 : Int} {T U : σ → Prop} (h : GW C b c b1 c1 T) (g : GW C b1 c1 b2 c2 U) : GW C b c b2 c2 (fun t => T t ∨ U t) := by
  obtain ⟨h1, h2, h3⟩ := h
  obtain ⟨g1, g2, g3⟩ := g
  refine ⟨fun q => ⟨(g1 (h1 q).1).1, Int.le_trans (g1 (h1 q).1).2 (h1 q).2⟩, fun t q => q.elim (fun a => ⟨(g1 (h2 t a).1).1, Int.le_trans (g1 (h2 t a).1).2 (h2 t a).2⟩) (g2 t), fun q => ?_⟩
  rcases g3 q with ⟨a, e⟩ | ⟨t, a, e⟩
  · rcases h3 a with ⟨a2, e2⟩ | ⟨t, a2, e2⟩
    · exact Or.inl ⟨a2, e.trans e2⟩
    · exact Or.inr ⟨t, Or.inl a2, e.trans e2⟩
  · exact Or.inr ⟨t, Or.inr a, e⟩
theorem GW.took {C : σ → Int} {b c b' c' : Int} {s : σ} (hb : b' ≠ 0) (hc : c' = C s) (h : b ≠ 0 → C s ≤ c) : GW C b c b' c' (fun t => t = s) := ⟨fun q => ⟨hb, by rw [hc]; exact h q⟩, fun t q => ⟨hb, by rw [q, hc]; exact Int.le_refl _⟩, fun _ => Or.inr ⟨s, rfl, hc⟩⟩
theorem GW.left {C : σ → Int} {b c : Int} {s : σ} (hb : b ≠ 0) (h : c ≤ C s) : GW C b c b c (fun t => t = s) := ⟨fun q => ⟨q, Int.le_refl _⟩, fun t q => ⟨hb, by rw [q]; exact h⟩, fun q => Or.inl ⟨q, rfl⟩⟩
/-- the loop over the ounces of one hole -/
def RchL (st : Nat → Int → σ → σ) (lo hi : Nat → Int) (d i : Nat) (k : Int) (s : σ) (w : Int) (t : σ) : Prop := ∃ v : Int, (lo i ≤ v ∧ v < w) ∧ RchV st lo hi d i k s v t
theorem GW.start {C : σ → Int} {b c : Int} {st : Nat → Int → σ → σ} {lo hi : Nat → Int} {d i : Nat} {k : Int} {s : σ} {w : Int} (h : w = lo i) : GW C b c b c (RchL st lo hi d i k s w) := GW.none (fun t ⟨v, ⟨a, e⟩, _⟩ => by omega)
theorem RchL.step {st : Nat → Int → σ → σ} {lo hi : Nat → Int} {d i : Nat} {k : Int} {s : σ} {w : Int} (h : lo i ≤ w) (t : σ) : RchL st lo hi d i k s (w + 1) t ↔ (RchL st lo hi d i k s w t ∨ RchV st lo hi d i k s w t) := by
  constructor
  · rintro ⟨v, ⟨a, e⟩, q⟩
    by_cases c : v = w
    · exact Or.inr (c ▸ q)
    · exact Or.inl ⟨v, ⟨a, by omega⟩, q⟩
  · rintro (⟨v, ⟨a, e⟩, q⟩ | q)
    · exact ⟨v, ⟨a, by omega⟩, q⟩
    · exact ⟨w, ⟨h, by omega⟩, q⟩
theorem GW.step {C : σ → Int} {b c b1 c1 b2 c2 : Int} {st : Nat → Int → σ → σ} {lo hi : Nat → Int} {d i : Nat} {k : Int} {s : σ} {w : Int} (h : lo i ≤ w) (g : GW C b c b1 c1 (RchL st lo hi d i k s w)) (g2 : GW C b1 c1 b2 c2 (RchV st lo hi d i k s w)) : GW C b c b2 c2 (RchL st lo hi d i k s (w + 1)) := (g.trans g2).cg (RchL.step h)
theorem GW.skip {C : σ → Int} {b c b1 c1 : Int} {st : Nat → Int → σ → σ} {lo hi : Nat → Int} {d i : Nat} {k : Int} {s : σ} {w : Int} (h : lo i ≤ w) (g : GW C b c b1 c1 (RchL st lo hi d i k s w)) (hw : w ≠ 0) (hk : ¬ 0 < k) : GW C b c b1 c1 (RchL st lo hi d i k s (w + 1)) := g.step h (GW.none (fun t q => q.elim (fun a => hw a.1) (fun a => hk a.2.1)))
theorem GW.zero {C : σ → Int} {b c b1 c1 : Int} {st : Nat → Int → σ → σ} {lo hi : Nat → Int} {d i : Nat} {k : Int} {s : σ} {w : Int} (hw : w = 0) (g : GW C b c b1 c1 (Rch st lo hi d (i + 1) k s)) : GW C b c b1 c1 (RchV st lo hi d i k s w) := g.cg (fun t => ⟨fun q => q.elim (fun a => a.2) (fun a => absurd hw a.1), fun q => Or.inl ⟨hw, q⟩⟩)
theorem GW.more {C : σ → Int} {b c b1 c1 : Int} {st : Nat → Int → σ → σ} {lo hi : Nat → Int} {d i : Nat} {k : Int} {s : σ} {w : Int} (hw : w ≠ 0) (hk : 0 < k) (g : GW C b c b1 c1 (Rch st lo hi d (i + 1) (k - 1) (st i w s))) : GW C b c b1 c1 (RchV st lo hi d i k s w) := g.cg (fun t => ⟨fun q => q.elim (fun a => absurd a.1 hw) (fun a => a.2.2), fun q => Or.inr ⟨hw, hk, q⟩⟩)
theorem GW.stop {C : σ → Int} {b c b1 c1 : Int} {st : Nat → Int → σ → σ} {lo hi : Nat → Int} {d i : Nat} {k : Int} {s : σ} {w : Int} (h : w = hi i + 1) (g : GW C b c b1 c1 (RchL st lo hi d i k s w)) : GW C b c b1 c1 (Rch st lo hi (d + 1) i k s) := g.cg (fun t => ⟨fun ⟨v, ⟨a, e⟩, q⟩ => ⟨v, ⟨a, by omega⟩, q⟩, fun ⟨v, ⟨a, e⟩, q⟩ => ⟨v, ⟨a, by omega⟩, q⟩⟩)
/-- when lo is beyond hi nothing is seen -/
theorem GW.empty {C : σ → Int} {b c : Int} {st : Nat → Int → σ → σ} {lo hi : Nat → Int} {d i : Nat} {k : Int} {s : σ} (h : hi i < lo i) : GW C b c b c (Rch st lo hi (d + 1) i k s) := GW.none (fun t ⟨v, a, _⟩ => by omega)
/-- the class: the least so far, before and behind -/
def LW (C : σ → Int) (m m' : Int) (T : σ → Prop) : Prop := m' ≤ m ∧ (∀ t, T t → m' ≤ C t) ∧ (m' = m ∨ ∃ t, T t ∧ m' = C t)
theorem LW.none {C : σ → Int} {m : Int} {T : σ → Prop} (h : ∀ t, ¬ T t) : LW C m m T := ⟨Int.le_refl _, fun t q => absurd q (h t), Or.inl rfl⟩
theorem LW.cg {C : σ → Int} {m m' : Int} {T T' : σ → Prop} (h : LW C m m' T) (e : ∀ t, T' t ↔ T t) : LW C m m' T' := ⟨h.1, fun t q => h.2.1 t ((e t).mp q), h.2.2.elim Or.inl (fun ⟨t, a, z⟩ => Or.inr ⟨t, (e t).mpr a, z⟩)⟩
theorem LW.trans {C : σ → Int} {m m1 m2 : Int} {T U : σ → Prop} (h : LW C m m1 T) (g : LW C m1 m2 U) : LW C m m2 (fun t => T t ∨ U t) := by
  obtain ⟨h1, h2, h3⟩ := h
  obtain ⟨g1, g2, g3⟩ := g
  refine ⟨Int.le_trans g1 h1, fun t q => q.elim (fun a => Int.le_trans g1 (h2 t a)) (g2 t), ?_⟩
  rcases g3 with e | ⟨t, a, e⟩
  · rcases h3 with e2 | ⟨t, a2, e2⟩
    · exact Or.inl (e.trans e2)
    · exact Or.inr ⟨t, Or.inl a2, e.trans e2⟩
  · exact Or.inr ⟨t, Or.inr a, e⟩
theorem LW.one {C : σ → Int} {m m' : Int} {s : σ} (h : m' = if C s < m then C s else m) : LW C m m' (fun t => t = s) := by
  by_cases c : C s < m
  · rw [if_pos c] at h
    exact ⟨by omega, fun t q => by rw [q]; omega, Or.inr ⟨s, rfl, h⟩⟩
  · rw [if_neg c] at h
    exact ⟨by omega, fun t q => by rw [q]; omega, Or.inl h⟩
/-- more holes, at least one of them, from hole i on, n in all -/
def Nz (st : Nat → Int → σ → σ) (lo hi : Nat → Int) (n i : Nat) (k : Int) (s t : σ) : Prop := ∃ (j : Nat) (v : Int), (i ≤ j ∧ j < n) ∧ (lo j ≤ v ∧ v ≤ hi j) ∧ v ≠ 0 ∧ Rch st lo hi (n - j - 1) (j + 1) (k - 1) (st j v s) t
theorem Rch_Nz {st : Nat → Int → σ → σ} {lo hi : Nat → Int} {n : Nat} : ∀ {d i : Nat} {k : Int} {s t : σ}, (∀ j : Nat, j < n → lo j ≤ 0 ∧ 0 ≤ hi j) → i + d = n → 0 ≤ k → (Rch st lo hi d i k s t ↔ (t = s ∨ (0 < k ∧ Nz st lo hi n i k s t)))
  | 0, i, k, s, t, _, hd, _ => ⟨fun h => Or.inl h, fun h => h.elim id (fun ⟨_, j, v, ⟨a, e⟩, _⟩ => absurd (show i ≤ j from a) (by omega))⟩
  | d + 1, i, k, s, t, hz, hd, hk => by
    have ih := fun k s t hk => Rch_Nz (st := st) (n := n) (d := d) (i := i + 1) (k := k) (s := s) (t := t) hz (by omega) hk
    have z0 := hz i (by omega)
    constructor
    · rintro ⟨v, hv, ⟨v0, q⟩ | ⟨v0, k0, q⟩⟩
      · rcases (ih k s t hk).mp q with e | ⟨k0, j, w, ⟨a, b⟩, r⟩
        · exact Or.inl e
        · exact Or.inr ⟨k0, j, w, ⟨by omega, b⟩, r⟩
      · exact Or.inr ⟨k0, i, v, ⟨Nat.le_refl i, by omega⟩, hv, v0, by rw [show n - i - 1 = d by omega]; exact q⟩
    · rintro (e | ⟨k0, j, w, ⟨a, b⟩, hw, w0, q⟩)
      · exact ⟨0, z0, Or.inl ⟨rfl, (ih k s t hk).mpr (Or.inl e)⟩⟩
      · by_cases c : j = i
        · subst c
          exact ⟨w, hw, Or.inr ⟨w0, k0, by rw [show n - j - 1 = d by omega] at q; exact q⟩⟩
        · exact ⟨0, z0, Or.inl ⟨rfl, (ih k s t hk).mpr (Or.inr ⟨k0, j, w, ⟨by omega, b⟩, hw, w0, q⟩)⟩⟩
/-- the class's loops: hole i up to w (w not yet) -/
def NzL (st : Nat → Int → σ → σ) (lo hi : Nat → Int) (n a i : Nat) (k : Int) (s : σ) (w : Int) (t : σ) : Prop := (∃ (j : Nat) (v : Int), (a ≤ j ∧ j < i) ∧ (lo j ≤ v ∧ v ≤ hi j) ∧ v ≠ 0 ∧ Rch st lo hi (n - j - 1) (j + 1) (k - 1) (st j v s) t) ∨ ∃ v : Int, (lo i ≤ v ∧ v < w) ∧ v ≠ 0 ∧ Rch st lo hi (n - i - 1) (i + 1) (k - 1) (st i v s) t
theorem LW.start {C : σ → Int} {m : Int} {st : Nat → Int → σ → σ} {lo hi : Nat → Int} {n a : Nat} {k : Int} {s : σ} : LW C m m (NzL st lo hi n a a k s (lo a)) := LW.none (fun t h => h.elim (fun ⟨j, v, ⟨p, q⟩, _⟩ => by omega) (fun ⟨v, ⟨p, q⟩, _⟩ => by omega))
theorem LW.skip {C : σ → Int} {m m' : Int} {st : Nat → Int → σ → σ} {lo hi : Nat → Int} {n a i : Nat} {k : Int} {s : σ} {w : Int} (g : LW C m m' (NzL st lo hi n a i k s w)) (hw : w = 0) : LW C m m' (NzL st lo hi n a i k s (w + 1)) := g.cg (fun t => by
  unfold NzL
  constructor
  · rintro (h | ⟨v, ⟨p, q⟩, r⟩)
    · exact Or.inl h
    · exact Or.inr ⟨v, ⟨p, by omega⟩, r⟩
  · rintro (h | ⟨v, ⟨p, q⟩, r⟩)
    · exact Or.inl h
    · exact Or.inr ⟨v, ⟨p, by omega⟩, r⟩)
theorem LW.more {C : σ → Int} {m m1 m2 : Int} {st : Nat → Int → σ → σ} {lo hi : Nat → Int} {n a i : Nat} {k : Int} {s : σ} {w : Int} (g : LW C m m1 (NzL st lo hi n a i k s w)) (hl : lo i ≤ w) (hw : w ≠ 0) (g2 : LW C m1 m2 (Rch st lo hi (n - i - 1) (i + 1) (k - 1) (st i w s))) : LW C m m2 (NzL st lo hi n a i k s (w + 1)) := (g.trans g2).cg (fun t => by
  unfold NzL
  constructor
  · rintro (h | ⟨v, ⟨p, q⟩, r⟩)
    · exact Or.inl (Or.inl h)
    · by_cases c : v = w
      · exact Or.inr (c ▸ r.2)
      · exact Or.inl (Or.inr ⟨v, ⟨p, by omega⟩, r⟩)
  · rintro ((h | ⟨v, ⟨p, q⟩, r⟩) | r)
    · exact Or.inl h
    · exact Or.inr ⟨v, ⟨p, by omega⟩, r⟩
    · exact Or.inr ⟨w, ⟨hl, by omega⟩, hw, r⟩)
theorem LW.next {C : σ → Int} {m m' : Int} {st : Nat → Int → σ → σ} {lo hi : Nat → Int} {n a i : Nat} {k : Int} {s : σ} {w : Int} (ha : a ≤ i) (g : LW C m m' (NzL st lo hi n a i k s w)) (hw : w = hi i + 1) : LW C m m' (NzL st lo hi n a (i + 1) k s (lo (i + 1))) := g.cg (fun t => by
  unfold NzL
  constructor
  · rintro (⟨j, v, ⟨p, q⟩, r⟩ | ⟨v, ⟨p, q⟩, r⟩)
    · by_cases c : j = i
      · subst c
        exact Or.inr ⟨v, ⟨r.1.1, by omega⟩, r.2⟩
      · exact Or.inl ⟨j, v, ⟨p, by omega⟩, r⟩
    · omega
  · rintro (⟨j, v, ⟨p, q⟩, r⟩ | ⟨v, ⟨p, q⟩, r⟩)
    · exact Or.inl ⟨j, v, ⟨p, by omega⟩, r⟩
    · exact Or.inl ⟨i, v, ⟨ha, by omega⟩, ⟨p, by omega⟩, r⟩)
theorem LW.stop {C : σ → Int} {m m' : Int} {st : Nat → Int → σ → σ} {lo hi : Nat → Int} {n a i : Nat} {k : Int} {s : σ} {w : Int} (g : LW C m m' (NzL st lo hi n a i k s w)) (hi_ : i = n) (hw : w = lo i) : LW C m m' (Nz st lo hi n a k s) := g.cg (fun t => by
  unfold NzL Nz
  constructor
  · rintro ⟨j, v, ⟨p, q⟩, r⟩
    exact Or.inl ⟨j, v, ⟨p, by omega⟩, r⟩
  · rintro (⟨j, v, ⟨p, q⟩, r⟩ | ⟨v, ⟨p, q⟩, r⟩)
    · exact ⟨j, v, ⟨p, by omega⟩, r⟩
    · omega)
/-- the way just laid, then more holes behind it -/
theorem LW.then {C : σ → Int} {m m1 m2 : Int} {st : Nat → Int → σ → σ} {lo hi : Nat → Int} {n i : Nat} {k : Int} {s : σ} (hz : ∀ j : Nat, j < n → lo j ≤ 0 ∧ 0 ≤ hi j) (hn : i < n) (hk : 1 < k) (g : LW C m m1 (fun t => t = s)) (g2 : LW C m1 m2 (Nz st lo hi n (i + 1) (k - 1) s)) : LW C m m2 (Rch st lo hi (n - i - 1) (i + 1) (k - 1) s) := (g.trans g2).cg (fun t => (Rch_Nz hz (by omega) (by omega)).trans ⟨fun h => h.elim Or.inl (fun q => Or.inr q.2), fun h => h.elim Or.inl (fun q => Or.inr ⟨by omega, q⟩)⟩)
/-- one hole alone: k = 1 -/
theorem Rch_k0 {st : Nat → Int → σ → σ} {lo hi : Nat → Int} {n : Nat} {d i : Nat} {s t : σ} (hz : ∀ j : Nat, j < n → lo j ≤ 0 ∧ 0 ≤ hi j) (hd : i + d = n) : Rch st lo hi d i 0 s t ↔ t = s := (Rch_Nz hz hd (Int.le_refl 0)).trans ⟨fun h => h.elim id (fun q => absurd q.1 (Int.lt_irrefl 0)), Or.inl⟩
/-- two searches whose ways answer each other see the same costs -/
theorem Rch_sim {st : Nat → Int → σ → σ} {st' : Nat → Int → τ → τ} {lo hi lo' hi' : Nat → Int} {R : Nat → Int → σ → τ → Prop} {g : Int → Int} {n : Nat} (hg : ∀ i, i < n → ∀ v, (lo i ≤ v ∧ v ≤ hi i) → (lo' i ≤ g v ∧ g v ≤ hi' i)) (h0 : ∀ v, g v = 0 ↔ v = 0) (hR : ∀ i k s t v, i < n → (lo i ≤ v ∧ v ≤ hi i) → v ≠ 0 → 0 < k → R i k s t → R (i + 1) (k - 1) (st i v s) (st' i (g v) t)) (hS : ∀ i k s t, i < n → R i k s t → R (i + 1) k s t) : ∀ {d i : Nat} {k : Int} {s t u}, i + d = n → R i k s t → Rch st lo hi d i k s u → ∃ w k', Rch st' lo' hi' d i k t w ∧ R n k' u w
  | 0, i, k, s, t, u, hd, r, h => by
    have hd : i = n := hd
    subst hd
    have h : u = s := h
    subst h
    exact ⟨t, k, rfl, r⟩
  | d + 1, i, k, s, t, u, hd, r, h => by
    obtain ⟨v, hv, ⟨v0, q⟩ | ⟨v0, k0, q⟩⟩ := h
    · obtain ⟨w, k', a, b⟩ := Rch_sim hg h0 hR hS (d := d) (i := i + 1) (by omega) (hS i k s t (by omega) r) q
      exact ⟨w, k', ⟨g v, hg i (by omega) v hv, Or.inl ⟨(h0 v).mpr v0, a⟩⟩, b⟩
    · obtain ⟨w, k', a, b⟩ := Rch_sim hg h0 hR hS (d := d) (i := i + 1) (by omega) (hR i k s t v (by omega) hv v0 k0 r) q
      exact ⟨w, k', ⟨g v, hg i (by omega) v hv, Or.inr ⟨fun z => v0 ((h0 v).mp z), k0, a⟩⟩, b⟩
/-- the least of all: what a search ends with -/
def Least (C : σ → Int) (m : Int) (T : σ → Prop) : Prop := (∀ t, T t → m ≤ C t) ∧ ∃ t, T t ∧ m = C t
theorem Least.uniq {C : σ → Int} {D : τ → Int} {m m' : Int} {T : σ → Prop} {U : τ → Prop} (h : Least C m T) (h' : Least D m' U) (f : ∀ t, T t → ∃ u, U u ∧ D u = C t) (g : ∀ u, U u → ∃ t, T t ∧ C t = D u) : m = m' := by
  obtain ⟨h1, t, ht, e⟩ := h
  obtain ⟨h1', u, hu, e'⟩ := h'
  obtain ⟨u2, a, b⟩ := f t ht
  obtain ⟨t2, a2, b2⟩ := g u hu
  have p := h1' u2 a
  have q := h1 t2 a2
  omega
theorem GW.least {C : σ → Int} {c b' c' : Int} {T : σ → Prop} (h : GW C 0 c b' c' T) (ne : ∃ t, T t) : Least C c' T := by
  obtain ⟨t, ht⟩ := ne
  exact ⟨fun u hu => (h.2.1 u hu).2, (h.2.2 (h.2.1 t ht).1).elim (fun q => absurd rfl q.1) id⟩
theorem LW.least {C : σ → Int} {m' : Int} {s : σ} {T U : σ → Prop} (h : LW C (C s) m' T) (e : ∀ t, U t ↔ (t = s ∨ T t)) : Least C m' U := by
  obtain ⟨h1, h2, h3⟩ := h
  refine ⟨fun t q => ((e t).mp q).elim (fun a => by rw [a]; exact h1) (h2 t), ?_⟩
  rcases h3 with a | ⟨t, q, a⟩
  · exact ⟨s, (e s).mpr (Or.inl rfl), a⟩
  · exact ⟨t, (e t).mpr (Or.inr q), a⟩
theorem Rch_self {st : Nat → Int → σ → σ} {lo hi : Nat → Int} {n : Nat} {d i : Nat} {k : Int} {s : σ} (hz : ∀ j : Nat, j < n → lo j ≤ 0 ∧ 0 ≤ hi j) (hd : i + d = n) (hk : 0 ≤ k) : Rch st lo hi d i k s s := (Rch_Nz hz hd hk).mpr (Or.inl rfl)
end SRCH
/-! the foot of a parabola -/
def par (now s b w : Int) : Int := now + 2 * w * s + w * w * b
theorem par_le {now s b w v : Int} (h : 0 ≤ (v - w) * (b * (v - w) + 2 * (s + b * w))) : par now s b w ≤ par now s b v := by
  have e : par now s b v - par now s b w = (v - w) * (b * (v - w) + 2 * (s + b * w)) := by unfold par; grind
  omega
/-- w is nearest to - s / b, or the nearest end of the range is -/
theorem par_foot {now s b w r lo hi : Int} (hb : 0 < b) (hr : -b ≤ 2 * (s + b * r) ∧ 2 * (s + b * r) ≤ b) (hw : w = max lo (min r hi)) (hl : lo ≤ hi) {v : Int} (hv : lo ≤ v ∧ v ≤ hi) : par now s b w ≤ par now s b v := by
  refine par_le ?_
  rcases (by omega : (w = r) ∨ (w = hi ∧ hi + 1 ≤ r) ∨ (w = lo ∧ r + 1 ≤ lo)) with e | ⟨e, e2⟩ | ⟨e, e2⟩
  · subst e
    rcases (by omega : v = w ∨ w + 1 ≤ v ∨ v + 1 ≤ w) with c | c | c
    · rw [c, Int.sub_self, Int.zero_mul]
      exact Int.le_refl 0
    · have k := Int.mul_le_mul_of_nonneg_left (show 1 ≤ v - w by omega) (Int.le_of_lt hb)
      exact Int.mul_nonneg (by omega) (by omega)
    · have k := Int.mul_le_mul_of_nonneg_left (show v - w ≤ -1 by omega) (Int.le_of_lt hb)
      exact Int.mul_nonneg_of_nonpos_of_nonpos (by omega) (by omega)
  · subst e
    have k := Int.mul_le_mul_of_nonneg_left (show w + 1 ≤ r by omega) (Int.le_of_lt hb)
    have k1 : b * (w + 1) = b * w + b := by grind
    have k2 := Int.mul_le_mul_of_nonneg_left (show v - w ≤ 0 by omega) (Int.le_of_lt hb)
    exact Int.mul_nonneg_of_nonpos_of_nonpos (by omega) (by omega)
  · subst e
    have k := Int.mul_le_mul_of_nonneg_left (show r + 1 ≤ w by omega) (Int.le_of_lt hb)
    have k1 : b * (r + 1) = b * r + b := by grind
    have k2 := Int.mul_le_mul_of_nonneg_left (show 0 ≤ v - w by omega) (Int.le_of_lt hb)
    exact Int.mul_nonneg (by omega) (by omega)
/-! points, steps, costs of the class's search, as numbers -/
def cs (x y : Nat → Int64) : Nat → Int64
  | 0 => 0
  | n + 1 => cs x y n + szL (x n) (y n)
def slp (x y u w : Nat → Int64) : Nat → Int64
  | 0 => 0
  | n + 1 => slp x y u w n + (x n * u n + y n * w n)
def trn (n : Nat) (x : Nat → Int64) : Nat → Int64 := fun p => if p < n then x p else 0
def at16 (s : Nat → Int64) (i : Nat) : Nat → Int64 := fun p => s (16 * p + i)
abbrev CSt : Type := (Nat → Int64) × (Nat → Int64)
def stC (n : Nat) (sx sy : Nat → Int64) (i : Nat) (v : Int) (s : CSt) : CSt := (trn n (fun p => s.1 p + Int64.ofInt v * sx (16 * p + i)), trn n (fun p => s.2 p + Int64.ofInt v * sy (16 * p + i)))
def CC (n : Nat) (s : CSt) : Int := (cs s.1 s.2 n).toInt
theorem trn_in {n p : Nat} {x : Nat → Int64} (h : p < n) : trn n x p = x p := if_pos h
theorem trn_eq {n : Nat} {x x' : Nat → Int64} (h : ∀ p, p < n → x p = x' p) : trn n x = trn n x' := funext (fun p => by
  unfold trn
  by_cases c : p < n
  · rw [if_pos c, if_pos c, h p c]
  · rw [if_neg c, if_neg c])
theorem trn_trn {n : Nat} {x : Nat → Int64} : trn n (trn n x) = trn n x := trn_eq (fun _ h => trn_in h)
theorem cs_congr {x y x' y' : Nat → Int64} : ∀ {n : Nat}, (∀ p, p < n → x p = x' p ∧ y p = y' p) → cs x y n = cs x' y' n
  | 0, _ => rfl
  | n + 1, h => by
    have ih := cs_congr (n := n) (fun p hp => h p (Nat.lt_succ_of_lt hp))
    obtain ⟨a, b⟩ := h n (Nat.lt_succ_self n)
    show cs x y n + szL (x n) (y n) = cs x' y' n + szL (x' n) (y' n)
    rw [ih, a, b]
theorem slp_congr {x y u w x' y' : Nat → Int64} : ∀ {n : Nat}, (∀ p, p < n → x p = x' p ∧ y p = y' p) → slp x y u w n = slp x' y' u w n
  | 0, _ => rfl
  | n + 1, h => by
    have ih := slp_congr (u := u) (w := w) (n := n) (fun p hp => h p (Nat.lt_succ_of_lt hp))
    obtain ⟨a, b⟩ := h n (Nat.lt_succ_self n)
    show slp x y u w n + (x n * u n + y n * w n) = slp x' y' u w n + (x' n * u n + y' n * w n)
    rw [ih, a, b]
theorem CC_trn {n : Nat} {x y : Nat → Int64} : CC n (trn n x, trn n y) = (cs x y n).toInt := congrArg Int64.toInt (cs_congr (fun _ h => ⟨trn_in h, trn_in h⟩))
/-- laid on from any number of ounces laid before -/
theorem stC_eq {n i : Nat} {sx sy x y x' y' : Nat → Int64} {v : Int} (h : ∀ p, p < n → x' p = x p + Int64.ofInt v * sx (16 * p + i) ∧ y' p = y p + Int64.ofInt v * sy (16 * p + i)) : (trn n x', trn n y') = stC n sx sy i v (trn n x, trn n y) := by
  unfold stC
  refine Prod.ext (trn_eq (fun p hp => ?_)) (trn_eq (fun p hp => ?_))
  · show x' p = trn n x p + _
    rw [trn_in hp]
    exact (h p hp).1
  · show y' p = trn n y p + _
    rw [trn_in hp]
    exact (h p hp).2
theorem i64_of (w : Int32) : w.toInt64 = Int64.ofInt w.toInt := by
  have a := Int32.le_toInt w
  have b := Int32.toInt_lt w
  refine Int64.toInt_inj.mp ?_
  rw [Int32.toInt_toInt64, Int64.toInt_ofInt_of_le (by omega) (by omega)]
theorem sq_nn (a : Int) : 0 ≤ a * a := (Int.le_total 0 a).elim (fun h => Int.mul_nonneg h h) (fun h => Int.mul_nonneg_of_nonpos_of_nonpos h h)
def ss (f g : Nat → Int) : Nat → Int
  | 0 => 0
  | n + 1 => ss f g n + (f n * f n + g n * g n)
def sl (f g u w : Nat → Int) : Nat → Int
  | 0 => 0
  | n + 1 => sl f g u w n + (f n * u n + g n * w n)
theorem ss_par {f g u w : Nat → Int} {v : Int} : ∀ {n : Nat}, ss (fun p => f p + v * u p) (fun p => g p + v * w p) n = par (ss f g n) (sl f g u w n) (ss u w n) v
  | 0 => by
    show (0 : Int) = 0 + 2 * v * 0 + v * v * 0
    rw [Int.mul_zero, Int.mul_zero]
    rfl
  | n + 1 => by
    have ih := ss_par (f := f) (g := g) (u := u) (w := w) (v := v) (n := n)
    show ss (fun p => f p + v * u p) (fun p => g p + v * w p) n + ((f n + v * u n) * (f n + v * u n) + (g n + v * w n) * (g n + v * w n)) = par (ss f g n + (f n * f n + g n * g n)) (sl f g u w n + (f n * u n + g n * w n)) (ss u w n + (u n * u n + w n * w n)) v
    rw [ih]
    unfold par
    generalize ss f g n = a
    generalize sl f g u w n = b
    generalize ss u w n = c
    grind
theorem ss_0 {f g : Nat → Int} : ∀ {n : Nat}, 0 ≤ ss f g n
  | 0 => Int.le_refl 0
  | n + 1 => by
    have ih := ss_0 (f := f) (g := g) (n := n)
    have a := sq_nn (f n)
    have b := sq_nn (g n)
    show 0 ≤ ss f g n + (f n * f n + g n * g n)
    omega
theorem ss_congr {f g f' g' : Nat → Int} : ∀ {n : Nat}, (∀ p, p < n → f p = f' p ∧ g p = g' p) → ss f g n = ss f' g' n
  | 0, _ => rfl
  | n + 1, h => by
    have ih := ss_congr (n := n) (fun p hp => h p (Nat.lt_succ_of_lt hp))
    obtain ⟨a, b⟩ := h n (Nat.lt_succ_self n)
    show ss f g n + (f n * f n + g n * g n) = ss f' g' n + (f' n * f' n + g' n * g' n)
    rw [ih, a, b]
theorem sl_0 {f g u w : Nat → Int} : ∀ {n : Nat}, ss u w n ≤ 0 → sl f g u w n = 0
  | 0, _ => rfl
  | n + 1, h => by
    have z := ss_0 (f := u) (g := w) (n := n)
    have a := sq_nn (u n)
    have b := sq_nn (w n)
    have h : ss u w n + (u n * u n + w n * w n) ≤ 0 := h
    have ih := sl_0 (f := f) (g := g) (u := u) (w := w) (n := n) (by omega)
    have e1 : u n = 0 := (Int.mul_eq_zero.mp (show u n * u n = 0 by omega)).elim id id
    have e2 : w n = 0 := (Int.mul_eq_zero.mp (show w n * w n = 0 by omega)).elim id id
    show sl f g u w n + (f n * u n + g n * w n) = 0
    rw [ih, e1, e2, Int.mul_zero, Int.mul_zero]
    rfl
abbrev toZ (x : Nat → Int64) : Nat → Int := fun p => (x p).toInt
abbrev bdd (B : Int) (n : Nat) (x : Nat → Int64) : Prop := ∀ p, p < n → -B ≤ (x p).toInt ∧ (x p).toInt ≤ B
theorem szL_Z {x y : Int64} (hx : -100000000 ≤ x.toInt ∧ x.toInt ≤ 100000000) (hy : -100000000 ≤ y.toInt ∧ y.toInt ≤ 100000000) : (szL x y).toInt = x.toInt * x.toInt + y.toInt * y.toInt ∧ (szL x y).toInt ≤ 20000000000000000 := by
  have a := mul_b hx hx
  have b := mul_b hy hy
  have e1 : (x * x).toInt = x.toInt * x.toInt := tJ_mul rfl rfl (by omega)
  have e2 : (y * y).toInt = y.toInt * y.toInt := tJ_mul rfl rfl (by omega)
  have e3 : (szL x y).toInt = x.toInt * x.toInt + y.toInt * y.toInt := tJ_add e1 e2 (by omega)
  rw [e3]
  omega
theorem cs_Z {x y : Nat → Int64} : ∀ {n : Nat}, n ≤ 6 → bdd 100000000 n x → bdd 100000000 n y → (cs x y n).toInt = ss (toZ x) (toZ y) n ∧ ss (toZ x) (toZ y) n ≤ (n : Int) * 20000000000000000
  | 0, _, _, _ => ⟨(show (0 : Int64).toInt = 0 from by decide), (show (0 : Int) ≤ ((0 : Nat) : Int) * 20000000000000000 from by decide)⟩
  | n + 1, hn, hx, hy => by
    obtain ⟨i1, i2⟩ := cs_Z (n := n) (by omega) (fun p hp => hx p (Nat.lt_succ_of_lt hp)) (fun p hp => hy p (Nat.lt_succ_of_lt hp))
    obtain ⟨z1, z2⟩ := szL_Z (hx n (Nat.lt_succ_self n)) (hy n (Nat.lt_succ_self n))
    have z := ss_0 (f := toZ x) (g := toZ y) (n := n)
    have a := sq_nn (x n).toInt
    have b := sq_nn (y n).toInt
    have e : (cs x y n + szL (x n) (y n)).toInt = ss (toZ x) (toZ y) n + ((x n).toInt * (x n).toInt + (y n).toInt * (y n).toInt) := tJ_add i1 z1 (by omega)
    refine ⟨e, ?_⟩
    show ss (toZ x) (toZ y) n + ((x n).toInt * (x n).toInt + (y n).toInt * (y n).toInt) ≤ _
    omega
theorem slp_Z {x y u w : Nat → Int64} : ∀ {n : Nat}, n ≤ 6 → bdd 100000000 n x → bdd 100000000 n y → bdd 10000 n u → bdd 10000 n w → (slp x y u w n).toInt = sl (toZ x) (toZ y) (toZ u) (toZ w) n ∧ -((n : Int) * 2000000000000) ≤ sl (toZ x) (toZ y) (toZ u) (toZ w) n ∧ sl (toZ x) (toZ y) (toZ u) (toZ w) n ≤ (n : Int) * 2000000000000
  | 0, _, _, _, _, _ => ⟨(show (0 : Int64).toInt = 0 from by decide), (show -(((0 : Nat) : Int) * 2000000000000) ≤ (0 : Int) from by decide), (show (0 : Int) ≤ ((0 : Nat) : Int) * 2000000000000 from by decide)⟩
  | n + 1, hn, hx, hy, hu, hw => by
    obtain ⟨i1, i2, i3⟩ := slp_Z (n := n) (by omega) (fun p hp => hx p (Nat.lt_succ_of_lt hp)) (fun p hp => hy p (Nat.lt_succ_of_lt hp)) (fun p hp => hu p (Nat.lt_succ_of_lt hp)) (fun p hp => hw p (Nat.lt_succ_of_lt hp))
    have a := mul_b (hx n (Nat.lt_succ_self n)) (hu n (Nat.lt_succ_self n))
    have b := mul_b (hy n (Nat.lt_succ_self n)) (hw n (Nat.lt_succ_self n))
    have e1 : (x n * u n).toInt = (x n).toInt * (u n).toInt := tJ_mul rfl rfl (by omega)
    have e2 : (y n * w n).toInt = (y n).toInt * (w n).toInt := tJ_mul rfl rfl (by omega)
    have e3 : (x n * u n + y n * w n).toInt = (x n).toInt * (u n).toInt + (y n).toInt * (w n).toInt := tJ_add e1 e2 (by omega)
    have e : (slp x y u w n + (x n * u n + y n * w n)).toInt = sl (toZ x) (toZ y) (toZ u) (toZ w) n + ((x n).toInt * (u n).toInt + (y n).toInt * (w n).toInt) := tJ_add i1 e3 (by omega)
    refine ⟨e, ?_⟩
    show _ ≤ sl (toZ x) (toZ y) (toZ u) (toZ w) n + ((x n).toInt * (u n).toInt + (y n).toInt * (w n).toInt) ∧ sl (toZ x) (toZ y) (toZ u) (toZ w) n + ((x n).toInt * (u n).toInt + (y n).toInt * (w n).toInt) ≤ _
    omega
theorem mv_Z {x u : Int64} {v : Int} (hx : -98000000 ≤ x.toInt ∧ x.toInt ≤ 98000000) (hu : -10000 ≤ u.toInt ∧ u.toInt ≤ 10000) (hv : -200 ≤ v ∧ v ≤ 200) : (x + Int64.ofInt v * u).toInt = x.toInt + v * u.toInt ∧ -100000000 ≤ (x + Int64.ofInt v * u).toInt ∧ (x + Int64.ofInt v * u).toInt ≤ 100000000 := by
  have a := mul_b hv hu
  have e0 : (Int64.ofInt v).toInt = v := Int64.toInt_ofInt_of_le (by omega) (by omega)
  have e1 : (Int64.ofInt v * u).toInt = v * u.toInt := tJ_mul e0 rfl (by omega)
  have e2 : (x + Int64.ofInt v * u).toInt = x.toInt + v * u.toInt := tJ_add rfl e1 (by omega)
  rw [e2]
  omega
/-- with so many ounces in hole i: a parabola -/
theorem CC_par {n i : Nat} {sx sy x y : Nat → Int64} {v : Int} (hn : n ≤ 6) (hx : bdd 98000000 n x) (hy : bdd 98000000 n y) (hu : bdd 10000 n (at16 sx i)) (hw : bdd 10000 n (at16 sy i)) (hv : -200 ≤ v ∧ v ≤ 200) : CC n (stC n sx sy i v (trn n x, trn n y)) = par (cs x y n).toInt (slp x y (at16 sx i) (at16 sy i) n).toInt (cs (at16 sx i) (at16 sy i) n).toInt v := by
  have hx' : bdd 100000000 n x := fun p hp => by have z := hx p hp; omega
  have hy' : bdd 100000000 n y := fun p hp => by have z := hy p hp; omega
  have hu' : bdd 100000000 n (at16 sx i) := fun p hp => by have z := hu p hp; omega
  have hw' : bdd 100000000 n (at16 sy i) := fun p hp => by have z := hw p hp; omega
  have e : stC n sx sy i v (trn n x, trn n y) = (trn n (fun p => x p + Int64.ofInt v * at16 sx i p), trn n (fun p => y p + Int64.ofInt v * at16 sy i p)) := (stC_eq (x' := fun p => x p + Int64.ofInt v * at16 sx i p) (y' := fun p => y p + Int64.ofInt v * at16 sy i p) (fun p _ => ⟨rfl, rfl⟩)).symm
  rw [e, CC_trn, (cs_Z hn (fun p hp => (mv_Z (hx p hp) (hu p hp) hv).2) (fun p hp => (mv_Z (hy p hp) (hw p hp) hv).2)).1, (cs_Z hn hx' hy').1, (slp_Z hn hx' hy' hu hw).1, (cs_Z hn hu' hw').1, ← ss_par]
  exact ss_congr (fun p hp => ⟨(mv_Z (hx p hp) (hu p hp) hv).1, (mv_Z (hy p hp) (hw p hp) hv).1⟩)
theorem then_Z {now s b w : Int64} (hn : 0 ≤ now.toInt ∧ now.toInt ≤ 120000000000000000) (hs : -12000000000000 ≤ s.toInt ∧ s.toInt ≤ 12000000000000) (hb : 0 ≤ b.toInt ∧ b.toInt ≤ 1200000000) (hw : -200 ≤ w.toInt ∧ w.toInt ≤ 200) : (now + 2 * w * s + w * w * b).toInt = par now.toInt s.toInt b.toInt w.toInt := by
  have e1 : (2 * w).toInt = 2 * w.toInt := tJ_mul (show (2 : Int64).toInt = 2 from by decide) rfl (by omega)
  have m1 := mul_b (A := 400) (B := 12000000000000) (a := 2 * w.toInt) (b := s.toInt) (by omega) hs
  have e2 : (2 * w * s).toInt = 2 * w.toInt * s.toInt := tJ_mul e1 rfl (by omega)
  have m2 := mul_b (A := 200) (B := 200) hw hw
  have e3 : (w * w).toInt = w.toInt * w.toInt := tJ_mul rfl rfl (by omega)
  have m3 := mul_b (A := 40000) (B := 1200000000) (a := w.toInt * w.toInt) (b := b.toInt) (by omega) (by omega)
  have e4 : (w * w * b).toInt = w.toInt * w.toInt * b.toInt := tJ_mul e3 rfl (by omega)
  have e5 : (now + 2 * w * s).toInt = now.toInt + 2 * w.toInt * s.toInt := tJ_add rfl e2 (by omega)
  exact tJ_add e5 e4 (by omega)
/-- what footOf answers -/
def Foot (s b lo hi w : Int) : Prop := (b ≤ 0 → w = 0) ∧ (0 < b → ∃ r : Int, (-b ≤ 2 * (s + b * r) ∧ 2 * (s + b * r) ≤ b) ∧ w = max lo (min r hi))
theorem Foot.zero {s b lo hi : Int} (h : b ≤ 0) : Foot s b lo hi 0 := ⟨fun _ => rfl, fun q => by omega⟩
theorem Foot.mk' {s b lo hi w q m r : Int} (hb : 0 < b) (hq : q = (-s) / b) (hm : m = (-s) % b) (hr : (r = q ∧ 2 * m ≤ b) ∨ (r = q + 1 ∧ b ≤ 2 * m)) (hw : w = max lo (min r hi)) : Foot s b lo hi w := by
  refine ⟨fun h => by omega, fun _ => ⟨r, ?_, hw⟩⟩
  have e := Int.mul_ediv_add_emod (-s) b
  have m0 := Int.emod_nonneg (-s) (show b ≠ 0 by omega)
  have m1 := Int.emod_lt_of_pos (-s) hb
  rw [← hq, ← hm] at e
  rw [← hm] at m0 m1
  rcases hr with ⟨e1, e2⟩ | ⟨e1, e2⟩
  · subst e1
    omega
  · subst e1
    have k1 : b * (q + 1) = b * q + b := by grind
    rw [k1]
    omega
theorem Foot.in {s b lo hi w : Int} (h : Foot s b lo hi w) (h0 : lo ≤ 0 ∧ 0 ≤ hi) : lo ≤ w ∧ w ≤ hi := by
  by_cases c : b ≤ 0
  · rw [h.1 c]
    exact h0
  · obtain ⟨r, _, e⟩ := h.2 (by omega)
    omega
section LSTS
variable {σ : Type}
/-- the last hole: of it, the best number of ounces alone -/
theorem LW.last {C : σ → Int} {f : Int → σ} {m m' now s b lo hi w : Int} (hm : m ≤ now) (hp : ∀ v, (lo ≤ v ∧ v ≤ hi) → C (f v) = par now s b v) (h0 : lo ≤ 0 ∧ 0 ≤ hi) (hF : Foot s b lo hi w) (hb : b ≤ 0 → s = 0 ∧ b = 0) (h : (w ≠ 0 ∧ par now s b w ≤ m ∧ m' = if par now s b w < m then par now s b w else m) ∨ ((w = 0 ∨ m < par now s b w) ∧ m' = m)) : LW C m m' (fun t => ∃ v, (lo ≤ v ∧ v ≤ hi) ∧ v ≠ 0 ∧ t = f v) := by
  have hw := hF.in h0
  have p0 : par now s b 0 = now := by
    unfold par
    rw [Int.mul_zero, Int.zero_mul, Int.zero_mul, Int.zero_mul]
    omega
  have key : ∀ v, (lo ≤ v ∧ v ≤ hi) → par now s b w ≤ par now s b v := fun v hv => by
    by_cases c : b ≤ 0
    · obtain ⟨z1, z2⟩ := hb c
      have e : ∀ u, par now s b u = now := fun u => by
        unfold par
        rw [z1, z2, Int.mul_zero, Int.mul_zero]
        omega
      rw [e, e]
      exact Int.le_refl _
    · obtain ⟨r, r1, r2⟩ := hF.2 (by omega)
      exact par_foot (by omega) r1 r2 (by omega) hv
  have k0 := key 0 h0
  rw [p0] at k0
  rcases h with ⟨a, c, e⟩ | ⟨a, e⟩
  · have e2 : m' ≤ m ∧ m' ≤ par now s b w ∧ (m' = m ∨ m' = par now s b w) := by
      by_cases q : par now s b w < m
      · rw [if_pos q] at e
        omega
      · rw [if_neg q] at e
        omega
    refine ⟨e2.1, fun t ⟨v, v1, _, v3⟩ => ?_, e2.2.2.elim Or.inl (fun q => Or.inr ⟨f w, ⟨w, hw, a, rfl⟩, q.trans (hp w hw).symm⟩)⟩
    rw [v3, hp v v1]
    exact Int.le_trans e2.2.1 (key v v1)
  · subst e
    refine ⟨Int.le_refl _, fun t ⟨v, v1, _, v3⟩ => ?_, Or.inl rfl⟩
    rw [v3, hp v v1]
    rcases a with a | a
    · rw [a, p0] at key
      exact Int.le_trans hm (key v v1)
    · have z := key v v1
      omega
/-- the loop over the last holes -/
def NzD (st : Nat → Int → σ → σ) (lo hi : Nat → Int) (a i : Nat) (s t : σ) : Prop := ∃ (j : Nat) (v : Int), (a ≤ j ∧ j < i) ∧ (lo j ≤ v ∧ v ≤ hi j) ∧ v ≠ 0 ∧ t = st j v s
theorem LW.startD {C : σ → Int} {m : Int} {st : Nat → Int → σ → σ} {lo hi : Nat → Int} {a : Nat} {s : σ} : LW C m m (NzD st lo hi a a s) := LW.none (fun t ⟨j, v, ⟨p, q⟩, _⟩ => by omega)
theorem LW.stepD {C : σ → Int} {m m1 m2 : Int} {st : Nat → Int → σ → σ} {lo hi : Nat → Int} {a i : Nat} {s : σ} (ha : a ≤ i) (g : LW C m m1 (NzD st lo hi a i s)) (g2 : LW C m1 m2 (fun t => ∃ v, (lo i ≤ v ∧ v ≤ hi i) ∧ v ≠ 0 ∧ t = st i v s)) : LW C m m2 (NzD st lo hi a (i + 1) s) := (g.trans g2).cg (fun t => by
  unfold NzD
  constructor
  · rintro ⟨j, v, ⟨p, q⟩, r⟩
    by_cases c : j = i
    · subst c
      exact Or.inr ⟨v, r⟩
    · exact Or.inl ⟨j, v, ⟨p, by omega⟩, r⟩
  · rintro (⟨j, v, ⟨p, q⟩, r⟩ | ⟨v, r⟩)
    · exact ⟨j, v, ⟨p, by omega⟩, r⟩
    · exact ⟨i, v, ⟨ha, by omega⟩, r⟩)
theorem LW.stopD {C : σ → Int} {m m' : Int} {st : Nat → Int → σ → σ} {lo hi : Nat → Int} {n a i : Nat} {s : σ} (hz : ∀ j : Nat, j < n → lo j ≤ 0 ∧ 0 ≤ hi j) (g : LW C m m' (NzD st lo hi a i s)) (hi_ : i = n) : LW C m m' (Nz st lo hi n a 1 s) := g.cg (fun t => by
  unfold NzD Nz
  constructor
  · rintro ⟨j, v, ⟨p, q⟩, r1, r2, r3⟩
    exact ⟨j, v, ⟨p, by omega⟩, r1, r2, (Rch_k0 hz (by omega)).mp r3⟩
  · rintro ⟨j, v, ⟨p, q⟩, r1, r2, r3⟩
    exact ⟨j, v, ⟨p, by omega⟩, r1, r2, (Rch_k0 hz (by omega)).mpr r3⟩)
end LSTS
/-! whole parts of longs -/
theorem i64_xs {x y : Int64} (hy : 0 < y.toInt) : (x ^^^ y).toInt < 0 ↔ x.toInt < 0 := by
  have e : ∀ z : Int64, z.toBitVec.msb = decide (z.toInt < 0) := fun z => BitVec.msb_eq_toInt
  have e1 := e (x ^^^ y)
  rw [Int64.toBitVec_xor, BitVec.msb_xor, e x, e y, decide_eq_false (show ¬ y.toInt < 0 by omega), Bool.xor_false] at e1
  exact (decide_eq_decide.mp e1).symm
theorem td_cases {x y : Int} (hy : 0 < y) : (x.tdiv y = x / y ∧ (0 ≤ x ∨ x / y * y = x)) ∨ (x.tdiv y = x / y + 1 ∧ x < 0 ∧ x / y * y ≠ x) := by
  have k := Int.tdiv_eq_ediv (a := x) (b := y)
  by_cases c : 0 ≤ x ∨ y ∣ x
  · rw [if_pos c] at k
    exact Or.inl ⟨by omega, c.elim Or.inl (fun d => Or.inr (Int.ediv_mul_cancel d))⟩
  · rw [if_neg c, Int.sign_eq_one_of_pos hy] at k
    exact Or.inr ⟨k, by have z : ¬ 0 ≤ x := fun q => c (Or.inl q); omega, fun e => c (Or.inr ⟨x / y, by rw [Int.mul_comm]; exact e.symm⟩)⟩
theorem td_neg {x y : Int} (hy : 0 < y) (hx : x < 0) : x.tdiv y ≤ 0 ∧ x ≤ x.tdiv y * y ∧ x.tdiv y * y ≤ 0 := by
  have n := Int.ediv_neg_of_neg_of_pos hx hy
  have e := Int.mul_ediv_add_emod x y
  have m0 := Int.emod_nonneg x (show y ≠ 0 by omega)
  have m1 := Int.emod_lt_of_pos x hy
  rw [Int.mul_comm] at e
  have t : x.tdiv y ≤ 0 ∧ x ≤ x.tdiv y * y := by
    rcases td_cases (x := x) hy with ⟨a, b⟩ | ⟨a, b, c⟩
    · rw [a]
      exact ⟨by omega, by rcases b with b | b <;> omega⟩
    · rw [a, Int.add_mul, Int.one_mul]
      exact ⟨by omega, by omega⟩
  exact ⟨t.1, t.2, Int.mul_nonpos_of_nonpos_of_nonneg t.1 (Int.le_of_lt hy)⟩
theorem i64_td {x y : Int64} (hy : 0 < y.toInt) : (x / y).toInt = x.toInt.tdiv y.toInt := by
  have h1 := Int64.le_toInt x
  have h2 := Int64.toInt_lt x
  have l := Int.natAbs_tdiv_le_natAbs x.toInt y.toInt
  have l2 : x.toInt < 0 → x.toInt.tdiv y.toInt ≤ 0 := fun c => (td_neg hy c).1
  rw [Int64.toInt_div]
  exact Int.bmod_eq_of_le_mul_two (by omega) (by omega)
/-- floorDiv, its three ends -/
theorem fd_A {x y : Int64} (hy : 0 < y.toInt) (h : ¬ (x ^^^ y).toInt < 0) : (x / y).toInt = x.toInt / y.toInt := by
  rw [i64_td hy]
  rcases td_cases (x := x.toInt) hy with ⟨a, b⟩ | ⟨a, b, c⟩
  · exact a
  · exact absurd ((i64_xs hy).mpr b) h
theorem fd_m {x y : Int64} (hy : 0 < y.toInt) (hx : x.toInt < 0) : (x / y * y).toInt = x.toInt.tdiv y.toInt * y.toInt := by
  have h1 := Int64.le_toInt x
  obtain ⟨a, b, c⟩ := td_neg hy hx
  exact tJ_mul (i64_td hy) rfl (by omega)
theorem fd_B {x y : Int64} (hy : 0 < y.toInt) (h : (x ^^^ y).toInt < 0) (he : (x / y * y).toInt = x.toInt) : (x / y).toInt = x.toInt / y.toInt := by
  have hx := (i64_xs hy).mp h
  rw [fd_m hy hx] at he
  rw [i64_td hy]
  rcases td_cases (x := x.toInt) hy with ⟨a, b⟩ | ⟨a, b, c⟩
  · exact a
  · have e := Int.mul_ediv_add_emod x.toInt y.toInt
    have m0 := Int.emod_nonneg x.toInt (show y.toInt ≠ 0 by omega)
    have m1 := Int.emod_lt_of_pos x.toInt hy
    rw [Int.mul_comm] at e
    rw [a, Int.add_mul, Int.one_mul] at he
    omega
theorem fd_C {x y : Int64} (hy : 0 < y.toInt) (h : (x ^^^ y).toInt < 0) (he : ¬ (x / y * y).toInt = x.toInt) : (x / y - 1).toInt = x.toInt / y.toInt := by
  have hx := (i64_xs hy).mp h
  have h1 := Int64.le_toInt x
  have t := td_neg hy hx
  rw [fd_m hy hx] at he
  have l := Int.natAbs_tdiv_le_natAbs x.toInt y.toInt
  rcases td_cases (x := x.toInt) hy with ⟨a, b⟩ | ⟨a, b, c⟩
  · rw [a] at he
    rcases b with b | b
    · omega
    · exact absurd b he
  · have n := Int.ediv_neg_of_neg_of_pos hx hy
    have k : x.toInt ≤ x.toInt / y.toInt := by
      have e := Int.mul_ediv_add_emod x.toInt y.toInt
      have m0 := Int.emod_nonneg x.toInt (show y.toInt ≠ 0 by omega)
      have m1 := Int.emod_lt_of_pos x.toInt hy
      have z := Int.mul_nonneg (show 0 ≤ y.toInt - 1 by omega) (show 0 ≤ -(x.toInt / y.toInt) - 1 by omega)
      rw [Int.sub_mul, Int.mul_sub, Int.mul_neg] at z
      omega
    have e2 : (x / y - 1).toInt = x.toInt.tdiv y.toInt - 1 := tJ_sub (i64_td hy) (show (1 : Int64).toInt = 1 from by decide) (by omega)
    rw [e2, a]
    omega
/-- floorMod, its ends -/
theorem fm_t {x y : Int64} : (x - x / y * y).toInt = x.toInt - x.toInt.tdiv y.toInt * y.toInt := by
  have e := Int.tmod_add_tdiv_mul x.toInt y.toInt
  rw [lrem_t]
  omega
theorem fm_A {x y : Int64} (hy : 0 < y.toInt) (h : ¬ (x ^^^ y).toInt < 0) : (x - x / y * y).toInt = x.toInt % y.toInt := by
  have e := Int.mul_ediv_add_emod x.toInt y.toInt
  rw [Int.mul_comm] at e
  rw [fm_t]
  rcases td_cases (x := x.toInt) hy with ⟨a, b⟩ | ⟨a, b, c⟩
  · rw [a]
    omega
  · exact absurd ((i64_xs hy).mpr b) h
theorem fm_B {x y : Int64} (hy : 0 < y.toInt) (he : (x - x / y * y).toInt = 0) : (x - x / y * y).toInt = x.toInt % y.toInt := by
  have e := Int.mul_ediv_add_emod x.toInt y.toInt
  have m0 := Int.emod_nonneg x.toInt (show y.toInt ≠ 0 by omega)
  have m1 := Int.emod_lt_of_pos x.toInt hy
  rw [Int.mul_comm] at e
  rw [fm_t] at he ⊢
  rcases td_cases (x := x.toInt) hy with ⟨a, b⟩ | ⟨a, b, c⟩
  · rw [a] at he ⊢
    omega
  · rw [a, Int.add_mul, Int.one_mul] at he
    omega
theorem fm_C {x y : Int64} (hy : 0 < y.toInt) (h : (x ^^^ y).toInt < 0) (he : ¬ (x - x / y * y).toInt = 0) : (x - x / y * y + y).toInt = x.toInt % y.toInt := by
  have hx := (i64_xs hy).mp h
  have h2 := Int64.toInt_lt y
  have e := Int.mul_ediv_add_emod x.toInt y.toInt
  have m0 := Int.emod_nonneg x.toInt (show y.toInt ≠ 0 by omega)
  have m1 := Int.emod_lt_of_pos x.toInt hy
  rw [Int.mul_comm] at e
  have e1 := fm_t (x := x) (y := y)
  rw [e1] at he
  rcases td_cases (x := x.toInt) hy with ⟨a, b⟩ | ⟨a, b, c⟩
  · rw [a] at he
    rcases b with b | b
    · omega
    · omega
  · rw [a, Int.add_mul, Int.one_mul] at e1
    have e2 : (x - x / y * y + y).toInt = x.toInt - (x.toInt / y.toInt * y.toInt + y.toInt) + y.toInt := tJ_add e1 rfl (by omega)
    rw [e2]
    omega
theorem ediv_b {x y : Int} (hy : 0 < y) (hx : -12000000000000 ≤ x ∧ x ≤ 12000000000000) : -12000000000000 ≤ x / y ∧ x / y ≤ 12000000000000 := by
  have a := (Int.le_ediv_iff_mul_le (c := y) (a := -12000000000000) (b := x) hy).mpr (by omega)
  have b := (Int.ediv_lt_iff_lt_mul (a := x) (b := 12000000000001) (c := y) hy).mpr (by omega)
  omega
theorem lay_step {g f F : Nat → Int64} {i : Int32} {v : Int64} (h0 : 0 ≤ i.toInt) (h : ∀ p : Nat, ((p : Int) < i.toInt → g p = F p) ∧ (i.toInt ≤ (p : Int) → g p = f p)) (hv : v = F i.toInt.toNat) : ∀ p : Nat, ((p : Int) < i.toInt + 1 → vp_updL g i.toNatClampNeg v p = F p) ∧ (i.toInt + 1 ≤ (p : Int) → vp_updL g i.toNatClampNeg v p = f p) := by
  intro p
  unfold vp_updL
  by_cases e : p = i.toInt.toNat
  · subst e
    exact ⟨fun _ => (if_pos (show i.toInt.toNat = i.toNatClampNeg from rfl)).trans hv, fun q => by omega⟩
  · exact ⟨fun q => (if_neg (show ¬ p = i.toNatClampNeg from e)).trans ((h p).1 (by omega)), fun q => (if_neg (show ¬ p = i.toNatClampNeg from e)).trans ((h p).2 (by omega))⟩
theorem szL_Zs {x y : Int64} (hx : -10000 ≤ x.toInt ∧ x.toInt ≤ 10000) (hy : -10000 ≤ y.toInt ∧ y.toInt ≤ 10000) : (szL x y).toInt = x.toInt * x.toInt + y.toInt * y.toInt ∧ (szL x y).toInt ≤ 200000000 := by
  have a := mul_b hx hx
  have b := mul_b hy hy
  have e1 : (x * x).toInt = x.toInt * x.toInt := tJ_mul rfl rfl (by omega)
  have e2 : (y * y).toInt = y.toInt * y.toInt := tJ_mul rfl rfl (by omega)
  have e3 : (szL x y).toInt = x.toInt * x.toInt + y.toInt * y.toInt := tJ_add e1 e2 (by omega)
  rw [e3]
  omega
theorem cs_Zs {x y : Nat → Int64} : ∀ {n : Nat}, n ≤ 6 → bdd 10000 n x → bdd 10000 n y → (cs x y n).toInt = ss (toZ x) (toZ y) n ∧ ss (toZ x) (toZ y) n ≤ (n : Int) * 200000000
  | 0, _, _, _ => ⟨(show (0 : Int64).toInt = 0 from by decide), (show (0 : Int) ≤ ((0 : Nat) : Int) * 200000000 from by decide)⟩
  | n + 1, hn, hx, hy => by
    obtain ⟨i1, i2⟩ := cs_Zs (n := n) (by omega) (fun p hp => hx p (Nat.lt_succ_of_lt hp)) (fun p hp => hy p (Nat.lt_succ_of_lt hp))
    obtain ⟨z1, z2⟩ := szL_Zs (hx n (Nat.lt_succ_self n)) (hy n (Nat.lt_succ_self n))
    have z := ss_0 (f := toZ x) (g := toZ y) (n := n)
    have a := sq_nn (x n).toInt
    have b := sq_nn (y n).toInt
    have e : (cs x y n + szL (x n) (y n)).toInt = ss (toZ x) (toZ y) n + ((x n).toInt * (x n).toInt + (y n).toInt * (y n).toInt) := tJ_add i1 z1 (by omega)
    refine ⟨e, ?_⟩
    show ss (toZ x) (toZ y) n + ((x n).toInt * (x n).toInt + (y n).toInt * (y n).toInt) ≤ _
    omega
theorem bdd.mono {B B' : Int} {n : Nat} {x : Nat → Int64} (h : bdd B n x) (l : B ≤ B') : bdd B' n x := fun p hp => by have z := h p hp; omega
/-- the numbers of a search now, its slope and bend at a hole -/
theorem SR_at {n : Nat} {x y u w : Nat → Int64} (hn : n ≤ 6) (hx : bdd 98000000 n x) (hy : bdd 98000000 n y) (hu : bdd 10000 n u) (hw : bdd 10000 n w) : (0 ≤ (cs x y n).toInt ∧ (cs x y n).toInt ≤ 120000000000000000) ∧ (-12000000000000 ≤ (slp x y u w n).toInt ∧ (slp x y u w n).toInt ≤ 12000000000000) ∧ (0 ≤ (cs u w n).toInt ∧ (cs u w n).toInt ≤ 1200000000) ∧ ((cs u w n).toInt ≤ 0 → (slp x y u w n).toInt = 0 ∧ (cs u w n).toInt = 0) := by
  obtain ⟨a1, a2⟩ := cs_Z hn (hx.mono (by decide)) (hy.mono (by decide))
  obtain ⟨b1, b2, b3⟩ := slp_Z hn (hx.mono (by decide)) (hy.mono (by decide)) hu hw
  obtain ⟨c1, c2⟩ := cs_Zs hn hu hw
  have a3 := ss_0 (f := toZ x) (g := toZ y) (n := n)
  have c3 := ss_0 (f := toZ u) (g := toZ w) (n := n)
  refine ⟨by omega, by omega, by omega, fun h => ⟨?_, by omega⟩⟩
  rw [b1]
  exact sl_0 (by omega)
/-- the loop of digLast: one hole more -/
theorem digL_step {n i fi : Nat} {sx sy x y : Nat → Int64} {lo hi : Nat → Int} {m m1 m2 : Int} {now s w th b : Int64} (hn : n ≤ 6) (hx : bdd 98000000 n x) (hy : bdd 98000000 n y) (hu : bdd 10000 n (at16 sx i)) (hw : bdd 10000 n (at16 sy i)) (hb : b = cs (at16 sx i) (at16 sy i) n) (hnow : now = cs x y n) (hs : s = slp x y (at16 sx i) (at16 sy i) n) (hlh : (-200 ≤ lo i ∧ lo i ≤ 0) ∧ 0 ≤ hi i ∧ hi i ≤ 200) (hm : m ≤ (cs x y n).toInt) (hF : Foot s.toInt b.toInt (lo i) (hi i) w.toInt) (hth : th = now + 2 * w * s + w * w * b) (ha : fi ≤ i) (g : LW (CC n) m m1 (NzD (stC n sx sy) lo hi fi i (trn n x, trn n y))) (h : (w.toInt ≠ 0 ∧ th.toInt ≤ m1 ∧ m2 = if th.toInt < m1 then th.toInt else m1) ∨ ((w.toInt = 0 ∨ m1 < th.toInt) ∧ m2 = m1)) : LW (CC n) m m2 (NzD (stC n sx sy) lo hi fi (i + 1) (trn n x, trn n y)) := by
  obtain ⟨s1, s2, s3, s4⟩ := SR_at hn hx hy hu hw
  have h0 : lo i ≤ 0 ∧ 0 ≤ hi i := ⟨hlh.1.2, hlh.2.1⟩
  have hwr := hF.in h0
  have et : th.toInt = par (cs x y n).toInt (slp x y (at16 sx i) (at16 sy i) n).toInt (cs (at16 sx i) (at16 sy i) n).toInt w.toInt := by
    rw [hth, then_Z (by rw [hnow]; exact s1) (by rw [hs]; exact s2) (by rw [hb]; exact s3) (by omega), hnow, hs, hb]
  rw [et] at h
  rw [hs, hb] at hF
  exact g.stepD ha (LW.last (f := fun v => stC n sx sy i v (trn n x, trn n y)) (Int.le_trans g.1 hm) (fun v hv => CC_par hn hx hy hu hw (by omega)) h0 hF s4 h)
theorem lay_w {a w : Int32} {f s g : Int64} (ha : -200 ≤ a.toInt ∧ a.toInt ≤ 200) (hw : -200 ≤ w.toInt ∧ w.toInt ≤ 200) (h : g = f + a.toInt64 * s) : g + (w - a).toInt64 * s = f + w.toInt64 * s := by
  have e1 : (w - a).toInt = w.toInt - a.toInt := tI_sub rfl rfl (by omega)
  have e2 : (w - a).toInt64 = w.toInt64 - a.toInt64 := Int64.toInt_inj.mp (by rw [Int32.toInt_toInt64, e1]; exact (tJ_sub (Int32.toInt_toInt64 _) (Int32.toInt_toInt64 _) (by omega)).symm)
  rw [h, e2]
  grind
theorem lay_0 {f s : Int64} : f + (0 : Int32).toInt64 * s = f := by
  rw [show (0 : Int32).toInt64 = 0 by decide]
  grind
theorem mv_B {x u : Int64} {v B : Int} (hB : 2000000 ≤ B ∧ B ≤ 100000000) (hx : -(B - 2000000) ≤ x.toInt ∧ x.toInt ≤ B - 2000000) (hu : -10000 ≤ u.toInt ∧ u.toInt ≤ 10000) (hv : -200 ≤ v ∧ v ≤ 200) : -B ≤ (x + Int64.ofInt v * u).toInt ∧ (x + Int64.ofInt v * u).toInt ≤ B := by
  have a := mul_b hv hu
  have e0 : (Int64.ofInt v).toInt = v := Int64.toInt_ofInt_of_le (by omega) (by omega)
  have e1 : (Int64.ofInt v * u).toInt = v * u.toInt := tJ_mul e0 rfl (by omega)
  have e2 : (x + Int64.ofInt v * u).toInt = x.toInt + v * u.toInt := tJ_add rfl e1 (by omega)
  rw [e2]
  omega
/-- one number of ounces laid, offered, more holes behind it -/
theorem dig_step {n N a i : Nat} {sx sy x y x' y' : Nat → Int64} {lo hi : Nat → Int} {k k' m m1 m2 m3 : Int} {i1 : Nat} {w : Int32} (ek : k' = k - 1) (ei : i1 = i + 1) (hz : ∀ j : Nat, j < N → lo j ≤ 0 ∧ 0 ≤ hi j) (hi_ : i < N) (hk : 1 < k) (hl : lo i ≤ w.toInt) (hw : w.toInt ≠ 0) (hx : ∀ p, p < n → x' p = x p + w.toInt64 * sx (16 * p + i) ∧ y' p = y p + w.toInt64 * sy (16 * p + i)) (g : LW (CC n) m m1 (NzL (stC n sx sy) lo hi N a i k (trn n x, trn n y) w.toInt)) (ho : m2 = if (cs x' y' n).toInt < m1 then (cs x' y' n).toInt else m1) (g3 : LW (CC n) m2 m3 (Nz (stC n sx sy) lo hi N i1 k' (trn n x', trn n y'))) : LW (CC n) m m3 (NzL (stC n sx sy) lo hi N a i k (trn n x, trn n y) (w.toInt + 1)) := by
  subst ek
  subst ei
  have e : (trn n x', trn n y') = stC n sx sy i w.toInt (trn n x, trn n y) := stC_eq (fun p hp => by rw [← i64_of]; exact hx p hp)
  refine g.more hl hw ?_
  rw [← e]
  exact LW.then hz hi_ hk (LW.one (by rw [CC_trn]; exact ho)) g3
theorem if_le {a b c : Int} (h : c = if a < b then a else b) : c ≤ a ∧ c ≤ b := by
  by_cases q : a < b
  · rw [if_pos q] at h
    omega
  · rw [if_neg q] at h
    omega
/-! the holes that are taken: how many, which -/
def slC (P : Nat → Prop) [DecidablePred P] : Nat → Nat
  | 0 => 0
  | n + 1 => if P n then slC P n + 1 else slC P n
def slI (P : Nat → Prop) [DecidablePred P] : Nat → Nat → Nat
  | 0, _ => 0
  | n + 1, q => if P n ∧ q = slC P n then n else slI P n q
section SELS
variable {n q : Nat}
theorem slC_y {P : Nat → Prop} [DecidablePred P] (h : P n) : slC P (n + 1) = slC P n + 1 := if_pos h
theorem slC_n {P : Nat → Prop} [DecidablePred P] (h : ¬ P n) : slC P (n + 1) = slC P n := if_neg h
theorem slI_new {P : Nat → Prop} [DecidablePred P] (h : P n) : slI P (n + 1) (slC P n) = n := if_pos ⟨h, rfl⟩
theorem slI_old {P : Nat → Prop} [DecidablePred P] (h : q < slC P n) : slI P (n + 1) q = slI P n q := if_neg (fun z => by omega)
theorem slC_le {P : Nat → Prop} [DecidablePred P] : ∀ {n : Nat}, slC P n ≤ n
  | 0 => Nat.le_refl 0
  | n + 1 => by
    have ih := slC_le (P := P) (n := n)
    by_cases c : P n
    · rw [slC_y c]
      omega
    · rw [slC_n c]
      omega
theorem slI_lt {P : Nat → Prop} [DecidablePred P] : ∀ {n q : Nat}, q < slC P n → slI P n q < n ∧ P (slI P n q)
  | 0, q, h => absurd h (Nat.not_lt_zero q)
  | n + 1, q, h => by
    by_cases c : P n
    · by_cases e : q = slC P n
      · rw [e, slI_new c]
        exact ⟨Nat.lt_succ_self n, c⟩
      · rw [slC_y c] at h
        have ih := slI_lt (P := P) (n := n) (q := q) (by omega)
        rw [slI_old (by omega)]
        exact ⟨by omega, ih.2⟩
    · rw [slC_n c] at h
      have ih := slI_lt (P := P) (n := n) (q := q) h
      rw [slI_old h]
      exact ⟨by omega, ih.2⟩
end SELS
section SELC
theorem slC_cg {P Q : Nat → Prop} [DecidablePred P] [DecidablePred Q] : ∀ {n : Nat}, (∀ j, j < n → (P j ↔ Q j)) → slC P n = slC Q n
  | 0, _ => rfl
  | n + 1, h => by
    have ih := slC_cg (n := n) (fun j hj => h j (Nat.lt_succ_of_lt hj))
    have e := h n (Nat.lt_succ_self n)
    by_cases c : P n
    · rw [slC_y c, slC_y (e.mp c), ih]
    · rw [slC_n c, slC_n (fun z => c (e.mpr z)), ih]
theorem slI_cg {P Q : Nat → Prop} [DecidablePred P] [DecidablePred Q] : ∀ {n q : Nat}, (∀ j, j < n → (P j ↔ Q j)) → slI P n q = slI Q n q
  | 0, _, _ => rfl
  | n + 1, q, h => by
    have ih := slI_cg (n := n) (q := q) (fun j hj => h j (Nat.lt_succ_of_lt hj))
    have e := h n (Nat.lt_succ_self n)
    have ec := slC_cg (P := P) (Q := Q) (n := n) (fun j hj => h j (Nat.lt_succ_of_lt hj))
    show (if P n ∧ q = slC P n then n else slI P n q) = (if Q n ∧ q = slC Q n then n else slI Q n q)
    rw [ih, ec]
    by_cases c : P n ∧ q = slC Q n
    · rw [if_pos c, if_pos ⟨e.mp c.1, c.2⟩]
    · rw [if_neg c, if_neg (fun z => c ⟨e.mpr z.1, z.2⟩)]
end SELC
/-- what the class's search holds of n holes looked at -/
def BLD (P : Nat → Prop) [DecidablePred P] (lo hi vx vy : Nat → Int32) (n : Nat) (ffr fup : Nat → Int32) (fsx fsy fsz : Nat → Int64) (fpu : Nat → Int32) : Prop := ∀ q, q < slC P n → ffr q = lo (slI P n q) ∧ fup q = hi (slI P n q) ∧ fsx q = (vx (slI P n q)).toInt64 ∧ fsy q = (vy (slI P n q)).toInt64 ∧ fsz q = szL (vx (slI P n q)).toInt64 (vy (slI P n q)).toInt64 ∧ fpu q = 0
section BLDS
variable {lo hi vx vy ffr fup fpu : Nat → Int32} {fsx fsy fsz : Nat → Int64} {n : Nat}
theorem BLD.zero {P : Nat → Prop} [DecidablePred P] : BLD P lo hi vx vy 0 ffr fup fsx fsy fsz fpu := fun q h => absurd h (Nat.not_lt_zero q)
theorem BLD.no {P : Nat → Prop} [DecidablePred P] (h : BLD P lo hi vx vy n ffr fup fsx fsy fsz fpu) (c : ¬ P n) : BLD P lo hi vx vy (n + 1) ffr fup fsx fsy fsz fpu := fun q hq => by
  rw [slC_n c] at hq
  rw [slI_old hq]
  exact h q hq
theorem updL_at {f : Nat → Int64} {k : Nat} {v : Int64} : vp_updL f k v k = v := if_pos rfl
theorem updL_off {f : Nat → Int64} {k j : Nat} {v : Int64} (h : j ≠ k) : vp_updL f k v j = f j := if_neg h
theorem BLD.yes {P : Nat → Prop} [DecidablePred P] (h : BLD P lo hi vx vy n ffr fup fsx fsy fsz fpu) (c : P n) {c1 c2 : Nat} {l u : Int32} {x y z : Int64} (e1 : c1 = slC P n) (e2 : c2 = slC P n) (a1 : l = lo n) (a2 : u = hi n) (a3 : x = (vx n).toInt64) (a4 : y = (vy n).toInt64) (a5 : z = szL (vx n).toInt64 (vy n).toInt64) {z0 : Int64} : BLD P lo hi vx vy (n + 1) (upd ffr c1 l) (upd fup c1 u) (vp_updL fsx c2 x) (vp_updL fsy c2 y) (vp_updL (vp_updL fsz c1 z0) c1 z) (upd fpu c1 0) := fun q hq => by
  subst e1
  subst e2
  rw [slC_y c] at hq
  by_cases e : q = slC P n
  · subst e
    rw [slI_new c, upd_at, upd_at, updL_at, updL_at, updL_at, upd_at]
    exact ⟨a1, a2, a3, a4, a5, rfl⟩
  · have hq2 : q < slC P n := by omega
    rw [slI_old hq2, upd_off e, upd_off e, updL_off e, updL_off e, updL_off e, updL_off e, upd_off e]
    exact h q hq2
end BLDS
theorem sr_least {n N : Nat} {sx sy x y : Nat → Int64} {lo hi : Nat → Int} {k m : Int} {c : Int64} (hz : ∀ j : Nat, j < N → lo j ≤ 0 ∧ 0 ≤ hi j) (hk : 0 < k) (hc : c = cs x y n) (h : LW (CC n) c.toInt m (Nz (stC n sx sy) lo hi N 0 k (trn n x, trn n y))) : Least (CC n) m (Rch (stC n sx sy) lo hi N 0 k (trn n x, trn n y)) := by
  subst hc
  rw [← CC_trn] at h
  exact h.least (fun t => (Rch_Nz hz (Nat.zero_add N) (by omega)).trans ⟨fun q => q.elim Or.inl (fun z => Or.inr z.2), fun q => q.elim Or.inl (fun z => Or.inr ⟨hk, z⟩)⟩)
theorem sr_least0 {n N : Nat} {sx sy x y : Nat → Int64} {lo hi : Nat → Int} {c : Int64} (hz : ∀ j : Nat, j < N → lo j ≤ 0 ∧ 0 ≤ hi j) (hc : c = cs x y n) : Least (CC n) c.toInt (Rch (stC n sx sy) lo hi N 0 0 (trn n x, trn n y)) := by
  subst hc
  have e : ∀ t, Rch (stC n sx sy) lo hi N 0 0 (trn n x, trn n y) t ↔ t = (trn n x, trn n y) := fun t => Rch_k0 hz (Nat.zero_add N)
  exact ⟨fun t ht => by rw [(e t).mp ht, CC_trn]; exact Int.le_refl _, _, (e _).mpr rfl, CC_trn.symm⟩
/-- what the class's search of a plane's holes ends with -/
def SrX (P : Nat → Prop) [DecidablePred P] (lo hi vx vy : Nat → Int32) (n : Nat) (X Y : Int64) (k : Int) (v : Int64) : Prop := ∃ (ffr fup fpu : Nat → Int32) (fsx fsy fsz fxx fyy : Nat → Int64), BLD P lo hi vx vy n ffr fup fsx fsy fsz fpu ∧ fxx 0 = X ∧ fyy 0 = Y ∧ Least (CC 1) v.toInt (Rch (stC 1 fsx fsy) (fun j => (ffr j).toInt) (fun j => (fup j).toInt) (slC P n) 0 k (trn 1 fxx, trn 1 fyy))
section BLDT
variable {lo hi vx vy ffr fup fpu : Nat → Int32} {fsx fsy fsz : Nat → Int64} {n : Nat}
theorem i64_0a {a : Int64} : 0 + a = a := by grind
theorem BLD.hst {P : Nat → Prop} [DecidablePred P] (B : BLD P lo hi vx vy n ffr fup fsx fsy fsz fpu) (h : ∀ j, j < n → (-99 ≤ (vx j).toInt ∧ (vx j).toInt ≤ 99) ∧ -99 ≤ (vy j).toInt ∧ (vy j).toInt ≤ 99) : ∀ j, j < slC P n → bdd 10000 1 (at16 fsx j) ∧ bdd 10000 1 (at16 fsy j) ∧ fsz j = cs (at16 fsx j) (at16 fsy j) 1 := fun j hj => by
  obtain ⟨b1, b2, b3, b4, b5, b6⟩ := B j hj
  have z := h _ (slI_lt hj).1
  have e3 : at16 fsx j 0 = (vx (slI P n j)).toInt64 := by
    show fsx (16 * 0 + j) = _
    rw [show 16 * 0 + j = j by omega]
    exact b3
  have e4 : at16 fsy j 0 = (vy (slI P n j)).toInt64 := by
    show fsy (16 * 0 + j) = _
    rw [show 16 * 0 + j = j by omega]
    exact b4
  refine ⟨fun p hp => ?_, fun p hp => ?_, ?_⟩
  · obtain rfl : p = 0 := by omega
    rw [e3, Int32.toInt_toInt64]
    omega
  · obtain rfl : p = 0 := by omega
    rw [e4, Int32.toInt_toInt64]
    omega
  · show fsz j = 0 + szL (at16 fsx j 0) (at16 fsy j 0)
    rw [e3, e4, b5, i64_0a]
theorem BLD.hlh {P : Nat → Prop} [DecidablePred P] (B : BLD P lo hi vx vy n ffr fup fsx fsy fsz fpu) (h : ∀ j, j < n → (-200 ≤ (lo j).toInt ∧ (lo j).toInt ≤ 0) ∧ 0 ≤ (hi j).toInt ∧ (hi j).toInt ≤ 200) : ∀ j, j < slC P n → (-200 ≤ (ffr j).toInt ∧ (ffr j).toInt ≤ 0) ∧ 0 ≤ (fup j).toInt ∧ (fup j).toInt ≤ 200 := fun j hj => by
  obtain ⟨b1, b2, -⟩ := B j hj
  rw [b1, b2]
  exact h _ (slI_lt hj).1
theorem BLD.hp0 {P : Nat → Prop} [DecidablePred P] (B : BLD P lo hi vx vy n ffr fup fsx fsy fsz fpu) : ∀ j, j < slC P n → fpu j = 0 := fun j hj => (B j hj).2.2.2.2.2
theorem bdd_1 {x : Nat → Int64} {X : Int32} (e : x 0 = X.toInt64) (h : -94000000 ≤ X.toInt ∧ X.toInt ≤ 94000000) : bdd 94000000 1 x := fun p hp => by
  obtain rfl : p = 0 := by omega
  rw [e, Int32.toInt_toInt64]
  exact h
end BLDT
/-- refused, or what a search ends with -/
def SrE (ok S : Prop) (v : Int64) : Prop := (¬ ok ∧ v = -1) ∨ (ok ∧ S)
/-! the reference: what is laid, the cost -/
def stM (fa fp fx fy : Nat → Int32) (i : Nat) (v : Int) (l : Nat → Int32) : Nat → Int32 := upd (upd l (2 * fp (fa i).toNatClampNeg).toNatClampNeg (l (2 * fp (fa i).toNatClampNeg).toNatClampNeg + Int32.ofInt v * fx (fa i).toNatClampNeg)) ((2 * fp (fa i).toNatClampNeg) + 1).toNatClampNeg (upd l (2 * fp (fa i).toNatClampNeg).toNatClampNeg (l (2 * fp (fa i).toNatClampNeg).toNatClampNeg + Int32.ofInt v * fx (fa i).toNatClampNeg) ((2 * fp (fa i).toNatClampNeg) + 1).toNatClampNeg + Int32.ofInt v * fy (fa i).toNatClampNeg)
theorem stM_w {fa fp fx fy l : Nat → Int32} {i : Nat} {w : Int32} : upd (upd l (2 * fp (fa i).toNatClampNeg).toNatClampNeg (l (2 * fp (fa i).toNatClampNeg).toNatClampNeg + w * fx (fa i).toNatClampNeg)) ((2 * fp (fa i).toNatClampNeg) + 1).toNatClampNeg (upd l (2 * fp (fa i).toNatClampNeg).toNatClampNeg (l (2 * fp (fa i).toNatClampNeg).toNatClampNeg + w * fx (fa i).toNatClampNeg) ((2 * fp (fa i).toNatClampNeg) + 1).toNatClampNeg + w * fy (fa i).toNatClampNeg) = stM fa fp fx fy i w.toInt l := by
  unfold stM
  rw [Int32.ofInt_toInt]
theorem AB_ne {p : Int32} (h : 0 ≤ p.toInt ∧ p.toInt ≤ 1) : (2 * p).toNatClampNeg ≠ ((2 * p) + 1).toNatClampNeg ∧ (2 * p).toNatClampNeg = 2 * p.toInt.toNat ∧ ((2 * p) + 1).toNatClampNeg = 2 * p.toInt.toNat + 1 := by
  have e1 : (2 * p).toInt = 2 * p.toInt := tI_mul (show (2 : Int32).toInt = 2 from by decide) rfl (by omega)
  have e2 : ((2 * p) + 1).toInt = 2 * p.toInt + 1 := tI_add e1 (show (1 : Int32).toInt = 1 from by decide) (by omega)
  have f1 : (2 * p).toNatClampNeg = (2 * p.toInt).toNat := congrArg Int.toNat e1
  have f2 : ((2 * p) + 1).toNatClampNeg = (2 * p.toInt + 1).toNat := congrArg Int.toNat e2
  rw [f1, f2]
  omega
theorem upd_back {l : Nat → Int32} {A B : Nat} {x y : Int32} (h : A ≠ B) : upd (upd (upd (upd l A (l A + x)) B (upd l A (l A + x) B + y)) A (upd (upd l A (l A + x)) B (upd l A (l A + x) B + y) A - x)) B (upd (upd (upd l A (l A + x)) B (upd l A (l A + x) B + y)) A (upd (upd l A (l A + x)) B (upd l A (l A + x) B + y) A - x) B - y) = l := funext (fun k => by
  have hb : B ≠ A := fun e => h e.symm
  rw [upd_off (f := upd l A (l A + x)) h, upd_at]
  by_cases c : k = B
  · subst c
    rw [upd_at, upd_off hb, upd_at, upd_off hb]
    grind
  · rw [upd_off c]
    by_cases c2 : k = A
    · subst c2
      rw [upd_at]
      grind
    · rw [upd_off c2, upd_off c, upd_off c2])
theorem upd_0 {l : Nat → Int32} {A B : Nat} {x y w : Int32} (hw : w.toInt = 0) : upd (upd l A (l A + w * x)) B (upd l A (l A + w * x) B + w * y) = l := funext (fun k => by
  obtain rfl : w = 0 := Int32.toInt_inj.mp (hw.trans (by decide))
  have e : ∀ a b : Int32, a + 0 * b = a := fun a b => by grind
  rw [e, e]
  by_cases c : k = B
  · subst c
    rw [upd_at]
    by_cases c2 : k = A
    · subst c2
      rw [upd_at]
    · rw [upd_off c2]
  · rw [upd_off c]
    by_cases c2 : k = A
    · subst c2
      rw [upd_at]
    · rw [upd_off c2])
def askR (fX fY : Nat → Int32) (q : Int32) (l : Nat → Int32) : Int64 := szL (fX q.toNatClampNeg + l (2 * q).toNatClampNeg).toInt64 (fY q.toNatClampNeg + l ((2 * q) + 1).toNatClampNeg).toInt64
def CR (fX fY : Nat → Int32) (q : Int32) (l : Nat → Int32) : Int := (askR fX fY q l).toInt
theorem GW.base {σ : Type} {C : σ → Int} {b c b' c' : Int} {st : Nat → Int → σ → σ} {lo hi : Nat → Int} {i : Nat} {k : Int} {s : σ} (h : GW C b c b' c' (fun t => t = s)) : GW C b c b' c' (Rch st lo hi 0 i k s) := h.cg (fun _ => Iff.rfl)
/-- what the reference's search holds of n holes looked at -/
def BLM (P : Nat → Prop) [DecidablePred P] (lo hi : Nat → Int32) (n : Nat) (fa flo fhi : Nat → Int32) : Prop := ∀ q, q < slC P n → (fa q).toInt = ((slI P n q : Nat) : Int) ∧ flo q = lo (slI P n q) ∧ fhi q = hi (slI P n q)
section BLMS
variable {lo hi fa flo fhi : Nat → Int32} {n : Nat}
theorem BLM.zero {P : Nat → Prop} [DecidablePred P] : BLM P lo hi 0 fa flo fhi := fun q h => absurd h (Nat.not_lt_zero q)
theorem BLM.no {P : Nat → Prop} [DecidablePred P] (h : BLM P lo hi n fa flo fhi) (c : ¬ P n) : BLM P lo hi (n + 1) fa flo fhi := fun q hq => by
  rw [slC_n c] at hq
  rw [slI_old hq]
  exact h q hq
theorem BLM.yes {P : Nat → Prop} [DecidablePred P] (h : BLM P lo hi n fa flo fhi) (c : P n) {c1 : Nat} {a l u : Int32} (e1 : c1 = slC P n) (a1 : a.toInt = (n : Int)) (a2 : l = lo n) (a3 : u = hi n) : BLM P lo hi (n + 1) (upd fa c1 a) (upd flo c1 l) (upd fhi c1 u) := fun q hq => by
  subst e1
  rw [slC_y c] at hq
  by_cases e : q = slC P n
  · subst e
    rw [slI_new c, upd_at, upd_at, upd_at]
    exact ⟨a1, a2, a3⟩
  · have hq2 : q < slC P n := by omega
    rw [slI_old hq2, upd_off e, upd_off e, upd_off e]
    exact h q hq2
end BLMS
def SrM (P : Nat → Prop) [DecidablePred P] (lo hi fp vx vy lx ly fo : Nat → Int32) (n : Nat) (fX fY : Nat → Int32) (q : Int32) (k : Int) (v : Int64) : Prop := ∃ (fa flo fhi L gx gy : Nat → Int32), (∀ j, j < n → gx j = vx j ∧ gy j = vy j) ∧ BLM P lo hi n fa flo fhi ∧ (∀ j : Nat, j < 4 → L j = ldq fp (its fo (-1) 0) lx ly n j) ∧ Least (CR fX fY q) v.toInt (Rch (stM fa fp gx gy) (fun j => (flo j).toInt) (fun j => (fhi j).toInt) (slC P n) 0 k L)
theorem neg_step {g f : Nat → Int32} {i v : Int32} (h0 : 0 ≤ i.toInt) (h : ∀ p : Nat, ((p : Int) < i.toInt → g p = -f p) ∧ (i.toInt ≤ (p : Int) → g p = f p)) (hv : v = -f i.toInt.toNat) : ∀ p : Nat, ((p : Int) < i.toInt + 1 → upd g i.toNatClampNeg v p = -f p) ∧ (i.toInt + 1 ≤ (p : Int) → upd g i.toNatClampNeg v p = f p) := by
  intro p
  by_cases e : p = i.toInt.toNat
  · subst e
    exact ⟨fun _ => (upd_at (f := g) (k := i.toNatClampNeg) (x := v)).trans hv, fun q => by omega⟩
  · rw [upd_off (show p ≠ i.toNatClampNeg from e)]
    exact ⟨fun q => (h p).1 (by omega), fun q => (h p).2 (by omega)⟩
theorem lw_neg {fp ft fx gx : Nat → Int32} {w : Int} : ∀ {n : Nat}, (∀ j, j < n → gx j = -fx j) → -(lw fp ft gx w n) = lw fp ft fx w n
  | 0, _ => (show -(0 : Int32) = 0 from by decide)
  | n + 1, h => by
    have ih := lw_neg (fp := fp) (ft := ft) (w := w) (n := n) (fun j hj => h j (Nat.lt_succ_of_lt hj))
    have e := h n (Nat.lt_succ_self n)
    by_cases c : (fp n).toInt = w
    · rw [lw_yes c, lw_yes c, ← ih, e]
      grind
    · rw [lw_no c, lw_no c, ih]
theorem ldq_neg {fp ft fx fy gx gy : Nat → Int32} {n k : Nat} (h : ∀ j, j < n → gx j = -fx j ∧ gy j = -fy j) : -(ldq fp ft gx gy n k) = ldq fp ft fx fy n k := by
  unfold ldq
  by_cases c0 : k = 0
  · rw [if_pos c0, if_pos c0]
    exact lw_neg (fun j hj => (h j hj).1)
  · rw [if_neg c0, if_neg c0]
    by_cases c1 : k = 1
    · rw [if_pos c1, if_pos c1]
      exact lw_neg (fun j hj => (h j hj).2)
    · rw [if_neg c1, if_neg c1]
      by_cases c2 : k = 2
      · rw [if_pos c2, if_pos c2]
        exact lw_neg (fun j hj => (h j hj).1)
      · rw [if_neg c2, if_neg c2]
        exact lw_neg (fun j hj => (h j hj).2)
/-- what fewest answers -/
def FwE (S : Int → Int64 → Prop) (b : Int) (z : Int32) : Prop := ((0 ≤ z.toInt ∧ z.toInt ≤ 3) ∧ (∃ v, S z.toInt v ∧ v.toInt ≤ b) ∧ ∀ k : Int, 0 ≤ k → k < z.toInt → ∃ u, S k u ∧ b < u.toInt) ∨ (z = -2 ∧ ∀ k : Int, 0 ≤ k → k < 4 → ∃ u, S k u ∧ b < u.toInt)
def FwR (ok : Prop) (S : Int → Int64 → Prop) (b : Int) (z : Int32) : Prop := (¬ ok ∧ z = -1) ∨ (ok ∧ FwE S b z)
theorem FwE.same {S S' : Int → Int64 → Prop} {b : Int} {z z' : Int32} (h : ∀ k : Int, 0 ≤ k → k < 4 → ∀ u u', S k u → S' k u' → u = u') (A : FwE S b z) (B : FwE S' b z') : z = z' := by
  rcases A with ⟨a0, ⟨v, a1, a2⟩, a3⟩ | ⟨a0, a3⟩
  · rcases B with ⟨b0, ⟨v', b1, b2⟩, b3⟩ | ⟨b0, b3⟩
    · rcases (by omega : z.toInt = z'.toInt ∨ z.toInt < z'.toInt ∨ z'.toInt < z.toInt) with e | e | e
      · exact Int32.toInt_inj.mp e
      · obtain ⟨u, u1, u2⟩ := b3 z.toInt a0.1 e
        have q := h z.toInt a0.1 (by omega) _ _ a1 u1
        rw [q] at a2
        omega
      · obtain ⟨u, u1, u2⟩ := a3 z'.toInt b0.1 e
        have q := h z'.toInt b0.1 (by omega) _ _ u1 b1
        rw [q] at u2
        omega
    · obtain ⟨u, u1, u2⟩ := b3 z.toInt a0.1 (by omega)
      have q := h z.toInt a0.1 (by omega) _ _ a1 u1
      rw [q] at a2
      omega
  · rcases B with ⟨b0, ⟨v', b1, b2⟩, b3⟩ | ⟨b0, b3⟩
    · obtain ⟨u, u1, u2⟩ := a3 z'.toInt b0.1 (by omega)
      have q := h z'.toInt b0.1 (by omega) _ _ u1 b1
      rw [q] at u2
      omega
    · rw [a0, b0]
theorem FwR.same {ok : Prop} {S S' : Int → Int64 → Prop} {b : Int} {z z' : Int32} (h : ok → ∀ k : Int, 0 ≤ k → k < 4 → ∀ u u', S k u → S' k u' → u = u') (A : FwR ok S b z) (B : FwR ok S' b z') : z = z' := A.elim (fun x => B.elim (fun y => x.2.trans y.2.symm) (fun y => absurd y.1 x.1)) (fun x => B.elim (fun y => absurd x.1 y.1) (fun y => FwE.same (h x.1) x.2 y.2))
theorem FwE.step {S : Int → Int64 → Prop} {b w : Int} {v : Int64} (h : ∀ k : Int, 0 ≤ k → k < w → ∃ u, S k u ∧ b < u.toInt) (a : S w v) (c : b < v.toInt) : ∀ k : Int, 0 ≤ k → k < w + 1 → ∃ u, S k u ∧ b < u.toInt := fun k k0 k1 => by
  by_cases e : k = w
  · subst e
    exact ⟨v, a, c⟩
  · exact h k k0 (by omega)
def EqS (a b : Int) : Prop := a = b
def iabs (x : Int32) : Int32 := if 0 ≤ x then x else 0 - x
section ZLS
variable {p : Program} {l : Launch} {e : Env} {R : Room} {s : State} {m : MethodId} {args : Array Value} {below : List Frame} {meth : Method} {c : Code} {nL : Nat} {G : KG} {A : Nat → Prop} {Q : State → Prop} {cc : ByteArray} {own : String} {ret : Option FieldType} {nm : String}
variable {pc : Nat} {rest : List Value} {ws : va_W} {kc ks : Nat}
theorem z_lmax3 (X : ZC p s m args meth c cc nL own G A ret nm) {lv : List (Nat × Value)} {x y : Int64} {idx : Nat} (h1 : Cond.methodLink own idx Lib.MathLoose.max_long.x ∈ BIG) (h2 : Cond.static Lib.MathLoose.max_long.x ∈ BIG) (h3 : Cond.initialized "java/lang/Math" ∈ BIG) (h4 : Cond.code Lib.MathLoose.max_long.x Lib.MathLoose.max_long.code 4 (some .long) ∈ BIG) (hR : 1 ≤ R.frames ∧ (rest.map fun v => v.category).sum + 15 ≤ R.locals) (hf : kc ≤ R.cells ∧ ks ≤ R.slots) (hdg : decode cc pc = .ok (.invokestatic idx, 3)) {v : Int64} (hv : (if y < x then x else y) = v) (kz : Z p l e R s m args below meth c nL G A Q (pc + 3) lv (.long v :: rest) ws kc ks) : Z p l e R s m args below meth c nL G A Q pc lv (.long y :: .long x :: rest) ws kc ks := by
  subst hv
  exact fun H locs ls hP hD hS hl => va_mmax_long X.1 X.2.1 (X.2.2.1.trans hl.1.symm) X.2.2.2.1 (X.2.2.2.2.1 _ h1) (X.2.2.2.2.1 _ h2) (X.2.2.2.2.1 _ h3) (X.2.2.2.2.1 _ h4) hR.1 hR.2 hf.1 hf.2 hdg (kz H locs ls hP hD hS hl)
theorem z_lmin3 (X : ZC p s m args meth c cc nL own G A ret nm) {lv : List (Nat × Value)} {x y : Int64} {idx : Nat} (h1 : Cond.methodLink own idx Lib.MathLoose.min_long.x ∈ BIG) (h2 : Cond.static Lib.MathLoose.min_long.x ∈ BIG) (h3 : Cond.initialized "java/lang/Math" ∈ BIG) (h4 : Cond.code Lib.MathLoose.min_long.x Lib.MathLoose.min_long.code 4 (some .long) ∈ BIG) (hR : 1 ≤ R.frames ∧ (rest.map fun v => v.category).sum + 15 ≤ R.locals) (hf : kc ≤ R.cells ∧ ks ≤ R.slots) (hdg : decode cc pc = .ok (.invokestatic idx, 3)) {v : Int64} (hv : (if y < x then y else x) = v) (kz : Z p l e R s m args below meth c nL G A Q (pc + 3) lv (.long v :: rest) ws kc ks) : Z p l e R s m args below meth c nL G A Q pc lv (.long y :: .long x :: rest) ws kc ks := by
  subst hv
  exact fun H locs ls hP hD hS hl => va_mmin_long X.1 X.2.1 (X.2.2.1.trans hl.1.symm) X.2.2.2.1 (X.2.2.2.2.1 _ h1) (X.2.2.2.2.1 _ h2) (X.2.2.2.2.1 _ h3) (X.2.2.2.2.1 _ h4) hR.1 hR.2 hf.1 hf.2 hdg (kz H locs ls hP hD hS hl)
theorem z_iabs (X : ZC p s m args meth c cc nL own G A ret nm) {lv : List (Nat × Value)} {x : Int32} {idx : Nat} (h1 : Cond.methodLink own idx Lib.Math.abs.name ∈ BIG) (h2 : Cond.static Lib.Math.abs.name ∈ BIG) (h3 : Cond.initialized "java/lang/Math" ∈ BIG) (h4 : Cond.code Lib.Math.abs.name Lib.Math.abs.code 1 (some .int) ∈ BIG) (hR : 1 ≤ R.frames ∧ (rest.map fun v => v.category).sum + 13 ≤ R.locals) (hf : kc ≤ R.cells ∧ ks ≤ R.slots) (hdg : decode cc pc = .ok (.invokestatic idx, 3)) {v : Int32} (hv : (if 0 ≤ x then x else 0 - x) = v) (kz : Z p l e R s m args below meth c nL G A Q (pc + 3) lv (.int v :: rest) ws kc ks) : Z p l e R s m args below meth c nL G A Q pc lv (.int x :: rest) ws kc ks := by
  subst hv
  exact fun H locs ls hP hD hS hl => va_mabs X.1 X.2.1 (X.2.2.1.trans hl.1.symm) X.2.2.2.1 (X.2.2.2.2.1 _ h1) (X.2.2.2.2.1 _ h2) (X.2.2.2.2.1 _ h3) (X.2.2.2.2.1 _ h4) hR.1 hR.2 hf.1 hf.2 hdg (kz H locs ls hP hD hS hl)
end ZLS
theorem tJ_max3 {x y : Int64} {a b : Int} (ha : x.toInt = a) (hb : y.toInt = b) : (if y < x then x else y).toInt = max a b := by
  subst ha; subst hb
  by_cases h : y < x
  · rw [if_pos h]; have := Int64.lt_iff_toInt_lt.mp h; omega
  · rw [if_neg h]; have := Int.not_lt.mp (fun q => h (Int64.lt_iff_toInt_lt.mpr q)); omega
theorem tJ_min3 {x y : Int64} {a b : Int} (ha : x.toInt = a) (hb : y.toInt = b) : (if y < x then y else x).toInt = min a b := by
  subst ha; subst hb
  by_cases h : y < x
  · rw [if_pos h]; have := Int64.lt_iff_toInt_lt.mp h; omega
  · rw [if_neg h]; have := Int.not_lt.mp (fun q => h (Int64.lt_iff_toInt_lt.mpr q)); omega
theorem dr_X10_sizeOf_7 : decode cX10_sizeOf 7 = .ok (.lreturn, 1) := by decide +kernel
abbrev br_X10_sizeOf_0_7 : ZB := [(.lload_n 0, .null), (.lload_n 0, .null), (.lmul, .null), (.lload_n 2, .null), (.lload_n 2, .null), (.lmul, .null), (.ladd, .null)]
theorem kr_X10_sizeOf_0_7 : zchk cX10_sizeOf br_X10_sizeOf_0_7 0 = true ∧ zpc br_X10_sizeOf_0_7 0 = 7 := ⟨by decide +kernel, rfl⟩
set_option maxHeartbeats 4000000 in
set_option maxRecDepth 100000 in
theorem cr_X10_sizeOfS (l : Launch) (G : KG) (xq : Int64) (yq : Int64) : Ct l G yX10_sizeOf cX10_sizeOf 4 (some .long) { frames := 0, cells := 0, slots := 0, locals := 0 } [.long xq, .long yq] [] (fun r w1 => ∃ (rz : Int64), (rz = szL xq yq) ∧ r = some (.long rz) ∧ w1 = []) := by
  refine ct_of [(0, .long xq), (2, .long yq)] (by decide) (Nat.le_of_ble_eq_true rfl) rfl ?_
  intro p0 e0 s0 m0 args0 below0 meth0 c0 A X
  refine z_run X br_X10_sizeOf_0_7 kr_X10_sizeOf_0_7 (lv' := [(0, .long xq), (2, .long yq)]) (st' := [.long ((xq * xq) + (yq * yq))]) rfl ?_
  exact z_lret X rfl dr_X10_sizeOf_7 (Nat.le_of_ble_eq_true rfl) (Nat.le_of_ble_eq_true rfl) ⟨((xq * xq) + (yq * yq)), rfl, rfl, rfl⟩

theorem dr_X6_stepAt_6 : decode cX6_stepAt 6 = .ok (.ireturn, 1) := by decide +kernel
abbrev br_X6_stepAt_0_6 : ZB := [(.iload_n 0, .null), (.bipush 16, .int 16), (.imul, .null), (.iload_n 1, .null), (.iadd, .null)]
theorem kr_X6_stepAt_0_6 : zchk cX6_stepAt br_X6_stepAt_0_6 0 = true ∧ zpc br_X6_stepAt_0_6 0 = 6 := ⟨by decide +kernel, rfl⟩
set_option maxHeartbeats 4000000 in
set_option maxRecDepth 100000 in
theorem cr_X6_stepAtS (l : Launch) (G : KG) (aq : Int32) (bq : Int32) (ai : Int) (bi : Int) (haq : aq.toInt = ai) (hbq : bq.toInt = bi) (ha : 0 ≤ ai ∧ ai < 6) (hb : 0 ≤ bi ∧ bi < 16) : Ct l G yX6_stepAt cX6_stepAt 2 (some .int) { frames := 0, cells := 0, slots := 0, locals := 0 } [.int aq, .int bq] [] (fun r w1 => ∃ (rz : Int32), (rz.toNatClampNeg = 16 * aq.toNatClampNeg + bq.toNatClampNeg) ∧ (0 ≤ rz.toInt ∧ rz.toInt < 96) ∧ r = some (.int rz) ∧ w1 = []) := by
  refine ct_of [(0, .int aq), (1, .int bq)] (by decide) (Nat.le_of_ble_eq_true rfl) rfl ?_
  intro p0 e0 s0 m0 args0 below0 meth0 c0 A X
  refine z_run X br_X6_stepAt_0_6 kr_X6_stepAt_0_6 (lv' := [(0, .int aq), (1, .int bq)]) (st' := [.int ((aq * 16) + bq)]) rfl ?_
  exact z_iret X rfl dr_X6_stepAt_6 (Nat.le_of_ble_eq_true rfl) (Nat.le_of_ble_eq_true rfl) ⟨((aq * 16) + bq), (by have e : (((aq * 16) + bq) : Int32).toInt = ((ai * 16) + bi) := (tI_add (tI_mul haq (show (16 : Int32).toInt = 16 from by decide) (by omega)) hbq (by omega)); show (((aq * 16) + bq) : Int32).toInt.toNat = 16 * aq.toInt.toNat + bq.toInt.toNat; omega), (by have e : (((aq * 16) + bq) : Int32).toInt = ((ai * 16) + bi) := (tI_add (tI_mul haq (show (16 : Int32).toInt = 16 from by decide) (by omega)) hbq (by omega)); omega), rfl, rfl⟩

theorem dr_X6_costNow_6 : decode cX6_costNow 6 = .ok (.getfield 44, 3) := by decide +kernel
theorem dr_X6_costNow_9 : decode cX6_costNow 9 = .ok (.if_icmp .ge 47, 3) := by decide +kernel
theorem dr_X6_costNow_57 : decode cX6_costNow 57 = .ok (.lreturn, 1) := by decide +kernel
theorem dr_X6_costNow_13 : decode cX6_costNow 13 = .ok (.getfield 18, 3) := by decide +kernel
theorem dr_X6_costNow_17 : decode cX6_costNow 17 = .ok (.laload, 1) := by decide +kernel
theorem dr_X6_costNow_19 : decode cX6_costNow 19 = .ok (.getfield 22, 3) := by decide +kernel
theorem dr_X6_costNow_23 : decode cX6_costNow 23 = .ok (.laload, 1) := by decide +kernel
theorem dr_X6_costNow_24 : decode cX6_costNow 24 = .ok (.invokestatic 55, 3) := by decide +kernel
theorem dr_X6_costNow_30 : decode cX6_costNow 30 = .ok (.getfield 47, 3) := by decide +kernel
theorem dr_X6_costNow_33 : decode cX6_costNow 33 = .ok (.ifCond .eq 12, 3) := by decide +kernel
theorem dr_X6_costNow_53 : decode cX6_costNow 53 = .ok (.goto (-49), 3) := by decide +kernel
abbrev br_X6_costNow_0_4 : ZB := [(.lconst 0, .long 0), (.lstore_n 1, .null), (.iconst 0, .int 0), (.istore_n 3, .null)]
theorem kr_X6_costNow_0_4 : zchk cX6_costNow br_X6_costNow_0_4 0 = true ∧ zpc br_X6_costNow_0_4 0 = 4 := ⟨by decide +kernel, rfl⟩
abbrev br_X6_costNow_4_6 : ZB := [(.iload_n 3, .null), (.aload_n 0, .null)]
theorem kr_X6_costNow_4_6 : zchk cX6_costNow br_X6_costNow_4_6 4 = true ∧ zpc br_X6_costNow_4_6 4 = 6 := ⟨by decide +kernel, rfl⟩
abbrev br_X6_costNow_56_57 : ZB := [(.lload_n 1, .null)]
theorem kr_X6_costNow_56_57 : zchk cX6_costNow br_X6_costNow_56_57 56 = true ∧ zpc br_X6_costNow_56_57 56 = 57 := ⟨by decide +kernel, rfl⟩
abbrev br_X6_costNow_12_13 : ZB := [(.aload_n 0, .null)]
theorem kr_X6_costNow_12_13 : zchk cX6_costNow br_X6_costNow_12_13 12 = true ∧ zpc br_X6_costNow_12_13 12 = 13 := ⟨by decide +kernel, rfl⟩
abbrev br_X6_costNow_16_17 : ZB := [(.iload_n 3, .null)]
theorem kr_X6_costNow_16_17 : zchk cX6_costNow br_X6_costNow_16_17 16 = true ∧ zpc br_X6_costNow_16_17 16 = 17 := ⟨by decide +kernel, rfl⟩
abbrev br_X6_costNow_18_19 : ZB := [(.aload_n 0, .null)]
theorem kr_X6_costNow_18_19 : zchk cX6_costNow br_X6_costNow_18_19 18 = true ∧ zpc br_X6_costNow_18_19 18 = 19 := ⟨by decide +kernel, rfl⟩
abbrev br_X6_costNow_22_23 : ZB := [(.iload_n 3, .null)]
theorem kr_X6_costNow_22_23 : zchk cX6_costNow br_X6_costNow_22_23 22 = true ∧ zpc br_X6_costNow_22_23 22 = 23 := ⟨by decide +kernel, rfl⟩
abbrev br_X6_costNow_27_30 : ZB := [(.lstore 4, .null), (.aload_n 0, .null)]
theorem kr_X6_costNow_27_30 : zchk cX6_costNow br_X6_costNow_27_30 27 = true ∧ zpc br_X6_costNow_27_30 27 = 30 := ⟨by decide +kernel, rfl⟩
abbrev br_X6_costNow_45_53 : ZB := [(.lload_n 1, .null), (.lload 4, .null), (.ladd, .null), (.lstore_n 1, .null), (.iinc 3 1, .int 1)]
theorem kr_X6_costNow_45_53 : zchk cX6_costNow br_X6_costNow_45_53 45 = true ∧ zpc br_X6_costNow_45_53 45 = 53 := ⟨by decide +kernel, rfl⟩
set_option maxHeartbeats 4000000 in
set_option maxRecDepth 100000 in
theorem cr_X6_costNowS (l : Launch) (G : KG) (se : Nat) (hn : Int32) (np : Int32) (afr : Nat) (aup : Nat) (axx : Nat) (ayy : Nat) (asx : Nat) (asy : Nat) (asz : Nat) (apu : Nat) (abe : Nat) (oz : Int32) (fo : Int32) (lc : Int64) (fxx : Nat → Int64) (fyy : Nat → Int64) (npi : Int) (hnp : np.toInt = npi) (np0 : 0 ≤ npi ∧ npi ≤ 6) : Ct l G yX6_costNow cX6_costNow 6 (some .long) { frames := 1, cells := 0, slots := 0, locals := 23 } [.ref se] [(se, ob 6 [.int hn, .int np, .int 0, .ref afr, .ref aup, .ref axx, .ref ayy, .ref asx, .ref asy, .ref asz, .ref apu, .ref abe, .int oz, .int fo, .long lc]), (axx, aJ G 6 fxx), (ayy, aJ G 6 fyy)] (fun r w1 => ∃ (rz : Int64), (rz = cs fxx fyy npi.toNat) ∧ r = some (.long rz) ∧ w1 = [(se, ob 6 [.int hn, .int np, .int 0, .ref afr, .ref aup, .ref axx, .ref ayy, .ref asx, .ref asy, .ref asz, .ref apu, .ref abe, .int oz, .int fo, .long lc]), (axx, aJ G 6 fxx), (ayy, aJ G 6 fyy)]) := by
  refine ct_of [(0, .ref se)] (by decide) (Nat.le_of_ble_eq_true rfl) rfl ?_
  intro p0 e0 s0 m0 args0 below0 meth0 c0 A X
  refine z_run X br_X6_costNow_0_4 kr_X6_costNow_0_4 (lv' := [(3, .int 0), (1, .long 0), (0, .ref se)]) (st' := []) rfl ?_
  refine zloop (σ := Int32 × Int64) (fun z => [(3, .int z.1), (1, .long z.2), (0, .ref se)]) (fun z => []) (fun z => [(se, ob 6 [.int hn, .int np, .int 0, .ref afr, .ref aup, .ref axx, .ref ayy, .ref asx, .ref asy, .ref asz, .ref apu, .ref abe, .int oz, .int fo, .long lc]), (axx, aJ G 6 fxx), (ayy, aJ G 6 fyy)]) (fun z => (0 ≤ z.1.toInt ∧ z.1.toInt ≤ npi) ∧ (z.2 = cs fxx fyy z.1.toInt.toNat)) (fun z => (npi - z.1.toInt).toNat) (0, 0) ?_ ?_
  ·
    rintro ⟨i_, c_⟩ ⟨hi, hc⟩ ih4
    dsimp only at *
    refine z_run X br_X6_costNow_4_6 kr_X6_costNow_4_6 (lv' := [(3, .int i_), (1, .long c_), (0, .ref se)]) (st' := [.ref se, .int i_]) rfl ?_
    refine z_get X fl_6_44 dr_X6_costNow_6 0 rfl (v := .int np) rfl ?_
    refine zc_ge X dr_X6_costNow_9 (tgt := 56) (by decide) (a := i_.toInt) (b := npi) rfl hnp (fun c9_1 => ?_) (fun c9_1 => ?_)
    ·
      refine z_run X br_X6_costNow_56_57 kr_X6_costNow_56_57 (lv' := [(3, .int i_), (1, .long c_), (0, .ref se)]) (st' := [.long c_]) rfl ?_
      exact z_lret X rfl dr_X6_costNow_57 (Nat.le_of_ble_eq_true rfl) (Nat.le_of_ble_eq_true rfl) ⟨c_, (by rw [hc, show i_.toInt.toNat = npi.toNat by omega]), rfl, rfl⟩
    ·
      refine z_run X br_X6_costNow_12_13 kr_X6_costNow_12_13 (lv' := [(3, .int i_), (1, .long c_), (0, .ref se)]) (st' := [.ref se]) rfl ?_
      refine z_get X fl_6_18 dr_X6_costNow_13 0 rfl (v := .ref axx) rfl ?_
      refine z_run X br_X6_costNow_16_17 kr_X6_costNow_16_17 (lv' := [(3, .int i_), (1, .long c_), (0, .ref se)]) (st' := [.int i_, .ref axx]) rfl ?_
      refine z_lald X dr_X6_costNow_17 1 rfl (vin rfl (by omega) (by omega)) (v := (fxx i_.toNatClampNeg)) rfl ?_
      refine z_run X br_X6_costNow_18_19 kr_X6_costNow_18_19 (lv' := [(3, .int i_), (1, .long c_), (0, .ref se)]) (st' := [.ref se, .long (fxx i_.toNatClampNeg)]) rfl ?_
      refine z_get X fl_6_22 dr_X6_costNow_19 0 rfl (v := .ref ayy) rfl ?_
      refine z_run X br_X6_costNow_22_23 kr_X6_costNow_22_23 (lv' := [(3, .int i_), (1, .long c_), (0, .ref se)]) (st' := [.int i_, .ref ayy, .long (fxx i_.toNatClampNeg)]) rfl ?_
      refine z_lald X dr_X6_costNow_23 2 rfl (vin rfl (by omega) (by omega)) (v := (fyy i_.toNatClampNeg)) rfl ?_
      refine z_callSN X k_6_55 (cr_X10_sizeOfS l G (fxx i_.toNatClampNeg) (fyy i_.toNatClampNeg)) dr_X6_costNow_24 ⟨Nat.le_of_ble_eq_true rfl, Nat.le_of_ble_eq_true rfl⟩ ⟨Nat.le_of_ble_eq_true rfl, Nat.le_of_ble_eq_true rfl⟩ rfl (rest := []) (As := [.long (fxx i_.toNatClampNeg), .long (fyy i_.toNatClampNeg)]) rfl (Nat.le_of_ble_eq_true rfl) [] [0, 1, 2] rfl (by decide) (wr := [(se, ob 6 [.int hn, .int np, .int 0, .ref afr, .ref aup, .ref axx, .ref ayy, .ref asx, .ref asy, .ref asz, .ref apu, .ref abe, .int oz, .int fo, .long lc]), (axx, aJ G 6 fxx), (ayy, aJ G 6 fyy)]) rfl (by decide) (by decide) ?_
      rintro _ _ ⟨rz_2, f24_3, rfl, rfl⟩
      refine Z.at (pc' := 27) (st' := [.long rz_2]) (ws' := [(se, ob 6 [.int hn, .int np, .int 0, .ref afr, .ref aup, .ref axx, .ref ayy, .ref asx, .ref asy, .ref asz, .ref apu, .ref abe, .int oz, .int fo, .long lc]), (axx, aJ G 6 fxx), (ayy, aJ G 6 fyy)]) (kc' := 0) (ks' := 0) rfl rfl rfl rfl rfl ?_
      refine z_run X br_X6_costNow_27_30 kr_X6_costNow_27_30 (lv' := [(4, .long rz_2), (3, .int i_), (1, .long c_), (0, .ref se)]) (st' := [.ref se]) rfl ?_
      refine z_get X fl_6_47 dr_X6_costNow_30 0 rfl (v := .int 0) rfl ?_
      refine zi_eq X dr_X6_costNow_33 (tgt := 45) (by decide) (a := 0) (show (0 : Int32).toInt = 0 from by decide) (fun _ => ?_) (fun c33_4 => absurd c33_4 (by decide))
      refine z_run X br_X6_costNow_45_53 kr_X6_costNow_45_53 (lv' := [(3, .int (i_ + 1)), (1, .long (c_ + rz_2)), (4, .long rz_2), (0, .ref se)]) (st' := []) rfl ?_
      refine z_goto X dr_X6_costNow_53 (tgt := 4) (by decide) ?_
      refine Z.sub (lv' := [(3, .int (i_ + 1)), (1, .long (c_ + rz_2)), (0, .ref se)]) [0, 1, 3] rfl [0, 1, 2] (ws' := [(se, ob 6 [.int hn, .int np, .int 0, .ref afr, .ref aup, .ref axx, .ref ayy, .ref asx, .ref asy, .ref asz, .ref apu, .ref abe, .int oz, .int fo, .long lc]), (axx, aJ G 6 fxx), (ayy, aJ G 6 fyy)]) rfl (by decide) ?_
      exact ih4 ((i_ + 1), (c_ + rz_2)) ⟨(by (try dsimp only); have e : (i_ + 1).toInt = i_.toInt + 1 := tI_add rfl (show (1 : Int32).toInt = 1 from by decide) (by omega); omega), (by (try dsimp only); have e : (i_ + 1).toInt = i_.toInt + 1 := tI_add rfl (show (1 : Int32).toInt = 1 from by decide) (by omega); rw [e, show (i_.toInt + 1).toNat = i_.toInt.toNat + 1 by omega, hc, f24_3]; rfl)⟩ (by (try dsimp only); have e : (i_ + 1).toInt = i_.toInt + 1 := tI_add rfl (show (1 : Int32).toInt = 1 from by decide) (by omega); omega)
  · exact ⟨(by (try dsimp only); have e0 : (0 : Int32).toInt = 0 := (by decide); omega), (by (try dsimp only); have e0 : (0 : Int32).toInt = 0 := (by decide); rw [e0]; rfl)⟩

theorem dr_X6_slopeOf_8 : decode cX6_slopeOf 8 = .ok (.getfield 44, 3) := by decide +kernel
theorem dr_X6_slopeOf_11 : decode cX6_slopeOf 11 = .ok (.if_icmp .ge 51, 3) := by decide +kernel
theorem dr_X6_slopeOf_63 : decode cX6_slopeOf 63 = .ok (.lreturn, 1) := by decide +kernel
theorem dr_X6_slopeOf_16 : decode cX6_slopeOf 16 = .ok (.getfield 18, 3) := by decide +kernel
theorem dr_X6_slopeOf_21 : decode cX6_slopeOf 21 = .ok (.laload, 1) := by decide +kernel
theorem dr_X6_slopeOf_23 : decode cX6_slopeOf 23 = .ok (.getfield 25, 3) := by decide +kernel
theorem dr_X6_slopeOf_29 : decode cX6_slopeOf 29 = .ok (.invokestatic 51, 3) := by decide +kernel
theorem dr_X6_slopeOf_32 : decode cX6_slopeOf 32 = .ok (.laload, 1) := by decide +kernel
theorem dr_X6_slopeOf_35 : decode cX6_slopeOf 35 = .ok (.getfield 22, 3) := by decide +kernel
theorem dr_X6_slopeOf_40 : decode cX6_slopeOf 40 = .ok (.laload, 1) := by decide +kernel
theorem dr_X6_slopeOf_42 : decode cX6_slopeOf 42 = .ok (.getfield 28, 3) := by decide +kernel
theorem dr_X6_slopeOf_48 : decode cX6_slopeOf 48 = .ok (.invokestatic 51, 3) := by decide +kernel
theorem dr_X6_slopeOf_51 : decode cX6_slopeOf 51 = .ok (.laload, 1) := by decide +kernel
theorem dr_X6_slopeOf_59 : decode cX6_slopeOf 59 = .ok (.goto (-54), 3) := by decide +kernel
abbrev br_X6_slopeOf_0_5 : ZB := [(.lconst 0, .long 0), (.lstore_n 2, .null), (.iconst 0, .int 0), (.istore 4, .null)]
theorem kr_X6_slopeOf_0_5 : zchk cX6_slopeOf br_X6_slopeOf_0_5 0 = true ∧ zpc br_X6_slopeOf_0_5 0 = 5 := ⟨by decide +kernel, rfl⟩
abbrev br_X6_slopeOf_5_8 : ZB := [(.iload 4, .null), (.aload_n 0, .null)]
theorem kr_X6_slopeOf_5_8 : zchk cX6_slopeOf br_X6_slopeOf_5_8 5 = true ∧ zpc br_X6_slopeOf_5_8 5 = 8 := ⟨by decide +kernel, rfl⟩
abbrev br_X6_slopeOf_62_63 : ZB := [(.lload_n 2, .null)]
theorem kr_X6_slopeOf_62_63 : zchk cX6_slopeOf br_X6_slopeOf_62_63 62 = true ∧ zpc br_X6_slopeOf_62_63 62 = 63 := ⟨by decide +kernel, rfl⟩
abbrev br_X6_slopeOf_14_16 : ZB := [(.lload_n 2, .null), (.aload_n 0, .null)]
theorem kr_X6_slopeOf_14_16 : zchk cX6_slopeOf br_X6_slopeOf_14_16 14 = true ∧ zpc br_X6_slopeOf_14_16 14 = 16 := ⟨by decide +kernel, rfl⟩
abbrev br_X6_slopeOf_19_21 : ZB := [(.iload 4, .null)]
theorem kr_X6_slopeOf_19_21 : zchk cX6_slopeOf br_X6_slopeOf_19_21 19 = true ∧ zpc br_X6_slopeOf_19_21 19 = 21 := ⟨by decide +kernel, rfl⟩
abbrev br_X6_slopeOf_22_23 : ZB := [(.aload_n 0, .null)]
theorem kr_X6_slopeOf_22_23 : zchk cX6_slopeOf br_X6_slopeOf_22_23 22 = true ∧ zpc br_X6_slopeOf_22_23 22 = 23 := ⟨by decide +kernel, rfl⟩
abbrev br_X6_slopeOf_26_29 : ZB := [(.iload 4, .null), (.iload_n 1, .null)]
theorem kr_X6_slopeOf_26_29 : zchk cX6_slopeOf br_X6_slopeOf_26_29 26 = true ∧ zpc br_X6_slopeOf_26_29 26 = 29 := ⟨by decide +kernel, rfl⟩
abbrev br_X6_slopeOf_33_35 : ZB := [(.lmul, .null), (.aload_n 0, .null)]
theorem kr_X6_slopeOf_33_35 : zchk cX6_slopeOf br_X6_slopeOf_33_35 33 = true ∧ zpc br_X6_slopeOf_33_35 33 = 35 := ⟨by decide +kernel, rfl⟩
abbrev br_X6_slopeOf_38_40 : ZB := [(.iload 4, .null)]
theorem kr_X6_slopeOf_38_40 : zchk cX6_slopeOf br_X6_slopeOf_38_40 38 = true ∧ zpc br_X6_slopeOf_38_40 38 = 40 := ⟨by decide +kernel, rfl⟩
abbrev br_X6_slopeOf_41_42 : ZB := [(.aload_n 0, .null)]
theorem kr_X6_slopeOf_41_42 : zchk cX6_slopeOf br_X6_slopeOf_41_42 41 = true ∧ zpc br_X6_slopeOf_41_42 41 = 42 := ⟨by decide +kernel, rfl⟩
abbrev br_X6_slopeOf_45_48 : ZB := [(.iload 4, .null), (.iload_n 1, .null)]
theorem kr_X6_slopeOf_45_48 : zchk cX6_slopeOf br_X6_slopeOf_45_48 45 = true ∧ zpc br_X6_slopeOf_45_48 45 = 48 := ⟨by decide +kernel, rfl⟩
abbrev br_X6_slopeOf_52_59 : ZB := [(.lmul, .null), (.ladd, .null), (.ladd, .null), (.lstore_n 2, .null), (.iinc 4 1, .int 1)]
theorem kr_X6_slopeOf_52_59 : zchk cX6_slopeOf br_X6_slopeOf_52_59 52 = true ∧ zpc br_X6_slopeOf_52_59 52 = 59 := ⟨by decide +kernel, rfl⟩
set_option maxHeartbeats 4000000 in
set_option maxRecDepth 100000 in
theorem cr_X6_slopeOfS (l : Launch) (G : KG) (se : Nat) (hn : Int32) (np : Int32) (afr : Nat) (aup : Nat) (axx : Nat) (ayy : Nat) (asx : Nat) (asy : Nat) (asz : Nat) (apu : Nat) (abe : Nat) (oz : Int32) (fo : Int32) (lc : Int64) (fxx : Nat → Int64) (fyy : Nat → Int64) (fsx : Nat → Int64) (fsy : Nat → Int64) (iq : Int32) (npi : Int) (ii : Int) (hnp : np.toInt = npi) (hiq : iq.toInt = ii) (np0 : 0 ≤ npi ∧ npi ≤ 6) (hi0 : 0 ≤ ii ∧ ii < 16) : Ct l G yX6_slopeOf cX6_slopeOf 5 (some .long) { frames := 1, cells := 0, slots := 0, locals := 21 } [.ref se, .int iq] [(se, ob 6 [.int hn, .int np, .int 0, .ref afr, .ref aup, .ref axx, .ref ayy, .ref asx, .ref asy, .ref asz, .ref apu, .ref abe, .int oz, .int fo, .long lc]), (axx, aJ G 6 fxx), (ayy, aJ G 6 fyy), (asx, aJ G 96 fsx), (asy, aJ G 96 fsy)] (fun r w1 => ∃ (rz : Int64), (rz = slp fxx fyy (at16 fsx iq.toInt.toNat) (at16 fsy iq.toInt.toNat) npi.toNat) ∧ r = some (.long rz) ∧ w1 = [(se, ob 6 [.int hn, .int np, .int 0, .ref afr, .ref aup, .ref axx, .ref ayy, .ref asx, .ref asy, .ref asz, .ref apu, .ref abe, .int oz, .int fo, .long lc]), (axx, aJ G 6 fxx), (ayy, aJ G 6 fyy), (asx, aJ G 96 fsx), (asy, aJ G 96 fsy)]) := by
  refine ct_of [(0, .ref se), (1, .int iq)] (by decide) (Nat.le_of_ble_eq_true rfl) rfl ?_
  intro p0 e0 s0 m0 args0 below0 meth0 c0 A X
  refine z_run X br_X6_slopeOf_0_5 kr_X6_slopeOf_0_5 (lv' := [(4, .int 0), (2, .long 0), (0, .ref se), (1, .int iq)]) (st' := []) rfl ?_
  refine zloop (σ := Int32 × Int64) (fun z => [(4, .int z.1), (2, .long z.2), (0, .ref se), (1, .int iq)]) (fun z => []) (fun z => [(se, ob 6 [.int hn, .int np, .int 0, .ref afr, .ref aup, .ref axx, .ref ayy, .ref asx, .ref asy, .ref asz, .ref apu, .ref abe, .int oz, .int fo, .long lc]), (axx, aJ G 6 fxx), (ayy, aJ G 6 fyy), (asx, aJ G 96 fsx), (asy, aJ G 96 fsy)]) (fun z => (0 ≤ z.1.toInt ∧ z.1.toInt ≤ npi) ∧ (z.2 = slp fxx fyy (at16 fsx iq.toInt.toNat) (at16 fsy iq.toInt.toNat) z.1.toInt.toNat)) (fun z => (npi - z.1.toInt).toNat) (0, 0) ?_ ?_
  ·
    rintro ⟨i_, s_⟩ ⟨hi, hs⟩ ih5
    dsimp only at *
    refine z_run X br_X6_slopeOf_5_8 kr_X6_slopeOf_5_8 (lv' := [(4, .int i_), (2, .long s_), (0, .ref se), (1, .int iq)]) (st' := [.ref se, .int i_]) rfl ?_
    refine z_get X fl_6_44 dr_X6_slopeOf_8 0 rfl (v := .int np) rfl ?_
    refine zc_ge X dr_X6_slopeOf_11 (tgt := 62) (by decide) (a := i_.toInt) (b := npi) rfl hnp (fun c11_1 => ?_) (fun c11_1 => ?_)
    ·
      refine z_run X br_X6_slopeOf_62_63 kr_X6_slopeOf_62_63 (lv' := [(4, .int i_), (2, .long s_), (0, .ref se), (1, .int iq)]) (st' := [.long s_]) rfl ?_
      exact z_lret X rfl dr_X6_slopeOf_63 (Nat.le_of_ble_eq_true rfl) (Nat.le_of_ble_eq_true rfl) ⟨s_, (by rw [hs, show i_.toInt.toNat = npi.toNat by omega]), rfl, rfl⟩
    ·
      refine z_run X br_X6_slopeOf_14_16 kr_X6_slopeOf_14_16 (lv' := [(4, .int i_), (2, .long s_), (0, .ref se), (1, .int iq)]) (st' := [.ref se, .long s_]) rfl ?_
      refine z_get X fl_6_18 dr_X6_slopeOf_16 0 rfl (v := .ref axx) rfl ?_
      refine z_run X br_X6_slopeOf_19_21 kr_X6_slopeOf_19_21 (lv' := [(4, .int i_), (2, .long s_), (0, .ref se), (1, .int iq)]) (st' := [.int i_, .ref axx, .long s_]) rfl ?_
      refine z_lald X dr_X6_slopeOf_21 1 rfl (vin rfl (by omega) (by omega)) (v := (fxx i_.toNatClampNeg)) rfl ?_
      refine z_run X br_X6_slopeOf_22_23 kr_X6_slopeOf_22_23 (lv' := [(4, .int i_), (2, .long s_), (0, .ref se), (1, .int iq)]) (st' := [.ref se, .long (fxx i_.toNatClampNeg), .long s_]) rfl ?_
      refine z_get X fl_6_25 dr_X6_slopeOf_23 0 rfl (v := .ref asx) rfl ?_
      refine z_run X br_X6_slopeOf_26_29 kr_X6_slopeOf_26_29 (lv' := [(4, .int i_), (2, .long s_), (0, .ref se), (1, .int iq)]) (st' := [.int iq, .int i_, .ref asx, .long (fxx i_.toNatClampNeg), .long s_]) rfl ?_
      refine z_callS X k_6_51 (cr_X6_stepAtS l G i_ iq i_.toInt ii rfl hiq (by omega) (by omega)) dr_X6_slopeOf_29 ⟨Nat.le_of_ble_eq_true rfl, Nat.le_of_ble_eq_true rfl⟩ ⟨Nat.le_of_ble_eq_true rfl, Nat.le_of_ble_eq_true rfl⟩ rfl (rest := [.ref asx, .long (fxx i_.toNatClampNeg), .long s_]) (As := [.int i_, .int iq]) rfl (Nat.le_of_ble_eq_true rfl) [] [0, 1, 2, 3, 4] rfl (by decide) (wr := [(se, ob 6 [.int hn, .int np, .int 0, .ref afr, .ref aup, .ref axx, .ref ayy, .ref asx, .ref asy, .ref asz, .ref apu, .ref abe, .int oz, .int fo, .long lc]), (axx, aJ G 6 fxx), (ayy, aJ G 6 fyy), (asx, aJ G 96 fsx), (asy, aJ G 96 fsy)]) rfl (by decide) (by decide) ?_
      rintro _ _ ⟨rz_2, f29_3, f29_4, rfl, rfl⟩
      refine Z.at (pc' := 32) (st' := [.int rz_2, .ref asx, .long (fxx i_.toNatClampNeg), .long s_]) (ws' := [(se, ob 6 [.int hn, .int np, .int 0, .ref afr, .ref aup, .ref axx, .ref ayy, .ref asx, .ref asy, .ref asz, .ref apu, .ref abe, .int oz, .int fo, .long lc]), (axx, aJ G 6 fxx), (ayy, aJ G 6 fyy), (asx, aJ G 96 fsx), (asy, aJ G 96 fsy)]) (kc' := 0) (ks' := 0) rfl rfl rfl rfl rfl ?_
      refine z_lald X dr_X6_slopeOf_32 3 rfl (vin rfl (by omega) (by omega)) (v := (fsx rz_2.toNatClampNeg)) rfl ?_
      refine z_run X br_X6_slopeOf_33_35 kr_X6_slopeOf_33_35 (lv' := [(4, .int i_), (2, .long s_), (0, .ref se), (1, .int iq)]) (st' := [.ref se, .long ((fxx i_.toNatClampNeg) * (fsx rz_2.toNatClampNeg)), .long s_]) rfl ?_
      refine z_get X fl_6_22 dr_X6_slopeOf_35 0 rfl (v := .ref ayy) rfl ?_
      refine z_run X br_X6_slopeOf_38_40 kr_X6_slopeOf_38_40 (lv' := [(4, .int i_), (2, .long s_), (0, .ref se), (1, .int iq)]) (st' := [.int i_, .ref ayy, .long ((fxx i_.toNatClampNeg) * (fsx rz_2.toNatClampNeg)), .long s_]) rfl ?_
      refine z_lald X dr_X6_slopeOf_40 2 rfl (vin rfl (by omega) (by omega)) (v := (fyy i_.toNatClampNeg)) rfl ?_
      refine z_run X br_X6_slopeOf_41_42 kr_X6_slopeOf_41_42 (lv' := [(4, .int i_), (2, .long s_), (0, .ref se), (1, .int iq)]) (st' := [.ref se, .long (fyy i_.toNatClampNeg), .long ((fxx i_.toNatClampNeg) * (fsx rz_2.toNatClampNeg)), .long s_]) rfl ?_
      refine z_get X fl_6_28 dr_X6_slopeOf_42 0 rfl (v := .ref asy) rfl ?_
      refine z_run X br_X6_slopeOf_45_48 kr_X6_slopeOf_45_48 (lv' := [(4, .int i_), (2, .long s_), (0, .ref se), (1, .int iq)]) (st' := [.int iq, .int i_, .ref asy, .long (fyy i_.toNatClampNeg), .long ((fxx i_.toNatClampNeg) * (fsx rz_2.toNatClampNeg)), .long s_]) rfl ?_
      refine z_callS X k_6_51 (cr_X6_stepAtS l G i_ iq i_.toInt ii rfl hiq (by omega) (by omega)) dr_X6_slopeOf_48 ⟨Nat.le_of_ble_eq_true rfl, Nat.le_of_ble_eq_true rfl⟩ ⟨Nat.le_of_ble_eq_true rfl, Nat.le_of_ble_eq_true rfl⟩ rfl (rest := [.ref asy, .long (fyy i_.toNatClampNeg), .long ((fxx i_.toNatClampNeg) * (fsx rz_2.toNatClampNeg)), .long s_]) (As := [.int i_, .int iq]) rfl (Nat.le_of_ble_eq_true rfl) [] [0, 1, 2, 3, 4] rfl (by decide) (wr := [(se, ob 6 [.int hn, .int np, .int 0, .ref afr, .ref aup, .ref axx, .ref ayy, .ref asx, .ref asy, .ref asz, .ref apu, .ref abe, .int oz, .int fo, .long lc]), (axx, aJ G 6 fxx), (ayy, aJ G 6 fyy), (asx, aJ G 96 fsx), (asy, aJ G 96 fsy)]) rfl (by decide) (by decide) ?_
      rintro _ _ ⟨rz_5, f48_6, f48_7, rfl, rfl⟩
      refine Z.at (pc' := 51) (st' := [.int rz_5, .ref asy, .long (fyy i_.toNatClampNeg), .long ((fxx i_.toNatClampNeg) * (fsx rz_2.toNatClampNeg)), .long s_]) (ws' := [(se, ob 6 [.int hn, .int np, .int 0, .ref afr, .ref aup, .ref axx, .ref ayy, .ref asx, .ref asy, .ref asz, .ref apu, .ref abe, .int oz, .int fo, .long lc]), (axx, aJ G 6 fxx), (ayy, aJ G 6 fyy), (asx, aJ G 96 fsx), (asy, aJ G 96 fsy)]) (kc' := 0) (ks' := 0) rfl rfl rfl rfl rfl ?_
      refine z_lald X dr_X6_slopeOf_51 4 rfl (vin rfl (by omega) (by omega)) (v := (fsy rz_5.toNatClampNeg)) rfl ?_
      refine z_run X br_X6_slopeOf_52_59 kr_X6_slopeOf_52_59 (lv' := [(4, .int (i_ + 1)), (2, .long (s_ + (((fxx i_.toNatClampNeg) * (fsx rz_2.toNatClampNeg)) + ((fyy i_.toNatClampNeg) * (fsy rz_5.toNatClampNeg))))), (0, .ref se), (1, .int iq)]) (st' := []) rfl ?_
      refine z_goto X dr_X6_slopeOf_59 (tgt := 5) (by decide) ?_
      exact ih5 ((i_ + 1), (s_ + (((fxx i_.toNatClampNeg) * (fsx rz_2.toNatClampNeg)) + ((fyy i_.toNatClampNeg) * (fsy rz_5.toNatClampNeg))))) ⟨(by (try dsimp only); have e : (i_ + 1).toInt = i_.toInt + 1 := tI_add rfl (show (1 : Int32).toInt = 1 from by decide) (by omega); omega), (by (try dsimp only); have e : (i_ + 1).toInt = i_.toInt + 1 := tI_add rfl (show (1 : Int32).toInt = 1 from by decide) (by omega); rw [e, show (i_.toInt + 1).toNat = i_.toInt.toNat + 1 by omega, hs, show fsx _ = at16 fsx iq.toInt.toNat i_.toInt.toNat from congrArg fsx f29_3, show fsy _ = at16 fsy iq.toInt.toNat i_.toInt.toNat from congrArg fsy f48_6]; rfl)⟩ (by (try dsimp only); have e : (i_ + 1).toInt = i_.toInt + 1 := tI_add rfl (show (1 : Int32).toInt = 1 from by decide) (by omega); omega)
  · exact ⟨(by (try dsimp only); have e0 : (0 : Int32).toInt = 0 := (by decide); omega), (by (try dsimp only); have e0 : (0 : Int32).toInt = 0 := (by decide); rw [e0]; rfl)⟩

theorem dr_J9_floorDiv_f86c9_2 : decode cJ9_floorDiv_f86c9 2 = .ok (.ldiv, 1) := by decide +kernel
theorem dr_J9_floorDiv_f86c9_7 : decode cJ9_floorDiv_f86c9 7 = .ok (.lxor, 1) := by decide +kernel
theorem dr_J9_floorDiv_f86c9_9 : decode cJ9_floorDiv_f86c9 9 = .ok (.lcmp, 1) := by decide +kernel
theorem dr_J9_floorDiv_f86c9_10 : decode cJ9_floorDiv_f86c9 10 = .ok (.ifCond .ge 17, 3) := by decide +kernel
theorem dr_J9_floorDiv_f86c9_29 : decode cJ9_floorDiv_f86c9 29 = .ok (.lreturn, 1) := by decide +kernel
theorem dr_J9_floorDiv_f86c9_18 : decode cJ9_floorDiv_f86c9 18 = .ok (.lcmp, 1) := by decide +kernel
theorem dr_J9_floorDiv_f86c9_19 : decode cJ9_floorDiv_f86c9 19 = .ok (.ifCond .eq 8, 3) := by decide +kernel
theorem dr_J9_floorDiv_f86c9_26 : decode cJ9_floorDiv_f86c9 26 = .ok (.lreturn, 1) := by decide +kernel
abbrev br_J9_floorDiv_f86c9_0_2 : ZB := [(.lload_n 0, .null), (.lload_n 2, .null)]
theorem kr_J9_floorDiv_f86c9_0_2 : zchk cJ9_floorDiv_f86c9 br_J9_floorDiv_f86c9_0_2 0 = true ∧ zpc br_J9_floorDiv_f86c9_0_2 0 = 2 := ⟨by decide +kernel, rfl⟩
abbrev br_J9_floorDiv_f86c9_3_7 : ZB := [(.lstore 4, .null), (.lload_n 0, .null), (.lload_n 2, .null)]
theorem kr_J9_floorDiv_f86c9_3_7 : zchk cJ9_floorDiv_f86c9 br_J9_floorDiv_f86c9_3_7 3 = true ∧ zpc br_J9_floorDiv_f86c9_3_7 3 = 7 := ⟨by decide +kernel, rfl⟩
abbrev br_J9_floorDiv_f86c9_8_9 : ZB := [(.lconst 0, .long 0)]
theorem kr_J9_floorDiv_f86c9_8_9 : zchk cJ9_floorDiv_f86c9 br_J9_floorDiv_f86c9_8_9 8 = true ∧ zpc br_J9_floorDiv_f86c9_8_9 8 = 9 := ⟨by decide +kernel, rfl⟩
abbrev br_J9_floorDiv_f86c9_27_29 : ZB := [(.lload 4, .null)]
theorem kr_J9_floorDiv_f86c9_27_29 : zchk cJ9_floorDiv_f86c9 br_J9_floorDiv_f86c9_27_29 27 = true ∧ zpc br_J9_floorDiv_f86c9_27_29 27 = 29 := ⟨by decide +kernel, rfl⟩
abbrev br_J9_floorDiv_f86c9_13_18 : ZB := [(.lload 4, .null), (.lload_n 2, .null), (.lmul, .null), (.lload_n 0, .null)]
theorem kr_J9_floorDiv_f86c9_13_18 : zchk cJ9_floorDiv_f86c9 br_J9_floorDiv_f86c9_13_18 13 = true ∧ zpc br_J9_floorDiv_f86c9_13_18 13 = 18 := ⟨by decide +kernel, rfl⟩
abbrev br_J9_floorDiv_f86c9_22_26 : ZB := [(.lload 4, .null), (.lconst 1, .long 1), (.lsub, .null)]
theorem kr_J9_floorDiv_f86c9_22_26 : zchk cJ9_floorDiv_f86c9 br_J9_floorDiv_f86c9_22_26 22 = true ∧ zpc br_J9_floorDiv_f86c9_22_26 22 = 26 := ⟨by decide +kernel, rfl⟩
set_option maxHeartbeats 4000000 in
set_option maxRecDepth 100000 in
theorem cr_J9_floorDiv_f86c9S (l : Launch) (G : KG) (xq : Int64) (yq : Int64) (yi : Int) (hyq : yq.toInt = yi) (hy0 : 0 < yi) : Ct l G yJ9_floorDiv_f86c9 cJ9_floorDiv_f86c9 6 (some .long) { frames := 0, cells := 0, slots := 0, locals := 0 } [.long xq, .long yq] [] (fun r w1 => ∃ (rz : Int64), (rz.toInt = xq.toInt / yq.toInt) ∧ r = some (.long rz) ∧ w1 = []) := by
  refine ct_ofF [(0, .long xq), (2, .long yq)] (by decide +kernel) (Nat.le_of_ble_eq_true rfl) rfl ?_
  intro p0 e0 s0 m0 args0 below0 meth0 c0 A X
  refine z_run X br_J9_floorDiv_f86c9_0_2 kr_J9_floorDiv_f86c9_0_2 (lv' := [(0, .long xq), (2, .long yq)]) (st' := [.long yq, .long xq]) rfl ?_
  refine z_ldiv X dr_J9_floorDiv_f86c9_2 (fun h => by rw [h] at hyq; have z : (0 : Int64).toInt = 0 := (by decide); omega) ?_
  refine z_run X br_J9_floorDiv_f86c9_3_7 kr_J9_floorDiv_f86c9_3_7 (lv' := [(4, .long (xq / yq)), (0, .long xq), (2, .long yq)]) (st' := [.long yq, .long xq]) rfl ?_
  refine z_lxor X dr_J9_floorDiv_f86c9_7 ?_
  refine z_run X br_J9_floorDiv_f86c9_8_9 kr_J9_floorDiv_f86c9_8_9 (lv' := [(4, .long (xq / yq)), (0, .long xq), (2, .long yq)]) (st' := [.long 0, .long (xq ^^^ yq)]) rfl ?_
  refine zl_ge X dr_J9_floorDiv_f86c9_9 dr_J9_floorDiv_f86c9_10 (tgt := 27) (by decide) (a := (xq ^^^ yq).toInt) (b := 0) rfl (show (0 : Int64).toInt = 0 from by decide) (fun c9_1 => ?_) (fun c9_1 => ?_)
  ·
    refine z_run X br_J9_floorDiv_f86c9_27_29 kr_J9_floorDiv_f86c9_27_29 (lv' := [(4, .long (xq / yq)), (0, .long xq), (2, .long yq)]) (st' := [.long (xq / yq)]) rfl ?_
    exact z_lret X rfl dr_J9_floorDiv_f86c9_29 (Nat.le_of_ble_eq_true rfl) (Nat.le_of_ble_eq_true rfl) ⟨(xq / yq), (fd_A (show 0 < yq.toInt by omega) (Int.not_lt.mpr c9_1)), rfl, rfl⟩
  ·
    refine z_run X br_J9_floorDiv_f86c9_13_18 kr_J9_floorDiv_f86c9_13_18 (lv' := [(4, .long (xq / yq)), (0, .long xq), (2, .long yq)]) (st' := [.long xq, .long ((xq / yq) * yq)]) rfl ?_
    refine zl_eq X dr_J9_floorDiv_f86c9_18 dr_J9_floorDiv_f86c9_19 (tgt := 27) (by decide) (a := ((xq / yq) * yq).toInt) (b := xq.toInt) rfl rfl (fun c18_2 => ?_) (fun c18_2 => ?_)
    ·
      refine z_run X br_J9_floorDiv_f86c9_27_29 kr_J9_floorDiv_f86c9_27_29 (lv' := [(4, .long (xq / yq)), (0, .long xq), (2, .long yq)]) (st' := [.long (xq / yq)]) rfl ?_
      exact z_lret X rfl dr_J9_floorDiv_f86c9_29 (Nat.le_of_ble_eq_true rfl) (Nat.le_of_ble_eq_true rfl) ⟨(xq / yq), (fd_B (show 0 < yq.toInt by omega) c9_1 c18_2), rfl, rfl⟩
    ·
      refine z_run X br_J9_floorDiv_f86c9_22_26 kr_J9_floorDiv_f86c9_22_26 (lv' := [(4, .long (xq / yq)), (0, .long xq), (2, .long yq)]) (st' := [.long ((xq / yq) - 1)]) rfl ?_
      exact z_lret X rfl dr_J9_floorDiv_f86c9_26 (Nat.le_of_ble_eq_true rfl) (Nat.le_of_ble_eq_true rfl) ⟨((xq / yq) - 1), (fd_C (show 0 < yq.toInt by omega) c9_1 c18_2), rfl, rfl⟩

theorem dr_J9_floorMod_f86c9_2 : decode cJ9_floorMod_f86c9 2 = .ok (.lrem, 1) := by decide +kernel
theorem dr_J9_floorMod_f86c9_7 : decode cJ9_floorMod_f86c9 7 = .ok (.lxor, 1) := by decide +kernel
theorem dr_J9_floorMod_f86c9_9 : decode cJ9_floorMod_f86c9 9 = .ok (.lcmp, 1) := by decide +kernel
theorem dr_J9_floorMod_f86c9_10 : decode cJ9_floorMod_f86c9 10 = .ok (.ifCond .ge 15, 3) := by decide +kernel
theorem dr_J9_floorMod_f86c9_27 : decode cJ9_floorMod_f86c9 27 = .ok (.lreturn, 1) := by decide +kernel
theorem dr_J9_floorMod_f86c9_16 : decode cJ9_floorMod_f86c9 16 = .ok (.lcmp, 1) := by decide +kernel
theorem dr_J9_floorMod_f86c9_17 : decode cJ9_floorMod_f86c9 17 = .ok (.ifCond .eq 8, 3) := by decide +kernel
theorem dr_J9_floorMod_f86c9_24 : decode cJ9_floorMod_f86c9 24 = .ok (.lreturn, 1) := by decide +kernel
abbrev br_J9_floorMod_f86c9_0_2 : ZB := [(.lload_n 0, .null), (.lload_n 2, .null)]
theorem kr_J9_floorMod_f86c9_0_2 : zchk cJ9_floorMod_f86c9 br_J9_floorMod_f86c9_0_2 0 = true ∧ zpc br_J9_floorMod_f86c9_0_2 0 = 2 := ⟨by decide +kernel, rfl⟩
abbrev br_J9_floorMod_f86c9_3_7 : ZB := [(.lstore 4, .null), (.lload_n 0, .null), (.lload_n 2, .null)]
theorem kr_J9_floorMod_f86c9_3_7 : zchk cJ9_floorMod_f86c9 br_J9_floorMod_f86c9_3_7 3 = true ∧ zpc br_J9_floorMod_f86c9_3_7 3 = 7 := ⟨by decide +kernel, rfl⟩
abbrev br_J9_floorMod_f86c9_8_9 : ZB := [(.lconst 0, .long 0)]
theorem kr_J9_floorMod_f86c9_8_9 : zchk cJ9_floorMod_f86c9 br_J9_floorMod_f86c9_8_9 8 = true ∧ zpc br_J9_floorMod_f86c9_8_9 8 = 9 := ⟨by decide +kernel, rfl⟩
abbrev br_J9_floorMod_f86c9_25_27 : ZB := [(.lload 4, .null)]
theorem kr_J9_floorMod_f86c9_25_27 : zchk cJ9_floorMod_f86c9 br_J9_floorMod_f86c9_25_27 25 = true ∧ zpc br_J9_floorMod_f86c9_25_27 25 = 27 := ⟨by decide +kernel, rfl⟩
abbrev br_J9_floorMod_f86c9_13_16 : ZB := [(.lload 4, .null), (.lconst 0, .long 0)]
theorem kr_J9_floorMod_f86c9_13_16 : zchk cJ9_floorMod_f86c9 br_J9_floorMod_f86c9_13_16 13 = true ∧ zpc br_J9_floorMod_f86c9_13_16 13 = 16 := ⟨by decide +kernel, rfl⟩
abbrev br_J9_floorMod_f86c9_20_24 : ZB := [(.lload 4, .null), (.lload_n 2, .null), (.ladd, .null)]
theorem kr_J9_floorMod_f86c9_20_24 : zchk cJ9_floorMod_f86c9 br_J9_floorMod_f86c9_20_24 20 = true ∧ zpc br_J9_floorMod_f86c9_20_24 20 = 24 := ⟨by decide +kernel, rfl⟩
set_option maxHeartbeats 4000000 in
set_option maxRecDepth 100000 in
theorem cr_J9_floorMod_f86c9S (l : Launch) (G : KG) (xq : Int64) (yq : Int64) (yi : Int) (hyq : yq.toInt = yi) (hy0 : 0 < yi) : Ct l G yJ9_floorMod_f86c9 cJ9_floorMod_f86c9 6 (some .long) { frames := 0, cells := 0, slots := 0, locals := 0 } [.long xq, .long yq] [] (fun r w1 => ∃ (rz : Int64), (rz.toInt = xq.toInt % yq.toInt) ∧ r = some (.long rz) ∧ w1 = []) := by
  refine ct_ofF [(0, .long xq), (2, .long yq)] (by decide +kernel) (Nat.le_of_ble_eq_true rfl) rfl ?_
  intro p0 e0 s0 m0 args0 below0 meth0 c0 A X
  refine z_run X br_J9_floorMod_f86c9_0_2 kr_J9_floorMod_f86c9_0_2 (lv' := [(0, .long xq), (2, .long yq)]) (st' := [.long yq, .long xq]) rfl ?_
  refine z_lrem X dr_J9_floorMod_f86c9_2 (fun h => by rw [h] at hyq; have z : (0 : Int64).toInt = 0 := (by decide); omega) ?_
  refine z_run X br_J9_floorMod_f86c9_3_7 kr_J9_floorMod_f86c9_3_7 (lv' := [(4, .long (xq - xq / yq * yq)), (0, .long xq), (2, .long yq)]) (st' := [.long yq, .long xq]) rfl ?_
  refine z_lxor X dr_J9_floorMod_f86c9_7 ?_
  refine z_run X br_J9_floorMod_f86c9_8_9 kr_J9_floorMod_f86c9_8_9 (lv' := [(4, .long (xq - xq / yq * yq)), (0, .long xq), (2, .long yq)]) (st' := [.long 0, .long (xq ^^^ yq)]) rfl ?_
  refine zl_ge X dr_J9_floorMod_f86c9_9 dr_J9_floorMod_f86c9_10 (tgt := 25) (by decide) (a := (xq ^^^ yq).toInt) (b := 0) rfl (show (0 : Int64).toInt = 0 from by decide) (fun c9_1 => ?_) (fun c9_1 => ?_)
  ·
    refine z_run X br_J9_floorMod_f86c9_25_27 kr_J9_floorMod_f86c9_25_27 (lv' := [(4, .long (xq - xq / yq * yq)), (0, .long xq), (2, .long yq)]) (st' := [.long (xq - xq / yq * yq)]) rfl ?_
    exact z_lret X rfl dr_J9_floorMod_f86c9_27 (Nat.le_of_ble_eq_true rfl) (Nat.le_of_ble_eq_true rfl) ⟨(xq - xq / yq * yq), (fm_A (show 0 < yq.toInt by omega) (Int.not_lt.mpr c9_1)), rfl, rfl⟩
  ·
    refine z_run X br_J9_floorMod_f86c9_13_16 kr_J9_floorMod_f86c9_13_16 (lv' := [(4, .long (xq - xq / yq * yq)), (0, .long xq), (2, .long yq)]) (st' := [.long 0, .long (xq - xq / yq * yq)]) rfl ?_
    refine zl_eq X dr_J9_floorMod_f86c9_16 dr_J9_floorMod_f86c9_17 (tgt := 25) (by decide) (a := (xq - xq / yq * yq).toInt) (b := 0) rfl (show (0 : Int64).toInt = 0 from by decide) (fun c16_2 => ?_) (fun c16_2 => ?_)
    ·
      refine z_run X br_J9_floorMod_f86c9_25_27 kr_J9_floorMod_f86c9_25_27 (lv' := [(4, .long (xq - xq / yq * yq)), (0, .long xq), (2, .long yq)]) (st' := [.long (xq - xq / yq * yq)]) rfl ?_
      exact z_lret X rfl dr_J9_floorMod_f86c9_27 (Nat.le_of_ble_eq_true rfl) (Nat.le_of_ble_eq_true rfl) ⟨(xq - xq / yq * yq), (fm_B (show 0 < yq.toInt by omega) c16_2), rfl, rfl⟩
    ·
      refine z_run X br_J9_floorMod_f86c9_20_24 kr_J9_floorMod_f86c9_20_24 (lv' := [(4, .long (xq - xq / yq * yq)), (0, .long xq), (2, .long yq)]) (st' := [.long ((xq - xq / yq * yq) + yq)]) rfl ?_
      exact z_lret X rfl dr_J9_floorMod_f86c9_24 (Nat.le_of_ble_eq_true rfl) (Nat.le_of_ble_eq_true rfl) ⟨((xq - xq / yq * yq) + yq), (fm_C (show 0 < yq.toInt by omega) c9_1 c16_2), rfl, rfl⟩

theorem dr_X6_footOf_1 : decode cX6_footOf 1 = .ok (.getfield 31, 3) := by decide +kernel
theorem dr_X6_footOf_5 : decode cX6_footOf 5 = .ok (.laload, 1) := by decide +kernel
theorem dr_X6_footOf_11 : decode cX6_footOf 11 = .ok (.lcmp, 1) := by decide +kernel
theorem dr_X6_footOf_12 : decode cX6_footOf 12 = .ok (.ifCond .gt 5, 3) := by decide +kernel
theorem dr_X6_footOf_21 : decode cX6_footOf 21 = .ok (.invokestatic 104, 3) := by decide +kernel
theorem dr_X6_footOf_26 : decode cX6_footOf 26 = .ok (.ldc2_w 96, 3) := by decide +kernel
theorem dr_X6_footOf_33 : decode cX6_footOf 33 = .ok (.invokestatic 107, 3) := by decide +kernel
theorem dr_X6_footOf_43 : decode cX6_footOf 43 = .ok (.lcmp, 1) := by decide +kernel
theorem dr_X6_footOf_44 : decode cX6_footOf 44 = .ok (.ifCond .gt 18, 3) := by decide +kernel
theorem dr_X6_footOf_69 : decode cX6_footOf 69 = .ok (.getfield 9, 3) := by decide +kernel
theorem dr_X6_footOf_73 : decode cX6_footOf 73 = .ok (.iaload, 1) := by decide +kernel
theorem dr_X6_footOf_78 : decode cX6_footOf 78 = .ok (.getfield 15, 3) := by decide +kernel
theorem dr_X6_footOf_82 : decode cX6_footOf 82 = .ok (.iaload, 1) := by decide +kernel
theorem dr_X6_footOf_84 : decode cX6_footOf 84 = .ok (.invokestatic 110, 3) := by decide +kernel
theorem dr_X6_footOf_87 : decode cX6_footOf 87 = .ok (.invokestatic 113, 3) := by decide +kernel
theorem dr_X6_footOf_90 : decode cX6_footOf 90 = .ok (.lreturn, 1) := by decide +kernel
theorem dr_X6_footOf_51 : decode cX6_footOf 51 = .ok (.lcmp, 1) := by decide +kernel
theorem dr_X6_footOf_52 : decode cX6_footOf 52 = .ok (.ifCond .ne 16, 3) := by decide +kernel
theorem dr_X6_footOf_58 : decode cX6_footOf 58 = .ok (.lcmp, 1) := by decide +kernel
theorem dr_X6_footOf_59 : decode cX6_footOf 59 = .ok (.ifCond .ge 9, 3) := by decide +kernel
theorem dr_X6_footOf_16 : decode cX6_footOf 16 = .ok (.lreturn, 1) := by decide +kernel
abbrev br_X6_footOf_0_1 : ZB := [(.aload_n 0, .null)]
theorem kr_X6_footOf_0_1 : zchk cX6_footOf br_X6_footOf_0_1 0 = true ∧ zpc br_X6_footOf_0_1 0 = 1 := ⟨by decide +kernel, rfl⟩
abbrev br_X6_footOf_4_5 : ZB := [(.iload_n 3, .null)]
theorem kr_X6_footOf_4_5 : zchk cX6_footOf br_X6_footOf_4_5 4 = true ∧ zpc br_X6_footOf_4_5 4 = 5 := ⟨by decide +kernel, rfl⟩
abbrev br_X6_footOf_6_11 : ZB := [(.lstore 4, .null), (.lload 4, .null), (.lconst 0, .long 0)]
theorem kr_X6_footOf_6_11 : zchk cX6_footOf br_X6_footOf_6_11 6 = true ∧ zpc br_X6_footOf_6_11 6 = 11 := ⟨by decide +kernel, rfl⟩
abbrev br_X6_footOf_17_21 : ZB := [(.lload_n 1, .null), (.lneg, .null), (.lload 4, .null)]
theorem kr_X6_footOf_17_21 : zchk cX6_footOf br_X6_footOf_17_21 17 = true ∧ zpc br_X6_footOf_17_21 17 = 21 := ⟨by decide +kernel, rfl⟩
abbrev br_X6_footOf_24_26 : ZB := [(.lstore 6, .null)]
theorem kr_X6_footOf_24_26 : zchk cX6_footOf br_X6_footOf_24_26 24 = true ∧ zpc br_X6_footOf_24_26 24 = 26 := ⟨by decide +kernel, rfl⟩
abbrev br_X6_footOf_29_33 : ZB := [(.lload_n 1, .null), (.lneg, .null), (.lload 4, .null)]
theorem kr_X6_footOf_29_33 : zchk cX6_footOf br_X6_footOf_29_33 29 = true ∧ zpc br_X6_footOf_29_33 29 = 33 := ⟨by decide +kernel, rfl⟩
abbrev br_X6_footOf_36_43 : ZB := [(.lmul, .null), (.lstore 8, .null), (.lload 8, .null), (.lload 4, .null)]
theorem kr_X6_footOf_36_43 : zchk cX6_footOf br_X6_footOf_36_43 36 = true ∧ zpc br_X6_footOf_36_43 36 = 43 := ⟨by decide +kernel, rfl⟩
abbrev br_X6_footOf_62_69 : ZB := [(.lload 6, .null), (.lconst 1, .long 1), (.ladd, .null), (.lstore 6, .null), (.aload_n 0, .null)]
theorem kr_X6_footOf_62_69 : zchk cX6_footOf br_X6_footOf_62_69 62 = true ∧ zpc br_X6_footOf_62_69 62 = 69 := ⟨by decide +kernel, rfl⟩
abbrev br_X6_footOf_72_73 : ZB := [(.iload_n 3, .null)]
theorem kr_X6_footOf_72_73 : zchk cX6_footOf br_X6_footOf_72_73 72 = true ∧ zpc br_X6_footOf_72_73 72 = 73 := ⟨by decide +kernel, rfl⟩
abbrev br_X6_footOf_74_78 : ZB := [(.i2l, .null), (.lload 6, .null), (.aload_n 0, .null)]
theorem kr_X6_footOf_74_78 : zchk cX6_footOf br_X6_footOf_74_78 74 = true ∧ zpc br_X6_footOf_74_78 74 = 78 := ⟨by decide +kernel, rfl⟩
abbrev br_X6_footOf_81_82 : ZB := [(.iload_n 3, .null)]
theorem kr_X6_footOf_81_82 : zchk cX6_footOf br_X6_footOf_81_82 81 = true ∧ zpc br_X6_footOf_81_82 81 = 82 := ⟨by decide +kernel, rfl⟩
abbrev br_X6_footOf_83_84 : ZB := [(.i2l, .null)]
theorem kr_X6_footOf_83_84 : zchk cX6_footOf br_X6_footOf_83_84 83 = true ∧ zpc br_X6_footOf_83_84 83 = 84 := ⟨by decide +kernel, rfl⟩
abbrev br_X6_footOf_47_51 : ZB := [(.lload 8, .null), (.lload 4, .null)]
theorem kr_X6_footOf_47_51 : zchk cX6_footOf br_X6_footOf_47_51 47 = true ∧ zpc br_X6_footOf_47_51 47 = 51 := ⟨by decide +kernel, rfl⟩
abbrev br_X6_footOf_68_69 : ZB := [(.aload_n 0, .null)]
theorem kr_X6_footOf_68_69 : zchk cX6_footOf br_X6_footOf_68_69 68 = true ∧ zpc br_X6_footOf_68_69 68 = 69 := ⟨by decide +kernel, rfl⟩
abbrev br_X6_footOf_55_58 : ZB := [(.lload 6, .null), (.lconst 0, .long 0)]
theorem kr_X6_footOf_55_58 : zchk cX6_footOf br_X6_footOf_55_58 55 = true ∧ zpc br_X6_footOf_55_58 55 = 58 := ⟨by decide +kernel, rfl⟩
abbrev br_X6_footOf_15_16 : ZB := [(.lconst 0, .long 0)]
theorem kr_X6_footOf_15_16 : zchk cX6_footOf br_X6_footOf_15_16 15 = true ∧ zpc br_X6_footOf_15_16 15 = 16 := ⟨by decide +kernel, rfl⟩
set_option maxHeartbeats 4000000 in
set_option maxRecDepth 100000 in
theorem cr_X6_footOfS (l : Launch) (G : KG) (se : Nat) (hn : Int32) (np : Int32) (afr : Nat) (aup : Nat) (axx : Nat) (ayy : Nat) (asx : Nat) (asy : Nat) (asz : Nat) (apu : Nat) (abe : Nat) (oz : Int32) (fo : Int32) (lc : Int64) (ffr : Nat → Int32) (fup : Nat → Int32) (fsz : Nat → Int64) (sq : Int64) (iq : Int32) (si : Int) (ii : Int) (hsq : sq.toInt = si) (hiq : iq.toInt = ii) (hi0 : 0 ≤ ii ∧ ii < 16) (hs0 : -12000000000000 ≤ si ∧ si ≤ 12000000000000) (hz : 0 ≤ (fsz iq.toNatClampNeg).toInt ∧ (fsz iq.toNatClampNeg).toInt ≤ 1200000000) (hlo : -200 ≤ (ffr iq.toNatClampNeg).toInt ∧ (ffr iq.toNatClampNeg).toInt ≤ 0) (hup : 0 ≤ (fup iq.toNatClampNeg).toInt ∧ (fup iq.toNatClampNeg).toInt ≤ 200) : Ct l G yX6_footOf cX6_footOf 10 (some .long) { frames := 1, cells := 0, slots := 0, locals := 25 } [.ref se, .long sq, .int iq] [(se, ob 6 [.int hn, .int np, .int 0, .ref afr, .ref aup, .ref axx, .ref ayy, .ref asx, .ref asy, .ref asz, .ref apu, .ref abe, .int oz, .int fo, .long lc]), (afr, aI G 16 ffr), (aup, aI G 16 fup), (asz, aJ G 16 fsz)] (fun r w1 => ∃ (rz : Int64), (Foot sq.toInt (fsz iq.toNatClampNeg).toInt (ffr iq.toNatClampNeg).toInt (fup iq.toNatClampNeg).toInt rz.toInt) ∧ r = some (.long rz) ∧ w1 = [(se, ob 6 [.int hn, .int np, .int 0, .ref afr, .ref aup, .ref axx, .ref ayy, .ref asx, .ref asy, .ref asz, .ref apu, .ref abe, .int oz, .int fo, .long lc]), (afr, aI G 16 ffr), (aup, aI G 16 fup), (asz, aJ G 16 fsz)]) := by
  refine ct_of [(0, .ref se), (1, .long sq), (3, .int iq)] (by decide) (Nat.le_of_ble_eq_true rfl) rfl ?_
  intro p0 e0 s0 m0 args0 below0 meth0 c0 A X
  refine z_run X br_X6_footOf_0_1 kr_X6_footOf_0_1 (lv' := [(0, .ref se), (1, .long sq), (3, .int iq)]) (st' := [.ref se]) rfl ?_
  refine z_get X fl_6_31 dr_X6_footOf_1 0 rfl (v := .ref asz) rfl ?_
  refine z_run X br_X6_footOf_4_5 kr_X6_footOf_4_5 (lv' := [(0, .ref se), (1, .long sq), (3, .int iq)]) (st' := [.int iq, .ref asz]) rfl ?_
  refine z_lald X dr_X6_footOf_5 3 rfl (vin hiq (by omega) (by omega)) (v := (fsz iq.toNatClampNeg)) rfl ?_
  refine z_run X br_X6_footOf_6_11 kr_X6_footOf_6_11 (lv' := [(4, .long (fsz iq.toNatClampNeg)), (0, .ref se), (1, .long sq), (3, .int iq)]) (st' := [.long 0, .long (fsz iq.toNatClampNeg)]) rfl ?_
  refine zl_gt X dr_X6_footOf_11 dr_X6_footOf_12 (tgt := 17) (by decide) (a := (fsz iq.toNatClampNeg).toInt) (b := 0) rfl (show (0 : Int64).toInt = 0 from by decide) (fun c11_1 => ?_) (fun c11_1 => ?_)
  ·
    refine z_run X br_X6_footOf_17_21 kr_X6_footOf_17_21 (lv' := [(4, .long (fsz iq.toNatClampNeg)), (0, .ref se), (1, .long sq), (3, .int iq)]) (st' := [.long (fsz iq.toNatClampNeg), .long (-sq)]) rfl ?_
    refine z_callS X k_6_104 (cr_J9_floorDiv_f86c9S l G (-sq) (fsz iq.toNatClampNeg) ((fsz iq.toNatClampNeg).toInt) rfl (by omega)) dr_X6_footOf_21 ⟨Nat.le_of_ble_eq_true rfl, Nat.le_of_ble_eq_true rfl⟩ ⟨Nat.le_of_ble_eq_true rfl, Nat.le_of_ble_eq_true rfl⟩ rfl (rest := []) (As := [.long (-sq), .long (fsz iq.toNatClampNeg)]) rfl (Nat.le_of_ble_eq_true rfl) [] [0, 1, 2, 3] rfl (by decide) (wr := [(se, ob 6 [.int hn, .int np, .int 0, .ref afr, .ref aup, .ref axx, .ref ayy, .ref asx, .ref asy, .ref asz, .ref apu, .ref abe, .int oz, .int fo, .long lc]), (afr, aI G 16 ffr), (aup, aI G 16 fup), (asz, aJ G 16 fsz)]) rfl (by decide) (by decide) ?_
    rintro _ _ ⟨rz_2, f21_3, rfl, rfl⟩
    refine Z.at (pc' := 24) (st' := [.long rz_2]) (ws' := [(se, ob 6 [.int hn, .int np, .int 0, .ref afr, .ref aup, .ref axx, .ref ayy, .ref asx, .ref asy, .ref asz, .ref apu, .ref abe, .int oz, .int fo, .long lc]), (afr, aI G 16 ffr), (aup, aI G 16 fup), (asz, aJ G 16 fsz)]) (kc' := 0) (ks' := 0) rfl rfl rfl rfl rfl ?_
    have hqb_ : -12000000000000 ≤ rz_2.toInt ∧ rz_2.toInt ≤ 12000000000000 := (by have en : (-sq).toInt = -sq.toInt := tJ_neg rfl (by omega); rw [f21_3, en]; exact ediv_b (by omega) (by omega))
    refine z_run X br_X6_footOf_24_26 kr_X6_footOf_24_26 (lv' := [(6, .long rz_2), (4, .long (fsz iq.toNatClampNeg)), (0, .ref se), (1, .long sq), (3, .int iq)]) (st' := []) rfl ?_
    refine z_ldc2 X dr_X6_footOf_26 cn_6_96 ?_
    refine z_run X br_X6_footOf_29_33 kr_X6_footOf_29_33 (lv' := [(6, .long rz_2), (4, .long (fsz iq.toNatClampNeg)), (0, .ref se), (1, .long sq), (3, .int iq)]) (st' := [.long (fsz iq.toNatClampNeg), .long (-sq), .long 2]) rfl ?_
    refine z_callS X k_6_107 (cr_J9_floorMod_f86c9S l G (-sq) (fsz iq.toNatClampNeg) ((fsz iq.toNatClampNeg).toInt) rfl (by omega)) dr_X6_footOf_33 ⟨Nat.le_of_ble_eq_true rfl, Nat.le_of_ble_eq_true rfl⟩ ⟨Nat.le_of_ble_eq_true rfl, Nat.le_of_ble_eq_true rfl⟩ rfl (rest := [.long 2]) (As := [.long (-sq), .long (fsz iq.toNatClampNeg)]) rfl (Nat.le_of_ble_eq_true rfl) [] [0, 1, 2, 3] rfl (by decide) (wr := [(se, ob 6 [.int hn, .int np, .int 0, .ref afr, .ref aup, .ref axx, .ref ayy, .ref asx, .ref asy, .ref asz, .ref apu, .ref abe, .int oz, .int fo, .long lc]), (afr, aI G 16 ffr), (aup, aI G 16 fup), (asz, aJ G 16 fsz)]) rfl (by decide) (by decide) ?_
    rintro _ _ ⟨rz_4, f33_5, rfl, rfl⟩
    refine Z.at (pc' := 36) (st' := [.long rz_4, .long 2]) (ws' := [(se, ob 6 [.int hn, .int np, .int 0, .ref afr, .ref aup, .ref axx, .ref ayy, .ref asx, .ref asy, .ref asz, .ref apu, .ref abe, .int oz, .int fo, .long lc]), (afr, aI G 16 ffr), (aup, aI G 16 fup), (asz, aJ G 16 fsz)]) (kc' := 0) (ks' := 0) rfl rfl rfl rfl rfl ?_
    have hmb_ : 0 ≤ rz_4.toInt ∧ rz_4.toInt < (fsz iq.toNatClampNeg).toInt := (by rw [f33_5]; exact ⟨Int.emod_nonneg _ (by omega), Int.emod_lt_of_pos _ (by omega)⟩)
    refine z_run X br_X6_footOf_36_43 kr_X6_footOf_36_43 (lv' := [(8, .long (2 * rz_4)), (6, .long rz_2), (4, .long (fsz iq.toNatClampNeg)), (0, .ref se), (1, .long sq), (3, .int iq)]) (st' := [.long (fsz iq.toNatClampNeg), .long (2 * rz_4)]) rfl ?_
    refine zl_gt X dr_X6_footOf_43 dr_X6_footOf_44 (tgt := 62) (by decide) (a := (2 * rz_4.toInt)) (b := (fsz iq.toNatClampNeg).toInt) (tJ_mul (show (2 : Int64).toInt = 2 from by decide) rfl (by omega)) rfl (fun c43_6 => ?_) (fun c43_6 => ?_)
    ·
      refine z_run X br_X6_footOf_62_69 kr_X6_footOf_62_69 (lv' := [(6, .long (rz_2 + 1)), (8, .long (2 * rz_4)), (4, .long (fsz iq.toNatClampNeg)), (0, .ref se), (1, .long sq), (3, .int iq)]) (st' := [.ref se]) rfl ?_
      refine z_get X fl_6_9 dr_X6_footOf_69 0 rfl (v := .ref afr) rfl ?_
      refine z_run X br_X6_footOf_72_73 kr_X6_footOf_72_73 (lv' := [(6, .long (rz_2 + 1)), (8, .long (2 * rz_4)), (4, .long (fsz iq.toNatClampNeg)), (0, .ref se), (1, .long sq), (3, .int iq)]) (st' := [.int iq, .ref afr]) rfl ?_
      refine z_iald X dr_X6_footOf_73 1 rfl (vin hiq (by omega) (by omega)) (v := (ffr iq.toNatClampNeg)) rfl ?_
      refine z_run X br_X6_footOf_74_78 kr_X6_footOf_74_78 (lv' := [(6, .long (rz_2 + 1)), (8, .long (2 * rz_4)), (4, .long (fsz iq.toNatClampNeg)), (0, .ref se), (1, .long sq), (3, .int iq)]) (st' := [.ref se, .long (rz_2 + 1), .long (ffr iq.toNatClampNeg).toInt64]) rfl ?_
      refine z_get X fl_6_15 dr_X6_footOf_78 0 rfl (v := .ref aup) rfl ?_
      refine z_run X br_X6_footOf_81_82 kr_X6_footOf_81_82 (lv' := [(6, .long (rz_2 + 1)), (8, .long (2 * rz_4)), (4, .long (fsz iq.toNatClampNeg)), (0, .ref se), (1, .long sq), (3, .int iq)]) (st' := [.int iq, .ref aup, .long (rz_2 + 1), .long (ffr iq.toNatClampNeg).toInt64]) rfl ?_
      refine z_iald X dr_X6_footOf_82 2 rfl (vin hiq (by omega) (by omega)) (v := (fup iq.toNatClampNeg)) rfl ?_
      refine z_run X br_X6_footOf_83_84 kr_X6_footOf_83_84 (lv' := [(6, .long (rz_2 + 1)), (8, .long (2 * rz_4)), (4, .long (fsz iq.toNatClampNeg)), (0, .ref se), (1, .long sq), (3, .int iq)]) (st' := [.long (fup iq.toNatClampNeg).toInt64, .long (rz_2 + 1), .long (ffr iq.toNatClampNeg).toInt64]) rfl ?_
      refine z_lmin3 X k_6_110.1 k_6_110.2.1 k_6_110.2.2.1 k_6_110.2.2.2.1 ⟨Nat.le_of_ble_eq_true rfl, Nat.le_of_ble_eq_true rfl⟩ ⟨Nat.le_of_ble_eq_true rfl, Nat.le_of_ble_eq_true rfl⟩ dr_X6_footOf_84 (v := (if (fup iq.toNatClampNeg).toInt64 < (rz_2 + 1) then (fup iq.toNatClampNeg).toInt64 else (rz_2 + 1))) rfl ?_
      refine z_lmax3 X k_6_113.1 k_6_113.2.1 k_6_113.2.2.1 k_6_113.2.2.2.1 ⟨Nat.le_of_ble_eq_true rfl, Nat.le_of_ble_eq_true rfl⟩ ⟨Nat.le_of_ble_eq_true rfl, Nat.le_of_ble_eq_true rfl⟩ dr_X6_footOf_87 (v := (if (if (fup iq.toNatClampNeg).toInt64 < (rz_2 + 1) then (fup iq.toNatClampNeg).toInt64 else (rz_2 + 1)) < (ffr iq.toNatClampNeg).toInt64 then (ffr iq.toNatClampNeg).toInt64 else (if (fup iq.toNatClampNeg).toInt64 < (rz_2 + 1) then (fup iq.toNatClampNeg).toInt64 else (rz_2 + 1)))) rfl ?_
      exact z_lret X rfl dr_X6_footOf_90 (Nat.le_of_ble_eq_true rfl) (Nat.le_of_ble_eq_true rfl) ⟨(if (if (fup iq.toNatClampNeg).toInt64 < (rz_2 + 1) then (fup iq.toNatClampNeg).toInt64 else (rz_2 + 1)) < (ffr iq.toNatClampNeg).toInt64 then (ffr iq.toNatClampNeg).toInt64 else (if (fup iq.toNatClampNeg).toInt64 < (rz_2 + 1) then (fup iq.toNatClampNeg).toInt64 else (rz_2 + 1))), (by have en : (-sq).toInt = -sq.toInt := tJ_neg rfl (by omega); have e9 : (if (if (fup iq.toNatClampNeg).toInt64 < (rz_2 + 1) then (fup iq.toNatClampNeg).toInt64 else (rz_2 + 1)) < (ffr iq.toNatClampNeg).toInt64 then (ffr iq.toNatClampNeg).toInt64 else (if (fup iq.toNatClampNeg).toInt64 < (rz_2 + 1) then (fup iq.toNatClampNeg).toInt64 else (rz_2 + 1))).toInt = (max (ffr iq.toNatClampNeg).toInt (min (rz_2.toInt + 1) (fup iq.toNatClampNeg).toInt)) := (tJ_max3 (tI64 rfl) (tJ_min3 (tJ_add rfl (show (1 : Int64).toInt = 1 from by decide) (by omega)) (tI64 rfl))); have zq := f21_3; have zm := f33_5; rw [en] at zq zm; exact Foot.mk' (r := (rz_2.toInt + 1)) (show 0 < (fsz iq.toNatClampNeg).toInt by omega) zq zm (by omega) e9), rfl, rfl⟩
    ·
      refine z_run X br_X6_footOf_47_51 kr_X6_footOf_47_51 (lv' := [(8, .long (2 * rz_4)), (6, .long rz_2), (4, .long (fsz iq.toNatClampNeg)), (0, .ref se), (1, .long sq), (3, .int iq)]) (st' := [.long (fsz iq.toNatClampNeg), .long (2 * rz_4)]) rfl ?_
      refine zl_ne X dr_X6_footOf_51 dr_X6_footOf_52 (tgt := 68) (by decide) (a := (2 * rz_4.toInt)) (b := (fsz iq.toNatClampNeg).toInt) (tJ_mul (show (2 : Int64).toInt = 2 from by decide) rfl (by omega)) rfl (fun c51_7 => ?_) (fun c51_7 => ?_)
      ·
        refine z_run X br_X6_footOf_68_69 kr_X6_footOf_68_69 (lv' := [(8, .long (2 * rz_4)), (6, .long rz_2), (4, .long (fsz iq.toNatClampNeg)), (0, .ref se), (1, .long sq), (3, .int iq)]) (st' := [.ref se]) rfl ?_
        refine z_get X fl_6_9 dr_X6_footOf_69 0 rfl (v := .ref afr) rfl ?_
        refine z_run X br_X6_footOf_72_73 kr_X6_footOf_72_73 (lv' := [(8, .long (2 * rz_4)), (6, .long rz_2), (4, .long (fsz iq.toNatClampNeg)), (0, .ref se), (1, .long sq), (3, .int iq)]) (st' := [.int iq, .ref afr]) rfl ?_
        refine z_iald X dr_X6_footOf_73 1 rfl (vin hiq (by omega) (by omega)) (v := (ffr iq.toNatClampNeg)) rfl ?_
        refine z_run X br_X6_footOf_74_78 kr_X6_footOf_74_78 (lv' := [(8, .long (2 * rz_4)), (6, .long rz_2), (4, .long (fsz iq.toNatClampNeg)), (0, .ref se), (1, .long sq), (3, .int iq)]) (st' := [.ref se, .long rz_2, .long (ffr iq.toNatClampNeg).toInt64]) rfl ?_
        refine z_get X fl_6_15 dr_X6_footOf_78 0 rfl (v := .ref aup) rfl ?_
        refine z_run X br_X6_footOf_81_82 kr_X6_footOf_81_82 (lv' := [(8, .long (2 * rz_4)), (6, .long rz_2), (4, .long (fsz iq.toNatClampNeg)), (0, .ref se), (1, .long sq), (3, .int iq)]) (st' := [.int iq, .ref aup, .long rz_2, .long (ffr iq.toNatClampNeg).toInt64]) rfl ?_
        refine z_iald X dr_X6_footOf_82 2 rfl (vin hiq (by omega) (by omega)) (v := (fup iq.toNatClampNeg)) rfl ?_
        refine z_run X br_X6_footOf_83_84 kr_X6_footOf_83_84 (lv' := [(8, .long (2 * rz_4)), (6, .long rz_2), (4, .long (fsz iq.toNatClampNeg)), (0, .ref se), (1, .long sq), (3, .int iq)]) (st' := [.long (fup iq.toNatClampNeg).toInt64, .long rz_2, .long (ffr iq.toNatClampNeg).toInt64]) rfl ?_
        refine z_lmin3 X k_6_110.1 k_6_110.2.1 k_6_110.2.2.1 k_6_110.2.2.2.1 ⟨Nat.le_of_ble_eq_true rfl, Nat.le_of_ble_eq_true rfl⟩ ⟨Nat.le_of_ble_eq_true rfl, Nat.le_of_ble_eq_true rfl⟩ dr_X6_footOf_84 (v := (if (fup iq.toNatClampNeg).toInt64 < rz_2 then (fup iq.toNatClampNeg).toInt64 else rz_2)) rfl ?_
        refine z_lmax3 X k_6_113.1 k_6_113.2.1 k_6_113.2.2.1 k_6_113.2.2.2.1 ⟨Nat.le_of_ble_eq_true rfl, Nat.le_of_ble_eq_true rfl⟩ ⟨Nat.le_of_ble_eq_true rfl, Nat.le_of_ble_eq_true rfl⟩ dr_X6_footOf_87 (v := (if (if (fup iq.toNatClampNeg).toInt64 < rz_2 then (fup iq.toNatClampNeg).toInt64 else rz_2) < (ffr iq.toNatClampNeg).toInt64 then (ffr iq.toNatClampNeg).toInt64 else (if (fup iq.toNatClampNeg).toInt64 < rz_2 then (fup iq.toNatClampNeg).toInt64 else rz_2))) rfl ?_
        exact z_lret X rfl dr_X6_footOf_90 (Nat.le_of_ble_eq_true rfl) (Nat.le_of_ble_eq_true rfl) ⟨(if (if (fup iq.toNatClampNeg).toInt64 < rz_2 then (fup iq.toNatClampNeg).toInt64 else rz_2) < (ffr iq.toNatClampNeg).toInt64 then (ffr iq.toNatClampNeg).toInt64 else (if (fup iq.toNatClampNeg).toInt64 < rz_2 then (fup iq.toNatClampNeg).toInt64 else rz_2)), (by have en : (-sq).toInt = -sq.toInt := tJ_neg rfl (by omega); have e9 : (if (if (fup iq.toNatClampNeg).toInt64 < rz_2 then (fup iq.toNatClampNeg).toInt64 else rz_2) < (ffr iq.toNatClampNeg).toInt64 then (ffr iq.toNatClampNeg).toInt64 else (if (fup iq.toNatClampNeg).toInt64 < rz_2 then (fup iq.toNatClampNeg).toInt64 else rz_2)).toInt = (max (ffr iq.toNatClampNeg).toInt (min rz_2.toInt (fup iq.toNatClampNeg).toInt)) := (tJ_max3 (tI64 rfl) (tJ_min3 rfl (tI64 rfl))); have zq := f21_3; have zm := f33_5; rw [en] at zq zm; exact Foot.mk' (r := rz_2.toInt) (show 0 < (fsz iq.toNatClampNeg).toInt by omega) zq zm (by omega) e9), rfl, rfl⟩
      ·
        refine z_run X br_X6_footOf_55_58 kr_X6_footOf_55_58 (lv' := [(8, .long (2 * rz_4)), (6, .long rz_2), (4, .long (fsz iq.toNatClampNeg)), (0, .ref se), (1, .long sq), (3, .int iq)]) (st' := [.long 0, .long rz_2]) rfl ?_
        refine zl_ge X dr_X6_footOf_58 dr_X6_footOf_59 (tgt := 68) (by decide) (a := rz_2.toInt) (b := 0) rfl (show (0 : Int64).toInt = 0 from by decide) (fun c58_8 => ?_) (fun c58_8 => ?_)
        ·
          refine z_run X br_X6_footOf_68_69 kr_X6_footOf_68_69 (lv' := [(8, .long (2 * rz_4)), (6, .long rz_2), (4, .long (fsz iq.toNatClampNeg)), (0, .ref se), (1, .long sq), (3, .int iq)]) (st' := [.ref se]) rfl ?_
          refine z_get X fl_6_9 dr_X6_footOf_69 0 rfl (v := .ref afr) rfl ?_
          refine z_run X br_X6_footOf_72_73 kr_X6_footOf_72_73 (lv' := [(8, .long (2 * rz_4)), (6, .long rz_2), (4, .long (fsz iq.toNatClampNeg)), (0, .ref se), (1, .long sq), (3, .int iq)]) (st' := [.int iq, .ref afr]) rfl ?_
          refine z_iald X dr_X6_footOf_73 1 rfl (vin hiq (by omega) (by omega)) (v := (ffr iq.toNatClampNeg)) rfl ?_
          refine z_run X br_X6_footOf_74_78 kr_X6_footOf_74_78 (lv' := [(8, .long (2 * rz_4)), (6, .long rz_2), (4, .long (fsz iq.toNatClampNeg)), (0, .ref se), (1, .long sq), (3, .int iq)]) (st' := [.ref se, .long rz_2, .long (ffr iq.toNatClampNeg).toInt64]) rfl ?_
          refine z_get X fl_6_15 dr_X6_footOf_78 0 rfl (v := .ref aup) rfl ?_
          refine z_run X br_X6_footOf_81_82 kr_X6_footOf_81_82 (lv' := [(8, .long (2 * rz_4)), (6, .long rz_2), (4, .long (fsz iq.toNatClampNeg)), (0, .ref se), (1, .long sq), (3, .int iq)]) (st' := [.int iq, .ref aup, .long rz_2, .long (ffr iq.toNatClampNeg).toInt64]) rfl ?_
          refine z_iald X dr_X6_footOf_82 2 rfl (vin hiq (by omega) (by omega)) (v := (fup iq.toNatClampNeg)) rfl ?_
          refine z_run X br_X6_footOf_83_84 kr_X6_footOf_83_84 (lv' := [(8, .long (2 * rz_4)), (6, .long rz_2), (4, .long (fsz iq.toNatClampNeg)), (0, .ref se), (1, .long sq), (3, .int iq)]) (st' := [.long (fup iq.toNatClampNeg).toInt64, .long rz_2, .long (ffr iq.toNatClampNeg).toInt64]) rfl ?_
          refine z_lmin3 X k_6_110.1 k_6_110.2.1 k_6_110.2.2.1 k_6_110.2.2.2.1 ⟨Nat.le_of_ble_eq_true rfl, Nat.le_of_ble_eq_true rfl⟩ ⟨Nat.le_of_ble_eq_true rfl, Nat.le_of_ble_eq_true rfl⟩ dr_X6_footOf_84 (v := (if (fup iq.toNatClampNeg).toInt64 < rz_2 then (fup iq.toNatClampNeg).toInt64 else rz_2)) rfl ?_
          refine z_lmax3 X k_6_113.1 k_6_113.2.1 k_6_113.2.2.1 k_6_113.2.2.2.1 ⟨Nat.le_of_ble_eq_true rfl, Nat.le_of_ble_eq_true rfl⟩ ⟨Nat.le_of_ble_eq_true rfl, Nat.le_of_ble_eq_true rfl⟩ dr_X6_footOf_87 (v := (if (if (fup iq.toNatClampNeg).toInt64 < rz_2 then (fup iq.toNatClampNeg).toInt64 else rz_2) < (ffr iq.toNatClampNeg).toInt64 then (ffr iq.toNatClampNeg).toInt64 else (if (fup iq.toNatClampNeg).toInt64 < rz_2 then (fup iq.toNatClampNeg).toInt64 else rz_2))) rfl ?_
          exact z_lret X rfl dr_X6_footOf_90 (Nat.le_of_ble_eq_true rfl) (Nat.le_of_ble_eq_true rfl) ⟨(if (if (fup iq.toNatClampNeg).toInt64 < rz_2 then (fup iq.toNatClampNeg).toInt64 else rz_2) < (ffr iq.toNatClampNeg).toInt64 then (ffr iq.toNatClampNeg).toInt64 else (if (fup iq.toNatClampNeg).toInt64 < rz_2 then (fup iq.toNatClampNeg).toInt64 else rz_2)), (by have en : (-sq).toInt = -sq.toInt := tJ_neg rfl (by omega); have e9 : (if (if (fup iq.toNatClampNeg).toInt64 < rz_2 then (fup iq.toNatClampNeg).toInt64 else rz_2) < (ffr iq.toNatClampNeg).toInt64 then (ffr iq.toNatClampNeg).toInt64 else (if (fup iq.toNatClampNeg).toInt64 < rz_2 then (fup iq.toNatClampNeg).toInt64 else rz_2)).toInt = (max (ffr iq.toNatClampNeg).toInt (min rz_2.toInt (fup iq.toNatClampNeg).toInt)) := (tJ_max3 (tI64 rfl) (tJ_min3 rfl (tI64 rfl))); have zq := f21_3; have zm := f33_5; rw [en] at zq zm; exact Foot.mk' (r := rz_2.toInt) (show 0 < (fsz iq.toNatClampNeg).toInt by omega) zq zm (by omega) e9), rfl, rfl⟩
        ·
          refine z_run X br_X6_footOf_62_69 kr_X6_footOf_62_69 (lv' := [(6, .long (rz_2 + 1)), (8, .long (2 * rz_4)), (4, .long (fsz iq.toNatClampNeg)), (0, .ref se), (1, .long sq), (3, .int iq)]) (st' := [.ref se]) rfl ?_
          refine z_get X fl_6_9 dr_X6_footOf_69 0 rfl (v := .ref afr) rfl ?_
          refine z_run X br_X6_footOf_72_73 kr_X6_footOf_72_73 (lv' := [(6, .long (rz_2 + 1)), (8, .long (2 * rz_4)), (4, .long (fsz iq.toNatClampNeg)), (0, .ref se), (1, .long sq), (3, .int iq)]) (st' := [.int iq, .ref afr]) rfl ?_
          refine z_iald X dr_X6_footOf_73 1 rfl (vin hiq (by omega) (by omega)) (v := (ffr iq.toNatClampNeg)) rfl ?_
          refine z_run X br_X6_footOf_74_78 kr_X6_footOf_74_78 (lv' := [(6, .long (rz_2 + 1)), (8, .long (2 * rz_4)), (4, .long (fsz iq.toNatClampNeg)), (0, .ref se), (1, .long sq), (3, .int iq)]) (st' := [.ref se, .long (rz_2 + 1), .long (ffr iq.toNatClampNeg).toInt64]) rfl ?_
          refine z_get X fl_6_15 dr_X6_footOf_78 0 rfl (v := .ref aup) rfl ?_
          refine z_run X br_X6_footOf_81_82 kr_X6_footOf_81_82 (lv' := [(6, .long (rz_2 + 1)), (8, .long (2 * rz_4)), (4, .long (fsz iq.toNatClampNeg)), (0, .ref se), (1, .long sq), (3, .int iq)]) (st' := [.int iq, .ref aup, .long (rz_2 + 1), .long (ffr iq.toNatClampNeg).toInt64]) rfl ?_
          refine z_iald X dr_X6_footOf_82 2 rfl (vin hiq (by omega) (by omega)) (v := (fup iq.toNatClampNeg)) rfl ?_
          refine z_run X br_X6_footOf_83_84 kr_X6_footOf_83_84 (lv' := [(6, .long (rz_2 + 1)), (8, .long (2 * rz_4)), (4, .long (fsz iq.toNatClampNeg)), (0, .ref se), (1, .long sq), (3, .int iq)]) (st' := [.long (fup iq.toNatClampNeg).toInt64, .long (rz_2 + 1), .long (ffr iq.toNatClampNeg).toInt64]) rfl ?_
          refine z_lmin3 X k_6_110.1 k_6_110.2.1 k_6_110.2.2.1 k_6_110.2.2.2.1 ⟨Nat.le_of_ble_eq_true rfl, Nat.le_of_ble_eq_true rfl⟩ ⟨Nat.le_of_ble_eq_true rfl, Nat.le_of_ble_eq_true rfl⟩ dr_X6_footOf_84 (v := (if (fup iq.toNatClampNeg).toInt64 < (rz_2 + 1) then (fup iq.toNatClampNeg).toInt64 else (rz_2 + 1))) rfl ?_
          refine z_lmax3 X k_6_113.1 k_6_113.2.1 k_6_113.2.2.1 k_6_113.2.2.2.1 ⟨Nat.le_of_ble_eq_true rfl, Nat.le_of_ble_eq_true rfl⟩ ⟨Nat.le_of_ble_eq_true rfl, Nat.le_of_ble_eq_true rfl⟩ dr_X6_footOf_87 (v := (if (if (fup iq.toNatClampNeg).toInt64 < (rz_2 + 1) then (fup iq.toNatClampNeg).toInt64 else (rz_2 + 1)) < (ffr iq.toNatClampNeg).toInt64 then (ffr iq.toNatClampNeg).toInt64 else (if (fup iq.toNatClampNeg).toInt64 < (rz_2 + 1) then (fup iq.toNatClampNeg).toInt64 else (rz_2 + 1)))) rfl ?_
          exact z_lret X rfl dr_X6_footOf_90 (Nat.le_of_ble_eq_true rfl) (Nat.le_of_ble_eq_true rfl) ⟨(if (if (fup iq.toNatClampNeg).toInt64 < (rz_2 + 1) then (fup iq.toNatClampNeg).toInt64 else (rz_2 + 1)) < (ffr iq.toNatClampNeg).toInt64 then (ffr iq.toNatClampNeg).toInt64 else (if (fup iq.toNatClampNeg).toInt64 < (rz_2 + 1) then (fup iq.toNatClampNeg).toInt64 else (rz_2 + 1))), (by have en : (-sq).toInt = -sq.toInt := tJ_neg rfl (by omega); have e9 : (if (if (fup iq.toNatClampNeg).toInt64 < (rz_2 + 1) then (fup iq.toNatClampNeg).toInt64 else (rz_2 + 1)) < (ffr iq.toNatClampNeg).toInt64 then (ffr iq.toNatClampNeg).toInt64 else (if (fup iq.toNatClampNeg).toInt64 < (rz_2 + 1) then (fup iq.toNatClampNeg).toInt64 else (rz_2 + 1))).toInt = (max (ffr iq.toNatClampNeg).toInt (min (rz_2.toInt + 1) (fup iq.toNatClampNeg).toInt)) := (tJ_max3 (tI64 rfl) (tJ_min3 (tJ_add rfl (show (1 : Int64).toInt = 1 from by decide) (by omega)) (tI64 rfl))); have zq := f21_3; have zm := f33_5; rw [en] at zq zm; exact Foot.mk' (r := (rz_2.toInt + 1)) (show 0 < (fsz iq.toNatClampNeg).toInt by omega) zq zm (by omega) e9), rfl, rfl⟩
  ·
    refine z_run X br_X6_footOf_15_16 kr_X6_footOf_15_16 (lv' := [(4, .long (fsz iq.toNatClampNeg)), (0, .ref se), (1, .long sq), (3, .int iq)]) (st' := [.long 0]) rfl ?_
    exact z_lret X rfl dr_X6_footOf_16 (Nat.le_of_ble_eq_true rfl) (Nat.le_of_ble_eq_true rfl) ⟨(0 : Int64), (by have z : (0 : Int64).toInt = 0 := (by decide); rw [z]; exact Foot.zero (by omega)), rfl, rfl⟩

theorem dr_X6_lay_2 : decode cX6_lay 2 = .ok (.getfield 34, 3) := by decide +kernel
theorem dr_X6_lay_6 : decode cX6_lay 6 = .ok (.iaload, 1) := by decide +kernel
theorem dr_X6_lay_15 : decode cX6_lay 15 = .ok (.getfield 44, 3) := by decide +kernel
theorem dr_X6_lay_18 : decode cX6_lay 18 = .ok (.if_icmp .ge 57, 3) := by decide +kernel
theorem dr_X6_lay_77 : decode cX6_lay 77 = .ok (.getfield 59, 3) := by decide +kernel
theorem dr_X6_lay_81 : decode cX6_lay 81 = .ok (.invokestatic 98, 3) := by decide +kernel
theorem dr_X6_lay_85 : decode cX6_lay 85 = .ok (.getfield 34, 3) := by decide +kernel
theorem dr_X6_lay_89 : decode cX6_lay 89 = .ok (.iaload, 1) := by decide +kernel
theorem dr_X6_lay_90 : decode cX6_lay 90 = .ok (.invokestatic 98, 3) := by decide +kernel
theorem dr_X6_lay_95 : decode cX6_lay 95 = .ok (.putfield 59, 3) := by decide +kernel
theorem dr_X6_lay_99 : decode cX6_lay 99 = .ok (.getfield 34, 3) := by decide +kernel
theorem dr_X6_lay_104 : decode cX6_lay 104 = .ok (.iastore, 1) := by decide +kernel
theorem dr_X6_lay_105 : decode cX6_lay 105 = .ok (.return_, 1) := by decide +kernel
theorem dr_X6_lay_22 : decode cX6_lay 22 = .ok (.getfield 18, 3) := by decide +kernel
theorem dr_X6_lay_28 : decode cX6_lay 28 = .ok (.laload, 1) := by decide +kernel
theorem dr_X6_lay_32 : decode cX6_lay 32 = .ok (.getfield 25, 3) := by decide +kernel
theorem dr_X6_lay_38 : decode cX6_lay 38 = .ok (.invokestatic 51, 3) := by decide +kernel
theorem dr_X6_lay_41 : decode cX6_lay 41 = .ok (.laload, 1) := by decide +kernel
theorem dr_X6_lay_44 : decode cX6_lay 44 = .ok (.lastore, 1) := by decide +kernel
theorem dr_X6_lay_46 : decode cX6_lay 46 = .ok (.getfield 22, 3) := by decide +kernel
theorem dr_X6_lay_52 : decode cX6_lay 52 = .ok (.laload, 1) := by decide +kernel
theorem dr_X6_lay_56 : decode cX6_lay 56 = .ok (.getfield 28, 3) := by decide +kernel
theorem dr_X6_lay_62 : decode cX6_lay 62 = .ok (.invokestatic 51, 3) := by decide +kernel
theorem dr_X6_lay_65 : decode cX6_lay 65 = .ok (.laload, 1) := by decide +kernel
theorem dr_X6_lay_68 : decode cX6_lay 68 = .ok (.lastore, 1) := by decide +kernel
theorem dr_X6_lay_72 : decode cX6_lay 72 = .ok (.goto (-60), 3) := by decide +kernel
abbrev br_X6_lay_0_2 : ZB := [(.iload_n 2, .null), (.aload_n 0, .null)]
theorem kr_X6_lay_0_2 : zchk cX6_lay br_X6_lay_0_2 0 = true ∧ zpc br_X6_lay_0_2 0 = 2 := ⟨by decide +kernel, rfl⟩
abbrev br_X6_lay_5_6 : ZB := [(.iload_n 1, .null)]
theorem kr_X6_lay_5_6 : zchk cX6_lay br_X6_lay_5_6 5 = true ∧ zpc br_X6_lay_5_6 5 = 6 := ⟨by decide +kernel, rfl⟩
abbrev br_X6_lay_7_12 : ZB := [(.isub, .null), (.istore_n 3, .null), (.iconst 0, .int 0), (.istore 4, .null)]
theorem kr_X6_lay_7_12 : zchk cX6_lay br_X6_lay_7_12 7 = true ∧ zpc br_X6_lay_7_12 7 = 12 := ⟨by decide +kernel, rfl⟩
abbrev br_X6_lay_12_15 : ZB := [(.iload 4, .null), (.aload_n 0, .null)]
theorem kr_X6_lay_12_15 : zchk cX6_lay br_X6_lay_12_15 12 = true ∧ zpc br_X6_lay_12_15 12 = 15 := ⟨by decide +kernel, rfl⟩
abbrev br_X6_lay_75_77 : ZB := [(.aload_n 0, .null), (.dup, .null)]
theorem kr_X6_lay_75_77 : zchk cX6_lay br_X6_lay_75_77 75 = true ∧ zpc br_X6_lay_75_77 75 = 77 := ⟨by decide +kernel, rfl⟩
abbrev br_X6_lay_80_81 : ZB := [(.iload_n 2, .null)]
theorem kr_X6_lay_80_81 : zchk cX6_lay br_X6_lay_80_81 80 = true ∧ zpc br_X6_lay_80_81 80 = 81 := ⟨by decide +kernel, rfl⟩
abbrev br_X6_lay_84_85 : ZB := [(.aload_n 0, .null)]
theorem kr_X6_lay_84_85 : zchk cX6_lay br_X6_lay_84_85 84 = true ∧ zpc br_X6_lay_84_85 84 = 85 := ⟨by decide +kernel, rfl⟩
abbrev br_X6_lay_88_89 : ZB := [(.iload_n 1, .null)]
theorem kr_X6_lay_88_89 : zchk cX6_lay br_X6_lay_88_89 88 = true ∧ zpc br_X6_lay_88_89 88 = 89 := ⟨by decide +kernel, rfl⟩
abbrev br_X6_lay_93_95 : ZB := [(.isub, .null), (.iadd, .null)]
theorem kr_X6_lay_93_95 : zchk cX6_lay br_X6_lay_93_95 93 = true ∧ zpc br_X6_lay_93_95 93 = 95 := ⟨by decide +kernel, rfl⟩
abbrev br_X6_lay_98_99 : ZB := [(.aload_n 0, .null)]
theorem kr_X6_lay_98_99 : zchk cX6_lay br_X6_lay_98_99 98 = true ∧ zpc br_X6_lay_98_99 98 = 99 := ⟨by decide +kernel, rfl⟩
abbrev br_X6_lay_102_104 : ZB := [(.iload_n 1, .null), (.iload_n 2, .null)]
theorem kr_X6_lay_102_104 : zchk cX6_lay br_X6_lay_102_104 102 = true ∧ zpc br_X6_lay_102_104 102 = 104 := ⟨by decide +kernel, rfl⟩
abbrev br_X6_lay_21_22 : ZB := [(.aload_n 0, .null)]
theorem kr_X6_lay_21_22 : zchk cX6_lay br_X6_lay_21_22 21 = true ∧ zpc br_X6_lay_21_22 21 = 22 := ⟨by decide +kernel, rfl⟩
abbrev br_X6_lay_25_28 : ZB := [(.iload 4, .null), (.dup2, .null)]
theorem kr_X6_lay_25_28 : zchk cX6_lay br_X6_lay_25_28 25 = true ∧ zpc br_X6_lay_25_28 25 = 28 := ⟨by decide +kernel, rfl⟩
abbrev br_X6_lay_29_32 : ZB := [(.iload_n 3, .null), (.i2l, .null), (.aload_n 0, .null)]
theorem kr_X6_lay_29_32 : zchk cX6_lay br_X6_lay_29_32 29 = true ∧ zpc br_X6_lay_29_32 29 = 32 := ⟨by decide +kernel, rfl⟩
abbrev br_X6_lay_35_38 : ZB := [(.iload 4, .null), (.iload_n 1, .null)]
theorem kr_X6_lay_35_38 : zchk cX6_lay br_X6_lay_35_38 35 = true ∧ zpc br_X6_lay_35_38 35 = 38 := ⟨by decide +kernel, rfl⟩
abbrev br_X6_lay_42_44 : ZB := [(.lmul, .null), (.ladd, .null)]
theorem kr_X6_lay_42_44 : zchk cX6_lay br_X6_lay_42_44 42 = true ∧ zpc br_X6_lay_42_44 42 = 44 := ⟨by decide +kernel, rfl⟩
abbrev br_X6_lay_45_46 : ZB := [(.aload_n 0, .null)]
theorem kr_X6_lay_45_46 : zchk cX6_lay br_X6_lay_45_46 45 = true ∧ zpc br_X6_lay_45_46 45 = 46 := ⟨by decide +kernel, rfl⟩
abbrev br_X6_lay_49_52 : ZB := [(.iload 4, .null), (.dup2, .null)]
theorem kr_X6_lay_49_52 : zchk cX6_lay br_X6_lay_49_52 49 = true ∧ zpc br_X6_lay_49_52 49 = 52 := ⟨by decide +kernel, rfl⟩
abbrev br_X6_lay_53_56 : ZB := [(.iload_n 3, .null), (.i2l, .null), (.aload_n 0, .null)]
theorem kr_X6_lay_53_56 : zchk cX6_lay br_X6_lay_53_56 53 = true ∧ zpc br_X6_lay_53_56 53 = 56 := ⟨by decide +kernel, rfl⟩
abbrev br_X6_lay_59_62 : ZB := [(.iload 4, .null), (.iload_n 1, .null)]
theorem kr_X6_lay_59_62 : zchk cX6_lay br_X6_lay_59_62 59 = true ∧ zpc br_X6_lay_59_62 59 = 62 := ⟨by decide +kernel, rfl⟩
abbrev br_X6_lay_66_68 : ZB := [(.lmul, .null), (.ladd, .null)]
theorem kr_X6_lay_66_68 : zchk cX6_lay br_X6_lay_66_68 66 = true ∧ zpc br_X6_lay_66_68 66 = 68 := ⟨by decide +kernel, rfl⟩
abbrev br_X6_lay_69_72 : ZB := [(.iinc 4 1, .int 1)]
theorem kr_X6_lay_69_72 : zchk cX6_lay br_X6_lay_69_72 69 = true ∧ zpc br_X6_lay_69_72 69 = 72 := ⟨by decide +kernel, rfl⟩
set_option maxHeartbeats 4000000 in
set_option maxRecDepth 100000 in
theorem cr_X6_layS (l : Launch) (G : KG) (se : Nat) (hn : Int32) (np : Int32) (afr : Nat) (aup : Nat) (axx : Nat) (ayy : Nat) (asx : Nat) (asy : Nat) (asz : Nat) (apu : Nat) (abe : Nat) (oz : Int32) (fo : Int32) (lc : Int64) (fxx : Nat → Int64) (fyy : Nat → Int64) (fsx : Nat → Int64) (fsy : Nat → Int64) (fpu : Nat → Int32) (iq : Int32) (wq : Int32) (npi : Int) (ii : Int) (wi : Int) (hnp : np.toInt = npi) (hiq : iq.toInt = ii) (hwq : wq.toInt = wi) (np0 : 0 ≤ npi ∧ npi ≤ 6) (hi0 : 0 ≤ ii ∧ ii < 16) : Ct l G yX6_lay cX6_lay 5 none { frames := 1, cells := 0, slots := 0, locals := 21 } [.ref se, .int iq, .int wq] [(se, ob 6 [.int hn, .int np, .int 0, .ref afr, .ref aup, .ref axx, .ref ayy, .ref asx, .ref asy, .ref asz, .ref apu, .ref abe, .int oz, .int fo, .long lc]), (axx, aJ G 6 fxx), (ayy, aJ G 6 fyy), (asx, aJ G 96 fsx), (asy, aJ G 96 fsy), (apu, aI G 16 fpu)] (fun r w1 => ∃ (fxx2 : Nat → Int64), ∃ (fyy2 : Nat → Int64), ∃ (fpu2 : Nat → Int32), ∃ (oz2 : Int32), (∀ p : Nat, p < npi.toNat → fxx2 p = fxx p + (wq - fpu iq.toNatClampNeg).toInt64 * fsx (16 * p + iq.toInt.toNat) ∧ fyy2 p = fyy p + (wq - fpu iq.toNatClampNeg).toInt64 * fsy (16 * p + iq.toInt.toNat)) ∧ (fpu2 = upd fpu iq.toNatClampNeg wq) ∧ r = none ∧ w1 = [(se, ob 6 [.int hn, .int np, .int 0, .ref afr, .ref aup, .ref axx, .ref ayy, .ref asx, .ref asy, .ref asz, .ref apu, .ref abe, .int oz2, .int fo, .long lc]), (axx, aJ G 6 fxx2), (ayy, aJ G 6 fyy2), (asx, aJ G 96 fsx), (asy, aJ G 96 fsy), (apu, aI G 16 fpu2)]) := by
  refine ct_of [(0, .ref se), (1, .int iq), (2, .int wq)] (by decide) (Nat.le_of_ble_eq_true rfl) rfl ?_
  intro p0 e0 s0 m0 args0 below0 meth0 c0 A X
  refine z_run X br_X6_lay_0_2 kr_X6_lay_0_2 (lv' := [(0, .ref se), (1, .int iq), (2, .int wq)]) (st' := [.ref se, .int wq]) rfl ?_
  refine z_get X fl_6_34 dr_X6_lay_2 0 rfl (v := .ref apu) rfl ?_
  refine z_run X br_X6_lay_5_6 kr_X6_lay_5_6 (lv' := [(0, .ref se), (1, .int iq), (2, .int wq)]) (st' := [.int iq, .ref apu, .int wq]) rfl ?_
  refine z_iald X dr_X6_lay_6 5 rfl (vin hiq (by omega) (by omega)) (v := (fpu iq.toNatClampNeg)) rfl ?_
  refine z_run X br_X6_lay_7_12 kr_X6_lay_7_12 (lv' := [(4, .int 0), (3, .int (wq - (fpu iq.toNatClampNeg))), (0, .ref se), (1, .int iq), (2, .int wq)]) (st' := []) rfl ?_
  refine zloop (σ := Int32 × (Nat → Int64) × (Nat → Int64)) (fun z => [(4, .int z.1), (3, .int (wq - (fpu iq.toNatClampNeg))), (0, .ref se), (1, .int iq), (2, .int wq)]) (fun z => []) (fun z => [(se, ob 6 [.int hn, .int np, .int 0, .ref afr, .ref aup, .ref axx, .ref ayy, .ref asx, .ref asy, .ref asz, .ref apu, .ref abe, .int oz, .int fo, .long lc]), (axx, aJ G 6 z.2.1), (ayy, aJ G 6 z.2.2), (asx, aJ G 96 fsx), (asy, aJ G 96 fsy), (apu, aI G 16 fpu)]) (fun z => (0 ≤ z.1.toInt ∧ z.1.toInt ≤ npi) ∧ (∀ p : Nat, ((p : Int) < z.1.toInt → z.2.1 p = (fun p => fxx p + (wq - fpu iq.toNatClampNeg).toInt64 * fsx (16 * p + iq.toInt.toNat)) p) ∧ (z.1.toInt ≤ (p : Int) → z.2.1 p = fxx p)) ∧ (∀ p : Nat, ((p : Int) < z.1.toInt → z.2.2 p = (fun p => fyy p + (wq - fpu iq.toNatClampNeg).toInt64 * fsy (16 * p + iq.toInt.toNat)) p) ∧ (z.1.toInt ≤ (p : Int) → z.2.2 p = fyy p))) (fun z => (npi - z.1.toInt).toNat) (0, fxx, fyy) ?_ ?_
  ·
    rintro ⟨i_, gx, gy⟩ ⟨hi, hX, hY⟩ ih12
    dsimp only at *
    refine z_run X br_X6_lay_12_15 kr_X6_lay_12_15 (lv' := [(4, .int i_), (3, .int (wq - (fpu iq.toNatClampNeg))), (0, .ref se), (1, .int iq), (2, .int wq)]) (st' := [.ref se, .int i_]) rfl ?_
    refine z_get X fl_6_44 dr_X6_lay_15 0 rfl (v := .int np) rfl ?_
    refine zc_ge X dr_X6_lay_18 (tgt := 75) (by decide) (a := i_.toInt) (b := npi) rfl hnp (fun c18_1 => ?_) (fun c18_1 => ?_)
    ·
      refine z_run X br_X6_lay_75_77 kr_X6_lay_75_77 (lv' := [(4, .int i_), (3, .int (wq - (fpu iq.toNatClampNeg))), (0, .ref se), (1, .int iq), (2, .int wq)]) (st' := [.ref se, .ref se]) rfl ?_
      refine z_get X fl_6_59 dr_X6_lay_77 0 rfl (v := .int oz) rfl ?_
      refine z_run X br_X6_lay_80_81 kr_X6_lay_80_81 (lv' := [(4, .int i_), (3, .int (wq - (fpu iq.toNatClampNeg))), (0, .ref se), (1, .int iq), (2, .int wq)]) (st' := [.int wq, .int oz, .ref se]) rfl ?_
      refine z_iabs X k_6_98.1 k_6_98.2.1 k_6_98.2.2.1 k_6_98.2.2.2.1 ⟨Nat.le_of_ble_eq_true rfl, Nat.le_of_ble_eq_true rfl⟩ ⟨Nat.le_of_ble_eq_true rfl, Nat.le_of_ble_eq_true rfl⟩ dr_X6_lay_81 (v := (iabs wq)) rfl ?_
      refine z_run X br_X6_lay_84_85 kr_X6_lay_84_85 (lv' := [(4, .int i_), (3, .int (wq - (fpu iq.toNatClampNeg))), (0, .ref se), (1, .int iq), (2, .int wq)]) (st' := [.ref se, .int (iabs wq), .int oz, .ref se]) rfl ?_
      refine z_get X fl_6_34 dr_X6_lay_85 0 rfl (v := .ref apu) rfl ?_
      refine z_run X br_X6_lay_88_89 kr_X6_lay_88_89 (lv' := [(4, .int i_), (3, .int (wq - (fpu iq.toNatClampNeg))), (0, .ref se), (1, .int iq), (2, .int wq)]) (st' := [.int iq, .ref apu, .int (iabs wq), .int oz, .ref se]) rfl ?_
      refine z_iald X dr_X6_lay_89 5 rfl (vin hiq (by omega) (by omega)) (v := (fpu iq.toNatClampNeg)) rfl ?_
      refine z_iabs X k_6_98.1 k_6_98.2.1 k_6_98.2.2.1 k_6_98.2.2.2.1 ⟨Nat.le_of_ble_eq_true rfl, Nat.le_of_ble_eq_true rfl⟩ ⟨Nat.le_of_ble_eq_true rfl, Nat.le_of_ble_eq_true rfl⟩ dr_X6_lay_90 (v := (iabs (fpu iq.toNatClampNeg))) rfl ?_
      refine z_run X br_X6_lay_93_95 kr_X6_lay_93_95 (lv' := [(4, .int i_), (3, .int (wq - (fpu iq.toNatClampNeg))), (0, .ref se), (1, .int iq), (2, .int wq)]) (st' := [.int (oz + ((iabs wq) - (iabs (fpu iq.toNatClampNeg)))), .ref se]) rfl ?_
      refine z_put X fl_6_59 dr_X6_lay_95 0 rfl (ty := .int) (T := TX6) (N := 15) rfl (Or.inl rfl) (by decide +kernel) rfl (by rfl) (Nat.le_of_ble_eq_true rfl) (ws' := [(se, ob 6 [.int hn, .int np, .int 0, .ref afr, .ref aup, .ref axx, .ref ayy, .ref asx, .ref asy, .ref asz, .ref apu, .ref abe, .int (oz + ((iabs wq) - (iabs (fpu iq.toNatClampNeg)))), .int fo, .long lc]), (axx, aJ G 6 gx), (ayy, aJ G 6 gy), (asx, aJ G 96 fsx), (asy, aJ G 96 fsy), (apu, aI G 16 fpu)]) rfl ?_
      refine z_run X br_X6_lay_98_99 kr_X6_lay_98_99 (lv' := [(4, .int i_), (3, .int (wq - (fpu iq.toNatClampNeg))), (0, .ref se), (1, .int iq), (2, .int wq)]) (st' := [.ref se]) rfl ?_
      refine z_get X fl_6_34 dr_X6_lay_99 0 rfl (v := .ref apu) rfl ?_
      refine z_run X br_X6_lay_102_104 kr_X6_lay_102_104 (lv' := [(4, .int i_), (3, .int (wq - (fpu iq.toNatClampNeg))), (0, .ref se), (1, .int iq), (2, .int wq)]) (st' := [.int wq, .int iq, .ref apu]) rfl ?_
      refine z_iast X dr_X6_lay_104 5 rfl (vin hiq (by omega) (by omega)) (ws' := [(se, ob 6 [.int hn, .int np, .int 0, .ref afr, .ref aup, .ref axx, .ref ayy, .ref asx, .ref asy, .ref asz, .ref apu, .ref abe, .int (oz + ((iabs wq) - (iabs (fpu iq.toNatClampNeg)))), .int fo, .long lc]), (axx, aJ G 6 gx), (ayy, aJ G 6 gy), (asx, aJ G 96 fsx), (asy, aJ G 96 fsy), (apu, aI G 16 (upd fpu iq.toNatClampNeg wq))]) rfl ?_
      exact z_vret X rfl dr_X6_lay_105 (Nat.le_of_ble_eq_true rfl) (Nat.le_of_ble_eq_true rfl) ⟨gx, gy, (upd fpu iq.toNatClampNeg wq), (oz + ((iabs wq) - (iabs (fpu iq.toNatClampNeg)))), (fun p hp => ⟨(hX p).1 (by omega), (hY p).1 (by omega)⟩), rfl, rfl, rfl⟩
    ·
      refine z_run X br_X6_lay_21_22 kr_X6_lay_21_22 (lv' := [(4, .int i_), (3, .int (wq - (fpu iq.toNatClampNeg))), (0, .ref se), (1, .int iq), (2, .int wq)]) (st' := [.ref se]) rfl ?_
      refine z_get X fl_6_18 dr_X6_lay_22 0 rfl (v := .ref axx) rfl ?_
      refine z_run X br_X6_lay_25_28 kr_X6_lay_25_28 (lv' := [(4, .int i_), (3, .int (wq - (fpu iq.toNatClampNeg))), (0, .ref se), (1, .int iq), (2, .int wq)]) (st' := [.int i_, .ref axx, .int i_, .ref axx]) rfl ?_
      refine z_lald X dr_X6_lay_28 1 rfl (vin rfl (by omega) (by omega)) (v := (gx i_.toNatClampNeg)) rfl ?_
      refine z_run X br_X6_lay_29_32 kr_X6_lay_29_32 (lv' := [(4, .int i_), (3, .int (wq - (fpu iq.toNatClampNeg))), (0, .ref se), (1, .int iq), (2, .int wq)]) (st' := [.ref se, .long (wq - (fpu iq.toNatClampNeg)).toInt64, .long (gx i_.toNatClampNeg), .int i_, .ref axx]) rfl ?_
      refine z_get X fl_6_25 dr_X6_lay_32 0 rfl (v := .ref asx) rfl ?_
      refine z_run X br_X6_lay_35_38 kr_X6_lay_35_38 (lv' := [(4, .int i_), (3, .int (wq - (fpu iq.toNatClampNeg))), (0, .ref se), (1, .int iq), (2, .int wq)]) (st' := [.int iq, .int i_, .ref asx, .long (wq - (fpu iq.toNatClampNeg)).toInt64, .long (gx i_.toNatClampNeg), .int i_, .ref axx]) rfl ?_
      refine z_callS X k_6_51 (cr_X6_stepAtS l G i_ iq i_.toInt ii rfl hiq (by omega) (by omega)) dr_X6_lay_38 ⟨Nat.le_of_ble_eq_true rfl, Nat.le_of_ble_eq_true rfl⟩ ⟨Nat.le_of_ble_eq_true rfl, Nat.le_of_ble_eq_true rfl⟩ rfl (rest := [.ref asx, .long (wq - (fpu iq.toNatClampNeg)).toInt64, .long (gx i_.toNatClampNeg), .int i_, .ref axx]) (As := [.int i_, .int iq]) rfl (Nat.le_of_ble_eq_true rfl) [] [0, 1, 2, 3, 4, 5] rfl (by decide) (wr := [(se, ob 6 [.int hn, .int np, .int 0, .ref afr, .ref aup, .ref axx, .ref ayy, .ref asx, .ref asy, .ref asz, .ref apu, .ref abe, .int oz, .int fo, .long lc]), (axx, aJ G 6 gx), (ayy, aJ G 6 gy), (asx, aJ G 96 fsx), (asy, aJ G 96 fsy), (apu, aI G 16 fpu)]) rfl (by decide) (by decide) ?_
      rintro _ _ ⟨rz_2, f38_3, f38_4, rfl, rfl⟩
      refine Z.at (pc' := 41) (st' := [.int rz_2, .ref asx, .long (wq - (fpu iq.toNatClampNeg)).toInt64, .long (gx i_.toNatClampNeg), .int i_, .ref axx]) (ws' := [(se, ob 6 [.int hn, .int np, .int 0, .ref afr, .ref aup, .ref axx, .ref ayy, .ref asx, .ref asy, .ref asz, .ref apu, .ref abe, .int oz, .int fo, .long lc]), (axx, aJ G 6 gx), (ayy, aJ G 6 gy), (asx, aJ G 96 fsx), (asy, aJ G 96 fsy), (apu, aI G 16 fpu)]) (kc' := 0) (ks' := 0) rfl rfl rfl rfl rfl ?_
      refine z_lald X dr_X6_lay_41 3 rfl (vin rfl (by omega) (by omega)) (v := (fsx rz_2.toNatClampNeg)) rfl ?_
      refine z_run X br_X6_lay_42_44 kr_X6_lay_42_44 (lv' := [(4, .int i_), (3, .int (wq - (fpu iq.toNatClampNeg))), (0, .ref se), (1, .int iq), (2, .int wq)]) (st' := [.long ((gx i_.toNatClampNeg) + ((wq - (fpu iq.toNatClampNeg)).toInt64 * (fsx rz_2.toNatClampNeg))), .int i_, .ref axx]) rfl ?_
      refine z_last X dr_X6_lay_44 1 rfl (vin rfl (by omega) (by omega)) (ws' := [(se, ob 6 [.int hn, .int np, .int 0, .ref afr, .ref aup, .ref axx, .ref ayy, .ref asx, .ref asy, .ref asz, .ref apu, .ref abe, .int oz, .int fo, .long lc]), (axx, aJ G 6 (vp_updL gx i_.toNatClampNeg ((gx i_.toNatClampNeg) + ((wq - (fpu iq.toNatClampNeg)).toInt64 * (fsx rz_2.toNatClampNeg))))), (ayy, aJ G 6 gy), (asx, aJ G 96 fsx), (asy, aJ G 96 fsy), (apu, aI G 16 fpu)]) rfl ?_
      refine z_run X br_X6_lay_45_46 kr_X6_lay_45_46 (lv' := [(4, .int i_), (3, .int (wq - (fpu iq.toNatClampNeg))), (0, .ref se), (1, .int iq), (2, .int wq)]) (st' := [.ref se]) rfl ?_
      refine z_get X fl_6_22 dr_X6_lay_46 0 rfl (v := .ref ayy) rfl ?_
      refine z_run X br_X6_lay_49_52 kr_X6_lay_49_52 (lv' := [(4, .int i_), (3, .int (wq - (fpu iq.toNatClampNeg))), (0, .ref se), (1, .int iq), (2, .int wq)]) (st' := [.int i_, .ref ayy, .int i_, .ref ayy]) rfl ?_
      refine z_lald X dr_X6_lay_52 2 rfl (vin rfl (by omega) (by omega)) (v := (gy i_.toNatClampNeg)) rfl ?_
      refine z_run X br_X6_lay_53_56 kr_X6_lay_53_56 (lv' := [(4, .int i_), (3, .int (wq - (fpu iq.toNatClampNeg))), (0, .ref se), (1, .int iq), (2, .int wq)]) (st' := [.ref se, .long (wq - (fpu iq.toNatClampNeg)).toInt64, .long (gy i_.toNatClampNeg), .int i_, .ref ayy]) rfl ?_
      refine z_get X fl_6_28 dr_X6_lay_56 0 rfl (v := .ref asy) rfl ?_
      refine z_run X br_X6_lay_59_62 kr_X6_lay_59_62 (lv' := [(4, .int i_), (3, .int (wq - (fpu iq.toNatClampNeg))), (0, .ref se), (1, .int iq), (2, .int wq)]) (st' := [.int iq, .int i_, .ref asy, .long (wq - (fpu iq.toNatClampNeg)).toInt64, .long (gy i_.toNatClampNeg), .int i_, .ref ayy]) rfl ?_
      refine z_callS X k_6_51 (cr_X6_stepAtS l G i_ iq i_.toInt ii rfl hiq (by omega) (by omega)) dr_X6_lay_62 ⟨Nat.le_of_ble_eq_true rfl, Nat.le_of_ble_eq_true rfl⟩ ⟨Nat.le_of_ble_eq_true rfl, Nat.le_of_ble_eq_true rfl⟩ rfl (rest := [.ref asy, .long (wq - (fpu iq.toNatClampNeg)).toInt64, .long (gy i_.toNatClampNeg), .int i_, .ref ayy]) (As := [.int i_, .int iq]) rfl (Nat.le_of_ble_eq_true rfl) [] [0, 1, 2, 3, 4, 5] rfl (by decide) (wr := [(se, ob 6 [.int hn, .int np, .int 0, .ref afr, .ref aup, .ref axx, .ref ayy, .ref asx, .ref asy, .ref asz, .ref apu, .ref abe, .int oz, .int fo, .long lc]), (axx, aJ G 6 (vp_updL gx i_.toNatClampNeg ((gx i_.toNatClampNeg) + ((wq - (fpu iq.toNatClampNeg)).toInt64 * (fsx rz_2.toNatClampNeg))))), (ayy, aJ G 6 gy), (asx, aJ G 96 fsx), (asy, aJ G 96 fsy), (apu, aI G 16 fpu)]) rfl (by decide) (by decide) ?_
      rintro _ _ ⟨rz_5, f62_6, f62_7, rfl, rfl⟩
      refine Z.at (pc' := 65) (st' := [.int rz_5, .ref asy, .long (wq - (fpu iq.toNatClampNeg)).toInt64, .long (gy i_.toNatClampNeg), .int i_, .ref ayy]) (ws' := [(se, ob 6 [.int hn, .int np, .int 0, .ref afr, .ref aup, .ref axx, .ref ayy, .ref asx, .ref asy, .ref asz, .ref apu, .ref abe, .int oz, .int fo, .long lc]), (axx, aJ G 6 (vp_updL gx i_.toNatClampNeg ((gx i_.toNatClampNeg) + ((wq - (fpu iq.toNatClampNeg)).toInt64 * (fsx rz_2.toNatClampNeg))))), (ayy, aJ G 6 gy), (asx, aJ G 96 fsx), (asy, aJ G 96 fsy), (apu, aI G 16 fpu)]) (kc' := 0) (ks' := 0) rfl rfl rfl rfl rfl ?_
      refine z_lald X dr_X6_lay_65 4 rfl (vin rfl (by omega) (by omega)) (v := (fsy rz_5.toNatClampNeg)) rfl ?_
      refine z_run X br_X6_lay_66_68 kr_X6_lay_66_68 (lv' := [(4, .int i_), (3, .int (wq - (fpu iq.toNatClampNeg))), (0, .ref se), (1, .int iq), (2, .int wq)]) (st' := [.long ((gy i_.toNatClampNeg) + ((wq - (fpu iq.toNatClampNeg)).toInt64 * (fsy rz_5.toNatClampNeg))), .int i_, .ref ayy]) rfl ?_
      refine z_last X dr_X6_lay_68 2 rfl (vin rfl (by omega) (by omega)) (ws' := [(se, ob 6 [.int hn, .int np, .int 0, .ref afr, .ref aup, .ref axx, .ref ayy, .ref asx, .ref asy, .ref asz, .ref apu, .ref abe, .int oz, .int fo, .long lc]), (axx, aJ G 6 (vp_updL gx i_.toNatClampNeg ((gx i_.toNatClampNeg) + ((wq - (fpu iq.toNatClampNeg)).toInt64 * (fsx rz_2.toNatClampNeg))))), (ayy, aJ G 6 (vp_updL gy i_.toNatClampNeg ((gy i_.toNatClampNeg) + ((wq - (fpu iq.toNatClampNeg)).toInt64 * (fsy rz_5.toNatClampNeg))))), (asx, aJ G 96 fsx), (asy, aJ G 96 fsy), (apu, aI G 16 fpu)]) rfl ?_
      refine z_run X br_X6_lay_69_72 kr_X6_lay_69_72 (lv' := [(4, .int (i_ + 1)), (3, .int (wq - (fpu iq.toNatClampNeg))), (0, .ref se), (1, .int iq), (2, .int wq)]) (st' := []) rfl ?_
      refine z_goto X dr_X6_lay_72 (tgt := 12) (by decide) ?_
      exact ih12 ((i_ + 1), (vp_updL gx i_.toNatClampNeg ((gx i_.toNatClampNeg) + ((wq - (fpu iq.toNatClampNeg)).toInt64 * (fsx rz_2.toNatClampNeg)))), (vp_updL gy i_.toNatClampNeg ((gy i_.toNatClampNeg) + ((wq - (fpu iq.toNatClampNeg)).toInt64 * (fsy rz_5.toNatClampNeg))))) ⟨(by (try dsimp only); have e : (i_ + 1).toInt = i_.toInt + 1 := tI_add rfl (show (1 : Int32).toInt = 1 from by decide) (by omega); omega), (by (try dsimp only); have e : (i_ + 1).toInt = i_.toInt + 1 := tI_add rfl (show (1 : Int32).toInt = 1 from by decide) (by omega); rw [e]; exact lay_step hi.1 hX (by show _ = fxx i_.toInt.toNat + (wq - fpu iq.toNatClampNeg).toInt64 * fsx (16 * i_.toInt.toNat + iq.toInt.toNat); rw [← (hX i_.toInt.toNat).2 (by omega), ← (show _ = 16 * i_.toInt.toNat + iq.toInt.toNat from f38_3)]; rfl)), (by (try dsimp only); have e : (i_ + 1).toInt = i_.toInt + 1 := tI_add rfl (show (1 : Int32).toInt = 1 from by decide) (by omega); rw [e]; exact lay_step hi.1 hY (by show _ = fyy i_.toInt.toNat + (wq - fpu iq.toNatClampNeg).toInt64 * fsy (16 * i_.toInt.toNat + iq.toInt.toNat); rw [← (hY i_.toInt.toNat).2 (by omega), ← (show _ = 16 * i_.toInt.toNat + iq.toInt.toNat from f62_6)]; rfl))⟩ (by (try dsimp only); have e : (i_ + 1).toInt = i_.toInt + 1 := tI_add rfl (show (1 : Int32).toInt = 1 from by decide) (by omega); omega)
  · exact ⟨(by (try dsimp only); have e0 : (0 : Int32).toInt = 0 := (by decide); omega), (by (try dsimp only); have e0 : (0 : Int32).toInt = 0 := (by decide); rw [e0]; exact fun p => ⟨fun h => by omega, fun _ => rfl⟩), (by (try dsimp only); have e0 : (0 : Int32).toInt = 0 := (by decide); rw [e0]; exact fun p => ⟨fun h => by omega, fun _ => rfl⟩)⟩

theorem dr_X6_isPreferred_1 : decode cX6_isPreferred 1 = .ok (.getfield 59, 3) := by decide +kernel
theorem dr_X6_isPreferred_5 : decode cX6_isPreferred 5 = .ok (.getfield 62, 3) := by decide +kernel
theorem dr_X6_isPreferred_8 : decode cX6_isPreferred 8 = .ok (.if_icmp .eq 20, 3) := by decide +kernel
theorem dr_X6_isPreferred_32 : decode cX6_isPreferred 32 = .ok (.getfield 40, 3) := by decide +kernel
theorem dr_X6_isPreferred_35 : decode cX6_isPreferred 35 = .ok (.if_icmp .ge 45, 3) := by decide +kernel
theorem dr_X6_isPreferred_81 : decode cX6_isPreferred 81 = .ok (.ireturn, 1) := by decide +kernel
theorem dr_X6_isPreferred_39 : decode cX6_isPreferred 39 = .ok (.getfield 34, 3) := by decide +kernel
theorem dr_X6_isPreferred_43 : decode cX6_isPreferred 43 = .ok (.iaload, 1) := by decide +kernel
theorem dr_X6_isPreferred_45 : decode cX6_isPreferred 45 = .ok (.getfield 37, 3) := by decide +kernel
theorem dr_X6_isPreferred_49 : decode cX6_isPreferred 49 = .ok (.iaload, 1) := by decide +kernel
theorem dr_X6_isPreferred_50 : decode cX6_isPreferred 50 = .ok (.if_icmp .eq 24, 3) := by decide +kernel
theorem dr_X6_isPreferred_77 : decode cX6_isPreferred 77 = .ok (.goto (-47), 3) := by decide +kernel
theorem dr_X6_isPreferred_54 : decode cX6_isPreferred 54 = .ok (.getfield 34, 3) := by decide +kernel
theorem dr_X6_isPreferred_58 : decode cX6_isPreferred 58 = .ok (.iaload, 1) := by decide +kernel
theorem dr_X6_isPreferred_60 : decode cX6_isPreferred 60 = .ok (.getfield 37, 3) := by decide +kernel
theorem dr_X6_isPreferred_64 : decode cX6_isPreferred 64 = .ok (.iaload, 1) := by decide +kernel
theorem dr_X6_isPreferred_65 : decode cX6_isPreferred 65 = .ok (.if_icmp .ge 7, 3) := by decide +kernel
theorem dr_X6_isPreferred_73 : decode cX6_isPreferred 73 = .ok (.ireturn, 1) := by decide +kernel
theorem dr_X6_isPreferred_69 : decode cX6_isPreferred 69 = .ok (.goto 4, 3) := by decide +kernel
theorem dr_X6_isPreferred_12 : decode cX6_isPreferred 12 = .ok (.getfield 59, 3) := by decide +kernel
theorem dr_X6_isPreferred_16 : decode cX6_isPreferred 16 = .ok (.getfield 62, 3) := by decide +kernel
theorem dr_X6_isPreferred_19 : decode cX6_isPreferred 19 = .ok (.if_icmp .ge 7, 3) := by decide +kernel
theorem dr_X6_isPreferred_27 : decode cX6_isPreferred 27 = .ok (.ireturn, 1) := by decide +kernel
theorem dr_X6_isPreferred_23 : decode cX6_isPreferred 23 = .ok (.goto 4, 3) := by decide +kernel
abbrev br_X6_isPreferred_0_1 : ZB := [(.aload_n 0, .null)]
theorem kr_X6_isPreferred_0_1 : zchk cX6_isPreferred br_X6_isPreferred_0_1 0 = true ∧ zpc br_X6_isPreferred_0_1 0 = 1 := ⟨by decide +kernel, rfl⟩
abbrev br_X6_isPreferred_4_5 : ZB := [(.aload_n 0, .null)]
theorem kr_X6_isPreferred_4_5 : zchk cX6_isPreferred br_X6_isPreferred_4_5 4 = true ∧ zpc br_X6_isPreferred_4_5 4 = 5 := ⟨by decide +kernel, rfl⟩
abbrev br_X6_isPreferred_28_30 : ZB := [(.iconst 0, .int 0), (.istore_n 1, .null)]
theorem kr_X6_isPreferred_28_30 : zchk cX6_isPreferred br_X6_isPreferred_28_30 28 = true ∧ zpc br_X6_isPreferred_28_30 28 = 30 := ⟨by decide +kernel, rfl⟩
abbrev br_X6_isPreferred_30_32 : ZB := [(.iload_n 1, .null), (.aload_n 0, .null)]
theorem kr_X6_isPreferred_30_32 : zchk cX6_isPreferred br_X6_isPreferred_30_32 30 = true ∧ zpc br_X6_isPreferred_30_32 30 = 32 := ⟨by decide +kernel, rfl⟩
abbrev br_X6_isPreferred_80_81 : ZB := [(.iconst 0, .int 0)]
theorem kr_X6_isPreferred_80_81 : zchk cX6_isPreferred br_X6_isPreferred_80_81 80 = true ∧ zpc br_X6_isPreferred_80_81 80 = 81 := ⟨by decide +kernel, rfl⟩
abbrev br_X6_isPreferred_38_39 : ZB := [(.aload_n 0, .null)]
theorem kr_X6_isPreferred_38_39 : zchk cX6_isPreferred br_X6_isPreferred_38_39 38 = true ∧ zpc br_X6_isPreferred_38_39 38 = 39 := ⟨by decide +kernel, rfl⟩
abbrev br_X6_isPreferred_42_43 : ZB := [(.iload_n 1, .null)]
theorem kr_X6_isPreferred_42_43 : zchk cX6_isPreferred br_X6_isPreferred_42_43 42 = true ∧ zpc br_X6_isPreferred_42_43 42 = 43 := ⟨by decide +kernel, rfl⟩
abbrev br_X6_isPreferred_44_45 : ZB := [(.aload_n 0, .null)]
theorem kr_X6_isPreferred_44_45 : zchk cX6_isPreferred br_X6_isPreferred_44_45 44 = true ∧ zpc br_X6_isPreferred_44_45 44 = 45 := ⟨by decide +kernel, rfl⟩
abbrev br_X6_isPreferred_48_49 : ZB := [(.iload_n 1, .null)]
theorem kr_X6_isPreferred_48_49 : zchk cX6_isPreferred br_X6_isPreferred_48_49 48 = true ∧ zpc br_X6_isPreferred_48_49 48 = 49 := ⟨by decide +kernel, rfl⟩
abbrev br_X6_isPreferred_74_77 : ZB := [(.iinc 1 1, .int 1)]
theorem kr_X6_isPreferred_74_77 : zchk cX6_isPreferred br_X6_isPreferred_74_77 74 = true ∧ zpc br_X6_isPreferred_74_77 74 = 77 := ⟨by decide +kernel, rfl⟩
abbrev br_X6_isPreferred_53_54 : ZB := [(.aload_n 0, .null)]
theorem kr_X6_isPreferred_53_54 : zchk cX6_isPreferred br_X6_isPreferred_53_54 53 = true ∧ zpc br_X6_isPreferred_53_54 53 = 54 := ⟨by decide +kernel, rfl⟩
abbrev br_X6_isPreferred_57_58 : ZB := [(.iload_n 1, .null)]
theorem kr_X6_isPreferred_57_58 : zchk cX6_isPreferred br_X6_isPreferred_57_58 57 = true ∧ zpc br_X6_isPreferred_57_58 57 = 58 := ⟨by decide +kernel, rfl⟩
abbrev br_X6_isPreferred_59_60 : ZB := [(.aload_n 0, .null)]
theorem kr_X6_isPreferred_59_60 : zchk cX6_isPreferred br_X6_isPreferred_59_60 59 = true ∧ zpc br_X6_isPreferred_59_60 59 = 60 := ⟨by decide +kernel, rfl⟩
abbrev br_X6_isPreferred_63_64 : ZB := [(.iload_n 1, .null)]
theorem kr_X6_isPreferred_63_64 : zchk cX6_isPreferred br_X6_isPreferred_63_64 63 = true ∧ zpc br_X6_isPreferred_63_64 63 = 64 := ⟨by decide +kernel, rfl⟩
abbrev br_X6_isPreferred_72_73 : ZB := [(.iconst 0, .int 0)]
theorem kr_X6_isPreferred_72_73 : zchk cX6_isPreferred br_X6_isPreferred_72_73 72 = true ∧ zpc br_X6_isPreferred_72_73 72 = 73 := ⟨by decide +kernel, rfl⟩
abbrev br_X6_isPreferred_68_69 : ZB := [(.iconst 1, .int 1)]
theorem kr_X6_isPreferred_68_69 : zchk cX6_isPreferred br_X6_isPreferred_68_69 68 = true ∧ zpc br_X6_isPreferred_68_69 68 = 69 := ⟨by decide +kernel, rfl⟩
abbrev br_X6_isPreferred_11_12 : ZB := [(.aload_n 0, .null)]
theorem kr_X6_isPreferred_11_12 : zchk cX6_isPreferred br_X6_isPreferred_11_12 11 = true ∧ zpc br_X6_isPreferred_11_12 11 = 12 := ⟨by decide +kernel, rfl⟩
abbrev br_X6_isPreferred_15_16 : ZB := [(.aload_n 0, .null)]
theorem kr_X6_isPreferred_15_16 : zchk cX6_isPreferred br_X6_isPreferred_15_16 15 = true ∧ zpc br_X6_isPreferred_15_16 15 = 16 := ⟨by decide +kernel, rfl⟩
abbrev br_X6_isPreferred_26_27 : ZB := [(.iconst 0, .int 0)]
theorem kr_X6_isPreferred_26_27 : zchk cX6_isPreferred br_X6_isPreferred_26_27 26 = true ∧ zpc br_X6_isPreferred_26_27 26 = 27 := ⟨by decide +kernel, rfl⟩
abbrev br_X6_isPreferred_22_23 : ZB := [(.iconst 1, .int 1)]
theorem kr_X6_isPreferred_22_23 : zchk cX6_isPreferred br_X6_isPreferred_22_23 22 = true ∧ zpc br_X6_isPreferred_22_23 22 = 23 := ⟨by decide +kernel, rfl⟩
set_option maxHeartbeats 4000000 in
set_option maxRecDepth 100000 in
theorem cr_X6_isPreferredS (l : Launch) (G : KG) (se : Nat) (hn : Int32) (np : Int32) (afr : Nat) (aup : Nat) (axx : Nat) (ayy : Nat) (asx : Nat) (asy : Nat) (asz : Nat) (apu : Nat) (abe : Nat) (oz : Int32) (fo : Int32) (lc : Int64) (fpu : Nat → Int32) (fbe : Nat → Int32) (hni : Int) (hhn : hn.toInt = hni) (hn0 : 0 ≤ hni ∧ hni ≤ 16) : Ct l G yX6_isPreferred cX6_isPreferred 2 (some .boolean) { frames := 0, cells := 0, slots := 0, locals := 0 } [.ref se] [(se, ob 6 [.int hn, .int np, .int 0, .ref afr, .ref aup, .ref axx, .ref ayy, .ref asx, .ref asy, .ref asz, .ref apu, .ref abe, .int oz, .int fo, .long lc]), (apu, aI G 16 fpu), (abe, aI G 16 fbe)] (fun r w1 => ∃ (rz : Int32), (0 ≤ rz.toInt ∧ rz.toInt ≤ 1) ∧ r = some (.int rz) ∧ w1 = [(se, ob 6 [.int hn, .int np, .int 0, .ref afr, .ref aup, .ref axx, .ref ayy, .ref asx, .ref asy, .ref asz, .ref apu, .ref abe, .int oz, .int fo, .long lc]), (apu, aI G 16 fpu), (abe, aI G 16 fbe)]) := by
  refine ct_of [(0, .ref se)] (by decide) (Nat.le_of_ble_eq_true rfl) rfl ?_
  intro p0 e0 s0 m0 args0 below0 meth0 c0 A X
  refine z_run X br_X6_isPreferred_0_1 kr_X6_isPreferred_0_1 (lv' := [(0, .ref se)]) (st' := [.ref se]) rfl ?_
  refine z_get X fl_6_59 dr_X6_isPreferred_1 0 rfl (v := .int oz) rfl ?_
  refine z_run X br_X6_isPreferred_4_5 kr_X6_isPreferred_4_5 (lv' := [(0, .ref se)]) (st' := [.ref se, .int oz]) rfl ?_
  refine z_get X fl_6_62 dr_X6_isPreferred_5 0 rfl (v := .int fo) rfl ?_
  refine zc_eq X dr_X6_isPreferred_8 (tgt := 28) (by decide) (a := oz.toInt) (b := fo.toInt) rfl rfl (fun c8_1 => ?_) (fun c8_1 => ?_)
  ·
    refine z_run X br_X6_isPreferred_28_30 kr_X6_isPreferred_28_30 (lv' := [(1, .int 0), (0, .ref se)]) (st' := []) rfl ?_
    refine zloop (σ := Int32) (fun z => [(1, .int z), (0, .ref se)]) (fun z => []) (fun z => [(se, ob 6 [.int hn, .int np, .int 0, .ref afr, .ref aup, .ref axx, .ref ayy, .ref asx, .ref asy, .ref asz, .ref apu, .ref abe, .int oz, .int fo, .long lc]), (apu, aI G 16 fpu), (abe, aI G 16 fbe)]) (fun z => (0 ≤ z.toInt ∧ z.toInt ≤ hni)) (fun z => (hni - z.toInt).toNat) 0 ?_ ?_
    ·
      rintro i_ hi ih30
      dsimp only at *
      refine z_run X br_X6_isPreferred_30_32 kr_X6_isPreferred_30_32 (lv' := [(1, .int i_), (0, .ref se)]) (st' := [.ref se, .int i_]) rfl ?_
      refine z_get X fl_6_40 dr_X6_isPreferred_32 0 rfl (v := .int hn) rfl ?_
      refine zc_ge X dr_X6_isPreferred_35 (tgt := 80) (by decide) (a := i_.toInt) (b := hni) rfl hhn (fun c35_2 => ?_) (fun c35_2 => ?_)
      ·
        refine z_run X br_X6_isPreferred_80_81 kr_X6_isPreferred_80_81 (lv' := [(1, .int i_), (0, .ref se)]) (st' := [.int 0]) rfl ?_
        exact z_zret X rfl rfl dr_X6_isPreferred_81 (Nat.le_of_ble_eq_true rfl) (Nat.le_of_ble_eq_true rfl) ⟨(0 : Int32), (by decide), rfl, rfl⟩
      ·
        refine z_run X br_X6_isPreferred_38_39 kr_X6_isPreferred_38_39 (lv' := [(1, .int i_), (0, .ref se)]) (st' := [.ref se]) rfl ?_
        refine z_get X fl_6_34 dr_X6_isPreferred_39 0 rfl (v := .ref apu) rfl ?_
        refine z_run X br_X6_isPreferred_42_43 kr_X6_isPreferred_42_43 (lv' := [(1, .int i_), (0, .ref se)]) (st' := [.int i_, .ref apu]) rfl ?_
        refine z_iald X dr_X6_isPreferred_43 1 rfl (vin rfl (by omega) (by omega)) (v := (fpu i_.toNatClampNeg)) rfl ?_
        refine z_run X br_X6_isPreferred_44_45 kr_X6_isPreferred_44_45 (lv' := [(1, .int i_), (0, .ref se)]) (st' := [.ref se, .int (fpu i_.toNatClampNeg)]) rfl ?_
        refine z_get X fl_6_37 dr_X6_isPreferred_45 0 rfl (v := .ref abe) rfl ?_
        refine z_run X br_X6_isPreferred_48_49 kr_X6_isPreferred_48_49 (lv' := [(1, .int i_), (0, .ref se)]) (st' := [.int i_, .ref abe, .int (fpu i_.toNatClampNeg)]) rfl ?_
        refine z_iald X dr_X6_isPreferred_49 2 rfl (vin rfl (by omega) (by omega)) (v := (fbe i_.toNatClampNeg)) rfl ?_
        refine zc_eq X dr_X6_isPreferred_50 (tgt := 74) (by decide) (a := (fpu i_.toNatClampNeg).toInt) (b := (fbe i_.toNatClampNeg).toInt) rfl rfl (fun c50_3 => ?_) (fun c50_3 => ?_)
        ·
          refine z_run X br_X6_isPreferred_74_77 kr_X6_isPreferred_74_77 (lv' := [(1, .int (i_ + 1)), (0, .ref se)]) (st' := []) rfl ?_
          refine z_goto X dr_X6_isPreferred_77 (tgt := 30) (by decide) ?_
          exact ih30 (i_ + 1) (by (try dsimp only); have e : (i_ + 1).toInt = i_.toInt + 1 := tI_add rfl (show (1 : Int32).toInt = 1 from by decide) (by omega); omega) (by (try dsimp only); have e : (i_ + 1).toInt = i_.toInt + 1 := tI_add rfl (show (1 : Int32).toInt = 1 from by decide) (by omega); omega)
        ·
          refine z_run X br_X6_isPreferred_53_54 kr_X6_isPreferred_53_54 (lv' := [(1, .int i_), (0, .ref se)]) (st' := [.ref se]) rfl ?_
          refine z_get X fl_6_34 dr_X6_isPreferred_54 0 rfl (v := .ref apu) rfl ?_
          refine z_run X br_X6_isPreferred_57_58 kr_X6_isPreferred_57_58 (lv' := [(1, .int i_), (0, .ref se)]) (st' := [.int i_, .ref apu]) rfl ?_
          refine z_iald X dr_X6_isPreferred_58 1 rfl (vin rfl (by omega) (by omega)) (v := (fpu i_.toNatClampNeg)) rfl ?_
          refine z_run X br_X6_isPreferred_59_60 kr_X6_isPreferred_59_60 (lv' := [(1, .int i_), (0, .ref se)]) (st' := [.ref se, .int (fpu i_.toNatClampNeg)]) rfl ?_
          refine z_get X fl_6_37 dr_X6_isPreferred_60 0 rfl (v := .ref abe) rfl ?_
          refine z_run X br_X6_isPreferred_63_64 kr_X6_isPreferred_63_64 (lv' := [(1, .int i_), (0, .ref se)]) (st' := [.int i_, .ref abe, .int (fpu i_.toNatClampNeg)]) rfl ?_
          refine z_iald X dr_X6_isPreferred_64 2 rfl (vin rfl (by omega) (by omega)) (v := (fbe i_.toNatClampNeg)) rfl ?_
          refine zc_ge X dr_X6_isPreferred_65 (tgt := 72) (by decide) (a := (fpu i_.toNatClampNeg).toInt) (b := (fbe i_.toNatClampNeg).toInt) rfl rfl (fun c65_4 => ?_) (fun c65_4 => ?_)
          ·
            refine z_run X br_X6_isPreferred_72_73 kr_X6_isPreferred_72_73 (lv' := [(1, .int i_), (0, .ref se)]) (st' := [.int 0]) rfl ?_
            exact z_zret X rfl rfl dr_X6_isPreferred_73 (Nat.le_of_ble_eq_true rfl) (Nat.le_of_ble_eq_true rfl) ⟨(0 : Int32), (by decide), rfl, rfl⟩
          ·
            refine z_run X br_X6_isPreferred_68_69 kr_X6_isPreferred_68_69 (lv' := [(1, .int i_), (0, .ref se)]) (st' := [.int 1]) rfl ?_
            refine z_goto X dr_X6_isPreferred_69 (tgt := 73) (by decide) ?_
            exact z_zret X rfl rfl dr_X6_isPreferred_73 (Nat.le_of_ble_eq_true rfl) (Nat.le_of_ble_eq_true rfl) ⟨(1 : Int32), (by decide), rfl, rfl⟩
    · exact (by (try dsimp only); have e0 : (0 : Int32).toInt = 0 := (by decide); omega)
  ·
    refine z_run X br_X6_isPreferred_11_12 kr_X6_isPreferred_11_12 (lv' := [(0, .ref se)]) (st' := [.ref se]) rfl ?_
    refine z_get X fl_6_59 dr_X6_isPreferred_12 0 rfl (v := .int oz) rfl ?_
    refine z_run X br_X6_isPreferred_15_16 kr_X6_isPreferred_15_16 (lv' := [(0, .ref se)]) (st' := [.ref se, .int oz]) rfl ?_
    refine z_get X fl_6_62 dr_X6_isPreferred_16 0 rfl (v := .int fo) rfl ?_
    refine zc_ge X dr_X6_isPreferred_19 (tgt := 26) (by decide) (a := oz.toInt) (b := fo.toInt) rfl rfl (fun c19_5 => ?_) (fun c19_5 => ?_)
    ·
      refine z_run X br_X6_isPreferred_26_27 kr_X6_isPreferred_26_27 (lv' := [(0, .ref se)]) (st' := [.int 0]) rfl ?_
      exact z_zret X rfl rfl dr_X6_isPreferred_27 (Nat.le_of_ble_eq_true rfl) (Nat.le_of_ble_eq_true rfl) ⟨(0 : Int32), (by decide), rfl, rfl⟩
    ·
      refine z_run X br_X6_isPreferred_22_23 kr_X6_isPreferred_22_23 (lv' := [(0, .ref se)]) (st' := [.int 1]) rfl ?_
      refine z_goto X dr_X6_isPreferred_23 (tgt := 27) (by decide) ?_
      exact z_zret X rfl rfl dr_X6_isPreferred_27 (Nat.le_of_ble_eq_true rfl) (Nat.le_of_ble_eq_true rfl) ⟨(1 : Int32), (by decide), rfl, rfl⟩

theorem dr_X6_offer_2 : decode cX6_offer 2 = .ok (.getfield 69, 3) := by decide +kernel
theorem dr_X6_offer_5 : decode cX6_offer 5 = .ok (.lcmp, 1) := by decide +kernel
theorem dr_X6_offer_6 : decode cX6_offer 6 = .ok (.ifCond .gt 19, 3) := by decide +kernel
theorem dr_X6_offer_25 : decode cX6_offer 25 = .ok (.return_, 1) := by decide +kernel
theorem dr_X6_offer_11 : decode cX6_offer 11 = .ok (.getfield 69, 3) := by decide +kernel
theorem dr_X6_offer_14 : decode cX6_offer 14 = .ok (.lcmp, 1) := by decide +kernel
theorem dr_X6_offer_15 : decode cX6_offer 15 = .ok (.ifCond .ne 11, 3) := by decide +kernel
theorem dr_X6_offer_28 : decode cX6_offer 28 = .ok (.putfield 69, 3) := by decide +kernel
theorem dr_X6_offer_33 : decode cX6_offer 33 = .ok (.getfield 59, 3) := by decide +kernel
theorem dr_X6_offer_36 : decode cX6_offer 36 = .ok (.putfield 62, 3) := by decide +kernel
theorem dr_X6_offer_43 : decode cX6_offer 43 = .ok (.getfield 40, 3) := by decide +kernel
theorem dr_X6_offer_46 : decode cX6_offer 46 = .ok (.if_icmp .ge 21, 3) := by decide +kernel
theorem dr_X6_offer_67 : decode cX6_offer 67 = .ok (.return_, 1) := by decide +kernel
theorem dr_X6_offer_50 : decode cX6_offer 50 = .ok (.getfield 37, 3) := by decide +kernel
theorem dr_X6_offer_55 : decode cX6_offer 55 = .ok (.getfield 34, 3) := by decide +kernel
theorem dr_X6_offer_59 : decode cX6_offer 59 = .ok (.iaload, 1) := by decide +kernel
theorem dr_X6_offer_60 : decode cX6_offer 60 = .ok (.iastore, 1) := by decide +kernel
theorem dr_X6_offer_64 : decode cX6_offer 64 = .ok (.goto (-23), 3) := by decide +kernel
theorem dr_X6_offer_19 : decode cX6_offer 19 = .ok (.invokevirtual 116, 3) := by decide +kernel
theorem dr_X6_offer_22 : decode cX6_offer 22 = .ok (.ifCond .ne 4, 3) := by decide +kernel
abbrev br_X6_offer_0_2 : ZB := [(.lload_n 1, .null), (.aload_n 0, .null)]
theorem kr_X6_offer_0_2 : zchk cX6_offer br_X6_offer_0_2 0 = true ∧ zpc br_X6_offer_0_2 0 = 2 := ⟨by decide +kernel, rfl⟩
abbrev br_X6_offer_9_11 : ZB := [(.lload_n 1, .null), (.aload_n 0, .null)]
theorem kr_X6_offer_9_11 : zchk cX6_offer br_X6_offer_9_11 9 = true ∧ zpc br_X6_offer_9_11 9 = 11 := ⟨by decide +kernel, rfl⟩
abbrev br_X6_offer_26_28 : ZB := [(.aload_n 0, .null), (.lload_n 1, .null)]
theorem kr_X6_offer_26_28 : zchk cX6_offer br_X6_offer_26_28 26 = true ∧ zpc br_X6_offer_26_28 26 = 28 := ⟨by decide +kernel, rfl⟩
abbrev br_X6_offer_31_33 : ZB := [(.aload_n 0, .null), (.aload_n 0, .null)]
theorem kr_X6_offer_31_33 : zchk cX6_offer br_X6_offer_31_33 31 = true ∧ zpc br_X6_offer_31_33 31 = 33 := ⟨by decide +kernel, rfl⟩
abbrev br_X6_offer_39_41 : ZB := [(.iconst 0, .int 0), (.istore_n 3, .null)]
theorem kr_X6_offer_39_41 : zchk cX6_offer br_X6_offer_39_41 39 = true ∧ zpc br_X6_offer_39_41 39 = 41 := ⟨by decide +kernel, rfl⟩
abbrev br_X6_offer_41_43 : ZB := [(.iload_n 3, .null), (.aload_n 0, .null)]
theorem kr_X6_offer_41_43 : zchk cX6_offer br_X6_offer_41_43 41 = true ∧ zpc br_X6_offer_41_43 41 = 43 := ⟨by decide +kernel, rfl⟩
abbrev br_X6_offer_49_50 : ZB := [(.aload_n 0, .null)]
theorem kr_X6_offer_49_50 : zchk cX6_offer br_X6_offer_49_50 49 = true ∧ zpc br_X6_offer_49_50 49 = 50 := ⟨by decide +kernel, rfl⟩
abbrev br_X6_offer_53_55 : ZB := [(.iload_n 3, .null), (.aload_n 0, .null)]
theorem kr_X6_offer_53_55 : zchk cX6_offer br_X6_offer_53_55 53 = true ∧ zpc br_X6_offer_53_55 53 = 55 := ⟨by decide +kernel, rfl⟩
abbrev br_X6_offer_58_59 : ZB := [(.iload_n 3, .null)]
theorem kr_X6_offer_58_59 : zchk cX6_offer br_X6_offer_58_59 58 = true ∧ zpc br_X6_offer_58_59 58 = 59 := ⟨by decide +kernel, rfl⟩
abbrev br_X6_offer_61_64 : ZB := [(.iinc 3 1, .int 1)]
theorem kr_X6_offer_61_64 : zchk cX6_offer br_X6_offer_61_64 61 = true ∧ zpc br_X6_offer_61_64 61 = 64 := ⟨by decide +kernel, rfl⟩
abbrev br_X6_offer_18_19 : ZB := [(.aload_n 0, .null)]
theorem kr_X6_offer_18_19 : zchk cX6_offer br_X6_offer_18_19 18 = true ∧ zpc br_X6_offer_18_19 18 = 19 := ⟨by decide +kernel, rfl⟩
set_option maxHeartbeats 4000000 in
set_option maxRecDepth 100000 in
theorem cr_X6_offerS (l : Launch) (G : KG) (se : Nat) (hn : Int32) (np : Int32) (afr : Nat) (aup : Nat) (axx : Nat) (ayy : Nat) (asx : Nat) (asy : Nat) (asz : Nat) (apu : Nat) (abe : Nat) (oz : Int32) (fo : Int32) (lc : Int64) (fpu : Nat → Int32) (fbe : Nat → Int32) (cq : Int64) (hni : Int) (hhn : hn.toInt = hni) (hn0 : 0 ≤ hni ∧ hni ≤ 16) : Ct l G yX6_offer cX6_offer 4 none { frames := 1, cells := 0, slots := 0, locals := 21 } [.ref se, .long cq] [(se, ob 6 [.int hn, .int np, .int 0, .ref afr, .ref aup, .ref axx, .ref ayy, .ref asx, .ref asy, .ref asz, .ref apu, .ref abe, .int oz, .int fo, .long lc]), (apu, aI G 16 fpu), (abe, aI G 16 fbe)] (fun r w1 => ∃ (fo2 : Int32), ∃ (lc2 : Int64), ∃ (fbe2 : Nat → Int32), (lc2.toInt = if cq.toInt < lc.toInt then cq.toInt else lc.toInt) ∧ r = none ∧ w1 = [(se, ob 6 [.int hn, .int np, .int 0, .ref afr, .ref aup, .ref axx, .ref ayy, .ref asx, .ref asy, .ref asz, .ref apu, .ref abe, .int oz, .int fo2, .long lc2]), (apu, aI G 16 fpu), (abe, aI G 16 fbe2)]) := by
  refine ct_of [(0, .ref se), (1, .long cq)] (by decide) (Nat.le_of_ble_eq_true rfl) rfl ?_
  intro p0 e0 s0 m0 args0 below0 meth0 c0 A X
  refine z_run X br_X6_offer_0_2 kr_X6_offer_0_2 (lv' := [(0, .ref se), (1, .long cq)]) (st' := [.ref se, .long cq]) rfl ?_
  refine z_get X fl_6_69 dr_X6_offer_2 0 rfl (v := .long lc) rfl ?_
  refine zl_gt X dr_X6_offer_5 dr_X6_offer_6 (tgt := 25) (by decide) (a := cq.toInt) (b := lc.toInt) rfl rfl (fun c5_1 => ?_) (fun c5_1 => ?_)
  ·
    exact z_vret X rfl dr_X6_offer_25 (Nat.le_of_ble_eq_true rfl) (Nat.le_of_ble_eq_true rfl) ⟨fo, lc, fbe, (by first | (rw [if_pos (by omega)]; done) | (rw [if_neg (by omega)]; done) | (rw [if_neg (by omega)]; omega)), rfl, rfl⟩
  ·
    refine z_run X br_X6_offer_9_11 kr_X6_offer_9_11 (lv' := [(0, .ref se), (1, .long cq)]) (st' := [.ref se, .long cq]) rfl ?_
    refine z_get X fl_6_69 dr_X6_offer_11 0 rfl (v := .long lc) rfl ?_
    refine zl_ne X dr_X6_offer_14 dr_X6_offer_15 (tgt := 26) (by decide) (a := cq.toInt) (b := lc.toInt) rfl rfl (fun c14_2 => ?_) (fun c14_2 => ?_)
    ·
      refine z_run X br_X6_offer_26_28 kr_X6_offer_26_28 (lv' := [(0, .ref se), (1, .long cq)]) (st' := [.long cq, .ref se]) rfl ?_
      refine z_put X fl_6_69 dr_X6_offer_28 0 rfl (ty := .long) (T := TX6) (N := 15) rfl (Or.inl rfl) (by decide +kernel) rfl (by rfl) (Nat.le_of_ble_eq_true rfl) (ws' := [(se, ob 6 [.int hn, .int np, .int 0, .ref afr, .ref aup, .ref axx, .ref ayy, .ref asx, .ref asy, .ref asz, .ref apu, .ref abe, .int oz, .int fo, .long cq]), (apu, aI G 16 fpu), (abe, aI G 16 fbe)]) rfl ?_
      refine z_run X br_X6_offer_31_33 kr_X6_offer_31_33 (lv' := [(0, .ref se), (1, .long cq)]) (st' := [.ref se, .ref se]) rfl ?_
      refine z_get X fl_6_59 dr_X6_offer_33 0 rfl (v := .int oz) rfl ?_
      refine z_put X fl_6_62 dr_X6_offer_36 0 rfl (ty := .int) (T := TX6) (N := 15) rfl (Or.inl rfl) (by decide +kernel) rfl (by rfl) (Nat.le_of_ble_eq_true rfl) (ws' := [(se, ob 6 [.int hn, .int np, .int 0, .ref afr, .ref aup, .ref axx, .ref ayy, .ref asx, .ref asy, .ref asz, .ref apu, .ref abe, .int oz, .int oz, .long cq]), (apu, aI G 16 fpu), (abe, aI G 16 fbe)]) rfl ?_
      refine z_run X br_X6_offer_39_41 kr_X6_offer_39_41 (lv' := [(3, .int 0), (0, .ref se), (1, .long cq)]) (st' := []) rfl ?_
      refine zloop (σ := Int32 × (Nat → Int32)) (fun z => [(3, .int z.1), (0, .ref se), (1, .long cq)]) (fun z => []) (fun z => [(se, ob 6 [.int hn, .int np, .int 0, .ref afr, .ref aup, .ref axx, .ref ayy, .ref asx, .ref asy, .ref asz, .ref apu, .ref abe, .int oz, .int oz, .long cq]), (apu, aI G 16 fpu), (abe, aI G 16 z.2)]) (fun z => (0 ≤ z.1.toInt ∧ z.1.toInt ≤ hni)) (fun z => (hni - z.1.toInt).toNat) (0, fbe) ?_ ?_
      ·
        rintro ⟨i_, gb⟩ hi ih41
        dsimp only at *
        refine z_run X br_X6_offer_41_43 kr_X6_offer_41_43 (lv' := [(3, .int i_), (0, .ref se), (1, .long cq)]) (st' := [.ref se, .int i_]) rfl ?_
        refine z_get X fl_6_40 dr_X6_offer_43 0 rfl (v := .int hn) rfl ?_
        refine zc_ge X dr_X6_offer_46 (tgt := 67) (by decide) (a := i_.toInt) (b := hni) rfl hhn (fun c46_3 => ?_) (fun c46_3 => ?_)
        ·
          exact z_vret X rfl dr_X6_offer_67 (Nat.le_of_ble_eq_true rfl) (Nat.le_of_ble_eq_true rfl) ⟨oz, cq, gb, (by first | (rw [if_pos (by omega)]; done) | (rw [if_neg (by omega)]; done) | (rw [if_neg (by omega)]; omega)), rfl, rfl⟩
        ·
          refine z_run X br_X6_offer_49_50 kr_X6_offer_49_50 (lv' := [(3, .int i_), (0, .ref se), (1, .long cq)]) (st' := [.ref se]) rfl ?_
          refine z_get X fl_6_37 dr_X6_offer_50 0 rfl (v := .ref abe) rfl ?_
          refine z_run X br_X6_offer_53_55 kr_X6_offer_53_55 (lv' := [(3, .int i_), (0, .ref se), (1, .long cq)]) (st' := [.ref se, .int i_, .ref abe]) rfl ?_
          refine z_get X fl_6_34 dr_X6_offer_55 0 rfl (v := .ref apu) rfl ?_
          refine z_run X br_X6_offer_58_59 kr_X6_offer_58_59 (lv' := [(3, .int i_), (0, .ref se), (1, .long cq)]) (st' := [.int i_, .ref apu, .int i_, .ref abe]) rfl ?_
          refine z_iald X dr_X6_offer_59 1 rfl (vin rfl (by omega) (by omega)) (v := (fpu i_.toNatClampNeg)) rfl ?_
          refine z_iast X dr_X6_offer_60 2 rfl (vin rfl (by omega) (by omega)) (ws' := [(se, ob 6 [.int hn, .int np, .int 0, .ref afr, .ref aup, .ref axx, .ref ayy, .ref asx, .ref asy, .ref asz, .ref apu, .ref abe, .int oz, .int oz, .long cq]), (apu, aI G 16 fpu), (abe, aI G 16 (upd gb i_.toNatClampNeg (fpu i_.toNatClampNeg)))]) rfl ?_
          refine z_run X br_X6_offer_61_64 kr_X6_offer_61_64 (lv' := [(3, .int (i_ + 1)), (0, .ref se), (1, .long cq)]) (st' := []) rfl ?_
          refine z_goto X dr_X6_offer_64 (tgt := 41) (by decide) ?_
          exact ih41 ((i_ + 1), (upd gb i_.toNatClampNeg (fpu i_.toNatClampNeg))) (by (try dsimp only); have e : (i_ + 1).toInt = i_.toInt + 1 := tI_add rfl (show (1 : Int32).toInt = 1 from by decide) (by omega); omega) (by (try dsimp only); have e : (i_ + 1).toInt = i_.toInt + 1 := tI_add rfl (show (1 : Int32).toInt = 1 from by decide) (by omega); omega)
      · exact (by (try dsimp only); have e0 : (0 : Int32).toInt = 0 := (by decide); omega)
    ·
      refine z_run X br_X6_offer_18_19 kr_X6_offer_18_19 (lv' := [(0, .ref se), (1, .long cq)]) (st' := [.ref se]) rfl ?_
      refine z_callV X k_6_116 (cr_X6_isPreferredS l G se hn np afr aup axx ayy asx asy asz apu abe oz fo lc fpu fbe hni hhn (by omega)) dr_X6_offer_19 0 rfl rfl rfl ⟨Nat.le_of_ble_eq_true rfl, Nat.le_of_ble_eq_true rfl⟩ ⟨Nat.le_of_ble_eq_true rfl, Nat.le_of_ble_eq_true rfl⟩ rfl (rest := []) (As := []) rfl (Nat.le_of_ble_eq_true rfl) [0, 1, 2] [] rfl (by decide) (wr := []) rfl (by decide) (by decide) ?_
      rintro _ _ ⟨rz_4, f19_5, rfl, rfl⟩
      refine Z.at (pc' := 22) (st' := [.int rz_4]) (ws' := [(se, ob 6 [.int hn, .int np, .int 0, .ref afr, .ref aup, .ref axx, .ref ayy, .ref asx, .ref asy, .ref asz, .ref apu, .ref abe, .int oz, .int fo, .long lc]), (apu, aI G 16 fpu), (abe, aI G 16 fbe)]) (kc' := 0) (ks' := 0) rfl rfl rfl rfl rfl ?_
      refine zi_ne X dr_X6_offer_22 (tgt := 26) (by decide) (a := rz_4.toInt) rfl (fun c22_6 => ?_) (fun c22_6 => ?_)
      ·
        refine z_run X br_X6_offer_26_28 kr_X6_offer_26_28 (lv' := [(0, .ref se), (1, .long cq)]) (st' := [.long cq, .ref se]) rfl ?_
        refine z_put X fl_6_69 dr_X6_offer_28 0 rfl (ty := .long) (T := TX6) (N := 15) rfl (Or.inl rfl) (by decide +kernel) rfl (by rfl) (Nat.le_of_ble_eq_true rfl) (ws' := [(se, ob 6 [.int hn, .int np, .int 0, .ref afr, .ref aup, .ref axx, .ref ayy, .ref asx, .ref asy, .ref asz, .ref apu, .ref abe, .int oz, .int fo, .long cq]), (apu, aI G 16 fpu), (abe, aI G 16 fbe)]) rfl ?_
        refine z_run X br_X6_offer_31_33 kr_X6_offer_31_33 (lv' := [(0, .ref se), (1, .long cq)]) (st' := [.ref se, .ref se]) rfl ?_
        refine z_get X fl_6_59 dr_X6_offer_33 0 rfl (v := .int oz) rfl ?_
        refine z_put X fl_6_62 dr_X6_offer_36 0 rfl (ty := .int) (T := TX6) (N := 15) rfl (Or.inl rfl) (by decide +kernel) rfl (by rfl) (Nat.le_of_ble_eq_true rfl) (ws' := [(se, ob 6 [.int hn, .int np, .int 0, .ref afr, .ref aup, .ref axx, .ref ayy, .ref asx, .ref asy, .ref asz, .ref apu, .ref abe, .int oz, .int oz, .long cq]), (apu, aI G 16 fpu), (abe, aI G 16 fbe)]) rfl ?_
        refine z_run X br_X6_offer_39_41 kr_X6_offer_39_41 (lv' := [(3, .int 0), (0, .ref se), (1, .long cq)]) (st' := []) rfl ?_
        refine zloop (σ := Int32 × (Nat → Int32)) (fun z => [(3, .int z.1), (0, .ref se), (1, .long cq)]) (fun z => []) (fun z => [(se, ob 6 [.int hn, .int np, .int 0, .ref afr, .ref aup, .ref axx, .ref ayy, .ref asx, .ref asy, .ref asz, .ref apu, .ref abe, .int oz, .int oz, .long cq]), (apu, aI G 16 fpu), (abe, aI G 16 z.2)]) (fun z => (0 ≤ z.1.toInt ∧ z.1.toInt ≤ hni)) (fun z => (hni - z.1.toInt).toNat) (0, fbe) ?_ ?_
        ·
          rintro ⟨i_, gb⟩ hi ih41
          dsimp only at *
          refine z_run X br_X6_offer_41_43 kr_X6_offer_41_43 (lv' := [(3, .int i_), (0, .ref se), (1, .long cq)]) (st' := [.ref se, .int i_]) rfl ?_
          refine z_get X fl_6_40 dr_X6_offer_43 0 rfl (v := .int hn) rfl ?_
          refine zc_ge X dr_X6_offer_46 (tgt := 67) (by decide) (a := i_.toInt) (b := hni) rfl hhn (fun c46_7 => ?_) (fun c46_7 => ?_)
          ·
            exact z_vret X rfl dr_X6_offer_67 (Nat.le_of_ble_eq_true rfl) (Nat.le_of_ble_eq_true rfl) ⟨oz, cq, gb, (by first | (rw [if_pos (by omega)]; done) | (rw [if_neg (by omega)]; done) | (rw [if_neg (by omega)]; omega)), rfl, rfl⟩
          ·
            refine z_run X br_X6_offer_49_50 kr_X6_offer_49_50 (lv' := [(3, .int i_), (0, .ref se), (1, .long cq)]) (st' := [.ref se]) rfl ?_
            refine z_get X fl_6_37 dr_X6_offer_50 0 rfl (v := .ref abe) rfl ?_
            refine z_run X br_X6_offer_53_55 kr_X6_offer_53_55 (lv' := [(3, .int i_), (0, .ref se), (1, .long cq)]) (st' := [.ref se, .int i_, .ref abe]) rfl ?_
            refine z_get X fl_6_34 dr_X6_offer_55 0 rfl (v := .ref apu) rfl ?_
            refine z_run X br_X6_offer_58_59 kr_X6_offer_58_59 (lv' := [(3, .int i_), (0, .ref se), (1, .long cq)]) (st' := [.int i_, .ref apu, .int i_, .ref abe]) rfl ?_
            refine z_iald X dr_X6_offer_59 1 rfl (vin rfl (by omega) (by omega)) (v := (fpu i_.toNatClampNeg)) rfl ?_
            refine z_iast X dr_X6_offer_60 2 rfl (vin rfl (by omega) (by omega)) (ws' := [(se, ob 6 [.int hn, .int np, .int 0, .ref afr, .ref aup, .ref axx, .ref ayy, .ref asx, .ref asy, .ref asz, .ref apu, .ref abe, .int oz, .int oz, .long cq]), (apu, aI G 16 fpu), (abe, aI G 16 (upd gb i_.toNatClampNeg (fpu i_.toNatClampNeg)))]) rfl ?_
            refine z_run X br_X6_offer_61_64 kr_X6_offer_61_64 (lv' := [(3, .int (i_ + 1)), (0, .ref se), (1, .long cq)]) (st' := []) rfl ?_
            refine z_goto X dr_X6_offer_64 (tgt := 41) (by decide) ?_
            exact ih41 ((i_ + 1), (upd gb i_.toNatClampNeg (fpu i_.toNatClampNeg))) (by (try dsimp only); have e : (i_ + 1).toInt = i_.toInt + 1 := tI_add rfl (show (1 : Int32).toInt = 1 from by decide) (by omega); omega) (by (try dsimp only); have e : (i_ + 1).toInt = i_.toInt + 1 := tI_add rfl (show (1 : Int32).toInt = 1 from by decide) (by omega); omega)
        · exact (by (try dsimp only); have e0 : (0 : Int32).toInt = 0 := (by decide); omega)
      ·
        exact z_vret X rfl dr_X6_offer_25 (Nat.le_of_ble_eq_true rfl) (Nat.le_of_ble_eq_true rfl) ⟨fo, lc, fbe, (by first | (rw [if_pos (by omega)]; done) | (rw [if_neg (by omega)]; done) | (rw [if_neg (by omega)]; omega)), rfl, rfl⟩

theorem dr_X6_digLast_1 : decode cX6_digLast 1 = .ok (.invokevirtual 65, 3) := by decide +kernel
theorem dr_X6_digLast_11 : decode cX6_digLast 11 = .ok (.getfield 40, 3) := by decide +kernel
theorem dr_X6_digLast_14 : decode cX6_digLast 14 = .ok (.if_icmp .ge 133, 3) := by decide +kernel
theorem dr_X6_digLast_147 : decode cX6_digLast 147 = .ok (.return_, 1) := by decide +kernel
theorem dr_X6_digLast_20 : decode cX6_digLast 20 = .ok (.invokevirtual 88, 3) := by decide +kernel
theorem dr_X6_digLast_30 : decode cX6_digLast 30 = .ok (.invokevirtual 92, 3) := by decide +kernel
theorem dr_X6_digLast_36 : decode cX6_digLast 36 = .ok (.ldc2_w 96, 3) := by decide +kernel
theorem dr_X6_digLast_52 : decode cX6_digLast 52 = .ok (.getfield 31, 3) := by decide +kernel
theorem dr_X6_digLast_57 : decode cX6_digLast 57 = .ok (.laload, 1) := by decide +kernel
theorem dr_X6_digLast_65 : decode cX6_digLast 65 = .ok (.lcmp, 1) := by decide +kernel
theorem dr_X6_digLast_66 : decode cX6_digLast 66 = .ok (.ifCond .eq 75, 3) := by decide +kernel
theorem dr_X6_digLast_144 : decode cX6_digLast 144 = .ok (.goto (-136), 3) := by decide +kernel
theorem dr_X6_digLast_72 : decode cX6_digLast 72 = .ok (.getfield 69, 3) := by decide +kernel
theorem dr_X6_digLast_75 : decode cX6_digLast 75 = .ok (.lcmp, 1) := by decide +kernel
theorem dr_X6_digLast_76 : decode cX6_digLast 76 = .ok (.ifCond .gt 65, 3) := by decide +kernel
theorem dr_X6_digLast_80 : decode cX6_digLast 80 = .ok (.getfield 34, 3) := by decide +kernel
theorem dr_X6_digLast_88 : decode cX6_digLast 88 = .ok (.iastore, 1) := by decide +kernel
theorem dr_X6_digLast_91 : decode cX6_digLast 91 = .ok (.getfield 59, 3) := by decide +kernel
theorem dr_X6_digLast_95 : decode cX6_digLast 95 = .ok (.getfield 34, 3) := by decide +kernel
theorem dr_X6_digLast_100 : decode cX6_digLast 100 = .ok (.iaload, 1) := by decide +kernel
theorem dr_X6_digLast_101 : decode cX6_digLast 101 = .ok (.invokestatic 98, 3) := by decide +kernel
theorem dr_X6_digLast_105 : decode cX6_digLast 105 = .ok (.putfield 59, 3) := by decide +kernel
theorem dr_X6_digLast_111 : decode cX6_digLast 111 = .ok (.invokevirtual 84, 3) := by decide +kernel
theorem dr_X6_digLast_116 : decode cX6_digLast 116 = .ok (.getfield 59, 3) := by decide +kernel
theorem dr_X6_digLast_120 : decode cX6_digLast 120 = .ok (.getfield 34, 3) := by decide +kernel
theorem dr_X6_digLast_125 : decode cX6_digLast 125 = .ok (.iaload, 1) := by decide +kernel
theorem dr_X6_digLast_126 : decode cX6_digLast 126 = .ok (.invokestatic 98, 3) := by decide +kernel
theorem dr_X6_digLast_130 : decode cX6_digLast 130 = .ok (.putfield 59, 3) := by decide +kernel
theorem dr_X6_digLast_134 : decode cX6_digLast 134 = .ok (.getfield 34, 3) := by decide +kernel
theorem dr_X6_digLast_140 : decode cX6_digLast 140 = .ok (.iastore, 1) := by decide +kernel
abbrev br_X6_digLast_0_1 : ZB := [(.aload_n 0, .null)]
theorem kr_X6_digLast_0_1 : zchk cX6_digLast br_X6_digLast_0_1 0 = true ∧ zpc br_X6_digLast_0_1 0 = 1 := ⟨by decide +kernel, rfl⟩
abbrev br_X6_digLast_4_8 : ZB := [(.lstore_n 2, .null), (.iload_n 1, .null), (.istore 4, .null)]
theorem kr_X6_digLast_4_8 : zchk cX6_digLast br_X6_digLast_4_8 4 = true ∧ zpc br_X6_digLast_4_8 4 = 8 := ⟨by decide +kernel, rfl⟩
abbrev br_X6_digLast_8_11 : ZB := [(.iload 4, .null), (.aload_n 0, .null)]
theorem kr_X6_digLast_8_11 : zchk cX6_digLast br_X6_digLast_8_11 8 = true ∧ zpc br_X6_digLast_8_11 8 = 11 := ⟨by decide +kernel, rfl⟩
abbrev br_X6_digLast_17_20 : ZB := [(.aload_n 0, .null), (.iload 4, .null)]
theorem kr_X6_digLast_17_20 : zchk cX6_digLast br_X6_digLast_17_20 17 = true ∧ zpc br_X6_digLast_17_20 17 = 20 := ⟨by decide +kernel, rfl⟩
abbrev br_X6_digLast_23_30 : ZB := [(.lstore 5, .null), (.aload_n 0, .null), (.lload 5, .null), (.iload 4, .null)]
theorem kr_X6_digLast_23_30 : zchk cX6_digLast br_X6_digLast_23_30 23 = true ∧ zpc br_X6_digLast_23_30 23 = 30 := ⟨by decide +kernel, rfl⟩
abbrev br_X6_digLast_33_36 : ZB := [(.lstore 7, .null), (.lload_n 2, .null)]
theorem kr_X6_digLast_33_36 : zchk cX6_digLast br_X6_digLast_33_36 33 = true ∧ zpc br_X6_digLast_33_36 33 = 36 := ⟨by decide +kernel, rfl⟩
abbrev br_X6_digLast_39_52 : ZB := [(.lload 7, .null), (.lmul, .null), (.lload 5, .null), (.lmul, .null), (.ladd, .null), (.lload 7, .null), (.lload 7, .null), (.lmul, .null), (.aload_n 0, .null)]
theorem kr_X6_digLast_39_52 : zchk cX6_digLast br_X6_digLast_39_52 39 = true ∧ zpc br_X6_digLast_39_52 39 = 52 := ⟨by decide +kernel, rfl⟩
abbrev br_X6_digLast_55_57 : ZB := [(.iload 4, .null)]
theorem kr_X6_digLast_55_57 : zchk cX6_digLast br_X6_digLast_55_57 55 = true ∧ zpc br_X6_digLast_55_57 55 = 57 := ⟨by decide +kernel, rfl⟩
abbrev br_X6_digLast_58_65 : ZB := [(.lmul, .null), (.ladd, .null), (.lstore 9, .null), (.lload 7, .null), (.lconst 0, .long 0)]
theorem kr_X6_digLast_58_65 : zchk cX6_digLast br_X6_digLast_58_65 58 = true ∧ zpc br_X6_digLast_58_65 58 = 65 := ⟨by decide +kernel, rfl⟩
abbrev br_X6_digLast_141_144 : ZB := [(.iinc 4 1, .int 1)]
theorem kr_X6_digLast_141_144 : zchk cX6_digLast br_X6_digLast_141_144 141 = true ∧ zpc br_X6_digLast_141_144 141 = 144 := ⟨by decide +kernel, rfl⟩
abbrev br_X6_digLast_69_72 : ZB := [(.lload 9, .null), (.aload_n 0, .null)]
theorem kr_X6_digLast_69_72 : zchk cX6_digLast br_X6_digLast_69_72 69 = true ∧ zpc br_X6_digLast_69_72 69 = 72 := ⟨by decide +kernel, rfl⟩
abbrev br_X6_digLast_79_80 : ZB := [(.aload_n 0, .null)]
theorem kr_X6_digLast_79_80 : zchk cX6_digLast br_X6_digLast_79_80 79 = true ∧ zpc br_X6_digLast_79_80 79 = 80 := ⟨by decide +kernel, rfl⟩
abbrev br_X6_digLast_83_88 : ZB := [(.iload 4, .null), (.lload 7, .null), (.l2i, .null)]
theorem kr_X6_digLast_83_88 : zchk cX6_digLast br_X6_digLast_83_88 83 = true ∧ zpc br_X6_digLast_83_88 83 = 88 := ⟨by decide +kernel, rfl⟩
abbrev br_X6_digLast_89_91 : ZB := [(.aload_n 0, .null), (.dup, .null)]
theorem kr_X6_digLast_89_91 : zchk cX6_digLast br_X6_digLast_89_91 89 = true ∧ zpc br_X6_digLast_89_91 89 = 91 := ⟨by decide +kernel, rfl⟩
abbrev br_X6_digLast_94_95 : ZB := [(.aload_n 0, .null)]
theorem kr_X6_digLast_94_95 : zchk cX6_digLast br_X6_digLast_94_95 94 = true ∧ zpc br_X6_digLast_94_95 94 = 95 := ⟨by decide +kernel, rfl⟩
abbrev br_X6_digLast_98_100 : ZB := [(.iload 4, .null)]
theorem kr_X6_digLast_98_100 : zchk cX6_digLast br_X6_digLast_98_100 98 = true ∧ zpc br_X6_digLast_98_100 98 = 100 := ⟨by decide +kernel, rfl⟩
abbrev br_X6_digLast_104_105 : ZB := [(.iadd, .null)]
theorem kr_X6_digLast_104_105 : zchk cX6_digLast br_X6_digLast_104_105 104 = true ∧ zpc br_X6_digLast_104_105 104 = 105 := ⟨by decide +kernel, rfl⟩
abbrev br_X6_digLast_108_111 : ZB := [(.aload_n 0, .null), (.lload 9, .null)]
theorem kr_X6_digLast_108_111 : zchk cX6_digLast br_X6_digLast_108_111 108 = true ∧ zpc br_X6_digLast_108_111 108 = 111 := ⟨by decide +kernel, rfl⟩
abbrev br_X6_digLast_114_116 : ZB := [(.aload_n 0, .null), (.dup, .null)]
theorem kr_X6_digLast_114_116 : zchk cX6_digLast br_X6_digLast_114_116 114 = true ∧ zpc br_X6_digLast_114_116 114 = 116 := ⟨by decide +kernel, rfl⟩
abbrev br_X6_digLast_119_120 : ZB := [(.aload_n 0, .null)]
theorem kr_X6_digLast_119_120 : zchk cX6_digLast br_X6_digLast_119_120 119 = true ∧ zpc br_X6_digLast_119_120 119 = 120 := ⟨by decide +kernel, rfl⟩
abbrev br_X6_digLast_123_125 : ZB := [(.iload 4, .null)]
theorem kr_X6_digLast_123_125 : zchk cX6_digLast br_X6_digLast_123_125 123 = true ∧ zpc br_X6_digLast_123_125 123 = 125 := ⟨by decide +kernel, rfl⟩
abbrev br_X6_digLast_129_130 : ZB := [(.isub, .null)]
theorem kr_X6_digLast_129_130 : zchk cX6_digLast br_X6_digLast_129_130 129 = true ∧ zpc br_X6_digLast_129_130 129 = 130 := ⟨by decide +kernel, rfl⟩
abbrev br_X6_digLast_133_134 : ZB := [(.aload_n 0, .null)]
theorem kr_X6_digLast_133_134 : zchk cX6_digLast br_X6_digLast_133_134 133 = true ∧ zpc br_X6_digLast_133_134 133 = 134 := ⟨by decide +kernel, rfl⟩
abbrev br_X6_digLast_137_140 : ZB := [(.iload 4, .null), (.iconst 0, .int 0)]
theorem kr_X6_digLast_137_140 : zchk cX6_digLast br_X6_digLast_137_140 137 = true ∧ zpc br_X6_digLast_137_140 137 = 140 := ⟨by decide +kernel, rfl⟩
set_option maxHeartbeats 4000000 in
set_option maxRecDepth 100000 in
theorem cr_X6_digLastS (l : Launch) (G : KG) (se : Nat) (hn : Int32) (np : Int32) (afr : Nat) (aup : Nat) (axx : Nat) (ayy : Nat) (asx : Nat) (asy : Nat) (asz : Nat) (apu : Nat) (abe : Nat) (oz : Int32) (fo : Int32) (lc : Int64) (ffr : Nat → Int32) (fup : Nat → Int32) (fxx : Nat → Int64) (fyy : Nat → Int64) (fsx : Nat → Int64) (fsy : Nat → Int64) (fsz : Nat → Int64) (fpu : Nat → Int32) (fbe : Nat → Int32) (fiq : Int32) (hni : Int) (npi : Int) (fii : Int) (hhn : hn.toInt = hni) (hnp : np.toInt = npi) (hfiq : fiq.toInt = fii) (hn0 : 0 ≤ hni ∧ hni ≤ 16) (np0 : 0 ≤ npi ∧ npi ≤ 6) (hx : bdd 98000000 npi.toNat fxx) (hy : bdd 98000000 npi.toNat fyy) (hst : ∀ j, j < hni.toNat → bdd 10000 npi.toNat (at16 fsx j) ∧ bdd 10000 npi.toNat (at16 fsy j) ∧ fsz j = cs (at16 fsx j) (at16 fsy j) npi.toNat) (hlh : ∀ j, j < hni.toNat → (-200 ≤ (ffr j).toInt ∧ (ffr j).toInt ≤ 0) ∧ 0 ≤ (fup j).toInt ∧ (fup j).toInt ≤ 200) (hm : lc.toInt ≤ (cs fxx fyy npi.toNat).toInt) (hf0 : 0 ≤ fii ∧ fii ≤ hni) (hp0 : ∀ j : Nat, fii ≤ (j : Int) → j < hni.toNat → fpu j = 0) : Ct l G yX6_digLast cX6_digLast 11 none { frames := 2, cells := 0, slots := 0, locals := 54 } [.ref se, .int fiq] [(se, ob 6 [.int hn, .int np, .int 0, .ref afr, .ref aup, .ref axx, .ref ayy, .ref asx, .ref asy, .ref asz, .ref apu, .ref abe, .int oz, .int fo, .long lc]), (afr, aI G 16 ffr), (aup, aI G 16 fup), (axx, aJ G 6 fxx), (ayy, aJ G 6 fyy), (asx, aJ G 96 fsx), (asy, aJ G 96 fsy), (asz, aJ G 16 fsz), (apu, aI G 16 fpu), (abe, aI G 16 fbe)] (fun r w1 => ∃ (fpu2 : Nat → Int32), ∃ (fbe2 : Nat → Int32), ∃ (oz2 : Int32), ∃ (fo2 : Int32), ∃ (lc2 : Int64), (∀ j, j < hni.toNat → fpu2 j = fpu j) ∧ (LW (CC npi.toNat) lc.toInt lc2.toInt (Nz (stC npi.toNat fsx fsy) (fun j => (ffr j).toInt) (fun j => (fup j).toInt) hni.toNat fii.toNat 1 (trn npi.toNat fxx, trn npi.toNat fyy))) ∧ r = none ∧ w1 = [(se, ob 6 [.int hn, .int np, .int 0, .ref afr, .ref aup, .ref axx, .ref ayy, .ref asx, .ref asy, .ref asz, .ref apu, .ref abe, .int oz2, .int fo2, .long lc2]), (afr, aI G 16 ffr), (aup, aI G 16 fup), (axx, aJ G 6 fxx), (ayy, aJ G 6 fyy), (asx, aJ G 96 fsx), (asy, aJ G 96 fsy), (asz, aJ G 16 fsz), (apu, aI G 16 fpu2), (abe, aI G 16 fbe2)]) := by
  refine ct_of [(0, .ref se), (1, .int fiq)] (by decide) (Nat.le_of_ble_eq_true rfl) rfl ?_
  intro p0 e0 s0 m0 args0 below0 meth0 c0 A X
  refine z_run X br_X6_digLast_0_1 kr_X6_digLast_0_1 (lv' := [(0, .ref se), (1, .int fiq)]) (st' := [.ref se]) rfl ?_
  refine z_callV X k_6_65 (cr_X6_costNowS l G se hn np afr aup axx ayy asx asy asz apu abe oz fo lc fxx fyy npi hnp (by omega)) dr_X6_digLast_1 0 rfl rfl rfl ⟨Nat.le_of_ble_eq_true rfl, Nat.le_of_ble_eq_true rfl⟩ ⟨Nat.le_of_ble_eq_true rfl, Nat.le_of_ble_eq_true rfl⟩ rfl (rest := []) (As := []) rfl (Nat.le_of_ble_eq_true rfl) [0, 3, 4] [1, 2, 5, 6, 7, 8, 9] rfl (by decide) (wr := [(afr, aI G 16 ffr), (aup, aI G 16 fup), (asx, aJ G 96 fsx), (asy, aJ G 96 fsy), (asz, aJ G 16 fsz), (apu, aI G 16 fpu), (abe, aI G 16 fbe)]) rfl (by decide) (by decide) ?_
  rintro _ _ ⟨rz_1, f1_2, rfl, rfl⟩
  refine Z.at (pc' := 4) (st' := [.long rz_1]) (ws' := [(afr, aI G 16 ffr), (aup, aI G 16 fup), (asx, aJ G 96 fsx), (asy, aJ G 96 fsy), (asz, aJ G 16 fsz), (apu, aI G 16 fpu), (abe, aI G 16 fbe), (se, ob 6 [.int hn, .int np, .int 0, .ref afr, .ref aup, .ref axx, .ref ayy, .ref asx, .ref asy, .ref asz, .ref apu, .ref abe, .int oz, .int fo, .long lc]), (axx, aJ G 6 fxx), (ayy, aJ G 6 fyy)]) (kc' := 0) (ks' := 0) rfl rfl rfl rfl rfl ?_
  refine z_run X br_X6_digLast_4_8 kr_X6_digLast_4_8 (lv' := [(4, .int fiq), (2, .long rz_1), (0, .ref se), (1, .int fiq)]) (st' := []) rfl ?_
  refine zloop (σ := Int32 × (Nat → Int32) × (Nat → Int32) × Int32 × Int32 × Int64) (fun z => [(4, .int z.1), (2, .long rz_1), (0, .ref se), (1, .int fiq)]) (fun z => []) (fun z => [(afr, aI G 16 ffr), (aup, aI G 16 fup), (asx, aJ G 96 fsx), (asy, aJ G 96 fsy), (asz, aJ G 16 fsz), (apu, aI G 16 z.2.1), (abe, aI G 16 z.2.2.1), (se, ob 6 [.int hn, .int np, .int 0, .ref afr, .ref aup, .ref axx, .ref ayy, .ref asx, .ref asy, .ref asz, .ref apu, .ref abe, .int z.2.2.2.1, .int z.2.2.2.2.1, .long z.2.2.2.2.2]), (axx, aJ G 6 fxx), (ayy, aJ G 6 fyy)]) (fun z => (fii ≤ z.1.toInt ∧ z.1.toInt ≤ hni) ∧ (∀ j, j < hni.toNat → z.2.1 j = fpu j) ∧ (LW (CC npi.toNat) lc.toInt z.2.2.2.2.2.toInt (NzD (stC npi.toNat fsx fsy) (fun j => (ffr j).toInt) (fun j => (fup j).toInt) fii.toNat z.1.toInt.toNat (trn npi.toNat fxx, trn npi.toNat fyy)))) (fun z => (hni - z.1.toInt).toNat) (fiq, fpu, fbe, oz, fo, lc) ?_ ?_
  ·
    rintro ⟨i_, gp, gb, oz_, fo_, lc_⟩ ⟨hi, hpu_, hW_⟩ ih8
    dsimp only at *
    refine z_run X br_X6_digLast_8_11 kr_X6_digLast_8_11 (lv' := [(4, .int i_), (2, .long rz_1), (0, .ref se), (1, .int fiq)]) (st' := [.ref se, .int i_]) rfl ?_
    refine z_get X fl_6_40 dr_X6_digLast_11 7 rfl (v := .int hn) rfl ?_
    refine zc_ge X dr_X6_digLast_14 (tgt := 147) (by decide) (a := i_.toInt) (b := hni) rfl hhn (fun c14_3 => ?_) (fun c14_3 => ?_)
    ·
      refine Z.sub (lv' := []) [] rfl [7, 0, 1, 8, 9, 2, 3, 4, 5, 6] (ws' := [(se, ob 6 [.int hn, .int np, .int 0, .ref afr, .ref aup, .ref axx, .ref ayy, .ref asx, .ref asy, .ref asz, .ref apu, .ref abe, .int oz_, .int fo_, .long lc_]), (afr, aI G 16 ffr), (aup, aI G 16 fup), (axx, aJ G 6 fxx), (ayy, aJ G 6 fyy), (asx, aJ G 96 fsx), (asy, aJ G 96 fsy), (asz, aJ G 16 fsz), (apu, aI G 16 gp), (abe, aI G 16 gb)]) rfl (by decide) ?_
      exact z_vret X rfl dr_X6_digLast_147 (Nat.le_of_ble_eq_true rfl) (Nat.le_of_ble_eq_true rfl) ⟨gp, gb, oz_, fo_, lc_, hpu_, (hW_.stopD (fun j hj => ⟨(hlh j hj).1.2, (hlh j hj).2.1⟩) (by clear hW_; omega)), rfl, rfl⟩
    ·
      refine z_run X br_X6_digLast_17_20 kr_X6_digLast_17_20 (lv' := [(4, .int i_), (2, .long rz_1), (0, .ref se), (1, .int fiq)]) (st' := [.int i_, .ref se]) rfl ?_
      refine z_callV X k_6_88 (cr_X6_slopeOfS l G se hn np afr aup axx ayy asx asy asz apu abe oz_ fo_ lc_ fxx fyy fsx fsy i_ npi i_.toInt hnp rfl (by omega) (by omega)) dr_X6_digLast_20 7 rfl rfl rfl ⟨Nat.le_of_ble_eq_true rfl, Nat.le_of_ble_eq_true rfl⟩ ⟨Nat.le_of_ble_eq_true rfl, Nat.le_of_ble_eq_true rfl⟩ rfl (rest := []) (As := [.int i_]) rfl (Nat.le_of_ble_eq_true rfl) [7, 8, 9, 2, 3] [0, 1, 4, 5, 6] rfl (by decide) (wr := [(afr, aI G 16 ffr), (aup, aI G 16 fup), (asz, aJ G 16 fsz), (apu, aI G 16 gp), (abe, aI G 16 gb)]) rfl (by decide) (by decide) ?_
      rintro _ _ ⟨rz_4, f20_5, rfl, rfl⟩
      refine Z.at (pc' := 23) (st' := [.long rz_4]) (ws' := [(afr, aI G 16 ffr), (aup, aI G 16 fup), (asz, aJ G 16 fsz), (apu, aI G 16 gp), (abe, aI G 16 gb), (se, ob 6 [.int hn, .int np, .int 0, .ref afr, .ref aup, .ref axx, .ref ayy, .ref asx, .ref asy, .ref asz, .ref apu, .ref abe, .int oz_, .int fo_, .long lc_]), (axx, aJ G 6 fxx), (ayy, aJ G 6 fyy), (asx, aJ G 96 fsx), (asy, aJ G 96 fsy)]) (kc' := 0) (ks' := 0) rfl rfl rfl rfl rfl ?_
      have hI_ : i_.toInt.toNat < hni.toNat := (by clear hW_; omega)
      obtain ⟨sr1_, sr2_, sr3_, sr4_⟩ := SR_at (n := npi.toNat) (x := fxx) (y := fyy) (u := at16 fsx i_.toInt.toNat) (w := at16 fsy i_.toInt.toNat) (by omega) hx hy (hst _ hI_).1 (hst _ hI_).2.1
      have hs_ : -12000000000000 ≤ rz_4.toInt ∧ rz_4.toInt ≤ 12000000000000 := (by rw [f20_5]; exact sr2_)
      have hz_ : 0 ≤ (fsz i_.toNatClampNeg).toInt ∧ (fsz i_.toNatClampNeg).toInt ≤ 1200000000 := (by rw [(show fsz i_.toNatClampNeg = _ from (hst _ hI_).2.2)]; exact sr3_)
      have hl_ := hlh _ hI_
      refine z_run X br_X6_digLast_23_30 kr_X6_digLast_23_30 (lv' := [(5, .long rz_4), (4, .int i_), (2, .long rz_1), (0, .ref se), (1, .int fiq)]) (st' := [.int i_, .long rz_4, .ref se]) rfl ?_
      refine z_callV X k_6_92 (cr_X6_footOfS l G se hn np afr aup axx ayy asx asy asz apu abe oz_ fo_ lc_ ffr fup fsz rz_4 i_ rz_4.toInt i_.toInt rfl rfl (by omega) hs_ hz_ hl_.1 hl_.2) dr_X6_digLast_30 5 rfl rfl rfl ⟨Nat.le_of_ble_eq_true rfl, Nat.le_of_ble_eq_true rfl⟩ ⟨Nat.le_of_ble_eq_true rfl, Nat.le_of_ble_eq_true rfl⟩ rfl (rest := []) (As := [.long rz_4, .int i_]) rfl (Nat.le_of_ble_eq_true rfl) [5, 0, 1, 2] [3, 4, 6, 7, 8, 9] rfl (by decide) (wr := [(apu, aI G 16 gp), (abe, aI G 16 gb), (axx, aJ G 6 fxx), (ayy, aJ G 6 fyy), (asx, aJ G 96 fsx), (asy, aJ G 96 fsy)]) rfl (by decide) (by decide) ?_
      rintro _ _ ⟨rz_6, f30_7, rfl, rfl⟩
      refine Z.at (pc' := 33) (st' := [.long rz_6]) (ws' := [(apu, aI G 16 gp), (abe, aI G 16 gb), (axx, aJ G 6 fxx), (ayy, aJ G 6 fyy), (asx, aJ G 96 fsx), (asy, aJ G 96 fsy), (se, ob 6 [.int hn, .int np, .int 0, .ref afr, .ref aup, .ref axx, .ref ayy, .ref asx, .ref asy, .ref asz, .ref apu, .ref abe, .int oz_, .int fo_, .long lc_]), (afr, aI G 16 ffr), (aup, aI G 16 fup), (asz, aJ G 16 fsz)]) (kc' := 0) (ks' := 0) rfl rfl rfl rfl rfl ?_
      refine z_run X br_X6_digLast_33_36 kr_X6_digLast_33_36 (lv' := [(7, .long rz_6), (5, .long rz_4), (4, .int i_), (2, .long rz_1), (0, .ref se), (1, .int fiq)]) (st' := [.long rz_1]) rfl ?_
      refine z_ldc2 X dr_X6_digLast_36 cn_6_96 ?_
      refine z_run X br_X6_digLast_39_52 kr_X6_digLast_39_52 (lv' := [(7, .long rz_6), (5, .long rz_4), (4, .int i_), (2, .long rz_1), (0, .ref se), (1, .int fiq)]) (st' := [.ref se, .long (rz_6 * rz_6), .long (rz_1 + (((2 : Int64) * rz_6) * rz_4))]) rfl ?_
      refine z_get X fl_6_31 dr_X6_digLast_52 6 rfl (v := .ref asz) rfl ?_
      refine z_run X br_X6_digLast_55_57 kr_X6_digLast_55_57 (lv' := [(7, .long rz_6), (5, .long rz_4), (4, .int i_), (2, .long rz_1), (0, .ref se), (1, .int fiq)]) (st' := [.int i_, .ref asz, .long (rz_6 * rz_6), .long (rz_1 + (((2 : Int64) * rz_6) * rz_4))]) rfl ?_
      refine z_lald X dr_X6_digLast_57 9 rfl (vin rfl (by omega) (by omega)) (v := (fsz i_.toNatClampNeg)) rfl ?_
      refine z_run X br_X6_digLast_58_65 kr_X6_digLast_58_65 (lv' := [(9, .long ((rz_1 + (((2 : Int64) * rz_6) * rz_4)) + ((rz_6 * rz_6) * (fsz i_.toNatClampNeg)))), (7, .long rz_6), (5, .long rz_4), (4, .int i_), (2, .long rz_1), (0, .ref se), (1, .int fiq)]) (st' := [.long 0, .long rz_6]) rfl ?_
      refine zl_eq X dr_X6_digLast_65 dr_X6_digLast_66 (tgt := 141) (by decide) (a := rz_6.toInt) (b := 0) rfl (show (0 : Int64).toInt = 0 from by decide) (fun c65_8 => ?_) (fun c65_8 => ?_)
      ·
        refine z_run X br_X6_digLast_141_144 kr_X6_digLast_141_144 (lv' := [(4, .int (i_ + 1)), (9, .long ((rz_1 + (((2 : Int64) * rz_6) * rz_4)) + ((rz_6 * rz_6) * (fsz i_.toNatClampNeg)))), (7, .long rz_6), (5, .long rz_4), (2, .long rz_1), (0, .ref se), (1, .int fiq)]) (st' := []) rfl ?_
        refine z_goto X dr_X6_digLast_144 (tgt := 8) (by decide) ?_
        refine Z.sub (lv' := [(4, .int (i_ + 1)), (2, .long rz_1), (0, .ref se), (1, .int fiq)]) [0, 4, 5, 6] rfl [7, 8, 4, 5, 9, 0, 1, 6, 2, 3] (ws' := [(afr, aI G 16 ffr), (aup, aI G 16 fup), (asx, aJ G 96 fsx), (asy, aJ G 96 fsy), (asz, aJ G 16 fsz), (apu, aI G 16 gp), (abe, aI G 16 gb), (se, ob 6 [.int hn, .int np, .int 0, .ref afr, .ref aup, .ref axx, .ref ayy, .ref asx, .ref asy, .ref asz, .ref apu, .ref abe, .int oz_, .int fo_, .long lc_]), (axx, aJ G 6 fxx), (ayy, aJ G 6 fyy)]) rfl (by decide) ?_
        exact ih8 ((i_ + 1), gp, gb, oz_, fo_, lc_) ⟨(by clear hW_; (try dsimp only); have e : (i_ + 1).toInt = i_.toInt + 1 := tI_add rfl (show (1 : Int32).toInt = 1 from by decide) (by omega); omega), hpu_, (by (try dsimp only); have e : (i_ + 1).toInt = i_.toInt + 1 := (by clear hW_; exact tI_add rfl (show (1 : Int32).toInt = 1 from by decide) (by omega)); rw [e, show (i_.toInt + 1).toNat = i_.toInt.toNat + 1 by clear hW_; omega]; exact digL_step (lo := (fun j => (ffr j).toInt)) (hi := (fun j => (fup j).toInt)) (by omega) hx hy (hst _ (show i_.toInt.toNat < hni.toNat by clear hW_; omega)).1 (hst _ (show i_.toInt.toNat < hni.toNat by clear hW_; omega)).2.1 (hst _ (show i_.toInt.toNat < hni.toNat by clear hW_; omega)).2.2 f1_2 f20_5 (hlh _ (show i_.toInt.toNat < hni.toNat by clear hW_; omega)) hm f30_7 rfl (by clear hW_; omega) hW_ (Or.inr ⟨Or.inl (by have z : (0 : Int64).toInt = 0 := (by decide); omega), rfl⟩))⟩ (by clear hW_; (try dsimp only); have e : (i_ + 1).toInt = i_.toInt + 1 := tI_add rfl (show (1 : Int32).toInt = 1 from by decide) (by omega); omega)
      ·
        refine z_run X br_X6_digLast_69_72 kr_X6_digLast_69_72 (lv' := [(9, .long ((rz_1 + (((2 : Int64) * rz_6) * rz_4)) + ((rz_6 * rz_6) * (fsz i_.toNatClampNeg)))), (7, .long rz_6), (5, .long rz_4), (4, .int i_), (2, .long rz_1), (0, .ref se), (1, .int fiq)]) (st' := [.ref se, .long ((rz_1 + (((2 : Int64) * rz_6) * rz_4)) + ((rz_6 * rz_6) * (fsz i_.toNatClampNeg)))]) rfl ?_
        refine z_get X fl_6_69 dr_X6_digLast_72 6 rfl (v := .long lc_) rfl ?_
        refine zl_gt X dr_X6_digLast_75 dr_X6_digLast_76 (tgt := 141) (by decide) (a := ((rz_1 + (((2 : Int64) * rz_6) * rz_4)) + ((rz_6 * rz_6) * (fsz i_.toNatClampNeg))).toInt) (b := lc_.toInt) rfl rfl (fun c75_9 => ?_) (fun c75_9 => ?_)
        ·
          refine z_run X br_X6_digLast_141_144 kr_X6_digLast_141_144 (lv' := [(4, .int (i_ + 1)), (9, .long ((rz_1 + (((2 : Int64) * rz_6) * rz_4)) + ((rz_6 * rz_6) * (fsz i_.toNatClampNeg)))), (7, .long rz_6), (5, .long rz_4), (2, .long rz_1), (0, .ref se), (1, .int fiq)]) (st' := []) rfl ?_
          refine z_goto X dr_X6_digLast_144 (tgt := 8) (by decide) ?_
          refine Z.sub (lv' := [(4, .int (i_ + 1)), (2, .long rz_1), (0, .ref se), (1, .int fiq)]) [0, 4, 5, 6] rfl [7, 8, 4, 5, 9, 0, 1, 6, 2, 3] (ws' := [(afr, aI G 16 ffr), (aup, aI G 16 fup), (asx, aJ G 96 fsx), (asy, aJ G 96 fsy), (asz, aJ G 16 fsz), (apu, aI G 16 gp), (abe, aI G 16 gb), (se, ob 6 [.int hn, .int np, .int 0, .ref afr, .ref aup, .ref axx, .ref ayy, .ref asx, .ref asy, .ref asz, .ref apu, .ref abe, .int oz_, .int fo_, .long lc_]), (axx, aJ G 6 fxx), (ayy, aJ G 6 fyy)]) rfl (by decide) ?_
          exact ih8 ((i_ + 1), gp, gb, oz_, fo_, lc_) ⟨(by clear hW_; (try dsimp only); have e : (i_ + 1).toInt = i_.toInt + 1 := tI_add rfl (show (1 : Int32).toInt = 1 from by decide) (by omega); omega), hpu_, (by (try dsimp only); have e : (i_ + 1).toInt = i_.toInt + 1 := (by clear hW_; exact tI_add rfl (show (1 : Int32).toInt = 1 from by decide) (by omega)); rw [e, show (i_.toInt + 1).toNat = i_.toInt.toNat + 1 by clear hW_; omega]; exact digL_step (lo := (fun j => (ffr j).toInt)) (hi := (fun j => (fup j).toInt)) (by omega) hx hy (hst _ (show i_.toInt.toNat < hni.toNat by clear hW_; omega)).1 (hst _ (show i_.toInt.toNat < hni.toNat by clear hW_; omega)).2.1 (hst _ (show i_.toInt.toNat < hni.toNat by clear hW_; omega)).2.2 f1_2 f20_5 (hlh _ (show i_.toInt.toNat < hni.toNat by clear hW_; omega)) hm f30_7 rfl (by clear hW_; omega) hW_ (Or.inr ⟨Or.inr c75_9, rfl⟩))⟩ (by clear hW_; (try dsimp only); have e : (i_ + 1).toInt = i_.toInt + 1 := tI_add rfl (show (1 : Int32).toInt = 1 from by decide) (by omega); omega)
        ·
          refine z_run X br_X6_digLast_79_80 kr_X6_digLast_79_80 (lv' := [(9, .long ((rz_1 + (((2 : Int64) * rz_6) * rz_4)) + ((rz_6 * rz_6) * (fsz i_.toNatClampNeg)))), (7, .long rz_6), (5, .long rz_4), (4, .int i_), (2, .long rz_1), (0, .ref se), (1, .int fiq)]) (st' := [.ref se]) rfl ?_
          refine z_get X fl_6_34 dr_X6_digLast_80 6 rfl (v := .ref apu) rfl ?_
          refine z_run X br_X6_digLast_83_88 kr_X6_digLast_83_88 (lv' := [(9, .long ((rz_1 + (((2 : Int64) * rz_6) * rz_4)) + ((rz_6 * rz_6) * (fsz i_.toNatClampNeg)))), (7, .long rz_6), (5, .long rz_4), (4, .int i_), (2, .long rz_1), (0, .ref se), (1, .int fiq)]) (st' := [.int rz_6.toInt32, .int i_, .ref apu]) rfl ?_
          refine z_iast X dr_X6_digLast_88 0 rfl (vin rfl (by omega) (by omega)) (ws' := [(apu, aI G 16 (upd gp i_.toNatClampNeg rz_6.toInt32)), (abe, aI G 16 gb), (axx, aJ G 6 fxx), (ayy, aJ G 6 fyy), (asx, aJ G 96 fsx), (asy, aJ G 96 fsy), (se, ob 6 [.int hn, .int np, .int 0, .ref afr, .ref aup, .ref axx, .ref ayy, .ref asx, .ref asy, .ref asz, .ref apu, .ref abe, .int oz_, .int fo_, .long lc_]), (afr, aI G 16 ffr), (aup, aI G 16 fup), (asz, aJ G 16 fsz)]) rfl ?_
          refine z_run X br_X6_digLast_89_91 kr_X6_digLast_89_91 (lv' := [(9, .long ((rz_1 + (((2 : Int64) * rz_6) * rz_4)) + ((rz_6 * rz_6) * (fsz i_.toNatClampNeg)))), (7, .long rz_6), (5, .long rz_4), (4, .int i_), (2, .long rz_1), (0, .ref se), (1, .int fiq)]) (st' := [.ref se, .ref se]) rfl ?_
          refine z_get X fl_6_59 dr_X6_digLast_91 6 rfl (v := .int oz_) rfl ?_
          refine z_run X br_X6_digLast_94_95 kr_X6_digLast_94_95 (lv' := [(9, .long ((rz_1 + (((2 : Int64) * rz_6) * rz_4)) + ((rz_6 * rz_6) * (fsz i_.toNatClampNeg)))), (7, .long rz_6), (5, .long rz_4), (4, .int i_), (2, .long rz_1), (0, .ref se), (1, .int fiq)]) (st' := [.ref se, .int oz_, .ref se]) rfl ?_
          refine z_get X fl_6_34 dr_X6_digLast_95 6 rfl (v := .ref apu) rfl ?_
          refine z_run X br_X6_digLast_98_100 kr_X6_digLast_98_100 (lv' := [(9, .long ((rz_1 + (((2 : Int64) * rz_6) * rz_4)) + ((rz_6 * rz_6) * (fsz i_.toNatClampNeg)))), (7, .long rz_6), (5, .long rz_4), (4, .int i_), (2, .long rz_1), (0, .ref se), (1, .int fiq)]) (st' := [.int i_, .ref apu, .int oz_, .ref se]) rfl ?_
          refine z_iald X dr_X6_digLast_100 0 rfl (vin rfl (by omega) (by omega)) (v := rz_6.toInt32) upd_at ?_
          refine z_iabs X k_6_98.1 k_6_98.2.1 k_6_98.2.2.1 k_6_98.2.2.2.1 ⟨Nat.le_of_ble_eq_true rfl, Nat.le_of_ble_eq_true rfl⟩ ⟨Nat.le_of_ble_eq_true rfl, Nat.le_of_ble_eq_true rfl⟩ dr_X6_digLast_101 (v := (iabs rz_6.toInt32)) rfl ?_
          refine z_run X br_X6_digLast_104_105 kr_X6_digLast_104_105 (lv' := [(9, .long ((rz_1 + (((2 : Int64) * rz_6) * rz_4)) + ((rz_6 * rz_6) * (fsz i_.toNatClampNeg)))), (7, .long rz_6), (5, .long rz_4), (4, .int i_), (2, .long rz_1), (0, .ref se), (1, .int fiq)]) (st' := [.int (oz_ + (iabs rz_6.toInt32)), .ref se]) rfl ?_
          refine z_put X fl_6_59 dr_X6_digLast_105 6 rfl (ty := .int) (T := TX6) (N := 15) rfl (Or.inl rfl) (by decide +kernel) rfl (by rfl) (Nat.le_of_ble_eq_true rfl) (ws' := [(apu, aI G 16 (upd gp i_.toNatClampNeg rz_6.toInt32)), (abe, aI G 16 gb), (axx, aJ G 6 fxx), (ayy, aJ G 6 fyy), (asx, aJ G 96 fsx), (asy, aJ G 96 fsy), (se, ob 6 [.int hn, .int np, .int 0, .ref afr, .ref aup, .ref axx, .ref ayy, .ref asx, .ref asy, .ref asz, .ref apu, .ref abe, .int (oz_ + (iabs rz_6.toInt32)), .int fo_, .long lc_]), (afr, aI G 16 ffr), (aup, aI G 16 fup), (asz, aJ G 16 fsz)]) rfl ?_
          refine z_run X br_X6_digLast_108_111 kr_X6_digLast_108_111 (lv' := [(9, .long ((rz_1 + (((2 : Int64) * rz_6) * rz_4)) + ((rz_6 * rz_6) * (fsz i_.toNatClampNeg)))), (7, .long rz_6), (5, .long rz_4), (4, .int i_), (2, .long rz_1), (0, .ref se), (1, .int fiq)]) (st' := [.long ((rz_1 + (((2 : Int64) * rz_6) * rz_4)) + ((rz_6 * rz_6) * (fsz i_.toNatClampNeg))), .ref se]) rfl ?_
          refine z_callV X k_6_84 (cr_X6_offerS l G se hn np afr aup axx ayy asx asy asz apu abe (oz_ + (iabs rz_6.toInt32)) fo_ lc_ (upd gp i_.toNatClampNeg rz_6.toInt32) gb ((rz_1 + (((2 : Int64) * rz_6) * rz_4)) + ((rz_6 * rz_6) * (fsz i_.toNatClampNeg))) hni hhn (by omega)) dr_X6_digLast_111 6 rfl rfl rfl ⟨Nat.le_of_ble_eq_true rfl, Nat.le_of_ble_eq_true rfl⟩ ⟨Nat.le_of_ble_eq_true rfl, Nat.le_of_ble_eq_true rfl⟩ rfl (rest := []) (As := [.long ((rz_1 + (((2 : Int64) * rz_6) * rz_4)) + ((rz_6 * rz_6) * (fsz i_.toNatClampNeg)))]) rfl (Nat.le_of_ble_eq_true rfl) [6, 0, 1] [2, 3, 4, 5, 7, 8, 9] rfl (by decide) (wr := [(axx, aJ G 6 fxx), (ayy, aJ G 6 fyy), (asx, aJ G 96 fsx), (asy, aJ G 96 fsy), (afr, aI G 16 ffr), (aup, aI G 16 fup), (asz, aJ G 16 fsz)]) rfl (by decide) (by decide) ?_
          rintro _ _ ⟨fo2_10, lc2_11, fbe2_12, f111_13, rfl, rfl⟩
          refine Z.at (pc' := 114) (st' := []) (ws' := [(axx, aJ G 6 fxx), (ayy, aJ G 6 fyy), (asx, aJ G 96 fsx), (asy, aJ G 96 fsy), (afr, aI G 16 ffr), (aup, aI G 16 fup), (asz, aJ G 16 fsz), (se, ob 6 [.int hn, .int np, .int 0, .ref afr, .ref aup, .ref axx, .ref ayy, .ref asx, .ref asy, .ref asz, .ref apu, .ref abe, .int (oz_ + (iabs rz_6.toInt32)), .int fo2_10, .long lc2_11]), (apu, aI G 16 (upd gp i_.toNatClampNeg rz_6.toInt32)), (abe, aI G 16 fbe2_12)]) (kc' := 0) (ks' := 0) rfl rfl rfl rfl rfl ?_
          refine z_run X br_X6_digLast_114_116 kr_X6_digLast_114_116 (lv' := [(9, .long ((rz_1 + (((2 : Int64) * rz_6) * rz_4)) + ((rz_6 * rz_6) * (fsz i_.toNatClampNeg)))), (7, .long rz_6), (5, .long rz_4), (4, .int i_), (2, .long rz_1), (0, .ref se), (1, .int fiq)]) (st' := [.ref se, .ref se]) rfl ?_
          refine z_get X fl_6_59 dr_X6_digLast_116 7 rfl (v := .int (oz_ + (iabs rz_6.toInt32))) rfl ?_
          refine z_run X br_X6_digLast_119_120 kr_X6_digLast_119_120 (lv' := [(9, .long ((rz_1 + (((2 : Int64) * rz_6) * rz_4)) + ((rz_6 * rz_6) * (fsz i_.toNatClampNeg)))), (7, .long rz_6), (5, .long rz_4), (4, .int i_), (2, .long rz_1), (0, .ref se), (1, .int fiq)]) (st' := [.ref se, .int (oz_ + (iabs rz_6.toInt32)), .ref se]) rfl ?_
          refine z_get X fl_6_34 dr_X6_digLast_120 7 rfl (v := .ref apu) rfl ?_
          refine z_run X br_X6_digLast_123_125 kr_X6_digLast_123_125 (lv' := [(9, .long ((rz_1 + (((2 : Int64) * rz_6) * rz_4)) + ((rz_6 * rz_6) * (fsz i_.toNatClampNeg)))), (7, .long rz_6), (5, .long rz_4), (4, .int i_), (2, .long rz_1), (0, .ref se), (1, .int fiq)]) (st' := [.int i_, .ref apu, .int (oz_ + (iabs rz_6.toInt32)), .ref se]) rfl ?_
          refine z_iald X dr_X6_digLast_125 8 rfl (vin rfl (by omega) (by omega)) (v := rz_6.toInt32) upd_at ?_
          refine z_iabs X k_6_98.1 k_6_98.2.1 k_6_98.2.2.1 k_6_98.2.2.2.1 ⟨Nat.le_of_ble_eq_true rfl, Nat.le_of_ble_eq_true rfl⟩ ⟨Nat.le_of_ble_eq_true rfl, Nat.le_of_ble_eq_true rfl⟩ dr_X6_digLast_126 (v := (iabs rz_6.toInt32)) rfl ?_
          refine z_run X br_X6_digLast_129_130 kr_X6_digLast_129_130 (lv' := [(9, .long ((rz_1 + (((2 : Int64) * rz_6) * rz_4)) + ((rz_6 * rz_6) * (fsz i_.toNatClampNeg)))), (7, .long rz_6), (5, .long rz_4), (4, .int i_), (2, .long rz_1), (0, .ref se), (1, .int fiq)]) (st' := [.int ((oz_ + (iabs rz_6.toInt32)) - (iabs rz_6.toInt32)), .ref se]) rfl ?_
          refine z_put X fl_6_59 dr_X6_digLast_130 7 rfl (ty := .int) (T := TX6) (N := 15) rfl (Or.inl rfl) (by decide +kernel) rfl (by rfl) (Nat.le_of_ble_eq_true rfl) (ws' := [(axx, aJ G 6 fxx), (ayy, aJ G 6 fyy), (asx, aJ G 96 fsx), (asy, aJ G 96 fsy), (afr, aI G 16 ffr), (aup, aI G 16 fup), (asz, aJ G 16 fsz), (se, ob 6 [.int hn, .int np, .int 0, .ref afr, .ref aup, .ref axx, .ref ayy, .ref asx, .ref asy, .ref asz, .ref apu, .ref abe, .int ((oz_ + (iabs rz_6.toInt32)) - (iabs rz_6.toInt32)), .int fo2_10, .long lc2_11]), (apu, aI G 16 (upd gp i_.toNatClampNeg rz_6.toInt32)), (abe, aI G 16 fbe2_12)]) rfl ?_
          refine z_run X br_X6_digLast_133_134 kr_X6_digLast_133_134 (lv' := [(9, .long ((rz_1 + (((2 : Int64) * rz_6) * rz_4)) + ((rz_6 * rz_6) * (fsz i_.toNatClampNeg)))), (7, .long rz_6), (5, .long rz_4), (4, .int i_), (2, .long rz_1), (0, .ref se), (1, .int fiq)]) (st' := [.ref se]) rfl ?_
          refine z_get X fl_6_34 dr_X6_digLast_134 7 rfl (v := .ref apu) rfl ?_
          refine z_run X br_X6_digLast_137_140 kr_X6_digLast_137_140 (lv' := [(9, .long ((rz_1 + (((2 : Int64) * rz_6) * rz_4)) + ((rz_6 * rz_6) * (fsz i_.toNatClampNeg)))), (7, .long rz_6), (5, .long rz_4), (4, .int i_), (2, .long rz_1), (0, .ref se), (1, .int fiq)]) (st' := [.int 0, .int i_, .ref apu]) rfl ?_
          refine z_iast X dr_X6_digLast_140 8 rfl (vin rfl (by omega) (by omega)) (ws' := [(axx, aJ G 6 fxx), (ayy, aJ G 6 fyy), (asx, aJ G 96 fsx), (asy, aJ G 96 fsy), (afr, aI G 16 ffr), (aup, aI G 16 fup), (asz, aJ G 16 fsz), (se, ob 6 [.int hn, .int np, .int 0, .ref afr, .ref aup, .ref axx, .ref ayy, .ref asx, .ref asy, .ref asz, .ref apu, .ref abe, .int ((oz_ + (iabs rz_6.toInt32)) - (iabs rz_6.toInt32)), .int fo2_10, .long lc2_11]), (apu, aI G 16 (upd (upd gp i_.toNatClampNeg rz_6.toInt32) i_.toNatClampNeg 0)), (abe, aI G 16 fbe2_12)]) rfl ?_
          refine z_run X br_X6_digLast_141_144 kr_X6_digLast_141_144 (lv' := [(4, .int (i_ + 1)), (9, .long ((rz_1 + (((2 : Int64) * rz_6) * rz_4)) + ((rz_6 * rz_6) * (fsz i_.toNatClampNeg)))), (7, .long rz_6), (5, .long rz_4), (2, .long rz_1), (0, .ref se), (1, .int fiq)]) (st' := []) rfl ?_
          refine z_goto X dr_X6_digLast_144 (tgt := 8) (by decide) ?_
          refine Z.sub (lv' := [(4, .int (i_ + 1)), (2, .long rz_1), (0, .ref se), (1, .int fiq)]) [0, 4, 5, 6] rfl [4, 5, 2, 3, 6, 8, 9, 7, 0, 1] (ws' := [(afr, aI G 16 ffr), (aup, aI G 16 fup), (asx, aJ G 96 fsx), (asy, aJ G 96 fsy), (asz, aJ G 16 fsz), (apu, aI G 16 (upd (upd gp i_.toNatClampNeg rz_6.toInt32) i_.toNatClampNeg 0)), (abe, aI G 16 fbe2_12), (se, ob 6 [.int hn, .int np, .int 0, .ref afr, .ref aup, .ref axx, .ref ayy, .ref asx, .ref asy, .ref asz, .ref apu, .ref abe, .int ((oz_ + (iabs rz_6.toInt32)) - (iabs rz_6.toInt32)), .int fo2_10, .long lc2_11]), (axx, aJ G 6 fxx), (ayy, aJ G 6 fyy)]) rfl (by decide) ?_
          exact ih8 ((i_ + 1), (upd (upd gp i_.toNatClampNeg rz_6.toInt32) i_.toNatClampNeg 0), fbe2_12, ((oz_ + (iabs rz_6.toInt32)) - (iabs rz_6.toInt32)), fo2_10, lc2_11) ⟨(by clear hW_; (try dsimp only); have e : (i_ + 1).toInt = i_.toInt + 1 := tI_add rfl (show (1 : Int32).toInt = 1 from by decide) (by omega); omega), (fun j hj => by (try dsimp only); by_cases e9 : j = i_.toNatClampNeg; (subst e9; exact (upd_at (k := i_.toNatClampNeg)).trans (hp0 _ (show fii ≤ ((i_.toInt.toNat : Nat) : Int) by clear hW_; omega) hj).symm); (rw [upd_off e9, upd_off e9]; exact hpu_ j hj)), (by (try dsimp only); have e : (i_ + 1).toInt = i_.toInt + 1 := (by clear hW_; exact tI_add rfl (show (1 : Int32).toInt = 1 from by decide) (by omega)); rw [e, show (i_.toInt + 1).toNat = i_.toInt.toNat + 1 by clear hW_; omega]; exact digL_step (lo := (fun j => (ffr j).toInt)) (hi := (fun j => (fup j).toInt)) (by omega) hx hy (hst _ (show i_.toInt.toNat < hni.toNat by clear hW_; omega)).1 (hst _ (show i_.toInt.toNat < hni.toNat by clear hW_; omega)).2.1 (hst _ (show i_.toInt.toNat < hni.toNat by clear hW_; omega)).2.2 f1_2 f20_5 (hlh _ (show i_.toInt.toNat < hni.toNat by clear hW_; omega)) hm f30_7 rfl (by clear hW_; omega) hW_ (Or.inl ⟨by have z : (0 : Int64).toInt = 0 := (by decide); omega, c75_9, f111_13⟩))⟩ (by clear hW_; (try dsimp only); have e : (i_ + 1).toInt = i_.toInt + 1 := tI_add rfl (show (1 : Int32).toInt = 1 from by decide) (by omega); omega)
  · exact ⟨(by (try dsimp only); omega), (fun _ _ => rfl), (by (try dsimp only); rw [show fiq.toInt.toNat = fii.toNat by rw [hfiq]]; exact LW.startD)⟩

theorem dr_X6_dig_1 : decode cX6_dig 1 = .ok (.ifCond .gt 4, 3) := by decide +kernel
theorem dr_X6_dig_7 : decode cX6_dig 7 = .ok (.if_icmp .ne 16, 3) := by decide +kernel
theorem dr_X6_dig_11 : decode cX6_dig 11 = .ok (.getfield 47, 3) := by decide +kernel
theorem dr_X6_dig_14 : decode cX6_dig 14 = .ok (.ifCond .ne 9, 3) := by decide +kernel
theorem dr_X6_dig_19 : decode cX6_dig 19 = .ok (.invokevirtual 77, 3) := by decide +kernel
theorem dr_X6_dig_22 : decode cX6_dig 22 = .ok (.return_, 1) := by decide +kernel
abbrev br_X6_dig_0_1 : ZB := [(.iload_n 2, .null)]
theorem kr_X6_dig_0_1 : zchk cX6_dig br_X6_dig_0_1 0 = true ∧ zpc br_X6_dig_0_1 0 = 1 := ⟨by decide +kernel, rfl⟩
abbrev br_X6_dig_5_7 : ZB := [(.iload_n 2, .null), (.iconst 1, .int 1)]
theorem kr_X6_dig_5_7 : zchk cX6_dig br_X6_dig_5_7 5 = true ∧ zpc br_X6_dig_5_7 5 = 7 := ⟨by decide +kernel, rfl⟩
abbrev br_X6_dig_10_11 : ZB := [(.aload_n 0, .null)]
theorem kr_X6_dig_10_11 : zchk cX6_dig br_X6_dig_10_11 10 = true ∧ zpc br_X6_dig_10_11 10 = 11 := ⟨by decide +kernel, rfl⟩
abbrev br_X6_dig_17_19 : ZB := [(.aload_n 0, .null), (.iload_n 1, .null)]
theorem kr_X6_dig_17_19 : zchk cX6_dig br_X6_dig_17_19 17 = true ∧ zpc br_X6_dig_17_19 17 = 19 := ⟨by decide +kernel, rfl⟩
set_option maxHeartbeats 4000000 in
set_option maxRecDepth 100000 in
theorem cr_X6_digS1 (l : Launch) (G : KG) (se : Nat) (hn : Int32) (np : Int32) (afr : Nat) (aup : Nat) (axx : Nat) (ayy : Nat) (asx : Nat) (asy : Nat) (asz : Nat) (apu : Nat) (abe : Nat) (oz : Int32) (fo : Int32) (lc : Int64) (ffr : Nat → Int32) (fup : Nat → Int32) (fxx : Nat → Int64) (fyy : Nat → Int64) (fsx : Nat → Int64) (fsy : Nat → Int64) (fsz : Nat → Int64) (fpu : Nat → Int32) (fbe : Nat → Int32) (fiq : Int32) (hni : Int) (npi : Int) (fii : Int) (hhn : hn.toInt = hni) (hnp : np.toInt = npi) (hfiq : fiq.toInt = fii) (hn0 : 0 ≤ hni ∧ hni ≤ 16) (np0 : 0 ≤ npi ∧ npi ≤ 6) (hx : bdd 98000000 npi.toNat fxx) (hy : bdd 98000000 npi.toNat fyy) (hst : ∀ j, j < hni.toNat → bdd 10000 npi.toNat (at16 fsx j) ∧ bdd 10000 npi.toNat (at16 fsy j) ∧ fsz j = cs (at16 fsx j) (at16 fsy j) npi.toNat) (hlh : ∀ j, j < hni.toNat → (-200 ≤ (ffr j).toInt ∧ (ffr j).toInt ≤ 0) ∧ 0 ≤ (fup j).toInt ∧ (fup j).toInt ≤ 200) (hm : lc.toInt ≤ (cs fxx fyy npi.toNat).toInt) (hf0 : 0 ≤ fii ∧ fii ≤ hni) (hp0 : ∀ j : Nat, fii ≤ (j : Int) → j < hni.toNat → fpu j = 0) : Ct l G yX6_dig cX6_dig 5 none { frames := 3, cells := 0, slots := 0, locals := 84 } [.ref se, .int fiq, .int 1] [(se, ob 6 [.int hn, .int np, .int 0, .ref afr, .ref aup, .ref axx, .ref ayy, .ref asx, .ref asy, .ref asz, .ref apu, .ref abe, .int oz, .int fo, .long lc]), (afr, aI G 16 ffr), (aup, aI G 16 fup), (axx, aJ G 6 fxx), (ayy, aJ G 6 fyy), (asx, aJ G 96 fsx), (asy, aJ G 96 fsy), (asz, aJ G 16 fsz), (apu, aI G 16 fpu), (abe, aI G 16 fbe)] (fun r w1 => ∃ (fpu2 : Nat → Int32), ∃ (fbe2 : Nat → Int32), ∃ (oz2 : Int32), ∃ (fo2 : Int32), ∃ (lc2 : Int64), (∀ j, j < hni.toNat → fpu2 j = fpu j) ∧ (LW (CC npi.toNat) lc.toInt lc2.toInt (Nz (stC npi.toNat fsx fsy) (fun j => (ffr j).toInt) (fun j => (fup j).toInt) hni.toNat fii.toNat 1 (trn npi.toNat fxx, trn npi.toNat fyy))) ∧ r = none ∧ w1 = [(se, ob 6 [.int hn, .int np, .int 0, .ref afr, .ref aup, .ref axx, .ref ayy, .ref asx, .ref asy, .ref asz, .ref apu, .ref abe, .int oz2, .int fo2, .long lc2]), (afr, aI G 16 ffr), (aup, aI G 16 fup), (axx, aJ G 6 fxx), (ayy, aJ G 6 fyy), (asx, aJ G 96 fsx), (asy, aJ G 96 fsy), (asz, aJ G 16 fsz), (apu, aI G 16 fpu2), (abe, aI G 16 fbe2)]) := by
  refine ct_of [(0, .ref se), (1, .int fiq), (2, .int 1)] (by decide) (Nat.le_of_ble_eq_true rfl) rfl ?_
  intro p0 e0 s0 m0 args0 below0 meth0 c0 A X
  refine z_run X br_X6_dig_0_1 kr_X6_dig_0_1 (lv' := [(0, .ref se), (1, .int fiq), (2, .int 1)]) (st' := [.int 1]) rfl ?_
  refine zi_gt X dr_X6_dig_1 (tgt := 5) (by decide) (a := 1) (show (1 : Int32).toInt = 1 from by decide) (fun _ => ?_) (fun c1_1 => absurd c1_1 (by decide))
  refine z_run X br_X6_dig_5_7 kr_X6_dig_5_7 (lv' := [(0, .ref se), (1, .int fiq), (2, .int 1)]) (st' := [.int 1, .int 1]) rfl ?_
  refine zc_ne X dr_X6_dig_7 (tgt := 23) (by decide) (a := 1) (b := 1) (show (1 : Int32).toInt = 1 from by decide) (show (1 : Int32).toInt = 1 from by decide) (fun c7_2 => absurd c7_2 (by decide)) (fun _ => ?_)
  refine z_run X br_X6_dig_10_11 kr_X6_dig_10_11 (lv' := [(0, .ref se), (1, .int fiq), (2, .int 1)]) (st' := [.ref se]) rfl ?_
  refine z_get X fl_6_47 dr_X6_dig_11 0 rfl (v := .int 0) rfl ?_
  refine zi_ne X dr_X6_dig_14 (tgt := 23) (by decide) (a := 0) (show (0 : Int32).toInt = 0 from by decide) (fun c14_3 => absurd c14_3 (by decide)) (fun _ => ?_)
  refine z_run X br_X6_dig_17_19 kr_X6_dig_17_19 (lv' := [(0, .ref se), (1, .int fiq), (2, .int 1)]) (st' := [.int fiq, .ref se]) rfl ?_
  refine z_callV X k_6_77 (cr_X6_digLastS l G se hn np afr aup axx ayy asx asy asz apu abe oz fo lc ffr fup fxx fyy fsx fsy fsz fpu fbe fiq hni npi fii hhn hnp hfiq (by omega) (by omega) hx hy hst hlh hm (by omega) hp0) dr_X6_dig_19 0 rfl rfl rfl ⟨Nat.le_of_ble_eq_true rfl, Nat.le_of_ble_eq_true rfl⟩ ⟨Nat.le_of_ble_eq_true rfl, Nat.le_of_ble_eq_true rfl⟩ rfl (rest := []) (As := [.int fiq]) rfl (Nat.le_of_ble_eq_true rfl) [0, 1, 2, 3, 4, 5, 6, 7, 8, 9] [] rfl (by decide) (wr := []) rfl (by decide) (by decide) ?_
  rintro _ _ ⟨fpu2_4, fbe2_5, oz2_6, fo2_7, lc2_8, f19_9, f19_10, rfl, rfl⟩
  refine Z.at (pc' := 22) (st' := []) (ws' := [(se, ob 6 [.int hn, .int np, .int 0, .ref afr, .ref aup, .ref axx, .ref ayy, .ref asx, .ref asy, .ref asz, .ref apu, .ref abe, .int oz2_6, .int fo2_7, .long lc2_8]), (afr, aI G 16 ffr), (aup, aI G 16 fup), (axx, aJ G 6 fxx), (ayy, aJ G 6 fyy), (asx, aJ G 96 fsx), (asy, aJ G 96 fsy), (asz, aJ G 16 fsz), (apu, aI G 16 fpu2_4), (abe, aI G 16 fbe2_5)]) (kc' := 0) (ks' := 0) rfl rfl rfl rfl rfl ?_
  exact z_vret X rfl dr_X6_dig_22 (Nat.le_of_ble_eq_true rfl) (Nat.le_of_ble_eq_true rfl) ⟨fpu2_4, fbe2_5, oz2_6, fo2_7, lc2_8, f19_9, f19_10, rfl, rfl⟩

theorem dr_X6_dig_27 : decode cX6_dig 27 = .ok (.getfield 40, 3) := by decide +kernel
theorem dr_X6_dig_30 : decode cX6_dig 30 = .ok (.if_icmp .ge 70, 3) := by decide +kernel
theorem dr_X6_dig_100 : decode cX6_dig 100 = .ok (.return_, 1) := by decide +kernel
theorem dr_X6_dig_34 : decode cX6_dig 34 = .ok (.getfield 9, 3) := by decide +kernel
theorem dr_X6_dig_38 : decode cX6_dig 38 = .ok (.iaload, 1) := by decide +kernel
theorem dr_X6_dig_44 : decode cX6_dig 44 = .ok (.getfield 15, 3) := by decide +kernel
theorem dr_X6_dig_48 : decode cX6_dig 48 = .ok (.iaload, 1) := by decide +kernel
theorem dr_X6_dig_49 : decode cX6_dig 49 = .ok (.if_icmp .gt 39, 3) := by decide +kernel
theorem dr_X6_dig_91 : decode cX6_dig 91 = .ok (.invokevirtual 81, 3) := by decide +kernel
theorem dr_X6_dig_97 : decode cX6_dig 97 = .ok (.goto (-72), 3) := by decide +kernel
theorem dr_X6_dig_54 : decode cX6_dig 54 = .ok (.ifCond .eq 28, 3) := by decide +kernel
theorem dr_X6_dig_85 : decode cX6_dig 85 = .ok (.goto (-44), 3) := by decide +kernel
theorem dr_X6_dig_61 : decode cX6_dig 61 = .ok (.invokevirtual 81, 3) := by decide +kernel
theorem dr_X6_dig_66 : decode cX6_dig 66 = .ok (.invokevirtual 65, 3) := by decide +kernel
theorem dr_X6_dig_69 : decode cX6_dig 69 = .ok (.invokevirtual 84, 3) := by decide +kernel
theorem dr_X6_dig_79 : decode cX6_dig 79 = .ok (.invokevirtual 73, 3) := by decide +kernel
abbrev br_X6_dig_23_25 : ZB := [(.iload_n 1, .null), (.istore_n 3, .null)]
theorem kr_X6_dig_23_25 : zchk cX6_dig br_X6_dig_23_25 23 = true ∧ zpc br_X6_dig_23_25 23 = 25 := ⟨by decide +kernel, rfl⟩
abbrev br_X6_dig_25_27 : ZB := [(.iload_n 3, .null), (.aload_n 0, .null)]
theorem kr_X6_dig_25_27 : zchk cX6_dig br_X6_dig_25_27 25 = true ∧ zpc br_X6_dig_25_27 25 = 27 := ⟨by decide +kernel, rfl⟩
abbrev br_X6_dig_33_34 : ZB := [(.aload_n 0, .null)]
theorem kr_X6_dig_33_34 : zchk cX6_dig br_X6_dig_33_34 33 = true ∧ zpc br_X6_dig_33_34 33 = 34 := ⟨by decide +kernel, rfl⟩
abbrev br_X6_dig_37_38 : ZB := [(.iload_n 3, .null)]
theorem kr_X6_dig_37_38 : zchk cX6_dig br_X6_dig_37_38 37 = true ∧ zpc br_X6_dig_37_38 37 = 38 := ⟨by decide +kernel, rfl⟩
abbrev br_X6_dig_39_41 : ZB := [(.istore 4, .null)]
theorem kr_X6_dig_39_41 : zchk cX6_dig br_X6_dig_39_41 39 = true ∧ zpc br_X6_dig_39_41 39 = 41 := ⟨by decide +kernel, rfl⟩
abbrev br_X6_dig_41_44 : ZB := [(.iload 4, .null), (.aload_n 0, .null)]
theorem kr_X6_dig_41_44 : zchk cX6_dig br_X6_dig_41_44 41 = true ∧ zpc br_X6_dig_41_44 41 = 44 := ⟨by decide +kernel, rfl⟩
abbrev br_X6_dig_47_48 : ZB := [(.iload_n 3, .null)]
theorem kr_X6_dig_47_48 : zchk cX6_dig br_X6_dig_47_48 47 = true ∧ zpc br_X6_dig_47_48 47 = 48 := ⟨by decide +kernel, rfl⟩
abbrev br_X6_dig_88_91 : ZB := [(.aload_n 0, .null), (.iload_n 3, .null), (.iconst 0, .int 0)]
theorem kr_X6_dig_88_91 : zchk cX6_dig br_X6_dig_88_91 88 = true ∧ zpc br_X6_dig_88_91 88 = 91 := ⟨by decide +kernel, rfl⟩
abbrev br_X6_dig_94_97 : ZB := [(.iinc 3 1, .int 1)]
theorem kr_X6_dig_94_97 : zchk cX6_dig br_X6_dig_94_97 94 = true ∧ zpc br_X6_dig_94_97 94 = 97 := ⟨by decide +kernel, rfl⟩
abbrev br_X6_dig_52_54 : ZB := [(.iload 4, .null)]
theorem kr_X6_dig_52_54 : zchk cX6_dig br_X6_dig_52_54 52 = true ∧ zpc br_X6_dig_52_54 52 = 54 := ⟨by decide +kernel, rfl⟩
abbrev br_X6_dig_82_85 : ZB := [(.iinc 4 1, .int 1)]
theorem kr_X6_dig_82_85 : zchk cX6_dig br_X6_dig_82_85 82 = true ∧ zpc br_X6_dig_82_85 82 = 85 := ⟨by decide +kernel, rfl⟩
abbrev br_X6_dig_57_61 : ZB := [(.aload_n 0, .null), (.iload_n 3, .null), (.iload 4, .null)]
theorem kr_X6_dig_57_61 : zchk cX6_dig br_X6_dig_57_61 57 = true ∧ zpc br_X6_dig_57_61 57 = 61 := ⟨by decide +kernel, rfl⟩
abbrev br_X6_dig_64_66 : ZB := [(.aload_n 0, .null), (.aload_n 0, .null)]
theorem kr_X6_dig_64_66 : zchk cX6_dig br_X6_dig_64_66 64 = true ∧ zpc br_X6_dig_64_66 64 = 66 := ⟨by decide +kernel, rfl⟩
abbrev br_X6_dig_72_79 : ZB := [(.aload_n 0, .null), (.iload_n 3, .null), (.iconst 1, .int 1), (.iadd, .null), (.iload_n 2, .null), (.iconst 1, .int 1), (.isub, .null)]
theorem kr_X6_dig_72_79 : zchk cX6_dig br_X6_dig_72_79 72 = true ∧ zpc br_X6_dig_72_79 72 = 79 := ⟨by decide +kernel, rfl⟩
set_option maxHeartbeats 4000000 in
set_option maxRecDepth 100000 in
theorem cr_X6_digS2 (l : Launch) (G : KG) (se : Nat) (hn : Int32) (np : Int32) (afr : Nat) (aup : Nat) (axx : Nat) (ayy : Nat) (asx : Nat) (asy : Nat) (asz : Nat) (apu : Nat) (abe : Nat) (oz : Int32) (fo : Int32) (lc : Int64) (ffr : Nat → Int32) (fup : Nat → Int32) (fxx : Nat → Int64) (fyy : Nat → Int64) (fsx : Nat → Int64) (fsy : Nat → Int64) (fsz : Nat → Int64) (fpu : Nat → Int32) (fbe : Nat → Int32) (fiq : Int32) (hni : Int) (npi : Int) (fii : Int) (hhn : hn.toInt = hni) (hnp : np.toInt = npi) (hfiq : fiq.toInt = fii) (hn0 : 0 ≤ hni ∧ hni ≤ 16) (np0 : 0 ≤ npi ∧ npi ≤ 6) (hx : bdd 96000000 npi.toNat fxx) (hy : bdd 96000000 npi.toNat fyy) (hst : ∀ j, j < hni.toNat → bdd 10000 npi.toNat (at16 fsx j) ∧ bdd 10000 npi.toNat (at16 fsy j) ∧ fsz j = cs (at16 fsx j) (at16 fsy j) npi.toNat) (hlh : ∀ j, j < hni.toNat → (-200 ≤ (ffr j).toInt ∧ (ffr j).toInt ≤ 0) ∧ 0 ≤ (fup j).toInt ∧ (fup j).toInt ≤ 200) (hm : lc.toInt ≤ (cs fxx fyy npi.toNat).toInt) (hf0 : 0 ≤ fii ∧ fii ≤ hni) (hp0 : ∀ j : Nat, fii ≤ (j : Int) → j < hni.toNat → fpu j = 0) : Ct l G yX6_dig cX6_dig 5 none { frames := 4, cells := 0, slots := 0, locals := 108 } [.ref se, .int fiq, .int 2] [(se, ob 6 [.int hn, .int np, .int 0, .ref afr, .ref aup, .ref axx, .ref ayy, .ref asx, .ref asy, .ref asz, .ref apu, .ref abe, .int oz, .int fo, .long lc]), (afr, aI G 16 ffr), (aup, aI G 16 fup), (axx, aJ G 6 fxx), (ayy, aJ G 6 fyy), (asx, aJ G 96 fsx), (asy, aJ G 96 fsy), (asz, aJ G 16 fsz), (apu, aI G 16 fpu), (abe, aI G 16 fbe)] (fun r w1 => ∃ (fxx2 : Nat → Int64), ∃ (fyy2 : Nat → Int64), ∃ (fpu2 : Nat → Int32), ∃ (fbe2 : Nat → Int32), ∃ (oz2 : Int32), ∃ (fo2 : Int32), ∃ (lc2 : Int64), (∀ p, p < npi.toNat → fxx2 p = fxx p ∧ fyy2 p = fyy p) ∧ (∀ j, j < hni.toNat → fpu2 j = fpu j) ∧ (LW (CC npi.toNat) lc.toInt lc2.toInt (Nz (stC npi.toNat fsx fsy) (fun j => (ffr j).toInt) (fun j => (fup j).toInt) hni.toNat fii.toNat 2 (trn npi.toNat fxx, trn npi.toNat fyy))) ∧ r = none ∧ w1 = [(se, ob 6 [.int hn, .int np, .int 0, .ref afr, .ref aup, .ref axx, .ref ayy, .ref asx, .ref asy, .ref asz, .ref apu, .ref abe, .int oz2, .int fo2, .long lc2]), (afr, aI G 16 ffr), (aup, aI G 16 fup), (axx, aJ G 6 fxx2), (ayy, aJ G 6 fyy2), (asx, aJ G 96 fsx), (asy, aJ G 96 fsy), (asz, aJ G 16 fsz), (apu, aI G 16 fpu2), (abe, aI G 16 fbe2)]) := by
  refine ct_of [(0, .ref se), (1, .int fiq), (2, .int 2)] (by decide) (Nat.le_of_ble_eq_true rfl) rfl ?_
  intro p0 e0 s0 m0 args0 below0 meth0 c0 A X
  refine z_run X br_X6_dig_0_1 kr_X6_dig_0_1 (lv' := [(0, .ref se), (1, .int fiq), (2, .int 2)]) (st' := [.int 2]) rfl ?_
  refine zi_gt X dr_X6_dig_1 (tgt := 5) (by decide) (a := 2) (show (2 : Int32).toInt = 2 from by decide) (fun _ => ?_) (fun c1_1 => absurd c1_1 (by decide))
  refine z_run X br_X6_dig_5_7 kr_X6_dig_5_7 (lv' := [(0, .ref se), (1, .int fiq), (2, .int 2)]) (st' := [.int 1, .int 2]) rfl ?_
  refine zc_ne X dr_X6_dig_7 (tgt := 23) (by decide) (a := 2) (b := 1) (show (2 : Int32).toInt = 2 from by decide) (show (1 : Int32).toInt = 1 from by decide) (fun _ => ?_) (fun c7_2 => absurd c7_2 (by decide))
  refine z_run X br_X6_dig_23_25 kr_X6_dig_23_25 (lv' := [(3, .int fiq), (0, .ref se), (1, .int fiq), (2, .int 2)]) (st' := []) rfl ?_
  refine zloop (σ := Int32 × (Nat → Int32) × (Nat → Int32) × Int32 × Int32 × Int64 × (Nat → Int64) × (Nat → Int64)) (fun z => [(3, .int z.1), (0, .ref se), (1, .int fiq), (2, .int 2)]) (fun z => []) (fun z => [(se, ob 6 [.int hn, .int np, .int 0, .ref afr, .ref aup, .ref axx, .ref ayy, .ref asx, .ref asy, .ref asz, .ref apu, .ref abe, .int z.2.2.2.1, .int z.2.2.2.2.1, .long z.2.2.2.2.2.1]), (afr, aI G 16 ffr), (aup, aI G 16 fup), (axx, aJ G 6 z.2.2.2.2.2.2.1), (ayy, aJ G 6 z.2.2.2.2.2.2.2), (asx, aJ G 96 fsx), (asy, aJ G 96 fsy), (asz, aJ G 16 fsz), (apu, aI G 16 z.2.1), (abe, aI G 16 z.2.2.1)]) (fun z => (fii ≤ z.1.toInt ∧ z.1.toInt ≤ hni) ∧ (∀ p, p < npi.toNat → z.2.2.2.2.2.2.1 p = fxx p ∧ z.2.2.2.2.2.2.2 p = fyy p) ∧ (∀ j, j < hni.toNat → z.2.1 j = fpu j) ∧ (LW (CC npi.toNat) lc.toInt z.2.2.2.2.2.1.toInt (NzL (stC npi.toNat fsx fsy) (fun j => (ffr j).toInt) (fun j => (fup j).toInt) hni.toNat fii.toNat z.1.toInt.toNat 2 (trn npi.toNat fxx, trn npi.toNat fyy) (ffr z.1.toInt.toNat).toInt))) (fun z => (hni - z.1.toInt).toNat) (fiq, fpu, fbe, oz, fo, lc, fxx, fyy) ?_ ?_
  ·
    rintro ⟨i_, gpO, gbO, ozO, foO, lcO, gxO, gyO⟩ ⟨hi, hxO, hpO, hWO⟩ ih25
    dsimp only at *
    refine z_run X br_X6_dig_25_27 kr_X6_dig_25_27 (lv' := [(3, .int i_), (0, .ref se), (1, .int fiq), (2, .int 2)]) (st' := [.ref se, .int i_]) rfl ?_
    refine z_get X fl_6_40 dr_X6_dig_27 0 rfl (v := .int hn) rfl ?_
    refine zc_ge X dr_X6_dig_30 (tgt := 100) (by decide) (a := i_.toInt) (b := hni) rfl hhn (fun c30_3 => ?_) (fun c30_3 => ?_)
    ·
      exact z_vret X rfl dr_X6_dig_100 (Nat.le_of_ble_eq_true rfl) (Nat.le_of_ble_eq_true rfl) ⟨gxO, gyO, gpO, gbO, ozO, foO, lcO, hxO, hpO, (hWO.stop (by omega) rfl), rfl, rfl⟩
    ·
      refine z_run X br_X6_dig_33_34 kr_X6_dig_33_34 (lv' := [(3, .int i_), (0, .ref se), (1, .int fiq), (2, .int 2)]) (st' := [.ref se]) rfl ?_
      refine z_get X fl_6_9 dr_X6_dig_34 0 rfl (v := .ref afr) rfl ?_
      refine z_run X br_X6_dig_37_38 kr_X6_dig_37_38 (lv' := [(3, .int i_), (0, .ref se), (1, .int fiq), (2, .int 2)]) (st' := [.int i_, .ref afr]) rfl ?_
      refine z_iald X dr_X6_dig_38 1 rfl (vin rfl (by omega) (by omega)) (v := (ffr i_.toNatClampNeg)) rfl ?_
      refine z_run X br_X6_dig_39_41 kr_X6_dig_39_41 (lv' := [(4, .int (ffr i_.toNatClampNeg)), (3, .int i_), (0, .ref se), (1, .int fiq), (2, .int 2)]) (st' := []) rfl ?_
      refine zloop (σ := Int32 × (Nat → Int32) × (Nat → Int32) × Int32 × Int32 × Int64 × (Nat → Int64) × (Nat → Int64)) (fun z => [(4, .int z.1), (3, .int i_), (0, .ref se), (1, .int fiq), (2, .int 2)]) (fun z => []) (fun z => [(se, ob 6 [.int hn, .int np, .int 0, .ref afr, .ref aup, .ref axx, .ref ayy, .ref asx, .ref asy, .ref asz, .ref apu, .ref abe, .int z.2.2.2.1, .int z.2.2.2.2.1, .long z.2.2.2.2.2.1]), (afr, aI G 16 ffr), (aup, aI G 16 fup), (axx, aJ G 6 z.2.2.2.2.2.2.1), (ayy, aJ G 6 z.2.2.2.2.2.2.2), (asx, aJ G 96 fsx), (asy, aJ G 96 fsy), (asz, aJ G 16 fsz), (apu, aI G 16 z.2.1), (abe, aI G 16 z.2.2.1)]) (fun z => ((ffr i_.toInt.toNat).toInt ≤ z.1.toInt ∧ z.1.toInt ≤ (fup i_.toInt.toNat).toInt + 1) ∧ (∀ p, p < npi.toNat → z.2.2.2.2.2.2.1 p = fxx p + (z.2.1 i_.toInt.toNat).toInt64 * fsx (16 * p + i_.toInt.toNat) ∧ z.2.2.2.2.2.2.2 p = fyy p + (z.2.1 i_.toInt.toNat).toInt64 * fsy (16 * p + i_.toInt.toNat)) ∧ (∀ j, j < hni.toNat → j ≠ i_.toInt.toNat → z.2.1 j = fpu j) ∧ ((ffr i_.toInt.toNat).toInt ≤ (z.2.1 i_.toInt.toNat).toInt ∧ (z.2.1 i_.toInt.toNat).toInt ≤ (fup i_.toInt.toNat).toInt) ∧ (LW (CC npi.toNat) lc.toInt z.2.2.2.2.2.1.toInt (NzL (stC npi.toNat fsx fsy) (fun j => (ffr j).toInt) (fun j => (fup j).toInt) hni.toNat fii.toNat i_.toInt.toNat 2 (trn npi.toNat fxx, trn npi.toNat fyy) z.1.toInt))) (fun z => ((fup i_.toInt.toNat).toInt + 1 - z.1.toInt).toNat) ((ffr i_.toNatClampNeg), gpO, gbO, ozO, foO, lcO, gxO, gyO) ?_ ?_
      ·
        rintro ⟨w_, gp, gb, oz_, fo_, lc_, gx, gy⟩ ⟨hw_, hxI, hpI, hgI, hWI⟩ ih41
        dsimp only at *
        refine z_run X br_X6_dig_41_44 kr_X6_dig_41_44 (lv' := [(4, .int w_), (3, .int i_), (0, .ref se), (1, .int fiq), (2, .int 2)]) (st' := [.ref se, .int w_]) rfl ?_
        refine z_get X fl_6_15 dr_X6_dig_44 0 rfl (v := .ref aup) rfl ?_
        refine z_run X br_X6_dig_47_48 kr_X6_dig_47_48 (lv' := [(4, .int w_), (3, .int i_), (0, .ref se), (1, .int fiq), (2, .int 2)]) (st' := [.int i_, .ref aup, .int w_]) rfl ?_
        refine z_iald X dr_X6_dig_48 2 rfl (vin rfl (by omega) (by omega)) (v := (fup i_.toNatClampNeg)) rfl ?_
        refine zc_gt X dr_X6_dig_49 (tgt := 88) (by decide) (a := w_.toInt) (b := (fup i_.toNatClampNeg).toInt) rfl rfl (fun c49_4 => ?_) (fun c49_4 => ?_)
        ·
          have c49b_ : (fup i_.toInt.toNat).toInt < w_.toInt := (show (fup i_.toNatClampNeg).toInt < w_.toInt by omega)
          refine z_run X br_X6_dig_88_91 kr_X6_dig_88_91 (lv' := [(4, .int w_), (3, .int i_), (0, .ref se), (1, .int fiq), (2, .int 2)]) (st' := [.int 0, .int i_, .ref se]) rfl ?_
          refine z_callV X k_6_81 (cr_X6_layS l G se hn np afr aup axx ayy asx asy asz apu abe oz_ fo_ lc_ gx gy fsx fsy gp i_ 0 npi i_.toInt 0 hnp rfl (show (0 : Int32).toInt = 0 from by decide) (by omega) (by omega)) dr_X6_dig_91 0 rfl rfl rfl ⟨Nat.le_of_ble_eq_true rfl, Nat.le_of_ble_eq_true rfl⟩ ⟨Nat.le_of_ble_eq_true rfl, Nat.le_of_ble_eq_true rfl⟩ rfl (rest := []) (As := [.int i_, .int 0]) rfl (Nat.le_of_ble_eq_true rfl) [0, 3, 4, 5, 6, 8] [1, 2, 7, 9] rfl (by decide) (wr := [(afr, aI G 16 ffr), (aup, aI G 16 fup), (asz, aJ G 16 fsz), (abe, aI G 16 gb)]) rfl (by decide) (by decide) ?_
          rintro _ _ ⟨fxx2_5, fyy2_6, fpu2_7, oz2_8, f91_9, f91_10, rfl, rfl⟩
          refine Z.at (pc' := 94) (st' := []) (ws' := [(afr, aI G 16 ffr), (aup, aI G 16 fup), (asz, aJ G 16 fsz), (abe, aI G 16 gb), (se, ob 6 [.int hn, .int np, .int 0, .ref afr, .ref aup, .ref axx, .ref ayy, .ref asx, .ref asy, .ref asz, .ref apu, .ref abe, .int oz2_8, .int fo_, .long lc_]), (axx, aJ G 6 fxx2_5), (ayy, aJ G 6 fyy2_6), (asx, aJ G 96 fsx), (asy, aJ G 96 fsy), (apu, aI G 16 fpu2_7)]) (kc' := 0) (ks' := 0) rfl rfl rfl rfl rfl ?_
          refine z_run X br_X6_dig_94_97 kr_X6_dig_94_97 (lv' := [(3, .int (i_ + 1)), (4, .int w_), (0, .ref se), (1, .int fiq), (2, .int 2)]) (st' := []) rfl ?_
          refine z_goto X dr_X6_dig_97 (tgt := 25) (by decide) ?_
          refine Z.sub (lv' := [(3, .int (i_ + 1)), (0, .ref se), (1, .int fiq), (2, .int 2)]) [0, 2, 3, 4] rfl [4, 0, 1, 5, 6, 7, 8, 2, 9, 3] (ws' := [(se, ob 6 [.int hn, .int np, .int 0, .ref afr, .ref aup, .ref axx, .ref ayy, .ref asx, .ref asy, .ref asz, .ref apu, .ref abe, .int oz2_8, .int fo_, .long lc_]), (afr, aI G 16 ffr), (aup, aI G 16 fup), (axx, aJ G 6 fxx2_5), (ayy, aJ G 6 fyy2_6), (asx, aJ G 96 fsx), (asy, aJ G 96 fsy), (asz, aJ G 16 fsz), (apu, aI G 16 fpu2_7), (abe, aI G 16 gb)]) rfl (by decide) ?_
          exact ih25 ((i_ + 1), fpu2_7, gb, oz2_8, fo_, lc_, fxx2_5, fyy2_6) ⟨(by (try dsimp only); have e : (i_ + 1).toInt = i_.toInt + 1 := tI_add rfl (show (1 : Int32).toInt = 1 from by decide) (by omega); omega), (by (try dsimp only); have hl_ := hlh _ (show i_.toInt.toNat < hni.toNat by omega); exact fun p hp => ⟨((f91_9 p hp).1.trans (lay_w (a := gp i_.toInt.toNat) (by omega) (by decide) (hxI p hp).1)).trans lay_0, ((f91_9 p hp).2.trans (lay_w (a := gp i_.toInt.toNat) (by omega) (by decide) (hxI p hp).2)).trans lay_0⟩), (by (try dsimp only); intro j hj; rw [f91_10]; by_cases e9 : j = i_.toNatClampNeg; (subst e9; exact (upd_at (k := i_.toNatClampNeg)).trans (hp0 _ (show fii ≤ ((i_.toInt.toNat : Nat) : Int) by omega) hj).symm); (rw [upd_off e9]; exact hpI j hj e9)), (by (try dsimp only); have e : (i_ + 1).toInt = i_.toInt + 1 := tI_add rfl (show (1 : Int32).toInt = 1 from by decide) (by omega); rw [e, show (i_.toInt + 1).toNat = i_.toInt.toNat + 1 by omega]; exact hWI.next (by omega) (by have h9 := c49_4; show w_.toInt = (fup i_.toInt.toNat).toInt + 1; omega))⟩ (by (try dsimp only); have e : (i_ + 1).toInt = i_.toInt + 1 := tI_add rfl (show (1 : Int32).toInt = 1 from by decide) (by omega); omega)
        ·
          have c49b_ : w_.toInt ≤ (fup i_.toInt.toNat).toInt := (show w_.toInt ≤ (fup i_.toNatClampNeg).toInt by omega)
          refine z_run X br_X6_dig_52_54 kr_X6_dig_52_54 (lv' := [(4, .int w_), (3, .int i_), (0, .ref se), (1, .int fiq), (2, .int 2)]) (st' := [.int w_]) rfl ?_
          refine zi_eq X dr_X6_dig_54 (tgt := 82) (by decide) (a := w_.toInt) rfl (fun c54_11 => ?_) (fun c54_11 => ?_)
          ·
            refine z_run X br_X6_dig_82_85 kr_X6_dig_82_85 (lv' := [(4, .int (w_ + 1)), (3, .int i_), (0, .ref se), (1, .int fiq), (2, .int 2)]) (st' := []) rfl ?_
            refine z_goto X dr_X6_dig_85 (tgt := 41) (by decide) ?_
            exact ih41 ((w_ + 1), gp, gb, oz_, fo_, lc_, gx, gy) ⟨(by (try dsimp only); have ew : (w_ + 1).toInt = w_.toInt + 1 := tI_add rfl (show (1 : Int32).toInt = 1 from by decide) (by have hl_ := (hlh _ (show i_.toInt.toNat < hni.toNat by omega)); omega); omega), hxI, hpI, hgI, (by (try dsimp only); have ew : (w_ + 1).toInt = w_.toInt + 1 := tI_add rfl (show (1 : Int32).toInt = 1 from by decide) (by have hl_ := (hlh _ (show i_.toInt.toNat < hni.toNat by omega)); omega); rw [ew]; exact hWI.skip c54_11)⟩ (by (try dsimp only); have ew : (w_ + 1).toInt = w_.toInt + 1 := tI_add rfl (show (1 : Int32).toInt = 1 from by decide) (by have hl_ := (hlh _ (show i_.toInt.toNat < hni.toNat by omega)); omega); omega)
          ·
            refine z_run X br_X6_dig_57_61 kr_X6_dig_57_61 (lv' := [(4, .int w_), (3, .int i_), (0, .ref se), (1, .int fiq), (2, .int 2)]) (st' := [.int w_, .int i_, .ref se]) rfl ?_
            refine z_callV X k_6_81 (cr_X6_layS l G se hn np afr aup axx ayy asx asy asz apu abe oz_ fo_ lc_ gx gy fsx fsy gp i_ w_ npi i_.toInt w_.toInt hnp rfl rfl (by omega) (by omega)) dr_X6_dig_61 0 rfl rfl rfl ⟨Nat.le_of_ble_eq_true rfl, Nat.le_of_ble_eq_true rfl⟩ ⟨Nat.le_of_ble_eq_true rfl, Nat.le_of_ble_eq_true rfl⟩ rfl (rest := []) (As := [.int i_, .int w_]) rfl (Nat.le_of_ble_eq_true rfl) [0, 3, 4, 5, 6, 8] [1, 2, 7, 9] rfl (by decide) (wr := [(afr, aI G 16 ffr), (aup, aI G 16 fup), (asz, aJ G 16 fsz), (abe, aI G 16 gb)]) rfl (by decide) (by decide) ?_
            rintro _ _ ⟨fxx2_12, fyy2_13, fpu2_14, oz2_15, f61_16, f61_17, rfl, rfl⟩
            refine Z.at (pc' := 64) (st' := []) (ws' := [(afr, aI G 16 ffr), (aup, aI G 16 fup), (asz, aJ G 16 fsz), (abe, aI G 16 gb), (se, ob 6 [.int hn, .int np, .int 0, .ref afr, .ref aup, .ref axx, .ref ayy, .ref asx, .ref asy, .ref asz, .ref apu, .ref abe, .int oz2_15, .int fo_, .long lc_]), (axx, aJ G 6 fxx2_12), (ayy, aJ G 6 fyy2_13), (asx, aJ G 96 fsx), (asy, aJ G 96 fsy), (apu, aI G 16 fpu2_14)]) (kc' := 0) (ks' := 0) rfl rfl rfl rfl rfl ?_
            refine z_run X br_X6_dig_64_66 kr_X6_dig_64_66 (lv' := [(4, .int w_), (3, .int i_), (0, .ref se), (1, .int fiq), (2, .int 2)]) (st' := [.ref se, .ref se]) rfl ?_
            refine z_callV X k_6_65 (cr_X6_costNowS l G se hn np afr aup axx ayy asx asy asz apu abe oz2_15 fo_ lc_ fxx2_12 fyy2_13 npi hnp (by omega)) dr_X6_dig_66 4 rfl rfl rfl ⟨Nat.le_of_ble_eq_true rfl, Nat.le_of_ble_eq_true rfl⟩ ⟨Nat.le_of_ble_eq_true rfl, Nat.le_of_ble_eq_true rfl⟩ rfl (rest := [.ref se]) (As := []) rfl (Nat.le_of_ble_eq_true rfl) [4, 5, 6] [0, 1, 2, 3, 7, 8, 9] rfl (by decide) (wr := [(afr, aI G 16 ffr), (aup, aI G 16 fup), (asz, aJ G 16 fsz), (abe, aI G 16 gb), (asx, aJ G 96 fsx), (asy, aJ G 96 fsy), (apu, aI G 16 fpu2_14)]) rfl (by decide) (by decide) ?_
            rintro _ _ ⟨rz_18, f66_19, rfl, rfl⟩
            refine Z.at (pc' := 69) (st' := [.long rz_18, .ref se]) (ws' := [(afr, aI G 16 ffr), (aup, aI G 16 fup), (asz, aJ G 16 fsz), (abe, aI G 16 gb), (asx, aJ G 96 fsx), (asy, aJ G 96 fsy), (apu, aI G 16 fpu2_14), (se, ob 6 [.int hn, .int np, .int 0, .ref afr, .ref aup, .ref axx, .ref ayy, .ref asx, .ref asy, .ref asz, .ref apu, .ref abe, .int oz2_15, .int fo_, .long lc_]), (axx, aJ G 6 fxx2_12), (ayy, aJ G 6 fyy2_13)]) (kc' := 0) (ks' := 0) rfl rfl rfl rfl rfl ?_
            refine z_callV X k_6_84 (cr_X6_offerS l G se hn np afr aup axx ayy asx asy asz apu abe oz2_15 fo_ lc_ fpu2_14 gb rz_18 hni hhn (by omega)) dr_X6_dig_69 7 rfl rfl rfl ⟨Nat.le_of_ble_eq_true rfl, Nat.le_of_ble_eq_true rfl⟩ ⟨Nat.le_of_ble_eq_true rfl, Nat.le_of_ble_eq_true rfl⟩ rfl (rest := []) (As := [.long rz_18]) rfl (Nat.le_of_ble_eq_true rfl) [7, 6, 3] [0, 1, 2, 4, 5, 8, 9] rfl (by decide) (wr := [(afr, aI G 16 ffr), (aup, aI G 16 fup), (asz, aJ G 16 fsz), (asx, aJ G 96 fsx), (asy, aJ G 96 fsy), (axx, aJ G 6 fxx2_12), (ayy, aJ G 6 fyy2_13)]) rfl (by decide) (by decide) ?_
            rintro _ _ ⟨fo2_20, lc2_21, fbe2_22, f69_23, rfl, rfl⟩
            refine Z.at (pc' := 72) (st' := []) (ws' := [(afr, aI G 16 ffr), (aup, aI G 16 fup), (asz, aJ G 16 fsz), (asx, aJ G 96 fsx), (asy, aJ G 96 fsy), (axx, aJ G 6 fxx2_12), (ayy, aJ G 6 fyy2_13), (se, ob 6 [.int hn, .int np, .int 0, .ref afr, .ref aup, .ref axx, .ref ayy, .ref asx, .ref asy, .ref asz, .ref apu, .ref abe, .int oz2_15, .int fo2_20, .long lc2_21]), (apu, aI G 16 fpu2_14), (abe, aI G 16 fbe2_22)]) (kc' := 0) (ks' := 0) rfl rfl rfl rfl rfl ?_
            have hI_ : i_.toInt.toNat < hni.toNat := (by omega)
            have hl_ := hlh _ hI_
            have hs_ := hst _ hI_
            have hx9_ : ∀ p, p < npi.toNat → fxx2_12 p = fxx p + w_.toInt64 * fsx (16 * p + i_.toInt.toNat) ∧ fyy2_13 p = fyy p + w_.toInt64 * fsy (16 * p + i_.toInt.toNat) := fun p hp => ⟨(f61_16 p hp).1.trans (lay_w (a := gp i_.toInt.toNat) (by omega) (by omega) (hxI p hp).1), (f61_16 p hp).2.trans (lay_w (a := gp i_.toInt.toNat) (by omega) (by omega) (hxI p hp).2)⟩
            have hbx_ : bdd 98000000 npi.toNat fxx2_12 := fun p hp => by rw [(hx9_ p hp).1, i64_of]; exact mv_B (by decide) (hx p hp) (hs_.1 p hp) (by omega)
            have hby_ : bdd 98000000 npi.toNat fyy2_13 := fun p hp => by rw [(hx9_ p hp).2, i64_of]; exact mv_B (by decide) (hy p hp) (hs_.2.1 p hp) (by omega)
            have hpa_ : fpu2_14 i_.toInt.toNat = w_ := (congrFun f61_17 _).trans (upd_at (k := i_.toNatClampNeg))
            have hpb_ : ∀ j, j < hni.toNat → j ≠ i_.toInt.toNat → fpu2_14 j = fpu j := fun j hj hne => (congrFun f61_17 j).trans ((upd_off (show j ≠ i_.toNatClampNeg from hne)).trans (hpI j hj hne))
            have hm9_ : lc2_21.toInt ≤ (cs fxx2_12 fyy2_13 npi.toNat).toInt := (by have z := if_le f69_23; rw [← f66_19]; exact z.1)
            have e19_ : (i_ + 1).toInt = i_.toInt + 1 := tI_add rfl (show (1 : Int32).toInt = 1 from by decide) (by omega)
            have hq9_ : ∀ j : Nat, i_.toInt + 1 ≤ (j : Int) → j < hni.toNat → fpu2_14 j = 0 := fun j h1 h2 => (hpb_ j h2 (by omega)).trans (hp0 j (by omega) h2)
            refine z_run X br_X6_dig_72_79 kr_X6_dig_72_79 (lv' := [(4, .int w_), (3, .int i_), (0, .ref se), (1, .int fiq), (2, .int 2)]) (st' := [.int 1, .int (i_ + 1), .ref se]) rfl ?_
            refine z_callV X k_6_73 (cr_X6_digS1 l G se hn np afr aup axx ayy asx asy asz apu abe oz2_15 fo2_20 lc2_21 ffr fup fxx2_12 fyy2_13 fsx fsy fsz fpu2_14 fbe2_22 (i_ + 1) hni npi ((i_.toInt + 1)) hhn hnp (tI_add rfl (show (1 : Int32).toInt = 1 from by decide) (by omega)) (by omega) (by omega) hbx_ hby_ hst hlh hm9_ (by omega) hq9_) dr_X6_dig_79 7 rfl rfl rfl ⟨Nat.le_of_ble_eq_true rfl, Nat.le_of_ble_eq_true rfl⟩ ⟨Nat.le_of_ble_eq_true rfl, Nat.le_of_ble_eq_true rfl⟩ rfl (rest := []) (As := [.int (i_ + 1), .int 1]) rfl (Nat.le_of_ble_eq_true rfl) [7, 0, 1, 5, 6, 3, 4, 2, 8, 9] [] rfl (by decide) (wr := []) rfl (by decide) (by decide) ?_
            rintro _ _ ⟨fpu2_24, fbe2_25, oz2_26, fo2_27, lc2_28, f79_29, f79_30, rfl, rfl⟩
            refine Z.at (pc' := 82) (st' := []) (ws' := [(se, ob 6 [.int hn, .int np, .int 0, .ref afr, .ref aup, .ref axx, .ref ayy, .ref asx, .ref asy, .ref asz, .ref apu, .ref abe, .int oz2_26, .int fo2_27, .long lc2_28]), (afr, aI G 16 ffr), (aup, aI G 16 fup), (axx, aJ G 6 fxx2_12), (ayy, aJ G 6 fyy2_13), (asx, aJ G 96 fsx), (asy, aJ G 96 fsy), (asz, aJ G 16 fsz), (apu, aI G 16 fpu2_24), (abe, aI G 16 fbe2_25)]) (kc' := 0) (ks' := 0) rfl rfl rfl rfl rfl ?_
            refine z_run X br_X6_dig_82_85 kr_X6_dig_82_85 (lv' := [(4, .int (w_ + 1)), (3, .int i_), (0, .ref se), (1, .int fiq), (2, .int 2)]) (st' := []) rfl ?_
            refine z_goto X dr_X6_dig_85 (tgt := 41) (by decide) ?_
            exact ih41 ((w_ + 1), fpu2_24, fbe2_25, oz2_26, fo2_27, lc2_28, fxx2_12, fyy2_13) ⟨(by (try dsimp only); have ew : (w_ + 1).toInt = w_.toInt + 1 := tI_add rfl (show (1 : Int32).toInt = 1 from by decide) (by have hl_ := (hlh _ (show i_.toInt.toNat < hni.toNat by omega)); omega); omega), (by (try dsimp only); have hpw_ : fpu2_24 i_.toInt.toNat = w_ := (f79_29 _ (show i_.toInt.toNat < hni.toNat by omega)).trans hpa_; exact (fun p hp => by rw [hpw_]; exact hx9_ p hp)), (fun j hj hne => (f79_29 j hj).trans (hpb_ j hj hne)), (by (try dsimp only); have hpw_ : fpu2_24 i_.toInt.toNat = w_ := (f79_29 _ (show i_.toInt.toNat < hni.toNat by omega)).trans hpa_; rw [hpw_]; omega), (by (try dsimp only); have ew : (w_ + 1).toInt = w_.toInt + 1 := tI_add rfl (show (1 : Int32).toInt = 1 from by decide) (by have hl_ := (hlh _ (show i_.toInt.toNat < hni.toNat by omega)); omega); rw [ew]; exact dig_step (k := 2) (k' := 1) (m2 := lc2_21.toInt) (by decide) (show (i_.toInt + 1).toNat = i_.toInt.toNat + 1 by omega) (fun j hj => ⟨(hlh j hj).1.2, (hlh j hj).2.1⟩) (show i_.toInt.toNat < hni.toNat by omega) (by decide) hw_.1 c54_11 hx9_ hWI (by rw [← f66_19]; exact f69_23) f79_30)⟩ (by (try dsimp only); have ew : (w_ + 1).toInt = w_.toInt + 1 := tI_add rfl (show (1 : Int32).toInt = 1 from by decide) (by have hl_ := (hlh _ (show i_.toInt.toNat < hni.toNat by omega)); omega); omega)
      · exact ⟨(by (try dsimp only); have hl_ := hlh _ (show i_.toInt.toNat < hni.toNat by omega); show (ffr i_.toInt.toNat).toInt ≤ (ffr i_.toInt.toNat).toInt ∧ (ffr i_.toInt.toNat).toInt ≤ (fup i_.toInt.toNat).toInt + 1; omega), (by (try dsimp only); have hI_ : i_.toInt.toNat < hni.toNat := (by omega); have h9 : gpO i_.toInt.toNat = 0 := (hpO _ hI_).trans (hp0 _ (by omega) hI_); intro p hp; rw [h9, lay_0, lay_0]; exact hxO p hp), (fun j hj _ => hpO j hj), (by (try dsimp only); have hI_ : i_.toInt.toNat < hni.toNat := (by omega); have h9 : gpO i_.toInt.toNat = 0 := (hpO _ hI_).trans (hp0 _ (by omega) hI_); have hl_ := hlh _ hI_; rw [h9]; have z0 : (0 : Int32).toInt = 0 := (by decide); omega), (by (try dsimp only); exact hWO)⟩
  · exact ⟨(by (try dsimp only); omega), (fun _ _ => ⟨rfl, rfl⟩), (fun _ _ => rfl), (by (try dsimp only); rw [show fiq.toInt.toNat = fii.toNat by rw [hfiq]]; exact LW.start)⟩

set_option maxHeartbeats 4000000 in
set_option maxRecDepth 100000 in
theorem cr_X6_digS3 (l : Launch) (G : KG) (se : Nat) (hn : Int32) (np : Int32) (afr : Nat) (aup : Nat) (axx : Nat) (ayy : Nat) (asx : Nat) (asy : Nat) (asz : Nat) (apu : Nat) (abe : Nat) (oz : Int32) (fo : Int32) (lc : Int64) (ffr : Nat → Int32) (fup : Nat → Int32) (fxx : Nat → Int64) (fyy : Nat → Int64) (fsx : Nat → Int64) (fsy : Nat → Int64) (fsz : Nat → Int64) (fpu : Nat → Int32) (fbe : Nat → Int32) (fiq : Int32) (hni : Int) (npi : Int) (fii : Int) (hhn : hn.toInt = hni) (hnp : np.toInt = npi) (hfiq : fiq.toInt = fii) (hn0 : 0 ≤ hni ∧ hni ≤ 16) (np0 : 0 ≤ npi ∧ npi ≤ 6) (hx : bdd 94000000 npi.toNat fxx) (hy : bdd 94000000 npi.toNat fyy) (hst : ∀ j, j < hni.toNat → bdd 10000 npi.toNat (at16 fsx j) ∧ bdd 10000 npi.toNat (at16 fsy j) ∧ fsz j = cs (at16 fsx j) (at16 fsy j) npi.toNat) (hlh : ∀ j, j < hni.toNat → (-200 ≤ (ffr j).toInt ∧ (ffr j).toInt ≤ 0) ∧ 0 ≤ (fup j).toInt ∧ (fup j).toInt ≤ 200) (hm : lc.toInt ≤ (cs fxx fyy npi.toNat).toInt) (hf0 : 0 ≤ fii ∧ fii ≤ hni) (hp0 : ∀ j : Nat, fii ≤ (j : Int) → j < hni.toNat → fpu j = 0) : Ct l G yX6_dig cX6_dig 5 none { frames := 5, cells := 0, slots := 0, locals := 132 } [.ref se, .int fiq, .int 3] [(se, ob 6 [.int hn, .int np, .int 0, .ref afr, .ref aup, .ref axx, .ref ayy, .ref asx, .ref asy, .ref asz, .ref apu, .ref abe, .int oz, .int fo, .long lc]), (afr, aI G 16 ffr), (aup, aI G 16 fup), (axx, aJ G 6 fxx), (ayy, aJ G 6 fyy), (asx, aJ G 96 fsx), (asy, aJ G 96 fsy), (asz, aJ G 16 fsz), (apu, aI G 16 fpu), (abe, aI G 16 fbe)] (fun r w1 => ∃ (fxx2 : Nat → Int64), ∃ (fyy2 : Nat → Int64), ∃ (fpu2 : Nat → Int32), ∃ (fbe2 : Nat → Int32), ∃ (oz2 : Int32), ∃ (fo2 : Int32), ∃ (lc2 : Int64), (∀ p, p < npi.toNat → fxx2 p = fxx p ∧ fyy2 p = fyy p) ∧ (∀ j, j < hni.toNat → fpu2 j = fpu j) ∧ (LW (CC npi.toNat) lc.toInt lc2.toInt (Nz (stC npi.toNat fsx fsy) (fun j => (ffr j).toInt) (fun j => (fup j).toInt) hni.toNat fii.toNat 3 (trn npi.toNat fxx, trn npi.toNat fyy))) ∧ r = none ∧ w1 = [(se, ob 6 [.int hn, .int np, .int 0, .ref afr, .ref aup, .ref axx, .ref ayy, .ref asx, .ref asy, .ref asz, .ref apu, .ref abe, .int oz2, .int fo2, .long lc2]), (afr, aI G 16 ffr), (aup, aI G 16 fup), (axx, aJ G 6 fxx2), (ayy, aJ G 6 fyy2), (asx, aJ G 96 fsx), (asy, aJ G 96 fsy), (asz, aJ G 16 fsz), (apu, aI G 16 fpu2), (abe, aI G 16 fbe2)]) := by
  refine ct_of [(0, .ref se), (1, .int fiq), (2, .int 3)] (by decide) (Nat.le_of_ble_eq_true rfl) rfl ?_
  intro p0 e0 s0 m0 args0 below0 meth0 c0 A X
  refine z_run X br_X6_dig_0_1 kr_X6_dig_0_1 (lv' := [(0, .ref se), (1, .int fiq), (2, .int 3)]) (st' := [.int 3]) rfl ?_
  refine zi_gt X dr_X6_dig_1 (tgt := 5) (by decide) (a := 3) (show (3 : Int32).toInt = 3 from by decide) (fun _ => ?_) (fun c1_1 => absurd c1_1 (by decide))
  refine z_run X br_X6_dig_5_7 kr_X6_dig_5_7 (lv' := [(0, .ref se), (1, .int fiq), (2, .int 3)]) (st' := [.int 1, .int 3]) rfl ?_
  refine zc_ne X dr_X6_dig_7 (tgt := 23) (by decide) (a := 3) (b := 1) (show (3 : Int32).toInt = 3 from by decide) (show (1 : Int32).toInt = 1 from by decide) (fun _ => ?_) (fun c7_2 => absurd c7_2 (by decide))
  refine z_run X br_X6_dig_23_25 kr_X6_dig_23_25 (lv' := [(3, .int fiq), (0, .ref se), (1, .int fiq), (2, .int 3)]) (st' := []) rfl ?_
  refine zloop (σ := Int32 × (Nat → Int32) × (Nat → Int32) × Int32 × Int32 × Int64 × (Nat → Int64) × (Nat → Int64)) (fun z => [(3, .int z.1), (0, .ref se), (1, .int fiq), (2, .int 3)]) (fun z => []) (fun z => [(se, ob 6 [.int hn, .int np, .int 0, .ref afr, .ref aup, .ref axx, .ref ayy, .ref asx, .ref asy, .ref asz, .ref apu, .ref abe, .int z.2.2.2.1, .int z.2.2.2.2.1, .long z.2.2.2.2.2.1]), (afr, aI G 16 ffr), (aup, aI G 16 fup), (axx, aJ G 6 z.2.2.2.2.2.2.1), (ayy, aJ G 6 z.2.2.2.2.2.2.2), (asx, aJ G 96 fsx), (asy, aJ G 96 fsy), (asz, aJ G 16 fsz), (apu, aI G 16 z.2.1), (abe, aI G 16 z.2.2.1)]) (fun z => (fii ≤ z.1.toInt ∧ z.1.toInt ≤ hni) ∧ (∀ p, p < npi.toNat → z.2.2.2.2.2.2.1 p = fxx p ∧ z.2.2.2.2.2.2.2 p = fyy p) ∧ (∀ j, j < hni.toNat → z.2.1 j = fpu j) ∧ (LW (CC npi.toNat) lc.toInt z.2.2.2.2.2.1.toInt (NzL (stC npi.toNat fsx fsy) (fun j => (ffr j).toInt) (fun j => (fup j).toInt) hni.toNat fii.toNat z.1.toInt.toNat 3 (trn npi.toNat fxx, trn npi.toNat fyy) (ffr z.1.toInt.toNat).toInt))) (fun z => (hni - z.1.toInt).toNat) (fiq, fpu, fbe, oz, fo, lc, fxx, fyy) ?_ ?_
  ·
    rintro ⟨i_, gpO, gbO, ozO, foO, lcO, gxO, gyO⟩ ⟨hi, hxO, hpO, hWO⟩ ih25
    dsimp only at *
    refine z_run X br_X6_dig_25_27 kr_X6_dig_25_27 (lv' := [(3, .int i_), (0, .ref se), (1, .int fiq), (2, .int 3)]) (st' := [.ref se, .int i_]) rfl ?_
    refine z_get X fl_6_40 dr_X6_dig_27 0 rfl (v := .int hn) rfl ?_
    refine zc_ge X dr_X6_dig_30 (tgt := 100) (by decide) (a := i_.toInt) (b := hni) rfl hhn (fun c30_3 => ?_) (fun c30_3 => ?_)
    ·
      exact z_vret X rfl dr_X6_dig_100 (Nat.le_of_ble_eq_true rfl) (Nat.le_of_ble_eq_true rfl) ⟨gxO, gyO, gpO, gbO, ozO, foO, lcO, hxO, hpO, (hWO.stop (by omega) rfl), rfl, rfl⟩
    ·
      refine z_run X br_X6_dig_33_34 kr_X6_dig_33_34 (lv' := [(3, .int i_), (0, .ref se), (1, .int fiq), (2, .int 3)]) (st' := [.ref se]) rfl ?_
      refine z_get X fl_6_9 dr_X6_dig_34 0 rfl (v := .ref afr) rfl ?_
      refine z_run X br_X6_dig_37_38 kr_X6_dig_37_38 (lv' := [(3, .int i_), (0, .ref se), (1, .int fiq), (2, .int 3)]) (st' := [.int i_, .ref afr]) rfl ?_
      refine z_iald X dr_X6_dig_38 1 rfl (vin rfl (by omega) (by omega)) (v := (ffr i_.toNatClampNeg)) rfl ?_
      refine z_run X br_X6_dig_39_41 kr_X6_dig_39_41 (lv' := [(4, .int (ffr i_.toNatClampNeg)), (3, .int i_), (0, .ref se), (1, .int fiq), (2, .int 3)]) (st' := []) rfl ?_
      refine zloop (σ := Int32 × (Nat → Int32) × (Nat → Int32) × Int32 × Int32 × Int64 × (Nat → Int64) × (Nat → Int64)) (fun z => [(4, .int z.1), (3, .int i_), (0, .ref se), (1, .int fiq), (2, .int 3)]) (fun z => []) (fun z => [(se, ob 6 [.int hn, .int np, .int 0, .ref afr, .ref aup, .ref axx, .ref ayy, .ref asx, .ref asy, .ref asz, .ref apu, .ref abe, .int z.2.2.2.1, .int z.2.2.2.2.1, .long z.2.2.2.2.2.1]), (afr, aI G 16 ffr), (aup, aI G 16 fup), (axx, aJ G 6 z.2.2.2.2.2.2.1), (ayy, aJ G 6 z.2.2.2.2.2.2.2), (asx, aJ G 96 fsx), (asy, aJ G 96 fsy), (asz, aJ G 16 fsz), (apu, aI G 16 z.2.1), (abe, aI G 16 z.2.2.1)]) (fun z => ((ffr i_.toInt.toNat).toInt ≤ z.1.toInt ∧ z.1.toInt ≤ (fup i_.toInt.toNat).toInt + 1) ∧ (∀ p, p < npi.toNat → z.2.2.2.2.2.2.1 p = fxx p + (z.2.1 i_.toInt.toNat).toInt64 * fsx (16 * p + i_.toInt.toNat) ∧ z.2.2.2.2.2.2.2 p = fyy p + (z.2.1 i_.toInt.toNat).toInt64 * fsy (16 * p + i_.toInt.toNat)) ∧ (∀ j, j < hni.toNat → j ≠ i_.toInt.toNat → z.2.1 j = fpu j) ∧ ((ffr i_.toInt.toNat).toInt ≤ (z.2.1 i_.toInt.toNat).toInt ∧ (z.2.1 i_.toInt.toNat).toInt ≤ (fup i_.toInt.toNat).toInt) ∧ (LW (CC npi.toNat) lc.toInt z.2.2.2.2.2.1.toInt (NzL (stC npi.toNat fsx fsy) (fun j => (ffr j).toInt) (fun j => (fup j).toInt) hni.toNat fii.toNat i_.toInt.toNat 3 (trn npi.toNat fxx, trn npi.toNat fyy) z.1.toInt))) (fun z => ((fup i_.toInt.toNat).toInt + 1 - z.1.toInt).toNat) ((ffr i_.toNatClampNeg), gpO, gbO, ozO, foO, lcO, gxO, gyO) ?_ ?_
      ·
        rintro ⟨w_, gp, gb, oz_, fo_, lc_, gx, gy⟩ ⟨hw_, hxI, hpI, hgI, hWI⟩ ih41
        dsimp only at *
        refine z_run X br_X6_dig_41_44 kr_X6_dig_41_44 (lv' := [(4, .int w_), (3, .int i_), (0, .ref se), (1, .int fiq), (2, .int 3)]) (st' := [.ref se, .int w_]) rfl ?_
        refine z_get X fl_6_15 dr_X6_dig_44 0 rfl (v := .ref aup) rfl ?_
        refine z_run X br_X6_dig_47_48 kr_X6_dig_47_48 (lv' := [(4, .int w_), (3, .int i_), (0, .ref se), (1, .int fiq), (2, .int 3)]) (st' := [.int i_, .ref aup, .int w_]) rfl ?_
        refine z_iald X dr_X6_dig_48 2 rfl (vin rfl (by omega) (by omega)) (v := (fup i_.toNatClampNeg)) rfl ?_
        refine zc_gt X dr_X6_dig_49 (tgt := 88) (by decide) (a := w_.toInt) (b := (fup i_.toNatClampNeg).toInt) rfl rfl (fun c49_4 => ?_) (fun c49_4 => ?_)
        ·
          have c49b_ : (fup i_.toInt.toNat).toInt < w_.toInt := (show (fup i_.toNatClampNeg).toInt < w_.toInt by omega)
          refine z_run X br_X6_dig_88_91 kr_X6_dig_88_91 (lv' := [(4, .int w_), (3, .int i_), (0, .ref se), (1, .int fiq), (2, .int 3)]) (st' := [.int 0, .int i_, .ref se]) rfl ?_
          refine z_callV X k_6_81 (cr_X6_layS l G se hn np afr aup axx ayy asx asy asz apu abe oz_ fo_ lc_ gx gy fsx fsy gp i_ 0 npi i_.toInt 0 hnp rfl (show (0 : Int32).toInt = 0 from by decide) (by omega) (by omega)) dr_X6_dig_91 0 rfl rfl rfl ⟨Nat.le_of_ble_eq_true rfl, Nat.le_of_ble_eq_true rfl⟩ ⟨Nat.le_of_ble_eq_true rfl, Nat.le_of_ble_eq_true rfl⟩ rfl (rest := []) (As := [.int i_, .int 0]) rfl (Nat.le_of_ble_eq_true rfl) [0, 3, 4, 5, 6, 8] [1, 2, 7, 9] rfl (by decide) (wr := [(afr, aI G 16 ffr), (aup, aI G 16 fup), (asz, aJ G 16 fsz), (abe, aI G 16 gb)]) rfl (by decide) (by decide) ?_
          rintro _ _ ⟨fxx2_5, fyy2_6, fpu2_7, oz2_8, f91_9, f91_10, rfl, rfl⟩
          refine Z.at (pc' := 94) (st' := []) (ws' := [(afr, aI G 16 ffr), (aup, aI G 16 fup), (asz, aJ G 16 fsz), (abe, aI G 16 gb), (se, ob 6 [.int hn, .int np, .int 0, .ref afr, .ref aup, .ref axx, .ref ayy, .ref asx, .ref asy, .ref asz, .ref apu, .ref abe, .int oz2_8, .int fo_, .long lc_]), (axx, aJ G 6 fxx2_5), (ayy, aJ G 6 fyy2_6), (asx, aJ G 96 fsx), (asy, aJ G 96 fsy), (apu, aI G 16 fpu2_7)]) (kc' := 0) (ks' := 0) rfl rfl rfl rfl rfl ?_
          refine z_run X br_X6_dig_94_97 kr_X6_dig_94_97 (lv' := [(3, .int (i_ + 1)), (4, .int w_), (0, .ref se), (1, .int fiq), (2, .int 3)]) (st' := []) rfl ?_
          refine z_goto X dr_X6_dig_97 (tgt := 25) (by decide) ?_
          refine Z.sub (lv' := [(3, .int (i_ + 1)), (0, .ref se), (1, .int fiq), (2, .int 3)]) [0, 2, 3, 4] rfl [4, 0, 1, 5, 6, 7, 8, 2, 9, 3] (ws' := [(se, ob 6 [.int hn, .int np, .int 0, .ref afr, .ref aup, .ref axx, .ref ayy, .ref asx, .ref asy, .ref asz, .ref apu, .ref abe, .int oz2_8, .int fo_, .long lc_]), (afr, aI G 16 ffr), (aup, aI G 16 fup), (axx, aJ G 6 fxx2_5), (ayy, aJ G 6 fyy2_6), (asx, aJ G 96 fsx), (asy, aJ G 96 fsy), (asz, aJ G 16 fsz), (apu, aI G 16 fpu2_7), (abe, aI G 16 gb)]) rfl (by decide) ?_
          exact ih25 ((i_ + 1), fpu2_7, gb, oz2_8, fo_, lc_, fxx2_5, fyy2_6) ⟨(by (try dsimp only); have e : (i_ + 1).toInt = i_.toInt + 1 := tI_add rfl (show (1 : Int32).toInt = 1 from by decide) (by omega); omega), (by (try dsimp only); have hl_ := hlh _ (show i_.toInt.toNat < hni.toNat by omega); exact fun p hp => ⟨((f91_9 p hp).1.trans (lay_w (a := gp i_.toInt.toNat) (by omega) (by decide) (hxI p hp).1)).trans lay_0, ((f91_9 p hp).2.trans (lay_w (a := gp i_.toInt.toNat) (by omega) (by decide) (hxI p hp).2)).trans lay_0⟩), (by (try dsimp only); intro j hj; rw [f91_10]; by_cases e9 : j = i_.toNatClampNeg; (subst e9; exact (upd_at (k := i_.toNatClampNeg)).trans (hp0 _ (show fii ≤ ((i_.toInt.toNat : Nat) : Int) by omega) hj).symm); (rw [upd_off e9]; exact hpI j hj e9)), (by (try dsimp only); have e : (i_ + 1).toInt = i_.toInt + 1 := tI_add rfl (show (1 : Int32).toInt = 1 from by decide) (by omega); rw [e, show (i_.toInt + 1).toNat = i_.toInt.toNat + 1 by omega]; exact hWI.next (by omega) (by have h9 := c49_4; show w_.toInt = (fup i_.toInt.toNat).toInt + 1; omega))⟩ (by (try dsimp only); have e : (i_ + 1).toInt = i_.toInt + 1 := tI_add rfl (show (1 : Int32).toInt = 1 from by decide) (by omega); omega)
        ·
          have c49b_ : w_.toInt ≤ (fup i_.toInt.toNat).toInt := (show w_.toInt ≤ (fup i_.toNatClampNeg).toInt by omega)
          refine z_run X br_X6_dig_52_54 kr_X6_dig_52_54 (lv' := [(4, .int w_), (3, .int i_), (0, .ref se), (1, .int fiq), (2, .int 3)]) (st' := [.int w_]) rfl ?_
          refine zi_eq X dr_X6_dig_54 (tgt := 82) (by decide) (a := w_.toInt) rfl (fun c54_11 => ?_) (fun c54_11 => ?_)
          ·
            refine z_run X br_X6_dig_82_85 kr_X6_dig_82_85 (lv' := [(4, .int (w_ + 1)), (3, .int i_), (0, .ref se), (1, .int fiq), (2, .int 3)]) (st' := []) rfl ?_
            refine z_goto X dr_X6_dig_85 (tgt := 41) (by decide) ?_
            exact ih41 ((w_ + 1), gp, gb, oz_, fo_, lc_, gx, gy) ⟨(by (try dsimp only); have ew : (w_ + 1).toInt = w_.toInt + 1 := tI_add rfl (show (1 : Int32).toInt = 1 from by decide) (by have hl_ := (hlh _ (show i_.toInt.toNat < hni.toNat by omega)); omega); omega), hxI, hpI, hgI, (by (try dsimp only); have ew : (w_ + 1).toInt = w_.toInt + 1 := tI_add rfl (show (1 : Int32).toInt = 1 from by decide) (by have hl_ := (hlh _ (show i_.toInt.toNat < hni.toNat by omega)); omega); rw [ew]; exact hWI.skip c54_11)⟩ (by (try dsimp only); have ew : (w_ + 1).toInt = w_.toInt + 1 := tI_add rfl (show (1 : Int32).toInt = 1 from by decide) (by have hl_ := (hlh _ (show i_.toInt.toNat < hni.toNat by omega)); omega); omega)
          ·
            refine z_run X br_X6_dig_57_61 kr_X6_dig_57_61 (lv' := [(4, .int w_), (3, .int i_), (0, .ref se), (1, .int fiq), (2, .int 3)]) (st' := [.int w_, .int i_, .ref se]) rfl ?_
            refine z_callV X k_6_81 (cr_X6_layS l G se hn np afr aup axx ayy asx asy asz apu abe oz_ fo_ lc_ gx gy fsx fsy gp i_ w_ npi i_.toInt w_.toInt hnp rfl rfl (by omega) (by omega)) dr_X6_dig_61 0 rfl rfl rfl ⟨Nat.le_of_ble_eq_true rfl, Nat.le_of_ble_eq_true rfl⟩ ⟨Nat.le_of_ble_eq_true rfl, Nat.le_of_ble_eq_true rfl⟩ rfl (rest := []) (As := [.int i_, .int w_]) rfl (Nat.le_of_ble_eq_true rfl) [0, 3, 4, 5, 6, 8] [1, 2, 7, 9] rfl (by decide) (wr := [(afr, aI G 16 ffr), (aup, aI G 16 fup), (asz, aJ G 16 fsz), (abe, aI G 16 gb)]) rfl (by decide) (by decide) ?_
            rintro _ _ ⟨fxx2_12, fyy2_13, fpu2_14, oz2_15, f61_16, f61_17, rfl, rfl⟩
            refine Z.at (pc' := 64) (st' := []) (ws' := [(afr, aI G 16 ffr), (aup, aI G 16 fup), (asz, aJ G 16 fsz), (abe, aI G 16 gb), (se, ob 6 [.int hn, .int np, .int 0, .ref afr, .ref aup, .ref axx, .ref ayy, .ref asx, .ref asy, .ref asz, .ref apu, .ref abe, .int oz2_15, .int fo_, .long lc_]), (axx, aJ G 6 fxx2_12), (ayy, aJ G 6 fyy2_13), (asx, aJ G 96 fsx), (asy, aJ G 96 fsy), (apu, aI G 16 fpu2_14)]) (kc' := 0) (ks' := 0) rfl rfl rfl rfl rfl ?_
            refine z_run X br_X6_dig_64_66 kr_X6_dig_64_66 (lv' := [(4, .int w_), (3, .int i_), (0, .ref se), (1, .int fiq), (2, .int 3)]) (st' := [.ref se, .ref se]) rfl ?_
            refine z_callV X k_6_65 (cr_X6_costNowS l G se hn np afr aup axx ayy asx asy asz apu abe oz2_15 fo_ lc_ fxx2_12 fyy2_13 npi hnp (by omega)) dr_X6_dig_66 4 rfl rfl rfl ⟨Nat.le_of_ble_eq_true rfl, Nat.le_of_ble_eq_true rfl⟩ ⟨Nat.le_of_ble_eq_true rfl, Nat.le_of_ble_eq_true rfl⟩ rfl (rest := [.ref se]) (As := []) rfl (Nat.le_of_ble_eq_true rfl) [4, 5, 6] [0, 1, 2, 3, 7, 8, 9] rfl (by decide) (wr := [(afr, aI G 16 ffr), (aup, aI G 16 fup), (asz, aJ G 16 fsz), (abe, aI G 16 gb), (asx, aJ G 96 fsx), (asy, aJ G 96 fsy), (apu, aI G 16 fpu2_14)]) rfl (by decide) (by decide) ?_
            rintro _ _ ⟨rz_18, f66_19, rfl, rfl⟩
            refine Z.at (pc' := 69) (st' := [.long rz_18, .ref se]) (ws' := [(afr, aI G 16 ffr), (aup, aI G 16 fup), (asz, aJ G 16 fsz), (abe, aI G 16 gb), (asx, aJ G 96 fsx), (asy, aJ G 96 fsy), (apu, aI G 16 fpu2_14), (se, ob 6 [.int hn, .int np, .int 0, .ref afr, .ref aup, .ref axx, .ref ayy, .ref asx, .ref asy, .ref asz, .ref apu, .ref abe, .int oz2_15, .int fo_, .long lc_]), (axx, aJ G 6 fxx2_12), (ayy, aJ G 6 fyy2_13)]) (kc' := 0) (ks' := 0) rfl rfl rfl rfl rfl ?_
            refine z_callV X k_6_84 (cr_X6_offerS l G se hn np afr aup axx ayy asx asy asz apu abe oz2_15 fo_ lc_ fpu2_14 gb rz_18 hni hhn (by omega)) dr_X6_dig_69 7 rfl rfl rfl ⟨Nat.le_of_ble_eq_true rfl, Nat.le_of_ble_eq_true rfl⟩ ⟨Nat.le_of_ble_eq_true rfl, Nat.le_of_ble_eq_true rfl⟩ rfl (rest := []) (As := [.long rz_18]) rfl (Nat.le_of_ble_eq_true rfl) [7, 6, 3] [0, 1, 2, 4, 5, 8, 9] rfl (by decide) (wr := [(afr, aI G 16 ffr), (aup, aI G 16 fup), (asz, aJ G 16 fsz), (asx, aJ G 96 fsx), (asy, aJ G 96 fsy), (axx, aJ G 6 fxx2_12), (ayy, aJ G 6 fyy2_13)]) rfl (by decide) (by decide) ?_
            rintro _ _ ⟨fo2_20, lc2_21, fbe2_22, f69_23, rfl, rfl⟩
            refine Z.at (pc' := 72) (st' := []) (ws' := [(afr, aI G 16 ffr), (aup, aI G 16 fup), (asz, aJ G 16 fsz), (asx, aJ G 96 fsx), (asy, aJ G 96 fsy), (axx, aJ G 6 fxx2_12), (ayy, aJ G 6 fyy2_13), (se, ob 6 [.int hn, .int np, .int 0, .ref afr, .ref aup, .ref axx, .ref ayy, .ref asx, .ref asy, .ref asz, .ref apu, .ref abe, .int oz2_15, .int fo2_20, .long lc2_21]), (apu, aI G 16 fpu2_14), (abe, aI G 16 fbe2_22)]) (kc' := 0) (ks' := 0) rfl rfl rfl rfl rfl ?_
            have hI_ : i_.toInt.toNat < hni.toNat := (by omega)
            have hl_ := hlh _ hI_
            have hs_ := hst _ hI_
            have hx9_ : ∀ p, p < npi.toNat → fxx2_12 p = fxx p + w_.toInt64 * fsx (16 * p + i_.toInt.toNat) ∧ fyy2_13 p = fyy p + w_.toInt64 * fsy (16 * p + i_.toInt.toNat) := fun p hp => ⟨(f61_16 p hp).1.trans (lay_w (a := gp i_.toInt.toNat) (by omega) (by omega) (hxI p hp).1), (f61_16 p hp).2.trans (lay_w (a := gp i_.toInt.toNat) (by omega) (by omega) (hxI p hp).2)⟩
            have hbx_ : bdd 96000000 npi.toNat fxx2_12 := fun p hp => by rw [(hx9_ p hp).1, i64_of]; exact mv_B (by decide) (hx p hp) (hs_.1 p hp) (by omega)
            have hby_ : bdd 96000000 npi.toNat fyy2_13 := fun p hp => by rw [(hx9_ p hp).2, i64_of]; exact mv_B (by decide) (hy p hp) (hs_.2.1 p hp) (by omega)
            have hpa_ : fpu2_14 i_.toInt.toNat = w_ := (congrFun f61_17 _).trans (upd_at (k := i_.toNatClampNeg))
            have hpb_ : ∀ j, j < hni.toNat → j ≠ i_.toInt.toNat → fpu2_14 j = fpu j := fun j hj hne => (congrFun f61_17 j).trans ((upd_off (show j ≠ i_.toNatClampNeg from hne)).trans (hpI j hj hne))
            have hm9_ : lc2_21.toInt ≤ (cs fxx2_12 fyy2_13 npi.toNat).toInt := (by have z := if_le f69_23; rw [← f66_19]; exact z.1)
            have e19_ : (i_ + 1).toInt = i_.toInt + 1 := tI_add rfl (show (1 : Int32).toInt = 1 from by decide) (by omega)
            have hq9_ : ∀ j : Nat, i_.toInt + 1 ≤ (j : Int) → j < hni.toNat → fpu2_14 j = 0 := fun j h1 h2 => (hpb_ j h2 (by omega)).trans (hp0 j (by omega) h2)
            refine z_run X br_X6_dig_72_79 kr_X6_dig_72_79 (lv' := [(4, .int w_), (3, .int i_), (0, .ref se), (1, .int fiq), (2, .int 3)]) (st' := [.int 2, .int (i_ + 1), .ref se]) rfl ?_
            refine z_callV X k_6_73 (cr_X6_digS2 l G se hn np afr aup axx ayy asx asy asz apu abe oz2_15 fo2_20 lc2_21 ffr fup fxx2_12 fyy2_13 fsx fsy fsz fpu2_14 fbe2_22 (i_ + 1) hni npi ((i_.toInt + 1)) hhn hnp (tI_add rfl (show (1 : Int32).toInt = 1 from by decide) (by omega)) (by omega) (by omega) hbx_ hby_ hst hlh hm9_ (by omega) hq9_) dr_X6_dig_79 7 rfl rfl rfl ⟨Nat.le_of_ble_eq_true rfl, Nat.le_of_ble_eq_true rfl⟩ ⟨Nat.le_of_ble_eq_true rfl, Nat.le_of_ble_eq_true rfl⟩ rfl (rest := []) (As := [.int (i_ + 1), .int 2]) rfl (Nat.le_of_ble_eq_true rfl) [7, 0, 1, 5, 6, 3, 4, 2, 8, 9] [] rfl (by decide) (wr := []) rfl (by decide) (by decide) ?_
            rintro _ _ ⟨fxx2_24, fyy2_25, fpu2_26, fbe2_27, oz2_28, fo2_29, lc2_30, f79_31, f79_32, f79_33, rfl, rfl⟩
            refine Z.at (pc' := 82) (st' := []) (ws' := [(se, ob 6 [.int hn, .int np, .int 0, .ref afr, .ref aup, .ref axx, .ref ayy, .ref asx, .ref asy, .ref asz, .ref apu, .ref abe, .int oz2_28, .int fo2_29, .long lc2_30]), (afr, aI G 16 ffr), (aup, aI G 16 fup), (axx, aJ G 6 fxx2_24), (ayy, aJ G 6 fyy2_25), (asx, aJ G 96 fsx), (asy, aJ G 96 fsy), (asz, aJ G 16 fsz), (apu, aI G 16 fpu2_26), (abe, aI G 16 fbe2_27)]) (kc' := 0) (ks' := 0) rfl rfl rfl rfl rfl ?_
            refine z_run X br_X6_dig_82_85 kr_X6_dig_82_85 (lv' := [(4, .int (w_ + 1)), (3, .int i_), (0, .ref se), (1, .int fiq), (2, .int 3)]) (st' := []) rfl ?_
            refine z_goto X dr_X6_dig_85 (tgt := 41) (by decide) ?_
            exact ih41 ((w_ + 1), fpu2_26, fbe2_27, oz2_28, fo2_29, lc2_30, fxx2_24, fyy2_25) ⟨(by (try dsimp only); have ew : (w_ + 1).toInt = w_.toInt + 1 := tI_add rfl (show (1 : Int32).toInt = 1 from by decide) (by have hl_ := (hlh _ (show i_.toInt.toNat < hni.toNat by omega)); omega); omega), (by (try dsimp only); have hpw_ : fpu2_26 i_.toInt.toNat = w_ := (f79_32 _ (show i_.toInt.toNat < hni.toNat by omega)).trans hpa_; exact (fun p hp => by rw [hpw_, (f79_31 p hp).1, (f79_31 p hp).2]; exact hx9_ p hp)), (fun j hj hne => (f79_32 j hj).trans (hpb_ j hj hne)), (by (try dsimp only); have hpw_ : fpu2_26 i_.toInt.toNat = w_ := (f79_32 _ (show i_.toInt.toNat < hni.toNat by omega)).trans hpa_; rw [hpw_]; omega), (by (try dsimp only); have ew : (w_ + 1).toInt = w_.toInt + 1 := tI_add rfl (show (1 : Int32).toInt = 1 from by decide) (by have hl_ := (hlh _ (show i_.toInt.toNat < hni.toNat by omega)); omega); rw [ew]; exact dig_step (k := 3) (k' := 2) (m2 := lc2_21.toInt) (by decide) (show (i_.toInt + 1).toNat = i_.toInt.toNat + 1 by omega) (fun j hj => ⟨(hlh j hj).1.2, (hlh j hj).2.1⟩) (show i_.toInt.toNat < hni.toNat by omega) (by decide) hw_.1 c54_11 hx9_ hWI (by rw [← f66_19]; exact f69_23) f79_33)⟩ (by (try dsimp only); have ew : (w_ + 1).toInt = w_.toInt + 1 := tI_add rfl (show (1 : Int32).toInt = 1 from by decide) (by have hl_ := (hlh _ (show i_.toInt.toNat < hni.toNat by omega)); omega); omega)
      · exact ⟨(by (try dsimp only); have hl_ := hlh _ (show i_.toInt.toNat < hni.toNat by omega); show (ffr i_.toInt.toNat).toInt ≤ (ffr i_.toInt.toNat).toInt ∧ (ffr i_.toInt.toNat).toInt ≤ (fup i_.toInt.toNat).toInt + 1; omega), (by (try dsimp only); have hI_ : i_.toInt.toNat < hni.toNat := (by omega); have h9 : gpO i_.toInt.toNat = 0 := (hpO _ hI_).trans (hp0 _ (by omega) hI_); intro p hp; rw [h9, lay_0, lay_0]; exact hxO p hp), (fun j hj _ => hpO j hj), (by (try dsimp only); have hI_ : i_.toInt.toNat < hni.toNat := (by omega); have h9 : gpO i_.toInt.toNat = 0 := (hpO _ hI_).trans (hp0 _ (by omega) hI_); have hl_ := hlh _ hI_; rw [h9]; have z0 : (0 : Int32).toInt = 0 := (by decide); omega), (by (try dsimp only); exact hWO)⟩
  · exact ⟨(by (try dsimp only); omega), (fun _ _ => ⟨rfl, rfl⟩), (fun _ _ => rfl), (by (try dsimp only); rw [show fiq.toInt.toNat = fii.toNat by rw [hfiq]]; exact LW.start)⟩

theorem dr_X6_dig_4 : decode cX6_dig 4 = .ok (.return_, 1) := by decide +kernel
set_option maxHeartbeats 4000000 in
set_option maxRecDepth 100000 in
theorem cr_X6_digS0 (l : Launch) (G : KG) (se : Nat) (hn : Int32) (np : Int32) (afr : Nat) (aup : Nat) (axx : Nat) (ayy : Nat) (asx : Nat) (asy : Nat) (asz : Nat) (apu : Nat) (abe : Nat) (oz : Int32) (fo : Int32) (lc : Int64) (ffr : Nat → Int32) (fup : Nat → Int32) (fxx : Nat → Int64) (fyy : Nat → Int64) (fsx : Nat → Int64) (fsy : Nat → Int64) (fsz : Nat → Int64) (fpu : Nat → Int32) (fbe : Nat → Int32) (fiq : Int32) (hni : Int) (npi : Int) (fii : Int) (hhn : hn.toInt = hni) (hnp : np.toInt = npi) (hfiq : fiq.toInt = fii) : Ct l G yX6_dig cX6_dig 5 none { frames := 0, cells := 0, slots := 0, locals := 0 } [.ref se, .int fiq, .int 0] [(se, ob 6 [.int hn, .int np, .int 0, .ref afr, .ref aup, .ref axx, .ref ayy, .ref asx, .ref asy, .ref asz, .ref apu, .ref abe, .int oz, .int fo, .long lc]), (afr, aI G 16 ffr), (aup, aI G 16 fup), (axx, aJ G 6 fxx), (ayy, aJ G 6 fyy), (asx, aJ G 96 fsx), (asy, aJ G 96 fsy), (asz, aJ G 16 fsz), (apu, aI G 16 fpu), (abe, aI G 16 fbe)] (fun r w1 => r = none ∧ w1 = [(se, ob 6 [.int hn, .int np, .int 0, .ref afr, .ref aup, .ref axx, .ref ayy, .ref asx, .ref asy, .ref asz, .ref apu, .ref abe, .int oz, .int fo, .long lc]), (afr, aI G 16 ffr), (aup, aI G 16 fup), (axx, aJ G 6 fxx), (ayy, aJ G 6 fyy), (asx, aJ G 96 fsx), (asy, aJ G 96 fsy), (asz, aJ G 16 fsz), (apu, aI G 16 fpu), (abe, aI G 16 fbe)]) := by
  refine ct_of [(0, .ref se), (1, .int fiq), (2, .int 0)] (by decide) (Nat.le_of_ble_eq_true rfl) rfl ?_
  intro p0 e0 s0 m0 args0 below0 meth0 c0 A X
  refine z_run X br_X6_dig_0_1 kr_X6_dig_0_1 (lv' := [(0, .ref se), (1, .int fiq), (2, .int 0)]) (st' := [.int 0]) rfl ?_
  refine zi_gt X dr_X6_dig_1 (tgt := 5) (by decide) (a := 0) (show (0 : Int32).toInt = 0 from by decide) (fun c1_1 => absurd c1_1 (by decide)) (fun _ => ?_)
  exact z_vret X rfl dr_X6_dig_4 (Nat.le_of_ble_eq_true rfl) (Nat.le_of_ble_eq_true rfl) ⟨rfl, rfl⟩

theorem dr_X6_leastOf_2 : decode cX6_leastOf 2 = .ok (.putfield 59, 3) := by decide +kernel
theorem dr_X6_leastOf_7 : decode cX6_leastOf 7 = .ok (.putfield 62, 3) := by decide +kernel
theorem dr_X6_leastOf_12 : decode cX6_leastOf 12 = .ok (.invokevirtual 65, 3) := by decide +kernel
theorem dr_X6_leastOf_15 : decode cX6_leastOf 15 = .ok (.putfield 69, 3) := by decide +kernel
theorem dr_X6_leastOf_21 : decode cX6_leastOf 21 = .ok (.invokevirtual 73, 3) := by decide +kernel
theorem dr_X6_leastOf_25 : decode cX6_leastOf 25 = .ok (.getfield 69, 3) := by decide +kernel
theorem dr_X6_leastOf_28 : decode cX6_leastOf 28 = .ok (.lreturn, 1) := by decide +kernel
abbrev br_X6_leastOf_0_2 : ZB := [(.aload_n 0, .null), (.iconst 0, .int 0)]
theorem kr_X6_leastOf_0_2 : zchk cX6_leastOf br_X6_leastOf_0_2 0 = true ∧ zpc br_X6_leastOf_0_2 0 = 2 := ⟨by decide +kernel, rfl⟩
abbrev br_X6_leastOf_5_7 : ZB := [(.aload_n 0, .null), (.iconst 0, .int 0)]
theorem kr_X6_leastOf_5_7 : zchk cX6_leastOf br_X6_leastOf_5_7 5 = true ∧ zpc br_X6_leastOf_5_7 5 = 7 := ⟨by decide +kernel, rfl⟩
abbrev br_X6_leastOf_10_12 : ZB := [(.aload_n 0, .null), (.aload_n 0, .null)]
theorem kr_X6_leastOf_10_12 : zchk cX6_leastOf br_X6_leastOf_10_12 10 = true ∧ zpc br_X6_leastOf_10_12 10 = 12 := ⟨by decide +kernel, rfl⟩
abbrev br_X6_leastOf_18_21 : ZB := [(.aload_n 0, .null), (.iconst 0, .int 0), (.iload_n 1, .null)]
theorem kr_X6_leastOf_18_21 : zchk cX6_leastOf br_X6_leastOf_18_21 18 = true ∧ zpc br_X6_leastOf_18_21 18 = 21 := ⟨by decide +kernel, rfl⟩
abbrev br_X6_leastOf_24_25 : ZB := [(.aload_n 0, .null)]
theorem kr_X6_leastOf_24_25 : zchk cX6_leastOf br_X6_leastOf_24_25 24 = true ∧ zpc br_X6_leastOf_24_25 24 = 25 := ⟨by decide +kernel, rfl⟩
set_option maxHeartbeats 4000000 in
set_option maxRecDepth 100000 in
theorem cr_X6_leastOfS (l : Launch) (G : KG) (se : Nat) (hn : Int32) (np : Int32) (afr : Nat) (aup : Nat) (axx : Nat) (ayy : Nat) (asx : Nat) (asy : Nat) (asz : Nat) (apu : Nat) (abe : Nat) (oz : Int32) (fo : Int32) (lc : Int64) (ffr : Nat → Int32) (fup : Nat → Int32) (fxx : Nat → Int64) (fyy : Nat → Int64) (fsx : Nat → Int64) (fsy : Nat → Int64) (fsz : Nat → Int64) (fpu : Nat → Int32) (fbe : Nat → Int32) (kq : Int32) (hni : Int) (npi : Int) (ki : Int) (hhn : hn.toInt = hni) (hnp : np.toInt = npi) (hkq : kq.toInt = ki) (hn0 : 0 ≤ hni ∧ hni ≤ 16) (np0 : 0 ≤ npi ∧ npi ≤ 6) (hx : bdd 94000000 npi.toNat fxx) (hy : bdd 94000000 npi.toNat fyy) (hst : ∀ j, j < hni.toNat → bdd 10000 npi.toNat (at16 fsx j) ∧ bdd 10000 npi.toNat (at16 fsy j) ∧ fsz j = cs (at16 fsx j) (at16 fsy j) npi.toNat) (hlh : ∀ j, j < hni.toNat → (-200 ≤ (ffr j).toInt ∧ (ffr j).toInt ≤ 0) ∧ 0 ≤ (fup j).toInt ∧ (fup j).toInt ≤ 200) (hp0 : ∀ j : Nat, j < hni.toNat → fpu j = 0) (hk0 : 0 ≤ ki ∧ ki ≤ 3) : Ct l G yX6_leastOf cX6_leastOf 2 (some .long) { frames := 6, cells := 0, slots := 0, locals := 156 } [.ref se, .int kq] [(se, ob 6 [.int hn, .int np, .int 0, .ref afr, .ref aup, .ref axx, .ref ayy, .ref asx, .ref asy, .ref asz, .ref apu, .ref abe, .int oz, .int fo, .long lc]), (afr, aI G 16 ffr), (aup, aI G 16 fup), (axx, aJ G 6 fxx), (ayy, aJ G 6 fyy), (asx, aJ G 96 fsx), (asy, aJ G 96 fsy), (asz, aJ G 16 fsz), (apu, aI G 16 fpu), (abe, aI G 16 fbe)] (fun r w1 => ∃ (rz : Int64), ∃ (fxx2 : Nat → Int64), ∃ (fyy2 : Nat → Int64), ∃ (fpu2 : Nat → Int32), ∃ (fbe2 : Nat → Int32), ∃ (oz2 : Int32), ∃ (fo2 : Int32), ∃ (lc2 : Int64), (Least (CC npi.toNat) rz.toInt (Rch (stC npi.toNat fsx fsy) (fun j => (ffr j).toInt) (fun j => (fup j).toInt) hni.toNat 0 ki (trn npi.toNat fxx, trn npi.toNat fyy))) ∧ r = some (.long rz) ∧ w1 = [(se, ob 6 [.int hn, .int np, .int 0, .ref afr, .ref aup, .ref axx, .ref ayy, .ref asx, .ref asy, .ref asz, .ref apu, .ref abe, .int oz2, .int fo2, .long lc2]), (afr, aI G 16 ffr), (aup, aI G 16 fup), (axx, aJ G 6 fxx2), (ayy, aJ G 6 fyy2), (asx, aJ G 96 fsx), (asy, aJ G 96 fsy), (asz, aJ G 16 fsz), (apu, aI G 16 fpu2), (abe, aI G 16 fbe2)]) := by
  refine ct_of [(0, .ref se), (1, .int kq)] (by decide) (Nat.le_of_ble_eq_true rfl) rfl ?_
  intro p0 e0 s0 m0 args0 below0 meth0 c0 A X
  refine z_run X br_X6_leastOf_0_2 kr_X6_leastOf_0_2 (lv' := [(0, .ref se), (1, .int kq)]) (st' := [.int 0, .ref se]) rfl ?_
  refine z_put X fl_6_59 dr_X6_leastOf_2 0 rfl (ty := .int) (T := TX6) (N := 15) rfl (Or.inl rfl) (by decide +kernel) rfl (by rfl) (Nat.le_of_ble_eq_true rfl) (ws' := [(se, ob 6 [.int hn, .int np, .int 0, .ref afr, .ref aup, .ref axx, .ref ayy, .ref asx, .ref asy, .ref asz, .ref apu, .ref abe, .int 0, .int fo, .long lc]), (afr, aI G 16 ffr), (aup, aI G 16 fup), (axx, aJ G 6 fxx), (ayy, aJ G 6 fyy), (asx, aJ G 96 fsx), (asy, aJ G 96 fsy), (asz, aJ G 16 fsz), (apu, aI G 16 fpu), (abe, aI G 16 fbe)]) rfl ?_
  refine z_run X br_X6_leastOf_5_7 kr_X6_leastOf_5_7 (lv' := [(0, .ref se), (1, .int kq)]) (st' := [.int 0, .ref se]) rfl ?_
  refine z_put X fl_6_62 dr_X6_leastOf_7 0 rfl (ty := .int) (T := TX6) (N := 15) rfl (Or.inl rfl) (by decide +kernel) rfl (by rfl) (Nat.le_of_ble_eq_true rfl) (ws' := [(se, ob 6 [.int hn, .int np, .int 0, .ref afr, .ref aup, .ref axx, .ref ayy, .ref asx, .ref asy, .ref asz, .ref apu, .ref abe, .int 0, .int 0, .long lc]), (afr, aI G 16 ffr), (aup, aI G 16 fup), (axx, aJ G 6 fxx), (ayy, aJ G 6 fyy), (asx, aJ G 96 fsx), (asy, aJ G 96 fsy), (asz, aJ G 16 fsz), (apu, aI G 16 fpu), (abe, aI G 16 fbe)]) rfl ?_
  refine z_run X br_X6_leastOf_10_12 kr_X6_leastOf_10_12 (lv' := [(0, .ref se), (1, .int kq)]) (st' := [.ref se, .ref se]) rfl ?_
  refine z_callV X k_6_65 (cr_X6_costNowS l G se hn np afr aup axx ayy asx asy asz apu abe 0 0 lc fxx fyy npi hnp (by omega)) dr_X6_leastOf_12 0 rfl rfl rfl ⟨Nat.le_of_ble_eq_true rfl, Nat.le_of_ble_eq_true rfl⟩ ⟨Nat.le_of_ble_eq_true rfl, Nat.le_of_ble_eq_true rfl⟩ rfl (rest := [.ref se]) (As := []) rfl (Nat.le_of_ble_eq_true rfl) [0, 3, 4] [1, 2, 5, 6, 7, 8, 9] rfl (by decide) (wr := [(afr, aI G 16 ffr), (aup, aI G 16 fup), (asx, aJ G 96 fsx), (asy, aJ G 96 fsy), (asz, aJ G 16 fsz), (apu, aI G 16 fpu), (abe, aI G 16 fbe)]) rfl (by decide) (by decide) ?_
  rintro _ _ ⟨rz_1, f12_2, rfl, rfl⟩
  refine Z.at (pc' := 15) (st' := [.long rz_1, .ref se]) (ws' := [(afr, aI G 16 ffr), (aup, aI G 16 fup), (asx, aJ G 96 fsx), (asy, aJ G 96 fsy), (asz, aJ G 16 fsz), (apu, aI G 16 fpu), (abe, aI G 16 fbe), (se, ob 6 [.int hn, .int np, .int 0, .ref afr, .ref aup, .ref axx, .ref ayy, .ref asx, .ref asy, .ref asz, .ref apu, .ref abe, .int 0, .int 0, .long lc]), (axx, aJ G 6 fxx), (ayy, aJ G 6 fyy)]) (kc' := 0) (ks' := 0) rfl rfl rfl rfl rfl ?_
  refine z_put X fl_6_69 dr_X6_leastOf_15 7 rfl (ty := .long) (T := TX6) (N := 15) rfl (Or.inl rfl) (by decide +kernel) rfl (by rfl) (Nat.le_of_ble_eq_true rfl) (ws' := [(afr, aI G 16 ffr), (aup, aI G 16 fup), (asx, aJ G 96 fsx), (asy, aJ G 96 fsy), (asz, aJ G 16 fsz), (apu, aI G 16 fpu), (abe, aI G 16 fbe), (se, ob 6 [.int hn, .int np, .int 0, .ref afr, .ref aup, .ref axx, .ref ayy, .ref asx, .ref asy, .ref asz, .ref apu, .ref abe, .int 0, .int 0, .long rz_1]), (axx, aJ G 6 fxx), (ayy, aJ G 6 fyy)]) rfl ?_
  refine z_run X br_X6_leastOf_18_21 kr_X6_leastOf_18_21 (lv' := [(0, .ref se), (1, .int kq)]) (st' := [.int kq, .int 0, .ref se]) rfl ?_
  rcases (show ki = 0 ∨ ki = 1 ∨ ki = 2 ∨ ki = 3 from by omega) with hs | hs | hs | hs
  ·
    obtain rfl : kq = 0 := i32_eq hkq (by decide) hs
    refine z_callV X k_6_73 (cr_X6_digS0 l G se hn np afr aup axx ayy asx asy asz apu abe 0 0 rz_1 ffr fup fxx fyy fsx fsy fsz fpu fbe 0 hni npi 0 hhn hnp (show (0 : Int32).toInt = 0 from by decide)) dr_X6_leastOf_21 7 rfl rfl rfl ⟨Nat.le_of_ble_eq_true rfl, Nat.le_of_ble_eq_true rfl⟩ ⟨Nat.le_of_ble_eq_true rfl, Nat.le_of_ble_eq_true rfl⟩ rfl (rest := []) (As := [.int 0, .int 0]) rfl (Nat.le_of_ble_eq_true rfl) [7, 0, 1, 8, 9, 2, 3, 4, 5, 6] [] rfl (by decide) (wr := []) rfl (by decide) (by decide) ?_
    rintro _ _ ⟨rfl, rfl⟩
    refine Z.at (pc' := 24) (st' := []) (ws' := [(se, ob 6 [.int hn, .int np, .int 0, .ref afr, .ref aup, .ref axx, .ref ayy, .ref asx, .ref asy, .ref asz, .ref apu, .ref abe, .int 0, .int 0, .long rz_1]), (afr, aI G 16 ffr), (aup, aI G 16 fup), (axx, aJ G 6 fxx), (ayy, aJ G 6 fyy), (asx, aJ G 96 fsx), (asy, aJ G 96 fsy), (asz, aJ G 16 fsz), (apu, aI G 16 fpu), (abe, aI G 16 fbe)]) (kc' := 0) (ks' := 0) rfl rfl rfl rfl rfl ?_
    refine z_run X br_X6_leastOf_24_25 kr_X6_leastOf_24_25 (lv' := [(0, .ref se), (1, .int 0)]) (st' := [.ref se]) rfl ?_
    refine z_get X fl_6_69 dr_X6_leastOf_25 0 rfl (v := .long rz_1) rfl ?_
    exact z_lret X rfl dr_X6_leastOf_28 (Nat.le_of_ble_eq_true rfl) (Nat.le_of_ble_eq_true rfl) ⟨rz_1, fxx, fyy, fpu, fbe, (0 : Int32), (0 : Int32), rz_1, (by rw [show ki = 0 from hkq.symm.trans (by decide)]; exact sr_least0 (fun j hj => ⟨(hlh j hj).1.2, (hlh j hj).2.1⟩) f12_2), rfl, rfl⟩
  ·
    obtain rfl : kq = 1 := i32_eq hkq (by decide) hs
    refine z_callV X k_6_73 (cr_X6_digS1 l G se hn np afr aup axx ayy asx asy asz apu abe 0 0 rz_1 ffr fup fxx fyy fsx fsy fsz fpu fbe 0 hni npi 0 hhn hnp (show (0 : Int32).toInt = 0 from by decide) (by omega) (by omega) (hx.mono (by decide)) (hy.mono (by decide)) hst hlh (by rw [f12_2]; exact Int.le_refl _) (by omega) (fun j _ h2 => hp0 j h2)) dr_X6_leastOf_21 7 rfl rfl rfl ⟨Nat.le_of_ble_eq_true rfl, Nat.le_of_ble_eq_true rfl⟩ ⟨Nat.le_of_ble_eq_true rfl, Nat.le_of_ble_eq_true rfl⟩ rfl (rest := []) (As := [.int 0, .int 1]) rfl (Nat.le_of_ble_eq_true rfl) [7, 0, 1, 8, 9, 2, 3, 4, 5, 6] [] rfl (by decide) (wr := []) rfl (by decide) (by decide) ?_
    rintro _ _ ⟨fpu2_3, fbe2_4, oz2_5, fo2_6, lc2_7, f21_8, f21_9, rfl, rfl⟩
    refine Z.at (pc' := 24) (st' := []) (ws' := [(se, ob 6 [.int hn, .int np, .int 0, .ref afr, .ref aup, .ref axx, .ref ayy, .ref asx, .ref asy, .ref asz, .ref apu, .ref abe, .int oz2_5, .int fo2_6, .long lc2_7]), (afr, aI G 16 ffr), (aup, aI G 16 fup), (axx, aJ G 6 fxx), (ayy, aJ G 6 fyy), (asx, aJ G 96 fsx), (asy, aJ G 96 fsy), (asz, aJ G 16 fsz), (apu, aI G 16 fpu2_3), (abe, aI G 16 fbe2_4)]) (kc' := 0) (ks' := 0) rfl rfl rfl rfl rfl ?_
    refine z_run X br_X6_leastOf_24_25 kr_X6_leastOf_24_25 (lv' := [(0, .ref se), (1, .int 1)]) (st' := [.ref se]) rfl ?_
    refine z_get X fl_6_69 dr_X6_leastOf_25 0 rfl (v := .long lc2_7) rfl ?_
    exact z_lret X rfl dr_X6_leastOf_28 (Nat.le_of_ble_eq_true rfl) (Nat.le_of_ble_eq_true rfl) ⟨lc2_7, fxx, fyy, fpu2_3, fbe2_4, oz2_5, fo2_6, lc2_7, (by rw [show ki = 1 from hkq.symm.trans (by decide)]; exact sr_least (fun j hj => ⟨(hlh j hj).1.2, (hlh j hj).2.1⟩) (by decide) f12_2 f21_9), rfl, rfl⟩
  ·
    obtain rfl : kq = 2 := i32_eq hkq (by decide) hs
    refine z_callV X k_6_73 (cr_X6_digS2 l G se hn np afr aup axx ayy asx asy asz apu abe 0 0 rz_1 ffr fup fxx fyy fsx fsy fsz fpu fbe 0 hni npi 0 hhn hnp (show (0 : Int32).toInt = 0 from by decide) (by omega) (by omega) (hx.mono (by decide)) (hy.mono (by decide)) hst hlh (by rw [f12_2]; exact Int.le_refl _) (by omega) (fun j _ h2 => hp0 j h2)) dr_X6_leastOf_21 7 rfl rfl rfl ⟨Nat.le_of_ble_eq_true rfl, Nat.le_of_ble_eq_true rfl⟩ ⟨Nat.le_of_ble_eq_true rfl, Nat.le_of_ble_eq_true rfl⟩ rfl (rest := []) (As := [.int 0, .int 2]) rfl (Nat.le_of_ble_eq_true rfl) [7, 0, 1, 8, 9, 2, 3, 4, 5, 6] [] rfl (by decide) (wr := []) rfl (by decide) (by decide) ?_
    rintro _ _ ⟨fxx2_10, fyy2_11, fpu2_12, fbe2_13, oz2_14, fo2_15, lc2_16, f21_17, f21_18, f21_19, rfl, rfl⟩
    refine Z.at (pc' := 24) (st' := []) (ws' := [(se, ob 6 [.int hn, .int np, .int 0, .ref afr, .ref aup, .ref axx, .ref ayy, .ref asx, .ref asy, .ref asz, .ref apu, .ref abe, .int oz2_14, .int fo2_15, .long lc2_16]), (afr, aI G 16 ffr), (aup, aI G 16 fup), (axx, aJ G 6 fxx2_10), (ayy, aJ G 6 fyy2_11), (asx, aJ G 96 fsx), (asy, aJ G 96 fsy), (asz, aJ G 16 fsz), (apu, aI G 16 fpu2_12), (abe, aI G 16 fbe2_13)]) (kc' := 0) (ks' := 0) rfl rfl rfl rfl rfl ?_
    refine z_run X br_X6_leastOf_24_25 kr_X6_leastOf_24_25 (lv' := [(0, .ref se), (1, .int 2)]) (st' := [.ref se]) rfl ?_
    refine z_get X fl_6_69 dr_X6_leastOf_25 0 rfl (v := .long lc2_16) rfl ?_
    exact z_lret X rfl dr_X6_leastOf_28 (Nat.le_of_ble_eq_true rfl) (Nat.le_of_ble_eq_true rfl) ⟨lc2_16, fxx2_10, fyy2_11, fpu2_12, fbe2_13, oz2_14, fo2_15, lc2_16, (by rw [show ki = 2 from hkq.symm.trans (by decide)]; exact sr_least (fun j hj => ⟨(hlh j hj).1.2, (hlh j hj).2.1⟩) (by decide) f12_2 f21_19), rfl, rfl⟩
  ·
    obtain rfl : kq = 3 := i32_eq hkq (by decide) hs
    refine z_callV X k_6_73 (cr_X6_digS3 l G se hn np afr aup axx ayy asx asy asz apu abe 0 0 rz_1 ffr fup fxx fyy fsx fsy fsz fpu fbe 0 hni npi 0 hhn hnp (show (0 : Int32).toInt = 0 from by decide) (by omega) (by omega) (hx.mono (by decide)) (hy.mono (by decide)) hst hlh (by rw [f12_2]; exact Int.le_refl _) (by omega) (fun j _ h2 => hp0 j h2)) dr_X6_leastOf_21 7 rfl rfl rfl ⟨Nat.le_of_ble_eq_true rfl, Nat.le_of_ble_eq_true rfl⟩ ⟨Nat.le_of_ble_eq_true rfl, Nat.le_of_ble_eq_true rfl⟩ rfl (rest := []) (As := [.int 0, .int 3]) rfl (Nat.le_of_ble_eq_true rfl) [7, 0, 1, 8, 9, 2, 3, 4, 5, 6] [] rfl (by decide) (wr := []) rfl (by decide) (by decide) ?_
    rintro _ _ ⟨fxx2_20, fyy2_21, fpu2_22, fbe2_23, oz2_24, fo2_25, lc2_26, f21_27, f21_28, f21_29, rfl, rfl⟩
    refine Z.at (pc' := 24) (st' := []) (ws' := [(se, ob 6 [.int hn, .int np, .int 0, .ref afr, .ref aup, .ref axx, .ref ayy, .ref asx, .ref asy, .ref asz, .ref apu, .ref abe, .int oz2_24, .int fo2_25, .long lc2_26]), (afr, aI G 16 ffr), (aup, aI G 16 fup), (axx, aJ G 6 fxx2_20), (ayy, aJ G 6 fyy2_21), (asx, aJ G 96 fsx), (asy, aJ G 96 fsy), (asz, aJ G 16 fsz), (apu, aI G 16 fpu2_22), (abe, aI G 16 fbe2_23)]) (kc' := 0) (ks' := 0) rfl rfl rfl rfl rfl ?_
    refine z_run X br_X6_leastOf_24_25 kr_X6_leastOf_24_25 (lv' := [(0, .ref se), (1, .int 3)]) (st' := [.ref se]) rfl ?_
    refine z_get X fl_6_69 dr_X6_leastOf_25 0 rfl (v := .long lc2_26) rfl ?_
    exact z_lret X rfl dr_X6_leastOf_28 (Nat.le_of_ble_eq_true rfl) (Nat.le_of_ble_eq_true rfl) ⟨lc2_26, fxx2_20, fyy2_21, fpu2_22, fbe2_23, oz2_24, fo2_25, lc2_26, (by rw [show ki = 3 from hkq.symm.trans (by decide)]; exact sr_least (fun j hj => ⟨(hlh j hj).1.2, (hlh j hj).2.1⟩) (by decide) f12_2 f21_29), rfl, rfl⟩

theorem dr_X6_start_2 : decode cX6_start 2 = .ok (.putfield 40, 3) := by decide +kernel
theorem dr_X6_start_7 : decode cX6_start 7 = .ok (.putfield 44, 3) := by decide +kernel
theorem dr_X6_start_12 : decode cX6_start 12 = .ok (.putfield 47, 3) := by decide +kernel
theorem dr_X6_start_15 : decode cX6_start 15 = .ok (.return_, 1) := by decide +kernel
abbrev br_X6_start_0_2 : ZB := [(.aload_n 0, .null), (.iconst 0, .int 0)]
theorem kr_X6_start_0_2 : zchk cX6_start br_X6_start_0_2 0 = true ∧ zpc br_X6_start_0_2 0 = 2 := ⟨by decide +kernel, rfl⟩
abbrev br_X6_start_5_7 : ZB := [(.aload_n 0, .null), (.iconst 0, .int 0)]
theorem kr_X6_start_5_7 : zchk cX6_start br_X6_start_5_7 5 = true ∧ zpc br_X6_start_5_7 5 = 7 := ⟨by decide +kernel, rfl⟩
abbrev br_X6_start_10_12 : ZB := [(.aload_n 0, .null), (.iload_n 1, .null)]
theorem kr_X6_start_10_12 : zchk cX6_start br_X6_start_10_12 10 = true ∧ zpc br_X6_start_10_12 10 = 12 := ⟨by decide +kernel, rfl⟩
set_option maxHeartbeats 4000000 in
set_option maxRecDepth 100000 in
theorem cr_X6_startS (l : Launch) (G : KG) (se : Nat) (hn : Int32) (np : Int32) (afr : Nat) (aup : Nat) (axx : Nat) (ayy : Nat) (asx : Nat) (asy : Nat) (asz : Nat) (apu : Nat) (abe : Nat) (oz : Int32) (fo : Int32) (lc : Int64) (bgq : Int32) : Ct l G yX6_start cX6_start 2 none { frames := 0, cells := 0, slots := 0, locals := 0 } [.ref se, .int 0] [(se, ob 6 [.int hn, .int np, .int bgq, .ref afr, .ref aup, .ref axx, .ref ayy, .ref asx, .ref asy, .ref asz, .ref apu, .ref abe, .int oz, .int fo, .long lc])] (fun r w1 => r = none ∧ w1 = [(se, ob 6 [.int 0, .int 0, .int 0, .ref afr, .ref aup, .ref axx, .ref ayy, .ref asx, .ref asy, .ref asz, .ref apu, .ref abe, .int oz, .int fo, .long lc])]) := by
  refine ct_of [(0, .ref se), (1, .int 0)] (by decide) (Nat.le_of_ble_eq_true rfl) rfl ?_
  intro p0 e0 s0 m0 args0 below0 meth0 c0 A X
  refine z_run X br_X6_start_0_2 kr_X6_start_0_2 (lv' := [(0, .ref se), (1, .int 0)]) (st' := [.int 0, .ref se]) rfl ?_
  refine z_put X fl_6_40 dr_X6_start_2 0 rfl (ty := .int) (T := TX6) (N := 15) rfl (Or.inl rfl) (by decide +kernel) rfl (by rfl) (Nat.le_of_ble_eq_true rfl) (ws' := [(se, ob 6 [.int 0, .int np, .int bgq, .ref afr, .ref aup, .ref axx, .ref ayy, .ref asx, .ref asy, .ref asz, .ref apu, .ref abe, .int oz, .int fo, .long lc])]) rfl ?_
  refine z_run X br_X6_start_5_7 kr_X6_start_5_7 (lv' := [(0, .ref se), (1, .int 0)]) (st' := [.int 0, .ref se]) rfl ?_
  refine z_put X fl_6_44 dr_X6_start_7 0 rfl (ty := .int) (T := TX6) (N := 15) rfl (Or.inl rfl) (by decide +kernel) rfl (by rfl) (Nat.le_of_ble_eq_true rfl) (ws' := [(se, ob 6 [.int 0, .int 0, .int bgq, .ref afr, .ref aup, .ref axx, .ref ayy, .ref asx, .ref asy, .ref asz, .ref apu, .ref abe, .int oz, .int fo, .long lc])]) rfl ?_
  refine z_run X br_X6_start_10_12 kr_X6_start_10_12 (lv' := [(0, .ref se), (1, .int 0)]) (st' := [.int 0, .ref se]) rfl ?_
  refine z_put X fl_6_47 dr_X6_start_12 0 rfl (ty := .boolean) (T := TX6) (N := 15) rfl (Or.inl rfl) (by decide +kernel) rfl (by rfl) (Nat.le_of_ble_eq_true rfl) (ws' := [(se, ob 6 [.int 0, .int 0, .int 0, .ref afr, .ref aup, .ref axx, .ref ayy, .ref asx, .ref asy, .ref asz, .ref apu, .ref abe, .int oz, .int fo, .long lc])]) rfl ?_
  exact z_vret X rfl dr_X6_start_15 (Nat.le_of_ble_eq_true rfl) (Nat.le_of_ble_eq_true rfl) ⟨rfl, rfl⟩

theorem dr_X6_addPoint_1 : decode cX6_addPoint 1 = .ok (.getfield 44, 3) := by decide +kernel
theorem dr_X6_addPoint_6 : decode cX6_addPoint 6 = .ok (.if_icmp .ge 35, 3) := by decide +kernel
theorem dr_X6_addPoint_10 : decode cX6_addPoint 10 = .ok (.getfield 18, 3) := by decide +kernel
theorem dr_X6_addPoint_14 : decode cX6_addPoint 14 = .ok (.getfield 44, 3) := by decide +kernel
theorem dr_X6_addPoint_19 : decode cX6_addPoint 19 = .ok (.lastore, 1) := by decide +kernel
theorem dr_X6_addPoint_21 : decode cX6_addPoint 21 = .ok (.getfield 22, 3) := by decide +kernel
theorem dr_X6_addPoint_25 : decode cX6_addPoint 25 = .ok (.getfield 44, 3) := by decide +kernel
theorem dr_X6_addPoint_30 : decode cX6_addPoint 30 = .ok (.lastore, 1) := by decide +kernel
theorem dr_X6_addPoint_33 : decode cX6_addPoint 33 = .ok (.getfield 44, 3) := by decide +kernel
theorem dr_X6_addPoint_38 : decode cX6_addPoint 38 = .ok (.putfield 44, 3) := by decide +kernel
theorem dr_X6_addPoint_41 : decode cX6_addPoint 41 = .ok (.return_, 1) := by decide +kernel
abbrev br_X6_addPoint_0_1 : ZB := [(.aload_n 0, .null)]
theorem kr_X6_addPoint_0_1 : zchk cX6_addPoint br_X6_addPoint_0_1 0 = true ∧ zpc br_X6_addPoint_0_1 0 = 1 := ⟨by decide +kernel, rfl⟩
abbrev br_X6_addPoint_4_6 : ZB := [(.bipush 6, .int 6)]
theorem kr_X6_addPoint_4_6 : zchk cX6_addPoint br_X6_addPoint_4_6 4 = true ∧ zpc br_X6_addPoint_4_6 4 = 6 := ⟨by decide +kernel, rfl⟩
abbrev br_X6_addPoint_9_10 : ZB := [(.aload_n 0, .null)]
theorem kr_X6_addPoint_9_10 : zchk cX6_addPoint br_X6_addPoint_9_10 9 = true ∧ zpc br_X6_addPoint_9_10 9 = 10 := ⟨by decide +kernel, rfl⟩
abbrev br_X6_addPoint_13_14 : ZB := [(.aload_n 0, .null)]
theorem kr_X6_addPoint_13_14 : zchk cX6_addPoint br_X6_addPoint_13_14 13 = true ∧ zpc br_X6_addPoint_13_14 13 = 14 := ⟨by decide +kernel, rfl⟩
abbrev br_X6_addPoint_17_19 : ZB := [(.iload_n 1, .null), (.i2l, .null)]
theorem kr_X6_addPoint_17_19 : zchk cX6_addPoint br_X6_addPoint_17_19 17 = true ∧ zpc br_X6_addPoint_17_19 17 = 19 := ⟨by decide +kernel, rfl⟩
abbrev br_X6_addPoint_20_21 : ZB := [(.aload_n 0, .null)]
theorem kr_X6_addPoint_20_21 : zchk cX6_addPoint br_X6_addPoint_20_21 20 = true ∧ zpc br_X6_addPoint_20_21 20 = 21 := ⟨by decide +kernel, rfl⟩
abbrev br_X6_addPoint_24_25 : ZB := [(.aload_n 0, .null)]
theorem kr_X6_addPoint_24_25 : zchk cX6_addPoint br_X6_addPoint_24_25 24 = true ∧ zpc br_X6_addPoint_24_25 24 = 25 := ⟨by decide +kernel, rfl⟩
abbrev br_X6_addPoint_28_30 : ZB := [(.iload_n 2, .null), (.i2l, .null)]
theorem kr_X6_addPoint_28_30 : zchk cX6_addPoint br_X6_addPoint_28_30 28 = true ∧ zpc br_X6_addPoint_28_30 28 = 30 := ⟨by decide +kernel, rfl⟩
abbrev br_X6_addPoint_31_33 : ZB := [(.aload_n 0, .null), (.dup, .null)]
theorem kr_X6_addPoint_31_33 : zchk cX6_addPoint br_X6_addPoint_31_33 31 = true ∧ zpc br_X6_addPoint_31_33 31 = 33 := ⟨by decide +kernel, rfl⟩
abbrev br_X6_addPoint_36_38 : ZB := [(.iconst 1, .int 1), (.iadd, .null)]
theorem kr_X6_addPoint_36_38 : zchk cX6_addPoint br_X6_addPoint_36_38 36 = true ∧ zpc br_X6_addPoint_36_38 36 = 38 := ⟨by decide +kernel, rfl⟩
set_option maxHeartbeats 4000000 in
set_option maxRecDepth 100000 in
theorem cr_X6_addPointS (l : Launch) (G : KG) (se : Nat) (hn : Int32) (afr : Nat) (aup : Nat) (axx : Nat) (ayy : Nat) (asx : Nat) (asy : Nat) (asz : Nat) (apu : Nat) (abe : Nat) (oz : Int32) (fo : Int32) (lc : Int64) (fxx : Nat → Int64) (fyy : Nat → Int64) (xq : Int32) (yq : Int32) : Ct l G yX6_addPoint cX6_addPoint 3 none { frames := 0, cells := 0, slots := 0, locals := 0 } [.ref se, .int xq, .int yq] [(se, ob 6 [.int hn, .int 0, .int 0, .ref afr, .ref aup, .ref axx, .ref ayy, .ref asx, .ref asy, .ref asz, .ref apu, .ref abe, .int oz, .int fo, .long lc]), (axx, aJ G 6 fxx), (ayy, aJ G 6 fyy)] (fun r w1 => ∃ (fxx2 : Nat → Int64), ∃ (fyy2 : Nat → Int64), (fxx2 0 = xq.toInt64 ∧ fyy2 0 = yq.toInt64) ∧ r = none ∧ w1 = [(se, ob 6 [.int hn, .int 1, .int 0, .ref afr, .ref aup, .ref axx, .ref ayy, .ref asx, .ref asy, .ref asz, .ref apu, .ref abe, .int oz, .int fo, .long lc]), (axx, aJ G 6 fxx2), (ayy, aJ G 6 fyy2)]) := by
  refine ct_of [(0, .ref se), (1, .int xq), (2, .int yq)] (by decide) (Nat.le_of_ble_eq_true rfl) rfl ?_
  intro p0 e0 s0 m0 args0 below0 meth0 c0 A X
  refine z_run X br_X6_addPoint_0_1 kr_X6_addPoint_0_1 (lv' := [(0, .ref se), (1, .int xq), (2, .int yq)]) (st' := [.ref se]) rfl ?_
  refine z_get X fl_6_44 dr_X6_addPoint_1 0 rfl (v := .int 0) rfl ?_
  refine z_run X br_X6_addPoint_4_6 kr_X6_addPoint_4_6 (lv' := [(0, .ref se), (1, .int xq), (2, .int yq)]) (st' := [.int 6, .int 0]) rfl ?_
  refine zc_ge X dr_X6_addPoint_6 (tgt := 41) (by decide) (a := 0) (b := 6) (show (0 : Int32).toInt = 0 from by decide) (show (6 : Int32).toInt = 6 from by decide) (fun c6_1 => absurd c6_1 (by decide)) (fun _ => ?_)
  refine z_run X br_X6_addPoint_9_10 kr_X6_addPoint_9_10 (lv' := [(0, .ref se), (1, .int xq), (2, .int yq)]) (st' := [.ref se]) rfl ?_
  refine z_get X fl_6_18 dr_X6_addPoint_10 0 rfl (v := .ref axx) rfl ?_
  refine z_run X br_X6_addPoint_13_14 kr_X6_addPoint_13_14 (lv' := [(0, .ref se), (1, .int xq), (2, .int yq)]) (st' := [.ref se, .ref axx]) rfl ?_
  refine z_get X fl_6_44 dr_X6_addPoint_14 0 rfl (v := .int 0) rfl ?_
  refine z_run X br_X6_addPoint_17_19 kr_X6_addPoint_17_19 (lv' := [(0, .ref se), (1, .int xq), (2, .int yq)]) (st' := [.long xq.toInt64, .int 0, .ref axx]) rfl ?_
  refine z_last X dr_X6_addPoint_19 1 rfl (show vp_in _ _ from by unfold vp_in; decide) (ws' := [(se, ob 6 [.int hn, .int 0, .int 0, .ref afr, .ref aup, .ref axx, .ref ayy, .ref asx, .ref asy, .ref asz, .ref apu, .ref abe, .int oz, .int fo, .long lc]), (axx, aJ G 6 (vp_updL fxx 0 xq.toInt64)), (ayy, aJ G 6 fyy)]) rfl ?_
  refine z_run X br_X6_addPoint_20_21 kr_X6_addPoint_20_21 (lv' := [(0, .ref se), (1, .int xq), (2, .int yq)]) (st' := [.ref se]) rfl ?_
  refine z_get X fl_6_22 dr_X6_addPoint_21 0 rfl (v := .ref ayy) rfl ?_
  refine z_run X br_X6_addPoint_24_25 kr_X6_addPoint_24_25 (lv' := [(0, .ref se), (1, .int xq), (2, .int yq)]) (st' := [.ref se, .ref ayy]) rfl ?_
  refine z_get X fl_6_44 dr_X6_addPoint_25 0 rfl (v := .int 0) rfl ?_
  refine z_run X br_X6_addPoint_28_30 kr_X6_addPoint_28_30 (lv' := [(0, .ref se), (1, .int xq), (2, .int yq)]) (st' := [.long yq.toInt64, .int 0, .ref ayy]) rfl ?_
  refine z_last X dr_X6_addPoint_30 2 rfl (show vp_in _ _ from by unfold vp_in; decide) (ws' := [(se, ob 6 [.int hn, .int 0, .int 0, .ref afr, .ref aup, .ref axx, .ref ayy, .ref asx, .ref asy, .ref asz, .ref apu, .ref abe, .int oz, .int fo, .long lc]), (axx, aJ G 6 (vp_updL fxx 0 xq.toInt64)), (ayy, aJ G 6 (vp_updL fyy 0 yq.toInt64))]) rfl ?_
  refine z_run X br_X6_addPoint_31_33 kr_X6_addPoint_31_33 (lv' := [(0, .ref se), (1, .int xq), (2, .int yq)]) (st' := [.ref se, .ref se]) rfl ?_
  refine z_get X fl_6_44 dr_X6_addPoint_33 0 rfl (v := .int 0) rfl ?_
  refine z_run X br_X6_addPoint_36_38 kr_X6_addPoint_36_38 (lv' := [(0, .ref se), (1, .int xq), (2, .int yq)]) (st' := [.int 1, .ref se]) rfl ?_
  refine z_put X fl_6_44 dr_X6_addPoint_38 0 rfl (ty := .int) (T := TX6) (N := 15) rfl (Or.inl rfl) (by decide +kernel) rfl (by rfl) (Nat.le_of_ble_eq_true rfl) (ws' := [(se, ob 6 [.int hn, .int 1, .int 0, .ref afr, .ref aup, .ref axx, .ref ayy, .ref asx, .ref asy, .ref asz, .ref apu, .ref abe, .int oz, .int fo, .long lc]), (axx, aJ G 6 (vp_updL fxx 0 xq.toInt64)), (ayy, aJ G 6 (vp_updL fyy 0 yq.toInt64))]) rfl ?_
  exact z_vret X rfl dr_X6_addPoint_41 (Nat.le_of_ble_eq_true rfl) (Nat.le_of_ble_eq_true rfl) ⟨(vp_updL fxx 0 xq.toInt64), (vp_updL fyy 0 yq.toInt64), ⟨updL_at, updL_at⟩, rfl, rfl⟩

theorem dr_X6_addHole_1 : decode cX6_addHole 1 = .ok (.getfield 40, 3) := by decide +kernel
theorem dr_X6_addHole_6 : decode cX6_addHole 6 = .ok (.if_icmp .ge 63, 3) := by decide +kernel
theorem dr_X6_addHole_10 : decode cX6_addHole 10 = .ok (.getfield 9, 3) := by decide +kernel
theorem dr_X6_addHole_14 : decode cX6_addHole 14 = .ok (.getfield 40, 3) := by decide +kernel
theorem dr_X6_addHole_18 : decode cX6_addHole 18 = .ok (.iastore, 1) := by decide +kernel
theorem dr_X6_addHole_20 : decode cX6_addHole 20 = .ok (.getfield 15, 3) := by decide +kernel
theorem dr_X6_addHole_24 : decode cX6_addHole 24 = .ok (.getfield 40, 3) := by decide +kernel
theorem dr_X6_addHole_28 : decode cX6_addHole 28 = .ok (.iastore, 1) := by decide +kernel
theorem dr_X6_addHole_30 : decode cX6_addHole 30 = .ok (.getfield 31, 3) := by decide +kernel
theorem dr_X6_addHole_34 : decode cX6_addHole 34 = .ok (.getfield 40, 3) := by decide +kernel
theorem dr_X6_addHole_38 : decode cX6_addHole 38 = .ok (.lastore, 1) := by decide +kernel
theorem dr_X6_addHole_40 : decode cX6_addHole 40 = .ok (.getfield 34, 3) := by decide +kernel
theorem dr_X6_addHole_44 : decode cX6_addHole 44 = .ok (.getfield 40, 3) := by decide +kernel
theorem dr_X6_addHole_48 : decode cX6_addHole 48 = .ok (.iastore, 1) := by decide +kernel
theorem dr_X6_addHole_50 : decode cX6_addHole 50 = .ok (.getfield 37, 3) := by decide +kernel
theorem dr_X6_addHole_54 : decode cX6_addHole 54 = .ok (.getfield 40, 3) := by decide +kernel
theorem dr_X6_addHole_58 : decode cX6_addHole 58 = .ok (.iastore, 1) := by decide +kernel
theorem dr_X6_addHole_61 : decode cX6_addHole 61 = .ok (.getfield 40, 3) := by decide +kernel
theorem dr_X6_addHole_66 : decode cX6_addHole 66 = .ok (.putfield 40, 3) := by decide +kernel
theorem dr_X6_addHole_69 : decode cX6_addHole 69 = .ok (.return_, 1) := by decide +kernel
abbrev br_X6_addHole_0_1 : ZB := [(.aload_n 0, .null)]
theorem kr_X6_addHole_0_1 : zchk cX6_addHole br_X6_addHole_0_1 0 = true ∧ zpc br_X6_addHole_0_1 0 = 1 := ⟨by decide +kernel, rfl⟩
abbrev br_X6_addHole_4_6 : ZB := [(.bipush 16, .int 16)]
theorem kr_X6_addHole_4_6 : zchk cX6_addHole br_X6_addHole_4_6 4 = true ∧ zpc br_X6_addHole_4_6 4 = 6 := ⟨by decide +kernel, rfl⟩
abbrev br_X6_addHole_9_10 : ZB := [(.aload_n 0, .null)]
theorem kr_X6_addHole_9_10 : zchk cX6_addHole br_X6_addHole_9_10 9 = true ∧ zpc br_X6_addHole_9_10 9 = 10 := ⟨by decide +kernel, rfl⟩
abbrev br_X6_addHole_13_14 : ZB := [(.aload_n 0, .null)]
theorem kr_X6_addHole_13_14 : zchk cX6_addHole br_X6_addHole_13_14 13 = true ∧ zpc br_X6_addHole_13_14 13 = 14 := ⟨by decide +kernel, rfl⟩
abbrev br_X6_addHole_17_18 : ZB := [(.iload_n 1, .null)]
theorem kr_X6_addHole_17_18 : zchk cX6_addHole br_X6_addHole_17_18 17 = true ∧ zpc br_X6_addHole_17_18 17 = 18 := ⟨by decide +kernel, rfl⟩
abbrev br_X6_addHole_19_20 : ZB := [(.aload_n 0, .null)]
theorem kr_X6_addHole_19_20 : zchk cX6_addHole br_X6_addHole_19_20 19 = true ∧ zpc br_X6_addHole_19_20 19 = 20 := ⟨by decide +kernel, rfl⟩
abbrev br_X6_addHole_23_24 : ZB := [(.aload_n 0, .null)]
theorem kr_X6_addHole_23_24 : zchk cX6_addHole br_X6_addHole_23_24 23 = true ∧ zpc br_X6_addHole_23_24 23 = 24 := ⟨by decide +kernel, rfl⟩
abbrev br_X6_addHole_27_28 : ZB := [(.iload_n 2, .null)]
theorem kr_X6_addHole_27_28 : zchk cX6_addHole br_X6_addHole_27_28 27 = true ∧ zpc br_X6_addHole_27_28 27 = 28 := ⟨by decide +kernel, rfl⟩
abbrev br_X6_addHole_29_30 : ZB := [(.aload_n 0, .null)]
theorem kr_X6_addHole_29_30 : zchk cX6_addHole br_X6_addHole_29_30 29 = true ∧ zpc br_X6_addHole_29_30 29 = 30 := ⟨by decide +kernel, rfl⟩
abbrev br_X6_addHole_33_34 : ZB := [(.aload_n 0, .null)]
theorem kr_X6_addHole_33_34 : zchk cX6_addHole br_X6_addHole_33_34 33 = true ∧ zpc br_X6_addHole_33_34 33 = 34 := ⟨by decide +kernel, rfl⟩
abbrev br_X6_addHole_37_38 : ZB := [(.lconst 0, .long 0)]
theorem kr_X6_addHole_37_38 : zchk cX6_addHole br_X6_addHole_37_38 37 = true ∧ zpc br_X6_addHole_37_38 37 = 38 := ⟨by decide +kernel, rfl⟩
abbrev br_X6_addHole_39_40 : ZB := [(.aload_n 0, .null)]
theorem kr_X6_addHole_39_40 : zchk cX6_addHole br_X6_addHole_39_40 39 = true ∧ zpc br_X6_addHole_39_40 39 = 40 := ⟨by decide +kernel, rfl⟩
abbrev br_X6_addHole_43_44 : ZB := [(.aload_n 0, .null)]
theorem kr_X6_addHole_43_44 : zchk cX6_addHole br_X6_addHole_43_44 43 = true ∧ zpc br_X6_addHole_43_44 43 = 44 := ⟨by decide +kernel, rfl⟩
abbrev br_X6_addHole_47_48 : ZB := [(.iconst 0, .int 0)]
theorem kr_X6_addHole_47_48 : zchk cX6_addHole br_X6_addHole_47_48 47 = true ∧ zpc br_X6_addHole_47_48 47 = 48 := ⟨by decide +kernel, rfl⟩
abbrev br_X6_addHole_49_50 : ZB := [(.aload_n 0, .null)]
theorem kr_X6_addHole_49_50 : zchk cX6_addHole br_X6_addHole_49_50 49 = true ∧ zpc br_X6_addHole_49_50 49 = 50 := ⟨by decide +kernel, rfl⟩
abbrev br_X6_addHole_53_54 : ZB := [(.aload_n 0, .null)]
theorem kr_X6_addHole_53_54 : zchk cX6_addHole br_X6_addHole_53_54 53 = true ∧ zpc br_X6_addHole_53_54 53 = 54 := ⟨by decide +kernel, rfl⟩
abbrev br_X6_addHole_57_58 : ZB := [(.iconst 0, .int 0)]
theorem kr_X6_addHole_57_58 : zchk cX6_addHole br_X6_addHole_57_58 57 = true ∧ zpc br_X6_addHole_57_58 57 = 58 := ⟨by decide +kernel, rfl⟩
abbrev br_X6_addHole_59_61 : ZB := [(.aload_n 0, .null), (.dup, .null)]
theorem kr_X6_addHole_59_61 : zchk cX6_addHole br_X6_addHole_59_61 59 = true ∧ zpc br_X6_addHole_59_61 59 = 61 := ⟨by decide +kernel, rfl⟩
abbrev br_X6_addHole_64_66 : ZB := [(.iconst 1, .int 1), (.iadd, .null)]
theorem kr_X6_addHole_64_66 : zchk cX6_addHole br_X6_addHole_64_66 64 = true ∧ zpc br_X6_addHole_64_66 64 = 66 := ⟨by decide +kernel, rfl⟩
set_option maxHeartbeats 4000000 in
set_option maxRecDepth 100000 in
theorem cr_X6_addHoleS (l : Launch) (G : KG) (se : Nat) (hn : Int32) (np : Int32) (afr : Nat) (aup : Nat) (axx : Nat) (ayy : Nat) (asx : Nat) (asy : Nat) (asz : Nat) (apu : Nat) (abe : Nat) (oz : Int32) (fo : Int32) (lc : Int64) (ffr : Nat → Int32) (fup : Nat → Int32) (fsz : Nat → Int64) (fpu : Nat → Int32) (fbe : Nat → Int32) (lq : Int32) (uq : Int32) (hni : Int) (hhn : hn.toInt = hni) (hn0 : 0 ≤ hni ∧ hni < 16) : Ct l G yX6_addHole cX6_addHole 3 none { frames := 0, cells := 0, slots := 0, locals := 0 } [.ref se, .int lq, .int uq] [(se, ob 6 [.int hn, .int np, .int 0, .ref afr, .ref aup, .ref axx, .ref ayy, .ref asx, .ref asy, .ref asz, .ref apu, .ref abe, .int oz, .int fo, .long lc]), (afr, aI G 16 ffr), (aup, aI G 16 fup), (asz, aJ G 16 fsz), (apu, aI G 16 fpu), (abe, aI G 16 fbe)] (fun r w1 => r = none ∧ w1 = [(se, ob 6 [.int (hn + 1), .int np, .int 0, .ref afr, .ref aup, .ref axx, .ref ayy, .ref asx, .ref asy, .ref asz, .ref apu, .ref abe, .int oz, .int fo, .long lc]), (afr, aI G 16 (upd ffr hn.toNatClampNeg lq)), (aup, aI G 16 (upd fup hn.toNatClampNeg uq)), (asz, aJ G 16 (vp_updL fsz hn.toNatClampNeg 0)), (apu, aI G 16 (upd fpu hn.toNatClampNeg 0)), (abe, aI G 16 (upd fbe hn.toNatClampNeg 0))]) := by
  refine ct_of [(0, .ref se), (1, .int lq), (2, .int uq)] (by decide) (Nat.le_of_ble_eq_true rfl) rfl ?_
  intro p0 e0 s0 m0 args0 below0 meth0 c0 A X
  refine z_run X br_X6_addHole_0_1 kr_X6_addHole_0_1 (lv' := [(0, .ref se), (1, .int lq), (2, .int uq)]) (st' := [.ref se]) rfl ?_
  refine z_get X fl_6_40 dr_X6_addHole_1 0 rfl (v := .int hn) rfl ?_
  refine z_run X br_X6_addHole_4_6 kr_X6_addHole_4_6 (lv' := [(0, .ref se), (1, .int lq), (2, .int uq)]) (st' := [.int 16, .int hn]) rfl ?_
  refine zc_ge X dr_X6_addHole_6 (tgt := 69) (by decide) (a := hni) (b := 16) hhn (show (16 : Int32).toInt = 16 from by decide) (fun c6_1n => absurd c6_1n (by omega)) (fun c6_1 => ?_)
  refine z_run X br_X6_addHole_9_10 kr_X6_addHole_9_10 (lv' := [(0, .ref se), (1, .int lq), (2, .int uq)]) (st' := [.ref se]) rfl ?_
  refine z_get X fl_6_9 dr_X6_addHole_10 0 rfl (v := .ref afr) rfl ?_
  refine z_run X br_X6_addHole_13_14 kr_X6_addHole_13_14 (lv' := [(0, .ref se), (1, .int lq), (2, .int uq)]) (st' := [.ref se, .ref afr]) rfl ?_
  refine z_get X fl_6_40 dr_X6_addHole_14 0 rfl (v := .int hn) rfl ?_
  refine z_run X br_X6_addHole_17_18 kr_X6_addHole_17_18 (lv' := [(0, .ref se), (1, .int lq), (2, .int uq)]) (st' := [.int lq, .int hn, .ref afr]) rfl ?_
  refine z_iast X dr_X6_addHole_18 1 rfl (vin hhn (by omega) (by omega)) (ws' := [(se, ob 6 [.int hn, .int np, .int 0, .ref afr, .ref aup, .ref axx, .ref ayy, .ref asx, .ref asy, .ref asz, .ref apu, .ref abe, .int oz, .int fo, .long lc]), (afr, aI G 16 (upd ffr hn.toNatClampNeg lq)), (aup, aI G 16 fup), (asz, aJ G 16 fsz), (apu, aI G 16 fpu), (abe, aI G 16 fbe)]) rfl ?_
  refine z_run X br_X6_addHole_19_20 kr_X6_addHole_19_20 (lv' := [(0, .ref se), (1, .int lq), (2, .int uq)]) (st' := [.ref se]) rfl ?_
  refine z_get X fl_6_15 dr_X6_addHole_20 0 rfl (v := .ref aup) rfl ?_
  refine z_run X br_X6_addHole_23_24 kr_X6_addHole_23_24 (lv' := [(0, .ref se), (1, .int lq), (2, .int uq)]) (st' := [.ref se, .ref aup]) rfl ?_
  refine z_get X fl_6_40 dr_X6_addHole_24 0 rfl (v := .int hn) rfl ?_
  refine z_run X br_X6_addHole_27_28 kr_X6_addHole_27_28 (lv' := [(0, .ref se), (1, .int lq), (2, .int uq)]) (st' := [.int uq, .int hn, .ref aup]) rfl ?_
  refine z_iast X dr_X6_addHole_28 2 rfl (vin hhn (by omega) (by omega)) (ws' := [(se, ob 6 [.int hn, .int np, .int 0, .ref afr, .ref aup, .ref axx, .ref ayy, .ref asx, .ref asy, .ref asz, .ref apu, .ref abe, .int oz, .int fo, .long lc]), (afr, aI G 16 (upd ffr hn.toNatClampNeg lq)), (aup, aI G 16 (upd fup hn.toNatClampNeg uq)), (asz, aJ G 16 fsz), (apu, aI G 16 fpu), (abe, aI G 16 fbe)]) rfl ?_
  refine z_run X br_X6_addHole_29_30 kr_X6_addHole_29_30 (lv' := [(0, .ref se), (1, .int lq), (2, .int uq)]) (st' := [.ref se]) rfl ?_
  refine z_get X fl_6_31 dr_X6_addHole_30 0 rfl (v := .ref asz) rfl ?_
  refine z_run X br_X6_addHole_33_34 kr_X6_addHole_33_34 (lv' := [(0, .ref se), (1, .int lq), (2, .int uq)]) (st' := [.ref se, .ref asz]) rfl ?_
  refine z_get X fl_6_40 dr_X6_addHole_34 0 rfl (v := .int hn) rfl ?_
  refine z_run X br_X6_addHole_37_38 kr_X6_addHole_37_38 (lv' := [(0, .ref se), (1, .int lq), (2, .int uq)]) (st' := [.long 0, .int hn, .ref asz]) rfl ?_
  refine z_last X dr_X6_addHole_38 3 rfl (vin hhn (by omega) (by omega)) (ws' := [(se, ob 6 [.int hn, .int np, .int 0, .ref afr, .ref aup, .ref axx, .ref ayy, .ref asx, .ref asy, .ref asz, .ref apu, .ref abe, .int oz, .int fo, .long lc]), (afr, aI G 16 (upd ffr hn.toNatClampNeg lq)), (aup, aI G 16 (upd fup hn.toNatClampNeg uq)), (asz, aJ G 16 (vp_updL fsz hn.toNatClampNeg 0)), (apu, aI G 16 fpu), (abe, aI G 16 fbe)]) rfl ?_
  refine z_run X br_X6_addHole_39_40 kr_X6_addHole_39_40 (lv' := [(0, .ref se), (1, .int lq), (2, .int uq)]) (st' := [.ref se]) rfl ?_
  refine z_get X fl_6_34 dr_X6_addHole_40 0 rfl (v := .ref apu) rfl ?_
  refine z_run X br_X6_addHole_43_44 kr_X6_addHole_43_44 (lv' := [(0, .ref se), (1, .int lq), (2, .int uq)]) (st' := [.ref se, .ref apu]) rfl ?_
  refine z_get X fl_6_40 dr_X6_addHole_44 0 rfl (v := .int hn) rfl ?_
  refine z_run X br_X6_addHole_47_48 kr_X6_addHole_47_48 (lv' := [(0, .ref se), (1, .int lq), (2, .int uq)]) (st' := [.int 0, .int hn, .ref apu]) rfl ?_
  refine z_iast X dr_X6_addHole_48 4 rfl (vin hhn (by omega) (by omega)) (ws' := [(se, ob 6 [.int hn, .int np, .int 0, .ref afr, .ref aup, .ref axx, .ref ayy, .ref asx, .ref asy, .ref asz, .ref apu, .ref abe, .int oz, .int fo, .long lc]), (afr, aI G 16 (upd ffr hn.toNatClampNeg lq)), (aup, aI G 16 (upd fup hn.toNatClampNeg uq)), (asz, aJ G 16 (vp_updL fsz hn.toNatClampNeg 0)), (apu, aI G 16 (upd fpu hn.toNatClampNeg 0)), (abe, aI G 16 fbe)]) rfl ?_
  refine z_run X br_X6_addHole_49_50 kr_X6_addHole_49_50 (lv' := [(0, .ref se), (1, .int lq), (2, .int uq)]) (st' := [.ref se]) rfl ?_
  refine z_get X fl_6_37 dr_X6_addHole_50 0 rfl (v := .ref abe) rfl ?_
  refine z_run X br_X6_addHole_53_54 kr_X6_addHole_53_54 (lv' := [(0, .ref se), (1, .int lq), (2, .int uq)]) (st' := [.ref se, .ref abe]) rfl ?_
  refine z_get X fl_6_40 dr_X6_addHole_54 0 rfl (v := .int hn) rfl ?_
  refine z_run X br_X6_addHole_57_58 kr_X6_addHole_57_58 (lv' := [(0, .ref se), (1, .int lq), (2, .int uq)]) (st' := [.int 0, .int hn, .ref abe]) rfl ?_
  refine z_iast X dr_X6_addHole_58 5 rfl (vin hhn (by omega) (by omega)) (ws' := [(se, ob 6 [.int hn, .int np, .int 0, .ref afr, .ref aup, .ref axx, .ref ayy, .ref asx, .ref asy, .ref asz, .ref apu, .ref abe, .int oz, .int fo, .long lc]), (afr, aI G 16 (upd ffr hn.toNatClampNeg lq)), (aup, aI G 16 (upd fup hn.toNatClampNeg uq)), (asz, aJ G 16 (vp_updL fsz hn.toNatClampNeg 0)), (apu, aI G 16 (upd fpu hn.toNatClampNeg 0)), (abe, aI G 16 (upd fbe hn.toNatClampNeg 0))]) rfl ?_
  refine z_run X br_X6_addHole_59_61 kr_X6_addHole_59_61 (lv' := [(0, .ref se), (1, .int lq), (2, .int uq)]) (st' := [.ref se, .ref se]) rfl ?_
  refine z_get X fl_6_40 dr_X6_addHole_61 0 rfl (v := .int hn) rfl ?_
  refine z_run X br_X6_addHole_64_66 kr_X6_addHole_64_66 (lv' := [(0, .ref se), (1, .int lq), (2, .int uq)]) (st' := [.int (hn + 1), .ref se]) rfl ?_
  refine z_put X fl_6_40 dr_X6_addHole_66 0 rfl (ty := .int) (T := TX6) (N := 15) rfl (Or.inl rfl) (by decide +kernel) rfl (by rfl) (Nat.le_of_ble_eq_true rfl) (ws' := [(se, ob 6 [.int (hn + 1), .int np, .int 0, .ref afr, .ref aup, .ref axx, .ref ayy, .ref asx, .ref asy, .ref asz, .ref apu, .ref abe, .int oz, .int fo, .long lc]), (afr, aI G 16 (upd ffr hn.toNatClampNeg lq)), (aup, aI G 16 (upd fup hn.toNatClampNeg uq)), (asz, aJ G 16 (vp_updL fsz hn.toNatClampNeg 0)), (apu, aI G 16 (upd fpu hn.toNatClampNeg 0)), (abe, aI G 16 (upd fbe hn.toNatClampNeg 0))]) rfl ?_
  exact z_vret X rfl dr_X6_addHole_69 (Nat.le_of_ble_eq_true rfl) (Nat.le_of_ble_eq_true rfl) ⟨rfl, rfl⟩

theorem dr_X6_addStep_1 : decode cX6_addStep 1 = .ok (.getfield 40, 3) := by decide +kernel
theorem dr_X6_addStep_4 : decode cX6_addStep 4 = .ok (.ifCond .le 70, 3) := by decide +kernel
theorem dr_X6_addStep_8 : decode cX6_addStep 8 = .ok (.ifCond .lt 66, 3) := by decide +kernel
theorem dr_X6_addStep_13 : decode cX6_addStep 13 = .ok (.getfield 44, 3) := by decide +kernel
theorem dr_X6_addStep_16 : decode cX6_addStep 16 = .ok (.if_icmp .ge 58, 3) := by decide +kernel
theorem dr_X6_addStep_20 : decode cX6_addStep 20 = .ok (.getfield 25, 3) := by decide +kernel
theorem dr_X6_addStep_25 : decode cX6_addStep 25 = .ok (.getfield 40, 3) := by decide +kernel
theorem dr_X6_addStep_30 : decode cX6_addStep 30 = .ok (.invokestatic 51, 3) := by decide +kernel
theorem dr_X6_addStep_35 : decode cX6_addStep 35 = .ok (.lastore, 1) := by decide +kernel
theorem dr_X6_addStep_37 : decode cX6_addStep 37 = .ok (.getfield 28, 3) := by decide +kernel
theorem dr_X6_addStep_42 : decode cX6_addStep 42 = .ok (.getfield 40, 3) := by decide +kernel
theorem dr_X6_addStep_47 : decode cX6_addStep 47 = .ok (.invokestatic 51, 3) := by decide +kernel
theorem dr_X6_addStep_52 : decode cX6_addStep 52 = .ok (.lastore, 1) := by decide +kernel
theorem dr_X6_addStep_54 : decode cX6_addStep 54 = .ok (.getfield 31, 3) := by decide +kernel
theorem dr_X6_addStep_58 : decode cX6_addStep 58 = .ok (.getfield 40, 3) := by decide +kernel
theorem dr_X6_addStep_64 : decode cX6_addStep 64 = .ok (.laload, 1) := by decide +kernel
theorem dr_X6_addStep_69 : decode cX6_addStep 69 = .ok (.invokestatic 55, 3) := by decide +kernel
theorem dr_X6_addStep_73 : decode cX6_addStep 73 = .ok (.lastore, 1) := by decide +kernel
theorem dr_X6_addStep_74 : decode cX6_addStep 74 = .ok (.return_, 1) := by decide +kernel
abbrev br_X6_addStep_0_1 : ZB := [(.aload_n 0, .null)]
theorem kr_X6_addStep_0_1 : zchk cX6_addStep br_X6_addStep_0_1 0 = true ∧ zpc br_X6_addStep_0_1 0 = 1 := ⟨by decide +kernel, rfl⟩
abbrev br_X6_addStep_7_8 : ZB := [(.iload_n 1, .null)]
theorem kr_X6_addStep_7_8 : zchk cX6_addStep br_X6_addStep_7_8 7 = true ∧ zpc br_X6_addStep_7_8 7 = 8 := ⟨by decide +kernel, rfl⟩
abbrev br_X6_addStep_11_13 : ZB := [(.iload_n 1, .null), (.aload_n 0, .null)]
theorem kr_X6_addStep_11_13 : zchk cX6_addStep br_X6_addStep_11_13 11 = true ∧ zpc br_X6_addStep_11_13 11 = 13 := ⟨by decide +kernel, rfl⟩
abbrev br_X6_addStep_19_20 : ZB := [(.aload_n 0, .null)]
theorem kr_X6_addStep_19_20 : zchk cX6_addStep br_X6_addStep_19_20 19 = true ∧ zpc br_X6_addStep_19_20 19 = 20 := ⟨by decide +kernel, rfl⟩
abbrev br_X6_addStep_23_25 : ZB := [(.iload_n 1, .null), (.aload_n 0, .null)]
theorem kr_X6_addStep_23_25 : zchk cX6_addStep br_X6_addStep_23_25 23 = true ∧ zpc br_X6_addStep_23_25 23 = 25 := ⟨by decide +kernel, rfl⟩
abbrev br_X6_addStep_28_30 : ZB := [(.iconst 1, .int 1), (.isub, .null)]
theorem kr_X6_addStep_28_30 : zchk cX6_addStep br_X6_addStep_28_30 28 = true ∧ zpc br_X6_addStep_28_30 28 = 30 := ⟨by decide +kernel, rfl⟩
abbrev br_X6_addStep_33_35 : ZB := [(.iload_n 2, .null), (.i2l, .null)]
theorem kr_X6_addStep_33_35 : zchk cX6_addStep br_X6_addStep_33_35 33 = true ∧ zpc br_X6_addStep_33_35 33 = 35 := ⟨by decide +kernel, rfl⟩
abbrev br_X6_addStep_36_37 : ZB := [(.aload_n 0, .null)]
theorem kr_X6_addStep_36_37 : zchk cX6_addStep br_X6_addStep_36_37 36 = true ∧ zpc br_X6_addStep_36_37 36 = 37 := ⟨by decide +kernel, rfl⟩
abbrev br_X6_addStep_40_42 : ZB := [(.iload_n 1, .null), (.aload_n 0, .null)]
theorem kr_X6_addStep_40_42 : zchk cX6_addStep br_X6_addStep_40_42 40 = true ∧ zpc br_X6_addStep_40_42 40 = 42 := ⟨by decide +kernel, rfl⟩
abbrev br_X6_addStep_45_47 : ZB := [(.iconst 1, .int 1), (.isub, .null)]
theorem kr_X6_addStep_45_47 : zchk cX6_addStep br_X6_addStep_45_47 45 = true ∧ zpc br_X6_addStep_45_47 45 = 47 := ⟨by decide +kernel, rfl⟩
abbrev br_X6_addStep_50_52 : ZB := [(.iload_n 3, .null), (.i2l, .null)]
theorem kr_X6_addStep_50_52 : zchk cX6_addStep br_X6_addStep_50_52 50 = true ∧ zpc br_X6_addStep_50_52 50 = 52 := ⟨by decide +kernel, rfl⟩
abbrev br_X6_addStep_53_54 : ZB := [(.aload_n 0, .null)]
theorem kr_X6_addStep_53_54 : zchk cX6_addStep br_X6_addStep_53_54 53 = true ∧ zpc br_X6_addStep_53_54 53 = 54 := ⟨by decide +kernel, rfl⟩
abbrev br_X6_addStep_57_58 : ZB := [(.aload_n 0, .null)]
theorem kr_X6_addStep_57_58 : zchk cX6_addStep br_X6_addStep_57_58 57 = true ∧ zpc br_X6_addStep_57_58 57 = 58 := ⟨by decide +kernel, rfl⟩
abbrev br_X6_addStep_61_64 : ZB := [(.iconst 1, .int 1), (.isub, .null), (.dup2, .null)]
theorem kr_X6_addStep_61_64 : zchk cX6_addStep br_X6_addStep_61_64 61 = true ∧ zpc br_X6_addStep_61_64 61 = 64 := ⟨by decide +kernel, rfl⟩
abbrev br_X6_addStep_65_69 : ZB := [(.iload_n 2, .null), (.i2l, .null), (.iload_n 3, .null), (.i2l, .null)]
theorem kr_X6_addStep_65_69 : zchk cX6_addStep br_X6_addStep_65_69 65 = true ∧ zpc br_X6_addStep_65_69 65 = 69 := ⟨by decide +kernel, rfl⟩
abbrev br_X6_addStep_72_73 : ZB := [(.ladd, .null)]
theorem kr_X6_addStep_72_73 : zchk cX6_addStep br_X6_addStep_72_73 72 = true ∧ zpc br_X6_addStep_72_73 72 = 73 := ⟨by decide +kernel, rfl⟩
set_option maxHeartbeats 4000000 in
set_option maxRecDepth 100000 in
theorem cr_X6_addStepS (l : Launch) (G : KG) (se : Nat) (hn : Int32) (afr : Nat) (aup : Nat) (axx : Nat) (ayy : Nat) (asx : Nat) (asy : Nat) (asz : Nat) (apu : Nat) (abe : Nat) (oz : Int32) (fo : Int32) (lc : Int64) (fsx : Nat → Int64) (fsy : Nat → Int64) (fsz : Nat → Int64) (xq : Int32) (yq : Int32) (hni : Int) (hhn : hn.toInt = hni) (hn0 : 0 < hni ∧ hni ≤ 16) : Ct l G yX6_addStep cX6_addStep 4 none { frames := 1, cells := 0, slots := 0, locals := 23 } [.ref se, .int 0, .int xq, .int yq] [(se, ob 6 [.int hn, .int 1, .int 0, .ref afr, .ref aup, .ref axx, .ref ayy, .ref asx, .ref asy, .ref asz, .ref apu, .ref abe, .int oz, .int fo, .long lc]), (asx, aJ G 96 fsx), (asy, aJ G 96 fsy), (asz, aJ G 16 fsz)] (fun r w1 => ∃ (fsx2 : Nat → Int64), ∃ (fsy2 : Nat → Int64), ∃ (fsz2 : Nat → Int64), (fsz2 = vp_updL fsz (hn - 1).toNatClampNeg (fsz (hn - 1).toNatClampNeg + szL xq.toInt64 yq.toInt64)) ∧ (fsx2 = vp_updL fsx (hn - 1).toNatClampNeg xq.toInt64) ∧ (fsy2 = vp_updL fsy (hn - 1).toNatClampNeg yq.toInt64) ∧ r = none ∧ w1 = [(se, ob 6 [.int hn, .int 1, .int 0, .ref afr, .ref aup, .ref axx, .ref ayy, .ref asx, .ref asy, .ref asz, .ref apu, .ref abe, .int oz, .int fo, .long lc]), (asx, aJ G 96 fsx2), (asy, aJ G 96 fsy2), (asz, aJ G 16 fsz2)]) := by
  refine ct_of [(0, .ref se), (1, .int 0), (2, .int xq), (3, .int yq)] (by decide) (Nat.le_of_ble_eq_true rfl) rfl ?_
  intro p0 e0 s0 m0 args0 below0 meth0 c0 A X
  refine z_run X br_X6_addStep_0_1 kr_X6_addStep_0_1 (lv' := [(0, .ref se), (1, .int 0), (2, .int xq), (3, .int yq)]) (st' := [.ref se]) rfl ?_
  refine z_get X fl_6_40 dr_X6_addStep_1 0 rfl (v := .int hn) rfl ?_
  refine zi_le X dr_X6_addStep_4 (tgt := 74) (by decide) (a := hni) hhn (fun c4_1n => absurd c4_1n (by omega)) (fun c4_1 => ?_)
  refine z_run X br_X6_addStep_7_8 kr_X6_addStep_7_8 (lv' := [(0, .ref se), (1, .int 0), (2, .int xq), (3, .int yq)]) (st' := [.int 0]) rfl ?_
  refine zi_lt X dr_X6_addStep_8 (tgt := 74) (by decide) (a := 0) (show (0 : Int32).toInt = 0 from by decide) (fun c8_2 => absurd c8_2 (by decide)) (fun _ => ?_)
  refine z_run X br_X6_addStep_11_13 kr_X6_addStep_11_13 (lv' := [(0, .ref se), (1, .int 0), (2, .int xq), (3, .int yq)]) (st' := [.ref se, .int 0]) rfl ?_
  refine z_get X fl_6_44 dr_X6_addStep_13 0 rfl (v := .int 1) rfl ?_
  refine zc_ge X dr_X6_addStep_16 (tgt := 74) (by decide) (a := 0) (b := 1) (show (0 : Int32).toInt = 0 from by decide) (show (1 : Int32).toInt = 1 from by decide) (fun c16_3 => absurd c16_3 (by decide)) (fun _ => ?_)
  refine z_run X br_X6_addStep_19_20 kr_X6_addStep_19_20 (lv' := [(0, .ref se), (1, .int 0), (2, .int xq), (3, .int yq)]) (st' := [.ref se]) rfl ?_
  refine z_get X fl_6_25 dr_X6_addStep_20 0 rfl (v := .ref asx) rfl ?_
  refine z_run X br_X6_addStep_23_25 kr_X6_addStep_23_25 (lv' := [(0, .ref se), (1, .int 0), (2, .int xq), (3, .int yq)]) (st' := [.ref se, .int 0, .ref asx]) rfl ?_
  refine z_get X fl_6_40 dr_X6_addStep_25 0 rfl (v := .int hn) rfl ?_
  refine z_run X br_X6_addStep_28_30 kr_X6_addStep_28_30 (lv' := [(0, .ref se), (1, .int 0), (2, .int xq), (3, .int yq)]) (st' := [.int (hn - 1), .int 0, .ref asx]) rfl ?_
  refine z_callS X k_6_51 (cr_X6_stepAtS l G 0 (hn - 1) 0 ((hni - 1)) (show (0 : Int32).toInt = 0 from by decide) (tI_sub hhn (show (1 : Int32).toInt = 1 from by decide) (by omega)) (by omega) (by omega)) dr_X6_addStep_30 ⟨Nat.le_of_ble_eq_true rfl, Nat.le_of_ble_eq_true rfl⟩ ⟨Nat.le_of_ble_eq_true rfl, Nat.le_of_ble_eq_true rfl⟩ rfl (rest := [.ref asx]) (As := [.int 0, .int (hn - 1)]) rfl (Nat.le_of_ble_eq_true rfl) [] [0, 1, 2, 3] rfl (by decide) (wr := [(se, ob 6 [.int hn, .int 1, .int 0, .ref afr, .ref aup, .ref axx, .ref ayy, .ref asx, .ref asy, .ref asz, .ref apu, .ref abe, .int oz, .int fo, .long lc]), (asx, aJ G 96 fsx), (asy, aJ G 96 fsy), (asz, aJ G 16 fsz)]) rfl (by decide) (by decide) ?_
  rintro _ _ ⟨rz_4, f30_5, f30_6, rfl, rfl⟩
  refine Z.at (pc' := 33) (st' := [.int rz_4, .ref asx]) (ws' := [(se, ob 6 [.int hn, .int 1, .int 0, .ref afr, .ref aup, .ref axx, .ref ayy, .ref asx, .ref asy, .ref asz, .ref apu, .ref abe, .int oz, .int fo, .long lc]), (asx, aJ G 96 fsx), (asy, aJ G 96 fsy), (asz, aJ G 16 fsz)]) (kc' := 0) (ks' := 0) rfl rfl rfl rfl rfl ?_
  refine z_run X br_X6_addStep_33_35 kr_X6_addStep_33_35 (lv' := [(0, .ref se), (1, .int 0), (2, .int xq), (3, .int yq)]) (st' := [.long xq.toInt64, .int rz_4, .ref asx]) rfl ?_
  refine z_last X dr_X6_addStep_35 1 rfl (vin rfl (by omega) (by omega)) (ws' := [(se, ob 6 [.int hn, .int 1, .int 0, .ref afr, .ref aup, .ref axx, .ref ayy, .ref asx, .ref asy, .ref asz, .ref apu, .ref abe, .int oz, .int fo, .long lc]), (asx, aJ G 96 (vp_updL fsx rz_4.toNatClampNeg xq.toInt64)), (asy, aJ G 96 fsy), (asz, aJ G 16 fsz)]) rfl ?_
  refine z_run X br_X6_addStep_36_37 kr_X6_addStep_36_37 (lv' := [(0, .ref se), (1, .int 0), (2, .int xq), (3, .int yq)]) (st' := [.ref se]) rfl ?_
  refine z_get X fl_6_28 dr_X6_addStep_37 0 rfl (v := .ref asy) rfl ?_
  refine z_run X br_X6_addStep_40_42 kr_X6_addStep_40_42 (lv' := [(0, .ref se), (1, .int 0), (2, .int xq), (3, .int yq)]) (st' := [.ref se, .int 0, .ref asy]) rfl ?_
  refine z_get X fl_6_40 dr_X6_addStep_42 0 rfl (v := .int hn) rfl ?_
  refine z_run X br_X6_addStep_45_47 kr_X6_addStep_45_47 (lv' := [(0, .ref se), (1, .int 0), (2, .int xq), (3, .int yq)]) (st' := [.int (hn - 1), .int 0, .ref asy]) rfl ?_
  refine z_callS X k_6_51 (cr_X6_stepAtS l G 0 (hn - 1) 0 ((hni - 1)) (show (0 : Int32).toInt = 0 from by decide) (tI_sub hhn (show (1 : Int32).toInt = 1 from by decide) (by omega)) (by omega) (by omega)) dr_X6_addStep_47 ⟨Nat.le_of_ble_eq_true rfl, Nat.le_of_ble_eq_true rfl⟩ ⟨Nat.le_of_ble_eq_true rfl, Nat.le_of_ble_eq_true rfl⟩ rfl (rest := [.ref asy]) (As := [.int 0, .int (hn - 1)]) rfl (Nat.le_of_ble_eq_true rfl) [] [0, 1, 2, 3] rfl (by decide) (wr := [(se, ob 6 [.int hn, .int 1, .int 0, .ref afr, .ref aup, .ref axx, .ref ayy, .ref asx, .ref asy, .ref asz, .ref apu, .ref abe, .int oz, .int fo, .long lc]), (asx, aJ G 96 (vp_updL fsx rz_4.toNatClampNeg xq.toInt64)), (asy, aJ G 96 fsy), (asz, aJ G 16 fsz)]) rfl (by decide) (by decide) ?_
  rintro _ _ ⟨rz_7, f47_8, f47_9, rfl, rfl⟩
  refine Z.at (pc' := 50) (st' := [.int rz_7, .ref asy]) (ws' := [(se, ob 6 [.int hn, .int 1, .int 0, .ref afr, .ref aup, .ref axx, .ref ayy, .ref asx, .ref asy, .ref asz, .ref apu, .ref abe, .int oz, .int fo, .long lc]), (asx, aJ G 96 (vp_updL fsx rz_4.toNatClampNeg xq.toInt64)), (asy, aJ G 96 fsy), (asz, aJ G 16 fsz)]) (kc' := 0) (ks' := 0) rfl rfl rfl rfl rfl ?_
  refine z_run X br_X6_addStep_50_52 kr_X6_addStep_50_52 (lv' := [(0, .ref se), (1, .int 0), (2, .int xq), (3, .int yq)]) (st' := [.long yq.toInt64, .int rz_7, .ref asy]) rfl ?_
  refine z_last X dr_X6_addStep_52 2 rfl (vin rfl (by omega) (by omega)) (ws' := [(se, ob 6 [.int hn, .int 1, .int 0, .ref afr, .ref aup, .ref axx, .ref ayy, .ref asx, .ref asy, .ref asz, .ref apu, .ref abe, .int oz, .int fo, .long lc]), (asx, aJ G 96 (vp_updL fsx rz_4.toNatClampNeg xq.toInt64)), (asy, aJ G 96 (vp_updL fsy rz_7.toNatClampNeg yq.toInt64)), (asz, aJ G 16 fsz)]) rfl ?_
  refine z_run X br_X6_addStep_53_54 kr_X6_addStep_53_54 (lv' := [(0, .ref se), (1, .int 0), (2, .int xq), (3, .int yq)]) (st' := [.ref se]) rfl ?_
  refine z_get X fl_6_31 dr_X6_addStep_54 0 rfl (v := .ref asz) rfl ?_
  refine z_run X br_X6_addStep_57_58 kr_X6_addStep_57_58 (lv' := [(0, .ref se), (1, .int 0), (2, .int xq), (3, .int yq)]) (st' := [.ref se, .ref asz]) rfl ?_
  refine z_get X fl_6_40 dr_X6_addStep_58 0 rfl (v := .int hn) rfl ?_
  refine z_run X br_X6_addStep_61_64 kr_X6_addStep_61_64 (lv' := [(0, .ref se), (1, .int 0), (2, .int xq), (3, .int yq)]) (st' := [.int (hn - 1), .ref asz, .int (hn - 1), .ref asz]) rfl ?_
  refine z_lald X dr_X6_addStep_64 3 rfl (vin (tI_sub hhn (show (1 : Int32).toInt = 1 from by decide) (by omega)) (by omega) (by omega)) (v := (fsz (hn - 1).toNatClampNeg)) rfl ?_
  refine z_run X br_X6_addStep_65_69 kr_X6_addStep_65_69 (lv' := [(0, .ref se), (1, .int 0), (2, .int xq), (3, .int yq)]) (st' := [.long yq.toInt64, .long xq.toInt64, .long (fsz (hn - 1).toNatClampNeg), .int (hn - 1), .ref asz]) rfl ?_
  refine z_callSN X k_6_55 (cr_X10_sizeOfS l G xq.toInt64 yq.toInt64) dr_X6_addStep_69 ⟨Nat.le_of_ble_eq_true rfl, Nat.le_of_ble_eq_true rfl⟩ ⟨Nat.le_of_ble_eq_true rfl, Nat.le_of_ble_eq_true rfl⟩ rfl (rest := [.long (fsz (hn - 1).toNatClampNeg), .int (hn - 1), .ref asz]) (As := [.long xq.toInt64, .long yq.toInt64]) rfl (Nat.le_of_ble_eq_true rfl) [] [0, 1, 2, 3] rfl (by decide) (wr := [(se, ob 6 [.int hn, .int 1, .int 0, .ref afr, .ref aup, .ref axx, .ref ayy, .ref asx, .ref asy, .ref asz, .ref apu, .ref abe, .int oz, .int fo, .long lc]), (asx, aJ G 96 (vp_updL fsx rz_4.toNatClampNeg xq.toInt64)), (asy, aJ G 96 (vp_updL fsy rz_7.toNatClampNeg yq.toInt64)), (asz, aJ G 16 fsz)]) rfl (by decide) (by decide) ?_
  rintro _ _ ⟨rz_10, f69_11, rfl, rfl⟩
  refine Z.at (pc' := 72) (st' := [.long rz_10, .long (fsz (hn - 1).toNatClampNeg), .int (hn - 1), .ref asz]) (ws' := [(se, ob 6 [.int hn, .int 1, .int 0, .ref afr, .ref aup, .ref axx, .ref ayy, .ref asx, .ref asy, .ref asz, .ref apu, .ref abe, .int oz, .int fo, .long lc]), (asx, aJ G 96 (vp_updL fsx rz_4.toNatClampNeg xq.toInt64)), (asy, aJ G 96 (vp_updL fsy rz_7.toNatClampNeg yq.toInt64)), (asz, aJ G 16 fsz)]) (kc' := 0) (ks' := 0) rfl rfl rfl rfl rfl ?_
  refine z_run X br_X6_addStep_72_73 kr_X6_addStep_72_73 (lv' := [(0, .ref se), (1, .int 0), (2, .int xq), (3, .int yq)]) (st' := [.long ((fsz (hn - 1).toNatClampNeg) + rz_10), .int (hn - 1), .ref asz]) rfl ?_
  refine z_last X dr_X6_addStep_73 3 rfl (vin (tI_sub hhn (show (1 : Int32).toInt = 1 from by decide) (by omega)) (by omega) (by omega)) (ws' := [(se, ob 6 [.int hn, .int 1, .int 0, .ref afr, .ref aup, .ref axx, .ref ayy, .ref asx, .ref asy, .ref asz, .ref apu, .ref abe, .int oz, .int fo, .long lc]), (asx, aJ G 96 (vp_updL fsx rz_4.toNatClampNeg xq.toInt64)), (asy, aJ G 96 (vp_updL fsy rz_7.toNatClampNeg yq.toInt64)), (asz, aJ G 16 (vp_updL fsz (hn - 1).toNatClampNeg ((fsz (hn - 1).toNatClampNeg) + rz_10)))]) rfl ?_
  exact z_vret X rfl dr_X6_addStep_74 (Nat.le_of_ble_eq_true rfl) (Nat.le_of_ble_eq_true rfl) ⟨(vp_updL fsx rz_4.toNatClampNeg xq.toInt64), (vp_updL fsy rz_7.toNatClampNeg yq.toInt64), (vp_updL fsz (hn - 1).toNatClampNeg ((fsz (hn - 1).toNatClampNeg) + rz_10)), (by rw [f69_11]), (by rw [f30_5]; rw [show (0 : Int32).toNatClampNeg = 0 from by decide, Nat.mul_zero, Nat.zero_add]), (by rw [f47_8]; rw [show (0 : Int32).toNatClampNeg = 0 from by decide, Nat.mul_zero, Nat.zero_add]), rfl, rfl⟩

theorem dr_X10_unmended_1 : decode cX10_unmended 1 = .ok (.getfield 78, 3) := by decide +kernel
theorem dr_X10_unmended_9 : decode cX10_unmended 9 = .ok (.iaload, 1) := by decide +kernel
theorem dr_X10_unmended_11 : decode cX10_unmended 11 = .ok (.getfield 26, 3) := by decide +kernel
theorem dr_X10_unmended_16 : decode cX10_unmended 16 = .ok (.invokevirtual 303, 3) := by decide +kernel
theorem dr_X10_unmended_20 : decode cX10_unmended 20 = .ok (.ireturn, 1) := by decide +kernel
abbrev br_X10_unmended_0_1 : ZB := [(.aload_n 0, .null)]
theorem kr_X10_unmended_0_1 : zchk cX10_unmended br_X10_unmended_0_1 0 = true ∧ zpc br_X10_unmended_0_1 0 = 1 := ⟨by decide +kernel, rfl⟩
abbrev br_X10_unmended_4_9 : ZB := [(.iconst 2, .int 2), (.iload_n 1, .null), (.imul, .null), (.iload_n 2, .null), (.iadd, .null)]
theorem kr_X10_unmended_4_9 : zchk cX10_unmended br_X10_unmended_4_9 4 = true ∧ zpc br_X10_unmended_4_9 4 = 9 := ⟨by decide +kernel, rfl⟩
abbrev br_X10_unmended_10_11 : ZB := [(.aload_n 0, .null)]
theorem kr_X10_unmended_10_11 : zchk cX10_unmended br_X10_unmended_10_11 10 = true ∧ zpc br_X10_unmended_10_11 10 = 11 := ⟨by decide +kernel, rfl⟩
abbrev br_X10_unmended_14_16 : ZB := [(.iload_n 1, .null), (.iload_n 2, .null)]
theorem kr_X10_unmended_14_16 : zchk cX10_unmended br_X10_unmended_14_16 14 = true ∧ zpc br_X10_unmended_14_16 14 = 16 := ⟨by decide +kernel, rfl⟩
abbrev br_X10_unmended_19_20 : ZB := [(.iadd, .null)]
theorem kr_X10_unmended_19_20 : zchk cX10_unmended br_X10_unmended_19_20 19 = true ∧ zpc br_X10_unmended_19_20 19 = 20 := ⟨by decide +kernel, rfl⟩
set_option maxHeartbeats 4000000 in
set_option maxRecDepth 100000 in
theorem cr_X10_unmendedS (l : Launch) (G : KG) (x : Nat) (x_told : Value) (x_reader : Value) (ring : Nat) (x_speeds : Value) (x_wheel : Value) (x_trials : Value) (x_span : Value) (x_search : Value) (x_kept : Value) (x_crosses : Value) (x_trueMasses : Value) (thought : Nat) (x_up : Value) (x_low : Value) (x_fits : Value) (x_pulls : Value) (hc : Int32) (rp : Nat) (rx : Nat) (ry : Nat) (rr : Nat) (rh : Nat) (rd : Nat) (g_ph : Value) (g_po : Value) (fp : Nat → Int32) (fx : Nat → Int32) (fy : Nat → Int32) (fr : Nat → Int32) (fh : Nat → Int32) (fd : Nat → Int32) (ft : Nat → Int32) (pq : Int32) (aq : Int32) (hci : Int) (pi : Int) (ai : Int) (hhc : hc.toInt = hci) (hpq : pq.toInt = pi) (haq : aq.toInt = ai) (hc0 : 0 ≤ hci ∧ hci ≤ 16) (hp0 : 0 ≤ pi ∧ pi ≤ 1) (ha0 : 0 ≤ ai ∧ ai ≤ 1) : Ct l G yX10_unmended cX10_unmended 3 (some .int) { frames := 1, cells := 0, slots := 0, locals := 25 } [.ref x, .int pq, .int aq] [(x, ob 10 [x_told, x_reader, .ref ring, x_speeds, x_wheel, x_trials, x_span, x_search, x_kept, x_crosses, x_trueMasses, .ref thought, x_up, x_low, x_fits, x_pulls]), (ring, ob 5 [.int hc, .ref rp, .ref rx, .ref ry, .ref rr, .ref rh, .ref rd, g_ph, g_po]), (rp, aI G 16 fp), (rx, aI G 16 fx), (ry, aI G 16 fy), (rr, aI G 16 fr), (rh, aI G 16 fh), (rd, aI G 16 fd), (thought, aI G 8 ft)] (fun r w1 => ∃ (rz : Int32), (rz = ft (2 * pq + aq).toNatClampNeg + lw fp fh (axs ai fx fy) pi hci.toNat) ∧ r = some (.int rz) ∧ w1 = [(x, ob 10 [x_told, x_reader, .ref ring, x_speeds, x_wheel, x_trials, x_span, x_search, x_kept, x_crosses, x_trueMasses, .ref thought, x_up, x_low, x_fits, x_pulls]), (ring, ob 5 [.int hc, .ref rp, .ref rx, .ref ry, .ref rr, .ref rh, .ref rd, g_ph, g_po]), (rp, aI G 16 fp), (rx, aI G 16 fx), (ry, aI G 16 fy), (rr, aI G 16 fr), (rh, aI G 16 fh), (rd, aI G 16 fd), (thought, aI G 8 ft)]) := by
  refine ct_of [(0, .ref x), (1, .int pq), (2, .int aq)] (by decide) (Nat.le_of_ble_eq_true rfl) rfl ?_
  intro p0 e0 s0 m0 args0 below0 meth0 c0 A X
  refine z_run X br_X10_unmended_0_1 kr_X10_unmended_0_1 (lv' := [(0, .ref x), (1, .int pq), (2, .int aq)]) (st' := [.ref x]) rfl ?_
  refine z_get X fl_10_78 dr_X10_unmended_1 0 rfl (v := .ref thought) rfl ?_
  refine z_run X br_X10_unmended_4_9 kr_X10_unmended_4_9 (lv' := [(0, .ref x), (1, .int pq), (2, .int aq)]) (st' := [.int ((2 * pq) + aq), .ref thought]) rfl ?_
  refine z_iald X dr_X10_unmended_9 8 rfl (vin (tI_add (tI_mul (show (2 : Int32).toInt = 2 from by decide) hpq (by omega)) haq (by omega)) (by omega) (by omega)) (v := (ft ((2 * pq) + aq).toNatClampNeg)) rfl ?_
  refine z_run X br_X10_unmended_10_11 kr_X10_unmended_10_11 (lv' := [(0, .ref x), (1, .int pq), (2, .int aq)]) (st' := [.ref x, .int (ft ((2 * pq) + aq).toNatClampNeg)]) rfl ?_
  refine z_get X fl_10_26 dr_X10_unmended_11 0 rfl (v := .ref ring) rfl ?_
  refine z_run X br_X10_unmended_14_16 kr_X10_unmended_14_16 (lv' := [(0, .ref x), (1, .int pq), (2, .int aq)]) (st' := [.int aq, .int pq, .ref ring, .int (ft ((2 * pq) + aq).toNatClampNeg)]) rfl ?_
  refine z_callV X k_10_303 (ce_X5_leadOfHoles l G ring hc rp rx ry (.ref rr) rh (.ref rd) g_ph g_po fp fx fy fh pq aq hci pi ai hhc hpq haq (by omega)) dr_X10_unmended_16 1 rfl rfl rfl ⟨Nat.le_of_ble_eq_true rfl, Nat.le_of_ble_eq_true rfl⟩ ⟨Nat.le_of_ble_eq_true rfl, Nat.le_of_ble_eq_true rfl⟩ rfl (rest := [.int (ft ((2 * pq) + aq).toNatClampNeg)]) (As := [.int pq, .int aq]) rfl (Nat.le_of_ble_eq_true rfl) [1, 2, 3, 4, 6] [0, 5, 7, 8] rfl (by decide) (wr := [(x, ob 10 [x_told, x_reader, .ref ring, x_speeds, x_wheel, x_trials, x_span, x_search, x_kept, x_crosses, x_trueMasses, .ref thought, x_up, x_low, x_fits, x_pulls]), (rr, aI G 16 fr), (rd, aI G 16 fd), (thought, aI G 8 ft)]) rfl (by decide) (by decide) ?_
  rintro _ _ ⟨rz_1, f16_2, rfl, rfl⟩
  refine Z.at (pc' := 19) (st' := [.int rz_1, .int (ft ((2 * pq) + aq).toNatClampNeg)]) (ws' := [(x, ob 10 [x_told, x_reader, .ref ring, x_speeds, x_wheel, x_trials, x_span, x_search, x_kept, x_crosses, x_trueMasses, .ref thought, x_up, x_low, x_fits, x_pulls]), (rr, aI G 16 fr), (rd, aI G 16 fd), (thought, aI G 8 ft), (ring, ob 5 [.int hc, .ref rp, .ref rx, .ref ry, .ref rr, .ref rh, .ref rd, g_ph, g_po]), (rp, aI G 16 fp), (rx, aI G 16 fx), (ry, aI G 16 fy), (rh, aI G 16 fh)]) (kc' := 0) (ks' := 0) rfl rfl rfl rfl rfl ?_
  refine z_run X br_X10_unmended_19_20 kr_X10_unmended_19_20 (lv' := [(0, .ref x), (1, .int pq), (2, .int aq)]) (st' := [.int ((ft ((2 * pq) + aq).toNatClampNeg) + rz_1)]) rfl ?_
  refine Z.sub (lv' := []) [] rfl [0, 4, 5, 6, 7, 1, 8, 2, 3] (ws' := [(x, ob 10 [x_told, x_reader, .ref ring, x_speeds, x_wheel, x_trials, x_span, x_search, x_kept, x_crosses, x_trueMasses, .ref thought, x_up, x_low, x_fits, x_pulls]), (ring, ob 5 [.int hc, .ref rp, .ref rx, .ref ry, .ref rr, .ref rh, .ref rd, g_ph, g_po]), (rp, aI G 16 fp), (rx, aI G 16 fx), (ry, aI G 16 fy), (rr, aI G 16 fr), (rh, aI G 16 fh), (rd, aI G 16 fd), (thought, aI G 8 ft)]) rfl (by decide) ?_
  exact z_iret X rfl dr_X10_unmended_20 (Nat.le_of_ble_eq_true rfl) (Nat.le_of_ble_eq_true rfl) ⟨((ft ((2 * pq) + aq).toNatClampNeg) + rz_1), (by rw [f16_2]), rfl, rfl⟩

theorem dr_X5_roomLeft_1 : decode cX5_roomLeft 1 = .ok (.getfield 21, 3) := by decide +kernel
theorem dr_X5_roomLeft_5 : decode cX5_roomLeft 5 = .ok (.iaload, 1) := by decide +kernel
theorem dr_X5_roomLeft_7 : decode cX5_roomLeft 7 = .ok (.getfield 24, 3) := by decide +kernel
theorem dr_X5_roomLeft_11 : decode cX5_roomLeft 11 = .ok (.iaload, 1) := by decide +kernel
theorem dr_X5_roomLeft_13 : decode cX5_roomLeft 13 = .ok (.ireturn, 1) := by decide +kernel
abbrev br_X5_roomLeft_0_1 : ZB := [(.aload_n 0, .null)]
theorem kr_X5_roomLeft_0_1 : zchk cX5_roomLeft br_X5_roomLeft_0_1 0 = true ∧ zpc br_X5_roomLeft_0_1 0 = 1 := ⟨by decide +kernel, rfl⟩
abbrev br_X5_roomLeft_4_5 : ZB := [(.iload_n 1, .null)]
theorem kr_X5_roomLeft_4_5 : zchk cX5_roomLeft br_X5_roomLeft_4_5 4 = true ∧ zpc br_X5_roomLeft_4_5 4 = 5 := ⟨by decide +kernel, rfl⟩
abbrev br_X5_roomLeft_6_7 : ZB := [(.aload_n 0, .null)]
theorem kr_X5_roomLeft_6_7 : zchk cX5_roomLeft br_X5_roomLeft_6_7 6 = true ∧ zpc br_X5_roomLeft_6_7 6 = 7 := ⟨by decide +kernel, rfl⟩
abbrev br_X5_roomLeft_10_11 : ZB := [(.iload_n 1, .null)]
theorem kr_X5_roomLeft_10_11 : zchk cX5_roomLeft br_X5_roomLeft_10_11 10 = true ∧ zpc br_X5_roomLeft_10_11 10 = 11 := ⟨by decide +kernel, rfl⟩
abbrev br_X5_roomLeft_12_13 : ZB := [(.isub, .null)]
theorem kr_X5_roomLeft_12_13 : zchk cX5_roomLeft br_X5_roomLeft_12_13 12 = true ∧ zpc br_X5_roomLeft_12_13 12 = 13 := ⟨by decide +kernel, rfl⟩
set_option maxHeartbeats 4000000 in
set_option maxRecDepth 100000 in
theorem cr_X5_roomLeftS (l : Launch) (G : KG) (ring : Nat) (hc : Int32) (rp : Nat) (rx : Nat) (ry : Nat) (rr : Nat) (rh : Nat) (rd : Nat) (g_ph : Value) (g_po : Value) (fp : Nat → Int32) (fx : Nat → Int32) (fy : Nat → Int32) (fr : Nat → Int32) (fh : Nat → Int32) (fd : Nat → Int32) (hq : Int32) (hi_ : Int) (hhq : hq.toInt = hi_) (hh0 : 0 ≤ hi_ ∧ hi_ < 16) : Ct l G yX5_roomLeft cX5_roomLeft 2 (some .int) { frames := 0, cells := 0, slots := 0, locals := 0 } [.ref ring, .int hq] [(ring, ob 5 [.int hc, .ref rp, .ref rx, .ref ry, .ref rr, .ref rh, .ref rd, g_ph, g_po]), (rp, aI G 16 fp), (rx, aI G 16 fx), (ry, aI G 16 fy), (rr, aI G 16 fr), (rh, aI G 16 fh), (rd, aI G 16 fd)] (fun r w1 => ∃ (rz : Int32), (rz = fr hq.toNatClampNeg - fh hq.toNatClampNeg) ∧ r = some (.int rz) ∧ w1 = [(ring, ob 5 [.int hc, .ref rp, .ref rx, .ref ry, .ref rr, .ref rh, .ref rd, g_ph, g_po]), (rp, aI G 16 fp), (rx, aI G 16 fx), (ry, aI G 16 fy), (rr, aI G 16 fr), (rh, aI G 16 fh), (rd, aI G 16 fd)]) := by
  refine ct_of [(0, .ref ring), (1, .int hq)] (by decide) (Nat.le_of_ble_eq_true rfl) rfl ?_
  intro p0 e0 s0 m0 args0 below0 meth0 c0 A X
  refine z_run X br_X5_roomLeft_0_1 kr_X5_roomLeft_0_1 (lv' := [(0, .ref ring), (1, .int hq)]) (st' := [.ref ring]) rfl ?_
  refine z_get X fl_5_21 dr_X5_roomLeft_1 0 rfl (v := .ref rr) rfl ?_
  refine z_run X br_X5_roomLeft_4_5 kr_X5_roomLeft_4_5 (lv' := [(0, .ref ring), (1, .int hq)]) (st' := [.int hq, .ref rr]) rfl ?_
  refine z_iald X dr_X5_roomLeft_5 4 rfl (vin hhq (by omega) (by omega)) (v := (fr hq.toNatClampNeg)) rfl ?_
  refine z_run X br_X5_roomLeft_6_7 kr_X5_roomLeft_6_7 (lv' := [(0, .ref ring), (1, .int hq)]) (st' := [.ref ring, .int (fr hq.toNatClampNeg)]) rfl ?_
  refine z_get X fl_5_24 dr_X5_roomLeft_7 0 rfl (v := .ref rh) rfl ?_
  refine z_run X br_X5_roomLeft_10_11 kr_X5_roomLeft_10_11 (lv' := [(0, .ref ring), (1, .int hq)]) (st' := [.int hq, .ref rh, .int (fr hq.toNatClampNeg)]) rfl ?_
  refine z_iald X dr_X5_roomLeft_11 5 rfl (vin hhq (by omega) (by omega)) (v := (fh hq.toNatClampNeg)) rfl ?_
  refine z_run X br_X5_roomLeft_12_13 kr_X5_roomLeft_12_13 (lv' := [(0, .ref ring), (1, .int hq)]) (st' := [.int ((fr hq.toNatClampNeg) - (fh hq.toNatClampNeg))]) rfl ?_
  exact z_iret X rfl dr_X5_roomLeft_13 (Nat.le_of_ble_eq_true rfl) (Nat.le_of_ble_eq_true rfl) ⟨((fr hq.toNatClampNeg) - (fh hq.toNatClampNeg)), rfl, rfl, rfl⟩

theorem dr_X10_startRestSearch_1 : decode cX10_startRestSearch 1 = .ok (.getfield 61, 3) := by decide +kernel
theorem dr_X10_startRestSearch_5 : decode cX10_startRestSearch 5 = .ok (.invokevirtual 374, 3) := by decide +kernel
theorem dr_X10_startRestSearch_9 : decode cX10_startRestSearch 9 = .ok (.getfield 61, 3) := by decide +kernel
theorem dr_X10_startRestSearch_15 : decode cX10_startRestSearch 15 = .ok (.invokevirtual 348, 3) := by decide +kernel
theorem dr_X10_startRestSearch_21 : decode cX10_startRestSearch 21 = .ok (.invokevirtual 348, 3) := by decide +kernel
theorem dr_X10_startRestSearch_24 : decode cX10_startRestSearch 24 = .ok (.invokevirtual 377, 3) := by decide +kernel
theorem dr_X10_startRestSearch_27 : decode cX10_startRestSearch 27 = .ok (.return_, 1) := by decide +kernel
abbrev br_X10_startRestSearch_0_1 : ZB := [(.aload_n 0, .null)]
theorem kr_X10_startRestSearch_0_1 : zchk cX10_startRestSearch br_X10_startRestSearch_0_1 0 = true ∧ zpc br_X10_startRestSearch_0_1 0 = 1 := ⟨by decide +kernel, rfl⟩
abbrev br_X10_startRestSearch_4_5 : ZB := [(.iconst 0, .int 0)]
theorem kr_X10_startRestSearch_4_5 : zchk cX10_startRestSearch br_X10_startRestSearch_4_5 4 = true ∧ zpc br_X10_startRestSearch_4_5 4 = 5 := ⟨by decide +kernel, rfl⟩
abbrev br_X10_startRestSearch_8_9 : ZB := [(.aload_n 0, .null)]
theorem kr_X10_startRestSearch_8_9 : zchk cX10_startRestSearch br_X10_startRestSearch_8_9 8 = true ∧ zpc br_X10_startRestSearch_8_9 8 = 9 := ⟨by decide +kernel, rfl⟩
abbrev br_X10_startRestSearch_12_15 : ZB := [(.aload_n 0, .null), (.iload_n 1, .null), (.iconst 0, .int 0)]
theorem kr_X10_startRestSearch_12_15 : zchk cX10_startRestSearch br_X10_startRestSearch_12_15 12 = true ∧ zpc br_X10_startRestSearch_12_15 12 = 15 := ⟨by decide +kernel, rfl⟩
abbrev br_X10_startRestSearch_18_21 : ZB := [(.aload_n 0, .null), (.iload_n 1, .null), (.iconst 1, .int 1)]
theorem kr_X10_startRestSearch_18_21 : zchk cX10_startRestSearch br_X10_startRestSearch_18_21 18 = true ∧ zpc br_X10_startRestSearch_18_21 18 = 21 := ⟨by decide +kernel, rfl⟩
set_option maxHeartbeats 4000000 in
set_option maxRecDepth 100000 in
theorem cr_X10_startRestSearchS (l : Launch) (G : KG) (x : Nat) (x_told : Value) (x_reader : Value) (ring : Nat) (x_speeds : Value) (x_wheel : Value) (x_trials : Value) (x_span : Value) (search : Nat) (x_kept : Value) (x_crosses : Value) (x_trueMasses : Value) (thought : Nat) (x_up : Value) (x_low : Value) (x_fits : Value) (x_pulls : Value) (hc : Int32) (rp : Nat) (rx : Nat) (ry : Nat) (rr : Nat) (rh : Nat) (rd : Nat) (g_ph : Value) (g_po : Value) (fp : Nat → Int32) (fx : Nat → Int32) (fy : Nat → Int32) (fr : Nat → Int32) (fh : Nat → Int32) (fd : Nat → Int32) (ft : Nat → Int32) (hn : Int32) (np : Int32) (afr : Nat) (aup : Nat) (axx : Nat) (ayy : Nat) (asx : Nat) (asy : Nat) (asz : Nat) (apu : Nat) (abe : Nat) (oz : Int32) (fo : Int32) (lc : Int64) (bgq : Int32) (ffr : Nat → Int32) (fup : Nat → Int32) (fxx : Nat → Int64) (fyy : Nat → Int64) (fsx : Nat → Int64) (fsy : Nat → Int64) (fsz : Nat → Int64) (fpu : Nat → Int32) (fbe : Nat → Int32) (pq : Int32) (hci : Int) (pi : Int) (hhc : hc.toInt = hci) (hpq : pq.toInt = pi) (hc0 : 0 ≤ hci ∧ hci ≤ 16) (hp0 : 0 ≤ pi ∧ pi ≤ 1) : Ct l G yX10_startRestSearch cX10_startRestSearch 2 none { frames := 2, cells := 0, slots := 0, locals := 47 } [.ref x, .int pq] [(x, ob 10 [x_told, x_reader, .ref ring, x_speeds, x_wheel, x_trials, x_span, .ref search, x_kept, x_crosses, x_trueMasses, .ref thought, x_up, x_low, x_fits, x_pulls]), (ring, ob 5 [.int hc, .ref rp, .ref rx, .ref ry, .ref rr, .ref rh, .ref rd, g_ph, g_po]), (rp, aI G 16 fp), (rx, aI G 16 fx), (ry, aI G 16 fy), (rr, aI G 16 fr), (rh, aI G 16 fh), (rd, aI G 16 fd), (thought, aI G 8 ft), (search, ob 6 [.int hn, .int np, .int bgq, .ref afr, .ref aup, .ref axx, .ref ayy, .ref asx, .ref asy, .ref asz, .ref apu, .ref abe, .int oz, .int fo, .long lc]), (afr, aI G 16 ffr), (aup, aI G 16 fup), (axx, aJ G 6 fxx), (ayy, aJ G 6 fyy), (asx, aJ G 96 fsx), (asy, aJ G 96 fsy), (asz, aJ G 16 fsz), (apu, aI G 16 fpu), (abe, aI G 16 fbe)] (fun r w1 => ∃ (fxx2 : Nat → Int64), ∃ (fyy2 : Nat → Int64), (fxx2 0 = (ft (2 * pq + 0).toNatClampNeg + lw fp fh (axs 0 fx fy) pi hci.toNat).toInt64) ∧ (fyy2 0 = (ft (2 * pq + 1).toNatClampNeg + lw fp fh (axs 1 fx fy) pi hci.toNat).toInt64) ∧ r = none ∧ w1 = [(x, ob 10 [x_told, x_reader, .ref ring, x_speeds, x_wheel, x_trials, x_span, .ref search, x_kept, x_crosses, x_trueMasses, .ref thought, x_up, x_low, x_fits, x_pulls]), (ring, ob 5 [.int hc, .ref rp, .ref rx, .ref ry, .ref rr, .ref rh, .ref rd, g_ph, g_po]), (rp, aI G 16 fp), (rx, aI G 16 fx), (ry, aI G 16 fy), (rr, aI G 16 fr), (rh, aI G 16 fh), (rd, aI G 16 fd), (thought, aI G 8 ft), (search, ob 6 [.int 0, .int 1, .int 0, .ref afr, .ref aup, .ref axx, .ref ayy, .ref asx, .ref asy, .ref asz, .ref apu, .ref abe, .int oz, .int fo, .long lc]), (afr, aI G 16 ffr), (aup, aI G 16 fup), (axx, aJ G 6 fxx2), (ayy, aJ G 6 fyy2), (asx, aJ G 96 fsx), (asy, aJ G 96 fsy), (asz, aJ G 16 fsz), (apu, aI G 16 fpu), (abe, aI G 16 fbe)]) := by
  refine ct_of [(0, .ref x), (1, .int pq)] (by decide) (Nat.le_of_ble_eq_true rfl) rfl ?_
  intro p0 e0 s0 m0 args0 below0 meth0 c0 A X
  refine z_run X br_X10_startRestSearch_0_1 kr_X10_startRestSearch_0_1 (lv' := [(0, .ref x), (1, .int pq)]) (st' := [.ref x]) rfl ?_
  refine z_get X fl_10_61 dr_X10_startRestSearch_1 0 rfl (v := .ref search) rfl ?_
  refine z_run X br_X10_startRestSearch_4_5 kr_X10_startRestSearch_4_5 (lv' := [(0, .ref x), (1, .int pq)]) (st' := [.int 0, .ref search]) rfl ?_
  refine z_callV X k_10_374 (cr_X6_startS l G search hn np afr aup axx ayy asx asy asz apu abe oz fo lc bgq) dr_X10_startRestSearch_5 9 rfl rfl rfl ⟨Nat.le_of_ble_eq_true rfl, Nat.le_of_ble_eq_true rfl⟩ ⟨Nat.le_of_ble_eq_true rfl, Nat.le_of_ble_eq_true rfl⟩ rfl (rest := []) (As := [.int 0]) rfl (Nat.le_of_ble_eq_true rfl) [9] [0, 1, 2, 3, 4, 5, 6, 7, 8, 10, 11, 12, 13, 14, 15, 16, 17, 18] rfl (by decide) (wr := [(x, ob 10 [x_told, x_reader, .ref ring, x_speeds, x_wheel, x_trials, x_span, .ref search, x_kept, x_crosses, x_trueMasses, .ref thought, x_up, x_low, x_fits, x_pulls]), (ring, ob 5 [.int hc, .ref rp, .ref rx, .ref ry, .ref rr, .ref rh, .ref rd, g_ph, g_po]), (rp, aI G 16 fp), (rx, aI G 16 fx), (ry, aI G 16 fy), (rr, aI G 16 fr), (rh, aI G 16 fh), (rd, aI G 16 fd), (thought, aI G 8 ft), (afr, aI G 16 ffr), (aup, aI G 16 fup), (axx, aJ G 6 fxx), (ayy, aJ G 6 fyy), (asx, aJ G 96 fsx), (asy, aJ G 96 fsy), (asz, aJ G 16 fsz), (apu, aI G 16 fpu), (abe, aI G 16 fbe)]) rfl (by decide) (by decide) ?_
  rintro _ _ ⟨rfl, rfl⟩
  refine Z.at (pc' := 8) (st' := []) (ws' := [(x, ob 10 [x_told, x_reader, .ref ring, x_speeds, x_wheel, x_trials, x_span, .ref search, x_kept, x_crosses, x_trueMasses, .ref thought, x_up, x_low, x_fits, x_pulls]), (ring, ob 5 [.int hc, .ref rp, .ref rx, .ref ry, .ref rr, .ref rh, .ref rd, g_ph, g_po]), (rp, aI G 16 fp), (rx, aI G 16 fx), (ry, aI G 16 fy), (rr, aI G 16 fr), (rh, aI G 16 fh), (rd, aI G 16 fd), (thought, aI G 8 ft), (afr, aI G 16 ffr), (aup, aI G 16 fup), (axx, aJ G 6 fxx), (ayy, aJ G 6 fyy), (asx, aJ G 96 fsx), (asy, aJ G 96 fsy), (asz, aJ G 16 fsz), (apu, aI G 16 fpu), (abe, aI G 16 fbe), (search, ob 6 [.int 0, .int 0, .int 0, .ref afr, .ref aup, .ref axx, .ref ayy, .ref asx, .ref asy, .ref asz, .ref apu, .ref abe, .int oz, .int fo, .long lc])]) (kc' := 0) (ks' := 0) rfl rfl rfl rfl rfl ?_
  refine z_run X br_X10_startRestSearch_8_9 kr_X10_startRestSearch_8_9 (lv' := [(0, .ref x), (1, .int pq)]) (st' := [.ref x]) rfl ?_
  refine z_get X fl_10_61 dr_X10_startRestSearch_9 0 rfl (v := .ref search) rfl ?_
  refine z_run X br_X10_startRestSearch_12_15 kr_X10_startRestSearch_12_15 (lv' := [(0, .ref x), (1, .int pq)]) (st' := [.int 0, .int pq, .ref x, .ref search]) rfl ?_
  refine z_callV X k_10_348 (cr_X10_unmendedS l G x x_told x_reader ring x_speeds x_wheel x_trials x_span (.ref search) x_kept x_crosses x_trueMasses thought x_up x_low x_fits x_pulls hc rp rx ry rr rh rd g_ph g_po fp fx fy fr fh fd ft pq 0 hci pi 0 hhc hpq (show (0 : Int32).toInt = 0 from by decide) (by omega) (by omega) (by omega)) dr_X10_startRestSearch_15 0 rfl rfl rfl ⟨Nat.le_of_ble_eq_true rfl, Nat.le_of_ble_eq_true rfl⟩ ⟨Nat.le_of_ble_eq_true rfl, Nat.le_of_ble_eq_true rfl⟩ rfl (rest := [.ref search]) (As := [.int pq, .int 0]) rfl (Nat.le_of_ble_eq_true rfl) [0, 1, 2, 3, 4, 5, 6, 7, 8] [9, 10, 11, 12, 13, 14, 15, 16, 17, 18] rfl (by decide) (wr := [(afr, aI G 16 ffr), (aup, aI G 16 fup), (axx, aJ G 6 fxx), (ayy, aJ G 6 fyy), (asx, aJ G 96 fsx), (asy, aJ G 96 fsy), (asz, aJ G 16 fsz), (apu, aI G 16 fpu), (abe, aI G 16 fbe), (search, ob 6 [.int 0, .int 0, .int 0, .ref afr, .ref aup, .ref axx, .ref ayy, .ref asx, .ref asy, .ref asz, .ref apu, .ref abe, .int oz, .int fo, .long lc])]) rfl (by decide) (by decide) ?_
  rintro _ _ ⟨rz_1, f15_2, rfl, rfl⟩
  refine Z.at (pc' := 18) (st' := [.int rz_1, .ref search]) (ws' := [(afr, aI G 16 ffr), (aup, aI G 16 fup), (axx, aJ G 6 fxx), (ayy, aJ G 6 fyy), (asx, aJ G 96 fsx), (asy, aJ G 96 fsy), (asz, aJ G 16 fsz), (apu, aI G 16 fpu), (abe, aI G 16 fbe), (search, ob 6 [.int 0, .int 0, .int 0, .ref afr, .ref aup, .ref axx, .ref ayy, .ref asx, .ref asy, .ref asz, .ref apu, .ref abe, .int oz, .int fo, .long lc]), (x, ob 10 [x_told, x_reader, .ref ring, x_speeds, x_wheel, x_trials, x_span, .ref search, x_kept, x_crosses, x_trueMasses, .ref thought, x_up, x_low, x_fits, x_pulls]), (ring, ob 5 [.int hc, .ref rp, .ref rx, .ref ry, .ref rr, .ref rh, .ref rd, g_ph, g_po]), (rp, aI G 16 fp), (rx, aI G 16 fx), (ry, aI G 16 fy), (rr, aI G 16 fr), (rh, aI G 16 fh), (rd, aI G 16 fd), (thought, aI G 8 ft)]) (kc' := 0) (ks' := 0) rfl rfl rfl rfl rfl ?_
  refine z_run X br_X10_startRestSearch_18_21 kr_X10_startRestSearch_18_21 (lv' := [(0, .ref x), (1, .int pq)]) (st' := [.int 1, .int pq, .ref x, .int rz_1, .ref search]) rfl ?_
  refine z_callV X k_10_348 (cr_X10_unmendedS l G x x_told x_reader ring x_speeds x_wheel x_trials x_span (.ref search) x_kept x_crosses x_trueMasses thought x_up x_low x_fits x_pulls hc rp rx ry rr rh rd g_ph g_po fp fx fy fr fh fd ft pq 1 hci pi 1 hhc hpq (show (1 : Int32).toInt = 1 from by decide) (by omega) (by omega) (by omega)) dr_X10_startRestSearch_21 10 rfl rfl rfl ⟨Nat.le_of_ble_eq_true rfl, Nat.le_of_ble_eq_true rfl⟩ ⟨Nat.le_of_ble_eq_true rfl, Nat.le_of_ble_eq_true rfl⟩ rfl (rest := [.int rz_1, .ref search]) (As := [.int pq, .int 1]) rfl (Nat.le_of_ble_eq_true rfl) [10, 11, 12, 13, 14, 15, 16, 17, 18] [0, 1, 2, 3, 4, 5, 6, 7, 8, 9] rfl (by decide) (wr := [(afr, aI G 16 ffr), (aup, aI G 16 fup), (axx, aJ G 6 fxx), (ayy, aJ G 6 fyy), (asx, aJ G 96 fsx), (asy, aJ G 96 fsy), (asz, aJ G 16 fsz), (apu, aI G 16 fpu), (abe, aI G 16 fbe), (search, ob 6 [.int 0, .int 0, .int 0, .ref afr, .ref aup, .ref axx, .ref ayy, .ref asx, .ref asy, .ref asz, .ref apu, .ref abe, .int oz, .int fo, .long lc])]) rfl (by decide) (by decide) ?_
  rintro _ _ ⟨rz_3, f21_4, rfl, rfl⟩
  refine Z.at (pc' := 24) (st' := [.int rz_3, .int rz_1, .ref search]) (ws' := [(afr, aI G 16 ffr), (aup, aI G 16 fup), (axx, aJ G 6 fxx), (ayy, aJ G 6 fyy), (asx, aJ G 96 fsx), (asy, aJ G 96 fsy), (asz, aJ G 16 fsz), (apu, aI G 16 fpu), (abe, aI G 16 fbe), (search, ob 6 [.int 0, .int 0, .int 0, .ref afr, .ref aup, .ref axx, .ref ayy, .ref asx, .ref asy, .ref asz, .ref apu, .ref abe, .int oz, .int fo, .long lc]), (x, ob 10 [x_told, x_reader, .ref ring, x_speeds, x_wheel, x_trials, x_span, .ref search, x_kept, x_crosses, x_trueMasses, .ref thought, x_up, x_low, x_fits, x_pulls]), (ring, ob 5 [.int hc, .ref rp, .ref rx, .ref ry, .ref rr, .ref rh, .ref rd, g_ph, g_po]), (rp, aI G 16 fp), (rx, aI G 16 fx), (ry, aI G 16 fy), (rr, aI G 16 fr), (rh, aI G 16 fh), (rd, aI G 16 fd), (thought, aI G 8 ft)]) (kc' := 0) (ks' := 0) rfl rfl rfl rfl rfl ?_
  refine z_callV X k_10_377 (cr_X6_addPointS l G search 0 afr aup axx ayy asx asy asz apu abe oz fo lc fxx fyy rz_1 rz_3) dr_X10_startRestSearch_24 9 rfl rfl rfl ⟨Nat.le_of_ble_eq_true rfl, Nat.le_of_ble_eq_true rfl⟩ ⟨Nat.le_of_ble_eq_true rfl, Nat.le_of_ble_eq_true rfl⟩ rfl (rest := []) (As := [.int rz_1, .int rz_3]) rfl (Nat.le_of_ble_eq_true rfl) [9, 2, 3] [0, 1, 4, 5, 6, 7, 8, 10, 11, 12, 13, 14, 15, 16, 17, 18] rfl (by decide) (wr := [(afr, aI G 16 ffr), (aup, aI G 16 fup), (asx, aJ G 96 fsx), (asy, aJ G 96 fsy), (asz, aJ G 16 fsz), (apu, aI G 16 fpu), (abe, aI G 16 fbe), (x, ob 10 [x_told, x_reader, .ref ring, x_speeds, x_wheel, x_trials, x_span, .ref search, x_kept, x_crosses, x_trueMasses, .ref thought, x_up, x_low, x_fits, x_pulls]), (ring, ob 5 [.int hc, .ref rp, .ref rx, .ref ry, .ref rr, .ref rh, .ref rd, g_ph, g_po]), (rp, aI G 16 fp), (rx, aI G 16 fx), (ry, aI G 16 fy), (rr, aI G 16 fr), (rh, aI G 16 fh), (rd, aI G 16 fd), (thought, aI G 8 ft)]) rfl (by decide) (by decide) ?_
  rintro _ _ ⟨fxx2_5, fyy2_6, f24_7, rfl, rfl⟩
  refine Z.at (pc' := 27) (st' := []) (ws' := [(afr, aI G 16 ffr), (aup, aI G 16 fup), (asx, aJ G 96 fsx), (asy, aJ G 96 fsy), (asz, aJ G 16 fsz), (apu, aI G 16 fpu), (abe, aI G 16 fbe), (x, ob 10 [x_told, x_reader, .ref ring, x_speeds, x_wheel, x_trials, x_span, .ref search, x_kept, x_crosses, x_trueMasses, .ref thought, x_up, x_low, x_fits, x_pulls]), (ring, ob 5 [.int hc, .ref rp, .ref rx, .ref ry, .ref rr, .ref rh, .ref rd, g_ph, g_po]), (rp, aI G 16 fp), (rx, aI G 16 fx), (ry, aI G 16 fy), (rr, aI G 16 fr), (rh, aI G 16 fh), (rd, aI G 16 fd), (thought, aI G 8 ft), (search, ob 6 [.int 0, .int 1, .int 0, .ref afr, .ref aup, .ref axx, .ref ayy, .ref asx, .ref asy, .ref asz, .ref apu, .ref abe, .int oz, .int fo, .long lc]), (axx, aJ G 6 fxx2_5), (ayy, aJ G 6 fyy2_6)]) (kc' := 0) (ks' := 0) rfl rfl rfl rfl rfl ?_
  refine Z.sub (lv' := []) [] rfl [7, 8, 9, 10, 11, 12, 13, 14, 15, 16, 0, 1, 17, 18, 2, 3, 4, 5, 6] (ws' := [(x, ob 10 [x_told, x_reader, .ref ring, x_speeds, x_wheel, x_trials, x_span, .ref search, x_kept, x_crosses, x_trueMasses, .ref thought, x_up, x_low, x_fits, x_pulls]), (ring, ob 5 [.int hc, .ref rp, .ref rx, .ref ry, .ref rr, .ref rh, .ref rd, g_ph, g_po]), (rp, aI G 16 fp), (rx, aI G 16 fx), (ry, aI G 16 fy), (rr, aI G 16 fr), (rh, aI G 16 fh), (rd, aI G 16 fd), (thought, aI G 8 ft), (search, ob 6 [.int 0, .int 1, .int 0, .ref afr, .ref aup, .ref axx, .ref ayy, .ref asx, .ref asy, .ref asz, .ref apu, .ref abe, .int oz, .int fo, .long lc]), (afr, aI G 16 ffr), (aup, aI G 16 fup), (axx, aJ G 6 fxx2_5), (ayy, aJ G 6 fyy2_6), (asx, aJ G 96 fsx), (asy, aJ G 96 fsy), (asz, aJ G 16 fsz), (apu, aI G 16 fpu), (abe, aI G 16 fbe)]) rfl (by decide) ?_
  exact z_vret X rfl dr_X10_startRestSearch_27 (Nat.le_of_ble_eq_true rfl) (Nat.le_of_ble_eq_true rfl) ⟨fxx2_5, fyy2_6, (f24_7.1.trans (by rw [f15_2])), (f24_7.2.trans (by rw [f21_4])), rfl, rfl⟩

theorem dr_X10_searchPutting_2 : decode cX10_searchPutting 2 = .ok (.invokevirtual 357, 3) := by decide +kernel
theorem dr_X10_searchPutting_9 : decode cX10_searchPutting 9 = .ok (.getfield 26, 3) := by decide +kernel
theorem dr_X10_searchPutting_12 : decode cX10_searchPutting 12 = .ok (.getfield 136, 3) := by decide +kernel
theorem dr_X10_searchPutting_15 : decode cX10_searchPutting 15 = .ok (.if_icmp .ge 64, 3) := by decide +kernel
theorem dr_X10_searchPutting_80 : decode cX10_searchPutting 80 = .ok (.getfield 61, 3) := by decide +kernel
theorem dr_X10_searchPutting_84 : decode cX10_searchPutting 84 = .ok (.invokevirtual 367, 3) := by decide +kernel
theorem dr_X10_searchPutting_87 : decode cX10_searchPutting 87 = .ok (.lreturn, 1) := by decide +kernel
theorem dr_X10_searchPutting_19 : decode cX10_searchPutting 19 = .ok (.getfield 26, 3) := by decide +kernel
theorem dr_X10_searchPutting_22 : decode cX10_searchPutting 22 = .ok (.getfield 116, 3) := by decide +kernel
theorem dr_X10_searchPutting_26 : decode cX10_searchPutting 26 = .ok (.iaload, 1) := by decide +kernel
theorem dr_X10_searchPutting_28 : decode cX10_searchPutting 28 = .ok (.if_icmp .ne 45, 3) := by decide +kernel
theorem dr_X10_searchPutting_76 : decode cX10_searchPutting 76 = .ok (.goto (-69), 3) := by decide +kernel
theorem dr_X10_searchPutting_32 : decode cX10_searchPutting 32 = .ok (.getfield 61, 3) := by decide +kernel
theorem dr_X10_searchPutting_37 : decode cX10_searchPutting 37 = .ok (.getfield 26, 3) := by decide +kernel
theorem dr_X10_searchPutting_41 : decode cX10_searchPutting 41 = .ok (.invokevirtual 371, 3) := by decide +kernel
theorem dr_X10_searchPutting_44 : decode cX10_searchPutting 44 = .ok (.invokevirtual 361, 3) := by decide +kernel
theorem dr_X10_searchPutting_48 : decode cX10_searchPutting 48 = .ok (.getfield 61, 3) := by decide +kernel
theorem dr_X10_searchPutting_53 : decode cX10_searchPutting 53 = .ok (.getfield 26, 3) := by decide +kernel
theorem dr_X10_searchPutting_56 : decode cX10_searchPutting 56 = .ok (.getfield 119, 3) := by decide +kernel
theorem dr_X10_searchPutting_60 : decode cX10_searchPutting 60 = .ok (.iaload, 1) := by decide +kernel
theorem dr_X10_searchPutting_62 : decode cX10_searchPutting 62 = .ok (.getfield 26, 3) := by decide +kernel
theorem dr_X10_searchPutting_65 : decode cX10_searchPutting 65 = .ok (.getfield 122, 3) := by decide +kernel
theorem dr_X10_searchPutting_69 : decode cX10_searchPutting 69 = .ok (.iaload, 1) := by decide +kernel
theorem dr_X10_searchPutting_70 : decode cX10_searchPutting 70 = .ok (.invokevirtual 364, 3) := by decide +kernel
abbrev br_X10_searchPutting_0_2 : ZB := [(.aload_n 0, .null), (.iload_n 1, .null)]
theorem kr_X10_searchPutting_0_2 : zchk cX10_searchPutting br_X10_searchPutting_0_2 0 = true ∧ zpc br_X10_searchPutting_0_2 0 = 2 := ⟨by decide +kernel, rfl⟩
abbrev br_X10_searchPutting_5_7 : ZB := [(.iconst 0, .int 0), (.istore_n 3, .null)]
theorem kr_X10_searchPutting_5_7 : zchk cX10_searchPutting br_X10_searchPutting_5_7 5 = true ∧ zpc br_X10_searchPutting_5_7 5 = 7 := ⟨by decide +kernel, rfl⟩
abbrev br_X10_searchPutting_7_9 : ZB := [(.iload_n 3, .null), (.aload_n 0, .null)]
theorem kr_X10_searchPutting_7_9 : zchk cX10_searchPutting br_X10_searchPutting_7_9 7 = true ∧ zpc br_X10_searchPutting_7_9 7 = 9 := ⟨by decide +kernel, rfl⟩
abbrev br_X10_searchPutting_79_80 : ZB := [(.aload_n 0, .null)]
theorem kr_X10_searchPutting_79_80 : zchk cX10_searchPutting br_X10_searchPutting_79_80 79 = true ∧ zpc br_X10_searchPutting_79_80 79 = 80 := ⟨by decide +kernel, rfl⟩
abbrev br_X10_searchPutting_83_84 : ZB := [(.iload_n 2, .null)]
theorem kr_X10_searchPutting_83_84 : zchk cX10_searchPutting br_X10_searchPutting_83_84 83 = true ∧ zpc br_X10_searchPutting_83_84 83 = 84 := ⟨by decide +kernel, rfl⟩
abbrev br_X10_searchPutting_18_19 : ZB := [(.aload_n 0, .null)]
theorem kr_X10_searchPutting_18_19 : zchk cX10_searchPutting br_X10_searchPutting_18_19 18 = true ∧ zpc br_X10_searchPutting_18_19 18 = 19 := ⟨by decide +kernel, rfl⟩
abbrev br_X10_searchPutting_25_26 : ZB := [(.iload_n 3, .null)]
theorem kr_X10_searchPutting_25_26 : zchk cX10_searchPutting br_X10_searchPutting_25_26 25 = true ∧ zpc br_X10_searchPutting_25_26 25 = 26 := ⟨by decide +kernel, rfl⟩
abbrev br_X10_searchPutting_27_28 : ZB := [(.iload_n 1, .null)]
theorem kr_X10_searchPutting_27_28 : zchk cX10_searchPutting br_X10_searchPutting_27_28 27 = true ∧ zpc br_X10_searchPutting_27_28 27 = 28 := ⟨by decide +kernel, rfl⟩
abbrev br_X10_searchPutting_73_76 : ZB := [(.iinc 3 1, .int 1)]
theorem kr_X10_searchPutting_73_76 : zchk cX10_searchPutting br_X10_searchPutting_73_76 73 = true ∧ zpc br_X10_searchPutting_73_76 73 = 76 := ⟨by decide +kernel, rfl⟩
abbrev br_X10_searchPutting_31_32 : ZB := [(.aload_n 0, .null)]
theorem kr_X10_searchPutting_31_32 : zchk cX10_searchPutting br_X10_searchPutting_31_32 31 = true ∧ zpc br_X10_searchPutting_31_32 31 = 32 := ⟨by decide +kernel, rfl⟩
abbrev br_X10_searchPutting_35_37 : ZB := [(.iconst 0, .int 0), (.aload_n 0, .null)]
theorem kr_X10_searchPutting_35_37 : zchk cX10_searchPutting br_X10_searchPutting_35_37 35 = true ∧ zpc br_X10_searchPutting_35_37 35 = 37 := ⟨by decide +kernel, rfl⟩
abbrev br_X10_searchPutting_40_41 : ZB := [(.iload_n 3, .null)]
theorem kr_X10_searchPutting_40_41 : zchk cX10_searchPutting br_X10_searchPutting_40_41 40 = true ∧ zpc br_X10_searchPutting_40_41 40 = 41 := ⟨by decide +kernel, rfl⟩
abbrev br_X10_searchPutting_47_48 : ZB := [(.aload_n 0, .null)]
theorem kr_X10_searchPutting_47_48 : zchk cX10_searchPutting br_X10_searchPutting_47_48 47 = true ∧ zpc br_X10_searchPutting_47_48 47 = 48 := ⟨by decide +kernel, rfl⟩
abbrev br_X10_searchPutting_51_53 : ZB := [(.iconst 0, .int 0), (.aload_n 0, .null)]
theorem kr_X10_searchPutting_51_53 : zchk cX10_searchPutting br_X10_searchPutting_51_53 51 = true ∧ zpc br_X10_searchPutting_51_53 51 = 53 := ⟨by decide +kernel, rfl⟩
abbrev br_X10_searchPutting_59_60 : ZB := [(.iload_n 3, .null)]
theorem kr_X10_searchPutting_59_60 : zchk cX10_searchPutting br_X10_searchPutting_59_60 59 = true ∧ zpc br_X10_searchPutting_59_60 59 = 60 := ⟨by decide +kernel, rfl⟩
abbrev br_X10_searchPutting_61_62 : ZB := [(.aload_n 0, .null)]
theorem kr_X10_searchPutting_61_62 : zchk cX10_searchPutting br_X10_searchPutting_61_62 61 = true ∧ zpc br_X10_searchPutting_61_62 61 = 62 := ⟨by decide +kernel, rfl⟩
abbrev br_X10_searchPutting_68_69 : ZB := [(.iload_n 3, .null)]
theorem kr_X10_searchPutting_68_69 : zchk cX10_searchPutting br_X10_searchPutting_68_69 68 = true ∧ zpc br_X10_searchPutting_68_69 68 = 69 := ⟨by decide +kernel, rfl⟩
set_option maxHeartbeats 4000000 in
set_option maxRecDepth 100000 in
theorem cr_X10_searchPuttingS (l : Launch) (G : KG) (x : Nat) (x_told : Value) (x_reader : Value) (ring : Nat) (x_speeds : Value) (x_wheel : Value) (x_trials : Value) (x_span : Value) (search : Nat) (x_kept : Value) (x_crosses : Value) (x_trueMasses : Value) (thought : Nat) (x_up : Value) (x_low : Value) (x_fits : Value) (x_pulls : Value) (hc : Int32) (rp : Nat) (rx : Nat) (ry : Nat) (rr : Nat) (rh : Nat) (rd : Nat) (g_ph : Value) (g_po : Value) (fp : Nat → Int32) (fx : Nat → Int32) (fy : Nat → Int32) (fr : Nat → Int32) (fh : Nat → Int32) (fd : Nat → Int32) (ft : Nat → Int32) (hn : Int32) (np : Int32) (afr : Nat) (aup : Nat) (axx : Nat) (ayy : Nat) (asx : Nat) (asy : Nat) (asz : Nat) (apu : Nat) (abe : Nat) (oz : Int32) (fo : Int32) (lc : Int64) (bgq : Int32) (ffr : Nat → Int32) (fup : Nat → Int32) (fxx : Nat → Int64) (fyy : Nat → Int64) (fsx : Nat → Int64) (fsy : Nat → Int64) (fsz : Nat → Int64) (fpu : Nat → Int32) (fbe : Nat → Int32) (pq : Int32) (kq : Int32) (hci : Int) (pi : Int) (ki : Int) (hhc : hc.toInt = hci) (hpq : pq.toInt = pi) (hkq : kq.toInt = ki) (hc0 : 0 ≤ hci ∧ hci ≤ 16) (hp0 : 0 ≤ pi ∧ pi ≤ 1) (hk0 : 0 ≤ ki ∧ ki ≤ 3) (hbv : ∀ j, j < hci.toNat → (-99 ≤ (fx j).toInt ∧ (fx j).toInt ≤ 99) ∧ -99 ≤ (fy j).toInt ∧ (fy j).toInt ≤ 99) (hbl : ∀ j, j < hci.toNat → (-200 ≤ ((fun _ => (0 : Int32)) j).toInt ∧ ((fun _ => (0 : Int32)) j).toInt ≤ 0) ∧ 0 ≤ ((fun j => fr j - fh j) j).toInt ∧ ((fun j => fr j - fh j) j).toInt ≤ 200) (hux : -94000000 ≤ (ft (2 * pq + 0).toNatClampNeg + lw fp fh (axs 0 fx fy) pi hci.toNat).toInt ∧ (ft (2 * pq + 0).toNatClampNeg + lw fp fh (axs 0 fx fy) pi hci.toNat).toInt ≤ 94000000) (huy : -94000000 ≤ (ft (2 * pq + 1).toNatClampNeg + lw fp fh (axs 1 fx fy) pi hci.toNat).toInt ∧ (ft (2 * pq + 1).toNatClampNeg + lw fp fh (axs 1 fx fy) pi hci.toNat).toInt ≤ 94000000) : Ct l G yX10_searchPutting cX10_searchPutting 4 (some .long) { frames := 7, cells := 0, slots := 0, locals := 177 } [.ref x, .int pq, .int kq] [(x, ob 10 [x_told, x_reader, .ref ring, x_speeds, x_wheel, x_trials, x_span, .ref search, x_kept, x_crosses, x_trueMasses, .ref thought, x_up, x_low, x_fits, x_pulls]), (ring, ob 5 [.int hc, .ref rp, .ref rx, .ref ry, .ref rr, .ref rh, .ref rd, g_ph, g_po]), (rp, aI G 16 fp), (rx, aI G 16 fx), (ry, aI G 16 fy), (rr, aI G 16 fr), (rh, aI G 16 fh), (rd, aI G 16 fd), (thought, aI G 8 ft), (search, ob 6 [.int hn, .int np, .int bgq, .ref afr, .ref aup, .ref axx, .ref ayy, .ref asx, .ref asy, .ref asz, .ref apu, .ref abe, .int oz, .int fo, .long lc]), (afr, aI G 16 ffr), (aup, aI G 16 fup), (axx, aJ G 6 fxx), (ayy, aJ G 6 fyy), (asx, aJ G 96 fsx), (asy, aJ G 96 fsy), (asz, aJ G 16 fsz), (apu, aI G 16 fpu), (abe, aI G 16 fbe)] (fun r w1 => ∃ (rz : Int64), ∃ (ffr2 : Nat → Int32), ∃ (fup2 : Nat → Int32), ∃ (fsx2 : Nat → Int64), ∃ (fsy2 : Nat → Int64), ∃ (fsz2 : Nat → Int64), ∃ (hn2 : Int32), ∃ (fxx2 : Nat → Int64), ∃ (fyy2 : Nat → Int64), ∃ (fpu2 : Nat → Int32), ∃ (fbe2 : Nat → Int32), ∃ (oz2 : Int32), ∃ (fo2 : Int32), ∃ (lc2 : Int64), (SrX (fun j => (fp j).toInt = pi) (fun _ => (0 : Int32)) (fun j => fr j - fh j) fx fy hci.toNat (ft (2 * pq + 0).toNatClampNeg + lw fp fh (axs 0 fx fy) pi hci.toNat).toInt64 (ft (2 * pq + 1).toNatClampNeg + lw fp fh (axs 1 fx fy) pi hci.toNat).toInt64 ki rz) ∧ (0 ≤ hn2.toInt ∧ hn2.toInt ≤ 16) ∧ r = some (.long rz) ∧ w1 = [(x, ob 10 [x_told, x_reader, .ref ring, x_speeds, x_wheel, x_trials, x_span, .ref search, x_kept, x_crosses, x_trueMasses, .ref thought, x_up, x_low, x_fits, x_pulls]), (ring, ob 5 [.int hc, .ref rp, .ref rx, .ref ry, .ref rr, .ref rh, .ref rd, g_ph, g_po]), (rp, aI G 16 fp), (rx, aI G 16 fx), (ry, aI G 16 fy), (rr, aI G 16 fr), (rh, aI G 16 fh), (rd, aI G 16 fd), (thought, aI G 8 ft), (search, ob 6 [.int hn2, .int 1, .int 0, .ref afr, .ref aup, .ref axx, .ref ayy, .ref asx, .ref asy, .ref asz, .ref apu, .ref abe, .int oz2, .int fo2, .long lc2]), (afr, aI G 16 ffr2), (aup, aI G 16 fup2), (axx, aJ G 6 fxx2), (ayy, aJ G 6 fyy2), (asx, aJ G 96 fsx2), (asy, aJ G 96 fsy2), (asz, aJ G 16 fsz2), (apu, aI G 16 fpu2), (abe, aI G 16 fbe2)]) := by
  refine ct_of [(0, .ref x), (1, .int pq), (2, .int kq)] (by decide) (Nat.le_of_ble_eq_true rfl) rfl ?_
  intro p0 e0 s0 m0 args0 below0 meth0 c0 A X
  refine z_run X br_X10_searchPutting_0_2 kr_X10_searchPutting_0_2 (lv' := [(0, .ref x), (1, .int pq), (2, .int kq)]) (st' := [.int pq, .ref x]) rfl ?_
  refine z_callV X k_10_357 (cr_X10_startRestSearchS l G x x_told x_reader ring x_speeds x_wheel x_trials x_span search x_kept x_crosses x_trueMasses thought x_up x_low x_fits x_pulls hc rp rx ry rr rh rd g_ph g_po fp fx fy fr fh fd ft hn np afr aup axx ayy asx asy asz apu abe oz fo lc bgq ffr fup fxx fyy fsx fsy fsz fpu fbe pq hci pi hhc hpq (by omega) (by omega)) dr_X10_searchPutting_2 0 rfl rfl rfl ⟨Nat.le_of_ble_eq_true rfl, Nat.le_of_ble_eq_true rfl⟩ ⟨Nat.le_of_ble_eq_true rfl, Nat.le_of_ble_eq_true rfl⟩ rfl (rest := []) (As := [.int pq]) rfl (Nat.le_of_ble_eq_true rfl) [0, 1, 2, 3, 4, 5, 6, 7, 8, 9, 10, 11, 12, 13, 14, 15, 16, 17, 18] [] rfl (by decide) (wr := []) rfl (by decide) (by decide) ?_
  rintro _ _ ⟨fxx2_1, fyy2_2, f2_3, f2_4, rfl, rfl⟩
  refine Z.at (pc' := 5) (st' := []) (ws' := [(x, ob 10 [x_told, x_reader, .ref ring, x_speeds, x_wheel, x_trials, x_span, .ref search, x_kept, x_crosses, x_trueMasses, .ref thought, x_up, x_low, x_fits, x_pulls]), (ring, ob 5 [.int hc, .ref rp, .ref rx, .ref ry, .ref rr, .ref rh, .ref rd, g_ph, g_po]), (rp, aI G 16 fp), (rx, aI G 16 fx), (ry, aI G 16 fy), (rr, aI G 16 fr), (rh, aI G 16 fh), (rd, aI G 16 fd), (thought, aI G 8 ft), (search, ob 6 [.int 0, .int 1, .int 0, .ref afr, .ref aup, .ref axx, .ref ayy, .ref asx, .ref asy, .ref asz, .ref apu, .ref abe, .int oz, .int fo, .long lc]), (afr, aI G 16 ffr), (aup, aI G 16 fup), (axx, aJ G 6 fxx2_1), (ayy, aJ G 6 fyy2_2), (asx, aJ G 96 fsx), (asy, aJ G 96 fsy), (asz, aJ G 16 fsz), (apu, aI G 16 fpu), (abe, aI G 16 fbe)]) (kc' := 0) (ks' := 0) rfl rfl rfl rfl rfl ?_
  have hsx0_ := f2_3
  have hsy0_ := f2_4
  refine z_run X br_X10_searchPutting_5_7 kr_X10_searchPutting_5_7 (lv' := [(3, .int 0), (0, .ref x), (1, .int pq), (2, .int kq)]) (st' := []) rfl ?_
  refine zloop (σ := Int32 × Int32 × (Nat → Int32) × (Nat → Int32) × (Nat → Int64) × (Nat → Int64) × (Nat → Int64) × (Nat → Int32) × (Nat → Int32)) (fun z => [(3, .int z.1), (0, .ref x), (1, .int pq), (2, .int kq)]) (fun z => []) (fun z => [(x, ob 10 [x_told, x_reader, .ref ring, x_speeds, x_wheel, x_trials, x_span, .ref search, x_kept, x_crosses, x_trueMasses, .ref thought, x_up, x_low, x_fits, x_pulls]), (ring, ob 5 [.int hc, .ref rp, .ref rx, .ref ry, .ref rr, .ref rh, .ref rd, g_ph, g_po]), (rp, aI G 16 fp), (rx, aI G 16 fx), (ry, aI G 16 fy), (rr, aI G 16 fr), (rh, aI G 16 fh), (rd, aI G 16 fd), (thought, aI G 8 ft), (search, ob 6 [.int z.2.1, .int 1, .int 0, .ref afr, .ref aup, .ref axx, .ref ayy, .ref asx, .ref asy, .ref asz, .ref apu, .ref abe, .int oz, .int fo, .long lc]), (afr, aI G 16 z.2.2.1), (aup, aI G 16 z.2.2.2.1), (axx, aJ G 6 fxx2_1), (ayy, aJ G 6 fyy2_2), (asx, aJ G 96 z.2.2.2.2.1), (asy, aJ G 96 z.2.2.2.2.2.1), (asz, aJ G 16 z.2.2.2.2.2.2.1), (apu, aI G 16 z.2.2.2.2.2.2.2.1), (abe, aI G 16 z.2.2.2.2.2.2.2.2)]) (fun z => (0 ≤ z.1.toInt ∧ z.1.toInt ≤ hci) ∧ (0 ≤ z.2.1.toInt ∧ z.2.1.toInt ≤ z.1.toInt) ∧ (EqS z.2.1.toInt ((slC (fun j => (fp j).toInt = pi) z.1.toInt.toNat : Nat) : Int)) ∧ (BLD (fun j => (fp j).toInt = pi) (fun _ => (0 : Int32)) (fun j => fr j - fh j) fx fy z.1.toInt.toNat z.2.2.1 z.2.2.2.1 z.2.2.2.2.1 z.2.2.2.2.2.1 z.2.2.2.2.2.2.1 z.2.2.2.2.2.2.2.1)) (fun z => (hci - z.1.toInt).toNat) (0, (0 : Int32), ffr, fup, fsx, fsy, fsz, fpu, fbe) ?_ ?_
  ·
    rintro ⟨h_, hn_, gfr, gup, gsx, gsy, gsz, gpu, gbe⟩ ⟨hi, hnb, hN, hB⟩ ih7
    dsimp only at *
    refine z_run X br_X10_searchPutting_7_9 kr_X10_searchPutting_7_9 (lv' := [(3, .int h_), (0, .ref x), (1, .int pq), (2, .int kq)]) (st' := [.ref x, .int h_]) rfl ?_
    refine z_get X fl_10_26 dr_X10_searchPutting_9 0 rfl (v := .ref ring) rfl ?_
    refine z_getN X fl_10_136 dr_X10_searchPutting_12 1 rfl (v := .int hc) rfl ?_
    refine zc_ge X dr_X10_searchPutting_15 (tgt := 79) (by decide) (a := h_.toInt) (b := hci) rfl hhc (fun c15_5 => ?_) (fun c15_5 => ?_)
    ·
      refine z_run X br_X10_searchPutting_79_80 kr_X10_searchPutting_79_80 (lv' := [(3, .int h_), (0, .ref x), (1, .int pq), (2, .int kq)]) (st' := [.ref x]) rfl ?_
      refine z_get X fl_10_61 dr_X10_searchPutting_80 0 rfl (v := .ref search) rfl ?_
      refine z_run X br_X10_searchPutting_83_84 kr_X10_searchPutting_83_84 (lv' := [(3, .int h_), (0, .ref x), (1, .int pq), (2, .int kq)]) (st' := [.int kq, .ref search]) rfl ?_
      have eh_ : h_.toInt.toNat = hci.toNat := (by clear hN hB; omega)
      have hB9_ : BLD (fun j => (fp j).toInt = pi) (fun _ => (0 : Int32)) (fun j => fr j - fh j) fx fy hci.toNat gfr gup gsx gsy gsz gpu := (by rw [← eh_]; exact hB)
      have e9_ : hn_.toInt.toNat = slC (fun j => (fp j).toInt = pi) hci.toNat := (by rw [← eh_]; exact (congrArg Int.toNat (hN : hn_.toInt = _)).trans (Int.toNat_natCast _))
      refine z_callV X k_10_367 (cr_X6_leastOfS l G search hn_ 1 afr aup axx ayy asx asy asz apu abe oz fo lc gfr gup fxx2_1 fyy2_2 gsx gsy gsz gpu gbe kq hn_.toInt 1 ki rfl (show (1 : Int32).toInt = 1 from by decide) hkq (by omega) (by omega) (bdd_1 hsx0_ hux) (bdd_1 hsy0_ huy) (fun j hj => hB9_.hst hbv j (by rw [← e9_]; exact hj)) (fun j hj => hB9_.hlh hbl j (by rw [← e9_]; exact hj)) (fun j hj => hB9_.hp0 j (by rw [← e9_]; exact hj)) (by omega)) dr_X10_searchPutting_84 9 rfl rfl rfl ⟨Nat.le_of_ble_eq_true rfl, Nat.le_of_ble_eq_true rfl⟩ ⟨Nat.le_of_ble_eq_true rfl, Nat.le_of_ble_eq_true rfl⟩ rfl (rest := []) (As := [.int kq]) rfl (Nat.le_of_ble_eq_true rfl) [9, 10, 11, 12, 13, 14, 15, 16, 17, 18] [0, 1, 2, 3, 4, 5, 6, 7, 8] rfl (by decide) (wr := [(x, ob 10 [x_told, x_reader, .ref ring, x_speeds, x_wheel, x_trials, x_span, .ref search, x_kept, x_crosses, x_trueMasses, .ref thought, x_up, x_low, x_fits, x_pulls]), (ring, ob 5 [.int hc, .ref rp, .ref rx, .ref ry, .ref rr, .ref rh, .ref rd, g_ph, g_po]), (rp, aI G 16 fp), (rx, aI G 16 fx), (ry, aI G 16 fy), (rr, aI G 16 fr), (rh, aI G 16 fh), (rd, aI G 16 fd), (thought, aI G 8 ft)]) rfl (by decide) (by decide) ?_
      rintro _ _ ⟨rz_6, fxx2_7, fyy2_8, fpu2_9, fbe2_10, oz2_11, fo2_12, lc2_13, f84_14, rfl, rfl⟩
      refine Z.at (pc' := 87) (st' := [.long rz_6]) (ws' := [(x, ob 10 [x_told, x_reader, .ref ring, x_speeds, x_wheel, x_trials, x_span, .ref search, x_kept, x_crosses, x_trueMasses, .ref thought, x_up, x_low, x_fits, x_pulls]), (ring, ob 5 [.int hc, .ref rp, .ref rx, .ref ry, .ref rr, .ref rh, .ref rd, g_ph, g_po]), (rp, aI G 16 fp), (rx, aI G 16 fx), (ry, aI G 16 fy), (rr, aI G 16 fr), (rh, aI G 16 fh), (rd, aI G 16 fd), (thought, aI G 8 ft), (search, ob 6 [.int hn_, .int 1, .int 0, .ref afr, .ref aup, .ref axx, .ref ayy, .ref asx, .ref asy, .ref asz, .ref apu, .ref abe, .int oz2_11, .int fo2_12, .long lc2_13]), (afr, aI G 16 gfr), (aup, aI G 16 gup), (axx, aJ G 6 fxx2_7), (ayy, aJ G 6 fyy2_8), (asx, aJ G 96 gsx), (asy, aJ G 96 gsy), (asz, aJ G 16 gsz), (apu, aI G 16 fpu2_9), (abe, aI G 16 fbe2_10)]) (kc' := 0) (ks' := 0) rfl rfl rfl rfl rfl ?_
      exact z_lret X rfl dr_X10_searchPutting_87 (Nat.le_of_ble_eq_true rfl) (Nat.le_of_ble_eq_true rfl) ⟨rz_6, gfr, gup, gsx, gsy, gsz, hn_, fxx2_7, fyy2_8, fpu2_9, fbe2_10, oz2_11, fo2_12, lc2_13, ⟨_, _, _, _, _, _, _, _, hB9_, hsx0_, hsy0_, by rw [← e9_]; exact f84_14⟩, (by clear hN hB hB9_; omega), rfl, rfl⟩
    ·
      refine z_run X br_X10_searchPutting_18_19 kr_X10_searchPutting_18_19 (lv' := [(3, .int h_), (0, .ref x), (1, .int pq), (2, .int kq)]) (st' := [.ref x]) rfl ?_
      refine z_get X fl_10_26 dr_X10_searchPutting_19 0 rfl (v := .ref ring) rfl ?_
      refine z_getN X fl_10_116 dr_X10_searchPutting_22 1 rfl (v := .ref rp) rfl ?_
      refine z_run X br_X10_searchPutting_25_26 kr_X10_searchPutting_25_26 (lv' := [(3, .int h_), (0, .ref x), (1, .int pq), (2, .int kq)]) (st' := [.int h_, .ref rp]) rfl ?_
      refine z_iald X dr_X10_searchPutting_26 2 rfl (vin rfl (by omega) (by omega)) (v := (fp h_.toNatClampNeg)) rfl ?_
      refine z_run X br_X10_searchPutting_27_28 kr_X10_searchPutting_27_28 (lv' := [(3, .int h_), (0, .ref x), (1, .int pq), (2, .int kq)]) (st' := [.int pq, .int (fp h_.toNatClampNeg)]) rfl ?_
      refine zc_ne X dr_X10_searchPutting_28 (tgt := 73) (by decide) (a := (fp h_.toNatClampNeg).toInt) (b := pi) rfl hpq (fun c28_15 => ?_) (fun c28_15 => ?_)
      ·
        refine z_run X br_X10_searchPutting_73_76 kr_X10_searchPutting_73_76 (lv' := [(3, .int (h_ + 1)), (0, .ref x), (1, .int pq), (2, .int kq)]) (st' := []) rfl ?_
        refine z_goto X dr_X10_searchPutting_76 (tgt := 7) (by decide) ?_
        exact ih7 ((h_ + 1), hn_, gfr, gup, gsx, gsy, gsz, gpu, gbe) ⟨(by clear hN hB; (try dsimp only); have e : (h_ + 1).toInt = h_.toInt + 1 := tI_add rfl (show (1 : Int32).toInt = 1 from by decide) (by omega); omega), (by clear hN hB; (try dsimp only); have e : (h_ + 1).toInt = h_.toInt + 1 := tI_add rfl (show (1 : Int32).toInt = 1 from by decide) (by omega); omega), (by (try dsimp only); have e : (h_ + 1).toInt = h_.toInt + 1 := tI_add rfl (show (1 : Int32).toInt = 1 from by decide) (by omega); rw [e, show (h_.toInt + 1).toNat = h_.toInt.toNat + 1 by omega]; rw [slC_n (show ¬ (fun j => (fp j).toInt = pi) h_.toInt.toNat from c28_15)]; exact hN), (by (try dsimp only); have e : (h_ + 1).toInt = h_.toInt + 1 := tI_add rfl (show (1 : Int32).toInt = 1 from by decide) (by omega); rw [e, show (h_.toInt + 1).toNat = h_.toInt.toNat + 1 by omega]; exact hB.no (show ¬ (fun j => (fp j).toInt = pi) h_.toInt.toNat from c28_15))⟩ (by clear hN hB; (try dsimp only); have e : (h_ + 1).toInt = h_.toInt + 1 := tI_add rfl (show (1 : Int32).toInt = 1 from by decide) (by omega); omega)
      ·
        refine z_run X br_X10_searchPutting_31_32 kr_X10_searchPutting_31_32 (lv' := [(3, .int h_), (0, .ref x), (1, .int pq), (2, .int kq)]) (st' := [.ref x]) rfl ?_
        refine z_get X fl_10_61 dr_X10_searchPutting_32 0 rfl (v := .ref search) rfl ?_
        refine z_run X br_X10_searchPutting_35_37 kr_X10_searchPutting_35_37 (lv' := [(3, .int h_), (0, .ref x), (1, .int pq), (2, .int kq)]) (st' := [.ref x, .int 0, .ref search]) rfl ?_
        refine z_get X fl_10_26 dr_X10_searchPutting_37 0 rfl (v := .ref ring) rfl ?_
        refine z_run X br_X10_searchPutting_40_41 kr_X10_searchPutting_40_41 (lv' := [(3, .int h_), (0, .ref x), (1, .int pq), (2, .int kq)]) (st' := [.int h_, .ref ring, .int 0, .ref search]) rfl ?_
        refine z_callV X k_10_371 (cr_X5_roomLeftS l G ring hc rp rx ry rr rh rd g_ph g_po fp fx fy fr fh fd h_ h_.toInt rfl (by omega)) dr_X10_searchPutting_41 1 rfl rfl rfl ⟨Nat.le_of_ble_eq_true rfl, Nat.le_of_ble_eq_true rfl⟩ ⟨Nat.le_of_ble_eq_true rfl, Nat.le_of_ble_eq_true rfl⟩ rfl (rest := [.int 0, .ref search]) (As := [.int h_]) rfl (Nat.le_of_ble_eq_true rfl) [1, 2, 3, 4, 5, 6, 7] [0, 8, 9, 10, 11, 12, 13, 14, 15, 16, 17, 18] rfl (by decide) (wr := [(x, ob 10 [x_told, x_reader, .ref ring, x_speeds, x_wheel, x_trials, x_span, .ref search, x_kept, x_crosses, x_trueMasses, .ref thought, x_up, x_low, x_fits, x_pulls]), (thought, aI G 8 ft), (search, ob 6 [.int hn_, .int 1, .int 0, .ref afr, .ref aup, .ref axx, .ref ayy, .ref asx, .ref asy, .ref asz, .ref apu, .ref abe, .int oz, .int fo, .long lc]), (afr, aI G 16 gfr), (aup, aI G 16 gup), (axx, aJ G 6 fxx2_1), (ayy, aJ G 6 fyy2_2), (asx, aJ G 96 gsx), (asy, aJ G 96 gsy), (asz, aJ G 16 gsz), (apu, aI G 16 gpu), (abe, aI G 16 gbe)]) rfl (by decide) (by decide) ?_
        rintro _ _ ⟨rz_16, f41_17, rfl, rfl⟩
        refine Z.at (pc' := 44) (st' := [.int rz_16, .int 0, .ref search]) (ws' := [(x, ob 10 [x_told, x_reader, .ref ring, x_speeds, x_wheel, x_trials, x_span, .ref search, x_kept, x_crosses, x_trueMasses, .ref thought, x_up, x_low, x_fits, x_pulls]), (thought, aI G 8 ft), (search, ob 6 [.int hn_, .int 1, .int 0, .ref afr, .ref aup, .ref axx, .ref ayy, .ref asx, .ref asy, .ref asz, .ref apu, .ref abe, .int oz, .int fo, .long lc]), (afr, aI G 16 gfr), (aup, aI G 16 gup), (axx, aJ G 6 fxx2_1), (ayy, aJ G 6 fyy2_2), (asx, aJ G 96 gsx), (asy, aJ G 96 gsy), (asz, aJ G 16 gsz), (apu, aI G 16 gpu), (abe, aI G 16 gbe), (ring, ob 5 [.int hc, .ref rp, .ref rx, .ref ry, .ref rr, .ref rh, .ref rd, g_ph, g_po]), (rp, aI G 16 fp), (rx, aI G 16 fx), (ry, aI G 16 fy), (rr, aI G 16 fr), (rh, aI G 16 fh), (rd, aI G 16 fd)]) (kc' := 0) (ks' := 0) rfl rfl rfl rfl rfl ?_
        refine z_callV X k_10_361 (cr_X6_addHoleS l G search hn_ 1 afr aup axx ayy asx asy asz apu abe oz fo lc gfr gup gsz gpu gbe 0 rz_16 hn_.toInt rfl (by omega)) dr_X10_searchPutting_44 2 rfl rfl rfl ⟨Nat.le_of_ble_eq_true rfl, Nat.le_of_ble_eq_true rfl⟩ ⟨Nat.le_of_ble_eq_true rfl, Nat.le_of_ble_eq_true rfl⟩ rfl (rest := []) (As := [.int 0, .int rz_16]) rfl (Nat.le_of_ble_eq_true rfl) [2, 3, 4, 9, 10, 11] [0, 1, 5, 6, 7, 8, 12, 13, 14, 15, 16, 17, 18] rfl (by decide) (wr := [(x, ob 10 [x_told, x_reader, .ref ring, x_speeds, x_wheel, x_trials, x_span, .ref search, x_kept, x_crosses, x_trueMasses, .ref thought, x_up, x_low, x_fits, x_pulls]), (thought, aI G 8 ft), (axx, aJ G 6 fxx2_1), (ayy, aJ G 6 fyy2_2), (asx, aJ G 96 gsx), (asy, aJ G 96 gsy), (ring, ob 5 [.int hc, .ref rp, .ref rx, .ref ry, .ref rr, .ref rh, .ref rd, g_ph, g_po]), (rp, aI G 16 fp), (rx, aI G 16 fx), (ry, aI G 16 fy), (rr, aI G 16 fr), (rh, aI G 16 fh), (rd, aI G 16 fd)]) rfl (by decide) (by decide) ?_
        rintro _ _ ⟨rfl, rfl⟩
        refine Z.at (pc' := 47) (st' := []) (ws' := [(x, ob 10 [x_told, x_reader, .ref ring, x_speeds, x_wheel, x_trials, x_span, .ref search, x_kept, x_crosses, x_trueMasses, .ref thought, x_up, x_low, x_fits, x_pulls]), (thought, aI G 8 ft), (axx, aJ G 6 fxx2_1), (ayy, aJ G 6 fyy2_2), (asx, aJ G 96 gsx), (asy, aJ G 96 gsy), (ring, ob 5 [.int hc, .ref rp, .ref rx, .ref ry, .ref rr, .ref rh, .ref rd, g_ph, g_po]), (rp, aI G 16 fp), (rx, aI G 16 fx), (ry, aI G 16 fy), (rr, aI G 16 fr), (rh, aI G 16 fh), (rd, aI G 16 fd), (search, ob 6 [.int (hn_ + 1), .int 1, .int 0, .ref afr, .ref aup, .ref axx, .ref ayy, .ref asx, .ref asy, .ref asz, .ref apu, .ref abe, .int oz, .int fo, .long lc]), (afr, aI G 16 (upd gfr hn_.toNatClampNeg 0)), (aup, aI G 16 (upd gup hn_.toNatClampNeg rz_16)), (asz, aJ G 16 (vp_updL gsz hn_.toNatClampNeg 0)), (apu, aI G 16 (upd gpu hn_.toNatClampNeg 0)), (abe, aI G 16 (upd gbe hn_.toNatClampNeg 0))]) (kc' := 0) (ks' := 0) rfl rfl rfl rfl rfl ?_
        refine z_run X br_X10_searchPutting_47_48 kr_X10_searchPutting_47_48 (lv' := [(3, .int h_), (0, .ref x), (1, .int pq), (2, .int kq)]) (st' := [.ref x]) rfl ?_
        refine z_get X fl_10_61 dr_X10_searchPutting_48 0 rfl (v := .ref search) rfl ?_
        refine z_run X br_X10_searchPutting_51_53 kr_X10_searchPutting_51_53 (lv' := [(3, .int h_), (0, .ref x), (1, .int pq), (2, .int kq)]) (st' := [.ref x, .int 0, .ref search]) rfl ?_
        refine z_get X fl_10_26 dr_X10_searchPutting_53 0 rfl (v := .ref ring) rfl ?_
        refine z_getN X fl_10_119 dr_X10_searchPutting_56 6 rfl (v := .ref rx) rfl ?_
        refine z_run X br_X10_searchPutting_59_60 kr_X10_searchPutting_59_60 (lv' := [(3, .int h_), (0, .ref x), (1, .int pq), (2, .int kq)]) (st' := [.int h_, .ref rx, .int 0, .ref search]) rfl ?_
        refine z_iald X dr_X10_searchPutting_60 8 rfl (vin rfl (by omega) (by omega)) (v := (fx h_.toNatClampNeg)) rfl ?_
        refine z_run X br_X10_searchPutting_61_62 kr_X10_searchPutting_61_62 (lv' := [(3, .int h_), (0, .ref x), (1, .int pq), (2, .int kq)]) (st' := [.ref x, .int (fx h_.toNatClampNeg), .int 0, .ref search]) rfl ?_
        refine z_get X fl_10_26 dr_X10_searchPutting_62 0 rfl (v := .ref ring) rfl ?_
        refine z_getN X fl_10_122 dr_X10_searchPutting_65 6 rfl (v := .ref ry) rfl ?_
        refine z_run X br_X10_searchPutting_68_69 kr_X10_searchPutting_68_69 (lv' := [(3, .int h_), (0, .ref x), (1, .int pq), (2, .int kq)]) (st' := [.int h_, .ref ry, .int (fx h_.toNatClampNeg), .int 0, .ref search]) rfl ?_
        refine z_iald X dr_X10_searchPutting_69 9 rfl (vin rfl (by omega) (by omega)) (v := (fy h_.toNatClampNeg)) rfl ?_
        refine z_callV X k_10_364 (cr_X6_addStepS l G search (hn_ + 1) afr aup axx ayy asx asy asz apu abe oz fo lc gsx gsy (vp_updL gsz hn_.toNatClampNeg 0) (fx h_.toNatClampNeg) (fy h_.toNatClampNeg) ((hn_.toInt + 1)) (tI_add rfl (show (1 : Int32).toInt = 1 from by decide) (by omega)) (by omega)) dr_X10_searchPutting_70 13 rfl rfl rfl ⟨Nat.le_of_ble_eq_true rfl, Nat.le_of_ble_eq_true rfl⟩ ⟨Nat.le_of_ble_eq_true rfl, Nat.le_of_ble_eq_true rfl⟩ rfl (rest := []) (As := [.int 0, .int (fx h_.toNatClampNeg), .int (fy h_.toNatClampNeg)]) rfl (Nat.le_of_ble_eq_true rfl) [13, 4, 5, 16] [0, 1, 2, 3, 6, 7, 8, 9, 10, 11, 12, 14, 15, 17, 18] rfl (by decide) (wr := [(x, ob 10 [x_told, x_reader, .ref ring, x_speeds, x_wheel, x_trials, x_span, .ref search, x_kept, x_crosses, x_trueMasses, .ref thought, x_up, x_low, x_fits, x_pulls]), (thought, aI G 8 ft), (axx, aJ G 6 fxx2_1), (ayy, aJ G 6 fyy2_2), (ring, ob 5 [.int hc, .ref rp, .ref rx, .ref ry, .ref rr, .ref rh, .ref rd, g_ph, g_po]), (rp, aI G 16 fp), (rx, aI G 16 fx), (ry, aI G 16 fy), (rr, aI G 16 fr), (rh, aI G 16 fh), (rd, aI G 16 fd), (afr, aI G 16 (upd gfr hn_.toNatClampNeg 0)), (aup, aI G 16 (upd gup hn_.toNatClampNeg rz_16)), (apu, aI G 16 (upd gpu hn_.toNatClampNeg 0)), (abe, aI G 16 (upd gbe hn_.toNatClampNeg 0))]) rfl (by decide) (by decide) ?_
        rintro _ _ ⟨fsx2_18, fsy2_19, fsz2_20, f70_21, f70_22, f70_23, rfl, rfl⟩
        refine Z.at (pc' := 73) (st' := []) (ws' := [(x, ob 10 [x_told, x_reader, .ref ring, x_speeds, x_wheel, x_trials, x_span, .ref search, x_kept, x_crosses, x_trueMasses, .ref thought, x_up, x_low, x_fits, x_pulls]), (thought, aI G 8 ft), (axx, aJ G 6 fxx2_1), (ayy, aJ G 6 fyy2_2), (ring, ob 5 [.int hc, .ref rp, .ref rx, .ref ry, .ref rr, .ref rh, .ref rd, g_ph, g_po]), (rp, aI G 16 fp), (rx, aI G 16 fx), (ry, aI G 16 fy), (rr, aI G 16 fr), (rh, aI G 16 fh), (rd, aI G 16 fd), (afr, aI G 16 (upd gfr hn_.toNatClampNeg 0)), (aup, aI G 16 (upd gup hn_.toNatClampNeg rz_16)), (apu, aI G 16 (upd gpu hn_.toNatClampNeg 0)), (abe, aI G 16 (upd gbe hn_.toNatClampNeg 0)), (search, ob 6 [.int (hn_ + 1), .int 1, .int 0, .ref afr, .ref aup, .ref axx, .ref ayy, .ref asx, .ref asy, .ref asz, .ref apu, .ref abe, .int oz, .int fo, .long lc]), (asx, aJ G 96 fsx2_18), (asy, aJ G 96 fsy2_19), (asz, aJ G 16 fsz2_20)]) (kc' := 0) (ks' := 0) rfl rfl rfl rfl rfl ?_
        refine z_run X br_X10_searchPutting_73_76 kr_X10_searchPutting_73_76 (lv' := [(3, .int (h_ + 1)), (0, .ref x), (1, .int pq), (2, .int kq)]) (st' := []) rfl ?_
        refine z_goto X dr_X10_searchPutting_76 (tgt := 7) (by decide) ?_
        refine Z.sub (lv' := [(3, .int (h_ + 1)), (0, .ref x), (1, .int pq), (2, .int kq)]) [0, 1, 2, 3] rfl [0, 4, 5, 6, 7, 8, 9, 10, 1, 15, 11, 12, 2, 3, 16, 17, 18, 13, 14] (ws' := [(x, ob 10 [x_told, x_reader, .ref ring, x_speeds, x_wheel, x_trials, x_span, .ref search, x_kept, x_crosses, x_trueMasses, .ref thought, x_up, x_low, x_fits, x_pulls]), (ring, ob 5 [.int hc, .ref rp, .ref rx, .ref ry, .ref rr, .ref rh, .ref rd, g_ph, g_po]), (rp, aI G 16 fp), (rx, aI G 16 fx), (ry, aI G 16 fy), (rr, aI G 16 fr), (rh, aI G 16 fh), (rd, aI G 16 fd), (thought, aI G 8 ft), (search, ob 6 [.int (hn_ + 1), .int 1, .int 0, .ref afr, .ref aup, .ref axx, .ref ayy, .ref asx, .ref asy, .ref asz, .ref apu, .ref abe, .int oz, .int fo, .long lc]), (afr, aI G 16 (upd gfr hn_.toNatClampNeg 0)), (aup, aI G 16 (upd gup hn_.toNatClampNeg rz_16)), (axx, aJ G 6 fxx2_1), (ayy, aJ G 6 fyy2_2), (asx, aJ G 96 fsx2_18), (asy, aJ G 96 fsy2_19), (asz, aJ G 16 fsz2_20), (apu, aI G 16 (upd gpu hn_.toNatClampNeg 0)), (abe, aI G 16 (upd gbe hn_.toNatClampNeg 0))]) rfl (by decide) ?_
        exact ih7 ((h_ + 1), (hn_ + 1), (upd gfr hn_.toNatClampNeg 0), (upd gup hn_.toNatClampNeg rz_16), fsx2_18, fsy2_19, fsz2_20, (upd gpu hn_.toNatClampNeg 0), (upd gbe hn_.toNatClampNeg 0)) ⟨(by clear hN hB; (try dsimp only); have e : (h_ + 1).toInt = h_.toInt + 1 := tI_add rfl (show (1 : Int32).toInt = 1 from by decide) (by omega); omega), (by clear hN hB; (try dsimp only); have e : (h_ + 1).toInt = h_.toInt + 1 := tI_add rfl (show (1 : Int32).toInt = 1 from by decide) (by omega); have e1 : (hn_ + 1).toInt = hn_.toInt + 1 := tI_add rfl (show (1 : Int32).toInt = 1 from by decide) (by omega); omega), (by (try dsimp only); have e : (h_ + 1).toInt = h_.toInt + 1 := tI_add rfl (show (1 : Int32).toInt = 1 from by decide) (by omega); rw [e, show (h_.toInt + 1).toNat = h_.toInt.toNat + 1 by omega]; rw [slC_y (show (fun j => (fp j).toInt = pi) h_.toInt.toNat from c28_15)]; exact (tI_add (hN : hn_.toInt = _) (show (1 : Int32).toInt = 1 from by decide) (by have z := slC_le (P := (fun j => (fp j).toInt = pi)) (n := h_.toInt.toNat); generalize slC (fun j => (fp j).toInt = pi) h_.toInt.toNat = q_ at z; clear hN hB; omega)).trans (by rw [Int.natCast_add]; rfl)), (by (try dsimp only); have e : (h_ + 1).toInt = h_.toInt + 1 := tI_add rfl (show (1 : Int32).toInt = 1 from by decide) (by omega); rw [e, show (h_.toInt + 1).toNat = h_.toInt.toNat + 1 by omega]; rw [f70_21, f70_22, f70_23, show ((hn_ + 1) - 1 : Int32) = hn_ by grind, updL_at, i64_0a]; exact hB.yes (show (fun j => (fp j).toInt = pi) h_.toInt.toNat from c28_15) (show hn_.toNatClampNeg = slC (fun j => (fp j).toInt = pi) h_.toInt.toNat from (congrArg Int.toNat (hN : hn_.toInt = _)).trans (Int.toNat_natCast _)) (show hn_.toNatClampNeg = slC (fun j => (fp j).toInt = pi) h_.toInt.toNat from (congrArg Int.toNat (hN : hn_.toInt = _)).trans (Int.toNat_natCast _)) rfl (by rw [f41_17]; rfl) rfl rfl rfl)⟩ (by clear hN hB; (try dsimp only); have e : (h_ + 1).toInt = h_.toInt + 1 := tI_add rfl (show (1 : Int32).toInt = 1 from by decide) (by omega); omega)
  · exact ⟨(by (try dsimp only); have e0 : (0 : Int32).toInt = 0 := (by decide); omega), (by (try dsimp only); have e0 : (0 : Int32).toInt = 0 := (by decide); omega), (by (try dsimp only); have e0 : (0 : Int32).toInt = 0 := (by decide); rw [e0]; exact (show (0 : Int32).toInt = 0 from by decide)), (by (try dsimp only); have e0 : (0 : Int32).toInt = 0 := (by decide); rw [e0]; exact BLD.zero)⟩

theorem dr_X8_start_2 : decode cX8_start 2 = .ok (.putfield 15, 3) := by decide +kernel
theorem dr_X8_start_5 : decode cX8_start 5 = .ok (.return_, 1) := by decide +kernel
abbrev br_X8_start_0_2 : ZB := [(.aload_n 0, .null), (.iconst 0, .int 0)]
theorem kr_X8_start_0_2 : zchk cX8_start br_X8_start_0_2 0 = true ∧ zpc br_X8_start_0_2 0 = 2 := ⟨by decide +kernel, rfl⟩
set_option maxHeartbeats 4000000 in
set_option maxRecDepth 100000 in
theorem cr_X8_startS (l : Launch) (G : KG) (told : Nat) (tn : Nat) (tl : Int32) (fn : Nat → Int64) : Ct l G yX8_start cX8_start 1 none { frames := 0, cells := 0, slots := 0, locals := 0 } [.ref told] [(told, ob 8 [.ref tn, .int tl]), (tn, aJ G 16 fn)] (fun r w1 => r = none ∧ w1 = [(told, ob 8 [.ref tn, .int 0]), (tn, aJ G 16 fn)]) := by
  refine ct_of [(0, .ref told)] (by decide) (Nat.le_of_ble_eq_true rfl) rfl ?_
  intro p0 e0 s0 m0 args0 below0 meth0 c0 A X
  refine z_run X br_X8_start_0_2 kr_X8_start_0_2 (lv' := [(0, .ref told)]) (st' := [.int 0, .ref told]) rfl ?_
  refine z_put X fl_8_15 dr_X8_start_2 0 rfl (ty := .int) (T := TX8) (N := 2) rfl (Or.inl rfl) (by decide +kernel) rfl (by rfl) (Nat.le_of_ble_eq_true rfl) (ws' := [(told, ob 8 [.ref tn, .int 0]), (tn, aJ G 16 fn)]) rfl ?_
  exact z_vret X rfl dr_X8_start_5 (Nat.le_of_ble_eq_true rfl) (Nat.le_of_ble_eq_true rfl) ⟨rfl, rfl⟩

theorem dr_X8_add_1 : decode cX8_add 1 = .ok (.getfield 15, 3) := by decide +kernel
theorem dr_X8_add_5 : decode cX8_add 5 = .ok (.getfield 9, 3) := by decide +kernel
theorem dr_X8_add_8 : decode cX8_add 8 = .ok (.arraylength, 1) := by decide +kernel
theorem dr_X8_add_9 : decode cX8_add 9 = .ok (.if_icmp .ge 23, 3) := by decide +kernel
theorem dr_X8_add_32 : decode cX8_add 32 = .ok (.return_, 1) := by decide +kernel
theorem dr_X8_add_13 : decode cX8_add 13 = .ok (.getfield 9, 3) := by decide +kernel
theorem dr_X8_add_17 : decode cX8_add 17 = .ok (.getfield 15, 3) := by decide +kernel
theorem dr_X8_add_21 : decode cX8_add 21 = .ok (.lastore, 1) := by decide +kernel
theorem dr_X8_add_24 : decode cX8_add 24 = .ok (.getfield 15, 3) := by decide +kernel
theorem dr_X8_add_29 : decode cX8_add 29 = .ok (.putfield 15, 3) := by decide +kernel
abbrev br_X8_add_0_1 : ZB := [(.aload_n 0, .null)]
theorem kr_X8_add_0_1 : zchk cX8_add br_X8_add_0_1 0 = true ∧ zpc br_X8_add_0_1 0 = 1 := ⟨by decide +kernel, rfl⟩
abbrev br_X8_add_4_5 : ZB := [(.aload_n 0, .null)]
theorem kr_X8_add_4_5 : zchk cX8_add br_X8_add_4_5 4 = true ∧ zpc br_X8_add_4_5 4 = 5 := ⟨by decide +kernel, rfl⟩
abbrev br_X8_add_12_13 : ZB := [(.aload_n 0, .null)]
theorem kr_X8_add_12_13 : zchk cX8_add br_X8_add_12_13 12 = true ∧ zpc br_X8_add_12_13 12 = 13 := ⟨by decide +kernel, rfl⟩
abbrev br_X8_add_16_17 : ZB := [(.aload_n 0, .null)]
theorem kr_X8_add_16_17 : zchk cX8_add br_X8_add_16_17 16 = true ∧ zpc br_X8_add_16_17 16 = 17 := ⟨by decide +kernel, rfl⟩
abbrev br_X8_add_20_21 : ZB := [(.lload_n 1, .null)]
theorem kr_X8_add_20_21 : zchk cX8_add br_X8_add_20_21 20 = true ∧ zpc br_X8_add_20_21 20 = 21 := ⟨by decide +kernel, rfl⟩
abbrev br_X8_add_22_24 : ZB := [(.aload_n 0, .null), (.dup, .null)]
theorem kr_X8_add_22_24 : zchk cX8_add br_X8_add_22_24 22 = true ∧ zpc br_X8_add_22_24 22 = 24 := ⟨by decide +kernel, rfl⟩
abbrev br_X8_add_27_29 : ZB := [(.iconst 1, .int 1), (.iadd, .null)]
theorem kr_X8_add_27_29 : zchk cX8_add br_X8_add_27_29 27 = true ∧ zpc br_X8_add_27_29 27 = 29 := ⟨by decide +kernel, rfl⟩
set_option maxHeartbeats 4000000 in
set_option maxRecDepth 100000 in
theorem cr_X8_addS (l : Launch) (G : KG) (told : Nat) (tn : Nat) (tl : Int32) (fn : Nat → Int64) (v : Int64) (tli : Int) (htl : tl.toInt = tli) (ht16 : 0 ≤ tli ∧ tli ≤ 16) : Ct l G yX8_add cX8_add 3 none { frames := 0, cells := 0, slots := 0, locals := 0 } [.ref told, .long v] [(told, ob 8 [.ref tn, .int tl]), (tn, aJ G 16 fn)] (fun r w1 => ∃ (tl2 : Int32), ∃ (fn2 : Nat → Int64), (0 ≤ tl2.toInt ∧ tl2.toInt ≤ 16) ∧ r = none ∧ w1 = [(told, ob 8 [.ref tn, .int tl2]), (tn, aJ G 16 fn2)]) := by
  refine ct_of [(0, .ref told), (1, .long v)] (by decide) (Nat.le_of_ble_eq_true rfl) rfl ?_
  intro p0 e0 s0 m0 args0 below0 meth0 c0 A X
  refine z_run X br_X8_add_0_1 kr_X8_add_0_1 (lv' := [(0, .ref told), (1, .long v)]) (st' := [.ref told]) rfl ?_
  refine z_get X fl_8_15 dr_X8_add_1 0 rfl (v := .int tl) rfl ?_
  refine z_run X br_X8_add_4_5 kr_X8_add_4_5 (lv' := [(0, .ref told), (1, .long v)]) (st' := [.ref told, .int tl]) rfl ?_
  refine z_get X fl_8_9 dr_X8_add_5 0 rfl (v := .ref tn) rfl ?_
  refine z_alen X dr_X8_add_8 1 1 rfl rfl (v := 16) rfl ?_
  refine zc_ge X dr_X8_add_9 (tgt := 32) (by decide) (a := tli) (b := 16) htl (show (16 : Int32).toInt = 16 from by decide) (fun c9_1 => ?_) (fun c9_1 => ?_)
  ·
    exact z_vret X rfl dr_X8_add_32 (Nat.le_of_ble_eq_true rfl) (Nat.le_of_ble_eq_true rfl) ⟨tl, fn, (by have e : (tl : Int32).toInt = tli := htl; omega), rfl, rfl⟩
  ·
    refine z_run X br_X8_add_12_13 kr_X8_add_12_13 (lv' := [(0, .ref told), (1, .long v)]) (st' := [.ref told]) rfl ?_
    refine z_get X fl_8_9 dr_X8_add_13 0 rfl (v := .ref tn) rfl ?_
    refine z_run X br_X8_add_16_17 kr_X8_add_16_17 (lv' := [(0, .ref told), (1, .long v)]) (st' := [.ref told, .ref tn]) rfl ?_
    refine z_get X fl_8_15 dr_X8_add_17 0 rfl (v := .int tl) rfl ?_
    refine z_run X br_X8_add_20_21 kr_X8_add_20_21 (lv' := [(0, .ref told), (1, .long v)]) (st' := [.long v, .int tl, .ref tn]) rfl ?_
    refine z_last X dr_X8_add_21 1 rfl (vin htl (by omega) (by omega)) (ws' := [(told, ob 8 [.ref tn, .int tl]), (tn, aJ G 16 (vp_updL fn tl.toNatClampNeg v))]) rfl ?_
    refine z_run X br_X8_add_22_24 kr_X8_add_22_24 (lv' := [(0, .ref told), (1, .long v)]) (st' := [.ref told, .ref told]) rfl ?_
    refine z_get X fl_8_15 dr_X8_add_24 0 rfl (v := .int tl) rfl ?_
    refine z_run X br_X8_add_27_29 kr_X8_add_27_29 (lv' := [(0, .ref told), (1, .long v)]) (st' := [.int (tl + 1), .ref told]) rfl ?_
    refine z_put X fl_8_15 dr_X8_add_29 0 rfl (ty := .int) (T := TX8) (N := 2) rfl (Or.inl rfl) (by decide +kernel) rfl (by rfl) (Nat.le_of_ble_eq_true rfl) (ws' := [(told, ob 8 [.ref tn, .int (tl + 1)]), (tn, aJ G 16 (vp_updL fn tl.toNatClampNeg v))]) rfl ?_
    exact z_vret X rfl dr_X8_add_32 (Nat.le_of_ble_eq_true rfl) (Nat.le_of_ble_eq_true rfl) ⟨(tl + 1), (vp_updL fn tl.toNatClampNeg v), (by have e : ((tl + 1) : Int32).toInt = (tli + 1) := (tI_add htl (show (1 : Int32).toInt = 1 from by decide) (by omega)); omega), rfl, rfl⟩

theorem dr_X10_tellSearched_1 : decode cX10_tellSearched 1 = .ok (.getfield 12, 3) := by decide +kernel
theorem dr_X10_tellSearched_4 : decode cX10_tellSearched 4 = .ok (.invokevirtual 180, 3) := by decide +kernel
theorem dr_X10_tellSearched_11 : decode cX10_tellSearched 11 = .ok (.getfield 61, 3) := by decide +kernel
theorem dr_X10_tellSearched_14 : decode cX10_tellSearched 14 = .ok (.getfield 380, 3) := by decide +kernel
theorem dr_X10_tellSearched_17 : decode cX10_tellSearched 17 = .ok (.if_icmp .ge 26, 3) := by decide +kernel
theorem dr_X10_tellSearched_43 : decode cX10_tellSearched 43 = .ok (.return_, 1) := by decide +kernel
theorem dr_X10_tellSearched_21 : decode cX10_tellSearched 21 = .ok (.getfield 12, 3) := by decide +kernel
theorem dr_X10_tellSearched_25 : decode cX10_tellSearched 25 = .ok (.getfield 61, 3) := by decide +kernel
theorem dr_X10_tellSearched_28 : decode cX10_tellSearched 28 = .ok (.getfield 383, 3) := by decide +kernel
theorem dr_X10_tellSearched_32 : decode cX10_tellSearched 32 = .ok (.iaload, 1) := by decide +kernel
theorem dr_X10_tellSearched_34 : decode cX10_tellSearched 34 = .ok (.invokevirtual 183, 3) := by decide +kernel
theorem dr_X10_tellSearched_40 : decode cX10_tellSearched 40 = .ok (.goto (-31), 3) := by decide +kernel
abbrev br_X10_tellSearched_0_1 : ZB := [(.aload_n 0, .null)]
theorem kr_X10_tellSearched_0_1 : zchk cX10_tellSearched br_X10_tellSearched_0_1 0 = true ∧ zpc br_X10_tellSearched_0_1 0 = 1 := ⟨by decide +kernel, rfl⟩
abbrev br_X10_tellSearched_7_9 : ZB := [(.iconst 0, .int 0), (.istore_n 1, .null)]
theorem kr_X10_tellSearched_7_9 : zchk cX10_tellSearched br_X10_tellSearched_7_9 7 = true ∧ zpc br_X10_tellSearched_7_9 7 = 9 := ⟨by decide +kernel, rfl⟩
abbrev br_X10_tellSearched_9_11 : ZB := [(.iload_n 1, .null), (.aload_n 0, .null)]
theorem kr_X10_tellSearched_9_11 : zchk cX10_tellSearched br_X10_tellSearched_9_11 9 = true ∧ zpc br_X10_tellSearched_9_11 9 = 11 := ⟨by decide +kernel, rfl⟩
abbrev br_X10_tellSearched_20_21 : ZB := [(.aload_n 0, .null)]
theorem kr_X10_tellSearched_20_21 : zchk cX10_tellSearched br_X10_tellSearched_20_21 20 = true ∧ zpc br_X10_tellSearched_20_21 20 = 21 := ⟨by decide +kernel, rfl⟩
abbrev br_X10_tellSearched_24_25 : ZB := [(.aload_n 0, .null)]
theorem kr_X10_tellSearched_24_25 : zchk cX10_tellSearched br_X10_tellSearched_24_25 24 = true ∧ zpc br_X10_tellSearched_24_25 24 = 25 := ⟨by decide +kernel, rfl⟩
abbrev br_X10_tellSearched_31_32 : ZB := [(.iload_n 1, .null)]
theorem kr_X10_tellSearched_31_32 : zchk cX10_tellSearched br_X10_tellSearched_31_32 31 = true ∧ zpc br_X10_tellSearched_31_32 31 = 32 := ⟨by decide +kernel, rfl⟩
abbrev br_X10_tellSearched_33_34 : ZB := [(.i2l, .null)]
theorem kr_X10_tellSearched_33_34 : zchk cX10_tellSearched br_X10_tellSearched_33_34 33 = true ∧ zpc br_X10_tellSearched_33_34 33 = 34 := ⟨by decide +kernel, rfl⟩
abbrev br_X10_tellSearched_37_40 : ZB := [(.iinc 1 1, .int 1)]
theorem kr_X10_tellSearched_37_40 : zchk cX10_tellSearched br_X10_tellSearched_37_40 37 = true ∧ zpc br_X10_tellSearched_37_40 37 = 40 := ⟨by decide +kernel, rfl⟩
set_option maxHeartbeats 4000000 in
set_option maxRecDepth 100000 in
theorem cr_X10_tellSearchedS (l : Launch) (G : KG) (x : Nat) (told : Nat) (x_reader : Value) (x_ring : Value) (x_speeds : Value) (x_wheel : Value) (x_trials : Value) (x_span : Value) (search : Nat) (x_kept : Value) (x_crosses : Value) (x_trueMasses : Value) (x_thought : Value) (x_up : Value) (x_low : Value) (x_fits : Value) (x_pulls : Value) (tn : Nat) (tl : Int32) (fn : Nat → Int64) (hn : Int32) (np : Int32) (afr : Nat) (aup : Nat) (axx : Nat) (ayy : Nat) (asx : Nat) (asy : Nat) (asz : Nat) (apu : Nat) (abe : Nat) (oz : Int32) (fo : Int32) (lc : Int64) (fbe : Nat → Int32) (hni : Int) (hhn : hn.toInt = hni) (hn0 : 0 ≤ hni ∧ hni ≤ 16) : Ct l G yX10_tellSearched cX10_tellSearched 2 none { frames := 1, cells := 0, slots := 0, locals := 22 } [.ref x] [(x, ob 10 [.ref told, x_reader, x_ring, x_speeds, x_wheel, x_trials, x_span, .ref search, x_kept, x_crosses, x_trueMasses, x_thought, x_up, x_low, x_fits, x_pulls]), (told, ob 8 [.ref tn, .int tl]), (tn, aJ G 16 fn), (search, ob 6 [.int hn, .int np, .int 0, .ref afr, .ref aup, .ref axx, .ref ayy, .ref asx, .ref asy, .ref asz, .ref apu, .ref abe, .int oz, .int fo, .long lc]), (abe, aI G 16 fbe)] (fun r w1 => ∃ (tl2 : Int32), ∃ (fn2 : Nat → Int64), (0 ≤ tl2.toInt ∧ tl2.toInt ≤ 16) ∧ r = none ∧ w1 = [(x, ob 10 [.ref told, x_reader, x_ring, x_speeds, x_wheel, x_trials, x_span, .ref search, x_kept, x_crosses, x_trueMasses, x_thought, x_up, x_low, x_fits, x_pulls]), (told, ob 8 [.ref tn, .int tl2]), (tn, aJ G 16 fn2), (search, ob 6 [.int hn, .int np, .int 0, .ref afr, .ref aup, .ref axx, .ref ayy, .ref asx, .ref asy, .ref asz, .ref apu, .ref abe, .int oz, .int fo, .long lc]), (abe, aI G 16 fbe)]) := by
  refine ct_of [(0, .ref x)] (by decide) (Nat.le_of_ble_eq_true rfl) rfl ?_
  intro p0 e0 s0 m0 args0 below0 meth0 c0 A X
  refine z_run X br_X10_tellSearched_0_1 kr_X10_tellSearched_0_1 (lv' := [(0, .ref x)]) (st' := [.ref x]) rfl ?_
  refine z_get X fl_10_12 dr_X10_tellSearched_1 0 rfl (v := .ref told) rfl ?_
  refine z_callV X k_10_180 (cr_X8_startS l G told tn tl fn) dr_X10_tellSearched_4 1 rfl rfl rfl ⟨Nat.le_of_ble_eq_true rfl, Nat.le_of_ble_eq_true rfl⟩ ⟨Nat.le_of_ble_eq_true rfl, Nat.le_of_ble_eq_true rfl⟩ rfl (rest := []) (As := []) rfl (Nat.le_of_ble_eq_true rfl) [1, 2] [0, 3, 4] rfl (by decide) (wr := [(x, ob 10 [.ref told, x_reader, x_ring, x_speeds, x_wheel, x_trials, x_span, .ref search, x_kept, x_crosses, x_trueMasses, x_thought, x_up, x_low, x_fits, x_pulls]), (search, ob 6 [.int hn, .int np, .int 0, .ref afr, .ref aup, .ref axx, .ref ayy, .ref asx, .ref asy, .ref asz, .ref apu, .ref abe, .int oz, .int fo, .long lc]), (abe, aI G 16 fbe)]) rfl (by decide) (by decide) ?_
  rintro _ _ ⟨rfl, rfl⟩
  refine Z.at (pc' := 7) (st' := []) (ws' := [(x, ob 10 [.ref told, x_reader, x_ring, x_speeds, x_wheel, x_trials, x_span, .ref search, x_kept, x_crosses, x_trueMasses, x_thought, x_up, x_low, x_fits, x_pulls]), (search, ob 6 [.int hn, .int np, .int 0, .ref afr, .ref aup, .ref axx, .ref ayy, .ref asx, .ref asy, .ref asz, .ref apu, .ref abe, .int oz, .int fo, .long lc]), (abe, aI G 16 fbe), (told, ob 8 [.ref tn, .int 0]), (tn, aJ G 16 fn)]) (kc' := 0) (ks' := 0) rfl rfl rfl rfl rfl ?_
  refine z_run X br_X10_tellSearched_7_9 kr_X10_tellSearched_7_9 (lv' := [(1, .int 0), (0, .ref x)]) (st' := []) rfl ?_
  refine zloop (σ := Int32 × Int32 × (Nat → Int64)) (fun z => [(1, .int z.1), (0, .ref x)]) (fun z => []) (fun z => [(x, ob 10 [.ref told, x_reader, x_ring, x_speeds, x_wheel, x_trials, x_span, .ref search, x_kept, x_crosses, x_trueMasses, x_thought, x_up, x_low, x_fits, x_pulls]), (search, ob 6 [.int hn, .int np, .int 0, .ref afr, .ref aup, .ref axx, .ref ayy, .ref asx, .ref asy, .ref asz, .ref apu, .ref abe, .int oz, .int fo, .long lc]), (abe, aI G 16 fbe), (told, ob 8 [.ref tn, .int z.2.1]), (tn, aJ G 16 z.2.2)]) (fun z => (0 ≤ z.1.toInt ∧ z.1.toInt ≤ hni) ∧ (0 ≤ z.2.1.toInt ∧ z.2.1.toInt ≤ 16)) (fun z => (hni - z.1.toInt).toNat) (0, 0, fn) ?_ ?_
  ·
    rintro ⟨i_, tl_, gn_⟩ ⟨hi, ht_⟩ ih9
    dsimp only at *
    refine z_run X br_X10_tellSearched_9_11 kr_X10_tellSearched_9_11 (lv' := [(1, .int i_), (0, .ref x)]) (st' := [.ref x, .int i_]) rfl ?_
    refine z_get X fl_10_61 dr_X10_tellSearched_11 0 rfl (v := .ref search) rfl ?_
    refine z_getN X fl_10_380 dr_X10_tellSearched_14 1 rfl (v := .int hn) rfl ?_
    refine zc_ge X dr_X10_tellSearched_17 (tgt := 43) (by decide) (a := i_.toInt) (b := hni) rfl hhn (fun c17_1 => ?_) (fun c17_1 => ?_)
    ·
      refine Z.sub (lv' := []) [] rfl [0, 3, 4, 1, 2] (ws' := [(x, ob 10 [.ref told, x_reader, x_ring, x_speeds, x_wheel, x_trials, x_span, .ref search, x_kept, x_crosses, x_trueMasses, x_thought, x_up, x_low, x_fits, x_pulls]), (told, ob 8 [.ref tn, .int tl_]), (tn, aJ G 16 gn_), (search, ob 6 [.int hn, .int np, .int 0, .ref afr, .ref aup, .ref axx, .ref ayy, .ref asx, .ref asy, .ref asz, .ref apu, .ref abe, .int oz, .int fo, .long lc]), (abe, aI G 16 fbe)]) rfl (by decide) ?_
      exact z_vret X rfl dr_X10_tellSearched_43 (Nat.le_of_ble_eq_true rfl) (Nat.le_of_ble_eq_true rfl) ⟨tl_, gn_, ht_, rfl, rfl⟩
    ·
      refine z_run X br_X10_tellSearched_20_21 kr_X10_tellSearched_20_21 (lv' := [(1, .int i_), (0, .ref x)]) (st' := [.ref x]) rfl ?_
      refine z_get X fl_10_12 dr_X10_tellSearched_21 0 rfl (v := .ref told) rfl ?_
      refine z_run X br_X10_tellSearched_24_25 kr_X10_tellSearched_24_25 (lv' := [(1, .int i_), (0, .ref x)]) (st' := [.ref x, .ref told]) rfl ?_
      refine z_get X fl_10_61 dr_X10_tellSearched_25 0 rfl (v := .ref search) rfl ?_
      refine z_getN X fl_10_383 dr_X10_tellSearched_28 1 rfl (v := .ref abe) rfl ?_
      refine z_run X br_X10_tellSearched_31_32 kr_X10_tellSearched_31_32 (lv' := [(1, .int i_), (0, .ref x)]) (st' := [.int i_, .ref abe, .ref told]) rfl ?_
      refine z_iald X dr_X10_tellSearched_32 2 rfl (vin rfl (by omega) (by omega)) (v := (fbe i_.toNatClampNeg)) rfl ?_
      refine z_run X br_X10_tellSearched_33_34 kr_X10_tellSearched_33_34 (lv' := [(1, .int i_), (0, .ref x)]) (st' := [.long (fbe i_.toNatClampNeg).toInt64, .ref told]) rfl ?_
      refine z_callV X k_10_183 (cr_X8_addS l G told tn tl_ gn_ (fbe i_.toNatClampNeg).toInt64 tl_.toInt rfl (by omega)) dr_X10_tellSearched_34 3 rfl rfl rfl ⟨Nat.le_of_ble_eq_true rfl, Nat.le_of_ble_eq_true rfl⟩ ⟨Nat.le_of_ble_eq_true rfl, Nat.le_of_ble_eq_true rfl⟩ rfl (rest := []) (As := [.long (fbe i_.toNatClampNeg).toInt64]) rfl (Nat.le_of_ble_eq_true rfl) [3, 4] [0, 1, 2] rfl (by decide) (wr := [(x, ob 10 [.ref told, x_reader, x_ring, x_speeds, x_wheel, x_trials, x_span, .ref search, x_kept, x_crosses, x_trueMasses, x_thought, x_up, x_low, x_fits, x_pulls]), (search, ob 6 [.int hn, .int np, .int 0, .ref afr, .ref aup, .ref axx, .ref ayy, .ref asx, .ref asy, .ref asz, .ref apu, .ref abe, .int oz, .int fo, .long lc]), (abe, aI G 16 fbe)]) rfl (by decide) (by decide) ?_
      rintro _ _ ⟨tl2_2, fn2_3, f34_4, rfl, rfl⟩
      refine Z.at (pc' := 37) (st' := []) (ws' := [(x, ob 10 [.ref told, x_reader, x_ring, x_speeds, x_wheel, x_trials, x_span, .ref search, x_kept, x_crosses, x_trueMasses, x_thought, x_up, x_low, x_fits, x_pulls]), (search, ob 6 [.int hn, .int np, .int 0, .ref afr, .ref aup, .ref axx, .ref ayy, .ref asx, .ref asy, .ref asz, .ref apu, .ref abe, .int oz, .int fo, .long lc]), (abe, aI G 16 fbe), (told, ob 8 [.ref tn, .int tl2_2]), (tn, aJ G 16 fn2_3)]) (kc' := 0) (ks' := 0) rfl rfl rfl rfl rfl ?_
      refine z_run X br_X10_tellSearched_37_40 kr_X10_tellSearched_37_40 (lv' := [(1, .int (i_ + 1)), (0, .ref x)]) (st' := []) rfl ?_
      refine z_goto X dr_X10_tellSearched_40 (tgt := 9) (by decide) ?_
      exact ih9 ((i_ + 1), tl2_2, fn2_3) ⟨(by (try dsimp only); have e : (i_ + 1).toInt = i_.toInt + 1 := tI_add rfl (show (1 : Int32).toInt = 1 from by decide) (by omega); omega), (by (try dsimp only); omega)⟩ (by (try dsimp only); have e : (i_ + 1).toInt = i_.toInt + 1 := tI_add rfl (show (1 : Int32).toInt = 1 from by decide) (by omega); omega)
  · exact ⟨(by (try dsimp only); have e0 : (0 : Int32).toInt = 0 := (by decide); omega), (by (try dsimp only); have e0 : (0 : Int32).toInt = 0 := (by decide); omega)⟩

theorem dr_X10_isOneOfTwo_1 : decode cX10_isOneOfTwo 1 = .ok (.ifCond .eq 8, 3) := by decide +kernel
theorem dr_X10_isOneOfTwo_10 : decode cX10_isOneOfTwo 10 = .ok (.goto 4, 3) := by decide +kernel
theorem dr_X10_isOneOfTwo_14 : decode cX10_isOneOfTwo 14 = .ok (.ireturn, 1) := by decide +kernel
theorem dr_X10_isOneOfTwo_6 : decode cX10_isOneOfTwo 6 = .ok (.if_icmp .ne 7, 3) := by decide +kernel
abbrev br_X10_isOneOfTwo_0_1 : ZB := [(.iload_n 0, .null)]
theorem kr_X10_isOneOfTwo_0_1 : zchk cX10_isOneOfTwo br_X10_isOneOfTwo_0_1 0 = true ∧ zpc br_X10_isOneOfTwo_0_1 0 = 1 := ⟨by decide +kernel, rfl⟩
abbrev br_X10_isOneOfTwo_9_10 : ZB := [(.iconst 1, .int 1)]
theorem kr_X10_isOneOfTwo_9_10 : zchk cX10_isOneOfTwo br_X10_isOneOfTwo_9_10 9 = true ∧ zpc br_X10_isOneOfTwo_9_10 9 = 10 := ⟨by decide +kernel, rfl⟩
abbrev br_X10_isOneOfTwo_4_6 : ZB := [(.iload_n 0, .null), (.iconst 1, .int 1)]
theorem kr_X10_isOneOfTwo_4_6 : zchk cX10_isOneOfTwo br_X10_isOneOfTwo_4_6 4 = true ∧ zpc br_X10_isOneOfTwo_4_6 4 = 6 := ⟨by decide +kernel, rfl⟩
abbrev br_X10_isOneOfTwo_13_14 : ZB := [(.iconst 0, .int 0)]
theorem kr_X10_isOneOfTwo_13_14 : zchk cX10_isOneOfTwo br_X10_isOneOfTwo_13_14 13 = true ∧ zpc br_X10_isOneOfTwo_13_14 13 = 14 := ⟨by decide +kernel, rfl⟩
set_option maxHeartbeats 4000000 in
set_option maxRecDepth 100000 in
theorem cr_X10_isOneOfTwoS (l : Launch) (G : KG) (a : Int32) (ai : Int) (ha : a.toInt = ai) : Ct l G yX10_isOneOfTwo cX10_isOneOfTwo 1 (some .boolean) { frames := 0, cells := 0, slots := 0, locals := 0 } [.int a] [] (fun r w1 => r = some (.int (zb (decide (0 ≤ ai ∧ ai ≤ 1)))) ∧ w1 = []) := by
  refine ct_of [(0, .int a)] (by decide) (Nat.le_of_ble_eq_true rfl) rfl ?_
  intro p0 e0 s0 m0 args0 below0 meth0 c0 A X
  refine z_run X br_X10_isOneOfTwo_0_1 kr_X10_isOneOfTwo_0_1 (lv' := [(0, .int a)]) (st' := [.int a]) rfl ?_
  refine zi_eq X dr_X10_isOneOfTwo_1 (tgt := 9) (by decide) (a := ai) ha (fun c1_1 => ?_) (fun c1_1 => ?_)
  ·
    refine z_run X br_X10_isOneOfTwo_9_10 kr_X10_isOneOfTwo_9_10 (lv' := [(0, .int a)]) (st' := [.int 1]) rfl ?_
    refine z_goto X dr_X10_isOneOfTwo_10 (tgt := 14) (by decide) ?_
    exact z_zret X rfl rfl dr_X10_isOneOfTwo_14 (Nat.le_of_ble_eq_true rfl) (Nat.le_of_ble_eq_true rfl) ⟨(congrArg (fun z => some (Value.int z)) (zb_t (by omega)).symm), rfl⟩
  ·
    refine z_run X br_X10_isOneOfTwo_4_6 kr_X10_isOneOfTwo_4_6 (lv' := [(0, .int a)]) (st' := [.int 1, .int a]) rfl ?_
    refine zc_ne X dr_X10_isOneOfTwo_6 (tgt := 13) (by decide) (a := ai) (b := 1) ha (show (1 : Int32).toInt = 1 from by decide) (fun c6_2 => ?_) (fun c6_2 => ?_)
    ·
      refine z_run X br_X10_isOneOfTwo_13_14 kr_X10_isOneOfTwo_13_14 (lv' := [(0, .int a)]) (st' := [.int 0]) rfl ?_
      exact z_zret X rfl rfl dr_X10_isOneOfTwo_14 (Nat.le_of_ble_eq_true rfl) (Nat.le_of_ble_eq_true rfl) ⟨(congrArg (fun z => some (Value.int z)) (zb_f (by omega)).symm), rfl⟩
    ·
      refine z_run X br_X10_isOneOfTwo_9_10 kr_X10_isOneOfTwo_9_10 (lv' := [(0, .int a)]) (st' := [.int 1]) rfl ?_
      refine z_goto X dr_X10_isOneOfTwo_10 (tgt := 14) (by decide) ?_
      exact z_zret X rfl rfl dr_X10_isOneOfTwo_14 (Nat.le_of_ble_eq_true rfl) (Nat.le_of_ble_eq_true rfl) ⟨(congrArg (fun z => some (Value.int z)) (zb_t (by omega)).symm), rfl⟩

theorem dr_X10_best_1 : decode cX10_best 1 = .ok (.invokestatic 156, 3) := by decide +kernel
theorem dr_X10_best_4 : decode cX10_best 4 = .ok (.ifCond .eq 13, 3) := by decide +kernel
theorem dr_X10_best_17 : decode cX10_best 17 = .ok (.ldc2_w 346, 3) := by decide +kernel
theorem dr_X10_best_20 : decode cX10_best 20 = .ok (.lreturn, 1) := by decide +kernel
theorem dr_X10_best_9 : decode cX10_best 9 = .ok (.if_icmp .lt 8, 3) := by decide +kernel
theorem dr_X10_best_14 : decode cX10_best 14 = .ok (.if_icmp .le 7, 3) := by decide +kernel
theorem dr_X10_best_24 : decode cX10_best 24 = .ok (.invokevirtual 351, 3) := by decide +kernel
theorem dr_X10_best_29 : decode cX10_best 29 = .ok (.invokevirtual 354, 3) := by decide +kernel
theorem dr_X10_best_33 : decode cX10_best 33 = .ok (.lreturn, 1) := by decide +kernel
abbrev br_X10_best_0_1 : ZB := [(.iload_n 1, .null)]
theorem kr_X10_best_0_1 : zchk cX10_best br_X10_best_0_1 0 = true ∧ zpc br_X10_best_0_1 0 = 1 := ⟨by decide +kernel, rfl⟩
abbrev br_X10_best_7_9 : ZB := [(.iload_n 2, .null), (.iconst 1, .int 1)]
theorem kr_X10_best_7_9 : zchk cX10_best br_X10_best_7_9 7 = true ∧ zpc br_X10_best_7_9 7 = 9 := ⟨by decide +kernel, rfl⟩
abbrev br_X10_best_12_14 : ZB := [(.iload_n 2, .null), (.iconst 3, .int 3)]
theorem kr_X10_best_12_14 : zchk cX10_best br_X10_best_12_14 12 = true ∧ zpc br_X10_best_12_14 12 = 14 := ⟨by decide +kernel, rfl⟩
abbrev br_X10_best_21_24 : ZB := [(.aload_n 0, .null), (.iload_n 1, .null), (.iload_n 2, .null)]
theorem kr_X10_best_21_24 : zchk cX10_best br_X10_best_21_24 21 = true ∧ zpc br_X10_best_21_24 21 = 24 := ⟨by decide +kernel, rfl⟩
abbrev br_X10_best_27_29 : ZB := [(.lstore_n 3, .null), (.aload_n 0, .null)]
theorem kr_X10_best_27_29 : zchk cX10_best br_X10_best_27_29 27 = true ∧ zpc br_X10_best_27_29 27 = 29 := ⟨by decide +kernel, rfl⟩
abbrev br_X10_best_32_33 : ZB := [(.lload_n 3, .null)]
theorem kr_X10_best_32_33 : zchk cX10_best br_X10_best_32_33 32 = true ∧ zpc br_X10_best_32_33 32 = 33 := ⟨by decide +kernel, rfl⟩
set_option maxHeartbeats 4000000 in
set_option maxRecDepth 100000 in
theorem cr_X10_bestS (l : Launch) (G : KG) (x : Nat) (told : Nat) (x_reader : Value) (ring : Nat) (x_speeds : Value) (x_wheel : Value) (x_trials : Value) (x_span : Value) (search : Nat) (x_kept : Value) (x_crosses : Value) (x_trueMasses : Value) (thought : Nat) (x_up : Value) (x_low : Value) (x_fits : Value) (x_pulls : Value) (tn : Nat) (tl : Int32) (fn : Nat → Int64) (hc : Int32) (rp : Nat) (rx : Nat) (ry : Nat) (rr : Nat) (rh : Nat) (rd : Nat) (g_ph : Value) (g_po : Value) (fp : Nat → Int32) (fx : Nat → Int32) (fy : Nat → Int32) (fr : Nat → Int32) (fh : Nat → Int32) (fd : Nat → Int32) (ft : Nat → Int32) (hn : Int32) (np : Int32) (afr : Nat) (aup : Nat) (axx : Nat) (ayy : Nat) (asx : Nat) (asy : Nat) (asz : Nat) (apu : Nat) (abe : Nat) (oz : Int32) (fo : Int32) (lc : Int64) (bgq : Int32) (ffr : Nat → Int32) (fup : Nat → Int32) (fxx : Nat → Int64) (fyy : Nat → Int64) (fsx : Nat → Int64) (fsy : Nat → Int64) (fsz : Nat → Int64) (fpu : Nat → Int32) (fbe : Nat → Int32) (pq : Int32) (kq : Int32) (hci : Int) (pi : Int) (ki : Int) (hhc : hc.toInt = hci) (hpq : pq.toInt = pi) (hkq : kq.toInt = ki) (hc0 : 0 ≤ hci ∧ hci ≤ 16) (hbv : ∀ j, j < hci.toNat → (-99 ≤ (fx j).toInt ∧ (fx j).toInt ≤ 99) ∧ -99 ≤ (fy j).toInt ∧ (fy j).toInt ≤ 99) (hbl : ∀ j, j < hci.toNat → (-200 ≤ ((fun _ => (0 : Int32)) j).toInt ∧ ((fun _ => (0 : Int32)) j).toInt ≤ 0) ∧ 0 ≤ ((fun j => fr j - fh j) j).toInt ∧ ((fun j => fr j - fh j) j).toInt ≤ 200) (hux : 0 ≤ pi ∧ pi ≤ 1 → -94000000 ≤ (ft (2 * pq + 0).toNatClampNeg + lw fp fh (axs 0 fx fy) pi hci.toNat).toInt ∧ (ft (2 * pq + 0).toNatClampNeg + lw fp fh (axs 0 fx fy) pi hci.toNat).toInt ≤ 94000000) (huy : 0 ≤ pi ∧ pi ≤ 1 → -94000000 ≤ (ft (2 * pq + 1).toNatClampNeg + lw fp fh (axs 1 fx fy) pi hci.toNat).toInt ∧ (ft (2 * pq + 1).toNatClampNeg + lw fp fh (axs 1 fx fy) pi hci.toNat).toInt ≤ 94000000) : Ct l G yX10_best cX10_best 5 (some .long) { frames := 22, cells := 0, slots := 0, locals := 530 } [.ref x, .int pq, .int kq] [(x, ob 10 [.ref told, x_reader, .ref ring, x_speeds, x_wheel, x_trials, x_span, .ref search, x_kept, x_crosses, x_trueMasses, .ref thought, x_up, x_low, x_fits, x_pulls]), (told, ob 8 [.ref tn, .int tl]), (tn, aJ G 16 fn), (ring, ob 5 [.int hc, .ref rp, .ref rx, .ref ry, .ref rr, .ref rh, .ref rd, g_ph, g_po]), (rp, aI G 16 fp), (rx, aI G 16 fx), (ry, aI G 16 fy), (rr, aI G 16 fr), (rh, aI G 16 fh), (rd, aI G 16 fd), (thought, aI G 8 ft), (search, ob 6 [.int hn, .int np, .int bgq, .ref afr, .ref aup, .ref axx, .ref ayy, .ref asx, .ref asy, .ref asz, .ref apu, .ref abe, .int oz, .int fo, .long lc]), (afr, aI G 16 ffr), (aup, aI G 16 fup), (axx, aJ G 6 fxx), (ayy, aJ G 6 fyy), (asx, aJ G 96 fsx), (asy, aJ G 96 fsy), (asz, aJ G 16 fsz), (apu, aI G 16 fpu), (abe, aI G 16 fbe)] (fun r _ => ∃ (rz : Int64), (SrE ((0 ≤ pi ∧ pi ≤ 1) ∧ 1 ≤ ki ∧ ki ≤ 3) (SrX (fun j => (fp j).toInt = pi) (fun _ => (0 : Int32)) (fun j => fr j - fh j) fx fy hci.toNat (ft (2 * pq + 0).toNatClampNeg + lw fp fh (axs 0 fx fy) pi hci.toNat).toInt64 (ft (2 * pq + 1).toNatClampNeg + lw fp fh (axs 1 fx fy) pi hci.toNat).toInt64 ki rz) rz) ∧ r = some (.long rz)) := by
  refine ct_of [(0, .ref x), (1, .int pq), (2, .int kq)] (by decide) (Nat.le_of_ble_eq_true rfl) rfl ?_
  intro p0 e0 s0 m0 args0 below0 meth0 c0 A X
  refine z_run X br_X10_best_0_1 kr_X10_best_0_1 (lv' := [(0, .ref x), (1, .int pq), (2, .int kq)]) (st' := [.int pq]) rfl ?_
  refine z_callS X k_10_156 (cr_X10_isOneOfTwoS l G pq pi hpq) dr_X10_best_1 ⟨Nat.le_of_ble_eq_true rfl, Nat.le_of_ble_eq_true rfl⟩ ⟨Nat.le_of_ble_eq_true rfl, Nat.le_of_ble_eq_true rfl⟩ rfl (rest := []) (As := [.int pq]) rfl (Nat.le_of_ble_eq_true rfl) [] [0, 1, 2, 3, 4, 5, 6, 7, 8, 9, 10, 11, 12, 13, 14, 15, 16, 17, 18, 19, 20] rfl (by decide) (wr := [(x, ob 10 [.ref told, x_reader, .ref ring, x_speeds, x_wheel, x_trials, x_span, .ref search, x_kept, x_crosses, x_trueMasses, .ref thought, x_up, x_low, x_fits, x_pulls]), (told, ob 8 [.ref tn, .int tl]), (tn, aJ G 16 fn), (ring, ob 5 [.int hc, .ref rp, .ref rx, .ref ry, .ref rr, .ref rh, .ref rd, g_ph, g_po]), (rp, aI G 16 fp), (rx, aI G 16 fx), (ry, aI G 16 fy), (rr, aI G 16 fr), (rh, aI G 16 fh), (rd, aI G 16 fd), (thought, aI G 8 ft), (search, ob 6 [.int hn, .int np, .int bgq, .ref afr, .ref aup, .ref axx, .ref ayy, .ref asx, .ref asy, .ref asz, .ref apu, .ref abe, .int oz, .int fo, .long lc]), (afr, aI G 16 ffr), (aup, aI G 16 fup), (axx, aJ G 6 fxx), (ayy, aJ G 6 fyy), (asx, aJ G 96 fsx), (asy, aJ G 96 fsy), (asz, aJ G 16 fsz), (apu, aI G 16 fpu), (abe, aI G 16 fbe)]) rfl (by decide) (by decide) ?_
  rintro _ _ ⟨rfl, rfl⟩
  refine Z.at (pc' := 4) (st' := [.int (zb (decide (0 ≤ pi ∧ pi ≤ 1)))]) (ws' := [(x, ob 10 [.ref told, x_reader, .ref ring, x_speeds, x_wheel, x_trials, x_span, .ref search, x_kept, x_crosses, x_trueMasses, .ref thought, x_up, x_low, x_fits, x_pulls]), (told, ob 8 [.ref tn, .int tl]), (tn, aJ G 16 fn), (ring, ob 5 [.int hc, .ref rp, .ref rx, .ref ry, .ref rr, .ref rh, .ref rd, g_ph, g_po]), (rp, aI G 16 fp), (rx, aI G 16 fx), (ry, aI G 16 fy), (rr, aI G 16 fr), (rh, aI G 16 fh), (rd, aI G 16 fd), (thought, aI G 8 ft), (search, ob 6 [.int hn, .int np, .int bgq, .ref afr, .ref aup, .ref axx, .ref ayy, .ref asx, .ref asy, .ref asz, .ref apu, .ref abe, .int oz, .int fo, .long lc]), (afr, aI G 16 ffr), (aup, aI G 16 fup), (axx, aJ G 6 fxx), (ayy, aJ G 6 fyy), (asx, aJ G 96 fsx), (asy, aJ G 96 fsy), (asz, aJ G 16 fsz), (apu, aI G 16 fpu), (abe, aI G 16 fbe)]) (kc' := 0) (ks' := 0) rfl rfl rfl rfl rfl ?_
  refine zi_eq_zb X dr_X10_best_4 (tgt := 17) (by decide) (fun c4_1 => ?_) (fun c4_1 => ?_)
  ·
    refine z_ldc2 X dr_X10_best_17 cn_10_346 ?_
    exact z_lret X rfl dr_X10_best_20 (Nat.le_of_ble_eq_true rfl) (Nat.le_of_ble_eq_true rfl) ⟨((-1) : Int64), (Or.inl ⟨by omega, rfl⟩), rfl⟩
  ·
    refine z_run X br_X10_best_7_9 kr_X10_best_7_9 (lv' := [(0, .ref x), (1, .int pq), (2, .int kq)]) (st' := [.int 1, .int kq]) rfl ?_
    refine zc_lt X dr_X10_best_9 (tgt := 17) (by decide) (a := ki) (b := 1) hkq (show (1 : Int32).toInt = 1 from by decide) (fun c9_2 => ?_) (fun c9_2 => ?_)
    ·
      refine z_ldc2 X dr_X10_best_17 cn_10_346 ?_
      exact z_lret X rfl dr_X10_best_20 (Nat.le_of_ble_eq_true rfl) (Nat.le_of_ble_eq_true rfl) ⟨((-1) : Int64), (Or.inl ⟨by omega, rfl⟩), rfl⟩
    ·
      refine z_run X br_X10_best_12_14 kr_X10_best_12_14 (lv' := [(0, .ref x), (1, .int pq), (2, .int kq)]) (st' := [.int 3, .int kq]) rfl ?_
      refine zc_le X dr_X10_best_14 (tgt := 21) (by decide) (a := ki) (b := 3) hkq (show (3 : Int32).toInt = 3 from by decide) (fun c14_3 => ?_) (fun c14_3 => ?_)
      ·
        refine z_run X br_X10_best_21_24 kr_X10_best_21_24 (lv' := [(0, .ref x), (1, .int pq), (2, .int kq)]) (st' := [.int kq, .int pq, .ref x]) rfl ?_
        refine z_callV X k_10_351 (cr_X10_searchPuttingS l G x (.ref told) x_reader ring x_speeds x_wheel x_trials x_span search x_kept x_crosses x_trueMasses thought x_up x_low x_fits x_pulls hc rp rx ry rr rh rd g_ph g_po fp fx fy fr fh fd ft hn np afr aup axx ayy asx asy asz apu abe oz fo lc bgq ffr fup fxx fyy fsx fsy fsz fpu fbe pq kq hci pi ki hhc hpq hkq (by omega) (by omega) (by omega) hbv hbl (hux (by omega)) (huy (by omega))) dr_X10_best_24 0 rfl rfl rfl ⟨Nat.le_of_ble_eq_true rfl, Nat.le_of_ble_eq_true rfl⟩ ⟨Nat.le_of_ble_eq_true rfl, Nat.le_of_ble_eq_true rfl⟩ rfl (rest := []) (As := [.int pq, .int kq]) rfl (Nat.le_of_ble_eq_true rfl) [0, 3, 4, 5, 6, 7, 8, 9, 10, 11, 12, 13, 14, 15, 16, 17, 18, 19, 20] [1, 2] rfl (by decide) (wr := [(told, ob 8 [.ref tn, .int tl]), (tn, aJ G 16 fn)]) rfl (by decide) (by decide) ?_
        rintro _ _ ⟨rz_4, ffr2_5, fup2_6, fsx2_7, fsy2_8, fsz2_9, hn2_10, fxx2_11, fyy2_12, fpu2_13, fbe2_14, oz2_15, fo2_16, lc2_17, f24_18, f24_19, rfl, rfl⟩
        refine Z.at (pc' := 27) (st' := [.long rz_4]) (ws' := [(told, ob 8 [.ref tn, .int tl]), (tn, aJ G 16 fn), (x, ob 10 [.ref told, x_reader, .ref ring, x_speeds, x_wheel, x_trials, x_span, .ref search, x_kept, x_crosses, x_trueMasses, .ref thought, x_up, x_low, x_fits, x_pulls]), (ring, ob 5 [.int hc, .ref rp, .ref rx, .ref ry, .ref rr, .ref rh, .ref rd, g_ph, g_po]), (rp, aI G 16 fp), (rx, aI G 16 fx), (ry, aI G 16 fy), (rr, aI G 16 fr), (rh, aI G 16 fh), (rd, aI G 16 fd), (thought, aI G 8 ft), (search, ob 6 [.int hn2_10, .int 1, .int 0, .ref afr, .ref aup, .ref axx, .ref ayy, .ref asx, .ref asy, .ref asz, .ref apu, .ref abe, .int oz2_15, .int fo2_16, .long lc2_17]), (afr, aI G 16 ffr2_5), (aup, aI G 16 fup2_6), (axx, aJ G 6 fxx2_11), (ayy, aJ G 6 fyy2_12), (asx, aJ G 96 fsx2_7), (asy, aJ G 96 fsy2_8), (asz, aJ G 16 fsz2_9), (apu, aI G 16 fpu2_13), (abe, aI G 16 fbe2_14)]) (kc' := 0) (ks' := 0) rfl rfl rfl rfl rfl ?_
        refine z_run X br_X10_best_27_29 kr_X10_best_27_29 (lv' := [(3, .long rz_4), (0, .ref x), (1, .int pq), (2, .int kq)]) (st' := [.ref x]) rfl ?_
        refine z_callV X k_10_354 (cr_X10_tellSearchedS l G x told x_reader (.ref ring) x_speeds x_wheel x_trials x_span search x_kept x_crosses x_trueMasses (.ref thought) x_up x_low x_fits x_pulls tn tl fn hn2_10 1 afr aup axx ayy asx asy asz apu abe oz2_15 fo2_16 lc2_17 fbe2_14 hn2_10.toInt rfl (by omega)) dr_X10_best_29 2 rfl rfl rfl ⟨Nat.le_of_ble_eq_true rfl, Nat.le_of_ble_eq_true rfl⟩ ⟨Nat.le_of_ble_eq_true rfl, Nat.le_of_ble_eq_true rfl⟩ rfl (rest := []) (As := []) rfl (Nat.le_of_ble_eq_true rfl) [2, 0, 1, 11, 20] [3, 4, 5, 6, 7, 8, 9, 10, 12, 13, 14, 15, 16, 17, 18, 19] rfl (by decide) (wr := [(ring, ob 5 [.int hc, .ref rp, .ref rx, .ref ry, .ref rr, .ref rh, .ref rd, g_ph, g_po]), (rp, aI G 16 fp), (rx, aI G 16 fx), (ry, aI G 16 fy), (rr, aI G 16 fr), (rh, aI G 16 fh), (rd, aI G 16 fd), (thought, aI G 8 ft), (afr, aI G 16 ffr2_5), (aup, aI G 16 fup2_6), (axx, aJ G 6 fxx2_11), (ayy, aJ G 6 fyy2_12), (asx, aJ G 96 fsx2_7), (asy, aJ G 96 fsy2_8), (asz, aJ G 16 fsz2_9), (apu, aI G 16 fpu2_13)]) rfl (by decide) (by decide) ?_
        rintro _ _ ⟨tl2_20, fn2_21, f29_22, rfl, rfl⟩
        refine Z.at (pc' := 32) (st' := []) (ws' := [(ring, ob 5 [.int hc, .ref rp, .ref rx, .ref ry, .ref rr, .ref rh, .ref rd, g_ph, g_po]), (rp, aI G 16 fp), (rx, aI G 16 fx), (ry, aI G 16 fy), (rr, aI G 16 fr), (rh, aI G 16 fh), (rd, aI G 16 fd), (thought, aI G 8 ft), (afr, aI G 16 ffr2_5), (aup, aI G 16 fup2_6), (axx, aJ G 6 fxx2_11), (ayy, aJ G 6 fyy2_12), (asx, aJ G 96 fsx2_7), (asy, aJ G 96 fsy2_8), (asz, aJ G 16 fsz2_9), (apu, aI G 16 fpu2_13), (x, ob 10 [.ref told, x_reader, .ref ring, x_speeds, x_wheel, x_trials, x_span, .ref search, x_kept, x_crosses, x_trueMasses, .ref thought, x_up, x_low, x_fits, x_pulls]), (told, ob 8 [.ref tn, .int tl2_20]), (tn, aJ G 16 fn2_21), (search, ob 6 [.int hn2_10, .int 1, .int 0, .ref afr, .ref aup, .ref axx, .ref ayy, .ref asx, .ref asy, .ref asz, .ref apu, .ref abe, .int oz2_15, .int fo2_16, .long lc2_17]), (abe, aI G 16 fbe2_14)]) (kc' := 0) (ks' := 0) rfl rfl rfl rfl rfl ?_
        refine z_run X br_X10_best_32_33 kr_X10_best_32_33 (lv' := [(3, .long rz_4), (0, .ref x), (1, .int pq), (2, .int kq)]) (st' := [.long rz_4]) rfl ?_
        exact z_lret X rfl dr_X10_best_33 (Nat.le_of_ble_eq_true rfl) (Nat.le_of_ble_eq_true rfl) ⟨rz_4, (Or.inr ⟨by omega, f24_18⟩), rfl⟩
      ·
        refine z_ldc2 X dr_X10_best_17 cn_10_346 ?_
        exact z_lret X rfl dr_X10_best_20 (Nat.le_of_ble_eq_true rfl) (Nat.le_of_ble_eq_true rfl) ⟨((-1) : Int64), (Or.inl ⟨by omega, rfl⟩), rfl⟩

theorem dr_X10_off_1 : decode cX10_off 1 = .ok (.invokestatic 156, 3) := by decide +kernel
theorem dr_X10_off_4 : decode cX10_off 4 = .ok (.ifCond .eq 13, 3) := by decide +kernel
theorem dr_X10_off_17 : decode cX10_off 17 = .ok (.ldc2_w 346, 3) := by decide +kernel
theorem dr_X10_off_20 : decode cX10_off 20 = .ok (.lreturn, 1) := by decide +kernel
theorem dr_X10_off_9 : decode cX10_off 9 = .ok (.if_icmp .lt 8, 3) := by decide +kernel
theorem dr_X10_off_14 : decode cX10_off 14 = .ok (.if_icmp .le 7, 3) := by decide +kernel
theorem dr_X10_off_23 : decode cX10_off 23 = .ok (.invokevirtual 357, 3) := by decide +kernel
theorem dr_X10_off_30 : decode cX10_off 30 = .ok (.getfield 26, 3) := by decide +kernel
theorem dr_X10_off_33 : decode cX10_off 33 = .ok (.getfield 136, 3) := by decide +kernel
theorem dr_X10_off_36 : decode cX10_off 36 = .ok (.if_icmp .ge 77, 3) := by decide +kernel
theorem dr_X10_off_114 : decode cX10_off 114 = .ok (.getfield 61, 3) := by decide +kernel
theorem dr_X10_off_118 : decode cX10_off 118 = .ok (.invokevirtual 367, 3) := by decide +kernel
theorem dr_X10_off_123 : decode cX10_off 123 = .ok (.invokevirtual 354, 3) := by decide +kernel
theorem dr_X10_off_127 : decode cX10_off 127 = .ok (.lreturn, 1) := by decide +kernel
theorem dr_X10_off_40 : decode cX10_off 40 = .ok (.getfield 26, 3) := by decide +kernel
theorem dr_X10_off_43 : decode cX10_off 43 = .ok (.getfield 116, 3) := by decide +kernel
theorem dr_X10_off_47 : decode cX10_off 47 = .ok (.iaload, 1) := by decide +kernel
theorem dr_X10_off_49 : decode cX10_off 49 = .ok (.if_icmp .ne 58, 3) := by decide +kernel
theorem dr_X10_off_110 : decode cX10_off 110 = .ok (.goto (-82), 3) := by decide +kernel
theorem dr_X10_off_53 : decode cX10_off 53 = .ok (.getfield 61, 3) := by decide +kernel
theorem dr_X10_off_58 : decode cX10_off 58 = .ok (.getfield 26, 3) := by decide +kernel
theorem dr_X10_off_61 : decode cX10_off 61 = .ok (.getfield 128, 3) := by decide +kernel
theorem dr_X10_off_65 : decode cX10_off 65 = .ok (.iaload, 1) := by decide +kernel
theorem dr_X10_off_67 : decode cX10_off 67 = .ok (.getfield 26, 3) := by decide +kernel
theorem dr_X10_off_70 : decode cX10_off 70 = .ok (.getfield 131, 3) := by decide +kernel
theorem dr_X10_off_74 : decode cX10_off 74 = .ok (.iaload, 1) := by decide +kernel
theorem dr_X10_off_76 : decode cX10_off 76 = .ok (.invokevirtual 361, 3) := by decide +kernel
theorem dr_X10_off_80 : decode cX10_off 80 = .ok (.getfield 61, 3) := by decide +kernel
theorem dr_X10_off_85 : decode cX10_off 85 = .ok (.getfield 26, 3) := by decide +kernel
theorem dr_X10_off_88 : decode cX10_off 88 = .ok (.getfield 119, 3) := by decide +kernel
theorem dr_X10_off_92 : decode cX10_off 92 = .ok (.iaload, 1) := by decide +kernel
theorem dr_X10_off_95 : decode cX10_off 95 = .ok (.getfield 26, 3) := by decide +kernel
theorem dr_X10_off_98 : decode cX10_off 98 = .ok (.getfield 122, 3) := by decide +kernel
theorem dr_X10_off_102 : decode cX10_off 102 = .ok (.iaload, 1) := by decide +kernel
theorem dr_X10_off_104 : decode cX10_off 104 = .ok (.invokevirtual 364, 3) := by decide +kernel
abbrev br_X10_off_0_1 : ZB := [(.iload_n 1, .null)]
theorem kr_X10_off_0_1 : zchk cX10_off br_X10_off_0_1 0 = true ∧ zpc br_X10_off_0_1 0 = 1 := ⟨by decide +kernel, rfl⟩
abbrev br_X10_off_7_9 : ZB := [(.iload_n 2, .null), (.iconst 1, .int 1)]
theorem kr_X10_off_7_9 : zchk cX10_off br_X10_off_7_9 7 = true ∧ zpc br_X10_off_7_9 7 = 9 := ⟨by decide +kernel, rfl⟩
abbrev br_X10_off_12_14 : ZB := [(.iload_n 2, .null), (.iconst 3, .int 3)]
theorem kr_X10_off_12_14 : zchk cX10_off br_X10_off_12_14 12 = true ∧ zpc br_X10_off_12_14 12 = 14 := ⟨by decide +kernel, rfl⟩
abbrev br_X10_off_21_23 : ZB := [(.aload_n 0, .null), (.iload_n 1, .null)]
theorem kr_X10_off_21_23 : zchk cX10_off br_X10_off_21_23 21 = true ∧ zpc br_X10_off_21_23 21 = 23 := ⟨by decide +kernel, rfl⟩
abbrev br_X10_off_26_28 : ZB := [(.iconst 0, .int 0), (.istore_n 3, .null)]
theorem kr_X10_off_26_28 : zchk cX10_off br_X10_off_26_28 26 = true ∧ zpc br_X10_off_26_28 26 = 28 := ⟨by decide +kernel, rfl⟩
abbrev br_X10_off_28_30 : ZB := [(.iload_n 3, .null), (.aload_n 0, .null)]
theorem kr_X10_off_28_30 : zchk cX10_off br_X10_off_28_30 28 = true ∧ zpc br_X10_off_28_30 28 = 30 := ⟨by decide +kernel, rfl⟩
abbrev br_X10_off_113_114 : ZB := [(.aload_n 0, .null)]
theorem kr_X10_off_113_114 : zchk cX10_off br_X10_off_113_114 113 = true ∧ zpc br_X10_off_113_114 113 = 114 := ⟨by decide +kernel, rfl⟩
abbrev br_X10_off_117_118 : ZB := [(.iload_n 2, .null)]
theorem kr_X10_off_117_118 : zchk cX10_off br_X10_off_117_118 117 = true ∧ zpc br_X10_off_117_118 117 = 118 := ⟨by decide +kernel, rfl⟩
abbrev br_X10_off_121_123 : ZB := [(.lstore_n 3, .null), (.aload_n 0, .null)]
theorem kr_X10_off_121_123 : zchk cX10_off br_X10_off_121_123 121 = true ∧ zpc br_X10_off_121_123 121 = 123 := ⟨by decide +kernel, rfl⟩
abbrev br_X10_off_126_127 : ZB := [(.lload_n 3, .null)]
theorem kr_X10_off_126_127 : zchk cX10_off br_X10_off_126_127 126 = true ∧ zpc br_X10_off_126_127 126 = 127 := ⟨by decide +kernel, rfl⟩
abbrev br_X10_off_39_40 : ZB := [(.aload_n 0, .null)]
theorem kr_X10_off_39_40 : zchk cX10_off br_X10_off_39_40 39 = true ∧ zpc br_X10_off_39_40 39 = 40 := ⟨by decide +kernel, rfl⟩
abbrev br_X10_off_46_47 : ZB := [(.iload_n 3, .null)]
theorem kr_X10_off_46_47 : zchk cX10_off br_X10_off_46_47 46 = true ∧ zpc br_X10_off_46_47 46 = 47 := ⟨by decide +kernel, rfl⟩
abbrev br_X10_off_48_49 : ZB := [(.iload_n 1, .null)]
theorem kr_X10_off_48_49 : zchk cX10_off br_X10_off_48_49 48 = true ∧ zpc br_X10_off_48_49 48 = 49 := ⟨by decide +kernel, rfl⟩
abbrev br_X10_off_107_110 : ZB := [(.iinc 3 1, .int 1)]
theorem kr_X10_off_107_110 : zchk cX10_off br_X10_off_107_110 107 = true ∧ zpc br_X10_off_107_110 107 = 110 := ⟨by decide +kernel, rfl⟩
abbrev br_X10_off_52_53 : ZB := [(.aload_n 0, .null)]
theorem kr_X10_off_52_53 : zchk cX10_off br_X10_off_52_53 52 = true ∧ zpc br_X10_off_52_53 52 = 53 := ⟨by decide +kernel, rfl⟩
abbrev br_X10_off_56_58 : ZB := [(.iconst 0, .int 0), (.aload_n 0, .null)]
theorem kr_X10_off_56_58 : zchk cX10_off br_X10_off_56_58 56 = true ∧ zpc br_X10_off_56_58 56 = 58 := ⟨by decide +kernel, rfl⟩
abbrev br_X10_off_64_65 : ZB := [(.iload_n 3, .null)]
theorem kr_X10_off_64_65 : zchk cX10_off br_X10_off_64_65 64 = true ∧ zpc br_X10_off_64_65 64 = 65 := ⟨by decide +kernel, rfl⟩
abbrev br_X10_off_66_67 : ZB := [(.aload_n 0, .null)]
theorem kr_X10_off_66_67 : zchk cX10_off br_X10_off_66_67 66 = true ∧ zpc br_X10_off_66_67 66 = 67 := ⟨by decide +kernel, rfl⟩
abbrev br_X10_off_73_74 : ZB := [(.iload_n 3, .null)]
theorem kr_X10_off_73_74 : zchk cX10_off br_X10_off_73_74 73 = true ∧ zpc br_X10_off_73_74 73 = 74 := ⟨by decide +kernel, rfl⟩
abbrev br_X10_off_75_76 : ZB := [(.iadd, .null)]
theorem kr_X10_off_75_76 : zchk cX10_off br_X10_off_75_76 75 = true ∧ zpc br_X10_off_75_76 75 = 76 := ⟨by decide +kernel, rfl⟩
abbrev br_X10_off_79_80 : ZB := [(.aload_n 0, .null)]
theorem kr_X10_off_79_80 : zchk cX10_off br_X10_off_79_80 79 = true ∧ zpc br_X10_off_79_80 79 = 80 := ⟨by decide +kernel, rfl⟩
abbrev br_X10_off_83_85 : ZB := [(.iconst 0, .int 0), (.aload_n 0, .null)]
theorem kr_X10_off_83_85 : zchk cX10_off br_X10_off_83_85 83 = true ∧ zpc br_X10_off_83_85 83 = 85 := ⟨by decide +kernel, rfl⟩
abbrev br_X10_off_91_92 : ZB := [(.iload_n 3, .null)]
theorem kr_X10_off_91_92 : zchk cX10_off br_X10_off_91_92 91 = true ∧ zpc br_X10_off_91_92 91 = 92 := ⟨by decide +kernel, rfl⟩
abbrev br_X10_off_93_95 : ZB := [(.ineg, .null), (.aload_n 0, .null)]
theorem kr_X10_off_93_95 : zchk cX10_off br_X10_off_93_95 93 = true ∧ zpc br_X10_off_93_95 93 = 95 := ⟨by decide +kernel, rfl⟩
abbrev br_X10_off_101_102 : ZB := [(.iload_n 3, .null)]
theorem kr_X10_off_101_102 : zchk cX10_off br_X10_off_101_102 101 = true ∧ zpc br_X10_off_101_102 101 = 102 := ⟨by decide +kernel, rfl⟩
abbrev br_X10_off_103_104 : ZB := [(.ineg, .null)]
theorem kr_X10_off_103_104 : zchk cX10_off br_X10_off_103_104 103 = true ∧ zpc br_X10_off_103_104 103 = 104 := ⟨by decide +kernel, rfl⟩
set_option maxHeartbeats 4000000 in
set_option maxRecDepth 100000 in
theorem cr_X10_offS (l : Launch) (G : KG) (x : Nat) (told : Nat) (x_reader : Value) (ring : Nat) (x_speeds : Value) (x_wheel : Value) (x_trials : Value) (x_span : Value) (search : Nat) (x_kept : Value) (x_crosses : Value) (x_trueMasses : Value) (thought : Nat) (x_up : Value) (x_low : Value) (x_fits : Value) (x_pulls : Value) (tn : Nat) (tl : Int32) (fn : Nat → Int64) (hc : Int32) (rp : Nat) (rx : Nat) (ry : Nat) (rr : Nat) (rh : Nat) (rd : Nat) (g_ph : Value) (g_po : Value) (fp : Nat → Int32) (fx : Nat → Int32) (fy : Nat → Int32) (fr : Nat → Int32) (fh : Nat → Int32) (fd : Nat → Int32) (ft : Nat → Int32) (hn : Int32) (np : Int32) (afr : Nat) (aup : Nat) (axx : Nat) (ayy : Nat) (asx : Nat) (asy : Nat) (asz : Nat) (apu : Nat) (abe : Nat) (oz : Int32) (fo : Int32) (lc : Int64) (bgq : Int32) (ffr : Nat → Int32) (fup : Nat → Int32) (fxx : Nat → Int64) (fyy : Nat → Int64) (fsx : Nat → Int64) (fsy : Nat → Int64) (fsz : Nat → Int64) (fpu : Nat → Int32) (fbe : Nat → Int32) (pq : Int32) (kq : Int32) (hci : Int) (pi : Int) (ki : Int) (hhc : hc.toInt = hci) (hpq : pq.toInt = pi) (hkq : kq.toInt = ki) (hc0 : 0 ≤ hci ∧ hci ≤ 16) (hbv : ∀ j, j < hci.toNat → (-99 ≤ ((fun j => -fx j) j).toInt ∧ ((fun j => -fx j) j).toInt ≤ 99) ∧ -99 ≤ ((fun j => -fy j) j).toInt ∧ ((fun j => -fy j) j).toInt ≤ 99) (hbl : ∀ j, j < hci.toNat → (-200 ≤ ((fun _ => (0 : Int32)) j).toInt ∧ ((fun _ => (0 : Int32)) j).toInt ≤ 0) ∧ 0 ≤ ((fun j => fh j + fd j) j).toInt ∧ ((fun j => fh j + fd j) j).toInt ≤ 200) (hux : 0 ≤ pi ∧ pi ≤ 1 → -94000000 ≤ (ft (2 * pq + 0).toNatClampNeg + lw fp fh (axs 0 fx fy) pi hci.toNat).toInt ∧ (ft (2 * pq + 0).toNatClampNeg + lw fp fh (axs 0 fx fy) pi hci.toNat).toInt ≤ 94000000) (huy : 0 ≤ pi ∧ pi ≤ 1 → -94000000 ≤ (ft (2 * pq + 1).toNatClampNeg + lw fp fh (axs 1 fx fy) pi hci.toNat).toInt ∧ (ft (2 * pq + 1).toNatClampNeg + lw fp fh (axs 1 fx fy) pi hci.toNat).toInt ≤ 94000000) : Ct l G yX10_off cX10_off 5 (some .long) { frames := 21, cells := 0, slots := 0, locals := 507 } [.ref x, .int pq, .int kq] [(x, ob 10 [.ref told, x_reader, .ref ring, x_speeds, x_wheel, x_trials, x_span, .ref search, x_kept, x_crosses, x_trueMasses, .ref thought, x_up, x_low, x_fits, x_pulls]), (told, ob 8 [.ref tn, .int tl]), (tn, aJ G 16 fn), (ring, ob 5 [.int hc, .ref rp, .ref rx, .ref ry, .ref rr, .ref rh, .ref rd, g_ph, g_po]), (rp, aI G 16 fp), (rx, aI G 16 fx), (ry, aI G 16 fy), (rr, aI G 16 fr), (rh, aI G 16 fh), (rd, aI G 16 fd), (thought, aI G 8 ft), (search, ob 6 [.int hn, .int np, .int bgq, .ref afr, .ref aup, .ref axx, .ref ayy, .ref asx, .ref asy, .ref asz, .ref apu, .ref abe, .int oz, .int fo, .long lc]), (afr, aI G 16 ffr), (aup, aI G 16 fup), (axx, aJ G 6 fxx), (ayy, aJ G 6 fyy), (asx, aJ G 96 fsx), (asy, aJ G 96 fsy), (asz, aJ G 16 fsz), (apu, aI G 16 fpu), (abe, aI G 16 fbe)] (fun r _ => ∃ (rz : Int64), (SrE ((0 ≤ pi ∧ pi ≤ 1) ∧ 1 ≤ ki ∧ ki ≤ 3) (SrX (fun j => (fp j).toInt = pi) (fun _ => (0 : Int32)) (fun j => fh j + fd j) (fun j => -fx j) (fun j => -fy j) hci.toNat (ft (2 * pq + 0).toNatClampNeg + lw fp fh (axs 0 fx fy) pi hci.toNat).toInt64 (ft (2 * pq + 1).toNatClampNeg + lw fp fh (axs 1 fx fy) pi hci.toNat).toInt64 ki rz) rz) ∧ r = some (.long rz)) := by
  refine ct_of [(0, .ref x), (1, .int pq), (2, .int kq)] (by decide) (Nat.le_of_ble_eq_true rfl) rfl ?_
  intro p0 e0 s0 m0 args0 below0 meth0 c0 A X
  refine z_run X br_X10_off_0_1 kr_X10_off_0_1 (lv' := [(0, .ref x), (1, .int pq), (2, .int kq)]) (st' := [.int pq]) rfl ?_
  refine z_callS X k_10_156 (cr_X10_isOneOfTwoS l G pq pi hpq) dr_X10_off_1 ⟨Nat.le_of_ble_eq_true rfl, Nat.le_of_ble_eq_true rfl⟩ ⟨Nat.le_of_ble_eq_true rfl, Nat.le_of_ble_eq_true rfl⟩ rfl (rest := []) (As := [.int pq]) rfl (Nat.le_of_ble_eq_true rfl) [] [0, 1, 2, 3, 4, 5, 6, 7, 8, 9, 10, 11, 12, 13, 14, 15, 16, 17, 18, 19, 20] rfl (by decide) (wr := [(x, ob 10 [.ref told, x_reader, .ref ring, x_speeds, x_wheel, x_trials, x_span, .ref search, x_kept, x_crosses, x_trueMasses, .ref thought, x_up, x_low, x_fits, x_pulls]), (told, ob 8 [.ref tn, .int tl]), (tn, aJ G 16 fn), (ring, ob 5 [.int hc, .ref rp, .ref rx, .ref ry, .ref rr, .ref rh, .ref rd, g_ph, g_po]), (rp, aI G 16 fp), (rx, aI G 16 fx), (ry, aI G 16 fy), (rr, aI G 16 fr), (rh, aI G 16 fh), (rd, aI G 16 fd), (thought, aI G 8 ft), (search, ob 6 [.int hn, .int np, .int bgq, .ref afr, .ref aup, .ref axx, .ref ayy, .ref asx, .ref asy, .ref asz, .ref apu, .ref abe, .int oz, .int fo, .long lc]), (afr, aI G 16 ffr), (aup, aI G 16 fup), (axx, aJ G 6 fxx), (ayy, aJ G 6 fyy), (asx, aJ G 96 fsx), (asy, aJ G 96 fsy), (asz, aJ G 16 fsz), (apu, aI G 16 fpu), (abe, aI G 16 fbe)]) rfl (by decide) (by decide) ?_
  rintro _ _ ⟨rfl, rfl⟩
  refine Z.at (pc' := 4) (st' := [.int (zb (decide (0 ≤ pi ∧ pi ≤ 1)))]) (ws' := [(x, ob 10 [.ref told, x_reader, .ref ring, x_speeds, x_wheel, x_trials, x_span, .ref search, x_kept, x_crosses, x_trueMasses, .ref thought, x_up, x_low, x_fits, x_pulls]), (told, ob 8 [.ref tn, .int tl]), (tn, aJ G 16 fn), (ring, ob 5 [.int hc, .ref rp, .ref rx, .ref ry, .ref rr, .ref rh, .ref rd, g_ph, g_po]), (rp, aI G 16 fp), (rx, aI G 16 fx), (ry, aI G 16 fy), (rr, aI G 16 fr), (rh, aI G 16 fh), (rd, aI G 16 fd), (thought, aI G 8 ft), (search, ob 6 [.int hn, .int np, .int bgq, .ref afr, .ref aup, .ref axx, .ref ayy, .ref asx, .ref asy, .ref asz, .ref apu, .ref abe, .int oz, .int fo, .long lc]), (afr, aI G 16 ffr), (aup, aI G 16 fup), (axx, aJ G 6 fxx), (ayy, aJ G 6 fyy), (asx, aJ G 96 fsx), (asy, aJ G 96 fsy), (asz, aJ G 16 fsz), (apu, aI G 16 fpu), (abe, aI G 16 fbe)]) (kc' := 0) (ks' := 0) rfl rfl rfl rfl rfl ?_
  refine zi_eq_zb X dr_X10_off_4 (tgt := 17) (by decide) (fun c4_1 => ?_) (fun c4_1 => ?_)
  ·
    refine z_ldc2 X dr_X10_off_17 cn_10_346 ?_
    exact z_lret X rfl dr_X10_off_20 (Nat.le_of_ble_eq_true rfl) (Nat.le_of_ble_eq_true rfl) ⟨((-1) : Int64), (Or.inl ⟨by omega, rfl⟩), rfl⟩
  ·
    refine z_run X br_X10_off_7_9 kr_X10_off_7_9 (lv' := [(0, .ref x), (1, .int pq), (2, .int kq)]) (st' := [.int 1, .int kq]) rfl ?_
    refine zc_lt X dr_X10_off_9 (tgt := 17) (by decide) (a := ki) (b := 1) hkq (show (1 : Int32).toInt = 1 from by decide) (fun c9_2 => ?_) (fun c9_2 => ?_)
    ·
      refine z_ldc2 X dr_X10_off_17 cn_10_346 ?_
      exact z_lret X rfl dr_X10_off_20 (Nat.le_of_ble_eq_true rfl) (Nat.le_of_ble_eq_true rfl) ⟨((-1) : Int64), (Or.inl ⟨by omega, rfl⟩), rfl⟩
    ·
      refine z_run X br_X10_off_12_14 kr_X10_off_12_14 (lv' := [(0, .ref x), (1, .int pq), (2, .int kq)]) (st' := [.int 3, .int kq]) rfl ?_
      refine zc_le X dr_X10_off_14 (tgt := 21) (by decide) (a := ki) (b := 3) hkq (show (3 : Int32).toInt = 3 from by decide) (fun c14_3 => ?_) (fun c14_3 => ?_)
      ·
        refine z_run X br_X10_off_21_23 kr_X10_off_21_23 (lv' := [(0, .ref x), (1, .int pq), (2, .int kq)]) (st' := [.int pq, .ref x]) rfl ?_
        refine z_callV X k_10_357 (cr_X10_startRestSearchS l G x (.ref told) x_reader ring x_speeds x_wheel x_trials x_span search x_kept x_crosses x_trueMasses thought x_up x_low x_fits x_pulls hc rp rx ry rr rh rd g_ph g_po fp fx fy fr fh fd ft hn np afr aup axx ayy asx asy asz apu abe oz fo lc bgq ffr fup fxx fyy fsx fsy fsz fpu fbe pq hci pi hhc hpq (by omega) (by omega)) dr_X10_off_23 0 rfl rfl rfl ⟨Nat.le_of_ble_eq_true rfl, Nat.le_of_ble_eq_true rfl⟩ ⟨Nat.le_of_ble_eq_true rfl, Nat.le_of_ble_eq_true rfl⟩ rfl (rest := []) (As := [.int pq]) rfl (Nat.le_of_ble_eq_true rfl) [0, 3, 4, 5, 6, 7, 8, 9, 10, 11, 12, 13, 14, 15, 16, 17, 18, 19, 20] [1, 2] rfl (by decide) (wr := [(told, ob 8 [.ref tn, .int tl]), (tn, aJ G 16 fn)]) rfl (by decide) (by decide) ?_
        rintro _ _ ⟨fxx2_4, fyy2_5, f23_6, f23_7, rfl, rfl⟩
        refine Z.at (pc' := 26) (st' := []) (ws' := [(told, ob 8 [.ref tn, .int tl]), (tn, aJ G 16 fn), (x, ob 10 [.ref told, x_reader, .ref ring, x_speeds, x_wheel, x_trials, x_span, .ref search, x_kept, x_crosses, x_trueMasses, .ref thought, x_up, x_low, x_fits, x_pulls]), (ring, ob 5 [.int hc, .ref rp, .ref rx, .ref ry, .ref rr, .ref rh, .ref rd, g_ph, g_po]), (rp, aI G 16 fp), (rx, aI G 16 fx), (ry, aI G 16 fy), (rr, aI G 16 fr), (rh, aI G 16 fh), (rd, aI G 16 fd), (thought, aI G 8 ft), (search, ob 6 [.int 0, .int 1, .int 0, .ref afr, .ref aup, .ref axx, .ref ayy, .ref asx, .ref asy, .ref asz, .ref apu, .ref abe, .int oz, .int fo, .long lc]), (afr, aI G 16 ffr), (aup, aI G 16 fup), (axx, aJ G 6 fxx2_4), (ayy, aJ G 6 fyy2_5), (asx, aJ G 96 fsx), (asy, aJ G 96 fsy), (asz, aJ G 16 fsz), (apu, aI G 16 fpu), (abe, aI G 16 fbe)]) (kc' := 0) (ks' := 0) rfl rfl rfl rfl rfl ?_
        have hsx0_ := f23_6
        have hsy0_ := f23_7
        refine z_run X br_X10_off_26_28 kr_X10_off_26_28 (lv' := [(3, .int 0), (0, .ref x), (1, .int pq), (2, .int kq)]) (st' := []) rfl ?_
        refine zloop (σ := Int32 × Int32 × (Nat → Int32) × (Nat → Int32) × (Nat → Int64) × (Nat → Int64) × (Nat → Int64) × (Nat → Int32) × (Nat → Int32)) (fun z => [(3, .int z.1), (0, .ref x), (1, .int pq), (2, .int kq)]) (fun z => []) (fun z => [(told, ob 8 [.ref tn, .int tl]), (tn, aJ G 16 fn), (x, ob 10 [.ref told, x_reader, .ref ring, x_speeds, x_wheel, x_trials, x_span, .ref search, x_kept, x_crosses, x_trueMasses, .ref thought, x_up, x_low, x_fits, x_pulls]), (ring, ob 5 [.int hc, .ref rp, .ref rx, .ref ry, .ref rr, .ref rh, .ref rd, g_ph, g_po]), (rp, aI G 16 fp), (rx, aI G 16 fx), (ry, aI G 16 fy), (rr, aI G 16 fr), (rh, aI G 16 fh), (rd, aI G 16 fd), (thought, aI G 8 ft), (search, ob 6 [.int z.2.1, .int 1, .int 0, .ref afr, .ref aup, .ref axx, .ref ayy, .ref asx, .ref asy, .ref asz, .ref apu, .ref abe, .int oz, .int fo, .long lc]), (afr, aI G 16 z.2.2.1), (aup, aI G 16 z.2.2.2.1), (axx, aJ G 6 fxx2_4), (ayy, aJ G 6 fyy2_5), (asx, aJ G 96 z.2.2.2.2.1), (asy, aJ G 96 z.2.2.2.2.2.1), (asz, aJ G 16 z.2.2.2.2.2.2.1), (apu, aI G 16 z.2.2.2.2.2.2.2.1), (abe, aI G 16 z.2.2.2.2.2.2.2.2)]) (fun z => (0 ≤ z.1.toInt ∧ z.1.toInt ≤ hci) ∧ (0 ≤ z.2.1.toInt ∧ z.2.1.toInt ≤ z.1.toInt) ∧ (EqS z.2.1.toInt ((slC (fun j => (fp j).toInt = pi) z.1.toInt.toNat : Nat) : Int)) ∧ (BLD (fun j => (fp j).toInt = pi) (fun _ => (0 : Int32)) (fun j => fh j + fd j) (fun j => -fx j) (fun j => -fy j) z.1.toInt.toNat z.2.2.1 z.2.2.2.1 z.2.2.2.2.1 z.2.2.2.2.2.1 z.2.2.2.2.2.2.1 z.2.2.2.2.2.2.2.1)) (fun z => (hci - z.1.toInt).toNat) (0, (0 : Int32), ffr, fup, fsx, fsy, fsz, fpu, fbe) ?_ ?_
        ·
          rintro ⟨h_, hn_, gfr, gup, gsx, gsy, gsz, gpu, gbe⟩ ⟨hi, hnb, hN, hB⟩ ih28
          dsimp only at *
          refine z_run X br_X10_off_28_30 kr_X10_off_28_30 (lv' := [(3, .int h_), (0, .ref x), (1, .int pq), (2, .int kq)]) (st' := [.ref x, .int h_]) rfl ?_
          refine z_get X fl_10_26 dr_X10_off_30 2 rfl (v := .ref ring) rfl ?_
          refine z_getN X fl_10_136 dr_X10_off_33 3 rfl (v := .int hc) rfl ?_
          refine zc_ge X dr_X10_off_36 (tgt := 113) (by decide) (a := h_.toInt) (b := hci) rfl hhc (fun c36_8 => ?_) (fun c36_8 => ?_)
          ·
            refine z_run X br_X10_off_113_114 kr_X10_off_113_114 (lv' := [(3, .int h_), (0, .ref x), (1, .int pq), (2, .int kq)]) (st' := [.ref x]) rfl ?_
            refine z_get X fl_10_61 dr_X10_off_114 2 rfl (v := .ref search) rfl ?_
            refine z_run X br_X10_off_117_118 kr_X10_off_117_118 (lv' := [(3, .int h_), (0, .ref x), (1, .int pq), (2, .int kq)]) (st' := [.int kq, .ref search]) rfl ?_
            have eh_ : h_.toInt.toNat = hci.toNat := (by clear hN hB; omega)
            have hB9_ : BLD (fun j => (fp j).toInt = pi) (fun _ => (0 : Int32)) (fun j => fh j + fd j) (fun j => -fx j) (fun j => -fy j) hci.toNat gfr gup gsx gsy gsz gpu := (by rw [← eh_]; exact hB)
            have e9_ : hn_.toInt.toNat = slC (fun j => (fp j).toInt = pi) hci.toNat := (by rw [← eh_]; exact (congrArg Int.toNat (hN : hn_.toInt = _)).trans (Int.toNat_natCast _))
            refine z_callV X k_10_367 (cr_X6_leastOfS l G search hn_ 1 afr aup axx ayy asx asy asz apu abe oz fo lc gfr gup fxx2_4 fyy2_5 gsx gsy gsz gpu gbe kq hn_.toInt 1 ki rfl (show (1 : Int32).toInt = 1 from by decide) hkq (by omega) (by omega) (bdd_1 hsx0_ (hux (by clear hN hB hB9_; omega))) (bdd_1 hsy0_ (huy (by clear hN hB hB9_; omega))) (fun j hj => hB9_.hst hbv j (by rw [← e9_]; exact hj)) (fun j hj => hB9_.hlh hbl j (by rw [← e9_]; exact hj)) (fun j hj => hB9_.hp0 j (by rw [← e9_]; exact hj)) (by omega)) dr_X10_off_118 11 rfl rfl rfl ⟨Nat.le_of_ble_eq_true rfl, Nat.le_of_ble_eq_true rfl⟩ ⟨Nat.le_of_ble_eq_true rfl, Nat.le_of_ble_eq_true rfl⟩ rfl (rest := []) (As := [.int kq]) rfl (Nat.le_of_ble_eq_true rfl) [11, 12, 13, 14, 15, 16, 17, 18, 19, 20] [0, 1, 2, 3, 4, 5, 6, 7, 8, 9, 10] rfl (by decide) (wr := [(told, ob 8 [.ref tn, .int tl]), (tn, aJ G 16 fn), (x, ob 10 [.ref told, x_reader, .ref ring, x_speeds, x_wheel, x_trials, x_span, .ref search, x_kept, x_crosses, x_trueMasses, .ref thought, x_up, x_low, x_fits, x_pulls]), (ring, ob 5 [.int hc, .ref rp, .ref rx, .ref ry, .ref rr, .ref rh, .ref rd, g_ph, g_po]), (rp, aI G 16 fp), (rx, aI G 16 fx), (ry, aI G 16 fy), (rr, aI G 16 fr), (rh, aI G 16 fh), (rd, aI G 16 fd), (thought, aI G 8 ft)]) rfl (by decide) (by decide) ?_
            rintro _ _ ⟨rz_9, fxx2_10, fyy2_11, fpu2_12, fbe2_13, oz2_14, fo2_15, lc2_16, f118_17, rfl, rfl⟩
            refine Z.at (pc' := 121) (st' := [.long rz_9]) (ws' := [(told, ob 8 [.ref tn, .int tl]), (tn, aJ G 16 fn), (x, ob 10 [.ref told, x_reader, .ref ring, x_speeds, x_wheel, x_trials, x_span, .ref search, x_kept, x_crosses, x_trueMasses, .ref thought, x_up, x_low, x_fits, x_pulls]), (ring, ob 5 [.int hc, .ref rp, .ref rx, .ref ry, .ref rr, .ref rh, .ref rd, g_ph, g_po]), (rp, aI G 16 fp), (rx, aI G 16 fx), (ry, aI G 16 fy), (rr, aI G 16 fr), (rh, aI G 16 fh), (rd, aI G 16 fd), (thought, aI G 8 ft), (search, ob 6 [.int hn_, .int 1, .int 0, .ref afr, .ref aup, .ref axx, .ref ayy, .ref asx, .ref asy, .ref asz, .ref apu, .ref abe, .int oz2_14, .int fo2_15, .long lc2_16]), (afr, aI G 16 gfr), (aup, aI G 16 gup), (axx, aJ G 6 fxx2_10), (ayy, aJ G 6 fyy2_11), (asx, aJ G 96 gsx), (asy, aJ G 96 gsy), (asz, aJ G 16 gsz), (apu, aI G 16 fpu2_12), (abe, aI G 16 fbe2_13)]) (kc' := 0) (ks' := 0) rfl rfl rfl rfl rfl ?_
            refine z_run X br_X10_off_121_123 kr_X10_off_121_123 (lv' := [(3, .long rz_9), (0, .ref x), (1, .int pq), (2, .int kq)]) (st' := [.ref x]) rfl ?_
            refine z_callV X k_10_354 (cr_X10_tellSearchedS l G x told x_reader (.ref ring) x_speeds x_wheel x_trials x_span search x_kept x_crosses x_trueMasses (.ref thought) x_up x_low x_fits x_pulls tn tl fn hn_ 1 afr aup axx ayy asx asy asz apu abe oz2_14 fo2_15 lc2_16 fbe2_13 hn_.toInt rfl (by omega)) dr_X10_off_123 2 rfl rfl rfl ⟨Nat.le_of_ble_eq_true rfl, Nat.le_of_ble_eq_true rfl⟩ ⟨Nat.le_of_ble_eq_true rfl, Nat.le_of_ble_eq_true rfl⟩ rfl (rest := []) (As := []) rfl (Nat.le_of_ble_eq_true rfl) [2, 0, 1, 11, 20] [3, 4, 5, 6, 7, 8, 9, 10, 12, 13, 14, 15, 16, 17, 18, 19] rfl (by decide) (wr := [(ring, ob 5 [.int hc, .ref rp, .ref rx, .ref ry, .ref rr, .ref rh, .ref rd, g_ph, g_po]), (rp, aI G 16 fp), (rx, aI G 16 fx), (ry, aI G 16 fy), (rr, aI G 16 fr), (rh, aI G 16 fh), (rd, aI G 16 fd), (thought, aI G 8 ft), (afr, aI G 16 gfr), (aup, aI G 16 gup), (axx, aJ G 6 fxx2_10), (ayy, aJ G 6 fyy2_11), (asx, aJ G 96 gsx), (asy, aJ G 96 gsy), (asz, aJ G 16 gsz), (apu, aI G 16 fpu2_12)]) rfl (by decide) (by decide) ?_
            rintro _ _ ⟨tl2_18, fn2_19, f123_20, rfl, rfl⟩
            refine Z.at (pc' := 126) (st' := []) (ws' := [(ring, ob 5 [.int hc, .ref rp, .ref rx, .ref ry, .ref rr, .ref rh, .ref rd, g_ph, g_po]), (rp, aI G 16 fp), (rx, aI G 16 fx), (ry, aI G 16 fy), (rr, aI G 16 fr), (rh, aI G 16 fh), (rd, aI G 16 fd), (thought, aI G 8 ft), (afr, aI G 16 gfr), (aup, aI G 16 gup), (axx, aJ G 6 fxx2_10), (ayy, aJ G 6 fyy2_11), (asx, aJ G 96 gsx), (asy, aJ G 96 gsy), (asz, aJ G 16 gsz), (apu, aI G 16 fpu2_12), (x, ob 10 [.ref told, x_reader, .ref ring, x_speeds, x_wheel, x_trials, x_span, .ref search, x_kept, x_crosses, x_trueMasses, .ref thought, x_up, x_low, x_fits, x_pulls]), (told, ob 8 [.ref tn, .int tl2_18]), (tn, aJ G 16 fn2_19), (search, ob 6 [.int hn_, .int 1, .int 0, .ref afr, .ref aup, .ref axx, .ref ayy, .ref asx, .ref asy, .ref asz, .ref apu, .ref abe, .int oz2_14, .int fo2_15, .long lc2_16]), (abe, aI G 16 fbe2_13)]) (kc' := 0) (ks' := 0) rfl rfl rfl rfl rfl ?_
            refine z_run X br_X10_off_126_127 kr_X10_off_126_127 (lv' := [(3, .long rz_9), (0, .ref x), (1, .int pq), (2, .int kq)]) (st' := [.long rz_9]) rfl ?_
            exact z_lret X rfl dr_X10_off_127 (Nat.le_of_ble_eq_true rfl) (Nat.le_of_ble_eq_true rfl) ⟨rz_9, (Or.inr ⟨by clear hN hB hB9_; omega, ⟨_, _, _, _, _, _, _, _, hB9_, hsx0_, hsy0_, by rw [← e9_]; exact f118_17⟩⟩), rfl⟩
          ·
            refine z_run X br_X10_off_39_40 kr_X10_off_39_40 (lv' := [(3, .int h_), (0, .ref x), (1, .int pq), (2, .int kq)]) (st' := [.ref x]) rfl ?_
            refine z_get X fl_10_26 dr_X10_off_40 2 rfl (v := .ref ring) rfl ?_
            refine z_getN X fl_10_116 dr_X10_off_43 3 rfl (v := .ref rp) rfl ?_
            refine z_run X br_X10_off_46_47 kr_X10_off_46_47 (lv' := [(3, .int h_), (0, .ref x), (1, .int pq), (2, .int kq)]) (st' := [.int h_, .ref rp]) rfl ?_
            refine z_iald X dr_X10_off_47 4 rfl (vin rfl (by omega) (by omega)) (v := (fp h_.toNatClampNeg)) rfl ?_
            refine z_run X br_X10_off_48_49 kr_X10_off_48_49 (lv' := [(3, .int h_), (0, .ref x), (1, .int pq), (2, .int kq)]) (st' := [.int pq, .int (fp h_.toNatClampNeg)]) rfl ?_
            refine zc_ne X dr_X10_off_49 (tgt := 107) (by decide) (a := (fp h_.toNatClampNeg).toInt) (b := pi) rfl hpq (fun c49_21 => ?_) (fun c49_21 => ?_)
            ·
              refine z_run X br_X10_off_107_110 kr_X10_off_107_110 (lv' := [(3, .int (h_ + 1)), (0, .ref x), (1, .int pq), (2, .int kq)]) (st' := []) rfl ?_
              refine z_goto X dr_X10_off_110 (tgt := 28) (by decide) ?_
              exact ih28 ((h_ + 1), hn_, gfr, gup, gsx, gsy, gsz, gpu, gbe) ⟨(by clear hN hB; (try dsimp only); have e : (h_ + 1).toInt = h_.toInt + 1 := tI_add rfl (show (1 : Int32).toInt = 1 from by decide) (by omega); omega), (by clear hN hB; (try dsimp only); have e : (h_ + 1).toInt = h_.toInt + 1 := tI_add rfl (show (1 : Int32).toInt = 1 from by decide) (by omega); omega), (by (try dsimp only); have e : (h_ + 1).toInt = h_.toInt + 1 := tI_add rfl (show (1 : Int32).toInt = 1 from by decide) (by omega); rw [e, show (h_.toInt + 1).toNat = h_.toInt.toNat + 1 by omega]; rw [slC_n (show ¬ (fun j => (fp j).toInt = pi) h_.toInt.toNat from c49_21)]; exact hN), (by (try dsimp only); have e : (h_ + 1).toInt = h_.toInt + 1 := tI_add rfl (show (1 : Int32).toInt = 1 from by decide) (by omega); rw [e, show (h_.toInt + 1).toNat = h_.toInt.toNat + 1 by omega]; exact hB.no (show ¬ (fun j => (fp j).toInt = pi) h_.toInt.toNat from c49_21))⟩ (by clear hN hB; (try dsimp only); have e : (h_ + 1).toInt = h_.toInt + 1 := tI_add rfl (show (1 : Int32).toInt = 1 from by decide) (by omega); omega)
            ·
              refine z_run X br_X10_off_52_53 kr_X10_off_52_53 (lv' := [(3, .int h_), (0, .ref x), (1, .int pq), (2, .int kq)]) (st' := [.ref x]) rfl ?_
              refine z_get X fl_10_61 dr_X10_off_53 2 rfl (v := .ref search) rfl ?_
              refine z_run X br_X10_off_56_58 kr_X10_off_56_58 (lv' := [(3, .int h_), (0, .ref x), (1, .int pq), (2, .int kq)]) (st' := [.ref x, .int 0, .ref search]) rfl ?_
              refine z_get X fl_10_26 dr_X10_off_58 2 rfl (v := .ref ring) rfl ?_
              refine z_getN X fl_10_128 dr_X10_off_61 3 rfl (v := .ref rh) rfl ?_
              refine z_run X br_X10_off_64_65 kr_X10_off_64_65 (lv' := [(3, .int h_), (0, .ref x), (1, .int pq), (2, .int kq)]) (st' := [.int h_, .ref rh, .int 0, .ref search]) rfl ?_
              refine z_iald X dr_X10_off_65 8 rfl (vin rfl (by omega) (by omega)) (v := (fh h_.toNatClampNeg)) rfl ?_
              refine z_run X br_X10_off_66_67 kr_X10_off_66_67 (lv' := [(3, .int h_), (0, .ref x), (1, .int pq), (2, .int kq)]) (st' := [.ref x, .int (fh h_.toNatClampNeg), .int 0, .ref search]) rfl ?_
              refine z_get X fl_10_26 dr_X10_off_67 2 rfl (v := .ref ring) rfl ?_
              refine z_getN X fl_10_131 dr_X10_off_70 3 rfl (v := .ref rd) rfl ?_
              refine z_run X br_X10_off_73_74 kr_X10_off_73_74 (lv' := [(3, .int h_), (0, .ref x), (1, .int pq), (2, .int kq)]) (st' := [.int h_, .ref rd, .int (fh h_.toNatClampNeg), .int 0, .ref search]) rfl ?_
              refine z_iald X dr_X10_off_74 9 rfl (vin rfl (by omega) (by omega)) (v := (fd h_.toNatClampNeg)) rfl ?_
              refine z_run X br_X10_off_75_76 kr_X10_off_75_76 (lv' := [(3, .int h_), (0, .ref x), (1, .int pq), (2, .int kq)]) (st' := [.int ((fh h_.toNatClampNeg) + (fd h_.toNatClampNeg)), .int 0, .ref search]) rfl ?_
              refine z_callV X k_10_361 (cr_X6_addHoleS l G search hn_ 1 afr aup axx ayy asx asy asz apu abe oz fo lc gfr gup gsz gpu gbe 0 ((fh h_.toNatClampNeg) + (fd h_.toNatClampNeg)) hn_.toInt rfl (by omega)) dr_X10_off_76 11 rfl rfl rfl ⟨Nat.le_of_ble_eq_true rfl, Nat.le_of_ble_eq_true rfl⟩ ⟨Nat.le_of_ble_eq_true rfl, Nat.le_of_ble_eq_true rfl⟩ rfl (rest := []) (As := [.int 0, .int ((fh h_.toNatClampNeg) + (fd h_.toNatClampNeg))]) rfl (Nat.le_of_ble_eq_true rfl) [11, 12, 13, 18, 19, 20] [0, 1, 2, 3, 4, 5, 6, 7, 8, 9, 10, 14, 15, 16, 17] rfl (by decide) (wr := [(told, ob 8 [.ref tn, .int tl]), (tn, aJ G 16 fn), (x, ob 10 [.ref told, x_reader, .ref ring, x_speeds, x_wheel, x_trials, x_span, .ref search, x_kept, x_crosses, x_trueMasses, .ref thought, x_up, x_low, x_fits, x_pulls]), (ring, ob 5 [.int hc, .ref rp, .ref rx, .ref ry, .ref rr, .ref rh, .ref rd, g_ph, g_po]), (rp, aI G 16 fp), (rx, aI G 16 fx), (ry, aI G 16 fy), (rr, aI G 16 fr), (rh, aI G 16 fh), (rd, aI G 16 fd), (thought, aI G 8 ft), (axx, aJ G 6 fxx2_4), (ayy, aJ G 6 fyy2_5), (asx, aJ G 96 gsx), (asy, aJ G 96 gsy)]) rfl (by decide) (by decide) ?_
              rintro _ _ ⟨rfl, rfl⟩
              refine Z.at (pc' := 79) (st' := []) (ws' := [(told, ob 8 [.ref tn, .int tl]), (tn, aJ G 16 fn), (x, ob 10 [.ref told, x_reader, .ref ring, x_speeds, x_wheel, x_trials, x_span, .ref search, x_kept, x_crosses, x_trueMasses, .ref thought, x_up, x_low, x_fits, x_pulls]), (ring, ob 5 [.int hc, .ref rp, .ref rx, .ref ry, .ref rr, .ref rh, .ref rd, g_ph, g_po]), (rp, aI G 16 fp), (rx, aI G 16 fx), (ry, aI G 16 fy), (rr, aI G 16 fr), (rh, aI G 16 fh), (rd, aI G 16 fd), (thought, aI G 8 ft), (axx, aJ G 6 fxx2_4), (ayy, aJ G 6 fyy2_5), (asx, aJ G 96 gsx), (asy, aJ G 96 gsy), (search, ob 6 [.int (hn_ + 1), .int 1, .int 0, .ref afr, .ref aup, .ref axx, .ref ayy, .ref asx, .ref asy, .ref asz, .ref apu, .ref abe, .int oz, .int fo, .long lc]), (afr, aI G 16 (upd gfr hn_.toNatClampNeg 0)), (aup, aI G 16 (upd gup hn_.toNatClampNeg ((fh h_.toNatClampNeg) + (fd h_.toNatClampNeg)))), (asz, aJ G 16 (vp_updL gsz hn_.toNatClampNeg 0)), (apu, aI G 16 (upd gpu hn_.toNatClampNeg 0)), (abe, aI G 16 (upd gbe hn_.toNatClampNeg 0))]) (kc' := 0) (ks' := 0) rfl rfl rfl rfl rfl ?_
              refine z_run X br_X10_off_79_80 kr_X10_off_79_80 (lv' := [(3, .int h_), (0, .ref x), (1, .int pq), (2, .int kq)]) (st' := [.ref x]) rfl ?_
              refine z_get X fl_10_61 dr_X10_off_80 2 rfl (v := .ref search) rfl ?_
              refine z_run X br_X10_off_83_85 kr_X10_off_83_85 (lv' := [(3, .int h_), (0, .ref x), (1, .int pq), (2, .int kq)]) (st' := [.ref x, .int 0, .ref search]) rfl ?_
              refine z_get X fl_10_26 dr_X10_off_85 2 rfl (v := .ref ring) rfl ?_
              refine z_getN X fl_10_119 dr_X10_off_88 3 rfl (v := .ref rx) rfl ?_
              refine z_run X br_X10_off_91_92 kr_X10_off_91_92 (lv' := [(3, .int h_), (0, .ref x), (1, .int pq), (2, .int kq)]) (st' := [.int h_, .ref rx, .int 0, .ref search]) rfl ?_
              refine z_iald X dr_X10_off_92 5 rfl (vin rfl (by omega) (by omega)) (v := (fx h_.toNatClampNeg)) rfl ?_
              refine z_run X br_X10_off_93_95 kr_X10_off_93_95 (lv' := [(3, .int h_), (0, .ref x), (1, .int pq), (2, .int kq)]) (st' := [.ref x, .int (-(fx h_.toNatClampNeg)), .int 0, .ref search]) rfl ?_
              refine z_get X fl_10_26 dr_X10_off_95 2 rfl (v := .ref ring) rfl ?_
              refine z_getN X fl_10_122 dr_X10_off_98 3 rfl (v := .ref ry) rfl ?_
              refine z_run X br_X10_off_101_102 kr_X10_off_101_102 (lv' := [(3, .int h_), (0, .ref x), (1, .int pq), (2, .int kq)]) (st' := [.int h_, .ref ry, .int (-(fx h_.toNatClampNeg)), .int 0, .ref search]) rfl ?_
              refine z_iald X dr_X10_off_102 6 rfl (vin rfl (by omega) (by omega)) (v := (fy h_.toNatClampNeg)) rfl ?_
              refine z_run X br_X10_off_103_104 kr_X10_off_103_104 (lv' := [(3, .int h_), (0, .ref x), (1, .int pq), (2, .int kq)]) (st' := [.int (-(fy h_.toNatClampNeg)), .int (-(fx h_.toNatClampNeg)), .int 0, .ref search]) rfl ?_
              refine z_callV X k_10_364 (cr_X6_addStepS l G search (hn_ + 1) afr aup axx ayy asx asy asz apu abe oz fo lc gsx gsy (vp_updL gsz hn_.toNatClampNeg 0) (-(fx h_.toNatClampNeg)) (-(fy h_.toNatClampNeg)) ((hn_.toInt + 1)) (tI_add rfl (show (1 : Int32).toInt = 1 from by decide) (by omega)) (by omega)) dr_X10_off_104 15 rfl rfl rfl ⟨Nat.le_of_ble_eq_true rfl, Nat.le_of_ble_eq_true rfl⟩ ⟨Nat.le_of_ble_eq_true rfl, Nat.le_of_ble_eq_true rfl⟩ rfl (rest := []) (As := [.int 0, .int (-(fx h_.toNatClampNeg)), .int (-(fy h_.toNatClampNeg))]) rfl (Nat.le_of_ble_eq_true rfl) [15, 13, 14, 18] [0, 1, 2, 3, 4, 5, 6, 7, 8, 9, 10, 11, 12, 16, 17, 19, 20] rfl (by decide) (wr := [(told, ob 8 [.ref tn, .int tl]), (tn, aJ G 16 fn), (x, ob 10 [.ref told, x_reader, .ref ring, x_speeds, x_wheel, x_trials, x_span, .ref search, x_kept, x_crosses, x_trueMasses, .ref thought, x_up, x_low, x_fits, x_pulls]), (ring, ob 5 [.int hc, .ref rp, .ref rx, .ref ry, .ref rr, .ref rh, .ref rd, g_ph, g_po]), (rp, aI G 16 fp), (rx, aI G 16 fx), (ry, aI G 16 fy), (rr, aI G 16 fr), (rh, aI G 16 fh), (rd, aI G 16 fd), (thought, aI G 8 ft), (axx, aJ G 6 fxx2_4), (ayy, aJ G 6 fyy2_5), (afr, aI G 16 (upd gfr hn_.toNatClampNeg 0)), (aup, aI G 16 (upd gup hn_.toNatClampNeg ((fh h_.toNatClampNeg) + (fd h_.toNatClampNeg)))), (apu, aI G 16 (upd gpu hn_.toNatClampNeg 0)), (abe, aI G 16 (upd gbe hn_.toNatClampNeg 0))]) rfl (by decide) (by decide) ?_
              rintro _ _ ⟨fsx2_22, fsy2_23, fsz2_24, f104_25, f104_26, f104_27, rfl, rfl⟩
              refine Z.at (pc' := 107) (st' := []) (ws' := [(told, ob 8 [.ref tn, .int tl]), (tn, aJ G 16 fn), (x, ob 10 [.ref told, x_reader, .ref ring, x_speeds, x_wheel, x_trials, x_span, .ref search, x_kept, x_crosses, x_trueMasses, .ref thought, x_up, x_low, x_fits, x_pulls]), (ring, ob 5 [.int hc, .ref rp, .ref rx, .ref ry, .ref rr, .ref rh, .ref rd, g_ph, g_po]), (rp, aI G 16 fp), (rx, aI G 16 fx), (ry, aI G 16 fy), (rr, aI G 16 fr), (rh, aI G 16 fh), (rd, aI G 16 fd), (thought, aI G 8 ft), (axx, aJ G 6 fxx2_4), (ayy, aJ G 6 fyy2_5), (afr, aI G 16 (upd gfr hn_.toNatClampNeg 0)), (aup, aI G 16 (upd gup hn_.toNatClampNeg ((fh h_.toNatClampNeg) + (fd h_.toNatClampNeg)))), (apu, aI G 16 (upd gpu hn_.toNatClampNeg 0)), (abe, aI G 16 (upd gbe hn_.toNatClampNeg 0)), (search, ob 6 [.int (hn_ + 1), .int 1, .int 0, .ref afr, .ref aup, .ref axx, .ref ayy, .ref asx, .ref asy, .ref asz, .ref apu, .ref abe, .int oz, .int fo, .long lc]), (asx, aJ G 96 fsx2_22), (asy, aJ G 96 fsy2_23), (asz, aJ G 16 fsz2_24)]) (kc' := 0) (ks' := 0) rfl rfl rfl rfl rfl ?_
              refine z_run X br_X10_off_107_110 kr_X10_off_107_110 (lv' := [(3, .int (h_ + 1)), (0, .ref x), (1, .int pq), (2, .int kq)]) (st' := []) rfl ?_
              refine z_goto X dr_X10_off_110 (tgt := 28) (by decide) ?_
              refine Z.sub (lv' := [(3, .int (h_ + 1)), (0, .ref x), (1, .int pq), (2, .int kq)]) [0, 1, 2, 3] rfl [0, 1, 2, 3, 4, 5, 6, 7, 8, 9, 10, 17, 13, 14, 11, 12, 18, 19, 20, 15, 16] (ws' := [(told, ob 8 [.ref tn, .int tl]), (tn, aJ G 16 fn), (x, ob 10 [.ref told, x_reader, .ref ring, x_speeds, x_wheel, x_trials, x_span, .ref search, x_kept, x_crosses, x_trueMasses, .ref thought, x_up, x_low, x_fits, x_pulls]), (ring, ob 5 [.int hc, .ref rp, .ref rx, .ref ry, .ref rr, .ref rh, .ref rd, g_ph, g_po]), (rp, aI G 16 fp), (rx, aI G 16 fx), (ry, aI G 16 fy), (rr, aI G 16 fr), (rh, aI G 16 fh), (rd, aI G 16 fd), (thought, aI G 8 ft), (search, ob 6 [.int (hn_ + 1), .int 1, .int 0, .ref afr, .ref aup, .ref axx, .ref ayy, .ref asx, .ref asy, .ref asz, .ref apu, .ref abe, .int oz, .int fo, .long lc]), (afr, aI G 16 (upd gfr hn_.toNatClampNeg 0)), (aup, aI G 16 (upd gup hn_.toNatClampNeg ((fh h_.toNatClampNeg) + (fd h_.toNatClampNeg)))), (axx, aJ G 6 fxx2_4), (ayy, aJ G 6 fyy2_5), (asx, aJ G 96 fsx2_22), (asy, aJ G 96 fsy2_23), (asz, aJ G 16 fsz2_24), (apu, aI G 16 (upd gpu hn_.toNatClampNeg 0)), (abe, aI G 16 (upd gbe hn_.toNatClampNeg 0))]) rfl (by decide) ?_
              exact ih28 ((h_ + 1), (hn_ + 1), (upd gfr hn_.toNatClampNeg 0), (upd gup hn_.toNatClampNeg ((fh h_.toNatClampNeg) + (fd h_.toNatClampNeg))), fsx2_22, fsy2_23, fsz2_24, (upd gpu hn_.toNatClampNeg 0), (upd gbe hn_.toNatClampNeg 0)) ⟨(by clear hN hB; (try dsimp only); have e : (h_ + 1).toInt = h_.toInt + 1 := tI_add rfl (show (1 : Int32).toInt = 1 from by decide) (by omega); omega), (by clear hN hB; (try dsimp only); have e : (h_ + 1).toInt = h_.toInt + 1 := tI_add rfl (show (1 : Int32).toInt = 1 from by decide) (by omega); have e1 : (hn_ + 1).toInt = hn_.toInt + 1 := tI_add rfl (show (1 : Int32).toInt = 1 from by decide) (by omega); omega), (by (try dsimp only); have e : (h_ + 1).toInt = h_.toInt + 1 := tI_add rfl (show (1 : Int32).toInt = 1 from by decide) (by omega); rw [e, show (h_.toInt + 1).toNat = h_.toInt.toNat + 1 by omega]; rw [slC_y (show (fun j => (fp j).toInt = pi) h_.toInt.toNat from c49_21)]; exact (tI_add (hN : hn_.toInt = _) (show (1 : Int32).toInt = 1 from by decide) (by have z := slC_le (P := (fun j => (fp j).toInt = pi)) (n := h_.toInt.toNat); generalize slC (fun j => (fp j).toInt = pi) h_.toInt.toNat = q_ at z; clear hN hB; omega)).trans (by rw [Int.natCast_add]; rfl)), (by (try dsimp only); have e : (h_ + 1).toInt = h_.toInt + 1 := tI_add rfl (show (1 : Int32).toInt = 1 from by decide) (by omega); rw [e, show (h_.toInt + 1).toNat = h_.toInt.toNat + 1 by omega]; rw [f104_25, f104_26, f104_27, show ((hn_ + 1) - 1 : Int32) = hn_ by grind, updL_at, i64_0a]; exact hB.yes (show (fun j => (fp j).toInt = pi) h_.toInt.toNat from c49_21) (show hn_.toNatClampNeg = slC (fun j => (fp j).toInt = pi) h_.toInt.toNat from (congrArg Int.toNat (hN : hn_.toInt = _)).trans (Int.toNat_natCast _)) (show hn_.toNatClampNeg = slC (fun j => (fp j).toInt = pi) h_.toInt.toNat from (congrArg Int.toNat (hN : hn_.toInt = _)).trans (Int.toNat_natCast _)) rfl rfl rfl rfl rfl)⟩ (by clear hN hB; (try dsimp only); have e : (h_ + 1).toInt = h_.toInt + 1 := tI_add rfl (show (1 : Int32).toInt = 1 from by decide) (by omega); omega)
        · exact ⟨(by (try dsimp only); have e0 : (0 : Int32).toInt = 0 := (by decide); omega), (by (try dsimp only); have e0 : (0 : Int32).toInt = 0 := (by decide); omega), (by (try dsimp only); have e0 : (0 : Int32).toInt = 0 := (by decide); rw [e0]; exact (show (0 : Int32).toInt = 0 from by decide)), (by (try dsimp only); have e0 : (0 : Int32).toInt = 0 := (by decide); rw [e0]; exact BLD.zero)⟩
      ·
        refine z_ldc2 X dr_X10_off_17 cn_10_346 ?_
        exact z_lret X rfl dr_X10_off_20 (Nat.le_of_ble_eq_true rfl) (Nat.le_of_ble_eq_true rfl) ⟨((-1) : Int64), (Or.inl ⟨by omega, rfl⟩), rfl⟩

theorem dr_X10_instead_1 : decode cX10_instead 1 = .ok (.invokestatic 156, 3) := by decide +kernel
theorem dr_X10_instead_4 : decode cX10_instead 4 = .ok (.ifCond .eq 13, 3) := by decide +kernel
theorem dr_X10_instead_17 : decode cX10_instead 17 = .ok (.ldc2_w 346, 3) := by decide +kernel
theorem dr_X10_instead_20 : decode cX10_instead 20 = .ok (.lreturn, 1) := by decide +kernel
theorem dr_X10_instead_9 : decode cX10_instead 9 = .ok (.if_icmp .lt 8, 3) := by decide +kernel
theorem dr_X10_instead_14 : decode cX10_instead 14 = .ok (.if_icmp .le 7, 3) := by decide +kernel
theorem dr_X10_instead_23 : decode cX10_instead 23 = .ok (.invokevirtual 357, 3) := by decide +kernel
theorem dr_X10_instead_30 : decode cX10_instead 30 = .ok (.getfield 26, 3) := by decide +kernel
theorem dr_X10_instead_33 : decode cX10_instead 33 = .ok (.getfield 136, 3) := by decide +kernel
theorem dr_X10_instead_36 : decode cX10_instead 36 = .ok (.if_icmp .ge 83, 3) := by decide +kernel
theorem dr_X10_instead_120 : decode cX10_instead 120 = .ok (.getfield 61, 3) := by decide +kernel
theorem dr_X10_instead_124 : decode cX10_instead 124 = .ok (.invokevirtual 367, 3) := by decide +kernel
theorem dr_X10_instead_129 : decode cX10_instead 129 = .ok (.invokevirtual 354, 3) := by decide +kernel
theorem dr_X10_instead_133 : decode cX10_instead 133 = .ok (.lreturn, 1) := by decide +kernel
theorem dr_X10_instead_40 : decode cX10_instead 40 = .ok (.getfield 26, 3) := by decide +kernel
theorem dr_X10_instead_43 : decode cX10_instead 43 = .ok (.getfield 116, 3) := by decide +kernel
theorem dr_X10_instead_47 : decode cX10_instead 47 = .ok (.iaload, 1) := by decide +kernel
theorem dr_X10_instead_49 : decode cX10_instead 49 = .ok (.if_icmp .ne 64, 3) := by decide +kernel
theorem dr_X10_instead_116 : decode cX10_instead 116 = .ok (.goto (-88), 3) := by decide +kernel
theorem dr_X10_instead_53 : decode cX10_instead 53 = .ok (.getfield 61, 3) := by decide +kernel
theorem dr_X10_instead_57 : decode cX10_instead 57 = .ok (.getfield 26, 3) := by decide +kernel
theorem dr_X10_instead_60 : decode cX10_instead 60 = .ok (.getfield 128, 3) := by decide +kernel
theorem dr_X10_instead_64 : decode cX10_instead 64 = .ok (.iaload, 1) := by decide +kernel
theorem dr_X10_instead_67 : decode cX10_instead 67 = .ok (.getfield 26, 3) := by decide +kernel
theorem dr_X10_instead_70 : decode cX10_instead 70 = .ok (.getfield 131, 3) := by decide +kernel
theorem dr_X10_instead_74 : decode cX10_instead 74 = .ok (.iaload, 1) := by decide +kernel
theorem dr_X10_instead_77 : decode cX10_instead 77 = .ok (.getfield 26, 3) := by decide +kernel
theorem dr_X10_instead_81 : decode cX10_instead 81 = .ok (.invokevirtual 371, 3) := by decide +kernel
theorem dr_X10_instead_84 : decode cX10_instead 84 = .ok (.invokevirtual 361, 3) := by decide +kernel
theorem dr_X10_instead_88 : decode cX10_instead 88 = .ok (.getfield 61, 3) := by decide +kernel
theorem dr_X10_instead_93 : decode cX10_instead 93 = .ok (.getfield 26, 3) := by decide +kernel
theorem dr_X10_instead_96 : decode cX10_instead 96 = .ok (.getfield 119, 3) := by decide +kernel
theorem dr_X10_instead_100 : decode cX10_instead 100 = .ok (.iaload, 1) := by decide +kernel
theorem dr_X10_instead_102 : decode cX10_instead 102 = .ok (.getfield 26, 3) := by decide +kernel
theorem dr_X10_instead_105 : decode cX10_instead 105 = .ok (.getfield 122, 3) := by decide +kernel
theorem dr_X10_instead_109 : decode cX10_instead 109 = .ok (.iaload, 1) := by decide +kernel
theorem dr_X10_instead_110 : decode cX10_instead 110 = .ok (.invokevirtual 364, 3) := by decide +kernel
abbrev br_X10_instead_0_1 : ZB := [(.iload_n 1, .null)]
theorem kr_X10_instead_0_1 : zchk cX10_instead br_X10_instead_0_1 0 = true ∧ zpc br_X10_instead_0_1 0 = 1 := ⟨by decide +kernel, rfl⟩
abbrev br_X10_instead_7_9 : ZB := [(.iload_n 2, .null), (.iconst 1, .int 1)]
theorem kr_X10_instead_7_9 : zchk cX10_instead br_X10_instead_7_9 7 = true ∧ zpc br_X10_instead_7_9 7 = 9 := ⟨by decide +kernel, rfl⟩
abbrev br_X10_instead_12_14 : ZB := [(.iload_n 2, .null), (.iconst 2, .int 2)]
theorem kr_X10_instead_12_14 : zchk cX10_instead br_X10_instead_12_14 12 = true ∧ zpc br_X10_instead_12_14 12 = 14 := ⟨by decide +kernel, rfl⟩
abbrev br_X10_instead_21_23 : ZB := [(.aload_n 0, .null), (.iload_n 1, .null)]
theorem kr_X10_instead_21_23 : zchk cX10_instead br_X10_instead_21_23 21 = true ∧ zpc br_X10_instead_21_23 21 = 23 := ⟨by decide +kernel, rfl⟩
abbrev br_X10_instead_26_28 : ZB := [(.iconst 0, .int 0), (.istore_n 3, .null)]
theorem kr_X10_instead_26_28 : zchk cX10_instead br_X10_instead_26_28 26 = true ∧ zpc br_X10_instead_26_28 26 = 28 := ⟨by decide +kernel, rfl⟩
abbrev br_X10_instead_28_30 : ZB := [(.iload_n 3, .null), (.aload_n 0, .null)]
theorem kr_X10_instead_28_30 : zchk cX10_instead br_X10_instead_28_30 28 = true ∧ zpc br_X10_instead_28_30 28 = 30 := ⟨by decide +kernel, rfl⟩
abbrev br_X10_instead_119_120 : ZB := [(.aload_n 0, .null)]
theorem kr_X10_instead_119_120 : zchk cX10_instead br_X10_instead_119_120 119 = true ∧ zpc br_X10_instead_119_120 119 = 120 := ⟨by decide +kernel, rfl⟩
abbrev br_X10_instead_123_124 : ZB := [(.iload_n 2, .null)]
theorem kr_X10_instead_123_124 : zchk cX10_instead br_X10_instead_123_124 123 = true ∧ zpc br_X10_instead_123_124 123 = 124 := ⟨by decide +kernel, rfl⟩
abbrev br_X10_instead_127_129 : ZB := [(.lstore_n 3, .null), (.aload_n 0, .null)]
theorem kr_X10_instead_127_129 : zchk cX10_instead br_X10_instead_127_129 127 = true ∧ zpc br_X10_instead_127_129 127 = 129 := ⟨by decide +kernel, rfl⟩
abbrev br_X10_instead_132_133 : ZB := [(.lload_n 3, .null)]
theorem kr_X10_instead_132_133 : zchk cX10_instead br_X10_instead_132_133 132 = true ∧ zpc br_X10_instead_132_133 132 = 133 := ⟨by decide +kernel, rfl⟩
abbrev br_X10_instead_39_40 : ZB := [(.aload_n 0, .null)]
theorem kr_X10_instead_39_40 : zchk cX10_instead br_X10_instead_39_40 39 = true ∧ zpc br_X10_instead_39_40 39 = 40 := ⟨by decide +kernel, rfl⟩
abbrev br_X10_instead_46_47 : ZB := [(.iload_n 3, .null)]
theorem kr_X10_instead_46_47 : zchk cX10_instead br_X10_instead_46_47 46 = true ∧ zpc br_X10_instead_46_47 46 = 47 := ⟨by decide +kernel, rfl⟩
abbrev br_X10_instead_48_49 : ZB := [(.iload_n 1, .null)]
theorem kr_X10_instead_48_49 : zchk cX10_instead br_X10_instead_48_49 48 = true ∧ zpc br_X10_instead_48_49 48 = 49 := ⟨by decide +kernel, rfl⟩
abbrev br_X10_instead_113_116 : ZB := [(.iinc 3 1, .int 1)]
theorem kr_X10_instead_113_116 : zchk cX10_instead br_X10_instead_113_116 113 = true ∧ zpc br_X10_instead_113_116 113 = 116 := ⟨by decide +kernel, rfl⟩
abbrev br_X10_instead_52_53 : ZB := [(.aload_n 0, .null)]
theorem kr_X10_instead_52_53 : zchk cX10_instead br_X10_instead_52_53 52 = true ∧ zpc br_X10_instead_52_53 52 = 53 := ⟨by decide +kernel, rfl⟩
abbrev br_X10_instead_56_57 : ZB := [(.aload_n 0, .null)]
theorem kr_X10_instead_56_57 : zchk cX10_instead br_X10_instead_56_57 56 = true ∧ zpc br_X10_instead_56_57 56 = 57 := ⟨by decide +kernel, rfl⟩
abbrev br_X10_instead_63_64 : ZB := [(.iload_n 3, .null)]
theorem kr_X10_instead_63_64 : zchk cX10_instead br_X10_instead_63_64 63 = true ∧ zpc br_X10_instead_63_64 63 = 64 := ⟨by decide +kernel, rfl⟩
abbrev br_X10_instead_65_67 : ZB := [(.ineg, .null), (.aload_n 0, .null)]
theorem kr_X10_instead_65_67 : zchk cX10_instead br_X10_instead_65_67 65 = true ∧ zpc br_X10_instead_65_67 65 = 67 := ⟨by decide +kernel, rfl⟩
abbrev br_X10_instead_73_74 : ZB := [(.iload_n 3, .null)]
theorem kr_X10_instead_73_74 : zchk cX10_instead br_X10_instead_73_74 73 = true ∧ zpc br_X10_instead_73_74 73 = 74 := ⟨by decide +kernel, rfl⟩
abbrev br_X10_instead_75_77 : ZB := [(.isub, .null), (.aload_n 0, .null)]
theorem kr_X10_instead_75_77 : zchk cX10_instead br_X10_instead_75_77 75 = true ∧ zpc br_X10_instead_75_77 75 = 77 := ⟨by decide +kernel, rfl⟩
abbrev br_X10_instead_80_81 : ZB := [(.iload_n 3, .null)]
theorem kr_X10_instead_80_81 : zchk cX10_instead br_X10_instead_80_81 80 = true ∧ zpc br_X10_instead_80_81 80 = 81 := ⟨by decide +kernel, rfl⟩
abbrev br_X10_instead_87_88 : ZB := [(.aload_n 0, .null)]
theorem kr_X10_instead_87_88 : zchk cX10_instead br_X10_instead_87_88 87 = true ∧ zpc br_X10_instead_87_88 87 = 88 := ⟨by decide +kernel, rfl⟩
abbrev br_X10_instead_91_93 : ZB := [(.iconst 0, .int 0), (.aload_n 0, .null)]
theorem kr_X10_instead_91_93 : zchk cX10_instead br_X10_instead_91_93 91 = true ∧ zpc br_X10_instead_91_93 91 = 93 := ⟨by decide +kernel, rfl⟩
abbrev br_X10_instead_99_100 : ZB := [(.iload_n 3, .null)]
theorem kr_X10_instead_99_100 : zchk cX10_instead br_X10_instead_99_100 99 = true ∧ zpc br_X10_instead_99_100 99 = 100 := ⟨by decide +kernel, rfl⟩
abbrev br_X10_instead_101_102 : ZB := [(.aload_n 0, .null)]
theorem kr_X10_instead_101_102 : zchk cX10_instead br_X10_instead_101_102 101 = true ∧ zpc br_X10_instead_101_102 101 = 102 := ⟨by decide +kernel, rfl⟩
abbrev br_X10_instead_108_109 : ZB := [(.iload_n 3, .null)]
theorem kr_X10_instead_108_109 : zchk cX10_instead br_X10_instead_108_109 108 = true ∧ zpc br_X10_instead_108_109 108 = 109 := ⟨by decide +kernel, rfl⟩
set_option maxHeartbeats 4000000 in
set_option maxRecDepth 100000 in
theorem cr_X10_insteadS (l : Launch) (G : KG) (x : Nat) (told : Nat) (x_reader : Value) (ring : Nat) (x_speeds : Value) (x_wheel : Value) (x_trials : Value) (x_span : Value) (search : Nat) (x_kept : Value) (x_crosses : Value) (x_trueMasses : Value) (thought : Nat) (x_up : Value) (x_low : Value) (x_fits : Value) (x_pulls : Value) (tn : Nat) (tl : Int32) (fn : Nat → Int64) (hc : Int32) (rp : Nat) (rx : Nat) (ry : Nat) (rr : Nat) (rh : Nat) (rd : Nat) (g_ph : Value) (g_po : Value) (fp : Nat → Int32) (fx : Nat → Int32) (fy : Nat → Int32) (fr : Nat → Int32) (fh : Nat → Int32) (fd : Nat → Int32) (ft : Nat → Int32) (hn : Int32) (np : Int32) (afr : Nat) (aup : Nat) (axx : Nat) (ayy : Nat) (asx : Nat) (asy : Nat) (asz : Nat) (apu : Nat) (abe : Nat) (oz : Int32) (fo : Int32) (lc : Int64) (bgq : Int32) (ffr : Nat → Int32) (fup : Nat → Int32) (fxx : Nat → Int64) (fyy : Nat → Int64) (fsx : Nat → Int64) (fsy : Nat → Int64) (fsz : Nat → Int64) (fpu : Nat → Int32) (fbe : Nat → Int32) (pq : Int32) (kq : Int32) (hci : Int) (pi : Int) (ki : Int) (hhc : hc.toInt = hci) (hpq : pq.toInt = pi) (hkq : kq.toInt = ki) (hc0 : 0 ≤ hci ∧ hci ≤ 16) (hbv : ∀ j, j < hci.toNat → (-99 ≤ (fx j).toInt ∧ (fx j).toInt ≤ 99) ∧ -99 ≤ (fy j).toInt ∧ (fy j).toInt ≤ 99) (hbl : ∀ j, j < hci.toNat → (-200 ≤ ((fun j => -fh j - fd j) j).toInt ∧ ((fun j => -fh j - fd j) j).toInt ≤ 0) ∧ 0 ≤ ((fun j => fr j - fh j) j).toInt ∧ ((fun j => fr j - fh j) j).toInt ≤ 200) (hux : 0 ≤ pi ∧ pi ≤ 1 → -94000000 ≤ (ft (2 * pq + 0).toNatClampNeg + lw fp fh (axs 0 fx fy) pi hci.toNat).toInt ∧ (ft (2 * pq + 0).toNatClampNeg + lw fp fh (axs 0 fx fy) pi hci.toNat).toInt ≤ 94000000) (huy : 0 ≤ pi ∧ pi ≤ 1 → -94000000 ≤ (ft (2 * pq + 1).toNatClampNeg + lw fp fh (axs 1 fx fy) pi hci.toNat).toInt ∧ (ft (2 * pq + 1).toNatClampNeg + lw fp fh (axs 1 fx fy) pi hci.toNat).toInt ≤ 94000000) : Ct l G yX10_instead cX10_instead 5 (some .long) { frames := 21, cells := 0, slots := 0, locals := 507 } [.ref x, .int pq, .int kq] [(x, ob 10 [.ref told, x_reader, .ref ring, x_speeds, x_wheel, x_trials, x_span, .ref search, x_kept, x_crosses, x_trueMasses, .ref thought, x_up, x_low, x_fits, x_pulls]), (told, ob 8 [.ref tn, .int tl]), (tn, aJ G 16 fn), (ring, ob 5 [.int hc, .ref rp, .ref rx, .ref ry, .ref rr, .ref rh, .ref rd, g_ph, g_po]), (rp, aI G 16 fp), (rx, aI G 16 fx), (ry, aI G 16 fy), (rr, aI G 16 fr), (rh, aI G 16 fh), (rd, aI G 16 fd), (thought, aI G 8 ft), (search, ob 6 [.int hn, .int np, .int bgq, .ref afr, .ref aup, .ref axx, .ref ayy, .ref asx, .ref asy, .ref asz, .ref apu, .ref abe, .int oz, .int fo, .long lc]), (afr, aI G 16 ffr), (aup, aI G 16 fup), (axx, aJ G 6 fxx), (ayy, aJ G 6 fyy), (asx, aJ G 96 fsx), (asy, aJ G 96 fsy), (asz, aJ G 16 fsz), (apu, aI G 16 fpu), (abe, aI G 16 fbe)] (fun r _ => ∃ (rz : Int64), (SrE ((0 ≤ pi ∧ pi ≤ 1) ∧ 1 ≤ ki ∧ ki ≤ 2) (SrX (fun j => (fp j).toInt = pi) (fun j => -fh j - fd j) (fun j => fr j - fh j) fx fy hci.toNat (ft (2 * pq + 0).toNatClampNeg + lw fp fh (axs 0 fx fy) pi hci.toNat).toInt64 (ft (2 * pq + 1).toNatClampNeg + lw fp fh (axs 1 fx fy) pi hci.toNat).toInt64 ki rz) rz) ∧ r = some (.long rz)) := by
  refine ct_of [(0, .ref x), (1, .int pq), (2, .int kq)] (by decide) (Nat.le_of_ble_eq_true rfl) rfl ?_
  intro p0 e0 s0 m0 args0 below0 meth0 c0 A X
  refine z_run X br_X10_instead_0_1 kr_X10_instead_0_1 (lv' := [(0, .ref x), (1, .int pq), (2, .int kq)]) (st' := [.int pq]) rfl ?_
  refine z_callS X k_10_156 (cr_X10_isOneOfTwoS l G pq pi hpq) dr_X10_instead_1 ⟨Nat.le_of_ble_eq_true rfl, Nat.le_of_ble_eq_true rfl⟩ ⟨Nat.le_of_ble_eq_true rfl, Nat.le_of_ble_eq_true rfl⟩ rfl (rest := []) (As := [.int pq]) rfl (Nat.le_of_ble_eq_true rfl) [] [0, 1, 2, 3, 4, 5, 6, 7, 8, 9, 10, 11, 12, 13, 14, 15, 16, 17, 18, 19, 20] rfl (by decide) (wr := [(x, ob 10 [.ref told, x_reader, .ref ring, x_speeds, x_wheel, x_trials, x_span, .ref search, x_kept, x_crosses, x_trueMasses, .ref thought, x_up, x_low, x_fits, x_pulls]), (told, ob 8 [.ref tn, .int tl]), (tn, aJ G 16 fn), (ring, ob 5 [.int hc, .ref rp, .ref rx, .ref ry, .ref rr, .ref rh, .ref rd, g_ph, g_po]), (rp, aI G 16 fp), (rx, aI G 16 fx), (ry, aI G 16 fy), (rr, aI G 16 fr), (rh, aI G 16 fh), (rd, aI G 16 fd), (thought, aI G 8 ft), (search, ob 6 [.int hn, .int np, .int bgq, .ref afr, .ref aup, .ref axx, .ref ayy, .ref asx, .ref asy, .ref asz, .ref apu, .ref abe, .int oz, .int fo, .long lc]), (afr, aI G 16 ffr), (aup, aI G 16 fup), (axx, aJ G 6 fxx), (ayy, aJ G 6 fyy), (asx, aJ G 96 fsx), (asy, aJ G 96 fsy), (asz, aJ G 16 fsz), (apu, aI G 16 fpu), (abe, aI G 16 fbe)]) rfl (by decide) (by decide) ?_
  rintro _ _ ⟨rfl, rfl⟩
  refine Z.at (pc' := 4) (st' := [.int (zb (decide (0 ≤ pi ∧ pi ≤ 1)))]) (ws' := [(x, ob 10 [.ref told, x_reader, .ref ring, x_speeds, x_wheel, x_trials, x_span, .ref search, x_kept, x_crosses, x_trueMasses, .ref thought, x_up, x_low, x_fits, x_pulls]), (told, ob 8 [.ref tn, .int tl]), (tn, aJ G 16 fn), (ring, ob 5 [.int hc, .ref rp, .ref rx, .ref ry, .ref rr, .ref rh, .ref rd, g_ph, g_po]), (rp, aI G 16 fp), (rx, aI G 16 fx), (ry, aI G 16 fy), (rr, aI G 16 fr), (rh, aI G 16 fh), (rd, aI G 16 fd), (thought, aI G 8 ft), (search, ob 6 [.int hn, .int np, .int bgq, .ref afr, .ref aup, .ref axx, .ref ayy, .ref asx, .ref asy, .ref asz, .ref apu, .ref abe, .int oz, .int fo, .long lc]), (afr, aI G 16 ffr), (aup, aI G 16 fup), (axx, aJ G 6 fxx), (ayy, aJ G 6 fyy), (asx, aJ G 96 fsx), (asy, aJ G 96 fsy), (asz, aJ G 16 fsz), (apu, aI G 16 fpu), (abe, aI G 16 fbe)]) (kc' := 0) (ks' := 0) rfl rfl rfl rfl rfl ?_
  refine zi_eq_zb X dr_X10_instead_4 (tgt := 17) (by decide) (fun c4_1 => ?_) (fun c4_1 => ?_)
  ·
    refine z_ldc2 X dr_X10_instead_17 cn_10_346 ?_
    exact z_lret X rfl dr_X10_instead_20 (Nat.le_of_ble_eq_true rfl) (Nat.le_of_ble_eq_true rfl) ⟨((-1) : Int64), (Or.inl ⟨by omega, rfl⟩), rfl⟩
  ·
    refine z_run X br_X10_instead_7_9 kr_X10_instead_7_9 (lv' := [(0, .ref x), (1, .int pq), (2, .int kq)]) (st' := [.int 1, .int kq]) rfl ?_
    refine zc_lt X dr_X10_instead_9 (tgt := 17) (by decide) (a := ki) (b := 1) hkq (show (1 : Int32).toInt = 1 from by decide) (fun c9_2 => ?_) (fun c9_2 => ?_)
    ·
      refine z_ldc2 X dr_X10_instead_17 cn_10_346 ?_
      exact z_lret X rfl dr_X10_instead_20 (Nat.le_of_ble_eq_true rfl) (Nat.le_of_ble_eq_true rfl) ⟨((-1) : Int64), (Or.inl ⟨by omega, rfl⟩), rfl⟩
    ·
      refine z_run X br_X10_instead_12_14 kr_X10_instead_12_14 (lv' := [(0, .ref x), (1, .int pq), (2, .int kq)]) (st' := [.int 2, .int kq]) rfl ?_
      refine zc_le X dr_X10_instead_14 (tgt := 21) (by decide) (a := ki) (b := 2) hkq (show (2 : Int32).toInt = 2 from by decide) (fun c14_3 => ?_) (fun c14_3 => ?_)
      ·
        refine z_run X br_X10_instead_21_23 kr_X10_instead_21_23 (lv' := [(0, .ref x), (1, .int pq), (2, .int kq)]) (st' := [.int pq, .ref x]) rfl ?_
        refine z_callV X k_10_357 (cr_X10_startRestSearchS l G x (.ref told) x_reader ring x_speeds x_wheel x_trials x_span search x_kept x_crosses x_trueMasses thought x_up x_low x_fits x_pulls hc rp rx ry rr rh rd g_ph g_po fp fx fy fr fh fd ft hn np afr aup axx ayy asx asy asz apu abe oz fo lc bgq ffr fup fxx fyy fsx fsy fsz fpu fbe pq hci pi hhc hpq (by omega) (by omega)) dr_X10_instead_23 0 rfl rfl rfl ⟨Nat.le_of_ble_eq_true rfl, Nat.le_of_ble_eq_true rfl⟩ ⟨Nat.le_of_ble_eq_true rfl, Nat.le_of_ble_eq_true rfl⟩ rfl (rest := []) (As := [.int pq]) rfl (Nat.le_of_ble_eq_true rfl) [0, 3, 4, 5, 6, 7, 8, 9, 10, 11, 12, 13, 14, 15, 16, 17, 18, 19, 20] [1, 2] rfl (by decide) (wr := [(told, ob 8 [.ref tn, .int tl]), (tn, aJ G 16 fn)]) rfl (by decide) (by decide) ?_
        rintro _ _ ⟨fxx2_4, fyy2_5, f23_6, f23_7, rfl, rfl⟩
        refine Z.at (pc' := 26) (st' := []) (ws' := [(told, ob 8 [.ref tn, .int tl]), (tn, aJ G 16 fn), (x, ob 10 [.ref told, x_reader, .ref ring, x_speeds, x_wheel, x_trials, x_span, .ref search, x_kept, x_crosses, x_trueMasses, .ref thought, x_up, x_low, x_fits, x_pulls]), (ring, ob 5 [.int hc, .ref rp, .ref rx, .ref ry, .ref rr, .ref rh, .ref rd, g_ph, g_po]), (rp, aI G 16 fp), (rx, aI G 16 fx), (ry, aI G 16 fy), (rr, aI G 16 fr), (rh, aI G 16 fh), (rd, aI G 16 fd), (thought, aI G 8 ft), (search, ob 6 [.int 0, .int 1, .int 0, .ref afr, .ref aup, .ref axx, .ref ayy, .ref asx, .ref asy, .ref asz, .ref apu, .ref abe, .int oz, .int fo, .long lc]), (afr, aI G 16 ffr), (aup, aI G 16 fup), (axx, aJ G 6 fxx2_4), (ayy, aJ G 6 fyy2_5), (asx, aJ G 96 fsx), (asy, aJ G 96 fsy), (asz, aJ G 16 fsz), (apu, aI G 16 fpu), (abe, aI G 16 fbe)]) (kc' := 0) (ks' := 0) rfl rfl rfl rfl rfl ?_
        have hsx0_ := f23_6
        have hsy0_ := f23_7
        refine z_run X br_X10_instead_26_28 kr_X10_instead_26_28 (lv' := [(3, .int 0), (0, .ref x), (1, .int pq), (2, .int kq)]) (st' := []) rfl ?_
        refine zloop (σ := Int32 × Int32 × (Nat → Int32) × (Nat → Int32) × (Nat → Int64) × (Nat → Int64) × (Nat → Int64) × (Nat → Int32) × (Nat → Int32)) (fun z => [(3, .int z.1), (0, .ref x), (1, .int pq), (2, .int kq)]) (fun z => []) (fun z => [(told, ob 8 [.ref tn, .int tl]), (tn, aJ G 16 fn), (x, ob 10 [.ref told, x_reader, .ref ring, x_speeds, x_wheel, x_trials, x_span, .ref search, x_kept, x_crosses, x_trueMasses, .ref thought, x_up, x_low, x_fits, x_pulls]), (ring, ob 5 [.int hc, .ref rp, .ref rx, .ref ry, .ref rr, .ref rh, .ref rd, g_ph, g_po]), (rp, aI G 16 fp), (rx, aI G 16 fx), (ry, aI G 16 fy), (rr, aI G 16 fr), (rh, aI G 16 fh), (rd, aI G 16 fd), (thought, aI G 8 ft), (search, ob 6 [.int z.2.1, .int 1, .int 0, .ref afr, .ref aup, .ref axx, .ref ayy, .ref asx, .ref asy, .ref asz, .ref apu, .ref abe, .int oz, .int fo, .long lc]), (afr, aI G 16 z.2.2.1), (aup, aI G 16 z.2.2.2.1), (axx, aJ G 6 fxx2_4), (ayy, aJ G 6 fyy2_5), (asx, aJ G 96 z.2.2.2.2.1), (asy, aJ G 96 z.2.2.2.2.2.1), (asz, aJ G 16 z.2.2.2.2.2.2.1), (apu, aI G 16 z.2.2.2.2.2.2.2.1), (abe, aI G 16 z.2.2.2.2.2.2.2.2)]) (fun z => (0 ≤ z.1.toInt ∧ z.1.toInt ≤ hci) ∧ (0 ≤ z.2.1.toInt ∧ z.2.1.toInt ≤ z.1.toInt) ∧ (EqS z.2.1.toInt ((slC (fun j => (fp j).toInt = pi) z.1.toInt.toNat : Nat) : Int)) ∧ (BLD (fun j => (fp j).toInt = pi) (fun j => -fh j - fd j) (fun j => fr j - fh j) fx fy z.1.toInt.toNat z.2.2.1 z.2.2.2.1 z.2.2.2.2.1 z.2.2.2.2.2.1 z.2.2.2.2.2.2.1 z.2.2.2.2.2.2.2.1)) (fun z => (hci - z.1.toInt).toNat) (0, (0 : Int32), ffr, fup, fsx, fsy, fsz, fpu, fbe) ?_ ?_
        ·
          rintro ⟨h_, hn_, gfr, gup, gsx, gsy, gsz, gpu, gbe⟩ ⟨hi, hnb, hN, hB⟩ ih28
          dsimp only at *
          refine z_run X br_X10_instead_28_30 kr_X10_instead_28_30 (lv' := [(3, .int h_), (0, .ref x), (1, .int pq), (2, .int kq)]) (st' := [.ref x, .int h_]) rfl ?_
          refine z_get X fl_10_26 dr_X10_instead_30 2 rfl (v := .ref ring) rfl ?_
          refine z_getN X fl_10_136 dr_X10_instead_33 3 rfl (v := .int hc) rfl ?_
          refine zc_ge X dr_X10_instead_36 (tgt := 119) (by decide) (a := h_.toInt) (b := hci) rfl hhc (fun c36_8 => ?_) (fun c36_8 => ?_)
          ·
            refine z_run X br_X10_instead_119_120 kr_X10_instead_119_120 (lv' := [(3, .int h_), (0, .ref x), (1, .int pq), (2, .int kq)]) (st' := [.ref x]) rfl ?_
            refine z_get X fl_10_61 dr_X10_instead_120 2 rfl (v := .ref search) rfl ?_
            refine z_run X br_X10_instead_123_124 kr_X10_instead_123_124 (lv' := [(3, .int h_), (0, .ref x), (1, .int pq), (2, .int kq)]) (st' := [.int kq, .ref search]) rfl ?_
            have eh_ : h_.toInt.toNat = hci.toNat := (by clear hN hB; omega)
            have hB9_ : BLD (fun j => (fp j).toInt = pi) (fun j => -fh j - fd j) (fun j => fr j - fh j) fx fy hci.toNat gfr gup gsx gsy gsz gpu := (by rw [← eh_]; exact hB)
            have e9_ : hn_.toInt.toNat = slC (fun j => (fp j).toInt = pi) hci.toNat := (by rw [← eh_]; exact (congrArg Int.toNat (hN : hn_.toInt = _)).trans (Int.toNat_natCast _))
            refine z_callV X k_10_367 (cr_X6_leastOfS l G search hn_ 1 afr aup axx ayy asx asy asz apu abe oz fo lc gfr gup fxx2_4 fyy2_5 gsx gsy gsz gpu gbe kq hn_.toInt 1 ki rfl (show (1 : Int32).toInt = 1 from by decide) hkq (by omega) (by omega) (bdd_1 hsx0_ (hux (by clear hN hB hB9_; omega))) (bdd_1 hsy0_ (huy (by clear hN hB hB9_; omega))) (fun j hj => hB9_.hst hbv j (by rw [← e9_]; exact hj)) (fun j hj => hB9_.hlh hbl j (by rw [← e9_]; exact hj)) (fun j hj => hB9_.hp0 j (by rw [← e9_]; exact hj)) (by omega)) dr_X10_instead_124 11 rfl rfl rfl ⟨Nat.le_of_ble_eq_true rfl, Nat.le_of_ble_eq_true rfl⟩ ⟨Nat.le_of_ble_eq_true rfl, Nat.le_of_ble_eq_true rfl⟩ rfl (rest := []) (As := [.int kq]) rfl (Nat.le_of_ble_eq_true rfl) [11, 12, 13, 14, 15, 16, 17, 18, 19, 20] [0, 1, 2, 3, 4, 5, 6, 7, 8, 9, 10] rfl (by decide) (wr := [(told, ob 8 [.ref tn, .int tl]), (tn, aJ G 16 fn), (x, ob 10 [.ref told, x_reader, .ref ring, x_speeds, x_wheel, x_trials, x_span, .ref search, x_kept, x_crosses, x_trueMasses, .ref thought, x_up, x_low, x_fits, x_pulls]), (ring, ob 5 [.int hc, .ref rp, .ref rx, .ref ry, .ref rr, .ref rh, .ref rd, g_ph, g_po]), (rp, aI G 16 fp), (rx, aI G 16 fx), (ry, aI G 16 fy), (rr, aI G 16 fr), (rh, aI G 16 fh), (rd, aI G 16 fd), (thought, aI G 8 ft)]) rfl (by decide) (by decide) ?_
            rintro _ _ ⟨rz_9, fxx2_10, fyy2_11, fpu2_12, fbe2_13, oz2_14, fo2_15, lc2_16, f124_17, rfl, rfl⟩
            refine Z.at (pc' := 127) (st' := [.long rz_9]) (ws' := [(told, ob 8 [.ref tn, .int tl]), (tn, aJ G 16 fn), (x, ob 10 [.ref told, x_reader, .ref ring, x_speeds, x_wheel, x_trials, x_span, .ref search, x_kept, x_crosses, x_trueMasses, .ref thought, x_up, x_low, x_fits, x_pulls]), (ring, ob 5 [.int hc, .ref rp, .ref rx, .ref ry, .ref rr, .ref rh, .ref rd, g_ph, g_po]), (rp, aI G 16 fp), (rx, aI G 16 fx), (ry, aI G 16 fy), (rr, aI G 16 fr), (rh, aI G 16 fh), (rd, aI G 16 fd), (thought, aI G 8 ft), (search, ob 6 [.int hn_, .int 1, .int 0, .ref afr, .ref aup, .ref axx, .ref ayy, .ref asx, .ref asy, .ref asz, .ref apu, .ref abe, .int oz2_14, .int fo2_15, .long lc2_16]), (afr, aI G 16 gfr), (aup, aI G 16 gup), (axx, aJ G 6 fxx2_10), (ayy, aJ G 6 fyy2_11), (asx, aJ G 96 gsx), (asy, aJ G 96 gsy), (asz, aJ G 16 gsz), (apu, aI G 16 fpu2_12), (abe, aI G 16 fbe2_13)]) (kc' := 0) (ks' := 0) rfl rfl rfl rfl rfl ?_
            refine z_run X br_X10_instead_127_129 kr_X10_instead_127_129 (lv' := [(3, .long rz_9), (0, .ref x), (1, .int pq), (2, .int kq)]) (st' := [.ref x]) rfl ?_
            refine z_callV X k_10_354 (cr_X10_tellSearchedS l G x told x_reader (.ref ring) x_speeds x_wheel x_trials x_span search x_kept x_crosses x_trueMasses (.ref thought) x_up x_low x_fits x_pulls tn tl fn hn_ 1 afr aup axx ayy asx asy asz apu abe oz2_14 fo2_15 lc2_16 fbe2_13 hn_.toInt rfl (by omega)) dr_X10_instead_129 2 rfl rfl rfl ⟨Nat.le_of_ble_eq_true rfl, Nat.le_of_ble_eq_true rfl⟩ ⟨Nat.le_of_ble_eq_true rfl, Nat.le_of_ble_eq_true rfl⟩ rfl (rest := []) (As := []) rfl (Nat.le_of_ble_eq_true rfl) [2, 0, 1, 11, 20] [3, 4, 5, 6, 7, 8, 9, 10, 12, 13, 14, 15, 16, 17, 18, 19] rfl (by decide) (wr := [(ring, ob 5 [.int hc, .ref rp, .ref rx, .ref ry, .ref rr, .ref rh, .ref rd, g_ph, g_po]), (rp, aI G 16 fp), (rx, aI G 16 fx), (ry, aI G 16 fy), (rr, aI G 16 fr), (rh, aI G 16 fh), (rd, aI G 16 fd), (thought, aI G 8 ft), (afr, aI G 16 gfr), (aup, aI G 16 gup), (axx, aJ G 6 fxx2_10), (ayy, aJ G 6 fyy2_11), (asx, aJ G 96 gsx), (asy, aJ G 96 gsy), (asz, aJ G 16 gsz), (apu, aI G 16 fpu2_12)]) rfl (by decide) (by decide) ?_
            rintro _ _ ⟨tl2_18, fn2_19, f129_20, rfl, rfl⟩
            refine Z.at (pc' := 132) (st' := []) (ws' := [(ring, ob 5 [.int hc, .ref rp, .ref rx, .ref ry, .ref rr, .ref rh, .ref rd, g_ph, g_po]), (rp, aI G 16 fp), (rx, aI G 16 fx), (ry, aI G 16 fy), (rr, aI G 16 fr), (rh, aI G 16 fh), (rd, aI G 16 fd), (thought, aI G 8 ft), (afr, aI G 16 gfr), (aup, aI G 16 gup), (axx, aJ G 6 fxx2_10), (ayy, aJ G 6 fyy2_11), (asx, aJ G 96 gsx), (asy, aJ G 96 gsy), (asz, aJ G 16 gsz), (apu, aI G 16 fpu2_12), (x, ob 10 [.ref told, x_reader, .ref ring, x_speeds, x_wheel, x_trials, x_span, .ref search, x_kept, x_crosses, x_trueMasses, .ref thought, x_up, x_low, x_fits, x_pulls]), (told, ob 8 [.ref tn, .int tl2_18]), (tn, aJ G 16 fn2_19), (search, ob 6 [.int hn_, .int 1, .int 0, .ref afr, .ref aup, .ref axx, .ref ayy, .ref asx, .ref asy, .ref asz, .ref apu, .ref abe, .int oz2_14, .int fo2_15, .long lc2_16]), (abe, aI G 16 fbe2_13)]) (kc' := 0) (ks' := 0) rfl rfl rfl rfl rfl ?_
            refine z_run X br_X10_instead_132_133 kr_X10_instead_132_133 (lv' := [(3, .long rz_9), (0, .ref x), (1, .int pq), (2, .int kq)]) (st' := [.long rz_9]) rfl ?_
            exact z_lret X rfl dr_X10_instead_133 (Nat.le_of_ble_eq_true rfl) (Nat.le_of_ble_eq_true rfl) ⟨rz_9, (Or.inr ⟨by clear hN hB hB9_; omega, ⟨_, _, _, _, _, _, _, _, hB9_, hsx0_, hsy0_, by rw [← e9_]; exact f124_17⟩⟩), rfl⟩
          ·
            refine z_run X br_X10_instead_39_40 kr_X10_instead_39_40 (lv' := [(3, .int h_), (0, .ref x), (1, .int pq), (2, .int kq)]) (st' := [.ref x]) rfl ?_
            refine z_get X fl_10_26 dr_X10_instead_40 2 rfl (v := .ref ring) rfl ?_
            refine z_getN X fl_10_116 dr_X10_instead_43 3 rfl (v := .ref rp) rfl ?_
            refine z_run X br_X10_instead_46_47 kr_X10_instead_46_47 (lv' := [(3, .int h_), (0, .ref x), (1, .int pq), (2, .int kq)]) (st' := [.int h_, .ref rp]) rfl ?_
            refine z_iald X dr_X10_instead_47 4 rfl (vin rfl (by omega) (by omega)) (v := (fp h_.toNatClampNeg)) rfl ?_
            refine z_run X br_X10_instead_48_49 kr_X10_instead_48_49 (lv' := [(3, .int h_), (0, .ref x), (1, .int pq), (2, .int kq)]) (st' := [.int pq, .int (fp h_.toNatClampNeg)]) rfl ?_
            refine zc_ne X dr_X10_instead_49 (tgt := 113) (by decide) (a := (fp h_.toNatClampNeg).toInt) (b := pi) rfl hpq (fun c49_21 => ?_) (fun c49_21 => ?_)
            ·
              refine z_run X br_X10_instead_113_116 kr_X10_instead_113_116 (lv' := [(3, .int (h_ + 1)), (0, .ref x), (1, .int pq), (2, .int kq)]) (st' := []) rfl ?_
              refine z_goto X dr_X10_instead_116 (tgt := 28) (by decide) ?_
              exact ih28 ((h_ + 1), hn_, gfr, gup, gsx, gsy, gsz, gpu, gbe) ⟨(by clear hN hB; (try dsimp only); have e : (h_ + 1).toInt = h_.toInt + 1 := tI_add rfl (show (1 : Int32).toInt = 1 from by decide) (by omega); omega), (by clear hN hB; (try dsimp only); have e : (h_ + 1).toInt = h_.toInt + 1 := tI_add rfl (show (1 : Int32).toInt = 1 from by decide) (by omega); omega), (by (try dsimp only); have e : (h_ + 1).toInt = h_.toInt + 1 := tI_add rfl (show (1 : Int32).toInt = 1 from by decide) (by omega); rw [e, show (h_.toInt + 1).toNat = h_.toInt.toNat + 1 by omega]; rw [slC_n (show ¬ (fun j => (fp j).toInt = pi) h_.toInt.toNat from c49_21)]; exact hN), (by (try dsimp only); have e : (h_ + 1).toInt = h_.toInt + 1 := tI_add rfl (show (1 : Int32).toInt = 1 from by decide) (by omega); rw [e, show (h_.toInt + 1).toNat = h_.toInt.toNat + 1 by omega]; exact hB.no (show ¬ (fun j => (fp j).toInt = pi) h_.toInt.toNat from c49_21))⟩ (by clear hN hB; (try dsimp only); have e : (h_ + 1).toInt = h_.toInt + 1 := tI_add rfl (show (1 : Int32).toInt = 1 from by decide) (by omega); omega)
            ·
              refine z_run X br_X10_instead_52_53 kr_X10_instead_52_53 (lv' := [(3, .int h_), (0, .ref x), (1, .int pq), (2, .int kq)]) (st' := [.ref x]) rfl ?_
              refine z_get X fl_10_61 dr_X10_instead_53 2 rfl (v := .ref search) rfl ?_
              refine z_run X br_X10_instead_56_57 kr_X10_instead_56_57 (lv' := [(3, .int h_), (0, .ref x), (1, .int pq), (2, .int kq)]) (st' := [.ref x, .ref search]) rfl ?_
              refine z_get X fl_10_26 dr_X10_instead_57 2 rfl (v := .ref ring) rfl ?_
              refine z_getN X fl_10_128 dr_X10_instead_60 3 rfl (v := .ref rh) rfl ?_
              refine z_run X br_X10_instead_63_64 kr_X10_instead_63_64 (lv' := [(3, .int h_), (0, .ref x), (1, .int pq), (2, .int kq)]) (st' := [.int h_, .ref rh, .ref search]) rfl ?_
              refine z_iald X dr_X10_instead_64 8 rfl (vin rfl (by omega) (by omega)) (v := (fh h_.toNatClampNeg)) rfl ?_
              refine z_run X br_X10_instead_65_67 kr_X10_instead_65_67 (lv' := [(3, .int h_), (0, .ref x), (1, .int pq), (2, .int kq)]) (st' := [.ref x, .int (-(fh h_.toNatClampNeg)), .ref search]) rfl ?_
              refine z_get X fl_10_26 dr_X10_instead_67 2 rfl (v := .ref ring) rfl ?_
              refine z_getN X fl_10_131 dr_X10_instead_70 3 rfl (v := .ref rd) rfl ?_
              refine z_run X br_X10_instead_73_74 kr_X10_instead_73_74 (lv' := [(3, .int h_), (0, .ref x), (1, .int pq), (2, .int kq)]) (st' := [.int h_, .ref rd, .int (-(fh h_.toNatClampNeg)), .ref search]) rfl ?_
              refine z_iald X dr_X10_instead_74 9 rfl (vin rfl (by omega) (by omega)) (v := (fd h_.toNatClampNeg)) rfl ?_
              refine z_run X br_X10_instead_75_77 kr_X10_instead_75_77 (lv' := [(3, .int h_), (0, .ref x), (1, .int pq), (2, .int kq)]) (st' := [.ref x, .int ((-(fh h_.toNatClampNeg)) - (fd h_.toNatClampNeg)), .ref search]) rfl ?_
              refine z_get X fl_10_26 dr_X10_instead_77 2 rfl (v := .ref ring) rfl ?_
              refine z_run X br_X10_instead_80_81 kr_X10_instead_80_81 (lv' := [(3, .int h_), (0, .ref x), (1, .int pq), (2, .int kq)]) (st' := [.int h_, .ref ring, .int ((-(fh h_.toNatClampNeg)) - (fd h_.toNatClampNeg)), .ref search]) rfl ?_
              refine z_callV X k_10_371 (cr_X5_roomLeftS l G ring hc rp rx ry rr rh rd g_ph g_po fp fx fy fr fh fd h_ h_.toInt rfl (by omega)) dr_X10_instead_81 3 rfl rfl rfl ⟨Nat.le_of_ble_eq_true rfl, Nat.le_of_ble_eq_true rfl⟩ ⟨Nat.le_of_ble_eq_true rfl, Nat.le_of_ble_eq_true rfl⟩ rfl (rest := [.int ((-(fh h_.toNatClampNeg)) - (fd h_.toNatClampNeg)), .ref search]) (As := [.int h_]) rfl (Nat.le_of_ble_eq_true rfl) [3, 4, 5, 6, 7, 8, 9] [0, 1, 2, 10, 11, 12, 13, 14, 15, 16, 17, 18, 19, 20] rfl (by decide) (wr := [(told, ob 8 [.ref tn, .int tl]), (tn, aJ G 16 fn), (x, ob 10 [.ref told, x_reader, .ref ring, x_speeds, x_wheel, x_trials, x_span, .ref search, x_kept, x_crosses, x_trueMasses, .ref thought, x_up, x_low, x_fits, x_pulls]), (thought, aI G 8 ft), (search, ob 6 [.int hn_, .int 1, .int 0, .ref afr, .ref aup, .ref axx, .ref ayy, .ref asx, .ref asy, .ref asz, .ref apu, .ref abe, .int oz, .int fo, .long lc]), (afr, aI G 16 gfr), (aup, aI G 16 gup), (axx, aJ G 6 fxx2_4), (ayy, aJ G 6 fyy2_5), (asx, aJ G 96 gsx), (asy, aJ G 96 gsy), (asz, aJ G 16 gsz), (apu, aI G 16 gpu), (abe, aI G 16 gbe)]) rfl (by decide) (by decide) ?_
              rintro _ _ ⟨rz_22, f81_23, rfl, rfl⟩
              refine Z.at (pc' := 84) (st' := [.int rz_22, .int ((-(fh h_.toNatClampNeg)) - (fd h_.toNatClampNeg)), .ref search]) (ws' := [(told, ob 8 [.ref tn, .int tl]), (tn, aJ G 16 fn), (x, ob 10 [.ref told, x_reader, .ref ring, x_speeds, x_wheel, x_trials, x_span, .ref search, x_kept, x_crosses, x_trueMasses, .ref thought, x_up, x_low, x_fits, x_pulls]), (thought, aI G 8 ft), (search, ob 6 [.int hn_, .int 1, .int 0, .ref afr, .ref aup, .ref axx, .ref ayy, .ref asx, .ref asy, .ref asz, .ref apu, .ref abe, .int oz, .int fo, .long lc]), (afr, aI G 16 gfr), (aup, aI G 16 gup), (axx, aJ G 6 fxx2_4), (ayy, aJ G 6 fyy2_5), (asx, aJ G 96 gsx), (asy, aJ G 96 gsy), (asz, aJ G 16 gsz), (apu, aI G 16 gpu), (abe, aI G 16 gbe), (ring, ob 5 [.int hc, .ref rp, .ref rx, .ref ry, .ref rr, .ref rh, .ref rd, g_ph, g_po]), (rp, aI G 16 fp), (rx, aI G 16 fx), (ry, aI G 16 fy), (rr, aI G 16 fr), (rh, aI G 16 fh), (rd, aI G 16 fd)]) (kc' := 0) (ks' := 0) rfl rfl rfl rfl rfl ?_
              refine z_callV X k_10_361 (cr_X6_addHoleS l G search hn_ 1 afr aup axx ayy asx asy asz apu abe oz fo lc gfr gup gsz gpu gbe ((-(fh h_.toNatClampNeg)) - (fd h_.toNatClampNeg)) rz_22 hn_.toInt rfl (by omega)) dr_X10_instead_84 4 rfl rfl rfl ⟨Nat.le_of_ble_eq_true rfl, Nat.le_of_ble_eq_true rfl⟩ ⟨Nat.le_of_ble_eq_true rfl, Nat.le_of_ble_eq_true rfl⟩ rfl (rest := []) (As := [.int ((-(fh h_.toNatClampNeg)) - (fd h_.toNatClampNeg)), .int rz_22]) rfl (Nat.le_of_ble_eq_true rfl) [4, 5, 6, 11, 12, 13] [0, 1, 2, 3, 7, 8, 9, 10, 14, 15, 16, 17, 18, 19, 20] rfl (by decide) (wr := [(told, ob 8 [.ref tn, .int tl]), (tn, aJ G 16 fn), (x, ob 10 [.ref told, x_reader, .ref ring, x_speeds, x_wheel, x_trials, x_span, .ref search, x_kept, x_crosses, x_trueMasses, .ref thought, x_up, x_low, x_fits, x_pulls]), (thought, aI G 8 ft), (axx, aJ G 6 fxx2_4), (ayy, aJ G 6 fyy2_5), (asx, aJ G 96 gsx), (asy, aJ G 96 gsy), (ring, ob 5 [.int hc, .ref rp, .ref rx, .ref ry, .ref rr, .ref rh, .ref rd, g_ph, g_po]), (rp, aI G 16 fp), (rx, aI G 16 fx), (ry, aI G 16 fy), (rr, aI G 16 fr), (rh, aI G 16 fh), (rd, aI G 16 fd)]) rfl (by decide) (by decide) ?_
              rintro _ _ ⟨rfl, rfl⟩
              refine Z.at (pc' := 87) (st' := []) (ws' := [(told, ob 8 [.ref tn, .int tl]), (tn, aJ G 16 fn), (x, ob 10 [.ref told, x_reader, .ref ring, x_speeds, x_wheel, x_trials, x_span, .ref search, x_kept, x_crosses, x_trueMasses, .ref thought, x_up, x_low, x_fits, x_pulls]), (thought, aI G 8 ft), (axx, aJ G 6 fxx2_4), (ayy, aJ G 6 fyy2_5), (asx, aJ G 96 gsx), (asy, aJ G 96 gsy), (ring, ob 5 [.int hc, .ref rp, .ref rx, .ref ry, .ref rr, .ref rh, .ref rd, g_ph, g_po]), (rp, aI G 16 fp), (rx, aI G 16 fx), (ry, aI G 16 fy), (rr, aI G 16 fr), (rh, aI G 16 fh), (rd, aI G 16 fd), (search, ob 6 [.int (hn_ + 1), .int 1, .int 0, .ref afr, .ref aup, .ref axx, .ref ayy, .ref asx, .ref asy, .ref asz, .ref apu, .ref abe, .int oz, .int fo, .long lc]), (afr, aI G 16 (upd gfr hn_.toNatClampNeg ((-(fh h_.toNatClampNeg)) - (fd h_.toNatClampNeg)))), (aup, aI G 16 (upd gup hn_.toNatClampNeg rz_22)), (asz, aJ G 16 (vp_updL gsz hn_.toNatClampNeg 0)), (apu, aI G 16 (upd gpu hn_.toNatClampNeg 0)), (abe, aI G 16 (upd gbe hn_.toNatClampNeg 0))]) (kc' := 0) (ks' := 0) rfl rfl rfl rfl rfl ?_
              refine z_run X br_X10_instead_87_88 kr_X10_instead_87_88 (lv' := [(3, .int h_), (0, .ref x), (1, .int pq), (2, .int kq)]) (st' := [.ref x]) rfl ?_
              refine z_get X fl_10_61 dr_X10_instead_88 2 rfl (v := .ref search) rfl ?_
              refine z_run X br_X10_instead_91_93 kr_X10_instead_91_93 (lv' := [(3, .int h_), (0, .ref x), (1, .int pq), (2, .int kq)]) (st' := [.ref x, .int 0, .ref search]) rfl ?_
              refine z_get X fl_10_26 dr_X10_instead_93 2 rfl (v := .ref ring) rfl ?_
              refine z_getN X fl_10_119 dr_X10_instead_96 8 rfl (v := .ref rx) rfl ?_
              refine z_run X br_X10_instead_99_100 kr_X10_instead_99_100 (lv' := [(3, .int h_), (0, .ref x), (1, .int pq), (2, .int kq)]) (st' := [.int h_, .ref rx, .int 0, .ref search]) rfl ?_
              refine z_iald X dr_X10_instead_100 10 rfl (vin rfl (by omega) (by omega)) (v := (fx h_.toNatClampNeg)) rfl ?_
              refine z_run X br_X10_instead_101_102 kr_X10_instead_101_102 (lv' := [(3, .int h_), (0, .ref x), (1, .int pq), (2, .int kq)]) (st' := [.ref x, .int (fx h_.toNatClampNeg), .int 0, .ref search]) rfl ?_
              refine z_get X fl_10_26 dr_X10_instead_102 2 rfl (v := .ref ring) rfl ?_
              refine z_getN X fl_10_122 dr_X10_instead_105 8 rfl (v := .ref ry) rfl ?_
              refine z_run X br_X10_instead_108_109 kr_X10_instead_108_109 (lv' := [(3, .int h_), (0, .ref x), (1, .int pq), (2, .int kq)]) (st' := [.int h_, .ref ry, .int (fx h_.toNatClampNeg), .int 0, .ref search]) rfl ?_
              refine z_iald X dr_X10_instead_109 11 rfl (vin rfl (by omega) (by omega)) (v := (fy h_.toNatClampNeg)) rfl ?_
              refine z_callV X k_10_364 (cr_X6_addStepS l G search (hn_ + 1) afr aup axx ayy asx asy asz apu abe oz fo lc gsx gsy (vp_updL gsz hn_.toNatClampNeg 0) (fx h_.toNatClampNeg) (fy h_.toNatClampNeg) ((hn_.toInt + 1)) (tI_add rfl (show (1 : Int32).toInt = 1 from by decide) (by omega)) (by omega)) dr_X10_instead_110 15 rfl rfl rfl ⟨Nat.le_of_ble_eq_true rfl, Nat.le_of_ble_eq_true rfl⟩ ⟨Nat.le_of_ble_eq_true rfl, Nat.le_of_ble_eq_true rfl⟩ rfl (rest := []) (As := [.int 0, .int (fx h_.toNatClampNeg), .int (fy h_.toNatClampNeg)]) rfl (Nat.le_of_ble_eq_true rfl) [15, 6, 7, 18] [0, 1, 2, 3, 4, 5, 8, 9, 10, 11, 12, 13, 14, 16, 17, 19, 20] rfl (by decide) (wr := [(told, ob 8 [.ref tn, .int tl]), (tn, aJ G 16 fn), (x, ob 10 [.ref told, x_reader, .ref ring, x_speeds, x_wheel, x_trials, x_span, .ref search, x_kept, x_crosses, x_trueMasses, .ref thought, x_up, x_low, x_fits, x_pulls]), (thought, aI G 8 ft), (axx, aJ G 6 fxx2_4), (ayy, aJ G 6 fyy2_5), (ring, ob 5 [.int hc, .ref rp, .ref rx, .ref ry, .ref rr, .ref rh, .ref rd, g_ph, g_po]), (rp, aI G 16 fp), (rx, aI G 16 fx), (ry, aI G 16 fy), (rr, aI G 16 fr), (rh, aI G 16 fh), (rd, aI G 16 fd), (afr, aI G 16 (upd gfr hn_.toNatClampNeg ((-(fh h_.toNatClampNeg)) - (fd h_.toNatClampNeg)))), (aup, aI G 16 (upd gup hn_.toNatClampNeg rz_22)), (apu, aI G 16 (upd gpu hn_.toNatClampNeg 0)), (abe, aI G 16 (upd gbe hn_.toNatClampNeg 0))]) rfl (by decide) (by decide) ?_
              rintro _ _ ⟨fsx2_24, fsy2_25, fsz2_26, f110_27, f110_28, f110_29, rfl, rfl⟩
              refine Z.at (pc' := 113) (st' := []) (ws' := [(told, ob 8 [.ref tn, .int tl]), (tn, aJ G 16 fn), (x, ob 10 [.ref told, x_reader, .ref ring, x_speeds, x_wheel, x_trials, x_span, .ref search, x_kept, x_crosses, x_trueMasses, .ref thought, x_up, x_low, x_fits, x_pulls]), (thought, aI G 8 ft), (axx, aJ G 6 fxx2_4), (ayy, aJ G 6 fyy2_5), (ring, ob 5 [.int hc, .ref rp, .ref rx, .ref ry, .ref rr, .ref rh, .ref rd, g_ph, g_po]), (rp, aI G 16 fp), (rx, aI G 16 fx), (ry, aI G 16 fy), (rr, aI G 16 fr), (rh, aI G 16 fh), (rd, aI G 16 fd), (afr, aI G 16 (upd gfr hn_.toNatClampNeg ((-(fh h_.toNatClampNeg)) - (fd h_.toNatClampNeg)))), (aup, aI G 16 (upd gup hn_.toNatClampNeg rz_22)), (apu, aI G 16 (upd gpu hn_.toNatClampNeg 0)), (abe, aI G 16 (upd gbe hn_.toNatClampNeg 0)), (search, ob 6 [.int (hn_ + 1), .int 1, .int 0, .ref afr, .ref aup, .ref axx, .ref ayy, .ref asx, .ref asy, .ref asz, .ref apu, .ref abe, .int oz, .int fo, .long lc]), (asx, aJ G 96 fsx2_24), (asy, aJ G 96 fsy2_25), (asz, aJ G 16 fsz2_26)]) (kc' := 0) (ks' := 0) rfl rfl rfl rfl rfl ?_
              refine z_run X br_X10_instead_113_116 kr_X10_instead_113_116 (lv' := [(3, .int (h_ + 1)), (0, .ref x), (1, .int pq), (2, .int kq)]) (st' := []) rfl ?_
              refine z_goto X dr_X10_instead_116 (tgt := 28) (by decide) ?_
              refine Z.sub (lv' := [(3, .int (h_ + 1)), (0, .ref x), (1, .int pq), (2, .int kq)]) [0, 1, 2, 3] rfl [0, 1, 2, 6, 7, 8, 9, 10, 11, 12, 3, 17, 13, 14, 4, 5, 18, 19, 20, 15, 16] (ws' := [(told, ob 8 [.ref tn, .int tl]), (tn, aJ G 16 fn), (x, ob 10 [.ref told, x_reader, .ref ring, x_speeds, x_wheel, x_trials, x_span, .ref search, x_kept, x_crosses, x_trueMasses, .ref thought, x_up, x_low, x_fits, x_pulls]), (ring, ob 5 [.int hc, .ref rp, .ref rx, .ref ry, .ref rr, .ref rh, .ref rd, g_ph, g_po]), (rp, aI G 16 fp), (rx, aI G 16 fx), (ry, aI G 16 fy), (rr, aI G 16 fr), (rh, aI G 16 fh), (rd, aI G 16 fd), (thought, aI G 8 ft), (search, ob 6 [.int (hn_ + 1), .int 1, .int 0, .ref afr, .ref aup, .ref axx, .ref ayy, .ref asx, .ref asy, .ref asz, .ref apu, .ref abe, .int oz, .int fo, .long lc]), (afr, aI G 16 (upd gfr hn_.toNatClampNeg ((-(fh h_.toNatClampNeg)) - (fd h_.toNatClampNeg)))), (aup, aI G 16 (upd gup hn_.toNatClampNeg rz_22)), (axx, aJ G 6 fxx2_4), (ayy, aJ G 6 fyy2_5), (asx, aJ G 96 fsx2_24), (asy, aJ G 96 fsy2_25), (asz, aJ G 16 fsz2_26), (apu, aI G 16 (upd gpu hn_.toNatClampNeg 0)), (abe, aI G 16 (upd gbe hn_.toNatClampNeg 0))]) rfl (by decide) ?_
              exact ih28 ((h_ + 1), (hn_ + 1), (upd gfr hn_.toNatClampNeg ((-(fh h_.toNatClampNeg)) - (fd h_.toNatClampNeg))), (upd gup hn_.toNatClampNeg rz_22), fsx2_24, fsy2_25, fsz2_26, (upd gpu hn_.toNatClampNeg 0), (upd gbe hn_.toNatClampNeg 0)) ⟨(by clear hN hB; (try dsimp only); have e : (h_ + 1).toInt = h_.toInt + 1 := tI_add rfl (show (1 : Int32).toInt = 1 from by decide) (by omega); omega), (by clear hN hB; (try dsimp only); have e : (h_ + 1).toInt = h_.toInt + 1 := tI_add rfl (show (1 : Int32).toInt = 1 from by decide) (by omega); have e1 : (hn_ + 1).toInt = hn_.toInt + 1 := tI_add rfl (show (1 : Int32).toInt = 1 from by decide) (by omega); omega), (by (try dsimp only); have e : (h_ + 1).toInt = h_.toInt + 1 := tI_add rfl (show (1 : Int32).toInt = 1 from by decide) (by omega); rw [e, show (h_.toInt + 1).toNat = h_.toInt.toNat + 1 by omega]; rw [slC_y (show (fun j => (fp j).toInt = pi) h_.toInt.toNat from c49_21)]; exact (tI_add (hN : hn_.toInt = _) (show (1 : Int32).toInt = 1 from by decide) (by have z := slC_le (P := (fun j => (fp j).toInt = pi)) (n := h_.toInt.toNat); generalize slC (fun j => (fp j).toInt = pi) h_.toInt.toNat = q_ at z; clear hN hB; omega)).trans (by rw [Int.natCast_add]; rfl)), (by (try dsimp only); have e : (h_ + 1).toInt = h_.toInt + 1 := tI_add rfl (show (1 : Int32).toInt = 1 from by decide) (by omega); rw [e, show (h_.toInt + 1).toNat = h_.toInt.toNat + 1 by omega]; rw [f110_27, f110_28, f110_29, show ((hn_ + 1) - 1 : Int32) = hn_ by grind, updL_at, i64_0a]; exact hB.yes (show (fun j => (fp j).toInt = pi) h_.toInt.toNat from c49_21) (show hn_.toNatClampNeg = slC (fun j => (fp j).toInt = pi) h_.toInt.toNat from (congrArg Int.toNat (hN : hn_.toInt = _)).trans (Int.toNat_natCast _)) (show hn_.toNatClampNeg = slC (fun j => (fp j).toInt = pi) h_.toInt.toNat from (congrArg Int.toNat (hN : hn_.toInt = _)).trans (Int.toNat_natCast _)) rfl (by rw [f81_23]; rfl) rfl rfl rfl)⟩ (by clear hN hB; (try dsimp only); have e : (h_ + 1).toInt = h_.toInt + 1 := tI_add rfl (show (1 : Int32).toInt = 1 from by decide) (by omega); omega)
        · exact ⟨(by (try dsimp only); have e0 : (0 : Int32).toInt = 0 := (by decide); omega), (by (try dsimp only); have e0 : (0 : Int32).toInt = 0 := (by decide); omega), (by (try dsimp only); have e0 : (0 : Int32).toInt = 0 := (by decide); rw [e0]; exact (show (0 : Int32).toInt = 0 from by decide)), (by (try dsimp only); have e0 : (0 : Int32).toInt = 0 := (by decide); rw [e0]; exact BLD.zero)⟩
      ·
        refine z_ldc2 X dr_X10_instead_17 cn_10_346 ?_
        exact z_lret X rfl dr_X10_instead_20 (Nat.le_of_ble_eq_true rfl) (Nat.le_of_ble_eq_true rfl) ⟨((-1) : Int64), (Or.inl ⟨by omega, rfl⟩), rfl⟩

theorem dr_X10_fewest_1 : decode cX10_fewest 1 = .ok (.invokestatic 156, 3) := by decide +kernel
theorem dr_X10_fewest_4 : decode cX10_fewest 4 = .ok (.ifCond .eq 9, 3) := by decide +kernel
theorem dr_X10_fewest_14 : decode cX10_fewest 14 = .ok (.ireturn, 1) := by decide +kernel
theorem dr_X10_fewest_9 : decode cX10_fewest 9 = .ok (.lcmp, 1) := by decide +kernel
theorem dr_X10_fewest_10 : decode cX10_fewest 10 = .ok (.ifCond .ge 5, 3) := by decide +kernel
theorem dr_X10_fewest_21 : decode cX10_fewest 21 = .ok (.if_icmp .gt 28, 3) := by decide +kernel
theorem dr_X10_fewest_51 : decode cX10_fewest 51 = .ok (.ireturn, 1) := by decide +kernel
theorem dr_X10_fewest_28 : decode cX10_fewest 28 = .ok (.invokevirtual 351, 3) := by decide +kernel
theorem dr_X10_fewest_32 : decode cX10_fewest 32 = .ok (.lcmp, 1) := by decide +kernel
theorem dr_X10_fewest_33 : decode cX10_fewest 33 = .ok (.ifCond .gt 10, 3) := by decide +kernel
theorem dr_X10_fewest_46 : decode cX10_fewest 46 = .ok (.goto (-28), 3) := by decide +kernel
theorem dr_X10_fewest_37 : decode cX10_fewest 37 = .ok (.invokevirtual 354, 3) := by decide +kernel
theorem dr_X10_fewest_42 : decode cX10_fewest 42 = .ok (.ireturn, 1) := by decide +kernel
abbrev br_X10_fewest_0_1 : ZB := [(.iload_n 1, .null)]
theorem kr_X10_fewest_0_1 : zchk cX10_fewest br_X10_fewest_0_1 0 = true ∧ zpc br_X10_fewest_0_1 0 = 1 := ⟨by decide +kernel, rfl⟩
abbrev br_X10_fewest_13_14 : ZB := [(.iconst (-1), .int (-1))]
theorem kr_X10_fewest_13_14 : zchk cX10_fewest br_X10_fewest_13_14 13 = true ∧ zpc br_X10_fewest_13_14 13 = 14 := ⟨by decide +kernel, rfl⟩
abbrev br_X10_fewest_7_9 : ZB := [(.lload_n 2, .null), (.lconst 0, .long 0)]
theorem kr_X10_fewest_7_9 : zchk cX10_fewest br_X10_fewest_7_9 7 = true ∧ zpc br_X10_fewest_7_9 7 = 9 := ⟨by decide +kernel, rfl⟩
abbrev br_X10_fewest_15_18 : ZB := [(.iconst 0, .int 0), (.istore 4, .null)]
theorem kr_X10_fewest_15_18 : zchk cX10_fewest br_X10_fewest_15_18 15 = true ∧ zpc br_X10_fewest_15_18 15 = 18 := ⟨by decide +kernel, rfl⟩
abbrev br_X10_fewest_18_21 : ZB := [(.iload 4, .null), (.iconst 3, .int 3)]
theorem kr_X10_fewest_18_21 : zchk cX10_fewest br_X10_fewest_18_21 18 = true ∧ zpc br_X10_fewest_18_21 18 = 21 := ⟨by decide +kernel, rfl⟩
abbrev br_X10_fewest_49_51 : ZB := [(.bipush (-2), .int (-2))]
theorem kr_X10_fewest_49_51 : zchk cX10_fewest br_X10_fewest_49_51 49 = true ∧ zpc br_X10_fewest_49_51 49 = 51 := ⟨by decide +kernel, rfl⟩
abbrev br_X10_fewest_24_28 : ZB := [(.aload_n 0, .null), (.iload_n 1, .null), (.iload 4, .null)]
theorem kr_X10_fewest_24_28 : zchk cX10_fewest br_X10_fewest_24_28 24 = true ∧ zpc br_X10_fewest_24_28 24 = 28 := ⟨by decide +kernel, rfl⟩
abbrev br_X10_fewest_31_32 : ZB := [(.lload_n 2, .null)]
theorem kr_X10_fewest_31_32 : zchk cX10_fewest br_X10_fewest_31_32 31 = true ∧ zpc br_X10_fewest_31_32 31 = 32 := ⟨by decide +kernel, rfl⟩
abbrev br_X10_fewest_43_46 : ZB := [(.iinc 4 1, .int 1)]
theorem kr_X10_fewest_43_46 : zchk cX10_fewest br_X10_fewest_43_46 43 = true ∧ zpc br_X10_fewest_43_46 43 = 46 := ⟨by decide +kernel, rfl⟩
abbrev br_X10_fewest_36_37 : ZB := [(.aload_n 0, .null)]
theorem kr_X10_fewest_36_37 : zchk cX10_fewest br_X10_fewest_36_37 36 = true ∧ zpc br_X10_fewest_36_37 36 = 37 := ⟨by decide +kernel, rfl⟩
abbrev br_X10_fewest_40_42 : ZB := [(.iload 4, .null)]
theorem kr_X10_fewest_40_42 : zchk cX10_fewest br_X10_fewest_40_42 40 = true ∧ zpc br_X10_fewest_40_42 40 = 42 := ⟨by decide +kernel, rfl⟩
set_option maxHeartbeats 4000000 in
set_option maxRecDepth 100000 in
theorem cr_X10_fewestS (l : Launch) (G : KG) (x : Nat) (told : Nat) (x_reader : Value) (ring : Nat) (x_speeds : Value) (x_wheel : Value) (x_trials : Value) (x_span : Value) (search : Nat) (x_kept : Value) (x_crosses : Value) (x_trueMasses : Value) (thought : Nat) (x_up : Value) (x_low : Value) (x_fits : Value) (x_pulls : Value) (tn : Nat) (tl : Int32) (fn : Nat → Int64) (hc : Int32) (rp : Nat) (rx : Nat) (ry : Nat) (rr : Nat) (rh : Nat) (rd : Nat) (g_ph : Value) (g_po : Value) (fp : Nat → Int32) (fx : Nat → Int32) (fy : Nat → Int32) (fr : Nat → Int32) (fh : Nat → Int32) (fd : Nat → Int32) (ft : Nat → Int32) (hn : Int32) (np : Int32) (afr : Nat) (aup : Nat) (axx : Nat) (ayy : Nat) (asx : Nat) (asy : Nat) (asz : Nat) (apu : Nat) (abe : Nat) (oz : Int32) (fo : Int32) (lc : Int64) (bgq : Int32) (ffr : Nat → Int32) (fup : Nat → Int32) (fxx : Nat → Int64) (fyy : Nat → Int64) (fsx : Nat → Int64) (fsy : Nat → Int64) (fsz : Nat → Int64) (fpu : Nat → Int32) (fbe : Nat → Int32) (pq : Int32) (bq : Int64) (hci : Int) (pi : Int) (bi : Int) (hhc : hc.toInt = hci) (hpq : pq.toInt = pi) (hbq : bq.toInt = bi) (hc0 : 0 ≤ hci ∧ hci ≤ 16) (hbv : ∀ j, j < hci.toNat → (-99 ≤ (fx j).toInt ∧ (fx j).toInt ≤ 99) ∧ -99 ≤ (fy j).toInt ∧ (fy j).toInt ≤ 99) (hbl : ∀ j, j < hci.toNat → (-200 ≤ ((fun _ => (0 : Int32)) j).toInt ∧ ((fun _ => (0 : Int32)) j).toInt ≤ 0) ∧ 0 ≤ ((fun j => fr j - fh j) j).toInt ∧ ((fun j => fr j - fh j) j).toInt ≤ 200) (hux : 0 ≤ pi ∧ pi ≤ 1 → -94000000 ≤ (ft (2 * pq + 0).toNatClampNeg + lw fp fh (axs 0 fx fy) pi hci.toNat).toInt ∧ (ft (2 * pq + 0).toNatClampNeg + lw fp fh (axs 0 fx fy) pi hci.toNat).toInt ≤ 94000000) (huy : 0 ≤ pi ∧ pi ≤ 1 → -94000000 ≤ (ft (2 * pq + 1).toNatClampNeg + lw fp fh (axs 1 fx fy) pi hci.toNat).toInt ∧ (ft (2 * pq + 1).toNatClampNeg + lw fp fh (axs 1 fx fy) pi hci.toNat).toInt ≤ 94000000) : Ct l G yX10_fewest cX10_fewest 5 (some .int) { frames := 22, cells := 0, slots := 0, locals := 530 } [.ref x, .int pq, .long bq] [(x, ob 10 [.ref told, x_reader, .ref ring, x_speeds, x_wheel, x_trials, x_span, .ref search, x_kept, x_crosses, x_trueMasses, .ref thought, x_up, x_low, x_fits, x_pulls]), (told, ob 8 [.ref tn, .int tl]), (tn, aJ G 16 fn), (ring, ob 5 [.int hc, .ref rp, .ref rx, .ref ry, .ref rr, .ref rh, .ref rd, g_ph, g_po]), (rp, aI G 16 fp), (rx, aI G 16 fx), (ry, aI G 16 fy), (rr, aI G 16 fr), (rh, aI G 16 fh), (rd, aI G 16 fd), (thought, aI G 8 ft), (search, ob 6 [.int hn, .int np, .int bgq, .ref afr, .ref aup, .ref axx, .ref ayy, .ref asx, .ref asy, .ref asz, .ref apu, .ref abe, .int oz, .int fo, .long lc]), (afr, aI G 16 ffr), (aup, aI G 16 fup), (axx, aJ G 6 fxx), (ayy, aJ G 6 fyy), (asx, aJ G 96 fsx), (asy, aJ G 96 fsy), (asz, aJ G 16 fsz), (apu, aI G 16 fpu), (abe, aI G 16 fbe)] (fun r _ => ∃ (rz : Int32), (FwR ((0 ≤ pi ∧ pi ≤ 1) ∧ 0 ≤ bi) (fun k v => SrX (fun j => (fp j).toInt = pi) (fun _ => (0 : Int32)) (fun j => fr j - fh j) fx fy hci.toNat (ft (2 * pq + 0).toNatClampNeg + lw fp fh (axs 0 fx fy) pi hci.toNat).toInt64 (ft (2 * pq + 1).toNatClampNeg + lw fp fh (axs 1 fx fy) pi hci.toNat).toInt64 k v) bq.toInt rz) ∧ r = some (.int rz)) := by
  refine ct_of [(0, .ref x), (1, .int pq), (2, .long bq)] (by decide) (Nat.le_of_ble_eq_true rfl) rfl ?_
  intro p0 e0 s0 m0 args0 below0 meth0 c0 A X
  refine z_run X br_X10_fewest_0_1 kr_X10_fewest_0_1 (lv' := [(0, .ref x), (1, .int pq), (2, .long bq)]) (st' := [.int pq]) rfl ?_
  refine z_callS X k_10_156 (cr_X10_isOneOfTwoS l G pq pi hpq) dr_X10_fewest_1 ⟨Nat.le_of_ble_eq_true rfl, Nat.le_of_ble_eq_true rfl⟩ ⟨Nat.le_of_ble_eq_true rfl, Nat.le_of_ble_eq_true rfl⟩ rfl (rest := []) (As := [.int pq]) rfl (Nat.le_of_ble_eq_true rfl) [] [0, 1, 2, 3, 4, 5, 6, 7, 8, 9, 10, 11, 12, 13, 14, 15, 16, 17, 18, 19, 20] rfl (by decide) (wr := [(x, ob 10 [.ref told, x_reader, .ref ring, x_speeds, x_wheel, x_trials, x_span, .ref search, x_kept, x_crosses, x_trueMasses, .ref thought, x_up, x_low, x_fits, x_pulls]), (told, ob 8 [.ref tn, .int tl]), (tn, aJ G 16 fn), (ring, ob 5 [.int hc, .ref rp, .ref rx, .ref ry, .ref rr, .ref rh, .ref rd, g_ph, g_po]), (rp, aI G 16 fp), (rx, aI G 16 fx), (ry, aI G 16 fy), (rr, aI G 16 fr), (rh, aI G 16 fh), (rd, aI G 16 fd), (thought, aI G 8 ft), (search, ob 6 [.int hn, .int np, .int bgq, .ref afr, .ref aup, .ref axx, .ref ayy, .ref asx, .ref asy, .ref asz, .ref apu, .ref abe, .int oz, .int fo, .long lc]), (afr, aI G 16 ffr), (aup, aI G 16 fup), (axx, aJ G 6 fxx), (ayy, aJ G 6 fyy), (asx, aJ G 96 fsx), (asy, aJ G 96 fsy), (asz, aJ G 16 fsz), (apu, aI G 16 fpu), (abe, aI G 16 fbe)]) rfl (by decide) (by decide) ?_
  rintro _ _ ⟨rfl, rfl⟩
  refine Z.at (pc' := 4) (st' := [.int (zb (decide (0 ≤ pi ∧ pi ≤ 1)))]) (ws' := [(x, ob 10 [.ref told, x_reader, .ref ring, x_speeds, x_wheel, x_trials, x_span, .ref search, x_kept, x_crosses, x_trueMasses, .ref thought, x_up, x_low, x_fits, x_pulls]), (told, ob 8 [.ref tn, .int tl]), (tn, aJ G 16 fn), (ring, ob 5 [.int hc, .ref rp, .ref rx, .ref ry, .ref rr, .ref rh, .ref rd, g_ph, g_po]), (rp, aI G 16 fp), (rx, aI G 16 fx), (ry, aI G 16 fy), (rr, aI G 16 fr), (rh, aI G 16 fh), (rd, aI G 16 fd), (thought, aI G 8 ft), (search, ob 6 [.int hn, .int np, .int bgq, .ref afr, .ref aup, .ref axx, .ref ayy, .ref asx, .ref asy, .ref asz, .ref apu, .ref abe, .int oz, .int fo, .long lc]), (afr, aI G 16 ffr), (aup, aI G 16 fup), (axx, aJ G 6 fxx), (ayy, aJ G 6 fyy), (asx, aJ G 96 fsx), (asy, aJ G 96 fsy), (asz, aJ G 16 fsz), (apu, aI G 16 fpu), (abe, aI G 16 fbe)]) (kc' := 0) (ks' := 0) rfl rfl rfl rfl rfl ?_
  refine zi_eq_zb X dr_X10_fewest_4 (tgt := 13) (by decide) (fun c4_1 => ?_) (fun c4_1 => ?_)
  ·
    refine z_run X br_X10_fewest_13_14 kr_X10_fewest_13_14 (lv' := [(0, .ref x), (1, .int pq), (2, .long bq)]) (st' := [.int (-1)]) rfl ?_
    exact z_iret X rfl dr_X10_fewest_14 (Nat.le_of_ble_eq_true rfl) (Nat.le_of_ble_eq_true rfl) ⟨((-1) : Int32), (Or.inl ⟨by omega, rfl⟩), rfl⟩
  ·
    refine z_run X br_X10_fewest_7_9 kr_X10_fewest_7_9 (lv' := [(0, .ref x), (1, .int pq), (2, .long bq)]) (st' := [.long 0, .long bq]) rfl ?_
    refine zl_ge X dr_X10_fewest_9 dr_X10_fewest_10 (tgt := 15) (by decide) (a := bi) (b := 0) hbq (show (0 : Int64).toInt = 0 from by decide) (fun c9_2 => ?_) (fun c9_2 => ?_)
    ·
      refine z_run X br_X10_fewest_15_18 kr_X10_fewest_15_18 (lv' := [(4, .int 0), (0, .ref x), (1, .int pq), (2, .long bq)]) (st' := []) rfl ?_
      refine zloop (σ := Int32 × Int32 × Int32 × Int32 × Int32 × Int32 × Int64 × (Nat → Int32) × (Nat → Int32) × (Nat → Int64) × (Nat → Int64) × (Nat → Int64) × (Nat → Int64) × (Nat → Int64) × (Nat → Int32) × (Nat → Int32)) (fun z => [(4, .int z.1), (0, .ref x), (1, .int pq), (2, .long bq)]) (fun z => []) (fun z => [(x, ob 10 [.ref told, x_reader, .ref ring, x_speeds, x_wheel, x_trials, x_span, .ref search, x_kept, x_crosses, x_trueMasses, .ref thought, x_up, x_low, x_fits, x_pulls]), (told, ob 8 [.ref tn, .int tl]), (tn, aJ G 16 fn), (ring, ob 5 [.int hc, .ref rp, .ref rx, .ref ry, .ref rr, .ref rh, .ref rd, g_ph, g_po]), (rp, aI G 16 fp), (rx, aI G 16 fx), (ry, aI G 16 fy), (rr, aI G 16 fr), (rh, aI G 16 fh), (rd, aI G 16 fd), (thought, aI G 8 ft), (search, ob 6 [.int z.2.1, .int z.2.2.1, .int z.2.2.2.1, .ref afr, .ref aup, .ref axx, .ref ayy, .ref asx, .ref asy, .ref asz, .ref apu, .ref abe, .int z.2.2.2.2.1, .int z.2.2.2.2.2.1, .long z.2.2.2.2.2.2.1]), (afr, aI G 16 z.2.2.2.2.2.2.2.1), (aup, aI G 16 z.2.2.2.2.2.2.2.2.1), (axx, aJ G 6 z.2.2.2.2.2.2.2.2.2.1), (ayy, aJ G 6 z.2.2.2.2.2.2.2.2.2.2.1), (asx, aJ G 96 z.2.2.2.2.2.2.2.2.2.2.2.1), (asy, aJ G 96 z.2.2.2.2.2.2.2.2.2.2.2.2.1), (asz, aJ G 16 z.2.2.2.2.2.2.2.2.2.2.2.2.2.1), (apu, aI G 16 z.2.2.2.2.2.2.2.2.2.2.2.2.2.2.1), (abe, aI G 16 z.2.2.2.2.2.2.2.2.2.2.2.2.2.2.2)]) (fun z => (0 ≤ z.1.toInt ∧ z.1.toInt ≤ 4) ∧ (∀ k : Int, 0 ≤ k → k < z.1.toInt → ∃ u, (fun k v => SrX (fun j => (fp j).toInt = pi) (fun _ => (0 : Int32)) (fun j => fr j - fh j) fx fy hci.toNat (ft (2 * pq + 0).toNatClampNeg + lw fp fh (axs 0 fx fy) pi hci.toNat).toInt64 (ft (2 * pq + 1).toNatClampNeg + lw fp fh (axs 1 fx fy) pi hci.toNat).toInt64 k v) k u ∧ bq.toInt < u.toInt)) (fun z => (4 - z.1.toInt).toNat) (0, hn, np, bgq, oz, fo, lc, ffr, fup, fxx, fyy, fsx, fsy, fsz, fpu, fbe) ?_ ?_
      ·
        rintro ⟨k_, hnF, npF, bgF, ozF, foF, lcF, ffrF, fupF, fxxF, fyyF, fsxF, fsyF, fszF, fpuF, fbeF⟩ ⟨hk, hF⟩ ih18
        dsimp only at *
        refine z_run X br_X10_fewest_18_21 kr_X10_fewest_18_21 (lv' := [(4, .int k_), (0, .ref x), (1, .int pq), (2, .long bq)]) (st' := [.int 3, .int k_]) rfl ?_
        refine zc_gt X dr_X10_fewest_21 (tgt := 49) (by decide) (a := k_.toInt) (b := 3) rfl (show (3 : Int32).toInt = 3 from by decide) (fun c21_3 => ?_) (fun c21_3 => ?_)
        ·
          refine z_run X br_X10_fewest_49_51 kr_X10_fewest_49_51 (lv' := [(4, .int k_), (0, .ref x), (1, .int pq), (2, .long bq)]) (st' := [.int (-2)]) rfl ?_
          exact z_iret X rfl dr_X10_fewest_51 (Nat.le_of_ble_eq_true rfl) (Nat.le_of_ble_eq_true rfl) ⟨((-2) : Int32), (Or.inr ⟨by omega, Or.inr ⟨rfl, fun k a b => hF k a (by omega)⟩⟩), rfl⟩
        ·
          refine z_run X br_X10_fewest_24_28 kr_X10_fewest_24_28 (lv' := [(4, .int k_), (0, .ref x), (1, .int pq), (2, .long bq)]) (st' := [.int k_, .int pq, .ref x]) rfl ?_
          refine z_callV X k_10_351 (cr_X10_searchPuttingS l G x (.ref told) x_reader ring x_speeds x_wheel x_trials x_span search x_kept x_crosses x_trueMasses thought x_up x_low x_fits x_pulls hc rp rx ry rr rh rd g_ph g_po fp fx fy fr fh fd ft hnF npF afr aup axx ayy asx asy asz apu abe ozF foF lcF bgF ffrF fupF fxxF fyyF fsxF fsyF fszF fpuF fbeF pq k_ hci pi k_.toInt hhc hpq rfl (by omega) (by omega) (by omega) hbv hbl (hux (by omega)) (huy (by omega))) dr_X10_fewest_28 0 rfl rfl rfl ⟨Nat.le_of_ble_eq_true rfl, Nat.le_of_ble_eq_true rfl⟩ ⟨Nat.le_of_ble_eq_true rfl, Nat.le_of_ble_eq_true rfl⟩ rfl (rest := []) (As := [.int pq, .int k_]) rfl (Nat.le_of_ble_eq_true rfl) [0, 3, 4, 5, 6, 7, 8, 9, 10, 11, 12, 13, 14, 15, 16, 17, 18, 19, 20] [1, 2] rfl (by decide) (wr := [(told, ob 8 [.ref tn, .int tl]), (tn, aJ G 16 fn)]) rfl (by decide) (by decide) ?_
          rintro _ _ ⟨rz_4, ffr2_5, fup2_6, fsx2_7, fsy2_8, fsz2_9, hn2_10, fxx2_11, fyy2_12, fpu2_13, fbe2_14, oz2_15, fo2_16, lc2_17, f28_18, f28_19, rfl, rfl⟩
          refine Z.at (pc' := 31) (st' := [.long rz_4]) (ws' := [(told, ob 8 [.ref tn, .int tl]), (tn, aJ G 16 fn), (x, ob 10 [.ref told, x_reader, .ref ring, x_speeds, x_wheel, x_trials, x_span, .ref search, x_kept, x_crosses, x_trueMasses, .ref thought, x_up, x_low, x_fits, x_pulls]), (ring, ob 5 [.int hc, .ref rp, .ref rx, .ref ry, .ref rr, .ref rh, .ref rd, g_ph, g_po]), (rp, aI G 16 fp), (rx, aI G 16 fx), (ry, aI G 16 fy), (rr, aI G 16 fr), (rh, aI G 16 fh), (rd, aI G 16 fd), (thought, aI G 8 ft), (search, ob 6 [.int hn2_10, .int 1, .int 0, .ref afr, .ref aup, .ref axx, .ref ayy, .ref asx, .ref asy, .ref asz, .ref apu, .ref abe, .int oz2_15, .int fo2_16, .long lc2_17]), (afr, aI G 16 ffr2_5), (aup, aI G 16 fup2_6), (axx, aJ G 6 fxx2_11), (ayy, aJ G 6 fyy2_12), (asx, aJ G 96 fsx2_7), (asy, aJ G 96 fsy2_8), (asz, aJ G 16 fsz2_9), (apu, aI G 16 fpu2_13), (abe, aI G 16 fbe2_14)]) (kc' := 0) (ks' := 0) rfl rfl rfl rfl rfl ?_
          refine z_run X br_X10_fewest_31_32 kr_X10_fewest_31_32 (lv' := [(4, .int k_), (0, .ref x), (1, .int pq), (2, .long bq)]) (st' := [.long bq, .long rz_4]) rfl ?_
          refine zl_gt X dr_X10_fewest_32 dr_X10_fewest_33 (tgt := 43) (by decide) (a := rz_4.toInt) (b := bi) rfl hbq (fun c32_20 => ?_) (fun c32_20 => ?_)
          ·
            refine z_run X br_X10_fewest_43_46 kr_X10_fewest_43_46 (lv' := [(4, .int (k_ + 1)), (0, .ref x), (1, .int pq), (2, .long bq)]) (st' := []) rfl ?_
            refine z_goto X dr_X10_fewest_46 (tgt := 18) (by decide) ?_
            refine Z.sub (lv' := [(4, .int (k_ + 1)), (0, .ref x), (1, .int pq), (2, .long bq)]) [0, 1, 2, 3] rfl [2, 0, 1, 3, 4, 5, 6, 7, 8, 9, 10, 11, 12, 13, 14, 15, 16, 17, 18, 19, 20] (ws' := [(x, ob 10 [.ref told, x_reader, .ref ring, x_speeds, x_wheel, x_trials, x_span, .ref search, x_kept, x_crosses, x_trueMasses, .ref thought, x_up, x_low, x_fits, x_pulls]), (told, ob 8 [.ref tn, .int tl]), (tn, aJ G 16 fn), (ring, ob 5 [.int hc, .ref rp, .ref rx, .ref ry, .ref rr, .ref rh, .ref rd, g_ph, g_po]), (rp, aI G 16 fp), (rx, aI G 16 fx), (ry, aI G 16 fy), (rr, aI G 16 fr), (rh, aI G 16 fh), (rd, aI G 16 fd), (thought, aI G 8 ft), (search, ob 6 [.int hn2_10, .int 1, .int 0, .ref afr, .ref aup, .ref axx, .ref ayy, .ref asx, .ref asy, .ref asz, .ref apu, .ref abe, .int oz2_15, .int fo2_16, .long lc2_17]), (afr, aI G 16 ffr2_5), (aup, aI G 16 fup2_6), (axx, aJ G 6 fxx2_11), (ayy, aJ G 6 fyy2_12), (asx, aJ G 96 fsx2_7), (asy, aJ G 96 fsy2_8), (asz, aJ G 16 fsz2_9), (apu, aI G 16 fpu2_13), (abe, aI G 16 fbe2_14)]) rfl (by decide) ?_
            exact ih18 ((k_ + 1), hn2_10, (1 : Int32), (0 : Int32), oz2_15, fo2_16, lc2_17, ffr2_5, fup2_6, fxx2_11, fyy2_12, fsx2_7, fsy2_8, fsz2_9, fpu2_13, fbe2_14) ⟨(by (try dsimp only); have ek : (k_ + 1).toInt = k_.toInt + 1 := tI_add rfl (show (1 : Int32).toInt = 1 from by decide) (by omega); omega), (by (try dsimp only); have ek : (k_ + 1).toInt = k_.toInt + 1 := tI_add rfl (show (1 : Int32).toInt = 1 from by decide) (by omega); rw [ek]; exact FwE.step (S := (fun k v => SrX (fun j => (fp j).toInt = pi) (fun _ => (0 : Int32)) (fun j => fr j - fh j) fx fy hci.toNat (ft (2 * pq + 0).toNatClampNeg + lw fp fh (axs 0 fx fy) pi hci.toNat).toInt64 (ft (2 * pq + 1).toNatClampNeg + lw fp fh (axs 1 fx fy) pi hci.toNat).toInt64 k v)) hF f28_18 (by clear hF; omega))⟩ (by (try dsimp only); have ek : (k_ + 1).toInt = k_.toInt + 1 := tI_add rfl (show (1 : Int32).toInt = 1 from by decide) (by omega); omega)
          ·
            refine z_run X br_X10_fewest_36_37 kr_X10_fewest_36_37 (lv' := [(4, .int k_), (0, .ref x), (1, .int pq), (2, .long bq)]) (st' := [.ref x]) rfl ?_
            refine z_callV X k_10_354 (cr_X10_tellSearchedS l G x told x_reader (.ref ring) x_speeds x_wheel x_trials x_span search x_kept x_crosses x_trueMasses (.ref thought) x_up x_low x_fits x_pulls tn tl fn hn2_10 1 afr aup axx ayy asx asy asz apu abe oz2_15 fo2_16 lc2_17 fbe2_14 hn2_10.toInt rfl (by omega)) dr_X10_fewest_37 2 rfl rfl rfl ⟨Nat.le_of_ble_eq_true rfl, Nat.le_of_ble_eq_true rfl⟩ ⟨Nat.le_of_ble_eq_true rfl, Nat.le_of_ble_eq_true rfl⟩ rfl (rest := []) (As := []) rfl (Nat.le_of_ble_eq_true rfl) [2, 0, 1, 11, 20] [3, 4, 5, 6, 7, 8, 9, 10, 12, 13, 14, 15, 16, 17, 18, 19] rfl (by decide) (wr := [(ring, ob 5 [.int hc, .ref rp, .ref rx, .ref ry, .ref rr, .ref rh, .ref rd, g_ph, g_po]), (rp, aI G 16 fp), (rx, aI G 16 fx), (ry, aI G 16 fy), (rr, aI G 16 fr), (rh, aI G 16 fh), (rd, aI G 16 fd), (thought, aI G 8 ft), (afr, aI G 16 ffr2_5), (aup, aI G 16 fup2_6), (axx, aJ G 6 fxx2_11), (ayy, aJ G 6 fyy2_12), (asx, aJ G 96 fsx2_7), (asy, aJ G 96 fsy2_8), (asz, aJ G 16 fsz2_9), (apu, aI G 16 fpu2_13)]) rfl (by decide) (by decide) ?_
            rintro _ _ ⟨tl2_21, fn2_22, f37_23, rfl, rfl⟩
            refine Z.at (pc' := 40) (st' := []) (ws' := [(ring, ob 5 [.int hc, .ref rp, .ref rx, .ref ry, .ref rr, .ref rh, .ref rd, g_ph, g_po]), (rp, aI G 16 fp), (rx, aI G 16 fx), (ry, aI G 16 fy), (rr, aI G 16 fr), (rh, aI G 16 fh), (rd, aI G 16 fd), (thought, aI G 8 ft), (afr, aI G 16 ffr2_5), (aup, aI G 16 fup2_6), (axx, aJ G 6 fxx2_11), (ayy, aJ G 6 fyy2_12), (asx, aJ G 96 fsx2_7), (asy, aJ G 96 fsy2_8), (asz, aJ G 16 fsz2_9), (apu, aI G 16 fpu2_13), (x, ob 10 [.ref told, x_reader, .ref ring, x_speeds, x_wheel, x_trials, x_span, .ref search, x_kept, x_crosses, x_trueMasses, .ref thought, x_up, x_low, x_fits, x_pulls]), (told, ob 8 [.ref tn, .int tl2_21]), (tn, aJ G 16 fn2_22), (search, ob 6 [.int hn2_10, .int 1, .int 0, .ref afr, .ref aup, .ref axx, .ref ayy, .ref asx, .ref asy, .ref asz, .ref apu, .ref abe, .int oz2_15, .int fo2_16, .long lc2_17]), (abe, aI G 16 fbe2_14)]) (kc' := 0) (ks' := 0) rfl rfl rfl rfl rfl ?_
            refine z_run X br_X10_fewest_40_42 kr_X10_fewest_40_42 (lv' := [(4, .int k_), (0, .ref x), (1, .int pq), (2, .long bq)]) (st' := [.int k_]) rfl ?_
            exact z_iret X rfl dr_X10_fewest_42 (Nat.le_of_ble_eq_true rfl) (Nat.le_of_ble_eq_true rfl) ⟨k_, (Or.inr ⟨by omega, Or.inl ⟨by omega, ⟨_, f28_18, by omega⟩, hF⟩⟩), rfl⟩
      · exact ⟨(by (try dsimp only); have e0 : (0 : Int32).toInt = 0 := (by decide); omega), (by (try dsimp only); have e0 : (0 : Int32).toInt = 0 := (by decide); rw [e0]; exact fun k a b => absurd b (by omega))⟩
    ·
      refine z_run X br_X10_fewest_13_14 kr_X10_fewest_13_14 (lv' := [(0, .ref x), (1, .int pq), (2, .long bq)]) (st' := [.int (-1)]) rfl ?_
      exact z_iret X rfl dr_X10_fewest_14 (Nat.le_of_ble_eq_true rfl) (Nat.le_of_ble_eq_true rfl) ⟨((-1) : Int32), (Or.inl ⟨by omega, rfl⟩), rfl⟩

