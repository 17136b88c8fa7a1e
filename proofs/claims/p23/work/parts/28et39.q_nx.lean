/-! how many are alike, the most of them; a table of sizes; runs in a row that is in order -/
theorem updL_at9 {f : Nat → Int64} {k : Nat} {v : Int64} : vp_updL f k v k = v := if_pos rfl
theorem updL_off9 {f : Nat → Int64} {k j : Nat} {v : Int64} (h : j ≠ k) : vp_updL f k v j = f j := if_neg h
theorem ct_no9 {Q : Nat → Prop} [DecidablePred Q] : ∀ {n : Nat}, (∀ j, j < n → ¬ Q j) → ct Q n = 0
  | 0, _ => rfl
  | n + 1, h => by
    rw [ct_no (h n (Nat.lt_succ_self n))]
    exact ct_no9 (fun j hj => h j (Nat.lt_succ_of_lt hj))
theorem ct_all9 {Q : Nat → Prop} [DecidablePred Q] : ∀ {n : Nat}, (∀ j, j < n → Q j) → ct Q n = n
  | 0, _ => rfl
  | n + 1, h => by
    rw [ct_yes (h n (Nat.lt_succ_self n)), ct_all9 (fun j hj => h j (Nat.lt_succ_of_lt hj))]
theorem ct_add9 {P Q : Nat → Prop} [DecidablePred P] [DecidablePred Q] {t : Nat} (e : ∀ j, j ≠ t → (Q j ↔ P j)) (h0 : ¬ P t) (h1 : Q t) : ∀ {n : Nat}, t < n → ct Q n = ct P n + 1
  | n + 1, h => by
    by_cases c : t = n
    · subst c
      rw [ct_yes h1, ct_no h0, ct_congr (fun j hj => e j (Nat.ne_of_lt hj))]
    · have ih := ct_add9 e h0 h1 (n := n) (by omega)
      by_cases p : P n
      · rw [ct_yes p, ct_yes ((e n (fun z => c z.symm)).mpr p), ih]
      · rw [ct_no p, ct_no (fun z => p ((e n (fun z => c z.symm)).mp z)), ih]
def mul (f : Nat → Int64) : Nat → Int64 → Nat
  | 0, _ => 0
  | n + 1, v => if f n = v then mul f n v + 1 else mul f n v
def mxI (f : Nat → Int64) : Nat → Nat
  | 0 => 0
  | n + 1 => if mxI f n < mul f (n + 1) (f n) then mul f (n + 1) (f n) else mxI f n
section MULS
variable {f g : Nat → Int64} {n m : Nat} {v : Int64}
theorem mul_y (h : f n = v) : mul f (n + 1) v = mul f n v + 1 := if_pos h
theorem mul_n (h : ¬ f n = v) : mul f (n + 1) v = mul f n v := if_neg h
theorem mul_self : mul f (n + 1) (f n) = mul f n (f n) + 1 := mul_y rfl
theorem mxI_up : mxI f n ≤ mxI f (n + 1) ∧ mul f (n + 1) (f n) ≤ mxI f (n + 1) := by
  show mxI f n ≤ (if mxI f n < mul f (n + 1) (f n) then mul f (n + 1) (f n) else mxI f n) ∧ mul f (n + 1) (f n) ≤ (if mxI f n < mul f (n + 1) (f n) then mul f (n + 1) (f n) else mxI f n)
  by_cases c : mxI f n < mul f (n + 1) (f n)
  · rw [if_pos c]
    omega
  · rw [if_neg c]
    omega
theorem mul_mx : ∀ {n : Nat} {v : Int64}, mul f n v ≤ mxI f n
  | 0, _ => Nat.le_refl 0
  | n + 1, v => by
    obtain ⟨u1, u2⟩ := mxI_up (f := f) (n := n)
    by_cases c : f n = v
    · rw [← c]
      exact u2
    · rw [mul_n c]
      exact Nat.le_trans (mul_mx (n := n) (v := v)) u1
theorem mxI_ex : ∀ {n : Nat}, 0 < n → ∃ v, mul f n v = mxI f n
  | n + 1, _ => by
    by_cases c : mxI f n < mul f (n + 1) (f n)
    · exact ⟨f n, (show mxI f (n + 1) = mul f (n + 1) (f n) from if_pos c).symm⟩
    · have e : mxI f (n + 1) = mxI f n := if_neg c
      have s := mul_self (f := f) (n := n)
      by_cases z : 0 < n
      · obtain ⟨v, hv⟩ := mxI_ex (n := n) z
        refine ⟨v, ?_⟩
        by_cases d : f n = v
        · rw [d] at s c
          omega
        · rw [mul_n d, e, hv]
      · obtain rfl : n = 0 := by omega
        have z0 : mxI f 0 = 0 := rfl
        omega
theorem mxI_le (h : ∀ v, mul f n v ≤ mul g m v) : mxI f n ≤ mxI g m := by
  by_cases c : 0 < n
  · obtain ⟨v, e⟩ := mxI_ex (f := f) c
    rw [← e]
    exact Nat.le_trans (h v) mul_mx
  · obtain rfl : n = 0 := by omega
    exact Nat.zero_le _
theorem mxI_eq (h : ∀ v, mul f n v = mul g m v) : mxI f n = mxI g m := Nat.le_antisymm (mxI_le (fun v => Nat.le_of_eq (h v))) (mxI_le (fun v => Nat.le_of_eq (h v).symm))
theorem mul_cg : ∀ {n : Nat} {v : Int64}, (∀ j, j < n → f j = g j) → mul f n v = mul g n v
  | 0, _, _ => rfl
  | n + 1, v, h => by
    have ih := mul_cg (n := n) (v := v) (fun j hj => h j (Nat.lt_succ_of_lt hj))
    have e := h n (Nat.lt_succ_self n)
    by_cases c : f n = v
    · rw [mul_y c, mul_y (e ▸ c), ih]
    · rw [mul_n c, mul_n (fun z => c (e.trans z)), ih]
theorem mxI_cg (h : ∀ j, j < n → f j = g j) : mxI f n = mxI g n := mxI_eq (fun _ => mul_cg h)
theorem mul_0 (h : ∀ j, j < n → f j ≠ v) : mul f n v = 0 := by
  induction n with
  | zero => rfl
  | succ n ih =>
    rw [mul_n (h n (Nat.lt_succ_self n))]
    exact ih (fun j hj => h j (Nat.lt_succ_of_lt hj))
theorem mul_le : ∀ {n : Nat} {v : Int64}, mul f n v ≤ n
  | 0, _ => Nat.le_refl 0
  | n + 1, v => by
    have ih := mul_le (n := n) (v := v)
    by_cases c : f n = v
    · rw [mul_y c]
      omega
    · rw [mul_n c]
      omega
theorem mxI_n : ∀ {n : Nat}, mxI f n ≤ n
  | 0 => Nat.le_refl 0
  | n + 1 => by
    obtain ⟨v, e⟩ := mxI_ex (f := f) (Nat.succ_pos n)
    rw [← e]
    exact mul_le
theorem mxI_1 (h : 0 < n) : 1 ≤ mxI f n := by
  obtain ⟨k, rfl⟩ : ∃ k, n = k + 1 := ⟨n - 1, by omega⟩
  have u := (mxI_up (f := f) (n := k)).2
  rw [mul_self] at u
  omega
/-- counted no farther than to what is enough -/
theorem mxI_step : mxI f (n + 1) ≤ mxI f n + 1 := by
  have a := mul_mx (f := f) (n := n) (v := f n)
  have s := mul_self (f := f) (n := n)
  show (if mxI f n < mul f (n + 1) (f n) then mul f (n + 1) (f n) else mxI f n) ≤ _
  by_cases c : mxI f n < mul f (n + 1) (f n)
  · rw [if_pos c]
    omega
  · rw [if_neg c]
    omega
theorem mxI_mono : ∀ {k n : Nat}, n ≤ k → mxI f n ≤ mxI f k
  | 0, n, h => by
    obtain rfl : n = 0 := by omega
    exact Nat.le_refl _
  | k + 1, n, h => by
    by_cases c : n = k + 1
    · rw [c]
      exact Nat.le_refl _
    · exact Nat.le_trans (mxI_mono (k := k) (n := n) (by omega)) mxI_up.1
end MULS
/-! a row in order: runs -/
def Srt (g : Nat → Int64) (n : Nat) : Prop := ∀ i j, i ≤ j → j < n → (g i).toInt ≤ (g j).toInt
theorem run_y {g : Nat → Int64} {k : Nat} (h : g (k + 1) = g k) : mul g (k + 2) (g (k + 1)) = mul g (k + 1) (g k) + 1 := by
  rw [mul_self, h]
theorem run_n {g : Nat → Int64} {k n : Nat} (S : Srt g n) (hk : k + 1 < n) (h : g (k + 1) ≠ g k) : mul g (k + 2) (g (k + 1)) = 1 := by
  rw [mul_self, mul_0 (fun j hj e => ?_)]
  have a := S j k (by omega) (by omega)
  have b := S k (k + 1) (by omega) hk
  rw [e] at a
  exact h (Int64.toInt_inj.mp (by omega))
/-! a table of sizes: slots, how many there, which -/
def HTb (f : Nat → Int64) (n S : Nat) (hs : Int64 → Nat) (T : Nat → Int32) (K : Nat → Int64) : Prop := (∀ s, s < S → 0 ≤ (T s).toInt ∧ (0 < (T s).toInt → (T s).toInt = ((mul f n (K s) : Nat) : Int))) ∧ (∀ s s', s < S → s' < S → 0 < (T s).toInt → 0 < (T s').toInt → K s = K s' → s = s') ∧ (∀ v, 0 < mul f n v → ∃ d, d < S ∧ (0 < (T ((hs v + d) % S)).toInt ∧ K ((hs v + d) % S) = v) ∧ ∀ e, e < d → 0 < (T ((hs v + e) % S)).toInt) ∧ ct (fun s => 0 < (T s).toInt) S ≤ n
theorem HTb.zero {f : Nat → Int64} {S : Nat} {hs : Int64 → Nat} {T : Nat → Int32} {K : Nat → Int64} (h : ∀ s, s < S → T s = 0) : HTb f 0 S hs T K := by
  have z0 : (0 : Int32).toInt = 0 := by decide
  have z : ∀ s, s < S → (T s).toInt = 0 := fun s hs_ => by rw [h s hs_, z0]
  refine ⟨fun s hs_ => ⟨by rw [z s hs_]; exact Int.le_refl 0, fun q => by rw [z s hs_] at q; exact absurd q (Int.lt_irrefl 0)⟩, fun s s' hs_ _ q => by rw [z s hs_] at q; exact absurd q (Int.lt_irrefl 0), fun v q => absurd q (Nat.lt_irrefl 0), Nat.le_of_eq (ct_no9 (fun s hs_ q => by rw [z s hs_] at q; exact absurd q (Int.lt_irrefl 0)))⟩
theorem md_hit {h S s : Nat} (hs : s < S) : ∃ e, e < S ∧ (h + e) % S = s := by
  have m := Nat.mod_lt h (show 0 < S by omega)
  by_cases c : h % S ≤ s
  · refine ⟨s - h % S, by omega, ?_⟩
    rw [Nat.add_mod, Nat.mod_eq_of_lt (show s - h % S < S by omega), show h % S + (s - h % S) = s by omega]
    exact Nat.mod_eq_of_lt hs
  · refine ⟨s + S - h % S, by omega, ?_⟩
    rw [Nat.add_mod, Nat.mod_eq_of_lt (show s + S - h % S < S by omega), show h % S + (s + S - h % S) = s + S by omega, Nat.add_mod_right]
    exact Nat.mod_eq_of_lt hs
/-- a size is looked for, found or not, and told once more -/
theorem HTb.add {f : Nat → Int64} {n S d : Nat} {hs : Int64 → Nat} {T : Nat → Int32} {K : Nat → Int64} {v : Int64} {c : Nat} (H : HTb f n S hs T K) (hn : n < S) (hn2 : n < 20000) (ev : f n = v) (ec : c = (hs v + d) % S) (hd : d ≤ S) (hb : ∀ e, e < d → 0 < (T ((hs v + e) % S)).toInt ∧ K ((hs v + e) % S) ≠ v) (he : d = S ∨ ¬ 0 < (T c).toInt ∨ K c = v) : (T c + 1).toInt = ((mul f (n + 1) v : Nat) : Int) ∧ HTb f (n + 1) S hs (upd T c (T c + 1)) (vp_updL K c v) := by
  obtain ⟨H1, H2, H3, H4⟩ := H
  have hS : 0 < S := by omega
  have hc : c < S := by
    rw [ec]
    exact Nat.mod_lt _ hS
  have hdS : d < S := by
    refine Nat.lt_of_le_of_ne hd (fun e => ?_)
    have all : ct (fun s => 0 < (T s).toInt) S = S := ct_all9 (fun s hs_ => by
      obtain ⟨k, k1, k2⟩ := md_hit (h := hs v) hs_
      have z := (hb k (by omega)).1
      rw [k2] at z
      exact z)
    omega
  have z1 : (1 : Int32).toInt = 1 := by decide
  have key : ∀ s, s < S → s ≠ c → 0 < (T s).toInt → K s ≠ v := fun s hs_ hne hu e => by
    have m := (H1 s hs_).2 hu
    rw [e] at m
    obtain ⟨d', g1, ⟨g2, g3⟩, g4⟩ := H3 v (by omega)
    have es : s = (hs v + d') % S := H2 _ _ hs_ (Nat.mod_lt _ hS) hu g2 (e.trans g3.symm)
    by_cases c1 : d' < d
    · exact (hb d' c1).2 g3
    · by_cases c2 : d' = d
      · rw [c2, ← ec] at es
        exact hne es
      · have z := g4 d (by omega)
        rw [← ec] at z
        rcases he with h | h | h
        · omega
        · exact h z
        · exact hne (H2 _ _ hs_ hc hu z (e.trans h.symm))
  have hT : (T c).toInt = ((mul f n v : Nat) : Int) := by
    by_cases u : 0 < (T c).toInt
    · have ek : K c = v := by
        rcases he with h | h | h
        · omega
        · exact absurd u h
        · exact h
      rw [(H1 c hc).2 u, ek]
    · have t0 := (H1 c hc).1
      have z : mul f n v = 0 := by
        refine Nat.eq_zero_of_not_pos (fun q => ?_)
        obtain ⟨d', g1, ⟨g2, g3⟩, g4⟩ := H3 v q
        by_cases c1 : (hs v + d') % S = c
        · rw [c1] at g2
          exact u g2
        · exact key _ (Nat.mod_lt _ hS) c1 g2 g3
      rw [z]
      omega
  have ml := mul_le (f := f) (n := n) (v := v)
  have e1 : (T c + 1).toInt = (T c).toInt + 1 := tI_add rfl z1 (by omega)
  have e2 : (T c + 1).toInt = ((mul f (n + 1) v : Nat) : Int) := by
    rw [e1, hT, mul_y ev]
    omega
  have uT : ∀ s, 0 < (T s).toInt → 0 < (upd T c (T c + 1) s).toInt := fun s q => by
    by_cases e : s = c
    · rw [e, upd_at]
      omega
    · rw [upd_off e]
      exact q
  have uK : ∀ s, s < S → 0 < (T s).toInt → vp_updL K c v s = K s := fun s hs_ q => by
    by_cases e : s = c
    · rw [e, updL_at9]
      rw [e] at q
      rcases he with h | h | h
      · omega
      · exact absurd q h
      · exact h.symm
    · exact updL_off9 e
  refine ⟨e2, fun s hs_ => ?_, fun s s' hs_ hs' u u' e => ?_, fun w hw => ?_, ?_⟩
  · by_cases e : s = c
    · rw [e, upd_at, updL_at9]
      exact ⟨by omega, fun _ => e2⟩
    · rw [upd_off e, updL_off9 e]
      refine ⟨(H1 s hs_).1, fun q => ?_⟩
      rw [(H1 s hs_).2 q, mul_n (fun z => key s hs_ e q (ev.symm.trans z).symm)]
  · by_cases a : s = c
    · by_cases b : s' = c
      · rw [a, b]
      · rw [upd_off b] at u'
        rw [a, updL_at9, updL_off9 b] at e
        exact absurd e.symm (key s' hs' b u')
    · rw [upd_off a] at u
      rw [updL_off9 a] at e
      by_cases b : s' = c
      · rw [b, updL_at9] at e
        exact absurd e (key s hs_ a u)
      · rw [upd_off b] at u'
        rw [updL_off9 b] at e
        exact H2 s s' hs_ hs' u u' e
  · by_cases a : w = v
    · rw [a]
      refine ⟨d, hdS, ?_, fun e he_ => uT _ (hb e he_).1⟩
      rw [← ec, upd_at, updL_at9]
      exact ⟨by omega, rfl⟩
    · rw [mul_n (fun z => a (z.symm.trans ev))] at hw
      obtain ⟨d', g1, ⟨g2, g3⟩, g4⟩ := H3 w hw
      exact ⟨d', g1, ⟨uT _ g2, (uK _ (Nat.mod_lt _ hS) g2).trans g3⟩, fun e he_ => uT _ (g4 e he_)⟩
  · by_cases u : 0 < (T c).toInt
    · refine Nat.le_trans (Nat.le_of_eq (ct_congr (fun s hs_ => ⟨fun q => ?_, fun q => uT s q⟩))) (Nat.le_succ_of_le H4)
      by_cases e : s = c
      · rw [e]
        exact u
      · rw [upd_off e] at q
        exact q
    · rw [ct_add9 (P := fun s => 0 < (T s).toInt) (t := c) (fun s hne => by rw [upd_off hne]) u (by rw [upd_at]; omega) hc]
      omega
/-! a row's part: how often, in order; two parts merged -/
def mulR (f : Nat → Int64) (a : Nat) : Nat → Int64 → Nat := fun k v => mul (fun j => f (a + j)) k v
theorem mulR_y {f : Nat → Int64} {a k : Nat} {v : Int64} (h : f (a + k) = v) : mulR f a (k + 1) v = mulR f a k v + 1 := mul_y (f := fun j => f (a + j)) h
theorem mulR_n {f : Nat → Int64} {a k : Nat} {v : Int64} (h : ¬ f (a + k) = v) : mulR f a (k + 1) v = mulR f a k v := mul_n (f := fun j => f (a + j)) h
theorem mulR_cg {f g : Nat → Int64} {a k : Nat} {v : Int64} (h : ∀ j, a ≤ j → j < a + k → f j = g j) : mulR f a k v = mulR g a k v := mul_cg (fun j hj => h (a + j) (by omega) (by omega))
theorem mul_split {f : Nat → Int64} {v : Int64} {a : Nat} : ∀ {k : Nat}, mul f (a + k) v = mul f a v + mulR f a k v
  | 0 => rfl
  | k + 1 => by
    have ih := mul_split (f := f) (v := v) (a := a) (k := k)
    by_cases c : f (a + k) = v
    · rw [mulR_y c, show a + (k + 1) = (a + k) + 1 by omega, mul_y c, ih]
      omega
    · rw [mulR_n c, show a + (k + 1) = (a + k) + 1 by omega, mul_n c, ih]
theorem mulR_split {f : Nat → Int64} {v : Int64} {a b c : Nat} (h1 : a ≤ b) (h2 : b ≤ c) : mulR f a (c - a) v = mulR f a (b - a) v + mulR f b (c - b) v := by
  have e : mulR f b (c - b) v = mulR (fun j => f (a + j)) (b - a) (c - b) v := by
    unfold mulR
    exact mul_cg (fun j _ => by show f (b + j) = f (a + (b - a + j)); rw [show a + (b - a + j) = b + j by omega])
  rw [e, show c - a = (b - a) + (c - b) by omega]
  exact mul_split
/-- in order from a to b -/
def SrR (g : Nat → Int64) (a b : Nat) : Prop := ∀ i j, a ≤ i → i ≤ j → j < b → (g i).toInt ≤ (g j).toInt
/-- what one call of sorts does -/
def SoW (f g : Nat → Int64) (a b : Nat) : Prop := SrR g a b ∧ (∀ v, mulR g a (b - a) v = mulR f a (b - a) v) ∧ ∀ j, (j < a ∨ b ≤ j) → g j = f j
theorem SoW.small {f : Nat → Int64} {a b : Nat} (h : b ≤ a + 1) : SoW f f a b := ⟨fun i j h1 h2 h3 => by rw [show i = j by omega]; exact Int.le_refl _, fun _ => rfl, fun _ _ => rfl⟩
/-- both halves are in order -/
theorem SoW.halves {f g h : Nat → Int64} {a m b : Nat} (am : a ≤ m) (mb : m ≤ b) (A : SoW f g a m) (B : SoW g h m b) : (SrR h a m ∧ SrR h m b) ∧ (∀ v, mulR h a (b - a) v = mulR f a (b - a) v) ∧ ∀ j, (j < a ∨ b ≤ j) → h j = f j := by
  obtain ⟨a1, a2, a3⟩ := A
  obtain ⟨b1, b2, b3⟩ := B
  refine ⟨⟨fun i j h1 h2 h3 => ?_, b1⟩, fun v => ?_, fun j hj => ?_⟩
  · rw [b3 i (by omega), b3 j (by omega)]
    exact a1 i j h1 h2 h3
  · rw [mulR_split am mb, mulR_split am mb, b2 v, ← a2 v, mulR_cg (f := h) (g := g) (fun j h1 h2 => b3 j (by omega)), mulR_cg (f := g) (g := f) (a := m) (fun j h1 h2 => a3 j (by omega))]
  · rw [b3 j (by omega)]
    exact a3 j (by omega)
/-- the merge: k laid, p of the first half, q of the second -/
def MgE (f g : Nat → Int64) (a m b k p q : Nat) : Prop := ((a ≤ p ∧ p ≤ m) ∧ (m ≤ q ∧ q ≤ b) ∧ k + m = p + q) ∧ (∀ v, mulR g a (k - a) v = mulR f a (p - a) v + mulR f m (q - m) v) ∧ SrR g a k ∧ (∀ i j, a ≤ i → i < k → (p ≤ j ∧ j < m ∨ q ≤ j ∧ j < b) → (g i).toInt ≤ (f j).toInt)
theorem MgE.zero {f g : Nat → Int64} {a m b : Nat} (am : a ≤ m) (mb : m ≤ b) : MgE f g a m b a a m := by
  refine ⟨⟨⟨Nat.le_refl _, am⟩, ⟨Nat.le_refl _, mb⟩, rfl⟩, fun v => ?_, fun i j h1 h2 h3 => by omega, fun i j h1 h2 => by omega⟩
  rw [Nat.sub_self, Nat.sub_self]
  rfl
theorem MgE.first {f g : Nat → Int64} {a m b k p q c : Nat} (H : MgE f g a m b k p q) (F : SrR f a m) (S : SrR f m b) (hp : p < m) (hq : q = b ∨ (f p).toInt ≤ (f q).toInt) (ec : c = k) : MgE f (vp_updL g c (f p)) a m b (k + 1) (p + 1) q := by
  subst ec
  obtain ⟨⟨h1, h2, h3⟩, h4, h5, h6⟩ := H
  have le : ∀ j, (p ≤ j ∧ j < m ∨ q ≤ j ∧ j < b) → (f p).toInt ≤ (f j).toInt := fun j hj => by
    rcases hj with hj | hj
    · exact F p j h1.1 hj.1 hj.2
    · rcases hq with e | e
      · omega
      · exact Int.le_trans e (S q j h2.1 hj.1 hj.2)
  refine ⟨⟨by omega, h2, by omega⟩, fun v => ?_, fun i j i1 i2 i3 => ?_, fun i j i1 i2 i3 => ?_⟩
  · have e1 : mulR (vp_updL g c (f p)) a (c - a) v = mulR g a (c - a) v := mulR_cg (fun j _ hj => updL_off9 (by omega))
    by_cases y : f p = v
    · rw [show c + 1 - a = (c - a) + 1 by omega, mulR_y (by rw [show a + (c - a) = c by omega, updL_at9]; exact y), e1, h4 v, show p + 1 - a = (p - a) + 1 by omega, mulR_y (f := f) (by rw [show a + (p - a) = p by omega]; exact y)]
      omega
    · rw [show c + 1 - a = (c - a) + 1 by omega, mulR_n (by rw [show a + (c - a) = c by omega, updL_at9]; exact y), e1, h4 v, show p + 1 - a = (p - a) + 1 by omega, mulR_n (f := f) (by rw [show a + (p - a) = p by omega]; exact y)]
  · by_cases y : j = c
    · rw [y, updL_at9]
      by_cases z : i = c
      · rw [z, updL_at9]
        exact Int.le_refl _
      · rw [updL_off9 z]
        exact h6 i p i1 (by omega) (Or.inl ⟨Nat.le_refl _, hp⟩)
    · rw [updL_off9 y, updL_off9 (by omega)]
      exact h5 i j i1 i2 (by omega)
  · by_cases y : i = c
    · rw [y, updL_at9]
      exact le j (by omega)
    · rw [updL_off9 y]
      exact h6 i j i1 (by omega) (by omega)
theorem MgE.second {f g : Nat → Int64} {a m b k p q c : Nat} (H : MgE f g a m b k p q) (F : SrR f a m) (S : SrR f m b) (hq : q < b) (hp : p = m ∨ (f q).toInt ≤ (f p).toInt) (ec : c = k) : MgE f (vp_updL g c (f q)) a m b (k + 1) p (q + 1) := by
  subst ec
  obtain ⟨⟨h1, h2, h3⟩, h4, h5, h6⟩ := H
  have le : ∀ j, (p ≤ j ∧ j < m ∨ q ≤ j ∧ j < b) → (f q).toInt ≤ (f j).toInt := fun j hj => by
    rcases hj with hj | hj
    · rcases hp with e | e
      · omega
      · exact Int.le_trans e (F p j h1.1 hj.1 hj.2)
    · exact S q j h2.1 hj.1 hj.2
  refine ⟨⟨h1, by omega, by omega⟩, fun v => ?_, fun i j i1 i2 i3 => ?_, fun i j i1 i2 i3 => ?_⟩
  · have e1 : mulR (vp_updL g c (f q)) a (c - a) v = mulR g a (c - a) v := mulR_cg (fun j _ hj => updL_off9 (by omega))
    by_cases y : f q = v
    · rw [show c + 1 - a = (c - a) + 1 by omega, mulR_y (by rw [show a + (c - a) = c by omega, updL_at9]; exact y), e1, h4 v, show q + 1 - m = (q - m) + 1 by omega, mulR_y (f := f) (by rw [show m + (q - m) = q by omega]; exact y)]
      omega
    · rw [show c + 1 - a = (c - a) + 1 by omega, mulR_n (by rw [show a + (c - a) = c by omega, updL_at9]; exact y), e1, h4 v, show q + 1 - m = (q - m) + 1 by omega, mulR_n (f := f) (by rw [show m + (q - m) = q by omega]; exact y)]
  · by_cases y : j = c
    · rw [y, updL_at9]
      by_cases z : i = c
      · rw [z, updL_at9]
        exact Int.le_refl _
      · rw [updL_off9 z]
        exact h6 i q i1 (by omega) (Or.inr ⟨Nat.le_refl _, hq⟩)
    · rw [updL_off9 y, updL_off9 (by omega)]
      exact h5 i j i1 i2 (by omega)
  · by_cases y : i = c
    · rw [y, updL_at9]
      exact le j (by omega)
    · rw [updL_off9 y]
      exact h6 i j i1 (by omega) (by omega)
/-- merged and copied back: one call's end -/
theorem SoW.of {f h g r : Nat → Int64} {a m b : Nat} {p q : Nat} (am : a ≤ m) (mb : m ≤ b) (H : (∀ v, mulR h a (b - a) v = mulR f a (b - a) v) ∧ ∀ j, (j < a ∨ b ≤ j) → h j = f j) (M : MgE h g a m b b p q) (R : ∀ j, (a ≤ j → j < b → r j = g j) ∧ ((j < a ∨ b ≤ j) → r j = h j)) : SoW f r a b := by
  obtain ⟨⟨h1, h2, h3⟩, h4, h5, -⟩ := M
  have ep : p = m := by omega
  have eq : q = b := by omega
  refine ⟨fun i j i1 i2 i3 => ?_, fun v => ?_, fun j hj => ?_⟩
  · rw [(R i).1 i1 (by omega), (R j).1 (by omega) i3]
    exact h5 i j i1 i2 i3
  · rw [mulR_cg (g := g) (fun j j1 j2 => (R j).1 j1 (by omega)), h4 v, ep, eq, ← mulR_split am mb]
    exact H.1 v
  · rw [(R j).2 hj]
    exact H.2 j hj
/-! the class's table, bit for bit -/
theorem sh7 {x : Int32} {a : Int} (e : x.toInt = a) (h : 0 ≤ a) : (x >>> ((7 : Int32) &&& 31)).toInt = a / 128 := by
  have hb := x.toBitVec.isLt
  have h7 : (((7 : Int32) &&& 31).toBitVec.smod 32).toNat = 7 := by decide
  have e1 : (x >>> ((7 : Int32) &&& 31)).toBitVec = x.toBitVec.sshiftRight 7 := by
    rw [Int32.toBitVec_shiftRight]
    show x.toBitVec.sshiftRight (((7 : Int32) &&& 31).toBitVec.smod 32).toNat = _
    rw [h7]
  have e2 : (x >>> ((7 : Int32) &&& 31)).toInt = (x.toBitVec.sshiftRight 7).toInt := congrArg BitVec.toInt e1
  rw [e2, BitVec.toInt_sshiftRight]
  have e3 : x.toBitVec.toInt = a := e
  rw [e3, Int.shiftRight_eq_div_pow]
  rfl
theorem an7 {x : Int32} {a : Int} (e : x.toInt = a) (h : 0 ≤ a) : (x &&& 127).toInt = a % 128 := by
  rw [← e]
  exact and127 (by omega)
theorem mk7 {i j : Int32} {a b : Int} (ei : i.toInt = a) (ej : j.toInt = b) (ha : 0 ≤ a ∧ a ≤ 120) (hb : 0 ≤ b ∧ b ≤ 120) : ((i <<< ((7 : Int32) &&& 31)) ||| j).toInt = 128 * a + b := by
  have e7 : (7 : Int32).toInt = 7 := rfl
  have hs : (i <<< ((7 : Int32) &&& 31)).toInt = i.toInt * 128 := shl_eq (by omega) (by decide) (by decide) (by rw [e7]; show i.toInt * 128 < _; omega)
  obtain ⟨a1, a2⟩ := i32_nn (x := i <<< ((7 : Int32) &&& 31)) (by omega)
  obtain ⟨b1, b2⟩ := i32_nn (x := j) (by omega)
  have e1 : ((i <<< ((7 : Int32) &&& 31)) ||| j).toBitVec.toNat = (i <<< ((7 : Int32) &&& 31)).toBitVec.toNat ||| j.toBitVec.toNat := by
    show ((i <<< ((7 : Int32) &&& 31)).toBitVec ||| j.toBitVec).toNat = _
    rw [BitVec.toNat_or]
  have e2 : (i <<< ((7 : Int32) &&& 31)).toBitVec.toNat = 2 ^ 7 * i.toInt.toNat := by omega
  rw [e2, ← Nat.two_pow_add_eq_or_of_lt (by omega : j.toBitVec.toNat < 2 ^ 7)] at e1
  have e3 := i32_of e1 (by omega)
  rw [e3]
  omega
/-- the numbers of slots -/
def Po2 (s : Int) : Prop := ∃ e : Nat, e ≤ 15 ∧ s = ((2 ^ e : Nat) : Int)
theorem Po2.two : Po2 2 := ⟨1, by decide, by decide⟩
theorem Po2.dbl {s : Int} (h : Po2 s) (l : s < 32768) : Po2 (s * 2) := by
  obtain ⟨e, h1, h2⟩ := h
  by_cases c : e = 15
  · rw [c] at h2
    have z : ((2 ^ 15 : Nat) : Int) = 32768 := by decide
    omega
  · refine ⟨e + 1, by omega, ?_⟩
    rw [h2, Nat.pow_succ]
    omega
theorem Po2.even {s : Int} (h : Po2 s) (l : s < 32768) : s * 2 ≤ 32768 := by
  obtain ⟨e, h1, h2⟩ := h
  have z : ((2 ^ 15 : Nat) : Int) = 32768 := by decide
  by_cases c : e = 15
  · rw [c] at h2
    omega
  · have p2 : 2 ^ e ≤ 2 ^ 14 := Nat.pow_le_pow_right (by decide) (by omega)
    have p3 : (2 : Nat) ^ 14 = 16384 := by decide
    omega
/-- a slot by its mask -/
theorem msk {x s : Int32} {S : Int} (hs : s.toInt = S) (hp : Po2 S) : (0 ≤ (x &&& (s - 1)).toInt ∧ (x &&& (s - 1)).toInt < S) ∧ (0 ≤ x.toInt → (x &&& (s - 1)).toInt = x.toInt % S) := by
  obtain ⟨e, h1, h2⟩ := hp
  have p1 : 1 ≤ 2 ^ e := Nat.one_le_two_pow
  have p2 : 2 ^ e ≤ 2 ^ 15 := Nat.pow_le_pow_right (by decide) h1
  have p3 : (2 : Nat) ^ 15 = 32768 := by decide
  have e1 : (s - 1).toInt = S - 1 := tI_sub hs (show (1 : Int32).toInt = 1 from by decide) (by omega)
  obtain ⟨a1, a2⟩ := i32_nn (x := s - 1) (by omega)
  have en : (s - 1).toBitVec.toNat = 2 ^ e - 1 := by omega
  have e2 : (x &&& (s - 1)).toBitVec.toNat = x.toBitVec.toNat % 2 ^ e := by
    show (x.toBitVec &&& (s - 1).toBitVec).toNat = _
    rw [BitVec.toNat_and, en]
    exact Nat.and_two_pow_sub_one_eq_mod _ e
  have m := Nat.mod_lt x.toBitVec.toNat (show 0 < 2 ^ e by omega)
  have e3 := i32_of e2 (by omega)
  refine ⟨by rw [e3]; omega, fun h => ?_⟩
  obtain ⟨b1, b2⟩ := i32_nn h
  rw [e3, b1, h2]
  omega
/-- where a size's search begins -/
def hsh (s : Int32) (v : Int64) : Int32 := (((v * (-7046029254386353131)).toUInt64 >>> ((40 : Int32).toInt64.toUInt64 &&& Int64.toUInt64 63)).toInt64).toInt32 &&& (s - 1)
def hsN (s : Int32) (v : Int64) : Nat := (hsh s v).toInt.toNat
theorem nxt_slot {c s : Int32} {S : Int} {h : Nat} {t : Int} (hs : s.toInt = S) (hp : Po2 S) (hS : 1 ≤ S ∧ S ≤ 32768) (h0 : 0 ≤ c.toInt ∧ c.toInt < S) (ht : 0 ≤ t) (e : c.toInt.toNat = (h + t.toNat) % S.toNat) : (0 ≤ ((c + 1) &&& (s - 1)).toInt ∧ ((c + 1) &&& (s - 1)).toInt < S) ∧ ((c + 1) &&& (s - 1)).toInt.toNat = (h + (t + 1).toNat) % S.toNat := by
  have e1 : (c + 1).toInt = c.toInt + 1 := tI_add rfl (show (1 : Int32).toInt = 1 from by decide) (by omega)
  obtain ⟨a, b⟩ := msk (x := c + 1) hs hp
  refine ⟨a, ?_⟩
  have b := b (by omega)
  rw [b, e1]
  have k : (h + (t + 1).toNat) % S.toNat = (c.toInt.toNat + 1) % S.toNat := by
    rw [show h + (t + 1).toNat = (h + t.toNat) + 1 by omega, Nat.add_mod (h + t.toNat) 1, ← e, Nat.add_mod c.toInt.toNat 1, Nat.mod_eq_of_lt (show c.toInt.toNat < S.toNat by omega)]
  have e7 : (c.toInt + 1) % S = (((c.toInt.toNat + 1) % S.toNat : Nat) : Int) := by
    have q := Int.natCast_emod (c.toInt.toNat + 1) S.toNat
    rw [show ((c.toInt.toNat + 1 : Nat) : Int) = c.toInt + 1 by omega, show ((S.toNat : Nat) : Int) = S by omega] at q
    exact q.symm
  rw [k, e7]
  exact Int.toNat_natCast _
/-- what one look into the table does -/
def TaE (s : Int32) (v : Int64) (T : Nat → Int32) (K : Nat → Int64) (T2 : Nat → Int32) (K2 : Nat → Int64) (z : Int32) : Prop := ∃ d c : Nat, (c = (hsN s v + d) % s.toInt.toNat ∧ d ≤ s.toInt.toNat) ∧ (∀ e, e < d → 0 < (T ((hsN s v + e) % s.toInt.toNat)).toInt ∧ K ((hsN s v + e) % s.toInt.toNat) ≠ v) ∧ (d = s.toInt.toNat ∨ ¬ 0 < (T c).toInt ∨ K c = v) ∧ T2 = upd T c (T c + 1) ∧ K2 = vp_updL K c v ∧ z = T c + 1
theorem TaE.add {s : Int32} {v : Int64} {T T2 : Nat → Int32} {K K2 : Nat → Int64} {z : Int32} {f : Nat → Int64} {n : Nat} (E : TaE s v T K T2 K2 z) (H : HTb f n s.toInt.toNat (hsN s) T K) (hn : n < s.toInt.toNat) (hn2 : n < 20000) (ev : f n = v) : z.toInt = ((mul f (n + 1) v : Nat) : Int) ∧ HTb f (n + 1) s.toInt.toNat (hsN s) T2 K2 := by
  obtain ⟨d, c, ⟨e1, e2⟩, e3, e4, rfl, rfl, rfl⟩ := E
  exact H.add hn hn2 ev e1 e2 e3 e4
/-- sizes of pulls: squares by their numbers -/
def sqS (a b : Int32) (p : Nat) : Int64 := (a * Int32.ofInt ((p : Int) - 60) + b).toInt64 * (a * Int32.ofInt ((p : Int) - 60) + b).toInt64
theorem sqS_i {a b i : Int32} (h : 0 ≤ i.toInt ∧ i.toInt ≤ 121) : (a * (i - 60) + b).toInt64 * (a * (i - 60) + b).toInt64 = sqS a b i.toInt.toNat := by
  have e : Int32.ofInt (((i.toInt.toNat : Nat) : Int) - 60) = i - 60 := by
    refine Int32.toInt_inj.mp ?_
    rw [Int32.toInt_ofInt_of_le (by omega) (by omega)]
    have e1 : (i - 60).toInt = i.toInt - 60 := tI_sub rfl (show (60 : Int32).toInt = 60 from by decide) (by omega)
    omega
  unfold sqS
  rw [e]
theorem st_stepJ {g F : Nat → Int64} {i : Int32} {v : Int64} (h0 : 0 ≤ i.toInt) (h : ∀ p : Nat, (p : Int) < i.toInt → g p = F p) (hv : v = F i.toInt.toNat) : ∀ p : Nat, (p : Int) < i.toInt + 1 → vp_updL g i.toNatClampNeg v p = F p := fun p hp => by
  by_cases k : p = i.toInt.toNat
  · rw [k]
    exact (updL_at9 (f := g) (k := i.toNatClampNeg)).trans hv
  · rw [updL_off9 (show p ≠ i.toNatClampNeg from k)]
    exact h p (by omega)
def szF (qx qy : Nat → Int64) (co : Nat → Int32) (j : Nat) : Int64 := qx ((co j).toInt / 128).toNat + qy ((co j).toInt % 128).toNat
theorem mxS {f : Nat → Int64} {n : Nat} {m z : Int32} (hm : Eqf m.toInt ((mxI f n : Nat) : Int)) (hz : z.toInt = ((mul f (n + 1) (f n) : Nat) : Int)) : Eqf (if m < z then z else m).toInt ((mxI f (n + 1) : Nat) : Int) := by
  have hm : m.toInt = _ := hm
  show _ = (((if mxI f n < mul f (n + 1) (f n) then mul f (n + 1) (f n) else mxI f n) : Nat) : Int)
  by_cases c : m < z
  · have d := Int32.lt_iff_toInt_lt.mp c
    rw [if_pos c, if_pos (by omega)]
    exact hz
  · have d := Int.not_lt.mp (fun q => c (Int32.lt_iff_toInt_lt.mpr q))
    rw [if_neg c, if_neg (by omega)]
    exact hm
theorem mx_end {f : Nat → Int64} {n N : Nat} {m e : Int} (hM : m = ((mxI f n : Nat) : Int)) (hm : m ≤ e) (hn : n ≤ N) (h : n = N ∨ e ≤ m) : m = min ((mxI f N : Nat) : Int) e := by
  have u := mxI_mono (f := f) hn
  rcases h with h | h
  · rw [h] at hM
    omega
  · omega
/-! sorts: how deep it goes -/
def PW (d : Nat) : Int := ((2 ^ d : Nat) : Int)
theorem PW_0 : PW 0 = 1 := rfl
theorem PW_S {d : Nat} : PW (d + 1) = 2 * PW d := by
  unfold PW
  rw [Nat.pow_succ]
  omega
theorem cpy_step {g f m : Nat → Int64} {c : Int32} {a : Int} (ha : a ≤ c.toInt) (h0 : 0 ≤ a) (h : ∀ j : Nat, (a ≤ (j : Int) → (j : Int) < c.toInt → g j = m j) ∧ (¬ (a ≤ (j : Int) ∧ (j : Int) < c.toInt) → g j = f j)) : ∀ j : Nat, (a ≤ (j : Int) → (j : Int) < c.toInt + 1 → vp_updL g c.toNatClampNeg (m c.toNatClampNeg) j = m j) ∧ (¬ (a ≤ (j : Int) ∧ (j : Int) < c.toInt + 1) → vp_updL g c.toNatClampNeg (m c.toNatClampNeg) j = f j) := fun j => by
  have ec : c.toNatClampNeg = c.toInt.toNat := rfl
  by_cases k : j = c.toNatClampNeg
  · rw [k, updL_at9]
    exact ⟨fun _ _ => rfl, fun q => absurd (show a ≤ ((c.toNatClampNeg : Nat) : Int) ∧ ((c.toNatClampNeg : Nat) : Int) < c.toInt + 1 by rw [ec]; omega) q⟩
  · rw [updL_off9 k]
    rw [ec] at k
    exact ⟨fun p q => (h j).1 p (by omega), fun q => (h j).2 (fun z => q ⟨z.1, by omega⟩)⟩
/-! a list of the places where P holds -/
def nxI (P : Nat → Prop) [DecidablePred P] : Nat → Nat → Nat
  | 0, _ => 0
  | n + 1, q => if P n ∧ q = ct P n then n else nxI P n q
theorem nxI_new {P : Nat → Prop} [DecidablePred P] {n : Nat} (h : P n) : nxI P (n + 1) (ct P n) = n := if_pos ⟨h, rfl⟩
theorem nxI_old {P : Nat → Prop} [DecidablePred P] {n q : Nat} (h : q < ct P n) : nxI P (n + 1) q = nxI P n q := if_neg (fun z => by omega)
theorem nxI_lt {P : Nat → Prop} [DecidablePred P] : ∀ {n q : Nat}, q < ct P n → nxI P n q < n ∧ P (nxI P n q)
  | 0, q, h => absurd h (Nat.not_lt_zero q)
  | n + 1, q, h => by
    by_cases c : P n
    · by_cases e : q = ct P n
      · rw [e, nxI_new c]
        exact ⟨Nat.lt_succ_self n, c⟩
      · rw [ct_yes c] at h
        have ih := nxI_lt (P := P) (n := n) (q := q) (by omega)
        rw [nxI_old (by omega)]
        exact ⟨by omega, ih.2⟩
    · rw [ct_no c] at h
      have ih := nxI_lt (P := P) (n := n) (q := q) h
      rw [nxI_old h]
      exact ⟨by omega, ih.2⟩
theorem nxI_cg {P Q : Nat → Prop} [DecidablePred P] [DecidablePred Q] : ∀ {n q : Nat}, (∀ j, j < n → (P j ↔ Q j)) → nxI P n q = nxI Q n q
  | 0, _, _ => rfl
  | n + 1, q, h => by
    have ih := nxI_cg (n := n) (q := q) (fun j hj => h j (Nat.lt_succ_of_lt hj))
    have e := h n (Nat.lt_succ_self n)
    have ec := ct_congr (P := P) (Q := Q) (n := n) (fun j hj => h j (Nat.lt_succ_of_lt hj))
    show (if P n ∧ q = ct P n then n else nxI P n q) = (if Q n ∧ q = ct Q n then n else nxI Q n q)
    rw [ih, ec]
    by_cases c : P n ∧ q = ct Q n
    · rw [if_pos c, if_pos ⟨e.mp c.1, c.2⟩]
    · rw [if_neg c, if_neg (fun z => c ⟨e.mpr z.1, z.2⟩)]
def GaL (P : Nat → Prop) [DecidablePred P] (n : Nat) (pl : Nat → Int32) (val : Nat → Int) : Prop := ∀ q, q < ct P n → (pl q).toInt = val (nxI P n q)
theorem GaL.zero {P : Nat → Prop} [DecidablePred P] {pl : Nat → Int32} {val : Nat → Int} : GaL P 0 pl val := fun q h => absurd h (Nat.not_lt_zero q)
theorem GaL.no {P : Nat → Prop} [DecidablePred P] {n : Nat} {pl : Nat → Int32} {val : Nat → Int} (h : GaL P n pl val) (c : ¬ P n) : GaL P (n + 1) pl val := fun q hq => by
  rw [ct_no c] at hq
  rw [nxI_old hq]
  exact h q hq
theorem GaL.yes {P : Nat → Prop} [DecidablePred P] {n c : Nat} {pl : Nat → Int32} {val : Nat → Int} {v : Int32} (h : GaL P n pl val) (p : P n) (e : c = ct P n) (hv : v.toInt = val n) : GaL P (n + 1) (upd pl c v) val := fun q hq => by
  subst e
  rw [ct_yes p] at hq
  by_cases k : q = ct P n
  · subst k
    rw [nxI_new p, upd_at]
    exact hv
  · rw [upd_off k, nxI_old (by omega)]
    exact h q (by omega)
theorem GaL.cg {P Q : Nat → Prop} [DecidablePred P] [DecidablePred Q] {n : Nat} {pl : Nat → Int32} {val : Nat → Int} (h : GaL P n pl val) (e : ∀ j, j < n → (P j ↔ Q j)) : GaL Q n pl val := fun q hq => by
  rw [← ct_congr e] at hq
  rw [← nxI_cg e]
  exact h q hq
/-- sizes of the reference's pulls -/
def sRF (b1 b2 b3 : Int64) (pu : Nat → Int32) (j : Nat) : Int64 := szL (b1 + b3 * (PX (pu j).toNatClampNeg).toInt64) (b2 + b3 * (PY (pu j).toNatClampNeg).toInt64)
theorem SoW.all {f g : Nat → Int64} {n : Nat} (h : SoW f g 0 n) : Srt g n ∧ mxI g n = mxI f n := by
  obtain ⟨h1, h2, -⟩ := h
  refine ⟨fun i j a b => h1 i j (Nat.zero_le i) a b, mxI_eq (fun v => ?_)⟩
  have z := h2 v
  rw [Nat.sub_zero] at z
  unfold mulR at z
  rw [mul_cg (f := fun j => g (0 + j)) (g := g) (fun j _ => by show g (0 + j) = g j; rw [Nat.zero_add]), mul_cg (f := fun j => f (0 + j)) (g := f) (fun j _ => by show f (0 + j) = f j; rw [Nat.zero_add])] at z
  exact z
theorem PW_14 : PW 14 = 16384 := by decide
theorem run_a {g : Nat → Int64} {n : Nat} {r r' : Int32} {k : Int} (hk : 0 ≤ k ∧ k < (n : Int)) (S : Srt g n) (hn : n ≤ 14641) (hR : k = 0 ∨ Eqf r.toInt ((mul g k.toNat (g (k.toNat - 1)) : Nat) : Int)) (h : (k ≤ 0 ∧ r' = 1) ∨ (0 < k ∧ (g k.toNat).toInt ≠ (g (k.toNat - 1)).toInt ∧ r' = 1) ∨ (0 < k ∧ (g k.toNat).toInt = (g (k.toNat - 1)).toInt ∧ r' = r + 1)) : r'.toInt = ((mul g (k.toNat + 1) (g k.toNat) : Nat) : Int) := by
  have z1 : (1 : Int32).toInt = 1 := by decide
  rcases h with ⟨a, b⟩ | ⟨a, b, c⟩ | ⟨a, b, c⟩
  · rw [b, z1, show k.toNat = 0 by omega]
    show (1 : Int) = ((mul g (0 + 1) (g 0) : Nat) : Int)
    rw [mul_self]
    rfl
  · rw [c, z1]
    obtain ⟨m, hm⟩ : ∃ m : Nat, k.toNat = m + 1 := ⟨k.toNat - 1, by omega⟩
    rw [hm, show m + 1 - 1 = m by omega] at b
    rw [hm, run_n S (by omega) (fun e => b (congrArg Int64.toInt e))]
    rfl
  · obtain ⟨m, hm⟩ : ∃ m : Nat, k.toNat = m + 1 := ⟨k.toNat - 1, by omega⟩
    rcases hR with h0 | h0
    · omega
    · have h0 : r.toInt = _ := h0
      have ml := mul_le (f := g) (n := k.toNat) (v := g (k.toNat - 1))
      have e3 : (r + 1).toInt = r.toInt + 1 := tI_add rfl z1 (by omega)
      rw [c, e3, h0]
      rw [hm, show m + 1 - 1 = m by omega] at b ⊢
      rw [run_y (Int64.toInt_inj.mp b)]
      omega
theorem du_X3_setSizes_7 : decode cX3_setSizes 7 = .ok (.if_icmp .ge 57, 3) := by decide +kernel
theorem du_X3_setSizes_64 : decode cX3_setSizes 64 = .ok (.return_, 1) := by decide +kernel
theorem du_X3_setSizes_35 : decode cX3_setSizes 35 = .ok (.getfield 18, 3) := by decide +kernel
theorem du_X3_setSizes_45 : decode cX3_setSizes 45 = .ok (.lastore, 1) := by decide +kernel
theorem du_X3_setSizes_47 : decode cX3_setSizes 47 = .ok (.getfield 22, 3) := by decide +kernel
theorem du_X3_setSizes_57 : decode cX3_setSizes 57 = .ok (.lastore, 1) := by decide +kernel
theorem du_X3_setSizes_61 : decode cX3_setSizes 61 = .ok (.goto (-58), 3) := by decide +kernel
abbrev bu_X3_setSizes_0_3 : ZB := [(.iconst 0, .int 0), (.istore 4, .null)]
theorem ku_X3_setSizes_0_3 : zchk cX3_setSizes bu_X3_setSizes_0_3 0 = true ∧ zpc bu_X3_setSizes_0_3 0 = 3 := ⟨by decide +kernel, rfl⟩
abbrev bu_X3_setSizes_3_7 : ZB := [(.iload 4, .null), (.bipush 121, .int 121)]
theorem ku_X3_setSizes_3_7 : zchk cX3_setSizes bu_X3_setSizes_3_7 3 = true ∧ zpc bu_X3_setSizes_3_7 3 = 7 := ⟨by decide +kernel, rfl⟩
abbrev bu_X3_setSizes_10_35 : ZB := [(.iload_n 1, .null), (.iload 4, .null), (.bipush 60, .int 60), (.isub, .null), (.imul, .null), (.iload_n 2, .null), (.iadd, .null), (.i2l, .null), (.lstore 5, .null), (.iload_n 1, .null), (.iload 4, .null), (.bipush 60, .int 60), (.isub, .null), (.imul, .null), (.iload_n 3, .null), (.iadd, .null), (.i2l, .null), (.lstore 7, .null), (.aload_n 0, .null)]
theorem ku_X3_setSizes_10_35 : zchk cX3_setSizes bu_X3_setSizes_10_35 10 = true ∧ zpc bu_X3_setSizes_10_35 10 = 35 := ⟨by decide +kernel, rfl⟩
abbrev bu_X3_setSizes_38_45 : ZB := [(.iload 4, .null), (.lload 5, .null), (.lload 5, .null), (.lmul, .null)]
theorem ku_X3_setSizes_38_45 : zchk cX3_setSizes bu_X3_setSizes_38_45 38 = true ∧ zpc bu_X3_setSizes_38_45 38 = 45 := ⟨by decide +kernel, rfl⟩
abbrev bu_X3_setSizes_46_47 : ZB := [(.aload_n 0, .null)]
theorem ku_X3_setSizes_46_47 : zchk cX3_setSizes bu_X3_setSizes_46_47 46 = true ∧ zpc bu_X3_setSizes_46_47 46 = 47 := ⟨by decide +kernel, rfl⟩
abbrev bu_X3_setSizes_50_57 : ZB := [(.iload 4, .null), (.lload 7, .null), (.lload 7, .null), (.lmul, .null)]
theorem ku_X3_setSizes_50_57 : zchk cX3_setSizes bu_X3_setSizes_50_57 50 = true ∧ zpc bu_X3_setSizes_50_57 50 = 57 := ⟨by decide +kernel, rfl⟩
abbrev bu_X3_setSizes_58_61 : ZB := [(.iinc 4 1, .int 1)]
theorem ku_X3_setSizes_58_61 : zchk cX3_setSizes bu_X3_setSizes_58_61 58 = true ∧ zpc bu_X3_setSizes_58_61 58 = 61 := ⟨by decide +kernel, rfl⟩
set_option maxHeartbeats 4000000 in
set_option maxRecDepth 100000 in
theorem cu_X3_setSizesU (l : Launch) (G : KG) (pl : Nat) (cn : Int32) (bh : Int32) (bo : Int32) (be : Nat) (co : Nat) (qx : Nat) (qy : Nat) (zz : Nat) (ta : Nat) (fqx : Nat → Int64) (fqy : Nat → Int64) (aq : Int32) (bq : Int32) (dq : Int32) : Ct l G yX3_setSizes cX3_setSizes 9 none { frames := 0, cells := 0, slots := 0, locals := 0 } [.ref pl, .int aq, .int bq, .int dq] [(pl, ob 3 [.int cn, .int bh, .int bo, .ref be, .ref co, .ref qx, .ref qy, .ref zz, .ref ta]), (qx, aJ G 121 fqx), (qy, aJ G 121 fqy)] (fun r w1 => ∃ (fqx2 : Nat → Int64), ∃ (fqy2 : Nat → Int64), (∀ p : Nat, p < 121 → fqx2 p = sqS aq bq p) ∧ (∀ p : Nat, p < 121 → fqy2 p = sqS aq dq p) ∧ r = none ∧ w1 = [(pl, ob 3 [.int cn, .int bh, .int bo, .ref be, .ref co, .ref qx, .ref qy, .ref zz, .ref ta]), (qx, aJ G 121 fqx2), (qy, aJ G 121 fqy2)]) := by
  refine ct_of [(0, .ref pl), (1, .int aq), (2, .int bq), (3, .int dq)] (by decide) (Nat.le_of_ble_eq_true rfl) rfl ?_
  intro p0 e0 s0 m0 args0 below0 meth0 c0 A X
  refine z_run X bu_X3_setSizes_0_3 ku_X3_setSizes_0_3 (lv' := [(4, .int 0), (0, .ref pl), (1, .int aq), (2, .int bq), (3, .int dq)]) (st' := []) rfl ?_
  refine zloop (σ := Int32 × (Nat → Int64) × (Nat → Int64)) (fun z => [(4, .int z.1), (0, .ref pl), (1, .int aq), (2, .int bq), (3, .int dq)]) (fun z => []) (fun z => [(pl, ob 3 [.int cn, .int bh, .int bo, .ref be, .ref co, .ref qx, .ref qy, .ref zz, .ref ta]), (qx, aJ G 121 z.2.1), (qy, aJ G 121 z.2.2)]) (fun z => (0 ≤ z.1.toInt ∧ z.1.toInt ≤ 121) ∧ (∀ p : Nat, (p : Int) < z.1.toInt → z.2.1 p = sqS aq bq p) ∧ (∀ p : Nat, (p : Int) < z.1.toInt → z.2.2 p = sqS aq dq p)) (fun z => (121 - z.1.toInt).toNat) (0, fqx, fqy) ?_ ?_
  ·
    rintro ⟨i_, gqx, gqy⟩ ⟨hi, hX, hY⟩ ih3
    dsimp only at *
    refine z_run X bu_X3_setSizes_3_7 ku_X3_setSizes_3_7 (lv' := [(4, .int i_), (0, .ref pl), (1, .int aq), (2, .int bq), (3, .int dq)]) (st' := [.int 121, .int i_]) rfl ?_
    refine zc_ge X du_X3_setSizes_7 (tgt := 64) (by decide) (a := i_.toInt) (b := 121) rfl (show (121 : Int32).toInt = 121 from by decide) (fun c7_1 => ?_) (fun c7_1 => ?_)
    ·
      exact z_vret X rfl du_X3_setSizes_64 (Nat.le_of_ble_eq_true rfl) (Nat.le_of_ble_eq_true rfl) ⟨gqx, gqy, (fun p hp => hX p (by omega)), (fun p hp => hY p (by omega)), rfl, rfl⟩
    ·
      refine z_run X bu_X3_setSizes_10_35 ku_X3_setSizes_10_35 (lv' := [(7, .long ((aq * (i_ - 60)) + dq).toInt64), (5, .long ((aq * (i_ - 60)) + bq).toInt64), (4, .int i_), (0, .ref pl), (1, .int aq), (2, .int bq), (3, .int dq)]) (st' := [.ref pl]) rfl ?_
      refine z_get X fl_3_18 du_X3_setSizes_35 0 rfl (v := .ref qx) rfl ?_
      refine z_run X bu_X3_setSizes_38_45 ku_X3_setSizes_38_45 (lv' := [(7, .long ((aq * (i_ - 60)) + dq).toInt64), (5, .long ((aq * (i_ - 60)) + bq).toInt64), (4, .int i_), (0, .ref pl), (1, .int aq), (2, .int bq), (3, .int dq)]) (st' := [.long (((aq * (i_ - 60)) + bq).toInt64 * ((aq * (i_ - 60)) + bq).toInt64), .int i_, .ref qx]) rfl ?_
      refine z_last X du_X3_setSizes_45 1 rfl (vin rfl (by omega) (by omega)) (ws' := [(pl, ob 3 [.int cn, .int bh, .int bo, .ref be, .ref co, .ref qx, .ref qy, .ref zz, .ref ta]), (qx, aJ G 121 (vp_updL gqx i_.toNatClampNeg (((aq * (i_ - 60)) + bq).toInt64 * ((aq * (i_ - 60)) + bq).toInt64))), (qy, aJ G 121 gqy)]) rfl ?_
      refine z_run X bu_X3_setSizes_46_47 ku_X3_setSizes_46_47 (lv' := [(7, .long ((aq * (i_ - 60)) + dq).toInt64), (5, .long ((aq * (i_ - 60)) + bq).toInt64), (4, .int i_), (0, .ref pl), (1, .int aq), (2, .int bq), (3, .int dq)]) (st' := [.ref pl]) rfl ?_
      refine z_get X fl_3_22 du_X3_setSizes_47 0 rfl (v := .ref qy) rfl ?_
      refine z_run X bu_X3_setSizes_50_57 ku_X3_setSizes_50_57 (lv' := [(7, .long ((aq * (i_ - 60)) + dq).toInt64), (5, .long ((aq * (i_ - 60)) + bq).toInt64), (4, .int i_), (0, .ref pl), (1, .int aq), (2, .int bq), (3, .int dq)]) (st' := [.long (((aq * (i_ - 60)) + dq).toInt64 * ((aq * (i_ - 60)) + dq).toInt64), .int i_, .ref qy]) rfl ?_
      refine z_last X du_X3_setSizes_57 2 rfl (vin rfl (by omega) (by omega)) (ws' := [(pl, ob 3 [.int cn, .int bh, .int bo, .ref be, .ref co, .ref qx, .ref qy, .ref zz, .ref ta]), (qx, aJ G 121 (vp_updL gqx i_.toNatClampNeg (((aq * (i_ - 60)) + bq).toInt64 * ((aq * (i_ - 60)) + bq).toInt64))), (qy, aJ G 121 (vp_updL gqy i_.toNatClampNeg (((aq * (i_ - 60)) + dq).toInt64 * ((aq * (i_ - 60)) + dq).toInt64)))]) rfl ?_
      refine z_run X bu_X3_setSizes_58_61 ku_X3_setSizes_58_61 (lv' := [(4, .int (i_ + 1)), (7, .long ((aq * (i_ - 60)) + dq).toInt64), (5, .long ((aq * (i_ - 60)) + bq).toInt64), (0, .ref pl), (1, .int aq), (2, .int bq), (3, .int dq)]) (st' := []) rfl ?_
      refine z_goto X du_X3_setSizes_61 (tgt := 3) (by decide) ?_
      refine Z.sub (lv' := [(4, .int (i_ + 1)), (0, .ref pl), (1, .int aq), (2, .int bq), (3, .int dq)]) [0, 3, 4, 5, 6] rfl [0, 1, 2] (ws' := [(pl, ob 3 [.int cn, .int bh, .int bo, .ref be, .ref co, .ref qx, .ref qy, .ref zz, .ref ta]), (qx, aJ G 121 (vp_updL gqx i_.toNatClampNeg (((aq * (i_ - 60)) + bq).toInt64 * ((aq * (i_ - 60)) + bq).toInt64))), (qy, aJ G 121 (vp_updL gqy i_.toNatClampNeg (((aq * (i_ - 60)) + dq).toInt64 * ((aq * (i_ - 60)) + dq).toInt64)))]) rfl (by decide) ?_
      exact ih3 ((i_ + 1), (vp_updL gqx i_.toNatClampNeg (((aq * (i_ - 60)) + bq).toInt64 * ((aq * (i_ - 60)) + bq).toInt64)), (vp_updL gqy i_.toNatClampNeg (((aq * (i_ - 60)) + dq).toInt64 * ((aq * (i_ - 60)) + dq).toInt64))) ⟨(by (try dsimp only); have e : (i_ + 1).toInt = i_.toInt + 1 := tI_add rfl (show (1 : Int32).toInt = 1 from by decide) (by omega); omega), (by (try dsimp only); have e : (i_ + 1).toInt = i_.toInt + 1 := tI_add rfl (show (1 : Int32).toInt = 1 from by decide) (by omega); rw [e]; exact st_stepJ hi.1 hX (sqS_i (by omega))), (by (try dsimp only); have e : (i_ + 1).toInt = i_.toInt + 1 := tI_add rfl (show (1 : Int32).toInt = 1 from by decide) (by omega); rw [e]; exact st_stepJ hi.1 hY (sqS_i (by omega)))⟩ (by (try dsimp only); have e : (i_ + 1).toInt = i_.toInt + 1 := tI_add rfl (show (1 : Int32).toInt = 1 from by decide) (by omega); omega)
  · exact ⟨(by (try dsimp only); have e0 : (0 : Int32).toInt = 0 := (by decide); omega), (by (try dsimp only); have e0 : (0 : Int32).toInt = 0 := (by decide); rw [e0]; intro p hp; omega), (by (try dsimp only); have e0 : (0 : Int32).toInt = 0 := (by decide); rw [e0]; intro p hp; omega)⟩

theorem du_X3_sizeMade_1 : decode cX3_sizeMade 1 = .ok (.getfield 18, 3) := by decide +kernel
theorem du_X3_sizeMade_8 : decode cX3_sizeMade 8 = .ok (.laload, 1) := by decide +kernel
theorem du_X3_sizeMade_10 : decode cX3_sizeMade 10 = .ok (.getfield 22, 3) := by decide +kernel
theorem du_X3_sizeMade_17 : decode cX3_sizeMade 17 = .ok (.laload, 1) := by decide +kernel
theorem du_X3_sizeMade_19 : decode cX3_sizeMade 19 = .ok (.lreturn, 1) := by decide +kernel
abbrev bu_X3_sizeMade_0_1 : ZB := [(.aload_n 0, .null)]
theorem ku_X3_sizeMade_0_1 : zchk cX3_sizeMade bu_X3_sizeMade_0_1 0 = true ∧ zpc bu_X3_sizeMade_0_1 0 = 1 := ⟨by decide +kernel, rfl⟩
abbrev bu_X3_sizeMade_4_8 : ZB := [(.iload_n 1, .null), (.bipush 7, .int 7), (.ishr, .null)]
theorem ku_X3_sizeMade_4_8 : zchk cX3_sizeMade bu_X3_sizeMade_4_8 4 = true ∧ zpc bu_X3_sizeMade_4_8 4 = 8 := ⟨by decide +kernel, rfl⟩
abbrev bu_X3_sizeMade_9_10 : ZB := [(.aload_n 0, .null)]
theorem ku_X3_sizeMade_9_10 : zchk cX3_sizeMade bu_X3_sizeMade_9_10 9 = true ∧ zpc bu_X3_sizeMade_9_10 9 = 10 := ⟨by decide +kernel, rfl⟩
abbrev bu_X3_sizeMade_13_17 : ZB := [(.iload_n 1, .null), (.bipush 127, .int 127), (.iand, .null)]
theorem ku_X3_sizeMade_13_17 : zchk cX3_sizeMade bu_X3_sizeMade_13_17 13 = true ∧ zpc bu_X3_sizeMade_13_17 13 = 17 := ⟨by decide +kernel, rfl⟩
abbrev bu_X3_sizeMade_18_19 : ZB := [(.ladd, .null)]
theorem ku_X3_sizeMade_18_19 : zchk cX3_sizeMade bu_X3_sizeMade_18_19 18 = true ∧ zpc bu_X3_sizeMade_18_19 18 = 19 := ⟨by decide +kernel, rfl⟩
set_option maxHeartbeats 4000000 in
set_option maxRecDepth 100000 in
theorem cu_X3_sizeMadeU (l : Launch) (G : KG) (pl : Nat) (cn : Int32) (bh : Int32) (bo : Int32) (be : Nat) (co : Nat) (qx : Nat) (qy : Nat) (zz : Nat) (ta : Nat) (fqx : Nat → Int64) (fqy : Nat → Int64) (cq : Int32) (ci : Int) (hcq : cq.toInt = ci) (hc : 0 ≤ ci ∧ ci / 128 ≤ 120 ∧ ci % 128 ≤ 120) : Ct l G yX3_sizeMade cX3_sizeMade 2 (some .long) { frames := 0, cells := 0, slots := 0, locals := 0 } [.ref pl, .int cq] [(pl, ob 3 [.int cn, .int bh, .int bo, .ref be, .ref co, .ref qx, .ref qy, .ref zz, .ref ta]), (qx, aJ G 121 fqx), (qy, aJ G 121 fqy)] (fun r w1 => ∃ (rz : Int64), (rz = fqx (ci / 128).toNat + fqy (ci % 128).toNat) ∧ r = some (.long rz) ∧ w1 = [(pl, ob 3 [.int cn, .int bh, .int bo, .ref be, .ref co, .ref qx, .ref qy, .ref zz, .ref ta]), (qx, aJ G 121 fqx), (qy, aJ G 121 fqy)]) := by
  refine ct_of [(0, .ref pl), (1, .int cq)] (by decide) (Nat.le_of_ble_eq_true rfl) rfl ?_
  intro p0 e0 s0 m0 args0 below0 meth0 c0 A X
  refine z_run X bu_X3_sizeMade_0_1 ku_X3_sizeMade_0_1 (lv' := [(0, .ref pl), (1, .int cq)]) (st' := [.ref pl]) rfl ?_
  refine z_get X fl_3_18 du_X3_sizeMade_1 0 rfl (v := .ref qx) rfl ?_
  refine z_run X bu_X3_sizeMade_4_8 ku_X3_sizeMade_4_8 (lv' := [(0, .ref pl), (1, .int cq)]) (st' := [.int (cq >>> ((7 : Int32) &&& 31)), .ref qx]) rfl ?_
  refine z_lald X du_X3_sizeMade_8 1 rfl (vin (sh7 hcq (by omega)) (by omega) (by omega)) (v := (fqx (cq >>> ((7 : Int32) &&& 31)).toNatClampNeg)) rfl ?_
  refine z_run X bu_X3_sizeMade_9_10 ku_X3_sizeMade_9_10 (lv' := [(0, .ref pl), (1, .int cq)]) (st' := [.ref pl, .long (fqx (cq >>> ((7 : Int32) &&& 31)).toNatClampNeg)]) rfl ?_
  refine z_get X fl_3_22 du_X3_sizeMade_10 0 rfl (v := .ref qy) rfl ?_
  refine z_run X bu_X3_sizeMade_13_17 ku_X3_sizeMade_13_17 (lv' := [(0, .ref pl), (1, .int cq)]) (st' := [.int (cq &&& 127), .ref qy, .long (fqx (cq >>> ((7 : Int32) &&& 31)).toNatClampNeg)]) rfl ?_
  refine z_lald X du_X3_sizeMade_17 2 rfl (vin (an7 hcq (by omega)) (by omega) (by omega)) (v := (fqy (cq &&& 127).toNatClampNeg)) rfl ?_
  refine z_run X bu_X3_sizeMade_18_19 ku_X3_sizeMade_18_19 (lv' := [(0, .ref pl), (1, .int cq)]) (st' := [.long ((fqx (cq >>> ((7 : Int32) &&& 31)).toNatClampNeg) + (fqy (cq &&& 127).toNatClampNeg))]) rfl ?_
  exact z_lret X rfl du_X3_sizeMade_19 (Nat.le_of_ble_eq_true rfl) (Nat.le_of_ble_eq_true rfl) ⟨((fqx (cq >>> ((7 : Int32) &&& 31)).toNatClampNeg) + (fqy (cq &&& 127).toNatClampNeg)), (by rw [show (cq >>> ((7 : Int32) &&& 31)).toNatClampNeg = (ci / 128).toNat from congrArg Int.toNat (sh7 hcq (by omega)), show (cq &&& 127).toNatClampNeg = (ci % 128).toNat from congrArg Int.toNat (an7 hcq (by omega))]), rfl, rfl⟩

theorem du_X3_tallied_1 : decode cX3_tallied 1 = .ok (.ldc2_w 55, 3) := by decide +kernel
theorem du_X3_tallied_7 : decode cX3_tallied 7 = .ok (.lushr, 1) := by decide +kernel
theorem du_X3_tallied_21 : decode cX3_tallied 21 = .ok (.if_icmp .ge 41, 3) := by decide +kernel
theorem du_X3_tallied_63 : decode cX3_tallied 63 = .ok (.getfield 26, 3) := by decide +kernel
theorem du_X3_tallied_69 : decode cX3_tallied 69 = .ok (.lastore, 1) := by decide +kernel
theorem du_X3_tallied_71 : decode cX3_tallied 71 = .ok (.getfield 29, 3) := by decide +kernel
theorem du_X3_tallied_77 : decode cX3_tallied 77 = .ok (.iaload, 1) := by decide +kernel
theorem du_X3_tallied_80 : decode cX3_tallied 80 = .ok (.iastore, 1) := by decide +kernel
theorem du_X3_tallied_82 : decode cX3_tallied 82 = .ok (.getfield 29, 3) := by decide +kernel
theorem du_X3_tallied_87 : decode cX3_tallied 87 = .ok (.iaload, 1) := by decide +kernel
theorem du_X3_tallied_88 : decode cX3_tallied 88 = .ok (.ireturn, 1) := by decide +kernel
theorem du_X3_tallied_25 : decode cX3_tallied 25 = .ok (.getfield 29, 3) := by decide +kernel
theorem du_X3_tallied_30 : decode cX3_tallied 30 = .ok (.iaload, 1) := by decide +kernel
theorem du_X3_tallied_31 : decode cX3_tallied 31 = .ok (.ifCond .le 31, 3) := by decide +kernel
theorem du_X3_tallied_35 : decode cX3_tallied 35 = .ok (.getfield 26, 3) := by decide +kernel
theorem du_X3_tallied_40 : decode cX3_tallied 40 = .ok (.laload, 1) := by decide +kernel
theorem du_X3_tallied_42 : decode cX3_tallied 42 = .ok (.lcmp, 1) := by decide +kernel
theorem du_X3_tallied_43 : decode cX3_tallied 43 = .ok (.ifCond .eq 19, 3) := by decide +kernel
theorem du_X3_tallied_59 : decode cX3_tallied 59 = .ok (.goto (-41), 3) := by decide +kernel
abbrev bu_X3_tallied_0_1 : ZB := [(.lload_n 1, .null)]
theorem ku_X3_tallied_0_1 : zchk cX3_tallied bu_X3_tallied_0_1 0 = true ∧ zpc bu_X3_tallied_0_1 0 = 1 := ⟨by decide +kernel, rfl⟩
abbrev bu_X3_tallied_4_7 : ZB := [(.lmul, .null), (.bipush 40, .int 40)]
theorem ku_X3_tallied_4_7 : zchk cX3_tallied bu_X3_tallied_4_7 4 = true ∧ zpc bu_X3_tallied_4_7 4 = 7 := ⟨by decide +kernel, rfl⟩
abbrev bu_X3_tallied_8_18 : ZB := [(.l2i, .null), (.iload_n 3, .null), (.iconst 1, .int 1), (.isub, .null), (.iand, .null), (.istore 4, .null), (.iconst 0, .int 0), (.istore 5, .null)]
theorem ku_X3_tallied_8_18 : zchk cX3_tallied bu_X3_tallied_8_18 8 = true ∧ zpc bu_X3_tallied_8_18 8 = 18 := ⟨by decide +kernel, rfl⟩
abbrev bu_X3_tallied_18_21 : ZB := [(.iload 5, .null), (.iload_n 3, .null)]
theorem ku_X3_tallied_18_21 : zchk cX3_tallied bu_X3_tallied_18_21 18 = true ∧ zpc bu_X3_tallied_18_21 18 = 21 := ⟨by decide +kernel, rfl⟩
abbrev bu_X3_tallied_62_63 : ZB := [(.aload_n 0, .null)]
theorem ku_X3_tallied_62_63 : zchk cX3_tallied bu_X3_tallied_62_63 62 = true ∧ zpc bu_X3_tallied_62_63 62 = 63 := ⟨by decide +kernel, rfl⟩
abbrev bu_X3_tallied_66_69 : ZB := [(.iload 4, .null), (.lload_n 1, .null)]
theorem ku_X3_tallied_66_69 : zchk cX3_tallied bu_X3_tallied_66_69 66 = true ∧ zpc bu_X3_tallied_66_69 66 = 69 := ⟨by decide +kernel, rfl⟩
abbrev bu_X3_tallied_70_71 : ZB := [(.aload_n 0, .null)]
theorem ku_X3_tallied_70_71 : zchk cX3_tallied bu_X3_tallied_70_71 70 = true ∧ zpc bu_X3_tallied_70_71 70 = 71 := ⟨by decide +kernel, rfl⟩
abbrev bu_X3_tallied_74_77 : ZB := [(.iload 4, .null), (.dup2, .null)]
theorem ku_X3_tallied_74_77 : zchk cX3_tallied bu_X3_tallied_74_77 74 = true ∧ zpc bu_X3_tallied_74_77 74 = 77 := ⟨by decide +kernel, rfl⟩
abbrev bu_X3_tallied_78_80 : ZB := [(.iconst 1, .int 1), (.iadd, .null)]
theorem ku_X3_tallied_78_80 : zchk cX3_tallied bu_X3_tallied_78_80 78 = true ∧ zpc bu_X3_tallied_78_80 78 = 80 := ⟨by decide +kernel, rfl⟩
abbrev bu_X3_tallied_81_82 : ZB := [(.aload_n 0, .null)]
theorem ku_X3_tallied_81_82 : zchk cX3_tallied bu_X3_tallied_81_82 81 = true ∧ zpc bu_X3_tallied_81_82 81 = 82 := ⟨by decide +kernel, rfl⟩
abbrev bu_X3_tallied_85_87 : ZB := [(.iload 4, .null)]
theorem ku_X3_tallied_85_87 : zchk cX3_tallied bu_X3_tallied_85_87 85 = true ∧ zpc bu_X3_tallied_85_87 85 = 87 := ⟨by decide +kernel, rfl⟩
abbrev bu_X3_tallied_24_25 : ZB := [(.aload_n 0, .null)]
theorem ku_X3_tallied_24_25 : zchk cX3_tallied bu_X3_tallied_24_25 24 = true ∧ zpc bu_X3_tallied_24_25 24 = 25 := ⟨by decide +kernel, rfl⟩
abbrev bu_X3_tallied_28_30 : ZB := [(.iload 4, .null)]
theorem ku_X3_tallied_28_30 : zchk cX3_tallied bu_X3_tallied_28_30 28 = true ∧ zpc bu_X3_tallied_28_30 28 = 30 := ⟨by decide +kernel, rfl⟩
abbrev bu_X3_tallied_34_35 : ZB := [(.aload_n 0, .null)]
theorem ku_X3_tallied_34_35 : zchk cX3_tallied bu_X3_tallied_34_35 34 = true ∧ zpc bu_X3_tallied_34_35 34 = 35 := ⟨by decide +kernel, rfl⟩
abbrev bu_X3_tallied_38_40 : ZB := [(.iload 4, .null)]
theorem ku_X3_tallied_38_40 : zchk cX3_tallied bu_X3_tallied_38_40 38 = true ∧ zpc bu_X3_tallied_38_40 38 = 40 := ⟨by decide +kernel, rfl⟩
abbrev bu_X3_tallied_41_42 : ZB := [(.lload_n 1, .null)]
theorem ku_X3_tallied_41_42 : zchk cX3_tallied bu_X3_tallied_41_42 41 = true ∧ zpc bu_X3_tallied_41_42 41 = 42 := ⟨by decide +kernel, rfl⟩
abbrev bu_X3_tallied_46_59 : ZB := [(.iload 4, .null), (.iconst 1, .int 1), (.iadd, .null), (.iload_n 3, .null), (.iconst 1, .int 1), (.isub, .null), (.iand, .null), (.istore 4, .null), (.iinc 5 1, .int 1)]
theorem ku_X3_tallied_46_59 : zchk cX3_tallied bu_X3_tallied_46_59 46 = true ∧ zpc bu_X3_tallied_46_59 46 = 59 := ⟨by decide +kernel, rfl⟩
set_option maxHeartbeats 4000000 in
set_option maxRecDepth 100000 in
theorem cu_X3_talliedU (l : Launch) (G : KG) (pl : Nat) (cn : Int32) (bh : Int32) (bo : Int32) (be : Nat) (co : Nat) (qx : Nat) (qy : Nat) (zz : Nat) (ta : Nat) (fzz : Nat → Int64) (fta : Nat → Int32) (zq : Int64) (sq : Int32) (si : Int) (hsq : sq.toInt = si) (hp : Po2 si) (hs1 : 1 ≤ si ∧ si ≤ 32768) : Ct l G yX3_tallied cX3_tallied 6 (some .int) { frames := 0, cells := 0, slots := 0, locals := 0 } [.ref pl, .long zq, .int sq] [(pl, ob 3 [.int cn, .int bh, .int bo, .ref be, .ref co, .ref qx, .ref qy, .ref zz, .ref ta]), (zz, aJ G 32768 fzz), (ta, aI G 32768 fta)] (fun r w1 => ∃ (rz : Int32), ∃ (fzz2 : Nat → Int64), ∃ (fta2 : Nat → Int32), (TaE sq zq fta fzz fta2 fzz2 rz) ∧ r = some (.int rz) ∧ w1 = [(pl, ob 3 [.int cn, .int bh, .int bo, .ref be, .ref co, .ref qx, .ref qy, .ref zz, .ref ta]), (zz, aJ G 32768 fzz2), (ta, aI G 32768 fta2)]) := by
  refine ct_of [(0, .ref pl), (1, .long zq), (3, .int sq)] (by decide) (Nat.le_of_ble_eq_true rfl) rfl ?_
  intro p0 e0 s0 m0 args0 below0 meth0 c0 A X
  refine z_run X bu_X3_tallied_0_1 ku_X3_tallied_0_1 (lv' := [(0, .ref pl), (1, .long zq), (3, .int sq)]) (st' := [.long zq]) rfl ?_
  refine z_ldc2 X du_X3_tallied_1 cn_3_55 ?_
  refine z_run X bu_X3_tallied_4_7 ku_X3_tallied_4_7 (lv' := [(0, .ref pl), (1, .long zq), (3, .int sq)]) (st' := [.int 40, .long (zq * ((-7046029254386353131)))]) rfl ?_
  refine z_lushr X du_X3_tallied_7 (v := (((zq * ((-7046029254386353131))).toUInt64 >>> ((40 : Int32).toInt64.toUInt64 &&& Int64.toUInt64 63)).toInt64)) rfl ?_
  refine z_run X bu_X3_tallied_8_18 ku_X3_tallied_8_18 (lv' := [(5, .int 0), (4, .int ((((zq * ((-7046029254386353131))).toUInt64 >>> ((40 : Int32).toInt64.toUInt64 &&& Int64.toUInt64 63)).toInt64).toInt32 &&& (sq - 1))), (0, .ref pl), (1, .long zq), (3, .int sq)]) (st' := []) rfl ?_
  refine zloop (σ := Int32 × Int32) (fun z => [(5, .int z.2), (4, .int z.1), (0, .ref pl), (1, .long zq), (3, .int sq)]) (fun z => []) (fun z => [(pl, ob 3 [.int cn, .int bh, .int bo, .ref be, .ref co, .ref qx, .ref qy, .ref zz, .ref ta]), (zz, aJ G 32768 fzz), (ta, aI G 32768 fta)]) (fun z => (0 ≤ z.2.toInt ∧ z.2.toInt ≤ si) ∧ ((0 ≤ z.1.toInt ∧ z.1.toInt < si) ∧ z.1.toInt.toNat = (hsN sq zq + z.2.toInt.toNat) % si.toNat) ∧ (∀ e : Nat, e < z.2.toInt.toNat → 0 < (fta ((hsN sq zq + e) % si.toNat)).toInt ∧ fzz ((hsN sq zq + e) % si.toNat) ≠ zq)) (fun z => (si - z.2.toInt).toNat) (((((zq * ((-7046029254386353131))).toUInt64 >>> ((40 : Int32).toInt64.toUInt64 &&& Int64.toUInt64 63)).toInt64).toInt32 &&& (sq - 1)), 0) ?_ ?_
  ·
    rintro ⟨c_, t_⟩ ⟨ht, hc, hb⟩ ih18
    dsimp only at *
    refine z_run X bu_X3_tallied_18_21 ku_X3_tallied_18_21 (lv' := [(5, .int t_), (4, .int c_), (0, .ref pl), (1, .long zq), (3, .int sq)]) (st' := [.int sq, .int t_]) rfl ?_
    refine zc_ge X du_X3_tallied_21 (tgt := 62) (by decide) (a := t_.toInt) (b := si) rfl hsq (fun c21_1 => ?_) (fun c21_1 => ?_)
    ·
      refine z_run X bu_X3_tallied_62_63 ku_X3_tallied_62_63 (lv' := [(5, .int t_), (4, .int c_), (0, .ref pl), (1, .long zq), (3, .int sq)]) (st' := [.ref pl]) rfl ?_
      refine z_get X fl_3_26 du_X3_tallied_63 0 rfl (v := .ref zz) rfl ?_
      refine z_run X bu_X3_tallied_66_69 ku_X3_tallied_66_69 (lv' := [(5, .int t_), (4, .int c_), (0, .ref pl), (1, .long zq), (3, .int sq)]) (st' := [.long zq, .int c_, .ref zz]) rfl ?_
      refine z_last X du_X3_tallied_69 1 rfl (vin rfl (by omega) (by omega)) (ws' := [(pl, ob 3 [.int cn, .int bh, .int bo, .ref be, .ref co, .ref qx, .ref qy, .ref zz, .ref ta]), (zz, aJ G 32768 (vp_updL fzz c_.toNatClampNeg zq)), (ta, aI G 32768 fta)]) rfl ?_
      refine z_run X bu_X3_tallied_70_71 ku_X3_tallied_70_71 (lv' := [(5, .int t_), (4, .int c_), (0, .ref pl), (1, .long zq), (3, .int sq)]) (st' := [.ref pl]) rfl ?_
      refine z_get X fl_3_29 du_X3_tallied_71 0 rfl (v := .ref ta) rfl ?_
      refine z_run X bu_X3_tallied_74_77 ku_X3_tallied_74_77 (lv' := [(5, .int t_), (4, .int c_), (0, .ref pl), (1, .long zq), (3, .int sq)]) (st' := [.int c_, .ref ta, .int c_, .ref ta]) rfl ?_
      refine z_iald X du_X3_tallied_77 2 rfl (vin rfl (by omega) (by omega)) (v := (fta c_.toNatClampNeg)) rfl ?_
      refine z_run X bu_X3_tallied_78_80 ku_X3_tallied_78_80 (lv' := [(5, .int t_), (4, .int c_), (0, .ref pl), (1, .long zq), (3, .int sq)]) (st' := [.int ((fta c_.toNatClampNeg) + 1), .int c_, .ref ta]) rfl ?_
      refine z_iast X du_X3_tallied_80 2 rfl (vin rfl (by omega) (by omega)) (ws' := [(pl, ob 3 [.int cn, .int bh, .int bo, .ref be, .ref co, .ref qx, .ref qy, .ref zz, .ref ta]), (zz, aJ G 32768 (vp_updL fzz c_.toNatClampNeg zq)), (ta, aI G 32768 (upd fta c_.toNatClampNeg ((fta c_.toNatClampNeg) + 1)))]) rfl ?_
      refine z_run X bu_X3_tallied_81_82 ku_X3_tallied_81_82 (lv' := [(5, .int t_), (4, .int c_), (0, .ref pl), (1, .long zq), (3, .int sq)]) (st' := [.ref pl]) rfl ?_
      refine z_get X fl_3_29 du_X3_tallied_82 0 rfl (v := .ref ta) rfl ?_
      refine z_run X bu_X3_tallied_85_87 ku_X3_tallied_85_87 (lv' := [(5, .int t_), (4, .int c_), (0, .ref pl), (1, .long zq), (3, .int sq)]) (st' := [.int c_, .ref ta]) rfl ?_
      refine z_iald X du_X3_tallied_87 2 rfl (vin rfl (by omega) (by omega)) (v := ((fta c_.toNatClampNeg) + 1)) upd_at ?_
      exact z_iret X rfl du_X3_tallied_88 (Nat.le_of_ble_eq_true rfl) (Nat.le_of_ble_eq_true rfl) ⟨((fta c_.toNatClampNeg) + 1), (vp_updL fzz c_.toNatClampNeg zq), (upd fta c_.toNatClampNeg ((fta c_.toNatClampNeg) + 1)), ⟨t_.toInt.toNat, c_.toNatClampNeg, ⟨by rw [hsq]; exact hc.2, (show t_.toInt.toNat ≤ sq.toInt.toNat by clear hc hb; omega)⟩, by rw [hsq]; exact hb, (Or.inl (show t_.toInt.toNat = sq.toInt.toNat by clear hc hb; omega)), rfl, rfl, rfl⟩, rfl, rfl⟩
    ·
      refine z_run X bu_X3_tallied_24_25 ku_X3_tallied_24_25 (lv' := [(5, .int t_), (4, .int c_), (0, .ref pl), (1, .long zq), (3, .int sq)]) (st' := [.ref pl]) rfl ?_
      refine z_get X fl_3_29 du_X3_tallied_25 0 rfl (v := .ref ta) rfl ?_
      refine z_run X bu_X3_tallied_28_30 ku_X3_tallied_28_30 (lv' := [(5, .int t_), (4, .int c_), (0, .ref pl), (1, .long zq), (3, .int sq)]) (st' := [.int c_, .ref ta]) rfl ?_
      refine z_iald X du_X3_tallied_30 2 rfl (vin rfl (by omega) (by omega)) (v := (fta c_.toNatClampNeg)) rfl ?_
      refine zi_le X du_X3_tallied_31 (tgt := 62) (by decide) (a := (fta c_.toNatClampNeg).toInt) rfl (fun c31_2 => ?_) (fun c31_2 => ?_)
      ·
        refine z_run X bu_X3_tallied_62_63 ku_X3_tallied_62_63 (lv' := [(5, .int t_), (4, .int c_), (0, .ref pl), (1, .long zq), (3, .int sq)]) (st' := [.ref pl]) rfl ?_
        refine z_get X fl_3_26 du_X3_tallied_63 0 rfl (v := .ref zz) rfl ?_
        refine z_run X bu_X3_tallied_66_69 ku_X3_tallied_66_69 (lv' := [(5, .int t_), (4, .int c_), (0, .ref pl), (1, .long zq), (3, .int sq)]) (st' := [.long zq, .int c_, .ref zz]) rfl ?_
        refine z_last X du_X3_tallied_69 1 rfl (vin rfl (by omega) (by omega)) (ws' := [(pl, ob 3 [.int cn, .int bh, .int bo, .ref be, .ref co, .ref qx, .ref qy, .ref zz, .ref ta]), (zz, aJ G 32768 (vp_updL fzz c_.toNatClampNeg zq)), (ta, aI G 32768 fta)]) rfl ?_
        refine z_run X bu_X3_tallied_70_71 ku_X3_tallied_70_71 (lv' := [(5, .int t_), (4, .int c_), (0, .ref pl), (1, .long zq), (3, .int sq)]) (st' := [.ref pl]) rfl ?_
        refine z_get X fl_3_29 du_X3_tallied_71 0 rfl (v := .ref ta) rfl ?_
        refine z_run X bu_X3_tallied_74_77 ku_X3_tallied_74_77 (lv' := [(5, .int t_), (4, .int c_), (0, .ref pl), (1, .long zq), (3, .int sq)]) (st' := [.int c_, .ref ta, .int c_, .ref ta]) rfl ?_
        refine z_iald X du_X3_tallied_77 2 rfl (vin rfl (by omega) (by omega)) (v := (fta c_.toNatClampNeg)) rfl ?_
        refine z_run X bu_X3_tallied_78_80 ku_X3_tallied_78_80 (lv' := [(5, .int t_), (4, .int c_), (0, .ref pl), (1, .long zq), (3, .int sq)]) (st' := [.int ((fta c_.toNatClampNeg) + 1), .int c_, .ref ta]) rfl ?_
        refine z_iast X du_X3_tallied_80 2 rfl (vin rfl (by omega) (by omega)) (ws' := [(pl, ob 3 [.int cn, .int bh, .int bo, .ref be, .ref co, .ref qx, .ref qy, .ref zz, .ref ta]), (zz, aJ G 32768 (vp_updL fzz c_.toNatClampNeg zq)), (ta, aI G 32768 (upd fta c_.toNatClampNeg ((fta c_.toNatClampNeg) + 1)))]) rfl ?_
        refine z_run X bu_X3_tallied_81_82 ku_X3_tallied_81_82 (lv' := [(5, .int t_), (4, .int c_), (0, .ref pl), (1, .long zq), (3, .int sq)]) (st' := [.ref pl]) rfl ?_
        refine z_get X fl_3_29 du_X3_tallied_82 0 rfl (v := .ref ta) rfl ?_
        refine z_run X bu_X3_tallied_85_87 ku_X3_tallied_85_87 (lv' := [(5, .int t_), (4, .int c_), (0, .ref pl), (1, .long zq), (3, .int sq)]) (st' := [.int c_, .ref ta]) rfl ?_
        refine z_iald X du_X3_tallied_87 2 rfl (vin rfl (by omega) (by omega)) (v := ((fta c_.toNatClampNeg) + 1)) upd_at ?_
        exact z_iret X rfl du_X3_tallied_88 (Nat.le_of_ble_eq_true rfl) (Nat.le_of_ble_eq_true rfl) ⟨((fta c_.toNatClampNeg) + 1), (vp_updL fzz c_.toNatClampNeg zq), (upd fta c_.toNatClampNeg ((fta c_.toNatClampNeg) + 1)), ⟨t_.toInt.toNat, c_.toNatClampNeg, ⟨by rw [hsq]; exact hc.2, (show t_.toInt.toNat ≤ sq.toInt.toNat by clear hc hb; omega)⟩, by rw [hsq]; exact hb, (Or.inr (Or.inl (show ¬ 0 < (fta c_.toNatClampNeg).toInt by clear hc hb; omega))), rfl, rfl, rfl⟩, rfl, rfl⟩
      ·
        refine z_run X bu_X3_tallied_34_35 ku_X3_tallied_34_35 (lv' := [(5, .int t_), (4, .int c_), (0, .ref pl), (1, .long zq), (3, .int sq)]) (st' := [.ref pl]) rfl ?_
        refine z_get X fl_3_26 du_X3_tallied_35 0 rfl (v := .ref zz) rfl ?_
        refine z_run X bu_X3_tallied_38_40 ku_X3_tallied_38_40 (lv' := [(5, .int t_), (4, .int c_), (0, .ref pl), (1, .long zq), (3, .int sq)]) (st' := [.int c_, .ref zz]) rfl ?_
        refine z_lald X du_X3_tallied_40 1 rfl (vin rfl (by omega) (by omega)) (v := (fzz c_.toNatClampNeg)) rfl ?_
        refine z_run X bu_X3_tallied_41_42 ku_X3_tallied_41_42 (lv' := [(5, .int t_), (4, .int c_), (0, .ref pl), (1, .long zq), (3, .int sq)]) (st' := [.long zq, .long (fzz c_.toNatClampNeg)]) rfl ?_
        refine zl_eq X du_X3_tallied_42 du_X3_tallied_43 (tgt := 62) (by decide) (a := (fzz c_.toNatClampNeg).toInt) (b := zq.toInt) rfl rfl (fun c42_3 => ?_) (fun c42_3 => ?_)
        ·
          refine z_run X bu_X3_tallied_62_63 ku_X3_tallied_62_63 (lv' := [(5, .int t_), (4, .int c_), (0, .ref pl), (1, .long zq), (3, .int sq)]) (st' := [.ref pl]) rfl ?_
          refine z_get X fl_3_26 du_X3_tallied_63 0 rfl (v := .ref zz) rfl ?_
          refine z_run X bu_X3_tallied_66_69 ku_X3_tallied_66_69 (lv' := [(5, .int t_), (4, .int c_), (0, .ref pl), (1, .long zq), (3, .int sq)]) (st' := [.long zq, .int c_, .ref zz]) rfl ?_
          refine z_last X du_X3_tallied_69 1 rfl (vin rfl (by omega) (by omega)) (ws' := [(pl, ob 3 [.int cn, .int bh, .int bo, .ref be, .ref co, .ref qx, .ref qy, .ref zz, .ref ta]), (zz, aJ G 32768 (vp_updL fzz c_.toNatClampNeg zq)), (ta, aI G 32768 fta)]) rfl ?_
          refine z_run X bu_X3_tallied_70_71 ku_X3_tallied_70_71 (lv' := [(5, .int t_), (4, .int c_), (0, .ref pl), (1, .long zq), (3, .int sq)]) (st' := [.ref pl]) rfl ?_
          refine z_get X fl_3_29 du_X3_tallied_71 0 rfl (v := .ref ta) rfl ?_
          refine z_run X bu_X3_tallied_74_77 ku_X3_tallied_74_77 (lv' := [(5, .int t_), (4, .int c_), (0, .ref pl), (1, .long zq), (3, .int sq)]) (st' := [.int c_, .ref ta, .int c_, .ref ta]) rfl ?_
          refine z_iald X du_X3_tallied_77 2 rfl (vin rfl (by omega) (by omega)) (v := (fta c_.toNatClampNeg)) rfl ?_
          refine z_run X bu_X3_tallied_78_80 ku_X3_tallied_78_80 (lv' := [(5, .int t_), (4, .int c_), (0, .ref pl), (1, .long zq), (3, .int sq)]) (st' := [.int ((fta c_.toNatClampNeg) + 1), .int c_, .ref ta]) rfl ?_
          refine z_iast X du_X3_tallied_80 2 rfl (vin rfl (by omega) (by omega)) (ws' := [(pl, ob 3 [.int cn, .int bh, .int bo, .ref be, .ref co, .ref qx, .ref qy, .ref zz, .ref ta]), (zz, aJ G 32768 (vp_updL fzz c_.toNatClampNeg zq)), (ta, aI G 32768 (upd fta c_.toNatClampNeg ((fta c_.toNatClampNeg) + 1)))]) rfl ?_
          refine z_run X bu_X3_tallied_81_82 ku_X3_tallied_81_82 (lv' := [(5, .int t_), (4, .int c_), (0, .ref pl), (1, .long zq), (3, .int sq)]) (st' := [.ref pl]) rfl ?_
          refine z_get X fl_3_29 du_X3_tallied_82 0 rfl (v := .ref ta) rfl ?_
          refine z_run X bu_X3_tallied_85_87 ku_X3_tallied_85_87 (lv' := [(5, .int t_), (4, .int c_), (0, .ref pl), (1, .long zq), (3, .int sq)]) (st' := [.int c_, .ref ta]) rfl ?_
          refine z_iald X du_X3_tallied_87 2 rfl (vin rfl (by omega) (by omega)) (v := ((fta c_.toNatClampNeg) + 1)) upd_at ?_
          exact z_iret X rfl du_X3_tallied_88 (Nat.le_of_ble_eq_true rfl) (Nat.le_of_ble_eq_true rfl) ⟨((fta c_.toNatClampNeg) + 1), (vp_updL fzz c_.toNatClampNeg zq), (upd fta c_.toNatClampNeg ((fta c_.toNatClampNeg) + 1)), ⟨t_.toInt.toNat, c_.toNatClampNeg, ⟨by rw [hsq]; exact hc.2, (show t_.toInt.toNat ≤ sq.toInt.toNat by clear hc hb; omega)⟩, by rw [hsq]; exact hb, (Or.inr (Or.inr (Int64.toInt_inj.mp c42_3))), rfl, rfl, rfl⟩, rfl, rfl⟩
        ·
          refine z_run X bu_X3_tallied_46_59 ku_X3_tallied_46_59 (lv' := [(5, .int (t_ + 1)), (4, .int ((c_ + 1) &&& (sq - 1))), (0, .ref pl), (1, .long zq), (3, .int sq)]) (st' := []) rfl ?_
          refine z_goto X du_X3_tallied_59 (tgt := 18) (by decide) ?_
          exact ih18 (((c_ + 1) &&& (sq - 1)), (t_ + 1)) ⟨(by clear hc hb; (try dsimp only); have et : (t_ + 1).toInt = t_.toInt + 1 := tI_add rfl (show (1 : Int32).toInt = 1 from by decide) (by omega); omega), (by (try dsimp only); have et : (t_ + 1).toInt = t_.toInt + 1 := tI_add rfl (show (1 : Int32).toInt = 1 from by decide) (by omega); rw [et]; have nx_ := nxt_slot (c := c_) (s := sq) hsq hp (by omega) (by omega) ht.1 hc.2; exact nx_), (by (try dsimp only); have et : (t_ + 1).toInt = t_.toInt + 1 := tI_add rfl (show (1 : Int32).toInt = 1 from by decide) (by omega); rw [et]; intro e he; by_cases k : e = t_.toInt.toNat; (rw [k, ← hc.2]; exact ⟨(show 0 < (fta c_.toNatClampNeg).toInt by omega), fun z => c42_3 (congrArg Int64.toInt z)⟩); (exact hb e (by omega)))⟩ (by clear hc hb; (try dsimp only); have et : (t_ + 1).toInt = t_.toInt + 1 := tI_add rfl (show (1 : Int32).toInt = 1 from by decide) (by omega); omega)
  · exact ⟨(by (try dsimp only); have e0 : (0 : Int32).toInt = 0 := (by decide); omega), (by (try dsimp only); have e0 : (0 : Int32).toInt = 0 := (by decide); rw [e0]; have m := (msk (x := (((zq * (-7046029254386353131)).toUInt64 >>> ((40 : Int32).toInt64.toUInt64 &&& Int64.toUInt64 63)).toInt64).toInt32) hsq hp).1; refine ⟨m, ?_⟩; show (hsh sq zq).toInt.toNat = ((hsh sq zq).toInt.toNat + (0 : Int).toNat) % si.toNat; have m : 0 ≤ (hsh sq zq).toInt ∧ (hsh sq zq).toInt < si := m; rw [show (0 : Int).toNat = 0 from rfl, Nat.add_zero]; exact (Nat.mod_eq_of_lt (by omega)).symm), (by (try dsimp only); have e0 : (0 : Int32).toInt = 0 := (by decide); rw [e0]; exact fun e he => absurd he (Nat.not_lt_zero e))⟩

theorem du_X3_mostAlike_3 : decode cX3_mostAlike 3 = .ok (.ldc 25, 2) := by decide +kernel
theorem du_X3_mostAlike_5 : decode cX3_mostAlike 5 = .ok (.if_icmp .ge 20, 3) := by decide +kernel
theorem du_X3_mostAlike_29 : decode cX3_mostAlike 29 = .ok (.if_icmp .ge 16, 3) := by decide +kernel
theorem du_X3_mostAlike_53 : decode cX3_mostAlike 53 = .ok (.getfield 32, 3) := by decide +kernel
theorem du_X3_mostAlike_56 : decode cX3_mostAlike 56 = .ok (.if_icmp .ge 35, 3) := by decide +kernel
theorem du_X3_mostAlike_92 : decode cX3_mostAlike 92 = .ok (.ireturn, 1) := by decide +kernel
theorem du_X3_mostAlike_61 : decode cX3_mostAlike 61 = .ok (.if_icmp .ge 30, 3) := by decide +kernel
theorem du_X3_mostAlike_68 : decode cX3_mostAlike 68 = .ok (.getfield 15, 3) := by decide +kernel
theorem du_X3_mostAlike_73 : decode cX3_mostAlike 73 = .ok (.iaload, 1) := by decide +kernel
theorem du_X3_mostAlike_74 : decode cX3_mostAlike 74 = .ok (.invokevirtual 42, 3) := by decide +kernel
theorem du_X3_mostAlike_78 : decode cX3_mostAlike 78 = .ok (.invokevirtual 46, 3) := by decide +kernel
theorem du_X3_mostAlike_81 : decode cX3_mostAlike 81 = .ok (.invokestatic 50, 3) := by decide +kernel
theorem du_X3_mostAlike_88 : decode cX3_mostAlike 88 = .ok (.goto (-38), 3) := by decide +kernel
theorem du_X3_mostAlike_33 : decode cX3_mostAlike 33 = .ok (.getfield 29, 3) := by decide +kernel
theorem du_X3_mostAlike_38 : decode cX3_mostAlike 38 = .ok (.iastore, 1) := by decide +kernel
theorem du_X3_mostAlike_42 : decode cX3_mostAlike 42 = .ok (.goto (-15), 3) := by decide +kernel
theorem du_X3_mostAlike_11 : decode cX3_mostAlike 11 = .ok (.getfield 32, 3) := by decide +kernel
theorem du_X3_mostAlike_15 : decode cX3_mostAlike 15 = .ok (.if_icmp .ge 10, 3) := by decide +kernel
theorem du_X3_mostAlike_22 : decode cX3_mostAlike 22 = .ok (.goto (-20), 3) := by decide +kernel
abbrev bu_X3_mostAlike_0_2 : ZB := [(.iconst 2, .int 2), (.istore_n 2, .null)]
theorem ku_X3_mostAlike_0_2 : zchk cX3_mostAlike bu_X3_mostAlike_0_2 0 = true ∧ zpc bu_X3_mostAlike_0_2 0 = 2 := ⟨by decide +kernel, rfl⟩
abbrev bu_X3_mostAlike_2_3 : ZB := [(.iload_n 2, .null)]
theorem ku_X3_mostAlike_2_3 : zchk cX3_mostAlike bu_X3_mostAlike_2_3 2 = true ∧ zpc bu_X3_mostAlike_2_3 2 = 3 := ⟨by decide +kernel, rfl⟩
abbrev bu_X3_mostAlike_25_27 : ZB := [(.iconst 0, .int 0), (.istore_n 3, .null)]
theorem ku_X3_mostAlike_25_27 : zchk cX3_mostAlike bu_X3_mostAlike_25_27 25 = true ∧ zpc bu_X3_mostAlike_25_27 25 = 27 := ⟨by decide +kernel, rfl⟩
abbrev bu_X3_mostAlike_27_29 : ZB := [(.iload_n 3, .null), (.iload_n 2, .null)]
theorem ku_X3_mostAlike_27_29 : zchk cX3_mostAlike bu_X3_mostAlike_27_29 27 = true ∧ zpc bu_X3_mostAlike_27_29 27 = 29 := ⟨by decide +kernel, rfl⟩
abbrev bu_X3_mostAlike_45_50 : ZB := [(.iconst 0, .int 0), (.istore_n 3, .null), (.iconst 0, .int 0), (.istore 4, .null)]
theorem ku_X3_mostAlike_45_50 : zchk cX3_mostAlike bu_X3_mostAlike_45_50 45 = true ∧ zpc bu_X3_mostAlike_45_50 45 = 50 := ⟨by decide +kernel, rfl⟩
abbrev bu_X3_mostAlike_50_53 : ZB := [(.iload 4, .null), (.aload_n 0, .null)]
theorem ku_X3_mostAlike_50_53 : zchk cX3_mostAlike bu_X3_mostAlike_50_53 50 = true ∧ zpc bu_X3_mostAlike_50_53 50 = 53 := ⟨by decide +kernel, rfl⟩
abbrev bu_X3_mostAlike_91_92 : ZB := [(.iload_n 3, .null)]
theorem ku_X3_mostAlike_91_92 : zchk cX3_mostAlike bu_X3_mostAlike_91_92 91 = true ∧ zpc bu_X3_mostAlike_91_92 91 = 92 := ⟨by decide +kernel, rfl⟩
abbrev bu_X3_mostAlike_59_61 : ZB := [(.iload_n 3, .null), (.iload_n 1, .null)]
theorem ku_X3_mostAlike_59_61 : zchk cX3_mostAlike bu_X3_mostAlike_59_61 59 = true ∧ zpc bu_X3_mostAlike_59_61 59 = 61 := ⟨by decide +kernel, rfl⟩
abbrev bu_X3_mostAlike_64_68 : ZB := [(.iload_n 3, .null), (.aload_n 0, .null), (.aload_n 0, .null), (.aload_n 0, .null)]
theorem ku_X3_mostAlike_64_68 : zchk cX3_mostAlike bu_X3_mostAlike_64_68 64 = true ∧ zpc bu_X3_mostAlike_64_68 64 = 68 := ⟨by decide +kernel, rfl⟩
abbrev bu_X3_mostAlike_71_73 : ZB := [(.iload 4, .null)]
theorem ku_X3_mostAlike_71_73 : zchk cX3_mostAlike bu_X3_mostAlike_71_73 71 = true ∧ zpc bu_X3_mostAlike_71_73 71 = 73 := ⟨by decide +kernel, rfl⟩
abbrev bu_X3_mostAlike_77_78 : ZB := [(.iload_n 2, .null)]
theorem ku_X3_mostAlike_77_78 : zchk cX3_mostAlike bu_X3_mostAlike_77_78 77 = true ∧ zpc bu_X3_mostAlike_77_78 77 = 78 := ⟨by decide +kernel, rfl⟩
abbrev bu_X3_mostAlike_84_88 : ZB := [(.istore_n 3, .null), (.iinc 4 1, .int 1)]
theorem ku_X3_mostAlike_84_88 : zchk cX3_mostAlike bu_X3_mostAlike_84_88 84 = true ∧ zpc bu_X3_mostAlike_84_88 84 = 88 := ⟨by decide +kernel, rfl⟩
abbrev bu_X3_mostAlike_32_33 : ZB := [(.aload_n 0, .null)]
theorem ku_X3_mostAlike_32_33 : zchk cX3_mostAlike bu_X3_mostAlike_32_33 32 = true ∧ zpc bu_X3_mostAlike_32_33 32 = 33 := ⟨by decide +kernel, rfl⟩
abbrev bu_X3_mostAlike_36_38 : ZB := [(.iload_n 3, .null), (.iconst 0, .int 0)]
theorem ku_X3_mostAlike_36_38 : zchk cX3_mostAlike bu_X3_mostAlike_36_38 36 = true ∧ zpc bu_X3_mostAlike_36_38 36 = 38 := ⟨by decide +kernel, rfl⟩
abbrev bu_X3_mostAlike_39_42 : ZB := [(.iinc 3 1, .int 1)]
theorem ku_X3_mostAlike_39_42 : zchk cX3_mostAlike bu_X3_mostAlike_39_42 39 = true ∧ zpc bu_X3_mostAlike_39_42 39 = 42 := ⟨by decide +kernel, rfl⟩
abbrev bu_X3_mostAlike_8_11 : ZB := [(.iload_n 2, .null), (.iconst 2, .int 2), (.aload_n 0, .null)]
theorem ku_X3_mostAlike_8_11 : zchk cX3_mostAlike bu_X3_mostAlike_8_11 8 = true ∧ zpc bu_X3_mostAlike_8_11 8 = 11 := ⟨by decide +kernel, rfl⟩
abbrev bu_X3_mostAlike_14_15 : ZB := [(.imul, .null)]
theorem ku_X3_mostAlike_14_15 : zchk cX3_mostAlike bu_X3_mostAlike_14_15 14 = true ∧ zpc bu_X3_mostAlike_14_15 14 = 15 := ⟨by decide +kernel, rfl⟩
abbrev bu_X3_mostAlike_18_22 : ZB := [(.iload_n 2, .null), (.iconst 2, .int 2), (.imul, .null), (.istore_n 2, .null)]
theorem ku_X3_mostAlike_18_22 : zchk cX3_mostAlike bu_X3_mostAlike_18_22 18 = true ∧ zpc bu_X3_mostAlike_18_22 18 = 22 := ⟨by decide +kernel, rfl⟩
set_option maxHeartbeats 4000000 in
set_option maxRecDepth 100000 in
theorem cu_X3_mostAlikeU (l : Launch) (G : KG) (pl : Nat) (cn : Int32) (bh : Int32) (bo : Int32) (be : Nat) (co : Nat) (qx : Nat) (qy : Nat) (zz : Nat) (ta : Nat) (fco : Nat → Int32) (fqx : Nat → Int64) (fqy : Nat → Int64) (fzz : Nat → Int64) (fta : Nat → Int32) (eq : Int32) (cni : Int) (ei : Int) (hcn : cn.toInt = cni) (heq : eq.toInt = ei) (hn : 0 ≤ cni ∧ cni ≤ 14641) (he : 1 ≤ ei) (hco : ∀ j : Nat, (j : Int) < cni → 0 ≤ (fco j).toInt ∧ (fco j).toInt / 128 ≤ 120 ∧ (fco j).toInt % 128 ≤ 120) : Ct l G yX3_mostAlike cX3_mostAlike 5 (some .int) { frames := 1, cells := 0, slots := 0, locals := 25 } [.ref pl, .int eq] [(pl, ob 3 [.int cn, .int bh, .int bo, .ref be, .ref co, .ref qx, .ref qy, .ref zz, .ref ta]), (co, aI G 14641 fco), (qx, aJ G 121 fqx), (qy, aJ G 121 fqy), (zz, aJ G 32768 fzz), (ta, aI G 32768 fta)] (fun r w1 => ∃ (rz : Int32), ∃ (fzz2 : Nat → Int64), ∃ (fta2 : Nat → Int32), (rz.toInt = min ((mxI (szF fqx fqy fco) cni.toNat : Nat) : Int) ei) ∧ r = some (.int rz) ∧ w1 = [(pl, ob 3 [.int cn, .int bh, .int bo, .ref be, .ref co, .ref qx, .ref qy, .ref zz, .ref ta]), (co, aI G 14641 fco), (qx, aJ G 121 fqx), (qy, aJ G 121 fqy), (zz, aJ G 32768 fzz2), (ta, aI G 32768 fta2)]) := by
  refine ct_of [(0, .ref pl), (1, .int eq)] (by decide) (Nat.le_of_ble_eq_true rfl) rfl ?_
  intro p0 e0 s0 m0 args0 below0 meth0 c0 A X
  refine z_run X bu_X3_mostAlike_0_2 ku_X3_mostAlike_0_2 (lv' := [(2, .int 2), (0, .ref pl), (1, .int eq)]) (st' := []) rfl ?_
  refine zloop (σ := Int32) (fun z => [(2, .int z), (0, .ref pl), (1, .int eq)]) (fun z => []) (fun z => [(pl, ob 3 [.int cn, .int bh, .int bo, .ref be, .ref co, .ref qx, .ref qy, .ref zz, .ref ta]), (co, aI G 14641 fco), (qx, aJ G 121 fqx), (qy, aJ G 121 fqy), (zz, aJ G 32768 fzz), (ta, aI G 32768 fta)]) (fun z => (2 ≤ z.toInt ∧ z.toInt ≤ 32768) ∧ (Po2 z.toInt)) (fun z => (32768 - z.toInt).toNat) 2 ?_ ?_
  ·
    rintro s_ ⟨hs, hp⟩ ih2
    dsimp only at *
    refine z_run X bu_X3_mostAlike_2_3 ku_X3_mostAlike_2_3 (lv' := [(2, .int s_), (0, .ref pl), (1, .int eq)]) (st' := [.int s_]) rfl ?_
    refine z_ldc X du_X3_mostAlike_3 cn_3_25 ?_
    refine zc_ge X du_X3_mostAlike_5 (tgt := 25) (by decide) (a := s_.toInt) (b := 32768) rfl (show (32768 : Int32).toInt = 32768 from by decide) (fun c5_1 => ?_) (fun c5_1 => ?_)
    ·
      refine z_run X bu_X3_mostAlike_25_27 ku_X3_mostAlike_25_27 (lv' := [(3, .int 0), (2, .int s_), (0, .ref pl), (1, .int eq)]) (st' := []) rfl ?_
      refine zloop (σ := Int32 × (Nat → Int32)) (fun z => [(3, .int z.1), (2, .int s_), (0, .ref pl), (1, .int eq)]) (fun z => []) (fun z => [(pl, ob 3 [.int cn, .int bh, .int bo, .ref be, .ref co, .ref qx, .ref qy, .ref zz, .ref ta]), (co, aI G 14641 fco), (qx, aJ G 121 fqx), (qy, aJ G 121 fqy), (zz, aJ G 32768 fzz), (ta, aI G 32768 z.2)]) (fun z => (0 ≤ z.1.toInt ∧ z.1.toInt ≤ s_.toInt) ∧ (∀ j : Nat, (j : Int) < z.1.toInt → z.2 j = (fun _ => (0 : Int32)) j)) (fun z => (s_.toInt - z.1.toInt).toNat) (0, fta) ?_ ?_
      ·
        rintro ⟨i_, gta⟩ ⟨hi, hZ⟩ ih27
        dsimp only at *
        refine z_run X bu_X3_mostAlike_27_29 ku_X3_mostAlike_27_29 (lv' := [(3, .int i_), (2, .int s_), (0, .ref pl), (1, .int eq)]) (st' := [.int s_, .int i_]) rfl ?_
        refine zc_ge X du_X3_mostAlike_29 (tgt := 45) (by decide) (a := i_.toInt) (b := s_.toInt) rfl rfl (fun c29_2 => ?_) (fun c29_2 => ?_)
        ·
          refine z_run X bu_X3_mostAlike_45_50 ku_X3_mostAlike_45_50 (lv' := [(4, .int 0), (3, .int 0), (2, .int s_), (0, .ref pl), (1, .int eq)]) (st' := []) rfl ?_
          refine zloop (σ := Int32 × Int32 × (Nat → Int64) × (Nat → Int32)) (fun z => [(4, .int z.2.1), (3, .int z.1), (2, .int s_), (0, .ref pl), (1, .int eq)]) (fun z => []) (fun z => [(pl, ob 3 [.int cn, .int bh, .int bo, .ref be, .ref co, .ref qx, .ref qy, .ref zz, .ref ta]), (co, aI G 14641 fco), (qx, aJ G 121 fqx), (qy, aJ G 121 fqy), (zz, aJ G 32768 z.2.2.1), (ta, aI G 32768 z.2.2.2)]) (fun z => (0 ≤ z.2.1.toInt ∧ z.2.1.toInt ≤ cni) ∧ (0 ≤ z.1.toInt ∧ z.1.toInt ≤ ei) ∧ (Eqf z.1.toInt ((mxI (szF fqx fqy fco) z.2.1.toInt.toNat : Nat) : Int)) ∧ (HTb (szF fqx fqy fco) z.2.1.toInt.toNat s_.toInt.toNat (hsN s_) z.2.2.2 z.2.2.1)) (fun z => (cni - z.2.1.toInt).toNat) (0, 0, fzz, gta) ?_ ?_
          ·
            rintro ⟨m_, k_, gz3, gt3⟩ ⟨hk, hm, hM, hH⟩ ih50
            dsimp only at *
            refine z_run X bu_X3_mostAlike_50_53 ku_X3_mostAlike_50_53 (lv' := [(4, .int k_), (3, .int m_), (2, .int s_), (0, .ref pl), (1, .int eq)]) (st' := [.ref pl, .int k_]) rfl ?_
            refine z_get X fl_3_32 du_X3_mostAlike_53 0 rfl (v := .int cn) rfl ?_
            refine zc_ge X du_X3_mostAlike_56 (tgt := 91) (by decide) (a := k_.toInt) (b := cni) rfl hcn (fun c56_3 => ?_) (fun c56_3 => ?_)
            ·
              refine z_run X bu_X3_mostAlike_91_92 ku_X3_mostAlike_91_92 (lv' := [(4, .int k_), (3, .int m_), (2, .int s_), (0, .ref pl), (1, .int eq)]) (st' := [.int m_]) rfl ?_
              exact z_iret X rfl du_X3_mostAlike_92 (Nat.le_of_ble_eq_true rfl) (Nat.le_of_ble_eq_true rfl) ⟨m_, gz3, gt3, (mx_end (f := (szF fqx fqy fco)) (hM : m_.toInt = _) hm.2 (show k_.toInt.toNat ≤ cni.toNat by clear hH hM; omega) (show k_.toInt.toNat = cni.toNat ∨ ei ≤ m_.toInt by clear hH hM; omega)), rfl, rfl⟩
            ·
              refine z_run X bu_X3_mostAlike_59_61 ku_X3_mostAlike_59_61 (lv' := [(4, .int k_), (3, .int m_), (2, .int s_), (0, .ref pl), (1, .int eq)]) (st' := [.int eq, .int m_]) rfl ?_
              refine zc_ge X du_X3_mostAlike_61 (tgt := 91) (by decide) (a := m_.toInt) (b := ei) rfl heq (fun c61_4 => ?_) (fun c61_4 => ?_)
              ·
                refine z_run X bu_X3_mostAlike_91_92 ku_X3_mostAlike_91_92 (lv' := [(4, .int k_), (3, .int m_), (2, .int s_), (0, .ref pl), (1, .int eq)]) (st' := [.int m_]) rfl ?_
                exact z_iret X rfl du_X3_mostAlike_92 (Nat.le_of_ble_eq_true rfl) (Nat.le_of_ble_eq_true rfl) ⟨m_, gz3, gt3, (mx_end (f := (szF fqx fqy fco)) (hM : m_.toInt = _) hm.2 (show k_.toInt.toNat ≤ cni.toNat by clear hH hM; omega) (show k_.toInt.toNat = cni.toNat ∨ ei ≤ m_.toInt by clear hH hM; omega)), rfl, rfl⟩
              ·
                refine z_run X bu_X3_mostAlike_64_68 ku_X3_mostAlike_64_68 (lv' := [(4, .int k_), (3, .int m_), (2, .int s_), (0, .ref pl), (1, .int eq)]) (st' := [.ref pl, .ref pl, .ref pl, .int m_]) rfl ?_
                refine z_get X fl_3_15 du_X3_mostAlike_68 0 rfl (v := .ref co) rfl ?_
                refine z_run X bu_X3_mostAlike_71_73 ku_X3_mostAlike_71_73 (lv' := [(4, .int k_), (3, .int m_), (2, .int s_), (0, .ref pl), (1, .int eq)]) (st' := [.int k_, .ref co, .ref pl, .ref pl, .int m_]) rfl ?_
                refine z_iald X du_X3_mostAlike_73 1 rfl (vin rfl (by omega) (by omega)) (v := (fco k_.toNatClampNeg)) rfl ?_
                refine z_callV X k_3_42 (cu_X3_sizeMadeU l G pl cn bh bo be co qx qy zz ta fqx fqy (fco k_.toNatClampNeg) ((fco k_.toNatClampNeg).toInt) rfl (hco k_.toNatClampNeg (show ((k_.toInt.toNat : Nat) : Int) < cni by clear hH hM; omega))) du_X3_mostAlike_74 0 rfl rfl rfl ⟨Nat.le_of_ble_eq_true rfl, Nat.le_of_ble_eq_true rfl⟩ ⟨Nat.le_of_ble_eq_true rfl, Nat.le_of_ble_eq_true rfl⟩ rfl (rest := [.ref pl, .int m_]) (As := [.int (fco k_.toNatClampNeg)]) rfl (Nat.le_of_ble_eq_true rfl) [0, 2, 3] [1, 4, 5] rfl (by decide) (wr := [(co, aI G 14641 fco), (zz, aJ G 32768 gz3), (ta, aI G 32768 gt3)]) rfl (by decide) (by decide) ?_
                rintro _ _ ⟨rz_5, f74_6, rfl, rfl⟩
                refine Z.at (pc' := 77) (st' := [.long rz_5, .ref pl, .int m_]) (ws' := [(co, aI G 14641 fco), (zz, aJ G 32768 gz3), (ta, aI G 32768 gt3), (pl, ob 3 [.int cn, .int bh, .int bo, .ref be, .ref co, .ref qx, .ref qy, .ref zz, .ref ta]), (qx, aJ G 121 fqx), (qy, aJ G 121 fqy)]) (kc' := 0) (ks' := 0) rfl rfl rfl rfl rfl ?_
                refine z_run X bu_X3_mostAlike_77_78 ku_X3_mostAlike_77_78 (lv' := [(4, .int k_), (3, .int m_), (2, .int s_), (0, .ref pl), (1, .int eq)]) (st' := [.int s_, .long rz_5, .ref pl, .int m_]) rfl ?_
                refine z_callV X k_3_46 (cu_X3_talliedU l G pl cn bh bo be co qx qy zz ta gz3 gt3 rz_5 s_ s_.toInt rfl hp (by clear hH hM; omega)) du_X3_mostAlike_78 3 rfl rfl rfl ⟨Nat.le_of_ble_eq_true rfl, Nat.le_of_ble_eq_true rfl⟩ ⟨Nat.le_of_ble_eq_true rfl, Nat.le_of_ble_eq_true rfl⟩ rfl (rest := [.int m_]) (As := [.long rz_5, .int s_]) rfl (Nat.le_of_ble_eq_true rfl) [3, 1, 2] [0, 4, 5] rfl (by decide) (wr := [(co, aI G 14641 fco), (qx, aJ G 121 fqx), (qy, aJ G 121 fqy)]) rfl (by decide) (by decide) ?_
                rintro _ _ ⟨rz_7, fzz2_8, fta2_9, f78_10, rfl, rfl⟩
                refine Z.at (pc' := 81) (st' := [.int rz_7, .int m_]) (ws' := [(co, aI G 14641 fco), (qx, aJ G 121 fqx), (qy, aJ G 121 fqy), (pl, ob 3 [.int cn, .int bh, .int bo, .ref be, .ref co, .ref qx, .ref qy, .ref zz, .ref ta]), (zz, aJ G 32768 fzz2_8), (ta, aI G 32768 fta2_9)]) (kc' := 0) (ks' := 0) rfl rfl rfl rfl rfl ?_
                refine z_mmax X k_3_50.1 k_3_50.2.1 k_3_50.2.2.1 k_3_50.2.2.2.1 ⟨Nat.le_of_ble_eq_true rfl, Nat.le_of_ble_eq_true rfl⟩ ⟨Nat.le_of_ble_eq_true rfl, Nat.le_of_ble_eq_true rfl⟩ du_X3_mostAlike_81 (v := (if m_ < rz_7 then rz_7 else m_)) rfl ?_
                refine z_run X bu_X3_mostAlike_84_88 ku_X3_mostAlike_84_88 (lv' := [(4, .int (k_ + 1)), (3, .int (if m_ < rz_7 then rz_7 else m_)), (2, .int s_), (0, .ref pl), (1, .int eq)]) (st' := []) rfl ?_
                refine z_goto X du_X3_mostAlike_88 (tgt := 50) (by decide) ?_
                refine Z.sub (lv' := [(4, .int (k_ + 1)), (3, .int (if m_ < rz_7 then rz_7 else m_)), (2, .int s_), (0, .ref pl), (1, .int eq)]) [0, 1, 2, 3, 4] rfl [3, 0, 1, 2, 4, 5] (ws' := [(pl, ob 3 [.int cn, .int bh, .int bo, .ref be, .ref co, .ref qx, .ref qy, .ref zz, .ref ta]), (co, aI G 14641 fco), (qx, aJ G 121 fqx), (qy, aJ G 121 fqy), (zz, aJ G 32768 fzz2_8), (ta, aI G 32768 fta2_9)]) rfl (by decide) ?_
                exact ih50 ((if m_ < rz_7 then rz_7 else m_), (k_ + 1), fzz2_8, fta2_9) ⟨(by clear hH hM; (try dsimp only); have e : (k_ + 1).toInt = k_.toInt + 1 := tI_add rfl (show (1 : Int32).toInt = 1 from by decide) (by omega); omega), (by (try dsimp only); obtain ⟨ad1_, ad2_⟩ := TaE.add f78_10 hH (show k_.toInt.toNat < s_.toInt.toNat by clear hH; omega) (by clear hH; omega) (show (szF fqx fqy fco) k_.toInt.toNat = _ from (f74_6).symm); have q := (mxS (f := (szF fqx fqy fco)) (n := k_.toInt.toNat) hM (ad1_.trans (by rw [← show (szF fqx fqy fco) k_.toInt.toNat = _ from (f74_6).symm]))); have u := mxI_step (f := (szF fqx fqy fco)) (n := k_.toInt.toNat); have hM : m_.toInt = _ := hM; have q : _ = ((mxI (szF fqx fqy fco) (k_.toInt.toNat + 1) : Nat) : Int) := q; omega), (by (try dsimp only); have e : (k_ + 1).toInt = k_.toInt + 1 := tI_add rfl (show (1 : Int32).toInt = 1 from by decide) (by omega); rw [e, show (k_.toInt + 1).toNat = k_.toInt.toNat + 1 by clear hH; omega]; obtain ⟨ad1_, ad2_⟩ := TaE.add f78_10 hH (show k_.toInt.toNat < s_.toInt.toNat by clear hH; omega) (by clear hH; omega) (show (szF fqx fqy fco) k_.toInt.toNat = _ from (f74_6).symm); exact (mxS (f := (szF fqx fqy fco)) (n := k_.toInt.toNat) hM (ad1_.trans (by rw [← show (szF fqx fqy fco) k_.toInt.toNat = _ from (f74_6).symm])))), (by (try dsimp only); have e : (k_ + 1).toInt = k_.toInt + 1 := tI_add rfl (show (1 : Int32).toInt = 1 from by decide) (by omega); rw [e, show (k_.toInt + 1).toNat = k_.toInt.toNat + 1 by clear hH; omega]; obtain ⟨ad1_, ad2_⟩ := TaE.add f78_10 hH (show k_.toInt.toNat < s_.toInt.toNat by clear hH; omega) (by clear hH; omega) (show (szF fqx fqy fco) k_.toInt.toNat = _ from (f74_6).symm); exact ad2_)⟩ (by clear hH hM; (try dsimp only); have e : (k_ + 1).toInt = k_.toInt + 1 := tI_add rfl (show (1 : Int32).toInt = 1 from by decide) (by omega); omega)
          · exact ⟨(by clear hZ; (try dsimp only); have e0 : (0 : Int32).toInt = 0 := (by decide); omega), (by clear hZ; (try dsimp only); have e0 : (0 : Int32).toInt = 0 := (by decide); omega), (by (try dsimp only); have e0 : (0 : Int32).toInt = 0 := (by decide); rw [e0]; exact e0), (by (try dsimp only); have e0 : (0 : Int32).toInt = 0 := (by decide); rw [e0]; exact HTb.zero (fun s hs9 => hZ s (by omega)))⟩
        ·
          refine z_run X bu_X3_mostAlike_32_33 ku_X3_mostAlike_32_33 (lv' := [(3, .int i_), (2, .int s_), (0, .ref pl), (1, .int eq)]) (st' := [.ref pl]) rfl ?_
          refine z_get X fl_3_29 du_X3_mostAlike_33 0 rfl (v := .ref ta) rfl ?_
          refine z_run X bu_X3_mostAlike_36_38 ku_X3_mostAlike_36_38 (lv' := [(3, .int i_), (2, .int s_), (0, .ref pl), (1, .int eq)]) (st' := [.int 0, .int i_, .ref ta]) rfl ?_
          refine z_iast X du_X3_mostAlike_38 5 rfl (vin rfl (by omega) (by omega)) (ws' := [(pl, ob 3 [.int cn, .int bh, .int bo, .ref be, .ref co, .ref qx, .ref qy, .ref zz, .ref ta]), (co, aI G 14641 fco), (qx, aJ G 121 fqx), (qy, aJ G 121 fqy), (zz, aJ G 32768 fzz), (ta, aI G 32768 (upd gta i_.toNatClampNeg 0))]) rfl ?_
          refine z_run X bu_X3_mostAlike_39_42 ku_X3_mostAlike_39_42 (lv' := [(3, .int (i_ + 1)), (2, .int s_), (0, .ref pl), (1, .int eq)]) (st' := []) rfl ?_
          refine z_goto X du_X3_mostAlike_42 (tgt := 27) (by decide) ?_
          exact ih27 ((i_ + 1), (upd gta i_.toNatClampNeg 0)) ⟨(by clear hZ; (try dsimp only); have e : (i_ + 1).toInt = i_.toInt + 1 := tI_add rfl (show (1 : Int32).toInt = 1 from by decide) (by omega); omega), (by (try dsimp only); have e : (i_ + 1).toInt = i_.toInt + 1 := tI_add rfl (show (1 : Int32).toInt = 1 from by decide) (by omega); rw [e]; exact st_step (F := fun _ => 0) hi.1 hZ rfl)⟩ (by clear hZ; (try dsimp only); have e : (i_ + 1).toInt = i_.toInt + 1 := tI_add rfl (show (1 : Int32).toInt = 1 from by decide) (by omega); omega)
      · exact ⟨(by (try dsimp only); have e0 : (0 : Int32).toInt = 0 := (by decide); omega), (by (try dsimp only); have e0 : (0 : Int32).toInt = 0 := (by decide); rw [e0]; intro j hj; omega)⟩
    ·
      refine z_run X bu_X3_mostAlike_8_11 ku_X3_mostAlike_8_11 (lv' := [(2, .int s_), (0, .ref pl), (1, .int eq)]) (st' := [.ref pl, .int 2, .int s_]) rfl ?_
      refine z_get X fl_3_32 du_X3_mostAlike_11 0 rfl (v := .int cn) rfl ?_
      refine z_run X bu_X3_mostAlike_14_15 ku_X3_mostAlike_14_15 (lv' := [(2, .int s_), (0, .ref pl), (1, .int eq)]) (st' := [.int (2 * cn), .int s_]) rfl ?_
      refine zc_ge X du_X3_mostAlike_15 (tgt := 25) (by decide) (a := s_.toInt) (b := (2 * cni)) rfl (tI_mul (show (2 : Int32).toInt = 2 from by decide) hcn (by omega)) (fun c15_11 => ?_) (fun c15_11 => ?_)
      ·
        refine z_run X bu_X3_mostAlike_25_27 ku_X3_mostAlike_25_27 (lv' := [(3, .int 0), (2, .int s_), (0, .ref pl), (1, .int eq)]) (st' := []) rfl ?_
        refine zloop (σ := Int32 × (Nat → Int32)) (fun z => [(3, .int z.1), (2, .int s_), (0, .ref pl), (1, .int eq)]) (fun z => []) (fun z => [(pl, ob 3 [.int cn, .int bh, .int bo, .ref be, .ref co, .ref qx, .ref qy, .ref zz, .ref ta]), (co, aI G 14641 fco), (qx, aJ G 121 fqx), (qy, aJ G 121 fqy), (zz, aJ G 32768 fzz), (ta, aI G 32768 z.2)]) (fun z => (0 ≤ z.1.toInt ∧ z.1.toInt ≤ s_.toInt) ∧ (∀ j : Nat, (j : Int) < z.1.toInt → z.2 j = (fun _ => (0 : Int32)) j)) (fun z => (s_.toInt - z.1.toInt).toNat) (0, fta) ?_ ?_
        ·
          rintro ⟨i_, gta⟩ ⟨hi, hZ⟩ ih27
          dsimp only at *
          refine z_run X bu_X3_mostAlike_27_29 ku_X3_mostAlike_27_29 (lv' := [(3, .int i_), (2, .int s_), (0, .ref pl), (1, .int eq)]) (st' := [.int s_, .int i_]) rfl ?_
          refine zc_ge X du_X3_mostAlike_29 (tgt := 45) (by decide) (a := i_.toInt) (b := s_.toInt) rfl rfl (fun c29_12 => ?_) (fun c29_12 => ?_)
          ·
            refine z_run X bu_X3_mostAlike_45_50 ku_X3_mostAlike_45_50 (lv' := [(4, .int 0), (3, .int 0), (2, .int s_), (0, .ref pl), (1, .int eq)]) (st' := []) rfl ?_
            refine zloop (σ := Int32 × Int32 × (Nat → Int64) × (Nat → Int32)) (fun z => [(4, .int z.2.1), (3, .int z.1), (2, .int s_), (0, .ref pl), (1, .int eq)]) (fun z => []) (fun z => [(pl, ob 3 [.int cn, .int bh, .int bo, .ref be, .ref co, .ref qx, .ref qy, .ref zz, .ref ta]), (co, aI G 14641 fco), (qx, aJ G 121 fqx), (qy, aJ G 121 fqy), (zz, aJ G 32768 z.2.2.1), (ta, aI G 32768 z.2.2.2)]) (fun z => (0 ≤ z.2.1.toInt ∧ z.2.1.toInt ≤ cni) ∧ (0 ≤ z.1.toInt ∧ z.1.toInt ≤ ei) ∧ (Eqf z.1.toInt ((mxI (szF fqx fqy fco) z.2.1.toInt.toNat : Nat) : Int)) ∧ (HTb (szF fqx fqy fco) z.2.1.toInt.toNat s_.toInt.toNat (hsN s_) z.2.2.2 z.2.2.1)) (fun z => (cni - z.2.1.toInt).toNat) (0, 0, fzz, gta) ?_ ?_
            ·
              rintro ⟨m_, k_, gz3, gt3⟩ ⟨hk, hm, hM, hH⟩ ih50
              dsimp only at *
              refine z_run X bu_X3_mostAlike_50_53 ku_X3_mostAlike_50_53 (lv' := [(4, .int k_), (3, .int m_), (2, .int s_), (0, .ref pl), (1, .int eq)]) (st' := [.ref pl, .int k_]) rfl ?_
              refine z_get X fl_3_32 du_X3_mostAlike_53 0 rfl (v := .int cn) rfl ?_
              refine zc_ge X du_X3_mostAlike_56 (tgt := 91) (by decide) (a := k_.toInt) (b := cni) rfl hcn (fun c56_13 => ?_) (fun c56_13 => ?_)
              ·
                refine z_run X bu_X3_mostAlike_91_92 ku_X3_mostAlike_91_92 (lv' := [(4, .int k_), (3, .int m_), (2, .int s_), (0, .ref pl), (1, .int eq)]) (st' := [.int m_]) rfl ?_
                exact z_iret X rfl du_X3_mostAlike_92 (Nat.le_of_ble_eq_true rfl) (Nat.le_of_ble_eq_true rfl) ⟨m_, gz3, gt3, (mx_end (f := (szF fqx fqy fco)) (hM : m_.toInt = _) hm.2 (show k_.toInt.toNat ≤ cni.toNat by clear hH hM; omega) (show k_.toInt.toNat = cni.toNat ∨ ei ≤ m_.toInt by clear hH hM; omega)), rfl, rfl⟩
              ·
                refine z_run X bu_X3_mostAlike_59_61 ku_X3_mostAlike_59_61 (lv' := [(4, .int k_), (3, .int m_), (2, .int s_), (0, .ref pl), (1, .int eq)]) (st' := [.int eq, .int m_]) rfl ?_
                refine zc_ge X du_X3_mostAlike_61 (tgt := 91) (by decide) (a := m_.toInt) (b := ei) rfl heq (fun c61_14 => ?_) (fun c61_14 => ?_)
                ·
                  refine z_run X bu_X3_mostAlike_91_92 ku_X3_mostAlike_91_92 (lv' := [(4, .int k_), (3, .int m_), (2, .int s_), (0, .ref pl), (1, .int eq)]) (st' := [.int m_]) rfl ?_
                  exact z_iret X rfl du_X3_mostAlike_92 (Nat.le_of_ble_eq_true rfl) (Nat.le_of_ble_eq_true rfl) ⟨m_, gz3, gt3, (mx_end (f := (szF fqx fqy fco)) (hM : m_.toInt = _) hm.2 (show k_.toInt.toNat ≤ cni.toNat by clear hH hM; omega) (show k_.toInt.toNat = cni.toNat ∨ ei ≤ m_.toInt by clear hH hM; omega)), rfl, rfl⟩
                ·
                  refine z_run X bu_X3_mostAlike_64_68 ku_X3_mostAlike_64_68 (lv' := [(4, .int k_), (3, .int m_), (2, .int s_), (0, .ref pl), (1, .int eq)]) (st' := [.ref pl, .ref pl, .ref pl, .int m_]) rfl ?_
                  refine z_get X fl_3_15 du_X3_mostAlike_68 0 rfl (v := .ref co) rfl ?_
                  refine z_run X bu_X3_mostAlike_71_73 ku_X3_mostAlike_71_73 (lv' := [(4, .int k_), (3, .int m_), (2, .int s_), (0, .ref pl), (1, .int eq)]) (st' := [.int k_, .ref co, .ref pl, .ref pl, .int m_]) rfl ?_
                  refine z_iald X du_X3_mostAlike_73 1 rfl (vin rfl (by omega) (by omega)) (v := (fco k_.toNatClampNeg)) rfl ?_
                  refine z_callV X k_3_42 (cu_X3_sizeMadeU l G pl cn bh bo be co qx qy zz ta fqx fqy (fco k_.toNatClampNeg) ((fco k_.toNatClampNeg).toInt) rfl (hco k_.toNatClampNeg (show ((k_.toInt.toNat : Nat) : Int) < cni by clear hH hM; omega))) du_X3_mostAlike_74 0 rfl rfl rfl ⟨Nat.le_of_ble_eq_true rfl, Nat.le_of_ble_eq_true rfl⟩ ⟨Nat.le_of_ble_eq_true rfl, Nat.le_of_ble_eq_true rfl⟩ rfl (rest := [.ref pl, .int m_]) (As := [.int (fco k_.toNatClampNeg)]) rfl (Nat.le_of_ble_eq_true rfl) [0, 2, 3] [1, 4, 5] rfl (by decide) (wr := [(co, aI G 14641 fco), (zz, aJ G 32768 gz3), (ta, aI G 32768 gt3)]) rfl (by decide) (by decide) ?_
                  rintro _ _ ⟨rz_15, f74_16, rfl, rfl⟩
                  refine Z.at (pc' := 77) (st' := [.long rz_15, .ref pl, .int m_]) (ws' := [(co, aI G 14641 fco), (zz, aJ G 32768 gz3), (ta, aI G 32768 gt3), (pl, ob 3 [.int cn, .int bh, .int bo, .ref be, .ref co, .ref qx, .ref qy, .ref zz, .ref ta]), (qx, aJ G 121 fqx), (qy, aJ G 121 fqy)]) (kc' := 0) (ks' := 0) rfl rfl rfl rfl rfl ?_
                  refine z_run X bu_X3_mostAlike_77_78 ku_X3_mostAlike_77_78 (lv' := [(4, .int k_), (3, .int m_), (2, .int s_), (0, .ref pl), (1, .int eq)]) (st' := [.int s_, .long rz_15, .ref pl, .int m_]) rfl ?_
                  refine z_callV X k_3_46 (cu_X3_talliedU l G pl cn bh bo be co qx qy zz ta gz3 gt3 rz_15 s_ s_.toInt rfl hp (by clear hH hM; omega)) du_X3_mostAlike_78 3 rfl rfl rfl ⟨Nat.le_of_ble_eq_true rfl, Nat.le_of_ble_eq_true rfl⟩ ⟨Nat.le_of_ble_eq_true rfl, Nat.le_of_ble_eq_true rfl⟩ rfl (rest := [.int m_]) (As := [.long rz_15, .int s_]) rfl (Nat.le_of_ble_eq_true rfl) [3, 1, 2] [0, 4, 5] rfl (by decide) (wr := [(co, aI G 14641 fco), (qx, aJ G 121 fqx), (qy, aJ G 121 fqy)]) rfl (by decide) (by decide) ?_
                  rintro _ _ ⟨rz_17, fzz2_18, fta2_19, f78_20, rfl, rfl⟩
                  refine Z.at (pc' := 81) (st' := [.int rz_17, .int m_]) (ws' := [(co, aI G 14641 fco), (qx, aJ G 121 fqx), (qy, aJ G 121 fqy), (pl, ob 3 [.int cn, .int bh, .int bo, .ref be, .ref co, .ref qx, .ref qy, .ref zz, .ref ta]), (zz, aJ G 32768 fzz2_18), (ta, aI G 32768 fta2_19)]) (kc' := 0) (ks' := 0) rfl rfl rfl rfl rfl ?_
                  refine z_mmax X k_3_50.1 k_3_50.2.1 k_3_50.2.2.1 k_3_50.2.2.2.1 ⟨Nat.le_of_ble_eq_true rfl, Nat.le_of_ble_eq_true rfl⟩ ⟨Nat.le_of_ble_eq_true rfl, Nat.le_of_ble_eq_true rfl⟩ du_X3_mostAlike_81 (v := (if m_ < rz_17 then rz_17 else m_)) rfl ?_
                  refine z_run X bu_X3_mostAlike_84_88 ku_X3_mostAlike_84_88 (lv' := [(4, .int (k_ + 1)), (3, .int (if m_ < rz_17 then rz_17 else m_)), (2, .int s_), (0, .ref pl), (1, .int eq)]) (st' := []) rfl ?_
                  refine z_goto X du_X3_mostAlike_88 (tgt := 50) (by decide) ?_
                  refine Z.sub (lv' := [(4, .int (k_ + 1)), (3, .int (if m_ < rz_17 then rz_17 else m_)), (2, .int s_), (0, .ref pl), (1, .int eq)]) [0, 1, 2, 3, 4] rfl [3, 0, 1, 2, 4, 5] (ws' := [(pl, ob 3 [.int cn, .int bh, .int bo, .ref be, .ref co, .ref qx, .ref qy, .ref zz, .ref ta]), (co, aI G 14641 fco), (qx, aJ G 121 fqx), (qy, aJ G 121 fqy), (zz, aJ G 32768 fzz2_18), (ta, aI G 32768 fta2_19)]) rfl (by decide) ?_
                  exact ih50 ((if m_ < rz_17 then rz_17 else m_), (k_ + 1), fzz2_18, fta2_19) ⟨(by clear hH hM; (try dsimp only); have e : (k_ + 1).toInt = k_.toInt + 1 := tI_add rfl (show (1 : Int32).toInt = 1 from by decide) (by omega); omega), (by (try dsimp only); obtain ⟨ad1_, ad2_⟩ := TaE.add f78_20 hH (show k_.toInt.toNat < s_.toInt.toNat by clear hH; omega) (by clear hH; omega) (show (szF fqx fqy fco) k_.toInt.toNat = _ from (f74_16).symm); have q := (mxS (f := (szF fqx fqy fco)) (n := k_.toInt.toNat) hM (ad1_.trans (by rw [← show (szF fqx fqy fco) k_.toInt.toNat = _ from (f74_16).symm]))); have u := mxI_step (f := (szF fqx fqy fco)) (n := k_.toInt.toNat); have hM : m_.toInt = _ := hM; have q : _ = ((mxI (szF fqx fqy fco) (k_.toInt.toNat + 1) : Nat) : Int) := q; omega), (by (try dsimp only); have e : (k_ + 1).toInt = k_.toInt + 1 := tI_add rfl (show (1 : Int32).toInt = 1 from by decide) (by omega); rw [e, show (k_.toInt + 1).toNat = k_.toInt.toNat + 1 by clear hH; omega]; obtain ⟨ad1_, ad2_⟩ := TaE.add f78_20 hH (show k_.toInt.toNat < s_.toInt.toNat by clear hH; omega) (by clear hH; omega) (show (szF fqx fqy fco) k_.toInt.toNat = _ from (f74_16).symm); exact (mxS (f := (szF fqx fqy fco)) (n := k_.toInt.toNat) hM (ad1_.trans (by rw [← show (szF fqx fqy fco) k_.toInt.toNat = _ from (f74_16).symm])))), (by (try dsimp only); have e : (k_ + 1).toInt = k_.toInt + 1 := tI_add rfl (show (1 : Int32).toInt = 1 from by decide) (by omega); rw [e, show (k_.toInt + 1).toNat = k_.toInt.toNat + 1 by clear hH; omega]; obtain ⟨ad1_, ad2_⟩ := TaE.add f78_20 hH (show k_.toInt.toNat < s_.toInt.toNat by clear hH; omega) (by clear hH; omega) (show (szF fqx fqy fco) k_.toInt.toNat = _ from (f74_16).symm); exact ad2_)⟩ (by clear hH hM; (try dsimp only); have e : (k_ + 1).toInt = k_.toInt + 1 := tI_add rfl (show (1 : Int32).toInt = 1 from by decide) (by omega); omega)
            · exact ⟨(by clear hZ; (try dsimp only); have e0 : (0 : Int32).toInt = 0 := (by decide); omega), (by clear hZ; (try dsimp only); have e0 : (0 : Int32).toInt = 0 := (by decide); omega), (by (try dsimp only); have e0 : (0 : Int32).toInt = 0 := (by decide); rw [e0]; exact e0), (by (try dsimp only); have e0 : (0 : Int32).toInt = 0 := (by decide); rw [e0]; exact HTb.zero (fun s hs9 => hZ s (by omega)))⟩
          ·
            refine z_run X bu_X3_mostAlike_32_33 ku_X3_mostAlike_32_33 (lv' := [(3, .int i_), (2, .int s_), (0, .ref pl), (1, .int eq)]) (st' := [.ref pl]) rfl ?_
            refine z_get X fl_3_29 du_X3_mostAlike_33 0 rfl (v := .ref ta) rfl ?_
            refine z_run X bu_X3_mostAlike_36_38 ku_X3_mostAlike_36_38 (lv' := [(3, .int i_), (2, .int s_), (0, .ref pl), (1, .int eq)]) (st' := [.int 0, .int i_, .ref ta]) rfl ?_
            refine z_iast X du_X3_mostAlike_38 5 rfl (vin rfl (by omega) (by omega)) (ws' := [(pl, ob 3 [.int cn, .int bh, .int bo, .ref be, .ref co, .ref qx, .ref qy, .ref zz, .ref ta]), (co, aI G 14641 fco), (qx, aJ G 121 fqx), (qy, aJ G 121 fqy), (zz, aJ G 32768 fzz), (ta, aI G 32768 (upd gta i_.toNatClampNeg 0))]) rfl ?_
            refine z_run X bu_X3_mostAlike_39_42 ku_X3_mostAlike_39_42 (lv' := [(3, .int (i_ + 1)), (2, .int s_), (0, .ref pl), (1, .int eq)]) (st' := []) rfl ?_
            refine z_goto X du_X3_mostAlike_42 (tgt := 27) (by decide) ?_
            exact ih27 ((i_ + 1), (upd gta i_.toNatClampNeg 0)) ⟨(by clear hZ; (try dsimp only); have e : (i_ + 1).toInt = i_.toInt + 1 := tI_add rfl (show (1 : Int32).toInt = 1 from by decide) (by omega); omega), (by (try dsimp only); have e : (i_ + 1).toInt = i_.toInt + 1 := tI_add rfl (show (1 : Int32).toInt = 1 from by decide) (by omega); rw [e]; exact st_step (F := fun _ => 0) hi.1 hZ rfl)⟩ (by clear hZ; (try dsimp only); have e : (i_ + 1).toInt = i_.toInt + 1 := tI_add rfl (show (1 : Int32).toInt = 1 from by decide) (by omega); omega)
        · exact ⟨(by (try dsimp only); have e0 : (0 : Int32).toInt = 0 := (by decide); omega), (by (try dsimp only); have e0 : (0 : Int32).toInt = 0 := (by decide); rw [e0]; intro j hj; omega)⟩
      ·
        refine z_run X bu_X3_mostAlike_18_22 ku_X3_mostAlike_18_22 (lv' := [(2, .int (s_ * 2)), (0, .ref pl), (1, .int eq)]) (st' := []) rfl ?_
        refine z_goto X du_X3_mostAlike_22 (tgt := 2) (by decide) ?_
        exact ih2 (s_ * 2) ⟨(by have hq := hp.even (by omega); (try dsimp only); have es : (s_ * 2).toInt = s_.toInt * 2 := tI_mul rfl (show (2 : Int32).toInt = 2 from by decide) (by omega); omega), (by (try dsimp only); rw [show (s_ * 2).toInt = s_.toInt * 2 from tI_mul rfl (show (2 : Int32).toInt = 2 from by decide) (by omega)]; exact hp.dbl (by omega))⟩ (by (try dsimp only); have es : (s_ * 2).toInt = s_.toInt * 2 := tI_mul rfl (show (2 : Int32).toInt = 2 from by decide) (by omega); omega)
  · exact ⟨(by decide), Po2.two⟩

