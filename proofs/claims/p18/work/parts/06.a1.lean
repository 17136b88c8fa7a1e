/-! AN ABSTRACT RUNNER: values by their names (numbers), what is known of each (an interval, a cell), which field holds which, differences. Its check runs in the kernel; its soundness is over the judgement Z. -/
abbrev VT : Type := Nat × Int × Int
abbrev AEv : Type := List (Nat × VT)
abbrev ARl : Type := List (Nat × Nat × Int)
abbrev ACa : Type := List (Nat × Nat × Nat)
abbrev ALv : Type := List (Nat × Nat × Bool)
abbrev AS : Type := ALv × List Nat × AEv × ACa × ARl × Nat
abbrev TE : Type := (Nat × List VT) ⊕ (Nat × Nat × VT)
def vI : Value → Int
  | .int x => x.toInt
  | .long x => x.toInt
  | _ => 0
def vty (ad : Nat → Nat) (t : VT) (v : Value) : Prop :=
  (t.1 = 0 ∧ (∃ x : Int32, v = .int x) ∧ t.2.1 ≤ vI v ∧ vI v ≤ t.2.2) ∨ (t.1 = 1 ∧ (∃ x : Int64, v = .long x) ∧ t.2.1 ≤ vI v ∧ vI v ≤ t.2.2) ∨ (t.1 = 2 ∧ v = .ref (ad t.2.1.toNat)) ∨ (t.1 = 3 ∧ (v = .null ∨ ∃ a, v = .ref a))
def iMin : Int := -2147483648
def iMax : Int := 2147483647
def lMin : Int := -9223372036854775808
def lMax : Int := 9223372036854775807
abbrev tI0 : VT := (0, iMin, iMax)
abbrev tL0 : VT := (1, lMin, lMax)
theorem i32_lo (x : Int32) : iMin ≤ x.toInt := Int32.le_toInt x
theorem i32_hi (x : Int32) : x.toInt ≤ iMax := Int32.toInt_le x
theorem i64_lo (x : Int64) : lMin ≤ x.toInt := Int64.le_toInt x
theorem i64_hi (x : Int64) : x.toInt ≤ lMax := Int64.toInt_le x
theorem vty_i {ad : Nat → Nat} {a b : Int} {x : Int32} (h1 : a ≤ x.toInt) (h2 : x.toInt ≤ b) : vty ad (0, a, b) (.int x) := Or.inl ⟨rfl, ⟨x, rfl⟩, h1, h2⟩
theorem vty_l {ad : Nat → Nat} {a b : Int} {x : Int64} (h1 : a ≤ x.toInt) (h2 : x.toInt ≤ b) : vty ad (1, a, b) (.long x) := Or.inr (Or.inl ⟨rfl, ⟨x, rfl⟩, h1, h2⟩)
theorem vty_i0 {ad : Nat → Nat} (x : Int32) : vty ad tI0 (.int x) := vty_i (i32_lo x) (i32_hi x)
theorem vty_l0 {ad : Nat → Nat} (x : Int64) : vty ad tL0 (.long x) := vty_l (i64_lo x) (i64_hi x)
theorem vty0 {ad : Nat → Nat} {t : VT} {v : Value} (h : vty ad t v) (h0 : t.1 = 0) : ∃ x : Int32, v = .int x ∧ t.2.1 ≤ x.toInt ∧ x.toInt ≤ t.2.2 := by
  rcases h with ⟨-, ⟨x, rfl⟩, h1, h2⟩ | ⟨h1, -⟩ | ⟨h1, -⟩ | ⟨h1, -⟩
  · exact ⟨x, rfl, h1, h2⟩
  all_goals (rw [h0] at h1; cases h1)
theorem vty1 {ad : Nat → Nat} {t : VT} {v : Value} (h : vty ad t v) (h0 : t.1 = 1) : ∃ x : Int64, v = .long x ∧ t.2.1 ≤ x.toInt ∧ x.toInt ≤ t.2.2 := by
  rcases h with ⟨h1, -⟩ | ⟨-, ⟨x, rfl⟩, h1, h2⟩ | ⟨h1, -⟩ | ⟨h1, -⟩
  · rw [h0] at h1; cases h1
  · exact ⟨x, rfl, h1, h2⟩
  all_goals (rw [h0] at h1; cases h1)
theorem vty2 {ad : Nat → Nat} {t : VT} {v : Value} (h : vty ad t v) (h0 : t.1 = 2) : v = .ref (ad t.2.1.toNat) := by
  rcases h with ⟨h1, -⟩ | ⟨h1, -⟩ | ⟨-, h1⟩ | ⟨h1, -⟩
  · rw [h0] at h1; cases h1
  · rw [h0] at h1; cases h1
  · exact h1
  · rw [h0] at h1; cases h1
/-- what is known of a name: the first entry -/
def aty : AEv → Nat → VT
  | [], _ => (9, 0, 0)
  | q :: l, i => bif Nat.beq q.1 i then q.2 else aty l i
theorem aty_sound {ad : Nat → Nat} {ν : Nat → Value} : ∀ (ev : AEv) (i : Nat), (∀ q ∈ ev, vty ad q.2 (ν q.1)) → (aty ev i).1 = 9 ∨ vty ad (aty ev i) (ν i)
  | [], _, _ => Or.inl rfl
  | q :: l, i, h => by
    unfold aty
    cases hb : Nat.beq q.1 i with
    | true =>
      have e : q.1 = i := Nat.eq_of_beq_eq_true hb
      rw [← e]
      exact Or.inr (h q List.mem_cons_self)
    | false => exact aty_sound l i (fun q hq => h q (List.mem_cons_of_mem _ hq))
theorem aty_of {ad : Nat → Nat} {ν : Nat → Value} {ev : AEv} {i k : Nat} (h : ∀ q ∈ ev, vty ad q.2 (ν q.1)) (hk : (aty ev i).1 = k) (h9 : k ≠ 9) : vty ad (aty ev i) (ν i) := (aty_sound ev i h).resolve_left (fun e => h9 (hk.symm.trans e))
def omin : Option Int → Option Int → Option Int
  | some a, some b => some (bif decide (a ≤ b) then a else b)
  | some a, none => some a
  | none, b => b
def omax : Option Int → Option Int → Option Int
  | some a, some b => some (bif decide (a ≤ b) then b else a)
  | some a, none => some a
  | none, b => b
def isNum (t : VT) : Bool := Nat.ble t.1 1
def ahi (ev : AEv) (rl : ARl) : Nat → Nat → Option Int
  | 0, i => bif isNum (aty ev i) then some (aty ev i).2.2 else none
  | n + 1, i => rl.foldr (fun q acc => bif Nat.beq q.1 i then omin acc ((ahi ev rl n q.2.1).map (· + q.2.2)) else acc) (bif isNum (aty ev i) then some (aty ev i).2.2 else none)
def alo (ev : AEv) (rl : ARl) : Nat → Nat → Option Int
  | 0, i => bif isNum (aty ev i) then some (aty ev i).2.1 else none
  | n + 1, i => rl.foldr (fun q acc => bif Nat.beq q.2.1 i then omax acc ((alo ev rl n q.1).map (· - q.2.2)) else acc) (bif isNum (aty ev i) then some (aty ev i).2.1 else none)
/-- the least d known with a ≤ b + d -/
def adif (ev : AEv) (rl : ARl) (b : Nat) : Nat → Nat → Option Int
  | 0, a => bif Nat.beq a b then some 0 else match ahi ev rl 1 a, alo ev rl 1 b with
    | some h, some l => some (h - l)
    | _, _ => none
  | n + 1, a => rl.foldr (fun q acc => bif Nat.beq q.1 a then omin acc ((adif ev rl b n q.2.1).map (· + q.2.2)) else acc) (bif Nat.beq a b then some 0 else match ahi ev rl 1 a, alo ev rl 1 b with
    | some h, some l => some (h - l)
    | _, _ => none)
theorem omin_le {a b : Option Int} {x : Int} (ha : ∀ h, a = some h → x ≤ h) (hb : ∀ h, b = some h → x ≤ h) : ∀ h, omin a b = some h → x ≤ h := by
  intro h e
  cases a with
  | none => exact hb h e
  | some a =>
    cases b with
    | none => exact ha h e
    | some b =>
      simp only [omin, Option.some.injEq] at e
      have h1 := ha a rfl
      have h2 := hb b rfl
      cases hd : decide (a ≤ b) <;> rw [hd] at e <;> simp only [cond_true, cond_false] at e <;> omega
theorem omax_le {a b : Option Int} {x : Int} (ha : ∀ h, a = some h → h ≤ x) (hb : ∀ h, b = some h → h ≤ x) : ∀ h, omax a b = some h → h ≤ x := by
  intro h e
  cases a with
  | none => exact hb h e
  | some a =>
    cases b with
    | none => exact ha h e
    | some b =>
      simp only [omax, Option.some.injEq] at e
      have h1 := ha a rfl
      have h2 := hb b rfl
      cases hd : decide (a ≤ b) <;> rw [hd] at e <;> simp only [cond_true, cond_false] at e <;> omega
theorem aown {ad : Nat → Nat} {ν : Nat → Value} {ev : AEv} (hv : ∀ q ∈ ev, vty ad q.2 (ν q.1)) {i : Nat} (hn : isNum (aty ev i) = true) : (aty ev i).2.1 ≤ vI (ν i) ∧ vI (ν i) ≤ (aty ev i).2.2 := by
  have h1 : (aty ev i).1 ≤ 1 := Nat.le_of_ble_eq_true hn
  rcases aty_sound ev i hv with h | h
  · omega
  · rcases h with ⟨-, -, h⟩ | ⟨-, -, h⟩ | ⟨h, -⟩ | ⟨h, -⟩
    · exact h
    · exact h
    · omega
    · omega
theorem fold_le {α : Type} (rl : List α) (p : α → Bool) (g : α → Option Int) {x : Int} {b0 : Option Int} (h0 : ∀ h, b0 = some h → x ≤ h) (hg : ∀ q ∈ rl, p q = true → ∀ h, g q = some h → x ≤ h) : ∀ h, rl.foldr (fun q acc => bif p q then omin acc (g q) else acc) b0 = some h → x ≤ h := by
  induction rl with
  | nil => exact h0
  | cons q rl ih =>
    have h1 := ih (fun z hz => hg z (List.mem_cons_of_mem _ hz))
    intro h e
    simp only [List.foldr_cons] at e
    cases hp : p q with
    | true =>
      rw [hp] at e
      exact omin_le h1 (hg q List.mem_cons_self hp) h e
    | false =>
      rw [hp] at e
      exact h1 h e
theorem fold_ge {α : Type} (rl : List α) (p : α → Bool) (g : α → Option Int) {x : Int} {b0 : Option Int} (h0 : ∀ h, b0 = some h → h ≤ x) (hg : ∀ q ∈ rl, p q = true → ∀ h, g q = some h → h ≤ x) : ∀ h, rl.foldr (fun q acc => bif p q then omax acc (g q) else acc) b0 = some h → h ≤ x := by
  induction rl with
  | nil => exact h0
  | cons q rl ih =>
    have h1 := ih (fun z hz => hg z (List.mem_cons_of_mem _ hz))
    intro h e
    simp only [List.foldr_cons] at e
    cases hp : p q with
    | true =>
      rw [hp] at e
      exact omax_le h1 (hg q List.mem_cons_self hp) h e
    | false =>
      rw [hp] at e
      exact h1 h e
section QUERY
variable {ad : Nat → Nat} {ν : Nat → Value} {ev : AEv} {rl : ARl}
theorem ahi_own (hv : ∀ q ∈ ev, vty ad q.2 (ν q.1)) (i : Nat) : ∀ h, (bif isNum (aty ev i) then some (aty ev i).2.2 else none) = some h → vI (ν i) ≤ h := by
  intro h e
  cases hn : isNum (aty ev i) with
  | true =>
    rw [hn] at e
    cases e
    exact (aown hv hn).2
  | false =>
    rw [hn] at e
    cases e
theorem alo_own (hv : ∀ q ∈ ev, vty ad q.2 (ν q.1)) (i : Nat) : ∀ h, (bif isNum (aty ev i) then some (aty ev i).2.1 else none) = some h → h ≤ vI (ν i) := by
  intro h e
  cases hn : isNum (aty ev i) with
  | true =>
    rw [hn] at e
    cases e
    exact (aown hv hn).1
  | false =>
    rw [hn] at e
    cases e
theorem ahi_ok (hv : ∀ q ∈ ev, vty ad q.2 (ν q.1)) (hr : ∀ q ∈ rl, vI (ν q.1) ≤ vI (ν q.2.1) + q.2.2) : ∀ (n i : Nat) (h : Int), ahi ev rl n i = some h → vI (ν i) ≤ h
  | 0, i, h, e => ahi_own hv i h e
  | n + 1, i, h, e => by
    refine fold_le rl (fun q => Nat.beq q.1 i) (fun q => (ahi ev rl n q.2.1).map (· + q.2.2)) (ahi_own hv i) ?_ h e
    intro q hq hp k ek
    cases h2 : ahi ev rl n q.2.1 with
    | none => rw [h2] at ek; cases ek
    | some k2 =>
      rw [h2] at ek
      cases ek
      have h3 := ahi_ok hv hr n q.2.1 k2 h2
      have h4 := hr q hq
      have e1 : q.1 = i := Nat.eq_of_beq_eq_true hp
      rw [e1] at h4
      show vI (ν i) ≤ k2 + q.2.2
      omega
theorem alo_ok (hv : ∀ q ∈ ev, vty ad q.2 (ν q.1)) (hr : ∀ q ∈ rl, vI (ν q.1) ≤ vI (ν q.2.1) + q.2.2) : ∀ (n i : Nat) (h : Int), alo ev rl n i = some h → h ≤ vI (ν i)
  | 0, i, h, e => alo_own hv i h e
  | n + 1, i, h, e => by
    refine fold_ge rl (fun q => Nat.beq q.2.1 i) (fun q => (alo ev rl n q.1).map (· - q.2.2)) (alo_own hv i) ?_ h e
    intro q hq hp k ek
    cases h2 : alo ev rl n q.1 with
    | none => rw [h2] at ek; cases ek
    | some k2 =>
      rw [h2] at ek
      cases ek
      have h3 := alo_ok hv hr n q.1 k2 h2
      have h4 := hr q hq
      have e1 : q.2.1 = i := Nat.eq_of_beq_eq_true hp
      rw [e1] at h4
      show k2 - q.2.2 ≤ vI (ν i)
      omega
theorem adif_own (hv : ∀ q ∈ ev, vty ad q.2 (ν q.1)) (hr : ∀ q ∈ rl, vI (ν q.1) ≤ vI (ν q.2.1) + q.2.2) (b a : Nat) : ∀ h, (bif Nat.beq a b then some (0 : Int) else match ahi ev rl 1 a, alo ev rl 1 b with
    | some h, some l => some (h - l)
    | _, _ => none) = some h → vI (ν a) - vI (ν b) ≤ h := by
  intro h e
  cases hb : Nat.beq a b with
  | true =>
    rw [hb] at e
    cases e
    rw [Nat.eq_of_beq_eq_true hb]
    omega
  | false =>
    rw [hb] at e
    cases h1 : ahi ev rl 1 a with
    | none => rw [h1] at e; cases e
    | some k1 =>
      cases h2 : alo ev rl 1 b with
      | none => rw [h1, h2] at e; cases e
      | some k2 =>
        rw [h1, h2] at e
        cases e
        have h3 := ahi_ok hv hr 1 a k1 h1
        have h4 := alo_ok hv hr 1 b k2 h2
        omega
theorem adif_ok (hv : ∀ q ∈ ev, vty ad q.2 (ν q.1)) (hr : ∀ q ∈ rl, vI (ν q.1) ≤ vI (ν q.2.1) + q.2.2) (b : Nat) : ∀ (n a : Nat) (h : Int), adif ev rl b n a = some h → vI (ν a) - vI (ν b) ≤ h
  | 0, a, h, e => adif_own hv hr b a h e
  | n + 1, a, h, e => by
    refine fold_le rl (fun q => Nat.beq q.1 a) (fun q => (adif ev rl b n q.2.1).map (· + q.2.2)) (adif_own hv hr b a) ?_ h e
    intro q hq hp k ek
    cases h2 : adif ev rl b n q.2.1 with
    | none => rw [h2] at ek; cases ek
    | some k2 =>
      rw [h2] at ek
      cases ek
      have h3 := adif_ok hv hr b n q.2.1 k2 h2
      have h4 := hr q hq
      have e1 : q.1 = a := Nat.eq_of_beq_eq_true hp
      rw [e1] at h4
      show vI (ν a) - vI (ν b) ≤ k2 + q.2.2
      omega
end QUERY
