/-! all: sets of holes by their bits -/
def bt (x : Int32) (i : Nat) : Bool := x.toBitVec.getLsbD i
theorem bt_big {x : Int32} {i : Nat} (h : 32 ≤ i) : bt x i = false := BitVec.getLsbD_of_ge _ _ h
theorem bt_xor (x y : Int32) (i : Nat) : bt (x ^^^ y) i = (bt x i ^^ bt y i) := by
  unfold bt
  rw [Int32.toBitVec_xor, BitVec.getLsbD_xor]
theorem bt_and (x y : Int32) (i : Nat) : bt (x &&& y) i = (bt x i && bt y i) := by
  unfold bt
  rw [Int32.toBitVec_and, BitVec.getLsbD_and]
theorem bt_or (x y : Int32) (i : Nat) : bt (x ||| y) i = (bt x i || bt y i) := by
  unfold bt
  rw [Int32.toBitVec_or, BitVec.getLsbD_or]
theorem bt_0 (i : Nat) : bt 0 i = false := BitVec.getLsbD_zero
theorem bt_nat {x : Int32} (h : 0 ≤ x.toInt) : x.toBitVec.toNat = x.toInt.toNat := by
  have e : x.toInt = x.toBitVec.toInt := rfl
  rw [e, BitVec.toInt_eq_toNat_cond] at h ⊢
  split
  · exact (Int.toNat_natCast _).symm
  · rename_i c
    rw [if_neg c] at h
    have hl := x.toBitVec.isLt
    omega
theorem bt_tb {x : Int32} (h : 0 ≤ x.toInt) (i : Nat) : bt x i = x.toInt.toNat.testBit i := by
  rw [← bt_nat h]
  rfl
theorem if_mn {c m l : Int} (h : (c < m ∧ l = c) ∨ (¬ c < m ∧ l = m)) : l = if c < m then c else m := by
  rcases h with ⟨a, e⟩ | ⟨a, e⟩
  · rw [if_pos a]
    exact e
  · rw [if_neg a]
    exact e
theorem bt_of {k : Nat} (h : k < 2147483648) (i : Nat) : bt (Int32.ofNat k) i = k.testBit i := by
  have e : (Int32.ofNat k).toInt = (k : Int) := Int32.toInt_ofNat_of_lt h
  rw [bt_tb (by omega), e, Int.toNat_natCast]
theorem shl_chk : ∀ h, h < 16 → ∀ i, i < 32 → bt ((1 : Int32) <<< (Int32.ofNat h &&& 31)) i = decide (i = h) := by decide +kernel
theorem smod_chk : ∀ h, h < 16 → ((Int32.ofNat h &&& 31).toBitVec.smod 32).toNat = h := by decide +kernel
theorem pow_chk : ∀ m, m < 17 → ((1 : Int32) <<< (Int32.ofNat m &&& 31)).toInt = ((2 ^ m : Nat) : Int) ∧ 2 ^ m ≤ 65536 := by decide +kernel
theorem i32_ofN {h : Int32} (h0 : 0 ≤ h.toInt) : h = Int32.ofNat h.toInt.toNat := by
  have u := Int32.toInt_lt h
  exact Int32.toInt_inj.mp ((Int32.toInt_ofNat_of_lt (show h.toInt.toNat < 2147483648 by omega)).trans (by omega)).symm
theorem bt_shl {h : Int32} (h0 : 0 ≤ h.toInt ∧ h.toInt < 16) (i : Nat) : bt ((1 : Int32) <<< (h &&& 31)) i = decide (i = h.toInt.toNat) := by
  rcases Nat.lt_or_ge i 32 with c | c
  · have z := shl_chk h.toInt.toNat (by omega) i c
    rw [← i32_ofN h0.1] at z
    exact z
  · rw [bt_big c, decide_eq_false (by omega)]
theorem pow_l {m : Int32} (h0 : 0 ≤ m.toInt ∧ m.toInt ≤ 16) : ((1 : Int32) <<< (m &&& 31)).toInt = ((2 ^ m.toInt.toNat : Nat) : Int) ∧ 2 ^ m.toInt.toNat ≤ 65536 := by
  have z := pow_chk m.toInt.toNat (by omega)
  rw [← i32_ofN h0.1] at z
  exact z
/-- the bit at a place, as both sides ask it -/
theorem has_bt {b h : Int32} (h0 : 0 ≤ h.toInt ∧ h.toInt < 16) : ((b >>> (h &&& 31)) &&& 1).toInt = 1 ↔ bt b h.toInt.toNat = true := by
  have e0 : ((b >>> (h &&& 31)) &&& 1).toBitVec.toNat = (b >>> (h &&& 31)).toBitVec.toNat % 2 := by
    rw [Int32.toBitVec_and, BitVec.toNat_and]
    exact Nat.and_one_is_mod _
  have e1 : ((b >>> (h &&& 31)) &&& 1).toInt = (((b >>> (h &&& 31)) &&& 1).toBitVec.toNat : Int) := BitVec.toInt_eq_toNat_of_lt (by omega)
  have e2 : bt (b >>> (h &&& 31)) 0 = bt b h.toInt.toNat := by
    unfold bt
    rw [Int32.toBitVec_shiftRight]
    have z := smod_chk h.toInt.toNat (by omega)
    rw [← i32_ofN h0.1] at z
    show (b.toBitVec.sshiftRight ((h &&& 31).toBitVec.smod 32).toNat).getLsbD 0 = _
    rw [z, BitVec.getLsbD_sshiftRight, if_pos (show h.toInt.toNat + 0 < 32 by omega), Nat.add_zero]
    first | done | rfl | simp
  have e3 : bt (b >>> (h &&& 31)) 0 = decide ((b >>> (h &&& 31)).toBitVec.toNat % 2 = 1) := Nat.testBit_zero _
  rw [e1, e0, ← e2, e3, decide_eq_true_eq]
  constructor <;> intro q <;> omega
/-- the number of a set -/
def mkS (A : Nat → Bool) : Nat → Nat
  | 0 => 0
  | n + 1 => 2 ^ n * (A n).toNat + mkS A n
theorem mkS_lt {A : Nat → Bool} : ∀ {n : Nat}, mkS A n < 2 ^ n
  | 0 => (show (0 : Nat) < 2 ^ 0 from by decide)
  | n + 1 => by
    have ih := mkS_lt (A := A) (n := n)
    have hp : 2 ^ (n + 1) = 2 ^ n * 2 := Nat.pow_succ 2 n
    show 2 ^ n * (A n).toNat + mkS A n < 2 ^ (n + 1)
    cases A n with
    | true =>
      show 2 ^ n * 1 + mkS A n < 2 ^ (n + 1)
      omega
    | false =>
      show 2 ^ n * 0 + mkS A n < 2 ^ (n + 1)
      omega
theorem mkS_tb {A : Nat → Bool} : ∀ {n : Nat} (h : Nat), (mkS A n).testBit h = (decide (h < n) && A h)
  | 0, h => by
    show (0 : Nat).testBit h = _
    rw [Nat.zero_testBit, decide_eq_false (Nat.not_lt_zero h)]
    rfl
  | n + 1, h => by
    have ih := mkS_tb (A := A) (n := n) h
    have z := Nat.testBit_two_pow_mul_add (A n).toNat (mkS_lt (A := A) (n := n)) h
    show (2 ^ n * (A n).toNat + mkS A n).testBit h = _
    rw [z]
    by_cases c : h < n
    · rw [if_pos c, ih, decide_eq_true c, decide_eq_true (show h < n + 1 by omega)]
    · rw [if_neg c, Nat.testBit_bool_toNat]
      by_cases d : h = n
      · rw [d, Nat.sub_self, decide_eq_true (Nat.lt_succ_self n)]
        first | done | rfl
      · rw [decide_eq_false (show ¬ h - n = 0 by omega), decide_eq_false (show ¬ h < n + 1 by omega)]
        first | done | rfl
theorem cz_J6_bitCount (l : Launch) (G : KG) (aq : Int32) : Ct l G yJ6_bitCount_0f7a4 cJ6_bitCount_0f7a4 1 (some .int) { frames := 0, cells := 0, slots := 0, locals := 0 } [.int aq] [] (fun r w1 => r = some (.int (BC aq)) ∧ w1 = []) := Ct.weak (ac_bitH l G aq []) (fun r w1 hp => ⟨hp.2, hp.1⟩)
/-! bars: how many trials are against a pull -/
theorem ct_mono {Q : Nat → Prop} [DecidablePred Q] {a : Nat} : ∀ {b : Nat}, a ≤ b → ct Q a ≤ ct Q b
  | 0, h => by
    obtain rfl : a = 0 := by omega
    exact Nat.le_refl _
  | b + 1, h => by
    by_cases c : a = b + 1
    · subst c
      exact Nat.le_refl _
    · have ih := ct_mono (Q := Q) (a := a) (b := b) (by omega)
      by_cases d : Q b
      · rw [ct_yes d]
        omega
      · rw [ct_no d]
        exact ih
theorem ct_imp {P Q : Nat → Prop} [DecidablePred P] [DecidablePred Q] : ∀ {n : Nat}, (∀ j, j < n → P j → Q j) → ct P n ≤ ct Q n
  | 0, _ => Nat.le_refl _
  | n + 1, h => by
    have ih := ct_imp (P := P) (Q := Q) (n := n) (fun j hj => h j (Nat.lt_succ_of_lt hj))
    by_cases c : P n
    · rw [ct_yes c, ct_yes (h n (Nat.lt_succ_self n) c)]
      omega
    · rw [ct_no c]
      by_cases d : Q n
      · rw [ct_yes d]
        omega
      · rw [ct_no d]
        exact ih
/-- one more -/
theorem ct_add {P Q : Nat → Prop} [DecidablePred P] [DecidablePred Q] {t : Nat} (e : ∀ j, j ≠ t → (Q j ↔ P j)) (h0 : ¬ P t) (h1 : Q t) : ∀ {n : Nat}, t < n → ct Q n = ct P n + 1
  | 0, h => absurd h (Nat.not_lt_zero t)
  | n + 1, h => by
    by_cases c : t = n
    · have z : ct Q n = ct P n := ct_congr (fun j hj => e j (by omega))
      rw [c] at h0 h1
      rw [ct_yes h1, ct_no h0, z]
    · have ih := ct_add e h0 h1 (n := n) (by omega)
      by_cases d : P n
      · rw [ct_yes d, ct_yes ((e n (fun q => c q.symm)).mpr d), ih]
      · rw [ct_no d, ct_no (fun q => d ((e n (fun q => c q.symm)).mp q)), ih]
theorem ct_none {Q : Nat → Prop} [DecidablePred Q] : ∀ {n : Nat}, (∀ j, j < n → ¬ Q j) → ct Q n = 0
  | 0, _ => rfl
  | n + 1, h => by
    rw [ct_no (h n (Nat.lt_succ_self n))]
    exact ct_none (fun j hj => h j (Nat.lt_succ_of_lt hj))
theorem bt_small {x : Int32} {m : Nat} (hm : m ≤ 16) (h : ∀ i, m ≤ i → bt x i = false) : 0 ≤ x.toInt ∧ x.toInt.toNat < 2 ^ m := by
  have l3 : (2 : Nat) ^ 16 = 65536 := by decide
  have l4 : 2 ^ m ≤ 2 ^ 16 := Nat.pow_le_pow_right (by decide) hm
  have p := Nat.two_pow_pos m
  have lt : x.toBitVec.toNat < 2 ^ m := by
    refine Nat.lt_of_not_le (fun q => ?_)
    have e : x.toBitVec.toNat &&& (2 ^ m - 1) = x.toBitVec.toNat := by
      apply Nat.eq_of_testBit_eq
      intro i
      rw [Nat.testBit_and, Nat.testBit_two_pow_sub_one]
      by_cases c : i < m
      · rw [decide_eq_true c, Bool.and_true]
      · have z : x.toBitVec.toNat.testBit i = false := h i (by omega)
        rw [decide_eq_false c, Bool.and_false, z]
    have l : x.toBitVec.toNat &&& (2 ^ m - 1) ≤ 2 ^ m - 1 := Nat.and_le_right
    rw [e] at l
    omega
  have e : x.toInt = (x.toBitVec.toNat : Int) := BitVec.toInt_eq_toNat_of_lt (by omega)
  rw [e, Int.toNat_natCast]
  exact ⟨by omega, lt⟩
theorem bcn_chk : (List.range 64).all (fun a => (List.range 64).all (fun b => decide ((BC (Int32.ofNat (64 * a + b))).toInt = ((ct (fun i => (64 * a + b).testBit i = true) 12 : Nat) : Int)))) = true := by decide +kernel
theorem bc_ct {x : Int32} (h : 0 ≤ x.toInt ∧ x.toInt < 4096) : (BC x).toInt = ((ct (fun i => bt x i = true) 12 : Nat) : Int) := by
  have h2 := List.all_eq_true.mp bcn_chk (x.toInt.toNat / 64) (List.mem_range.mpr (by omega))
  have h3 := List.all_eq_true.mp h2 (x.toInt.toNat % 64) (List.mem_range.mpr (by omega))
  have e : 64 * (x.toInt.toNat / 64) + x.toInt.toNat % 64 = x.toInt.toNat := by omega
  have h3 := of_decide_eq_true h3
  rw [e, ← i32_ofN h.1] at h3
  rw [h3]
  refine congrArg (fun z : Nat => (z : Int)) (ct_congr (fun j _ => ?_))
  show x.toInt.toNat.testBit j = true ↔ bt x j = true
  rw [bt_tb h.1]
/-- the bits of those against, of the first t -/
def AgB (Q : Nat → Prop) [DecidablePred Q] (b : Int32) (m : Int) (t : Nat) : Prop := (∀ i, t ≤ i → bt b i = false) ∧ ((ct (fun i => bt b i = true) 12 : Nat) : Int) = m ∧ m = ((ct Q t : Nat) : Int)
section AGBS
variable {b : Int32} {m o : Int} {t T : Nat}
theorem AgB.zero {Q : Nat → Prop} [DecidablePred Q] : AgB Q 0 0 0 := by
  have z := ct_none (Q := fun i => bt 0 i = true) (n := 12) (fun j _ => by
    show ¬ bt 0 j = true
    rw [bt_0]
    decide)
  exact ⟨fun i _ => bt_0 i, by rw [z]; rfl, rfl⟩
theorem AgB.no {Q : Nat → Prop} [DecidablePred Q] (h : AgB Q b m t) (q : ¬ Q t) : AgB Q b m (t + 1) := ⟨fun i hi => h.1 i (by omega), h.2.1, by rw [ct_no q]; exact h.2.2⟩
theorem AgB.yes {Q : Nat → Prop} [DecidablePred Q] {i : Int32} {m' : Int} (h : AgB Q b m t) (q : Q t) (hi : 0 ≤ i.toInt ∧ i.toInt < 12) (e : i.toInt.toNat = t) (em : m' = m + 1) : AgB Q (b ||| ((1 : Int32) <<< (i &&& 31))) m' (t + 1) := by
  obtain ⟨h1, h2, h3⟩ := h
  have eb : ∀ j, bt (b ||| ((1 : Int32) <<< (i &&& 31))) j = (bt b j || decide (j = t)) := fun j => by rw [bt_or, bt_shl (by omega), e]
  refine ⟨fun j hj => ?_, ?_, ?_⟩
  · rw [eb, h1 j (by omega), decide_eq_false (show ¬ j = t by omega)]
    first | done | rfl
  · have z := ct_add (P := fun j => bt b j = true) (Q := fun j => bt (b ||| ((1 : Int32) <<< (i &&& 31))) j = true) (t := t) (fun j hj => by
      show bt (b ||| ((1 : Int32) <<< (i &&& 31))) j = true ↔ bt b j = true
      rw [eb, decide_eq_false hj, Bool.or_false]) (by
      show ¬ bt b t = true
      rw [h1 t (Nat.le_refl t)]
      decide) (by
      show bt (b ||| ((1 : Int32) <<< (i &&& 31))) t = true
      rw [eb, decide_eq_true (show t = t from rfl), Bool.or_true]) (n := 12) (show t < 12 by omega)
    rw [z, Int.natCast_add, h2, em]
    first | done | rfl
  · rw [ct_yes q, em, h3, Int.natCast_add]
    first | done | rfl
theorem AgB.end_ {Q : Nat → Prop} [DecidablePred Q] (h : AgB Q b m t) (ht : t ≤ T) (hT : T ≤ 12) (hm : m ≤ o + 1) (hc : t = T ∨ o < m) : (BC b).toInt = min ((ct Q T : Nat) : Int) (o + 1) := by
  obtain ⟨h1, h2, h3⟩ := h
  obtain ⟨s1, s2⟩ := bt_small (m := t) (by omega) h1
  have p : 2 ^ t ≤ 2 ^ 12 := Nat.pow_le_pow_right (by decide) (by omega)
  have p2 : (2 : Nat) ^ 12 = 4096 := by decide
  rw [bc_ct ⟨s1, by omega⟩, h2]
  have mo := ct_mono (Q := Q) ht
  rcases hc with e | e
  · subst e
    omega
  · omega
end AGBS
/-- the fewest so far -/
def BrI (c : Nat → Int) (K : Nat) (f : Int) : Prop := (0 ≤ f ∧ f ≤ 3) ∧ (∀ k, k < K → f ≤ c k) ∧ (f = 3 ∨ ∃ k, k < K ∧ c k = f)
theorem BrI.zero {c : Nat → Int} : BrI c 0 3 := ⟨by decide, fun k h => absurd h (Nat.not_lt_zero k), Or.inl rfl⟩
theorem BrI.step {c : Nat → Int} {K : Nat} {f f' m : Int} (h : BrI c K f) (hc : 0 ≤ c K) (e : m = min (c K) (f + 1)) (e' : f' = if m < f then m else f) : BrI c (K + 1) f' := by
  obtain ⟨h1, h2, h3⟩ := h
  by_cases q : m < f
  · rw [if_pos q] at e'
    have ek : c K = f' := by
      clear h2 h3
      omega
    refine ⟨by omega, fun k hk => ?_, Or.inr ⟨K, Nat.lt_succ_self K, ek⟩⟩
    by_cases d : k = K
    · rw [d]
      omega
    · have z := h2 k (by omega)
      omega
  · rw [if_neg q] at e'
    subst e'
    refine ⟨h1, fun k hk => ?_, h3.elim Or.inl (fun ⟨k, a, z⟩ => Or.inr ⟨k, by omega, z⟩)⟩
    by_cases d : k = K
    · rw [d]
      omega
    · exact h2 k (by omega)
/-- what bars answers -/
def BarE (c : Nat → Int) (v : Int) : Prop := (v = -2 ∧ ∀ k, k < 14641 → 3 ≤ c k) ∨ ((0 ≤ v ∧ v ≤ 2) ∧ (∃ k, k < 14641 ∧ c k = v) ∧ ∀ k, k < 14641 → v ≤ c k)
theorem BrI.no {c : Nat → Int} {K : Nat} {f : Int} (h : BrI c K f) (hK : K = 14641) (q : 2 < f) : BarE c (-2) := by
  subst hK
  exact Or.inl ⟨rfl, fun k hk => by have z := h.2.1 k hk; omega⟩
theorem BrI.yes {c : Nat → Int} {K : Nat} {f : Int} (h : BrI c K f) (hK : K = 14641) (q : f ≤ 2) : BarE c f := by
  subst hK
  exact Or.inr ⟨by have z := h.1; omega, h.2.2.elim (fun z => by omega) id, h.2.1⟩
theorem BarE.same {c : Nat → Int} {v v' : Int} (a : BarE c v) (b : BarE c v') : v = v' := by
  rcases a with ⟨a1, a2⟩ | ⟨a1, ⟨k, a2, a3⟩, a4⟩
  · rcases b with ⟨b1, b2⟩ | ⟨b1, ⟨k, b2, b3⟩, b4⟩
    · omega
    · have z := a2 k b2
      omega
  · rcases b with ⟨b1, b2⟩ | ⟨b1, ⟨j, b2, b3⟩, b4⟩
    · have z := b2 k a2
      omega
    · have z := a4 j b2
      have y := b4 k a2
      omega
theorem BarE.cg {c c' : Nat → Int} {v : Int} (e : ∀ k, k < 14641 → c k = c' k) (a : BarE c v) : BarE c' v := by
  rcases a with ⟨a1, a2⟩ | ⟨a1, ⟨k, a2, a3⟩, a4⟩
  · exact Or.inl ⟨a1, fun k hk => by rw [← e k hk]; exact a2 k hk⟩
  · exact Or.inr ⟨a1, ⟨k, a2, (e k a2).symm.trans a3⟩, fun k hk => by rw [← e k hk]; exact a4 k hk⟩
/-! the reference: sets left out -/
theorem fa_all {P : Nat → Prop} [DecidablePred P] : ∀ {n k : Nat}, fa P n k = -2 ↔ ∀ j, k ≤ j → j < k + n → P j
  | 0, k => ⟨fun _ j a b => absurd b (by omega), fun _ => rfl⟩
  | n + 1, k => by
    have ih := fa_all (P := P) (n := n) (k := k + 1)
    by_cases c : P k
    · rw [fa_yes c]
      constructor
      · intro h j a b
        by_cases d : j = k
        · rw [d]
          exact c
        · exact ih.mp h j (by omega) (by omega)
      · intro h
        exact ih.mpr (fun j a b => h j (by omega) (by omega))
    · rw [fa_no c]
      constructor
      · intro h
        omega
      · intro h
        exact absurd (h k (Nat.le_refl k) (by omega)) c
/-- some pull agrees with all but those of a set -/
abbrev SmP (A : Nat → Nat → Prop) (T : Nat) (w : Int32) : Prop := ∃ k, k < 14641 ∧ ∀ j, j < T → bt w j = true ∨ A k j
/-- all sets of fewer were tried, and of so many those below s -/
def BsI (A : Nat → Nat → Prop) (T : Nat) (n : Int) (s : Int) : Prop := ∀ w : Int32, 0 ≤ w.toInt → w.toInt < ((2 ^ T : Nat) : Int) → ((BC w).toInt < n ∨ ((BC w).toInt = n ∧ w.toInt < s)) → ¬ SmP A T w
theorem bs_set {A : Nat → Nat → Prop} {T k : Nat} [DecidablePred (fun j => ¬ A k j)] [DecidablePred (fun j => A k j)] (hT : T ≤ 12) (hk : k < 14641) : ∃ w : Int32, 0 ≤ w.toInt ∧ w.toInt < ((2 ^ T : Nat) : Int) ∧ (BC w).toInt = ((ct (fun j => ¬ A k j) T : Nat) : Int) ∧ SmP A T w := by
  obtain ⟨B, hB⟩ : ∃ B : Nat → Bool, ∀ j, B j = decide (¬ A k j) := ⟨fun j => decide (¬ A k j), fun _ => rfl⟩
  have lt := mkS_lt (A := B) (n := T)
  have l2 : 2 ^ T ≤ 2 ^ 12 := Nat.pow_le_pow_right (by decide) hT
  have l3 : (2 : Nat) ^ 12 = 4096 := by decide
  have e1 : (Int32.ofNat (mkS B T)).toInt = (mkS B T : Int) := Int32.toInt_ofNat_of_lt (by omega)
  have eb : ∀ j, bt (Int32.ofNat (mkS B T)) j = (decide (j < T) && B j) := fun j => by rw [bt_of (by omega), mkS_tb]
  refine ⟨Int32.ofNat (mkS B T), by omega, ?_, ?_, k, hk, fun j hj => ?_⟩
  · rw [e1]
    exact Int.ofNat_lt.mpr lt
  · rw [bc_ct ⟨by omega, by omega⟩]
    have up : ∀ n, T ≤ n → ct (fun i => bt (Int32.ofNat (mkS B T)) i = true) n = ct (fun i => bt (Int32.ofNat (mkS B T)) i = true) T := fun n hn => by
      induction n with
      | zero =>
        obtain rfl : T = 0 := by omega
        rfl
      | succ n ih =>
        by_cases c : T = n + 1
        · rw [c]
        · have hno : ¬ bt (Int32.ofNat (mkS B T)) n = true := by
            rw [eb, decide_eq_false (show ¬ n < T by omega), Bool.false_and]
            decide
          rw [ct_no (Q := fun i => bt (Int32.ofNat (mkS B T)) i = true) hno]
          exact ih (by omega)
    rw [up 12 hT]
    refine congrArg (fun z : Nat => (z : Int)) (ct_congr (fun j hj => ?_))
    show bt (Int32.ofNat (mkS B T)) j = true ↔ ¬ A k j
    rw [eb, decide_eq_true hj, hB, Bool.true_and]
    exact decide_eq_true_iff
  · by_cases c : A k j
    · exact Or.inr c
    · exact Or.inl (by rw [eb, decide_eq_true hj, hB, decide_eq_true c]; first | done | rfl)
theorem bs_le {A : Nat → Nat → Prop} {T k : Nat} [DecidablePred (fun j => ¬ A k j)] {w : Int32} (hT : T ≤ 12) (h0 : 0 ≤ w.toInt) (h1 : w.toInt < ((2 ^ T : Nat) : Int)) (h : ∀ j, j < T → bt w j = true ∨ A k j) : ((ct (fun j => ¬ A k j) T : Nat) : Int) ≤ (BC w).toInt := by
  have l2 : 2 ^ T ≤ 2 ^ 12 := Nat.pow_le_pow_right (by decide) hT
  have l3 : (2 : Nat) ^ 12 = 4096 := by decide
  have h2 : ((w.toInt.toNat : Nat) : Int) < ((2 ^ T : Nat) : Int) := by omega
  have h3 := Int.ofNat_lt.mp h2
  rw [bc_ct ⟨h0, by omega⟩]
  refine Int.ofNat_le.mpr (Nat.le_trans (ct_imp (Q := fun i => bt w i = true) (fun j hj q => (h j hj).elim id (fun z => absurd z q))) (ct_mono hT))
theorem bs_found {A : Nat → Nat → Prop} {T : Nat} [∀ k, DecidablePred (fun j => ¬ A k j)] [∀ k, DecidablePred (fun j => A k j)] {n s : Int} {w : Int32} (hT : T ≤ 12) (hn : 0 ≤ n ∧ n ≤ 2) (h : BsI A T n s) (h0 : 0 ≤ w.toInt) (h1 : w.toInt < ((2 ^ T : Nat) : Int)) (e : (BC w).toInt = n) (q : SmP A T w) : BarE (fun k => ((ct (fun j => ¬ A k j) T : Nat) : Int)) n := by
  obtain ⟨k, hk, hq⟩ := q
  have lo : ∀ j, j < 14641 → n ≤ ((ct (fun i => ¬ A j i) T : Nat) : Int) := fun j hj => by
    obtain ⟨u, u0, u1, u2, u3⟩ := bs_set (A := A) (k := j) hT hj
    rcases (by omega : n ≤ ((ct (fun i => ¬ A j i) T : Nat) : Int) ∨ ((ct (fun i => ¬ A j i) T : Nat) : Int) < n) with z | z
    · exact z
    · exact absurd u3 (h u u0 u1 (Or.inl (by rw [u2]; exact z)))
  have up := bs_le (A := A) (k := k) hT h0 h1 hq
  rw [e] at up
  exact Or.inr ⟨hn, ⟨k, hk, Int.le_antisymm up (lo k hk)⟩, lo⟩
theorem bs_none {A : Nat → Nat → Prop} {T : Nat} [∀ k, DecidablePred (fun j => ¬ A k j)] [∀ k, DecidablePred (fun j => A k j)] {n s : Int} (hT : T ≤ 12) (hn : 3 ≤ n) (h : BsI A T n s) : BarE (fun k => ((ct (fun j => ¬ A k j) T : Nat) : Int)) (-2) := Or.inl ⟨rfl, fun j hj => by
  obtain ⟨u, u0, u1, u2, u3⟩ := bs_set (A := A) (k := j) hT hj
  rcases (by omega : 3 ≤ ((ct (fun i => ¬ A j i) T : Nat) : Int) ∨ ((ct (fun i => ¬ A j i) T : Nat) : Int) < 3) with z | z
  · exact z
  · exact absurd u3 (h u u0 u1 (Or.inl (by rw [u2]; omega)))⟩
theorem BsI.zero {A : Nat → Nat → Prop} {T : Nat} (hT : T ≤ 12) : BsI A T 0 0 := fun w h0 h1 h q => by
  have l2 : 2 ^ T ≤ 2 ^ 12 := Nat.pow_le_pow_right (by decide) hT
  have l3 : (2 : Nat) ^ 12 = 4096 := by decide
  have h2 : ((w.toInt.toNat : Nat) : Int) < ((2 ^ T : Nat) : Int) := by omega
  have h3 := Int.ofNat_lt.mp h2
  have z := bc_ct (x := w) ⟨h0, by omega⟩
  omega
theorem BsI.step {A : Nat → Nat → Prop} {T : Nat} {n : Int} {s : Int32} (h : BsI A T n s.toInt) (q : ¬ ((BC s).toInt = n ∧ SmP A T s)) : BsI A T n (s.toInt + 1) := fun w h0 h1 hw z => by
  by_cases e : w.toInt = s.toInt
  · rw [Int32.toInt_inj.mp e] at hw z
    exact hw.elim (fun a => h s (by omega) (by omega) (Or.inl a) z) (fun a => q ⟨a.1, z⟩)
  · exact h w h0 h1 (hw.elim Or.inl (fun a => Or.inr ⟨a.1, by omega⟩)) z
theorem BsI.next {A : Nat → Nat → Prop} {T : Nat} {n s : Int} (h : BsI A T n s) (e : ((2 ^ T : Nat) : Int) ≤ s) : BsI A T (n + 1) 0 := fun w h0 h1 hw z => by
  by_cases c : (BC w).toInt = n
  · exact h w h0 h1 (Or.inr ⟨c, by omega⟩) z
  · exact h w h0 h1 (Or.inl (by omega)) z
def SoE (r : Int) (q : Prop) : Prop := (r = 1 ∧ q) ∨ (r = 0 ∧ ¬ q)
theorem SoE.yes {r : Int} {q : Prop} (h : SoE r q) (c : ¬ r = 0) : q := h.elim (fun z => z.2) (fun z => absurd z.1 c)
theorem SoE.no {r : Int} {q : Prop} (h : SoE r q) (c : r = 0) : ¬ q := h.elim (fun z => absurd (z.1.symm.trans c) (by decide)) (fun z => z.2)
theorem SoE.nar {t : Int32} {q : Prop} (h : SoE t.toInt q) : narrow .boolean (.int t) = .int t := narT (h.elim (fun z => Or.inr z.1) (fun z => Or.inl z.1))
theorem ag_prep {t : Int} {S bx by_ ff fo cr th : Nat → Int32} {F : Nat → Nat → Int32} {x y : Int32} (h : ∀ j : Nat, (j : Int) < t → S j = SCx ff cr (F 0) j ∧ bx j = BXx 0 ff fo cr th (F 0) (F 5) j ∧ by_ j = BXx 1 ff fo cr th (F 0) (F 5) j) {j : Nat} (hj : (j : Int) < t) : agX (S j) (bx j) (by_ j) (F 1 j) (F 2 j) (F 3 j) (F 4 j) x y ↔ AGx ff fo cr th F x y j := by
  obtain ⟨a, b, c⟩ := h j hj
  show agX (S j) (bx j) (by_ j) (F 1 j) (F 2 j) (F 3 j) (F 4 j) x y ↔ agX (SCx ff cr (F 0) j) (BXx 0 ff fo cr th (F 0) (F 5) j) (BXx 1 ff fo cr th (F 0) (F 5) j) (F 1 j) (F 2 j) (F 3 j) (F 4 j) x y
  rw [a, b, c]
theorem dz_X9_allAgainst_12 : decode cX9_allAgainst 12 = .ok (.getfield 44, 3) := by decide +kernel
theorem dz_X9_allAgainst_15 : decode cX9_allAgainst 15 = .ok (.if_icmp .ge 38, 3) := by decide +kernel
theorem dz_X9_allAgainst_55 : decode cX9_allAgainst 55 = .ok (.ireturn, 1) := by decide +kernel
theorem dz_X9_allAgainst_21 : decode cX9_allAgainst 21 = .ok (.if_icmp .gt 32, 3) := by decide +kernel
theorem dz_X9_allAgainst_29 : decode cX9_allAgainst 29 = .ok (.invokevirtual 62, 3) := by decide +kernel
theorem dz_X9_allAgainst_32 : decode cX9_allAgainst 32 = .ok (.ifCond .ne 15, 3) := by decide +kernel
theorem dz_X9_allAgainst_50 : decode cX9_allAgainst 50 = .ok (.goto (-41), 3) := by decide +kernel
abbrev bz_X9_allAgainst_0_9 : ZB := [(.iconst 0, .int 0), (.istore 4, .null), (.iconst 0, .int 0), (.istore 5, .null), (.iconst 0, .int 0), (.istore 6, .null)]
theorem kz_X9_allAgainst_0_9 : zchk cX9_allAgainst bz_X9_allAgainst_0_9 0 = true ∧ zpc bz_X9_allAgainst_0_9 0 = 9 := ⟨by decide +kernel, rfl⟩
abbrev bz_X9_allAgainst_9_12 : ZB := [(.iload 6, .null), (.aload_n 0, .null)]
theorem kz_X9_allAgainst_9_12 : zchk cX9_allAgainst bz_X9_allAgainst_9_12 9 = true ∧ zpc bz_X9_allAgainst_9_12 9 = 12 := ⟨by decide +kernel, rfl⟩
abbrev bz_X9_allAgainst_53_55 : ZB := [(.iload 4, .null)]
theorem kz_X9_allAgainst_53_55 : zchk cX9_allAgainst bz_X9_allAgainst_53_55 53 = true ∧ zpc bz_X9_allAgainst_53_55 53 = 55 := ⟨by decide +kernel, rfl⟩
abbrev bz_X9_allAgainst_18_21 : ZB := [(.iload 5, .null), (.iload_n 3, .null)]
theorem kz_X9_allAgainst_18_21 : zchk cX9_allAgainst bz_X9_allAgainst_18_21 18 = true ∧ zpc bz_X9_allAgainst_18_21 18 = 21 := ⟨by decide +kernel, rfl⟩
abbrev bz_X9_allAgainst_24_29 : ZB := [(.aload_n 0, .null), (.iload 6, .null), (.iload_n 1, .null), (.iload_n 2, .null)]
theorem kz_X9_allAgainst_24_29 : zchk cX9_allAgainst bz_X9_allAgainst_24_29 24 = true ∧ zpc bz_X9_allAgainst_24_29 24 = 29 := ⟨by decide +kernel, rfl⟩
abbrev bz_X9_allAgainst_47_50 : ZB := [(.iinc 6 1, .int 1)]
theorem kz_X9_allAgainst_47_50 : zchk cX9_allAgainst bz_X9_allAgainst_47_50 47 = true ∧ zpc bz_X9_allAgainst_47_50 47 = 50 := ⟨by decide +kernel, rfl⟩
abbrev bz_X9_allAgainst_35_50 : ZB := [(.iload 4, .null), (.iconst 1, .int 1), (.iload 6, .null), (.ishl, .null), (.ior, .null), (.istore 4, .null), (.iinc 5 1, .int 1), (.iinc 6 1, .int 1)]
theorem kz_X9_allAgainst_35_50 : zchk cX9_allAgainst bz_X9_allAgainst_35_50 35 = true ∧ zpc bz_X9_allAgainst_35_50 35 = 50 := ⟨by decide +kernel, rfl⟩
set_option maxHeartbeats 4000000 in
set_option maxRecDepth 100000 in
theorem cz_X9_allAgainstG (l : Launch) (G : KG) (trials : Nat) (tc : Int32) (tsp : Nat) (twh : Nat) (tfi : Nat) (tse : Nat) (tgi : Nat) (tle : Nat) (tsc : Nat) (tbx : Nat) (tby : Nat) (fwh : Nat → Int32) (ffi : Nat → Int32) (fse : Nat → Int32) (fgi : Nat → Int32) (fsc : Nat → Int32) (fbx : Nat → Int32) (fby : Nat → Int32) (xq : Int32) (yq : Int32) (oq : Int32) (tci : Int) (oi : Int) (htc : tc.toInt = tci) (hoq : oq.toInt = oi) (ht0 : 0 ≤ tci ∧ tci ≤ 12) (hg : ∀ j : Nat, (j : Int) < tci → 0 ≤ (fgi j).toInt ∧ (fgi j).toInt ≤ 1000000) (ho0 : 0 ≤ oi ∧ oi ≤ 3) : Ct l G yX9_allAgainst cX9_allAgainst 7 (some .int) { frames := 2, cells := 0, slots := 0, locals := 50 } [.ref trials, .int xq, .int yq, .int oq] [(trials, ob 9 [.int tc, .ref tsp, .ref twh, .ref tfi, .ref tse, .ref tgi, .ref tle, .ref tsc, .ref tbx, .ref tby]), (twh, aZ G 12 fwh), (tfi, aI G 12 ffi), (tse, aI G 12 fse), (tgi, aI G 12 fgi), (tsc, aI G 12 fsc), (tbx, aI G 12 fbx), (tby, aI G 12 fby)] (fun r w1 => ∃ (rz : Int32), ((BC rz).toInt = min ((ct (fun j => ¬ agX (fsc j) (fbx j) (fby j) (fwh j) (ffi j) (fse j) (fgi j) xq yq) tci.toNat : Nat) : Int) (oi + 1)) ∧ r = some (.int rz) ∧ w1 = [(trials, ob 9 [.int tc, .ref tsp, .ref twh, .ref tfi, .ref tse, .ref tgi, .ref tle, .ref tsc, .ref tbx, .ref tby]), (twh, aZ G 12 fwh), (tfi, aI G 12 ffi), (tse, aI G 12 fse), (tgi, aI G 12 fgi), (tsc, aI G 12 fsc), (tbx, aI G 12 fbx), (tby, aI G 12 fby)]) := by
  refine ct_of [(0, .ref trials), (1, .int xq), (2, .int yq), (3, .int oq)] (by decide) (Nat.le_of_ble_eq_true rfl) rfl ?_
  intro p0 e0 s0 m0 args0 below0 meth0 c0 A X
  refine z_run X bz_X9_allAgainst_0_9 kz_X9_allAgainst_0_9 (lv' := [(6, .int 0), (5, .int 0), (4, .int 0), (0, .ref trials), (1, .int xq), (2, .int yq), (3, .int oq)]) (st' := []) rfl ?_
  refine zloop (σ := Int32 × Int32 × Int32) (fun z => [(6, .int z.1), (5, .int z.2.2), (4, .int z.2.1), (0, .ref trials), (1, .int xq), (2, .int yq), (3, .int oq)]) (fun z => []) (fun z => [(trials, ob 9 [.int tc, .ref tsp, .ref twh, .ref tfi, .ref tse, .ref tgi, .ref tle, .ref tsc, .ref tbx, .ref tby]), (twh, aZ G 12 fwh), (tfi, aI G 12 ffi), (tse, aI G 12 fse), (tgi, aI G 12 fgi), (tsc, aI G 12 fsc), (tbx, aI G 12 fbx), (tby, aI G 12 fby)]) (fun z => (0 ≤ z.1.toInt ∧ z.1.toInt ≤ tci) ∧ (0 ≤ z.2.2.toInt ∧ z.2.2.toInt ≤ oi + 1) ∧ (AgB (fun j => ¬ agX (fsc j) (fbx j) (fby j) (fwh j) (ffi j) (fse j) (fgi j) xq yq) z.2.1 z.2.2.toInt z.1.toInt.toNat)) (fun z => (tci - z.1.toInt).toNat) (0, 0, 0) ?_ ?_
  ·
    rintro ⟨i_, b_, m_⟩ ⟨hi, hm, hA⟩ ih9
    dsimp only at *
    refine z_run X bz_X9_allAgainst_9_12 kz_X9_allAgainst_9_12 (lv' := [(6, .int i_), (5, .int m_), (4, .int b_), (0, .ref trials), (1, .int xq), (2, .int yq), (3, .int oq)]) (st' := [.ref trials, .int i_]) rfl ?_
    refine z_get X fl_9_44 dz_X9_allAgainst_12 0 rfl (v := .int tc) rfl ?_
    refine zc_ge X dz_X9_allAgainst_15 (tgt := 53) (by decide) (a := i_.toInt) (b := tci) rfl htc (fun c15_1 => ?_) (fun c15_1 => ?_)
    ·
      refine z_run X bz_X9_allAgainst_53_55 kz_X9_allAgainst_53_55 (lv' := [(6, .int i_), (5, .int m_), (4, .int b_), (0, .ref trials), (1, .int xq), (2, .int yq), (3, .int oq)]) (st' := [.int b_]) rfl ?_
      exact z_iret X rfl dz_X9_allAgainst_55 (Nat.le_of_ble_eq_true rfl) (Nat.le_of_ble_eq_true rfl) ⟨b_, (hA.end_ (by clear hA; omega) (by clear hA; omega) hm.2 (Or.inl (by clear hA; omega))), rfl, rfl⟩
    ·
      refine z_run X bz_X9_allAgainst_18_21 kz_X9_allAgainst_18_21 (lv' := [(6, .int i_), (5, .int m_), (4, .int b_), (0, .ref trials), (1, .int xq), (2, .int yq), (3, .int oq)]) (st' := [.int oq, .int m_]) rfl ?_
      refine zc_gt X dz_X9_allAgainst_21 (tgt := 53) (by decide) (a := m_.toInt) (b := oi) rfl hoq (fun c21_2 => ?_) (fun c21_2 => ?_)
      ·
        refine z_run X bz_X9_allAgainst_53_55 kz_X9_allAgainst_53_55 (lv' := [(6, .int i_), (5, .int m_), (4, .int b_), (0, .ref trials), (1, .int xq), (2, .int yq), (3, .int oq)]) (st' := [.int b_]) rfl ?_
        exact z_iret X rfl dz_X9_allAgainst_55 (Nat.le_of_ble_eq_true rfl) (Nat.le_of_ble_eq_true rfl) ⟨b_, (hA.end_ (by clear hA; omega) (by clear hA; omega) hm.2 (Or.inr (by clear hA; omega))), rfl, rfl⟩
      ·
        refine z_run X bz_X9_allAgainst_24_29 kz_X9_allAgainst_24_29 (lv' := [(6, .int i_), (5, .int m_), (4, .int b_), (0, .ref trials), (1, .int xq), (2, .int yq), (3, .int oq)]) (st' := [.int yq, .int xq, .int i_, .ref trials]) rfl ?_
        refine z_callV X k_9_62 (cy_X9_agreesG l G trials tc tsp twh tfi tse tgi tle tsc tbx tby fwh ffi fse fgi fsc fbx fby i_ xq yq i_.toInt rfl (by omega) (hg i_.toNatClampNeg (show ((i_.toInt.toNat : Nat) : Int) < tci by omega))) dz_X9_allAgainst_29 0 rfl rfl rfl ⟨Nat.le_of_ble_eq_true rfl, Nat.le_of_ble_eq_true rfl⟩ ⟨Nat.le_of_ble_eq_true rfl, Nat.le_of_ble_eq_true rfl⟩ rfl (rest := []) (As := [.int i_, .int xq, .int yq]) rfl (Nat.le_of_ble_eq_true rfl) [0, 1, 2, 3, 4, 5, 6, 7] [] rfl (by decide) (wr := []) rfl (by decide) (by decide) ?_
        rintro _ _ ⟨rfl, rfl⟩
        refine Z.at (pc' := 32) (st' := [.int (zb (decide (agX (fsc i_.toNatClampNeg) (fbx i_.toNatClampNeg) (fby i_.toNatClampNeg) (fwh i_.toNatClampNeg) (ffi i_.toNatClampNeg) (fse i_.toNatClampNeg) (fgi i_.toNatClampNeg) xq yq)))]) (ws' := [(trials, ob 9 [.int tc, .ref tsp, .ref twh, .ref tfi, .ref tse, .ref tgi, .ref tle, .ref tsc, .ref tbx, .ref tby]), (twh, aZ G 12 fwh), (tfi, aI G 12 ffi), (tse, aI G 12 fse), (tgi, aI G 12 fgi), (tsc, aI G 12 fsc), (tbx, aI G 12 fbx), (tby, aI G 12 fby)]) (kc' := 0) (ks' := 0) rfl rfl rfl rfl rfl ?_
        refine zi_ne_zb X dz_X9_allAgainst_32 (tgt := 47) (by decide) (fun c32_3 => ?_) (fun c32_3 => ?_)
        ·
          refine z_run X bz_X9_allAgainst_47_50 kz_X9_allAgainst_47_50 (lv' := [(6, .int (i_ + 1)), (5, .int m_), (4, .int b_), (0, .ref trials), (1, .int xq), (2, .int yq), (3, .int oq)]) (st' := []) rfl ?_
          refine z_goto X dz_X9_allAgainst_50 (tgt := 9) (by decide) ?_
          exact ih9 ((i_ + 1), b_, m_) ⟨(by clear hA c32_3; (try dsimp only); have e : (i_ + 1).toInt = i_.toInt + 1 := tI_add rfl (show (1 : Int32).toInt = 1 from by decide) (by omega); omega), (by clear hA c32_3; (try dsimp only); omega), (by (try dsimp only); have e : (i_ + 1).toInt = i_.toInt + 1 := (by clear hA c32_3; exact tI_add rfl (show (1 : Int32).toInt = 1 from by decide) (by omega)); rw [e, show (i_.toInt + 1).toNat = i_.toInt.toNat + 1 by clear hA c32_3; omega]; exact hA.no (fun z => z c32_3))⟩ (by clear hA c32_3; (try dsimp only); have e : (i_ + 1).toInt = i_.toInt + 1 := tI_add rfl (show (1 : Int32).toInt = 1 from by decide) (by omega); omega)
        ·
          refine z_run X bz_X9_allAgainst_35_50 kz_X9_allAgainst_35_50 (lv' := [(6, .int (i_ + 1)), (5, .int (m_ + 1)), (4, .int (b_ ||| ((1 : Int32) <<< (i_ &&& 31)))), (0, .ref trials), (1, .int xq), (2, .int yq), (3, .int oq)]) (st' := []) rfl ?_
          refine z_goto X dz_X9_allAgainst_50 (tgt := 9) (by decide) ?_
          exact ih9 ((i_ + 1), (b_ ||| ((1 : Int32) <<< (i_ &&& 31))), (m_ + 1)) ⟨(by clear hA c32_3; (try dsimp only); have e : (i_ + 1).toInt = i_.toInt + 1 := tI_add rfl (show (1 : Int32).toInt = 1 from by decide) (by omega); omega), (by clear hA c32_3; (try dsimp only); have e2 : (m_ + 1).toInt = m_.toInt + 1 := tI_add rfl (show (1 : Int32).toInt = 1 from by decide) (by omega); omega), (by (try dsimp only); have e : (i_ + 1).toInt = i_.toInt + 1 := (by clear hA c32_3; exact tI_add rfl (show (1 : Int32).toInt = 1 from by decide) (by omega)); rw [e, show (i_.toInt + 1).toNat = i_.toInt.toNat + 1 by clear hA c32_3; omega]; exact hA.yes (show (fun j => ¬ agX (fsc j) (fbx j) (fby j) (fwh j) (ffi j) (fse j) (fgi j) xq yq) i_.toInt.toNat from c32_3) (by clear hA c32_3; omega) rfl (by clear hA c32_3; exact tI_add rfl (show (1 : Int32).toInt = 1 from by decide) (by omega)))⟩ (by clear hA c32_3; (try dsimp only); have e : (i_ + 1).toInt = i_.toInt + 1 := tI_add rfl (show (1 : Int32).toInt = 1 from by decide) (by omega); omega)
  · exact ⟨(by (try dsimp only); have e0 : (0 : Int32).toInt = 0 := (by decide); omega), (by (try dsimp only); have e0 : (0 : Int32).toInt = 0 := (by decide); omega), (by (try dsimp only); have e0 : (0 : Int32).toInt = 0 := (by decide); rw [e0]; exact AgB.zero)⟩

theorem dz_X10_bars_1 : decode cX10_bars 1 = .ok (.invokevirtual 242, 3) := by decide +kernel
theorem dz_X10_bars_14 : decode cX10_bars 14 = .ok (.if_icmp .gt 76, 3) := by decide +kernel
theorem dz_X10_bars_92 : decode cX10_bars 92 = .ok (.if_icmp .le 6, 3) := by decide +kernel
theorem dz_X10_bars_99 : decode cX10_bars 99 = .ok (.getfield 12, 3) := by decide +kernel
theorem dz_X10_bars_102 : decode cX10_bars 102 = .ok (.invokevirtual 180, 3) := by decide +kernel
theorem dz_X10_bars_106 : decode cX10_bars 106 = .ok (.getfield 12, 3) := by decide +kernel
theorem dz_X10_bars_111 : decode cX10_bars 111 = .ok (.invokevirtual 183, 3) := by decide +kernel
theorem dz_X10_bars_115 : decode cX10_bars 115 = .ok (.ireturn, 1) := by decide +kernel
theorem dz_X10_bars_97 : decode cX10_bars 97 = .ok (.ireturn, 1) := by decide +kernel
theorem dz_X10_bars_25 : decode cX10_bars 25 = .ok (.if_icmp .gt 59, 3) := by decide +kernel
theorem dz_X10_bars_87 : decode cX10_bars 87 = .ok (.goto (-76), 3) := by decide +kernel
theorem dz_X10_bars_29 : decode cX10_bars 29 = .ok (.getfield 47, 3) := by decide +kernel
theorem dz_X10_bars_36 : decode cX10_bars 36 = .ok (.invokevirtual 253, 3) := by decide +kernel
theorem dz_X10_bars_43 : decode cX10_bars 43 = .ok (.invokestatic 256, 3) := by decide +kernel
theorem dz_X10_bars_51 : decode cX10_bars 51 = .ok (.if_icmp .lt 21, 3) := by decide +kernel
theorem dz_X10_bars_81 : decode cX10_bars 81 = .ok (.goto (-60), 3) := by decide +kernel
theorem dz_X10_bars_57 : decode cX10_bars 57 = .ok (.if_icmp .ne 21, 3) := by decide +kernel
theorem dz_X10_bars_63 : decode cX10_bars 63 = .ok (.if_icmp .ge 15, 3) := by decide +kernel
theorem dz_X10_bars_69 : decode cX10_bars 69 = .ok (.if_icmp .ge 9, 3) := by decide +kernel
abbrev bz_X10_bars_0_1 : ZB := [(.aload_n 0, .null)]
theorem kz_X10_bars_0_1 : zchk cX10_bars bz_X10_bars_0_1 0 = true ∧ zpc bz_X10_bars_0_1 0 = 1 := ⟨by decide +kernel, rfl⟩
abbrev bz_X10_bars_4_11 : ZB := [(.iconst 3, .int 3), (.istore_n 1, .null), (.iconst 0, .int 0), (.istore_n 2, .null), (.bipush (-60), .int (-60)), (.istore_n 3, .null)]
theorem kz_X10_bars_4_11 : zchk cX10_bars bz_X10_bars_4_11 4 = true ∧ zpc bz_X10_bars_4_11 4 = 11 := ⟨by decide +kernel, rfl⟩
abbrev bz_X10_bars_11_14 : ZB := [(.iload_n 3, .null), (.bipush 60, .int 60)]
theorem kz_X10_bars_11_14 : zchk cX10_bars bz_X10_bars_11_14 11 = true ∧ zpc bz_X10_bars_11_14 11 = 14 := ⟨by decide +kernel, rfl⟩
abbrev bz_X10_bars_90_92 : ZB := [(.iload_n 1, .null), (.iconst 2, .int 2)]
theorem kz_X10_bars_90_92 : zchk cX10_bars bz_X10_bars_90_92 90 = true ∧ zpc bz_X10_bars_90_92 90 = 92 := ⟨by decide +kernel, rfl⟩
abbrev bz_X10_bars_98_99 : ZB := [(.aload_n 0, .null)]
theorem kz_X10_bars_98_99 : zchk cX10_bars bz_X10_bars_98_99 98 = true ∧ zpc bz_X10_bars_98_99 98 = 99 := ⟨by decide +kernel, rfl⟩
abbrev bz_X10_bars_105_106 : ZB := [(.aload_n 0, .null)]
theorem kz_X10_bars_105_106 : zchk cX10_bars bz_X10_bars_105_106 105 = true ∧ zpc bz_X10_bars_105_106 105 = 106 := ⟨by decide +kernel, rfl⟩
abbrev bz_X10_bars_109_111 : ZB := [(.iload_n 2, .null), (.i2l, .null)]
theorem kz_X10_bars_109_111 : zchk cX10_bars bz_X10_bars_109_111 109 = true ∧ zpc bz_X10_bars_109_111 109 = 111 := ⟨by decide +kernel, rfl⟩
abbrev bz_X10_bars_114_115 : ZB := [(.iload_n 1, .null)]
theorem kz_X10_bars_114_115 : zchk cX10_bars bz_X10_bars_114_115 114 = true ∧ zpc bz_X10_bars_114_115 114 = 115 := ⟨by decide +kernel, rfl⟩
abbrev bz_X10_bars_95_97 : ZB := [(.bipush (-2), .int (-2))]
theorem kz_X10_bars_95_97 : zchk cX10_bars bz_X10_bars_95_97 95 = true ∧ zpc bz_X10_bars_95_97 95 = 97 := ⟨by decide +kernel, rfl⟩
abbrev bz_X10_bars_17_21 : ZB := [(.bipush (-60), .int (-60)), (.istore 4, .null)]
theorem kz_X10_bars_17_21 : zchk cX10_bars bz_X10_bars_17_21 17 = true ∧ zpc bz_X10_bars_17_21 17 = 21 := ⟨by decide +kernel, rfl⟩
abbrev bz_X10_bars_21_25 : ZB := [(.iload 4, .null), (.bipush 60, .int 60)]
theorem kz_X10_bars_21_25 : zchk cX10_bars bz_X10_bars_21_25 21 = true ∧ zpc bz_X10_bars_21_25 21 = 25 := ⟨by decide +kernel, rfl⟩
abbrev bz_X10_bars_84_87 : ZB := [(.iinc 3 1, .int 1)]
theorem kz_X10_bars_84_87 : zchk cX10_bars bz_X10_bars_84_87 84 = true ∧ zpc bz_X10_bars_84_87 84 = 87 := ⟨by decide +kernel, rfl⟩
abbrev bz_X10_bars_28_29 : ZB := [(.aload_n 0, .null)]
theorem kz_X10_bars_28_29 : zchk cX10_bars bz_X10_bars_28_29 28 = true ∧ zpc bz_X10_bars_28_29 28 = 29 := ⟨by decide +kernel, rfl⟩
abbrev bz_X10_bars_32_36 : ZB := [(.iload_n 3, .null), (.iload 4, .null), (.iload_n 1, .null)]
theorem kz_X10_bars_32_36 : zchk cX10_bars bz_X10_bars_32_36 32 = true ∧ zpc bz_X10_bars_32_36 32 = 36 := ⟨by decide +kernel, rfl⟩
abbrev bz_X10_bars_39_43 : ZB := [(.istore 5, .null), (.iload 5, .null)]
theorem kz_X10_bars_39_43 : zchk cX10_bars bz_X10_bars_39_43 39 = true ∧ zpc bz_X10_bars_39_43 39 = 43 := ⟨by decide +kernel, rfl⟩
abbrev bz_X10_bars_46_51 : ZB := [(.istore 6, .null), (.iload 6, .null), (.iload_n 1, .null)]
theorem kz_X10_bars_46_51 : zchk cX10_bars bz_X10_bars_46_51 46 = true ∧ zpc bz_X10_bars_46_51 46 = 51 := ⟨by decide +kernel, rfl⟩
abbrev bz_X10_bars_72_81 : ZB := [(.iload 6, .null), (.istore_n 1, .null), (.iload 5, .null), (.istore_n 2, .null), (.iinc 4 1, .int 1)]
theorem kz_X10_bars_72_81 : zchk cX10_bars bz_X10_bars_72_81 72 = true ∧ zpc bz_X10_bars_72_81 72 = 81 := ⟨by decide +kernel, rfl⟩
abbrev bz_X10_bars_54_57 : ZB := [(.iload 6, .null), (.iload_n 1, .null)]
theorem kz_X10_bars_54_57 : zchk cX10_bars bz_X10_bars_54_57 54 = true ∧ zpc bz_X10_bars_54_57 54 = 57 := ⟨by decide +kernel, rfl⟩
abbrev bz_X10_bars_78_81 : ZB := [(.iinc 4 1, .int 1)]
theorem kz_X10_bars_78_81 : zchk cX10_bars bz_X10_bars_78_81 78 = true ∧ zpc bz_X10_bars_78_81 78 = 81 := ⟨by decide +kernel, rfl⟩
abbrev bz_X10_bars_60_63 : ZB := [(.iload 6, .null), (.iconst 3, .int 3)]
theorem kz_X10_bars_60_63 : zchk cX10_bars bz_X10_bars_60_63 60 = true ∧ zpc bz_X10_bars_60_63 60 = 63 := ⟨by decide +kernel, rfl⟩
abbrev bz_X10_bars_66_69 : ZB := [(.iload 5, .null), (.iload_n 2, .null)]
theorem kz_X10_bars_66_69 : zchk cX10_bars bz_X10_bars_66_69 66 = true ∧ zpc bz_X10_bars_66_69 66 = 69 := ⟨by decide +kernel, rfl⟩
set_option maxHeartbeats 4000000 in
set_option maxRecDepth 100000 in
theorem cz_X10_barsG (l : Launch) (G : KG) (x : Nat) (told : Nat) (x_reader : Value) (x_ring : Value) (speeds : Nat) (x_wheel : Value) (trials : Nat) (x_span : Value) (x_search : Value) (x_kept : Value) (crosses : Nat) (x_trueMasses : Value) (thought : Nat) (x_up : Value) (x_low : Value) (x_fits : Value) (x_pulls : Value) (tn : Nat) (tl : Int32) (fn : Nat → Int64) (sc : Int32) (sf : Nat) (so : Nat) (sX0 : Value) (sX1 : Value) (sX2 : Value) (ff : Nat → Int32) (fo : Nat → Int32) (cr : Nat → Int32) (ft : Nat → Int32) (tc : Int32) (tsp : Nat) (twh : Nat) (tfi : Nat) (tse : Nat) (tgi : Nat) (tle : Nat) (tsc : Nat) (tbx : Nat) (tby : Nat) (fsp : Nat → Int32) (fwh : Nat → Int32) (ffi : Nat → Int32) (fse : Nat → Int32) (fgi : Nat → Int32) (fle : Nat → Int32) (fsc : Nat → Int32) (fbx : Nat → Int32) (fby : Nat → Int32) (tci : Int) (htc : tc.toInt = tci) (ht0 : 0 ≤ tci ∧ tci ≤ 12) (hsp : ∀ j : Nat, (j : Int) < tci → 0 ≤ (fsp j).toInt ∧ (fsp j).toInt < 6) (hg : ∀ j : Nat, (j : Int) < tci → 0 ≤ (fgi j).toInt ∧ (fgi j).toInt ≤ 1000000) : Ct l G yX10_bars cX10_bars 7 (some .int) { frames := 3, cells := 0, slots := 0, locals := 76 } [.ref x] [(x, ob 10 [.ref told, x_reader, x_ring, .ref speeds, x_wheel, .ref trials, x_span, x_search, x_kept, .ref crosses, x_trueMasses, .ref thought, x_up, x_low, x_fits, x_pulls]), (told, ob 8 [.ref tn, .int tl]), (tn, aJ G 16 fn), (speeds, ob 7 [.int sc, .ref sf, .ref so, sX0, sX1, sX2]), (sf, aI G 6 ff), (so, aI G 6 fo), (crosses, aI G 4 cr), (thought, aI G 8 ft), (trials, ob 9 [.int tc, .ref tsp, .ref twh, .ref tfi, .ref tse, .ref tgi, .ref tle, .ref tsc, .ref tbx, .ref tby]), (tsp, aI G 12 fsp), (twh, aZ G 12 fwh), (tfi, aI G 12 ffi), (tse, aI G 12 fse), (tgi, aI G 12 fgi), (tle, aI G 48 fle), (tsc, aI G 12 fsc), (tbx, aI G 12 fbx), (tby, aI G 12 fby)] (fun r _ => ∃ (rz : Int32), (BarE (fun k => ((ct (fun j => ¬ AGx ff fo cr ft (tr6 fsp fwh ffi fse fgi fle) (PX k) (PY k) j) tci.toNat : Nat) : Int)) rz.toInt) ∧ r = some (.int rz)) := by
  refine ct_of [(0, .ref x)] (by decide) (Nat.le_of_ble_eq_true rfl) rfl ?_
  intro p0 e0 s0 m0 args0 below0 meth0 c0 A X
  refine z_run X bz_X10_bars_0_1 kz_X10_bars_0_1 (lv' := [(0, .ref x)]) (st' := [.ref x]) rfl ?_
  refine z_callV X k_10_242 (cy_X10_prepareTrialsG l G x (.ref told) x_reader x_ring speeds x_wheel trials x_span x_search x_kept crosses x_trueMasses thought x_up x_low x_fits x_pulls sc sf so sX0 sX1 sX2 ff fo cr ft tc tsp twh tfi tse tgi tle tsc tbx tby fsp fwh ffi fse fgi fle fsc fbx fby tci htc (by omega) hsp) dz_X10_bars_1 0 rfl rfl rfl ⟨Nat.le_of_ble_eq_true rfl, Nat.le_of_ble_eq_true rfl⟩ ⟨Nat.le_of_ble_eq_true rfl, Nat.le_of_ble_eq_true rfl⟩ rfl (rest := []) (As := []) rfl (Nat.le_of_ble_eq_true rfl) [0, 3, 4, 5, 6, 7, 8, 9, 10, 11, 12, 13, 14, 15, 16, 17] [1, 2] rfl (by decide) (wr := [(told, ob 8 [.ref tn, .int tl]), (tn, aJ G 16 fn)]) rfl (by decide) (by decide) ?_
  rintro _ _ ⟨fsc2_1, fbx2_2, fby2_3, f1_4, rfl, rfl⟩
  refine Z.at (pc' := 4) (st' := []) (ws' := [(told, ob 8 [.ref tn, .int tl]), (tn, aJ G 16 fn), (x, ob 10 [.ref told, x_reader, x_ring, .ref speeds, x_wheel, .ref trials, x_span, x_search, x_kept, .ref crosses, x_trueMasses, .ref thought, x_up, x_low, x_fits, x_pulls]), (speeds, ob 7 [.int sc, .ref sf, .ref so, sX0, sX1, sX2]), (sf, aI G 6 ff), (so, aI G 6 fo), (crosses, aI G 4 cr), (thought, aI G 8 ft), (trials, ob 9 [.int tc, .ref tsp, .ref twh, .ref tfi, .ref tse, .ref tgi, .ref tle, .ref tsc, .ref tbx, .ref tby]), (tsp, aI G 12 fsp), (twh, aZ G 12 fwh), (tfi, aI G 12 ffi), (tse, aI G 12 fse), (tgi, aI G 12 fgi), (tle, aI G 48 fle), (tsc, aI G 12 fsc2_1), (tbx, aI G 12 fbx2_2), (tby, aI G 12 fby2_3)]) (kc' := 0) (ks' := 0) rfl rfl rfl rfl rfl ?_
  refine z_run X bz_X10_bars_4_11 kz_X10_bars_4_11 (lv' := [(3, .int (-60)), (2, .int 0), (1, .int 3), (0, .ref x)]) (st' := []) rfl ?_
  refine zloop (σ := Int32 × Int32 × Int32) (fun z => [(3, .int z.2.2), (2, .int z.2.1), (1, .int z.1), (0, .ref x)]) (fun z => []) (fun z => [(told, ob 8 [.ref tn, .int tl]), (tn, aJ G 16 fn), (x, ob 10 [.ref told, x_reader, x_ring, .ref speeds, x_wheel, .ref trials, x_span, x_search, x_kept, .ref crosses, x_trueMasses, .ref thought, x_up, x_low, x_fits, x_pulls]), (speeds, ob 7 [.int sc, .ref sf, .ref so, sX0, sX1, sX2]), (sf, aI G 6 ff), (so, aI G 6 fo), (crosses, aI G 4 cr), (thought, aI G 8 ft), (trials, ob 9 [.int tc, .ref tsp, .ref twh, .ref tfi, .ref tse, .ref tgi, .ref tle, .ref tsc, .ref tbx, .ref tby]), (tsp, aI G 12 fsp), (twh, aZ G 12 fwh), (tfi, aI G 12 ffi), (tse, aI G 12 fse), (tgi, aI G 12 fgi), (tle, aI G 48 fle), (tsc, aI G 12 fsc2_1), (tbx, aI G 12 fbx2_2), (tby, aI G 12 fby2_3)]) (fun z => (-60 ≤ z.2.2.toInt ∧ z.2.2.toInt ≤ 61) ∧ (BrI (fun k => ((ct (fun j => ¬ agX (fsc2_1 j) (fbx2_2 j) (fby2_3 j) (fwh j) (ffi j) (fse j) (fgi j) (PX k) (PY k)) tci.toNat : Nat) : Int)) ((z.2.2.toInt + 60) * 121).toNat z.1.toInt)) (fun z => (61 - z.2.2.toInt).toNat) (3, 0, (-60)) ?_ ?_
  ·
    rintro ⟨f_, le_, x_⟩ ⟨hx, hR⟩ ih11
    dsimp only at *
    refine z_run X bz_X10_bars_11_14 kz_X10_bars_11_14 (lv' := [(3, .int x_), (2, .int le_), (1, .int f_), (0, .ref x)]) (st' := [.int 60, .int x_]) rfl ?_
    refine zc_gt X dz_X10_bars_14 (tgt := 90) (by decide) (a := x_.toInt) (b := 60) rfl (show (60 : Int32).toInt = 60 from by decide) (fun c14_5 => ?_) (fun c14_5 => ?_)
    ·
      refine z_run X bz_X10_bars_90_92 kz_X10_bars_90_92 (lv' := [(3, .int x_), (2, .int le_), (1, .int f_), (0, .ref x)]) (st' := [.int 2, .int f_]) rfl ?_
      refine zc_le X dz_X10_bars_92 (tgt := 98) (by decide) (a := f_.toInt) (b := 2) rfl (show (2 : Int32).toInt = 2 from by decide) (fun c92_6 => ?_) (fun c92_6 => ?_)
      ·
        refine z_run X bz_X10_bars_98_99 kz_X10_bars_98_99 (lv' := [(3, .int x_), (2, .int le_), (1, .int f_), (0, .ref x)]) (st' := [.ref x]) rfl ?_
        refine z_get X fl_10_12 dz_X10_bars_99 2 rfl (v := .ref told) rfl ?_
        refine z_callV X k_10_180 (cy_X8_startG l G told tn tl fn) dz_X10_bars_102 0 rfl rfl rfl ⟨Nat.le_of_ble_eq_true rfl, Nat.le_of_ble_eq_true rfl⟩ ⟨Nat.le_of_ble_eq_true rfl, Nat.le_of_ble_eq_true rfl⟩ rfl (rest := []) (As := []) rfl (Nat.le_of_ble_eq_true rfl) [0, 1] [2, 3, 4, 5, 6, 7, 8, 9, 10, 11, 12, 13, 14, 15, 16, 17] rfl (by decide) (wr := [(x, ob 10 [.ref told, x_reader, x_ring, .ref speeds, x_wheel, .ref trials, x_span, x_search, x_kept, .ref crosses, x_trueMasses, .ref thought, x_up, x_low, x_fits, x_pulls]), (speeds, ob 7 [.int sc, .ref sf, .ref so, sX0, sX1, sX2]), (sf, aI G 6 ff), (so, aI G 6 fo), (crosses, aI G 4 cr), (thought, aI G 8 ft), (trials, ob 9 [.int tc, .ref tsp, .ref twh, .ref tfi, .ref tse, .ref tgi, .ref tle, .ref tsc, .ref tbx, .ref tby]), (tsp, aI G 12 fsp), (twh, aZ G 12 fwh), (tfi, aI G 12 ffi), (tse, aI G 12 fse), (tgi, aI G 12 fgi), (tle, aI G 48 fle), (tsc, aI G 12 fsc2_1), (tbx, aI G 12 fbx2_2), (tby, aI G 12 fby2_3)]) rfl (by decide) (by decide) ?_
        rintro _ _ ⟨rfl, rfl⟩
        refine Z.at (pc' := 105) (st' := []) (ws' := [(x, ob 10 [.ref told, x_reader, x_ring, .ref speeds, x_wheel, .ref trials, x_span, x_search, x_kept, .ref crosses, x_trueMasses, .ref thought, x_up, x_low, x_fits, x_pulls]), (speeds, ob 7 [.int sc, .ref sf, .ref so, sX0, sX1, sX2]), (sf, aI G 6 ff), (so, aI G 6 fo), (crosses, aI G 4 cr), (thought, aI G 8 ft), (trials, ob 9 [.int tc, .ref tsp, .ref twh, .ref tfi, .ref tse, .ref tgi, .ref tle, .ref tsc, .ref tbx, .ref tby]), (tsp, aI G 12 fsp), (twh, aZ G 12 fwh), (tfi, aI G 12 ffi), (tse, aI G 12 fse), (tgi, aI G 12 fgi), (tle, aI G 48 fle), (tsc, aI G 12 fsc2_1), (tbx, aI G 12 fbx2_2), (tby, aI G 12 fby2_3), (told, ob 8 [.ref tn, .int 0]), (tn, aJ G 16 fn)]) (kc' := 0) (ks' := 0) rfl rfl rfl rfl rfl ?_
        refine z_run X bz_X10_bars_105_106 kz_X10_bars_105_106 (lv' := [(3, .int x_), (2, .int le_), (1, .int f_), (0, .ref x)]) (st' := [.ref x]) rfl ?_
        refine z_get X fl_10_12 dz_X10_bars_106 0 rfl (v := .ref told) rfl ?_
        refine z_run X bz_X10_bars_109_111 kz_X10_bars_109_111 (lv' := [(3, .int x_), (2, .int le_), (1, .int f_), (0, .ref x)]) (st' := [.long le_.toInt64, .ref told]) rfl ?_
        refine z_callV X k_10_183 (cy_X8_addG l G told tn 0 fn le_.toInt64 0 (show (0 : Int32).toInt = 0 from by decide) (by omega)) dz_X10_bars_111 16 rfl rfl rfl ⟨Nat.le_of_ble_eq_true rfl, Nat.le_of_ble_eq_true rfl⟩ ⟨Nat.le_of_ble_eq_true rfl, Nat.le_of_ble_eq_true rfl⟩ rfl (rest := []) (As := [.long le_.toInt64]) rfl (Nat.le_of_ble_eq_true rfl) [16, 17] [0, 1, 2, 3, 4, 5, 6, 7, 8, 9, 10, 11, 12, 13, 14, 15] rfl (by decide) (wr := [(x, ob 10 [.ref told, x_reader, x_ring, .ref speeds, x_wheel, .ref trials, x_span, x_search, x_kept, .ref crosses, x_trueMasses, .ref thought, x_up, x_low, x_fits, x_pulls]), (speeds, ob 7 [.int sc, .ref sf, .ref so, sX0, sX1, sX2]), (sf, aI G 6 ff), (so, aI G 6 fo), (crosses, aI G 4 cr), (thought, aI G 8 ft), (trials, ob 9 [.int tc, .ref tsp, .ref twh, .ref tfi, .ref tse, .ref tgi, .ref tle, .ref tsc, .ref tbx, .ref tby]), (tsp, aI G 12 fsp), (twh, aZ G 12 fwh), (tfi, aI G 12 ffi), (tse, aI G 12 fse), (tgi, aI G 12 fgi), (tle, aI G 48 fle), (tsc, aI G 12 fsc2_1), (tbx, aI G 12 fbx2_2), (tby, aI G 12 fby2_3)]) rfl (by decide) (by decide) ?_
        rintro _ _ ⟨tl2_7, fn2_8, f111_9, rfl, rfl⟩
        refine Z.at (pc' := 114) (st' := []) (ws' := [(x, ob 10 [.ref told, x_reader, x_ring, .ref speeds, x_wheel, .ref trials, x_span, x_search, x_kept, .ref crosses, x_trueMasses, .ref thought, x_up, x_low, x_fits, x_pulls]), (speeds, ob 7 [.int sc, .ref sf, .ref so, sX0, sX1, sX2]), (sf, aI G 6 ff), (so, aI G 6 fo), (crosses, aI G 4 cr), (thought, aI G 8 ft), (trials, ob 9 [.int tc, .ref tsp, .ref twh, .ref tfi, .ref tse, .ref tgi, .ref tle, .ref tsc, .ref tbx, .ref tby]), (tsp, aI G 12 fsp), (twh, aZ G 12 fwh), (tfi, aI G 12 ffi), (tse, aI G 12 fse), (tgi, aI G 12 fgi), (tle, aI G 48 fle), (tsc, aI G 12 fsc2_1), (tbx, aI G 12 fbx2_2), (tby, aI G 12 fby2_3), (told, ob 8 [.ref tn, .int tl2_7]), (tn, aJ G 16 fn2_8)]) (kc' := 0) (ks' := 0) rfl rfl rfl rfl rfl ?_
        refine z_run X bz_X10_bars_114_115 kz_X10_bars_114_115 (lv' := [(3, .int x_), (2, .int le_), (1, .int f_), (0, .ref x)]) (st' := [.int f_]) rfl ?_
        exact z_iret X rfl dz_X10_bars_115 (Nat.le_of_ble_eq_true rfl) (Nat.le_of_ble_eq_true rfl) ⟨f_, (BarE.cg (fun k _ => congrArg (fun z : Nat => (z : Int)) (ct_congr (fun j hj => not_congr (ag_prep (F := (tr6 fsp fwh ffi fse fgi fle)) f1_4 (by clear hR f1_4; omega))))) (hR.yes (by clear hR; omega) (by clear hR; omega))), rfl⟩
      ·
        refine z_run X bz_X10_bars_95_97 kz_X10_bars_95_97 (lv' := [(3, .int x_), (2, .int le_), (1, .int f_), (0, .ref x)]) (st' := [.int (-2)]) rfl ?_
        exact z_iret X rfl dz_X10_bars_97 (Nat.le_of_ble_eq_true rfl) (Nat.le_of_ble_eq_true rfl) ⟨((-2) : Int32), (BarE.cg (fun k _ => congrArg (fun z : Nat => (z : Int)) (ct_congr (fun j hj => not_congr (ag_prep (F := (tr6 fsp fwh ffi fse fgi fle)) f1_4 (by clear hR f1_4; omega))))) (by rw [show (-2 : Int32).toInt = -2 from by decide]; exact hR.no (by clear hR; omega) (by clear hR; omega))), rfl⟩
    ·
      refine z_run X bz_X10_bars_17_21 kz_X10_bars_17_21 (lv' := [(4, .int (-60)), (3, .int x_), (2, .int le_), (1, .int f_), (0, .ref x)]) (st' := []) rfl ?_
      refine zloop (σ := Int32 × Int32 × Int32) (fun z => [(4, .int z.2.2), (3, .int x_), (2, .int z.2.1), (1, .int z.1), (0, .ref x)]) (fun z => []) (fun z => [(told, ob 8 [.ref tn, .int tl]), (tn, aJ G 16 fn), (x, ob 10 [.ref told, x_reader, x_ring, .ref speeds, x_wheel, .ref trials, x_span, x_search, x_kept, .ref crosses, x_trueMasses, .ref thought, x_up, x_low, x_fits, x_pulls]), (speeds, ob 7 [.int sc, .ref sf, .ref so, sX0, sX1, sX2]), (sf, aI G 6 ff), (so, aI G 6 fo), (crosses, aI G 4 cr), (thought, aI G 8 ft), (trials, ob 9 [.int tc, .ref tsp, .ref twh, .ref tfi, .ref tse, .ref tgi, .ref tle, .ref tsc, .ref tbx, .ref tby]), (tsp, aI G 12 fsp), (twh, aZ G 12 fwh), (tfi, aI G 12 ffi), (tse, aI G 12 fse), (tgi, aI G 12 fgi), (tle, aI G 48 fle), (tsc, aI G 12 fsc2_1), (tbx, aI G 12 fbx2_2), (tby, aI G 12 fby2_3)]) (fun z => (-60 ≤ z.2.2.toInt ∧ z.2.2.toInt ≤ 61) ∧ (BrI (fun k => ((ct (fun j => ¬ agX (fsc2_1 j) (fbx2_2 j) (fby2_3 j) (fwh j) (ffi j) (fse j) (fgi j) (PX k) (PY k)) tci.toNat : Nat) : Int)) ((x_.toInt + 60) * 121 + (z.2.2.toInt + 60)).toNat z.1.toInt)) (fun z => (61 - z.2.2.toInt).toNat) (f_, le_, (-60)) ?_ ?_
      ·
        rintro ⟨fI_, leI_, y_⟩ ⟨hy, hQ⟩ ih21
        dsimp only at *
        refine z_run X bz_X10_bars_21_25 kz_X10_bars_21_25 (lv' := [(4, .int y_), (3, .int x_), (2, .int leI_), (1, .int fI_), (0, .ref x)]) (st' := [.int 60, .int y_]) rfl ?_
        refine zc_gt X dz_X10_bars_25 (tgt := 84) (by decide) (a := y_.toInt) (b := 60) rfl (show (60 : Int32).toInt = 60 from by decide) (fun c25_10 => ?_) (fun c25_10 => ?_)
        ·
          refine z_run X bz_X10_bars_84_87 kz_X10_bars_84_87 (lv' := [(3, .int (x_ + 1)), (4, .int y_), (2, .int leI_), (1, .int fI_), (0, .ref x)]) (st' := []) rfl ?_
          refine z_goto X dz_X10_bars_87 (tgt := 11) (by decide) ?_
          refine Z.sub (lv' := [(3, .int (x_ + 1)), (2, .int leI_), (1, .int fI_), (0, .ref x)]) [0, 2, 3, 4] rfl [0, 1, 2, 3, 4, 5, 6, 7, 8, 9, 10, 11, 12, 13, 14, 15, 16, 17] (ws' := [(told, ob 8 [.ref tn, .int tl]), (tn, aJ G 16 fn), (x, ob 10 [.ref told, x_reader, x_ring, .ref speeds, x_wheel, .ref trials, x_span, x_search, x_kept, .ref crosses, x_trueMasses, .ref thought, x_up, x_low, x_fits, x_pulls]), (speeds, ob 7 [.int sc, .ref sf, .ref so, sX0, sX1, sX2]), (sf, aI G 6 ff), (so, aI G 6 fo), (crosses, aI G 4 cr), (thought, aI G 8 ft), (trials, ob 9 [.int tc, .ref tsp, .ref twh, .ref tfi, .ref tse, .ref tgi, .ref tle, .ref tsc, .ref tbx, .ref tby]), (tsp, aI G 12 fsp), (twh, aZ G 12 fwh), (tfi, aI G 12 ffi), (tse, aI G 12 fse), (tgi, aI G 12 fgi), (tle, aI G 48 fle), (tsc, aI G 12 fsc2_1), (tbx, aI G 12 fbx2_2), (tby, aI G 12 fby2_3)]) rfl (by decide) ?_
          exact ih11 (fI_, leI_, (x_ + 1)) ⟨(by clear hQ; (try dsimp only); have ex1 : (x_ + 1).toInt = x_.toInt + 1 := tI_add rfl (show (1 : Int32).toInt = 1 from by decide) (by omega); omega), (by (try dsimp only); have ex1 : (x_ + 1).toInt = x_.toInt + 1 := (by clear hQ; exact tI_add rfl (show (1 : Int32).toInt = 1 from by decide) (by omega)); rw [ex1, show ((x_.toInt + 1 + 60) * 121).toNat = ((x_.toInt + 60) * 121 + (y_.toInt + 60)).toNat by clear hQ; omega]; exact hQ)⟩ (by clear hQ; (try dsimp only); have ex1 : (x_ + 1).toInt = x_.toInt + 1 := tI_add rfl (show (1 : Int32).toInt = 1 from by decide) (by omega); omega)
        ·
          refine z_run X bz_X10_bars_28_29 kz_X10_bars_28_29 (lv' := [(4, .int y_), (3, .int x_), (2, .int leI_), (1, .int fI_), (0, .ref x)]) (st' := [.ref x]) rfl ?_
          refine z_get X fl_10_47 dz_X10_bars_29 2 rfl (v := .ref trials) rfl ?_
          refine z_run X bz_X10_bars_32_36 kz_X10_bars_32_36 (lv' := [(4, .int y_), (3, .int x_), (2, .int leI_), (1, .int fI_), (0, .ref x)]) (st' := [.int fI_, .int y_, .int x_, .ref trials]) rfl ?_
          have hf3_ := hQ.1
          refine z_callV X k_10_253 (cz_X9_allAgainstG l G trials tc tsp twh tfi tse tgi tle tsc tbx tby fwh ffi fse fgi fsc2_1 fbx2_2 fby2_3 x_ y_ fI_ tci fI_.toInt htc rfl (by omega) hg (by clear hQ; omega)) dz_X10_bars_36 8 rfl rfl rfl ⟨Nat.le_of_ble_eq_true rfl, Nat.le_of_ble_eq_true rfl⟩ ⟨Nat.le_of_ble_eq_true rfl, Nat.le_of_ble_eq_true rfl⟩ rfl (rest := []) (As := [.int x_, .int y_, .int fI_]) rfl (Nat.le_of_ble_eq_true rfl) [8, 10, 11, 12, 13, 15, 16, 17] [0, 1, 2, 3, 4, 5, 6, 7, 9, 14] rfl (by decide) (wr := [(told, ob 8 [.ref tn, .int tl]), (tn, aJ G 16 fn), (x, ob 10 [.ref told, x_reader, x_ring, .ref speeds, x_wheel, .ref trials, x_span, x_search, x_kept, .ref crosses, x_trueMasses, .ref thought, x_up, x_low, x_fits, x_pulls]), (speeds, ob 7 [.int sc, .ref sf, .ref so, sX0, sX1, sX2]), (sf, aI G 6 ff), (so, aI G 6 fo), (crosses, aI G 4 cr), (thought, aI G 8 ft), (tsp, aI G 12 fsp), (tle, aI G 48 fle)]) rfl (by decide) (by decide) ?_
          rintro _ _ ⟨rz_11, f36_12, rfl, rfl⟩
          refine Z.at (pc' := 39) (st' := [.int rz_11]) (ws' := [(told, ob 8 [.ref tn, .int tl]), (tn, aJ G 16 fn), (x, ob 10 [.ref told, x_reader, x_ring, .ref speeds, x_wheel, .ref trials, x_span, x_search, x_kept, .ref crosses, x_trueMasses, .ref thought, x_up, x_low, x_fits, x_pulls]), (speeds, ob 7 [.int sc, .ref sf, .ref so, sX0, sX1, sX2]), (sf, aI G 6 ff), (so, aI G 6 fo), (crosses, aI G 4 cr), (thought, aI G 8 ft), (tsp, aI G 12 fsp), (tle, aI G 48 fle), (trials, ob 9 [.int tc, .ref tsp, .ref twh, .ref tfi, .ref tse, .ref tgi, .ref tle, .ref tsc, .ref tbx, .ref tby]), (twh, aZ G 12 fwh), (tfi, aI G 12 ffi), (tse, aI G 12 fse), (tgi, aI G 12 fgi), (tsc, aI G 12 fsc2_1), (tbx, aI G 12 fbx2_2), (tby, aI G 12 fby2_3)]) (kc' := 0) (ks' := 0) rfl rfl rfl rfl rfl ?_
          refine z_run X bz_X10_bars_39_43 kz_X10_bars_39_43 (lv' := [(5, .int rz_11), (4, .int y_), (3, .int x_), (2, .int leI_), (1, .int fI_), (0, .ref x)]) (st' := [.int rz_11]) rfl ?_
          refine z_callS X k_10_256 (cz_J6_bitCount l G rz_11) dz_X10_bars_43 ⟨Nat.le_of_ble_eq_true rfl, Nat.le_of_ble_eq_true rfl⟩ ⟨Nat.le_of_ble_eq_true rfl, Nat.le_of_ble_eq_true rfl⟩ rfl (rest := []) (As := [.int rz_11]) rfl (Nat.le_of_ble_eq_true rfl) [] [0, 1, 2, 3, 4, 5, 6, 7, 8, 9, 10, 11, 12, 13, 14, 15, 16, 17] rfl (by decide) (wr := [(told, ob 8 [.ref tn, .int tl]), (tn, aJ G 16 fn), (x, ob 10 [.ref told, x_reader, x_ring, .ref speeds, x_wheel, .ref trials, x_span, x_search, x_kept, .ref crosses, x_trueMasses, .ref thought, x_up, x_low, x_fits, x_pulls]), (speeds, ob 7 [.int sc, .ref sf, .ref so, sX0, sX1, sX2]), (sf, aI G 6 ff), (so, aI G 6 fo), (crosses, aI G 4 cr), (thought, aI G 8 ft), (tsp, aI G 12 fsp), (tle, aI G 48 fle), (trials, ob 9 [.int tc, .ref tsp, .ref twh, .ref tfi, .ref tse, .ref tgi, .ref tle, .ref tsc, .ref tbx, .ref tby]), (twh, aZ G 12 fwh), (tfi, aI G 12 ffi), (tse, aI G 12 fse), (tgi, aI G 12 fgi), (tsc, aI G 12 fsc2_1), (tbx, aI G 12 fbx2_2), (tby, aI G 12 fby2_3)]) rfl (by decide) (by decide) ?_
          rintro _ _ ⟨rfl, rfl⟩
          refine Z.at (pc' := 46) (st' := [.int (BC rz_11)]) (ws' := [(told, ob 8 [.ref tn, .int tl]), (tn, aJ G 16 fn), (x, ob 10 [.ref told, x_reader, x_ring, .ref speeds, x_wheel, .ref trials, x_span, x_search, x_kept, .ref crosses, x_trueMasses, .ref thought, x_up, x_low, x_fits, x_pulls]), (speeds, ob 7 [.int sc, .ref sf, .ref so, sX0, sX1, sX2]), (sf, aI G 6 ff), (so, aI G 6 fo), (crosses, aI G 4 cr), (thought, aI G 8 ft), (tsp, aI G 12 fsp), (tle, aI G 48 fle), (trials, ob 9 [.int tc, .ref tsp, .ref twh, .ref tfi, .ref tse, .ref tgi, .ref tle, .ref tsc, .ref tbx, .ref tby]), (twh, aZ G 12 fwh), (tfi, aI G 12 ffi), (tse, aI G 12 fse), (tgi, aI G 12 fgi), (tsc, aI G 12 fsc2_1), (tbx, aI G 12 fbx2_2), (tby, aI G 12 fby2_3)]) (kc' := 0) (ks' := 0) rfl rfl rfl rfl rfl ?_
          refine z_run X bz_X10_bars_46_51 kz_X10_bars_46_51 (lv' := [(6, .int (BC rz_11)), (5, .int rz_11), (4, .int y_), (3, .int x_), (2, .int leI_), (1, .int fI_), (0, .ref x)]) (st' := [.int fI_, .int (BC rz_11)]) rfl ?_
          refine zc_lt X dz_X10_bars_51 (tgt := 72) (by decide) (a := (BC rz_11).toInt) (b := fI_.toInt) rfl rfl (fun c51_13 => ?_) (fun c51_13 => ?_)
          ·
            refine z_run X bz_X10_bars_72_81 kz_X10_bars_72_81 (lv' := [(4, .int (y_ + 1)), (2, .int rz_11), (1, .int (BC rz_11)), (6, .int (BC rz_11)), (5, .int rz_11), (3, .int x_), (0, .ref x)]) (st' := []) rfl ?_
            refine z_goto X dz_X10_bars_81 (tgt := 21) (by decide) ?_
            refine Z.sub (lv' := [(4, .int (y_ + 1)), (3, .int x_), (2, .int rz_11), (1, .int (BC rz_11)), (0, .ref x)]) [0, 5, 1, 2, 6] rfl [0, 1, 2, 3, 4, 5, 6, 7, 10, 8, 11, 12, 13, 14, 9, 15, 16, 17] (ws' := [(told, ob 8 [.ref tn, .int tl]), (tn, aJ G 16 fn), (x, ob 10 [.ref told, x_reader, x_ring, .ref speeds, x_wheel, .ref trials, x_span, x_search, x_kept, .ref crosses, x_trueMasses, .ref thought, x_up, x_low, x_fits, x_pulls]), (speeds, ob 7 [.int sc, .ref sf, .ref so, sX0, sX1, sX2]), (sf, aI G 6 ff), (so, aI G 6 fo), (crosses, aI G 4 cr), (thought, aI G 8 ft), (trials, ob 9 [.int tc, .ref tsp, .ref twh, .ref tfi, .ref tse, .ref tgi, .ref tle, .ref tsc, .ref tbx, .ref tby]), (tsp, aI G 12 fsp), (twh, aZ G 12 fwh), (tfi, aI G 12 ffi), (tse, aI G 12 fse), (tgi, aI G 12 fgi), (tle, aI G 48 fle), (tsc, aI G 12 fsc2_1), (tbx, aI G 12 fbx2_2), (tby, aI G 12 fby2_3)]) rfl (by decide) ?_
            exact ih21 ((BC rz_11), rz_11, (y_ + 1)) ⟨(by (try dsimp only); have ey1 : (y_ + 1).toInt = y_.toInt + 1 := (by clear hQ f36_12; exact tI_add rfl (show (1 : Int32).toInt = 1 from by decide) (by omega)); clear hQ f36_12; omega), (by (try dsimp only); have hk1 : (((((x_.toInt + 60) * 121 + (y_.toInt + 60)).toNat : Nat) : Int)) = (x_.toInt + 60) * 121 + (y_.toInt + 60) := (by clear hQ f36_12; omega); have hpx : x_ = PX ((x_.toInt + 60) * 121 + (y_.toInt + 60)).toNat := PX_of (by clear hQ f36_12; rw [hk1]; omega); have hpy : y_ = PY ((x_.toInt + 60) * 121 + (y_.toInt + 60)).toNat := PY_of (by clear hpx; clear hQ f36_12; rw [hk1]; omega); have ey1 : (y_ + 1).toInt = y_.toInt + 1 := (by clear hQ f36_12; exact tI_add rfl (show (1 : Int32).toInt = 1 from by decide) (by omega)); have hkn : ((x_.toInt + 60) * 121 + ((y_ + 1).toInt + 60)).toNat = ((x_.toInt + 60) * 121 + (y_.toInt + 60)).toNat + 1 := (by clear hpx hpy; clear hQ f36_12; omega); rw [hkn]; refine hQ.step (m := (BC rz_11).toInt) (Int.natCast_nonneg _) ?_ ?_; (rw [← hpx, ← hpy]; exact f36_12); (exact if_mn (by clear hpx hpy; clear hQ f36_12; omega)))⟩ (by (try dsimp only); have ey1 : (y_ + 1).toInt = y_.toInt + 1 := (by clear hQ f36_12; exact tI_add rfl (show (1 : Int32).toInt = 1 from by decide) (by omega)); clear hQ f36_12; omega)
          ·
            refine z_run X bz_X10_bars_54_57 kz_X10_bars_54_57 (lv' := [(6, .int (BC rz_11)), (5, .int rz_11), (4, .int y_), (3, .int x_), (2, .int leI_), (1, .int fI_), (0, .ref x)]) (st' := [.int fI_, .int (BC rz_11)]) rfl ?_
            refine zc_ne X dz_X10_bars_57 (tgt := 78) (by decide) (a := (BC rz_11).toInt) (b := fI_.toInt) rfl rfl (fun c57_14 => ?_) (fun c57_14 => ?_)
            ·
              refine z_run X bz_X10_bars_78_81 kz_X10_bars_78_81 (lv' := [(4, .int (y_ + 1)), (6, .int (BC rz_11)), (5, .int rz_11), (3, .int x_), (2, .int leI_), (1, .int fI_), (0, .ref x)]) (st' := []) rfl ?_
              refine z_goto X dz_X10_bars_81 (tgt := 21) (by decide) ?_
              refine Z.sub (lv' := [(4, .int (y_ + 1)), (3, .int x_), (2, .int leI_), (1, .int fI_), (0, .ref x)]) [0, 3, 4, 5, 6] rfl [0, 1, 2, 3, 4, 5, 6, 7, 10, 8, 11, 12, 13, 14, 9, 15, 16, 17] (ws' := [(told, ob 8 [.ref tn, .int tl]), (tn, aJ G 16 fn), (x, ob 10 [.ref told, x_reader, x_ring, .ref speeds, x_wheel, .ref trials, x_span, x_search, x_kept, .ref crosses, x_trueMasses, .ref thought, x_up, x_low, x_fits, x_pulls]), (speeds, ob 7 [.int sc, .ref sf, .ref so, sX0, sX1, sX2]), (sf, aI G 6 ff), (so, aI G 6 fo), (crosses, aI G 4 cr), (thought, aI G 8 ft), (trials, ob 9 [.int tc, .ref tsp, .ref twh, .ref tfi, .ref tse, .ref tgi, .ref tle, .ref tsc, .ref tbx, .ref tby]), (tsp, aI G 12 fsp), (twh, aZ G 12 fwh), (tfi, aI G 12 ffi), (tse, aI G 12 fse), (tgi, aI G 12 fgi), (tle, aI G 48 fle), (tsc, aI G 12 fsc2_1), (tbx, aI G 12 fbx2_2), (tby, aI G 12 fby2_3)]) rfl (by decide) ?_
              exact ih21 (fI_, leI_, (y_ + 1)) ⟨(by (try dsimp only); have ey1 : (y_ + 1).toInt = y_.toInt + 1 := (by clear hQ f36_12; exact tI_add rfl (show (1 : Int32).toInt = 1 from by decide) (by omega)); clear hQ f36_12; omega), (by (try dsimp only); have hk1 : (((((x_.toInt + 60) * 121 + (y_.toInt + 60)).toNat : Nat) : Int)) = (x_.toInt + 60) * 121 + (y_.toInt + 60) := (by clear hQ f36_12; omega); have hpx : x_ = PX ((x_.toInt + 60) * 121 + (y_.toInt + 60)).toNat := PX_of (by clear hQ f36_12; rw [hk1]; omega); have hpy : y_ = PY ((x_.toInt + 60) * 121 + (y_.toInt + 60)).toNat := PY_of (by clear hpx; clear hQ f36_12; rw [hk1]; omega); have ey1 : (y_ + 1).toInt = y_.toInt + 1 := (by clear hQ f36_12; exact tI_add rfl (show (1 : Int32).toInt = 1 from by decide) (by omega)); have hkn : ((x_.toInt + 60) * 121 + ((y_ + 1).toInt + 60)).toNat = ((x_.toInt + 60) * 121 + (y_.toInt + 60)).toNat + 1 := (by clear hpx hpy; clear hQ f36_12; omega); rw [hkn]; refine hQ.step (m := (BC rz_11).toInt) (Int.natCast_nonneg _) ?_ ?_; (rw [← hpx, ← hpy]; exact f36_12); (exact if_mn (by clear hpx hpy; clear hQ f36_12; omega)))⟩ (by (try dsimp only); have ey1 : (y_ + 1).toInt = y_.toInt + 1 := (by clear hQ f36_12; exact tI_add rfl (show (1 : Int32).toInt = 1 from by decide) (by omega)); clear hQ f36_12; omega)
            ·
              refine z_run X bz_X10_bars_60_63 kz_X10_bars_60_63 (lv' := [(6, .int (BC rz_11)), (5, .int rz_11), (4, .int y_), (3, .int x_), (2, .int leI_), (1, .int fI_), (0, .ref x)]) (st' := [.int 3, .int (BC rz_11)]) rfl ?_
              refine zc_ge X dz_X10_bars_63 (tgt := 78) (by decide) (a := (BC rz_11).toInt) (b := 3) rfl (show (3 : Int32).toInt = 3 from by decide) (fun c63_15 => ?_) (fun c63_15 => ?_)
              ·
                refine z_run X bz_X10_bars_78_81 kz_X10_bars_78_81 (lv' := [(4, .int (y_ + 1)), (6, .int (BC rz_11)), (5, .int rz_11), (3, .int x_), (2, .int leI_), (1, .int fI_), (0, .ref x)]) (st' := []) rfl ?_
                refine z_goto X dz_X10_bars_81 (tgt := 21) (by decide) ?_
                refine Z.sub (lv' := [(4, .int (y_ + 1)), (3, .int x_), (2, .int leI_), (1, .int fI_), (0, .ref x)]) [0, 3, 4, 5, 6] rfl [0, 1, 2, 3, 4, 5, 6, 7, 10, 8, 11, 12, 13, 14, 9, 15, 16, 17] (ws' := [(told, ob 8 [.ref tn, .int tl]), (tn, aJ G 16 fn), (x, ob 10 [.ref told, x_reader, x_ring, .ref speeds, x_wheel, .ref trials, x_span, x_search, x_kept, .ref crosses, x_trueMasses, .ref thought, x_up, x_low, x_fits, x_pulls]), (speeds, ob 7 [.int sc, .ref sf, .ref so, sX0, sX1, sX2]), (sf, aI G 6 ff), (so, aI G 6 fo), (crosses, aI G 4 cr), (thought, aI G 8 ft), (trials, ob 9 [.int tc, .ref tsp, .ref twh, .ref tfi, .ref tse, .ref tgi, .ref tle, .ref tsc, .ref tbx, .ref tby]), (tsp, aI G 12 fsp), (twh, aZ G 12 fwh), (tfi, aI G 12 ffi), (tse, aI G 12 fse), (tgi, aI G 12 fgi), (tle, aI G 48 fle), (tsc, aI G 12 fsc2_1), (tbx, aI G 12 fbx2_2), (tby, aI G 12 fby2_3)]) rfl (by decide) ?_
                exact ih21 (fI_, leI_, (y_ + 1)) ⟨(by (try dsimp only); have ey1 : (y_ + 1).toInt = y_.toInt + 1 := (by clear hQ f36_12; exact tI_add rfl (show (1 : Int32).toInt = 1 from by decide) (by omega)); clear hQ f36_12; omega), (by (try dsimp only); have hk1 : (((((x_.toInt + 60) * 121 + (y_.toInt + 60)).toNat : Nat) : Int)) = (x_.toInt + 60) * 121 + (y_.toInt + 60) := (by clear hQ f36_12; omega); have hpx : x_ = PX ((x_.toInt + 60) * 121 + (y_.toInt + 60)).toNat := PX_of (by clear hQ f36_12; rw [hk1]; omega); have hpy : y_ = PY ((x_.toInt + 60) * 121 + (y_.toInt + 60)).toNat := PY_of (by clear hpx; clear hQ f36_12; rw [hk1]; omega); have ey1 : (y_ + 1).toInt = y_.toInt + 1 := (by clear hQ f36_12; exact tI_add rfl (show (1 : Int32).toInt = 1 from by decide) (by omega)); have hkn : ((x_.toInt + 60) * 121 + ((y_ + 1).toInt + 60)).toNat = ((x_.toInt + 60) * 121 + (y_.toInt + 60)).toNat + 1 := (by clear hpx hpy; clear hQ f36_12; omega); rw [hkn]; refine hQ.step (m := (BC rz_11).toInt) (Int.natCast_nonneg _) ?_ ?_; (rw [← hpx, ← hpy]; exact f36_12); (exact if_mn (by clear hpx hpy; clear hQ f36_12; omega)))⟩ (by (try dsimp only); have ey1 : (y_ + 1).toInt = y_.toInt + 1 := (by clear hQ f36_12; exact tI_add rfl (show (1 : Int32).toInt = 1 from by decide) (by omega)); clear hQ f36_12; omega)
              ·
                refine z_run X bz_X10_bars_66_69 kz_X10_bars_66_69 (lv' := [(6, .int (BC rz_11)), (5, .int rz_11), (4, .int y_), (3, .int x_), (2, .int leI_), (1, .int fI_), (0, .ref x)]) (st' := [.int leI_, .int rz_11]) rfl ?_
                refine zc_ge X dz_X10_bars_69 (tgt := 78) (by decide) (a := rz_11.toInt) (b := leI_.toInt) rfl rfl (fun c69_16 => ?_) (fun c69_16 => ?_)
                ·
                  refine z_run X bz_X10_bars_78_81 kz_X10_bars_78_81 (lv' := [(4, .int (y_ + 1)), (6, .int (BC rz_11)), (5, .int rz_11), (3, .int x_), (2, .int leI_), (1, .int fI_), (0, .ref x)]) (st' := []) rfl ?_
                  refine z_goto X dz_X10_bars_81 (tgt := 21) (by decide) ?_
                  refine Z.sub (lv' := [(4, .int (y_ + 1)), (3, .int x_), (2, .int leI_), (1, .int fI_), (0, .ref x)]) [0, 3, 4, 5, 6] rfl [0, 1, 2, 3, 4, 5, 6, 7, 10, 8, 11, 12, 13, 14, 9, 15, 16, 17] (ws' := [(told, ob 8 [.ref tn, .int tl]), (tn, aJ G 16 fn), (x, ob 10 [.ref told, x_reader, x_ring, .ref speeds, x_wheel, .ref trials, x_span, x_search, x_kept, .ref crosses, x_trueMasses, .ref thought, x_up, x_low, x_fits, x_pulls]), (speeds, ob 7 [.int sc, .ref sf, .ref so, sX0, sX1, sX2]), (sf, aI G 6 ff), (so, aI G 6 fo), (crosses, aI G 4 cr), (thought, aI G 8 ft), (trials, ob 9 [.int tc, .ref tsp, .ref twh, .ref tfi, .ref tse, .ref tgi, .ref tle, .ref tsc, .ref tbx, .ref tby]), (tsp, aI G 12 fsp), (twh, aZ G 12 fwh), (tfi, aI G 12 ffi), (tse, aI G 12 fse), (tgi, aI G 12 fgi), (tle, aI G 48 fle), (tsc, aI G 12 fsc2_1), (tbx, aI G 12 fbx2_2), (tby, aI G 12 fby2_3)]) rfl (by decide) ?_
                  exact ih21 (fI_, leI_, (y_ + 1)) ⟨(by (try dsimp only); have ey1 : (y_ + 1).toInt = y_.toInt + 1 := (by clear hQ f36_12; exact tI_add rfl (show (1 : Int32).toInt = 1 from by decide) (by omega)); clear hQ f36_12; omega), (by (try dsimp only); have hk1 : (((((x_.toInt + 60) * 121 + (y_.toInt + 60)).toNat : Nat) : Int)) = (x_.toInt + 60) * 121 + (y_.toInt + 60) := (by clear hQ f36_12; omega); have hpx : x_ = PX ((x_.toInt + 60) * 121 + (y_.toInt + 60)).toNat := PX_of (by clear hQ f36_12; rw [hk1]; omega); have hpy : y_ = PY ((x_.toInt + 60) * 121 + (y_.toInt + 60)).toNat := PY_of (by clear hpx; clear hQ f36_12; rw [hk1]; omega); have ey1 : (y_ + 1).toInt = y_.toInt + 1 := (by clear hQ f36_12; exact tI_add rfl (show (1 : Int32).toInt = 1 from by decide) (by omega)); have hkn : ((x_.toInt + 60) * 121 + ((y_ + 1).toInt + 60)).toNat = ((x_.toInt + 60) * 121 + (y_.toInt + 60)).toNat + 1 := (by clear hpx hpy; clear hQ f36_12; omega); rw [hkn]; refine hQ.step (m := (BC rz_11).toInt) (Int.natCast_nonneg _) ?_ ?_; (rw [← hpx, ← hpy]; exact f36_12); (exact if_mn (by clear hpx hpy; clear hQ f36_12; omega)))⟩ (by (try dsimp only); have ey1 : (y_ + 1).toInt = y_.toInt + 1 := (by clear hQ f36_12; exact tI_add rfl (show (1 : Int32).toInt = 1 from by decide) (by omega)); clear hQ f36_12; omega)
                ·
                  refine z_run X bz_X10_bars_72_81 kz_X10_bars_72_81 (lv' := [(4, .int (y_ + 1)), (2, .int rz_11), (1, .int (BC rz_11)), (6, .int (BC rz_11)), (5, .int rz_11), (3, .int x_), (0, .ref x)]) (st' := []) rfl ?_
                  refine z_goto X dz_X10_bars_81 (tgt := 21) (by decide) ?_
                  refine Z.sub (lv' := [(4, .int (y_ + 1)), (3, .int x_), (2, .int rz_11), (1, .int (BC rz_11)), (0, .ref x)]) [0, 5, 1, 2, 6] rfl [0, 1, 2, 3, 4, 5, 6, 7, 10, 8, 11, 12, 13, 14, 9, 15, 16, 17] (ws' := [(told, ob 8 [.ref tn, .int tl]), (tn, aJ G 16 fn), (x, ob 10 [.ref told, x_reader, x_ring, .ref speeds, x_wheel, .ref trials, x_span, x_search, x_kept, .ref crosses, x_trueMasses, .ref thought, x_up, x_low, x_fits, x_pulls]), (speeds, ob 7 [.int sc, .ref sf, .ref so, sX0, sX1, sX2]), (sf, aI G 6 ff), (so, aI G 6 fo), (crosses, aI G 4 cr), (thought, aI G 8 ft), (trials, ob 9 [.int tc, .ref tsp, .ref twh, .ref tfi, .ref tse, .ref tgi, .ref tle, .ref tsc, .ref tbx, .ref tby]), (tsp, aI G 12 fsp), (twh, aZ G 12 fwh), (tfi, aI G 12 ffi), (tse, aI G 12 fse), (tgi, aI G 12 fgi), (tle, aI G 48 fle), (tsc, aI G 12 fsc2_1), (tbx, aI G 12 fbx2_2), (tby, aI G 12 fby2_3)]) rfl (by decide) ?_
                  exact ih21 ((BC rz_11), rz_11, (y_ + 1)) ⟨(by (try dsimp only); have ey1 : (y_ + 1).toInt = y_.toInt + 1 := (by clear hQ f36_12; exact tI_add rfl (show (1 : Int32).toInt = 1 from by decide) (by omega)); clear hQ f36_12; omega), (by (try dsimp only); have hk1 : (((((x_.toInt + 60) * 121 + (y_.toInt + 60)).toNat : Nat) : Int)) = (x_.toInt + 60) * 121 + (y_.toInt + 60) := (by clear hQ f36_12; omega); have hpx : x_ = PX ((x_.toInt + 60) * 121 + (y_.toInt + 60)).toNat := PX_of (by clear hQ f36_12; rw [hk1]; omega); have hpy : y_ = PY ((x_.toInt + 60) * 121 + (y_.toInt + 60)).toNat := PY_of (by clear hpx; clear hQ f36_12; rw [hk1]; omega); have ey1 : (y_ + 1).toInt = y_.toInt + 1 := (by clear hQ f36_12; exact tI_add rfl (show (1 : Int32).toInt = 1 from by decide) (by omega)); have hkn : ((x_.toInt + 60) * 121 + ((y_ + 1).toInt + 60)).toNat = ((x_.toInt + 60) * 121 + (y_.toInt + 60)).toNat + 1 := (by clear hpx hpy; clear hQ f36_12; omega); rw [hkn]; refine hQ.step (m := (BC rz_11).toInt) (Int.natCast_nonneg _) ?_ ?_; (rw [← hpx, ← hpy]; exact f36_12); (exact if_mn (by clear hpx hpy; clear hQ f36_12; omega)))⟩ (by (try dsimp only); have ey1 : (y_ + 1).toInt = y_.toInt + 1 := (by clear hQ f36_12; exact tI_add rfl (show (1 : Int32).toInt = 1 from by decide) (by omega)); clear hQ f36_12; omega)
      · exact ⟨(by (try dsimp only); have em : (-60 : Int32).toInt = -60 := (by decide); omega), (by (try dsimp only); have em : (-60 : Int32).toInt = -60 := (by decide); rw [em, show ((x_.toInt + 60) * 121 + (-60 + 60)).toNat = ((x_.toInt + 60) * 121).toNat by clear hR; omega]; exact hR)⟩
  · exact ⟨(by (try dsimp only); have em : (-60 : Int32).toInt = -60 := (by decide); omega), (by (try dsimp only); have em : (-60 : Int32).toInt = -60 := (by decide); rw [em, show (3 : Int32).toInt = 3 from by decide]; exact BrI.zero)⟩

