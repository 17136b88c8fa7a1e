/-! the least so far -/
section LWA
variable {σ τ : Type}
def LW (C : σ → Int) (m m' : Int) (T : σ → Prop) : Prop := m' ≤ m ∧ (∀ t, T t → m' ≤ C t) ∧ (m' = m ∨ ∃ t, T t ∧ m' = C t)
theorem LW.none {C : σ → Int} {m : Int} {T : σ → Prop} (h : ∀ t, ¬ T t) : LW C m m T := ⟨Int.le_refl _, fun t q => absurd q (h t), Or.inl rfl⟩
theorem LW.cg {C : σ → Int} {m m' : Int} {T T' : σ → Prop} (h : LW C m m' T) (e : ∀ t, T' t ↔ T t) : LW C m m' T' := ⟨h.1, fun t q => h.2.1 t ((e t).mp q), h.2.2.elim Or.inl (fun ⟨t, a, z⟩ => Or.inr ⟨t, (e t).mpr a, z⟩)⟩
theorem LW.trans {C : σ → Int} {m m1 m2 : Int} {T U : σ → Prop} (h : LW C m m1 T) (g : LW C m1 m2 U) : LW C m m2 (fun t => T t ∨ U t) := by
  obtain ⟨h1, h2, h3⟩ := h
  obtain ⟨g1, g2, g3⟩ := g
  refine ⟨Int.le_trans g1 h1, fun t q => q.elim (fun a => Int.le_trans g1 (h2 t a)) (g2 t), ?_⟩
  rcases g3 with e | ⟨t, a, e⟩
  · rcases h3 with e2 | ⟨t, a2, e2⟩
    · exact Or.inl (e.trans e2)
    · exact Or.inr ⟨t, Or.inl a2, e.trans e2⟩
  · exact Or.inr ⟨t, Or.inr a, e⟩
theorem LW.one {C : σ → Int} {m m' : Int} {s : σ} (h : m' = if C s < m then C s else m) : LW C m m' (fun t => t = s) := by
  by_cases c : C s < m
  · rw [if_pos c] at h
    exact ⟨by omega, fun t q => by rw [q]; omega, Or.inr ⟨s, rfl, h⟩⟩
  · rw [if_neg c] at h
    exact ⟨by omega, fun t q => by rw [q]; omega, Or.inl h⟩
def Least (C : σ → Int) (m : Int) (T : σ → Prop) : Prop := (∀ t, T t → m ≤ C t) ∧ ∃ t, T t ∧ m = C t
theorem Least.uniq {C : σ → Int} {D : τ → Int} {m m' : Int} {T : σ → Prop} {U : τ → Prop} (h : Least C m T) (h' : Least D m' U) (f : ∀ t, T t → ∃ u, U u ∧ D u = C t) (g : ∀ u, U u → ∃ t, T t ∧ C t = D u) : m = m' := by
  obtain ⟨h1, t, ht, e⟩ := h
  obtain ⟨h1', u, hu, e'⟩ := h'
  obtain ⟨u2, a, b⟩ := f t ht
  obtain ⟨t2, a2, b2⟩ := g u hu
  have p := h1' u2 a
  have q := h1 t2 a2
  omega
end LWA
def slC (P : Nat → Prop) [DecidablePred P] : Nat → Nat
  | 0 => 0
  | n + 1 => if P n then slC P n + 1 else slC P n
def slI (P : Nat → Prop) [DecidablePred P] : Nat → Nat → Nat
  | 0, _ => 0
  | n + 1, q => if P n ∧ q = slC P n then n else slI P n q
section SELS
variable {n q : Nat}
theorem slC_y {P : Nat → Prop} [DecidablePred P] (h : P n) : slC P (n + 1) = slC P n + 1 := if_pos h
theorem slC_n {P : Nat → Prop} [DecidablePred P] (h : ¬ P n) : slC P (n + 1) = slC P n := if_neg h
theorem slI_new {P : Nat → Prop} [DecidablePred P] (h : P n) : slI P (n + 1) (slC P n) = n := if_pos ⟨h, rfl⟩
theorem slI_old {P : Nat → Prop} [DecidablePred P] (h : q < slC P n) : slI P (n + 1) q = slI P n q := if_neg (fun z => by omega)
theorem slC_le {P : Nat → Prop} [DecidablePred P] : ∀ {n : Nat}, slC P n ≤ n
  | 0 => Nat.le_refl 0
  | n + 1 => by
    have ih := slC_le (P := P) (n := n)
    by_cases c : P n
    · rw [slC_y c]
      omega
    · rw [slC_n c]
      omega
theorem slI_lt {P : Nat → Prop} [DecidablePred P] : ∀ {n q : Nat}, q < slC P n → slI P n q < n ∧ P (slI P n q)
  | 0, q, h => absurd h (Nat.not_lt_zero q)
  | n + 1, q, h => by
    by_cases c : P n
    · by_cases e : q = slC P n
      · rw [e, slI_new c]
        exact ⟨Nat.lt_succ_self n, c⟩
      · rw [slC_y c] at h
        have ih := slI_lt (P := P) (n := n) (q := q) (by omega)
        rw [slI_old (by omega)]
        exact ⟨by omega, ih.2⟩
    · rw [slC_n c] at h
      have ih := slI_lt (P := P) (n := n) (q := q) h
      rw [slI_old h]
      exact ⟨by omega, ih.2⟩
end SELS
/-! all: sets of holes by their bits -/
def bt (x : Int32) (i : Nat) : Bool := x.toBitVec.getLsbD i
theorem bt_big {x : Int32} {i : Nat} (h : 32 ≤ i) : bt x i = false := BitVec.getLsbD_of_ge _ _ h
theorem bt_xor (x y : Int32) (i : Nat) : bt (x ^^^ y) i = (bt x i ^^ bt y i) := by
  unfold bt
  rw [Int32.toBitVec_xor, BitVec.getLsbD_xor]
theorem bt_and (x y : Int32) (i : Nat) : bt (x &&& y) i = (bt x i && bt y i) := by
  unfold bt
  rw [Int32.toBitVec_and, BitVec.getLsbD_and]
theorem bt_or (x y : Int32) (i : Nat) : bt (x ||| y) i = (bt x i || bt y i) := by
  unfold bt
  rw [Int32.toBitVec_or, BitVec.getLsbD_or]
theorem bt_0 (i : Nat) : bt 0 i = false := BitVec.getLsbD_zero
theorem bt_nat {x : Int32} (h : 0 ≤ x.toInt) : x.toBitVec.toNat = x.toInt.toNat := by
  have e : x.toInt = x.toBitVec.toInt := rfl
  rw [e, BitVec.toInt_eq_toNat_cond] at h ⊢
  split
  · exact (Int.toNat_natCast _).symm
  · rename_i c
    rw [if_neg c] at h
    have hl := x.toBitVec.isLt
    omega
theorem bt_tb {x : Int32} (h : 0 ≤ x.toInt) (i : Nat) : bt x i = x.toInt.toNat.testBit i := by
  rw [← bt_nat h]
  rfl
theorem if_mn {c m l : Int} (h : (c < m ∧ l = c) ∨ (¬ c < m ∧ l = m)) : l = if c < m then c else m := by
  rcases h with ⟨a, e⟩ | ⟨a, e⟩
  · rw [if_pos a]
    exact e
  · rw [if_neg a]
    exact e
theorem bt_of {k : Nat} (h : k < 2147483648) (i : Nat) : bt (Int32.ofNat k) i = k.testBit i := by
  have e : (Int32.ofNat k).toInt = (k : Int) := Int32.toInt_ofNat_of_lt h
  rw [bt_tb (by omega), e, Int.toNat_natCast]
theorem shl_chk : ∀ h, h < 16 → ∀ i, i < 32 → bt ((1 : Int32) <<< (Int32.ofNat h &&& 31)) i = decide (i = h) := by decide +kernel
theorem smod_chk : ∀ h, h < 16 → ((Int32.ofNat h &&& 31).toBitVec.smod 32).toNat = h := by decide +kernel
theorem pow_chk : ∀ m, m < 17 → ((1 : Int32) <<< (Int32.ofNat m &&& 31)).toInt = ((2 ^ m : Nat) : Int) ∧ 2 ^ m ≤ 65536 := by decide +kernel
theorem i32_ofN {h : Int32} (h0 : 0 ≤ h.toInt) : h = Int32.ofNat h.toInt.toNat := by
  have u := Int32.toInt_lt h
  exact Int32.toInt_inj.mp ((Int32.toInt_ofNat_of_lt (show h.toInt.toNat < 2147483648 by omega)).trans (by omega)).symm
theorem bt_shl {h : Int32} (h0 : 0 ≤ h.toInt ∧ h.toInt < 16) (i : Nat) : bt ((1 : Int32) <<< (h &&& 31)) i = decide (i = h.toInt.toNat) := by
  rcases Nat.lt_or_ge i 32 with c | c
  · have z := shl_chk h.toInt.toNat (by omega) i c
    rw [← i32_ofN h0.1] at z
    exact z
  · rw [bt_big c, decide_eq_false (by omega)]
theorem pow_l {m : Int32} (h0 : 0 ≤ m.toInt ∧ m.toInt ≤ 16) : ((1 : Int32) <<< (m &&& 31)).toInt = ((2 ^ m.toInt.toNat : Nat) : Int) ∧ 2 ^ m.toInt.toNat ≤ 65536 := by
  have z := pow_chk m.toInt.toNat (by omega)
  rw [← i32_ofN h0.1] at z
  exact z
/-- the bit at a place, as both sides ask it -/
theorem has_bt {b h : Int32} (h0 : 0 ≤ h.toInt ∧ h.toInt < 16) : ((b >>> (h &&& 31)) &&& 1).toInt = 1 ↔ bt b h.toInt.toNat = true := by
  have e0 : ((b >>> (h &&& 31)) &&& 1).toBitVec.toNat = (b >>> (h &&& 31)).toBitVec.toNat % 2 := by
    rw [Int32.toBitVec_and, BitVec.toNat_and]
    exact Nat.and_one_is_mod _
  have e1 : ((b >>> (h &&& 31)) &&& 1).toInt = (((b >>> (h &&& 31)) &&& 1).toBitVec.toNat : Int) := BitVec.toInt_eq_toNat_of_lt (by omega)
  have e2 : bt (b >>> (h &&& 31)) 0 = bt b h.toInt.toNat := by
    unfold bt
    rw [Int32.toBitVec_shiftRight]
    have z := smod_chk h.toInt.toNat (by omega)
    rw [← i32_ofN h0.1] at z
    show (b.toBitVec.sshiftRight ((h &&& 31).toBitVec.smod 32).toNat).getLsbD 0 = _
    rw [z, BitVec.getLsbD_sshiftRight, if_pos (show h.toInt.toNat + 0 < 32 by omega), Nat.add_zero]
    first | done | rfl | simp
  have e3 : bt (b >>> (h &&& 31)) 0 = decide ((b >>> (h &&& 31)).toBitVec.toNat % 2 = 1) := Nat.testBit_zero _
  rw [e1, e0, ← e2, e3, decide_eq_true_eq]
  constructor <;> intro q <;> omega
/-! the sum of a set's holes -/
def smA (A : Nat → Bool) (w : Int) (f : Nat → Int32) : Nat → Int
  | 0 => 0
  | n + 1 => smA A w f n + (if A n = true then w * (f n).toInt else 0)
def cSA (X Y w : Int) (fx fy : Nat → Int32) (n : Nat) (A : Nat → Bool) : Int := (X + smA A w fx n) * (X + smA A w fx n) + (Y + smA A w fy n) * (Y + smA A w fy n)
theorem smA_y {A : Nat → Bool} {w : Int} {f : Nat → Int32} {n : Nat} (h : A n = true) : smA A w f (n + 1) = smA A w f n + w * (f n).toInt := by
  show smA A w f n + (if A n = true then w * (f n).toInt else 0) = _
  rw [if_pos h]
theorem smA_n {A : Nat → Bool} {w : Int} {f : Nat → Int32} {n : Nat} (h : ¬ A n = true) : smA A w f (n + 1) = smA A w f n := by
  show smA A w f n + (if A n = true then w * (f n).toInt else 0) = _
  rw [if_neg h, Int.add_zero]
theorem smA_congr {A B : Nat → Bool} {w : Int} {f g : Nat → Int32} : ∀ {n : Nat}, (∀ j, j < n → A j = B j ∧ f j = g j) → smA A w f n = smA B w g n
  | 0, _ => rfl
  | n + 1, h => by
    have ih := smA_congr (w := w) (n := n) (fun j hj => h j (Nat.lt_succ_of_lt hj))
    obtain ⟨a, b⟩ := h n (Nat.lt_succ_self n)
    by_cases c : A n = true
    · rw [smA_y c, smA_y (a ▸ c), ih, b]
    · rw [smA_n c, smA_n (a ▸ c), ih]
theorem smA_none {A : Nat → Bool} {w : Int} {f : Nat → Int32} : ∀ {n : Nat}, (∀ j, j < n → A j = false) → smA A w f n = 0
  | 0, _ => rfl
  | n + 1, h => by
    have ih := smA_none (w := w) (f := f) (n := n) (fun j hj => h j (Nat.lt_succ_of_lt hj))
    have a := h n (Nat.lt_succ_self n)
    rw [smA_n (by rw [a]; decide), ih]
theorem smA_b {A : Nat → Bool} {w : Int} {f : Nat → Int32} (hw : -9 ≤ w ∧ w ≤ 9) : ∀ {n : Nat}, (∀ j, j < n → -99 ≤ (f j).toInt ∧ (f j).toInt ≤ 99) → -(891 * (n : Int)) ≤ smA A w f n ∧ smA A w f n ≤ 891 * (n : Int)
  | 0, _ => by
    show -(891 * ((0 : Nat) : Int)) ≤ (0 : Int) ∧ (0 : Int) ≤ 891 * ((0 : Nat) : Int)
    omega
  | n + 1, h => by
    have ih := smA_b (A := A) (f := f) hw (n := n) (fun j hj => h j (Nat.lt_succ_of_lt hj))
    have m := mul_b hw (h n (Nat.lt_succ_self n))
    by_cases c : A n = true
    · rw [smA_y c]
      omega
    · rw [smA_n c]
      omega
theorem smA_flip {A B : Nat → Bool} {w : Int} {f : Nat → Int32} {h : Nat} (e : ∀ j, j ≠ h → B j = A j) (eh : B h = !A h) : ∀ {n : Nat}, h < n → smA B w f n = smA A w f n + (if B h = true then w else -w) * (f h).toInt
  | 0, hh => absurd hh (Nat.not_lt_zero h)
  | n + 1, hh => by
    by_cases c : h = n
    · subst c
      have z : smA B w f h = smA A w f h := smA_congr (fun j hj => ⟨e j (by omega), rfl⟩)
      by_cases d : B h = true
      · have d2 : ¬ A h = true := fun q => by
          rw [q] at eh
          rw [eh] at d
          exact absurd d (by decide)
        rw [smA_y d, smA_n d2, if_pos d, z]
      · have d2 : A h = true := by
          cases q : A h with
          | true => rfl
          | false =>
            rw [q] at eh
            exact absurd eh d
        rw [smA_n d, smA_y d2, if_neg d, z, Int.neg_mul]
        omega
    · have ih := smA_flip (w := w) (f := f) e eh (n := n) (by omega)
      have en := e n (fun q => c q.symm)
      by_cases d : A n = true
      · rw [smA_y (en.trans d), smA_y d, ih]
        omega
      · rw [smA_n (by rw [en]; exact d), smA_n d, ih]
theorem cSA_congr {A B : Nat → Bool} {X Y w : Int} {fx fy gx gy : Nat → Int32} {n : Nat} (h : ∀ j, j < n → A j = B j ∧ fx j = gx j ∧ fy j = gy j) : cSA X Y w fx fy n A = cSA X Y w gx gy n B := by
  unfold cSA
  rw [smA_congr (fun j hj => ⟨(h j hj).1, (h j hj).2.1⟩), smA_congr (f := fy) (fun j hj => ⟨(h j hj).1, (h j hj).2.2⟩)]
/-! the order in which the class tries the sets: each differs from the one before by one place -/
def gq (k q : Nat) : Bool := (k.testBit q ^^ k.testBit (q + 1))
theorem gq_0 (q : Nat) : gq 0 q = false := by
  unfold gq
  rw [Nat.zero_testBit, Nat.zero_testBit]
  rfl
theorem gq_step {k t c : Nat} (h : k + 1 = 2 ^ t * (2 * c + 1)) (q : Nat) : gq (k + 1) q = if q = t then !gq k q else gq k q := by
  have p : 0 < 2 ^ t := Nat.two_pow_pos t
  have e1 : ∀ j, (k + 1).testBit j = if j < t then false else (2 * c + 1).testBit (j - t) := fun j => by
    have z := Nat.testBit_two_pow_mul_add (2 * c + 1) (b := 0) (i := t) p j
    rw [Nat.add_zero, ← h, Nat.zero_testBit] at z
    exact z
  have hk : k = 2 ^ t * (2 * c) + (2 ^ t - 1) := by
    have z : 2 ^ t * (2 * c + 1) = 2 ^ t * (2 * c) + 2 ^ t := Nat.mul_succ _ _
    omega
  have e2 : ∀ j, k.testBit j = if j < t then true else (2 * c).testBit (j - t) := fun j => by
    have z := Nat.testBit_two_pow_mul_add (2 * c) (b := 2 ^ t - 1) (i := t) (by omega) j
    rw [← hk, Nat.testBit_two_pow_sub_one] at z
    rw [z]
    by_cases d : j < t
    · rw [if_pos d, if_pos d, decide_eq_true d]
    · rw [if_neg d, if_neg d]
  have o0 : (2 * c + 1).testBit 0 = true := by
    rw [Nat.testBit_zero, decide_eq_true (by omega)]
  have o1 : (2 * c).testBit 0 = false := by
    rw [Nat.testBit_zero, decide_eq_false (by omega)]
  have os : ∀ j, (2 * c + 1).testBit (j + 1) = (2 * c).testBit (j + 1) := fun j => by
    rw [Nat.testBit_add_one, Nat.testBit_add_one, show (2 * c + 1) / 2 = c by omega, show 2 * c / 2 = c by omega]
  unfold gq
  rw [e1, e1, e2, e2]
  rcases (by omega : q + 1 < t ∨ q + 1 = t ∨ q = t ∨ t < q) with d | d | d | d
  · rw [if_pos (show q < t by omega), if_pos d, if_pos (show q < t by omega), if_pos d, if_neg (show ¬ q = t by omega)]
    rfl
  · rw [if_pos (show q < t by omega), if_neg (show ¬ q + 1 < t by omega), if_pos (show q < t by omega), if_neg (show ¬ q + 1 < t by omega), if_neg (show ¬ q = t by omega), show q + 1 - t = 0 by omega, o0, o1]
    rfl
  · subst d
    rw [if_neg (Nat.lt_irrefl q), if_neg (show ¬ q + 1 < q by omega), if_neg (Nat.lt_irrefl q), if_neg (show ¬ q + 1 < q by omega), if_pos rfl, Nat.sub_self, show q + 1 - q = 0 + 1 by omega, o0, o1, os]
    cases (2 * c).testBit (0 + 1) <;> rfl
  · obtain ⟨r, hr⟩ : ∃ r, q - t = r + 1 := ⟨q - t - 1, by omega⟩
    rw [if_neg (show ¬ q < t by omega), if_neg (show ¬ q + 1 < t by omega), if_neg (show ¬ q < t by omega), if_neg (show ¬ q + 1 < t by omega), if_neg (show ¬ q = t by omega), show q + 1 - t = (r + 1) + 1 by omega, hr, os, os]
theorem gq_onto : ∀ (m : Nat) (f : Nat → Bool), ∃ k, k < 2 ^ m ∧ ∀ q, q < m → gq k q = f q
  | 0, _ => ⟨0, by decide, fun q h => absurd h (Nat.not_lt_zero q)⟩
  | m + 1, f => by
    obtain ⟨k, hk, e⟩ := gq_onto m (fun q => f (q + 1))
    obtain ⟨b, hb⟩ : ∃ b : Bool, b = (f 0 ^^ k.testBit 0) := ⟨_, rfl⟩
    have hp : 2 ^ (m + 1) = 2 ^ m * 2 := Nat.pow_succ 2 m
    have hbn : b.toNat ≤ 1 := by cases b <;> decide
    refine ⟨2 * k + b.toNat, by omega, fun q hq => ?_⟩
    have d2 : (2 * k + b.toNat) / 2 = k := by omega
    have z0 : (2 * k + b.toNat).testBit 0 = b := by
      rw [Nat.testBit_zero]
      cases b with
      | true => exact decide_eq_true (by show (2 * k + 1) % 2 = 1; omega)
      | false => exact decide_eq_false (by show ¬ (2 * k + 0) % 2 = 1; omega)
    have zs : ∀ j, (2 * k + b.toNat).testBit (j + 1) = k.testBit j := fun j => by rw [Nat.testBit_add_one, d2]
    unfold gq
    cases q with
    | zero =>
      rw [z0, zs, hb]
      cases f 0 <;> cases k.testBit 0 <;> rfl
    | succ q =>
      rw [zs, zs]
      exact e q (by omega)
/-! the lowest bit -/
theorem lowm_chk : (List.range 256).all (fun a => (List.range 256).all (fun b => Nat.beq (256 * a + b) 0 || Nat.beq ((256 * a + b) % (2 * Nat.land (256 * a + b) (4294967296 - (256 * a + b)))) (Nat.land (256 * a + b) (4294967296 - (256 * a + b))))) = true := by decide +kernel
theorem lowm_nat {n : Nat} (h0 : n ≠ 0) (h1 : n < 65536) : n % (2 * (n &&& (4294967296 - n))) = (n &&& (4294967296 - n)) := by
  have h2 := List.all_eq_true.mp lowm_chk (n / 256) (List.mem_range.mpr (by omega))
  have h3 := List.all_eq_true.mp h2 (n % 256) (List.mem_range.mpr (by omega))
  have e : 256 * (n / 256) + n % 256 = n := by omega
  rw [e] at h3
  rcases Bool.or_eq_true _ _ |>.mp h3 with h | h
  · exact absurd (Nat.eq_of_beq_eq_true h) h0
  · exact Nat.eq_of_beq_eq_true h
theorem pwt_chk : pws.all (fun p => (List.range 16).any (fun t => Nat.beq p (2 ^ t))) = true := by decide +kernel
theorem bct_chk : ∀ t, t < 16 → BC (Int32.ofNat (2 ^ t) - 1) = Int32.ofNat t := by decide +kernel
theorem low_ex {w : Int32} (h0 : 1 ≤ w.toInt) (h1 : w.toInt ≤ 65535) : ∃ t c : Nat, t < 16 ∧ w.toInt.toNat = 2 ^ t * (2 * c + 1) ∧ (BC ((w &&& -w) - 1)).toInt = (t : Int) := by
  have e0 := bt_nat (x := w) (by omega)
  have n0 : w.toInt.toNat ≠ 0 := by omega
  have n1 : w.toInt.toNat < 65536 := by omega
  have hm := low_nat n0 n1
  have hq := lowm_nat n0 n1
  have e1 : (w &&& -w).toBitVec.toNat = w.toInt.toNat &&& (4294967296 - w.toInt.toNat) := by
    rw [Int32.toBitVec_and, BitVec.toNat_and, Int32.toBitVec_neg, BitVec.toNat_neg, e0]
    congr 1
    exact Nat.mod_eq_of_lt (by show 4294967296 - _ < 4294967296; omega)
  have h3 := List.all_eq_true.mp pwt_chk _ hm
  obtain ⟨t, ht, e2⟩ := List.any_eq_true.mp h3
  have ht := List.mem_range.mp ht
  have e2 : (w.toInt.toNat &&& (4294967296 - w.toInt.toNat)) = 2 ^ t := Nat.eq_of_beq_eq_true e2
  rw [e2] at hq e1
  have e3 : w &&& -w = Int32.ofNat (2 ^ t) := by
    apply Int32.toBitVec_inj.mp
    apply BitVec.eq_of_toNat_eq
    rw [e1]
    show _ = (BitVec.ofNat 32 _).toNat
    rw [BitVec.toNat_ofNat]
    refine (Nat.mod_eq_of_lt ?_).symm
    have z : 2 ^ t ≤ 2 ^ 16 := Nat.pow_le_pow_right (by decide) (by omega)
    have z2 : (2 : Nat) ^ 16 = 65536 := by decide
    show 2 ^ t < 4294967296
    omega
  have p : 0 < 2 ^ t := Nat.two_pow_pos t
  refine ⟨t, w.toInt.toNat / (2 * 2 ^ t), ht, ?_, ?_⟩
  · have z := Nat.div_add_mod w.toInt.toNat (2 * 2 ^ t)
    rw [hq] at z
    have z2 : 2 ^ t * (2 * (w.toInt.toNat / (2 * 2 ^ t)) + 1) = 2 * 2 ^ t * (w.toInt.toNat / (2 * 2 ^ t)) + 2 ^ t := by
      rw [Nat.mul_add, Nat.mul_one, ← Nat.mul_assoc, Nat.mul_comm (2 ^ t) 2]
    rw [z2]
    exact z.symm
  · rw [e3, bct_chk t ht]
    exact Int32.toInt_ofNat_of_lt (by omega)
/-! the places of the holes that are taken -/
section SELP
variable {n : Nat}
theorem slC_mono {P : Nat → Prop} [DecidablePred P] {a : Nat} : ∀ {b : Nat}, a ≤ b → slC P a ≤ slC P b
  | 0, h => by
    obtain rfl : a = 0 := by omega
    exact Nat.le_refl _
  | b + 1, h => by
    by_cases c : a = b + 1
    · subst c
      exact Nat.le_refl _
    · have ih := slC_mono (P := P) (a := a) (b := b) (by omega)
      by_cases d : P b
      · rw [slC_y d]
        omega
      · rw [slC_n d]
        exact ih
theorem slC_lt {P : Nat → Prop} [DecidablePred P] {h : Nat} (p : P h) (hh : h < n) : slC P h < slC P n := by
  have z := slC_mono (P := P) (a := h + 1) (b := n) (by omega)
  rw [slC_y p] at z
  omega
theorem slI_at {P : Nat → Prop} [DecidablePred P] {h : Nat} (p : P h) : ∀ {n : Nat}, h < n → slI P n (slC P h) = h
  | 0, hh => absurd hh (Nat.not_lt_zero h)
  | n + 1, hh => by
    by_cases c : h = n
    · subst c
      exact slI_new p
    · have ih := slI_at p (n := n) (by omega)
      rw [slI_old (slC_lt p (by omega))]
      exact ih
theorem slC_slI {P : Nat → Prop} [DecidablePred P] : ∀ {n q : Nat}, q < slC P n → slC P (slI P n q) = q
  | 0, q, h => absurd h (Nat.not_lt_zero q)
  | n + 1, q, h => by
    by_cases c : P n
    · by_cases e : q = slC P n
      · rw [e, slI_new c]
      · rw [slC_y c] at h
        rw [slI_old (by omega)]
        exact slC_slI (by omega)
    · rw [slC_n c] at h
      rw [slI_old h]
      exact slC_slI h
end SELP
abbrev SbA (P : Nat → Prop) (n : Nat) (A : Nat → Bool) : Prop := ∀ h, A h = true → h < n ∧ P h
/-- the k-th set of the class -/
def GA (P : Nat → Prop) [DecidablePred P] (n k h : Nat) : Bool := decide (h < n ∧ P h) && gq k (slC P h)
section GAS
variable {n k t c h : Nat}
theorem GA_0 {P : Nat → Prop} [DecidablePred P] : GA P n 0 h = false := by
  unfold GA
  rw [gq_0, Bool.and_false]
theorem GA_sub {P : Nat → Prop} [DecidablePred P] : SbA P n (GA P n k) := fun h e => by
  unfold GA at e
  exact of_decide_eq_true ((Bool.and_eq_true _ _).mp e).1
theorem GA_step {P : Nat → Prop} [DecidablePred P] (hk : k + 1 = 2 ^ t * (2 * c + 1)) (ht : t < slC P n) (h : Nat) : GA P n (k + 1) h = if h = slI P n t then !GA P n k h else GA P n k h := by
  unfold GA
  rw [gq_step hk]
  obtain ⟨i1, i2⟩ := slI_lt ht
  by_cases d : h = slI P n t
  · subst d
    rw [if_pos (slC_slI ht), if_pos rfl, decide_eq_true (show slI P n t < n ∧ P (slI P n t) from ⟨i1, i2⟩)]
    first | done | rfl
  · rw [if_neg d]
    by_cases e : h < n ∧ P h
    · rw [if_neg (fun q => d (by rw [← q]; exact (slI_at e.2 e.1).symm))]
    · rw [decide_eq_false e]
      first | done | rfl
theorem GA_onto {P : Nat → Prop} [DecidablePred P] {A : Nat → Bool} (hA : SbA P n A) : ∃ k, k < 2 ^ slC P n ∧ ∀ h, h < n → GA P n k h = A h := by
  obtain ⟨k, hk, e⟩ := gq_onto (slC P n) (fun q => A (slI P n q))
  refine ⟨k, hk, fun h hh => ?_⟩
  unfold GA
  by_cases p : P h
  · have e2 : gq k (slC P h) = A (slI P n (slC P h)) := e _ (slC_lt p hh)
    rw [decide_eq_true (show h < n ∧ P h from ⟨hh, p⟩), e2, slI_at p hh]
    first | done | rfl
  · rw [decide_eq_false (show ¬ (h < n ∧ P h) from fun q => p q.2)]
    cases d : A h with
    | true => exact absurd (hA h d).2 p
    | false => rfl
end GAS
/-- the class's loop -/
def GT (P : Nat → Prop) [DecidablePred P] (n k : Nat) (A : Nat → Bool) : Prop := ∃ j, (1 ≤ j ∧ j ≤ k) ∧ A = GA P n j
section GTS
variable {n k : Nat}
theorem GT.start {P : Nat → Prop} [DecidablePred P] {C : (Nat → Bool) → Int} {m : Int} : LW C m m (GT P n 0) := LW.none (fun t ⟨j, ⟨a, b⟩, _⟩ => by omega)
theorem GT.step {P : Nat → Prop} [DecidablePred P] {C : (Nat → Bool) → Int} {m m1 m2 : Int} (g : LW C m m1 (GT P n k)) (h : m2 = if C (GA P n (k + 1)) < m1 then C (GA P n (k + 1)) else m1) : LW C m m2 (GT P n (k + 1)) := (g.trans (LW.one h)).cg (fun t => by
  unfold GT
  constructor
  · rintro ⟨j, ⟨a, b⟩, e⟩
    by_cases d : j = k + 1
    · subst d
      exact Or.inr e
    · exact Or.inl ⟨j, ⟨a, by omega⟩, e⟩
  · rintro (⟨j, ⟨a, b⟩, e⟩ | e)
    · exact ⟨j, ⟨a, by omega⟩, e⟩
    · exact ⟨k + 1, ⟨by omega, Nat.le_refl _⟩, e⟩)
theorem GT.end_ {P : Nat → Prop} [DecidablePred P] {X Y w : Int} {fx fy : Nat → Int32} {m : Int} (hk : k + 1 = 2 ^ slC P n) (g : LW (cSA X Y w fx fy n) (X * X + Y * Y) m (GT P n k)) : Least (cSA X Y w fx fy n) m (SbA P n) := by
  have z0 : cSA X Y w fx fy n (GA P n 0) = X * X + Y * Y := by
    unfold cSA
    rw [smA_none (fun j _ => GA_0), smA_none (fun j _ => GA_0), Int.add_zero, Int.add_zero]
  obtain ⟨h1, h2, h3⟩ := g
  refine ⟨fun A hA => ?_, ?_⟩
  · obtain ⟨j, hj, e⟩ := GA_onto hA
    have q := cSA_congr (A := GA P n j) (B := A) (X := X) (Y := Y) (w := w) (fx := fx) (fy := fy) (gx := fx) (gy := fy) (n := n) (fun h hh => ⟨e h hh, rfl, rfl⟩)
    rw [← q]
    by_cases d : j = 0
    · rw [d, z0]
      exact h1
    · exact h2 _ ⟨j, ⟨by omega, by omega⟩, rfl⟩
  · rcases h3 with e | ⟨A, ⟨j, _, e1⟩, e2⟩
    · exact ⟨GA P n 0, GA_sub, e.trans z0.symm⟩
    · exact ⟨A, by rw [e1]; exact GA_sub, e2⟩
end GTS
/-! the reference: every number up to the greatest set -/
abbrev sbN (may j : Int32) : Prop := (j &&& (may ^^^ (-1))).toInt = 0
theorem bt_m1 : ∀ i, i < 32 → bt (-1) i = true := by decide +kernel
theorem sbN_bt {may j : Int32} : sbN may j ↔ ∀ i, bt j i = true → bt may i = true := by
  constructor
  · intro h i hi
    have z : j &&& (may ^^^ (-1)) = 0 := Int32.toInt_inj.mp (h.trans (by decide))
    have b := congrArg (fun q => bt q i) z
    have b : bt (j &&& (may ^^^ (-1))) i = bt 0 i := b
    rcases Nat.lt_or_ge i 32 with c | c
    · rw [bt_and, bt_xor, bt_m1 i c, hi, bt_0] at b
      cases d : bt may i with
      | true => rfl
      | false =>
        rw [d] at b
        exact absurd b (by decide)
    · rw [bt_big c] at hi
      exact absurd hi (by decide)
  · intro h
    have z : j &&& (may ^^^ (-1)) = 0 := by
      apply Int32.toBitVec_inj.mp
      apply BitVec.eq_of_getLsbD_eq
      intro i hi
      show bt (j &&& (may ^^^ (-1))) i = bt 0 i
      rw [bt_and, bt_xor, bt_m1 i hi, bt_0]
      cases d : bt j i with
      | true =>
        rw [h i d]
        first | done | rfl
      | false => rfl
    exact (congrArg Int32.toInt z).trans (by decide)
def ST (may : Int32) (s : Int) (A : Nat → Bool) : Prop := ∃ j : Int32, (1 ≤ j.toInt ∧ j.toInt < s) ∧ sbN may j ∧ A = bt j
theorem ST.start {C : (Nat → Bool) → Int} {m : Int} {may : Int32} : LW C m m (ST may 1) := LW.none (fun t ⟨j, ⟨a, b⟩, _⟩ => by omega)
theorem ST.skip {C : (Nat → Bool) → Int} {m m1 : Int} {may s : Int32} (g : LW C m m1 (ST may s.toInt)) (h : ¬ sbN may s) : LW C m m1 (ST may (s.toInt + 1)) := g.cg (fun t => by
  unfold ST
  constructor
  · rintro ⟨j, ⟨a, b⟩, c, e⟩
    by_cases d : j.toInt = s.toInt
    · rw [Int32.toInt_inj.mp d] at c
      exact absurd c h
    · exact ⟨j, ⟨a, by omega⟩, c, e⟩
  · rintro ⟨j, ⟨a, b⟩, c, e⟩
    exact ⟨j, ⟨a, by omega⟩, c, e⟩)
theorem ST.step {C : (Nat → Bool) → Int} {m m1 m2 : Int} {may s : Int32} (hs : 1 ≤ s.toInt) (g : LW C m m1 (ST may s.toInt)) (hb : sbN may s) (h : m2 = if C (bt s) < m1 then C (bt s) else m1) : LW C m m2 (ST may (s.toInt + 1)) := (g.trans (LW.one h)).cg (fun t => by
  unfold ST
  constructor
  · rintro ⟨j, ⟨a, b⟩, c, e⟩
    by_cases d : j.toInt = s.toInt
    · rw [Int32.toInt_inj.mp d] at e
      exact Or.inr e
    · exact Or.inl ⟨j, ⟨a, by omega⟩, c, e⟩
  · rintro (⟨j, ⟨a, b⟩, c, e⟩ | e)
    · exact ⟨j, ⟨a, by omega⟩, c, e⟩
    · exact ⟨s, ⟨hs, by omega⟩, hb, e⟩)
/-- the number of a set -/
def mkS (A : Nat → Bool) : Nat → Nat
  | 0 => 0
  | n + 1 => 2 ^ n * (A n).toNat + mkS A n
theorem mkS_lt {A : Nat → Bool} : ∀ {n : Nat}, mkS A n < 2 ^ n
  | 0 => (show (0 : Nat) < 2 ^ 0 from by decide)
  | n + 1 => by
    have ih := mkS_lt (A := A) (n := n)
    have hp : 2 ^ (n + 1) = 2 ^ n * 2 := Nat.pow_succ 2 n
    show 2 ^ n * (A n).toNat + mkS A n < 2 ^ (n + 1)
    cases A n with
    | true =>
      show 2 ^ n * 1 + mkS A n < 2 ^ (n + 1)
      omega
    | false =>
      show 2 ^ n * 0 + mkS A n < 2 ^ (n + 1)
      omega
theorem mkS_tb {A : Nat → Bool} : ∀ {n : Nat} (h : Nat), (mkS A n).testBit h = (decide (h < n) && A h)
  | 0, h => by
    show (0 : Nat).testBit h = _
    rw [Nat.zero_testBit, decide_eq_false (Nat.not_lt_zero h)]
    rfl
  | n + 1, h => by
    have ih := mkS_tb (A := A) (n := n) h
    have z := Nat.testBit_two_pow_mul_add (A n).toNat (mkS_lt (A := A) (n := n)) h
    show (2 ^ n * (A n).toNat + mkS A n).testBit h = _
    rw [z]
    by_cases c : h < n
    · rw [if_pos c, ih, decide_eq_true c, decide_eq_true (show h < n + 1 by omega)]
    · rw [if_neg c, Nat.testBit_bool_toNat]
      by_cases d : h = n
      · rw [d, Nat.sub_self, decide_eq_true (Nat.lt_succ_self n)]
        first | done | rfl
      · rw [decide_eq_false (show ¬ h - n = 0 by omega), decide_eq_false (show ¬ h < n + 1 by omega)]
        first | done | rfl
theorem ST.end_ {P : Nat → Prop} [DecidablePred P] {X Y w : Int} {fx fy : Nat → Int32} {m : Int} {n : Nat} {may s : Int32} (hn : n ≤ 16) (hm : ∀ h, bt may h = decide (h < n ∧ P h)) (hm0 : 0 ≤ may.toInt) (hs : may.toInt < s.toInt) (hs2 : s.toInt ≤ may.toInt + 1) (g : LW (cSA X Y w fx fy n) (X * X + Y * Y) m (ST may s.toInt)) : Least (cSA X Y w fx fy n) m (SbA P n) := by
  have z0 : ∀ A : Nat → Bool, (∀ j, j < n → A j = false) → cSA X Y w fx fy n A = X * X + Y * Y := fun A hA => by
    unfold cSA
    rw [smA_none hA, smA_none hA, Int.add_zero, Int.add_zero]
  obtain ⟨h1, h2, h3⟩ := g
  refine ⟨fun A hA => ?_, ?_⟩
  · have ht : ∀ h, (mkS A n).testBit h = A h := fun h => by
      rw [mkS_tb]
      cases d : A h with
      | true =>
        rw [decide_eq_true (hA h d).1]
        first | done | rfl
      | false => rw [Bool.and_false]
    have lt := mkS_lt (A := A) (n := n)
    have l2 : 2 ^ n ≤ 2 ^ 16 := Nat.pow_le_pow_right (by decide) hn
    have l3 : (2 : Nat) ^ 16 = 65536 := by decide
    have e1 : (Int32.ofNat (mkS A n)).toInt = (mkS A n : Int) := Int32.toInt_ofNat_of_lt (by omega)
    have eb : ∀ h, bt (Int32.ofNat (mkS A n)) h = A h := fun h => by rw [bt_of (by omega), ht]
    have sb : sbN may (Int32.ofNat (mkS A n)) := sbN_bt.mpr (fun i hi => by rw [eb] at hi; rw [hm, decide_eq_true (hA i hi)])
    by_cases d : mkS A n = 0
    · rw [z0 A (fun j _ => by rw [← ht, d, Nat.zero_testBit])]
      exact h1
    · have le : mkS A n ≤ may.toInt.toNat := by
        have z : mkS A n &&& may.toInt.toNat = mkS A n := by
          apply Nat.eq_of_testBit_eq
          intro i
          rw [Nat.testBit_and, ht, ← bt_tb hm0, hm]
          cases d2 : A i with
          | true =>
            rw [decide_eq_true (hA i d2)]
            first | done | rfl
          | false => rfl
        rw [← z]
        exact Nat.and_le_right
      have q := h2 _ ⟨Int32.ofNat (mkS A n), ⟨by omega, by omega⟩, sb, rfl⟩
      have q2 := cSA_congr (A := bt (Int32.ofNat (mkS A n))) (B := A) (X := X) (Y := Y) (w := w) (fx := fx) (fy := fy) (gx := fx) (gy := fy) (n := n) (fun h _ => ⟨eb h, rfl, rfl⟩)
      rw [← q2]
      exact q
  · rcases h3 with e | ⟨A, ⟨j, _, sb, e1⟩, e2⟩
    · exact ⟨fun _ => false, fun h q => absurd (show false = true from q) (by decide), e.trans (z0 _ (fun _ _ => rfl)).symm⟩
    · refine ⟨A, fun h q => ?_, e2⟩
      rw [e1] at q
      have z := sbN_bt.mp sb h q
      rw [hm] at z
      exact of_decide_eq_true z
/-- what both sides answer -/
def AlE (ok : Prop) (P : Nat → Prop) (X Y w : Int) (fx fy : Nat → Int32) (n : Nat) (v : Int64) : Prop := (¬ ok ∧ v = -1) ∨ (ok ∧ Least (cSA X Y w fx fy n) v.toInt (SbA P n))
theorem AlE.same {ok : Prop} {P P' : Nat → Prop} {X Y X' Y' w : Int} {fx fy gx gy : Nat → Int32} {n : Nat} {v v' : Int64} (h : ok → (∀ j, j < n → (P j ↔ P' j)) ∧ X = X' ∧ Y = Y' ∧ ∀ j, j < n → fx j = gx j ∧ fy j = gy j) (A : AlE ok P X Y w fx fy n v) (B : AlE ok P' X' Y' w gx gy n v') : v = v' := by
  rcases A with ⟨a0, a1⟩ | ⟨a0, a1⟩
  · rcases B with ⟨b0, b1⟩ | ⟨b0, b1⟩
    · exact a1.trans b1.symm
    · exact absurd b0 a0
  · rcases B with ⟨b0, b1⟩ | ⟨b0, b1⟩
    · exact absurd a0 b0
    · obtain ⟨h1, h2, h3, h4⟩ := h a0
      subst h2
      subst h3
      refine Int64.toInt_inj.mp (a1.uniq b1 (fun t ht => ⟨t, fun j hj => ⟨(ht j hj).1, (h1 j (ht j hj).1).mp (ht j hj).2⟩, ?_⟩) (fun t ht => ⟨t, fun j hj => ⟨(ht j hj).1, (h1 j (ht j hj).1).mpr (ht j hj).2⟩, ?_⟩))
      · exact cSA_congr (fun j hj => ⟨rfl, (h4 j hj).1.symm, (h4 j hj).2.symm⟩)
      · exact cSA_congr (fun j hj => ⟨rfl, (h4 j hj).1, (h4 j hj).2⟩)
/-- the greatest set -/
def MyB (P : Nat → Prop) [DecidablePred P] (may : Int32) (n : Nat) : Prop := ∀ h, bt may h = decide (h < n ∧ P h)
theorem MyB.zero {P : Nat → Prop} [DecidablePred P] : MyB P 0 0 := fun h => by rw [bt_0, decide_eq_false (fun q => absurd q.1 (Nat.not_lt_zero h))]
theorem i32_or0 {a : Int32} : a ||| 0 = a := by
  apply Int32.toBitVec_inj.mp
  apply BitVec.eq_of_getLsbD_eq
  intro i hi
  show bt (a ||| 0) i = bt a i
  rw [bt_or, bt_0, Bool.or_false]
theorem MyB.no {P : Nat → Prop} [DecidablePred P] {may : Int32} {n : Nat} (h : MyB P may n) (c : ¬ P n) : MyB P (may ||| 0) (n + 1) := fun j => by
  rw [i32_or0, h j]
  by_cases d : j < n ∧ P j
  · rw [decide_eq_true d, decide_eq_true (show j < n + 1 ∧ P j from ⟨Nat.lt_succ_of_lt d.1, d.2⟩)]
  · rw [decide_eq_false d, decide_eq_false (show ¬ (j < n + 1 ∧ P j) from fun q => by
      obtain ⟨q1, q2⟩ := q
      by_cases e : j = n
      · rw [e] at q2
        exact c q2
      · exact d ⟨by omega, q2⟩)]
theorem MyB.yes {P : Nat → Prop} [DecidablePred P] {may i : Int32} {n : Nat} (h : MyB P may n) (c : P n) (hi : 0 ≤ i.toInt ∧ i.toInt < 16) (e : i.toInt.toNat = n) : MyB P (may ||| ((1 : Int32) <<< (i &&& 31))) (n + 1) := fun j => by
  rw [bt_or, h j, bt_shl hi, e]
  by_cases d : j = n
  · rw [d, decide_eq_true (show n = n from rfl), Bool.or_true, decide_eq_true (show n < n + 1 ∧ P n from ⟨Nat.lt_succ_self n, c⟩)]
  · rw [decide_eq_false d, Bool.or_false]
    by_cases f : j < n ∧ P j
    · rw [decide_eq_true f, decide_eq_true (show j < n + 1 ∧ P j from ⟨Nat.lt_succ_of_lt f.1, f.2⟩)]
    · rw [decide_eq_false f, decide_eq_false (show ¬ (j < n + 1 ∧ P j) from fun q => f ⟨by have q1 := q.1; omega, q.2⟩)]
theorem MyB.pos {P : Nat → Prop} [DecidablePred P] {may : Int32} {n : Nat} (h : MyB P may n) (hn : n ≤ 16) : 0 ≤ may.toInt ∧ may.toInt < 65536 := by
  have lt : may.toBitVec.toNat < 2 ^ 16 := by
    refine Nat.lt_of_not_le (fun q => ?_)
    have e : may.toBitVec.toNat &&& (2 ^ 16 - 1) = may.toBitVec.toNat := by
      apply Nat.eq_of_testBit_eq
      intro i
      rw [Nat.testBit_and, Nat.testBit_two_pow_sub_one]
      have z : may.toBitVec.toNat.testBit i = decide (i < n ∧ P i) := h i
      rw [z]
      by_cases c : i < n ∧ P i
      · rw [decide_eq_true c, decide_eq_true (show i < 16 from Nat.lt_of_lt_of_le c.1 hn)]
        first | done | rfl
      · rw [decide_eq_false c]
        first | done | rfl
    have l : may.toBitVec.toNat &&& (2 ^ 16 - 1) ≤ 2 ^ 16 - 1 := Nat.and_le_right
    rw [e] at l
    have l3 : (2 : Nat) ^ 16 = 65536 := by decide
    omega
  have l3 : (2 : Nat) ^ 16 = 65536 := by decide
  have e : may.toInt = (may.toBitVec.toNat : Int) := BitVec.toInt_eq_toNat_of_lt (by omega)
  rw [e]
  omega
/-! the sums as both sides make them -/
theorem smA_i {x m f : Int32} {X a : Int} (hx : x.toInt = X + a) (hX : -100000 ≤ X ∧ X ≤ 100000) (ha : -15000 ≤ a ∧ a ≤ 15000) (hm : -9 ≤ m.toInt ∧ m.toInt ≤ 9) (hf : -99 ≤ f.toInt ∧ f.toInt ≤ 99) : (x + m * f).toInt = X + (a + m.toInt * f.toInt) := by
  have b := mul_b hm hf
  have e1 : (m * f).toInt = m.toInt * f.toInt := tI_mul rfl rfl (by omega)
  exact (tI_add hx e1 (by omega)).trans (by omega)
theorem smA_j {x : Int64} {m f : Int32} {X a : Int} (hx : x.toInt = X + a) (hX : -100000 ≤ X ∧ X ≤ 100000) (ha : -15000 ≤ a ∧ a ≤ 15000) (hm : -9 ≤ m.toInt ∧ m.toInt ≤ 9) (hf : -99 ≤ f.toInt ∧ f.toInt ≤ 99) : (x + (m * f).toInt64).toInt = X + (a + m.toInt * f.toInt) := by
  have b := mul_b hm hf
  have e1 : (m * f).toInt = m.toInt * f.toInt := tI_mul rfl rfl (by omega)
  exact (tJ_add hx ((Int32.toInt_toInt64 _).trans e1) (by omega)).trans (by omega)
theorem sq_J {x y v : Int64} {X Y : Int} (hv : v = x * x + y * y) (hx : x.toInt = X) (hy : y.toInt = Y) (bx : -200000 ≤ X ∧ X ≤ 200000) (by_ : -200000 ≤ Y ∧ Y ≤ 200000) : v.toInt = X * X + Y * Y := by
  have a := mul_b bx bx
  have b := mul_b by_ by_
  rw [hv]
  exact tJ_add (tJ_mul hx hx (by omega)) (tJ_mul hy hy (by omega)) (by omega)
/-! one step of the class -/
theorem al_tog {b hole : Int32} (h0 : 0 ≤ hole.toInt ∧ hole.toInt < 16) : (∀ j, j ≠ hole.toInt.toNat → bt (b ^^^ ((1 : Int32) <<< (hole &&& 31))) j = bt b j) ∧ bt (b ^^^ ((1 : Int32) <<< (hole &&& 31))) hole.toInt.toNat = !bt b hole.toInt.toNat := by
  refine ⟨fun j hj => ?_, ?_⟩
  · rw [bt_xor, bt_shl h0, decide_eq_false hj, Bool.xor_false]
  · rw [bt_xor, bt_shl h0, decide_eq_true (show hole.toInt.toNat = hole.toInt.toNat from rfl), Bool.xor_true]
theorem al_bits {P : Nat → Prop} [DecidablePred P] {n k t c : Nat} {b hole : Int32} (hn : n ≤ 16) (hk : k + 1 = 2 ^ t * (2 * c + 1)) (ht : t < slC P n) (eh : hole.toInt = ((slI P n t : Nat) : Int)) (hb : ∀ h, h < 16 → bt b h = GA P n k h) : ∀ h, h < 16 → bt (b ^^^ ((1 : Int32) <<< (hole &&& 31))) h = GA P n (k + 1) h := fun h hh => by
  obtain ⟨i1, i2⟩ := slI_lt ht
  obtain ⟨a1, a2⟩ := al_tog (b := b) (hole := hole) (by omega)
  have en : hole.toInt.toNat = slI P n t := by omega
  rw [GA_step hk ht]
  by_cases d : h = slI P n t
  · rw [if_pos d, ← hb h hh, d, ← en]
    exact a2
  · rw [if_neg d, ← hb h hh]
    exact a1 h (by omega)
theorem al_sum {n : Nat} {X wi : Int} {b hole m x : Int32} {f : Nat → Int32} (hn : n ≤ 16) (h0 : 0 ≤ hole.toInt ∧ hole.toInt < (n : Int)) (hw : -9 ≤ wi ∧ wi ≤ 9) (hX : -100000 ≤ X ∧ X ≤ 100000) (hf : ∀ j, j < n → -99 ≤ (f j).toInt ∧ (f j).toInt ≤ 99) (hx : x.toInt = X + smA (bt b) wi f n) (hm : m.toInt = if bt (b ^^^ ((1 : Int32) <<< (hole &&& 31))) hole.toInt.toNat = true then wi else -wi) : (x + m * f hole.toNatClampNeg).toInt = X + smA (bt (b ^^^ ((1 : Int32) <<< (hole &&& 31)))) wi f n := by
  obtain ⟨a1, a2⟩ := al_tog (b := b) (hole := hole) (by omega)
  have z := smA_flip (w := wi) (f := f) a1 a2 (n := n) (by omega)
  have bd := smA_b (A := bt b) (f := f) hw (n := n) hf
  rw [z, ← hm]
  refine smA_i hx hX (by omega) ?_ (hf _ (show hole.toInt.toNat < n by omega))
  rw [hm]
  by_cases c : bt (b ^^^ ((1 : Int32) <<< (hole &&& 31))) hole.toInt.toNat = true
  · rw [if_pos c]
    omega
  · rw [if_neg c]
    omega
def Eqi (a b : Int) : Prop := a = b
theorem BC_b {x : Int32} : 0 ≤ (BC x).toInt ∧ (BC x).toInt ≤ 63 := by
  unfold BC
  generalize B5 (B4 (B3 (B2 (B1 x)))) = a
  have h : (a &&& 63).toBitVec.toNat ≤ 63 := by
    rw [Int32.toBitVec_and, BitVec.toNat_and]
    exact Nat.le_trans Nat.and_le_right (by decide)
  have e : (a &&& 63).toInt = (a &&& 63).toBitVec.toInt := rfl
  rw [e, BitVec.toInt_eq_toNat_cond]
  split <;> omega
theorem cv_J6_bitCount (l : Launch) (G : KG) (aq : Int32) : Ct l G yJ6_bitCount_0f7a4 cJ6_bitCount_0f7a4 1 (some .int) { frames := 0, cells := 0, slots := 0, locals := 0 } [.int aq] [] (fun r w1 => r = some (.int (BC aq)) ∧ w1 = []) := Ct.weak (ac_bitH l G aq []) (fun r w1 hp => ⟨hp.2, hp.1⟩)
/-- the holes that still take so much -/
def FTB (P : Nat → Prop) [DecidablePred P] (n : Nat) (g : Nat → Int32) : Prop := ∀ q, q < slC P n → (g q).toInt = ((slI P n q : Nat) : Int)
section FTBS
variable {n : Nat} {g : Nat → Int32}
theorem FTB.zero {P : Nat → Prop} [DecidablePred P] : FTB P 0 g := fun q h => absurd h (Nat.not_lt_zero q)
theorem FTB.no {P : Nat → Prop} [DecidablePred P] (h : FTB P n g) (c : ¬ P n) : FTB P (n + 1) g := fun q hq => by
  rw [slC_n c] at hq
  rw [slI_old hq]
  exact h q hq
theorem FTB.yes {P : Nat → Prop} [DecidablePred P] {k : Nat} {v : Int32} (h : FTB P n g) (c : P n) (e : k = slC P n) (ev : v.toInt = (n : Int)) : FTB P (n + 1) (upd g k v) := fun q hq => by
  rw [slC_y c] at hq
  by_cases d : q = slC P n
  · rw [d, slI_new c, e, upd_at]
    exact ev
  · rw [slI_old (show q < slC P n by omega), upd_off (show q ≠ k by omega)]
    exact h q (by omega)
end FTBS
theorem al_t {w : Int32} {m t c : Nat} {L : Int} (hc : w.toInt.toNat = 2 ^ t * (2 * c + 1)) (hL : L = ((2 ^ m : Nat) : Int)) (hl : w.toInt < L) (h0 : 1 ≤ w.toInt) : t < m := by
  have a : 2 ^ t ≤ 2 ^ t * (2 * c + 1) := Nat.le_mul_of_pos_right _ (by omega)
  have b : ((w.toInt.toNat : Nat) : Int) < ((2 ^ m : Nat) : Int) := by rw [← hL]; omega
  have b2 := Int.ofNat_lt.mp b
  rw [hc] at b2
  exact (Nat.pow_lt_pow_iff_right (by decide)).mp (Nat.lt_of_le_of_lt a b2)
theorem al_end {w : Int32} {m : Nat} {L : Int} (hL : L = ((2 ^ m : Nat) : Int)) (h : w.toInt = L) (h0 : 1 ≤ w.toInt) : (w.toInt.toNat - 1) + 1 = 2 ^ m := by
  have b : ((w.toInt.toNat : Nat) : Int) = ((2 ^ m : Nat) : Int) := by rw [← hL]; omega
  have b2 := Int.ofNat_inj.mp b
  omega
theorem dv_X10_isFewer_1 : decode cX10_isFewer 1 = .ok (.invokestatic 256, 3) := by decide +kernel
theorem dv_X10_isFewer_5 : decode cX10_isFewer 5 = .ok (.invokestatic 256, 3) := by decide +kernel
theorem dv_X10_isFewer_11 : decode cX10_isFewer 11 = .ok (.ifCond .lt 12, 3) := by decide +kernel
theorem dv_X10_isFewer_24 : decode cX10_isFewer 24 = .ok (.goto 4, 3) := by decide +kernel
theorem dv_X10_isFewer_28 : decode cX10_isFewer 28 = .ok (.ireturn, 1) := by decide +kernel
theorem dv_X10_isFewer_15 : decode cX10_isFewer 15 = .ok (.ifCond .ne 12, 3) := by decide +kernel
theorem dv_X10_isFewer_20 : decode cX10_isFewer 20 = .ok (.if_icmp .ge 7, 3) := by decide +kernel
abbrev bv_X10_isFewer_0_1 : ZB := [(.iload_n 0, .null)]
theorem kv_X10_isFewer_0_1 : zchk cX10_isFewer bv_X10_isFewer_0_1 0 = true ∧ zpc bv_X10_isFewer_0_1 0 = 1 := ⟨by decide +kernel, rfl⟩
abbrev bv_X10_isFewer_4_5 : ZB := [(.iload_n 1, .null)]
theorem kv_X10_isFewer_4_5 : zchk cX10_isFewer bv_X10_isFewer_4_5 4 = true ∧ zpc bv_X10_isFewer_4_5 4 = 5 := ⟨by decide +kernel, rfl⟩
abbrev bv_X10_isFewer_8_11 : ZB := [(.isub, .null), (.istore_n 2, .null), (.iload_n 2, .null)]
theorem kv_X10_isFewer_8_11 : zchk cX10_isFewer bv_X10_isFewer_8_11 8 = true ∧ zpc bv_X10_isFewer_8_11 8 = 11 := ⟨by decide +kernel, rfl⟩
abbrev bv_X10_isFewer_23_24 : ZB := [(.iconst 1, .int 1)]
theorem kv_X10_isFewer_23_24 : zchk cX10_isFewer bv_X10_isFewer_23_24 23 = true ∧ zpc bv_X10_isFewer_23_24 23 = 24 := ⟨by decide +kernel, rfl⟩
abbrev bv_X10_isFewer_14_15 : ZB := [(.iload_n 2, .null)]
theorem kv_X10_isFewer_14_15 : zchk cX10_isFewer bv_X10_isFewer_14_15 14 = true ∧ zpc bv_X10_isFewer_14_15 14 = 15 := ⟨by decide +kernel, rfl⟩
abbrev bv_X10_isFewer_27_28 : ZB := [(.iconst 0, .int 0)]
theorem kv_X10_isFewer_27_28 : zchk cX10_isFewer bv_X10_isFewer_27_28 27 = true ∧ zpc bv_X10_isFewer_27_28 27 = 28 := ⟨by decide +kernel, rfl⟩
abbrev bv_X10_isFewer_18_20 : ZB := [(.iload_n 0, .null), (.iload_n 1, .null)]
theorem kv_X10_isFewer_18_20 : zchk cX10_isFewer bv_X10_isFewer_18_20 18 = true ∧ zpc bv_X10_isFewer_18_20 18 = 20 := ⟨by decide +kernel, rfl⟩
set_option maxHeartbeats 4000000 in
set_option maxRecDepth 100000 in
theorem cv_X10_isFewer (l : Launch) (G : KG) (aq : Int32) (bq : Int32) : Ct l G yX10_isFewer cX10_isFewer 3 (some .boolean) { frames := 1, cells := 0, slots := 0, locals := 20 } [.int aq, .int bq] [] (fun r w1 => ∃ (rz : Int32), (0 ≤ rz.toInt ∧ rz.toInt ≤ 1) ∧ r = some (.int rz) ∧ w1 = []) := by
  refine ct_of [(0, .int aq), (1, .int bq)] (by decide) (Nat.le_of_ble_eq_true rfl) rfl ?_
  intro p0 e0 s0 m0 args0 below0 meth0 c0 A X
  refine z_run X bv_X10_isFewer_0_1 kv_X10_isFewer_0_1 (lv' := [(0, .int aq), (1, .int bq)]) (st' := [.int aq]) rfl ?_
  refine z_callS X k_10_256 (cv_J6_bitCount l G aq) dv_X10_isFewer_1 ⟨Nat.le_of_ble_eq_true rfl, Nat.le_of_ble_eq_true rfl⟩ ⟨Nat.le_of_ble_eq_true rfl, Nat.le_of_ble_eq_true rfl⟩ rfl (rest := []) (As := [.int aq]) rfl (Nat.le_of_ble_eq_true rfl) [] [] rfl (by decide) (wr := []) rfl (by decide) (by decide) ?_
  rintro _ _ ⟨rfl, rfl⟩
  refine Z.at (pc' := 4) (st' := [.int (BC aq)]) (ws' := []) (kc' := 0) (ks' := 0) rfl rfl rfl rfl rfl ?_
  have hbc1_ := BC_b (x := aq)
  refine z_run X bv_X10_isFewer_4_5 kv_X10_isFewer_4_5 (lv' := [(0, .int aq), (1, .int bq)]) (st' := [.int bq, .int (BC aq)]) rfl ?_
  refine z_callS X k_10_256 (cv_J6_bitCount l G bq) dv_X10_isFewer_5 ⟨Nat.le_of_ble_eq_true rfl, Nat.le_of_ble_eq_true rfl⟩ ⟨Nat.le_of_ble_eq_true rfl, Nat.le_of_ble_eq_true rfl⟩ rfl (rest := [.int (BC aq)]) (As := [.int bq]) rfl (Nat.le_of_ble_eq_true rfl) [] [] rfl (by decide) (wr := []) rfl (by decide) (by decide) ?_
  rintro _ _ ⟨rfl, rfl⟩
  refine Z.at (pc' := 8) (st' := [.int (BC bq), .int (BC aq)]) (ws' := []) (kc' := 0) (ks' := 0) rfl rfl rfl rfl rfl ?_
  have hbc2_ := BC_b (x := bq)
  refine z_run X bv_X10_isFewer_8_11 kv_X10_isFewer_8_11 (lv' := [(2, .int ((BC aq) - (BC bq))), (0, .int aq), (1, .int bq)]) (st' := [.int ((BC aq) - (BC bq))]) rfl ?_
  refine zi_lt X dv_X10_isFewer_11 (tgt := 23) (by decide) (a := ((BC aq).toInt - (BC bq).toInt)) (tI_sub rfl rfl (by omega)) (fun c11_1 => ?_) (fun c11_1 => ?_)
  ·
    refine z_run X bv_X10_isFewer_23_24 kv_X10_isFewer_23_24 (lv' := [(2, .int ((BC aq) - (BC bq))), (0, .int aq), (1, .int bq)]) (st' := [.int 1]) rfl ?_
    refine z_goto X dv_X10_isFewer_24 (tgt := 28) (by decide) ?_
    exact z_zret X rfl rfl dv_X10_isFewer_28 (Nat.le_of_ble_eq_true rfl) (Nat.le_of_ble_eq_true rfl) ⟨(1 : Int32), (by decide), rfl, rfl⟩
  ·
    refine z_run X bv_X10_isFewer_14_15 kv_X10_isFewer_14_15 (lv' := [(2, .int ((BC aq) - (BC bq))), (0, .int aq), (1, .int bq)]) (st' := [.int ((BC aq) - (BC bq))]) rfl ?_
    refine zi_ne X dv_X10_isFewer_15 (tgt := 27) (by decide) (a := ((BC aq).toInt - (BC bq).toInt)) (tI_sub rfl rfl (by omega)) (fun c15_2 => ?_) (fun c15_2 => ?_)
    ·
      refine z_run X bv_X10_isFewer_27_28 kv_X10_isFewer_27_28 (lv' := [(2, .int ((BC aq) - (BC bq))), (0, .int aq), (1, .int bq)]) (st' := [.int 0]) rfl ?_
      exact z_zret X rfl rfl dv_X10_isFewer_28 (Nat.le_of_ble_eq_true rfl) (Nat.le_of_ble_eq_true rfl) ⟨(0 : Int32), (by decide), rfl, rfl⟩
    ·
      refine z_run X bv_X10_isFewer_18_20 kv_X10_isFewer_18_20 (lv' := [(2, .int ((BC aq) - (BC bq))), (0, .int aq), (1, .int bq)]) (st' := [.int bq, .int aq]) rfl ?_
      refine zc_ge X dv_X10_isFewer_20 (tgt := 27) (by decide) (a := aq.toInt) (b := bq.toInt) rfl rfl (fun c20_3 => ?_) (fun c20_3 => ?_)
      ·
        refine z_run X bv_X10_isFewer_27_28 kv_X10_isFewer_27_28 (lv' := [(2, .int ((BC aq) - (BC bq))), (0, .int aq), (1, .int bq)]) (st' := [.int 0]) rfl ?_
        exact z_zret X rfl rfl dv_X10_isFewer_28 (Nat.le_of_ble_eq_true rfl) (Nat.le_of_ble_eq_true rfl) ⟨(0 : Int32), (by decide), rfl, rfl⟩
      ·
        refine z_run X bv_X10_isFewer_23_24 kv_X10_isFewer_23_24 (lv' := [(2, .int ((BC aq) - (BC bq))), (0, .int aq), (1, .int bq)]) (st' := [.int 1]) rfl ?_
        refine z_goto X dv_X10_isFewer_24 (tgt := 28) (by decide) ?_
        exact z_zret X rfl rfl dv_X10_isFewer_28 (Nat.le_of_ble_eq_true rfl) (Nat.le_of_ble_eq_true rfl) ⟨(1 : Int32), (by decide), rfl, rfl⟩

theorem dv_X10_gatherFitting_8 : decode cX10_gatherFitting 8 = .ok (.getfield 26, 3) := by decide +kernel
theorem dv_X10_gatherFitting_11 : decode cX10_gatherFitting 11 = .ok (.getfield 136, 3) := by decide +kernel
theorem dv_X10_gatherFitting_14 : decode cX10_gatherFitting 14 = .ok (.if_icmp .ge 47, 3) := by decide +kernel
theorem dv_X10_gatherFitting_62 : decode cX10_gatherFitting 62 = .ok (.ireturn, 1) := by decide +kernel
theorem dv_X10_gatherFitting_18 : decode cX10_gatherFitting 18 = .ok (.getfield 26, 3) := by decide +kernel
theorem dv_X10_gatherFitting_21 : decode cX10_gatherFitting 21 = .ok (.getfield 116, 3) := by decide +kernel
theorem dv_X10_gatherFitting_26 : decode cX10_gatherFitting 26 = .ok (.iaload, 1) := by decide +kernel
theorem dv_X10_gatherFitting_28 : decode cX10_gatherFitting 28 = .ok (.if_icmp .ne 27, 3) := by decide +kernel
theorem dv_X10_gatherFitting_58 : decode cX10_gatherFitting 58 = .ok (.goto (-53), 3) := by decide +kernel
theorem dv_X10_gatherFitting_32 : decode cX10_gatherFitting 32 = .ok (.getfield 26, 3) := by decide +kernel
theorem dv_X10_gatherFitting_37 : decode cX10_gatherFitting 37 = .ok (.invokevirtual 371, 3) := by decide +kernel
theorem dv_X10_gatherFitting_41 : decode cX10_gatherFitting 41 = .ok (.if_icmp .lt 14, 3) := by decide +kernel
theorem dv_X10_gatherFitting_45 : decode cX10_gatherFitting 45 = .ok (.getfield 87, 3) := by decide +kernel
theorem dv_X10_gatherFitting_51 : decode cX10_gatherFitting 51 = .ok (.iastore, 1) := by decide +kernel
abbrev bv_X10_gatherFitting_0_5 : ZB := [(.iconst 0, .int 0), (.istore_n 3, .null), (.iconst 0, .int 0), (.istore 4, .null)]
theorem kv_X10_gatherFitting_0_5 : zchk cX10_gatherFitting bv_X10_gatherFitting_0_5 0 = true ∧ zpc bv_X10_gatherFitting_0_5 0 = 5 := ⟨by decide +kernel, rfl⟩
abbrev bv_X10_gatherFitting_5_8 : ZB := [(.iload 4, .null), (.aload_n 0, .null)]
theorem kv_X10_gatherFitting_5_8 : zchk cX10_gatherFitting bv_X10_gatherFitting_5_8 5 = true ∧ zpc bv_X10_gatherFitting_5_8 5 = 8 := ⟨by decide +kernel, rfl⟩
abbrev bv_X10_gatherFitting_61_62 : ZB := [(.iload_n 3, .null)]
theorem kv_X10_gatherFitting_61_62 : zchk cX10_gatherFitting bv_X10_gatherFitting_61_62 61 = true ∧ zpc bv_X10_gatherFitting_61_62 61 = 62 := ⟨by decide +kernel, rfl⟩
abbrev bv_X10_gatherFitting_17_18 : ZB := [(.aload_n 0, .null)]
theorem kv_X10_gatherFitting_17_18 : zchk cX10_gatherFitting bv_X10_gatherFitting_17_18 17 = true ∧ zpc bv_X10_gatherFitting_17_18 17 = 18 := ⟨by decide +kernel, rfl⟩
abbrev bv_X10_gatherFitting_24_26 : ZB := [(.iload 4, .null)]
theorem kv_X10_gatherFitting_24_26 : zchk cX10_gatherFitting bv_X10_gatherFitting_24_26 24 = true ∧ zpc bv_X10_gatherFitting_24_26 24 = 26 := ⟨by decide +kernel, rfl⟩
abbrev bv_X10_gatherFitting_27_28 : ZB := [(.iload_n 1, .null)]
theorem kv_X10_gatherFitting_27_28 : zchk cX10_gatherFitting bv_X10_gatherFitting_27_28 27 = true ∧ zpc bv_X10_gatherFitting_27_28 27 = 28 := ⟨by decide +kernel, rfl⟩
abbrev bv_X10_gatherFitting_55_58 : ZB := [(.iinc 4 1, .int 1)]
theorem kv_X10_gatherFitting_55_58 : zchk cX10_gatherFitting bv_X10_gatherFitting_55_58 55 = true ∧ zpc bv_X10_gatherFitting_55_58 55 = 58 := ⟨by decide +kernel, rfl⟩
abbrev bv_X10_gatherFitting_31_32 : ZB := [(.aload_n 0, .null)]
theorem kv_X10_gatherFitting_31_32 : zchk cX10_gatherFitting bv_X10_gatherFitting_31_32 31 = true ∧ zpc bv_X10_gatherFitting_31_32 31 = 32 := ⟨by decide +kernel, rfl⟩
abbrev bv_X10_gatherFitting_35_37 : ZB := [(.iload 4, .null)]
theorem kv_X10_gatherFitting_35_37 : zchk cX10_gatherFitting bv_X10_gatherFitting_35_37 35 = true ∧ zpc bv_X10_gatherFitting_35_37 35 = 37 := ⟨by decide +kernel, rfl⟩
abbrev bv_X10_gatherFitting_40_41 : ZB := [(.iload_n 2, .null)]
theorem kv_X10_gatherFitting_40_41 : zchk cX10_gatherFitting bv_X10_gatherFitting_40_41 40 = true ∧ zpc bv_X10_gatherFitting_40_41 40 = 41 := ⟨by decide +kernel, rfl⟩
abbrev bv_X10_gatherFitting_44_45 : ZB := [(.aload_n 0, .null)]
theorem kv_X10_gatherFitting_44_45 : zchk cX10_gatherFitting bv_X10_gatherFitting_44_45 44 = true ∧ zpc bv_X10_gatherFitting_44_45 44 = 45 := ⟨by decide +kernel, rfl⟩
abbrev bv_X10_gatherFitting_48_51 : ZB := [(.iload_n 3, .null), (.iload 4, .null)]
theorem kv_X10_gatherFitting_48_51 : zchk cX10_gatherFitting bv_X10_gatherFitting_48_51 48 = true ∧ zpc bv_X10_gatherFitting_48_51 48 = 51 := ⟨by decide +kernel, rfl⟩
abbrev bv_X10_gatherFitting_52_58 : ZB := [(.iinc 3 1, .int 1), (.iinc 4 1, .int 1)]
theorem kv_X10_gatherFitting_52_58 : zchk cX10_gatherFitting bv_X10_gatherFitting_52_58 52 = true ∧ zpc bv_X10_gatherFitting_52_58 52 = 58 := ⟨by decide +kernel, rfl⟩
set_option maxHeartbeats 4000000 in
set_option maxRecDepth 100000 in
theorem cv_X10_gatherFitting (l : Launch) (G : KG) (x : Nat) (x_told : Value) (x_reader : Value) (ring : Nat) (x_speeds : Value) (x_wheel : Value) (x_trials : Value) (x_span : Value) (x_search : Value) (x_kept : Value) (x_crosses : Value) (x_trueMasses : Value) (x_thought : Value) (x_up : Value) (x_low : Value) (fits : Nat) (x_pulls : Value) (hc : Int32) (rp : Nat) (rx : Nat) (ry : Nat) (rr : Nat) (rh : Nat) (g_rd : Value) (ph : Int32) (po : Int32) (fp : Nat → Int32) (fx : Nat → Int32) (fy : Nat → Int32) (fr : Nat → Int32) (fh : Nat → Int32) (ff : Nat → Int32) (pq : Int32) (wq : Int32) (hci : Int) (pi : Int) (wi : Int) (hhc : hc.toInt = hci) (hpq : pq.toInt = pi) (hwq : wq.toInt = wi) (hc0 : 0 ≤ hci ∧ hci ≤ 16) (hrr : ∀ j : Nat, (j : Int) < hci → 0 ≤ (fr j).toInt ∧ (fr j).toInt ≤ 9) (hhh : ∀ j : Nat, (j : Int) < hci → 0 ≤ (fh j).toInt ∧ (fh j).toInt ≤ 9) : Ct l G yX10_gatherFitting cX10_gatherFitting 5 (some .int) { frames := 1, cells := 0, slots := 0, locals := 21 } [.ref x, .int pq, .int wq] [(x, ob 10 [x_told, x_reader, .ref ring, x_speeds, x_wheel, x_trials, x_span, x_search, x_kept, x_crosses, x_trueMasses, x_thought, x_up, x_low, .ref fits, x_pulls]), (ring, ob 5 [.int hc, .ref rp, .ref rx, .ref ry, .ref rr, .ref rh, g_rd, .int ph, .int po]), (rp, aI G 16 fp), (rx, aI G 16 fx), (ry, aI G 16 fy), (rr, aI G 16 fr), (rh, aI G 16 fh), (fits, aI G 16 ff)] (fun r w1 => ∃ (rz : Int32), ∃ (ff2 : Nat → Int32), (Eqi rz.toInt ((slC (fun j => (fp j).toInt = pi ∧ wi ≤ (fr j).toInt - (fh j).toInt) hci.toNat : Nat) : Int)) ∧ (FTB (fun j => (fp j).toInt = pi ∧ wi ≤ (fr j).toInt - (fh j).toInt) hci.toNat ff2) ∧ (0 ≤ rz.toInt ∧ rz.toInt ≤ 16) ∧ r = some (.int rz) ∧ w1 = [(x, ob 10 [x_told, x_reader, .ref ring, x_speeds, x_wheel, x_trials, x_span, x_search, x_kept, x_crosses, x_trueMasses, x_thought, x_up, x_low, .ref fits, x_pulls]), (ring, ob 5 [.int hc, .ref rp, .ref rx, .ref ry, .ref rr, .ref rh, g_rd, .int ph, .int po]), (rp, aI G 16 fp), (rx, aI G 16 fx), (ry, aI G 16 fy), (rr, aI G 16 fr), (rh, aI G 16 fh), (fits, aI G 16 ff2)]) := by
  refine ct_of [(0, .ref x), (1, .int pq), (2, .int wq)] (by decide) (Nat.le_of_ble_eq_true rfl) rfl ?_
  intro p0 e0 s0 m0 args0 below0 meth0 c0 A X
  refine z_run X bv_X10_gatherFitting_0_5 kv_X10_gatherFitting_0_5 (lv' := [(4, .int 0), (3, .int 0), (0, .ref x), (1, .int pq), (2, .int wq)]) (st' := []) rfl ?_
  refine zloop (σ := Int32 × Int32 × (Nat → Int32)) (fun z => [(4, .int z.1), (3, .int z.2.1), (0, .ref x), (1, .int pq), (2, .int wq)]) (fun z => []) (fun z => [(x, ob 10 [x_told, x_reader, .ref ring, x_speeds, x_wheel, x_trials, x_span, x_search, x_kept, x_crosses, x_trueMasses, x_thought, x_up, x_low, .ref fits, x_pulls]), (ring, ob 5 [.int hc, .ref rp, .ref rx, .ref ry, .ref rr, .ref rh, g_rd, .int ph, .int po]), (rp, aI G 16 fp), (rx, aI G 16 fx), (ry, aI G 16 fy), (rr, aI G 16 fr), (rh, aI G 16 fh), (fits, aI G 16 z.2.2)]) (fun z => (0 ≤ z.1.toInt ∧ z.1.toInt ≤ hci) ∧ (0 ≤ z.2.1.toInt ∧ z.2.1.toInt ≤ z.1.toInt) ∧ (Eqi z.2.1.toInt ((slC (fun j => (fp j).toInt = pi ∧ wi ≤ (fr j).toInt - (fh j).toInt) z.1.toInt.toNat : Nat) : Int)) ∧ (FTB (fun j => (fp j).toInt = pi ∧ wi ≤ (fr j).toInt - (fh j).toInt) z.1.toInt.toNat z.2.2)) (fun z => (hci - z.1.toInt).toNat) (0, 0, ff) ?_ ?_
  ·
    rintro ⟨i_, m_, g⟩ ⟨hi, hm, hN, hF⟩ ih5
    dsimp only at *
    refine z_run X bv_X10_gatherFitting_5_8 kv_X10_gatherFitting_5_8 (lv' := [(4, .int i_), (3, .int m_), (0, .ref x), (1, .int pq), (2, .int wq)]) (st' := [.ref x, .int i_]) rfl ?_
    refine z_get X fl_10_26 dv_X10_gatherFitting_8 0 rfl (v := .ref ring) rfl ?_
    refine z_getN X fl_10_136 dv_X10_gatherFitting_11 1 rfl (v := .int hc) rfl ?_
    refine zc_ge X dv_X10_gatherFitting_14 (tgt := 61) (by decide) (a := i_.toInt) (b := hci) rfl hhc (fun c14_1 => ?_) (fun c14_1 => ?_)
    ·
      refine z_run X bv_X10_gatherFitting_61_62 kv_X10_gatherFitting_61_62 (lv' := [(4, .int i_), (3, .int m_), (0, .ref x), (1, .int pq), (2, .int wq)]) (st' := [.int m_]) rfl ?_
      exact z_iret X rfl dv_X10_gatherFitting_62 (Nat.le_of_ble_eq_true rfl) (Nat.le_of_ble_eq_true rfl) ⟨m_, g, (by rw [show hci.toNat = i_.toInt.toNat by clear hN hF; omega]; exact hN), (by rw [show hci.toNat = i_.toInt.toNat by clear hN hF; omega]; exact hF), (by clear hN hF; omega), rfl, rfl⟩
    ·
      refine z_run X bv_X10_gatherFitting_17_18 kv_X10_gatherFitting_17_18 (lv' := [(4, .int i_), (3, .int m_), (0, .ref x), (1, .int pq), (2, .int wq)]) (st' := [.ref x]) rfl ?_
      refine z_get X fl_10_26 dv_X10_gatherFitting_18 0 rfl (v := .ref ring) rfl ?_
      refine z_getN X fl_10_116 dv_X10_gatherFitting_21 1 rfl (v := .ref rp) rfl ?_
      refine z_run X bv_X10_gatherFitting_24_26 kv_X10_gatherFitting_24_26 (lv' := [(4, .int i_), (3, .int m_), (0, .ref x), (1, .int pq), (2, .int wq)]) (st' := [.int i_, .ref rp]) rfl ?_
      refine z_iald X dv_X10_gatherFitting_26 2 rfl (vin rfl (by omega) (by omega)) (v := (fp i_.toNatClampNeg)) rfl ?_
      refine z_run X bv_X10_gatherFitting_27_28 kv_X10_gatherFitting_27_28 (lv' := [(4, .int i_), (3, .int m_), (0, .ref x), (1, .int pq), (2, .int wq)]) (st' := [.int pq, .int (fp i_.toNatClampNeg)]) rfl ?_
      refine zc_ne X dv_X10_gatherFitting_28 (tgt := 55) (by decide) (a := (fp i_.toNatClampNeg).toInt) (b := pi) rfl hpq (fun c28_2 => ?_) (fun c28_2 => ?_)
      ·
        refine z_run X bv_X10_gatherFitting_55_58 kv_X10_gatherFitting_55_58 (lv' := [(4, .int (i_ + 1)), (3, .int m_), (0, .ref x), (1, .int pq), (2, .int wq)]) (st' := []) rfl ?_
        refine z_goto X dv_X10_gatherFitting_58 (tgt := 5) (by decide) ?_
        exact ih5 ((i_ + 1), m_, g) ⟨(by clear hN hF; (try dsimp only); have e : (i_ + 1).toInt = i_.toInt + 1 := tI_add rfl (show (1 : Int32).toInt = 1 from by decide) (by omega); omega), (by clear hN hF; (try dsimp only); have e : (i_ + 1).toInt = i_.toInt + 1 := tI_add rfl (show (1 : Int32).toInt = 1 from by decide) (by omega); omega), (by (try dsimp only); have e : (i_ + 1).toInt = i_.toInt + 1 := tI_add rfl (show (1 : Int32).toInt = 1 from by decide) (by omega); rw [e, show (i_.toInt + 1).toNat = i_.toInt.toNat + 1 by omega]; rw [slC_n (show ¬ (fun j => (fp j).toInt = pi ∧ wi ≤ (fr j).toInt - (fh j).toInt) i_.toInt.toNat from fun z => by have z1 : (fp i_.toNatClampNeg).toInt = pi := z.1; have z2 : wi ≤ (fr i_.toNatClampNeg).toInt - (fh i_.toNatClampNeg).toInt := z.2; omega)]; exact hN), (by (try dsimp only); have e : (i_ + 1).toInt = i_.toInt + 1 := tI_add rfl (show (1 : Int32).toInt = 1 from by decide) (by omega); rw [e, show (i_.toInt + 1).toNat = i_.toInt.toNat + 1 by omega]; exact hF.no (show ¬ (fun j => (fp j).toInt = pi ∧ wi ≤ (fr j).toInt - (fh j).toInt) i_.toInt.toNat from fun z => by have z1 : (fp i_.toNatClampNeg).toInt = pi := z.1; have z2 : wi ≤ (fr i_.toNatClampNeg).toInt - (fh i_.toNatClampNeg).toInt := z.2; omega))⟩ (by clear hN hF; (try dsimp only); have e : (i_ + 1).toInt = i_.toInt + 1 := tI_add rfl (show (1 : Int32).toInt = 1 from by decide) (by omega); omega)
      ·
        refine z_run X bv_X10_gatherFitting_31_32 kv_X10_gatherFitting_31_32 (lv' := [(4, .int i_), (3, .int m_), (0, .ref x), (1, .int pq), (2, .int wq)]) (st' := [.ref x]) rfl ?_
        refine z_get X fl_10_26 dv_X10_gatherFitting_32 0 rfl (v := .ref ring) rfl ?_
        refine z_run X bv_X10_gatherFitting_35_37 kv_X10_gatherFitting_35_37 (lv' := [(4, .int i_), (3, .int m_), (0, .ref x), (1, .int pq), (2, .int wq)]) (st' := [.int i_, .ref ring]) rfl ?_
        refine z_callV X k_10_371 (cg_X5_roomLeft l G ring hc (.ref rp) (.ref rx) (.ref ry) rr rh g_rd (.int ph) (.int po) fr fh i_ i_.toInt rfl (by omega) (hrr _ (show ((i_.toInt.toNat : Nat) : Int) < hci by omega)) (hhh _ (show ((i_.toInt.toNat : Nat) : Int) < hci by omega))) dv_X10_gatherFitting_37 1 rfl rfl rfl ⟨Nat.le_of_ble_eq_true rfl, Nat.le_of_ble_eq_true rfl⟩ ⟨Nat.le_of_ble_eq_true rfl, Nat.le_of_ble_eq_true rfl⟩ rfl (rest := []) (As := [.int i_]) rfl (Nat.le_of_ble_eq_true rfl) [1, 5, 6] [0, 2, 3, 4, 7] rfl (by decide) (wr := [(x, ob 10 [x_told, x_reader, .ref ring, x_speeds, x_wheel, x_trials, x_span, x_search, x_kept, x_crosses, x_trueMasses, x_thought, x_up, x_low, .ref fits, x_pulls]), (rp, aI G 16 fp), (rx, aI G 16 fx), (ry, aI G 16 fy), (fits, aI G 16 g)]) rfl (by decide) (by decide) ?_
        rintro _ _ ⟨rz_3, f37_4, rfl, rfl⟩
        refine Z.at (pc' := 40) (st' := [.int rz_3]) (ws' := [(x, ob 10 [x_told, x_reader, .ref ring, x_speeds, x_wheel, x_trials, x_span, x_search, x_kept, x_crosses, x_trueMasses, x_thought, x_up, x_low, .ref fits, x_pulls]), (rp, aI G 16 fp), (rx, aI G 16 fx), (ry, aI G 16 fy), (fits, aI G 16 g), (ring, ob 5 [.int hc, .ref rp, .ref rx, .ref ry, .ref rr, .ref rh, g_rd, .int ph, .int po]), (rr, aI G 16 fr), (rh, aI G 16 fh)]) (kc' := 0) (ks' := 0) rfl rfl rfl rfl rfl ?_
        refine z_run X bv_X10_gatherFitting_40_41 kv_X10_gatherFitting_40_41 (lv' := [(4, .int i_), (3, .int m_), (0, .ref x), (1, .int pq), (2, .int wq)]) (st' := [.int wq, .int rz_3]) rfl ?_
        refine zc_lt X dv_X10_gatherFitting_41 (tgt := 55) (by decide) (a := rz_3.toInt) (b := wi) rfl hwq (fun c41_5 => ?_) (fun c41_5 => ?_)
        ·
          have hx1_ := hrr i_.toNatClampNeg (show ((i_.toInt.toNat : Nat) : Int) < hci by omega)
          have hx2_ := hhh i_.toNatClampNeg (show ((i_.toInt.toNat : Nat) : Int) < hci by omega)
          refine z_run X bv_X10_gatherFitting_55_58 kv_X10_gatherFitting_55_58 (lv' := [(4, .int (i_ + 1)), (3, .int m_), (0, .ref x), (1, .int pq), (2, .int wq)]) (st' := []) rfl ?_
          refine z_goto X dv_X10_gatherFitting_58 (tgt := 5) (by decide) ?_
          refine Z.sub (lv' := [(4, .int (i_ + 1)), (3, .int m_), (0, .ref x), (1, .int pq), (2, .int wq)]) [0, 1, 2, 3, 4] rfl [0, 5, 1, 2, 3, 6, 7, 4] (ws' := [(x, ob 10 [x_told, x_reader, .ref ring, x_speeds, x_wheel, x_trials, x_span, x_search, x_kept, x_crosses, x_trueMasses, x_thought, x_up, x_low, .ref fits, x_pulls]), (ring, ob 5 [.int hc, .ref rp, .ref rx, .ref ry, .ref rr, .ref rh, g_rd, .int ph, .int po]), (rp, aI G 16 fp), (rx, aI G 16 fx), (ry, aI G 16 fy), (rr, aI G 16 fr), (rh, aI G 16 fh), (fits, aI G 16 g)]) rfl (by decide) ?_
          exact ih5 ((i_ + 1), m_, g) ⟨(by clear hN hF; (try dsimp only); have e : (i_ + 1).toInt = i_.toInt + 1 := tI_add rfl (show (1 : Int32).toInt = 1 from by decide) (by omega); omega), (by clear hN hF; (try dsimp only); have e : (i_ + 1).toInt = i_.toInt + 1 := tI_add rfl (show (1 : Int32).toInt = 1 from by decide) (by omega); omega), (by (try dsimp only); have e : (i_ + 1).toInt = i_.toInt + 1 := tI_add rfl (show (1 : Int32).toInt = 1 from by decide) (by omega); rw [e, show (i_.toInt + 1).toNat = i_.toInt.toNat + 1 by omega]; rw [slC_n (show ¬ (fun j => (fp j).toInt = pi ∧ wi ≤ (fr j).toInt - (fh j).toInt) i_.toInt.toNat from fun z => by have z1 : (fp i_.toNatClampNeg).toInt = pi := z.1; have z2 : wi ≤ (fr i_.toNatClampNeg).toInt - (fh i_.toNatClampNeg).toInt := z.2; omega)]; exact hN), (by (try dsimp only); have e : (i_ + 1).toInt = i_.toInt + 1 := tI_add rfl (show (1 : Int32).toInt = 1 from by decide) (by omega); rw [e, show (i_.toInt + 1).toNat = i_.toInt.toNat + 1 by omega]; exact hF.no (show ¬ (fun j => (fp j).toInt = pi ∧ wi ≤ (fr j).toInt - (fh j).toInt) i_.toInt.toNat from fun z => by have z1 : (fp i_.toNatClampNeg).toInt = pi := z.1; have z2 : wi ≤ (fr i_.toNatClampNeg).toInt - (fh i_.toNatClampNeg).toInt := z.2; omega))⟩ (by clear hN hF; (try dsimp only); have e : (i_ + 1).toInt = i_.toInt + 1 := tI_add rfl (show (1 : Int32).toInt = 1 from by decide) (by omega); omega)
        ·
          have hx1_ := hrr i_.toNatClampNeg (show ((i_.toInt.toNat : Nat) : Int) < hci by omega)
          have hx2_ := hhh i_.toNatClampNeg (show ((i_.toInt.toNat : Nat) : Int) < hci by omega)
          refine z_run X bv_X10_gatherFitting_44_45 kv_X10_gatherFitting_44_45 (lv' := [(4, .int i_), (3, .int m_), (0, .ref x), (1, .int pq), (2, .int wq)]) (st' := [.ref x]) rfl ?_
          refine z_get X fl_10_87 dv_X10_gatherFitting_45 0 rfl (v := .ref fits) rfl ?_
          refine z_run X bv_X10_gatherFitting_48_51 kv_X10_gatherFitting_48_51 (lv' := [(4, .int i_), (3, .int m_), (0, .ref x), (1, .int pq), (2, .int wq)]) (st' := [.int i_, .int m_, .ref fits]) rfl ?_
          refine z_iast X dv_X10_gatherFitting_51 4 rfl (vin rfl (by omega) (by omega)) (ws' := [(x, ob 10 [x_told, x_reader, .ref ring, x_speeds, x_wheel, x_trials, x_span, x_search, x_kept, x_crosses, x_trueMasses, x_thought, x_up, x_low, .ref fits, x_pulls]), (rp, aI G 16 fp), (rx, aI G 16 fx), (ry, aI G 16 fy), (fits, aI G 16 (upd g m_.toNatClampNeg i_)), (ring, ob 5 [.int hc, .ref rp, .ref rx, .ref ry, .ref rr, .ref rh, g_rd, .int ph, .int po]), (rr, aI G 16 fr), (rh, aI G 16 fh)]) rfl ?_
          refine z_run X bv_X10_gatherFitting_52_58 kv_X10_gatherFitting_52_58 (lv' := [(4, .int (i_ + 1)), (3, .int (m_ + 1)), (0, .ref x), (1, .int pq), (2, .int wq)]) (st' := []) rfl ?_
          refine z_goto X dv_X10_gatherFitting_58 (tgt := 5) (by decide) ?_
          refine Z.sub (lv' := [(4, .int (i_ + 1)), (3, .int (m_ + 1)), (0, .ref x), (1, .int pq), (2, .int wq)]) [0, 1, 2, 3, 4] rfl [0, 5, 1, 2, 3, 6, 7, 4] (ws' := [(x, ob 10 [x_told, x_reader, .ref ring, x_speeds, x_wheel, x_trials, x_span, x_search, x_kept, x_crosses, x_trueMasses, x_thought, x_up, x_low, .ref fits, x_pulls]), (ring, ob 5 [.int hc, .ref rp, .ref rx, .ref ry, .ref rr, .ref rh, g_rd, .int ph, .int po]), (rp, aI G 16 fp), (rx, aI G 16 fx), (ry, aI G 16 fy), (rr, aI G 16 fr), (rh, aI G 16 fh), (fits, aI G 16 (upd g m_.toNatClampNeg i_))]) rfl (by decide) ?_
          exact ih5 ((i_ + 1), (m_ + 1), (upd g m_.toNatClampNeg i_)) ⟨(by clear hN hF; (try dsimp only); have e : (i_ + 1).toInt = i_.toInt + 1 := tI_add rfl (show (1 : Int32).toInt = 1 from by decide) (by omega); omega), (by clear hN hF; (try dsimp only); have e : (i_ + 1).toInt = i_.toInt + 1 := tI_add rfl (show (1 : Int32).toInt = 1 from by decide) (by omega); have em : (m_ + 1).toInt = m_.toInt + 1 := tI_add rfl (show (1 : Int32).toInt = 1 from by decide) (by omega); omega), (by (try dsimp only); have e : (i_ + 1).toInt = i_.toInt + 1 := tI_add rfl (show (1 : Int32).toInt = 1 from by decide) (by omega); rw [e, show (i_.toInt + 1).toNat = i_.toInt.toNat + 1 by omega]; rw [slC_y (show (fun j => (fp j).toInt = pi ∧ wi ≤ (fr j).toInt - (fh j).toInt) i_.toInt.toNat from (show (fp i_.toNatClampNeg).toInt = pi ∧ wi ≤ (fr i_.toNatClampNeg).toInt - (fh i_.toNatClampNeg).toInt by clear hN hF; omega))]; exact (tI_add (hN : m_.toInt = _) (show (1 : Int32).toInt = 1 from by decide) (by have z := slC_le (P := (fun j => (fp j).toInt = pi ∧ wi ≤ (fr j).toInt - (fh j).toInt)) (n := i_.toInt.toNat); clear hN hF; omega)).trans (by rw [Int.natCast_add]; rfl)), (by (try dsimp only); have e : (i_ + 1).toInt = i_.toInt + 1 := tI_add rfl (show (1 : Int32).toInt = 1 from by decide) (by omega); rw [e, show (i_.toInt + 1).toNat = i_.toInt.toNat + 1 by omega]; exact hF.yes (show (fun j => (fp j).toInt = pi ∧ wi ≤ (fr j).toInt - (fh j).toInt) i_.toInt.toNat from (show (fp i_.toNatClampNeg).toInt = pi ∧ wi ≤ (fr i_.toNatClampNeg).toInt - (fh i_.toNatClampNeg).toInt by clear hN hF; omega)) (show m_.toNatClampNeg = slC (fun j => (fp j).toInt = pi ∧ wi ≤ (fr j).toInt - (fh j).toInt) i_.toInt.toNat from (congrArg Int.toNat (hN : m_.toInt = _)).trans (Int.toNat_natCast _)) (by clear hN hF; omega))⟩ (by clear hN hF; (try dsimp only); have e : (i_ + 1).toInt = i_.toInt + 1 := tI_add rfl (show (1 : Int32).toInt = 1 from by decide) (by omega); omega)
  · exact ⟨(by (try dsimp only); have e0 : (0 : Int32).toInt = 0 := (by decide); omega), (by (try dsimp only); have e0 : (0 : Int32).toInt = 0 := (by decide); omega), (by (try dsimp only); have e0 : (0 : Int32).toInt = 0 := (by decide); rw [e0]; exact (show (0 : Int32).toInt = 0 from by decide)), (by (try dsimp only); have e0 : (0 : Int32).toInt = 0 := (by decide); rw [e0]; exact FTB.zero)⟩

theorem dv_X10_all_1 : decode cX10_all 1 = .ok (.invokestatic 156, 3) := by decide +kernel
theorem dv_X10_all_4 : decode cX10_all 4 = .ok (.ifCond .eq 14, 3) := by decide +kernel
theorem dv_X10_all_18 : decode cX10_all 18 = .ok (.ldc2_w 346, 3) := by decide +kernel
theorem dv_X10_all_21 : decode cX10_all 21 = .ok (.lreturn, 1) := by decide +kernel
theorem dv_X10_all_9 : decode cX10_all 9 = .ok (.if_icmp .lt 9, 3) := by decide +kernel
theorem dv_X10_all_15 : decode cX10_all 15 = .ok (.if_icmp .le 7, 3) := by decide +kernel
theorem dv_X10_all_25 : decode cX10_all 25 = .ok (.invokevirtual 386, 3) := by decide +kernel
theorem dv_X10_all_32 : decode cX10_all 32 = .ok (.invokevirtual 348, 3) := by decide +kernel
theorem dv_X10_all_40 : decode cX10_all 40 = .ok (.invokevirtual 348, 3) := by decide +kernel
theorem dv_X10_all_57 : decode cX10_all 57 = .ok (.invokestatic 187, 3) := by decide +kernel
theorem dv_X10_all_70 : decode cX10_all 70 = .ok (.if_icmp .ge 136, 3) := by decide +kernel
theorem dv_X10_all_207 : decode cX10_all 207 = .ok (.getfield 12, 3) := by decide +kernel
theorem dv_X10_all_210 : decode cX10_all 210 = .ok (.invokevirtual 180, 3) := by decide +kernel
theorem dv_X10_all_214 : decode cX10_all 214 = .ok (.getfield 12, 3) := by decide +kernel
theorem dv_X10_all_220 : decode cX10_all 220 = .ok (.invokevirtual 183, 3) := by decide +kernel
theorem dv_X10_all_225 : decode cX10_all 225 = .ok (.lreturn, 1) := by decide +kernel
theorem dv_X10_all_74 : decode cX10_all 74 = .ok (.getfield 87, 3) := by decide +kernel
theorem dv_X10_all_85 : decode cX10_all 85 = .ok (.invokestatic 256, 3) := by decide +kernel
theorem dv_X10_all_88 : decode cX10_all 88 = .ok (.iaload, 1) := by decide +kernel
theorem dv_X10_all_108 : decode cX10_all 108 = .ok (.if_icmp .ne 7, 3) := by decide +kernel
theorem dv_X10_all_124 : decode cX10_all 124 = .ok (.getfield 26, 3) := by decide +kernel
theorem dv_X10_all_127 : decode cX10_all 127 = .ok (.getfield 119, 3) := by decide +kernel
theorem dv_X10_all_132 : decode cX10_all 132 = .ok (.iaload, 1) := by decide +kernel
theorem dv_X10_all_142 : decode cX10_all 142 = .ok (.getfield 26, 3) := by decide +kernel
theorem dv_X10_all_145 : decode cX10_all 145 = .ok (.getfield 122, 3) := by decide +kernel
theorem dv_X10_all_150 : decode cX10_all 150 = .ok (.iaload, 1) := by decide +kernel
theorem dv_X10_all_161 : decode cX10_all 161 = .ok (.invokestatic 187, 3) := by decide +kernel
theorem dv_X10_all_170 : decode cX10_all 170 = .ok (.lcmp, 1) := by decide +kernel
theorem dv_X10_all_171 : decode cX10_all 171 = .ok (.ifCond .lt 21, 3) := by decide +kernel
theorem dv_X10_all_203 : decode cX10_all 203 = .ok (.goto (-138), 3) := by decide +kernel
theorem dv_X10_all_178 : decode cX10_all 178 = .ok (.lcmp, 1) := by decide +kernel
theorem dv_X10_all_179 : decode cX10_all 179 = .ok (.ifCond .ne 21, 3) := by decide +kernel
theorem dv_X10_all_186 : decode cX10_all 186 = .ok (.invokestatic 389, 3) := by decide +kernel
theorem dv_X10_all_189 : decode cX10_all 189 = .ok (.ifCond .eq 11, 3) := by decide +kernel
theorem dv_X10_all_112 : decode cX10_all 112 = .ok (.goto 5, 3) := by decide +kernel
abbrev bv_X10_all_0_1 : ZB := [(.iload_n 1, .null)]
theorem kv_X10_all_0_1 : zchk cX10_all bv_X10_all_0_1 0 = true ∧ zpc bv_X10_all_0_1 0 = 1 := ⟨by decide +kernel, rfl⟩
abbrev bv_X10_all_7_9 : ZB := [(.iload_n 2, .null), (.iconst 1, .int 1)]
theorem kv_X10_all_7_9 : zchk cX10_all bv_X10_all_7_9 7 = true ∧ zpc bv_X10_all_7_9 7 = 9 := ⟨by decide +kernel, rfl⟩
abbrev bv_X10_all_12_15 : ZB := [(.iload_n 2, .null), (.bipush 9, .int 9)]
theorem kv_X10_all_12_15 : zchk cX10_all bv_X10_all_12_15 12 = true ∧ zpc bv_X10_all_12_15 12 = 15 := ⟨by decide +kernel, rfl⟩
abbrev bv_X10_all_22_25 : ZB := [(.aload_n 0, .null), (.iload_n 1, .null), (.iload_n 2, .null)]
theorem kv_X10_all_22_25 : zchk cX10_all bv_X10_all_22_25 22 = true ∧ zpc bv_X10_all_22_25 22 = 25 := ⟨by decide +kernel, rfl⟩
abbrev bv_X10_all_28_32 : ZB := [(.istore_n 3, .null), (.aload_n 0, .null), (.iload_n 1, .null), (.iconst 0, .int 0)]
theorem kv_X10_all_28_32 : zchk cX10_all bv_X10_all_28_32 28 = true ∧ zpc bv_X10_all_28_32 28 = 32 := ⟨by decide +kernel, rfl⟩
abbrev bv_X10_all_35_40 : ZB := [(.istore 4, .null), (.aload_n 0, .null), (.iload_n 1, .null), (.iconst 1, .int 1)]
theorem kv_X10_all_35_40 : zchk cX10_all bv_X10_all_35_40 35 = true ∧ zpc bv_X10_all_35_40 35 = 40 := ⟨by decide +kernel, rfl⟩
abbrev bv_X10_all_43_57 : ZB := [(.istore 5, .null), (.iconst 0, .int 0), (.istore 6, .null), (.iconst 0, .int 0), (.istore 7, .null), (.iload 4, .null), (.i2l, .null), (.iload 5, .null), (.i2l, .null)]
theorem kv_X10_all_43_57 : zchk cX10_all bv_X10_all_43_57 43 = true ∧ zpc bv_X10_all_43_57 43 = 57 := ⟨by decide +kernel, rfl⟩
abbrev bv_X10_all_60_65 : ZB := [(.lstore 8, .null), (.iconst 1, .int 1), (.istore 10, .null)]
theorem kv_X10_all_60_65 : zchk cX10_all bv_X10_all_60_65 60 = true ∧ zpc bv_X10_all_60_65 60 = 65 := ⟨by decide +kernel, rfl⟩
abbrev bv_X10_all_65_70 : ZB := [(.iload 10, .null), (.iconst 1, .int 1), (.iload_n 3, .null), (.ishl, .null)]
theorem kv_X10_all_65_70 : zchk cX10_all bv_X10_all_65_70 65 = true ∧ zpc bv_X10_all_65_70 65 = 70 := ⟨by decide +kernel, rfl⟩
abbrev bv_X10_all_206_207 : ZB := [(.aload_n 0, .null)]
theorem kv_X10_all_206_207 : zchk cX10_all bv_X10_all_206_207 206 = true ∧ zpc bv_X10_all_206_207 206 = 207 := ⟨by decide +kernel, rfl⟩
abbrev bv_X10_all_213_214 : ZB := [(.aload_n 0, .null)]
theorem kv_X10_all_213_214 : zchk cX10_all bv_X10_all_213_214 213 = true ∧ zpc bv_X10_all_213_214 213 = 214 := ⟨by decide +kernel, rfl⟩
abbrev bv_X10_all_217_220 : ZB := [(.iload 7, .null), (.i2l, .null)]
theorem kv_X10_all_217_220 : zchk cX10_all bv_X10_all_217_220 217 = true ∧ zpc bv_X10_all_217_220 217 = 220 := ⟨by decide +kernel, rfl⟩
abbrev bv_X10_all_223_225 : ZB := [(.lload 8, .null)]
theorem kv_X10_all_223_225 : zchk cX10_all bv_X10_all_223_225 223 = true ∧ zpc bv_X10_all_223_225 223 = 225 := ⟨by decide +kernel, rfl⟩
abbrev bv_X10_all_73_74 : ZB := [(.aload_n 0, .null)]
theorem kv_X10_all_73_74 : zchk cX10_all bv_X10_all_73_74 73 = true ∧ zpc bv_X10_all_73_74 73 = 74 := ⟨by decide +kernel, rfl⟩
abbrev bv_X10_all_77_85 : ZB := [(.iload 10, .null), (.iload 10, .null), (.ineg, .null), (.iand, .null), (.iconst 1, .int 1), (.isub, .null)]
theorem kv_X10_all_77_85 : zchk cX10_all bv_X10_all_77_85 77 = true ∧ zpc bv_X10_all_77_85 77 = 85 := ⟨by decide +kernel, rfl⟩
abbrev bv_X10_all_89_108 : ZB := [(.istore 11, .null), (.iload 6, .null), (.iconst 1, .int 1), (.iload 11, .null), (.ishl, .null), (.ixor, .null), (.istore 6, .null), (.iload 6, .null), (.iload 11, .null), (.ishr, .null), (.iconst 1, .int 1), (.iand, .null), (.iconst 1, .int 1)]
theorem kv_X10_all_89_108 : zchk cX10_all bv_X10_all_89_108 89 = true ∧ zpc bv_X10_all_89_108 89 = 108 := ⟨by decide +kernel, rfl⟩
abbrev bv_X10_all_115_124 : ZB := [(.iload_n 2, .null), (.ineg, .null), (.istore 12, .null), (.iload 4, .null), (.iload 12, .null), (.aload_n 0, .null)]
theorem kv_X10_all_115_124 : zchk cX10_all bv_X10_all_115_124 115 = true ∧ zpc bv_X10_all_115_124 115 = 124 := ⟨by decide +kernel, rfl⟩
abbrev bv_X10_all_130_132 : ZB := [(.iload 11, .null)]
theorem kv_X10_all_130_132 : zchk cX10_all bv_X10_all_130_132 130 = true ∧ zpc bv_X10_all_130_132 130 = 132 := ⟨by decide +kernel, rfl⟩
abbrev bv_X10_all_133_142 : ZB := [(.imul, .null), (.iadd, .null), (.istore 4, .null), (.iload 5, .null), (.iload 12, .null), (.aload_n 0, .null)]
theorem kv_X10_all_133_142 : zchk cX10_all bv_X10_all_133_142 133 = true ∧ zpc bv_X10_all_133_142 133 = 142 := ⟨by decide +kernel, rfl⟩
abbrev bv_X10_all_148_150 : ZB := [(.iload 11, .null)]
theorem kv_X10_all_148_150 : zchk cX10_all bv_X10_all_148_150 148 = true ∧ zpc bv_X10_all_148_150 148 = 150 := ⟨by decide +kernel, rfl⟩
abbrev bv_X10_all_151_161 : ZB := [(.imul, .null), (.iadd, .null), (.istore 5, .null), (.iload 4, .null), (.i2l, .null), (.iload 5, .null), (.i2l, .null)]
theorem kv_X10_all_151_161 : zchk cX10_all bv_X10_all_151_161 151 = true ∧ zpc bv_X10_all_151_161 151 = 161 := ⟨by decide +kernel, rfl⟩
abbrev bv_X10_all_164_170 : ZB := [(.lstore 13, .null), (.lload 13, .null), (.lload 8, .null)]
theorem kv_X10_all_164_170 : zchk cX10_all bv_X10_all_164_170 164 = true ∧ zpc bv_X10_all_164_170 164 = 170 := ⟨by decide +kernel, rfl⟩
abbrev bv_X10_all_192_203 : ZB := [(.lload 13, .null), (.lstore 8, .null), (.iload 6, .null), (.istore 7, .null), (.iinc 10 1, .int 1)]
theorem kv_X10_all_192_203 : zchk cX10_all bv_X10_all_192_203 192 = true ∧ zpc bv_X10_all_192_203 192 = 203 := ⟨by decide +kernel, rfl⟩
abbrev bv_X10_all_174_178 : ZB := [(.lload 13, .null), (.lload 8, .null)]
theorem kv_X10_all_174_178 : zchk cX10_all bv_X10_all_174_178 174 = true ∧ zpc bv_X10_all_174_178 174 = 178 := ⟨by decide +kernel, rfl⟩
abbrev bv_X10_all_200_203 : ZB := [(.iinc 10 1, .int 1)]
theorem kv_X10_all_200_203 : zchk cX10_all bv_X10_all_200_203 200 = true ∧ zpc bv_X10_all_200_203 200 = 203 := ⟨by decide +kernel, rfl⟩
abbrev bv_X10_all_182_186 : ZB := [(.iload 6, .null), (.iload 7, .null)]
theorem kv_X10_all_182_186 : zchk cX10_all bv_X10_all_182_186 182 = true ∧ zpc bv_X10_all_182_186 182 = 186 := ⟨by decide +kernel, rfl⟩
abbrev bv_X10_all_111_112 : ZB := [(.iload_n 2, .null)]
theorem kv_X10_all_111_112 : zchk cX10_all bv_X10_all_111_112 111 = true ∧ zpc bv_X10_all_111_112 111 = 112 := ⟨by decide +kernel, rfl⟩
abbrev bv_X10_all_117_124 : ZB := [(.istore 12, .null), (.iload 4, .null), (.iload 12, .null), (.aload_n 0, .null)]
theorem kv_X10_all_117_124 : zchk cX10_all bv_X10_all_117_124 117 = true ∧ zpc bv_X10_all_117_124 117 = 124 := ⟨by decide +kernel, rfl⟩
set_option maxHeartbeats 4000000 in
set_option maxRecDepth 100000 in
theorem cv_X10_all (l : Launch) (G : KG) (x : Nat) (told : Nat) (x_reader : Value) (ring : Nat) (x_speeds : Value) (x_wheel : Value) (x_trials : Value) (x_span : Value) (x_search : Value) (x_kept : Value) (x_crosses : Value) (x_trueMasses : Value) (thought : Nat) (x_up : Value) (x_low : Value) (fits : Nat) (x_pulls : Value) (tn : Nat) (tl : Int32) (fn : Nat → Int64) (hc : Int32) (rp : Nat) (rx : Nat) (ry : Nat) (rr : Nat) (rh : Nat) (g_rd : Value) (ph : Int32) (po : Int32) (fp : Nat → Int32) (fx : Nat → Int32) (fy : Nat → Int32) (fr : Nat → Int32) (fh : Nat → Int32) (ft : Nat → Int32) (ff : Nat → Int32) (pq : Int32) (wq : Int32) (hci : Int) (tli : Int) (pi : Int) (wi : Int) (hhc : hc.toInt = hci) (htl : tl.toInt = tli) (hpq : pq.toInt = pi) (hwq : wq.toInt = wi) (hc0 : 0 ≤ hci ∧ hci ≤ 16) (ht16 : 0 ≤ tli ∧ tli ≤ 16) (hsb : 0 ≤ pi ∧ pi ≤ 1 → SB hci fp fh fr fx fy (tX ft pq) (tY ft pq)) : Ct l G yX10_all cX10_all 15 (some .long) { frames := 2, cells := 0, slots := 0, locals := 47 } [.ref x, .int pq, .int wq] [(x, ob 10 [.ref told, x_reader, .ref ring, x_speeds, x_wheel, x_trials, x_span, x_search, x_kept, x_crosses, x_trueMasses, .ref thought, x_up, x_low, .ref fits, x_pulls]), (told, ob 8 [.ref tn, .int tl]), (tn, aJ G 16 fn), (ring, ob 5 [.int hc, .ref rp, .ref rx, .ref ry, .ref rr, .ref rh, g_rd, .int ph, .int po]), (rp, aI G 16 fp), (rx, aI G 16 fx), (ry, aI G 16 fy), (rr, aI G 16 fr), (rh, aI G 16 fh), (thought, aI G 8 ft), (fits, aI G 16 ff)] (fun r _ => ∃ (rz : Int64), (AlE ((0 ≤ pi ∧ pi ≤ 1) ∧ 1 ≤ wi ∧ wi ≤ 9) (fun j => (fp j).toInt = pi ∧ wi ≤ (fr j).toInt - (fh j).toInt) (tX ft pq + lw fp fh fx pi hci.toNat).toInt (tY ft pq + lw fp fh fy pi hci.toNat).toInt wi fx fy hci.toNat rz) ∧ r = some (.long rz)) := by
  refine ct_of [(0, .ref x), (1, .int pq), (2, .int wq)] (by decide) (Nat.le_of_ble_eq_true rfl) rfl ?_
  intro p0 e0 s0 m0 args0 below0 meth0 c0 A X
  refine z_run X bv_X10_all_0_1 kv_X10_all_0_1 (lv' := [(0, .ref x), (1, .int pq), (2, .int wq)]) (st' := [.int pq]) rfl ?_
  refine z_callS X k_10_156 (cg_X10_isOneOfTwo l G pq pi hpq) dv_X10_all_1 ⟨Nat.le_of_ble_eq_true rfl, Nat.le_of_ble_eq_true rfl⟩ ⟨Nat.le_of_ble_eq_true rfl, Nat.le_of_ble_eq_true rfl⟩ rfl (rest := []) (As := [.int pq]) rfl (Nat.le_of_ble_eq_true rfl) [] [0, 1, 2, 3, 4, 5, 6, 7, 8, 9, 10] rfl (by decide) (wr := [(x, ob 10 [.ref told, x_reader, .ref ring, x_speeds, x_wheel, x_trials, x_span, x_search, x_kept, x_crosses, x_trueMasses, .ref thought, x_up, x_low, .ref fits, x_pulls]), (told, ob 8 [.ref tn, .int tl]), (tn, aJ G 16 fn), (ring, ob 5 [.int hc, .ref rp, .ref rx, .ref ry, .ref rr, .ref rh, g_rd, .int ph, .int po]), (rp, aI G 16 fp), (rx, aI G 16 fx), (ry, aI G 16 fy), (rr, aI G 16 fr), (rh, aI G 16 fh), (thought, aI G 8 ft), (fits, aI G 16 ff)]) rfl (by decide) (by decide) ?_
  rintro _ _ ⟨rfl, rfl⟩
  refine Z.at (pc' := 4) (st' := [.int (zb (decide (0 ≤ pi ∧ pi ≤ 1)))]) (ws' := [(x, ob 10 [.ref told, x_reader, .ref ring, x_speeds, x_wheel, x_trials, x_span, x_search, x_kept, x_crosses, x_trueMasses, .ref thought, x_up, x_low, .ref fits, x_pulls]), (told, ob 8 [.ref tn, .int tl]), (tn, aJ G 16 fn), (ring, ob 5 [.int hc, .ref rp, .ref rx, .ref ry, .ref rr, .ref rh, g_rd, .int ph, .int po]), (rp, aI G 16 fp), (rx, aI G 16 fx), (ry, aI G 16 fy), (rr, aI G 16 fr), (rh, aI G 16 fh), (thought, aI G 8 ft), (fits, aI G 16 ff)]) (kc' := 0) (ks' := 0) rfl rfl rfl rfl rfl ?_
  refine zi_eq_zb X dv_X10_all_4 (tgt := 18) (by decide) (fun c4_1 => ?_) (fun c4_1 => ?_)
  ·
    refine z_ldc2 X dv_X10_all_18 cn_10_346 ?_
    exact z_lret X rfl dv_X10_all_21 (Nat.le_of_ble_eq_true rfl) (Nat.le_of_ble_eq_true rfl) ⟨((-1) : Int64), (Or.inl ⟨by omega, rfl⟩), rfl⟩
  ·
    refine z_run X bv_X10_all_7_9 kv_X10_all_7_9 (lv' := [(0, .ref x), (1, .int pq), (2, .int wq)]) (st' := [.int 1, .int wq]) rfl ?_
    refine zc_lt X dv_X10_all_9 (tgt := 18) (by decide) (a := wi) (b := 1) hwq (show (1 : Int32).toInt = 1 from by decide) (fun c9_2 => ?_) (fun c9_2 => ?_)
    ·
      refine z_ldc2 X dv_X10_all_18 cn_10_346 ?_
      exact z_lret X rfl dv_X10_all_21 (Nat.le_of_ble_eq_true rfl) (Nat.le_of_ble_eq_true rfl) ⟨((-1) : Int64), (Or.inl ⟨by omega, rfl⟩), rfl⟩
    ·
      refine z_run X bv_X10_all_12_15 kv_X10_all_12_15 (lv' := [(0, .ref x), (1, .int pq), (2, .int wq)]) (st' := [.int 9, .int wq]) rfl ?_
      refine zc_le X dv_X10_all_15 (tgt := 22) (by decide) (a := wi) (b := 9) hwq (show (9 : Int32).toInt = 9 from by decide) (fun c15_3 => ?_) (fun c15_3 => ?_)
      ·
        refine z_run X bv_X10_all_22_25 kv_X10_all_22_25 (lv' := [(0, .ref x), (1, .int pq), (2, .int wq)]) (st' := [.int wq, .int pq, .ref x]) rfl ?_
        refine z_callV X k_10_386 (cv_X10_gatherFitting l G x (.ref told) x_reader ring x_speeds x_wheel x_trials x_span x_search x_kept x_crosses x_trueMasses (.ref thought) x_up x_low fits x_pulls hc rp rx ry rr rh g_rd ph po fp fx fy fr fh ff pq wq hci pi wi hhc hpq hwq (by omega) ((hsb (by omega)).hr) ((hsb (by omega)).hh)) dv_X10_all_25 0 rfl rfl rfl ⟨Nat.le_of_ble_eq_true rfl, Nat.le_of_ble_eq_true rfl⟩ ⟨Nat.le_of_ble_eq_true rfl, Nat.le_of_ble_eq_true rfl⟩ rfl (rest := []) (As := [.int pq, .int wq]) rfl (Nat.le_of_ble_eq_true rfl) [0, 3, 4, 5, 6, 7, 8, 10] [1, 2, 9] rfl (by decide) (wr := [(told, ob 8 [.ref tn, .int tl]), (tn, aJ G 16 fn), (thought, aI G 8 ft)]) rfl (by decide) (by decide) ?_
        rintro _ _ ⟨rz_4, ff2_5, f25_6, f25_7, f25_8, rfl, rfl⟩
        refine Z.at (pc' := 28) (st' := [.int rz_4]) (ws' := [(told, ob 8 [.ref tn, .int tl]), (tn, aJ G 16 fn), (thought, aI G 8 ft), (x, ob 10 [.ref told, x_reader, .ref ring, x_speeds, x_wheel, x_trials, x_span, x_search, x_kept, x_crosses, x_trueMasses, .ref thought, x_up, x_low, .ref fits, x_pulls]), (ring, ob 5 [.int hc, .ref rp, .ref rx, .ref ry, .ref rr, .ref rh, g_rd, .int ph, .int po]), (rp, aI G 16 fp), (rx, aI G 16 fx), (ry, aI G 16 fy), (rr, aI G 16 fr), (rh, aI G 16 fh), (fits, aI G 16 ff2_5)]) (kc' := 0) (ks' := 0) rfl rfl rfl rfl rfl ?_
        have hn16_ : hci.toNat ≤ 16 := (by omega)
        have hF_ := f25_7
        obtain ⟨hpl1_, hpl2_⟩ := pow_l (m := rz_4) (by omega)
        have hlm_ : ((1 : Int32) <<< (rz_4 &&& 31)).toInt = ((2 ^ slC (fun j => (fp j).toInt = pi ∧ wi ≤ (fr j).toInt - (fh j).toInt) hci.toNat : Nat) : Int) := (by rw [hpl1_, show rz_4.toInt.toNat = slC (fun j => (fp j).toInt = pi ∧ wi ≤ (fr j).toInt - (fh j).toInt) hci.toNat from (congrArg Int.toNat (show rz_4.toInt = _ from f25_6)).trans (Int.toNat_natCast _)])
        have hlb_ : 1 ≤ ((1 : Int32) <<< (rz_4 &&& 31)).toInt ∧ ((1 : Int32) <<< (rz_4 &&& 31)).toInt ≤ 65536 := (by have z := Nat.two_pow_pos rz_4.toInt.toNat; omega)
        have hux_ := SB.ux (p := pi) (hsb (by omega))
        have huy_ := SB.uy (p := pi) (hsb (by omega))
        have hfx_ : ∀ j, j < hci.toNat → -99 ≤ (fx j).toInt ∧ (fx j).toInt ≤ 99 := fun j hj => (hsb (by omega)).hx j (by omega)
        have hfy_ : ∀ j, j < hci.toNat → -99 ≤ (fy j).toInt ∧ (fy j).toInt ≤ 99 := fun j hj => (hsb (by omega)).hy j (by omega)
        refine z_run X bv_X10_all_28_32 kv_X10_all_28_32 (lv' := [(3, .int rz_4), (0, .ref x), (1, .int pq), (2, .int wq)]) (st' := [.int 0, .int pq, .ref x]) rfl ?_
        refine z_callV X k_10_348 (cg_X10_unmended l G x (.ref told) x_reader ring x_speeds x_wheel x_trials x_span x_search x_kept x_crosses x_trueMasses thought x_up x_low (.ref fits) x_pulls hc rp rx ry (.ref rr) rh g_rd ph po fp fx fy fh ft pq 0 hci pi 0 hhc hpq (show (0 : Int32).toInt = 0 from by decide) (by omega) (by omega) (by omega)) dv_X10_all_32 3 rfl rfl rfl ⟨Nat.le_of_ble_eq_true rfl, Nat.le_of_ble_eq_true rfl⟩ ⟨Nat.le_of_ble_eq_true rfl, Nat.le_of_ble_eq_true rfl⟩ rfl (rest := []) (As := [.int pq, .int 0]) rfl (Nat.le_of_ble_eq_true rfl) [3, 4, 5, 6, 7, 9, 2] [0, 1, 8, 10] rfl (by decide) (wr := [(told, ob 8 [.ref tn, .int tl]), (tn, aJ G 16 fn), (rr, aI G 16 fr), (fits, aI G 16 ff2_5)]) rfl (by decide) (by decide) ?_
        rintro _ _ ⟨rz_9, f32_10, rfl, rfl⟩
        refine Z.at (pc' := 35) (st' := [.int rz_9]) (ws' := [(told, ob 8 [.ref tn, .int tl]), (tn, aJ G 16 fn), (rr, aI G 16 fr), (fits, aI G 16 ff2_5), (x, ob 10 [.ref told, x_reader, .ref ring, x_speeds, x_wheel, x_trials, x_span, x_search, x_kept, x_crosses, x_trueMasses, .ref thought, x_up, x_low, .ref fits, x_pulls]), (ring, ob 5 [.int hc, .ref rp, .ref rx, .ref ry, .ref rr, .ref rh, g_rd, .int ph, .int po]), (rp, aI G 16 fp), (rx, aI G 16 fx), (ry, aI G 16 fy), (rh, aI G 16 fh), (thought, aI G 8 ft)]) (kc' := 0) (ks' := 0) rfl rfl rfl rfl rfl ?_
        refine z_run X bv_X10_all_35_40 kv_X10_all_35_40 (lv' := [(4, .int rz_9), (3, .int rz_4), (0, .ref x), (1, .int pq), (2, .int wq)]) (st' := [.int 1, .int pq, .ref x]) rfl ?_
        refine z_callV X k_10_348 (cg_X10_unmended l G x (.ref told) x_reader ring x_speeds x_wheel x_trials x_span x_search x_kept x_crosses x_trueMasses thought x_up x_low (.ref fits) x_pulls hc rp rx ry (.ref rr) rh g_rd ph po fp fx fy fh ft pq 1 hci pi 1 hhc hpq (show (1 : Int32).toInt = 1 from by decide) (by omega) (by omega) (by omega)) dv_X10_all_40 4 rfl rfl rfl ⟨Nat.le_of_ble_eq_true rfl, Nat.le_of_ble_eq_true rfl⟩ ⟨Nat.le_of_ble_eq_true rfl, Nat.le_of_ble_eq_true rfl⟩ rfl (rest := []) (As := [.int pq, .int 1]) rfl (Nat.le_of_ble_eq_true rfl) [4, 5, 6, 7, 8, 9, 10] [0, 1, 2, 3] rfl (by decide) (wr := [(told, ob 8 [.ref tn, .int tl]), (tn, aJ G 16 fn), (rr, aI G 16 fr), (fits, aI G 16 ff2_5)]) rfl (by decide) (by decide) ?_
        rintro _ _ ⟨rz_11, f40_12, rfl, rfl⟩
        refine Z.at (pc' := 43) (st' := [.int rz_11]) (ws' := [(told, ob 8 [.ref tn, .int tl]), (tn, aJ G 16 fn), (rr, aI G 16 fr), (fits, aI G 16 ff2_5), (x, ob 10 [.ref told, x_reader, .ref ring, x_speeds, x_wheel, x_trials, x_span, x_search, x_kept, x_crosses, x_trueMasses, .ref thought, x_up, x_low, .ref fits, x_pulls]), (ring, ob 5 [.int hc, .ref rp, .ref rx, .ref ry, .ref rr, .ref rh, g_rd, .int ph, .int po]), (rp, aI G 16 fp), (rx, aI G 16 fx), (ry, aI G 16 fy), (rh, aI G 16 fh), (thought, aI G 8 ft)]) (kc' := 0) (ks' := 0) rfl rfl rfl rfl rfl ?_
        refine z_run X bv_X10_all_43_57 kv_X10_all_43_57 (lv' := [(7, .int 0), (6, .int 0), (5, .int rz_11), (4, .int rz_9), (3, .int rz_4), (0, .ref x), (1, .int pq), (2, .int wq)]) (st' := [.long rz_11.toInt64, .long rz_9.toInt64]) rfl ?_
        refine z_callS X k_10_187 (cg_X10_sizeOf l G rz_9.toInt64 rz_11.toInt64) dv_X10_all_57 ⟨Nat.le_of_ble_eq_true rfl, Nat.le_of_ble_eq_true rfl⟩ ⟨Nat.le_of_ble_eq_true rfl, Nat.le_of_ble_eq_true rfl⟩ rfl (rest := []) (As := [.long rz_9.toInt64, .long rz_11.toInt64]) rfl (Nat.le_of_ble_eq_true rfl) [] [0, 1, 2, 3, 4, 5, 6, 7, 8, 9, 10] rfl (by decide) (wr := [(told, ob 8 [.ref tn, .int tl]), (tn, aJ G 16 fn), (rr, aI G 16 fr), (fits, aI G 16 ff2_5), (x, ob 10 [.ref told, x_reader, .ref ring, x_speeds, x_wheel, x_trials, x_span, x_search, x_kept, x_crosses, x_trueMasses, .ref thought, x_up, x_low, .ref fits, x_pulls]), (ring, ob 5 [.int hc, .ref rp, .ref rx, .ref ry, .ref rr, .ref rh, g_rd, .int ph, .int po]), (rp, aI G 16 fp), (rx, aI G 16 fx), (ry, aI G 16 fy), (rh, aI G 16 fh), (thought, aI G 8 ft)]) rfl (by decide) (by decide) ?_
        rintro _ _ ⟨rz_13, f57_14, rfl, rfl⟩
        refine Z.at (pc' := 60) (st' := [.long rz_13]) (ws' := [(told, ob 8 [.ref tn, .int tl]), (tn, aJ G 16 fn), (rr, aI G 16 fr), (fits, aI G 16 ff2_5), (x, ob 10 [.ref told, x_reader, .ref ring, x_speeds, x_wheel, x_trials, x_span, x_search, x_kept, x_crosses, x_trueMasses, .ref thought, x_up, x_low, .ref fits, x_pulls]), (ring, ob 5 [.int hc, .ref rp, .ref rx, .ref ry, .ref rr, .ref rh, g_rd, .int ph, .int po]), (rp, aI G 16 fp), (rx, aI G 16 fx), (ry, aI G 16 fy), (rh, aI G 16 fh), (thought, aI G 8 ft)]) (kc' := 0) (ks' := 0) rfl rfl rfl rfl rfl ?_
        have hl0_ : rz_13.toInt = (tX ft pq + lw fp fh fx pi hci.toNat).toInt * (tX ft pq + lw fp fh fx pi hci.toNat).toInt + (tY ft pq + lw fp fh fy pi hci.toNat).toInt * (tY ft pq + lw fp fh fy pi hci.toNat).toInt := sq_J f57_14 ((Int32.toInt_toInt64 _).trans (congrArg Int32.toInt (show rz_9 = (tX ft pq + lw fp fh fx pi hci.toNat) from (by rw [f32_10]; rfl)))) ((Int32.toInt_toInt64 _).trans (congrArg Int32.toInt (show rz_11 = (tY ft pq + lw fp fh fy pi hci.toNat) from (by rw [f40_12]; rfl)))) (by omega) (by omega)
        refine z_run X bv_X10_all_60_65 kv_X10_all_60_65 (lv' := [(10, .int 1), (8, .long rz_13), (7, .int 0), (6, .int 0), (5, .int rz_11), (4, .int rz_9), (3, .int rz_4), (0, .ref x), (1, .int pq), (2, .int wq)]) (st' := []) rfl ?_
        refine zloop (σ := Int32 × Int32 × Int32 × Int32 × Int32 × Int64) (fun z => [(10, .int z.1), (8, .long z.2.2.2.2.2), (7, .int z.2.2.2.2.1), (6, .int z.2.2.2.1), (5, .int z.2.2.1), (4, .int z.2.1), (3, .int rz_4), (0, .ref x), (1, .int pq), (2, .int wq)]) (fun z => []) (fun z => [(told, ob 8 [.ref tn, .int tl]), (tn, aJ G 16 fn), (rr, aI G 16 fr), (fits, aI G 16 ff2_5), (x, ob 10 [.ref told, x_reader, .ref ring, x_speeds, x_wheel, x_trials, x_span, x_search, x_kept, x_crosses, x_trueMasses, .ref thought, x_up, x_low, .ref fits, x_pulls]), (ring, ob 5 [.int hc, .ref rp, .ref rx, .ref ry, .ref rr, .ref rh, g_rd, .int ph, .int po]), (rp, aI G 16 fp), (rx, aI G 16 fx), (ry, aI G 16 fy), (rh, aI G 16 fh), (thought, aI G 8 ft)]) (fun z => (1 ≤ z.1.toInt ∧ z.1.toInt ≤ ((1 : Int32) <<< (rz_4 &&& 31)).toInt) ∧ (∀ h, h < 16 → bt z.2.2.2.1 h = GA (fun j => (fp j).toInt = pi ∧ wi ≤ (fr j).toInt - (fh j).toInt) hci.toNat (z.1.toInt.toNat - 1) h) ∧ (z.2.1.toInt = (tX ft pq + lw fp fh fx pi hci.toNat).toInt + smA (bt z.2.2.2.1) wi fx hci.toNat) ∧ (z.2.2.1.toInt = (tY ft pq + lw fp fh fy pi hci.toNat).toInt + smA (bt z.2.2.2.1) wi fy hci.toNat) ∧ (LW (cSA (tX ft pq + lw fp fh fx pi hci.toNat).toInt (tY ft pq + lw fp fh fy pi hci.toNat).toInt wi fx fy hci.toNat) ((tX ft pq + lw fp fh fx pi hci.toNat).toInt * (tX ft pq + lw fp fh fx pi hci.toNat).toInt + (tY ft pq + lw fp fh fy pi hci.toNat).toInt * (tY ft pq + lw fp fh fy pi hci.toNat).toInt) z.2.2.2.2.2.toInt (GT (fun j => (fp j).toInt = pi ∧ wi ≤ (fr j).toInt - (fh j).toInt) hci.toNat (z.1.toInt.toNat - 1)))) (fun z => (65536 - z.1.toInt).toNat) (1, rz_9, rz_11, 0, 0, rz_13) ?_ ?_
        ·
          rintro ⟨w_, x_, y_, b_, lb_, l_⟩ ⟨hi, hb, hx, hy, hW⟩ ih65
          dsimp only at *
          refine z_run X bv_X10_all_65_70 kv_X10_all_65_70 (lv' := [(10, .int w_), (8, .long l_), (7, .int lb_), (6, .int b_), (5, .int y_), (4, .int x_), (3, .int rz_4), (0, .ref x), (1, .int pq), (2, .int wq)]) (st' := [.int ((1 : Int32) <<< (rz_4 &&& 31)), .int w_]) rfl ?_
          refine zc_ge X dv_X10_all_70 (tgt := 206) (by decide) (a := w_.toInt) (b := ((1 : Int32) <<< (rz_4 &&& 31)).toInt) rfl rfl (fun c70_15 => ?_) (fun c70_15 => ?_)
          ·
            refine z_run X bv_X10_all_206_207 kv_X10_all_206_207 (lv' := [(10, .int w_), (8, .long l_), (7, .int lb_), (6, .int b_), (5, .int y_), (4, .int x_), (3, .int rz_4), (0, .ref x), (1, .int pq), (2, .int wq)]) (st' := [.ref x]) rfl ?_
            refine z_get X fl_10_12 dv_X10_all_207 4 rfl (v := .ref told) rfl ?_
            refine z_callV X k_10_180 (ch_X8_start l G told tn tl fn) dv_X10_all_210 0 rfl rfl rfl ⟨Nat.le_of_ble_eq_true rfl, Nat.le_of_ble_eq_true rfl⟩ ⟨Nat.le_of_ble_eq_true rfl, Nat.le_of_ble_eq_true rfl⟩ rfl (rest := []) (As := []) rfl (Nat.le_of_ble_eq_true rfl) [0, 1] [2, 3, 4, 5, 6, 7, 8, 9, 10] rfl (by decide) (wr := [(rr, aI G 16 fr), (fits, aI G 16 ff2_5), (x, ob 10 [.ref told, x_reader, .ref ring, x_speeds, x_wheel, x_trials, x_span, x_search, x_kept, x_crosses, x_trueMasses, .ref thought, x_up, x_low, .ref fits, x_pulls]), (ring, ob 5 [.int hc, .ref rp, .ref rx, .ref ry, .ref rr, .ref rh, g_rd, .int ph, .int po]), (rp, aI G 16 fp), (rx, aI G 16 fx), (ry, aI G 16 fy), (rh, aI G 16 fh), (thought, aI G 8 ft)]) rfl (by decide) (by decide) ?_
            rintro _ _ ⟨rfl, rfl⟩
            refine Z.at (pc' := 213) (st' := []) (ws' := [(rr, aI G 16 fr), (fits, aI G 16 ff2_5), (x, ob 10 [.ref told, x_reader, .ref ring, x_speeds, x_wheel, x_trials, x_span, x_search, x_kept, x_crosses, x_trueMasses, .ref thought, x_up, x_low, .ref fits, x_pulls]), (ring, ob 5 [.int hc, .ref rp, .ref rx, .ref ry, .ref rr, .ref rh, g_rd, .int ph, .int po]), (rp, aI G 16 fp), (rx, aI G 16 fx), (ry, aI G 16 fy), (rh, aI G 16 fh), (thought, aI G 8 ft), (told, ob 8 [.ref tn, .int 0]), (tn, aJ G 16 fn)]) (kc' := 0) (ks' := 0) rfl rfl rfl rfl rfl ?_
            refine z_run X bv_X10_all_213_214 kv_X10_all_213_214 (lv' := [(10, .int w_), (8, .long l_), (7, .int lb_), (6, .int b_), (5, .int y_), (4, .int x_), (3, .int rz_4), (0, .ref x), (1, .int pq), (2, .int wq)]) (st' := [.ref x]) rfl ?_
            refine z_get X fl_10_12 dv_X10_all_214 2 rfl (v := .ref told) rfl ?_
            refine z_run X bv_X10_all_217_220 kv_X10_all_217_220 (lv' := [(10, .int w_), (8, .long l_), (7, .int lb_), (6, .int b_), (5, .int y_), (4, .int x_), (3, .int rz_4), (0, .ref x), (1, .int pq), (2, .int wq)]) (st' := [.long lb_.toInt64, .ref told]) rfl ?_
            refine z_callV X k_10_183 (ch_X8_add l G told tn 0 fn lb_.toInt64 0 (show (0 : Int32).toInt = 0 from by decide) (by omega)) dv_X10_all_220 9 rfl rfl rfl ⟨Nat.le_of_ble_eq_true rfl, Nat.le_of_ble_eq_true rfl⟩ ⟨Nat.le_of_ble_eq_true rfl, Nat.le_of_ble_eq_true rfl⟩ rfl (rest := []) (As := [.long lb_.toInt64]) rfl (Nat.le_of_ble_eq_true rfl) [9, 10] [0, 1, 2, 3, 4, 5, 6, 7, 8] rfl (by decide) (wr := [(rr, aI G 16 fr), (fits, aI G 16 ff2_5), (x, ob 10 [.ref told, x_reader, .ref ring, x_speeds, x_wheel, x_trials, x_span, x_search, x_kept, x_crosses, x_trueMasses, .ref thought, x_up, x_low, .ref fits, x_pulls]), (ring, ob 5 [.int hc, .ref rp, .ref rx, .ref ry, .ref rr, .ref rh, g_rd, .int ph, .int po]), (rp, aI G 16 fp), (rx, aI G 16 fx), (ry, aI G 16 fy), (rh, aI G 16 fh), (thought, aI G 8 ft)]) rfl (by decide) (by decide) ?_
            rintro _ _ ⟨tl2_16, fn2_17, f220_18, rfl, rfl⟩
            refine Z.at (pc' := 223) (st' := []) (ws' := [(rr, aI G 16 fr), (fits, aI G 16 ff2_5), (x, ob 10 [.ref told, x_reader, .ref ring, x_speeds, x_wheel, x_trials, x_span, x_search, x_kept, x_crosses, x_trueMasses, .ref thought, x_up, x_low, .ref fits, x_pulls]), (ring, ob 5 [.int hc, .ref rp, .ref rx, .ref ry, .ref rr, .ref rh, g_rd, .int ph, .int po]), (rp, aI G 16 fp), (rx, aI G 16 fx), (ry, aI G 16 fy), (rh, aI G 16 fh), (thought, aI G 8 ft), (told, ob 8 [.ref tn, .int tl2_16]), (tn, aJ G 16 fn2_17)]) (kc' := 0) (ks' := 0) rfl rfl rfl rfl rfl ?_
            refine z_run X bv_X10_all_223_225 kv_X10_all_223_225 (lv' := [(10, .int w_), (8, .long l_), (7, .int lb_), (6, .int b_), (5, .int y_), (4, .int x_), (3, .int rz_4), (0, .ref x), (1, .int pq), (2, .int wq)]) (st' := [.long l_]) rfl ?_
            exact z_lret X rfl dv_X10_all_225 (Nat.le_of_ble_eq_true rfl) (Nat.le_of_ble_eq_true rfl) ⟨l_, (Or.inr ⟨by clear hb hW hF_; omega, GT.end_ (al_end hlm_ (by clear hb hW hF_; omega) hi.1) hW⟩), rfl⟩
          ·
            refine z_run X bv_X10_all_73_74 kv_X10_all_73_74 (lv' := [(10, .int w_), (8, .long l_), (7, .int lb_), (6, .int b_), (5, .int y_), (4, .int x_), (3, .int rz_4), (0, .ref x), (1, .int pq), (2, .int wq)]) (st' := [.ref x]) rfl ?_
            refine z_get X fl_10_87 dv_X10_all_74 4 rfl (v := .ref fits) rfl ?_
            refine z_run X bv_X10_all_77_85 kv_X10_all_77_85 (lv' := [(10, .int w_), (8, .long l_), (7, .int lb_), (6, .int b_), (5, .int y_), (4, .int x_), (3, .int rz_4), (0, .ref x), (1, .int pq), (2, .int wq)]) (st' := [.int ((w_ &&& (-w_)) - 1), .ref fits]) rfl ?_
            refine z_callS X k_10_256 (cv_J6_bitCount l G ((w_ &&& (-w_)) - 1)) dv_X10_all_85 ⟨Nat.le_of_ble_eq_true rfl, Nat.le_of_ble_eq_true rfl⟩ ⟨Nat.le_of_ble_eq_true rfl, Nat.le_of_ble_eq_true rfl⟩ rfl (rest := [.ref fits]) (As := [.int ((w_ &&& (-w_)) - 1)]) rfl (Nat.le_of_ble_eq_true rfl) [] [0, 1, 2, 3, 4, 5, 6, 7, 8, 9, 10] rfl (by decide) (wr := [(told, ob 8 [.ref tn, .int tl]), (tn, aJ G 16 fn), (rr, aI G 16 fr), (fits, aI G 16 ff2_5), (x, ob 10 [.ref told, x_reader, .ref ring, x_speeds, x_wheel, x_trials, x_span, x_search, x_kept, x_crosses, x_trueMasses, .ref thought, x_up, x_low, .ref fits, x_pulls]), (ring, ob 5 [.int hc, .ref rp, .ref rx, .ref ry, .ref rr, .ref rh, g_rd, .int ph, .int po]), (rp, aI G 16 fp), (rx, aI G 16 fx), (ry, aI G 16 fy), (rh, aI G 16 fh), (thought, aI G 8 ft)]) rfl (by decide) (by decide) ?_
            rintro _ _ ⟨rfl, rfl⟩
            refine Z.at (pc' := 88) (st' := [.int (BC ((w_ &&& (-w_)) - 1)), .ref fits]) (ws' := [(told, ob 8 [.ref tn, .int tl]), (tn, aJ G 16 fn), (rr, aI G 16 fr), (fits, aI G 16 ff2_5), (x, ob 10 [.ref told, x_reader, .ref ring, x_speeds, x_wheel, x_trials, x_span, x_search, x_kept, x_crosses, x_trueMasses, .ref thought, x_up, x_low, .ref fits, x_pulls]), (ring, ob 5 [.int hc, .ref rp, .ref rx, .ref ry, .ref rr, .ref rh, g_rd, .int ph, .int po]), (rp, aI G 16 fp), (rx, aI G 16 fx), (ry, aI G 16 fy), (rh, aI G 16 fh), (thought, aI G 8 ft)]) (kc' := 0) (ks' := 0) rfl rfl rfl rfl rfl ?_
            obtain ⟨t_, c_, ht_, hc_, hbc_⟩ := low_ex (w := w_) (by omega) (by omega)
            refine z_iald X dv_X10_all_88 3 rfl (vin hbc_ (by omega) (by omega)) (v := (ff2_5 (BC ((w_ &&& (-w_)) - 1)).toNatClampNeg)) rfl ?_
            generalize hho_ : (ff2_5 (BC ((w_ &&& (-w_)) - 1)).toNatClampNeg) = ho_
            have hk_ : (w_.toInt.toNat - 1) + 1 = 2 ^ t_ * (2 * c_ + 1) := by rw [← hc_]; omega
            have ht2_ : t_ < slC (fun j => (fp j).toInt = pi ∧ wi ≤ (fr j).toInt - (fh j).toInt) hci.toNat := al_t hc_ hlm_ (by omega) (by omega)
            have hg_ : ho_.toInt = ((slI (fun j => (fp j).toInt = pi ∧ wi ≤ (fr j).toInt - (fh j).toInt) hci.toNat t_ : Nat) : Int) := by rw [← hho_, show (BC ((w_ &&& (-w_)) - 1)).toNatClampNeg = t_ from (show (BC ((w_ &&& (-w_)) - 1)).toInt.toNat = t_ by omega)]; exact hF_ t_ ht2_
            have hgl_ := (slI_lt ht2_).1
            have hh9_ : 0 ≤ ho_.toInt ∧ ho_.toInt < hci := by omega
            have hh16_ : 0 ≤ ho_.toInt ∧ ho_.toInt < 16 := by omega
            refine z_run X bv_X10_all_89_108 kv_X10_all_89_108 (lv' := [(6, .int (b_ ^^^ ((1 : Int32) <<< (ho_ &&& 31)))), (11, .int ho_), (10, .int w_), (8, .long l_), (7, .int lb_), (5, .int y_), (4, .int x_), (3, .int rz_4), (0, .ref x), (1, .int pq), (2, .int wq)]) (st' := [.int 1, .int (((b_ ^^^ ((1 : Int32) <<< (ho_ &&& 31))) >>> (ho_ &&& 31)) &&& 1)]) rfl ?_
            refine zc_ne X dv_X10_all_108 (tgt := 115) (by decide) (a := (((b_ ^^^ ((1 : Int32) <<< (ho_ &&& 31))) >>> (ho_ &&& 31)) &&& 1).toInt) (b := 1) rfl (show (1 : Int32).toInt = 1 from by decide) (fun c108_19 => ?_) (fun c108_19 => ?_)
            ·
              refine z_run X bv_X10_all_115_124 kv_X10_all_115_124 (lv' := [(12, .int (-wq)), (6, .int (b_ ^^^ ((1 : Int32) <<< (ho_ &&& 31)))), (11, .int ho_), (10, .int w_), (8, .long l_), (7, .int lb_), (5, .int y_), (4, .int x_), (3, .int rz_4), (0, .ref x), (1, .int pq), (2, .int wq)]) (st' := [.ref x, .int (-wq), .int x_]) rfl ?_
              refine z_get X fl_10_26 dv_X10_all_124 4 rfl (v := .ref ring) rfl ?_
              refine z_getN X fl_10_119 dv_X10_all_127 5 rfl (v := .ref rx) rfl ?_
              refine z_run X bv_X10_all_130_132 kv_X10_all_130_132 (lv' := [(12, .int (-wq)), (6, .int (b_ ^^^ ((1 : Int32) <<< (ho_ &&& 31)))), (11, .int ho_), (10, .int w_), (8, .long l_), (7, .int lb_), (5, .int y_), (4, .int x_), (3, .int rz_4), (0, .ref x), (1, .int pq), (2, .int wq)]) (st' := [.int ho_, .ref rx, .int (-wq), .int x_]) rfl ?_
              refine z_iald X dv_X10_all_132 7 rfl (vin rfl (by omega) (by omega)) (v := (fx ho_.toNatClampNeg)) rfl ?_
              refine z_run X bv_X10_all_133_142 kv_X10_all_133_142 (lv' := [(4, .int (x_ + ((-wq) * (fx ho_.toNatClampNeg)))), (12, .int (-wq)), (6, .int (b_ ^^^ ((1 : Int32) <<< (ho_ &&& 31)))), (11, .int ho_), (10, .int w_), (8, .long l_), (7, .int lb_), (5, .int y_), (3, .int rz_4), (0, .ref x), (1, .int pq), (2, .int wq)]) (st' := [.ref x, .int (-wq), .int y_]) rfl ?_
              refine z_get X fl_10_26 dv_X10_all_142 4 rfl (v := .ref ring) rfl ?_
              refine z_getN X fl_10_122 dv_X10_all_145 5 rfl (v := .ref ry) rfl ?_
              refine z_run X bv_X10_all_148_150 kv_X10_all_148_150 (lv' := [(4, .int (x_ + ((-wq) * (fx ho_.toNatClampNeg)))), (12, .int (-wq)), (6, .int (b_ ^^^ ((1 : Int32) <<< (ho_ &&& 31)))), (11, .int ho_), (10, .int w_), (8, .long l_), (7, .int lb_), (5, .int y_), (3, .int rz_4), (0, .ref x), (1, .int pq), (2, .int wq)]) (st' := [.int ho_, .ref ry, .int (-wq), .int y_]) rfl ?_
              refine z_iald X dv_X10_all_150 8 rfl (vin rfl (by omega) (by omega)) (v := (fy ho_.toNatClampNeg)) rfl ?_
              refine z_run X bv_X10_all_151_161 kv_X10_all_151_161 (lv' := [(5, .int (y_ + ((-wq) * (fy ho_.toNatClampNeg)))), (4, .int (x_ + ((-wq) * (fx ho_.toNatClampNeg)))), (12, .int (-wq)), (6, .int (b_ ^^^ ((1 : Int32) <<< (ho_ &&& 31)))), (11, .int ho_), (10, .int w_), (8, .long l_), (7, .int lb_), (3, .int rz_4), (0, .ref x), (1, .int pq), (2, .int wq)]) (st' := [.long (y_ + ((-wq) * (fy ho_.toNatClampNeg))).toInt64, .long (x_ + ((-wq) * (fx ho_.toNatClampNeg))).toInt64]) rfl ?_
              refine z_callS X k_10_187 (cg_X10_sizeOf l G (x_ + ((-wq) * (fx ho_.toNatClampNeg))).toInt64 (y_ + ((-wq) * (fy ho_.toNatClampNeg))).toInt64) dv_X10_all_161 ⟨Nat.le_of_ble_eq_true rfl, Nat.le_of_ble_eq_true rfl⟩ ⟨Nat.le_of_ble_eq_true rfl, Nat.le_of_ble_eq_true rfl⟩ rfl (rest := []) (As := [.long (x_ + ((-wq) * (fx ho_.toNatClampNeg))).toInt64, .long (y_ + ((-wq) * (fy ho_.toNatClampNeg))).toInt64]) rfl (Nat.le_of_ble_eq_true rfl) [] [0, 1, 2, 3, 4, 5, 6, 7, 8, 9, 10] rfl (by decide) (wr := [(told, ob 8 [.ref tn, .int tl]), (tn, aJ G 16 fn), (rr, aI G 16 fr), (fits, aI G 16 ff2_5), (x, ob 10 [.ref told, x_reader, .ref ring, x_speeds, x_wheel, x_trials, x_span, x_search, x_kept, x_crosses, x_trueMasses, .ref thought, x_up, x_low, .ref fits, x_pulls]), (ring, ob 5 [.int hc, .ref rp, .ref rx, .ref ry, .ref rr, .ref rh, g_rd, .int ph, .int po]), (rp, aI G 16 fp), (rx, aI G 16 fx), (ry, aI G 16 fy), (rh, aI G 16 fh), (thought, aI G 8 ft)]) rfl (by decide) (by decide) ?_
              rintro _ _ ⟨rz_20, f161_21, rfl, rfl⟩
              refine Z.at (pc' := 164) (st' := [.long rz_20]) (ws' := [(told, ob 8 [.ref tn, .int tl]), (tn, aJ G 16 fn), (rr, aI G 16 fr), (fits, aI G 16 ff2_5), (x, ob 10 [.ref told, x_reader, .ref ring, x_speeds, x_wheel, x_trials, x_span, x_search, x_kept, x_crosses, x_trueMasses, .ref thought, x_up, x_low, .ref fits, x_pulls]), (ring, ob 5 [.int hc, .ref rp, .ref rx, .ref ry, .ref rr, .ref rh, g_rd, .int ph, .int po]), (rp, aI G 16 fp), (rx, aI G 16 fx), (ry, aI G 16 fy), (rh, aI G 16 fh), (thought, aI G 8 ft)]) (kc' := 0) (ks' := 0) rfl rfl rfl rfl rfl ?_
              have hB9_ := al_bits (P := (fun j => (fp j).toInt = pi ∧ wi ≤ (fr j).toInt - (fh j).toInt)) (n := hci.toNat) (k := (w_.toInt.toNat - 1)) (b := b_) (hole := ho_) hn16_ hk_ ht2_ hg_ hb
              have hX9_ : ((x_ + ((-wq) * (fx ho_.toNatClampNeg)))).toInt = (tX ft pq + lw fp fh fx pi hci.toNat).toInt + smA (bt (b_ ^^^ ((1 : Int32) <<< (ho_ &&& 31)))) wi fx hci.toNat := al_sum (b := b_) (hole := ho_) (m := (-wq)) (x := x_) (f := fx) hn16_ (by omega) (by omega) (by omega) hfx_ hx ((tI_neg hwq (by omega)).trans (if_neg (fun z => absurd ((has_bt hh16_).mpr z) (by omega))).symm)
              have hY9_ : ((y_ + ((-wq) * (fy ho_.toNatClampNeg)))).toInt = (tY ft pq + lw fp fh fy pi hci.toNat).toInt + smA (bt (b_ ^^^ ((1 : Int32) <<< (ho_ &&& 31)))) wi fy hci.toNat := al_sum (b := b_) (hole := ho_) (m := (-wq)) (x := y_) (f := fy) hn16_ (by omega) (by omega) (by omega) hfy_ hy ((tI_neg hwq (by omega)).trans (if_neg (fun z => absurd ((has_bt hh16_).mpr z) (by omega))).symm)
              have hbx9_ := smA_b (A := bt (b_ ^^^ ((1 : Int32) <<< (ho_ &&& 31)))) (w := wi) (f := fx) (by omega) (n := hci.toNat) hfx_
              have hby9_ := smA_b (A := bt (b_ ^^^ ((1 : Int32) <<< (ho_ &&& 31)))) (w := wi) (f := fy) (by omega) (n := hci.toNat) hfy_
              have hS9_ : rz_20.toInt = cSA (tX ft pq + lw fp fh fx pi hci.toNat).toInt (tY ft pq + lw fp fh fy pi hci.toNat).toInt wi fx fy hci.toNat (GA (fun j => (fp j).toInt = pi ∧ wi ≤ (fr j).toInt - (fh j).toInt) hci.toNat ((w_.toInt.toNat - 1) + 1)) := (show rz_20.toInt = cSA (tX ft pq + lw fp fh fx pi hci.toNat).toInt (tY ft pq + lw fp fh fy pi hci.toNat).toInt wi fx fy hci.toNat (bt (b_ ^^^ ((1 : Int32) <<< (ho_ &&& 31)))) from sq_J f161_21 ((Int32.toInt_toInt64 _).trans hX9_) ((Int32.toInt_toInt64 _).trans hY9_) (by omega) (by omega)).trans (cSA_congr (fun j hj => ⟨hB9_ j (by omega), rfl, rfl⟩))
              refine z_run X bv_X10_all_164_170 kv_X10_all_164_170 (lv' := [(13, .long rz_20), (5, .int (y_ + ((-wq) * (fy ho_.toNatClampNeg)))), (4, .int (x_ + ((-wq) * (fx ho_.toNatClampNeg)))), (12, .int (-wq)), (6, .int (b_ ^^^ ((1 : Int32) <<< (ho_ &&& 31)))), (11, .int ho_), (10, .int w_), (8, .long l_), (7, .int lb_), (3, .int rz_4), (0, .ref x), (1, .int pq), (2, .int wq)]) (st' := [.long l_, .long rz_20]) rfl ?_
              refine zl_lt X dv_X10_all_170 dv_X10_all_171 (tgt := 192) (by decide) (a := rz_20.toInt) (b := l_.toInt) rfl rfl (fun c170_22 => ?_) (fun c170_22 => ?_)
              ·
                refine z_run X bv_X10_all_192_203 kv_X10_all_192_203 (lv' := [(10, .int (w_ + 1)), (7, .int (b_ ^^^ ((1 : Int32) <<< (ho_ &&& 31)))), (8, .long rz_20), (13, .long rz_20), (5, .int (y_ + ((-wq) * (fy ho_.toNatClampNeg)))), (4, .int (x_ + ((-wq) * (fx ho_.toNatClampNeg)))), (12, .int (-wq)), (6, .int (b_ ^^^ ((1 : Int32) <<< (ho_ &&& 31)))), (11, .int ho_), (3, .int rz_4), (0, .ref x), (1, .int pq), (2, .int wq)]) (st' := []) rfl ?_
                refine z_goto X dv_X10_all_203 (tgt := 65) (by decide) ?_
                refine Z.sub (lv' := [(10, .int (w_ + 1)), (8, .long rz_20), (7, .int (b_ ^^^ ((1 : Int32) <<< (ho_ &&& 31)))), (6, .int (b_ ^^^ ((1 : Int32) <<< (ho_ &&& 31)))), (5, .int (y_ + ((-wq) * (fy ho_.toNatClampNeg)))), (4, .int (x_ + ((-wq) * (fx ho_.toNatClampNeg)))), (3, .int rz_4), (0, .ref x), (1, .int pq), (2, .int wq)]) [0, 2, 1, 7, 4, 5, 9, 10, 11, 12] rfl [0, 1, 2, 3, 4, 5, 6, 7, 8, 9, 10] (ws' := [(told, ob 8 [.ref tn, .int tl]), (tn, aJ G 16 fn), (rr, aI G 16 fr), (fits, aI G 16 ff2_5), (x, ob 10 [.ref told, x_reader, .ref ring, x_speeds, x_wheel, x_trials, x_span, x_search, x_kept, x_crosses, x_trueMasses, .ref thought, x_up, x_low, .ref fits, x_pulls]), (ring, ob 5 [.int hc, .ref rp, .ref rx, .ref ry, .ref rr, .ref rh, g_rd, .int ph, .int po]), (rp, aI G 16 fp), (rx, aI G 16 fx), (ry, aI G 16 fy), (rh, aI G 16 fh), (thought, aI G 8 ft)]) rfl (by decide) ?_
                exact ih65 ((w_ + 1), (x_ + ((-wq) * (fx ho_.toNatClampNeg))), (y_ + ((-wq) * (fy ho_.toNatClampNeg))), (b_ ^^^ ((1 : Int32) <<< (ho_ &&& 31))), (b_ ^^^ ((1 : Int32) <<< (ho_ &&& 31))), rz_20) ⟨(by clear hb hW; (try dsimp only); have e : (w_ + 1).toInt = w_.toInt + 1 := tI_add rfl (show (1 : Int32).toInt = 1 from by decide) (by omega); omega), (by (try dsimp only); have ek_ : (w_ + 1).toInt.toNat - 1 = (w_.toInt.toNat - 1) + 1 := (by clear hb hW; have e : (w_ + 1).toInt = w_.toInt + 1 := tI_add rfl (show (1 : Int32).toInt = 1 from by decide) (by omega); omega); rw [ek_]; exact hB9_), hX9_, hY9_, (by (try dsimp only); have ek_ : (w_ + 1).toInt.toNat - 1 = (w_.toInt.toNat - 1) + 1 := (by clear hb hW; have e : (w_ + 1).toInt = w_.toInt + 1 := tI_add rfl (show (1 : Int32).toInt = 1 from by decide) (by omega); omega); rw [ek_]; exact GT.step hW (if_mn (by clear hb hW hB9_ hF_; omega)))⟩ (by clear hb hW; (try dsimp only); have e : (w_ + 1).toInt = w_.toInt + 1 := tI_add rfl (show (1 : Int32).toInt = 1 from by decide) (by omega); omega)
              ·
                refine z_run X bv_X10_all_174_178 kv_X10_all_174_178 (lv' := [(13, .long rz_20), (5, .int (y_ + ((-wq) * (fy ho_.toNatClampNeg)))), (4, .int (x_ + ((-wq) * (fx ho_.toNatClampNeg)))), (12, .int (-wq)), (6, .int (b_ ^^^ ((1 : Int32) <<< (ho_ &&& 31)))), (11, .int ho_), (10, .int w_), (8, .long l_), (7, .int lb_), (3, .int rz_4), (0, .ref x), (1, .int pq), (2, .int wq)]) (st' := [.long l_, .long rz_20]) rfl ?_
                refine zl_ne X dv_X10_all_178 dv_X10_all_179 (tgt := 200) (by decide) (a := rz_20.toInt) (b := l_.toInt) rfl rfl (fun c178_23 => ?_) (fun c178_23 => ?_)
                ·
                  refine z_run X bv_X10_all_200_203 kv_X10_all_200_203 (lv' := [(10, .int (w_ + 1)), (13, .long rz_20), (5, .int (y_ + ((-wq) * (fy ho_.toNatClampNeg)))), (4, .int (x_ + ((-wq) * (fx ho_.toNatClampNeg)))), (12, .int (-wq)), (6, .int (b_ ^^^ ((1 : Int32) <<< (ho_ &&& 31)))), (11, .int ho_), (8, .long l_), (7, .int lb_), (3, .int rz_4), (0, .ref x), (1, .int pq), (2, .int wq)]) (st' := []) rfl ?_
                  refine z_goto X dv_X10_all_203 (tgt := 65) (by decide) ?_
                  refine Z.sub (lv' := [(10, .int (w_ + 1)), (8, .long l_), (7, .int lb_), (6, .int (b_ ^^^ ((1 : Int32) <<< (ho_ &&& 31)))), (5, .int (y_ + ((-wq) * (fy ho_.toNatClampNeg)))), (4, .int (x_ + ((-wq) * (fx ho_.toNatClampNeg)))), (3, .int rz_4), (0, .ref x), (1, .int pq), (2, .int wq)]) [0, 7, 8, 5, 2, 3, 9, 10, 11, 12] rfl [0, 1, 2, 3, 4, 5, 6, 7, 8, 9, 10] (ws' := [(told, ob 8 [.ref tn, .int tl]), (tn, aJ G 16 fn), (rr, aI G 16 fr), (fits, aI G 16 ff2_5), (x, ob 10 [.ref told, x_reader, .ref ring, x_speeds, x_wheel, x_trials, x_span, x_search, x_kept, x_crosses, x_trueMasses, .ref thought, x_up, x_low, .ref fits, x_pulls]), (ring, ob 5 [.int hc, .ref rp, .ref rx, .ref ry, .ref rr, .ref rh, g_rd, .int ph, .int po]), (rp, aI G 16 fp), (rx, aI G 16 fx), (ry, aI G 16 fy), (rh, aI G 16 fh), (thought, aI G 8 ft)]) rfl (by decide) ?_
                  exact ih65 ((w_ + 1), (x_ + ((-wq) * (fx ho_.toNatClampNeg))), (y_ + ((-wq) * (fy ho_.toNatClampNeg))), (b_ ^^^ ((1 : Int32) <<< (ho_ &&& 31))), lb_, l_) ⟨(by clear hb hW; (try dsimp only); have e : (w_ + 1).toInt = w_.toInt + 1 := tI_add rfl (show (1 : Int32).toInt = 1 from by decide) (by omega); omega), (by (try dsimp only); have ek_ : (w_ + 1).toInt.toNat - 1 = (w_.toInt.toNat - 1) + 1 := (by clear hb hW; have e : (w_ + 1).toInt = w_.toInt + 1 := tI_add rfl (show (1 : Int32).toInt = 1 from by decide) (by omega); omega); rw [ek_]; exact hB9_), hX9_, hY9_, (by (try dsimp only); have ek_ : (w_ + 1).toInt.toNat - 1 = (w_.toInt.toNat - 1) + 1 := (by clear hb hW; have e : (w_ + 1).toInt = w_.toInt + 1 := tI_add rfl (show (1 : Int32).toInt = 1 from by decide) (by omega); omega); rw [ek_]; exact GT.step hW (if_mn (by clear hb hW hB9_ hF_; omega)))⟩ (by clear hb hW; (try dsimp only); have e : (w_ + 1).toInt = w_.toInt + 1 := tI_add rfl (show (1 : Int32).toInt = 1 from by decide) (by omega); omega)
                ·
                  refine z_run X bv_X10_all_182_186 kv_X10_all_182_186 (lv' := [(13, .long rz_20), (5, .int (y_ + ((-wq) * (fy ho_.toNatClampNeg)))), (4, .int (x_ + ((-wq) * (fx ho_.toNatClampNeg)))), (12, .int (-wq)), (6, .int (b_ ^^^ ((1 : Int32) <<< (ho_ &&& 31)))), (11, .int ho_), (10, .int w_), (8, .long l_), (7, .int lb_), (3, .int rz_4), (0, .ref x), (1, .int pq), (2, .int wq)]) (st' := [.int lb_, .int (b_ ^^^ ((1 : Int32) <<< (ho_ &&& 31)))]) rfl ?_
                  refine z_callS X k_10_389 (cv_X10_isFewer l G (b_ ^^^ ((1 : Int32) <<< (ho_ &&& 31))) lb_) dv_X10_all_186 ⟨Nat.le_of_ble_eq_true rfl, Nat.le_of_ble_eq_true rfl⟩ ⟨Nat.le_of_ble_eq_true rfl, Nat.le_of_ble_eq_true rfl⟩ rfl (rest := []) (As := [.int (b_ ^^^ ((1 : Int32) <<< (ho_ &&& 31))), .int lb_]) rfl (Nat.le_of_ble_eq_true rfl) [] [0, 1, 2, 3, 4, 5, 6, 7, 8, 9, 10] rfl (by decide) (wr := [(told, ob 8 [.ref tn, .int tl]), (tn, aJ G 16 fn), (rr, aI G 16 fr), (fits, aI G 16 ff2_5), (x, ob 10 [.ref told, x_reader, .ref ring, x_speeds, x_wheel, x_trials, x_span, x_search, x_kept, x_crosses, x_trueMasses, .ref thought, x_up, x_low, .ref fits, x_pulls]), (ring, ob 5 [.int hc, .ref rp, .ref rx, .ref ry, .ref rr, .ref rh, g_rd, .int ph, .int po]), (rp, aI G 16 fp), (rx, aI G 16 fx), (ry, aI G 16 fy), (rh, aI G 16 fh), (thought, aI G 8 ft)]) rfl (by decide) (by decide) ?_
                  rintro _ _ ⟨rz_24, f186_25, rfl, rfl⟩
                  refine Z.at (pc' := 189) (st' := [.int rz_24]) (ws' := [(told, ob 8 [.ref tn, .int tl]), (tn, aJ G 16 fn), (rr, aI G 16 fr), (fits, aI G 16 ff2_5), (x, ob 10 [.ref told, x_reader, .ref ring, x_speeds, x_wheel, x_trials, x_span, x_search, x_kept, x_crosses, x_trueMasses, .ref thought, x_up, x_low, .ref fits, x_pulls]), (ring, ob 5 [.int hc, .ref rp, .ref rx, .ref ry, .ref rr, .ref rh, g_rd, .int ph, .int po]), (rp, aI G 16 fp), (rx, aI G 16 fx), (ry, aI G 16 fy), (rh, aI G 16 fh), (thought, aI G 8 ft)]) (kc' := 0) (ks' := 0) rfl rfl rfl rfl rfl ?_
                  refine zi_eq X dv_X10_all_189 (tgt := 200) (by decide) (a := rz_24.toInt) rfl (fun c189_26 => ?_) (fun c189_26 => ?_)
                  ·
                    refine z_run X bv_X10_all_200_203 kv_X10_all_200_203 (lv' := [(10, .int (w_ + 1)), (13, .long rz_20), (5, .int (y_ + ((-wq) * (fy ho_.toNatClampNeg)))), (4, .int (x_ + ((-wq) * (fx ho_.toNatClampNeg)))), (12, .int (-wq)), (6, .int (b_ ^^^ ((1 : Int32) <<< (ho_ &&& 31)))), (11, .int ho_), (8, .long l_), (7, .int lb_), (3, .int rz_4), (0, .ref x), (1, .int pq), (2, .int wq)]) (st' := []) rfl ?_
                    refine z_goto X dv_X10_all_203 (tgt := 65) (by decide) ?_
                    refine Z.sub (lv' := [(10, .int (w_ + 1)), (8, .long l_), (7, .int lb_), (6, .int (b_ ^^^ ((1 : Int32) <<< (ho_ &&& 31)))), (5, .int (y_ + ((-wq) * (fy ho_.toNatClampNeg)))), (4, .int (x_ + ((-wq) * (fx ho_.toNatClampNeg)))), (3, .int rz_4), (0, .ref x), (1, .int pq), (2, .int wq)]) [0, 7, 8, 5, 2, 3, 9, 10, 11, 12] rfl [0, 1, 2, 3, 4, 5, 6, 7, 8, 9, 10] (ws' := [(told, ob 8 [.ref tn, .int tl]), (tn, aJ G 16 fn), (rr, aI G 16 fr), (fits, aI G 16 ff2_5), (x, ob 10 [.ref told, x_reader, .ref ring, x_speeds, x_wheel, x_trials, x_span, x_search, x_kept, x_crosses, x_trueMasses, .ref thought, x_up, x_low, .ref fits, x_pulls]), (ring, ob 5 [.int hc, .ref rp, .ref rx, .ref ry, .ref rr, .ref rh, g_rd, .int ph, .int po]), (rp, aI G 16 fp), (rx, aI G 16 fx), (ry, aI G 16 fy), (rh, aI G 16 fh), (thought, aI G 8 ft)]) rfl (by decide) ?_
                    exact ih65 ((w_ + 1), (x_ + ((-wq) * (fx ho_.toNatClampNeg))), (y_ + ((-wq) * (fy ho_.toNatClampNeg))), (b_ ^^^ ((1 : Int32) <<< (ho_ &&& 31))), lb_, l_) ⟨(by clear hb hW; (try dsimp only); have e : (w_ + 1).toInt = w_.toInt + 1 := tI_add rfl (show (1 : Int32).toInt = 1 from by decide) (by omega); omega), (by (try dsimp only); have ek_ : (w_ + 1).toInt.toNat - 1 = (w_.toInt.toNat - 1) + 1 := (by clear hb hW; have e : (w_ + 1).toInt = w_.toInt + 1 := tI_add rfl (show (1 : Int32).toInt = 1 from by decide) (by omega); omega); rw [ek_]; exact hB9_), hX9_, hY9_, (by (try dsimp only); have ek_ : (w_ + 1).toInt.toNat - 1 = (w_.toInt.toNat - 1) + 1 := (by clear hb hW; have e : (w_ + 1).toInt = w_.toInt + 1 := tI_add rfl (show (1 : Int32).toInt = 1 from by decide) (by omega); omega); rw [ek_]; exact GT.step hW (if_mn (by clear hb hW hB9_ hF_; omega)))⟩ (by clear hb hW; (try dsimp only); have e : (w_ + 1).toInt = w_.toInt + 1 := tI_add rfl (show (1 : Int32).toInt = 1 from by decide) (by omega); omega)
                  ·
                    refine z_run X bv_X10_all_192_203 kv_X10_all_192_203 (lv' := [(10, .int (w_ + 1)), (7, .int (b_ ^^^ ((1 : Int32) <<< (ho_ &&& 31)))), (8, .long rz_20), (13, .long rz_20), (5, .int (y_ + ((-wq) * (fy ho_.toNatClampNeg)))), (4, .int (x_ + ((-wq) * (fx ho_.toNatClampNeg)))), (12, .int (-wq)), (6, .int (b_ ^^^ ((1 : Int32) <<< (ho_ &&& 31)))), (11, .int ho_), (3, .int rz_4), (0, .ref x), (1, .int pq), (2, .int wq)]) (st' := []) rfl ?_
                    refine z_goto X dv_X10_all_203 (tgt := 65) (by decide) ?_
                    refine Z.sub (lv' := [(10, .int (w_ + 1)), (8, .long rz_20), (7, .int (b_ ^^^ ((1 : Int32) <<< (ho_ &&& 31)))), (6, .int (b_ ^^^ ((1 : Int32) <<< (ho_ &&& 31)))), (5, .int (y_ + ((-wq) * (fy ho_.toNatClampNeg)))), (4, .int (x_ + ((-wq) * (fx ho_.toNatClampNeg)))), (3, .int rz_4), (0, .ref x), (1, .int pq), (2, .int wq)]) [0, 2, 1, 7, 4, 5, 9, 10, 11, 12] rfl [0, 1, 2, 3, 4, 5, 6, 7, 8, 9, 10] (ws' := [(told, ob 8 [.ref tn, .int tl]), (tn, aJ G 16 fn), (rr, aI G 16 fr), (fits, aI G 16 ff2_5), (x, ob 10 [.ref told, x_reader, .ref ring, x_speeds, x_wheel, x_trials, x_span, x_search, x_kept, x_crosses, x_trueMasses, .ref thought, x_up, x_low, .ref fits, x_pulls]), (ring, ob 5 [.int hc, .ref rp, .ref rx, .ref ry, .ref rr, .ref rh, g_rd, .int ph, .int po]), (rp, aI G 16 fp), (rx, aI G 16 fx), (ry, aI G 16 fy), (rh, aI G 16 fh), (thought, aI G 8 ft)]) rfl (by decide) ?_
                    exact ih65 ((w_ + 1), (x_ + ((-wq) * (fx ho_.toNatClampNeg))), (y_ + ((-wq) * (fy ho_.toNatClampNeg))), (b_ ^^^ ((1 : Int32) <<< (ho_ &&& 31))), (b_ ^^^ ((1 : Int32) <<< (ho_ &&& 31))), rz_20) ⟨(by clear hb hW; (try dsimp only); have e : (w_ + 1).toInt = w_.toInt + 1 := tI_add rfl (show (1 : Int32).toInt = 1 from by decide) (by omega); omega), (by (try dsimp only); have ek_ : (w_ + 1).toInt.toNat - 1 = (w_.toInt.toNat - 1) + 1 := (by clear hb hW; have e : (w_ + 1).toInt = w_.toInt + 1 := tI_add rfl (show (1 : Int32).toInt = 1 from by decide) (by omega); omega); rw [ek_]; exact hB9_), hX9_, hY9_, (by (try dsimp only); have ek_ : (w_ + 1).toInt.toNat - 1 = (w_.toInt.toNat - 1) + 1 := (by clear hb hW; have e : (w_ + 1).toInt = w_.toInt + 1 := tI_add rfl (show (1 : Int32).toInt = 1 from by decide) (by omega); omega); rw [ek_]; exact GT.step hW (if_mn (by clear hb hW hB9_ hF_; omega)))⟩ (by clear hb hW; (try dsimp only); have e : (w_ + 1).toInt = w_.toInt + 1 := tI_add rfl (show (1 : Int32).toInt = 1 from by decide) (by omega); omega)
            ·
              refine z_run X bv_X10_all_111_112 kv_X10_all_111_112 (lv' := [(6, .int (b_ ^^^ ((1 : Int32) <<< (ho_ &&& 31)))), (11, .int ho_), (10, .int w_), (8, .long l_), (7, .int lb_), (5, .int y_), (4, .int x_), (3, .int rz_4), (0, .ref x), (1, .int pq), (2, .int wq)]) (st' := [.int wq]) rfl ?_
              refine z_goto X dv_X10_all_112 (tgt := 117) (by decide) ?_
              refine z_run X bv_X10_all_117_124 kv_X10_all_117_124 (lv' := [(12, .int wq), (6, .int (b_ ^^^ ((1 : Int32) <<< (ho_ &&& 31)))), (11, .int ho_), (10, .int w_), (8, .long l_), (7, .int lb_), (5, .int y_), (4, .int x_), (3, .int rz_4), (0, .ref x), (1, .int pq), (2, .int wq)]) (st' := [.ref x, .int wq, .int x_]) rfl ?_
              refine z_get X fl_10_26 dv_X10_all_124 4 rfl (v := .ref ring) rfl ?_
              refine z_getN X fl_10_119 dv_X10_all_127 5 rfl (v := .ref rx) rfl ?_
              refine z_run X bv_X10_all_130_132 kv_X10_all_130_132 (lv' := [(12, .int wq), (6, .int (b_ ^^^ ((1 : Int32) <<< (ho_ &&& 31)))), (11, .int ho_), (10, .int w_), (8, .long l_), (7, .int lb_), (5, .int y_), (4, .int x_), (3, .int rz_4), (0, .ref x), (1, .int pq), (2, .int wq)]) (st' := [.int ho_, .ref rx, .int wq, .int x_]) rfl ?_
              refine z_iald X dv_X10_all_132 7 rfl (vin rfl (by omega) (by omega)) (v := (fx ho_.toNatClampNeg)) rfl ?_
              refine z_run X bv_X10_all_133_142 kv_X10_all_133_142 (lv' := [(4, .int (x_ + (wq * (fx ho_.toNatClampNeg)))), (12, .int wq), (6, .int (b_ ^^^ ((1 : Int32) <<< (ho_ &&& 31)))), (11, .int ho_), (10, .int w_), (8, .long l_), (7, .int lb_), (5, .int y_), (3, .int rz_4), (0, .ref x), (1, .int pq), (2, .int wq)]) (st' := [.ref x, .int wq, .int y_]) rfl ?_
              refine z_get X fl_10_26 dv_X10_all_142 4 rfl (v := .ref ring) rfl ?_
              refine z_getN X fl_10_122 dv_X10_all_145 5 rfl (v := .ref ry) rfl ?_
              refine z_run X bv_X10_all_148_150 kv_X10_all_148_150 (lv' := [(4, .int (x_ + (wq * (fx ho_.toNatClampNeg)))), (12, .int wq), (6, .int (b_ ^^^ ((1 : Int32) <<< (ho_ &&& 31)))), (11, .int ho_), (10, .int w_), (8, .long l_), (7, .int lb_), (5, .int y_), (3, .int rz_4), (0, .ref x), (1, .int pq), (2, .int wq)]) (st' := [.int ho_, .ref ry, .int wq, .int y_]) rfl ?_
              refine z_iald X dv_X10_all_150 8 rfl (vin rfl (by omega) (by omega)) (v := (fy ho_.toNatClampNeg)) rfl ?_
              refine z_run X bv_X10_all_151_161 kv_X10_all_151_161 (lv' := [(5, .int (y_ + (wq * (fy ho_.toNatClampNeg)))), (4, .int (x_ + (wq * (fx ho_.toNatClampNeg)))), (12, .int wq), (6, .int (b_ ^^^ ((1 : Int32) <<< (ho_ &&& 31)))), (11, .int ho_), (10, .int w_), (8, .long l_), (7, .int lb_), (3, .int rz_4), (0, .ref x), (1, .int pq), (2, .int wq)]) (st' := [.long (y_ + (wq * (fy ho_.toNatClampNeg))).toInt64, .long (x_ + (wq * (fx ho_.toNatClampNeg))).toInt64]) rfl ?_
              refine z_callS X k_10_187 (cg_X10_sizeOf l G (x_ + (wq * (fx ho_.toNatClampNeg))).toInt64 (y_ + (wq * (fy ho_.toNatClampNeg))).toInt64) dv_X10_all_161 ⟨Nat.le_of_ble_eq_true rfl, Nat.le_of_ble_eq_true rfl⟩ ⟨Nat.le_of_ble_eq_true rfl, Nat.le_of_ble_eq_true rfl⟩ rfl (rest := []) (As := [.long (x_ + (wq * (fx ho_.toNatClampNeg))).toInt64, .long (y_ + (wq * (fy ho_.toNatClampNeg))).toInt64]) rfl (Nat.le_of_ble_eq_true rfl) [] [0, 1, 2, 3, 4, 5, 6, 7, 8, 9, 10] rfl (by decide) (wr := [(told, ob 8 [.ref tn, .int tl]), (tn, aJ G 16 fn), (rr, aI G 16 fr), (fits, aI G 16 ff2_5), (x, ob 10 [.ref told, x_reader, .ref ring, x_speeds, x_wheel, x_trials, x_span, x_search, x_kept, x_crosses, x_trueMasses, .ref thought, x_up, x_low, .ref fits, x_pulls]), (ring, ob 5 [.int hc, .ref rp, .ref rx, .ref ry, .ref rr, .ref rh, g_rd, .int ph, .int po]), (rp, aI G 16 fp), (rx, aI G 16 fx), (ry, aI G 16 fy), (rh, aI G 16 fh), (thought, aI G 8 ft)]) rfl (by decide) (by decide) ?_
              rintro _ _ ⟨rz_27, f161_28, rfl, rfl⟩
              refine Z.at (pc' := 164) (st' := [.long rz_27]) (ws' := [(told, ob 8 [.ref tn, .int tl]), (tn, aJ G 16 fn), (rr, aI G 16 fr), (fits, aI G 16 ff2_5), (x, ob 10 [.ref told, x_reader, .ref ring, x_speeds, x_wheel, x_trials, x_span, x_search, x_kept, x_crosses, x_trueMasses, .ref thought, x_up, x_low, .ref fits, x_pulls]), (ring, ob 5 [.int hc, .ref rp, .ref rx, .ref ry, .ref rr, .ref rh, g_rd, .int ph, .int po]), (rp, aI G 16 fp), (rx, aI G 16 fx), (ry, aI G 16 fy), (rh, aI G 16 fh), (thought, aI G 8 ft)]) (kc' := 0) (ks' := 0) rfl rfl rfl rfl rfl ?_
              have hB9_ := al_bits (P := (fun j => (fp j).toInt = pi ∧ wi ≤ (fr j).toInt - (fh j).toInt)) (n := hci.toNat) (k := (w_.toInt.toNat - 1)) (b := b_) (hole := ho_) hn16_ hk_ ht2_ hg_ hb
              have hX9_ : ((x_ + (wq * (fx ho_.toNatClampNeg)))).toInt = (tX ft pq + lw fp fh fx pi hci.toNat).toInt + smA (bt (b_ ^^^ ((1 : Int32) <<< (ho_ &&& 31)))) wi fx hci.toNat := al_sum (b := b_) (hole := ho_) (m := wq) (x := x_) (f := fx) hn16_ (by omega) (by omega) (by omega) hfx_ hx (hwq.trans (if_pos ((has_bt hh16_).mp (by omega))).symm)
              have hY9_ : ((y_ + (wq * (fy ho_.toNatClampNeg)))).toInt = (tY ft pq + lw fp fh fy pi hci.toNat).toInt + smA (bt (b_ ^^^ ((1 : Int32) <<< (ho_ &&& 31)))) wi fy hci.toNat := al_sum (b := b_) (hole := ho_) (m := wq) (x := y_) (f := fy) hn16_ (by omega) (by omega) (by omega) hfy_ hy (hwq.trans (if_pos ((has_bt hh16_).mp (by omega))).symm)
              have hbx9_ := smA_b (A := bt (b_ ^^^ ((1 : Int32) <<< (ho_ &&& 31)))) (w := wi) (f := fx) (by omega) (n := hci.toNat) hfx_
              have hby9_ := smA_b (A := bt (b_ ^^^ ((1 : Int32) <<< (ho_ &&& 31)))) (w := wi) (f := fy) (by omega) (n := hci.toNat) hfy_
              have hS9_ : rz_27.toInt = cSA (tX ft pq + lw fp fh fx pi hci.toNat).toInt (tY ft pq + lw fp fh fy pi hci.toNat).toInt wi fx fy hci.toNat (GA (fun j => (fp j).toInt = pi ∧ wi ≤ (fr j).toInt - (fh j).toInt) hci.toNat ((w_.toInt.toNat - 1) + 1)) := (show rz_27.toInt = cSA (tX ft pq + lw fp fh fx pi hci.toNat).toInt (tY ft pq + lw fp fh fy pi hci.toNat).toInt wi fx fy hci.toNat (bt (b_ ^^^ ((1 : Int32) <<< (ho_ &&& 31)))) from sq_J f161_28 ((Int32.toInt_toInt64 _).trans hX9_) ((Int32.toInt_toInt64 _).trans hY9_) (by omega) (by omega)).trans (cSA_congr (fun j hj => ⟨hB9_ j (by omega), rfl, rfl⟩))
              refine z_run X bv_X10_all_164_170 kv_X10_all_164_170 (lv' := [(13, .long rz_27), (5, .int (y_ + (wq * (fy ho_.toNatClampNeg)))), (4, .int (x_ + (wq * (fx ho_.toNatClampNeg)))), (12, .int wq), (6, .int (b_ ^^^ ((1 : Int32) <<< (ho_ &&& 31)))), (11, .int ho_), (10, .int w_), (8, .long l_), (7, .int lb_), (3, .int rz_4), (0, .ref x), (1, .int pq), (2, .int wq)]) (st' := [.long l_, .long rz_27]) rfl ?_
              refine zl_lt X dv_X10_all_170 dv_X10_all_171 (tgt := 192) (by decide) (a := rz_27.toInt) (b := l_.toInt) rfl rfl (fun c170_29 => ?_) (fun c170_29 => ?_)
              ·
                refine z_run X bv_X10_all_192_203 kv_X10_all_192_203 (lv' := [(10, .int (w_ + 1)), (7, .int (b_ ^^^ ((1 : Int32) <<< (ho_ &&& 31)))), (8, .long rz_27), (13, .long rz_27), (5, .int (y_ + (wq * (fy ho_.toNatClampNeg)))), (4, .int (x_ + (wq * (fx ho_.toNatClampNeg)))), (12, .int wq), (6, .int (b_ ^^^ ((1 : Int32) <<< (ho_ &&& 31)))), (11, .int ho_), (3, .int rz_4), (0, .ref x), (1, .int pq), (2, .int wq)]) (st' := []) rfl ?_
                refine z_goto X dv_X10_all_203 (tgt := 65) (by decide) ?_
                refine Z.sub (lv' := [(10, .int (w_ + 1)), (8, .long rz_27), (7, .int (b_ ^^^ ((1 : Int32) <<< (ho_ &&& 31)))), (6, .int (b_ ^^^ ((1 : Int32) <<< (ho_ &&& 31)))), (5, .int (y_ + (wq * (fy ho_.toNatClampNeg)))), (4, .int (x_ + (wq * (fx ho_.toNatClampNeg)))), (3, .int rz_4), (0, .ref x), (1, .int pq), (2, .int wq)]) [0, 2, 1, 7, 4, 5, 9, 10, 11, 12] rfl [0, 1, 2, 3, 4, 5, 6, 7, 8, 9, 10] (ws' := [(told, ob 8 [.ref tn, .int tl]), (tn, aJ G 16 fn), (rr, aI G 16 fr), (fits, aI G 16 ff2_5), (x, ob 10 [.ref told, x_reader, .ref ring, x_speeds, x_wheel, x_trials, x_span, x_search, x_kept, x_crosses, x_trueMasses, .ref thought, x_up, x_low, .ref fits, x_pulls]), (ring, ob 5 [.int hc, .ref rp, .ref rx, .ref ry, .ref rr, .ref rh, g_rd, .int ph, .int po]), (rp, aI G 16 fp), (rx, aI G 16 fx), (ry, aI G 16 fy), (rh, aI G 16 fh), (thought, aI G 8 ft)]) rfl (by decide) ?_
                exact ih65 ((w_ + 1), (x_ + (wq * (fx ho_.toNatClampNeg))), (y_ + (wq * (fy ho_.toNatClampNeg))), (b_ ^^^ ((1 : Int32) <<< (ho_ &&& 31))), (b_ ^^^ ((1 : Int32) <<< (ho_ &&& 31))), rz_27) ⟨(by clear hb hW; (try dsimp only); have e : (w_ + 1).toInt = w_.toInt + 1 := tI_add rfl (show (1 : Int32).toInt = 1 from by decide) (by omega); omega), (by (try dsimp only); have ek_ : (w_ + 1).toInt.toNat - 1 = (w_.toInt.toNat - 1) + 1 := (by clear hb hW; have e : (w_ + 1).toInt = w_.toInt + 1 := tI_add rfl (show (1 : Int32).toInt = 1 from by decide) (by omega); omega); rw [ek_]; exact hB9_), hX9_, hY9_, (by (try dsimp only); have ek_ : (w_ + 1).toInt.toNat - 1 = (w_.toInt.toNat - 1) + 1 := (by clear hb hW; have e : (w_ + 1).toInt = w_.toInt + 1 := tI_add rfl (show (1 : Int32).toInt = 1 from by decide) (by omega); omega); rw [ek_]; exact GT.step hW (if_mn (by clear hb hW hB9_ hF_; omega)))⟩ (by clear hb hW; (try dsimp only); have e : (w_ + 1).toInt = w_.toInt + 1 := tI_add rfl (show (1 : Int32).toInt = 1 from by decide) (by omega); omega)
              ·
                refine z_run X bv_X10_all_174_178 kv_X10_all_174_178 (lv' := [(13, .long rz_27), (5, .int (y_ + (wq * (fy ho_.toNatClampNeg)))), (4, .int (x_ + (wq * (fx ho_.toNatClampNeg)))), (12, .int wq), (6, .int (b_ ^^^ ((1 : Int32) <<< (ho_ &&& 31)))), (11, .int ho_), (10, .int w_), (8, .long l_), (7, .int lb_), (3, .int rz_4), (0, .ref x), (1, .int pq), (2, .int wq)]) (st' := [.long l_, .long rz_27]) rfl ?_
                refine zl_ne X dv_X10_all_178 dv_X10_all_179 (tgt := 200) (by decide) (a := rz_27.toInt) (b := l_.toInt) rfl rfl (fun c178_30 => ?_) (fun c178_30 => ?_)
                ·
                  refine z_run X bv_X10_all_200_203 kv_X10_all_200_203 (lv' := [(10, .int (w_ + 1)), (13, .long rz_27), (5, .int (y_ + (wq * (fy ho_.toNatClampNeg)))), (4, .int (x_ + (wq * (fx ho_.toNatClampNeg)))), (12, .int wq), (6, .int (b_ ^^^ ((1 : Int32) <<< (ho_ &&& 31)))), (11, .int ho_), (8, .long l_), (7, .int lb_), (3, .int rz_4), (0, .ref x), (1, .int pq), (2, .int wq)]) (st' := []) rfl ?_
                  refine z_goto X dv_X10_all_203 (tgt := 65) (by decide) ?_
                  refine Z.sub (lv' := [(10, .int (w_ + 1)), (8, .long l_), (7, .int lb_), (6, .int (b_ ^^^ ((1 : Int32) <<< (ho_ &&& 31)))), (5, .int (y_ + (wq * (fy ho_.toNatClampNeg)))), (4, .int (x_ + (wq * (fx ho_.toNatClampNeg)))), (3, .int rz_4), (0, .ref x), (1, .int pq), (2, .int wq)]) [0, 7, 8, 5, 2, 3, 9, 10, 11, 12] rfl [0, 1, 2, 3, 4, 5, 6, 7, 8, 9, 10] (ws' := [(told, ob 8 [.ref tn, .int tl]), (tn, aJ G 16 fn), (rr, aI G 16 fr), (fits, aI G 16 ff2_5), (x, ob 10 [.ref told, x_reader, .ref ring, x_speeds, x_wheel, x_trials, x_span, x_search, x_kept, x_crosses, x_trueMasses, .ref thought, x_up, x_low, .ref fits, x_pulls]), (ring, ob 5 [.int hc, .ref rp, .ref rx, .ref ry, .ref rr, .ref rh, g_rd, .int ph, .int po]), (rp, aI G 16 fp), (rx, aI G 16 fx), (ry, aI G 16 fy), (rh, aI G 16 fh), (thought, aI G 8 ft)]) rfl (by decide) ?_
                  exact ih65 ((w_ + 1), (x_ + (wq * (fx ho_.toNatClampNeg))), (y_ + (wq * (fy ho_.toNatClampNeg))), (b_ ^^^ ((1 : Int32) <<< (ho_ &&& 31))), lb_, l_) ⟨(by clear hb hW; (try dsimp only); have e : (w_ + 1).toInt = w_.toInt + 1 := tI_add rfl (show (1 : Int32).toInt = 1 from by decide) (by omega); omega), (by (try dsimp only); have ek_ : (w_ + 1).toInt.toNat - 1 = (w_.toInt.toNat - 1) + 1 := (by clear hb hW; have e : (w_ + 1).toInt = w_.toInt + 1 := tI_add rfl (show (1 : Int32).toInt = 1 from by decide) (by omega); omega); rw [ek_]; exact hB9_), hX9_, hY9_, (by (try dsimp only); have ek_ : (w_ + 1).toInt.toNat - 1 = (w_.toInt.toNat - 1) + 1 := (by clear hb hW; have e : (w_ + 1).toInt = w_.toInt + 1 := tI_add rfl (show (1 : Int32).toInt = 1 from by decide) (by omega); omega); rw [ek_]; exact GT.step hW (if_mn (by clear hb hW hB9_ hF_; omega)))⟩ (by clear hb hW; (try dsimp only); have e : (w_ + 1).toInt = w_.toInt + 1 := tI_add rfl (show (1 : Int32).toInt = 1 from by decide) (by omega); omega)
                ·
                  refine z_run X bv_X10_all_182_186 kv_X10_all_182_186 (lv' := [(13, .long rz_27), (5, .int (y_ + (wq * (fy ho_.toNatClampNeg)))), (4, .int (x_ + (wq * (fx ho_.toNatClampNeg)))), (12, .int wq), (6, .int (b_ ^^^ ((1 : Int32) <<< (ho_ &&& 31)))), (11, .int ho_), (10, .int w_), (8, .long l_), (7, .int lb_), (3, .int rz_4), (0, .ref x), (1, .int pq), (2, .int wq)]) (st' := [.int lb_, .int (b_ ^^^ ((1 : Int32) <<< (ho_ &&& 31)))]) rfl ?_
                  refine z_callS X k_10_389 (cv_X10_isFewer l G (b_ ^^^ ((1 : Int32) <<< (ho_ &&& 31))) lb_) dv_X10_all_186 ⟨Nat.le_of_ble_eq_true rfl, Nat.le_of_ble_eq_true rfl⟩ ⟨Nat.le_of_ble_eq_true rfl, Nat.le_of_ble_eq_true rfl⟩ rfl (rest := []) (As := [.int (b_ ^^^ ((1 : Int32) <<< (ho_ &&& 31))), .int lb_]) rfl (Nat.le_of_ble_eq_true rfl) [] [0, 1, 2, 3, 4, 5, 6, 7, 8, 9, 10] rfl (by decide) (wr := [(told, ob 8 [.ref tn, .int tl]), (tn, aJ G 16 fn), (rr, aI G 16 fr), (fits, aI G 16 ff2_5), (x, ob 10 [.ref told, x_reader, .ref ring, x_speeds, x_wheel, x_trials, x_span, x_search, x_kept, x_crosses, x_trueMasses, .ref thought, x_up, x_low, .ref fits, x_pulls]), (ring, ob 5 [.int hc, .ref rp, .ref rx, .ref ry, .ref rr, .ref rh, g_rd, .int ph, .int po]), (rp, aI G 16 fp), (rx, aI G 16 fx), (ry, aI G 16 fy), (rh, aI G 16 fh), (thought, aI G 8 ft)]) rfl (by decide) (by decide) ?_
                  rintro _ _ ⟨rz_31, f186_32, rfl, rfl⟩
                  refine Z.at (pc' := 189) (st' := [.int rz_31]) (ws' := [(told, ob 8 [.ref tn, .int tl]), (tn, aJ G 16 fn), (rr, aI G 16 fr), (fits, aI G 16 ff2_5), (x, ob 10 [.ref told, x_reader, .ref ring, x_speeds, x_wheel, x_trials, x_span, x_search, x_kept, x_crosses, x_trueMasses, .ref thought, x_up, x_low, .ref fits, x_pulls]), (ring, ob 5 [.int hc, .ref rp, .ref rx, .ref ry, .ref rr, .ref rh, g_rd, .int ph, .int po]), (rp, aI G 16 fp), (rx, aI G 16 fx), (ry, aI G 16 fy), (rh, aI G 16 fh), (thought, aI G 8 ft)]) (kc' := 0) (ks' := 0) rfl rfl rfl rfl rfl ?_
                  refine zi_eq X dv_X10_all_189 (tgt := 200) (by decide) (a := rz_31.toInt) rfl (fun c189_33 => ?_) (fun c189_33 => ?_)
                  ·
                    refine z_run X bv_X10_all_200_203 kv_X10_all_200_203 (lv' := [(10, .int (w_ + 1)), (13, .long rz_27), (5, .int (y_ + (wq * (fy ho_.toNatClampNeg)))), (4, .int (x_ + (wq * (fx ho_.toNatClampNeg)))), (12, .int wq), (6, .int (b_ ^^^ ((1 : Int32) <<< (ho_ &&& 31)))), (11, .int ho_), (8, .long l_), (7, .int lb_), (3, .int rz_4), (0, .ref x), (1, .int pq), (2, .int wq)]) (st' := []) rfl ?_
                    refine z_goto X dv_X10_all_203 (tgt := 65) (by decide) ?_
                    refine Z.sub (lv' := [(10, .int (w_ + 1)), (8, .long l_), (7, .int lb_), (6, .int (b_ ^^^ ((1 : Int32) <<< (ho_ &&& 31)))), (5, .int (y_ + (wq * (fy ho_.toNatClampNeg)))), (4, .int (x_ + (wq * (fx ho_.toNatClampNeg)))), (3, .int rz_4), (0, .ref x), (1, .int pq), (2, .int wq)]) [0, 7, 8, 5, 2, 3, 9, 10, 11, 12] rfl [0, 1, 2, 3, 4, 5, 6, 7, 8, 9, 10] (ws' := [(told, ob 8 [.ref tn, .int tl]), (tn, aJ G 16 fn), (rr, aI G 16 fr), (fits, aI G 16 ff2_5), (x, ob 10 [.ref told, x_reader, .ref ring, x_speeds, x_wheel, x_trials, x_span, x_search, x_kept, x_crosses, x_trueMasses, .ref thought, x_up, x_low, .ref fits, x_pulls]), (ring, ob 5 [.int hc, .ref rp, .ref rx, .ref ry, .ref rr, .ref rh, g_rd, .int ph, .int po]), (rp, aI G 16 fp), (rx, aI G 16 fx), (ry, aI G 16 fy), (rh, aI G 16 fh), (thought, aI G 8 ft)]) rfl (by decide) ?_
                    exact ih65 ((w_ + 1), (x_ + (wq * (fx ho_.toNatClampNeg))), (y_ + (wq * (fy ho_.toNatClampNeg))), (b_ ^^^ ((1 : Int32) <<< (ho_ &&& 31))), lb_, l_) ⟨(by clear hb hW; (try dsimp only); have e : (w_ + 1).toInt = w_.toInt + 1 := tI_add rfl (show (1 : Int32).toInt = 1 from by decide) (by omega); omega), (by (try dsimp only); have ek_ : (w_ + 1).toInt.toNat - 1 = (w_.toInt.toNat - 1) + 1 := (by clear hb hW; have e : (w_ + 1).toInt = w_.toInt + 1 := tI_add rfl (show (1 : Int32).toInt = 1 from by decide) (by omega); omega); rw [ek_]; exact hB9_), hX9_, hY9_, (by (try dsimp only); have ek_ : (w_ + 1).toInt.toNat - 1 = (w_.toInt.toNat - 1) + 1 := (by clear hb hW; have e : (w_ + 1).toInt = w_.toInt + 1 := tI_add rfl (show (1 : Int32).toInt = 1 from by decide) (by omega); omega); rw [ek_]; exact GT.step hW (if_mn (by clear hb hW hB9_ hF_; omega)))⟩ (by clear hb hW; (try dsimp only); have e : (w_ + 1).toInt = w_.toInt + 1 := tI_add rfl (show (1 : Int32).toInt = 1 from by decide) (by omega); omega)
                  ·
                    refine z_run X bv_X10_all_192_203 kv_X10_all_192_203 (lv' := [(10, .int (w_ + 1)), (7, .int (b_ ^^^ ((1 : Int32) <<< (ho_ &&& 31)))), (8, .long rz_27), (13, .long rz_27), (5, .int (y_ + (wq * (fy ho_.toNatClampNeg)))), (4, .int (x_ + (wq * (fx ho_.toNatClampNeg)))), (12, .int wq), (6, .int (b_ ^^^ ((1 : Int32) <<< (ho_ &&& 31)))), (11, .int ho_), (3, .int rz_4), (0, .ref x), (1, .int pq), (2, .int wq)]) (st' := []) rfl ?_
                    refine z_goto X dv_X10_all_203 (tgt := 65) (by decide) ?_
                    refine Z.sub (lv' := [(10, .int (w_ + 1)), (8, .long rz_27), (7, .int (b_ ^^^ ((1 : Int32) <<< (ho_ &&& 31)))), (6, .int (b_ ^^^ ((1 : Int32) <<< (ho_ &&& 31)))), (5, .int (y_ + (wq * (fy ho_.toNatClampNeg)))), (4, .int (x_ + (wq * (fx ho_.toNatClampNeg)))), (3, .int rz_4), (0, .ref x), (1, .int pq), (2, .int wq)]) [0, 2, 1, 7, 4, 5, 9, 10, 11, 12] rfl [0, 1, 2, 3, 4, 5, 6, 7, 8, 9, 10] (ws' := [(told, ob 8 [.ref tn, .int tl]), (tn, aJ G 16 fn), (rr, aI G 16 fr), (fits, aI G 16 ff2_5), (x, ob 10 [.ref told, x_reader, .ref ring, x_speeds, x_wheel, x_trials, x_span, x_search, x_kept, x_crosses, x_trueMasses, .ref thought, x_up, x_low, .ref fits, x_pulls]), (ring, ob 5 [.int hc, .ref rp, .ref rx, .ref ry, .ref rr, .ref rh, g_rd, .int ph, .int po]), (rp, aI G 16 fp), (rx, aI G 16 fx), (ry, aI G 16 fy), (rh, aI G 16 fh), (thought, aI G 8 ft)]) rfl (by decide) ?_
                    exact ih65 ((w_ + 1), (x_ + (wq * (fx ho_.toNatClampNeg))), (y_ + (wq * (fy ho_.toNatClampNeg))), (b_ ^^^ ((1 : Int32) <<< (ho_ &&& 31))), (b_ ^^^ ((1 : Int32) <<< (ho_ &&& 31))), rz_27) ⟨(by clear hb hW; (try dsimp only); have e : (w_ + 1).toInt = w_.toInt + 1 := tI_add rfl (show (1 : Int32).toInt = 1 from by decide) (by omega); omega), (by (try dsimp only); have ek_ : (w_ + 1).toInt.toNat - 1 = (w_.toInt.toNat - 1) + 1 := (by clear hb hW; have e : (w_ + 1).toInt = w_.toInt + 1 := tI_add rfl (show (1 : Int32).toInt = 1 from by decide) (by omega); omega); rw [ek_]; exact hB9_), hX9_, hY9_, (by (try dsimp only); have ek_ : (w_ + 1).toInt.toNat - 1 = (w_.toInt.toNat - 1) + 1 := (by clear hb hW; have e : (w_ + 1).toInt = w_.toInt + 1 := tI_add rfl (show (1 : Int32).toInt = 1 from by decide) (by omega); omega); rw [ek_]; exact GT.step hW (if_mn (by clear hb hW hB9_ hF_; omega)))⟩ (by clear hb hW; (try dsimp only); have e : (w_ + 1).toInt = w_.toInt + 1 := tI_add rfl (show (1 : Int32).toInt = 1 from by decide) (by omega); omega)
        · exact ⟨(by (try dsimp only); have e1 : (1 : Int32).toInt = 1 := (by decide); omega), (by (try dsimp only); rw [show (1 : Int32).toInt.toNat - 1 = 0 from by decide]; intro h _; rw [bt_0, GA_0]), (by (try dsimp only); rw [smA_none (fun j _ => bt_0 j), Int.add_zero, f32_10]; rfl), (by (try dsimp only); rw [smA_none (fun j _ => bt_0 j), Int.add_zero, f40_12]; rfl), (by (try dsimp only); rw [show (1 : Int32).toInt.toNat - 1 = 0 from by decide, hl0_]; exact GT.start)⟩
      ·
        refine z_ldc2 X dv_X10_all_18 cn_10_346 ?_
        exact z_lret X rfl dv_X10_all_21 (Nat.le_of_ble_eq_true rfl) (Nat.le_of_ble_eq_true rfl) ⟨((-1) : Int64), (Or.inl ⟨by omega, rfl⟩), rfl⟩

