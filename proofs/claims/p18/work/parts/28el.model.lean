/-! the mill, as a function of what lies on the tape -/
/-- the sign c, if it stands at p -/
def tk (f : Nat → Int32) (L p c : Int32) : Bool × Int32 := if p.toInt < L.toInt ∧ (f p.toNatClampNeg).toInt = c.toInt then (true, p + 1) else (false, p)
/-- a number of one or two digits, lo .. hi -/
def num (f : Nat → Int32) (L p lo hi : Int32) : Bool × Int32 × Int32 :=
  if p.toInt < L.toInt ∧ 48 ≤ (f p.toNatClampNeg).toInt ∧ (f p.toNatClampNeg).toInt ≤ 57 then
    if p.toInt + 1 < L.toInt ∧ 48 ≤ (f (p + 1).toNatClampNeg).toInt ∧ (f (p + 1).toNatClampNeg).toInt ≤ 57 then
      if lo.toInt ≤ 10 * ((f p.toNatClampNeg).toInt - 48) + (f (p + 1).toNatClampNeg).toInt - 48 ∧ 10 * ((f p.toNatClampNeg).toInt - 48) + (f (p + 1).toNatClampNeg).toInt - 48 ≤ hi.toInt then (true, p + 1 + 1, 10 * (f p.toNatClampNeg - 48) + f (p + 1).toNatClampNeg - 48) else (false, p + 1 + 1 - 1, 0)
    else if lo.toInt ≤ (f p.toNatClampNeg).toInt - 48 ∧ (f p.toNatClampNeg).toInt - 48 ≤ hi.toInt then (true, p + 1, f p.toNatClampNeg - 48) else (false, p + 1 - 1, 0)
  else (false, p, 0)
/-- a number with its sign -/
def sg (f : Nat → Int32) (L p : Int32) : Bool × Int32 × Int32 :=
  ((num f L (tk f L p 45).2 0 99).1, (num f L (tk f L p 45).2 0 99).2.1, if (tk f L p 45).1 = true then -(num f L (tk f L p 45).2 0 99).2.2 else (num f L (tk f L p 45).2 0 99).2.2)
/-- a line of a hole, from its letter at p, into place s -/
def hA (f : Nat → Int32) (L p : Int32) := num f L (p + 1) 0 1
def hB (f : Nat → Int32) (L p : Int32) := tk f L (hA f L p).2.1 44
def hC (f : Nat → Int32) (L p : Int32) := sg f L (hB f L p).2
def hD (f : Nat → Int32) (L p : Int32) := tk f L (hC f L p).2.1 44
def hE (f : Nat → Int32) (L p : Int32) := sg f L (hD f L p).2
def hF (f : Nat → Int32) (L p : Int32) := tk f L (hE f L p).2.1 44
def hG (f : Nat → Int32) (L p : Int32) := num f L (hF f L p).2 0 9
def hol (f : Nat → Int32) (L p : Int32) (s : Int) : Bool × Int32 :=
  if 16 ≤ s then (false, p)
  else if (hA f L p).1 = true then
    if (hB f L p).1 = true then
      if (hC f L p).1 = true then
        if (hD f L p).1 = true then
          if (hE f L p).1 = true then
            if (hF f L p).1 = true then ((hG f L p).1, (hG f L p).2.1)
            else (false, (hF f L p).2)
          else (false, (hE f L p).2.1)
        else (false, (hD f L p).2)
      else (false, (hC f L p).2.1)
    else (false, (hB f L p).2)
  else (false, (hA f L p).2.1)
/-- a line of a speed -/
def pA (f : Nat → Int32) (L p : Int32) := num f L (p + 1) 1 9
def pB (f : Nat → Int32) (L p : Int32) := tk f L (pA f L p).2.1 44
def pC (f : Nat → Int32) (L p : Int32) := num f L (pB f L p).2 0 9
def spd (f : Nat → Int32) (L p : Int32) (s : Int) : Bool × Int32 :=
  if 6 ≤ s then (false, p)
  else if (pA f L p).1 = true then
    if (pB f L p).1 = true then ((pC f L p).1, (pC f L p).2.1)
    else (false, (pB f L p).2)
  else (false, (pA f L p).2.1)
/-- a line of a cog -/
def cA (f : Nat → Int32) (L p : Int32) := num f L (p + 1) 0 99
def cog (f : Nat → Int32) (L p : Int32) (s : Int) : Bool × Int32 :=
  if 8 ≤ s then (false, p) else ((cA f L p).1, (cA f L p).2.1)
theorem upd_at {f : Nat → Int32} {k : Nat} {x : Int32} : upd f k x k = x := if_pos rfl
theorem upd_off {f : Nat → Int32} {k j : Nat} {x : Int32} (h : j ≠ k) : upd f k x j = f j := if_neg h
/-- four signs more, at N -/
def w4 (f : Nat → Int32) (N : Nat) (v : Int32) : Nat → Int32 := fun k => if k = N + 3 then (v >>> (0 &&& 31)) &&& 255 else if k = N + 2 then (v >>> (8 &&& 31)) &&& 255 else if k = N + 1 then (v >>> (16 &&& 31)) &&& 255 else if k = N + 0 then (v >>> (24 &&& 31)) &&& 255 else f k
section MDL
variable {f : Nat → Int32} {L p : Int32} {s : Int}
theorem hol_0 (h : 16 ≤ s) : hol f L p s = (false, p) := if_pos h
theorem hol_1 (h0 : ¬ 16 ≤ s) (h1 : ¬ (hA f L p).1 = true) : hol f L p s = (false, (hA f L p).2.1) := by
  unfold hol
  rw [if_neg h0, if_neg h1]
theorem hol_2 (h0 : ¬ 16 ≤ s) (h1 : (hA f L p).1 = true) (h2 : ¬ (hB f L p).1 = true) : hol f L p s = (false, (hB f L p).2) := by
  unfold hol
  rw [if_neg h0, if_pos h1, if_neg h2]
theorem hol_3 (h0 : ¬ 16 ≤ s) (h1 : (hA f L p).1 = true) (h2 : (hB f L p).1 = true) (h3 : ¬ (hC f L p).1 = true) : hol f L p s = (false, (hC f L p).2.1) := by
  unfold hol
  rw [if_neg h0, if_pos h1, if_pos h2, if_neg h3]
theorem hol_4 (h0 : ¬ 16 ≤ s) (h1 : (hA f L p).1 = true) (h2 : (hB f L p).1 = true) (h3 : (hC f L p).1 = true) (h4 : ¬ (hD f L p).1 = true) : hol f L p s = (false, (hD f L p).2) := by
  unfold hol
  rw [if_neg h0, if_pos h1, if_pos h2, if_pos h3, if_neg h4]
theorem hol_5 (h0 : ¬ 16 ≤ s) (h1 : (hA f L p).1 = true) (h2 : (hB f L p).1 = true) (h3 : (hC f L p).1 = true) (h4 : (hD f L p).1 = true) (h5 : ¬ (hE f L p).1 = true) : hol f L p s = (false, (hE f L p).2.1) := by
  unfold hol
  rw [if_neg h0, if_pos h1, if_pos h2, if_pos h3, if_pos h4, if_neg h5]
theorem hol_6 (h0 : ¬ 16 ≤ s) (h1 : (hA f L p).1 = true) (h2 : (hB f L p).1 = true) (h3 : (hC f L p).1 = true) (h4 : (hD f L p).1 = true) (h5 : (hE f L p).1 = true) (h6 : ¬ (hF f L p).1 = true) : hol f L p s = (false, (hF f L p).2) := by
  unfold hol
  rw [if_neg h0, if_pos h1, if_pos h2, if_pos h3, if_pos h4, if_pos h5, if_neg h6]
theorem hol_7 (h0 : ¬ 16 ≤ s) (h1 : (hA f L p).1 = true) (h2 : (hB f L p).1 = true) (h3 : (hC f L p).1 = true) (h4 : (hD f L p).1 = true) (h5 : (hE f L p).1 = true) (h6 : (hF f L p).1 = true) : hol f L p s = ((hG f L p).1, (hG f L p).2.1) := by
  unfold hol
  rw [if_neg h0, if_pos h1, if_pos h2, if_pos h3, if_pos h4, if_pos h5, if_pos h6]
theorem spd_0 (h : 6 ≤ s) : spd f L p s = (false, p) := if_pos h
theorem spd_1 (h0 : ¬ 6 ≤ s) (h1 : ¬ (pA f L p).1 = true) : spd f L p s = (false, (pA f L p).2.1) := by
  unfold spd
  rw [if_neg h0, if_neg h1]
theorem spd_2 (h0 : ¬ 6 ≤ s) (h1 : (pA f L p).1 = true) (h2 : ¬ (pB f L p).1 = true) : spd f L p s = (false, (pB f L p).2) := by
  unfold spd
  rw [if_neg h0, if_pos h1, if_neg h2]
theorem spd_3 (h0 : ¬ 6 ≤ s) (h1 : (pA f L p).1 = true) (h2 : (pB f L p).1 = true) : spd f L p s = ((pC f L p).1, (pC f L p).2.1) := by
  unfold spd
  rw [if_neg h0, if_pos h1, if_pos h2]
theorem cog_0 (h : 8 ≤ s) : cog f L p s = (false, p) := if_pos h
theorem cog_1 (h0 : ¬ 8 ≤ s) : cog f L p s = ((cA f L p).1, (cA f L p).2.1) := if_neg h0
end MDL
/-- a line, by its letter -/
def lin (f : Nat → Int32) (L p : Int32) (h s c : Int) : Bool × Int32 :=
  if p.toInt < L.toInt ∧ (f p.toNatClampNeg).toInt = 104 then hol f L p h
  else if p.toInt < L.toInt ∧ (f p.toNatClampNeg).toInt = 115 then spd f L p s
  else if p.toInt < L.toInt ∧ (f p.toNatClampNeg).toInt = 99 then cog f L p c
  else (false, p)
theorem lin_h {f : Nat → Int32} {L p : Int32} {h s c : Int} (h1 : p.toInt < L.toInt) (h2 : (f p.toNatClampNeg).toInt = 104) : lin f L p h s c = hol f L p h := if_pos ⟨h1, h2⟩
theorem lin_s {f : Nat → Int32} {L p : Int32} {h s c : Int} (h1 : p.toInt < L.toInt) (h2 : (f p.toNatClampNeg).toInt = 115) : lin f L p h s c = spd f L p s := by
  unfold lin
  rw [if_neg (by omega), if_pos ⟨h1, h2⟩]
theorem lin_c {f : Nat → Int32} {L p : Int32} {h s c : Int} (h1 : p.toInt < L.toInt) (h2 : (f p.toNatClampNeg).toInt = 99) : lin f L p h s c = cog f L p c := by
  unfold lin
  rw [if_neg (by omega), if_neg (by omega), if_pos ⟨h1, h2⟩]
theorem lin_0 {f : Nat → Int32} {L p : Int32} {h s c : Int} (h1 : p.toInt < L.toInt → (f p.toNatClampNeg).toInt ≠ 104 ∧ (f p.toNatClampNeg).toInt ≠ 115 ∧ (f p.toNatClampNeg).toInt ≠ 99) : lin f L p h s c = (false, p) := by
  unfold lin
  rw [if_neg (fun g => (h1 g.1).1 g.2), if_neg (fun g => (h1 g.1).2.1 g.2), if_neg (fun g => (h1 g.1).2.2 g.2)]
/-- what a line adds: a hole, a speed, a cog -/
def dl (c : Int) (f : Nat → Int32) (p : Int32) : Int := if (f p.toNatClampNeg).toInt = c then 1 else 0
theorem dl_1 {c : Int} {f : Nat → Int32} {p : Int32} (h : (f p.toNatClampNeg).toInt = c) : dl c f p = 1 := if_pos h
theorem dl_0 {c : Int} {f : Nat → Int32} {p : Int32} (h : (f p.toNatClampNeg).toInt ≠ c) : dl c f p = 0 := if_neg h
/-- the places of the lines that fill the slots -/
def nx (c : Int) (f : Nat → Int32) (p : Int32) (n : Int) (g : Nat → Int32) : Nat → Int32 := if (f p.toNatClampNeg).toInt = c then upd g n.toNat p else g
/-- line by line: whether the last one stands, where it ended, how many, the counts, where each slot's line began -/
def run (f : Nat → Int32) (L : Int32) : Nat → Int32 → Int → Int → Int → Int → (Nat → Int32) → (Nat → Int32) → (Nat → Int32) → Bool × Int32 × Int × Int × Int × Int × (Nat → Int32) × (Nat → Int32) × (Nat → Int32)
  | 0, p, h, s, c, k, a, b, d => (false, p, k, h, s, c, a, b, d)
  | n + 1, p, h, s, c, k, a, b, d =>
    if (lin f L p h s c).1 = true then
      if (tk f L (lin f L p h s c).2 59).1 = true then run f L n (tk f L (lin f L p h s c).2 59).2 (h + dl 104 f p) (s + dl 115 f p) (c + dl 99 f p) (k + 1) (nx 104 f p h a) (nx 115 f p s b) (nx 99 f p c d)
      else (true, (tk f L (lin f L p h s c).2 59).2, k + 1, h + dl 104 f p, s + dl 115 f p, c + dl 99 f p, nx 104 f p h a, nx 115 f p s b, nx 99 f p c d)
    else (false, (lin f L p h s c).2, k, h, s, c, a, b, d)
/-- what mill answers of n signs -/
def mil (f : Nat → Int32) (n : Int32) (r : Bool × Int32 × Int × Int × Int × Int × (Nat → Int32) × (Nat → Int32) × (Nat → Int32)) : Int :=
  if r.1 = true ∧ r.2.1.toInt = n.toInt then r.2.2.1 else -1 - r.2.1.toInt
