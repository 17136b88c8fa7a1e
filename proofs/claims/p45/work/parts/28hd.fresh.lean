section
/-! the worlds of new objects are typed -/
def wall (G : KG) (ad : Nat → Nat) : Nat → List TE → va_W → Prop
  | _, [], _ => True
  | _, _ :: _, [] => False
  | i, te :: T, q :: ws => q.1 = ad i ∧ ety G ad te q.2 ∧ wall G ad (i + 1) T ws
theorem wall_get {G : KG} {ad : Nat → Nat} : ∀ (i : Nat) (T : List TE) (ws : va_W), wall G ad i T ws → T.length ≤ ws.length ∧ ∀ (k : Nat) (te : TE), T[k]? = some te → ∃ en, ws[k]? = some (ad (i + k), en) ∧ ety G ad te en
  | _, [], _, _ => ⟨Nat.zero_le _, fun k te h => by simp at h⟩
  | _, _ :: _, [], h => h.elim
  | i, t0 :: T, (a, en) :: ws, h => by
    obtain ⟨h1, h2, h3⟩ := h
    obtain ⟨g1, g2⟩ := wall_get (i + 1) T ws h3
    refine ⟨Nat.succ_le_succ g1, fun k te hk => ?_⟩
    cases k with
    | zero =>
      cases hk
      have h1 : a = ad i := h1
      exact ⟨en, by rw [h1]; rfl, h2⟩
    | succ k =>
      obtain ⟨e2, q1, q2⟩ := g2 k te hk
      exact ⟨e2, by rw [show i + (k + 1) = i + 1 + k by omega]; exact q1, q2⟩
def vall (ad : Nat → Nat) : List VT → List Value → Prop
  | [], [] => True
  | t :: ts, v :: vs => vty ad t v ∧ vall ad ts vs
  | _, _ => False
theorem vall_get {ad : Nat → Nat} : ∀ (ts : List VT) (vs : List Value), vall ad ts vs → vs.length = ts.length ∧ ∀ (j : Nat) (t : VT) (v : Value), ts[j]? = some t → vs[j]? = some v → vty ad t v
  | [], [], _ => ⟨rfl, fun j t v h => by simp at h⟩
  | [], _ :: _, h => h.elim
  | _ :: _, [], h => h.elim
  | t0 :: ts, v0 :: vs, h => by
    obtain ⟨g1, g2⟩ := vall_get ts vs h.2
    refine ⟨congrArg Nat.succ g1, fun j t v h1 h2 => ?_⟩
    cases j with
    | zero => cases h1; cases h2; exact h.1
    | succ j => exact g2 j t v h1 h2
theorem e_ob {G : KG} {ad : Nat → Nat} {ci : Nat} {ts : List VT} {fs : List Value} (h : vall ad ts fs) : ety G ad (.inl (ci, ts)) (ob ci fs) := ⟨fs, rfl, vall_get ts fs h⟩
theorem z_aint {n : Nat} {t : VT} (z1 : t.2.1 ≤ 0) (z2 : 0 ≤ t.2.2) (z3 : t.1 ≠ 1) : aint n t (fun _ => 0) := fun _ _ => ⟨z1, z2, fun e => absurd e z3⟩
theorem d_aint {n : Nat} {t : VT} {f : Nat → Int32} (h : (List.range n).all (fun k => decide (t.2.1 ≤ (f k).toInt) && (decide ((f k).toInt ≤ t.2.2) && (!(Nat.beq t.1 1) || (decide ((KTY k).1 ≤ (f k).toInt) && decide ((f k).toInt ≤ (KTY k).2))))) = true) : aint n t f := by
  intro k hk
  have h := List.all_eq_true.mp h k (List.mem_range.mpr hk)
  obtain ⟨h1, h⟩ := and2 h
  obtain ⟨h2, h⟩ := and2 h
  refine ⟨of_decide_eq_true h1, of_decide_eq_true h2, fun e => ?_⟩
  rw [e] at h
  obtain ⟨h3, h4⟩ := and2 (show (decide ((KTY k).1 ≤ (f k).toInt) && decide ((f k).toInt ≤ (KTY k).2)) = true from h)
  exact ⟨of_decide_eq_true h3, of_decide_eq_true h4⟩
theorem e_I {G : KG} {ad : Nat → Nat} {n : Nat} {t : VT} {f : Nat → Int32} (h : aint n t f) : ety G ad (.inr (0, n, t)) (aI G n f) := Or.inl ⟨rfl, f, rfl, h⟩
theorem e_J {G : KG} {ad : Nat → Nat} {n : Nat} {t : VT} {f : Nat → Int64} : ety G ad (.inr (1, n, t)) (aJ G n f) := Or.inr (Or.inl ⟨rfl, f, rfl⟩)
theorem e_Z {G : KG} {ad : Nat → Nat} {n : Nat} {t : VT} {f : Nat → Int32} (h : aint n t f) : ety G ad (.inr (2, n, t)) (aZ G n f) := Or.inr (Or.inr (Or.inl ⟨rfl, f, rfl, h⟩))
theorem v_r {ad : Nat → Nat} {t : VT} {a : Nat} (h : t.1 = 2) (e : a = ad t.2.1.toNat) : vty ad t (.ref a) := Or.inr (Or.inr (Or.inl ⟨h, by rw [e]⟩))
theorem v_n {ad : Nat → Nat} {t : VT} (h : t.1 = 3) : vty ad t .null := Or.inr (Or.inr (Or.inr ⟨h, Or.inl rfl⟩))
abbrev w_x (G : KG) (x told tn reader rs ring rp rx ry rr rh rd speeds sf so sa sx sy wheel ww ws wb trials ts tw tf te tg tl tc tx ty span fx fy search qf qu qx qy qa qb qs qp qt kept k0 k0h k0t k0a k0af k0ao k0aa k0ax k0ay k0r k0rs k0rw k0rf k0re k0rg k0rl k0rc k0rx k0ry k1 k1h k1t k1a k1af k1ao k1aa k1ax k1ay k1r k1rs k1rw k1rf k1re k1rg k1rl k1rc k1rx k1ry k2 k2h k2t k2a k2af k2ao k2aa k2ax k2ay k2r k2rs k2rw k2rf k2re k2rg k2rl k2rc k2rx k2ry crosses trueM thought up low fits : Nat) : va_W := [(x, ob 10 [.ref told, .ref reader, .ref ring, .ref speeds, .ref wheel, .ref trials, .ref span, .ref search, .ref kept, .ref crosses, .ref trueM, .ref thought, .ref up, .ref low, .ref fits, .null]), (told, ob 8 [.ref tn, .int 0]), (tn, aJ G 16 (fun _ => 0)), (reader, ob 4 [.ref rs, .int 0, .int 0, .int 0, .int 0, .int 0, .int 0, .int 0]), (rs, aI G 80 (fun _ => 0)), (ring, ob 5 [.int 0, .ref rp, .ref rx, .ref ry, .ref rr, .ref rh, .ref rd, .int (-1), .int 0]), (rp, aI G 16 (fun _ => 0)), (rx, aI G 16 (fun _ => 0)), (ry, aI G 16 (fun _ => 0)), (rr, aI G 16 (fun _ => 0)), (rh, aI G 16 (fun _ => 0)), (rd, aI G 16 (fun _ => 0)), (speeds, ob 7 [.int 0, .ref sf, .ref so, .ref sa, .ref sx, .ref sy]), (sf, aI G 6 (fun _ => 0)), (so, aI G 6 (fun _ => 0)), (sa, aZ G 6 (fun _ => 0)), (sx, aI G 6 (fun _ => 0)), (sy, aI G 6 (fun _ => 0)), (wheel, ob 0 [.int 0, .ref ww, .ref ws, .ref wb, .int 0, .int 0, .long 0]), (ww, aI G 8 (fun _ => 0)), (ws, aI G 8 (fun _ => 0)), (wb, aI G 8 (fun _ => 0)), (trials, ob 9 [.int 0, .ref ts, .ref tw, .ref tf, .ref te, .ref tg, .ref tl, .ref tc, .ref tx, .ref ty]), (ts, aI G 12 (fun _ => 0)), (tw, aZ G 12 (fun _ => 0)), (tf, aI G 12 (fun _ => 0)), (te, aI G 12 (fun _ => 0)), (tg, aI G 12 (fun _ => 0)), (tl, aI G 48 (fun _ => 0)), (tc, aI G 12 (fun _ => 0)), (tx, aI G 12 (fun _ => 0)), (ty, aI G 12 (fun _ => 0)), (span, ob 1 [.int 0, .int 0, .int 0, .int 0, .int 0, .int 0, .int 0, .ref fx, .ref fy]), (fx, aI G 40 (fun _ => 0)), (fy, aI G 40 (fun _ => 0)), (search, ob 6 [.int 0, .int 0, .int 0, .ref qf, .ref qu, .ref qx, .ref qy, .ref qa, .ref qb, .ref qs, .ref qp, .ref qt, .int 0, .int 0, .long 0]), (qf, aI G 16 (fun _ => 0)), (qu, aI G 16 (fun _ => 0)), (qx, aJ G 6 (fun _ => 0)), (qy, aJ G 6 (fun _ => 0)), (qa, aJ G 96 (fun _ => 0)), (qb, aJ G 96 (fun _ => 0)), (qs, aJ G 16 (fun _ => 0)), (qp, aI G 16 (fun _ => 0)), (qt, aI G 16 (fun _ => 0)), (kept, aO G 3 (va_up (va_up (va_up (fun _ => none) 0 (some k0)) 1 (some k1)) 2 (some k2))), (k0, ob 2 [.int 0, .ref k0h, .ref k0t, .ref k0a, .ref k0r, .int 0, .int 0]), (k0h, aI G 16 (fun _ => 0)), (k0t, aI G 8 (fun _ => 0)), (k0a, ob 7 [.int 0, .ref k0af, .ref k0ao, .ref k0aa, .ref k0ax, .ref k0ay]), (k0af, aI G 6 (fun _ => 0)), (k0ao, aI G 6 (fun _ => 0)), (k0aa, aZ G 6 (fun _ => 0)), (k0ax, aI G 6 (fun _ => 0)), (k0ay, aI G 6 (fun _ => 0)), (k0r, ob 9 [.int 0, .ref k0rs, .ref k0rw, .ref k0rf, .ref k0re, .ref k0rg, .ref k0rl, .ref k0rc, .ref k0rx, .ref k0ry]), (k0rs, aI G 12 (fun _ => 0)), (k0rw, aZ G 12 (fun _ => 0)), (k0rf, aI G 12 (fun _ => 0)), (k0re, aI G 12 (fun _ => 0)), (k0rg, aI G 12 (fun _ => 0)), (k0rl, aI G 48 (fun _ => 0)), (k0rc, aI G 12 (fun _ => 0)), (k0rx, aI G 12 (fun _ => 0)), (k0ry, aI G 12 (fun _ => 0)), (k1, ob 2 [.int 0, .ref k1h, .ref k1t, .ref k1a, .ref k1r, .int 0, .int 0]), (k1h, aI G 16 (fun _ => 0)), (k1t, aI G 8 (fun _ => 0)), (k1a, ob 7 [.int 0, .ref k1af, .ref k1ao, .ref k1aa, .ref k1ax, .ref k1ay]), (k1af, aI G 6 (fun _ => 0)), (k1ao, aI G 6 (fun _ => 0)), (k1aa, aZ G 6 (fun _ => 0)), (k1ax, aI G 6 (fun _ => 0)), (k1ay, aI G 6 (fun _ => 0)), (k1r, ob 9 [.int 0, .ref k1rs, .ref k1rw, .ref k1rf, .ref k1re, .ref k1rg, .ref k1rl, .ref k1rc, .ref k1rx, .ref k1ry]), (k1rs, aI G 12 (fun _ => 0)), (k1rw, aZ G 12 (fun _ => 0)), (k1rf, aI G 12 (fun _ => 0)), (k1re, aI G 12 (fun _ => 0)), (k1rg, aI G 12 (fun _ => 0)), (k1rl, aI G 48 (fun _ => 0)), (k1rc, aI G 12 (fun _ => 0)), (k1rx, aI G 12 (fun _ => 0)), (k1ry, aI G 12 (fun _ => 0)), (k2, ob 2 [.int 0, .ref k2h, .ref k2t, .ref k2a, .ref k2r, .int 0, .int 0]), (k2h, aI G 16 (fun _ => 0)), (k2t, aI G 8 (fun _ => 0)), (k2a, ob 7 [.int 0, .ref k2af, .ref k2ao, .ref k2aa, .ref k2ax, .ref k2ay]), (k2af, aI G 6 (fun _ => 0)), (k2ao, aI G 6 (fun _ => 0)), (k2aa, aZ G 6 (fun _ => 0)), (k2ax, aI G 6 (fun _ => 0)), (k2ay, aI G 6 (fun _ => 0)), (k2r, ob 9 [.int 0, .ref k2rs, .ref k2rw, .ref k2rf, .ref k2re, .ref k2rg, .ref k2rl, .ref k2rc, .ref k2rx, .ref k2ry]), (k2rs, aI G 12 (fun _ => 0)), (k2rw, aZ G 12 (fun _ => 0)), (k2rf, aI G 12 (fun _ => 0)), (k2re, aI G 12 (fun _ => 0)), (k2rg, aI G 12 (fun _ => 0)), (k2rl, aI G 48 (fun _ => 0)), (k2rc, aI G 12 (fun _ => 0)), (k2rx, aI G 12 (fun _ => 0)), (k2ry, aI G 12 (fun _ => 0)), (crosses, aI G 4 (upd (upd (upd (upd (fun _ => 0) 0 1) 1 0) 2 0) 3 1)), (trueM, aI G 8 (fun _ => 0)), (thought, aI G 8 (fun _ => 0)), (up, aI G 3 (upd (upd (upd (fun _ => 0) 0 1) 1 1) 2 1)), (low, aI G 3 (upd (upd (upd (fun _ => 0) 0 1) 1 1) 2 1)), (fits, aI G 16 (fun _ => 0))]
abbrev a_x (x told tn reader rs ring rp rx ry rr rh rd speeds sf so sa sx sy wheel ww ws wb trials ts tw tf te tg tl tc tx ty span fx fy search qf qu qx qy qa qb qs qp qt kept k0 k0h k0t k0a k0af k0ao k0aa k0ax k0ay k0r k0rs k0rw k0rf k0re k0rg k0rl k0rc k0rx k0ry k1 k1h k1t k1a k1af k1ao k1aa k1ax k1ay k1r k1rs k1rw k1rf k1re k1rg k1rl k1rc k1rx k1ry k2 k2h k2t k2a k2af k2ao k2aa k2ax k2ay k2r k2rs k2rw k2rf k2re k2rg k2rl k2rc k2rx k2ry crosses trueM thought up low fits : Nat) : Nat → Nat := fun k => ([x, told, tn, reader, rs, ring, rp, rx, ry, rr, rh, rd, speeds, sf, so, sa, sx, sy, wheel, ww, ws, wb, trials, ts, tw, tf, te, tg, tl, tc, tx, ty, span, fx, fy, search, qf, qu, qx, qy, qa, qb, qs, qp, qt, kept, k0, k0h, k0t, k0a, k0af, k0ao, k0aa, k0ax, k0ay, k0r, k0rs, k0rw, k0rf, k0re, k0rg, k0rl, k0rc, k0rx, k0ry, k1, k1h, k1t, k1a, k1af, k1ao, k1aa, k1ax, k1ay, k1r, k1rs, k1rw, k1rf, k1re, k1rg, k1rl, k1rc, k1rx, k1ry, k2, k2h, k2t, k2a, k2af, k2ao, k2aa, k2ax, k2ay, k2r, k2rs, k2rw, k2rf, k2re, k2rg, k2rl, k2rc, k2rx, k2ry, crosses, trueM, thought, up, low, fits] : List Nat).getD k 0
set_option maxRecDepth 100000 in
set_option maxHeartbeats 4000000 in
theorem wa_x {G : KG} {x told tn reader rs ring rp rx ry rr rh rd speeds sf so sa sx sy wheel ww ws wb trials ts tw tf te tg tl tc tx ty span fx fy search qf qu qx qy qa qb qs qp qt kept k0 k0h k0t k0a k0af k0ao k0aa k0ax k0ay k0r k0rs k0rw k0rf k0re k0rg k0rl k0rc k0rx k0ry k1 k1h k1t k1a k1af k1ao k1aa k1ax k1ay k1r k1rs k1rw k1rf k1re k1rg k1rl k1rc k1rx k1ry k2 k2h k2t k2a k2af k2ao k2aa k2ax k2ay k2r k2rs k2rw k2rf k2re k2rg k2rl k2rc k2rx k2ry crosses trueM thought up low fits : Nat} : wall G (a_x x told tn reader rs ring rp rx ry rr rh rd speeds sf so sa sx sy wheel ww ws wb trials ts tw tf te tg tl tc tx ty span fx fy search qf qu qx qy qa qb qs qp qt kept k0 k0h k0t k0a k0af k0ao k0aa k0ax k0ay k0r k0rs k0rw k0rf k0re k0rg k0rl k0rc k0rx k0ry k1 k1h k1t k1a k1af k1ao k1aa k1ax k1ay k1r k1rs k1rw k1rf k1re k1rg k1rl k1rc k1rx k1ry k2 k2h k2t k2a k2af k2ao k2aa k2ax k2ay k2r k2rs k2rw k2rf k2re k2rg k2rl k2rc k2rx k2ry crosses trueM thought up low fits) 0 TX (w_x G x told tn reader rs ring rp rx ry rr rh rd speeds sf so sa sx sy wheel ww ws wb trials ts tw tf te tg tl tc tx ty span fx fy search qf qu qx qy qa qb qs qp qt kept k0 k0h k0t k0a k0af k0ao k0aa k0ax k0ay k0r k0rs k0rw k0rf k0re k0rg k0rl k0rc k0rx k0ry k1 k1h k1t k1a k1af k1ao k1aa k1ax k1ay k1r k1rs k1rw k1rf k1re k1rg k1rl k1rc k1rx k1ry k2 k2h k2t k2a k2af k2ao k2aa k2ax k2ay k2r k2rs k2rw k2rf k2re k2rg k2rl k2rc k2rx k2ry crosses trueM thought up low fits) := by
  refine ⟨rfl, e_ob ⟨v_r rfl rfl, v_r rfl rfl, v_r rfl rfl, v_r rfl rfl, v_r rfl rfl, v_r rfl rfl, v_r rfl rfl, v_r rfl rfl, v_r rfl rfl, v_r rfl rfl, v_r rfl rfl, v_r rfl rfl, v_r rfl rfl, v_r rfl rfl, v_r rfl rfl, v_n rfl, trivial⟩, ?_⟩
  refine ⟨rfl, e_ob ⟨v_r rfl rfl, vty_i (by decide) (by decide), trivial⟩, ?_⟩
  refine ⟨rfl, e_J, ?_⟩
  refine ⟨rfl, e_ob ⟨v_r rfl rfl, vty_i (by decide) (by decide), vty_i (by decide) (by decide), vty_i (by decide) (by decide), vty_i (by decide) (by decide), vty_i (by decide) (by decide), vty_i (by decide) (by decide), vty_i (by decide) (by decide), trivial⟩, ?_⟩
  refine ⟨rfl, e_I (d_aint (by decide +kernel)), ?_⟩
  refine ⟨rfl, e_ob ⟨vty_i (by decide) (by decide), v_r rfl rfl, v_r rfl rfl, v_r rfl rfl, v_r rfl rfl, v_r rfl rfl, v_r rfl rfl, vty_i (by decide) (by decide), vty_i (by decide) (by decide), trivial⟩, ?_⟩
  refine ⟨rfl, e_I (d_aint (by decide +kernel)), ?_⟩
  refine ⟨rfl, e_I (d_aint (by decide +kernel)), ?_⟩
  refine ⟨rfl, e_I (d_aint (by decide +kernel)), ?_⟩
  refine ⟨rfl, e_I (d_aint (by decide +kernel)), ?_⟩
  refine ⟨rfl, e_I (d_aint (by decide +kernel)), ?_⟩
  refine ⟨rfl, e_I (d_aint (by decide +kernel)), ?_⟩
  refine ⟨rfl, e_ob ⟨vty_i (by decide) (by decide), v_r rfl rfl, v_r rfl rfl, v_r rfl rfl, v_r rfl rfl, v_r rfl rfl, trivial⟩, ?_⟩
  refine ⟨rfl, e_I (d_aint (by decide +kernel)), ?_⟩
  refine ⟨rfl, e_I (d_aint (by decide +kernel)), ?_⟩
  refine ⟨rfl, e_Z (d_aint (by decide +kernel)), ?_⟩
  refine ⟨rfl, e_I (d_aint (by decide +kernel)), ?_⟩
  refine ⟨rfl, e_I (d_aint (by decide +kernel)), ?_⟩
  refine ⟨rfl, e_ob ⟨vty_i (by decide) (by decide), v_r rfl rfl, v_r rfl rfl, v_r rfl rfl, vty_i (by decide) (by decide), vty_i (by decide) (by decide), vty_l (by decide) (by decide), trivial⟩, ?_⟩
  refine ⟨rfl, e_I (d_aint (by decide +kernel)), ?_⟩
  refine ⟨rfl, e_I (d_aint (by decide +kernel)), ?_⟩
  refine ⟨rfl, e_I (d_aint (by decide +kernel)), ?_⟩
  refine ⟨rfl, e_ob ⟨vty_i (by decide) (by decide), v_r rfl rfl, v_r rfl rfl, v_r rfl rfl, v_r rfl rfl, v_r rfl rfl, v_r rfl rfl, v_r rfl rfl, v_r rfl rfl, v_r rfl rfl, trivial⟩, ?_⟩
  refine ⟨rfl, e_I (d_aint (by decide +kernel)), ?_⟩
  refine ⟨rfl, e_Z (d_aint (by decide +kernel)), ?_⟩
  refine ⟨rfl, e_I (d_aint (by decide +kernel)), ?_⟩
  refine ⟨rfl, e_I (d_aint (by decide +kernel)), ?_⟩
  refine ⟨rfl, e_I (d_aint (by decide +kernel)), ?_⟩
  refine ⟨rfl, e_I (d_aint (by decide +kernel)), ?_⟩
  refine ⟨rfl, e_I (d_aint (by decide +kernel)), ?_⟩
  refine ⟨rfl, e_I (d_aint (by decide +kernel)), ?_⟩
  refine ⟨rfl, e_I (d_aint (by decide +kernel)), ?_⟩
  refine ⟨rfl, e_ob ⟨vty_i (by decide) (by decide), vty_i (by decide) (by decide), vty_i (by decide) (by decide), vty_i (by decide) (by decide), vty_i (by decide) (by decide), vty_i (by decide) (by decide), vty_i (by decide) (by decide), v_r rfl rfl, v_r rfl rfl, trivial⟩, ?_⟩
  refine ⟨rfl, e_I (d_aint (by decide +kernel)), ?_⟩
  refine ⟨rfl, e_I (d_aint (by decide +kernel)), ?_⟩
  refine ⟨rfl, e_ob ⟨vty_i (by decide) (by decide), vty_i (by decide) (by decide), vty_i (by decide) (by decide), v_r rfl rfl, v_r rfl rfl, v_r rfl rfl, v_r rfl rfl, v_r rfl rfl, v_r rfl rfl, v_r rfl rfl, v_r rfl rfl, v_r rfl rfl, vty_i (by decide) (by decide), vty_i (by decide) (by decide), vty_l (by decide) (by decide), trivial⟩, ?_⟩
  refine ⟨rfl, e_I (d_aint (by decide +kernel)), ?_⟩
  refine ⟨rfl, e_I (d_aint (by decide +kernel)), ?_⟩
  refine ⟨rfl, e_J, ?_⟩
  refine ⟨rfl, e_J, ?_⟩
  refine ⟨rfl, e_J, ?_⟩
  refine ⟨rfl, e_J, ?_⟩
  refine ⟨rfl, e_J, ?_⟩
  refine ⟨rfl, e_I (d_aint (by decide +kernel)), ?_⟩
  refine ⟨rfl, e_I (d_aint (by decide +kernel)), ?_⟩
  refine ⟨rfl, Or.inr (Or.inr (Or.inr ⟨rfl, _, rfl, fun k hk => by
    match k, hk with
    | 0, _ => rfl
    | 1, _ => rfl
    | 2, _ => rfl
    | n + 3, h => exact absurd h (by omega)⟩)), ?_⟩
  refine ⟨rfl, e_ob ⟨vty_i (by decide) (by decide), v_r rfl rfl, v_r rfl rfl, v_r rfl rfl, v_r rfl rfl, vty_i (by decide) (by decide), vty_i (by decide) (by decide), trivial⟩, ?_⟩
  refine ⟨rfl, e_I (d_aint (by decide +kernel)), ?_⟩
  refine ⟨rfl, e_I (d_aint (by decide +kernel)), ?_⟩
  refine ⟨rfl, e_ob ⟨vty_i (by decide) (by decide), v_r rfl rfl, v_r rfl rfl, v_r rfl rfl, v_r rfl rfl, v_r rfl rfl, trivial⟩, ?_⟩
  refine ⟨rfl, e_I (d_aint (by decide +kernel)), ?_⟩
  refine ⟨rfl, e_I (d_aint (by decide +kernel)), ?_⟩
  refine ⟨rfl, e_Z (d_aint (by decide +kernel)), ?_⟩
  refine ⟨rfl, e_I (d_aint (by decide +kernel)), ?_⟩
  refine ⟨rfl, e_I (d_aint (by decide +kernel)), ?_⟩
  refine ⟨rfl, e_ob ⟨vty_i (by decide) (by decide), v_r rfl rfl, v_r rfl rfl, v_r rfl rfl, v_r rfl rfl, v_r rfl rfl, v_r rfl rfl, v_r rfl rfl, v_r rfl rfl, v_r rfl rfl, trivial⟩, ?_⟩
  refine ⟨rfl, e_I (d_aint (by decide +kernel)), ?_⟩
  refine ⟨rfl, e_Z (d_aint (by decide +kernel)), ?_⟩
  refine ⟨rfl, e_I (d_aint (by decide +kernel)), ?_⟩
  refine ⟨rfl, e_I (d_aint (by decide +kernel)), ?_⟩
  refine ⟨rfl, e_I (d_aint (by decide +kernel)), ?_⟩
  refine ⟨rfl, e_I (d_aint (by decide +kernel)), ?_⟩
  refine ⟨rfl, e_I (d_aint (by decide +kernel)), ?_⟩
  refine ⟨rfl, e_I (d_aint (by decide +kernel)), ?_⟩
  refine ⟨rfl, e_I (d_aint (by decide +kernel)), ?_⟩
  refine ⟨rfl, e_ob ⟨vty_i (by decide) (by decide), v_r rfl rfl, v_r rfl rfl, v_r rfl rfl, v_r rfl rfl, vty_i (by decide) (by decide), vty_i (by decide) (by decide), trivial⟩, ?_⟩
  refine ⟨rfl, e_I (d_aint (by decide +kernel)), ?_⟩
  refine ⟨rfl, e_I (d_aint (by decide +kernel)), ?_⟩
  refine ⟨rfl, e_ob ⟨vty_i (by decide) (by decide), v_r rfl rfl, v_r rfl rfl, v_r rfl rfl, v_r rfl rfl, v_r rfl rfl, trivial⟩, ?_⟩
  refine ⟨rfl, e_I (d_aint (by decide +kernel)), ?_⟩
  refine ⟨rfl, e_I (d_aint (by decide +kernel)), ?_⟩
  refine ⟨rfl, e_Z (d_aint (by decide +kernel)), ?_⟩
  refine ⟨rfl, e_I (d_aint (by decide +kernel)), ?_⟩
  refine ⟨rfl, e_I (d_aint (by decide +kernel)), ?_⟩
  refine ⟨rfl, e_ob ⟨vty_i (by decide) (by decide), v_r rfl rfl, v_r rfl rfl, v_r rfl rfl, v_r rfl rfl, v_r rfl rfl, v_r rfl rfl, v_r rfl rfl, v_r rfl rfl, v_r rfl rfl, trivial⟩, ?_⟩
  refine ⟨rfl, e_I (d_aint (by decide +kernel)), ?_⟩
  refine ⟨rfl, e_Z (d_aint (by decide +kernel)), ?_⟩
  refine ⟨rfl, e_I (d_aint (by decide +kernel)), ?_⟩
  refine ⟨rfl, e_I (d_aint (by decide +kernel)), ?_⟩
  refine ⟨rfl, e_I (d_aint (by decide +kernel)), ?_⟩
  refine ⟨rfl, e_I (d_aint (by decide +kernel)), ?_⟩
  refine ⟨rfl, e_I (d_aint (by decide +kernel)), ?_⟩
  refine ⟨rfl, e_I (d_aint (by decide +kernel)), ?_⟩
  refine ⟨rfl, e_I (d_aint (by decide +kernel)), ?_⟩
  refine ⟨rfl, e_ob ⟨vty_i (by decide) (by decide), v_r rfl rfl, v_r rfl rfl, v_r rfl rfl, v_r rfl rfl, vty_i (by decide) (by decide), vty_i (by decide) (by decide), trivial⟩, ?_⟩
  refine ⟨rfl, e_I (d_aint (by decide +kernel)), ?_⟩
  refine ⟨rfl, e_I (d_aint (by decide +kernel)), ?_⟩
  refine ⟨rfl, e_ob ⟨vty_i (by decide) (by decide), v_r rfl rfl, v_r rfl rfl, v_r rfl rfl, v_r rfl rfl, v_r rfl rfl, trivial⟩, ?_⟩
  refine ⟨rfl, e_I (d_aint (by decide +kernel)), ?_⟩
  refine ⟨rfl, e_I (d_aint (by decide +kernel)), ?_⟩
  refine ⟨rfl, e_Z (d_aint (by decide +kernel)), ?_⟩
  refine ⟨rfl, e_I (d_aint (by decide +kernel)), ?_⟩
  refine ⟨rfl, e_I (d_aint (by decide +kernel)), ?_⟩
  refine ⟨rfl, e_ob ⟨vty_i (by decide) (by decide), v_r rfl rfl, v_r rfl rfl, v_r rfl rfl, v_r rfl rfl, v_r rfl rfl, v_r rfl rfl, v_r rfl rfl, v_r rfl rfl, v_r rfl rfl, trivial⟩, ?_⟩
  refine ⟨rfl, e_I (d_aint (by decide +kernel)), ?_⟩
  refine ⟨rfl, e_Z (d_aint (by decide +kernel)), ?_⟩
  refine ⟨rfl, e_I (d_aint (by decide +kernel)), ?_⟩
  refine ⟨rfl, e_I (d_aint (by decide +kernel)), ?_⟩
  refine ⟨rfl, e_I (d_aint (by decide +kernel)), ?_⟩
  refine ⟨rfl, e_I (d_aint (by decide +kernel)), ?_⟩
  refine ⟨rfl, e_I (d_aint (by decide +kernel)), ?_⟩
  refine ⟨rfl, e_I (d_aint (by decide +kernel)), ?_⟩
  refine ⟨rfl, e_I (d_aint (by decide +kernel)), ?_⟩
  refine ⟨rfl, e_I (d_aint (by decide +kernel)), ?_⟩
  refine ⟨rfl, e_I (d_aint (by decide +kernel)), ?_⟩
  refine ⟨rfl, e_I (d_aint (by decide +kernel)), ?_⟩
  refine ⟨rfl, e_I (d_aint (by decide +kernel)), ?_⟩
  refine ⟨rfl, e_I (d_aint (by decide +kernel)), ?_⟩
  refine ⟨rfl, e_I (d_aint (by decide +kernel)), ?_⟩
  exact trivial
set_option maxRecDepth 100000 in
theorem cwx_new {G : KG} {x told tn reader rs ring rp rx ry rr rh rd speeds sf so sa sx sy wheel ww ws wb trials ts tw tf te tg tl tc tx ty span fx fy search qf qu qx qy qa qb qs qp qt kept k0 k0h k0t k0a k0af k0ao k0aa k0ax k0ay k0r k0rs k0rw k0rf k0re k0rg k0rl k0rc k0rx k0ry k1 k1h k1t k1a k1af k1ao k1aa k1ax k1ay k1r k1rs k1rw k1rf k1re k1rg k1rl k1rc k1rx k1ry k2 k2h k2t k2a k2af k2ao k2aa k2ax k2ay k2r k2rs k2rw k2rf k2re k2rg k2rl k2rc k2rx k2ry crosses trueM thought up low fits : Nat} : CWx G x (w_x G x told tn reader rs ring rp rx ry rr rh rd speeds sf so sa sx sy wheel ww ws wb trials ts tw tf te tg tl tc tx ty span fx fy search qf qu qx qy qa qb qs qp qt kept k0 k0h k0t k0a k0af k0ao k0aa k0ax k0ay k0r k0rs k0rw k0rf k0re k0rg k0rl k0rc k0rx k0ry k1 k1h k1t k1a k1af k1ao k1aa k1ax k1ay k1r k1rs k1rw k1rf k1re k1rg k1rl k1rc k1rx k1ry k2 k2h k2t k2a k2af k2ao k2aa k2ax k2ay k2r k2rs k2rw k2rf k2re k2rg k2rl k2rc k2rx k2ry crosses trueM thought up low fits) ∧ (w_x G x told tn reader rs ring rp rx ry rr rh rd speeds sf so sa sx sy wheel ww ws wb trials ts tw tf te tg tl tc tx ty span fx fy search qf qu qx qy qa qb qs qp qt kept k0 k0h k0t k0a k0af k0ao k0aa k0ax k0ay k0r k0rs k0rw k0rf k0re k0rg k0rl k0rc k0rx k0ry k1 k1h k1t k1a k1af k1ao k1aa k1ax k1ay k1r k1rs k1rw k1rf k1re k1rg k1rl k1rc k1rx k1ry k2 k2h k2t k2a k2af k2ao k2aa k2ax k2ay k2r k2rs k2rw k2rf k2re k2rg k2rl k2rc k2rx k2ry crosses trueM thought up low fits).length = 109 := by
  obtain ⟨h1, h2⟩ := wall_get _ _ _ (wa_x (G := G) (x := x) (told := told) (tn := tn) (reader := reader) (rs := rs) (ring := ring) (rp := rp) (rx := rx) (ry := ry) (rr := rr) (rh := rh) (rd := rd) (speeds := speeds) (sf := sf) (so := so) (sa := sa) (sx := sx) (sy := sy) (wheel := wheel) (ww := ww) (ws := ws) (wb := wb) (trials := trials) (ts := ts) (tw := tw) (tf := tf) (te := te) (tg := tg) (tl := tl) (tc := tc) (tx := tx) (ty := ty) (span := span) (fx := fx) (fy := fy) (search := search) (qf := qf) (qu := qu) (qx := qx) (qy := qy) (qa := qa) (qb := qb) (qs := qs) (qp := qp) (qt := qt) (kept := kept) (k0 := k0) (k0h := k0h) (k0t := k0t) (k0a := k0a) (k0af := k0af) (k0ao := k0ao) (k0aa := k0aa) (k0ax := k0ax) (k0ay := k0ay) (k0r := k0r) (k0rs := k0rs) (k0rw := k0rw) (k0rf := k0rf) (k0re := k0re) (k0rg := k0rg) (k0rl := k0rl) (k0rc := k0rc) (k0rx := k0rx) (k0ry := k0ry) (k1 := k1) (k1h := k1h) (k1t := k1t) (k1a := k1a) (k1af := k1af) (k1ao := k1ao) (k1aa := k1aa) (k1ax := k1ax) (k1ay := k1ay) (k1r := k1r) (k1rs := k1rs) (k1rw := k1rw) (k1rf := k1rf) (k1re := k1re) (k1rg := k1rg) (k1rl := k1rl) (k1rc := k1rc) (k1rx := k1rx) (k1ry := k1ry) (k2 := k2) (k2h := k2h) (k2t := k2t) (k2a := k2a) (k2af := k2af) (k2ao := k2ao) (k2aa := k2aa) (k2ax := k2ax) (k2ay := k2ay) (k2r := k2r) (k2rs := k2rs) (k2rw := k2rw) (k2rf := k2rf) (k2re := k2re) (k2rg := k2rg) (k2rl := k2rl) (k2rc := k2rc) (k2rx := k2rx) (k2ry := k2ry) (crosses := crosses) (trueM := trueM) (thought := thought) (up := up) (low := low) (fits := fits))
  exact ⟨⟨a_x x told tn reader rs ring rp rx ry rr rh rd speeds sf so sa sx sy wheel ww ws wb trials ts tw tf te tg tl tc tx ty span fx fy search qf qu qx qy qa qb qs qp qt kept k0 k0h k0t k0a k0af k0ao k0aa k0ax k0ay k0r k0rs k0rw k0rf k0re k0rg k0rl k0rc k0rx k0ry k1 k1h k1t k1a k1af k1ao k1aa k1ax k1ay k1r k1rs k1rw k1rf k1re k1rg k1rl k1rc k1rx k1ry k2 k2h k2t k2a k2af k2ao k2aa k2ax k2ay k2r k2rs k2rw k2rf k2re k2rg k2rl k2rc k2rx k2ry crosses trueM thought up low fits, rfl, Or.inl ⟨⟨h1, fun k te hk => by rw [← Nat.zero_add k]; exact (by simpa using h2 k te hk), nopfxX⟩, rfl, rfl⟩⟩, rfl⟩
abbrev w_m (G : KG) (mo r_row r_planeOf r_holeX r_holeY r_room r_ounces r_deepOf r_factor r_otherOf r_isApart r_apartX r_apartY r_weight r_tape r_crossOf r_trueX r_trueY r_thoughtX r_thoughtY r_lead r_trialSpeed r_isWhole r_trialX r_trialY r_trialGive r_trialLead r_trialBaseX r_trialBaseY r_trialTimes r_pulls r_sizes r_merged r_leftBehind r_manUp r_manLow r_asked r_lowOf r_highOf r_tried r_found r_parts r_filled r_cogAt r_cogBest r_isKept r_kept : Nat) : va_W := [(mo, ob 11 [.int 0, .int 0, .ref r_row, .int 0, .ref r_planeOf, .ref r_holeX, .ref r_holeY, .ref r_room, .ref r_ounces, .ref r_deepOf, .int 0, .ref r_factor, .ref r_otherOf, .ref r_isApart, .ref r_apartX, .ref r_apartY, .int 0, .ref r_weight, .ref r_tape, .int 0, .int 0, .int 0, .int 0, .ref r_crossOf, .ref r_trueX, .ref r_trueY, .ref r_thoughtX, .ref r_thoughtY, .int (-1), .int 0, .ref r_lead, .int 0, .ref r_trialSpeed, .ref r_isWhole, .ref r_trialX, .ref r_trialY, .ref r_trialGive, .ref r_trialLead, .long 0, .long 0, .long 0, .ref r_trialBaseX, .ref r_trialBaseY, .ref r_trialTimes, .ref r_pulls, .int 0, .ref r_sizes, .ref r_merged, .int 0, .int 0, .ref r_leftBehind, .ref r_manUp, .ref r_manLow, .ref r_asked, .ref r_lowOf, .ref r_highOf, .ref r_tried, .ref r_found, .int 0, .int 0, .int 0, .long 0, .int 0, .int 0, .int 0, .long 0, .ref r_parts, .ref r_filled, .ref r_cogAt, .ref r_cogBest, .int 0, .long 0, .ref r_isKept, .ref r_kept, .int 0]), (r_row, aJ G 24 (fun _ => 0)), (r_planeOf, aI G 16 (fun _ => 0)), (r_holeX, aI G 16 (fun _ => 0)), (r_holeY, aI G 16 (fun _ => 0)), (r_room, aI G 16 (fun _ => 0)), (r_ounces, aI G 16 (fun _ => 0)), (r_deepOf, aI G 16 (fun _ => 0)), (r_factor, aI G 6 (fun _ => 0)), (r_otherOf, aI G 6 (fun _ => 0)), (r_isApart, aZ G 6 (fun _ => 0)), (r_apartX, aI G 6 (fun _ => 0)), (r_apartY, aI G 6 (fun _ => 0)), (r_weight, aI G 8 (fun _ => 0)), (r_tape, aI G 80 (fun _ => 0)), (r_crossOf, aI G 4 (upd (upd (upd (upd (fun _ => 0) 0 1) 1 0) 2 0) 3 1)), (r_trueX, aI G 4 (fun _ => 0)), (r_trueY, aI G 4 (fun _ => 0)), (r_thoughtX, aI G 4 (fun _ => 0)), (r_thoughtY, aI G 4 (fun _ => 0)), (r_lead, aI G 4 (fun _ => 0)), (r_trialSpeed, aI G 12 (fun _ => 0)), (r_isWhole, aZ G 12 (fun _ => 0)), (r_trialX, aI G 12 (fun _ => 0)), (r_trialY, aI G 12 (fun _ => 0)), (r_trialGive, aI G 12 (fun _ => 0)), (r_trialLead, aI G 48 (fun _ => 0)), (r_trialBaseX, aJ G 12 (fun _ => 0)), (r_trialBaseY, aJ G 12 (fun _ => 0)), (r_trialTimes, aJ G 12 (fun _ => 0)), (r_pulls, aI G 14641 (fun _ => 0)), (r_sizes, aJ G 14641 (fun _ => 0)), (r_merged, aJ G 14641 (fun _ => 0)), (r_leftBehind, aI G 6 (fun _ => 0)), (r_manUp, aI G 3 (upd (upd (upd (fun _ => 0) 0 1) 1 1) 2 1)), (r_manLow, aI G 3 (upd (upd (upd (fun _ => 0) 0 1) 1 1) 2 1)), (r_asked, aI G 16 (fun _ => 0)), (r_lowOf, aI G 16 (fun _ => 0)), (r_highOf, aI G 16 (fun _ => 0)), (r_tried, aI G 16 (fun _ => 0)), (r_found, aI G 16 (fun _ => 0)), (r_parts, aJ G 9 (fun _ => 0)), (r_filled, aI G 16 (fun _ => 0)), (r_cogAt, aI G 8 (fun _ => 0)), (r_cogBest, aI G 8 (fun _ => 0)), (r_isKept, aZ G 3 (fun _ => 0)), (r_kept, aI G 462 (fun _ => 0))]
abbrev a_m (mo r_row r_planeOf r_holeX r_holeY r_room r_ounces r_deepOf r_factor r_otherOf r_isApart r_apartX r_apartY r_weight r_tape r_crossOf r_trueX r_trueY r_thoughtX r_thoughtY r_lead r_trialSpeed r_isWhole r_trialX r_trialY r_trialGive r_trialLead r_trialBaseX r_trialBaseY r_trialTimes r_pulls r_sizes r_merged r_leftBehind r_manUp r_manLow r_asked r_lowOf r_highOf r_tried r_found r_parts r_filled r_cogAt r_cogBest r_isKept r_kept : Nat) : Nat → Nat := fun k => ([mo, r_row, r_planeOf, r_holeX, r_holeY, r_room, r_ounces, r_deepOf, r_factor, r_otherOf, r_isApart, r_apartX, r_apartY, r_weight, r_tape, r_crossOf, r_trueX, r_trueY, r_thoughtX, r_thoughtY, r_lead, r_trialSpeed, r_isWhole, r_trialX, r_trialY, r_trialGive, r_trialLead, r_trialBaseX, r_trialBaseY, r_trialTimes, r_pulls, r_sizes, r_merged, r_leftBehind, r_manUp, r_manLow, r_asked, r_lowOf, r_highOf, r_tried, r_found, r_parts, r_filled, r_cogAt, r_cogBest, r_isKept, r_kept] : List Nat).getD k 0
set_option maxRecDepth 100000 in
set_option maxHeartbeats 4000000 in
theorem wa_m {G : KG} {mo r_row r_planeOf r_holeX r_holeY r_room r_ounces r_deepOf r_factor r_otherOf r_isApart r_apartX r_apartY r_weight r_tape r_crossOf r_trueX r_trueY r_thoughtX r_thoughtY r_lead r_trialSpeed r_isWhole r_trialX r_trialY r_trialGive r_trialLead r_trialBaseX r_trialBaseY r_trialTimes r_pulls r_sizes r_merged r_leftBehind r_manUp r_manLow r_asked r_lowOf r_highOf r_tried r_found r_parts r_filled r_cogAt r_cogBest r_isKept r_kept : Nat} : wall G (a_m mo r_row r_planeOf r_holeX r_holeY r_room r_ounces r_deepOf r_factor r_otherOf r_isApart r_apartX r_apartY r_weight r_tape r_crossOf r_trueX r_trueY r_thoughtX r_thoughtY r_lead r_trialSpeed r_isWhole r_trialX r_trialY r_trialGive r_trialLead r_trialBaseX r_trialBaseY r_trialTimes r_pulls r_sizes r_merged r_leftBehind r_manUp r_manLow r_asked r_lowOf r_highOf r_tried r_found r_parts r_filled r_cogAt r_cogBest r_isKept r_kept) 0 TM (w_m G mo r_row r_planeOf r_holeX r_holeY r_room r_ounces r_deepOf r_factor r_otherOf r_isApart r_apartX r_apartY r_weight r_tape r_crossOf r_trueX r_trueY r_thoughtX r_thoughtY r_lead r_trialSpeed r_isWhole r_trialX r_trialY r_trialGive r_trialLead r_trialBaseX r_trialBaseY r_trialTimes r_pulls r_sizes r_merged r_leftBehind r_manUp r_manLow r_asked r_lowOf r_highOf r_tried r_found r_parts r_filled r_cogAt r_cogBest r_isKept r_kept) := by
  refine ⟨rfl, e_ob ⟨vty_i (by decide) (by decide), vty_i (by decide) (by decide), v_r rfl rfl, vty_i (by decide) (by decide), v_r rfl rfl, v_r rfl rfl, v_r rfl rfl, v_r rfl rfl, v_r rfl rfl, v_r rfl rfl, vty_i (by decide) (by decide), v_r rfl rfl, v_r rfl rfl, v_r rfl rfl, v_r rfl rfl, v_r rfl rfl, vty_i (by decide) (by decide), v_r rfl rfl, v_r rfl rfl, vty_i (by decide) (by decide), vty_i (by decide) (by decide), vty_i (by decide) (by decide), vty_i (by decide) (by decide), v_r rfl rfl, v_r rfl rfl, v_r rfl rfl, v_r rfl rfl, v_r rfl rfl, vty_i (by decide) (by decide), vty_i (by decide) (by decide), v_r rfl rfl, vty_i (by decide) (by decide), v_r rfl rfl, v_r rfl rfl, v_r rfl rfl, v_r rfl rfl, v_r rfl rfl, v_r rfl rfl, vty_l (by decide) (by decide), vty_l (by decide) (by decide), vty_l (by decide) (by decide), v_r rfl rfl, v_r rfl rfl, v_r rfl rfl, v_r rfl rfl, vty_i (by decide) (by decide), v_r rfl rfl, v_r rfl rfl, vty_i (by decide) (by decide), vty_i (by decide) (by decide), v_r rfl rfl, v_r rfl rfl, v_r rfl rfl, v_r rfl rfl, v_r rfl rfl, v_r rfl rfl, v_r rfl rfl, v_r rfl rfl, vty_i (by decide) (by decide), vty_i (by decide) (by decide), vty_i (by decide) (by decide), vty_l (by decide) (by decide), vty_i (by decide) (by decide), vty_i (by decide) (by decide), vty_i (by decide) (by decide), vty_l (by decide) (by decide), v_r rfl rfl, v_r rfl rfl, v_r rfl rfl, v_r rfl rfl, vty_i (by decide) (by decide), vty_l (by decide) (by decide), v_r rfl rfl, v_r rfl rfl, vty_i (by decide) (by decide), trivial⟩, ?_⟩
  refine ⟨rfl, e_J, ?_⟩
  refine ⟨rfl, e_I (d_aint (by decide +kernel)), ?_⟩
  refine ⟨rfl, e_I (d_aint (by decide +kernel)), ?_⟩
  refine ⟨rfl, e_I (d_aint (by decide +kernel)), ?_⟩
  refine ⟨rfl, e_I (d_aint (by decide +kernel)), ?_⟩
  refine ⟨rfl, e_I (d_aint (by decide +kernel)), ?_⟩
  refine ⟨rfl, e_I (d_aint (by decide +kernel)), ?_⟩
  refine ⟨rfl, e_I (d_aint (by decide +kernel)), ?_⟩
  refine ⟨rfl, e_I (d_aint (by decide +kernel)), ?_⟩
  refine ⟨rfl, e_Z (d_aint (by decide +kernel)), ?_⟩
  refine ⟨rfl, e_I (d_aint (by decide +kernel)), ?_⟩
  refine ⟨rfl, e_I (d_aint (by decide +kernel)), ?_⟩
  refine ⟨rfl, e_I (d_aint (by decide +kernel)), ?_⟩
  refine ⟨rfl, e_I (d_aint (by decide +kernel)), ?_⟩
  refine ⟨rfl, e_I (d_aint (by decide +kernel)), ?_⟩
  refine ⟨rfl, e_I (d_aint (by decide +kernel)), ?_⟩
  refine ⟨rfl, e_I (d_aint (by decide +kernel)), ?_⟩
  refine ⟨rfl, e_I (d_aint (by decide +kernel)), ?_⟩
  refine ⟨rfl, e_I (d_aint (by decide +kernel)), ?_⟩
  refine ⟨rfl, e_I (d_aint (by decide +kernel)), ?_⟩
  refine ⟨rfl, e_I (d_aint (by decide +kernel)), ?_⟩
  refine ⟨rfl, e_Z (d_aint (by decide +kernel)), ?_⟩
  refine ⟨rfl, e_I (d_aint (by decide +kernel)), ?_⟩
  refine ⟨rfl, e_I (d_aint (by decide +kernel)), ?_⟩
  refine ⟨rfl, e_I (d_aint (by decide +kernel)), ?_⟩
  refine ⟨rfl, e_I (d_aint (by decide +kernel)), ?_⟩
  refine ⟨rfl, e_J, ?_⟩
  refine ⟨rfl, e_J, ?_⟩
  refine ⟨rfl, e_J, ?_⟩
  refine ⟨rfl, e_I (d_aint (by decide +kernel)), ?_⟩
  refine ⟨rfl, e_J, ?_⟩
  refine ⟨rfl, e_J, ?_⟩
  refine ⟨rfl, e_I (d_aint (by decide +kernel)), ?_⟩
  refine ⟨rfl, e_I (d_aint (by decide +kernel)), ?_⟩
  refine ⟨rfl, e_I (d_aint (by decide +kernel)), ?_⟩
  refine ⟨rfl, e_I (d_aint (by decide +kernel)), ?_⟩
  refine ⟨rfl, e_I (d_aint (by decide +kernel)), ?_⟩
  refine ⟨rfl, e_I (d_aint (by decide +kernel)), ?_⟩
  refine ⟨rfl, e_I (d_aint (by decide +kernel)), ?_⟩
  refine ⟨rfl, e_I (d_aint (by decide +kernel)), ?_⟩
  refine ⟨rfl, e_J, ?_⟩
  refine ⟨rfl, e_I (d_aint (by decide +kernel)), ?_⟩
  refine ⟨rfl, e_I (d_aint (by decide +kernel)), ?_⟩
  refine ⟨rfl, e_I (d_aint (by decide +kernel)), ?_⟩
  refine ⟨rfl, e_Z (d_aint (by decide +kernel)), ?_⟩
  refine ⟨rfl, e_I (d_aint (by decide +kernel)), ?_⟩
  exact trivial
theorem tm_codes : (List.range 47).all (fun k => match TM[k]? with | some (.inr o) => !(Nat.beq o.1 0) || (!(Nat.ble 2 o.2.2.1) || (Nat.beq k 2 || Nat.beq k 8 || Nat.beq k 36)) | _ => true) = true := by decide
set_option maxRecDepth 100000 in
theorem pfx_m {G : KG} {mo r_row r_planeOf r_holeX r_holeY r_room r_ounces r_deepOf r_factor r_otherOf r_isApart r_apartX r_apartY r_weight r_tape r_crossOf r_trueX r_trueY r_thoughtX r_thoughtY r_lead r_trialSpeed r_isWhole r_trialX r_trialY r_trialGive r_trialLead r_trialBaseX r_trialBaseY r_trialTimes r_pulls r_sizes r_merged r_leftBehind r_manUp r_manLow r_asked r_lowOf r_highOf r_tried r_found r_parts r_filled r_cogAt r_cogBest r_isKept r_kept : Nat} : PFX G TM (w_m G mo r_row r_planeOf r_holeX r_holeY r_room r_ounces r_deepOf r_factor r_otherOf r_isApart r_apartX r_apartY r_weight r_tape r_crossOf r_trueX r_trueY r_thoughtX r_thoughtY r_lead r_trialSpeed r_isWhole r_trialX r_trialY r_trialGive r_trialLead r_trialBaseX r_trialBaseY r_trialTimes r_pulls r_sizes r_merged r_leftBehind r_manUp r_manLow r_asked r_lowOf r_highOf r_tried r_found r_parts r_filled r_cogAt r_cogBest r_isKept r_kept) := by
  intro k n t a f c i h1 h2 h3 h4 h5
  have hk : k < 47 := (List.getElem?_eq_some_iff.mp h1).1
  have h9 := List.all_eq_true.mp tm_codes k (List.mem_range.mpr hk)
  rw [h1] at h9
  have h9 : (!(Nat.ble 2 t.1) || (Nat.beq k 2 || Nat.beq k 8 || Nat.beq k 36)) = true := h9
  rw [Nat.ble_eq_true_of_le h2] at h9
  have h9 : (Nat.beq k 2 || Nat.beq k 8 || Nat.beq k 36) = true := h9
  rw [Bool.or_eq_true, Bool.or_eq_true] at h9
  rcases h9 with (h9 | h9) | h9
  · cases Nat.eq_of_beq_eq_true h9
    cases h3
    have ht := Option.some.inj h1
    have ht : (14, _, _) = t := congrArg (fun q => q.2.2) (Sum.inr.inj ht)
    subst ht
    have h4 : some (Value.int 0) = some (.int c) := h4
    cases h4
    exact Or.inl ⟨by decide, fun h => absurd h (by show ¬ ((i : Int) < 0); omega)⟩
  · cases Nat.eq_of_beq_eq_true h9
    cases h3
    have ht := Option.some.inj h1
    have ht : (43, _, _) = t := congrArg (fun q => q.2.2) (Sum.inr.inj ht)
    subst ht
    have h4 : some (Value.int 0) = some (.int c) := h4
    cases h4
    exact Or.inl ⟨by decide, fun h => absurd h (by show ¬ ((i : Int) < 0); omega)⟩
  · cases Nat.eq_of_beq_eq_true h9
    cases h3
    have ht := Option.some.inj h1
    have ht : (16, _, _) = t := congrArg (fun q => q.2.2) (Sum.inr.inj ht)
    subst ht
    have h4 : some (Value.int 0) = some (.int c) := h4
    cases h4
    exact Or.inr ⟨by decide, Or.inl rfl⟩
set_option maxRecDepth 100000 in
theorem mwx_new {G : KG} {mo r_row r_planeOf r_holeX r_holeY r_room r_ounces r_deepOf r_factor r_otherOf r_isApart r_apartX r_apartY r_weight r_tape r_crossOf r_trueX r_trueY r_thoughtX r_thoughtY r_lead r_trialSpeed r_isWhole r_trialX r_trialY r_trialGive r_trialLead r_trialBaseX r_trialBaseY r_trialTimes r_pulls r_sizes r_merged r_leftBehind r_manUp r_manLow r_asked r_lowOf r_highOf r_tried r_found r_parts r_filled r_cogAt r_cogBest r_isKept r_kept : Nat} : MWx G mo (w_m G mo r_row r_planeOf r_holeX r_holeY r_room r_ounces r_deepOf r_factor r_otherOf r_isApart r_apartX r_apartY r_weight r_tape r_crossOf r_trueX r_trueY r_thoughtX r_thoughtY r_lead r_trialSpeed r_isWhole r_trialX r_trialY r_trialGive r_trialLead r_trialBaseX r_trialBaseY r_trialTimes r_pulls r_sizes r_merged r_leftBehind r_manUp r_manLow r_asked r_lowOf r_highOf r_tried r_found r_parts r_filled r_cogAt r_cogBest r_isKept r_kept) := by
  obtain ⟨h1, h2⟩ := wall_get _ _ _ (wa_m (G := G) (mo := mo) (r_row := r_row) (r_planeOf := r_planeOf) (r_holeX := r_holeX) (r_holeY := r_holeY) (r_room := r_room) (r_ounces := r_ounces) (r_deepOf := r_deepOf) (r_factor := r_factor) (r_otherOf := r_otherOf) (r_isApart := r_isApart) (r_apartX := r_apartX) (r_apartY := r_apartY) (r_weight := r_weight) (r_tape := r_tape) (r_crossOf := r_crossOf) (r_trueX := r_trueX) (r_trueY := r_trueY) (r_thoughtX := r_thoughtX) (r_thoughtY := r_thoughtY) (r_lead := r_lead) (r_trialSpeed := r_trialSpeed) (r_isWhole := r_isWhole) (r_trialX := r_trialX) (r_trialY := r_trialY) (r_trialGive := r_trialGive) (r_trialLead := r_trialLead) (r_trialBaseX := r_trialBaseX) (r_trialBaseY := r_trialBaseY) (r_trialTimes := r_trialTimes) (r_pulls := r_pulls) (r_sizes := r_sizes) (r_merged := r_merged) (r_leftBehind := r_leftBehind) (r_manUp := r_manUp) (r_manLow := r_manLow) (r_asked := r_asked) (r_lowOf := r_lowOf) (r_highOf := r_highOf) (r_tried := r_tried) (r_found := r_found) (r_parts := r_parts) (r_filled := r_filled) (r_cogAt := r_cogAt) (r_cogBest := r_cogBest) (r_isKept := r_isKept) (r_kept := r_kept))
  exact ⟨a_m mo r_row r_planeOf r_holeX r_holeY r_room r_ounces r_deepOf r_factor r_otherOf r_isApart r_apartX r_apartY r_weight r_tape r_crossOf r_trueX r_trueY r_thoughtX r_thoughtY r_lead r_trialSpeed r_isWhole r_trialX r_trialY r_trialGive r_trialLead r_trialBaseX r_trialBaseY r_trialTimes r_pulls r_sizes r_merged r_leftBehind r_manUp r_manLow r_asked r_lowOf r_highOf r_tried r_found r_parts r_filled r_cogAt r_cogBest r_isKept r_kept, rfl, h1, fun k te hk => by rw [← Nat.zero_add k]; exact (by simpa using h2 k te hk), pfx_m⟩
set_option maxRecDepth 100000 in
set_option maxHeartbeats 4000000 in
theorem c_newX (l : Launch) (G : KG) (x : Nat) : Ct l G yX10_init cX10_init 2 none { frames := 3, cells := 108, slots := 1528, locals := 60 } [.ref x] [(x, ob 10 [.null, .null, .null, .null, .null, .null, .null, .null, .null, .null, .null, .null, .null, .null, .null, .null])] (fun r w1 => r = none ∧ (CWx G x w1 ∧ w1.length = 109) ∧ (fget w1 3 1 = some (.int 0) ∧ fget w1 5 0 = some (.int 0) ∧ fget w1 12 0 = some (.int 0) ∧ fget w1 18 0 = some (.int 0) ∧ cget w1 4 0 = some (.inr (cyI G, 80, .inl (fun _ => 0))) ∧ cget w1 6 0 = some (.inr (cyI G, 16, .inl (fun _ => 0))) ∧ cget w1 9 0 = some (.inr (cyI G, 16, .inl (fun _ => 0))) ∧ cget w1 13 0 = some (.inr (cyI G, 6, .inl (fun _ => 0))) ∧ cget w1 14 0 = some (.inr (cyI G, 6, .inl (fun _ => 0))) ∧ cget w1 19 0 = some (.inr (cyI G, 8, .inl (fun _ => 0))) ∧ cget w1 11 0 = some (.inr (cyI G, 16, .inl (fun _ => 0))) ∧ cget w1 103 0 = some (.inr (cyI G, 4, .inl (upd (upd (upd (upd (fun _ => 0) 0 1) 1 0) 2 0) 3 1))) ∧ cget w1 7 0 = some (.inr (cyI G, 16, .inl (fun _ => 0))) ∧ cget w1 8 0 = some (.inr (cyI G, 16, .inl (fun _ => 0))) ∧ cget w1 10 0 = some (.inr (cyI G, 16, .inl (fun _ => 0))) ∧ cget w1 105 0 = some (.inr (cyI G, 8, .inl (fun _ => 0))) ∧ fget w1 46 0 = some (.int 0) ∧ cget w1 47 0 = some (.inr (cyI G, 16, .inl (fun _ => 0))) ∧ cget w1 48 0 = some (.inr (cyI G, 8, .inl (fun _ => 0))) ∧ fget w1 65 0 = some (.int 0) ∧ cget w1 66 0 = some (.inr (cyI G, 16, .inl (fun _ => 0))) ∧ cget w1 67 0 = some (.inr (cyI G, 8, .inl (fun _ => 0))) ∧ fget w1 84 0 = some (.int 0) ∧ cget w1 85 0 = some (.inr (cyI G, 16, .inl (fun _ => 0))) ∧ cget w1 86 0 = some (.inr (cyI G, 8, .inl (fun _ => 0))))) :=
  Ct.weak (c_X10_init l G x) (fun _ _ h => Exists.elim h fun told h => Exists.elim h fun reader h => Exists.elim h fun ring h => Exists.elim h fun speeds h => Exists.elim h fun wheel h => Exists.elim h fun trials h => Exists.elim h fun span h => Exists.elim h fun search h => Exists.elim h fun kept h => Exists.elim h fun crosses h => Exists.elim h fun trueM h => Exists.elim h fun thought h => Exists.elim h fun up h => Exists.elim h fun low h => Exists.elim h fun fits h => Exists.elim h fun tn h => Exists.elim h fun rs h => Exists.elim h fun rp h => Exists.elim h fun rx h => Exists.elim h fun ry h => Exists.elim h fun rr h => Exists.elim h fun rh h => Exists.elim h fun rd h => Exists.elim h fun sf h => Exists.elim h fun so h => Exists.elim h fun sa h => Exists.elim h fun sx h => Exists.elim h fun sy h => Exists.elim h fun ww h => Exists.elim h fun ws h => Exists.elim h fun wb h => Exists.elim h fun ts h => Exists.elim h fun tw h => Exists.elim h fun tf h => Exists.elim h fun te h => Exists.elim h fun tg h => Exists.elim h fun tl h => Exists.elim h fun tc h => Exists.elim h fun tx h => Exists.elim h fun ty h => Exists.elim h fun fx h => Exists.elim h fun fy h => Exists.elim h fun qf h => Exists.elim h fun qu h => Exists.elim h fun qx h => Exists.elim h fun qy h => Exists.elim h fun qa h => Exists.elim h fun qb h => Exists.elim h fun qs h => Exists.elim h fun qp h => Exists.elim h fun qt h => Exists.elim h fun k0 h => Exists.elim h fun k1 h => Exists.elim h fun k2 h => Exists.elim h fun k0h h => Exists.elim h fun k0t h => Exists.elim h fun k0a h => Exists.elim h fun k0r h => Exists.elim h fun k0af h => Exists.elim h fun k0ao h => Exists.elim h fun k0aa h => Exists.elim h fun k0ax h => Exists.elim h fun k0ay h => Exists.elim h fun k0rs h => Exists.elim h fun k0rw h => Exists.elim h fun k0rf h => Exists.elim h fun k0re h => Exists.elim h fun k0rg h => Exists.elim h fun k0rl h => Exists.elim h fun k0rc h => Exists.elim h fun k0rx h => Exists.elim h fun k0ry h => Exists.elim h fun k1h h => Exists.elim h fun k1t h => Exists.elim h fun k1a h => Exists.elim h fun k1r h => Exists.elim h fun k1af h => Exists.elim h fun k1ao h => Exists.elim h fun k1aa h => Exists.elim h fun k1ax h => Exists.elim h fun k1ay h => Exists.elim h fun k1rs h => Exists.elim h fun k1rw h => Exists.elim h fun k1rf h => Exists.elim h fun k1re h => Exists.elim h fun k1rg h => Exists.elim h fun k1rl h => Exists.elim h fun k1rc h => Exists.elim h fun k1rx h => Exists.elim h fun k1ry h => Exists.elim h fun k2h h => Exists.elim h fun k2t h => Exists.elim h fun k2a h => Exists.elim h fun k2r h => Exists.elim h fun k2af h => Exists.elim h fun k2ao h => Exists.elim h fun k2aa h => Exists.elim h fun k2ax h => Exists.elim h fun k2ay h => Exists.elim h fun k2rs h => Exists.elim h fun k2rw h => Exists.elim h fun k2rf h => Exists.elim h fun k2re h => Exists.elim h fun k2rg h => Exists.elim h fun k2rl h => Exists.elim h fun k2rc h => Exists.elim h fun k2rx h => Exists.elim h fun k2ry h => ⟨h.1, by rw [h.2]; exact cwx_new, by rw [h.2]; exact ⟨rfl, rfl, rfl, rfl, rfl, rfl, rfl, rfl, rfl, rfl, rfl, rfl, rfl, rfl, rfl, rfl, rfl, rfl, rfl, rfl, rfl, rfl, rfl, rfl, rfl⟩⟩)
set_option maxRecDepth 100000 in
set_option maxHeartbeats 4000000 in
theorem c_newM (l : Launch) (G : KG) (mo : Nat) : Ct l G yX11_init cX11_init 1 none { frames := 1, cells := 46, slots := 44927, locals := 20 } [.ref mo] [(mo, ob 11 [.int 0, .int 0, .null, .int 0, .null, .null, .null, .null, .null, .null, .int 0, .null, .null, .null, .null, .null, .int 0, .null, .null, .int 0, .int 0, .int 0, .int 0, .null, .null, .null, .null, .null, .int 0, .int 0, .null, .int 0, .null, .null, .null, .null, .null, .null, .long 0, .long 0, .long 0, .null, .null, .null, .null, .int 0, .null, .null, .int 0, .int 0, .null, .null, .null, .null, .null, .null, .null, .null, .int 0, .int 0, .int 0, .long 0, .int 0, .int 0, .int 0, .long 0, .null, .null, .null, .null, .int 0, .long 0, .null, .null, .int 0])] (fun r w1 => r = none ∧ MWx G mo w1 ∧ (fget w1 0 19 = some (.int 0) ∧ fget w1 0 3 = some (.int 0) ∧ fget w1 0 10 = some (.int 0) ∧ fget w1 0 16 = some (.int 0) ∧ cget w1 14 0 = some (.inr (cyI G, 80, .inl (fun _ => 0))) ∧ cget w1 2 0 = some (.inr (cyI G, 16, .inl (fun _ => 0))) ∧ cget w1 5 0 = some (.inr (cyI G, 16, .inl (fun _ => 0))) ∧ cget w1 8 0 = some (.inr (cyI G, 6, .inl (fun _ => 0))) ∧ cget w1 9 0 = some (.inr (cyI G, 6, .inl (fun _ => 0))) ∧ cget w1 13 0 = some (.inr (cyI G, 8, .inl (fun _ => 0))) ∧ cget w1 7 0 = some (.inr (cyI G, 16, .inl (fun _ => 0))) ∧ cget w1 15 0 = some (.inr (cyI G, 4, .inl (upd (upd (upd (upd (fun _ => 0) 0 1) 1 0) 2 0) 3 1))) ∧ cget w1 3 0 = some (.inr (cyI G, 16, .inl (fun _ => 0))) ∧ cget w1 4 0 = some (.inr (cyI G, 16, .inl (fun _ => 0))) ∧ cget w1 6 0 = some (.inr (cyI G, 16, .inl (fun _ => 0))) ∧ cget w1 18 0 = some (.inr (cyI G, 4, .inl (fun _ => 0))) ∧ cget w1 19 0 = some (.inr (cyI G, 4, .inl (fun _ => 0))) ∧ cget w1 45 0 = some (.inr (cyZ G, 3, .inl (fun _ => 0))) ∧ cget w1 46 0 = some (.inr (cyI G, 462, .inl (fun _ => 0))))) :=
  Ct.weak (c_X11_init l G mo) (fun _ _ h => Exists.elim h fun r_row h => Exists.elim h fun r_planeOf h => Exists.elim h fun r_holeX h => Exists.elim h fun r_holeY h => Exists.elim h fun r_room h => Exists.elim h fun r_ounces h => Exists.elim h fun r_deepOf h => Exists.elim h fun r_factor h => Exists.elim h fun r_otherOf h => Exists.elim h fun r_isApart h => Exists.elim h fun r_apartX h => Exists.elim h fun r_apartY h => Exists.elim h fun r_weight h => Exists.elim h fun r_tape h => Exists.elim h fun r_crossOf h => Exists.elim h fun r_trueX h => Exists.elim h fun r_trueY h => Exists.elim h fun r_thoughtX h => Exists.elim h fun r_thoughtY h => Exists.elim h fun r_lead h => Exists.elim h fun r_trialSpeed h => Exists.elim h fun r_isWhole h => Exists.elim h fun r_trialX h => Exists.elim h fun r_trialY h => Exists.elim h fun r_trialGive h => Exists.elim h fun r_trialLead h => Exists.elim h fun r_trialBaseX h => Exists.elim h fun r_trialBaseY h => Exists.elim h fun r_trialTimes h => Exists.elim h fun r_pulls h => Exists.elim h fun r_sizes h => Exists.elim h fun r_merged h => Exists.elim h fun r_leftBehind h => Exists.elim h fun r_manUp h => Exists.elim h fun r_manLow h => Exists.elim h fun r_asked h => Exists.elim h fun r_lowOf h => Exists.elim h fun r_highOf h => Exists.elim h fun r_tried h => Exists.elim h fun r_found h => Exists.elim h fun r_parts h => Exists.elim h fun r_filled h => Exists.elim h fun r_cogAt h => Exists.elim h fun r_cogBest h => Exists.elim h fun r_isKept h => Exists.elim h fun r_kept h => ⟨h.1, by rw [h.2]; exact mwx_new, by rw [h.2]; exact ⟨rfl, rfl, rfl, rfl, rfl, rfl, rfl, rfl, rfl, rfl, rfl, rfl, rfl, rfl, rfl, rfl, rfl, rfl, rfl⟩⟩)
end
section
set_option maxHeartbeats 200000 in
theorem p0_1 : Cond.laysStatic Bundle.tN "UNASSIGNED_STACK" Bundle.steD ∈ lw_tbl := by decide +kernel
set_option maxHeartbeats 200000 in
theorem p0_2 : Cond.laysStatic Bundle.tN "SUPPRESSED_SENTINEL" Bundle.listD ∈ lw_tbl := by decide +kernel
set_option maxHeartbeats 200000 in
theorem p0_3 : Cond.initialized Bundle.tN ∈ lw_tbl := by decide +kernel
set_option maxHeartbeats 200000 in
theorem p0_4 : Cond.castable NSE NSE ∈ lw_tbl := by decide +kernel
set_option maxHeartbeats 200000 in
theorem p0_5 : Cond.declares (Bundle.initS xRT) ∈ lw_tbl := by decide +kernel
set_option maxHeartbeats 200000 in
theorem p0_6 : Cond.declares (Bundle.initS "java/lang/Exception") ∈ lw_tbl := by decide +kernel
set_option maxHeartbeats 200000 in
theorem p0_7 : Cond.declares (Bundle.initS Bundle.tN) ∈ lw_tbl := by decide +kernel
set_option maxHeartbeats 200000 in
theorem p0_8 : Cond.stringRef RX10 111 "no such hole" ∈ lw_tbl := by decide +kernel
set_option maxHeartbeats 200000 in
theorem p0_8b : Cond.stringRef RX10 134 "nothing such of a hole" ∈ lw_tbl := by decide +kernel
set_option maxHeartbeats 200000 in
theorem p0_9 : Cond.stringRef RX10 496 "no such number of the row" ∈ lw_tbl := by decide +kernel
set_option maxHeartbeats 200000 in
theorem p0_10 : Cond.isRef (.static Bundle.tN "UNASSIGNED_STACK" Bundle.steD) ∈ flatC (Jvm.Cond.and given_1 narrow_1) := by decide +kernel
set_option maxHeartbeats 200000 in
theorem p0_11 : Cond.isRef (.static Bundle.tN "SUPPRESSED_SENTINEL" Bundle.listD) ∈ flatC (Jvm.Cond.and given_1 narrow_1) := by decide +kernel
set_option maxHeartbeats 200000 in
theorem p0_all {s : State} {b : Nat} (hts : ∀ w ∈ lw_tbl, w.before #[Value.ref b] s = true) (hgv : (Jvm.Cond.and given_1 narrow_1).before #[Value.ref b] s = true) : EXs (fun q : Nat => s.heap.size ≤ q) s s.heap := by
  have hs := flat_of_before _ hgv
  have hnA : ∀ a : Nat, a < s.heap.size → ¬ (fun q : Nat => s.heap.size ≤ q) a := fun a h => Nat.not_le.mpr h
  exact ⟨vx_Zqof (hts _ p0_1) (hts _ p0_3) (hs _ p0_10) hnA, vx_Zqof (hts _ p0_2) (hts _ p0_3) (hs _ p0_11) hnA, va_Nw.of rfl (hts _ p0_4), ⟨va_Nw.of rfl (hts _ p0_5), va_Nw.of rfl (hts _ p0_6), va_Nw.of rfl (hts _ p0_7)⟩, xn_st.of (hts _ p0_8), xn_st.of (hts _ p0_8b), xn_st.of (hts _ p0_9)⟩
set_option maxHeartbeats 8000000 in
set_option maxRecDepth 100000 in
theorem whole_start {p : Program} {e : Env} {s : State} {m : MethodId} {below : List Frame} {meth : Method} {c : Code} (l : Launch) (hflags : l.flags = flags0) {b L : Nat} {xs : Nat → Int32} (hL : L ≤ 5120) (C0 : lw_At p s m meth c b L xs) : W p l e room_1 s m #[Value.ref b] below meth c s.heap [] 0 0 (lw_Z below #[Value.ref b] s) (entryFrame m ([Value.ref b] : List Value).toArray 8) := by
  obtain ⟨hx, hb, hr, hml, hown, hts, hX, hbl, hlocks, hgv⟩ := id C0
  have hBIG : ∀ w ∈ BIG, w.before #[Value.ref b] s = true := fun w hw => hts w (big_tbl hw)
  obtain ⟨c0, iS0, hKn0⟩ := u_known (C := RX0) (T := TX0) (N := 7) (n := 7) hBIG wsb_0 (hBIG _ is_0)
  obtain ⟨c1, iS1, hKn1⟩ := u_known (C := RX1) (T := TX1) (N := 9) (n := 9) hBIG wsb_1 (hBIG _ is_1)
  obtain ⟨c2, iS2, hKn2⟩ := u_known (C := RX2) (T := TX2) (N := 7) (n := 7) hBIG wsb_2 (hBIG _ is_2)
  obtain ⟨c3, iS3, hKn3⟩ := u_known (C := RX3) (T := TX3) (N := 9) (n := 9) hBIG wsb_3 (hBIG _ is_3)
  obtain ⟨c4, iS4, hKn4⟩ := u_known (C := RX4) (T := TX4) (N := 8) (n := 8) hBIG wsb_4 (hBIG _ is_4)
  obtain ⟨c5, iS5, hKn5⟩ := u_known (C := RX5) (T := TX5) (N := 9) (n := 9) hBIG wsb_5 (hBIG _ is_5)
  obtain ⟨c6, iS6, hKn6⟩ := u_known (C := RX6) (T := TX6) (N := 15) (n := 15) hBIG wsb_6 (hBIG _ is_6)
  obtain ⟨c7, iS7, hKn7⟩ := u_known (C := RX7) (T := TX7) (N := 6) (n := 6) hBIG wsb_7 (hBIG _ is_7)
  obtain ⟨c8, iS8, hKn8⟩ := u_known (C := RX8) (T := TX8) (N := 2) (n := 2) hBIG wsb_8 (hBIG _ is_8)
  obtain ⟨c9, iS9, hKn9⟩ := u_known (C := RX9) (T := TX9) (N := 10) (n := 10) hBIG wsb_9 (hBIG _ is_9)
  obtain ⟨c10, iS10, hKn10⟩ := u_known (C := RX10) (T := TX10) (N := 16) (n := 16) hBIG wsb_10 (hBIG _ is_10)
  obtain ⟨c11, iS11, hKn11⟩ := u_known (C := RX11) (T := TX11) (N := 75) (n := 75) hBIG wsb_11 (hBIG _ is_11)
  obtain ⟨tI, hI⟩ := tys_in (Or.inl rfl) (hBIG _ ac_0)
  obtain ⟨tJ, hJ⟩ := tys_in (Or.inr (Or.inl rfl)) (hBIG _ ac_1)
  obtain ⟨tZ, hZ⟩ := tys_in (Or.inr (Or.inr rfl)) (hBIG _ ac_2)
  obtain ⟨tO, hO⟩ := tys_ob (hts _ ao_0)
  obtain ⟨G, hKK⟩ : ∃ G : KG, KK G s := by
    refine ⟨((fun k => [c0, c1, c2, c3, c4, c5, c6, c7, c8, c9, c10, c11].getD k c0, fun k => [iS0, iS1, iS2, iS3, iS4, iS5, iS6, iS7, iS8, iS9, iS10, iS11].getD k iS0), tI, tJ, tZ, tO), ⟨⟨?_, ?_⟩, NWs.of hts ao_0⟩⟩
    · intro k q hq
      match k, hq with
      | 0, hq => cases hq; exact hKn0
      | 1, hq => cases hq; exact hKn1
      | 2, hq => cases hq; exact hKn2
      | 3, hq => cases hq; exact hKn3
      | 4, hq => cases hq; exact hKn4
      | 5, hq => cases hq; exact hKn5
      | 6, hq => cases hq; exact hKn6
      | 7, hq => cases hq; exact hKn7
      | 8, hq => cases hq; exact hKn8
      | 9, hq => cases hq; exact hKn9
      | 10, hq => cases hq; exact hKn10
      | 11, hq => cases hq; exact hKn11
      | k + 12, hq => simp [vwCl] at hq
    · intro k q hq
      match k, hq with
      | 0, hq => cases hq; exact hI
      | 1, hq => cases hq; exact hJ
      | 2, hq => cases hq; exact hZ
      | 3, hq => cases hq; exact hO
      | k + 4, hq => simp at hq
  have hbA : ¬ (fun q : Nat => s.heap.size ≤ q) b := Nat.not_le.mpr hbl
  have X : ZC p s m #[Value.ref b] meth c code 8 RL G (fun q : Nat => s.heap.size ≤ q) ret meth.name := ⟨hx, hb, hml, hown, hBIG, hKK, fun _ h => h, hlocks, hr, rfl⟩
  have hst : l.stackTraces = false := by
    unfold Launch.stackTraces
    rw [hflags]
    decide +kernel
  have hP0 : EXs (fun q : Nat => s.heap.size ≤ q) s s.heap := p0_all hts hgv
  have hz : Z p l e room_1 s m #[Value.ref b] below meth c 8 G (fun q : Nat => s.heap.size ≤ q) (lw_Z below #[Value.ref b] s) 0 [(0, .ref b)] [] [] 0 0 := by
    refine z_new X (T := TX10) (N := 16) (ci := 10) rfl wsb_10 tyX10 tyX10_ok cl_L_8 is_10 in_10 (fs := [.null, .null, .null, .null, .null, .null, .null, .null, .null, .null, .null, .null, .null, .null, .null, .null]) (by decide) (Nat.le_of_ble_eq_true rfl) (Nat.le_of_ble_eq_true rfl) d_lw_0 (fun x => ?_)
    refine z_dup X d_lw_3 rfl ?_
    refine z_callI X k_L_19 (c_newX l G x) d_lw_4 ⟨Nat.le_of_ble_eq_true rfl, Nat.le_of_ble_eq_true rfl⟩ ⟨Nat.le_of_ble_eq_true rfl, Nat.le_of_ble_eq_true rfl⟩ rfl (rest := [.ref x]) (As := []) rfl (Nat.le_of_ble_eq_true rfl) [0] [] rfl (by decide) (wr := []) rfl (by decide) (by decide) (fun r wx hp => ?_)
    obtain ⟨rfl, ⟨hx1, hlx⟩, ht1⟩ := hp
    refine z_astore_n X d_lw_7 rfl (by decide) (lv' := [(1, .ref x), (0, .ref b)]) rfl ?_
    refine z_new X (T := TX11) (N := 75) (ci := 11) rfl wsb_11 tyX11 tyX11_ok cl_L_20 is_11 in_11 (fs := [.int 0, .int 0, .null, .int 0, .null, .null, .null, .null, .null, .null, .int 0, .null, .null, .null, .null, .null, .int 0, .null, .null, .int 0, .int 0, .int 0, .int 0, .null, .null, .null, .null, .null, .int 0, .int 0, .null, .int 0, .null, .null, .null, .null, .null, .null, .long 0, .long 0, .long 0, .null, .null, .null, .null, .int 0, .null, .null, .int 0, .int 0, .null, .null, .null, .null, .null, .null, .null, .null, .int 0, .int 0, .int 0, .long 0, .int 0, .int 0, .int 0, .long 0, .null, .null, .null, .null, .int 0, .long 0, .null, .null, .int 0]) (by decide) (Nat.le_of_ble_eq_true rfl) (Nat.le_of_ble_eq_true rfl) d_lw_8 (fun y => ?_)
    refine z_dup X d_lw_11 rfl ?_
    refine z_callI X k_L_22 (c_newM l G y) d_lw_12 ⟨Nat.le_of_ble_eq_true rfl, Nat.le_of_ble_eq_true rfl⟩ ⟨Nat.le_of_ble_eq_true rfl, Nat.le_of_ble_eq_true rfl⟩ rfl (rest := [.ref y]) (As := []) rfl (Nat.le_of_ble_eq_true rfl) [109] (List.range 109) (by
      show [(wx ++ _)[109]?] = _
      rw [List.getElem?_append_right (by omega), hlx]
      rfl) (by decide) (wr := wx) (by
      have h9 := range_pick wx
      rw [hlx] at h9
      rw [← h9]
      refine List.map_congr_left (fun i hi => ?_)
      have := List.mem_range.mp hi
      exact List.getElem?_append_left (by show i < wx.length; omega)) (va_nd_range _) (by decide) (fun r wm hp => ?_)
    obtain ⟨rfl, hy1, ht2⟩ := hp
    refine z_astore_n X d_lw_15 rfl (by decide) (lv' := [(2, .ref y), (1, .ref x), (0, .ref b)]) rfl ?_
    refine z_iconst X d_lw_16 (v := 1) (by decide) ?_
    refine z_newa X (atype := .long) (ty := .long) ac_1 rfl (Or.inr (Or.inl rfl)) 1 (n := 1) (N' := 1) (a0 := (1, .inr (.inl (fun _ => 0)))) rfl (fun _ => rfl) (by decide) rfl (Nat.le_of_ble_eq_true rfl) (Nat.le_of_ble_eq_true rfl) (Nat.le_of_ble_eq_true rfl) d_lw_17 (fun o => ?_)
    refine z_astore_n X d_lw_19 rfl (by decide) (lv' := [(3, .ref o), (2, .ref y), (1, .ref x), (0, .ref b)]) rfl ?_
    refine z_iconst X d_lw_20 (v := 0) (by decide) ?_
    refine z_istore X d_lw_21 (by decide) (lv' := [(4, .int 0), (3, .ref o), (2, .ref y), (1, .ref x), (0, .ref b)]) rfl ?_
    refine Z.mono (lw' := lv5 b x y o 0) (fun q hq => by simp only [List.mem_cons, List.not_mem_nil, or_false] at hq ⊢; rcases hq with h | h | h | h | h <;> simp [h]) ?_
    exact lw_loop (c0 := 157) (s0 := 46547) X hX hbl hbA hP0 hst hL (by decide) (by decide) (L + 1) 0 wx wm (fun _ => 0) _ _ 0 hx1 hy1 (RelQ.of ⟨0, 0, 0, 0, (fun _ => 0), (fun _ => 0), by decide, by decide, fun _ _ => rfl, ⟨ht1.1, ht2.1⟩, ⟨ht1.2.1, ht2.2.1⟩, ⟨ht1.2.2.1, ht2.2.2.1⟩, ⟨ht1.2.2.2.1, ht2.2.2.2.1⟩, ht1.2.2.2.2.1, ht2.2.2.2.2.1⟩ ⟨0, 0, 0, ⟨ht1.2.1, ht1.2.2.1, ht1.2.2.2.1⟩, ⟨_, _, ht1.2.2.2.2.2.1, ht2.2.2.2.2.2.1, fun _ _ _ => rfl⟩, ⟨_, _, ht1.2.2.2.2.2.2.1, ht2.2.2.2.2.2.2.1, fun _ _ _ => rfl⟩, ⟨_, _, ht1.2.2.2.2.2.2.2.1, ht2.2.2.2.2.2.2.2.1, fun _ _ _ => rfl⟩, ⟨_, _, ht1.2.2.2.2.2.2.2.2.1, ht2.2.2.2.2.2.2.2.2.1, fun _ _ _ => rfl⟩, ⟨_, _, ht1.2.2.2.2.2.2.2.2.2.1, ht2.2.2.2.2.2.2.2.2.2.1, fun _ _ _ => rfl⟩⟩ ⟨0, ht1.2.1, ⟨_, _, ht1.2.2.2.2.2.2.2.2.2.2.1, ht2.2.2.2.2.2.2.2.2.2.2.1, fun _ _ _ => rfl⟩, _, ht1.2.2.2.2.2.2.2.2.2.2.1, fun _ _ _ => rfl⟩ ⟨_, _, ht1.2.2.2.2.2.2.2.2.2.2.2.1, ht2.2.2.2.2.2.2.2.2.2.2.2.1, fun _ _ => rfl⟩ ⟨0, ht1.2.1, ⟨_, _, ht1.2.2.2.2.2.2.2.2.2.2.2.2.1, ht2.2.2.2.2.2.2.2.2.2.2.2.2.1, fun _ _ _ => rfl⟩, ⟨_, _, ht1.2.2.2.2.2.2.2.2.2.2.2.2.2.1, ht2.2.2.2.2.2.2.2.2.2.2.2.2.2.1, fun _ _ _ => rfl⟩⟩ ⟨0, 0, 0, ⟨ht1.2.1, ht1.2.2.1, ht1.2.2.2.1⟩, ⟨_, ht1.2.2.2.2.2.2.2.2.2.2.2.2.1, fun j _ h => absurd h (by have z : (0 : Int32).toInt = 0 := (by decide); omega)⟩, ⟨_, ht1.2.2.2.2.2.2.2.2.2.2.2.2.2.1, fun j _ h => absurd h (by have z : (0 : Int32).toInt = 0 := (by decide); omega)⟩, ⟨_, ht1.2.2.2.2.2.2.2.1, fun j _ h => absurd h (by have z : (0 : Int32).toInt = 0 := (by decide); omega)⟩, ⟨_, ht1.2.2.2.2.2.2.2.2.1, fun j _ h => absurd h (by have z : (0 : Int32).toInt = 0 := (by decide); omega)⟩, ⟨_, ht1.2.2.2.2.2.2.2.2.2.1, fun j _ h => absurd h (by have z : (0 : Int32).toInt = 0 := (by decide); omega)⟩⟩ ⟨0, _, _, _, ht1.2.1, ht1.2.2.2.2.2.2.2.2.2.2.2.2.2.2.1, ht2.2.2.2.2.2.2.2.2.2.2.2.2.2.2.1, ht1.2.2.2.2.2.2.1, fun _ _ _ => rfl, fun _ _ _ => rfl, fun _ _ => Int.le_refl _⟩ ⟨_, _, _, ht1.2.2.2.2.2.2.2.2.2.2.2.2.2.2.2.1, ht2.2.2.2.2.2.2.2.2.2.2.2.2.2.2.2.1, ht2.2.2.2.2.2.2.2.2.2.2.2.2.2.2.2.2.1, fun _ _ => ⟨rfl, rfl⟩, (fun _ _ => (by decide : -9999 ≤ (0 : Int32).toInt ∧ (0 : Int32).toInt ≤ 9999))⟩ ⟨0, _, _, _, ht1.2.1, ht1.2.2.2.2.2.2.1, ht2.2.2.2.2.2.2.2.2.2.2.2.2.2.2.2.2.2.1, ht2.2.2.2.2.2.2.2.2.2.2.2.2.2.2.2.2.2.2, (fun i hi => by rcases (by omega : i = 0 ∨ i = 1 ∨ i = 2) with rfl | rfl | rfl; exact ⟨0, _, _, ht1.2.2.2.2.2.2.2.2.2.2.2.2.2.2.2.2.1, ht1.2.2.2.2.2.2.2.2.2.2.2.2.2.2.2.2.2.1, ht1.2.2.2.2.2.2.2.2.2.2.2.2.2.2.2.2.2.2.1, rfl, by decide, fun z => absurd (show (0 : Int32).toInt = 0 by decide) z, fun _ _ _ => rfl, fun _ _ => Int.le_refl _, (fun _ _ => (by decide : -9999 ≤ (0 : Int32).toInt ∧ (0 : Int32).toInt ≤ 9999))⟩; exact ⟨0, _, _, ht1.2.2.2.2.2.2.2.2.2.2.2.2.2.2.2.2.2.2.2.1, ht1.2.2.2.2.2.2.2.2.2.2.2.2.2.2.2.2.2.2.2.2.1, ht1.2.2.2.2.2.2.2.2.2.2.2.2.2.2.2.2.2.2.2.2.2.1, rfl, by decide, fun z => absurd (show (0 : Int32).toInt = 0 by decide) z, fun _ _ _ => rfl, fun _ _ => Int.le_refl _, (fun _ _ => (by decide : -9999 ≤ (0 : Int32).toInt ∧ (0 : Int32).toInt ≤ 9999))⟩; exact ⟨0, _, _, ht1.2.2.2.2.2.2.2.2.2.2.2.2.2.2.2.2.2.2.2.2.2.2.1, ht1.2.2.2.2.2.2.2.2.2.2.2.2.2.2.2.2.2.2.2.2.2.2.2.1, ht1.2.2.2.2.2.2.2.2.2.2.2.2.2.2.2.2.2.2.2.2.2.2.2.2, rfl, by decide, fun z => absurd (show (0 : Int32).toInt = 0 by decide) z, fun _ _ _ => rfl, fun _ _ => Int.le_refl _, (fun _ _ => (by decide : -9999 ≤ (0 : Int32).toInt ∧ (0 : Int32).toInt ≤ 9999))⟩)⟩) (by decide) (by show (0 : Int) ≤ (L : Int); omega) (by decide) (Or.inl ⟨hlx, by decide, by decide⟩) (by show ((L : Int) - 0).toNat < L + 1; omega)
  have hl := lv_entry ([.ref b]) (n := 8) (Nat.le_of_ble_eq_true rfl)
  rw [lg_entry_eq]
  exact hz s.heap [] _ (fun k q h => by simp at h) ⟨fun i j p q h => by simp at h, fun k q h => by simp at h⟩ va_S.rf hl
end
