/-! rows over a typed world, for walks by hand -/
section HW
variable {p : Program} {l : Launch} {e : Env} {R : Room} {s : State} {m : MethodId} {args : Array Value} {below : List Frame} {meth : Method} {c : Code} {nL : Nat} {G : KG} {A : Nat → Prop} {Q : State → Prop} {cc : ByteArray} {own : String} {ret : Option FieldType} {nm : String} {kc ks : Nat}
variable {ad : Nat → Nat} {T : List TE} {ws : va_W} {lw : List (Nat × Value)} {rest : List Value} {pc : Nat}
theorem fget_ob (hW : WT G ad T ws) {k ci j : Nat} {ts : List VT} {v : Value} (hT : T[k]? = some (.inl (ci, ts))) (hv : fget ws k j = some v) : ∃ fs, ws[k]? = some (ad k, ob ci fs) ∧ fs[j]? = some v := by
  obtain ⟨en, h1, fs, rfl, h2, h3⟩ := hW.2.1 k _ hT
  exact ⟨fs, h1, by rw [← fget_of h1]; exact hv⟩
theorem hget (X : ZC p s m args meth c cc nL own G A ret nm) (hW : WT G ad T ws) {idx ci k j : Nat} {ts : List VT} {v : Value} (hF : FL own idx ci j ∨ FN own idx ci j) (hd : decode cc pc = .ok (.getfield idx, 3)) (hT : T[k]? = some (.inl (ci, ts))) (hv : fget ws k j = some v) (kz : Z p l e R s m args below meth c nL G A Q (pc + 3) lw (v :: rest) ws kc ks) : Z p l e R s m args below meth c nL G A Q pc lw (.ref (ad k) :: rest) ws kc ks := by
  obtain ⟨fs, h1, h2⟩ := fget_ob hW hT hv
  rcases hF with hF | hF
  · exact z_get X hF hd k h1 h2 kz
  · exact z_getN X hF hd k h1 h2 kz
theorem fget_ref (hW : WT G ad T ws) {k ci j b : Nat} {ts : List VT} (hT : T[k]? = some (.inl (ci, ts))) (ht : ts[j]? = some (2, (b : Int), 0)) : fget ws k j = some (.ref (ad b)) := by
  obtain ⟨fs, v, h1, h2, h3, h4⟩ := WT.obj hW hT ht
  rw [fget_of h1, h3, vty2 h4 rfl]
  rfl
theorem fget_int (hW : WT G ad T ws) {k ci j : Nat} {a b : Int} {ts : List VT} (hT : T[k]? = some (.inl (ci, ts))) (ht : ts[j]? = some (0, a, b)) : ∃ x : Int32, fget ws k j = some (.int x) ∧ a ≤ x.toInt ∧ x.toInt ≤ b := by
  obtain ⟨fs, v, h1, h2, h3, h4⟩ := WT.obj hW hT ht
  obtain ⟨x, rfl, x1, x2⟩ := vty0 h4 rfl
  exact ⟨x, by rw [fget_of h1, h3], x1, x2⟩
/-- an int array written: the world is typed as before -/
theorem WT.wr (hW : WT G ad T ws) {k n : Nat} {a b : Int} {f : Nat → Int32} {j : Nat} {v : Int32} (hT : T[k]? = some (.inr (0, n, (0, a, b)))) (hf : ws[k]? = some (ad k, aI G n f)) (h1 : a ≤ v.toInt) (h2 : v.toInt ≤ b) : WT G ad T (ws.set k (ad k, aI G n (upd f j v))) := by
  obtain ⟨f0, u1, u2⟩ := WT.ints hW hT
  rw [hf] at u1
  have e1 : f = f0 := Sum.inl.inj (congrArg (fun z : ClassId × vp_A => z.2.2) (Sum.inl.inj (congrArg Prod.snd (Option.some.inj u1))))
  subst e1
  exact hW.setA (y := (cyI G, n, .inl (upd f j v))) hT hf (Or.inl ⟨rfl, _, rfl, aint_upd u2 h1 h2 (fun e => by cases e)⟩) (fun n' t' e' g2 => by
    cases e'
    exact absurd g2 (by show ¬ (2 ≤ 0); omega))
theorem FRM.wr {mk : List (Nat × Nat)} {w0 : va_W} (h : FRM mk w0 ws) {k : Nat} {x : ClassId × vp_A} {b b2 : Nat} {y : ClassId × vp_A} (hm : mk.any (fun q => Nat.beq q.1 k && Nat.beq q.2 999) = true) : FRM mk w0 (ws.set k (b2, .inl y)) := by
  refine ⟨by rw [List.length_set]; exact h.1, fun k' j' hk => ?_⟩
  rw [cget_arr]
  · exact h.2 k' j' hk
  · intro e
    rw [e, mkq_arr hm] at hk
    cases hk
theorem i32r {x : Int32} {a b : Int} (h1 : iMin ≤ a ∨ True) : iMin ≤ x.toInt ∧ x.toInt ≤ iMax := ⟨i32_lo x, i32_hi x⟩
theorem cFRM (C : CE) {w : va_W} : FRM C.2.2.2.2.1 w w := ⟨rfl, fun _ _ _ => rfl⟩
end HW
/-! the reference's buckets -/
def SS (p rm f : Nat → Int32) (pv : Int32) : Nat → Int32
  | 0 => 0
  | n + 1 => SS p rm f pv n + (if p n = pv then rm n - f n else 0)
theorem SS_zero {p rm f : Nat → Int32} {pv : Int32} : ∀ n, (∀ k, k < n → p k = pv → f k = rm k) → SS p rm f pv n = 0
  | 0, _ => rfl
  | n + 1, h => by
    show SS p rm f pv n + _ = 0
    rw [SS_zero n (fun k hk => h k (by omega))]
    split
    · rename_i e
      rw [h n (by omega) e, Int32.sub_self]
      rfl
    · rfl
theorem SS_out {p rm f : Nat → Int32} {pv v : Int32} {t : Nat} : ∀ n, n ≤ t → SS p rm (upd f t v) pv n = SS p rm f pv n
  | 0, _ => rfl
  | n + 1, h => by
    show SS p rm (upd f t v) pv n + (if p n = pv then rm n - upd f t v n else 0) = SS p rm f pv n + _
    rw [SS_out n (by omega)]
    have : upd f t v n = f n := by unfold upd; rw [if_neg (by omega)]
    rw [this]
theorem SS_one {p rm f : Nat → Int32} {pv : Int32} {t : Nat} (ht : p t = pv) : ∀ n, t < n → SS p rm (upd f t (f t + 1)) pv n = SS p rm f pv n - 1
  | 0, h => by omega
  | n + 1, h => by
    show SS p rm (upd f t (f t + 1)) pv n + (if p n = pv then rm n - upd f t (f t + 1) n else 0) = SS p rm f pv n + (if p n = pv then rm n - f n else 0) - 1
    by_cases e : t = n
    · subst e
      rw [SS_out t (Nat.le_refl _), if_pos ht, if_pos ht]
      have : upd f t (f t + 1) t = f t + 1 := by unfold upd; rw [if_pos rfl]
      rw [this]
      simp only [Int32.sub_eq_add_neg, Int32.neg_add, Int32.add_assoc]
    · rw [SS_one ht n (by omega)]
      have : upd f t (f t + 1) n = f n := by unfold upd; rw [if_neg (by omega)]
      rw [this]
      simp only [Int32.sub_eq_add_neg, Int32.add_assoc]
      rw [Int32.add_comm (-1)]
