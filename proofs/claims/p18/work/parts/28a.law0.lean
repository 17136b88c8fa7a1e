/-! the law: a call of the middle part of a world -/
theorem sh_pick (a b c : va_W) : (List.range' a.length b.length).map (fun i => (a ++ b ++ c)[i]?) = b.map some := by
  refine List.ext_getElem (by simp) (fun i q1 q2 => ?_)
  have hi : i < b.length := by simpa using q2
  rw [List.getElem_map, List.getElem_range', List.getElem_map, List.append_assoc, List.getElem?_append_right (by omega), List.getElem?_append_left (by omega)]
  rw [show a.length + 1 * i - a.length = i by omega]
  exact List.getElem?_eq_getElem hi
theorem sh_rest (a b c : va_W) : (List.range a.length ++ List.range' (a.length + b.length) c.length).map (fun i => (a ++ b ++ c)[i]?) = (a ++ c).map some := by
  rw [List.map_append, List.map_append]
  congr 1
  · rw [← range_pick a]
    refine List.map_congr_left (fun i hi => ?_)
    have := List.mem_range.mp hi
    rw [List.append_assoc, List.getElem?_append_left this]
  · have h := sh_pick (a ++ b) c []
    rw [List.length_append, List.append_nil] at h
    exact h
theorem sh_nd (n m k : Nat) (h : n ≤ m) : va_nd (List.range n ++ List.range' m k) = true := by
  refine va_nd_of _ (List.nodup_append.mpr ⟨List.nodup_range, List.nodup_range' , fun x hx y hy => ?_⟩)
  have h1 := List.mem_range.mp hx
  have h2 := (List.mem_range'_1.mp hy).1
  omega
theorem sh_dis (n m k : Nat) : ((List.range n ++ List.range' (n + m) k).all fun i => decide (i ∉ List.range' n m)) = true := by
  refine List.all_eq_true.mpr (fun i hi => decide_eq_true (fun h => ?_))
  obtain ⟨h1, h2⟩ := List.mem_range'_1.mp h
  rcases List.mem_append.mp hi with h3 | h3
  · have := List.mem_range.mp h3; omega
  · have := (List.mem_range'_1.mp h3).1; omega
theorem sh_swap (a c b : va_W) : (List.range a.length ++ (List.range' (a.length + c.length) b.length ++ List.range' a.length c.length)).map (fun i => (a ++ c ++ b)[i]?) = (a ++ b ++ c).map some := by
  have h1 : (List.range a.length).map (fun i => (a ++ c ++ b)[i]?) = a.map some := by
    rw [← range_pick a]
    refine List.map_congr_left (fun i hi => ?_)
    have := List.mem_range.mp hi
    rw [List.append_assoc, List.getElem?_append_left this]
  have h2 : (List.range' (a.length + c.length) b.length).map (fun i => (a ++ c ++ b)[i]?) = b.map some := by
    have h := sh_pick (a ++ c) b []
    rw [List.length_append, List.append_nil] at h
    exact h
  have h3 := sh_pick a c b
  rw [List.map_append, List.map_append, h1, h2, h3, List.map_append, List.map_append, List.append_assoc]
theorem sh_swap_nd (n m k : Nat) : va_nd (List.range n ++ (List.range' (n + m) k ++ List.range' n m)) = true := by
  refine va_nd_of _ (List.nodup_append.mpr ⟨List.nodup_range, List.nodup_append.mpr ⟨List.nodup_range', List.nodup_range', fun x hx y hy => ?_⟩, fun x hx y hy => ?_⟩)
  · have h1 := (List.mem_range'_1.mp hx).1
    have h2 := (List.mem_range'_1.mp hy).2
    omega
  · have h1 := List.mem_range.mp hx
    rcases List.mem_append.mp hy with h | h
    · have := (List.mem_range'_1.mp h).1; omega
    · have := (List.mem_range'_1.mp h).1; omega
section LAW0
variable {p : Program} {l : Launch} {e : Env} {R : Room} {s : State} {m : MethodId} {args : Array Value} {below : List Frame} {meth : Method} {c : Code} {nL : Nat} {G : KG} {A : Nat → Prop} {Q : State → Prop} {cc : ByteArray} {own : String} {ret : Option FieldType} {nm : String} {kc ks pc : Nat} {lv : List (Nat × Value)} {st : List Value}
/-- the world, reordered -/
theorem Z.mid {wa wb wc : va_W} (lz : lv_pick lv (List.range lv.length) = lv) (h : Z p l e R s m args below meth c nL G A Q pc lv st (wa ++ wb ++ wc) kc ks) : Z p l e R s m args below meth c nL G A Q pc lv st (wa ++ wc ++ wb) kc ks :=
  Z.sub (List.range lv.length) lz _ (sh_swap wa wc wb) (sh_swap_nd _ _ _) h
theorem mid_callV {idx mx n : Nat} {Cn : String} {y : MethodName} {cy : ByteArray} {rt : Option FieldType} {rm : Room} {As rest : List Value} {post : Option Value → va_W → Prop} {wa wb wc : va_W} {b ci : Nat} {fs : List Value} {q : vw_C} (X : ZC p s m args meth c cc nL own G A ret nm) (K : LkV own idx Cn y cy mx rt n) (hM : Ct l G y cy mx rt rm (.ref b :: As) wb post) (hdg : decode cc pc = .ok (.invokevirtual idx, 3)) (he : wb[0]? = some (b, .inr (ci, fs))) (hc : vwCl[ci]? = some q) (hqC : q.1 = Cn) (hR : rm.frames + 1 ≤ R.frames ∧ 8 + (mx + 11) + rm.locals ≤ R.locals) (hf : kc + rm.cells ≤ R.cells ∧ ks + rm.slots ≤ R.slots) (hn : As.length = n) (hst : st = As.reverse ++ .ref b :: rest) (hcat : (rest.map fun v => v.category).sum ≤ 8) (lz : lv_pick lv (List.range lv.length) = lv)
    (kk : ∀ (r : Option Value) (w1 : va_W), post r w1 → Z p l e R s m args below meth c nL G A Q (pc + 3) lv (r.toList ++ rest) (wa ++ w1 ++ wc) (kc + rm.cells) (ks + rm.slots)) : Z p l e R s m args below meth c nL G A Q pc lv st (wa ++ wb ++ wc) kc ks := by
  have hlt : 0 < wb.length := (List.getElem?_eq_some_iff.mp he).1
  have he2 : (wa ++ wb ++ wc)[wa.length]? = some (b, .inr (ci, fs)) := by
    rw [List.append_assoc, List.getElem?_append_right (Nat.le_refl _), Nat.sub_self, List.getElem?_append_left hlt]
    exact he
  exact z_callV (wr := wa ++ wc) X K hM hdg wa.length he2 hc hqC hR hf hn hst hcat (List.range' wa.length wb.length) (List.range wa.length ++ List.range' (wa.length + wb.length) wc.length) (sh_pick wa wb wc) (va_nd_of _ List.nodup_range') (sh_rest wa wb wc) (sh_nd _ _ _ (Nat.le_add_right _ _)) (sh_dis _ _ _) (fun r w1 hp => Z.mid lz (kk r w1 hp))
end LAW0
