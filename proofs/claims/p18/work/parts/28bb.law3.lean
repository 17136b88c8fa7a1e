/-! the law: its own calls of hole and row -/
theorem sh_dis2 (n m k : Nat) : ((List.range' n m).all fun i => decide (i ∉ List.range n ++ List.range' (n + m) k)) = true := by
  refine List.all_eq_true.mpr (fun i hi => decide_eq_true (fun h => ?_))
  obtain ⟨h1, h2⟩ := List.mem_range'_1.mp hi
  rcases List.mem_append.mp h with h3 | h3
  · have := List.mem_range.mp h3; omega
  · have := (List.mem_range'_1.mp h3).1; omega
section LAW3
variable {p : Program} {l : Launch} {e : Env} {R : Room} {s : State} {m : MethodId} {args : Array Value} {below : List Frame} {meth : Method} {c : Code} {nL : Nat} {G : KG} {A : Nat → Prop} {Q : State → Prop} {cc : ByteArray} {own : String} {ret : Option FieldType} {nm : String} {kc ks pc : Nat} {lv : List (Nat × Value)} {st : List Value}
theorem sx_call {idx mx n x oa : Nat} {y : MethodName} {cy : ByteArray} {rt : Option FieldType} {hh : List (Nat × Nat × Nat × Nat)} {rm : Room} {As rest : List Value} {wx wm : va_W} {f : Nat → Int64} (X : ZC p s m args meth c cc nL own G A ret nm) (K : LkSW own idx y cy mx rt hh n) (hE : EXs A s s.heap)
    (hM : ∀ (ad : Nat → Nat) (w0 : va_W), WT G ad TX w0 → w0.length = 109 → ad 0 = x → CtW l G y cy mx rt hh rm As (w0 ++ [(oa, aJ G 1 f)]) (LHpo G ad w0 oa)) (hw : CWx G x wx) (hdg : decode cc pc = .ok (.invokestatic idx, 3)) (hR : rm.frames + 1 ≤ R.frames ∧ 8 + (mx + 11) + rm.locals ≤ R.locals) (hf : kc + rm.cells ≤ R.cells ∧ ks + rm.slots ≤ R.slots) (hn : As.length = n) (hst : st = As.reverse ++ rest) (hcat : (rest.map fun v => v.category).sum ≤ 8) (lz : lv_pick lv (List.range lv.length) = lv)
    (kk : ∀ (v : Int32) (wx' : va_W) (f' : Nat → Int64), CWx G x wx' → wx'.length = wx.length → Z p l e R s m args below meth c nL G A Q (pc + 3) lv (.int v :: rest) (wx' ++ wm ++ [(oa, aJ G 1 f')]) (kc + rm.cells) (ks + rm.slots)) : Z p l e R s m args below meth c nL G A Q pc lv st (wx ++ wm ++ [(oa, aJ G 1 f)]) kc ks := by
  obtain ⟨ad, e0, h⟩ := hw
  have main : ∀ (wb : va_W) (wt : va_W), WT G ad TX wt → wt.length = 109 → wx = wt ++ wb → (∀ w1, Wsame G ad wt w1 → CWx G x (w1 ++ wb)) → Z p l e R s m args below meth c nL G A Q pc lv st (wx ++ wm ++ [(oa, aJ G 1 f)]) kc ks := by
    intro wb wt hWt hlt ew hback
    have e1 : wx ++ wm ++ [(oa, aJ G 1 f)] = wt ++ (wb ++ wm) ++ [(oa, aJ G 1 f)] := by rw [ew]; simp only [List.append_assoc]
    rw [e1]
    refine z_callSX (wr := wb ++ wm) X K (hM ad wt hWt hlt e0) hE hdg hR hf hn hst hcat (List.range wt.length ++ List.range' (wt.length + (wb ++ wm).length) [(oa, aJ G 1 f)].length) (List.range' wt.length (wb ++ wm).length) (sh_rest wt (wb ++ wm) _) (sh_nd _ _ _ (Nat.le_add_right _ _)) (sh_pick wt (wb ++ wm) _) (va_nd_of _ List.nodup_range') (sh_dis2 _ _ _) (fun r w hp => ?_)
    obtain ⟨⟨v, rfl⟩, f', w1, rfl, hs⟩ := hp
    have h9 := kk v (w1 ++ wb) f' (hback w1 hs) (by rw [ew, List.length_append, List.length_append, hs.2.1])
    have e2 : w1 ++ wb ++ wm ++ [(oa, aJ G 1 f')] = [] ++ w1 ++ (wb ++ wm ++ [(oa, aJ G 1 f')]) := by simp only [List.append_assoc, List.nil_append]
    have e3 : wb ++ wm ++ ([(oa, aJ G 1 f')] ++ w1) = [] ++ (wb ++ wm ++ [(oa, aJ G 1 f')]) ++ w1 := by simp only [List.append_assoc, List.nil_append]
    rw [e2] at h9
    rw [e3]
    exact Z.mid lz h9
  rcases h with ⟨hW, hl, hnull⟩ | ⟨hW, hl, hG⟩
  · refine main [] wx hW hl (by rw [List.append_nil]) (fun w1 hs => ?_)
    rw [List.append_nil]
    exact ⟨ad, e0, Or.inl ⟨hs.1, hs.2.1.trans hl, fget_frame hs.2 rfl hnull⟩⟩
  · have hWt := wt_take hW hl
    have hlt : (wx.take 109).length = 109 := by rw [List.length_take, hl]; rfl
    refine main (wx.drop 109) (wx.take 109) hWt hlt (List.take_append_drop 109 wx).symm (fun w1 hs => ?_)
    have hl2 : w1.length = 109 := hs.2.1.trans hlt
    have hpl : fget (wx.take 109) 0 15 = some (.ref (ad 109)) := by
      have h5 : fget wx 0 15 = some (.ref (ad 109)) := fget_ref hW rfl rfl
      unfold fget at h5 ⊢
      rw [List.getElem?_take_of_lt (by decide)]
      exact h5
    have hj := wt_join hs.1 hl2 (fget_frame hs.2 rfl hpl) hW hl
    refine ⟨ad, e0, Or.inr ⟨hj, by rw [List.length_append, hl2, List.length_drop, hl], ?_⟩⟩
    obtain ⟨a, f9, g1, g2⟩ := hG
    exact ⟨a, f9, by rw [List.getElem?_append_right (by omega), hl2, List.getElem?_drop]; exact g1, g2⟩
end LAW3
