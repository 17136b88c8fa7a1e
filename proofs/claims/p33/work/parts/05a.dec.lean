/-! instructions decoded in one pass over the bytes -/
def ible : Int → Int → Bool
  | .ofNat a, .ofNat b => Nat.ble a b
  | .ofNat _, .negSucc _ => false
  | .negSucc _, .ofNat _ => true
  | .negSucc a, .negSucc b => Nat.ble b a
theorem ible_ok : ∀ {a b : Int}, ible a b = true → a ≤ b
  | .ofNat a, .ofNat b, h => by
    have h1 := Nat.le_of_ble_eq_true (show Nat.ble a b = true from h)
    show (a : Int) ≤ (b : Int)
    omega
  | .ofNat a, .negSucc b, h => by cases h
  | .negSucc a, .ofNat b, _ => by
    rw [show Int.negSucc a = -((a : Int) + 1) from rfl]
    show -((a : Int) + 1) ≤ (b : Int)
    omega
  | .negSucc a, .negSucc b, h => by
    have h1 := Nat.le_of_ble_eq_true (show Nat.ble b a = true from h)
    rw [show Int.negSucc a = -((a : Int) + 1) from rfl, show Int.negSucc b = -((b : Int) + 1) from rfl]
    omega
theorem ible_mk : ∀ {a b : Int}, a ≤ b → ible a b = true
  | .ofNat a, .ofNat b, h => by
    have h : (a : Int) ≤ (b : Int) := h
    exact Nat.ble_eq_true_of_le (by omega)
  | .ofNat a, .negSucc b, h => by
    exfalso
    rw [show Int.negSucc b = -((b : Int) + 1) from rfl] at h
    have h : (a : Int) ≤ -((b : Int) + 1) := h
    omega
  | .negSucc a, .ofNat b, _ => rfl
  | .negSucc a, .negSucc b, h => by
    rw [show Int.negSucc a = -((a : Int) + 1) from rfl, show Int.negSucc b = -((b : Int) + 1) from rfl] at h
    exact Nat.ble_eq_true_of_le (by omega)
noncomputable def lrc {α β : Type} (b : β) (f : α → β → β) (l : List α) : β := List.rec (motive := fun _ => β) b (fun q _ r => f q r) l
theorem lrc_cons {α β : Type} {b : β} {f : α → β → β} {q : α} {l : List α} : lrc b f (q :: l) = f q (lrc b f l) := rfl
theorem lrc_foldr {α β : Type} {b : β} {f : α → β → β} : ∀ (l : List α), lrc b f l = l.foldr f b
  | [] => rfl
  | q :: l => by rw [lrc_cons, lrc_foldr l, List.foldr_cons]
noncomputable def fnd {α : Type} (l : List (Nat × α)) (k : Nat) : Option α := lrc none (fun q r => bif Nat.beq q.1 k then some q.2 else r) l
theorem fnd_mem {α : Type} : ∀ (l : List (Nat × α)) (k : Nat) (v : α), fnd l k = some v → (k, v) ∈ l
  | [], _, _, h => by cases h
  | q :: l, k, v, h => by
    have h : (bif Nat.beq q.1 k then some q.2 else fnd l k) = some v := h
    cases hb : Nat.beq q.1 k with
    | true =>
      rw [hb] at h
      have h : some q.2 = some v := h
      cases h
      have e : q.1 = k := Nat.eq_of_beq_eq_true hb
      subst e
      exact List.mem_cons_self
    | false =>
      rw [hb] at h
      exact List.mem_cons_of_mem _ (fnd_mem l k v h)
theorem drop2 {α : Type} (L : List α) (a b : Nat) : (L.drop a).drop b = L.drop (a + b) := by
  first | (rw [List.drop_drop]; done) | (rw [List.drop_drop, Nat.add_comm])
abbrev DIn : Type := Jvm.ClassFile.Decoder Instr
abbrev DNa : Type := Jvm.ClassFile.Decoder Nat
abbrev DZi : Type := Jvm.ClassFile.Decoder Int
abbrev du1 : DNa := Jvm.ClassFile.Reader.u1
abbrev du2 : DNa := Jvm.ClassFile.Reader.u2
abbrev ds1 : DZi := Jvm.ClassFile.Reader.s1
abbrev ds2 : DZi := Jvm.ClassFile.Reader.s2
def tb0 : List (Nat × Instr) := [(42, .aload_n 0), (43, .aload_n 1), (27, .iload_n 1), (28, .iload_n 2), (29, .iload_n 3), (26, .iload_n 0), (3, .iconst 0), (4, .iconst 1), (46, .iaload), (96, .iadd), (172, .ireturn), (133, .i2l), (2, .iconst (-1)), (5, .iconst 2), (6, .iconst 3), (7, .iconst 4), (8, .iconst 5), (9, .lconst 0), (10, .lconst 1), (44, .aload_n 2), (45, .aload_n 3), (30, .lload_n 0), (31, .lload_n 1), (32, .lload_n 2), (33, .lload_n 3), (59, .istore_n 0), (60, .istore_n 1), (61, .istore_n 2), (62, .istore_n 3), (63, .lstore_n 0), (64, .lstore_n 1), (65, .lstore_n 2), (66, .lstore_n 3), (75, .astore_n 0), (76, .astore_n 1), (77, .astore_n 2), (78, .astore_n 3), (79, .iastore), (104, .imul), (105, .lmul), (148, .lcmp), (87, .pop), (100, .isub), (173, .lreturn), (177, .return_), (89, .dup), (101, .lsub), (47, .laload), (97, .ladd), (80, .lastore), (88, .pop2), (92, .dup2), (126, .iand), (121, .lshl), (129, .lor), (127, .land), (116, .ineg), (109, .ldiv), (84, .bastore), (51, .baload), (120, .ishl), (113, .lrem), (128, .ior), (124, .iushr), (122, .ishr), (50, .aaload), (83, .aastore), (117, .lneg), (112, .irem), (190, .arraylength), (108, .idiv), (131, .lxor), (136, .l2i), (130, .ixor), (147, .i2s), (145, .i2b), (125, .lushr), (123, .lshr), (176, .areturn), (191, .athrow), (1, .aconst_null)]
def tU2 : List (Nat × (Nat → Instr)) := [(180, .getfield), (182, .invokevirtual), (184, .invokestatic), (181, .putfield), (20, .ldc2_w), (183, .invokespecial), (19, .ldc_w), (187, .new), (189, .anewarray)]
def tU1 : List (Nat × (Nat → Instr)) := [(21, .iload), (22, .lload), (54, .istore), (55, .lstore), (25, .aload), (18, .ldc), (58, .astore)]
def tS2 : List (Nat × (Int → Instr)) := [(167, .goto), (159, .if_icmp .eq), (160, .if_icmp .ne), (161, .if_icmp .lt), (162, .if_icmp .ge), (163, .if_icmp .gt), (164, .if_icmp .le), (153, .ifCond .eq), (154, .ifCond .ne), (155, .ifCond .lt), (156, .ifCond .ge), (157, .ifCond .gt), (158, .ifCond .le), (17, .sipush), (198, .ifnull), (199, .ifnonnull)]
def KF (K : Nat → Nat → DIn) : Prop := (∀ pc, (Jvm.ClassFile.Decoder.instr pc : DIn) = (du1 >>= K pc)) ∧ ∀ pc, (∀ q ∈ tb0, K pc q.1 = Pure.pure q.2) ∧ (∀ q ∈ tU2, K pc q.1 = (du2 >>= fun n => Pure.pure (q.2 n))) ∧ (∀ q ∈ tU1, K pc q.1 = (du1 >>= fun n => Pure.pure (q.2 n))) ∧ (∀ q ∈ tS2, K pc q.1 = (ds2 >>= fun n => Pure.pure (q.2 n))) ∧ K pc 16 = (ds1 >>= fun n => Pure.pure (.bipush n)) ∧ K pc 132 = (du1 >>= fun n => ds1 >>= fun c => Pure.pure (.iinc n c))
set_option maxRecDepth 100000 in
theorem kf_ex : ∃ K, KF K := by
  refine ⟨_, fun pc => rfl, fun pc => ⟨?_, ?_, ?_, ?_, rfl, rfl⟩⟩
  · intro q hq
    simp only [tb0, List.mem_cons, List.not_mem_nil, or_false] at hq
    rcases hq with rfl | rfl | rfl | rfl | rfl | rfl | rfl | rfl | rfl | rfl | rfl | rfl | rfl | rfl | rfl | rfl | rfl | rfl | rfl | rfl | rfl | rfl | rfl | rfl | rfl | rfl | rfl | rfl | rfl | rfl | rfl | rfl | rfl | rfl | rfl | rfl | rfl | rfl | rfl | rfl | rfl | rfl | rfl | rfl | rfl | rfl | rfl | rfl | rfl | rfl | rfl | rfl | rfl | rfl | rfl | rfl | rfl | rfl | rfl | rfl | rfl | rfl | rfl | rfl | rfl | rfl | rfl | rfl | rfl | rfl | rfl | rfl | rfl | rfl | rfl | rfl | rfl | rfl | rfl | rfl | rfl <;> rfl
  · intro q hq
    simp only [tU2, List.mem_cons, List.not_mem_nil, or_false] at hq
    rcases hq with rfl | rfl | rfl | rfl | rfl | rfl | rfl | rfl | rfl <;> rfl
  · intro q hq
    simp only [tU1, List.mem_cons, List.not_mem_nil, or_false] at hq
    rcases hq with rfl | rfl | rfl | rfl | rfl | rfl | rfl <;> rfl
  · intro q hq
    simp only [tS2, List.mem_cons, List.not_mem_nil, or_false] at hq
    rcases hq with rfl | rfl | rfl | rfl | rfl | rfl | rfl | rfl | rfl | rfl | rfl | rfl | rfl | rfl | rfl | rfl <;> rfl
theorem du1_ok {L : List UInt8} {p : Nat} {x : UInt8} (hp : L[p]? = some x) : du1 (ByteArray.mk ⟨L⟩) p = .ok (x.toNat, p + 1) := by
  obtain ⟨h, e⟩ := List.getElem?_eq_some_iff.mp hp
  show (dite (p < (ByteArray.mk ⟨L⟩).size) _ _ : DNa) (ByteArray.mk ⟨L⟩) p = _
  rw [dif_pos (show p < (ByteArray.mk ⟨L⟩).size from h)]
  exact congrArg (fun y : UInt8 => (Except.ok (y.toNat, p + 1) : Except Jvm.ClassFile.DecodeError (Nat × Nat))) e
theorem ebind {α β : Type} {a : α} {f : α → Except Jvm.ClassFile.DecodeError β} : Except.bind (.ok a) f = f a := rfl
theorem du2_ok {L : List UInt8} {p : Nat} {x y : UInt8} (hp : L[p]? = some x) (hq : L[p + 1]? = some y) : du2 (ByteArray.mk ⟨L⟩) p = .ok (x.toNat * 256 + y.toNat, p + 2) := by
  have e : du2 (ByteArray.mk ⟨L⟩) p = Except.bind (du1 (ByteArray.mk ⟨L⟩) p) (fun q => Except.bind (du1 (ByteArray.mk ⟨L⟩) q.2) (fun r => .ok (q.1 * 256 + r.1, r.2))) := rfl
  rw [e, du1_ok hp, ebind, du1_ok hq, ebind]
theorem ds1_ok {L : List UInt8} {p : Nat} {x : UInt8} (hp : L[p]? = some x) : ds1 (ByteArray.mk ⟨L⟩) p = .ok (Jvm.ClassFile.Reader.signed 8 x.toNat, p + 1) := by
  have e : ds1 (ByteArray.mk ⟨L⟩) p = Except.bind (du1 (ByteArray.mk ⟨L⟩) p) (fun q => .ok (Jvm.ClassFile.Reader.signed 8 q.1, q.2)) := rfl
  rw [e, du1_ok hp, ebind]
theorem ds2_ok {L : List UInt8} {p : Nat} {x y : UInt8} (hp : L[p]? = some x) (hq : L[p + 1]? = some y) : ds2 (ByteArray.mk ⟨L⟩) p = .ok (Jvm.ClassFile.Reader.signed 16 (x.toNat * 256 + y.toNat), p + 2) := by
  have e : ds2 (ByteArray.mk ⟨L⟩) p = Except.bind (du2 (ByteArray.mk ⟨L⟩) p) (fun q => .ok (Jvm.ClassFile.Reader.signed 16 q.1, q.2)) := rfl
  rw [e, du2_ok hp hq, ebind]
theorem dec_K {K : Nat → Nat → DIn} (hK : KF K) {L : List UInt8} {p : Nat} {x : UInt8} (hp : L[p]? = some x) : decode (ByteArray.mk ⟨L⟩) p = Except.bind (K p x.toNat (ByteArray.mk ⟨L⟩) (p + 1)) (fun r => .ok (r.1, r.2 - p)) := by
  have h1 : decode (ByteArray.mk ⟨L⟩) p = Except.bind ((Jvm.ClassFile.Decoder.instr p : DIn) (ByteArray.mk ⟨L⟩) p) (fun r => .ok (r.1, r.2 - p)) := rfl
  have h2 : (du1 >>= K p : DIn) (ByteArray.mk ⟨L⟩) p = Except.bind (du1 (ByteArray.mk ⟨L⟩) p) (fun q => K p q.1 (ByteArray.mk ⟨L⟩) q.2) := rfl
  rw [h1, hK.1, h2, du1_ok hp, ebind]
theorem dec_R {α : Type} {r : Jvm.ClassFile.Decoder α} {f : α → Instr} {cc : ByteArray} {p q : Nat} {a : α} (e : r cc p = .ok (a, q)) : (r >>= fun n => Pure.pure (f n) : DIn) cc p = .ok (f a, q) := by
  have h : (r >>= fun n => Pure.pure (f n) : DIn) cc p = Except.bind (r cc p) (fun z => .ok (f z.1, z.2)) := rfl
  rw [h, e, ebind]
theorem dec_R2 {f : Nat → Int → Instr} {cc : ByteArray} {p q q2 : Nat} {a : Nat} {b : Int} (e : du1 cc p = .ok (a, q)) (e2 : ds1 cc q = .ok (b, q2)) : (du1 >>= fun n => ds1 >>= fun c => Pure.pure (f n c) : DIn) cc p = .ok (f a b, q2) := by
  have h : (du1 >>= fun n => ds1 >>= fun c => Pure.pure (f n c) : DIn) cc p = Except.bind (du1 cc p) (fun z => Except.bind (ds1 cc z.2) (fun y => .ok (f z.1 y.1, y.2))) := rfl
  rw [h, e, ebind, e2, ebind]
noncomputable def dA2 (l : List UInt8) (f : Nat → Nat → Instr) : Option (Instr × Nat) := match l with
  | a :: b :: _ => some (f a.toNat b.toNat, 3)
  | _ => none
noncomputable def dA1 (l : List UInt8) (f : Nat → Instr) : Option (Instr × Nat) := match l with
  | a :: _ => some (f a.toNat, 2)
  | _ => none
noncomputable def dAx (x : UInt8) (l : List UInt8) : Option (Instr × Nat) := match fnd tb0 x.toNat with
    | some i => some (i, 1)
    | none => match fnd tU2 x.toNat with
      | some f => dA2 l (fun a b => f (a * 256 + b))
      | none => match fnd tU1 x.toNat with
        | some f => dA1 l f
        | none => match fnd tS2 x.toNat with
          | some f => dA2 l (fun a b => f (Jvm.ClassFile.Reader.signed 16 (a * 256 + b)))
          | none => bif Nat.beq x.toNat 16 then dA1 l (fun a => .bipush (Jvm.ClassFile.Reader.signed 8 a)) else bif Nat.beq x.toNat 132 then dA2 l (fun a b => .iinc a (Jvm.ClassFile.Reader.signed 8 b)) else none
noncomputable def dA (l : List UInt8) : Option (Instr × Nat) := match l with
  | [] => none
  | x :: l => dAx x l
theorem dA2_ok {L : List UInt8} {p : Nat} {f : Nat → Nat → Instr} {q : Instr × Nat} (h : dA2 (L.drop p) f = some q) : ∃ a b : UInt8, L[p]? = some a ∧ L[p + 1]? = some b ∧ q = (f a.toNat b.toNat, 3) := by
  cases e : L.drop p with
  | nil => rw [e] at h; cases h
  | cons a r =>
    cases r with
    | nil => rw [e] at h; cases h
    | cons b r =>
      rw [e] at h
      cases h
      have h0 : (L.drop p)[0]? = some a := by rw [e]; rfl
      have h1 : (L.drop p)[1]? = some b := by rw [e]; rfl
      rw [List.getElem?_drop] at h0 h1
      exact ⟨a, b, h0, h1, rfl⟩
theorem dA1_ok {L : List UInt8} {p : Nat} {f : Nat → Instr} {q : Instr × Nat} (h : dA1 (L.drop p) f = some q) : ∃ a : UInt8, L[p]? = some a ∧ q = (f a.toNat, 2) := by
  cases e : L.drop p with
  | nil => rw [e] at h; cases h
  | cons a r =>
    rw [e] at h
    cases h
    have h0 : (L.drop p)[0]? = some a := by rw [e]; rfl
    rw [List.getElem?_drop] at h0
    exact ⟨a, h0, rfl⟩
theorem dA_ok {L : List UInt8} {p : Nat} {q : Instr × Nat} (h : dA (L.drop p) = some q) : decode (ByteArray.mk ⟨L⟩) p = .ok q := by
  obtain ⟨K, hK⟩ := kf_ex
  cases e : L.drop p with
  | nil => rw [e] at h; cases h
  | cons x r =>
    have h0 : (L.drop p)[0]? = some x := by rw [e]; rfl
    rw [List.getElem?_drop] at h0
    have h0 : L[p]? = some x := h0
    have er : r = L.drop (p + 1) := by
      have h9 : (L.drop p).drop 1 = r := by rw [e]; rfl
      rw [drop2] at h9
      exact h9.symm
    rw [e] at h
    rw [dec_K hK h0]
    have h : dAx x r = some q := h
    unfold dAx at h
    obtain ⟨k0, k1, k2, k3, k4, k5⟩ := hK.2 p
    cases f0 : fnd tb0 x.toNat with
    | some i =>
      rw [f0] at h
      cases h
      rw [k0 _ (fnd_mem _ _ _ f0)]
      show Except.ok (i, p + 1 - p) = Except.ok (i, 1)
      rw [show p + 1 - p = 1 by omega]
    | none =>
      rw [f0] at h
      cases f1 : fnd tU2 x.toNat with
      | some f =>
        rw [f1] at h
        rw [er] at h
        obtain ⟨a, b, ha, hb, rfl⟩ := dA2_ok h
        rw [k1 _ (fnd_mem _ _ _ f1), dec_R (du2_ok ha hb), ebind]
        show Except.ok (_, p + 1 + 2 - p) = Except.ok (_, 3)
        rw [show p + 1 + 2 - p = 3 by omega]
      | none =>
        rw [f1] at h
        cases f2 : fnd tU1 x.toNat with
        | some f =>
          rw [f2] at h
          rw [er] at h
          obtain ⟨a, ha, rfl⟩ := dA1_ok h
          rw [k2 _ (fnd_mem _ _ _ f2), dec_R (du1_ok ha), ebind]
          show Except.ok (_, p + 1 + 1 - p) = Except.ok (_, 2)
          rw [show p + 1 + 1 - p = 2 by omega]
        | none =>
          rw [f2] at h
          cases f3 : fnd tS2 x.toNat with
          | some f =>
            rw [f3] at h
            rw [er] at h
            obtain ⟨a, b, ha, hb, rfl⟩ := dA2_ok h
            rw [k3 _ (fnd_mem _ _ _ f3), dec_R (ds2_ok ha hb), ebind]
            show Except.ok (_, p + 1 + 2 - p) = Except.ok (_, 3)
            rw [show p + 1 + 2 - p = 3 by omega]
          | none =>
            rw [f3] at h
            cases f4 : Nat.beq x.toNat 16 with
            | true =>
              have h : dA1 r (fun a => .bipush (Jvm.ClassFile.Reader.signed 8 a)) = some q := by simpa only [f4, cond_true] using h
              rw [er] at h
              obtain ⟨a, ha, rfl⟩ := dA1_ok h
              rw [Nat.eq_of_beq_eq_true f4, k4, dec_R (ds1_ok ha), ebind]
              show Except.ok (_, p + 1 + 1 - p) = Except.ok (_, 2)
              rw [show p + 1 + 1 - p = 2 by omega]
            | false =>
              cases f5 : Nat.beq x.toNat 132 with
              | false =>
                have h : (none : Option (Instr × Nat)) = some q := by simpa only [f4, f5, cond_false] using h
                cases h
              | true =>
                have h : dA2 r (fun a b => .iinc a (Jvm.ClassFile.Reader.signed 8 b)) = some q := by simpa only [f4, f5, cond_true, cond_false] using h
                rw [er] at h
                obtain ⟨a, b, ha, hb, rfl⟩ := dA2_ok h
                rw [Nat.eq_of_beq_eq_true f5, k5, dec_R2 (du1_ok ha) (ds1_ok hb), ebind]
                show Except.ok (_, p + 1 + 1 + 1 - p) = Except.ok (_, 3)
                rw [show p + 1 + 1 + 1 - p = 3 by omega]
/-- rows of a table, in their order, against the bytes -/
noncomputable def dtG (cc : ByteArray) (tab : List (Nat × Instr × Nat)) : Nat → List UInt8 → Bool := lrc (fun _ _ => true) (fun q r p l => bif Nat.ble p q.1 then (match dA (l.drop (q.1 - p)) with
  | some z => decide (z.1 = q.2.1) && Nat.beq z.2 q.2.2
  | none => decide (decode cc q.1 = .ok q.2)) && r q.1 (l.drop (q.1 - p)) else decide (decode cc q.1 = .ok q.2) && r p l) tab
theorem dtG_ok {L : List UInt8} : ∀ (tab : List (Nat × Instr × Nat)) (p : Nat), dtG (ByteArray.mk ⟨L⟩) tab p (L.drop p) = true → ∀ q ∈ tab, decode (ByteArray.mk ⟨L⟩) q.1 = .ok q.2
  | [], _, _, q, hq => by cases hq
  | z :: tab, p, h, q, hq => by
    have h : (bif Nat.ble p z.1 then (match dA ((L.drop p).drop (z.1 - p)) with
      | some y => decide (y.1 = z.2.1) && Nat.beq y.2 z.2.2
      | none => decide (decode (ByteArray.mk ⟨L⟩) z.1 = .ok z.2)) && dtG (ByteArray.mk ⟨L⟩) tab z.1 ((L.drop p).drop (z.1 - p)) else decide (decode (ByteArray.mk ⟨L⟩) z.1 = .ok z.2) && dtG (ByteArray.mk ⟨L⟩) tab p (L.drop p)) = true := h
    cases hb : Nat.ble p z.1 with
    | false =>
      rw [hb] at h
      have h : (decide (decode (ByteArray.mk ⟨L⟩) z.1 = .ok z.2) && dtG (ByteArray.mk ⟨L⟩) tab p (L.drop p)) = true := h
      rw [Bool.and_eq_true] at h
      rcases List.mem_cons.mp hq with e | hq
      · rw [e]; exact of_decide_eq_true h.1
      · exact dtG_ok tab p h.2 q hq
    | true =>
      rw [hb] at h
      have hle := Nat.le_of_ble_eq_true hb
      rw [drop2, show p + (z.1 - p) = z.1 by omega] at h
      have h : ((match dA (L.drop z.1) with
        | some y => decide (y.1 = z.2.1) && Nat.beq y.2 z.2.2
        | none => decide (decode (ByteArray.mk ⟨L⟩) z.1 = .ok z.2)) && dtG (ByteArray.mk ⟨L⟩) tab z.1 (L.drop z.1)) = true := h
      rw [Bool.and_eq_true] at h
      rcases List.mem_cons.mp hq with e | hq
      · rw [e]
        have h1 := h.1
        cases hd : dA (L.drop z.1) with
        | none =>
          rw [hd] at h1
          exact of_decide_eq_true h1
        | some y =>
          rw [hd] at h1
          have h1 : (decide (y.1 = z.2.1) && Nat.beq y.2 z.2.2) = true := h1
          rw [Bool.and_eq_true] at h1
          rw [dA_ok hd]
          obtain ⟨y1, y2⟩ := y
          have e1 : y1 = z.2.1 := of_decide_eq_true h1.1
          have e2 : y2 = z.2.2 := Nat.eq_of_beq_eq_true h1.2
          rw [e1, e2]
      · exact dtG_ok tab z.1 h.2 q hq
noncomputable def dtF (cc : ByteArray) (tab : List (Nat × Instr × Nat)) : Bool := dtG cc tab 0 cc.data.toList
theorem dtF_ok {cc : ByteArray} {tab : List (Nat × Instr × Nat)} (h : dtF cc tab = true) : ∀ q ∈ tab, decode cc q.1 = .ok q.2 := by
  obtain ⟨⟨L⟩⟩ := cc
  exact dtG_ok tab 0 h
