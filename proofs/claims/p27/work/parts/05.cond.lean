section
section ZCOND
variable {p : Program} {l : Launch} {e : Env} {R : Room} {s : State} {m : MethodId} {args : Array Value} {below : List Frame} {meth : Method} {c : Code} {nL : Nat} {G : KG} {A : Nat → Prop} {Q : State → Prop} {cc : ByteArray} {own : String} {ret : Option FieldType} {nm : String}
variable {pc : Nat} {rest st : List Value} {ws : va_W} {kc ks : Nat}
def zb (b : Bool) : Int32 := if b then 1 else 0
theorem zb_t {P : Prop} [Decidable P] (h : P) : zb (decide P) = 1 := by unfold zb; rw [decide_eq_true h]; rfl
theorem zb_f {P : Prop} [Decidable P] (h : ¬ P) : zb (decide P) = 0 := by unfold zb; rw [decide_eq_false h]; rfl
theorem zb_n (b : Bool) : narrow .boolean (.int (zb b)) = .int (zb b) := by cases b <;> rfl
theorem zb_0 {P : Prop} [Decidable P] : zb (decide P) = 0 ↔ ¬ P := by
  by_cases h : P
  · rw [zb_t h]; exact ⟨fun q => absurd q (by decide), fun q => absurd h q⟩
  · rw [zb_f h]; exact ⟨fun _ => h, fun _ => rfl⟩
theorem zb_i {P Q : Prop} [Decidable P] [Decidable Q] (h : P ↔ Q) : zb (decide P) = zb (decide Q) := by rw [decide_eq_decide.mpr h]
theorem tI64 {x : Int32} {a : Int} (h : x.toInt = a) : x.toInt64.toInt = a := by rw [Int32.toInt_toInt64]; exact h

theorem zi_eq (X : ZC p s m args meth c cc nL own G A ret nm) {lv : List (Nat × Value)} {x : Int32} {a : Int} {off : Int} {tgt : Nat} (hdg : decode cc pc = .ok (.ifCond .eq off, 3)) (ht : (pc : Int) + off = (tgt : Int)) (ha : x.toInt = a) (kt : a = 0 → Z p l e R s m args below meth c nL G A Q tgt lv rest ws kc ks) (kf : a ≠ 0 → Z p l e R s m args below meth c nL G A Q (pc + 3) lv rest ws kc ks) : Z p l e R s m args below meth c nL G A Q pc lv (.int x :: rest) ws kc ks := by
  have hb : (0 : Int32).toInt = 0 := rfl
  exact z_if_eq X hdg ht (fun h => kt (by rw [← ha, ← hb, h])) (fun h => kf (by rw [← ha, ← hb]; exact fun q => h (Int32.toInt_inj.mp q)))
theorem zc_eq (X : ZC p s m args meth c cc nL own G A ret nm) {lv : List (Nat × Value)} {x y : Int32} {a b : Int} {off : Int} {tgt : Nat} (hdg : decode cc pc = .ok (.if_icmp .eq off, 3)) (ht : (pc : Int) + off = (tgt : Int)) (ha : x.toInt = a) (hb : y.toInt = b) (kt : a = b → Z p l e R s m args below meth c nL G A Q tgt lv rest ws kc ks) (kf : a ≠ b → Z p l e R s m args below meth c nL G A Q (pc + 3) lv rest ws kc ks) : Z p l e R s m args below meth c nL G A Q pc lv (.int y :: .int x :: rest) ws kc ks :=
  z_icmp_eq X hdg ht (fun h => kt (by rw [← ha, ← hb, h])) (fun h => kf (by rw [← ha, ← hb]; exact fun q => h (Int32.toInt_inj.mp q)))
theorem zl_eq (X : ZC p s m args meth c cc nL own G A ret nm) {lv : List (Nat × Value)} {x y : Int64} {a b : Int} {off : Int} {tgt : Nat} (hd0 : decode cc pc = .ok (.lcmp, 1)) (hdg : decode cc (pc + 1) = .ok (.ifCond .eq off, 3)) (ht : ((pc + 1 : Nat) : Int) + off = (tgt : Int)) (ha : x.toInt = a) (hb : y.toInt = b) (kt : a = b → Z p l e R s m args below meth c nL G A Q tgt lv rest ws kc ks) (kf : a ≠ b → Z p l e R s m args below meth c nL G A Q (pc + 4) lv rest ws kc ks) : Z p l e R s m args below meth c nL G A Q pc lv (.long y :: .long x :: rest) ws kc ks :=
  z_lcmp X hd0 (z_if_eq X hdg ht (fun h => kt (by have h := (lg_cmp_eq x y).mp h; rw [← ha, ← hb, h])) (fun h => kf (by have h : ¬ _ := fun q => h ((lg_cmp_eq x y).mpr q); rw [← ha, ← hb]; exact fun q => h (Int64.toInt_inj.mp q))))
theorem zi_ne (X : ZC p s m args meth c cc nL own G A ret nm) {lv : List (Nat × Value)} {x : Int32} {a : Int} {off : Int} {tgt : Nat} (hdg : decode cc pc = .ok (.ifCond .ne off, 3)) (ht : (pc : Int) + off = (tgt : Int)) (ha : x.toInt = a) (kt : a ≠ 0 → Z p l e R s m args below meth c nL G A Q tgt lv rest ws kc ks) (kf : a = 0 → Z p l e R s m args below meth c nL G A Q (pc + 3) lv rest ws kc ks) : Z p l e R s m args below meth c nL G A Q pc lv (.int x :: rest) ws kc ks := by
  have hb : (0 : Int32).toInt = 0 := rfl
  exact z_if_ne X hdg ht (fun h => kt (by rw [← ha, ← hb]; exact fun q => h (Int32.toInt_inj.mp q))) (fun h => kf (by rw [← ha, ← hb, h]))
theorem zc_ne (X : ZC p s m args meth c cc nL own G A ret nm) {lv : List (Nat × Value)} {x y : Int32} {a b : Int} {off : Int} {tgt : Nat} (hdg : decode cc pc = .ok (.if_icmp .ne off, 3)) (ht : (pc : Int) + off = (tgt : Int)) (ha : x.toInt = a) (hb : y.toInt = b) (kt : a ≠ b → Z p l e R s m args below meth c nL G A Q tgt lv rest ws kc ks) (kf : a = b → Z p l e R s m args below meth c nL G A Q (pc + 3) lv rest ws kc ks) : Z p l e R s m args below meth c nL G A Q pc lv (.int y :: .int x :: rest) ws kc ks :=
  z_icmp_ne X hdg ht (fun h => kt (by rw [← ha, ← hb]; exact fun q => h (Int32.toInt_inj.mp q))) (fun h => kf (by rw [← ha, ← hb, h]))
theorem zl_ne (X : ZC p s m args meth c cc nL own G A ret nm) {lv : List (Nat × Value)} {x y : Int64} {a b : Int} {off : Int} {tgt : Nat} (hd0 : decode cc pc = .ok (.lcmp, 1)) (hdg : decode cc (pc + 1) = .ok (.ifCond .ne off, 3)) (ht : ((pc + 1 : Nat) : Int) + off = (tgt : Int)) (ha : x.toInt = a) (hb : y.toInt = b) (kt : a ≠ b → Z p l e R s m args below meth c nL G A Q tgt lv rest ws kc ks) (kf : a = b → Z p l e R s m args below meth c nL G A Q (pc + 4) lv rest ws kc ks) : Z p l e R s m args below meth c nL G A Q pc lv (.long y :: .long x :: rest) ws kc ks :=
  z_lcmp X hd0 (z_if_ne X hdg ht (fun h => kt (by have h : ¬ _ := fun q => h ((lg_cmp_eq x y).mpr q); rw [← ha, ← hb]; exact fun q => h (Int64.toInt_inj.mp q))) (fun h => kf (by have h := (lg_cmp_eq x y).mp h; rw [← ha, ← hb, h])))
theorem zi_lt (X : ZC p s m args meth c cc nL own G A ret nm) {lv : List (Nat × Value)} {x : Int32} {a : Int} {off : Int} {tgt : Nat} (hdg : decode cc pc = .ok (.ifCond .lt off, 3)) (ht : (pc : Int) + off = (tgt : Int)) (ha : x.toInt = a) (kt : a < 0 → Z p l e R s m args below meth c nL G A Q tgt lv rest ws kc ks) (kf : 0 ≤ a → Z p l e R s m args below meth c nL G A Q (pc + 3) lv rest ws kc ks) : Z p l e R s m args below meth c nL G A Q pc lv (.int x :: rest) ws kc ks := by
  have hb : (0 : Int32).toInt = 0 := rfl
  exact z_if_lt X hdg ht (fun h => kt (by rw [← ha, ← hb]; exact Int32.lt_iff_toInt_lt.mp h)) (fun h => kf (by rw [← ha, ← hb]; exact Int.not_lt.mp (fun q => h (Int32.lt_iff_toInt_lt.mpr q))))
theorem zc_lt (X : ZC p s m args meth c cc nL own G A ret nm) {lv : List (Nat × Value)} {x y : Int32} {a b : Int} {off : Int} {tgt : Nat} (hdg : decode cc pc = .ok (.if_icmp .lt off, 3)) (ht : (pc : Int) + off = (tgt : Int)) (ha : x.toInt = a) (hb : y.toInt = b) (kt : a < b → Z p l e R s m args below meth c nL G A Q tgt lv rest ws kc ks) (kf : b ≤ a → Z p l e R s m args below meth c nL G A Q (pc + 3) lv rest ws kc ks) : Z p l e R s m args below meth c nL G A Q pc lv (.int y :: .int x :: rest) ws kc ks :=
  z_icmp_lt X hdg ht (fun h => kt (by rw [← ha, ← hb]; exact Int32.lt_iff_toInt_lt.mp h)) (fun h => kf (by rw [← ha, ← hb]; exact Int.not_lt.mp (fun q => h (Int32.lt_iff_toInt_lt.mpr q))))
theorem zl_lt (X : ZC p s m args meth c cc nL own G A ret nm) {lv : List (Nat × Value)} {x y : Int64} {a b : Int} {off : Int} {tgt : Nat} (hd0 : decode cc pc = .ok (.lcmp, 1)) (hdg : decode cc (pc + 1) = .ok (.ifCond .lt off, 3)) (ht : ((pc + 1 : Nat) : Int) + off = (tgt : Int)) (ha : x.toInt = a) (hb : y.toInt = b) (kt : a < b → Z p l e R s m args below meth c nL G A Q tgt lv rest ws kc ks) (kf : b ≤ a → Z p l e R s m args below meth c nL G A Q (pc + 4) lv rest ws kc ks) : Z p l e R s m args below meth c nL G A Q pc lv (.long y :: .long x :: rest) ws kc ks :=
  z_lcmp X hd0 (z_if_lt X hdg ht (fun h => kt (by have h := (lg_cmp_lt x y).mp h; rw [← ha, ← hb]; exact Int64.lt_iff_toInt_lt.mp h)) (fun h => kf (by have h : ¬ _ := fun q => h ((lg_cmp_lt x y).mpr q); rw [← ha, ← hb]; exact Int.not_lt.mp (fun q => h (Int64.lt_iff_toInt_lt.mpr q)))))
theorem zi_ge (X : ZC p s m args meth c cc nL own G A ret nm) {lv : List (Nat × Value)} {x : Int32} {a : Int} {off : Int} {tgt : Nat} (hdg : decode cc pc = .ok (.ifCond .ge off, 3)) (ht : (pc : Int) + off = (tgt : Int)) (ha : x.toInt = a) (kt : 0 ≤ a → Z p l e R s m args below meth c nL G A Q tgt lv rest ws kc ks) (kf : a < 0 → Z p l e R s m args below meth c nL G A Q (pc + 3) lv rest ws kc ks) : Z p l e R s m args below meth c nL G A Q pc lv (.int x :: rest) ws kc ks := by
  have hb : (0 : Int32).toInt = 0 := rfl
  exact z_if_ge X hdg ht (fun h => kt (by rw [← ha, ← hb]; exact Int32.le_iff_toInt_le.mp h)) (fun h => kf (by rw [← ha, ← hb]; exact Int.not_le.mp (fun q => h (Int32.le_iff_toInt_le.mpr q))))
theorem zc_ge (X : ZC p s m args meth c cc nL own G A ret nm) {lv : List (Nat × Value)} {x y : Int32} {a b : Int} {off : Int} {tgt : Nat} (hdg : decode cc pc = .ok (.if_icmp .ge off, 3)) (ht : (pc : Int) + off = (tgt : Int)) (ha : x.toInt = a) (hb : y.toInt = b) (kt : b ≤ a → Z p l e R s m args below meth c nL G A Q tgt lv rest ws kc ks) (kf : a < b → Z p l e R s m args below meth c nL G A Q (pc + 3) lv rest ws kc ks) : Z p l e R s m args below meth c nL G A Q pc lv (.int y :: .int x :: rest) ws kc ks :=
  z_icmp_ge X hdg ht (fun h => kt (by rw [← ha, ← hb]; exact Int32.le_iff_toInt_le.mp h)) (fun h => kf (by rw [← ha, ← hb]; exact Int.not_le.mp (fun q => h (Int32.le_iff_toInt_le.mpr q))))
theorem zl_ge (X : ZC p s m args meth c cc nL own G A ret nm) {lv : List (Nat × Value)} {x y : Int64} {a b : Int} {off : Int} {tgt : Nat} (hd0 : decode cc pc = .ok (.lcmp, 1)) (hdg : decode cc (pc + 1) = .ok (.ifCond .ge off, 3)) (ht : ((pc + 1 : Nat) : Int) + off = (tgt : Int)) (ha : x.toInt = a) (hb : y.toInt = b) (kt : b ≤ a → Z p l e R s m args below meth c nL G A Q tgt lv rest ws kc ks) (kf : a < b → Z p l e R s m args below meth c nL G A Q (pc + 4) lv rest ws kc ks) : Z p l e R s m args below meth c nL G A Q pc lv (.long y :: .long x :: rest) ws kc ks :=
  z_lcmp X hd0 (z_if_ge X hdg ht (fun h => kt (by have h := (lg_cmp_ge x y).mp h; rw [← ha, ← hb]; exact Int64.le_iff_toInt_le.mp h)) (fun h => kf (by have h : ¬ _ := fun q => h ((lg_cmp_ge x y).mpr q); rw [← ha, ← hb]; exact Int.not_le.mp (fun q => h (Int64.le_iff_toInt_le.mpr q)))))
theorem zi_gt (X : ZC p s m args meth c cc nL own G A ret nm) {lv : List (Nat × Value)} {x : Int32} {a : Int} {off : Int} {tgt : Nat} (hdg : decode cc pc = .ok (.ifCond .gt off, 3)) (ht : (pc : Int) + off = (tgt : Int)) (ha : x.toInt = a) (kt : 0 < a → Z p l e R s m args below meth c nL G A Q tgt lv rest ws kc ks) (kf : a ≤ 0 → Z p l e R s m args below meth c nL G A Q (pc + 3) lv rest ws kc ks) : Z p l e R s m args below meth c nL G A Q pc lv (.int x :: rest) ws kc ks := by
  have hb : (0 : Int32).toInt = 0 := rfl
  exact z_if_gt X hdg ht (fun h => kt (by rw [← ha, ← hb]; exact Int32.lt_iff_toInt_lt.mp h)) (fun h => kf (by rw [← ha, ← hb]; exact Int.not_lt.mp (fun q => h (Int32.lt_iff_toInt_lt.mpr q))))
theorem zc_gt (X : ZC p s m args meth c cc nL own G A ret nm) {lv : List (Nat × Value)} {x y : Int32} {a b : Int} {off : Int} {tgt : Nat} (hdg : decode cc pc = .ok (.if_icmp .gt off, 3)) (ht : (pc : Int) + off = (tgt : Int)) (ha : x.toInt = a) (hb : y.toInt = b) (kt : b < a → Z p l e R s m args below meth c nL G A Q tgt lv rest ws kc ks) (kf : a ≤ b → Z p l e R s m args below meth c nL G A Q (pc + 3) lv rest ws kc ks) : Z p l e R s m args below meth c nL G A Q pc lv (.int y :: .int x :: rest) ws kc ks :=
  z_icmp_gt X hdg ht (fun h => kt (by rw [← ha, ← hb]; exact Int32.lt_iff_toInt_lt.mp h)) (fun h => kf (by rw [← ha, ← hb]; exact Int.not_lt.mp (fun q => h (Int32.lt_iff_toInt_lt.mpr q))))
theorem zl_gt (X : ZC p s m args meth c cc nL own G A ret nm) {lv : List (Nat × Value)} {x y : Int64} {a b : Int} {off : Int} {tgt : Nat} (hd0 : decode cc pc = .ok (.lcmp, 1)) (hdg : decode cc (pc + 1) = .ok (.ifCond .gt off, 3)) (ht : ((pc + 1 : Nat) : Int) + off = (tgt : Int)) (ha : x.toInt = a) (hb : y.toInt = b) (kt : b < a → Z p l e R s m args below meth c nL G A Q tgt lv rest ws kc ks) (kf : a ≤ b → Z p l e R s m args below meth c nL G A Q (pc + 4) lv rest ws kc ks) : Z p l e R s m args below meth c nL G A Q pc lv (.long y :: .long x :: rest) ws kc ks :=
  z_lcmp X hd0 (z_if_gt X hdg ht (fun h => kt (by have h := (lg_cmp_gt x y).mp h; rw [← ha, ← hb]; exact Int64.lt_iff_toInt_lt.mp h)) (fun h => kf (by have h : ¬ _ := fun q => h ((lg_cmp_gt x y).mpr q); rw [← ha, ← hb]; exact Int.not_lt.mp (fun q => h (Int64.lt_iff_toInt_lt.mpr q)))))
theorem zi_le (X : ZC p s m args meth c cc nL own G A ret nm) {lv : List (Nat × Value)} {x : Int32} {a : Int} {off : Int} {tgt : Nat} (hdg : decode cc pc = .ok (.ifCond .le off, 3)) (ht : (pc : Int) + off = (tgt : Int)) (ha : x.toInt = a) (kt : a ≤ 0 → Z p l e R s m args below meth c nL G A Q tgt lv rest ws kc ks) (kf : 0 < a → Z p l e R s m args below meth c nL G A Q (pc + 3) lv rest ws kc ks) : Z p l e R s m args below meth c nL G A Q pc lv (.int x :: rest) ws kc ks := by
  have hb : (0 : Int32).toInt = 0 := rfl
  exact z_if_le X hdg ht (fun h => kt (by rw [← ha, ← hb]; exact Int32.le_iff_toInt_le.mp h)) (fun h => kf (by rw [← ha, ← hb]; exact Int.not_le.mp (fun q => h (Int32.le_iff_toInt_le.mpr q))))
theorem zc_le (X : ZC p s m args meth c cc nL own G A ret nm) {lv : List (Nat × Value)} {x y : Int32} {a b : Int} {off : Int} {tgt : Nat} (hdg : decode cc pc = .ok (.if_icmp .le off, 3)) (ht : (pc : Int) + off = (tgt : Int)) (ha : x.toInt = a) (hb : y.toInt = b) (kt : a ≤ b → Z p l e R s m args below meth c nL G A Q tgt lv rest ws kc ks) (kf : b < a → Z p l e R s m args below meth c nL G A Q (pc + 3) lv rest ws kc ks) : Z p l e R s m args below meth c nL G A Q pc lv (.int y :: .int x :: rest) ws kc ks :=
  z_icmp_le X hdg ht (fun h => kt (by rw [← ha, ← hb]; exact Int32.le_iff_toInt_le.mp h)) (fun h => kf (by rw [← ha, ← hb]; exact Int.not_le.mp (fun q => h (Int32.le_iff_toInt_le.mpr q))))
theorem zl_le (X : ZC p s m args meth c cc nL own G A ret nm) {lv : List (Nat × Value)} {x y : Int64} {a b : Int} {off : Int} {tgt : Nat} (hd0 : decode cc pc = .ok (.lcmp, 1)) (hdg : decode cc (pc + 1) = .ok (.ifCond .le off, 3)) (ht : ((pc + 1 : Nat) : Int) + off = (tgt : Int)) (ha : x.toInt = a) (hb : y.toInt = b) (kt : a ≤ b → Z p l e R s m args below meth c nL G A Q tgt lv rest ws kc ks) (kf : b < a → Z p l e R s m args below meth c nL G A Q (pc + 4) lv rest ws kc ks) : Z p l e R s m args below meth c nL G A Q pc lv (.long y :: .long x :: rest) ws kc ks :=
  z_lcmp X hd0 (z_if_le X hdg ht (fun h => kt (by have h := (lg_cmp_le x y).mp h; rw [← ha, ← hb]; exact Int64.le_iff_toInt_le.mp h)) (fun h => kf (by have h : ¬ _ := fun q => h ((lg_cmp_le x y).mpr q); rw [← ha, ← hb]; exact Int.not_le.mp (fun q => h (Int64.le_iff_toInt_le.mpr q)))))
theorem zi_eq_zb (X : ZC p s m args meth c cc nL own G A ret nm) {lv : List (Nat × Value)} {P : Prop} [Decidable P] {off : Int} {tgt : Nat} (hdg : decode cc pc = .ok (.ifCond .eq off, 3)) (ht : (pc : Int) + off = (tgt : Int)) (kt : ¬ P → Z p l e R s m args below meth c nL G A Q tgt lv rest ws kc ks) (kf : P → Z p l e R s m args below meth c nL G A Q (pc + 3) lv rest ws kc ks) : Z p l e R s m args below meth c nL G A Q pc lv (.int (zb (decide P)) :: rest) ws kc ks := z_if_eq X hdg ht (fun h => kt (zb_0.mp h)) (fun h => kf (Decidable.of_not_not (fun q => h (zb_0.mpr q))))
theorem zi_ne_zb (X : ZC p s m args meth c cc nL own G A ret nm) {lv : List (Nat × Value)} {P : Prop} [Decidable P] {off : Int} {tgt : Nat} (hdg : decode cc pc = .ok (.ifCond .ne off, 3)) (ht : (pc : Int) + off = (tgt : Int)) (kt : P → Z p l e R s m args below meth c nL G A Q tgt lv rest ws kc ks) (kf : ¬ P → Z p l e R s m args below meth c nL G A Q (pc + 3) lv rest ws kc ks) : Z p l e R s m args below meth c nL G A Q pc lv (.int (zb (decide P)) :: rest) ws kc ks := z_if_ne X hdg ht (fun h => kt (Decidable.of_not_not (fun q => h (zb_0.mpr q)))) (fun h => kf (zb_0.mp h))
theorem z_mmin (X : ZC p s m args meth c cc nL own G A ret nm) {lv : List (Nat × Value)} {x y : Int32} {idx : Nat} (h1 : Cond.methodLink own idx Lib.Math.min.name ∈ BIG) (h2 : Cond.static Lib.Math.min.name ∈ BIG) (h3 : Cond.initialized "java/lang/Math" ∈ BIG) (h4 : Cond.code Lib.Math.min.name Lib.Math.min.code 2 (some .int) ∈ BIG) (hR : 1 ≤ R.frames ∧ (rest.map fun v => v.category).sum + 13 ≤ R.locals) (hf : kc ≤ R.cells ∧ ks ≤ R.slots) (hdg : decode cc pc = .ok (.invokestatic idx, 3)) {v : Int32} (hv : (if y < x then y else x) = v) (kz : Z p l e R s m args below meth c nL G A Q (pc + 3) lv (.int v :: rest) ws kc ks) : Z p l e R s m args below meth c nL G A Q pc lv (.int y :: .int x :: rest) ws kc ks := by
  subst hv
  exact fun H locs ls hP hD hS hl => va_mmin X.1 X.2.1 (X.2.2.1.trans hl.1.symm) X.2.2.2.1 (X.2.2.2.2.1 _ h1) (X.2.2.2.2.1 _ h2) (X.2.2.2.2.1 _ h3) (X.2.2.2.2.1 _ h4) hR.1 hR.2 hf.1 hf.2 hdg (kz H locs ls hP hD hS hl)
theorem z_mmax (X : ZC p s m args meth c cc nL own G A ret nm) {lv : List (Nat × Value)} {x y : Int32} {idx : Nat} (h1 : Cond.methodLink own idx Lib.Math.max.name ∈ BIG) (h2 : Cond.static Lib.Math.max.name ∈ BIG) (h3 : Cond.initialized "java/lang/Math" ∈ BIG) (h4 : Cond.code Lib.Math.max.name Lib.Math.max.code 2 (some .int) ∈ BIG) (hR : 1 ≤ R.frames ∧ (rest.map fun v => v.category).sum + 13 ≤ R.locals) (hf : kc ≤ R.cells ∧ ks ≤ R.slots) (hdg : decode cc pc = .ok (.invokestatic idx, 3)) {v : Int32} (hv : (if x < y then y else x) = v) (kz : Z p l e R s m args below meth c nL G A Q (pc + 3) lv (.int v :: rest) ws kc ks) : Z p l e R s m args below meth c nL G A Q pc lv (.int y :: .int x :: rest) ws kc ks := by
  subst hv
  exact fun H locs ls hP hD hS hl => va_mmax X.1 X.2.1 (X.2.2.1.trans hl.1.symm) X.2.2.2.1 (X.2.2.2.2.1 _ h1) (X.2.2.2.2.1 _ h2) (X.2.2.2.2.1 _ h3) (X.2.2.2.2.1 _ h4) hR.1 hR.2 hf.1 hf.2 hdg (kz H locs ls hP hD hS hl)
theorem tI_min {x y : Int32} {a b : Int} (ha : x.toInt = a) (hb : y.toInt = b) : (if y < x then y else x).toInt = min a b := by
  subst ha; subst hb
  by_cases h : y < x
  · rw [if_pos h]; have := Int32.lt_iff_toInt_lt.mp h; omega
  · rw [if_neg h]; have := Int.not_lt.mp (fun q => h (Int32.lt_iff_toInt_lt.mpr q)); omega
theorem tI_max {x y : Int32} {a b : Int} (ha : x.toInt = a) (hb : y.toInt = b) : (if x < y then y else x).toInt = max a b := by
  subst ha; subst hb
  by_cases h : x < y
  · rw [if_pos h]; have := Int32.lt_iff_toInt_lt.mp h; omega
  · rw [if_neg h]; have := Int.not_lt.mp (fun q => h (Int32.lt_iff_toInt_lt.mpr q)); omega
theorem b32 {x : Int} (h1 : -2147483648 ≤ x) (h2 : x < 2147483648) : x.bmod (2 ^ 32) = x := Int.bmod_eq_of_le (by omega) (by omega)
theorem b64 {x : Int} (h1 : -9223372036854775808 ≤ x) (h2 : x < 9223372036854775808) : x.bmod (2 ^ 64) = x := Int.bmod_eq_of_le (by omega) (by omega)
theorem tI_add {x y : Int32} {a b : Int} (ha : x.toInt = a) (hb : y.toInt = b) (h : -2147483648 ≤ a + b ∧ a + b < 2147483648) : (x + y).toInt = a + b := by rw [Int32.toInt_add, ha, hb]; exact b32 h.1 h.2
theorem tI_sub {x y : Int32} {a b : Int} (ha : x.toInt = a) (hb : y.toInt = b) (h : -2147483648 ≤ a - b ∧ a - b < 2147483648) : (x - y).toInt = a - b := by rw [Int32.toInt_sub, ha, hb]; exact b32 h.1 h.2
theorem tI_mul {x y : Int32} {a b : Int} (ha : x.toInt = a) (hb : y.toInt = b) (h : -2147483648 ≤ a * b ∧ a * b < 2147483648) : (x * y).toInt = a * b := by rw [Int32.toInt_mul, ha, hb]; exact b32 h.1 h.2
theorem tI_neg {x : Int32} {a : Int} (ha : x.toInt = a) (h : -2147483648 ≤ -a ∧ -a < 2147483648) : (-x).toInt = -a := by rw [Int32.toInt_neg, ha]; exact b32 h.1 h.2
theorem tJ_add {x y : Int64} {a b : Int} (ha : x.toInt = a) (hb : y.toInt = b) (h : -9223372036854775808 ≤ a + b ∧ a + b < 9223372036854775808) : (x + y).toInt = a + b := by rw [Int64.toInt_add, ha, hb]; exact b64 h.1 h.2
theorem tJ_sub {x y : Int64} {a b : Int} (ha : x.toInt = a) (hb : y.toInt = b) (h : -9223372036854775808 ≤ a - b ∧ a - b < 9223372036854775808) : (x - y).toInt = a - b := by rw [Int64.toInt_sub, ha, hb]; exact b64 h.1 h.2
theorem tJ_mul {x y : Int64} {a b : Int} (ha : x.toInt = a) (hb : y.toInt = b) (h : -9223372036854775808 ≤ a * b ∧ a * b < 9223372036854775808) : (x * y).toInt = a * b := by rw [Int64.toInt_mul, ha, hb]; exact b64 h.1 h.2
theorem tJ_neg {x : Int64} {a : Int} (ha : x.toInt = a) (h : -9223372036854775808 ≤ -a ∧ -a < 9223372036854775808) : (-x).toInt = -a := by rw [Int64.toInt_neg, ha]; exact b64 h.1 h.2
theorem vin {x : Int32} {a : Int} {n : Nat} (h : x.toInt = a) (h1 : 0 ≤ a) (h2 : a < n) : vp_in x n := by
  rw [vp_in_iff, h]
  exact ⟨h1, h2⟩
theorem i32_eq {x c : Int32} {a n : Int} (h : x.toInt = a) (hn : c.toInt = n) (e : a = n) : x = c := Int32.toInt_inj.mp (by rw [h, hn, e])
theorem zloop {σ : Type} (LV : σ → List (Nat × Value)) (ST : σ → List Value) (WS : σ → va_W) (inv : σ → Prop) (mu : σ → Nat) (a : σ) (h : ∀ a : σ, inv a → (∀ b : σ, inv b → mu b < mu a → Z p l e R s m args below meth c nL G A Q pc (LV b) (ST b) (WS b) kc ks) → Z p l e R s m args below meth c nL G A Q pc (LV a) (ST a) (WS a) kc ks) (ha : inv a) : Z p l e R s m args below meth c nL G A Q pc (LV a) (ST a) (WS a) kc ks := by
  have key : ∀ (n : Nat) (a : σ), mu a = n → inv a → Z p l e R s m args below meth c nL G A Q pc (LV a) (ST a) (WS a) kc ks := by
    intro n
    induction n using Nat.strongRecOn with
    | ind n ih =>
      intro a hn ha
      exact h a ha (fun b hb hlt => ih (mu b) (by omega) b rfl hb)
  exact key _ a rfl ha
theorem upd0 {k : Nat} : upd (fun _ => (0 : Int32)) k 0 = fun _ => 0 := by funext j; unfold upd; split <;> rfl
theorem updL0 {k : Nat} : vp_updL (fun _ => (0 : Int64)) k 0 = fun _ => 0 := by funext j; unfold vp_updL; split <;> rfl
theorem tI_nI {n : Nat} (h : n < 2 ^ 31) : (nI n).toInt = (n : Int) := nI_toInt h
end ZCOND
end
section
/-! instructions decoded in one pass over the bytes -/
def ible : Int → Int → Bool
  | .ofNat a, .ofNat b => Nat.ble a b
  | .ofNat _, .negSucc _ => false
  | .negSucc _, .ofNat _ => true
  | .negSucc a, .negSucc b => Nat.ble b a
theorem ible_ok : ∀ {a b : Int}, ible a b = true → a ≤ b
  | .ofNat a, .ofNat b, h => by
    have h1 := Nat.le_of_ble_eq_true (show Nat.ble a b = true from h)
    show (a : Int) ≤ (b : Int)
    omega
  | .ofNat a, .negSucc b, h => by cases h
  | .negSucc a, .ofNat b, _ => by
    rw [show Int.negSucc a = -((a : Int) + 1) from rfl]
    show -((a : Int) + 1) ≤ (b : Int)
    omega
  | .negSucc a, .negSucc b, h => by
    have h1 := Nat.le_of_ble_eq_true (show Nat.ble b a = true from h)
    rw [show Int.negSucc a = -((a : Int) + 1) from rfl, show Int.negSucc b = -((b : Int) + 1) from rfl]
    omega
theorem ible_mk : ∀ {a b : Int}, a ≤ b → ible a b = true
  | .ofNat a, .ofNat b, h => by
    have h : (a : Int) ≤ (b : Int) := h
    exact Nat.ble_eq_true_of_le (by omega)
  | .ofNat a, .negSucc b, h => by
    exfalso
    rw [show Int.negSucc b = -((b : Int) + 1) from rfl] at h
    have h : (a : Int) ≤ -((b : Int) + 1) := h
    omega
  | .negSucc a, .ofNat b, _ => rfl
  | .negSucc a, .negSucc b, h => by
    rw [show Int.negSucc a = -((a : Int) + 1) from rfl, show Int.negSucc b = -((b : Int) + 1) from rfl] at h
    exact Nat.ble_eq_true_of_le (by omega)
noncomputable def lrc {α β : Type} (b : β) (f : α → β → β) (l : List α) : β := List.rec (motive := fun _ => β) b (fun q _ r => f q r) l
noncomputable abbrev brc {α : Type} (c : Bool) (t e : α) : α := Bool.rec (motive := fun _ => α) e t c
theorem brc_eq {α : Type} (c : Bool) (t e : α) : brc c t e = bif c then t else e := by cases c <;> rfl
theorem lrc_cons {α β : Type} {b : β} {f : α → β → β} {q : α} {l : List α} : lrc b f (q :: l) = f q (lrc b f l) := rfl
theorem lrc_foldr {α β : Type} {b : β} {f : α → β → β} : ∀ (l : List α), lrc b f l = l.foldr f b
  | [] => rfl
  | q :: l => by rw [lrc_cons, lrc_foldr l, List.foldr_cons]
noncomputable def fnd {α : Type} (l : List (Nat × α)) (k : Nat) : Option α := lrc none (fun q r => bif Nat.beq q.1 k then some q.2 else r) l
theorem fnd_mem {α : Type} : ∀ (l : List (Nat × α)) (k : Nat) (v : α), fnd l k = some v → (k, v) ∈ l
  | [], _, _, h => by cases h
  | q :: l, k, v, h => by
    have h : (bif Nat.beq q.1 k then some q.2 else fnd l k) = some v := h
    cases hb : Nat.beq q.1 k with
    | true =>
      rw [hb] at h
      have h : some q.2 = some v := h
      cases h
      have e : q.1 = k := Nat.eq_of_beq_eq_true hb
      subst e
      exact List.mem_cons_self
    | false =>
      rw [hb] at h
      exact List.mem_cons_of_mem _ (fnd_mem l k v h)
theorem drop2 {α : Type} (L : List α) (a b : Nat) : (L.drop a).drop b = L.drop (a + b) := by
  first | (rw [List.drop_drop]; done) | (rw [List.drop_drop, Nat.add_comm])
abbrev DIn : Type := Jvm.ClassFile.Decoder Instr
abbrev DNa : Type := Jvm.ClassFile.Decoder Nat
abbrev DZi : Type := Jvm.ClassFile.Decoder Int
abbrev du1 : DNa := Jvm.ClassFile.Reader.u1
abbrev du2 : DNa := Jvm.ClassFile.Reader.u2
abbrev ds1 : DZi := Jvm.ClassFile.Reader.s1
abbrev ds2 : DZi := Jvm.ClassFile.Reader.s2
def tb0 : List (Nat × Instr) := [(42, .aload_n 0), (43, .aload_n 1), (27, .iload_n 1), (28, .iload_n 2), (29, .iload_n 3), (26, .iload_n 0), (3, .iconst 0), (4, .iconst 1), (46, .iaload), (96, .iadd), (172, .ireturn), (133, .i2l), (2, .iconst (-1)), (5, .iconst 2), (6, .iconst 3), (7, .iconst 4), (8, .iconst 5), (9, .lconst 0), (10, .lconst 1), (44, .aload_n 2), (45, .aload_n 3), (30, .lload_n 0), (31, .lload_n 1), (32, .lload_n 2), (33, .lload_n 3), (59, .istore_n 0), (60, .istore_n 1), (61, .istore_n 2), (62, .istore_n 3), (63, .lstore_n 0), (64, .lstore_n 1), (65, .lstore_n 2), (66, .lstore_n 3), (75, .astore_n 0), (76, .astore_n 1), (77, .astore_n 2), (78, .astore_n 3), (79, .iastore), (104, .imul), (105, .lmul), (148, .lcmp), (87, .pop), (100, .isub), (173, .lreturn), (177, .return_), (89, .dup), (101, .lsub), (47, .laload), (97, .ladd), (80, .lastore), (88, .pop2), (92, .dup2), (126, .iand), (121, .lshl), (129, .lor), (127, .land), (116, .ineg), (109, .ldiv), (84, .bastore), (51, .baload), (120, .ishl), (113, .lrem), (128, .ior), (124, .iushr), (122, .ishr), (50, .aaload), (83, .aastore), (117, .lneg), (112, .irem), (190, .arraylength), (108, .idiv), (131, .lxor), (136, .l2i), (130, .ixor), (147, .i2s), (145, .i2b), (125, .lushr), (123, .lshr), (176, .areturn), (191, .athrow), (1, .aconst_null)]
def tU2 : List (Nat × (Nat → Instr)) := [(180, .getfield), (182, .invokevirtual), (184, .invokestatic), (181, .putfield), (20, .ldc2_w), (183, .invokespecial), (19, .ldc_w), (187, .new), (189, .anewarray)]
def tU1 : List (Nat × (Nat → Instr)) := [(21, .iload), (22, .lload), (54, .istore), (55, .lstore), (25, .aload), (18, .ldc), (58, .astore)]
def tS2 : List (Nat × (Int → Instr)) := [(167, .goto), (159, .if_icmp .eq), (160, .if_icmp .ne), (161, .if_icmp .lt), (162, .if_icmp .ge), (163, .if_icmp .gt), (164, .if_icmp .le), (153, .ifCond .eq), (154, .ifCond .ne), (155, .ifCond .lt), (156, .ifCond .ge), (157, .ifCond .gt), (158, .ifCond .le), (17, .sipush), (198, .ifnull), (199, .ifnonnull)]
def KF (K : Nat → Nat → DIn) : Prop := (∀ pc, (Jvm.ClassFile.Decoder.instr pc : DIn) = (du1 >>= K pc)) ∧ ∀ pc, (∀ q ∈ tb0, K pc q.1 = Pure.pure q.2) ∧ (∀ q ∈ tU2, K pc q.1 = (du2 >>= fun n => Pure.pure (q.2 n))) ∧ (∀ q ∈ tU1, K pc q.1 = (du1 >>= fun n => Pure.pure (q.2 n))) ∧ (∀ q ∈ tS2, K pc q.1 = (ds2 >>= fun n => Pure.pure (q.2 n))) ∧ K pc 16 = (ds1 >>= fun n => Pure.pure (.bipush n)) ∧ K pc 132 = (du1 >>= fun n => ds1 >>= fun c => Pure.pure (.iinc n c))
set_option maxRecDepth 100000 in
theorem kf_ex : ∃ K, KF K := by
  refine ⟨_, fun pc => rfl, fun pc => ⟨?_, ?_, ?_, ?_, rfl, rfl⟩⟩
  · intro q hq
    simp only [tb0, List.mem_cons, List.not_mem_nil, or_false] at hq
    rcases hq with rfl | rfl | rfl | rfl | rfl | rfl | rfl | rfl | rfl | rfl | rfl | rfl | rfl | rfl | rfl | rfl | rfl | rfl | rfl | rfl | rfl | rfl | rfl | rfl | rfl | rfl | rfl | rfl | rfl | rfl | rfl | rfl | rfl | rfl | rfl | rfl | rfl | rfl | rfl | rfl | rfl | rfl | rfl | rfl | rfl | rfl | rfl | rfl | rfl | rfl | rfl | rfl | rfl | rfl | rfl | rfl | rfl | rfl | rfl | rfl | rfl | rfl | rfl | rfl | rfl | rfl | rfl | rfl | rfl | rfl | rfl | rfl | rfl | rfl | rfl | rfl | rfl | rfl | rfl | rfl | rfl <;> rfl
  · intro q hq
    simp only [tU2, List.mem_cons, List.not_mem_nil, or_false] at hq
    rcases hq with rfl | rfl | rfl | rfl | rfl | rfl | rfl | rfl | rfl <;> rfl
  · intro q hq
    simp only [tU1, List.mem_cons, List.not_mem_nil, or_false] at hq
    rcases hq with rfl | rfl | rfl | rfl | rfl | rfl | rfl <;> rfl
  · intro q hq
    simp only [tS2, List.mem_cons, List.not_mem_nil, or_false] at hq
    rcases hq with rfl | rfl | rfl | rfl | rfl | rfl | rfl | rfl | rfl | rfl | rfl | rfl | rfl | rfl | rfl | rfl <;> rfl
theorem du1_ok {L : List UInt8} {p : Nat} {x : UInt8} (hp : L[p]? = some x) : du1 (ByteArray.mk ⟨L⟩) p = .ok (x.toNat, p + 1) := by
  obtain ⟨h, e⟩ := List.getElem?_eq_some_iff.mp hp
  show (dite (p < (ByteArray.mk ⟨L⟩).size) _ _ : DNa) (ByteArray.mk ⟨L⟩) p = _
  rw [dif_pos (show p < (ByteArray.mk ⟨L⟩).size from h)]
  exact congrArg (fun y : UInt8 => (Except.ok (y.toNat, p + 1) : Except Jvm.ClassFile.DecodeError (Nat × Nat))) e
theorem ebind {α β : Type} {a : α} {f : α → Except Jvm.ClassFile.DecodeError β} : Except.bind (.ok a) f = f a := rfl
theorem du2_ok {L : List UInt8} {p : Nat} {x y : UInt8} (hp : L[p]? = some x) (hq : L[p + 1]? = some y) : du2 (ByteArray.mk ⟨L⟩) p = .ok (x.toNat * 256 + y.toNat, p + 2) := by
  have e : du2 (ByteArray.mk ⟨L⟩) p = Except.bind (du1 (ByteArray.mk ⟨L⟩) p) (fun q => Except.bind (du1 (ByteArray.mk ⟨L⟩) q.2) (fun r => .ok (q.1 * 256 + r.1, r.2))) := rfl
  rw [e, du1_ok hp, ebind, du1_ok hq, ebind]
theorem ds1_ok {L : List UInt8} {p : Nat} {x : UInt8} (hp : L[p]? = some x) : ds1 (ByteArray.mk ⟨L⟩) p = .ok (Jvm.ClassFile.Reader.signed 8 x.toNat, p + 1) := by
  have e : ds1 (ByteArray.mk ⟨L⟩) p = Except.bind (du1 (ByteArray.mk ⟨L⟩) p) (fun q => .ok (Jvm.ClassFile.Reader.signed 8 q.1, q.2)) := rfl
  rw [e, du1_ok hp, ebind]
theorem ds2_ok {L : List UInt8} {p : Nat} {x y : UInt8} (hp : L[p]? = some x) (hq : L[p + 1]? = some y) : ds2 (ByteArray.mk ⟨L⟩) p = .ok (Jvm.ClassFile.Reader.signed 16 (x.toNat * 256 + y.toNat), p + 2) := by
  have e : ds2 (ByteArray.mk ⟨L⟩) p = Except.bind (du2 (ByteArray.mk ⟨L⟩) p) (fun q => .ok (Jvm.ClassFile.Reader.signed 16 q.1, q.2)) := rfl
  rw [e, du2_ok hp hq, ebind]
theorem dec_K {K : Nat → Nat → DIn} (hK : KF K) {L : List UInt8} {p : Nat} {x : UInt8} (hp : L[p]? = some x) : decode (ByteArray.mk ⟨L⟩) p = Except.bind (K p x.toNat (ByteArray.mk ⟨L⟩) (p + 1)) (fun r => .ok (r.1, r.2 - p)) := by
  have h1 : decode (ByteArray.mk ⟨L⟩) p = Except.bind ((Jvm.ClassFile.Decoder.instr p : DIn) (ByteArray.mk ⟨L⟩) p) (fun r => .ok (r.1, r.2 - p)) := rfl
  have h2 : (du1 >>= K p : DIn) (ByteArray.mk ⟨L⟩) p = Except.bind (du1 (ByteArray.mk ⟨L⟩) p) (fun q => K p q.1 (ByteArray.mk ⟨L⟩) q.2) := rfl
  rw [h1, hK.1, h2, du1_ok hp, ebind]
theorem dec_R {α : Type} {r : Jvm.ClassFile.Decoder α} {f : α → Instr} {cc : ByteArray} {p q : Nat} {a : α} (e : r cc p = .ok (a, q)) : (r >>= fun n => Pure.pure (f n) : DIn) cc p = .ok (f a, q) := by
  have h : (r >>= fun n => Pure.pure (f n) : DIn) cc p = Except.bind (r cc p) (fun z => .ok (f z.1, z.2)) := rfl
  rw [h, e, ebind]
theorem dec_R2 {f : Nat → Int → Instr} {cc : ByteArray} {p q q2 : Nat} {a : Nat} {b : Int} (e : du1 cc p = .ok (a, q)) (e2 : ds1 cc q = .ok (b, q2)) : (du1 >>= fun n => ds1 >>= fun c => Pure.pure (f n c) : DIn) cc p = .ok (f a b, q2) := by
  have h : (du1 >>= fun n => ds1 >>= fun c => Pure.pure (f n c) : DIn) cc p = Except.bind (du1 cc p) (fun z => Except.bind (ds1 cc z.2) (fun y => .ok (f z.1 y.1, y.2))) := rfl
  rw [h, e, ebind, e2, ebind]
noncomputable def dA2 (l : List UInt8) (f : Nat → Nat → Instr) : Option (Instr × Nat) := match l with
  | a :: b :: _ => some (f a.toNat b.toNat, 3)
  | _ => none
noncomputable def dA1 (l : List UInt8) (f : Nat → Instr) : Option (Instr × Nat) := match l with
  | a :: _ => some (f a.toNat, 2)
  | _ => none
noncomputable def dAx (x : UInt8) (l : List UInt8) : Option (Instr × Nat) := match fnd tb0 x.toNat with
    | some i => some (i, 1)
    | none => match fnd tU2 x.toNat with
      | some f => dA2 l (fun a b => f (a * 256 + b))
      | none => match fnd tU1 x.toNat with
        | some f => dA1 l f
        | none => match fnd tS2 x.toNat with
          | some f => dA2 l (fun a b => f (Jvm.ClassFile.Reader.signed 16 (a * 256 + b)))
          | none => bif Nat.beq x.toNat 16 then dA1 l (fun a => .bipush (Jvm.ClassFile.Reader.signed 8 a)) else bif Nat.beq x.toNat 132 then dA2 l (fun a b => .iinc a (Jvm.ClassFile.Reader.signed 8 b)) else none
noncomputable def dA (l : List UInt8) : Option (Instr × Nat) := match l with
  | [] => none
  | x :: l => dAx x l
theorem dA2_ok {L : List UInt8} {p : Nat} {f : Nat → Nat → Instr} {q : Instr × Nat} (h : dA2 (L.drop p) f = some q) : ∃ a b : UInt8, L[p]? = some a ∧ L[p + 1]? = some b ∧ q = (f a.toNat b.toNat, 3) := by
  cases e : L.drop p with
  | nil => rw [e] at h; cases h
  | cons a r =>
    cases r with
    | nil => rw [e] at h; cases h
    | cons b r =>
      rw [e] at h
      cases h
      have h0 : (L.drop p)[0]? = some a := by rw [e]; rfl
      have h1 : (L.drop p)[1]? = some b := by rw [e]; rfl
      rw [List.getElem?_drop] at h0 h1
      exact ⟨a, b, h0, h1, rfl⟩
theorem dA1_ok {L : List UInt8} {p : Nat} {f : Nat → Instr} {q : Instr × Nat} (h : dA1 (L.drop p) f = some q) : ∃ a : UInt8, L[p]? = some a ∧ q = (f a.toNat, 2) := by
  cases e : L.drop p with
  | nil => rw [e] at h; cases h
  | cons a r =>
    rw [e] at h
    cases h
    have h0 : (L.drop p)[0]? = some a := by rw [e]; rfl
    rw [List.getElem?_drop] at h0
    exact ⟨a, h0, rfl⟩
theorem dA_ok {L : List UInt8} {p : Nat} {q : Instr × Nat} (h : dA (L.drop p) = some q) : decode (ByteArray.mk ⟨L⟩) p = .ok q := by
  obtain ⟨K, hK⟩ := kf_ex
  cases e : L.drop p with
  | nil => rw [e] at h; cases h
  | cons x r =>
    have h0 : (L.drop p)[0]? = some x := by rw [e]; rfl
    rw [List.getElem?_drop] at h0
    have h0 : L[p]? = some x := h0
    have er : r = L.drop (p + 1) := by
      have h9 : (L.drop p).drop 1 = r := by rw [e]; rfl
      rw [drop2] at h9
      exact h9.symm
    rw [e] at h
    rw [dec_K hK h0]
    have h : dAx x r = some q := h
    unfold dAx at h
    obtain ⟨k0, k1, k2, k3, k4, k5⟩ := hK.2 p
    cases f0 : fnd tb0 x.toNat with
    | some i =>
      rw [f0] at h
      cases h
      rw [k0 _ (fnd_mem _ _ _ f0)]
      show Except.ok (i, p + 1 - p) = Except.ok (i, 1)
      rw [show p + 1 - p = 1 by omega]
    | none =>
      rw [f0] at h
      cases f1 : fnd tU2 x.toNat with
      | some f =>
        rw [f1] at h
        rw [er] at h
        obtain ⟨a, b, ha, hb, rfl⟩ := dA2_ok h
        rw [k1 _ (fnd_mem _ _ _ f1), dec_R (du2_ok ha hb), ebind]
        show Except.ok (_, p + 1 + 2 - p) = Except.ok (_, 3)
        rw [show p + 1 + 2 - p = 3 by omega]
      | none =>
        rw [f1] at h
        cases f2 : fnd tU1 x.toNat with
        | some f =>
          rw [f2] at h
          rw [er] at h
          obtain ⟨a, ha, rfl⟩ := dA1_ok h
          rw [k2 _ (fnd_mem _ _ _ f2), dec_R (du1_ok ha), ebind]
          show Except.ok (_, p + 1 + 1 - p) = Except.ok (_, 2)
          rw [show p + 1 + 1 - p = 2 by omega]
        | none =>
          rw [f2] at h
          cases f3 : fnd tS2 x.toNat with
          | some f =>
            rw [f3] at h
            rw [er] at h
            obtain ⟨a, b, ha, hb, rfl⟩ := dA2_ok h
            rw [k3 _ (fnd_mem _ _ _ f3), dec_R (ds2_ok ha hb), ebind]
            show Except.ok (_, p + 1 + 2 - p) = Except.ok (_, 3)
            rw [show p + 1 + 2 - p = 3 by omega]
          | none =>
            rw [f3] at h
            cases f4 : Nat.beq x.toNat 16 with
            | true =>
              have h : dA1 r (fun a => .bipush (Jvm.ClassFile.Reader.signed 8 a)) = some q := by simpa only [f4, cond_true] using h
              rw [er] at h
              obtain ⟨a, ha, rfl⟩ := dA1_ok h
              rw [Nat.eq_of_beq_eq_true f4, k4, dec_R (ds1_ok ha), ebind]
              show Except.ok (_, p + 1 + 1 - p) = Except.ok (_, 2)
              rw [show p + 1 + 1 - p = 2 by omega]
            | false =>
              cases f5 : Nat.beq x.toNat 132 with
              | false =>
                have h : (none : Option (Instr × Nat)) = some q := by simpa only [f4, f5, cond_false] using h
                cases h
              | true =>
                have h : dA2 r (fun a b => .iinc a (Jvm.ClassFile.Reader.signed 8 b)) = some q := by simpa only [f4, f5, cond_true, cond_false] using h
                rw [er] at h
                obtain ⟨a, b, ha, hb, rfl⟩ := dA2_ok h
                rw [Nat.eq_of_beq_eq_true f5, k5, dec_R2 (du1_ok ha) (ds1_ok hb), ebind]
                show Except.ok (_, p + 1 + 1 + 1 - p) = Except.ok (_, 3)
                rw [show p + 1 + 1 + 1 - p = 3 by omega]
/-- rows of a table, in their order, against the bytes -/
noncomputable def dtG (cc : ByteArray) (tab : List (Nat × Instr × Nat)) : Nat → List UInt8 → Bool := lrc (fun _ _ => true) (fun q r p l => bif Nat.ble p q.1 then (match dA (l.drop (q.1 - p)) with
  | some z => decide (z.1 = q.2.1) && Nat.beq z.2 q.2.2
  | none => decide (decode cc q.1 = .ok q.2)) && r q.1 (l.drop (q.1 - p)) else decide (decode cc q.1 = .ok q.2) && r p l) tab
theorem dtG_ok {L : List UInt8} : ∀ (tab : List (Nat × Instr × Nat)) (p : Nat), dtG (ByteArray.mk ⟨L⟩) tab p (L.drop p) = true → ∀ q ∈ tab, decode (ByteArray.mk ⟨L⟩) q.1 = .ok q.2
  | [], _, _, q, hq => by cases hq
  | z :: tab, p, h, q, hq => by
    have h : (bif Nat.ble p z.1 then (match dA ((L.drop p).drop (z.1 - p)) with
      | some y => decide (y.1 = z.2.1) && Nat.beq y.2 z.2.2
      | none => decide (decode (ByteArray.mk ⟨L⟩) z.1 = .ok z.2)) && dtG (ByteArray.mk ⟨L⟩) tab z.1 ((L.drop p).drop (z.1 - p)) else decide (decode (ByteArray.mk ⟨L⟩) z.1 = .ok z.2) && dtG (ByteArray.mk ⟨L⟩) tab p (L.drop p)) = true := h
    cases hb : Nat.ble p z.1 with
    | false =>
      rw [hb] at h
      have h : (decide (decode (ByteArray.mk ⟨L⟩) z.1 = .ok z.2) && dtG (ByteArray.mk ⟨L⟩) tab p (L.drop p)) = true := h
      rw [Bool.and_eq_true] at h
      rcases List.mem_cons.mp hq with e | hq
      · rw [e]; exact of_decide_eq_true h.1
      · exact dtG_ok tab p h.2 q hq
    | true =>
      rw [hb] at h
      have hle := Nat.le_of_ble_eq_true hb
      rw [drop2, show p + (z.1 - p) = z.1 by omega] at h
      have h : ((match dA (L.drop z.1) with
        | some y => decide (y.1 = z.2.1) && Nat.beq y.2 z.2.2
        | none => decide (decode (ByteArray.mk ⟨L⟩) z.1 = .ok z.2)) && dtG (ByteArray.mk ⟨L⟩) tab z.1 (L.drop z.1)) = true := h
      rw [Bool.and_eq_true] at h
      rcases List.mem_cons.mp hq with e | hq
      · rw [e]
        have h1 := h.1
        cases hd : dA (L.drop z.1) with
        | none =>
          rw [hd] at h1
          exact of_decide_eq_true h1
        | some y =>
          rw [hd] at h1
          have h1 : (decide (y.1 = z.2.1) && Nat.beq y.2 z.2.2) = true := h1
          rw [Bool.and_eq_true] at h1
          rw [dA_ok hd]
          obtain ⟨y1, y2⟩ := y
          have e1 : y1 = z.2.1 := of_decide_eq_true h1.1
          have e2 : y2 = z.2.2 := Nat.eq_of_beq_eq_true h1.2
          rw [e1, e2]
      · exact dtG_ok tab z.1 h.2 q hq
noncomputable def dtF (cc : ByteArray) (tab : List (Nat × Instr × Nat)) : Bool := dtG cc tab 0 cc.data.toList
theorem dtF_ok {cc : ByteArray} {tab : List (Nat × Instr × Nat)} (h : dtF cc tab = true) : ∀ q ∈ tab, decode cc q.1 = .ok q.2 := by
  obtain ⟨⟨L⟩⟩ := cc
  exact dtG_ok tab 0 h
end
section
/-! AN ABSTRACT RUNNER: values by their names (numbers), what is known of each (an interval, a cell), which field holds which, differences. Its check runs in the kernel; its soundness is over the judgement Z. -/
abbrev VT : Type := Nat × Int × Int
abbrev AEv : Type := List (Nat × VT)
abbrev ARl : Type := List (Nat × Nat × Int)
abbrev ACa : Type := List (Nat × Nat × Nat)
abbrev ALv : Type := List (Nat × Nat × Bool)
abbrev AS : Type := ALv × List Nat × AEv × ACa × ARl × Nat
abbrev TE : Type := (Nat × List VT) ⊕ (Nat × Nat × VT)
def vI : Value → Int
  | .int x => x.toInt
  | .long x => x.toInt
  | _ => 0
def vty (ad : Nat → Nat) (t : VT) (v : Value) : Prop :=
  (t.1 = 0 ∧ (∃ x : Int32, v = .int x) ∧ t.2.1 ≤ vI v ∧ vI v ≤ t.2.2) ∨ (t.1 = 1 ∧ (∃ x : Int64, v = .long x) ∧ t.2.1 ≤ vI v ∧ vI v ≤ t.2.2) ∨ (t.1 = 2 ∧ v = .ref (ad t.2.1.toNat)) ∨ (t.1 = 3 ∧ (v = .null ∨ ∃ a, v = .ref a))
def iMin : Int := -2147483648
def iMax : Int := 2147483647
def lMin : Int := -9223372036854775808
def lMax : Int := 9223372036854775807
abbrev tI0 : VT := (0, iMin, iMax)
abbrev tL0 : VT := (1, lMin, lMax)
theorem i32_lo (x : Int32) : iMin ≤ x.toInt := Int32.le_toInt x
theorem i32_hi (x : Int32) : x.toInt ≤ iMax := Int32.toInt_le x
theorem i64_lo (x : Int64) : lMin ≤ x.toInt := Int64.le_toInt x
theorem i64_hi (x : Int64) : x.toInt ≤ lMax := Int64.toInt_le x
theorem vty_i {ad : Nat → Nat} {a b : Int} {x : Int32} (h1 : a ≤ x.toInt) (h2 : x.toInt ≤ b) : vty ad (0, a, b) (.int x) := Or.inl ⟨rfl, ⟨x, rfl⟩, h1, h2⟩
theorem vty_l {ad : Nat → Nat} {a b : Int} {x : Int64} (h1 : a ≤ x.toInt) (h2 : x.toInt ≤ b) : vty ad (1, a, b) (.long x) := Or.inr (Or.inl ⟨rfl, ⟨x, rfl⟩, h1, h2⟩)
theorem vty_i0 {ad : Nat → Nat} (x : Int32) : vty ad tI0 (.int x) := vty_i (i32_lo x) (i32_hi x)
theorem vty_l0 {ad : Nat → Nat} (x : Int64) : vty ad tL0 (.long x) := vty_l (i64_lo x) (i64_hi x)
theorem vty0 {ad : Nat → Nat} {t : VT} {v : Value} (h : vty ad t v) (h0 : t.1 = 0) : ∃ x : Int32, v = .int x ∧ t.2.1 ≤ x.toInt ∧ x.toInt ≤ t.2.2 := by
  rcases h with ⟨-, ⟨x, rfl⟩, h1, h2⟩ | ⟨h1, -⟩ | ⟨h1, -⟩ | ⟨h1, -⟩
  · exact ⟨x, rfl, h1, h2⟩
  all_goals (rw [h0] at h1; cases h1)
theorem vty1 {ad : Nat → Nat} {t : VT} {v : Value} (h : vty ad t v) (h0 : t.1 = 1) : ∃ x : Int64, v = .long x ∧ t.2.1 ≤ x.toInt ∧ x.toInt ≤ t.2.2 := by
  rcases h with ⟨h1, -⟩ | ⟨-, ⟨x, rfl⟩, h1, h2⟩ | ⟨h1, -⟩ | ⟨h1, -⟩
  · rw [h0] at h1; cases h1
  · exact ⟨x, rfl, h1, h2⟩
  all_goals (rw [h0] at h1; cases h1)
theorem vty2 {ad : Nat → Nat} {t : VT} {v : Value} (h : vty ad t v) (h0 : t.1 = 2) : v = .ref (ad t.2.1.toNat) := by
  rcases h with ⟨h1, -⟩ | ⟨h1, -⟩ | ⟨-, h1⟩ | ⟨h1, -⟩
  · rw [h0] at h1; cases h1
  · rw [h0] at h1; cases h1
  · exact h1
  · rw [h0] at h1; cases h1
/-- what is known of a name: the first entry -/
noncomputable def aty (ev : AEv) (i : Nat) : VT := lrc (9, 0, 0) (fun q r => brc (Nat.beq q.1 i) q.2 r) ev
theorem aty_cons {q : Nat × VT} {l : AEv} {i : Nat} : aty (q :: l) i = bif Nat.beq q.1 i then q.2 else aty l i := brc_eq _ _ _
theorem aty_sound {ad : Nat → Nat} {ν : Nat → Value} : ∀ (ev : AEv) (i : Nat), (∀ q ∈ ev, vty ad q.2 (ν q.1)) → (aty ev i).1 = 9 ∨ vty ad (aty ev i) (ν i)
  | [], _, _ => Or.inl rfl
  | q :: l, i, h => by
    rw [aty_cons]
    cases hb : Nat.beq q.1 i with
    | true =>
      have e : q.1 = i := Nat.eq_of_beq_eq_true hb
      rw [← e]
      exact Or.inr (h q List.mem_cons_self)
    | false => exact aty_sound l i (fun q hq => h q (List.mem_cons_of_mem _ hq))
theorem aty_of {ad : Nat → Nat} {ν : Nat → Value} {ev : AEv} {i k : Nat} (h : ∀ q ∈ ev, vty ad q.2 (ν q.1)) (hk : (aty ev i).1 = k) (h9 : k ≠ 9) : vty ad (aty ev i) (ν i) := (aty_sound ev i h).resolve_left (fun e => h9 (hk.symm.trans e))
def omin : Option Int → Option Int → Option Int
  | some a, some b => some (bif ible a b then a else b)
  | some a, none => some a
  | none, b => b
def omax : Option Int → Option Int → Option Int
  | some a, some b => some (bif ible a b then b else a)
  | some a, none => some a
  | none, b => b
def isNum (t : VT) : Bool := Nat.ble t.1 1
noncomputable def ahi (ev : AEv) (rl : ARl) : Nat → Nat → Option Int
  | 0, i => bif isNum (aty ev i) then some (aty ev i).2.2 else none
  | n + 1, i => lrc (bif isNum (aty ev i) then some (aty ev i).2.2 else none) (fun q acc => brc (Nat.beq q.1 i) (omin acc ((ahi ev rl n q.2.1).map (· + q.2.2))) acc) rl
noncomputable def alo (ev : AEv) (rl : ARl) : Nat → Nat → Option Int
  | 0, i => bif isNum (aty ev i) then some (aty ev i).2.1 else none
  | n + 1, i => lrc (bif isNum (aty ev i) then some (aty ev i).2.1 else none) (fun q acc => brc (Nat.beq q.2.1 i) (omax acc ((alo ev rl n q.1).map (· - q.2.2))) acc) rl
/-- the least d known with a ≤ b + d -/
noncomputable def adif (ev : AEv) (rl : ARl) (b : Nat) : Nat → Nat → Option Int
  | 0, a => bif Nat.beq a b then some 0 else match ahi ev rl 1 a, alo ev rl 1 b with
    | some h, some l => some (h - l)
    | _, _ => none
  | n + 1, a => lrc (bif Nat.beq a b then some 0 else match ahi ev rl 1 a, alo ev rl 1 b with
    | some h, some l => some (h - l)
    | _, _ => none) (fun q acc => brc (Nat.beq q.1 a) (omin acc ((adif ev rl b n q.2.1).map (· + q.2.2))) acc) rl
theorem omin_le {a b : Option Int} {x : Int} (ha : ∀ h, a = some h → x ≤ h) (hb : ∀ h, b = some h → x ≤ h) : ∀ h, omin a b = some h → x ≤ h := by
  intro h e
  cases a with
  | none => exact hb h e
  | some a =>
    cases b with
    | none => exact ha h e
    | some b =>
      simp only [omin, Option.some.injEq] at e
      have h1 := ha a rfl
      have h2 := hb b rfl
      cases hd : ible a b <;> rw [hd] at e <;> simp only [cond_true, cond_false] at e <;> omega
theorem omax_le {a b : Option Int} {x : Int} (ha : ∀ h, a = some h → h ≤ x) (hb : ∀ h, b = some h → h ≤ x) : ∀ h, omax a b = some h → h ≤ x := by
  intro h e
  cases a with
  | none => exact hb h e
  | some a =>
    cases b with
    | none => exact ha h e
    | some b =>
      simp only [omax, Option.some.injEq] at e
      have h1 := ha a rfl
      have h2 := hb b rfl
      cases hd : ible a b <;> rw [hd] at e <;> simp only [cond_true, cond_false] at e <;> omega
theorem aown {ad : Nat → Nat} {ν : Nat → Value} {ev : AEv} (hv : ∀ q ∈ ev, vty ad q.2 (ν q.1)) {i : Nat} (hn : isNum (aty ev i) = true) : (aty ev i).2.1 ≤ vI (ν i) ∧ vI (ν i) ≤ (aty ev i).2.2 := by
  have h1 : (aty ev i).1 ≤ 1 := Nat.le_of_ble_eq_true hn
  rcases aty_sound ev i hv with h | h
  · omega
  · rcases h with ⟨-, -, h⟩ | ⟨-, -, h⟩ | ⟨h, -⟩ | ⟨h, -⟩
    · exact h
    · exact h
    · omega
    · omega
theorem fold_le {α : Type} (rl : List α) (p : α → Bool) (g : α → Option Int) {x : Int} {b0 : Option Int} (h0 : ∀ h, b0 = some h → x ≤ h) (hg : ∀ q ∈ rl, p q = true → ∀ h, g q = some h → x ≤ h) : ∀ h, lrc b0 (fun q acc => brc (p q) (omin acc (g q)) acc) rl = some h → x ≤ h := by
  induction rl with
  | nil => exact h0
  | cons q rl ih =>
    have h1 := ih (fun z hz => hg z (List.mem_cons_of_mem _ hz))
    intro h e
    rw [lrc_cons] at e
    cases hp : p q with
    | true =>
      rw [hp] at e
      exact omin_le h1 (hg q List.mem_cons_self hp) h e
    | false =>
      rw [hp] at e
      exact h1 h e
theorem fold_ge {α : Type} (rl : List α) (p : α → Bool) (g : α → Option Int) {x : Int} {b0 : Option Int} (h0 : ∀ h, b0 = some h → h ≤ x) (hg : ∀ q ∈ rl, p q = true → ∀ h, g q = some h → h ≤ x) : ∀ h, lrc b0 (fun q acc => brc (p q) (omax acc (g q)) acc) rl = some h → h ≤ x := by
  induction rl with
  | nil => exact h0
  | cons q rl ih =>
    have h1 := ih (fun z hz => hg z (List.mem_cons_of_mem _ hz))
    intro h e
    rw [lrc_cons] at e
    cases hp : p q with
    | true =>
      rw [hp] at e
      exact omax_le h1 (hg q List.mem_cons_self hp) h e
    | false =>
      rw [hp] at e
      exact h1 h e
section QUERY
variable {ad : Nat → Nat} {ν : Nat → Value} {ev : AEv} {rl : ARl}
theorem ahi_own (hv : ∀ q ∈ ev, vty ad q.2 (ν q.1)) (i : Nat) : ∀ h, (bif isNum (aty ev i) then some (aty ev i).2.2 else none) = some h → vI (ν i) ≤ h := by
  intro h e
  cases hn : isNum (aty ev i) with
  | true =>
    rw [hn] at e
    cases e
    exact (aown hv hn).2
  | false =>
    rw [hn] at e
    cases e
theorem alo_own (hv : ∀ q ∈ ev, vty ad q.2 (ν q.1)) (i : Nat) : ∀ h, (bif isNum (aty ev i) then some (aty ev i).2.1 else none) = some h → h ≤ vI (ν i) := by
  intro h e
  cases hn : isNum (aty ev i) with
  | true =>
    rw [hn] at e
    cases e
    exact (aown hv hn).1
  | false =>
    rw [hn] at e
    cases e
theorem ahi_ok (hv : ∀ q ∈ ev, vty ad q.2 (ν q.1)) (hr : ∀ q ∈ rl, vI (ν q.1) ≤ vI (ν q.2.1) + q.2.2) : ∀ (n i : Nat) (h : Int), ahi ev rl n i = some h → vI (ν i) ≤ h
  | 0, i, h, e => ahi_own hv i h e
  | n + 1, i, h, e => by
    refine fold_le rl (fun q => Nat.beq q.1 i) (fun q => (ahi ev rl n q.2.1).map (· + q.2.2)) (ahi_own hv i) ?_ h e
    intro q hq hp k ek
    cases h2 : ahi ev rl n q.2.1 with
    | none => rw [h2] at ek; cases ek
    | some k2 =>
      rw [h2] at ek
      cases ek
      have h3 := ahi_ok hv hr n q.2.1 k2 h2
      have h4 := hr q hq
      have e1 : q.1 = i := Nat.eq_of_beq_eq_true hp
      rw [e1] at h4
      show vI (ν i) ≤ k2 + q.2.2
      omega
theorem alo_ok (hv : ∀ q ∈ ev, vty ad q.2 (ν q.1)) (hr : ∀ q ∈ rl, vI (ν q.1) ≤ vI (ν q.2.1) + q.2.2) : ∀ (n i : Nat) (h : Int), alo ev rl n i = some h → h ≤ vI (ν i)
  | 0, i, h, e => alo_own hv i h e
  | n + 1, i, h, e => by
    refine fold_ge rl (fun q => Nat.beq q.2.1 i) (fun q => (alo ev rl n q.1).map (· - q.2.2)) (alo_own hv i) ?_ h e
    intro q hq hp k ek
    cases h2 : alo ev rl n q.1 with
    | none => rw [h2] at ek; cases ek
    | some k2 =>
      rw [h2] at ek
      cases ek
      have h3 := alo_ok hv hr n q.1 k2 h2
      have h4 := hr q hq
      have e1 : q.2.1 = i := Nat.eq_of_beq_eq_true hp
      rw [e1] at h4
      show k2 - q.2.2 ≤ vI (ν i)
      omega
theorem adif_own (hv : ∀ q ∈ ev, vty ad q.2 (ν q.1)) (hr : ∀ q ∈ rl, vI (ν q.1) ≤ vI (ν q.2.1) + q.2.2) (b a : Nat) : ∀ h, (bif Nat.beq a b then some (0 : Int) else match ahi ev rl 1 a, alo ev rl 1 b with
    | some h, some l => some (h - l)
    | _, _ => none) = some h → vI (ν a) - vI (ν b) ≤ h := by
  intro h e
  cases hb : Nat.beq a b with
  | true =>
    rw [hb] at e
    cases e
    rw [Nat.eq_of_beq_eq_true hb]
    omega
  | false =>
    rw [hb] at e
    cases h1 : ahi ev rl 1 a with
    | none => rw [h1] at e; cases e
    | some k1 =>
      cases h2 : alo ev rl 1 b with
      | none => rw [h1, h2] at e; cases e
      | some k2 =>
        rw [h1, h2] at e
        cases e
        have h3 := ahi_ok hv hr 1 a k1 h1
        have h4 := alo_ok hv hr 1 b k2 h2
        omega
theorem adif_ok (hv : ∀ q ∈ ev, vty ad q.2 (ν q.1)) (hr : ∀ q ∈ rl, vI (ν q.1) ≤ vI (ν q.2.1) + q.2.2) (b : Nat) : ∀ (n a : Nat) (h : Int), adif ev rl b n a = some h → vI (ν a) - vI (ν b) ≤ h
  | 0, a, h, e => adif_own hv hr b a h e
  | n + 1, a, h, e => by
    refine fold_le rl (fun q => Nat.beq q.1 a) (fun q => (adif ev rl b n q.2.1).map (· + q.2.2)) (adif_own hv hr b a) ?_ h e
    intro q hq hp k ek
    cases h2 : adif ev rl b n q.2.1 with
    | none => rw [h2] at ek; cases ek
    | some k2 =>
      rw [h2] at ek
      cases ek
      have h3 := adif_ok hv hr b n q.2.1 k2 h2
      have h4 := hr q hq
      have e1 : q.1 = a := Nat.eq_of_beq_eq_true hp
      rw [e1] at h4
      show vI (ν a) - vI (ν b) ≤ k2 + q.2.2
      omega
end QUERY
end
section
def nup (ν : Nat → Value) (n : Nat) (v : Value) : Nat → Value := fun i => if i = n then v else ν i
theorem nup_eq {ν : Nat → Value} {n : Nat} {v : Value} : nup ν n v n = v := if_pos rfl
theorem nup_ne {ν : Nat → Value} {n i : Nat} {v : Value} (h : i < n) : nup ν n v i = ν i := if_neg (Nat.ne_of_lt h)
/-- all names below the next one -/
noncomputable def mxq {α : Type} (g : α → Nat) (l : List α) : Nat := lrc 0 (fun q r => brc (Nat.ble r (g q)) (g q) r) l
theorem mxq_cons {α : Type} {g : α → Nat} {q : α} {l : List α} : mxq g (q :: l) = bif Nat.ble (mxq g l) (g q) then g q else mxq g l := brc_eq _ _ _
theorem blt_lt {a b : Nat} (h : Nat.blt a b = true) : a < b := Nat.le_of_ble_eq_true h
theorem mxq_lt {α : Type} {g : α → Nat} {n : Nat} : ∀ {l : List α}, mxq g l < n → ∀ q ∈ l, g q < n
  | [], _, q, hq => by cases hq
  | z :: l, h, q, hq => by
    rw [mxq_cons] at h
    cases hb : Nat.ble (mxq g l) (g z) with
    | true =>
      rw [hb] at h
      have h : g z < n := h
      have h1 := Nat.le_of_ble_eq_true hb
      rcases List.mem_cons.mp hq with e | hq
      · rw [e]; exact h
      · exact mxq_lt (by omega) q hq
    | false =>
      rw [hb] at h
      have h : mxq g l < n := h
      rcases List.mem_cons.mp hq with e | hq
      · rcases (by omega : g z < mxq g l ∨ mxq g l ≤ g z) with h1 | h1
        · rw [e]; omega
        · rw [Nat.ble_eq_true_of_le h1] at hb; cases hb
      · exact mxq_lt h q hq
theorem mxq_mk {α : Type} {g : α → Nat} {n : Nat} (hn : 0 < n) : ∀ {l : List α}, (∀ q ∈ l, g q < n) → mxq g l < n
  | [], _ => hn
  | z :: l, h => by
    rw [mxq_cons]
    cases hb : Nat.ble (mxq g l) (g z) with
    | true => exact h z List.mem_cons_self
    | false => exact mxq_mk hn (fun q hq => h q (List.mem_cons_of_mem _ hq))
noncomputable def afr (σ : AS) : Bool := Nat.ble 1000 σ.2.2.2.2.2 && (Nat.blt (mxq (fun q => q.2.1) σ.1) σ.2.2.2.2.2 && (Nat.blt (mxq (fun i => i) σ.2.1) σ.2.2.2.2.2 && (Nat.blt (mxq (fun q => q.1) σ.2.2.1) σ.2.2.2.2.2 && (Nat.blt (mxq (fun q => q.2.2) σ.2.2.2.1) σ.2.2.2.2.2 && (Nat.blt (mxq (fun q => q.1) σ.2.2.2.2.1) σ.2.2.2.2.2 && Nat.blt (mxq (fun q => q.2.1) σ.2.2.2.2.1) σ.2.2.2.2.2)))))
theorem afr_ok {lv : ALv} {st : List Nat} {ev : AEv} {ca : ACa} {rl : ARl} {nx : Nat} (h : afr (lv, st, ev, ca, rl, nx) = true) : 1000 ≤ nx ∧ (∀ q ∈ lv, q.2.1 < nx) ∧ (∀ i ∈ st, i < nx) ∧ (∀ q ∈ ev, q.1 < nx) ∧ (∀ q ∈ ca, q.2.2 < nx) ∧ ∀ q ∈ rl, q.1 < nx ∧ q.2.1 < nx := by
  unfold afr at h
  simp only [Bool.and_eq_true] at h
  obtain ⟨h0, h1, h2, h3, h4, h5, h6⟩ := h
  exact ⟨Nat.le_of_ble_eq_true h0, mxq_lt (blt_lt h1), mxq_lt (blt_lt h2), mxq_lt (blt_lt h3), mxq_lt (blt_lt h4), fun q hq => ⟨mxq_lt (blt_lt h5) q hq, mxq_lt (blt_lt h6) q hq⟩⟩
theorem afr_mk {lv : ALv} {st : List Nat} {ev : AEv} {ca : ACa} {rl : ARl} {nx : Nat} (h : 1000 ≤ nx ∧ (∀ q ∈ lv, q.2.1 < nx) ∧ (∀ i ∈ st, i < nx) ∧ (∀ q ∈ ev, q.1 < nx) ∧ (∀ q ∈ ca, q.2.2 < nx) ∧ ∀ q ∈ rl, q.1 < nx ∧ q.2.1 < nx) : afr (lv, st, ev, ca, rl, nx) = true := by
  obtain ⟨h0, h1, h2, h3, h4, h5⟩ := h
  have hn : 0 < nx := by omega
  unfold afr
  simp only [Bool.and_eq_true]
  exact ⟨Nat.ble_eq_true_of_le h0, Nat.ble_eq_true_of_le (mxq_mk hn h1), Nat.ble_eq_true_of_le (mxq_mk hn h2), Nat.ble_eq_true_of_le (mxq_mk hn h3), Nat.ble_eq_true_of_le (mxq_mk hn h4), Nat.ble_eq_true_of_le (mxq_mk hn (fun q hq => (h5 q hq).1)), Nat.ble_eq_true_of_le (mxq_mk hn (fun q hq => (h5 q hq).2))⟩
def fget (ws : va_W) (k j : Nat) : Option Value := match ws[k]? with
  | some (_, .inr o) => o.2[j]?
  | _ => none
def cget (ws : va_W) (k j : Nat) : Option (Value ⊕ (ClassId × vp_A)) := match ws[k]? with
  | some (_, .inr o) => (o.2[j]?).map Sum.inl
  | some (_, .inl a) => some (.inr a)
  | none => none
/-- which fields, which arrays (999) may be written -/
def mkq (mk : List (Nat × Nat)) (k j : Nat) : Bool := mk.any (fun q => Nat.beq q.1 k && (Nat.beq q.2 j || Nat.beq q.2 999))
def FRM (mk : List (Nat × Nat)) (w0 ws : va_W) : Prop := ws.length = w0.length ∧ ∀ k j, mkq mk k j = false → cget ws k j = cget w0 k j
/-- what lies in the kept array, by its place -/
def KTY (k : Nat) : Int × Int := bif Nat.beq (k % 154) 0 then (-1, 15) else bif Nat.ble 2 (k % 154) && Nat.blt (k % 154) 18 then (0, 9) else bif Nat.beq (k % 154) 44 then (0, 12) else bif Nat.ble 45 (k % 154) && Nat.beq ((k % 154 - 45) % 9) 0 then (0, 5) else (iMin, iMax)
def aint (n : Nat) (t : VT) (f : Nat → Int32) : Prop := ∀ k, k < n → t.2.1 ≤ (f k).toInt ∧ (f k).toInt ≤ t.2.2 ∧ (t.1 = 1 → (KTY k).1 ≤ (f k).toInt ∧ (f k).toInt ≤ (KTY k).2)
/-- a code of an array's elements and a field: 0, 1: as many of the first as the field tells are no less than that; 2: each is 0 or less than the field -/
def pcl (c : Nat) : Nat := (c - 2) / 512
def pfl (c : Nat) : Nat := (c - 2) / 4 % 128
def pkd (c : Nat) : Nat := (c - 2) % 4
def PP (c i : Nat) (v F : Int) : Prop := (pkd c ≤ 1 ∧ ((i : Int) < F → ((pkd c : Nat) : Int) ≤ v)) ∨ (2 ≤ pkd c ∧ (v = 0 ∨ v < F))
def pord (c : Nat) (x o : Int) : Prop := (pkd c ≤ 1 ∧ x ≤ o) ∨ (2 ≤ pkd c ∧ o ≤ x)
theorem PP.mono {c i : Nat} {v o x : Int} (h : PP c i v o) (h2 : pord c x o) : PP c i v x := by
  rcases h with ⟨h1, h⟩ | ⟨h1, h⟩
  · rcases h2 with ⟨_, h2⟩ | ⟨h3, _⟩
    · exact Or.inl ⟨h1, fun hi => h (by omega)⟩
    · omega
  · rcases h2 with ⟨h3, _⟩ | ⟨_, h2⟩
    · omega
    · exact Or.inr ⟨h1, h.imp id (fun h => by omega)⟩
def PFX (G : KG) (T : List TE) (ws : va_W) : Prop := ∀ (k n : Nat) (t : VT) (a : Nat) (f : Nat → Int32) (c : Int32) (i : Nat), T[k]? = some (.inr (0, n, t)) → 2 ≤ t.1 → ws[k]? = some (a, aI G n f) → fget ws (pcl t.1) (pfl t.1) = some (.int c) → i < n → PP t.1 i (f i).toInt c.toInt
def ety (G : KG) (ad : Nat → Nat) : TE → va_E → Prop
  | .inl (ci, ts), en => ∃ fs, en = ob ci fs ∧ fs.length = ts.length ∧ ∀ (j : Nat) (t : VT) (v : Value), ts[j]? = some t → fs[j]? = some v → vty ad t v
  | .inr (kd, n, t), en => (kd = 0 ∧ ∃ f, en = aI G n f ∧ aint n t f) ∨ (kd = 1 ∧ ∃ f : Nat → Int64, en = aJ G n f) ∨ (kd = 2 ∧ ∃ f, en = aZ G n f ∧ aint n t f) ∨ (kd = 3 ∧ ∃ f, en = aO G n f ∧ ∀ k, k < n → f k = some (ad (t.2.1.toNat + k * t.2.2.toNat)))
def WT (G : KG) (ad : Nat → Nat) (T : List TE) (ws : va_W) : Prop := T.length ≤ ws.length ∧ (∀ (k : Nat) (te : TE), T[k]? = some te → ∃ en, ws[k]? = some (ad k, en) ∧ ety G ad te en) ∧ PFX G T ws
/-- the state σ is so, by the names ν -/
def AK (G : KG) (ad : Nat → Nat) (T : List TE) (mk : List (Nat × Nat)) (w0 : va_W) (pin : List (Nat × Value)) (σ : AS) (ν : Nat → Value) (ws : va_W) : Prop :=
  (∀ q ∈ σ.1, (ν q.2.1).category = bif q.2.2 then 2 else 1) ∧ (∀ q ∈ σ.2.2.1, vty ad q.2 (ν q.1)) ∧ (∀ q ∈ σ.2.2.2.1, fget ws q.1 q.2.1 = some (ν q.2.2)) ∧ (∀ q ∈ σ.2.2.2.2.1, vI (ν q.1) ≤ vI (ν q.2.1) + q.2.2) ∧ (∀ q ∈ pin, q.1 < 1000 ∧ ν q.1 = q.2) ∧ WT G ad T ws ∧ FRM mk w0 ws
def AG (G : KG) (ad : Nat → Nat) (T : List TE) (mk : List (Nat × Nat)) (w0 : va_W) (pin : List (Nat × Value)) (σ : AS) (ν : Nat → Value) (lv : List (Nat × Value)) (st : List Value) (ws : va_W) : Prop :=
  lv = σ.1.map (fun q => (q.1, ν q.2.1)) ∧ st = σ.2.1.map ν ∧ AK G ad T mk w0 pin σ ν ws
section AGS
variable {G : KG} {ad : Nat → Nat} {T : List TE} {mk : List (Nat × Nat)} {w0 : va_W} {pin : List (Nat × Value)} {ν : Nat → Value} {ws : va_W}
variable {lv : ALv} {st : List Nat} {ev : AEv} {ca : ACa} {rl : ARl} {nx : Nat}
theorem AK.cong {ν' : Nat → Value} (h : AK G ad T mk w0 pin (lv, st, ev, ca, rl, nx) ν ws) (hf : afr (lv, st, ev, ca, rl, nx) = true) (e : ∀ i, i < nx → ν' i = ν i) : AK G ad T mk w0 pin (lv, st, ev, ca, rl, nx) ν' ws := by
  obtain ⟨f0, f1, f2, f3, f4, f5⟩ := afr_ok hf
  obtain ⟨h1, h2, h3, h4, h5, h6⟩ := h
  refine ⟨fun q hq => ?_, fun q hq => ?_, fun q hq => ?_, fun q hq => ?_, fun q hq => ?_, h6⟩
  · rw [e _ (f1 q hq)]; exact h1 q hq
  · rw [e _ (f3 q hq)]; exact h2 q hq
  · rw [e _ (f4 q hq)]; exact h3 q hq
  · rw [e _ (f5 q hq).1, e _ (f5 q hq).2]; exact h4 q hq
  · refine ⟨(h5 q hq).1, ?_⟩
    rw [e _ (Nat.lt_of_lt_of_le (h5 q hq).1 f0)]; exact (h5 q hq).2
theorem lvs_cong {ν' : Nat → Value} (hf : afr (lv, st, ev, ca, rl, nx) = true) (e : ∀ i, i < nx → ν' i = ν i) : lv.map (fun q => (q.1, ν' q.2.1)) = lv.map (fun q => (q.1, ν q.2.1)) := by
  obtain ⟨f0, f1, f2, f3, f4, f5⟩ := afr_ok hf
  refine List.map_congr_left (fun q hq => ?_)
  rw [e _ (f1 q hq)]
theorem sts_cong {ν' : Nat → Value} (hf : afr (lv, st, ev, ca, rl, nx) = true) (e : ∀ i, i < nx → ν' i = ν i) : st.map ν' = st.map ν := by
  obtain ⟨f0, f1, f2, f3, f4, f5⟩ := afr_ok hf
  exact List.map_congr_left (fun q hq => e _ (f2 q hq))
/-- a new name of type t, its relations nr -/
theorem AK.new {t : VT} {v : Value} {nr : ARl} (h : AK G ad T mk w0 pin (lv, st, ev, ca, rl, nx) ν ws) (hf : afr (lv, st, ev, ca, rl, nx) = true) (hv : vty ad t v) (hr : ∀ q ∈ nr, vI (nup ν nx v q.1) ≤ vI (nup ν nx v q.2.1) + q.2.2) : AK G ad T mk w0 pin (lv, st, (nx, t) :: ev, ca, nr ++ rl, nx + 1) (nup ν nx v) ws := by
  obtain ⟨h1, h2, h3, h4, h5, h6⟩ := h.cong hf (ν' := nup ν nx v) (fun i hi => nup_ne hi)
  refine ⟨h1, fun q hq => ?_, h3, fun q hq => ?_, h5, h6⟩
  · rcases List.mem_cons.mp hq with e | hq
    · rw [e]
      show vty ad t (nup ν nx v nx)
      rw [nup_eq]
      exact hv
    · exact h2 q hq
  · rcases List.mem_append.mp hq with hq | hq
    · exact hr q hq
    · exact h4 q hq
theorem AK.stk {st' : List Nat} (h : AK G ad T mk w0 pin (lv, st, ev, ca, rl, nx) ν ws) : AK G ad T mk w0 pin (lv, st', ev, ca, rl, nx) ν ws := h
theorem AG.push {t : VT} {v : Value} {nr : ARl} {lw : List (Nat × Value)} {sw : List Value} (h : AG G ad T mk w0 pin (lv, st, ev, ca, rl, nx) ν lw sw ws) (hf : afr (lv, st, ev, ca, rl, nx) = true) (hv : vty ad t v) (hr : ∀ q ∈ nr, vI (nup ν nx v q.1) ≤ vI (nup ν nx v q.2.1) + q.2.2) : AG G ad T mk w0 pin (lv, nx :: st, (nx, t) :: ev, ca, nr ++ rl, nx + 1) (nup ν nx v) lw (v :: sw) ws := by
  obtain ⟨h1, h2, h3⟩ := h
  have e : ∀ i, i < nx → nup ν nx v i = ν i := fun i hi => nup_ne hi
  refine ⟨?_, ?_, AK.stk (h3.new hf hv hr)⟩
  · show lw = lv.map (fun q => (q.1, nup ν nx v q.2.1))
    rw [lvs_cong hf e]; exact h1
  · show v :: sw = nup ν nx v nx :: st.map (nup ν nx v)
    rw [sts_cong hf e, nup_eq]
    exact congrArg _ h2
/-- popping: the freshness of what is left -/
theorem afr_pop {i : Nat} (hf : afr (lv, i :: st, ev, ca, rl, nx) = true) : afr (lv, st, ev, ca, rl, nx) = true := by
  obtain ⟨h0, h1, h2, h3⟩ := afr_ok hf
  exact afr_mk ⟨h0, h1, fun q hq => h2 q (List.mem_cons_of_mem _ hq), h3⟩
theorem AK.hi (h : AK G ad T mk w0 pin (lv, st, ev, ca, rl, nx) ν ws) {i : Nat} {x : Int} {n : Nat} (e : ahi ev rl n i = some x) : vI (ν i) ≤ x := ahi_ok h.2.1 h.2.2.2.1 n i x e
theorem AK.lo (h : AK G ad T mk w0 pin (lv, st, ev, ca, rl, nx) ν ws) {i : Nat} {x : Int} {n : Nat} (e : alo ev rl n i = some x) : x ≤ vI (ν i) := alo_ok h.2.1 h.2.2.2.1 n i x e
theorem AK.dif (h : AK G ad T mk w0 pin (lv, st, ev, ca, rl, nx) ν ws) {a b : Nat} {x : Int} {n : Nat} (e : adif ev rl b n a = some x) : vI (ν a) - vI (ν b) ≤ x := adif_ok h.2.1 h.2.2.2.1 b n a x e
theorem AK.int (h : AK G ad T mk w0 pin (lv, st, ev, ca, rl, nx) ν ws) {i : Nat} (e : (aty ev i).1 = 0) : ∃ x : Int32, ν i = .int x := by
  obtain ⟨x, hx, -⟩ := vty0 (aty_of h.2.1 e (by decide)) e
  exact ⟨x, hx⟩
theorem AK.long (h : AK G ad T mk w0 pin (lv, st, ev, ca, rl, nx) ν ws) {i : Nat} (e : (aty ev i).1 = 1) : ∃ x : Int64, ν i = .long x := by
  obtain ⟨x, hx, -⟩ := vty1 (aty_of h.2.1 e (by decide)) e
  exact ⟨x, hx⟩
theorem AK.ref (h : AK G ad T mk w0 pin (lv, st, ev, ca, rl, nx) ν ws) {i : Nat} (e : (aty ev i).1 = 2) : ν i = .ref (ad (aty ev i).2.1.toNat) := vty2 (aty_of h.2.1 e (by decide)) e
end AGS
/-- bounds of a name -/
noncomputable def xlo (ev : AEv) (rl : ARl) (i : Nat) : Int := (alo ev rl 2 i).getD lMin
noncomputable def xhi (ev : AEv) (rl : ARl) (i : Nat) : Int := (ahi ev rl 2 i).getD lMax
theorem vI_lo (v : Value) : lMin ≤ vI v := by
  unfold vI
  split
  · rename_i x
    have := i32_lo x
    unfold iMin at this
    unfold lMin
    omega
  · exact i64_lo _
  · decide
theorem vI_hi (v : Value) : vI v ≤ lMax := by
  unfold vI
  split
  · rename_i x
    have := i32_hi x
    unfold iMax at this
    unfold lMax
    omega
  · exact i64_hi _
  · decide
section AGT
variable {G : KG} {ad : Nat → Nat} {T : List TE} {mk : List (Nat × Nat)} {w0 : va_W} {pin : List (Nat × Value)} {ν : Nat → Value} {ws : va_W}
variable {lv : ALv} {st : List Nat} {ev : AEv} {ca : ACa} {rl : ARl} {nx : Nat}
theorem AK.lo2 (h : AK G ad T mk w0 pin (lv, st, ev, ca, rl, nx) ν ws) (i : Nat) : xlo ev rl i ≤ vI (ν i) := by
  show (alo ev rl 2 i).getD lMin ≤ vI (ν i)
  cases e : alo ev rl 2 i with
  | none => exact vI_lo _
  | some x => exact h.lo e
theorem AK.hi2 (h : AK G ad T mk w0 pin (lv, st, ev, ca, rl, nx) ν ws) (i : Nat) : vI (ν i) ≤ xhi ev rl i := by
  show vI (ν i) ≤ (ahi ev rl 2 i).getD lMax
  cases e : ahi ev rl 2 i with
  | none => exact vI_hi _
  | some x => exact h.hi e
end AGT
end
section
/-- from every state that σ tells of -/
abbrev ZZT : Type := Nat → List (Nat × Value) → List Value → va_W → Prop
def AZ (ZZ : ZZT) (G : KG) (ad : Nat → Nat) (T : List TE) (mk : List (Nat × Nat)) (w0 : va_W) (pin : List (Nat × Value)) (σ : AS) (pc : Nat) : Prop := ∀ (ν : Nat → Value) (lv : List (Nat × Value)) (st : List Value) (ws : va_W), AG G ad T mk w0 pin σ ν lv st ws → ZZ pc lv st ws
def tagv : Nat → Value → Prop
  | 0, v => ∃ x : Int32, v = .int x
  | 1, v => ∃ x : Int64, v = .long x
  | 2, v => ∃ a : Nat, v = .ref a
  | _, _ => False
def fitI (a b : Int) : VT := bif decide (iMin ≤ a) && decide (b ≤ iMax) then (0, a, b) else tI0
def mnz (c : Bool) (r : ARl) : ARl := bif c then r else []
section AZ1
variable {ZZ : ZZT} {G : KG} {ad : Nat → Nat} {T : List TE} {mk : List (Nat × Nat)} {w0 : va_W} {pin : List (Nat × Value)}
variable {lv : ALv} {st : List Nat} {ev : AEv} {ca : ACa} {rl : ARl} {nx pc pc' : Nat}
theorem AK.tag {ν : Nat → Value} {ws : va_W} (h : AK G ad T mk w0 pin (lv, st, ev, ca, rl, nx) ν ws) {i k : Nat} (e : (aty ev i).1 = k) (h9 : k ≤ 2) : tagv k (ν i) := by
  match k, h9 with
  | 0, _ => exact h.int e
  | 1, _ => exact h.long e
  | 2, _ => exact ⟨_, h.ref e⟩
theorem az_un {op : Value → Value} {kx : Nat} (hk : kx ≤ 2) (row : ∀ (vx : Value) (lw : List (Nat × Value)) (rest : List Value) (ws : va_W), tagv kx vx → ZZ pc' lw (op vx :: rest) ws → ZZ pc lw (vx :: rest) ws) {x : Nat} (hx : (aty ev x).1 = kx) (hf : afr (lv, x :: st, ev, ca, rl, nx) = true) {t : VT} {nr : ARl}
    (ht : ∀ (ν : Nat → Value) (ws : va_W), AK G ad T mk w0 pin (lv, st, ev, ca, rl, nx) ν ws → tagv kx (ν x) → vty ad t (op (ν x)) ∧ ∀ q ∈ nr, vI (nup ν nx (op (ν x)) q.1) ≤ vI (nup ν nx (op (ν x)) q.2.1) + q.2.2)
    (k : AZ ZZ G ad T mk w0 pin (lv, nx :: st, (nx, t) :: ev, ca, nr ++ rl, nx + 1) pc') : AZ ZZ G ad T mk w0 pin (lv, x :: st, ev, ca, rl, nx) pc := by
  intro ν lw sw ws h
  obtain ⟨h1, h2, h3⟩ := h
  have h3 : AK G ad T mk w0 pin (lv, st, ev, ca, rl, nx) ν ws := h3
  have tx := h3.tag hx hk
  have h2' : sw = ν x :: st.map ν := h2
  rw [h2']
  obtain ⟨q1, q2⟩ := ht ν ws h3 tx
  exact row _ lw _ ws tx (k _ _ _ _ (AG.push ⟨h1, rfl, h3⟩ (afr_pop hf) q1 q2))
theorem az_bin {op : Value → Value → Value} {kx ky : Nat} (hk : kx ≤ 2 ∧ ky ≤ 2) (row : ∀ (vx vy : Value) (lw : List (Nat × Value)) (rest : List Value) (ws : va_W), tagv kx vx → tagv ky vy → ZZ pc' lw (op vx vy :: rest) ws → ZZ pc lw (vy :: vx :: rest) ws) {x y : Nat} (hx : (aty ev x).1 = kx) (hy : (aty ev y).1 = ky) (hf : afr (lv, y :: x :: st, ev, ca, rl, nx) = true) {t : VT} {nr : ARl}
    (ht : ∀ (ν : Nat → Value) (ws : va_W), AK G ad T mk w0 pin (lv, st, ev, ca, rl, nx) ν ws → tagv kx (ν x) → tagv ky (ν y) → vty ad t (op (ν x) (ν y)) ∧ ∀ q ∈ nr, vI (nup ν nx (op (ν x) (ν y)) q.1) ≤ vI (nup ν nx (op (ν x) (ν y)) q.2.1) + q.2.2)
    (k : AZ ZZ G ad T mk w0 pin (lv, nx :: st, (nx, t) :: ev, ca, nr ++ rl, nx + 1) pc') : AZ ZZ G ad T mk w0 pin (lv, y :: x :: st, ev, ca, rl, nx) pc := by
  intro ν lw sw ws h
  obtain ⟨h1, h2, h3⟩ := h
  have h3 : AK G ad T mk w0 pin (lv, st, ev, ca, rl, nx) ν ws := h3
  have tx := h3.tag hx hk.1
  have ty := h3.tag hy hk.2
  have h2' : sw = ν y :: ν x :: st.map ν := h2
  rw [h2']
  obtain ⟨q1, q2⟩ := ht ν ws h3 tx ty
  exact row _ _ lw _ ws tx ty (k _ _ _ _ (AG.push ⟨h1, rfl, h3⟩ (afr_pop (afr_pop hf)) q1 q2))
theorem az_con {v : Value} {t : VT} (row : ∀ (lw : List (Nat × Value)) (rest : List Value) (ws : va_W), ZZ pc' lw (v :: rest) ws → ZZ pc lw rest ws) (hf : afr (lv, st, ev, ca, rl, nx) = true) (ht : vty ad t v)
    (k : AZ ZZ G ad T mk w0 pin (lv, nx :: st, (nx, t) :: ev, ca, rl, nx + 1) pc') : AZ ZZ G ad T mk w0 pin (lv, st, ev, ca, rl, nx) pc := by
  intro ν lw sw ws h
  exact row lw _ ws (k _ _ _ _ (AG.push (nr := []) h hf ht (fun q hq => by cases hq)))
/-- a local's name -/
noncomputable def alv (lv : ALv) (i : Nat) : Option Nat := lrc none (fun q r => brc (Nat.beq q.1 i) (some q.2.1) r) lv
theorem alv_cons {q : Nat × Nat × Bool} {l : ALv} {i : Nat} : alv (q :: l) i = bif Nat.beq q.1 i then some q.2.1 else alv l i := brc_eq _ _ _
theorem alv_mem : ∀ (lv : ALv) (i n : Nat), alv lv i = some n → ∃ b, (i, n, b) ∈ lv
  | [], i, n, h => by cases h
  | q :: l, i, n, h => by
    rw [alv_cons] at h
    cases hb : Nat.beq q.1 i with
    | true =>
      rw [hb] at h
      cases h
      have e : q.1 = i := Nat.eq_of_beq_eq_true hb
      subst e
      exact ⟨q.2.2, List.mem_cons_self⟩
    | false =>
      rw [hb] at h
      obtain ⟨b, hm⟩ := alv_mem l i n h
      exact ⟨b, List.mem_cons_of_mem _ hm⟩
theorem az_load {kx i x : Nat} (hk : kx ≤ 2) (row : ∀ (v : Value) (lw : List (Nat × Value)) (rest : List Value) (ws : va_W) (q : Nat), lw[q]? = some (i, v) → tagv kx v → ZZ pc' lw (v :: rest) ws → ZZ pc lw rest ws) (hi : alv lv i = some x) (hx : (aty ev x).1 = kx)
    (k : AZ ZZ G ad T mk w0 pin (lv, x :: st, ev, ca, rl, nx) pc') : AZ ZZ G ad T mk w0 pin (lv, st, ev, ca, rl, nx) pc := by
  intro ν lw sw ws h
  obtain ⟨h1, h2, h3⟩ := h
  obtain ⟨b, hm⟩ := alv_mem lv i x hi
  have hm2 : (i, ν x) ∈ lw := by
    rw [h1]
    exact List.mem_map.mpr ⟨_, hm, rfl⟩
  obtain ⟨q, hq⟩ := List.getElem?_of_mem hm2
  have h3' : AK G ad T mk w0 pin (lv, st, ev, ca, rl, nx) ν ws := h3
  refine row (ν x) lw sw ws q hq (h3'.tag hx hk) (k ν lw _ ws ⟨h1, ?_, h3⟩)
  show ν x :: sw = ν x :: st.map ν
  rw [h2]
/-- a local told anew -/
def aset (i : Nat) (n : Nat) (two : Bool) (lv : ALv) : ALv := (i, n, two) :: lv.filter (fun q => bif two then !(Nat.beq q.1 i) && (!(Nat.beq q.1 (i + 1)) && !(Nat.beq (q.1 + 1) i && q.2.2)) else !(Nat.beq q.1 i) && !(Nat.beq (q.1 + 1) i && q.2.2))
theorem nbeq (a b : Nat) : Nat.beq a b = (a == b) := by
  cases h : (a == b) with
  | true =>
    have e : a = b := by simpa using h
    rw [e]; exact Nat.beq_refl b
  | false =>
    cases h2 : Nat.beq a b with
    | true =>
      have e := Nat.eq_of_beq_eq_true h2
      rw [e] at h
      simp at h
    | false => rfl
theorem aset1 {ν : Nat → Value} (lv : ALv) (hc : ∀ q ∈ lv, (ν q.2.1).category = bif q.2.2 then 2 else 1) (i n : Nat) : (aset i n false lv).map (fun q => (q.1, ν q.2.1)) = zs1 i (ν n) (lv.map (fun q => (q.1, ν q.2.1))) := by
  unfold aset zs1
  rw [List.map_cons, List.filter_map]
  congr 2
  refine List.filter_congr (fun q hq => ?_)
  have := hc q hq
  simp only [Function.comp, cond_false, nbeq]
  rw [this]
  cases q.2.2 <;> rfl
theorem aset2 {ν : Nat → Value} (lv : ALv) (hc : ∀ q ∈ lv, (ν q.2.1).category = bif q.2.2 then 2 else 1) (i n : Nat) : (aset i n true lv).map (fun q => (q.1, ν q.2.1)) = zs2 i (ν n) (lv.map (fun q => (q.1, ν q.2.1))) := by
  unfold aset zs2
  rw [List.map_cons, List.filter_map]
  congr 2
  refine List.filter_congr (fun q hq => ?_)
  have := hc q hq
  simp only [Function.comp, cond_true, nbeq]
  rw [this]
  cases q.2.2 <;> rfl
theorem aset_cat {ν : Nat → Value} {lv : ALv} (hc : ∀ q ∈ lv, (ν q.2.1).category = bif q.2.2 then 2 else 1) {i n : Nat} {two : Bool} (hn : (ν n).category = bif two then 2 else 1) : ∀ q ∈ aset i n two lv, (ν q.2.1).category = bif q.2.2 then 2 else 1 := by
  intro q hq
  unfold aset at hq
  rcases List.mem_cons.mp hq with e | hq
  · rw [e]; exact hn
  · exact hc q (List.mem_filter.mp hq).1
theorem az_store {kx i x : Nat} {two : Bool} (hk : kx ≤ 2) (h2k : two = Nat.beq kx 1) (row : ∀ (v : Value) (lw : List (Nat × Value)) (rest : List Value) (ws : va_W), tagv kx v → ZZ pc' (bif two then zs2 i v lw else zs1 i v lw) rest ws → ZZ pc lw (v :: rest) ws) (hx : (aty ev x).1 = kx)
    (k : AZ ZZ G ad T mk w0 pin (aset i x two lv, st, ev, ca, rl, nx) pc') : AZ ZZ G ad T mk w0 pin (lv, x :: st, ev, ca, rl, nx) pc := by
  intro ν lw sw ws h
  obtain ⟨h1, h2, h3⟩ := h
  have h3' : AK G ad T mk w0 pin (lv, st, ev, ca, rl, nx) ν ws := h3
  have tx := h3'.tag hx hk
  have h2' : sw = ν x :: st.map ν := h2
  rw [h2']
  have hcat : (ν x).category = bif two then 2 else 1 := by
    match kx, hk, h2k, tx with
    | 0, _, h2k, ⟨a, ha⟩ => rw [ha, h2k]; rfl
    | 1, _, h2k, ⟨a, ha⟩ => rw [ha, h2k]; rfl
    | 2, _, h2k, ⟨a, ha⟩ => rw [ha, h2k]; rfl
  refine row _ lw _ ws tx (k ν _ _ ws ⟨?_, rfl, aset_cat h3.1 hcat, h3.2⟩)
  cases two with
  | true =>
    show zs2 i (ν x) lw = _
    rw [h1]
    exact (aset2 lv h3.1 i x).symm
  | false =>
    show zs1 i (ν x) lw = _
    rw [h1]
    exact (aset1 lv h3.1 i x).symm
theorem az_pop {x : Nat} (hx : (aty ev x).1 = 0 ∨ (aty ev x).1 = 2) (row : ∀ (v : Value) (lw : List (Nat × Value)) (rest : List Value) (ws : va_W), v.category = 1 → ZZ pc' lw rest ws → ZZ pc lw (v :: rest) ws)
    (k : AZ ZZ G ad T mk w0 pin (lv, st, ev, ca, rl, nx) pc') : AZ ZZ G ad T mk w0 pin (lv, x :: st, ev, ca, rl, nx) pc := by
  intro ν lw sw ws h
  obtain ⟨h1, h2, h3⟩ := h
  have h3' : AK G ad T mk w0 pin (lv, st, ev, ca, rl, nx) ν ws := h3
  have h2' : sw = ν x :: st.map ν := h2
  rw [h2']
  have hcat : (ν x).category = 1 := by
    rcases hx with hx | hx
    · obtain ⟨a, ha⟩ := h3'.int hx
      rw [ha]; rfl
    · rw [h3'.ref hx]; rfl
  exact row _ lw _ ws hcat (k ν _ _ ws ⟨h1, rfl, h3⟩)
theorem az_dup {x : Nat} (hx : (aty ev x).1 = 0 ∨ (aty ev x).1 = 2) (row : ∀ (v : Value) (lw : List (Nat × Value)) (rest : List Value) (ws : va_W), v.category = 1 → ZZ pc' lw (v :: v :: rest) ws → ZZ pc lw (v :: rest) ws)
    (k : AZ ZZ G ad T mk w0 pin (lv, x :: x :: st, ev, ca, rl, nx) pc') : AZ ZZ G ad T mk w0 pin (lv, x :: st, ev, ca, rl, nx) pc := by
  intro ν lw sw ws h
  obtain ⟨h1, h2, h3⟩ := h
  have h3' : AK G ad T mk w0 pin (lv, st, ev, ca, rl, nx) ν ws := h3
  have h2' : sw = ν x :: st.map ν := h2
  rw [h2']
  have hcat : (ν x).category = 1 := by
    rcases hx with hx | hx
    · obtain ⟨a, ha⟩ := h3'.int hx
      rw [ha]; rfl
    · rw [h3'.ref hx]; rfl
  exact row _ lw _ ws hcat (k ν _ _ ws ⟨h1, rfl, h3⟩)
theorem az_dup2 {x y : Nat} (hx : (aty ev x).1 = 0 ∨ (aty ev x).1 = 2) (hy : (aty ev y).1 = 0 ∨ (aty ev y).1 = 2) (row : ∀ (va vb : Value) (lw : List (Nat × Value)) (rest : List Value) (ws : va_W), va.category = 1 → vb.category = 1 → ZZ pc' lw (va :: vb :: va :: vb :: rest) ws → ZZ pc lw (va :: vb :: rest) ws)
    (k : AZ ZZ G ad T mk w0 pin (lv, x :: y :: x :: y :: st, ev, ca, rl, nx) pc') : AZ ZZ G ad T mk w0 pin (lv, x :: y :: st, ev, ca, rl, nx) pc := by
  intro ν lw sw ws h
  obtain ⟨h1, h2, h3⟩ := h
  have h3' : AK G ad T mk w0 pin (lv, st, ev, ca, rl, nx) ν ws := h3
  have h2' : sw = ν x :: ν y :: st.map ν := h2
  rw [h2']
  have hcat : ∀ z, ((aty ev z).1 = 0 ∨ (aty ev z).1 = 2) → (ν z).category = 1 := by
    intro z hz
    rcases hz with hz | hz
    · obtain ⟨a, ha⟩ := h3'.int hz
      rw [ha]; rfl
    · rw [h3'.ref hz]; rfl
  exact row _ _ lw _ ws (hcat x hx) (hcat y hy) (k ν _ _ ws ⟨h1, rfl, h3⟩)
/-- a fact more: x ≤ y + c -/
noncomputable def ale (x y : Nat) (c : Int) (ev : AEv) (rl : ARl) : AEv × ARl := ((bif isNum (aty ev x) then [(x, (aty ev x).1, (aty ev x).2.1, min (aty ev x).2.2 (xhi ev rl y + c))] else []) ++ ((bif isNum (aty ev y) then [(y, (aty ev y).1, max (aty ev y).2.1 (xlo ev rl x - c), (aty ev y).2.2)] else []) ++ ev), (x, y, c) :: rl)
theorem vty_cut {ad : Nat → Nat} {v : Value} {t : VT} {a b : Int} (h : vty ad t v) (hn : isNum t = true) (h1 : a ≤ vI v) (h2 : vI v ≤ b) : vty ad (t.1, a, b) v := by
  have hn : t.1 ≤ 1 := Nat.le_of_ble_eq_true hn
  rcases h with ⟨e, h, -, -⟩ | ⟨e, h, -, -⟩ | ⟨e, -⟩ | ⟨e, -⟩
  · exact Or.inl ⟨e, h, h1, h2⟩
  · exact Or.inr (Or.inl ⟨e, h, h1, h2⟩)
  · omega
  · omega
theorem AK.le {ν : Nat → Value} {ws : va_W} (h : AK G ad T mk w0 pin (lv, st, ev, ca, rl, nx) ν ws) {x y : Nat} {c : Int} (hle : vI (ν x) ≤ vI (ν y) + c) : AK G ad T mk w0 pin (lv, st, (ale x y c ev rl).1, ca, (ale x y c ev rl).2, nx) ν ws := by
  have hy := h.hi2 y
  have hx := h.lo2 x
  obtain ⟨h1, h2, h3, h4, h5, h6⟩ := h
  have num : ∀ z, isNum (aty ev z) = true → vty ad (aty ev z) (ν z) := fun z hz => (aty_sound ev z h2).resolve_left (fun e => by
    have : (aty ev z).1 ≤ 1 := Nat.le_of_ble_eq_true hz
    omega)
  refine ⟨h1, fun q hq => ?_, h3, fun q hq => ?_, h5, h6⟩
  · unfold ale at hq
    rcases List.mem_append.mp hq with hq | hq
    · cases hn : isNum (aty ev x) with
      | false => rw [hn] at hq; cases hq
      | true =>
        rw [hn] at hq
        rw [List.mem_singleton.mp hq]
        have hw : (aty ev x).2.1 ≤ vI (ν x) ∧ vI (ν x) ≤ (aty ev x).2.2 := aown h2 hn
        exact vty_cut (num x hn) hn hw.1 (show vI (ν x) ≤ min (aty ev x).2.2 (xhi ev rl y + c) by omega)
    · rcases List.mem_append.mp hq with hq | hq
      · cases hn : isNum (aty ev y) with
        | false => rw [hn] at hq; cases hq
        | true =>
          rw [hn] at hq
          rw [List.mem_singleton.mp hq]
          have hw : (aty ev y).2.1 ≤ vI (ν y) ∧ vI (ν y) ≤ (aty ev y).2.2 := aown h2 hn
          exact vty_cut (num y hn) hn (show max (aty ev y).2.1 (xlo ev rl x - c) ≤ vI (ν y) by omega) hw.2
      · exact h2 q hq
  · rcases List.mem_cons.mp hq with e | hq
    · rw [e]; exact hle
    · exact h4 q hq
end AZ1
end
section
/-! the world's fields and arrays; branches -/
theorem fget_of {ws : va_W} {k j a ci : Nat} {fs : List Value} (h : ws[k]? = some (a, .inr (ci, fs))) : fget ws k j = fs[j]? := by
  unfold fget
  rw [h]
theorem cget_of {ws : va_W} {k j a ci : Nat} {fs : List Value} (h : ws[k]? = some (a, .inr (ci, fs))) : cget ws k j = (fs[j]?).map Sum.inl := by
  unfold cget
  rw [h]
theorem lt_of_getE {α : Type} {l : List α} {k : Nat} {x : α} (h : l[k]? = some x) : k < l.length := (List.getElem?_eq_some_iff.mp h).1
theorem set_same {ws : va_W} {k : Nat} {q q' : Nat × va_E} (h : ws[k]? = some q) : (ws.set k q')[k]? = some q' := by
  rw [List.getElem?_set_self (lt_of_getE h)]
theorem set_other {ws : va_W} {k i : Nat} {q' : Nat × va_E} (h : k ≠ i) : (ws.set k q')[i]? = ws[i]? := List.getElem?_set_ne h
theorem fget_set {ws : va_W} {k j a ci k' j' : Nat} {fs : List Value} {v : Value} (h : ws[k]? = some (a, .inr (ci, fs))) (hn : ¬ (k' = k ∧ j' = j)) : fget (ws.set k (a, .inr (ci, fs.set j v))) k' j' = fget ws k' j' := by
  by_cases e : k' = k
  · subst e
    have hj : j ≠ j' := fun e => hn ⟨rfl, e.symm⟩
    rw [fget_of (set_same h), fget_of h, List.getElem?_set_ne hj]
  · unfold fget
    rw [set_other (fun h => e h.symm)]
theorem cget_set {ws : va_W} {k j a ci k' j' : Nat} {fs : List Value} {v : Value} (h : ws[k]? = some (a, .inr (ci, fs))) (hn : ¬ (k' = k ∧ j' = j)) : cget (ws.set k (a, .inr (ci, fs.set j v))) k' j' = cget ws k' j' := by
  by_cases e : k' = k
  · subst e
    have hj : j ≠ j' := fun e => hn ⟨rfl, e.symm⟩
    rw [cget_of (set_same h), cget_of h, List.getElem?_set_ne hj]
  · unfold cget
    rw [set_other (fun h => e h.symm)]
theorem cget_arr {ws : va_W} {k k' j' : Nat} {q' : Nat × va_E} (hn : k' ≠ k) : cget (ws.set k q') k' j' = cget ws k' j' := by
  unfold cget
  rw [set_other (fun h => hn h.symm)]
theorem fget_arr {ws : va_W} {k k' j' a : Nat} {x y : ClassId × vp_A} {v : Value} (h : ws[k]? = some (a, .inl x)) (hf : fget ws k' j' = some v) : fget (ws.set k (a, .inl y)) k' j' = some v := by
  by_cases e : k' = k
  · subst e
    unfold fget at hf
    rw [h] at hf
    cases hf
  · unfold fget
    rw [set_other (fun h => e h.symm)]
    exact hf
theorem mkq_arr {mk : List (Nat × Nat)} {k : Nat} (h : mk.any (fun q => Nat.beq q.1 k && Nat.beq q.2 999) = true) (j : Nat) : mkq mk k j = true := by
  unfold mkq
  obtain ⟨q, hq, h⟩ := List.any_eq_true.mp h
  refine List.any_eq_true.mpr ⟨q, hq, ?_⟩
  rw [Bool.and_eq_true] at h ⊢
  exact ⟨h.1, by rw [h.2, Bool.or_true]⟩
/-- within a type -/
noncomputable def vlo (ev : AEv) (rl : ARl) (i : Nat) (c : Int) : Bool := bif ible c (aty ev i).2.1 then true else ible c (xlo ev rl i)
noncomputable def vhi (ev : AEv) (rl : ARl) (i : Nat) (c : Int) : Bool := bif ible (aty ev i).2.2 c then true else ible (xhi ev rl i) c
noncomputable def vsub (ev : AEv) (rl : ARl) (i : Nat) (t : VT) : Bool := Nat.beq (aty ev i).1 t.1 && (bif isNum t then vlo ev rl i t.2.1 && vhi ev rl i t.2.2 else Nat.beq t.1 2 && decide (t.2.1 = (aty ev i).2.1))
noncomputable def ain (ev : AEv) (rl : ARl) (i n : Nat) : Bool := isNum (aty ev i) && (vlo ev rl i 0 && vhi ev rl i ((n : Int) - 1))
section AZ2
variable {ZZ : ZZT} {G : KG} {ad : Nat → Nat} {T : List TE} {mk : List (Nat × Nat)} {w0 : va_W} {pin : List (Nat × Value)} {ν : Nat → Value} {ws : va_W}
variable {lv : ALv} {st : List Nat} {ev : AEv} {ca : ACa} {rl : ARl} {nx pc pc' : Nat}
theorem AK.vl (h : AK G ad T mk w0 pin (lv, st, ev, ca, rl, nx) ν ws) {i : Nat} {c : Int} (hn : isNum (aty ev i) = true) (e : vlo ev rl i c = true) : c ≤ vI (ν i) := by
  have h1 := h.lo2 i
  have h2 := (aown (ev := ev) h.2.1 hn).1
  unfold vlo at e
  cases hb : ible c (aty ev i).2.1 with
  | true =>
    have h3 := ible_ok hb
    omega
  | false =>
    rw [hb] at e
    have h3 := ible_ok (show ible c (xlo ev rl i) = true from e)
    omega
theorem AK.vh (h : AK G ad T mk w0 pin (lv, st, ev, ca, rl, nx) ν ws) {i : Nat} {c : Int} (hn : isNum (aty ev i) = true) (e : vhi ev rl i c = true) : vI (ν i) ≤ c := by
  have h1 := h.hi2 i
  have h2 := (aown (ev := ev) h.2.1 hn).2
  unfold vhi at e
  cases hb : ible (aty ev i).2.2 c with
  | true =>
    have h3 := ible_ok hb
    omega
  | false =>
    rw [hb] at e
    have h3 := ible_ok (show ible (xhi ev rl i) c = true from e)
    omega
theorem AK.sub (h : AK G ad T mk w0 pin (lv, st, ev, ca, rl, nx) ν ws) {i : Nat} {t : VT} (e : vsub ev rl i t = true) : vty ad t (ν i) := by
  unfold vsub at e
  rw [Bool.and_eq_true] at e
  obtain ⟨e1, e2⟩ := e
  have e1 : (aty ev i).1 = t.1 := Nat.eq_of_beq_eq_true e1
  cases hn : isNum t with
  | true =>
    rw [hn] at e2
    simp only [cond_true, Bool.and_eq_true] at e2
    have hm : isNum (aty ev i) = true := by
      show Nat.ble (aty ev i).1 1 = true
      rw [e1]
      exact hn
    have h1 := h.vl hm e2.1
    have h2 := h.vh hm e2.2
    have ht : t.1 ≤ 1 := Nat.le_of_ble_eq_true hn
    have hq : vty ad (aty ev i) (ν i) := aty_of (ev := ev) h.2.1 e1 (by omega)
    rcases hq with ⟨q, q1, -⟩ | ⟨q, q1, -⟩ | ⟨q, -⟩ | ⟨q, -⟩
    · exact Or.inl ⟨by omega, q1, by omega, by omega⟩
    · exact Or.inr (Or.inl ⟨by omega, q1, by omega, by omega⟩)
    · omega
    · omega
  | false =>
    rw [hn] at e2
    simp only [cond_false, Bool.and_eq_true, decide_eq_true_eq] at e2
    have e3 : t.1 = 2 := Nat.eq_of_beq_eq_true e2.1
    refine Or.inr (Or.inr (Or.inl ⟨e3, ?_⟩))
    rw [e2.2]
    exact h.ref (e1.trans e3)
theorem AK.inr (h : AK G ad T mk w0 pin (lv, st, ev, ca, rl, nx) ν ws) {i n : Nat} (e : ain ev rl i n = true) {x : Int32} (hx : ν i = .int x) : vp_in x n ∧ x.toNatClampNeg < n := by
  unfold ain at e
  simp only [Bool.and_eq_true] at e
  have h1 := h.vl e.1 e.2.1
  have h2 := h.vh e.1 e.2.2
  rw [hx] at h1 h2
  have h1 : 0 ≤ x.toInt := h1
  have h2 : x.toInt ≤ (n : Int) - 1 := h2
  refine ⟨vin rfl (by omega) (by omega), ?_⟩
  have : (x.toNatClampNeg : Int) = x.toInt := by
    show ((x.toInt).toNat : Int) = x.toInt
    omega
  omega
theorem vin0 {x : Int32} {n : Nat} (h : vp_in x n) : 0 ≤ x.toInt := by
  rcases (by omega : x.toInt < 0 ∨ 0 ≤ x.toInt) with h1 | h1
  · exact absurd (Or.inl (Int32.lt_iff_toInt_lt.mpr h1)) h
  · exact h1
theorem WT.obj (h : WT G ad T ws) {k ci j : Nat} {ts : List VT} {t : VT} (hT : T[k]? = some (.inl (ci, ts))) (ht : ts[j]? = some t) : ∃ (fs : List Value) (v : Value), ws[k]? = some (ad k, ob ci fs) ∧ fs.length = ts.length ∧ fs[j]? = some v ∧ vty ad t v := by
  obtain ⟨en, h1, fs, rfl, h2, h3⟩ := h.2.1 k _ hT
  have hj : j < fs.length := by rw [h2]; exact lt_of_getE ht
  exact ⟨fs, fs[j], h1, h2, List.getElem?_eq_getElem hj, h3 j t _ ht (List.getElem?_eq_getElem hj)⟩
theorem fget_arr_eq {ws : va_W} {k k' j' a b : Nat} {x y : ClassId × vp_A} (h : ws[k]? = some (a, .inl x)) : fget (ws.set k (b, .inl y)) k' j' = fget ws k' j' := by
  by_cases e : k' = k
  · subst e
    unfold fget
    rw [set_same h, h]
  · unfold fget
    rw [set_other (fun h => e h.symm)]
theorem WT.setO (h : WT G ad T ws) {k ci j : Nat} {ts : List VT} {t : VT} {fs : List Value} {v : Value} (hT : T[k]? = some (.inl (ci, ts))) (ht : ts[j]? = some t) (hw : ws[k]? = some (ad k, ob ci fs)) (hv : vty ad t v) (hpf : ∀ (k' n : Nat) (t' : VT), T[k']? = some (.inr (0, n, t')) → 2 ≤ t'.1 → pcl t'.1 = k → pfl t'.1 = j → ∃ o x : Int32, fs[j]? = some (.int o) ∧ v = .int x ∧ pord t'.1 x.toInt o.toInt) : WT G ad T (ws.set k (ad k, ob ci (fs.set j v))) := by
  refine ⟨by rw [List.length_set]; exact h.1, fun k' te hT' => ?_, ?_⟩
  rotate_left
  · intro k' n t' a f c i hT' h2 hw' hf hi
    have hk : k' ≠ k := by
      intro e
      subst e
      rw [set_same hw] at hw'
      cases hw'
    rw [set_other (fun h => hk h.symm)] at hw'
    by_cases e : pcl t'.1 = k ∧ pfl t'.1 = j
    · obtain ⟨o, x, o1, rfl, o2⟩ := hpf k' n t' hT' h2 e.1 e.2
      rw [e.1, e.2, fget_of (set_same hw), List.getElem?_set_self (lt_of_getE o1)] at hf
      cases hf
      exact (h.2.2 k' n t' a f o i hT' h2 hw' (by rw [e.1, e.2, fget_of hw]; exact o1) hi).mono o2
    · rw [fget_set hw e] at hf
      exact h.2.2 k' n t' a f c i hT' h2 hw' hf hi
  by_cases e : k' = k
  · subst e
    rw [hT] at hT'
    cases hT'
    obtain ⟨en, h1, fs', rfl, h2, h3⟩ := h.2.1 k' _ hT
    rw [hw] at h1
    cases h1
    refine ⟨_, set_same hw, _, rfl, by rw [List.length_set]; exact h2, fun j' t' v' ht' hv' => ?_⟩
    by_cases e : j' = j
    · subst e
      rw [ht] at ht'
      cases ht'
      have hj : j' < fs.length := by rw [h2]; exact lt_of_getE ht
      rw [List.getElem?_set_self hj] at hv'
      cases hv'
      exact hv
    · rw [List.getElem?_set_ne (fun h => e h.symm)] at hv'
      exact h3 j' t' v' ht' hv'
  · obtain ⟨en, h1, h2⟩ := h.2.1 k' te hT'
    exact ⟨en, by rw [set_other (fun h => e h.symm)]; exact h1, h2⟩
theorem WT.setA (h : WT G ad T ws) {k : Nat} {te : TE} {x y : ClassId × vp_A} (hT : T[k]? = some te) (hw : ws[k]? = some (ad k, .inl x)) (hv : ety G ad te (.inl y)) (hpa : ∀ (n : Nat) (t : VT), te = .inr (0, n, t) → 2 ≤ t.1 → ∀ (f : Nat → Int32) (c : Int32) (i : Nat), (Sum.inl y : va_E) = aI G n f → fget ws (pcl t.1) (pfl t.1) = some (.int c) → i < n → PP t.1 i (f i).toInt c.toInt) : WT G ad T (ws.set k (ad k, .inl y)) := by
  refine ⟨by rw [List.length_set]; exact h.1, fun k' te' hT' => ?_, ?_⟩
  rotate_left
  · intro k' n t' a f c i hT' h2 hw' hf hi
    rw [fget_arr_eq hw] at hf
    by_cases e : k' = k
    · subst e
      rw [set_same hw] at hw'
      rw [hT] at hT'
      exact hpa n t' (Option.some.inj hT') h2 f c i (congrArg Prod.snd (Option.some.inj hw')) hf hi
    · rw [set_other (fun h => e h.symm)] at hw'
      exact h.2.2 k' n t' a f c i hT' h2 hw' hf hi
  by_cases e : k' = k
  · subst e
    rw [hT] at hT'
    cases hT'
    exact ⟨_, set_same hw, hv⟩
  · obtain ⟨en, h1, h2⟩ := h.2.1 k' te' hT'
    exact ⟨en, by rw [set_other (fun h => e h.symm)]; exact h1, h2⟩
theorem az_get {r j ci : Nat} {ts : List VT} {t : VT} (hr : (aty ev r).1 = 2) (hT : T[(aty ev r).2.1.toNat]? = some (.inl (ci, ts))) (ht : ts[j]? = some t) (hf : afr (lv, r :: st, ev, ca, rl, nx) = true)
    (row : ∀ (a : Nat) (fs : List Value) (v : Value) (lw : List (Nat × Value)) (rest : List Value) (ws : va_W), ws[(aty ev r).2.1.toNat]? = some (a, ob ci fs) → fs[j]? = some v → ZZ pc' lw (v :: rest) ws → ZZ pc lw (.ref a :: rest) ws)
    (k : AZ ZZ G ad T mk w0 pin (lv, nx :: st, (nx, t) :: ev, ((aty ev r).2.1.toNat, j, nx) :: ca, rl, nx + 1) pc') : AZ ZZ G ad T mk w0 pin (lv, r :: st, ev, ca, rl, nx) pc := by
  intro ν lw sw ws h
  obtain ⟨h1, h2, h3⟩ := h
  have h3 : AK G ad T mk w0 pin (lv, st, ev, ca, rl, nx) ν ws := h3
  have h2' : sw = ν r :: st.map ν := h2
  obtain ⟨fs, v, q1, q2, q3, q4⟩ := h3.2.2.2.2.2.1.obj hT ht
  rw [h2', h3.ref hr]
  obtain ⟨g1, g2, g3⟩ := AG.push (st := st) (nr := []) (v := v) (t := t) ⟨h1, rfl, h3⟩ (afr_pop hf) q4 (fun q hq => by cases hq)
  refine row _ fs v lw _ ws q1 q3 (k _ _ _ _ ⟨g1, g2, g3.1, g3.2.1, fun q hq => ?_, g3.2.2.2⟩)
  rcases List.mem_cons.mp hq with e | hq
  · rw [e]
    show fget ws _ j = some (nup ν nx v nx)
    rw [nup_eq, fget_of q1]
    exact q3
  · exact g3.2.2.1 q hq
theorem az_getc {r j ci i : Nat} {ts : List VT} {t : VT} (hr : (aty ev r).1 = 2) (hT : T[(aty ev r).2.1.toNat]? = some (.inl (ci, ts))) (ht : ts[j]? = some t) (hc : ((aty ev r).2.1.toNat, j, i) ∈ ca)
    (row : ∀ (a : Nat) (fs : List Value) (v : Value) (lw : List (Nat × Value)) (rest : List Value) (ws : va_W), ws[(aty ev r).2.1.toNat]? = some (a, ob ci fs) → fs[j]? = some v → ZZ pc' lw (v :: rest) ws → ZZ pc lw (.ref a :: rest) ws)
    (k : AZ ZZ G ad T mk w0 pin (lv, i :: st, ev, ca, rl, nx) pc') : AZ ZZ G ad T mk w0 pin (lv, r :: st, ev, ca, rl, nx) pc := by
  intro ν lw sw ws h
  obtain ⟨h1, h2, h3⟩ := h
  have h3 : AK G ad T mk w0 pin (lv, st, ev, ca, rl, nx) ν ws := h3
  have h2' : sw = ν r :: st.map ν := h2
  obtain ⟨fs, v, q1, q2, q3, q4⟩ := h3.2.2.2.2.2.1.obj hT ht
  have h5 := h3.2.2.1 _ hc
  rw [fget_of q1] at h5
  rw [h2', h3.ref hr]
  exact row _ fs _ lw _ ws q1 h5 (k ν _ _ _ ⟨h1, rfl, h3⟩)
def acut (k j : Nat) (ca : ACa) : ACa := ca.filter (fun q => !(Nat.beq q.1 k && Nat.beq q.2.1 j))
theorem az_put {r x j ci : Nat} {ts : List VT} {t : VT} (hr : (aty ev r).1 = 2) (hT : T[(aty ev r).2.1.toNat]? = some (.inl (ci, ts))) (ht : ts[j]? = some t) (hv : vsub ev rl x t = true) (hm : mkq mk (aty ev r).2.1.toNat j = true) (hpf : ∀ (ν : Nat → Value) (ws : va_W), AK G ad T mk w0 pin (lv, st, ev, ca, rl, nx) ν ws → ∀ (k' n : Nat) (t' : VT), T[k']? = some (.inr (0, n, t')) → 2 ≤ t'.1 → pcl t'.1 = (aty ev r).2.1.toNat → pfl t'.1 = j → t.1 = 0 ∧ ∃ o : Nat, fget ws (aty ev r).2.1.toNat j = some (ν o) ∧ pord t'.1 (vI (ν x)) (vI (ν o)))
    (row : ∀ (a : Nat) (fs : List Value) (v : Value) (lw : List (Nat × Value)) (rest : List Value) (ws : va_W), ws[(aty ev r).2.1.toNat]? = some (a, ob ci fs) → j < fs.length → vty ad t v → ZZ pc' lw rest (ws.set (aty ev r).2.1.toNat (a, ob ci (fs.set j v))) → ZZ pc lw (v :: .ref a :: rest) ws)
    (k : AZ ZZ G ad T mk w0 pin (lv, st, ev, ((aty ev r).2.1.toNat, j, x) :: acut (aty ev r).2.1.toNat j ca, rl, nx) pc') : AZ ZZ G ad T mk w0 pin (lv, x :: r :: st, ev, ca, rl, nx) pc := by
  intro ν lw sw ws h
  obtain ⟨h1, h2, h3⟩ := h
  have h3 : AK G ad T mk w0 pin (lv, st, ev, ca, rl, nx) ν ws := h3
  have h2' : sw = ν x :: ν r :: st.map ν := h2
  obtain ⟨fs, v, q1, q2, q3, q4⟩ := h3.2.2.2.2.2.1.obj hT ht
  have hj := lt_of_getE q3
  rw [h2', h3.ref hr]
  have hvx := h3.sub hv
  refine row _ fs _ lw _ ws q1 hj hvx (k ν _ _ _ ⟨h1, rfl, h3.1, h3.2.1, fun q hq => ?_, h3.2.2.2.1, h3.2.2.2.2.1, h3.2.2.2.2.2.1.setO hT ht q1 hvx (fun k' n t' g1 g2 g3 g4 => ?_), ?_⟩)
  rotate_left
  · obtain ⟨u1, o, u2, u3⟩ := hpf ν ws h3 k' n t' g1 g2 g3 g4
    obtain ⟨x1, e1, -⟩ := vty0 q4 u1
    obtain ⟨x2, e2, -⟩ := vty0 hvx u1
    rw [fget_of q1, q3, Option.some.injEq] at u2
    rw [e2, ← u2, e1] at u3
    exact ⟨x1, x2, by rw [q3, e1], e2, u3⟩
  rotate_left
  · rcases List.mem_cons.mp hq with e | hq
    · rw [e]
      show fget _ _ j = some (ν x)
      rw [fget_of (set_same q1), List.getElem?_set_self hj]
    · obtain ⟨m1, m2⟩ := List.mem_filter.mp hq
      rw [fget_set q1]
      · exact h3.2.2.1 q m1
      · rintro ⟨e1, e2⟩
        rw [e1, e2] at m2
        simp at m2
  · obtain ⟨f1, f2⟩ := h3.2.2.2.2.2.2
    refine ⟨by rw [List.length_set]; exact f1, fun k' j' hk => ?_⟩
    rw [cget_set q1]
    · exact f2 k' j' hk
    · rintro ⟨e1, e2⟩
      rw [e1, e2, hm] at hk
      cases hk
theorem WT.arr (h : WT G ad T ws) {k kd n : Nat} {t : VT} (hT : T[k]? = some (.inr (kd, n, t))) : ∃ en, ws[k]? = some (ad k, en) ∧ ((kd = 0 ∧ ∃ f, en = aI G n f ∧ aint n t f) ∨ (kd = 1 ∧ ∃ f : Nat → Int64, en = aJ G n f) ∨ (kd = 2 ∧ ∃ f, en = aZ G n f ∧ aint n t f) ∨ (kd = 3 ∧ ∃ f, en = aO G n f ∧ ∀ k, k < n → f k = some (ad (t.2.1.toNat + k * t.2.2.toNat)))) := h.2.1 k _ hT
/-- what an array gives, what it takes -/
def atyA (kd : Nat) (t : VT) : VT := bif Nat.beq kd 1 then tL0 else (0, t.2.1, t.2.2)
theorem az_ald {a i n kd : Nat} {t : VT} (hk : kd ≤ 2) (ha : (aty ev a).1 = 2) (hT : T[(aty ev a).2.1.toNat]? = some (.inr (kd, n, t))) (hi : (aty ev i).1 = 0) (hin : ain ev rl i n = true) (hf : afr (lv, i :: a :: st, ev, ca, rl, nx) = true) {rt : VT} {nr : ARl} (hnr : ∀ (ν : Nat → Value) (ws : va_W), AK G ad T mk w0 pin (lv, st, ev, ca, rl, nx) ν ws → ∀ (v : Value), (∀ (b : Nat) (f : Nat → Int32) (x : Int32), kd = 0 → ws[(aty ev a).2.1.toNat]? = some (b, aI G n f) → ν i = .int x → x.toNatClampNeg < n → v = .int (f x.toNatClampNeg)) → ∀ q ∈ nr, vI (nup ν nx v q.1) ≤ vI (nup ν nx v q.2.1) + q.2.2) (hn1 : kd ≠ 0 → nr = []) (hr0 : kd = 0 → ∀ (ν : Nat → Value) (ws : va_W), AK G ad T mk w0 pin (lv, st, ev, ca, rl, nx) ν ws → ∀ (b : Nat) (f : Nat → Int32) (x : Int32), ws[(aty ev a).2.1.toNat]? = some (b, aI G n f) → ν i = .int x → x.toNatClampNeg < n → aint n t f → 0 ≤ x.toInt → vty ad rt (.int (f x.toNatClampNeg))) (hr1 : kd ≠ 0 → rt = atyA kd t)
    (row0 : kd = 0 → ∀ (b : Nat) (f : Nat → Int32) (x : Int32) (lw : List (Nat × Value)) (rest : List Value) (ws : va_W), ws[(aty ev a).2.1.toNat]? = some (b, aI G n f) → vp_in x n → ZZ pc' lw (.int (f x.toNatClampNeg) :: rest) ws → ZZ pc lw (.int x :: .ref b :: rest) ws)
    (row1 : kd = 1 → ∀ (b : Nat) (f : Nat → Int64) (x : Int32) (lw : List (Nat × Value)) (rest : List Value) (ws : va_W), ws[(aty ev a).2.1.toNat]? = some (b, aJ G n f) → vp_in x n → ZZ pc' lw (.long (f x.toNatClampNeg) :: rest) ws → ZZ pc lw (.int x :: .ref b :: rest) ws)
    (row2 : kd = 2 → ∀ (b : Nat) (f : Nat → Int32) (x : Int32) (lw : List (Nat × Value)) (rest : List Value) (ws : va_W), ws[(aty ev a).2.1.toNat]? = some (b, aZ G n f) → vp_in x n → ZZ pc' lw (.int (f x.toNatClampNeg) :: rest) ws → ZZ pc lw (.int x :: .ref b :: rest) ws)
    (k : AZ ZZ G ad T mk w0 pin (lv, nx :: st, (nx, rt) :: ev, ca, nr ++ rl, nx + 1) pc') : AZ ZZ G ad T mk w0 pin (lv, i :: a :: st, ev, ca, rl, nx) pc := by
  intro ν lw sw ws h
  obtain ⟨h1, h2, h3⟩ := h
  have h3 : AK G ad T mk w0 pin (lv, st, ev, ca, rl, nx) ν ws := h3
  have h2' : sw = ν i :: ν a :: st.map ν := h2
  obtain ⟨x, hx⟩ := h3.int hi
  obtain ⟨v1, v2⟩ := h3.inr hin hx
  have hf2 := afr_pop (afr_pop hf)
  have hg : AG G ad T mk w0 pin (lv, st, ev, ca, rl, nx) ν lw (st.map ν) ws := ⟨h1, rfl, h3⟩
  rw [h2', h3.ref ha, hx]
  obtain ⟨en, q1, q2⟩ := h3.2.2.2.2.2.1.arr hT
  rcases q2 with ⟨rfl, f, rfl, q3⟩ | ⟨rfl, f, rfl⟩ | ⟨rfl, f, rfl, q3⟩ | ⟨rfl, -⟩
  · exact row0 rfl _ f x lw _ ws q1 v1 (k _ _ _ _ (AG.push hg hf2 (hr0 rfl ν ws h3 _ f x q1 hx v2 q3 (vin0 v1)) (hnr ν ws h3 _ (fun b' f' x' _ w1 w2 _ => by
      rw [q1] at w1
      cases w1
      rw [hx] at w2
      cases w2
      rfl))))
  · rw [hr1 (by decide), hn1 (by decide)] at k
    exact row1 rfl _ f x lw _ ws q1 v1 (k _ _ _ _ (AG.push (nr := []) hg hf2 (vty_l0 _) (fun q hq => by cases hq)))
  · rw [hr1 (by decide), hn1 (by decide)] at k
    exact row2 rfl _ f x lw _ ws q1 v1 (k _ _ _ _ (AG.push (nr := []) hg hf2 (vty_i (q3 _ v2).1 (q3 _ v2).2.1) (fun q hq => by cases hq)))
  · omega
theorem aint_upd {n j : Nat} {t : VT} {f : Nat → Int32} {x : Int32} (h : aint n t f) (h1 : t.2.1 ≤ x.toInt) (h2 : x.toInt ≤ t.2.2) (h3 : t.1 = 1 → (KTY j).1 ≤ x.toInt ∧ x.toInt ≤ (KTY j).2) : aint n t (upd f j x) := by
  intro k hk
  unfold upd
  split
  · rename_i e
    exact ⟨h1, h2, by rw [e]; exact h3⟩
  · exact h k hk
theorem nar_z {x : Int32} (h1 : 0 ≤ x.toInt) (h2 : x.toInt ≤ 1) : narrow .boolean (.int x) = .int x := by
  rcases (by omega : x.toInt = 0 ∨ x.toInt = 1) with e | e
  · have : x = 0 := Int32.toInt_inj.mp (by rw [e]; rfl)
    rw [this]; rfl
  · have : x = 1 := Int32.toInt_inj.mp (by rw [e]; rfl)
    rw [this]; rfl
theorem vnar_z {x : Int32} (h1 : 0 ≤ x.toInt) (h2 : x.toInt ≤ 1) : vp_nar .boolean x = x := by
  unfold vp_nar
  rw [nar_z h1 h2]
theorem AK.setA (h3 : AK G ad T mk w0 pin (lv, st, ev, ca, rl, nx) ν ws) {k : Nat} {te : TE} {x y : ClassId × vp_A} (hT : T[k]? = some te) (hw : ws[k]? = some (ad k, .inl x)) (hv : ety G ad te (.inl y)) (hpa : ∀ (n : Nat) (t : VT), te = .inr (0, n, t) → 2 ≤ t.1 → ∀ (f : Nat → Int32) (c : Int32) (i : Nat), (Sum.inl y : va_E) = aI G n f → fget ws (pcl t.1) (pfl t.1) = some (.int c) → i < n → PP t.1 i (f i).toInt c.toInt) (hm : mk.any (fun q => Nat.beq q.1 k && Nat.beq q.2 999) = true) : AK G ad T mk w0 pin (lv, st, ev, ca, rl, nx) ν (ws.set k (ad k, .inl y)) := by
  refine ⟨h3.1, h3.2.1, fun q hq => fget_arr hw (h3.2.2.1 q hq), h3.2.2.2.1, h3.2.2.2.2.1, h3.2.2.2.2.2.1.setA hT hw hv hpa, ?_⟩
  obtain ⟨f1, f2⟩ := h3.2.2.2.2.2.2
  refine ⟨by rw [List.length_set]; exact f1, fun k' j' hk => ?_⟩
  rw [cget_arr]
  · exact f2 k' j' hk
  · intro e
    rw [e, mkq_arr hm] at hk
    cases hk
theorem az_ast {a i v n kd : Nat} {t : VT} (hk : kd ≤ 2) (ha : (aty ev a).1 = 2) (hT : T[(aty ev a).2.1.toNat]? = some (.inr (kd, n, t))) (hi : (aty ev i).1 = 0) (hin : ain ev rl i n = true) (hv : vsub ev rl v (atyA kd t) = true) (hz : kd = 2 → (0 ≤ t.2.1 ∧ t.2.2 ≤ 1) ∧ t.1 = 0) (hp : kd = 0 → ∀ (ν : Nat → Value) (ws : va_W), AK G ad T mk w0 pin (lv, st, ev, ca, rl, nx) ν ws → ∀ x y : Int32, ν i = .int x → ν v = .int y → 0 ≤ x.toInt → (t.1 = 1 → (KTY x.toNatClampNeg).1 ≤ y.toInt ∧ y.toInt ≤ (KTY x.toNatClampNeg).2) ∧ (2 ≤ t.1 → ∀ c : Int32, fget ws (pcl t.1) (pfl t.1) = some (.int c) → PP t.1 x.toNatClampNeg y.toInt c.toInt)) (hm : mk.any (fun q => Nat.beq q.1 (aty ev a).2.1.toNat && Nat.beq q.2 999) = true)
    (row0 : kd = 0 → ∀ (b : Nat) (f : Nat → Int32) (x y : Int32) (lw : List (Nat × Value)) (rest : List Value) (ws : va_W), ws[(aty ev a).2.1.toNat]? = some (b, aI G n f) → vp_in x n → ZZ pc' lw rest (ws.set (aty ev a).2.1.toNat (b, aI G n (upd f x.toNatClampNeg y))) → ZZ pc lw (.int y :: .int x :: .ref b :: rest) ws)
    (row1 : kd = 1 → ∀ (b : Nat) (f : Nat → Int64) (x : Int32) (y : Int64) (lw : List (Nat × Value)) (rest : List Value) (ws : va_W), ws[(aty ev a).2.1.toNat]? = some (b, aJ G n f) → vp_in x n → ZZ pc' lw rest (ws.set (aty ev a).2.1.toNat (b, aJ G n (vp_updL f x.toNatClampNeg y))) → ZZ pc lw (.long y :: .int x :: .ref b :: rest) ws)
    (row2 : kd = 2 → ∀ (b : Nat) (f : Nat → Int32) (x y : Int32) (lw : List (Nat × Value)) (rest : List Value) (ws : va_W), ws[(aty ev a).2.1.toNat]? = some (b, aZ G n f) → vp_in x n → ZZ pc' lw rest (ws.set (aty ev a).2.1.toNat (b, aZ G n (upd f x.toNatClampNeg (vp_nar .boolean y)))) → ZZ pc lw (.int y :: .int x :: .ref b :: rest) ws)
    (k : AZ ZZ G ad T mk w0 pin (lv, st, ev, ca, rl, nx) pc') : AZ ZZ G ad T mk w0 pin (lv, v :: i :: a :: st, ev, ca, rl, nx) pc := by
  intro ν lw sw ws h
  obtain ⟨h1, h2, h3⟩ := h
  have h3 : AK G ad T mk w0 pin (lv, st, ev, ca, rl, nx) ν ws := h3
  have h2' : sw = ν v :: ν i :: ν a :: st.map ν := h2
  obtain ⟨x, hx⟩ := h3.int hi
  obtain ⟨v1, v2⟩ := h3.inr hin hx
  rw [h2', h3.ref ha, hx]
  have hvx := h3.sub hv
  obtain ⟨en, q1, q2⟩ := h3.2.2.2.2.2.1.arr hT
  rcases q2 with ⟨rfl, f, rfl, q3⟩ | ⟨rfl, f, rfl⟩ | ⟨rfl, f, rfl, q3⟩ | ⟨rfl, -⟩
  · obtain ⟨y, hy, y1, y2⟩ := vty0 hvx rfl
    rw [hy]
    have x0 : 0 ≤ x.toInt := vin0 v1
    obtain ⟨p1, p2⟩ := hp rfl ν ws h3 x y hx hy x0
    have ex : (x.toNatClampNeg : Int) = x.toInt := by
      show ((x.toInt).toNat : Int) = x.toInt
      omega
    refine row0 rfl _ f x y lw _ ws q1 v1 (k ν _ _ _ ⟨h1, rfl, h3.setA hT q1 (Or.inl ⟨rfl, _, rfl, aint_upd q3 y1 y2 p1⟩) (fun n' t' e' g2 f' c i g3 g4 g5 => ?_) hm⟩)
    cases e'
    cases g3
    unfold upd
    split
    · rename_i ei
      rw [ei]
      exact p2 g2 c g4
    · exact h3.2.2.2.2.2.1.2.2 _ _ _ _ f c i hT g2 q1 g4 g5
  · obtain ⟨y, hy, y1, y2⟩ := vty1 hvx rfl
    rw [hy]
    exact row1 rfl _ f x y lw _ ws q1 v1 (k ν _ _ _ ⟨h1, rfl, h3.setA hT q1 (Or.inr (Or.inl ⟨rfl, _, rfl⟩)) (fun n' t' e' => by cases e') hm⟩)
  · obtain ⟨y, hy, y1, y2⟩ := vty0 hvx rfl
    have y1 : t.2.1 ≤ y.toInt := y1
    have y2 : y.toInt ≤ t.2.2 := y2
    rw [hy]
    obtain ⟨⟨z1, z2⟩, z3⟩ := hz rfl
    refine row2 rfl _ f x y lw _ ws q1 v1 (k ν _ _ _ ⟨h1, rfl, h3.setA hT q1 (Or.inr (Or.inr (Or.inl ⟨rfl, _, rfl, ?_⟩))) (fun n' t' e' => by cases e') hm⟩)
    rw [vnar_z (by omega) (by omega)]
    exact aint_upd q3 y1 y2 (fun e => by rw [z3] at e; cases e)
  · omega
end AZ2
end
section
/-! branches; switches; arrays of references -/
def chold (c : Nat) (a b : Int) : Prop := match c with
  | 0 => a = b
  | 1 => a ≠ b
  | 2 => a < b
  | 3 => b ≤ a
  | 4 => b < a
  | _ => a ≤ b
def cneg : Nat → Nat
  | 0 => 1
  | 1 => 0
  | 2 => 3
  | 3 => 2
  | 4 => 5
  | _ => 4
noncomputable def alq (x y : Nat) (c : Int) (ev : AEv) (rl : ARl) : Option (AEv × ARl) := match adif ev rl x 2 y with
  | some d => bif decide (d + c < 0) then none else some (ale x y c ev rl)
  | none => some (ale x y c ev rl)
noncomputable def leD (x y : Nat) (ev : AEv) (rl : ARl) : Bool := match adif ev rl y 2 x with
  | some d => decide (d ≤ 0)
  | none => false
/-- what is known where x c y -/
noncomputable def atk (c x y : Nat) (ev : AEv) (rl : ARl) : Option (AEv × ARl) := match c with
  | 0 => match alq x y 0 ev rl with
    | some q => alq y x 0 q.1 q.2
    | none => none
  | 1 => bif leD x y ev rl then alq x y (-1) ev rl else bif leD y x ev rl then alq y x (-1) ev rl else some (ev, rl)
  | 2 => alq x y (-1) ev rl
  | 3 => alq y x 0 ev rl
  | 4 => alq y x (-1) ev rl
  | _ => alq x y 0 ev rl
section AZ3
variable {ZZ : ZZT} {G : KG} {ad : Nat → Nat} {T : List TE} {mk : List (Nat × Nat)} {w0 : va_W} {pin : List (Nat × Value)} {ν : Nat → Value} {ws : va_W}
variable {lv : ALv} {st : List Nat} {ev : AEv} {ca : ACa} {rl : ARl} {nx pc pc' : Nat}
theorem AK.sAl (h : AK G ad T mk w0 pin (lv, st, ev, ca, rl, nx) ν ws) {x y : Nat} {c : Int} (hle : vI (ν x) ≤ vI (ν y) + c) : ∃ q, alq x y c ev rl = some q ∧ AK G ad T mk w0 pin (lv, st, q.1, ca, q.2, nx) ν ws := by
  show ∃ q, (match adif ev rl x 2 y with
    | some d => bif decide (d + c < 0) then none else some (ale x y c ev rl)
    | none => some (ale x y c ev rl)) = some q ∧ _
  cases e : adif ev rl x 2 y with
  | none => exact ⟨_, rfl, h.le hle⟩
  | some d =>
    have h1 := h.dif e
    have h2 : decide (d + c < 0) = false := decide_eq_false (by omega)
    refine ⟨ale x y c ev rl, ?_, h.le hle⟩
    simp only [h2, cond_false]
theorem AK.sLe (h : AK G ad T mk w0 pin (lv, st, ev, ca, rl, nx) ν ws) {x y : Nat} (hle : leD x y ev rl = true) : vI (ν x) ≤ vI (ν y) := by
  have hle : (match adif ev rl y 2 x with
    | some d => decide (d ≤ 0)
    | none => false) = true := hle
  cases e : adif ev rl y 2 x with
  | none => rw [e] at hle; cases hle
  | some d =>
    rw [e] at hle
    have h1 := h.dif e
    have h2 := of_decide_eq_true hle
    omega
theorem AK.tk (h : AK G ad T mk w0 pin (lv, st, ev, ca, rl, nx) ν ws) {c x y : Nat} (hc : chold c (vI (ν x)) (vI (ν y))) : ∃ q, atk c x y ev rl = some q ∧ AK G ad T mk w0 pin (lv, st, q.1, ca, q.2, nx) ν ws := by
  match c, hc with
  | 0, hc =>
    have hc : vI (ν x) = vI (ν y) := hc
    obtain ⟨q, e1, h1⟩ := h.sAl (x := x) (y := y) (c := 0) (by omega)
    obtain ⟨q2, e2, h2⟩ := h1.sAl (x := y) (y := x) (c := 0) (by omega)
    exact ⟨q2, by simp only [atk, e1, e2], h2⟩
  | 1, hc =>
    have hc : vI (ν x) ≠ vI (ν y) := hc
    cases e1 : leD x y ev rl with
    | true =>
      have h1 := h.sLe e1
      obtain ⟨q, e2, h2⟩ := h.sAl (x := x) (y := y) (c := -1) (by omega)
      exact ⟨q, by simp only [atk, e1, cond_true, e2], h2⟩
    | false =>
      cases e3 : leD y x ev rl with
      | true =>
        have h1 := h.sLe e3
        obtain ⟨q, e2, h2⟩ := h.sAl (x := y) (y := x) (c := -1) (by omega)
        exact ⟨q, by simp only [atk, e1, e3, cond_true, cond_false, e2], h2⟩
      | false => exact ⟨(ev, rl), by simp only [atk, e1, e3, cond_false], h⟩
  | 2, hc =>
    have hc : vI (ν x) < vI (ν y) := hc
    exact h.sAl (by omega)
  | 3, hc =>
    have hc : vI (ν y) ≤ vI (ν x) := hc
    exact h.sAl (by omega)
  | 4, hc =>
    have hc : vI (ν y) < vI (ν x) := hc
    exact h.sAl (by omega)
  | n + 5, hc =>
    have hc : vI (ν x) ≤ vI (ν y) := hc
    exact h.sAl (by omega)
theorem az_br {c x y tgt k : Nat} (hk : k ≤ 1) (hx : (aty ev x).1 = k) (hy : (aty ev y).1 = k) (row : ∀ (vx vy : Value) (lw : List (Nat × Value)) (rest : List Value) (ws : va_W), tagv k vx → tagv k vy → (chold c (vI vx) (vI vy) → ZZ tgt lw rest ws) → (chold (cneg c) (vI vx) (vI vy) → ZZ pc' lw rest ws) → ZZ pc lw (vy :: vx :: rest) ws)
    (kt : ∀ q, atk c x y ev rl = some q → AZ ZZ G ad T mk w0 pin (lv, st, q.1, ca, q.2, nx) tgt) (kf : ∀ q, atk (cneg c) x y ev rl = some q → AZ ZZ G ad T mk w0 pin (lv, st, q.1, ca, q.2, nx) pc') : AZ ZZ G ad T mk w0 pin (lv, y :: x :: st, ev, ca, rl, nx) pc := by
  intro ν lw sw ws h
  obtain ⟨h1, h2, h3⟩ := h
  have h3 : AK G ad T mk w0 pin (lv, st, ev, ca, rl, nx) ν ws := h3
  have h2' : sw = ν y :: ν x :: st.map ν := h2
  rw [h2']
  refine row _ _ lw _ ws (h3.tag hx (by omega)) (h3.tag hy (by omega)) (fun hc => ?_) (fun hc => ?_)
  · obtain ⟨q, e, h4⟩ := h3.tk hc
    exact kt q e ν _ _ ws ⟨h1, rfl, h4⟩
  · obtain ⟨q, e, h4⟩ := h3.tk hc
    exact kf q e ν _ _ ws ⟨h1, rfl, h4⟩
theorem az_br0 {c x tgt : Nat} (hx : (aty ev x).1 = 0) (hf : afr (lv, x :: st, ev, ca, rl, nx) = true) (row : ∀ (vx : Value) (lw : List (Nat × Value)) (rest : List Value) (ws : va_W), tagv 0 vx → (chold c (vI vx) 0 → ZZ tgt lw rest ws) → (chold (cneg c) (vI vx) 0 → ZZ pc' lw rest ws) → ZZ pc lw (vx :: rest) ws)
    (kt : ∀ q, atk c x nx ((nx, (0, 0, 0)) :: ev) rl = some q → AZ ZZ G ad T mk w0 pin (lv, st, q.1, ca, q.2, nx + 1) tgt) (kf : ∀ q, atk (cneg c) x nx ((nx, (0, 0, 0)) :: ev) rl = some q → AZ ZZ G ad T mk w0 pin (lv, st, q.1, ca, q.2, nx + 1) pc') : AZ ZZ G ad T mk w0 pin (lv, x :: st, ev, ca, rl, nx) pc := by
  intro ν lw sw ws h
  obtain ⟨h1, h2, h3⟩ := h
  have h3 : AK G ad T mk w0 pin (lv, st, ev, ca, rl, nx) ν ws := h3
  have h2' : sw = ν x :: st.map ν := h2
  rw [h2']
  have hf2 := afr_pop hf
  have hxn : x < nx := (afr_ok hf).2.2.1 x List.mem_cons_self
  have h4 : AK G ad T mk w0 pin (lv, st, (nx, (0, 0, 0)) :: ev, ca, rl, nx + 1) (nup ν nx (.int 0)) ws := h3.new (nr := []) hf2 (vty_i (by decide) (by decide)) (fun q hq => by cases hq)
  have ex : nup ν nx (.int 0) x = ν x := nup_ne hxn
  have en : nup ν nx (.int 0) nx = .int 0 := nup_eq
  have e0 : vI (nup ν nx (.int 0) nx) = 0 := by rw [en]; rfl
  have l1 : lw = lv.map (fun q => (q.1, nup ν nx (.int 0) q.2.1)) := by
    rw [lvs_cong hf2 (fun i hi => nup_ne hi)]; exact h1
  have s1 : st.map ν = st.map (nup ν nx (.int 0)) := (sts_cong hf2 (fun i hi => nup_ne hi)).symm
  refine row _ lw _ ws (h3.tag hx (by omega)) (fun hc => ?_) (fun hc => ?_)
  · obtain ⟨q, e, h5⟩ := h4.tk (c := c) (x := x) (y := nx) (by rw [ex, e0]; exact hc)
    exact kt q e _ _ _ ws ⟨l1, s1, h5⟩
  · obtain ⟨q, e, h5⟩ := h4.tk (c := cneg c) (x := x) (y := nx) (by rw [ex, e0]; exact hc)
    exact kf q e _ _ _ ws ⟨l1, s1, h5⟩
/-- a fact more: x is just v -/
theorem AK.is (h : AK G ad T mk w0 pin (lv, st, ev, ca, rl, nx) ν ws) {x : Nat} (hx : (aty ev x).1 = 0) {v : Int} (hv : vI (ν x) = v) : AK G ad T mk w0 pin (lv, st, (x, (0, v, v)) :: ev, ca, rl, nx) ν ws := by
  refine ⟨h.1, fun q hq => ?_, h.2.2⟩
  rcases List.mem_cons.mp hq with e | hq
  · rw [e]
    obtain ⟨a, ha⟩ := h.int hx
    show vty ad (0, v, v) (ν x)
    rw [ha] at hv ⊢
    have hv : a.toInt = v := hv
    exact vty_i (by omega) (by omega)
  · exact h.2.1 q hq
/-- the places of a switch -/
def aoffs (pc : Nat) (lo : Int) : Nat → List Int → Int → Int → List (Nat × Int)
  | _, [], _, _ => []
  | j, o :: os, a, b => (bif decide (a ≤ lo + j) && decide (lo + j ≤ b) then [(((pc : Int) + o).toNat, lo + j)] else []) ++ aoffs pc lo (j + 1) os a b
theorem aoffs_in {pc : Nat} {lo a b : Int} : ∀ (os : List Int) (j i : Nat) (o : Int), os[i]? = some o → a ≤ lo + ((j + i : Nat) : Int) → lo + ((j + i : Nat) : Int) ≤ b → (((pc : Int) + o).toNat, lo + ((j + i : Nat) : Int)) ∈ aoffs pc lo j os a b
  | [], j, i, o, h, _, _ => by simp at h
  | o' :: os, j, 0, o, h, h1, h2 => by
    cases h
    unfold aoffs
    have h1 : a ≤ lo + (j : Int) := h1
    have h2 : lo + (j : Int) ≤ b := h2
    rw [decide_eq_true h1, decide_eq_true h2]
    exact List.mem_append_left _ (List.mem_singleton.mpr rfl)
  | o' :: os, j, i + 1, o, h, h1, h2 => by
    unfold aoffs
    have e : j + (i + 1) = (j + 1) + i := by omega
    rw [e] at h1 h2 ⊢
    exact List.mem_append_right _ (aoffs_in os (j + 1) i o (by simpa using h) h1 h2)
theorem az_table {x dt : Nat} {dflt lo hi : Int} {offs : List Int} (hx : (aty ev x).1 = 0) (hd : 0 ≤ (pc : Int) + dflt) (hds : dt = ((pc : Int) + dflt).toNat) (hoff : offs.all (fun o => decide (0 ≤ (pc : Int) + o)) = true) (hlen : hi - lo + 1 = (offs.length : Int))
    (rowOut : ∀ (v : Int32) (lw : List (Nat × Value)) (rest : List Value) (ws : va_W), (v.toInt < lo ∨ hi < v.toInt) → ZZ dt lw rest ws → ZZ pc lw (.int v :: rest) ws)
    (rowIn : ∀ (v : Int32) (off : Int) (tgt : Nat) (lw : List (Nat × Value)) (rest : List Value) (ws : va_W), ¬ v.toInt < lo → ¬ hi < v.toInt → offs[(v.toInt - lo).toNat]? = some off → (pc : Int) + off = (tgt : Int) → ZZ tgt lw rest ws → ZZ pc lw (.int v :: rest) ws)
    (kd : (decide (xlo ev rl x < lo) || decide (hi < xhi ev rl x)) = true → AZ ZZ G ad T mk w0 pin (lv, st, ev, ca, rl, nx) dt)
    (kt : ∀ q ∈ aoffs pc lo 0 offs (xlo ev rl x) (xhi ev rl x), AZ ZZ G ad T mk w0 pin (lv, st, (x, (0, q.2, q.2)) :: ev, ca, rl, nx) q.1) : AZ ZZ G ad T mk w0 pin (lv, x :: st, ev, ca, rl, nx) pc := by
  intro ν lw sw ws h
  obtain ⟨h1, h2, h3⟩ := h
  have h3 : AK G ad T mk w0 pin (lv, st, ev, ca, rl, nx) ν ws := h3
  have h2' : sw = ν x :: st.map ν := h2
  obtain ⟨a, ha⟩ := h3.int hx
  have l1 := h3.lo2 x
  have l2 := h3.hi2 x
  rw [ha] at l1 l2
  have l1 : xlo ev rl x ≤ a.toInt := l1
  have l2 : a.toInt ≤ xhi ev rl x := l2
  rw [h2', ha]
  by_cases hin : a.toInt < lo ∨ hi < a.toInt
  · refine rowOut a lw _ ws hin (kd ?_ ν _ _ ws ⟨h1, rfl, h3⟩)
    rw [Bool.or_eq_true, decide_eq_true_eq, decide_eq_true_eq]
    omega
  · have g1 : ¬ a.toInt < lo := fun h => hin (Or.inl h)
    have g2 : ¬ hi < a.toInt := fun h => hin (Or.inr h)
    have hb : (a.toInt - lo).toNat < offs.length := by omega
    have ho := List.getElem?_eq_getElem hb
    have hp := of_decide_eq_true (List.all_eq_true.mp hoff _ (List.mem_of_getElem? ho))
    have hm := aoffs_in (pc := pc) (lo := lo) (a := xlo ev rl x) (b := xhi ev rl x) offs 0 _ _ ho (by omega) (by omega)
    have ev2 : lo + ((0 + (a.toInt - lo).toNat : Nat) : Int) = a.toInt := by omega
    rw [ev2] at hm
    refine rowIn a _ _ lw _ ws g1 g2 ho ?_ (kt _ hm ν _ _ ws ⟨h1, rfl, h3.is hx (by rw [ha]; rfl)⟩)
    show (pc : Int) + _ = ((((pc : Int) + _).toNat : Nat) : Int)
    omega
/-- an array of references: each place by itself -/
def arng : Nat → Nat → List Nat
  | 0, _ => []
  | n + 1, a => a :: arng n (a + 1)
theorem arng_in : ∀ (n a x : Nat), a ≤ x → x < a + n → x ∈ arng n a
  | 0, a, x, h1, h2 => by omega
  | n + 1, a, x, h1, h2 => by
    unfold arng
    by_cases e : x = a
    · rw [e]; exact List.mem_cons_self
    · exact List.mem_cons_of_mem _ (arng_in n (a + 1) x (by omega) (by omega))
theorem az_ald3 {a i n : Nat} {t : VT} (ha : (aty ev a).1 = 2) (hT : T[(aty ev a).2.1.toNat]? = some (.inr (3, n, t))) (hi : (aty ev i).1 = 0) (hin : ain ev rl i n = true) (hf : afr (lv, i :: a :: st, ev, ca, rl, nx) = true)
    (row : ∀ (b : Nat) (f : Nat → Option Nat) (x : Int32) (z : Nat) (lw : List (Nat × Value)) (rest : List Value) (ws : va_W), ws[(aty ev a).2.1.toNat]? = some (b, aO G n f) → vp_in x n → f x.toNatClampNeg = some z → ZZ pc' lw (.ref z :: rest) ws → ZZ pc lw (.int x :: .ref b :: rest) ws)
    (k : ∀ j ∈ (arng n 0).filter (fun (j : Nat) => ible (xlo ev rl i) (j : Int) && ible (j : Int) (xhi ev rl i)), AZ ZZ G ad T mk w0 pin (lv, nx :: st, (i, (0, (j : Int), (j : Int))) :: (nx, (2, ((t.2.1.toNat + j * t.2.2.toNat : Nat) : Int), 0)) :: ev, ca, rl, nx + 1) pc') : AZ ZZ G ad T mk w0 pin (lv, i :: a :: st, ev, ca, rl, nx) pc := by
  intro ν lw sw ws h
  obtain ⟨h1, h2, h3⟩ := h
  have h3 : AK G ad T mk w0 pin (lv, st, ev, ca, rl, nx) ν ws := h3
  have h2' : sw = ν i :: ν a :: st.map ν := h2
  obtain ⟨x, hx⟩ := h3.int hi
  obtain ⟨v1, v2⟩ := h3.inr hin hx
  have hf2 := afr_pop (afr_pop hf)
  have hin' : i < nx := (afr_ok hf).2.2.1 i List.mem_cons_self
  have hx0 : (x.toNatClampNeg : Int) = x.toInt := by
    have q1 := vin0 v1
    show ((x.toInt).toNat : Int) = x.toInt
    omega
  rw [h2', h3.ref ha, hx]
  obtain ⟨en, q1, q2⟩ := h3.2.2.2.2.2.1.arr hT
  rcases q2 with ⟨e, -⟩ | ⟨e, -⟩ | ⟨e, -⟩ | ⟨-, f, rfl, q3⟩
  · cases e
  · cases e
  · cases e
  · refine row _ f x _ lw _ ws q1 v1 (q3 _ v2) ?_
    have g := AG.push (st := st) (nr := []) (v := .ref (ad (t.2.1.toNat + x.toNatClampNeg * t.2.2.toNat))) (t := (2, ((t.2.1.toNat + x.toNatClampNeg * t.2.2.toNat : Nat) : Int), 0)) ⟨h1, rfl, h3⟩ hf2 (Or.inr (Or.inr (Or.inl ⟨rfl, rfl⟩))) (fun q hq => by cases hq)
    have b1 := h3.lo2 i
    have b2 := h3.hi2 i
    rw [hx] at b1 b2
    have b1 : xlo ev rl i ≤ x.toInt := b1
    have b2 : x.toInt ≤ xhi ev rl i := b2
    refine k x.toNatClampNeg (List.mem_filter.mpr ⟨arng_in _ _ _ (Nat.zero_le _) (by omega), by rw [Bool.and_eq_true]; exact ⟨ible_mk (by omega), ible_mk (by omega)⟩⟩) _ _ _ ws ⟨g.1, g.2.1, g.2.2.1, fun q hq => ?_, g.2.2.2.2⟩
    rcases List.mem_cons.mp hq with e | hq
    · rw [e]
      show vty ad (0, (x.toNatClampNeg : Int), (x.toNatClampNeg : Int)) (nup ν nx _ i)
      rw [nup_ne hin', hx]
      exact vty_i (by omega) (by omega)
    · exact g.2.2.2.1 q hq
end AZ3
end
section
/-! contracts in names: 0 .. 49 the arguments, 50 the answer, 100 .. fields before, 200 .. fields after -/
abbrev ALT : Type := Option VT × List (Nat × VT) × List (Nat × Nat × VT) × ARl
abbrev CE : Type := List VT × List (Nat × Nat × VT) × ARl × List ALT × List (Nat × Nat) × Nat × Nat
def PRE (ad : Nat → Nat) (C : CE) (μ : Nat → Value) (w0 : va_W) : Prop := (∀ j t, C.1[j]? = some t → vty ad t (μ j)) ∧ (∀ n q, C.2.1[n]? = some q → vty ad q.2.2 (μ (100 + n)) ∧ fget w0 q.1 q.2.1 = some (μ (100 + n))) ∧ ∀ q ∈ C.2.2.1, vI (μ q.1) ≤ vI (μ q.2.1) + q.2.2
def resOK (ad : Nat → Nat) (t : Option VT) (r : Option Value) (v : Value) : Prop := match t with
  | none => r = none
  | some t => r = some v ∧ vty ad t v
def POST (G : KG) (ad : Nat → Nat) (T : List TE) (C : CE) (μ : Nat → Value) (w0 : va_W) (r : Option Value) (w1 : va_W) : Prop :=
  ∃ A ∈ C.2.2.2.1, ∃ μ' : Nat → Value, (∀ i, i < 50 → μ' i = μ i) ∧ (∀ i, 100 ≤ i → i < 200 → μ' i = μ i) ∧ resOK ad A.1 r (μ' 50) ∧ (∀ q ∈ A.2.1, vty ad q.2 (μ' q.1)) ∧ (∀ n q, A.2.2.1[n]? = some q → vty ad q.2.2 (μ' (200 + n)) ∧ fget w1 q.1 q.2.1 = some (μ' (200 + n))) ∧ (∀ q ∈ A.2.2.2, vI (μ' q.1) ≤ vI (μ' q.2.1) + q.2.2) ∧ WT G ad T w1 ∧ FRM C.2.2.2.2.1 w0 w1
abbrev rmOf (C : CE) : Room := { frames := C.2.2.2.2.2.1, cells := 0, slots := 0, locals := C.2.2.2.2.2.2 }
def ACt (l : Launch) (G : KG) (T : List TE) (y : MethodName) (cc : ByteArray) (maxL : Nat) (ret : Option FieldType) (C : CE) : Prop := ∀ (ad : Nat → Nat) (w0 : va_W) (μ : Nat → Value), WT G ad T w0 → PRE ad C μ w0 → Ct l G y cc maxL ret (rmOf C) ((List.range C.1.length).map μ) w0 (fun r w1 => POST G ad T C μ w0 r w1)
noncomputable def acaf (ca : ACa) (k j : Nat) : Option Nat := lrc none (fun q r => brc (Nat.beq q.1 k && Nat.beq q.2.1 j) (some q.2.2) r) ca
theorem acaf_cons {q : Nat × Nat × Nat} {l : ACa} {k j : Nat} : acaf (q :: l) k j = bif Nat.beq q.1 k && Nat.beq q.2.1 j then some q.2.2 else acaf l k j := brc_eq _ _ _
theorem acaf_mem : ∀ (ca : ACa) (k j i : Nat), acaf ca k j = some i → (k, j, i) ∈ ca
  | [], k, j, i, h => by cases h
  | q :: l, k, j, i, h => by
    rw [acaf_cons] at h
    cases hb : (Nat.beq q.1 k && Nat.beq q.2.1 j) with
    | true =>
      rw [hb] at h
      cases h
      rw [Bool.and_eq_true] at hb
      have e1 : q.1 = k := Nat.eq_of_beq_eq_true hb.1
      have e2 : q.2.1 = j := Nat.eq_of_beq_eq_true hb.2
      subst e1; subst e2
      exact List.mem_cons_self
    | false =>
      rw [hb] at h
      exact List.mem_cons_of_mem _ (acaf_mem l k j i h)
noncomputable def dle1 (n : Nat) (ev : AEv) (rl : ARl) (a b : Nat) (c : Int) : Bool := match adif ev rl b n a with
  | some d => ible d c
  | none => false
noncomputable def dle0 (ev : AEv) (a b : Nat) (c : Int) : Bool := isNum (aty ev a) && (isNum (aty ev b) && ible ((aty ev a).2.2 - (aty ev b).2.1) c)
noncomputable def dleE (rl : ARl) (a b : Nat) (c : Int) : Bool := lrc false (fun q r => bif Nat.beq q.1 a then (bif Nat.beq q.2.1 b then (bif ible q.2.2 c then true else r) else r) else r) rl
theorem dleE_ok {a b : Nat} {c : Int} : ∀ (rl : ARl), dleE rl a b c = true → ∃ q ∈ rl, q.1 = a ∧ q.2.1 = b ∧ q.2.2 ≤ c
  | [], h => by cases h
  | q :: l, h => by
    have h : (bif Nat.beq q.1 a then (bif Nat.beq q.2.1 b then (bif ible q.2.2 c then true else dleE l a b c) else dleE l a b c) else dleE l a b c) = true := h
    have hr : dleE l a b c = true → ∃ z ∈ q :: l, z.1 = a ∧ z.2.1 = b ∧ z.2.2 ≤ c := fun h => by
      obtain ⟨z, hz, h1⟩ := dleE_ok l h
      exact ⟨z, List.mem_cons_of_mem _ hz, h1⟩
    cases h1 : Nat.beq q.1 a with
    | false => rw [h1] at h; exact hr h
    | true =>
      rw [h1] at h
      cases h2 : Nat.beq q.2.1 b with
      | false => rw [h2] at h; exact hr h
      | true =>
        rw [h2] at h
        cases h3 : ible q.2.2 c with
        | false => rw [h3] at h; exact hr h
        | true => exact ⟨q, List.mem_cons_self, Nat.eq_of_beq_eq_true h1, Nat.eq_of_beq_eq_true h2, ible_ok h3⟩
noncomputable def dle (ev : AEv) (rl : ARl) (a b : Nat) (c : Int) : Bool := bif Nat.beq a b && ible 0 c then true else bif dle0 ev a b c then true else bif dleE rl a b c then true else bif dle1 1 ev rl a b c then true else bif dle1 2 ev rl a b c then true else bif dle1 3 ev rl a b c then true else dle1 4 ev rl a b c
/-- the fields' names: of what is held -/
noncomputable def acas (ca : ACa) : List (Nat × Nat × VT) → Option (List Nat)
  | [] => some []
  | q :: l => match acaf ca q.1 q.2.1, acas ca l with
    | some i, some is => some (i :: is)
    | _, _ => none
theorem acas_ok {ca : ACa} : ∀ (l : List (Nat × Nat × VT)) (is : List Nat), acas ca l = some is → is.length = l.length ∧ ∀ n q, l[n]? = some q → (q.1, q.2.1, is.getD n 0) ∈ ca
  | [], is, h => by
    cases h
    exact ⟨rfl, fun n q hq => by simp at hq⟩
  | q :: l, is, h => by
    unfold acas at h
    cases h1 : acaf ca q.1 q.2.1 with
    | none => rw [h1] at h; cases h
    | some i =>
      cases h2 : acas ca l with
      | none => rw [h1, h2] at h; cases h
      | some is2 =>
        rw [h1, h2] at h
        cases h
        obtain ⟨q1, q2⟩ := acas_ok l is2 h2
        refine ⟨by simp [q1], fun n p hp => ?_⟩
        cases n with
        | zero =>
          cases hp
          exact acaf_mem ca _ _ i h1
        | succ n => exact q2 n p (by simpa using hp)
def cmap (as ps : List Nat) (nx : Nat) (i : Nat) : Nat := bif Nat.blt i 50 then as.getD i 0 else bif Nat.beq i 50 then nx else bif Nat.blt i 200 then ps.getD (i - 100) 0 else nx + 1 + (i - 200)
def vrefB (i : Nat) : Bool := Nat.ble i 50 || Nat.ble 100 i
/-- the state behind a call, by the answer A -/
def aafter (as ps : List Nat) (A : ALT) (msk : List (Nat × Nat)) (lv : ALv) (st : List Nat) (ev : AEv) (ca : ACa) (rl : ARl) (nx : Nat) : AS :=
  (lv, (match A.1 with | some _ => nx :: st | none => st), A.2.1.map (fun q => (cmap as ps nx q.1, q.2)) ++ ((match A.1 with | some t => [(nx, t)] | none => []) ++ (A.2.2.1.zipIdx.map (fun q => (nx + 1 + q.2, q.1.2.2)) ++ ev)),
   A.2.2.1.zipIdx.map (fun q => (q.1.1, q.1.2.1, nx + 1 + q.2)) ++ ca.filter (fun q => !(mkq msk q.1 q.2.1)), A.2.2.2.map (fun q => (cmap as ps nx q.1, cmap as ps nx q.2.1, q.2.2)) ++ rl, nx + 1 + A.2.2.1.length)
def altB (A : ALT) : Bool := A.2.1.all (fun q => vrefB q.1) && A.2.2.2.all (fun q => vrefB q.1 && vrefB q.2.1)
def cov (mk msk : List (Nat × Nat)) : Bool := msk.all (fun q => bif Nat.beq q.2 999 then mk.any (fun p => Nat.beq p.1 q.1 && Nat.beq p.2 999) else mkq mk q.1 q.2)
theorem cov_ok {mk msk : List (Nat × Nat)} (h : cov mk msk = true) {k j : Nat} (hk : mkq mk k j = false) : mkq msk k j = false := by
  cases e : mkq msk k j with
  | false => rfl
  | true =>
    unfold mkq at e
    obtain ⟨q, hq, e⟩ := List.any_eq_true.mp e
    rw [Bool.and_eq_true] at e
    have e1 : q.1 = k := Nat.eq_of_beq_eq_true e.1
    have h1 := List.all_eq_true.mp h q hq
    cases h9 : Nat.beq q.2 999 with
    | true =>
      rw [h9] at h1
      have h1 : mk.any (fun p => Nat.beq p.1 q.1 && Nat.beq p.2 999) = true := h1
      rw [e1] at h1
      rw [mkq_arr h1] at hk
      cases hk
    | false =>
      rw [h9] at h1
      have h1 : mkq mk q.1 q.2 = true := h1
      rw [h9, Bool.or_false] at e
      have e2 : q.2 = j := Nat.eq_of_beq_eq_true e.2
      rw [e1, e2, hk] at h1
      cases h1
section AZ4
variable {ZZ : ZZT} {G : KG} {ad : Nat → Nat} {T : List TE} {mk : List (Nat × Nat)} {w0 : va_W} {pin : List (Nat × Value)} {ν : Nat → Value} {ws : va_W}
variable {lv : ALv} {st : List Nat} {ev : AEv} {ca : ACa} {rl : ARl} {nx pc pc' : Nat}
theorem AK.dl1 (h : AK G ad T mk w0 pin (lv, st, ev, ca, rl, nx) ν ws) {n a b : Nat} {c : Int} (e : dle1 n ev rl a b c = true) : vI (ν a) ≤ vI (ν b) + c := by
  unfold dle1 at e
  cases h1 : adif ev rl b n a with
  | none => rw [h1] at e; cases e
  | some d =>
    rw [h1] at e
    have h2 := h.dif h1
    have h3 := ible_ok (show ible d c = true from e)
    omega
theorem AK.dl (h : AK G ad T mk w0 pin (lv, st, ev, ca, rl, nx) ν ws) {a b : Nat} {c : Int} (e : dle ev rl a b c = true) : vI (ν a) ≤ vI (ν b) + c := by
  unfold dle at e
  cases e1 : (Nat.beq a b && ible 0 c) with
  | true =>
    rw [Bool.and_eq_true] at e1
    have h1 := Nat.eq_of_beq_eq_true e1.1
    have h2 := ible_ok e1.2
    rw [h1]
    omega
  | false =>
    rw [e1] at e
    cases e2 : dle0 ev a b c with
    | true =>
      unfold dle0 at e2
      simp only [Bool.and_eq_true] at e2
      have h1 := (aown (ev := ev) h.2.1 e2.1).2
      have h2 := (aown (ev := ev) h.2.1 e2.2.1).1
      have h3 := ible_ok e2.2.2
      omega
    | false =>
      rw [e2] at e
      cases e3 : dleE rl a b c with
      | true =>
        obtain ⟨q, hq, h1, h2, h3⟩ := dleE_ok rl e3
        have h4 := h.2.2.2.1 q hq
        rw [h1, h2] at h4
        omega
      | false =>
        rw [e3] at e
        cases e4 : dle1 1 ev rl a b c with
        | true => exact h.dl1 e4
        | false =>
          rw [e4] at e
          cases e5 : dle1 2 ev rl a b c with
          | true => exact h.dl1 e5
          | false =>
            rw [e5] at e
            cases e6 : dle1 3 ev rl a b c with
            | true => exact h.dl1 e6
            | false =>
              rw [e6] at e
              exact h.dl1 (n := 4) e
theorem afr_of_app {as : List Nat} (hf : afr (lv, as ++ st, ev, ca, rl, nx) = true) : afr (lv, st, ev, ca, rl, nx) = true := by
  induction as with
  | nil => exact hf
  | cons a as ih => exact ih (afr_pop hf)
theorem az_touch {k j ci : Nat} {ts : List VT} {t : VT} (hT : T[k]? = some (.inl (ci, ts))) (ht : ts[j]? = some t) (hf : afr (lv, st, ev, ca, rl, nx) = true)
    (kk : AZ ZZ G ad T mk w0 pin (lv, st, (nx, t) :: ev, (k, j, nx) :: ca, rl, nx + 1) pc) : AZ ZZ G ad T mk w0 pin (lv, st, ev, ca, rl, nx) pc := by
  intro ν lw sw ws h
  obtain ⟨h1, h2, h3⟩ := h
  obtain ⟨fs, v, q1, q2, q3, q4⟩ := h3.2.2.2.2.2.1.obj hT ht
  have g := h3.new (nr := []) (v := v) (t := t) hf q4 (fun q hq => by cases hq)
  refine kk _ lw sw ws ⟨?_, ?_, g.1, g.2.1, fun q hq => ?_, g.2.2.2⟩
  · show lw = lv.map (fun q => (q.1, nup ν nx v q.2.1))
    rw [lvs_cong hf (fun i hi => nup_ne hi)]; exact h1
  · show sw = st.map (nup ν nx v)
    rw [sts_cong hf (fun i hi => nup_ne hi)]; exact h2
  · rcases List.mem_cons.mp hq with e | hq
    · rw [e]
      show fget ws k j = some (nup ν nx v nx)
      rw [nup_eq, fget_of q1]
      exact q3
    · exact g.2.2.1 q hq
theorem zipIdx_mem {α : Type} {l : List α} {q : α × Nat} (h : q ∈ l.zipIdx) : l[q.2]? = some q.1 := by
  obtain ⟨a, i⟩ := q
  exact List.mem_zipIdx_iff_getElem?.mp h
theorem fget_frame {msk : List (Nat × Nat)} {wa wb : va_W} (h : FRM msk wa wb) {k j : Nat} {v : Value} (hm : mkq msk k j = false) (hf : fget wa k j = some v) : fget wb k j = some v := by
  have h1 := h.2 k j hm
  unfold fget at hf ⊢
  unfold cget at h1
  cases ha : wa[k]? with
  | none => rw [ha] at hf; cases hf
  | some q =>
    obtain ⟨a, e⟩ := q
    cases e with
    | inl e => rw [ha] at hf; cases hf
    | inr o =>
      rw [ha] at hf h1
      have hf : o.2[j]? = some v := hf
      have h1 : _ = (o.2[j]?).map Sum.inl := h1
      rw [hf] at h1
      cases hb : wb[k]? with
      | none => rw [hb] at h1; cases h1
      | some q2 =>
        obtain ⟨a2, e2⟩ := q2
        cases e2 with
        | inl e2 =>
          rw [hb] at h1
          cases h1
        | inr o2 =>
          rw [hb] at h1
          have h1 : (o2.2[j]?).map Sum.inl = some (Sum.inl v) := h1
          cases h2 : o2.2[j]? with
          | none => rw [h2] at h1; cases h1
          | some v2 =>
            rw [h2] at h1
            cases h1
            exact h2
theorem frm_trans {mk msk : List (Nat × Nat)} {wa wb wc : va_W} (h1 : FRM mk wa wb) (h2 : FRM msk wb wc) (hc : cov mk msk = true) : FRM mk wa wc := ⟨h2.1.trans h1.1, fun k j hk => (h2.2 k j (cov_ok hc hk)).trans (h1.2 k j hk)⟩
theorem az_call {PR : List Value → Prop} {C : CE} {as ps : List Nat} (hPR : ∀ (ν : Nat → Value) (ws : va_W), AK G ad T mk w0 pin (lv, st, ev, ca, rl, nx) ν ws → PR (st.map ν)) (hf : afr (lv, as.reverse ++ st, ev, ca, rl, nx) = true) (hn : as.length = C.1.length) (hp : acas ca C.2.1 = some ps)
    (ha : (C.1.zipIdx.all fun q => vsub ev rl (as.getD q.2 0) q.1) = true) (hpf : (C.2.1.zipIdx.all fun q => vsub ev rl (ps.getD q.2 0) q.1.2.2) = true) (hrl : (C.2.2.1.all fun q => dle ev rl (cmap as ps nx q.1) (cmap as ps nx q.2.1) q.2.2 && (Nat.blt q.1 50 || (Nat.ble 100 q.1 && Nat.blt q.1 200)) && (Nat.blt q.2.1 50 || (Nat.ble 100 q.2.1 && Nat.blt q.2.1 200))) = true) (hal : C.2.2.2.1.all altB = true) (hcv : cov mk C.2.2.2.2.1 = true)
    (hl1 : C.1.length ≤ 50) (hl2 : C.2.1.length ≤ 100)
    (row : ∀ (lw : List (Nat × Value)) (rest : List Value) (ws : va_W) (μ : Nat → Value), PR rest → WT G ad T ws → PRE ad C μ ws → (∀ (r : Option Value) (w1 : va_W), POST G ad T C μ ws r w1 → ZZ pc' lw (r.toList ++ rest) w1) → ZZ pc lw (((List.range C.1.length).map μ).reverse ++ rest) ws)
    (k : ∀ A ∈ C.2.2.2.1, AZ ZZ G ad T mk w0 pin (aafter as ps A C.2.2.2.2.1 lv st ev ca rl nx) pc') : AZ ZZ G ad T mk w0 pin (lv, as.reverse ++ st, ev, ca, rl, nx) pc := by
  intro ν lw sw ws h
  obtain ⟨h1, h2, h3⟩ := h
  obtain ⟨f0, f1, f2, f3, f4, f5⟩ := afr_ok hf
  obtain ⟨p1, p2⟩ := acas_ok _ _ hp
  have hasl : ∀ i, as.getD i 0 < nx := by
    intro i
    by_cases hi : i < as.length
    · have e : as.getD i 0 = as[i] := by simp [List.getD, List.getElem?_eq_getElem hi]
      rw [e]
      exact f2 _ (List.mem_append_left _ (List.mem_reverse.mpr (List.getElem_mem hi)))
    · have e : as.getD i 0 = 0 := by simp [List.getD, List.getElem?_eq_none (Nat.le_of_not_lt hi)]
      rw [e]
      omega
  have hpsl : ∀ i, ps.getD i 0 < nx := by
    intro i
    by_cases hi : i < C.2.1.length
    · exact f4 _ (p2 i _ (List.getElem?_eq_getElem hi))
    · have e : ps.getD i 0 = 0 := by simp [List.getD, List.getElem?_eq_none (show ps.length ≤ i by omega)]
      rw [e]
      omega
  have hm1 : ∀ i, i < 50 → cmap as ps nx i = as.getD i 0 := by
    intro i hi
    unfold cmap
    rw [show Nat.blt i 50 = true from Nat.ble_eq_true_of_le hi]
    rfl
  have hm2 : ∀ i, 100 ≤ i → i < 200 → cmap as ps nx i = ps.getD (i - 100) 0 := by
    intro i hi hj
    unfold cmap
    have e1 : Nat.blt i 50 = false := by
      cases e : Nat.blt i 50 with
      | false => rfl
      | true => have := blt_lt e; omega
    have e2 : Nat.beq i 50 = false := by
      cases e : Nat.beq i 50 with
      | false => rfl
      | true => have := Nat.eq_of_beq_eq_true e; omega
    rw [e1, e2, show Nat.blt i 200 = true from Nat.ble_eq_true_of_le hj]
    rfl
  have hm3 : ∀ i, 200 ≤ i → cmap as ps nx i = nx + 1 + (i - 200) := by
    intro i hi
    unfold cmap
    have e1 : Nat.blt i 50 = false := by
      cases e : Nat.blt i 50 with
      | false => rfl
      | true => have := blt_lt e; omega
    have e2 : Nat.beq i 50 = false := by
      cases e : Nat.beq i 50 with
      | false => rfl
      | true => have := Nat.eq_of_beq_eq_true e; omega
    have e3 : Nat.blt i 200 = false := by
      cases e : Nat.blt i 200 with
      | false => rfl
      | true => have := blt_lt e; omega
    rw [e1, e2, e3]
    rfl
  have hm5 : cmap as ps nx 50 = nx := rfl
  have hargs : sw = ((List.range C.1.length).map (fun i => ν (cmap as ps nx i))).reverse ++ st.map ν := by
    have h2 : sw = (as.reverse ++ st).map ν := h2
    rw [h2, List.map_append, List.map_reverse]
    congr 2
    refine List.ext_getElem (by simp [hn]) (fun i q1 q2 => ?_)
    have hi : i < as.length := by simpa using q1
    simp only [List.getElem_map, List.getElem_range]
    rw [hm1 i (by omega)]
    simp [List.getD, List.getElem?_eq_getElem hi]
  have h3 : AK G ad T mk w0 pin (lv, st, ev, ca, rl, nx) ν ws := h3
  rw [hargs]
  refine row lw (st.map ν) ws (fun i => ν (cmap as ps nx i)) (hPR ν ws h3) h3.2.2.2.2.2.1 ⟨fun j t hj => ?_, fun n q hq => ?_, fun q hq => ?_⟩ (fun r w1 hP => ?_)
  · have hj2 := lt_of_getE hj
    show vty ad t (ν (cmap as ps nx j))
    rw [hm1 j (by omega)]
    exact h3.sub (List.all_eq_true.mp ha (t, j) (List.mem_zipIdx_iff_getElem?.mpr hj))
  · have hn2 := lt_of_getE hq
    have e : cmap as ps nx (100 + n) = ps.getD n 0 := by
      rw [hm2 (100 + n) (by omega) (by omega), Nat.add_sub_cancel_left]
    refine ⟨?_, ?_⟩
    · show vty ad q.2.2 (ν (cmap as ps nx (100 + n)))
      rw [e]
      exact h3.sub (List.all_eq_true.mp hpf (q, n) (List.mem_zipIdx_iff_getElem?.mpr hq))
    · show fget ws q.1 q.2.1 = some (ν (cmap as ps nx (100 + n)))
      rw [e]
      exact h3.2.2.1 _ (p2 n q hq)
  · have := List.all_eq_true.mp hrl q hq
    simp only [Bool.and_eq_true] at this
    exact h3.dl this.1.1
  · obtain ⟨A, hA, μ', m1, m2, m3, m4, m5, m6, m7, m8⟩ := hP
    obtain ⟨ν', hν'⟩ : ∃ ν' : Nat → Value, ν' = fun i => if i < nx then ν i else if i = nx then μ' 50 else μ' (200 + (i - (nx + 1))) := ⟨_, rfl⟩
    have n1 : ∀ i, i < nx → ν' i = ν i := fun i hi => by rw [hν']; exact if_pos hi
    have n2 : ν' nx = μ' 50 := by
      rw [hν']
      show (if nx < nx then _ else if nx = nx then _ else _) = _
      rw [if_neg (Nat.lt_irrefl nx), if_pos rfl]
    have n3 : ∀ n, ν' (nx + 1 + n) = μ' (200 + n) := fun n => by
      rw [hν']
      show (if nx + 1 + n < nx then _ else if nx + 1 + n = nx then _ else _) = _
      rw [if_neg (by omega), if_neg (by omega), Nat.add_sub_cancel_left]
    have hmap : ∀ i, vrefB i = true → ν' (cmap as ps nx i) = μ' i := by
      intro i hi
      by_cases c1 : i < 50
      · rw [n1 _ (by rw [hm1 i c1]; exact hasl i), m1 i c1]
      · by_cases c2 : i = 50
        · rw [c2, hm5, n2]
        · have c3 : 100 ≤ i := by
            unfold vrefB at hi
            rcases Bool.or_eq_true _ _ ▸ hi with e | e
            · have := Nat.le_of_ble_eq_true e; omega
            · exact Nat.le_of_ble_eq_true e
          by_cases c4 : i < 200
          · rw [n1 _ (by rw [hm2 i c3 c4]; exact hpsl _), m2 i c3 c4]
          · rw [hm3 i (by omega), n3, show 200 + (i - 200) = i from by omega]
    have hAB := List.all_eq_true.mp hal A hA
    unfold altB at hAB
    rw [Bool.and_eq_true, List.all_eq_true, List.all_eq_true] at hAB
    have g := h3.cong (afr_of_app hf) n1
    refine k A hA ν' lw (r.toList ++ st.map ν) w1 ⟨?_, ?_, g.1, fun q hq => ?_, fun q hq => ?_, fun q hq => ?_, g.2.2.2.2.1, m7, frm_trans h3.2.2.2.2.2.2 m8 hcv⟩
    · show lw = lv.map (fun q => (q.1, ν' q.2.1))
      rw [lvs_cong hf n1]; exact h1
    · have e : st.map ν' = st.map ν := List.map_congr_left (fun i hi => n1 i (f2 i (List.mem_append_right _ hi)))
      unfold resOK at m3
      show r.toList ++ st.map ν = (match A.1 with | some _ => nx :: st | none => st).map ν'
      cases hA1 : A.1 with
      | none =>
        rw [hA1] at m3
        have m3 : r = none := m3
        rw [m3]
        exact e.symm
      | some t =>
        rw [hA1] at m3
        obtain ⟨m3, -⟩ := m3
        rw [m3]
        show μ' 50 :: st.map ν = ν' nx :: st.map ν'
        rw [e, n2]
    · rcases List.mem_append.mp hq with hq | hq
      · obtain ⟨q0, hq0, rfl⟩ := List.mem_map.mp hq
        show vty ad q0.2 (ν' (cmap as ps nx q0.1))
        rw [hmap _ (hAB.1 q0 hq0)]
        exact m4 q0 hq0
      · rcases List.mem_append.mp hq with hq | hq
        · cases hA1 : A.1 with
          | none => rw [hA1] at hq; cases hq
          | some t =>
            rw [hA1] at hq m3
            rw [List.mem_singleton.mp hq]
            show vty ad t (ν' nx)
            rw [n2]
            exact m3.2
        · rcases List.mem_append.mp hq with hq | hq
          · obtain ⟨q0, hq0, rfl⟩ := List.mem_map.mp hq
            show vty ad q0.1.2.2 (ν' (nx + 1 + q0.2))
            rw [n3]
            exact (m5 q0.2 q0.1 (zipIdx_mem hq0)).1
          · exact g.2.1 q hq
    · rcases List.mem_append.mp hq with hq | hq
      · obtain ⟨q0, hq0, rfl⟩ := List.mem_map.mp hq
        show fget w1 q0.1.1 q0.1.2.1 = some (ν' (nx + 1 + q0.2))
        rw [n3]
        exact (m5 q0.2 q0.1 (zipIdx_mem hq0)).2
      · obtain ⟨q1, q2⟩ := List.mem_filter.mp hq
        have q2 : mkq C.2.2.2.2.1 q.1 q.2.1 = false := by simpa using q2
        exact fget_frame m8 q2 (g.2.2.1 q q1)
    · rcases List.mem_append.mp hq with hq | hq
      · obtain ⟨q0, hq0, rfl⟩ := List.mem_map.mp hq
        have hb := hAB.2 q0 hq0
        rw [Bool.and_eq_true] at hb
        show vI (ν' (cmap as ps nx q0.1)) ≤ vI (ν' (cmap as ps nx q0.2.1)) + q0.2.2
        rw [hmap _ hb.1, hmap _ hb.2]
        exact m6 q0 hq0
      · exact g.2.2.2.1 q hq
end AZ4
end
section
/-! the end of a method; places where a state is told by itself (cuts), with what gets less -/
def arn (r : Nat) (ps : List Nat) (i : Nat) : Nat := bif Nat.beq i 50 then r else bif Nat.blt i 200 then i else ps.getD (i - 200) 0
def vrefR (n p i : Nat) : Bool := Nat.blt i n || (Nat.beq i 50 || ((Nat.ble 100 i && Nat.blt i (100 + p)) || Nat.ble 200 i))
noncomputable def aretA (n p : Nat) (A : ALT) (stk : List Nat) (ev : AEv) (ca : ACa) (rl : ARl) : Bool := match acas ca A.2.2.1 with
  | none => false
  | some ps => (match A.1, stk with
      | some t, [r] => vsub ev rl r t
      | none, [] => true
      | _, _ => false) && (A.2.1.all (fun q => vrefR n p q.1 && vsub ev rl (arn (stk.headD 0) ps q.1) q.2) && (A.2.2.1.zipIdx.all (fun q => vsub ev rl (ps.getD q.2 0) q.1.2.2) && A.2.2.2.all (fun q => vrefR n p q.1 && (vrefR n p q.2.1 && dle ev rl (arn (stk.headD 0) ps q.1) (arn (stk.headD 0) ps q.2.1) q.2.2))))
abbrev CUT : Type := Nat × AS × Int × List (Int × Nat)
def mfind : List (Nat × Nat) → Nat → Nat
  | [], _ => 0
  | q :: l, i => bif Nat.beq q.1 i then q.2 else mfind l i
def alv2 : ALv → Nat → Option (Nat × Bool)
  | [], _ => none
  | q :: l, i => bif Nat.beq q.1 i then some q.2 else alv2 l i
theorem alv2_mem : ∀ (lv : ALv) (i : Nat) (q : Nat × Bool), alv2 lv i = some q → (i, q) ∈ lv
  | [], i, n, h => by cases h
  | q :: l, i, n, h => by
    unfold alv2 at h
    cases hb : Nat.beq q.1 i with
    | true =>
      rw [hb] at h
      cases h
      have e : q.1 = i := Nat.eq_of_beq_eq_true hb
      subst e
      exact List.mem_cons_self
    | false =>
      rw [hb] at h
      exact List.mem_cons_of_mem _ (alv2_mem l i n h)
def mpL (lv : ALv) : ALv → Option (List (Nat × Nat))
  | [] => some []
  | q :: l => match alv2 lv q.1, mpL lv l with
    | some z, some r => bif z.2 == q.2.2 then some ((q.2.1, z.1) :: r) else none
    | _, _ => none
def mpS : List Nat → List Nat → Option (List (Nat × Nat))
  | [], [] => some []
  | a :: l, b :: r => match mpS l r with
    | some m => some ((a, b) :: m)
    | none => none
  | _, _ => none
noncomputable def mpC (ca : ACa) : ACa → Option (List (Nat × Nat))
  | [] => some []
  | q :: l => match acaf ca q.1 q.2.1, mpC ca l with
    | some i, some r => some ((q.2.2, i) :: r)
    | _, _ => none
noncomputable def amap (pids : List Nat) (σ σc : AS) : Option (List (Nat × Nat)) := match mpL σ.1 σc.1, mpS σc.2.1 σ.2.1, mpC σ.2.2.2.1 σc.2.2.2.1 with
  | some a, some b, some c => some (pids.map (fun i => (i, i)) ++ (a ++ (b ++ c)))
  | _, _, _ => none
noncomputable def asubB (m : List (Nat × Nat)) (ev : AEv) (rl : ARl) (σc : AS) : Bool := m.all (fun q => Nat.beq (mfind m q.1) q.2) && (σc.2.2.1.all (fun q => vsub ev rl (mfind m q.1) q.2) && σc.2.2.2.2.1.all (fun q => dle ev rl (mfind m q.1) (mfind m q.2.1) q.2.2))
def rsum (ts : List (Int × Nat)) (ν : Nat → Value) : Int := match ts with
  | [] => 0
  | q :: l => q.1 * vI (ν q.2) + rsum l ν
/-- the most that a term may be -/
noncomputable def tub (ev : AEv) (rl : ARl) (w : Int) (i : Nat) : Int := bif decide (0 ≤ w) then w * xhi ev rl i else w * xlo ev rl i
/-- the most of start's terms less the end's -/
noncomputable def rub (ev : AEv) (rl : ARl) (m : List (Nat × Nat)) : List (Int × Nat) → List (Int × Nat) → Option Int
  | [], [] => some 0
  | s :: ss, e :: es => match rub ev rl m ss es with
    | none => none
    | some r => bif decide (s.1 = e.1) then (bif decide (0 ≤ s.1) then (match adif ev rl (mfind m e.2) 3 s.2 with
        | some d => some (s.1 * d + r)
        | none => none) else (match adif ev rl s.2 3 (mfind m e.2) with
        | some d => some (-s.1 * d + r)
        | none => none)) else some (tub ev rl s.1 s.2 + tub ev rl (-e.1) (mfind m e.2) + r)
  | _, _ => none
noncomputable def rdec (ev : AEv) (rl : ARl) (m : List (Nat × Nat)) (sr : Option (Int × List (Int × Nat))) (d : CUT) : Bool := match sr with
  | none => true
  | some s => match rub ev rl m s.2 d.2.2.2 with
    | some r => decide (r + d.2.2.1 < s.1)
    | none => false
/-- arriving at a cut -/
noncomputable def aarr (pids : List Nat) (sr : Option (Int × List (Int × Nat))) (d : CUT) (σ : AS) : Bool := match amap pids σ d.2.1 with
  | none => false
  | some m => asubB m σ.2.2.1 σ.2.2.2.2.1 d.2.1 && rdec σ.2.2.1 σ.2.2.2.2.1 m sr d
noncomputable def rposB (d : CUT) : Bool := decide (d.2.2.2.foldr (fun q acc => tub d.2.1.2.2.1 d.2.1.2.2.2.2.1 q.1 q.2 + acc) 0 ≤ d.2.2.1)
section AZ5
variable {ZZ : ZZT} {G : KG} {ad : Nat → Nat} {T : List TE} {mk : List (Nat × Nat)} {w0 : va_W} {pin : List (Nat × Value)} {ν : Nat → Value} {ws : va_W}
variable {lv : ALv} {st : List Nat} {ev : AEv} {ca : ACa} {rl : ARl} {nx pc pc' : Nat}
theorem AG.ret {C : CE} {A : ALT} {μ : Nat → Value} {lw : List (Nat × Value)} {sw : List Value} (hA : A ∈ C.2.2.2.1) (h : AG G ad T C.2.2.2.2.1 w0 pin (lv, st, ev, ca, rl, nx) ν lw sw ws) (hp1 : ∀ j, j < C.1.length → (j, μ j) ∈ pin) (hp2 : ∀ j, j < C.2.1.length → (100 + j, μ (100 + j)) ∈ pin) (hl1 : C.1.length ≤ 50) (hl2 : C.2.1.length ≤ 100) (e : aretA C.1.length C.2.1.length A st ev ca rl = true) : ∃ r, sw = r.toList ∧ POST G ad T C μ w0 r ws ∧ ∃ v, resOK ad A.1 r v := by
  obtain ⟨h1, h2, h3⟩ := h
  unfold aretA at e
  cases hc : acas ca A.2.2.1 with
  | none => rw [hc] at e; cases e
  | some ps =>
    rw [hc] at e
    simp only [Bool.and_eq_true] at e
    obtain ⟨e1, e2, e3, e4⟩ := e
    obtain ⟨p1, p2⟩ := acas_ok _ _ hc
    obtain ⟨μ', hμ⟩ : ∃ μ' : Nat → Value, μ' = fun i => if i < 50 ∨ (100 ≤ i ∧ i < 200) then μ i else ν (arn (st.headD 0) ps i) := ⟨_, rfl⟩
    have m1 : ∀ i, i < 50 → μ' i = μ i := fun i hi => by rw [hμ]; exact if_pos (Or.inl hi)
    have m2 : ∀ i, 100 ≤ i → i < 200 → μ' i = μ i := fun i hi hj => by rw [hμ]; exact if_pos (Or.inr ⟨hi, hj⟩)
    have m3 : ∀ i, ¬ (i < 50 ∨ (100 ≤ i ∧ i < 200)) → μ' i = ν (arn (st.headD 0) ps i) := fun i hi => by rw [hμ]; exact if_neg hi
    have a50 : arn (st.headD 0) ps 50 = st.headD 0 := rfl
    have a1 : ∀ i, i ≠ 50 → i < 200 → arn (st.headD 0) ps i = i := by
      intro i hi hj
      unfold arn
      have e1 : Nat.beq i 50 = false := by
        cases e : Nat.beq i 50 with
        | false => rfl
        | true => have := Nat.eq_of_beq_eq_true e; omega
      rw [e1, show Nat.blt i 200 = true from Nat.ble_eq_true_of_le hj]
      rfl
    have a2 : ∀ n, arn (st.headD 0) ps (200 + n) = ps.getD n 0 := by
      intro n
      unfold arn
      have e1 : Nat.beq (200 + n) 50 = false := by
        cases e : Nat.beq (200 + n) 50 with
        | false => rfl
        | true => have := Nat.eq_of_beq_eq_true e; omega
      have e3 : Nat.blt (200 + n) 200 = false := by
        cases e : Nat.blt (200 + n) 200 with
        | false => rfl
        | true => have := blt_lt e; omega
      rw [e1, e3, Nat.add_sub_cancel_left]
      rfl
    have hv : ∀ i, vrefR C.1.length C.2.1.length i = true → μ' i = ν (arn (st.headD 0) ps i) := by
      intro i hi
      unfold vrefR at hi
      simp only [Bool.or_eq_true, Bool.and_eq_true] at hi
      rcases hi with hi | hi | ⟨hi, hj⟩ | hi
      · have hi := blt_lt hi
        rw [m1 i (by omega), a1 i (by omega) (by omega)]
        exact (h3.2.2.2.2.1 _ (hp1 i hi)).2.symm
      · have hi := Nat.eq_of_beq_eq_true hi
        exact m3 i (by omega)
      · have hi := Nat.le_of_ble_eq_true hi
        have hj := blt_lt hj
        rw [m2 i hi (by omega), a1 i (by omega) (by omega)]
        have := (h3.2.2.2.2.1 _ (hp2 (i - 100) (by omega))).2
        rw [show 100 + (i - 100) = i from by omega] at this
        exact this.symm
      · have hi := Nat.le_of_ble_eq_true hi
        exact m3 i (by omega)
    have hst : ∃ r, sw = r.toList ∧ resOK ad A.1 r (μ' 50) := by
      have h2 : sw = st.map ν := h2
      cases hA1 : A.1 with
      | none =>
        rw [hA1] at e1
        match st, e1, h2 with
        | [], _, h2 => exact ⟨none, h2, rfl⟩
      | some t =>
        rw [hA1] at e1
        match st, e1, h2, h3, hv with
        | [r], e1, h2, h3, hv =>
          refine ⟨some (ν r), h2, ?_⟩
          have : μ' 50 = ν r := hv 50 (by unfold vrefR; simp)
          rw [this]
          exact ⟨rfl, AK.sub h3 e1⟩
    obtain ⟨r, r1, r2⟩ := hst
    refine ⟨r, r1, ⟨A, hA, μ', m1, m2, r2, fun q hq => ?_, fun n q hq => ?_, fun q hq => ?_, h3.2.2.2.2.2.1, h3.2.2.2.2.2.2⟩, μ' 50, r2⟩
    · have := List.all_eq_true.mp e2 q hq
      rw [Bool.and_eq_true] at this
      rw [hv _ this.1]
      exact AK.sub h3 this.2
    · have e5 : μ' (200 + n) = ν (ps.getD n 0) := by rw [m3 _ (by omega), a2]
      rw [e5]
      exact ⟨AK.sub h3 (List.all_eq_true.mp e3 (q, n) (List.mem_zipIdx_iff_getElem?.mpr hq)), h3.2.2.1 _ (p2 n q hq)⟩
    · have := List.all_eq_true.mp e4 q hq
      simp only [Bool.and_eq_true] at this
      rw [hv _ this.1, hv _ this.2.1]
      exact AK.dl h3 this.2.2
theorem mpL_ok {lv : ALv} : ∀ (l : ALv) (r : List (Nat × Nat)), mpL lv l = some r → ∀ q ∈ l, ∃ i, (q.1, i, q.2.2) ∈ lv ∧ (q.2.1, i) ∈ r
  | [], r, h, q, hq => by cases hq
  | p :: l, r, h, q, hq => by
    unfold mpL at h
    cases h1 : alv2 lv p.1 with
    | none => rw [h1] at h; cases h
    | some z =>
      cases h2 : mpL lv l with
      | none => rw [h1, h2] at h; cases h
      | some r2 =>
        rw [h1, h2] at h
        cases hb : (z.2 == p.2.2) with
        | false => simp only [hb, cond_false] at h; cases h
        | true =>
          simp only [hb, cond_true] at h
          cases h
          rcases List.mem_cons.mp hq with e | hq
          · rw [e]
            have hz : z.2 = p.2.2 := by simpa using hb
            refine ⟨z.1, ?_, List.mem_cons_self⟩
            rw [← hz]
            exact alv2_mem lv _ z h1
          · obtain ⟨i, g1, g2⟩ := mpL_ok l r2 h2 q hq
            exact ⟨i, g1, List.mem_cons_of_mem _ g2⟩
theorem mpS_ok {f : Nat → Nat} : ∀ (a b : List Nat) (r : List (Nat × Nat)), mpS a b = some r → (∀ q ∈ r, f q.1 = q.2) → a.map f = b
  | [], [], r, h, _ => rfl
  | a :: l, b :: s, r, h, hf => by
    unfold mpS at h
    cases h1 : mpS l s with
    | none => rw [h1] at h; cases h
    | some m =>
      rw [h1] at h
      cases h
      rw [List.map_cons, hf _ List.mem_cons_self, mpS_ok l s m h1 (fun q hq => hf q (List.mem_cons_of_mem _ hq))]
  | [], b :: s, r, h, _ => by cases h
  | a :: l, [], r, h, _ => by cases h
theorem mpC_ok {ca : ACa} : ∀ (l : ACa) (r : List (Nat × Nat)), mpC ca l = some r → ∀ q ∈ l, ∃ i, (q.1, q.2.1, i) ∈ ca ∧ (q.2.2, i) ∈ r
  | [], r, h, q, hq => by cases hq
  | p :: l, r, h, q, hq => by
    unfold mpC at h
    cases h1 : acaf ca p.1 p.2.1 with
    | none => rw [h1] at h; cases h
    | some z =>
      cases h2 : mpC ca l with
      | none => rw [h1, h2] at h; cases h
      | some r2 =>
        rw [h1, h2] at h
        cases h
        rcases List.mem_cons.mp hq with e | hq
        · rw [e]
          exact ⟨z, acaf_mem ca _ _ z h1, List.mem_cons_self⟩
        · obtain ⟨i, g1, g2⟩ := mpC_ok l r2 h2 q hq
          exact ⟨i, g1, List.mem_cons_of_mem _ g2⟩
theorem mfind_pid {l : List (Nat × Nat)} : ∀ (pids : List Nat) (i : Nat), i ∈ pids → mfind (pids.map (fun i => (i, i)) ++ l) i = i
  | p :: ps, i, h => by
    show (bif Nat.beq p i then p else mfind (ps.map (fun i => (i, i)) ++ l) i) = i
    cases hb : Nat.beq p i with
    | true => exact Nat.eq_of_beq_eq_true hb
    | false =>
      rcases List.mem_cons.mp h with e | h
      · rw [e, Nat.beq_refl] at hb; cases hb
      · exact mfind_pid ps i h
theorem AG.sub {pids : List Nat} {σc : AS} {m : List (Nat × Nat)} {lw : List (Nat × Value)} {sw : List Value} (h : AG G ad T mk w0 pin (lv, st, ev, ca, rl, nx) ν lw sw ws) (hpin : ∀ q ∈ pin, q.1 ∈ pids) (hm : amap pids (lv, st, ev, ca, rl, nx) σc = some m) (hb : asubB m ev rl σc = true) : AG G ad T mk w0 pin σc (fun i => ν (mfind m i)) (σc.1.map (fun q => (q.1, ν (mfind m q.2.1)))) sw ws ∧ ∀ q ∈ σc.1.map (fun q => (q.1, ν (mfind m q.2.1))), q ∈ lw := by
  obtain ⟨lvc, stc, evc, cac, rlc, nxc⟩ := σc
  obtain ⟨h1, h2, h3⟩ := h
  have h3 : AK G ad T mk w0 pin (lv, st, ev, ca, rl, nx) ν ws := h3
  unfold asubB at hb
  simp only [Bool.and_eq_true, List.all_eq_true] at hb
  obtain ⟨b1, b2, b3⟩ := hb
  have hf : ∀ q ∈ m, mfind m q.1 = q.2 := fun q hq => Nat.eq_of_beq_eq_true (b1 q hq)
  unfold amap at hm
  cases c1 : mpL lv lvc with
  | none => simp only [c1] at hm; cases hm
  | some a =>
    cases c2 : mpS stc st with
    | none => simp only [c1, c2] at hm; cases hm
    | some b =>
      cases c3 : mpC ca cac with
      | none => simp only [c1, c2, c3] at hm; cases hm
      | some c =>
        simp only [c1, c2, c3] at hm
        have hm : pids.map (fun i => (i, i)) ++ (a ++ (b ++ c)) = m := Option.some.inj hm
        have ha : ∀ q ∈ a, q ∈ m := fun q hq => by rw [← hm]; exact List.mem_append_right _ (List.mem_append_left _ hq)
        have hbm : ∀ q ∈ b, q ∈ m := fun q hq => by rw [← hm]; exact List.mem_append_right _ (List.mem_append_right _ (List.mem_append_left _ hq))
        have hcm : ∀ q ∈ c, q ∈ m := fun q hq => by rw [← hm]; exact List.mem_append_right _ (List.mem_append_right _ (List.mem_append_right _ hq))
        have hL : ∀ q ∈ lvc, (q.1, mfind m q.2.1, q.2.2) ∈ lv := by
          intro q hq
          obtain ⟨i, g1, g2⟩ := mpL_ok lvc a c1 q hq
          have := hf _ (ha _ g2)
          rw [this]
          exact g1
        have hC : ∀ q ∈ cac, (q.1, q.2.1, mfind m q.2.2) ∈ ca := by
          intro q hq
          obtain ⟨i, g1, g2⟩ := mpC_ok cac c c3 q hq
          have := hf _ (hcm _ g2)
          rw [this]
          exact g1
        refine ⟨⟨rfl, ?_, fun q hq => ?_, fun q hq => ?_, fun q hq => ?_, fun q hq => ?_, fun q hq => ⟨(h3.2.2.2.2.1 q hq).1, ?_⟩, h3.2.2.2.2.2⟩, fun q hq => ?_⟩
        · have h2 : sw = st.map ν := h2
          show sw = stc.map (fun i => ν (mfind m i))
          rw [h2, ← mpS_ok (f := mfind m) stc st b c2 (fun q hq => hf _ (hbm _ hq)), List.map_map]
          rfl
        · exact h3.1 _ (hL q hq)
        · exact h3.sub (b2 q hq)
        · exact h3.2.2.1 _ (hC q hq)
        · exact h3.dl (b3 q hq)
        · show ν (mfind m q.1) = q.2
          rw [← hm, mfind_pid pids q.1 (hpin q hq)]
          exact (h3.2.2.2.2.1 q hq).2
        · obtain ⟨q0, hq0, rfl⟩ := List.mem_map.mp hq
          rw [h1]
          exact List.mem_map.mpr ⟨_, hL q0 hq0, rfl⟩
theorem AK.sTub (h : AK G ad T mk w0 pin (lv, st, ev, ca, rl, nx) ν ws) (w : Int) (i : Nat) : w * vI (ν i) ≤ tub ev rl w i := by
  show w * vI (ν i) ≤ bif decide (0 ≤ w) then w * xhi ev rl i else w * xlo ev rl i
  by_cases hw : 0 ≤ w
  · rw [decide_eq_true hw]
    exact Int.mul_le_mul_of_nonneg_left (h.hi2 i) hw
  · rw [decide_eq_false hw]
    exact Int.mul_le_mul_of_nonpos_left (by omega) (h.lo2 i)
theorem AK.sRub (h : AK G ad T mk w0 pin (lv, st, ev, ca, rl, nx) ν ws) {m : List (Nat × Nat)} : ∀ (ss es : List (Int × Nat)) (r : Int), rub ev rl m ss es = some r → rsum ss ν - rsum es (fun i => ν (mfind m i)) ≤ r
  | [], [], r, e => by
    cases e
    show (0 : Int) - 0 ≤ 0
    omega
  | s :: ss, e :: es, r, he => by
    unfold rub at he
    cases h1 : rub ev rl m ss es with
    | none => rw [h1] at he; cases he
    | some r1 =>
      have ih := AK.sRub h ss es r1 h1
      rw [h1] at he
      show s.1 * vI (ν s.2) + rsum ss ν - (e.1 * vI (ν (mfind m e.2)) + rsum es (fun i => ν (mfind m i))) ≤ r
      by_cases hw : s.1 = e.1
      · simp only [decide_eq_true hw, cond_true] at he
        rw [← hw]
        by_cases h0 : 0 ≤ s.1
        · simp only [decide_eq_true h0, cond_true] at he
          cases h2 : adif ev rl (mfind m e.2) 3 s.2 with
          | none => rw [h2] at he; cases he
          | some d =>
            rw [h2] at he
            cases he
            have h3 := h.dif h2
            have h4 := Int.mul_le_mul_of_nonneg_left h3 h0
            rw [Int.mul_sub] at h4
            omega
        · simp only [decide_eq_false h0, cond_false] at he
          cases h2 : adif ev rl s.2 3 (mfind m e.2) with
          | none => rw [h2] at he; cases he
          | some d =>
            rw [h2] at he
            cases he
            have h3 := h.dif h2
            have h4 := Int.mul_le_mul_of_nonneg_left h3 (show 0 ≤ -s.1 by omega)
            rw [Int.mul_sub, Int.neg_mul, Int.neg_mul] at h4
            omega
      · simp only [decide_eq_false hw, cond_false] at he
        cases he
        have h3 := h.sTub s.1 s.2
        have h4 := h.sTub (-e.1) (mfind m e.2)
        rw [Int.neg_mul] at h4
        omega
  | [], e :: es, r, he => by cases he
  | s :: ss, [], r, he => by cases he
end AZ5
end
section
/-! the instructions, over Z -/
abbrev ZF (p : Program) (l : Launch) (e : Env) (R : Room) (s : State) (m : MethodId) (args : Array Value) (below : List Frame) (meth : Method) (c : Code) (nL : Nat) (G : KG) (A : Nat → Prop) (Q : State → Prop) (kc ks : Nat) : ZZT := fun pc lv st ws => Z p l e R s m args below meth c nL G A Q pc lv st ws kc ks
def fits32 (a b : Int) : Bool := decide (iMin ≤ a) && decide (b ≤ iMax)
def bop : Instr → Value → Value → Value
  | .iadd, .int x, .int y => .int (x + y)
  | .isub, .int x, .int y => .int (x - y)
  | .imul, .int x, .int y => .int (x * y)
  | .iand, .int x, .int y => .int (x &&& y)
  | .ior, .int x, .int y => .int (x ||| y)
  | .ixor, .int x, .int y => .int (x ^^^ y)
  | .ishl, .int x, .int y => .int (x <<< (y &&& 31))
  | .ishr, .int x, .int y => .int (x >>> (y &&& 31))
  | .iushr, .int x, .int y => .int ((x.toUInt32 >>> (y.toUInt32 &&& Int32.toUInt32 31)).toInt32)
  | .idiv, .int x, .int y => .int (x / y)
  | .irem, .int x, .int y => .int (x - x / y * y)
  | .ladd, .long x, .long y => .long (x + y)
  | .lsub, .long x, .long y => .long (x - y)
  | .lmul, .long x, .long y => .long (x * y)
  | .land, .long x, .long y => .long (x &&& y)
  | .lor, .long x, .long y => .long (x ||| y)
  | .lxor, .long x, .long y => .long (x ^^^ y)
  | .ldiv, .long x, .long y => .long (x / y)
  | .lrem, .long x, .long y => .long (x - x / y * y)
  | .lshl, .long x, .int y => .long (x <<< (y.toInt64 &&& 63))
  | .lushr, .long x, .int y => .long ((x.toUInt64 >>> (y.toInt64.toUInt64 &&& Int64.toUInt64 63)).toInt64)
  | _, _, _ => .null
def uop : Instr → Value → Value
  | .ineg, .int x => .int (-x)
  | .lneg, .long x => .long (-x)
  | .i2l, .int x => .long x.toInt64
  | .l2i, .long x => .int x.toInt32
  | .i2b, .int x => .int x.toInt8.toInt32
  | .i2s, .int x => .int x.toInt16.toInt32
  | _, _ => .null
/-- a divisor that is not 0 -/
noncomputable def anz (ev : AEv) (rl : ARl) (y : Nat) : Bool := decide (0 < xlo ev rl y) || decide (xhi ev rl y < 0)
def orT (lx hx ly hy : Int) : VT := bif decide (0 ≤ lx) && decide (0 ≤ ly) then (0, 0, ((2 ^ (Nat.log2 (max hx.toNat hy.toNat) + 1) : Nat) : Int) - 1) else tI0
def shlT (lx hx ly hy : Int) : VT := bif decide (0 ≤ lx) && (decide (0 ≤ ly) && decide (hy ≤ 30)) then fitI (lx * ((2 ^ ly.toNat : Nat) : Int)) (hx * ((2 ^ hy.toNat : Nat) : Int)) else tI0
def shrT (lx hx ly hy : Int) : VT := bif decide (0 ≤ lx) && (decide (0 ≤ ly) && decide (hy ≤ 31)) then (0, 0, hx / ((2 ^ ly.toNat : Nat) : Int)) else tI0
def divT (lx hx ly hy : Int) : VT := bif decide (0 ≤ lx) && decide (0 < ly) then (0, lx / hy, hx / ly) else tI0
def remT (lx hx ly hy : Int) : VT := bif decide (0 ≤ lx) && decide (0 < ly) then (bif decide (lx = hx) && decide (ly = hy) then (0, lx % ly, lx % ly) else (0, 0, hy - 1)) else tI0
noncomputable def sublo (ev : AEv) (rl : ARl) (x y : Nat) : Int := match adif ev rl x 3 y with
  | some d => max (xlo ev rl x - xhi ev rl y) (-d)
  | none => xlo ev rl x - xhi ev rl y
noncomputable def subhi (ev : AEv) (rl : ARl) (x y : Nat) : Int := match adif ev rl y 3 x with
  | some d => min (xhi ev rl x - xlo ev rl y) d
  | none => xhi ev rl x - xlo ev rl y
def fitL (a b : Int) : VT := bif decide (lMin ≤ a) && decide (b ≤ lMax) then (1, a, b) else tL0
def mulLo (lx hx ly hy : Int) : Int := min (min (lx * ly) (lx * hy)) (min (hx * ly) (hx * hy))
def mulHi (lx hx ly hy : Int) : Int := max (max (lx * ly) (lx * hy)) (max (hx * ly) (hx * hy))
noncomputable def abinT (i : Instr) (ev : AEv) (rl : ARl) (x y nx : Nat) : Option (Nat × Nat × VT × ARl) := match i with
  | .iadd => some (0, 0, fitI (xlo ev rl x + xlo ev rl y) (xhi ev rl x + xhi ev rl y), mnz (fits32 (xlo ev rl x + xlo ev rl y) (xhi ev rl x + xhi ev rl y)) (mnz (decide (xlo ev rl y = xhi ev rl y)) [(nx, x, xhi ev rl y), (x, nx, -xlo ev rl y)] ++ mnz (decide (xlo ev rl x = xhi ev rl x)) [(nx, y, xhi ev rl x), (y, nx, -xlo ev rl x)] ++ [(x, nx, -xlo ev rl y), (y, nx, -xlo ev rl x)]))
  | .isub => some (0, 0, fitI (sublo ev rl x y) (subhi ev rl x y), mnz (fits32 (sublo ev rl x y) (subhi ev rl x y)) (mnz (decide (xlo ev rl y = xhi ev rl y)) [(nx, x, -xlo ev rl y), (x, nx, xhi ev rl y)]))
  | .imul => some (0, 0, (bif decide (0 ≤ xlo ev rl x) && decide (0 ≤ xlo ev rl y) then fitI (xlo ev rl x * xlo ev rl y) (xhi ev rl x * xhi ev rl y) else tI0), [])
  | .iand => some (0, 0, (bif decide (0 ≤ xlo ev rl y) then (0, 0, xhi ev rl y) else bif decide (0 ≤ xlo ev rl x) then (0, 0, xhi ev rl x) else tI0), [])
  | .idiv => bif anz ev rl y then some (0, 0, divT (xlo ev rl x) (xhi ev rl x) (xlo ev rl y) (xhi ev rl y), []) else none
  | .irem => bif anz ev rl y then some (0, 0, remT (xlo ev rl x) (xhi ev rl x) (xlo ev rl y) (xhi ev rl y), []) else none
  | .ldiv => bif anz ev rl y then some (1, 1, tL0, []) else none
  | .lrem => bif anz ev rl y then some (1, 1, tL0, []) else none
  | .ior => some (0, 0, orT (xlo ev rl x) (xhi ev rl x) (xlo ev rl y) (xhi ev rl y), [])
  | .ishl => some (0, 0, shlT (xlo ev rl x) (xhi ev rl x) (xlo ev rl y) (xhi ev rl y), [])
  | .ishr => some (0, 0, shrT (xlo ev rl x) (xhi ev rl x) (xlo ev rl y) (xhi ev rl y), [])
  | .ixor => some (0, 0, tI0, [])
  | .iushr => some (0, 0, tI0, [])
  | .ladd => some (1, 1, fitL (xlo ev rl x + xlo ev rl y) (xhi ev rl x + xhi ev rl y), [])
  | .lsub => some (1, 1, fitL (xlo ev rl x - xhi ev rl y) (xhi ev rl x - xlo ev rl y), [])
  | .lmul => some (1, 1, fitL (mulLo (xlo ev rl x) (xhi ev rl x) (xlo ev rl y) (xhi ev rl y)) (mulHi (xlo ev rl x) (xhi ev rl x) (xlo ev rl y) (xhi ev rl y)), [])
  | .land => some (1, 1, tL0, [])
  | .lor => some (1, 1, tL0, [])
  | .lxor => some (1, 1, tL0, [])
  | .lshl => some (1, 0, tL0, [])
  | .lushr => some (1, 0, tL0, [])
  | _ => none
def negL (lo hi : Int) : VT := bif decide (lMin < lo) then (1, -hi, -lo) else bif decide (hi = lMin) then (1, lMin, lMin) else tL0
noncomputable def aunT (i : Instr) (ev : AEv) (rl : ARl) (x nx : Nat) : Option (Nat × VT × ARl) := match i with
  | .ineg => some (0, fitI (-xhi ev rl x) (-xlo ev rl x), [])
  | .lneg => some (1, negL (xlo ev rl x) (xhi ev rl x), [])
  | .i2l => some (0, (1, xlo ev rl x, xhi ev rl x), [(nx, x, 0), (x, nx, 0)])
  | .l2i => some (1, tI0, [])
  | .i2b => some (0, tI0, [])
  | .i2s => some (0, tI0, [])
  | _ => none
theorem and_bd {x y : Int32} (hy : 0 ≤ y.toInt) : 0 ≤ (x &&& y).toInt ∧ (x &&& y).toInt ≤ y.toInt := by
  have e1 : (x &&& y).toBitVec = x.toBitVec &&& y.toBitVec := rfl
  have hyn : y.toBitVec.toInt = (y.toBitVec.toNat : Int) := by
    have h0 : 0 ≤ y.toBitVec.toInt := hy
    rw [BitVec.toInt_eq_toNat_cond] at h0 ⊢
    split
    · rfl
    · rename_i h
      rw [if_neg h] at h0
      have := y.toBitVec.isLt
      omega
  have hlt : 2 * y.toBitVec.toNat < 2 ^ 32 := by
    have h0 : y.toBitVec.toInt = (y.toBitVec.toNat : Int) := hyn
    rw [BitVec.toInt_eq_toNat_cond] at h0
    split at h0
    · assumption
    · have := y.toBitVec.isLt
      omega
  have hle : (x.toBitVec &&& y.toBitVec).toNat ≤ y.toBitVec.toNat := by
    rw [BitVec.toNat_and]
    exact Nat.and_le_right
  have h2 : (x &&& y).toInt = ((x.toBitVec &&& y.toBitVec).toNat : Int) := by
    show (x &&& y).toBitVec.toInt = _
    rw [e1, BitVec.toInt_eq_toNat_cond, if_pos (by omega)]
  have h3 : y.toInt = (y.toBitVec.toNat : Int) := hyn
  rw [h2, h3]
  omega
theorem i32_nn {x : Int32} (h : 0 ≤ x.toInt) : x.toInt = (x.toBitVec.toNat : Int) ∧ x.toBitVec.toNat < 2 ^ 31 := by
  have h0 : 0 ≤ x.toBitVec.toInt := h
  have e : x.toBitVec.toInt = (x.toBitVec.toNat : Int) ∧ x.toBitVec.toNat < 2 ^ 31 := by
    rw [BitVec.toInt_eq_toNat_cond] at h0 ⊢
    have := x.toBitVec.isLt
    by_cases c : 2 * x.toBitVec.toNat < 2 ^ 32
    · rw [if_pos c]; exact ⟨rfl, by omega⟩
    · rw [if_neg c] at h0; omega
  exact e
theorem i32_of {x : Int32} {n : Nat} (h : x.toBitVec.toNat = n) (hn : n < 2 ^ 31) : x.toInt = (n : Int) := by
  show x.toBitVec.toInt = _
  rw [BitVec.toInt_eq_toNat_cond, if_pos (by omega), h]
theorem or_bd {x y : Int32} {k : Nat} (hx : 0 ≤ x.toInt) (hy : 0 ≤ y.toInt) (h1 : x.toInt < ((2 ^ k : Nat) : Int)) (h2 : y.toInt < ((2 ^ k : Nat) : Int)) : 0 ≤ (x ||| y).toInt ∧ (x ||| y).toInt < ((2 ^ k : Nat) : Int) := by
  obtain ⟨a1, a2⟩ := i32_nn hx
  obtain ⟨b1, b2⟩ := i32_nn hy
  have e1 : (x ||| y).toBitVec.toNat = x.toBitVec.toNat ||| y.toBitVec.toNat := by
    show (x.toBitVec ||| y.toBitVec).toNat = _
    rw [BitVec.toNat_or]
  have l1 : x.toBitVec.toNat ||| y.toBitVec.toNat < 2 ^ 31 := Nat.or_lt_two_pow a2 b2
  have l2 : x.toBitVec.toNat ||| y.toBitVec.toNat < 2 ^ k := Nat.or_lt_two_pow (by omega) (by omega)
  rw [i32_of e1 l1]
  omega
theorem sl_n : ∀ n, n < 32 → ((nI n &&& 31).toBitVec.smod 32).toNat = n := by decide +kernel
theorem i32_nI {x : Int32} (h : 0 ≤ x.toInt) : x = nI x.toInt.toNat := by
  obtain ⟨a1, a2⟩ := i32_nn h
  exact Int32.toInt_inj.mp (by rw [tI_nI (by omega)]; omega)
theorem shl_eq {x y : Int32} (hx : 0 ≤ x.toInt) (hy : 0 ≤ y.toInt) (h30 : y.toInt ≤ 30) (hb : x.toInt * ((2 ^ y.toInt.toNat : Nat) : Int) < 2147483648) : (x <<< (y &&& 31)).toInt = x.toInt * ((2 ^ y.toInt.toNat : Nat) : Int) := by
  have ey := i32_nI hy
  have ex := i32_nI hx
  have hk : y.toInt.toNat < 32 := by omega
  have e0 : (x.toInt.toNat : Int) = x.toInt := by omega
  have hm : ((x.toInt.toNat * 2 ^ y.toInt.toNat : Nat) : Int) = x.toInt * ((2 ^ y.toInt.toNat : Nat) : Int) := by rw [Int.natCast_mul, e0]
  have e1 : nI x.toInt.toNat <<< (nI y.toInt.toNat &&& 31) = nI (x.toInt.toNat * 2 ^ y.toInt.toNat) := pk_shlN _ _ (sl_n _ hk) (by omega)
  have e2 : x <<< (y &&& 31) = nI (x.toInt.toNat * 2 ^ y.toInt.toNat) := by
    rw [← e1, ← ex, ← ey]
  rw [e2, tI_nI (by omega), hm]
theorem shr_bd {x y : Int32} {ly : Nat} (hx : 0 ≤ x.toInt) (hy : (ly : Int) ≤ y.toInt) (h31 : y.toInt ≤ 31) : 0 ≤ (x >>> (y &&& 31)).toInt ∧ (x >>> (y &&& 31)).toInt ≤ x.toInt / ((2 ^ ly : Nat) : Int) := by
  have ey := i32_nI (x := y) (by omega)
  obtain ⟨a1, a2⟩ := i32_nn hx
  have hk : y.toInt.toNat < 32 := by omega
  have e1 : (x >>> (y &&& 31)).toInt = x.toInt >>> y.toInt.toNat := by
    have e3 : (x >>> (y &&& 31)).toBitVec = x.toBitVec.sshiftRight ((y &&& 31).toBitVec.smod 32).toNat := rfl
    show (x >>> (y &&& 31)).toBitVec.toInt = _
    have e4 : ((y &&& 31).toBitVec.smod 32).toNat = y.toInt.toNat := by
      have := sl_n y.toInt.toNat hk
      rw [← ey] at this
      exact this
    rw [e3, e4, BitVec.toInt_sshiftRight]
    rfl
  rw [e1, Int.shiftRight_eq_div_pow]
  have h2 : ((2 ^ ly : Nat) : Int) ≤ ((2 ^ y.toInt.toNat : Nat) : Int) := Int.ofNat_le.mpr (Nat.pow_le_pow_right (by decide) (by omega))
  have h3 : (0 : Int) < ((2 ^ ly : Nat) : Int) := Int.natCast_pos.mpr (Nat.pow_pos (by decide))
  refine ⟨Int.ediv_nonneg hx (by omega), ?_⟩
  have hq : 0 ≤ x.toInt / ((2 ^ y.toInt.toNat : Nat) : Int) := Int.ediv_nonneg hx (by omega)
  refine (Int.le_ediv_iff_mul_le h3).mpr ?_
  exact Int.le_trans (Int.mul_le_mul_of_nonneg_left h2 hq) (Int.ediv_mul_le _ (by omega))
theorem i32_div {a b : Int32} (ha : 0 ≤ a.toInt) (hb : 0 < b.toInt) : (a / b).toInt = a.toInt / b.toInt := by
  have h1 := Int.ediv_nonneg ha (Int.le_of_lt hb)
  have h2 := Int.ediv_le_self b.toInt ha
  have h3 := i32_hi a
  unfold iMax at h3
  rw [Int32.toInt_div, Int.tdiv_eq_ediv_of_nonneg ha]
  exact b32 (by omega) (by omega)
theorem divT_ok {ad : Nat → Nat} {a b : Int32} {lx hx ly hy : Int} (l1 : lx ≤ a.toInt) (l2 : a.toInt ≤ hx) (l3 : ly ≤ b.toInt) (l4 : b.toInt ≤ hy) : vty ad (divT lx hx ly hy) (.int (a / b)) := by
  unfold divT
  cases e : (decide (0 ≤ lx) && decide (0 < ly)) with
  | false => exact vty_i0 _
  | true =>
    rw [Bool.and_eq_true, decide_eq_true_eq, decide_eq_true_eq] at e
    have hb : 0 < b.toInt := by omega
    have h1 := Int.ediv_nonneg (show 0 ≤ a.toInt by omega) (Int.le_of_lt hb)
    have e1 := i32_div (show 0 ≤ a.toInt by omega) hb
    have k1 : 0 ≤ lx / hy := Int.ediv_nonneg e.1 (by omega)
    have k2 := Int.mul_le_mul_of_nonneg_left l4 k1
    have k3 := Int.ediv_mul_le lx (show hy ≠ 0 by omega)
    refine vty_i (by rw [e1]; exact (Int.le_ediv_iff_mul_le hb).mpr (by omega)) ?_
    rw [e1]
    refine (Int.le_ediv_iff_mul_le e.2).mpr ?_
    have h2 := Int.mul_le_mul_of_nonneg_left l3 h1
    have h3 := Int.ediv_mul_le a.toInt (show b.toInt ≠ 0 by omega)
    omega
theorem fitL_ok {ad : Nat → Nat} {a b : Int} {x : Int64} (h : lMin ≤ a → b ≤ lMax → a ≤ x.toInt ∧ x.toInt ≤ b) : vty ad (fitL a b) (.long x) := by
  unfold fitL
  cases e : (decide (lMin ≤ a) && decide (b ≤ lMax)) with
  | false => exact vty_l0 x
  | true =>
    rw [Bool.and_eq_true, decide_eq_true_eq, decide_eq_true_eq] at e
    exact vty_l (h e.1 e.2).1 (h e.1 e.2).2
theorem ladd_ok {ad : Nat → Nat} {a b : Int64} {lx hx ly hy : Int} (l1 : lx ≤ a.toInt) (l2 : a.toInt ≤ hx) (l3 : ly ≤ b.toInt) (l4 : b.toInt ≤ hy) : vty ad (fitL (lx + ly) (hx + hy)) (.long (a + b)) := by
  refine fitL_ok (fun h1 h2 => ?_)
  unfold lMin at h1
  unfold lMax at h2
  rw [Int64.toInt_add, b64 (by omega) (by omega)]
  omega
theorem lsub_ok {ad : Nat → Nat} {a b : Int64} {lx hx ly hy : Int} (l1 : lx ≤ a.toInt) (l2 : a.toInt ≤ hx) (l3 : ly ≤ b.toInt) (l4 : b.toInt ≤ hy) : vty ad (fitL (lx - hy) (hx - ly)) (.long (a - b)) := by
  refine fitL_ok (fun h1 h2 => ?_)
  unfold lMin at h1
  unfold lMax at h2
  rw [Int64.toInt_sub, b64 (by omega) (by omega)]
  omega
theorem mul_corner {a b lx hx ly hy : Int} (l1 : lx ≤ a) (l2 : a ≤ hx) (l3 : ly ≤ b) (l4 : b ≤ hy) : mulLo lx hx ly hy ≤ a * b ∧ a * b ≤ mulHi lx hx ly hy := by
  unfold mulLo mulHi
  have one : ∀ c : Int, min (c * ly) (c * hy) ≤ c * b ∧ c * b ≤ max (c * ly) (c * hy) := by
    intro c
    rcases Int.le_total 0 c with h | h
    · have h1 := Int.mul_le_mul_of_nonneg_left l3 h
      have h2 := Int.mul_le_mul_of_nonneg_left l4 h
      omega
    · have h1 := Int.mul_le_mul_of_nonpos_left h l3
      have h2 := Int.mul_le_mul_of_nonpos_left h l4
      omega
  have p1 := one lx
  have p2 := one hx
  rcases Int.le_total 0 b with h | h
  · have h1 := Int.mul_le_mul_of_nonneg_right l1 h
    have h2 := Int.mul_le_mul_of_nonneg_right l2 h
    omega
  · have h1 := Int.mul_le_mul_of_nonpos_right l1 h
    have h2 := Int.mul_le_mul_of_nonpos_right l2 h
    omega
theorem lmul_ok {ad : Nat → Nat} {a b : Int64} {lx hx ly hy : Int} (l1 : lx ≤ a.toInt) (l2 : a.toInt ≤ hx) (l3 : ly ≤ b.toInt) (l4 : b.toInt ≤ hy) : vty ad (fitL (mulLo lx hx ly hy) (mulHi lx hx ly hy)) (.long (a * b)) := by
  refine fitL_ok (fun h1 h2 => ?_)
  have hm := mul_corner l1 l2 l3 l4
  unfold lMin at h1
  unfold lMax at h2
  rw [Int64.toInt_mul, b64 (by omega) (by omega)]
  exact hm
theorem remT_ok {ad : Nat → Nat} {a b : Int32} {lx hx ly hy : Int} (l1 : lx ≤ a.toInt) (l2 : a.toInt ≤ hx) (l3 : ly ≤ b.toInt) (l4 : b.toInt ≤ hy) : vty ad (remT lx hx ly hy) (.int (a - a / b * b)) := by
  unfold remT
  cases e : (decide (0 ≤ lx) && decide (0 < ly)) with
  | false => exact vty_i0 _
  | true =>
    rw [Bool.and_eq_true, decide_eq_true_eq, decide_eq_true_eq] at e
    have hb : 0 < b.toInt := by omega
    have ha : 0 ≤ a.toInt := by omega
    have h1 := Int.ediv_nonneg ha (Int.le_of_lt hb)
    have e1 := i32_div ha hb
    have h3 := Int.ediv_mul_le a.toInt (show b.toInt ≠ 0 by omega)
    have h0 : 0 ≤ a.toInt / b.toInt * b.toInt := Int.mul_nonneg h1 (Int.le_of_lt hb)
    have h4 := i32_hi a
    unfold iMax at h4
    have e2 : (a / b * b).toInt = a.toInt / b.toInt * b.toInt := tI_mul e1 rfl (by omega)
    have e3 : (a - a / b * b).toInt = a.toInt - a.toInt / b.toInt * b.toInt := tI_sub rfl e2 (by omega)
    have h5 : a.toInt - a.toInt / b.toInt * b.toInt = a.toInt % b.toInt := by
      have := Int.emod_def a.toInt b.toInt
      rw [this, Int.mul_comm]
    have h6 := Int.emod_nonneg a.toInt (show b.toInt ≠ 0 by omega)
    have h7 := Int.emod_lt_of_pos a.toInt hb
    show vty ad (bif decide (lx = hx) && decide (ly = hy) then (0, lx % ly, lx % ly) else (0, 0, hy - 1)) _
    cases e9 : (decide (lx = hx) && decide (ly = hy)) with
    | false => exact vty_i (by rw [e3, h5]; exact h6) (by rw [e3, h5]; omega)
    | true =>
      rw [Bool.and_eq_true, decide_eq_true_eq, decide_eq_true_eq] at e9
      have ea : a.toInt = lx := by omega
      have eb : b.toInt = ly := by omega
      rw [ea, eb] at h5 e3
      exact vty_i (by rw [e3, h5]; exact Int.le_refl _) (by rw [e3, h5]; exact Int.le_refl _)
section AZ6
variable {G : KG} {ad : Nat → Nat} {T : List TE} {mk : List (Nat × Nat)} {w0 : va_W} {pin : List (Nat × Value)} {ZZ : ZZT}
variable {lv : ALv} {st : List Nat} {ev : AEv} {ca : ACa} {rl : ARl} {nx pc pc' : Nat}
theorem az_binR {RR : Value → Value → Prop} {op : Value → Value → Value} {kx ky : Nat} (hk : kx ≤ 2 ∧ ky ≤ 2) (row : ∀ (vx vy : Value) (lw : List (Nat × Value)) (rest : List Value) (ws : va_W), tagv kx vx → tagv ky vy → RR vx vy → ZZ pc' lw (op vx vy :: rest) ws → ZZ pc lw (vy :: vx :: rest) ws) {x y : Nat} (hx : (aty ev x).1 = kx) (hy : (aty ev y).1 = ky) (hf : afr (lv, y :: x :: st, ev, ca, rl, nx) = true) {t : VT} {nr : ARl}
    (ht : ∀ (ν : Nat → Value) (ws : va_W), AK G ad T mk w0 pin (lv, st, ev, ca, rl, nx) ν ws → tagv kx (ν x) → tagv ky (ν y) → RR (ν x) (ν y) ∧ vty ad t (op (ν x) (ν y)) ∧ ∀ q ∈ nr, vI (nup ν nx (op (ν x) (ν y)) q.1) ≤ vI (nup ν nx (op (ν x) (ν y)) q.2.1) + q.2.2)
    (k : AZ ZZ G ad T mk w0 pin (lv, nx :: st, (nx, t) :: ev, ca, nr ++ rl, nx + 1) pc') : AZ ZZ G ad T mk w0 pin (lv, y :: x :: st, ev, ca, rl, nx) pc := by
  intro ν lw sw ws h
  obtain ⟨h1, h2, h3⟩ := h
  have h3 : AK G ad T mk w0 pin (lv, st, ev, ca, rl, nx) ν ws := h3
  have tx := h3.tag hx hk.1
  have ty := h3.tag hy hk.2
  have h2' : sw = ν y :: ν x :: st.map ν := h2
  rw [h2']
  obtain ⟨q0, q1, q2⟩ := ht ν ws h3 tx ty
  exact row _ _ lw _ ws tx ty q0 (k _ _ _ _ (AG.push (st := st) ⟨h1, rfl, h3⟩ (afr_pop (afr_pop hf)) q1 q2))
theorem AK.nz {ν : Nat → Value} {ws : va_W} (h : AK G ad T mk w0 pin (lv, st, ev, ca, rl, nx) ν ws) {y : Nat} (e : anz ev rl y = true) : vI (ν y) ≠ 0 := by
  unfold anz at e
  rw [Bool.or_eq_true, decide_eq_true_eq, decide_eq_true_eq] at e
  have h1 := h.lo2 y
  have h2 := h.hi2 y
  omega
theorem fitI_ok {ad : Nat → Nat} {a b : Int} {x : Int32} (h : fits32 a b = true → a ≤ x.toInt ∧ x.toInt ≤ b) : vty ad (fitI a b) (.int x) := by
  unfold fitI
  cases e : (decide (iMin ≤ a) && decide (b ≤ iMax)) with
  | false => exact vty_i0 x
  | true => exact vty_i (h e).1 (h e).2
theorem mnz_ok {b : Bool} {r : ARl} {P : Nat × Nat × Int → Prop} (h : b = true → ∀ q ∈ r, P q) : ∀ q ∈ mnz b r, P q := by
  intro q hq
  unfold mnz at hq
  cases b with
  | false => cases hq
  | true => exact h rfl q hq
theorem mnz_app {a b : ARl} {P : Nat × Nat × Int → Prop} (h1 : ∀ q ∈ a, P q) (h2 : ∀ q ∈ b, P q) : ∀ q ∈ a ++ b, P q := fun q hq => (List.mem_append.mp hq).elim (h1 q) (h2 q)
theorem rel22 {μ : Nat → Value} {a b u w : Nat} {c1 c2 : Int} (h1 : vI (μ a) ≤ vI (μ b) + c1) (h2 : vI (μ u) ≤ vI (μ w) + c2) : ∀ q ∈ [(a, b, c1), (u, w, c2)], vI (μ q.1) ≤ vI (μ q.2.1) + q.2.2 := by
  intro q hq
  rcases List.mem_cons.mp hq with e | hq
  · rw [e]; exact h1
  · rw [List.mem_singleton.mp hq]; exact h2
theorem rel2 {μ : Nat → Value} {u w : Nat} {c1 c2 : Int} (h1 : vI (μ u) ≤ vI (μ w) + c1) (h2 : vI (μ w) ≤ vI (μ u) + c2) : ∀ q ∈ [(u, w, c1), (w, u, c2)], vI (μ q.1) ≤ vI (μ q.2.1) + q.2.2 := by
  intro q hq
  rcases List.mem_cons.mp hq with e | hq
  · rw [e]; exact h1
  · rw [List.mem_singleton.mp hq]; exact h2
end AZ6
section AZ7
variable {p : Program} {l : Launch} {e : Env} {R : Room} {s : State} {m : MethodId} {args : Array Value} {below : List Frame} {meth : Method} {c : Code} {nL : Nat} {G : KG} {A : Nat → Prop} {Q : State → Prop} {cc : ByteArray} {own : String} {ret : Option FieldType} {nm : String} {kc ks : Nat}
variable {ad : Nat → Nat} {T : List TE} {mk : List (Nat × Nat)} {w0 : va_W} {pin : List (Nat × Value)}
variable {lv : ALv} {st : List Nat} {ev : AEv} {ca : ACa} {rl : ARl} {nx pc : Nat}
set_option maxHeartbeats 2000000 in
theorem s_bin (X : ZC p s m args meth c cc nL own G A ret nm) {i : Instr} {x y kx ky : Nat} {t : VT} {nr : ARl} (hdg : decode cc pc = .ok (i, 1)) (he : abinT i ev rl x y nx = some (kx, ky, t, nr)) (hx : (aty ev x).1 = kx) (hy : (aty ev y).1 = ky) (hf : afr (lv, y :: x :: st, ev, ca, rl, nx) = true)
    (k : AZ (ZF p l e R s m args below meth c nL G A Q kc ks) G ad T mk w0 pin (lv, nx :: st, (nx, t) :: ev, ca, nr ++ rl, nx + 1) (pc + 1)) : AZ (ZF p l e R s m args below meth c nL G A Q kc ks) G ad T mk w0 pin (lv, y :: x :: st, ev, ca, rl, nx) pc := by
  have hxn : x < nx := (afr_ok hf).2.2.1 x (List.mem_cons_of_mem _ List.mem_cons_self)
  have hyn : y < nx := (afr_ok hf).2.2.1 y List.mem_cons_self
  cases i with
  | ixor =>
    simp only [abinT, Option.some.injEq, Prod.mk.injEq] at he
    obtain ⟨rfl, rfl, rfl, rfl⟩ := he
    exact az_bin (op := bop .ixor) ⟨by decide, by decide⟩ (by rintro _ _ lw rest ws ⟨a, rfl⟩ ⟨b, rfl⟩ kz; exact z_ixor X hdg kz) hx hy hf (by rintro ν ws h ⟨a, ha⟩ ⟨b, hb⟩; rw [ha, hb]; exact ⟨vty_i0 _, fun q hq => by cases hq⟩) k
  | iushr =>
    simp only [abinT, Option.some.injEq, Prod.mk.injEq] at he
    obtain ⟨rfl, rfl, rfl, rfl⟩ := he
    exact az_bin (op := bop .iushr) ⟨by decide, by decide⟩ (by rintro _ _ lw rest ws ⟨a, rfl⟩ ⟨b, rfl⟩ kz; exact z_iushr X hdg rfl kz) hx hy hf (by rintro ν ws h ⟨a, ha⟩ ⟨b, hb⟩; rw [ha, hb]; exact ⟨vty_i0 _, fun q hq => by cases hq⟩) k
  | land =>
    simp only [abinT, Option.some.injEq, Prod.mk.injEq] at he
    obtain ⟨rfl, rfl, rfl, rfl⟩ := he
    exact az_bin (op := bop .land) ⟨by decide, by decide⟩ (by rintro _ _ lw rest ws ⟨a, rfl⟩ ⟨b, rfl⟩ kz; exact z_land X hdg kz) hx hy hf (by rintro ν ws h ⟨a, ha⟩ ⟨b, hb⟩; rw [ha, hb]; exact ⟨vty_l0 _, fun q hq => by cases hq⟩) k
  | lor =>
    simp only [abinT, Option.some.injEq, Prod.mk.injEq] at he
    obtain ⟨rfl, rfl, rfl, rfl⟩ := he
    exact az_bin (op := bop .lor) ⟨by decide, by decide⟩ (by rintro _ _ lw rest ws ⟨a, rfl⟩ ⟨b, rfl⟩ kz; exact z_lor X hdg kz) hx hy hf (by rintro ν ws h ⟨a, ha⟩ ⟨b, hb⟩; rw [ha, hb]; exact ⟨vty_l0 _, fun q hq => by cases hq⟩) k
  | lxor =>
    simp only [abinT, Option.some.injEq, Prod.mk.injEq] at he
    obtain ⟨rfl, rfl, rfl, rfl⟩ := he
    exact az_bin (op := bop .lxor) ⟨by decide, by decide⟩ (by rintro _ _ lw rest ws ⟨a, rfl⟩ ⟨b, rfl⟩ kz; exact z_lxor X hdg kz) hx hy hf (by rintro ν ws h ⟨a, ha⟩ ⟨b, hb⟩; rw [ha, hb]; exact ⟨vty_l0 _, fun q hq => by cases hq⟩) k
  | lshl =>
    simp only [abinT, Option.some.injEq, Prod.mk.injEq] at he
    obtain ⟨rfl, rfl, rfl, rfl⟩ := he
    exact az_bin (op := bop .lshl) ⟨by decide, by decide⟩ (by rintro _ _ lw rest ws ⟨a, rfl⟩ ⟨b, rfl⟩ kz; exact z_lshl X hdg rfl kz) hx hy hf (by rintro ν ws h ⟨a, ha⟩ ⟨b, hb⟩; rw [ha, hb]; exact ⟨vty_l0 _, fun q hq => by cases hq⟩) k
  | lushr =>
    simp only [abinT, Option.some.injEq, Prod.mk.injEq] at he
    obtain ⟨rfl, rfl, rfl, rfl⟩ := he
    exact az_bin (op := bop .lushr) ⟨by decide, by decide⟩ (by rintro _ _ lw rest ws ⟨a, rfl⟩ ⟨b, rfl⟩ kz; exact z_lushr X hdg rfl kz) hx hy hf (by rintro ν ws h ⟨a, ha⟩ ⟨b, hb⟩; rw [ha, hb]; exact ⟨vty_l0 _, fun q hq => by cases hq⟩) k
  | ladd =>
    simp only [abinT, Option.some.injEq, Prod.mk.injEq] at he
    obtain ⟨rfl, rfl, rfl, rfl⟩ := he
    exact az_bin (op := bop .ladd) ⟨by decide, by decide⟩ (by rintro _ _ lw rest ws ⟨a, rfl⟩ ⟨b, rfl⟩ kz; exact z_ladd X hdg kz) hx hy hf (by
      rintro ν ws h ⟨a, ha⟩ ⟨b, hb⟩
      have l1 := h.lo2 x
      have l2 := h.hi2 x
      have l3 := h.lo2 y
      have l4 := h.hi2 y
      rw [ha] at l1 l2
      rw [hb] at l3 l4
      have l1 : xlo ev rl x ≤ a.toInt := l1
      have l2 : a.toInt ≤ xhi ev rl x := l2
      have l3 : xlo ev rl y ≤ b.toInt := l3
      have l4 : b.toInt ≤ xhi ev rl y := l4
      refine ⟨?_, fun q hq => by cases hq⟩
      rw [ha, hb]
      exact ladd_ok l1 l2 l3 l4) k
  | lsub =>
    simp only [abinT, Option.some.injEq, Prod.mk.injEq] at he
    obtain ⟨rfl, rfl, rfl, rfl⟩ := he
    exact az_bin (op := bop .lsub) ⟨by decide, by decide⟩ (by rintro _ _ lw rest ws ⟨a, rfl⟩ ⟨b, rfl⟩ kz; exact z_lsub X hdg kz) hx hy hf (by
      rintro ν ws h ⟨a, ha⟩ ⟨b, hb⟩
      have l1 := h.lo2 x
      have l2 := h.hi2 x
      have l3 := h.lo2 y
      have l4 := h.hi2 y
      rw [ha] at l1 l2
      rw [hb] at l3 l4
      have l1 : xlo ev rl x ≤ a.toInt := l1
      have l2 : a.toInt ≤ xhi ev rl x := l2
      have l3 : xlo ev rl y ≤ b.toInt := l3
      have l4 : b.toInt ≤ xhi ev rl y := l4
      refine ⟨?_, fun q hq => by cases hq⟩
      rw [ha, hb]
      exact lsub_ok l1 l2 l3 l4) k
  | lmul =>
    simp only [abinT, Option.some.injEq, Prod.mk.injEq] at he
    obtain ⟨rfl, rfl, rfl, rfl⟩ := he
    exact az_bin (op := bop .lmul) ⟨by decide, by decide⟩ (by rintro _ _ lw rest ws ⟨a, rfl⟩ ⟨b, rfl⟩ kz; exact z_lmul X hdg kz) hx hy hf (by
      rintro ν ws h ⟨a, ha⟩ ⟨b, hb⟩
      have l1 := h.lo2 x
      have l2 := h.hi2 x
      have l3 := h.lo2 y
      have l4 := h.hi2 y
      rw [ha] at l1 l2
      rw [hb] at l3 l4
      have l1 : xlo ev rl x ≤ a.toInt := l1
      have l2 : a.toInt ≤ xhi ev rl x := l2
      have l3 : xlo ev rl y ≤ b.toInt := l3
      have l4 : b.toInt ≤ xhi ev rl y := l4
      refine ⟨?_, fun q hq => by cases hq⟩
      rw [ha, hb]
      exact lmul_ok l1 l2 l3 l4) k
  | iadd =>
    simp only [abinT, Option.some.injEq, Prod.mk.injEq] at he
    obtain ⟨rfl, rfl, rfl, rfl⟩ := he
    exact az_bin (op := bop .iadd) ⟨by decide, by decide⟩ (by rintro _ _ lw rest ws ⟨a, rfl⟩ ⟨b, rfl⟩ kz; exact z_iadd X hdg kz) hx hy hf (by
      rintro ν ws h ⟨a, ha⟩ ⟨b, hb⟩
      have l1 := h.lo2 x
      have l2 := h.hi2 x
      have l3 := h.lo2 y
      have l4 := h.hi2 y
      rw [ha] at l1 l2
      rw [hb] at l3 l4
      have l1 : xlo ev rl x ≤ a.toInt := l1
      have l2 : a.toInt ≤ xhi ev rl x := l2
      have l3 : xlo ev rl y ≤ b.toInt := l3
      have l4 : b.toInt ≤ xhi ev rl y := l4
      have key : fits32 (xlo ev rl x + xlo ev rl y) (xhi ev rl x + xhi ev rl y) = true → (a + b).toInt = a.toInt + b.toInt := by
        intro q
        unfold fits32 at q
        rw [Bool.and_eq_true, decide_eq_true_eq, decide_eq_true_eq] at q
        unfold iMin iMax at q
        exact tI_add rfl rfl (by omega)
      refine ⟨?_, ?_⟩
      · rw [ha, hb]
        exact fitI_ok (fun q => by rw [key q]; omega)
      · refine mnz_ok (fun q => ?_)
        have kk := key q
        have en : nup ν nx (bop .iadd (ν x) (ν y)) nx = .int (a + b) := by rw [nup_eq, ha, hb]; rfl
        have ex : nup ν nx (bop .iadd (ν x) (ν y)) x = .int a := by rw [nup_ne hxn, ha]
        have ey : nup ν nx (bop .iadd (ν x) (ν y)) y = .int b := by rw [nup_ne hyn, hb]
        have vn : vI (nup ν nx (bop .iadd (ν x) (ν y)) nx) = a.toInt + b.toInt := by rw [en]; exact kk
        have vx : vI (nup ν nx (bop .iadd (ν x) (ν y)) x) = a.toInt := by rw [ex]; rfl
        have vy : vI (nup ν nx (bop .iadd (ν x) (ν y)) y) = b.toInt := by rw [ey]; rfl
        exact mnz_app (mnz_app (mnz_ok (fun q2 => by
          have q2 := of_decide_eq_true q2
          exact rel2 (by rw [vn, vx]; omega) (by rw [vn, vx]; omega))) (mnz_ok (fun q2 => by
          have q2 := of_decide_eq_true q2
          exact rel2 (by rw [vn, vy]; omega) (by rw [vn, vy]; omega)))) (rel22 (by rw [vn, vx]; omega) (by rw [vn, vy]; omega))) k
  | isub =>
    simp only [abinT, Option.some.injEq, Prod.mk.injEq] at he
    obtain ⟨rfl, rfl, rfl, rfl⟩ := he
    exact az_bin (op := bop .isub) ⟨by decide, by decide⟩ (by rintro _ _ lw rest ws ⟨a, rfl⟩ ⟨b, rfl⟩ kz; exact z_isub X hdg kz) hx hy hf (by
      rintro ν ws h ⟨a, ha⟩ ⟨b, hb⟩
      have l1 := h.lo2 x
      have l2 := h.hi2 x
      have l3 := h.lo2 y
      have l4 := h.hi2 y
      rw [ha] at l1 l2
      rw [hb] at l3 l4
      have l1 : xlo ev rl x ≤ a.toInt := l1
      have l2 : a.toInt ≤ xhi ev rl x := l2
      have l3 : xlo ev rl y ≤ b.toInt := l3
      have l4 : b.toInt ≤ xhi ev rl y := l4
      have l5 : sublo ev rl x y ≤ a.toInt - b.toInt := by
        unfold sublo
        cases e9 : adif ev rl x 3 y with
        | none => show xlo ev rl x - xhi ev rl y ≤ _; omega
        | some d =>
          have h9 := h.dif e9
          rw [ha, hb] at h9
          have h9 : b.toInt - a.toInt ≤ d := h9
          show max (xlo ev rl x - xhi ev rl y) (-d) ≤ _
          omega
      have l6 : a.toInt - b.toInt ≤ subhi ev rl x y := by
        unfold subhi
        cases e9 : adif ev rl y 3 x with
        | none => show _ ≤ xhi ev rl x - xlo ev rl y; omega
        | some d =>
          have h9 := h.dif e9
          rw [ha, hb] at h9
          have h9 : a.toInt - b.toInt ≤ d := h9
          show _ ≤ min (xhi ev rl x - xlo ev rl y) d
          omega
      have key : fits32 (sublo ev rl x y) (subhi ev rl x y) = true → (a - b).toInt = a.toInt - b.toInt := by
        intro q
        unfold fits32 at q
        rw [Bool.and_eq_true, decide_eq_true_eq, decide_eq_true_eq] at q
        unfold iMin iMax at q
        exact tI_sub rfl rfl (by omega)
      refine ⟨?_, ?_⟩
      · rw [ha, hb]
        exact fitI_ok (fun q => by rw [key q]; omega)
      · refine mnz_ok (fun q => ?_)
        have kk := key q
        have en : nup ν nx (bop .isub (ν x) (ν y)) nx = .int (a - b) := by rw [nup_eq, ha, hb]; rfl
        have ex : nup ν nx (bop .isub (ν x) (ν y)) x = .int a := by rw [nup_ne hxn, ha]
        have ey : nup ν nx (bop .isub (ν x) (ν y)) y = .int b := by rw [nup_ne hyn, hb]
        have vn : vI (nup ν nx (bop .isub (ν x) (ν y)) nx) = a.toInt - b.toInt := by rw [en]; exact kk
        have vx : vI (nup ν nx (bop .isub (ν x) (ν y)) x) = a.toInt := by rw [ex]; rfl
        have vy : vI (nup ν nx (bop .isub (ν x) (ν y)) y) = b.toInt := by rw [ey]; rfl
        exact mnz_ok (fun q2 => by
          have q2 := of_decide_eq_true q2
          exact rel2 (by rw [vn, vx]; omega) (by rw [vn, vx]; omega))) k
  | imul =>
    simp only [abinT, Option.some.injEq, Prod.mk.injEq] at he
    obtain ⟨rfl, rfl, rfl, rfl⟩ := he
    exact az_bin (op := bop .imul) ⟨by decide, by decide⟩ (by rintro _ _ lw rest ws ⟨a, rfl⟩ ⟨b, rfl⟩ kz; exact z_imul X hdg kz) hx hy hf (by
      rintro ν ws h ⟨a, ha⟩ ⟨b, hb⟩
      have l1 := h.lo2 x
      have l2 := h.hi2 x
      have l3 := h.lo2 y
      have l4 := h.hi2 y
      rw [ha] at l1 l2
      rw [hb] at l3 l4
      have l1 : xlo ev rl x ≤ a.toInt := l1
      have l2 : a.toInt ≤ xhi ev rl x := l2
      have l3 : xlo ev rl y ≤ b.toInt := l3
      have l4 : b.toInt ≤ xhi ev rl y := l4
      refine ⟨?_, fun q hq => by cases hq⟩
      rw [ha, hb]
      show vty ad (bif decide (0 ≤ xlo ev rl x) && decide (0 ≤ xlo ev rl y) then fitI (xlo ev rl x * xlo ev rl y) (xhi ev rl x * xhi ev rl y) else tI0) (.int (a * b))
      cases e : (decide (0 ≤ xlo ev rl x) && decide (0 ≤ xlo ev rl y)) with
      | false => exact vty_i0 _
      | true =>
        rw [Bool.and_eq_true, decide_eq_true_eq, decide_eq_true_eq] at e
        have g1 : xlo ev rl x * xlo ev rl y ≤ a.toInt * b.toInt := Int.mul_le_mul l1 l3 e.2 (by omega)
        have g2 : a.toInt * b.toInt ≤ xhi ev rl x * xhi ev rl y := Int.mul_le_mul l2 l4 (by omega) (by omega)
        refine fitI_ok (fun q => ?_)
        unfold fits32 at q
        rw [Bool.and_eq_true, decide_eq_true_eq, decide_eq_true_eq] at q
        unfold iMin iMax at q
        rw [tI_mul rfl rfl (by omega)]
        exact ⟨g1, g2⟩) k
  | iand =>
    simp only [abinT, Option.some.injEq, Prod.mk.injEq] at he
    obtain ⟨rfl, rfl, rfl, rfl⟩ := he
    exact az_bin (op := bop .iand) ⟨by decide, by decide⟩ (by rintro _ _ lw rest ws ⟨a, rfl⟩ ⟨b, rfl⟩ kz; exact z_iand X hdg kz) hx hy hf (by
      rintro ν ws h ⟨a, ha⟩ ⟨b, hb⟩
      have l1 := h.lo2 x
      have l2 := h.hi2 x
      have l3 := h.lo2 y
      have l4 := h.hi2 y
      rw [ha] at l1 l2
      rw [hb] at l3 l4
      have l1 : xlo ev rl x ≤ a.toInt := l1
      have l2 : a.toInt ≤ xhi ev rl x := l2
      have l3 : xlo ev rl y ≤ b.toInt := l3
      have l4 : b.toInt ≤ xhi ev rl y := l4
      refine ⟨?_, fun q hq => by cases hq⟩
      rw [ha, hb]
      show vty ad (bif decide (0 ≤ xlo ev rl y) then (0, 0, xhi ev rl y) else bif decide (0 ≤ xlo ev rl x) then (0, 0, xhi ev rl x) else tI0) (.int (a &&& b))
      cases e : decide (0 ≤ xlo ev rl y) with
      | true =>
        have e := of_decide_eq_true e
        have g := and_bd (x := a) (y := b) (by omega)
        exact vty_i g.1 (by omega)
      | false =>
        cases e2 : decide (0 ≤ xlo ev rl x) with
        | true =>
          have e2 := of_decide_eq_true e2
          have g := and_bd (x := b) (y := a) (by omega)
          rw [Int32.and_comm] at g
          exact vty_i g.1 (by omega)
        | false => exact vty_i0 _) k
  | ior =>
    simp only [abinT, Option.some.injEq, Prod.mk.injEq] at he
    obtain ⟨rfl, rfl, rfl, rfl⟩ := he
    exact az_bin (op := bop .ior) ⟨by decide, by decide⟩ (by rintro _ _ lw rest ws ⟨a, rfl⟩ ⟨b, rfl⟩ kz; exact z_ior X hdg kz) hx hy hf (by
      rintro ν ws h ⟨a, ha⟩ ⟨b, hb⟩
      have l1 := h.lo2 x
      have l2 := h.hi2 x
      have l3 := h.lo2 y
      have l4 := h.hi2 y
      rw [ha] at l1 l2
      rw [hb] at l3 l4
      have l1 : xlo ev rl x ≤ a.toInt := l1
      have l2 : a.toInt ≤ xhi ev rl x := l2
      have l3 : xlo ev rl y ≤ b.toInt := l3
      have l4 : b.toInt ≤ xhi ev rl y := l4
      refine ⟨?_, fun q hq => by cases hq⟩
      rw [ha, hb]
      show vty ad (orT (xlo ev rl x) (xhi ev rl x) (xlo ev rl y) (xhi ev rl y)) (.int (a ||| b))
      unfold orT
      cases e : (decide (0 ≤ xlo ev rl x) && decide (0 ≤ xlo ev rl y)) with
      | false => exact vty_i0 _
      | true =>
        rw [Bool.and_eq_true, decide_eq_true_eq, decide_eq_true_eq] at e
        have hm : max (xhi ev rl x).toNat (xhi ev rl y).toNat < 2 ^ (Nat.log2 (max (xhi ev rl x).toNat (xhi ev rl y).toNat) + 1) := Nat.lt_log2_self
        have g := or_bd (x := a) (y := b) (k := Nat.log2 (max (xhi ev rl x).toNat (xhi ev rl y).toNat) + 1) (by omega) (by omega) (by omega) (by omega)
        exact vty_i g.1 (by omega)) k
  | ishl =>
    simp only [abinT, Option.some.injEq, Prod.mk.injEq] at he
    obtain ⟨rfl, rfl, rfl, rfl⟩ := he
    exact az_bin (op := bop .ishl) ⟨by decide, by decide⟩ (by rintro _ _ lw rest ws ⟨a, rfl⟩ ⟨b, rfl⟩ kz; exact z_ishl X hdg kz) hx hy hf (by
      rintro ν ws h ⟨a, ha⟩ ⟨b, hb⟩
      have l1 := h.lo2 x
      have l2 := h.hi2 x
      have l3 := h.lo2 y
      have l4 := h.hi2 y
      rw [ha] at l1 l2
      rw [hb] at l3 l4
      have l1 : xlo ev rl x ≤ a.toInt := l1
      have l2 : a.toInt ≤ xhi ev rl x := l2
      have l3 : xlo ev rl y ≤ b.toInt := l3
      have l4 : b.toInt ≤ xhi ev rl y := l4
      refine ⟨?_, fun q hq => by cases hq⟩
      rw [ha, hb]
      show vty ad (shlT (xlo ev rl x) (xhi ev rl x) (xlo ev rl y) (xhi ev rl y)) (.int (a <<< (b &&& 31)))
      unfold shlT
      cases e : (decide (0 ≤ xlo ev rl x) && (decide (0 ≤ xlo ev rl y) && decide (xhi ev rl y ≤ 30))) with
      | false => exact vty_i0 _
      | true =>
        rw [Bool.and_eq_true, Bool.and_eq_true, decide_eq_true_eq, decide_eq_true_eq, decide_eq_true_eq] at e
        obtain ⟨z1, z2, z3⟩ := e
        have p1 : ((2 ^ (xlo ev rl y).toNat : Nat) : Int) ≤ ((2 ^ b.toInt.toNat : Nat) : Int) := Int.ofNat_le.mpr (Nat.pow_le_pow_right (by decide) (by omega))
        have p2 : ((2 ^ b.toInt.toNat : Nat) : Int) ≤ ((2 ^ (xhi ev rl y).toNat : Nat) : Int) := Int.ofNat_le.mpr (Nat.pow_le_pow_right (by decide) (by omega))
        have p0 : (0 : Int) ≤ ((2 ^ (xlo ev rl y).toNat : Nat) : Int) := Int.natCast_nonneg _
        have g1 : xlo ev rl x * ((2 ^ (xlo ev rl y).toNat : Nat) : Int) ≤ a.toInt * ((2 ^ b.toInt.toNat : Nat) : Int) := Int.mul_le_mul l1 p1 p0 (by omega)
        have g2 : a.toInt * ((2 ^ b.toInt.toNat : Nat) : Int) ≤ xhi ev rl x * ((2 ^ (xhi ev rl y).toNat : Nat) : Int) := Int.mul_le_mul l2 p2 (by omega) (by omega)
        refine fitI_ok (fun q => ?_)
        unfold fits32 at q
        rw [Bool.and_eq_true, decide_eq_true_eq, decide_eq_true_eq] at q
        unfold iMin iMax at q
        rw [shl_eq (by omega) (by omega) (by omega) (by omega)]
        exact ⟨g1, g2⟩) k
  | ishr =>
    simp only [abinT, Option.some.injEq, Prod.mk.injEq] at he
    obtain ⟨rfl, rfl, rfl, rfl⟩ := he
    exact az_bin (op := bop .ishr) ⟨by decide, by decide⟩ (by rintro _ _ lw rest ws ⟨a, rfl⟩ ⟨b, rfl⟩ kz; exact z_ishr X hdg kz) hx hy hf (by
      rintro ν ws h ⟨a, ha⟩ ⟨b, hb⟩
      have l1 := h.lo2 x
      have l2 := h.hi2 x
      have l3 := h.lo2 y
      have l4 := h.hi2 y
      rw [ha] at l1 l2
      rw [hb] at l3 l4
      have l1 : xlo ev rl x ≤ a.toInt := l1
      have l2 : a.toInt ≤ xhi ev rl x := l2
      have l3 : xlo ev rl y ≤ b.toInt := l3
      have l4 : b.toInt ≤ xhi ev rl y := l4
      refine ⟨?_, fun q hq => by cases hq⟩
      rw [ha, hb]
      show vty ad (shrT (xlo ev rl x) (xhi ev rl x) (xlo ev rl y) (xhi ev rl y)) (.int (a >>> (b &&& 31)))
      unfold shrT
      cases e : (decide (0 ≤ xlo ev rl x) && (decide (0 ≤ xlo ev rl y) && decide (xhi ev rl y ≤ 31))) with
      | false => exact vty_i0 _
      | true =>
        rw [Bool.and_eq_true, Bool.and_eq_true, decide_eq_true_eq, decide_eq_true_eq, decide_eq_true_eq] at e
        obtain ⟨z1, z2, z3⟩ := e
        have g := shr_bd (x := a) (y := b) (ly := (xlo ev rl y).toNat) (by omega) (by omega) (by omega)
        have p3 : (0 : Int) < ((2 ^ (xlo ev rl y).toNat : Nat) : Int) := Int.natCast_pos.mpr (Nat.pow_pos (by decide))
        exact vty_i g.1 (Int.le_trans g.2 (Int.ediv_le_ediv p3 l2))) k
  | idiv =>
    simp only [abinT] at he
    cases hz : anz ev rl y with
    | false => rw [hz] at he; cases he
    | true =>
      rw [hz] at he
      simp only [cond_true, Option.some.injEq, Prod.mk.injEq] at he
      obtain ⟨rfl, rfl, rfl, rfl⟩ := he
      exact az_binR (RR := fun _ b => vI b ≠ 0) (op := bop .idiv) ⟨by decide, by decide⟩ (by rintro _ _ lw rest ws ⟨a, rfl⟩ ⟨b, rfl⟩ hz2 kz; exact z_idiv X hdg (fun e0 => hz2 (by rw [e0]; rfl)) kz) hx hy hf (by
        rintro ν ws h ⟨a, ha⟩ ⟨b, hb⟩
        refine ⟨h.nz hz, ?_, fun q hq => by cases hq⟩
        have l1 := h.lo2 x
        have l2 := h.hi2 x
        have l3 := h.lo2 y
        have l4 := h.hi2 y
        rw [ha] at l1 l2
        rw [hb] at l3 l4
        have l1 : xlo ev rl x ≤ a.toInt := l1
        have l2 : a.toInt ≤ xhi ev rl x := l2
        have l3 : xlo ev rl y ≤ b.toInt := l3
        have l4 : b.toInt ≤ xhi ev rl y := l4
        rw [ha, hb]
        exact divT_ok l1 l2 l3 l4) k
  | irem =>
    simp only [abinT] at he
    cases hz : anz ev rl y with
    | false => rw [hz] at he; cases he
    | true =>
      rw [hz] at he
      simp only [cond_true, Option.some.injEq, Prod.mk.injEq] at he
      obtain ⟨rfl, rfl, rfl, rfl⟩ := he
      exact az_binR (RR := fun _ b => vI b ≠ 0) (op := bop .irem) ⟨by decide, by decide⟩ (by rintro _ _ lw rest ws ⟨a, rfl⟩ ⟨b, rfl⟩ hz2 kz; exact z_irem X hdg (fun e0 => hz2 (by rw [e0]; rfl)) kz) hx hy hf (by
        rintro ν ws h ⟨a, ha⟩ ⟨b, hb⟩
        refine ⟨h.nz hz, ?_, fun q hq => by cases hq⟩
        have l1 := h.lo2 x
        have l2 := h.hi2 x
        have l3 := h.lo2 y
        have l4 := h.hi2 y
        rw [ha] at l1 l2
        rw [hb] at l3 l4
        have l1 : xlo ev rl x ≤ a.toInt := l1
        have l2 : a.toInt ≤ xhi ev rl x := l2
        have l3 : xlo ev rl y ≤ b.toInt := l3
        have l4 : b.toInt ≤ xhi ev rl y := l4
        rw [ha, hb]
        exact remT_ok l1 l2 l3 l4) k
  | ldiv =>
    simp only [abinT] at he
    cases hz : anz ev rl y with
    | false => rw [hz] at he; cases he
    | true =>
      rw [hz] at he
      simp only [cond_true, Option.some.injEq, Prod.mk.injEq] at he
      obtain ⟨rfl, rfl, rfl, rfl⟩ := he
      exact az_binR (RR := fun _ b => vI b ≠ 0) (op := bop .ldiv) ⟨by decide, by decide⟩ (by rintro _ _ lw rest ws ⟨a, rfl⟩ ⟨b, rfl⟩ hz2 kz; exact z_ldiv X hdg (fun e0 => hz2 (by rw [e0]; rfl)) kz) hx hy hf (by rintro ν ws h ⟨a, ha⟩ ⟨b, hb⟩; refine ⟨h.nz hz, ?_⟩; rw [ha, hb]; exact ⟨vty_l0 _, fun q hq => by cases hq⟩) k
  | lrem =>
    simp only [abinT] at he
    cases hz : anz ev rl y with
    | false => rw [hz] at he; cases he
    | true =>
      rw [hz] at he
      simp only [cond_true, Option.some.injEq, Prod.mk.injEq] at he
      obtain ⟨rfl, rfl, rfl, rfl⟩ := he
      exact az_binR (RR := fun _ b => vI b ≠ 0) (op := bop .lrem) ⟨by decide, by decide⟩ (by rintro _ _ lw rest ws ⟨a, rfl⟩ ⟨b, rfl⟩ hz2 kz; exact z_lrem X hdg (fun e0 => hz2 (by rw [e0]; rfl)) kz) hx hy hf (by rintro ν ws h ⟨a, ha⟩ ⟨b, hb⟩; refine ⟨h.nz hz, ?_⟩; rw [ha, hb]; exact ⟨vty_l0 _, fun q hq => by cases hq⟩) k
  | _ => exact absurd he (by simp [abinT])
theorem s_un (X : ZC p s m args meth c cc nL own G A ret nm) {i : Instr} {x kx : Nat} {t : VT} {nr : ARl} (hdg : decode cc pc = .ok (i, 1)) (he : aunT i ev rl x nx = some (kx, t, nr)) (hx : (aty ev x).1 = kx) (hf : afr (lv, x :: st, ev, ca, rl, nx) = true)
    (k : AZ (ZF p l e R s m args below meth c nL G A Q kc ks) G ad T mk w0 pin (lv, nx :: st, (nx, t) :: ev, ca, nr ++ rl, nx + 1) (pc + 1)) : AZ (ZF p l e R s m args below meth c nL G A Q kc ks) G ad T mk w0 pin (lv, x :: st, ev, ca, rl, nx) pc := by
  have hxn : x < nx := (afr_ok hf).2.2.1 x List.mem_cons_self
  cases i with
  | l2i =>
    simp only [aunT, Option.some.injEq, Prod.mk.injEq] at he
    obtain ⟨rfl, rfl, rfl⟩ := he
    exact az_un (op := uop .l2i) (by decide) (by rintro _ lw rest ws ⟨a, rfl⟩ kz; exact z_l2i X hdg rfl kz) hx hf (by rintro ν ws h ⟨a, ha⟩; rw [ha]; exact ⟨vty_i0 _, fun q hq => by cases hq⟩) k
  | i2b =>
    simp only [aunT, Option.some.injEq, Prod.mk.injEq] at he
    obtain ⟨rfl, rfl, rfl⟩ := he
    exact az_un (op := uop .i2b) (by decide) (by rintro _ lw rest ws ⟨a, rfl⟩ kz; exact z_i2b X hdg rfl kz) hx hf (by rintro ν ws h ⟨a, ha⟩; rw [ha]; exact ⟨vty_i0 _, fun q hq => by cases hq⟩) k
  | i2s =>
    simp only [aunT, Option.some.injEq, Prod.mk.injEq] at he
    obtain ⟨rfl, rfl, rfl⟩ := he
    exact az_un (op := uop .i2s) (by decide) (by rintro _ lw rest ws ⟨a, rfl⟩ kz; exact z_i2s X hdg rfl kz) hx hf (by rintro ν ws h ⟨a, ha⟩; rw [ha]; exact ⟨vty_i0 _, fun q hq => by cases hq⟩) k
  | ineg =>
    simp only [aunT, Option.some.injEq, Prod.mk.injEq] at he
    obtain ⟨rfl, rfl, rfl⟩ := he
    exact az_un (op := uop .ineg) (by decide) (by rintro _ lw rest ws ⟨a, rfl⟩ kz; exact z_ineg X hdg kz) hx hf (by
      rintro ν ws h ⟨a, ha⟩
      have l1 := h.lo2 x
      have l2 := h.hi2 x
      rw [ha] at l1 l2
      have l1 : xlo ev rl x ≤ a.toInt := l1
      have l2 : a.toInt ≤ xhi ev rl x := l2
      rw [ha]
      refine ⟨fitI_ok (fun q => ?_), fun q hq => by cases hq⟩
      unfold fits32 at q
      rw [Bool.and_eq_true, decide_eq_true_eq, decide_eq_true_eq] at q
      unfold iMin iMax at q
      rw [tI_neg rfl (by omega)]
      omega) k
  | lneg =>
    simp only [aunT, Option.some.injEq, Prod.mk.injEq] at he
    obtain ⟨rfl, rfl, rfl⟩ := he
    exact az_un (op := uop .lneg) (by decide) (by rintro _ lw rest ws ⟨a, rfl⟩ kz; exact z_lneg X hdg kz) hx hf (by
      rintro ν ws h ⟨a, ha⟩
      have l1 := h.lo2 x
      have l2 := h.hi2 x
      rw [ha] at l1 l2
      have l1 : xlo ev rl x ≤ a.toInt := l1
      have l2 : a.toInt ≤ xhi ev rl x := l2
      rw [ha]
      refine ⟨?_, fun q hq => by cases hq⟩
      show vty ad (negL (xlo ev rl x) (xhi ev rl x)) (.long (-a))
      unfold negL
      cases e : decide (lMin < xlo ev rl x) with
      | false =>
        cases e3 : decide (xhi ev rl x = lMin) with
        | false => exact vty_l0 _
        | true =>
          have e3 := of_decide_eq_true e3
          have h9 := i64_lo a
          have e4 : a.toInt = lMin := by omega
          have e5 : a = Int64.minValue := Int64.toInt_inj.mp (by rw [e4]; rfl)
          rw [e5]
          exact vty_l (by decide) (by decide)
      | true =>
        have e := of_decide_eq_true e
        unfold lMin at e
        have h9 := i64_hi a
        unfold lMax at h9
        have e2 : (-a).toInt = -a.toInt := tJ_neg rfl (by omega)
        exact vty_l (by rw [e2]; omega) (by rw [e2]; omega)) k
  | i2l =>
    simp only [aunT, Option.some.injEq, Prod.mk.injEq] at he
    obtain ⟨rfl, rfl, rfl⟩ := he
    exact az_un (op := uop .i2l) (by decide) (by rintro _ lw rest ws ⟨a, rfl⟩ kz; exact z_i2l X hdg rfl kz) hx hf (by
      rintro ν ws h ⟨a, ha⟩
      have l1 := h.lo2 x
      have l2 := h.hi2 x
      rw [ha] at l1 l2
      have e1 : a.toInt64.toInt = a.toInt := Int32.toInt_toInt64 a
      have l1 : xlo ev rl x ≤ a.toInt := l1
      have l2 : a.toInt ≤ xhi ev rl x := l2
      have vn : vI (nup ν nx (uop .i2l (ν x)) nx) = a.toInt := by rw [nup_eq, ha]; exact e1
      have vx : vI (nup ν nx (uop .i2l (ν x)) x) = a.toInt := by rw [nup_ne hxn, ha]; rfl
      refine ⟨?_, fun q hq => ?_⟩
      · rw [ha]
        exact vty_l (by rw [e1]; exact l1) (by rw [e1]; exact l2)
      · rcases List.mem_cons.mp hq with e | hq
        · rw [e]
          show vI (nup ν nx _ nx) ≤ vI (nup ν nx _ x) + 0
          rw [vn, vx]; omega
        · rw [List.mem_singleton.mp hq]
          show vI (nup ν nx _ x) ≤ vI (nup ν nx _ nx) + 0
          rw [vn, vx]; omega) k
  | _ => exact absurd he (by simp [aunT])
end AZ7
end
section
/-! one instruction, checked; K: what is to hold behind it -/
abbrev KT : Type := Nat → AS → Bool
abbrev CAL : Type := Nat × Nat × Nat × CE
noncomputable def pId (ev : AEv) (i k : Nat) : Bool := Nat.beq (aty ev i).1 k
theorem pId_ok {ev : AEv} {i k : Nat} (h : pId ev i k = true) : (aty ev i).1 = k := Nat.eq_of_beq_eq_true h
def sCon (K : KT) (pc len : Nat) (n : Int) (lv : ALv) (st : List Nat) (ev : AEv) (ca : ACa) (rl : ARl) (nx : Nat) : Bool := K (pc + len) (lv, nx :: st, (nx, (0, n, n)) :: ev, ca, rl, nx + 1)
noncomputable def sLoad (K : KT) (pc len k kx : Nat) (lv : ALv) (st : List Nat) (ev : AEv) (ca : ACa) (rl : ARl) (nx : Nat) : Bool := match alv lv k with
  | some x => pId ev x kx && K (pc + len) (lv, x :: st, ev, ca, rl, nx)
  | none => false
noncomputable def sStore (nL : Nat) (K : KT) (pc len k kx : Nat) (lv : ALv) (st : List Nat) (ev : AEv) (ca : ACa) (rl : ARl) (nx : Nat) : Bool := match st with
  | x :: st => pId ev x kx && (Nat.blt (bif Nat.beq kx 1 then k + 1 else k) nL && K (pc + len) (aset k x (Nat.beq kx 1) lv, st, ev, ca, rl, nx))
  | [] => false
noncomputable def sBin (K : KT) (pc : Nat) (i : Instr) (lv : ALv) (st : List Nat) (ev : AEv) (ca : ACa) (rl : ARl) (nx : Nat) : Bool := match st with
  | y :: x :: st => match abinT i ev rl x y nx with
    | some t => pId ev x t.1 && (pId ev y t.2.1 && K (pc + 1) (lv, nx :: st, (nx, t.2.2.1) :: ev, ca, t.2.2.2 ++ rl, nx + 1))
    | none => false
  | _ => false
noncomputable def sUn (K : KT) (pc : Nat) (i : Instr) (lv : ALv) (st : List Nat) (ev : AEv) (ca : ACa) (rl : ARl) (nx : Nat) : Bool := match st with
  | x :: st => match aunT i ev rl x nx with
    | some t => pId ev x t.1 && K (pc + 1) (lv, nx :: st, (nx, t.2.1) :: ev, ca, t.2.2 ++ rl, nx + 1)
    | none => false
  | _ => false
noncomputable def sInc (nL : Nat) (K : KT) (pc k : Nat) (n : Int) (lv : ALv) (st : List Nat) (ev : AEv) (ca : ACa) (rl : ARl) (nx : Nat) : Bool := match alv lv k with
  | some x => pId ev x 0 && (decide (-32768 ≤ n) && (decide (n ≤ 32767) && (Nat.blt k nL && K (pc + 3) (aset k nx false lv, st, (nx, fitI (xlo ev rl x + n) (xhi ev rl x + n)) :: ev, ca, mnz (fits32 (xlo ev rl x + n) (xhi ev rl x + n)) [(nx, x, n), (x, nx, -n)] ++ rl, nx + 1))))
  | none => false
noncomputable def p02 (ev : AEv) (i : Nat) : Bool := pId ev i 0 || pId ev i 2
noncomputable def sPop (K : KT) (pc : Nat) (lv : ALv) (st : List Nat) (ev : AEv) (ca : ACa) (rl : ARl) (nx : Nat) : Bool := match st with
  | x :: st => p02 ev x && K (pc + 1) (lv, st, ev, ca, rl, nx)
  | _ => false
noncomputable def sDup (K : KT) (pc : Nat) (lv : ALv) (st : List Nat) (ev : AEv) (ca : ACa) (rl : ARl) (nx : Nat) : Bool := match st with
  | x :: st => p02 ev x && K (pc + 1) (lv, x :: x :: st, ev, ca, rl, nx)
  | _ => false
noncomputable def sDup2 (K : KT) (pc : Nat) (lv : ALv) (st : List Nat) (ev : AEv) (ca : ACa) (rl : ARl) (nx : Nat) : Bool := match st with
  | x :: y :: st => p02 ev x && (p02 ev y && K (pc + 1) (lv, x :: y :: x :: y :: st, ev, ca, rl, nx))
  | _ => false
def fnd3 : List (Nat × Nat × Nat) → Nat → Option (Nat × Nat)
  | [], _ => none
  | q :: l, i => bif Nat.beq q.1 i then some q.2 else fnd3 l i
theorem fnd3_mem : ∀ (l : List (Nat × Nat × Nat)) (i : Nat) (q : Nat × Nat), fnd3 l i = some q → (i, q) ∈ l
  | [], i, q, h => by cases h
  | p :: l, i, q, h => by
    unfold fnd3 at h
    cases hb : Nat.beq p.1 i with
    | true =>
      rw [hb] at h
      cases h
      have e : p.1 = i := Nat.eq_of_beq_eq_true hb
      subst e
      exact List.mem_cons_self
    | false =>
      rw [hb] at h
      exact List.mem_cons_of_mem _ (fnd3_mem l i q h)
def fnd4 : List (Nat × Nat × Nat × Nat) → Nat → Option (Nat × Nat × Nat)
  | [], _ => none
  | q :: l, i => bif Nat.beq q.1 i then some q.2 else fnd4 l i
theorem fnd4_mem : ∀ (l : List (Nat × Nat × Nat × Nat)) (i : Nat) (q : Nat × Nat × Nat), fnd4 l i = some q → (i, q) ∈ l
  | [], i, q, h => by cases h
  | p :: l, i, q, h => by
    unfold fnd4 at h
    cases hb : Nat.beq p.1 i with
    | true =>
      rw [hb] at h
      cases h
      have e : p.1 = i := Nat.eq_of_beq_eq_true hb
      subst e
      exact List.mem_cons_self
    | false =>
      rw [hb] at h
      exact List.mem_cons_of_mem _ (fnd4_mem l i q h)
def fndC : List (Nat × Int) → Nat → Option Int
  | [], _ => none
  | q :: l, i => bif Nat.beq q.1 i then some q.2 else fndC l i
theorem fndC_mem : ∀ (l : List (Nat × Int)) (i : Nat) (q : Int), fndC l i = some q → (i, q) ∈ l
  | [], i, q, h => by cases h
  | p :: l, i, q, h => by
    unfold fndC at h
    cases hb : Nat.beq p.1 i with
    | true =>
      rw [hb] at h
      cases h
      have e : p.1 = i := Nat.eq_of_beq_eq_true hb
      subst e
      exact List.mem_cons_self
    | false =>
      rw [hb] at h
      exact List.mem_cons_of_mem _ (fndC_mem l i q h)
def sLdc (cst : List (Nat × Int)) (K : KT) (pc len idx : Nat) (lv : ALv) (st : List Nat) (ev : AEv) (ca : ACa) (rl : ARl) (nx : Nat) : Bool := match fndC cst idx with
  | some n => K (pc + len) (lv, nx :: st, (nx, (0, n, n)) :: ev, ca, rl, nx + 1)
  | none => false
def sLdcL (cstl : List (Nat × Int)) (K : KT) (pc idx : Nat) (lv : ALv) (st : List Nat) (ev : AEv) (ca : ACa) (rl : ARl) (nx : Nat) : Bool := match fndC cstl idx with
  | some n => K (pc + 3) (lv, nx :: st, (nx, (1, n, n)) :: ev, ca, rl, nx + 1)
  | none => false
noncomputable def sGet (T : List TE) (fld : List (Nat × Nat × Nat)) (K : KT) (pc idx : Nat) (lv : ALv) (st : List Nat) (ev : AEv) (ca : ACa) (rl : ARl) (nx : Nat) : Bool := match fnd3 fld idx, st with
  | some q, r :: st => pId ev r 2 && (match T[(aty ev r).2.1.toNat]? with
    | some (.inl o) => Nat.beq o.1 q.1 && (match o.2[q.2]? with
      | some t => (match acaf ca (aty ev r).2.1.toNat q.2 with
        | some i => K (pc + 3) (lv, i :: st, ev, ca, rl, nx)
        | none => K (pc + 3) (lv, nx :: st, (nx, t) :: ev, ((aty ev r).2.1.toNat, q.2, nx) :: ca, rl, nx + 1))
      | none => false)
    | _ => false)
  | _, _ => false
def kOK (kd : Nat) (t : VT) : Bool := bif Nat.beq kd 1 then Nat.beq t.1 1 else Nat.beq t.1 0 && (bif Nat.beq kd 2 then decide (0 ≤ t.2.1) && decide (t.2.2 ≤ 1) else Nat.beq kd 0)
noncomputable def pputB (T : List TE) (ev : AEv) (rl : ARl) (ca : ACa) (x cell j : Nat) (t : VT) : Bool := T.all (fun te => match te with
  | .inr o => bif Nat.ble 2 o.2.2.1 && (Nat.beq (pcl o.2.2.1) cell && Nat.beq (pfl o.2.2.1) j) then Nat.beq t.1 0 && (match acaf ca cell j with | some q => (bif Nat.ble 2 (pkd o.2.2.1) then dle ev rl q x 0 else dle ev rl x q 0) | none => false) else true
  | .inl _ => true)
theorem pputB_ok {G : KG} {ad : Nat → Nat} {T : List TE} {mk : List (Nat × Nat)} {w0 : va_W} {pin : List (Nat × Value)} {lv : ALv} {st : List Nat} {ev : AEv} {ca : ACa} {rl : ARl} {nx x cell j k' n : Nat} {t t' : VT} {ν : Nat → Value} {ws : va_W} (h : pputB T ev rl ca x cell j t = true) (hk : AK G ad T mk w0 pin (lv, st, ev, ca, rl, nx) ν ws) (g1 : T[k']? = some (.inr (0, n, t'))) (g2 : 2 ≤ t'.1) (g3 : pcl t'.1 = cell) (g4 : pfl t'.1 = j) : t.1 = 0 ∧ ∃ o : Nat, fget ws cell j = some (ν o) ∧ pord t'.1 (vI (ν x)) (vI (ν o)) := by
  have h1 := List.all_eq_true.mp h _ (List.mem_of_getElem? g1)
  have e : (Nat.ble 2 t'.1 && (Nat.beq (pcl t'.1) cell && Nat.beq (pfl t'.1) j)) = true := by
    rw [Bool.and_eq_true, Bool.and_eq_true, g3, g4]
    exact ⟨Nat.ble_eq.mpr g2, Nat.beq_refl _, Nat.beq_refl _⟩
  have h1 : (bif (Nat.ble 2 t'.1 && (Nat.beq (pcl t'.1) cell && Nat.beq (pfl t'.1) j)) then Nat.beq t.1 0 && (match acaf ca cell j with | some q => (bif Nat.ble 2 (pkd t'.1) then dle ev rl q x 0 else dle ev rl x q 0) | none => false) else true) = true := h1
  rw [e] at h1
  obtain ⟨b1, b2⟩ := Bool.and_eq_true _ _ ▸ (show (Nat.beq t.1 0 && (match acaf ca cell j with | some q => (bif Nat.ble 2 (pkd t'.1) then dle ev rl q x 0 else dle ev rl x q 0) | none => false)) = true from h1)
  cases hc : acaf ca cell j with
  | none => rw [hc] at b2; cases b2
  | some q =>
    rw [hc] at b2
    refine ⟨Nat.eq_of_beq_eq_true b1, q, hk.2.2.1 _ (acaf_mem ca cell j q hc), ?_⟩
    cases e2 : Nat.ble 2 (pkd t'.1) with
    | true =>
      rw [e2] at b2
      have := hk.dl b2
      exact Or.inr ⟨Nat.le_of_ble_eq_true e2, by omega⟩
    | false =>
      rw [e2] at b2
      have := hk.dl b2
      refine Or.inl ⟨?_, by omega⟩
      rcases Nat.lt_or_ge (pkd t'.1) 2 with h9 | h9
      · omega
      · rw [Nat.ble_eq.mpr h9] at e2
        cases e2
/-- what an int array gives at an index, what it takes there -/
noncomputable def aldT (ev : AEv) (rl : ARl) (ca : ACa) (i kd : Nat) (t : VT) : VT := bif Nat.beq kd 0 then (bif Nat.beq t.1 1 then (bif decide (xlo ev rl i = xhi ev rl i) then (0, (KTY (xlo ev rl i).toNat).1, (KTY (xlo ev rl i).toNat).2) else atyA kd t) else bif Nat.ble 2 t.1 && Nat.ble (pkd t.1) 1 then (match acaf ca (pcl t.1) (pfl t.1) with
  | some o => bif pId ev o 0 && dle ev rl i o (-1) then (0, max t.2.1 ((pkd t.1 : Nat) : Int), t.2.2) else atyA kd t
  | none => atyA kd t) else atyA kd t) else atyA kd t
noncomputable def aldN (ev : AEv) (rl : ARl) (ca : ACa) (nx kd : Nat) (t : VT) : ARl := bif Nat.beq kd 0 && (Nat.ble 2 t.1 && Nat.ble 2 (pkd t.1)) then (match acaf ca (pcl t.1) (pfl t.1) with
  | some o => bif pId ev o 0 && (decide (1 ≤ xlo ev rl o) && Nat.blt o nx) then [(nx, o, -1)] else []
  | none => []) else []
noncomputable def astB (ev : AEv) (rl : ARl) (ca : ACa) (i v kd : Nat) (t : VT) : Bool := bif Nat.beq kd 0 then (bif Nat.beq t.1 1 then decide (xlo ev rl i = xhi ev rl i) && (decide ((KTY (xlo ev rl i).toNat).1 ≤ xlo ev rl v) && decide (xhi ev rl v ≤ (KTY (xlo ev rl i).toNat).2)) else bif Nat.ble 2 t.1 then (bif Nat.ble 2 (pkd t.1) then (decide (xlo ev rl v = 0) && decide (xhi ev rl v = 0)) || (match acaf ca (pcl t.1) (pfl t.1) with
  | some o => pId ev o 0 && dle ev rl v o (-1)
  | none => false) else (decide (((pkd t.1 : Nat) : Int) ≤ xlo ev rl v) || (match acaf ca (pcl t.1) (pfl t.1) with
  | some o => pId ev o 0 && dle ev rl o i 0
  | none => false))) else true) else true
noncomputable def sPut (T : List TE) (mk : List (Nat × Nat)) (put : List (Nat × Nat × Nat × Nat)) (K : KT) (pc idx : Nat) (lv : ALv) (st : List Nat) (ev : AEv) (ca : ACa) (rl : ARl) (nx : Nat) : Bool := match fnd4 put idx, st with
  | some q, x :: r :: st => pId ev r 2 && (match T[(aty ev r).2.1.toNat]? with
    | some (.inl o) => Nat.beq o.1 q.1 && (match o.2[q.2.1]? with
      | some t => kOK q.2.2 t && (vsub ev rl x t && (mkq mk (aty ev r).2.1.toNat q.2.1 && pputB T ev rl ca x (aty ev r).2.1.toNat q.2.1 t && K (pc + 3) (lv, st, ev, ((aty ev r).2.1.toNat, q.2.1, x) :: acut (aty ev r).2.1.toNat q.2.1 ca, rl, nx)))
      | none => false)
    | _ => false)
  | _, _ => false
noncomputable def sAld (T : List TE) (K : KT) (pc kd : Nat) (lv : ALv) (st : List Nat) (ev : AEv) (ca : ACa) (rl : ARl) (nx : Nat) : Bool := match st with
  | i :: a :: st => pId ev a 2 && (pId ev i 0 && (match T[(aty ev a).2.1.toNat]? with
    | some (.inr o) => Nat.beq o.1 kd && (ain ev rl i o.2.1 && K (pc + 1) (lv, nx :: st, (nx, aldT ev rl ca i kd o.2.2) :: ev, ca, aldN ev rl ca nx kd o.2.2 ++ rl, nx + 1))
    | _ => false))
  | _ => false
noncomputable def sAst (T : List TE) (mk : List (Nat × Nat)) (K : KT) (pc kd : Nat) (lv : ALv) (st : List Nat) (ev : AEv) (ca : ACa) (rl : ARl) (nx : Nat) : Bool := match st with
  | v :: i :: a :: st => pId ev a 2 && (pId ev i 0 && (match T[(aty ev a).2.1.toNat]? with
    | some (.inr o) => Nat.beq o.1 kd && (ain ev rl i o.2.1 && (vsub ev rl v (atyA kd o.2.2) && ((bif Nat.beq kd 2 then decide (0 ≤ o.2.2.2.1) && decide (o.2.2.2.2 ≤ 1) && Nat.beq o.2.2.1 0 else astB ev rl ca i v kd o.2.2) && (mk.any (fun q => Nat.beq q.1 (aty ev a).2.1.toNat && Nat.beq q.2 999) && K (pc + 1) (lv, st, ev, ca, rl, nx)))))
    | _ => false))
  | _ => false
noncomputable def sAld3 (T : List TE) (K : KT) (pc : Nat) (lv : ALv) (st : List Nat) (ev : AEv) (ca : ACa) (rl : ARl) (nx : Nat) : Bool := match st with
  | i :: a :: st => pId ev a 2 && (pId ev i 0 && (match T[(aty ev a).2.1.toNat]? with
    | some (.inr o) => Nat.beq o.1 3 && (ain ev rl i o.2.1 && ((arng o.2.1 0).filter (fun (j : Nat) => ible (xlo ev rl i) (j : Int) && ible (j : Int) (xhi ev rl i))).all (fun j => K (pc + 1) (lv, nx :: st, (i, (0, (j : Int), (j : Int))) :: (nx, (2, ((o.2.2.2.1.toNat + j * o.2.2.2.2.toNat : Nat) : Int), 0)) :: ev, ca, rl, nx + 1)))
    | _ => false))
  | _ => false
def tgtOf (pc : Nat) (off : Int) : Nat := ((pc : Int) + off).toNat
def sJ (K : KT) (pc : Nat) (lv : ALv) (st : List Nat) (ca : ACa) (nx : Nat) (q : Option (AEv × ARl)) : Bool := match q with
  | some q => K pc (lv, st, q.1, ca, q.2, nx)
  | none => true
noncomputable def sBr (K : KT) (pc c : Nat) (off : Int) (lv : ALv) (st : List Nat) (ev : AEv) (ca : ACa) (rl : ARl) (nx : Nat) : Bool := match st with
  | y :: x :: st => pId ev x 0 && (pId ev y 0 && (decide (0 ≤ (pc : Int) + off) && (sJ K (tgtOf pc off) lv st ca nx (atk c x y ev rl) && sJ K (pc + 3) lv st ca nx (atk (cneg c) x y ev rl))))
  | _ => false
/-- not alike: below or above, each by itself -/
noncomputable def sJn (K : KT) (pc c x y : Nat) (lv : ALv) (st : List Nat) (ev : AEv) (ca : ACa) (rl : ARl) (nx : Nat) : Bool := bif Nat.beq c 1 then sJ K pc lv st ca nx (atk 2 x y ev rl) && sJ K pc lv st ca nx (atk 4 x y ev rl) else sJ K pc lv st ca nx (atk c x y ev rl)
noncomputable def sBrL (K : KT) (pc c : Nat) (off : Int) (lv : ALv) (st : List Nat) (ev : AEv) (ca : ACa) (rl : ARl) (nx : Nat) : Bool := match st with
  | y :: x :: st => pId ev x 1 && (pId ev y 1 && (decide (0 ≤ ((pc + 1 : Nat) : Int) + off) && (sJn K (tgtOf (pc + 1) off) c x y lv st ev ca rl nx && sJn K (pc + 4) (cneg c) x y lv st ev ca rl nx)))
  | _ => false
noncomputable def sBr0 (K : KT) (pc c : Nat) (off : Int) (lv : ALv) (st : List Nat) (ev : AEv) (ca : ACa) (rl : ARl) (nx : Nat) : Bool := match st with
  | x :: st => pId ev x 0 && (decide (0 ≤ (pc : Int) + off) && (sJ K (tgtOf pc off) lv st ca (nx + 1) (atk c x nx ((nx, (0, 0, 0)) :: ev) rl) && sJ K (pc + 3) lv st ca (nx + 1) (atk (cneg c) x nx ((nx, (0, 0, 0)) :: ev) rl)))
  | _ => false
def sGo (K : KT) (pc : Nat) (off : Int) (σ : AS) : Bool := decide (0 ≤ (pc : Int) + off) && K (tgtOf pc off) σ
noncomputable def sTab (K : KT) (pc : Nat) (dflt lo hi : Int) (offs : List Int) (lv : ALv) (st : List Nat) (ev : AEv) (ca : ACa) (rl : ARl) (nx : Nat) : Bool := match st with
  | x :: st => pId ev x 0 && (decide (0 ≤ (pc : Int) + dflt) && (offs.all (fun o => decide (0 ≤ (pc : Int) + o)) && (decide (hi - lo + 1 = (offs.length : Int)) && ((bif decide (xlo ev rl x < lo) || decide (hi < xhi ev rl x) then K (tgtOf pc dflt) (lv, st, ev, ca, rl, nx) else true) && (aoffs pc lo 0 offs (xlo ev rl x) (xhi ev rl x)).all (fun q => K q.1 (lv, st, (x, (0, q.2, q.2)) :: ev, ca, rl, nx))))))
  | _ => false
noncomputable def sLen (T : List TE) (K : KT) (pc : Nat) (lv : ALv) (st : List Nat) (ev : AEv) (ca : ACa) (rl : ARl) (nx : Nat) : Bool := match st with
  | a :: st => pId ev a 2 && (match T[(aty ev a).2.1.toNat]? with
    | some (.inr o) => Nat.ble o.2.1 2147483647 && K (pc + 1) (lv, nx :: st, (nx, (0, (o.2.1 : Int), (o.2.1 : Int))) :: ev, ca, rl, nx + 1)
    | _ => false)
  | _ => false
/-- a reference that is there -/
noncomputable def sNul (K : KT) (pc : Nat) (off : Int) (jumps : Bool) (lv : ALv) (st : List Nat) (ev : AEv) (ca : ACa) (rl : ARl) (nx : Nat) : Bool := match st with
  | a :: st => pId ev a 2 && (bif jumps then decide (0 ≤ (pc : Int) + off) && K (tgtOf pc off) (lv, st, ev, ca, rl, nx) else K (pc + 3) (lv, st, ev, ca, rl, nx))
  | _ => false
noncomputable def sLook (K : KT) (pc : Nat) (dflt : Int) (ps : List (Int × Int)) (lv : ALv) (st : List Nat) (ev : AEv) (ca : ACa) (rl : ARl) (nx : Nat) : Bool := match st with
  | x :: st => pId ev x 0 && ((ps.zip (ps.drop 1)).all (fun (a, next) => a.1 < next.1) && (decide (0 ≤ (pc : Int) + dflt) && (K (tgtOf pc dflt) (lv, st, ev, ca, rl, nx) && ps.all (fun q => decide (0 ≤ (pc : Int) + q.2) && K (tgtOf pc q.2) (lv, st, (x, (0, q.1, q.1)) :: ev, ca, rl, nx)))))
  | _ => false
noncomputable def scat (ev : AEv) : List Nat → Nat
  | [] => 0
  | i :: l => (bif Nat.beq (aty ev i).1 1 then 2 else bif Nat.ble (aty ev i).1 3 then 1 else 9) + scat ev l
/-- fields whose names a contract wants, told -/
noncomputable def atch (T : List TE) : List (Nat × Nat × VT) → AEv → ACa → Nat → Option (AEv × ACa × Nat)
  | [], ev, ca, nx => some (ev, ca, nx)
  | q :: l, ev, ca, nx => match acaf ca q.1 q.2.1 with
    | some _ => atch T l ev ca nx
    | none => match T[q.1]? with
      | some (.inl o) => match o.2[q.2.1]? with
        | some t => atch T l ((nx, t) :: ev) ((q.1, q.2.1, nx) :: ca) (nx + 1)
        | none => none
      | _ => none
/-- bounds of some names, told anew -/
noncomputable def atg (is : List Nat) (σ : AS) : AS := (σ.1, σ.2.1, (is.filter (fun i => isNum (aty σ.2.2.1 i))).map (fun i => (i, ((aty σ.2.2.1 i).1, xlo σ.2.2.1 σ.2.2.2.2.1 i, xhi σ.2.2.1 σ.2.2.2.2.1 i))) ++ σ.2.2.1, σ.2.2.2)
noncomputable def sCall1 (T : List TE) (mk : List (Nat × Nat)) (Rf Rl : Nat) (K : KT) (pc maxL : Nat) (C : CE) (lv : ALv) (st : List Nat) (ev : AEv) (ca : ACa) (rl : ARl) (nx : Nat) : Bool := match atch T C.2.1 ev ca nx with
  | none => false
  | some (ev, ca, nx) => match acas ca C.2.1 with
    | none => false
    | some ps => afr (lv, st, ev, ca, rl, nx) && (Nat.ble C.1.length st.length && (Nat.ble C.1.length 50 && (Nat.ble C.2.1.length 100 && (Nat.ble (C.2.2.2.2.2.1 + 1) Rf && (Nat.ble (8 + (maxL + 11) + C.2.2.2.2.2.2) Rl && (Nat.ble (scat ev (st.drop C.1.length)) 8 &&
       ((C.1.zipIdx.all fun q => vsub ev rl ((st.take C.1.length).reverse.getD q.2 0) q.1) && ((C.2.1.zipIdx.all fun q => vsub ev rl (ps.getD q.2 0) q.1.2.2) && ((C.2.2.1.all fun q => dle ev rl (cmap (st.take C.1.length).reverse ps nx q.1) (cmap (st.take C.1.length).reverse ps nx q.2.1) q.2.2 && (Nat.blt q.1 50 || (Nat.ble 100 q.1 && Nat.blt q.1 200)) && (Nat.blt q.2.1 50 || (Nat.ble 100 q.2.1 && Nat.blt q.2.1 200))) && (C.2.2.2.1.all altB && (cov mk C.2.2.2.2.1 && C.2.2.2.1.all (fun A => K (pc + 3) (atg (nx :: arng A.2.2.1.length (nx + 1)) (aafter (st.take C.1.length).reverse ps A C.2.2.2.2.1 lv (st.drop C.1.length) ev ca rl nx))))))))))))))
/-- a quick look first: a field told exactly -/
noncomputable def sQk (ev : AEv) (ca : ACa) : List (Nat × Nat × VT) → Bool
  | q :: _ => bif decide (q.2.2.2.1 = q.2.2.2.2) then (match acaf ca q.1 q.2.1 with
    | some i => decide ((aty ev i).2.1 ≤ q.2.2.2.1) && decide (q.2.2.2.1 ≤ (aty ev i).2.2)
    | none => true) else true
  | [] => true
noncomputable def sCall (T : List TE) (mk : List (Nat × Nat)) (cal : List CAL) (Rf Rl : Nat) (K : KT) (pc kd idx : Nat) (lv : ALv) (st : List Nat) (ev : AEv) (ca : ACa) (rl : ARl) (nx : Nat) : Bool := cal.any (fun q => Nat.beq q.1 idx && (Nat.beq q.2.1 kd && (sQk ev ca q.2.2.2.2.1 && sCall1 T mk Rf Rl K pc q.2.2.1 q.2.2.2 lv st ev ca rl nx)))
def retK (rk : Nat) (t : Option VT) : Bool := match rk, t with
  | 0, none => true
  | 1, some t => Nat.beq t.1 0
  | 2, some t => Nat.beq t.1 1
  | 3, some t => Nat.beq t.1 0 && (decide (0 ≤ t.2.1) && decide (t.2.2 ≤ 1))
  | _, _ => false
noncomputable def sRet (C : CE) (rk : Nat) (st : List Nat) (ev : AEv) (ca : ACa) (rl : ARl) : Bool := C.2.2.2.1.any (fun A => retK rk A.1 && aretA C.1.length C.2.1.length A st ev ca rl)
def ccode : Jvm.ClassFile.Cond → Nat
  | .eq => 0
  | .ne => 1
  | .lt => 2
  | .ge => 3
  | .gt => 4
  | .le => 5
/-- a method's instructions, decoded once -/
abbrev DT : Type := List (Nat × Instr × Nat)
noncomputable def dlook (l : DT) (pc : Nat) : Option (Instr × Nat) := lrc none (fun q r => brc (Nat.beq q.1 pc) (some q.2) r) l
theorem dlook_cons {q : Nat × Instr × Nat} {l : DT} {pc : Nat} : dlook (q :: l) pc = bif Nat.beq q.1 pc then some q.2 else dlook l pc := brc_eq _ _ _
theorem dlook_mem : ∀ (l : DT) (pc : Nat) (q : Instr × Nat), dlook l pc = some q → (pc, q) ∈ l
  | [], pc, q, h => by cases h
  | p :: l, pc, q, h => by
    rw [dlook_cons] at h
    cases hb : Nat.beq p.1 pc with
    | true =>
      rw [hb] at h
      cases h
      have e : p.1 = pc := Nat.eq_of_beq_eq_true hb
      subst e
      exact List.mem_cons_self
    | false =>
      rw [hb] at h
      exact List.mem_cons_of_mem _ (dlook_mem l pc q h)
noncomputable def dtOK (cc : ByteArray) (tab : DT) : Bool := dtF cc tab
theorem dt_ok {cc : ByteArray} {tab : DT} (h : dtOK cc tab = true) : ∀ q ∈ tab, decode cc q.1 = .ok q.2 := dtF_ok h
noncomputable def sIns (tab : DT) (nL : Nat) (T : List TE) (mk : List (Nat × Nat)) (fld : List (Nat × Nat × Nat)) (put : List (Nat × Nat × Nat × Nat)) (cst cstl : List (Nat × Int)) (cal : List CAL) (Rf Rl rk : Nat) (C : CE) (K : KT) (pc len : Nat) (i : Instr) (lv : ALv) (st : List Nat) (ev : AEv) (ca : ACa) (rl : ARl) (nx : Nat) : Bool := match i with
  | .iconst n => Nat.beq len 1 && (decide (-32768 ≤ n) && (decide (n ≤ 32767) && sCon K pc 1 n lv st ev ca rl nx))
  | .bipush n => Nat.beq len 2 && (decide (-128 ≤ n) && (decide (n ≤ 127) && sCon K pc 2 n lv st ev ca rl nx))
  | .sipush n => Nat.beq len 3 && (decide (-32768 ≤ n) && (decide (n ≤ 32767) && sCon K pc 3 n lv st ev ca rl nx))
  | .lconst n => Nat.beq len 1 && K (pc + 1) (lv, nx :: st, (nx, (1, (n : Nat), (n : Nat))) :: ev, ca, rl, nx + 1)
  | .ldc idx => Nat.beq len 2 && sLdc cst K pc 2 idx lv st ev ca rl nx
  | .ldc_w idx => Nat.beq len 3 && sLdc cst K pc 3 idx lv st ev ca rl nx
  | .ldc2_w idx => Nat.beq len 3 && sLdcL cstl K pc idx lv st ev ca rl nx
  | .iload k => Nat.beq len 2 && sLoad K pc 2 k 0 lv st ev ca rl nx
  | .lload k => Nat.beq len 2 && sLoad K pc 2 k 1 lv st ev ca rl nx
  | .aload k => Nat.beq len 2 && sLoad K pc 2 k 2 lv st ev ca rl nx
  | .iload_n k => Nat.beq len 1 && sLoad K pc 1 k 0 lv st ev ca rl nx
  | .lload_n k => Nat.beq len 1 && sLoad K pc 1 k 1 lv st ev ca rl nx
  | .aload_n k => Nat.beq len 1 && sLoad K pc 1 k 2 lv st ev ca rl nx
  | .istore k => Nat.beq len 2 && sStore nL K pc 2 k 0 lv st ev ca rl nx
  | .lstore k => Nat.beq len 2 && sStore nL K pc 2 k 1 lv st ev ca rl nx
  | .astore k => Nat.beq len 2 && sStore nL K pc 2 k 2 lv st ev ca rl nx
  | .istore_n k => Nat.beq len 1 && sStore nL K pc 1 k 0 lv st ev ca rl nx
  | .lstore_n k => Nat.beq len 1 && sStore nL K pc 1 k 1 lv st ev ca rl nx
  | .astore_n k => Nat.beq len 1 && sStore nL K pc 1 k 2 lv st ev ca rl nx
  | .iinc k n => Nat.beq len 3 && sInc nL K pc k n lv st ev ca rl nx
  | .pop => Nat.beq len 1 && sPop K pc lv st ev ca rl nx
  | .dup => Nat.beq len 1 && sDup K pc lv st ev ca rl nx
  | .dup2 => Nat.beq len 1 && sDup2 K pc lv st ev ca rl nx
  | .getfield idx => Nat.beq len 3 && sGet T fld K pc idx lv st ev ca rl nx
  | .putfield idx => Nat.beq len 3 && sPut T mk put K pc idx lv st ev ca rl nx
  | .iaload => Nat.beq len 1 && sAld T K pc 0 lv st ev ca rl nx
  | .laload => Nat.beq len 1 && sAld T K pc 1 lv st ev ca rl nx
  | .baload => Nat.beq len 1 && sAld T K pc 2 lv st ev ca rl nx
  | .aaload => Nat.beq len 1 && sAld3 T K pc lv st ev ca rl nx
  | .iastore => Nat.beq len 1 && sAst T mk K pc 0 lv st ev ca rl nx
  | .lastore => Nat.beq len 1 && sAst T mk K pc 1 lv st ev ca rl nx
  | .bastore => Nat.beq len 1 && sAst T mk K pc 2 lv st ev ca rl nx
  | .if_icmp c off => Nat.beq len 3 && sBr K pc (ccode c) off lv st ev ca rl nx
  | .ifCond c off => Nat.beq len 3 && sBr0 K pc (ccode c) off lv st ev ca rl nx
  | .lcmp => Nat.beq len 1 && (match dlook tab (pc + 1) with
    | some (.ifCond c off, n) => Nat.beq n 3 && sBrL K pc (ccode c) off lv st ev ca rl nx
    | _ => false)
  | .arraylength => Nat.beq len 1 && sLen T K pc lv st ev ca rl nx
  | .ifnull off => Nat.beq len 3 && sNul K pc off false lv st ev ca rl nx
  | .ifnonnull off => Nat.beq len 3 && sNul K pc off true lv st ev ca rl nx
  | .lookupswitch dflt ps => sLook K pc dflt ps.toList lv st ev ca rl nx
  | .goto off => Nat.beq len 3 && sGo K pc off (lv, st, ev, ca, rl, nx)
  | .tableswitch dflt lo hi offs => sTab K pc dflt lo hi offs.toList lv st ev ca rl nx
  | .invokevirtual idx => Nat.beq len 3 && sCall T mk cal Rf Rl K pc 0 idx lv st ev ca rl nx
  | .invokestatic idx => Nat.beq len 3 && sCall T mk cal Rf Rl K pc 1 idx lv st ev ca rl nx
  | .ireturn => Nat.beq len 1 && ((Nat.beq rk 1 || Nat.beq rk 3) && sRet C rk st ev ca rl)
  | .lreturn => Nat.beq len 1 && (Nat.beq rk 2 && sRet C rk st ev ca rl)
  | .return_ => Nat.beq len 1 && (Nat.beq rk 0 && sRet C rk st ev ca rl)
  | .ineg => Nat.beq len 1 && sUn K pc i lv st ev ca rl nx
  | .lneg => Nat.beq len 1 && sUn K pc i lv st ev ca rl nx
  | .i2l => Nat.beq len 1 && sUn K pc i lv st ev ca rl nx
  | .l2i => Nat.beq len 1 && sUn K pc i lv st ev ca rl nx
  | .i2b => Nat.beq len 1 && sUn K pc i lv st ev ca rl nx
  | .i2s => Nat.beq len 1 && sUn K pc i lv st ev ca rl nx
  | i => Nat.beq len 1 && sBin K pc i lv st ev ca rl nx
end
