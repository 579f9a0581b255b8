/-! numbers: every int of the walk is iI of an integer, every long lI of one -/
def iI (x : Int) : Int32 := Int32.ofInt x
def lI (x : Int) : Int64 := Int64.ofInt x
theorem iI_add (a b : Int) : iI a + iI b = iI (a + b) := (Int32.ofInt_add a b).symm
theorem iI_sub (a b : Int) : iI a - iI b = iI (a - b) := (Int32.ofInt_sub a b).symm
theorem iI_mul (a b : Int) : iI a * iI b = iI (a * b) := (Int32.ofInt_mul a b).symm
theorem iI_neg (a : Int) : -iI a = iI (-a) := (Int32.ofInt_neg a).symm
theorem lI_mul (a b : Int) : lI a * lI b = lI (a * b) := (Int64.ofInt_mul a b).symm
theorem iI_toInt {a : Int} (h1 : -2147483648 ≤ a) (h2 : a ≤ 2147483647) : (iI a).toInt = a := Int32.toInt_ofInt_of_le (by omega) (by omega)
theorem lI_toInt {a : Int} (h1 : -9223372036854775808 ≤ a) (h2 : a ≤ 9223372036854775807) : (lI a).toInt = a := Int64.toInt_ofInt_of_le (by omega) (by omega)
def sm (x : Int) : Prop := -2147483648 ≤ x ∧ x ≤ 2147483647
def sL (x : Int) : Prop := -9223372036854775808 ≤ x ∧ x ≤ 9223372036854775807
theorem iI_le {a b : Int} (ha : sm a) (hb : sm b) : iI a ≤ iI b ↔ a ≤ b := by rw [Int32.le_iff_toInt_le, iI_toInt ha.1 ha.2, iI_toInt hb.1 hb.2]
theorem iI_lt {a b : Int} (ha : sm a) (hb : sm b) : iI a < iI b ↔ a < b := by rw [Int32.lt_iff_toInt_lt, iI_toInt ha.1 ha.2, iI_toInt hb.1 hb.2]
theorem iI_eq {a b : Int} (ha : sm a) (hb : sm b) : iI a = iI b ↔ a = b := by rw [← Int32.toInt_inj, iI_toInt ha.1 ha.2, iI_toInt hb.1 hb.2]
theorem lI_le {a b : Int} (ha : sL a) (hb : sL b) : lI a ≤ lI b ↔ a ≤ b := by rw [Int64.le_iff_toInt_le, lI_toInt ha.1 ha.2, lI_toInt hb.1 hb.2]
theorem lI_lt {a b : Int} (ha : sL a) (hb : sL b) : lI a < lI b ↔ a < b := by rw [Int64.lt_iff_toInt_lt, lI_toInt ha.1 ha.2, lI_toInt hb.1 hb.2]
theorem lI_eq {a b : Int} (ha : sL a) (hb : sL b) : lI a = lI b ↔ a = b := by rw [← Int64.toInt_inj, lI_toInt ha.1 ha.2, lI_toInt hb.1 hb.2]
theorem iI_zero : (0 : Int32) = iI 0 := rfl
theorem sm0 : sm 0 := ⟨by omega, by omega⟩
theorem iI_nat {a : Int} (h0 : 0 ≤ a) (h : a ≤ 2147483647) : (iI a).toNatClampNeg = a.toNat := by
  rw [← Int32.toNat_toInt, iI_toInt (by omega) h]
theorem iI_in {a : Int} {n : Nat} (h0 : 0 ≤ a) (h : a < n) (hn : n < 2147483648) : vp_in (iI a) n := by
  rw [vp_in_iff, iI_toInt (by omega) (by omega)]
  exact ⟨h0, h⟩
theorem iI_of (x : Int32) : iI x.toInt = x := Int32.ofInt_toInt x
theorem lI_of (x : Int64) : lI x.toInt = x := Int64.ofInt_toInt x
theorem sm_of (x : Int32) : sm x.toInt := ⟨by have := x.le_toInt; omega, by have := x.toInt_lt; omega⟩
theorem sL_of (x : Int64) : sL x.toInt := ⟨by have := x.le_toInt; omega, by have := x.toInt_lt; omega⟩
theorem iI_div {a b : Int} (h0 : 0 ≤ a) (ha : a ≤ 2147483647) (hb : 0 < b) (hb2 : b ≤ 2147483647) : iI a / iI b = iI (a / b) := by
  have hq : a / b ≤ a := Int.ediv_le_self _ h0
  have hq0 : 0 ≤ a / b := Int.ediv_nonneg h0 (by omega)
  rw [← Int32.toInt_inj, Int32.toInt_div, iI_toInt (by omega) ha, iI_toInt (by omega) hb2, iI_toInt (by omega) (by omega), Int.tdiv_eq_ediv_of_nonneg h0]
  exact Int.bmod_eq_of_le (by omega) (by omega)
theorem iI_rem {a b : Int} (h0 : 0 ≤ a) (ha : a ≤ 2147483647) (hb : 0 < b) (hb2 : b ≤ 2147483647) : iI a - iI a / iI b * iI b = iI (a % b) := by
  rw [iI_div h0 ha hb hb2, iI_mul, iI_sub, Int.emod_def, Int.mul_comm]
theorem lI_div {a b : Int} (h0 : 0 ≤ a) (ha : a ≤ 9223372036854775807) (hb : 0 < b) (hb2 : b ≤ 9223372036854775807) : lI a / lI b = lI (a / b) := by
  have hq : a / b ≤ a := Int.ediv_le_self _ h0
  have hq0 : 0 ≤ a / b := Int.ediv_nonneg h0 (by omega)
  rw [← Int64.toInt_inj, Int64.toInt_div, lI_toInt (by omega) ha, lI_toInt (by omega) hb2, lI_toInt (by omega) (by omega), Int.tdiv_eq_ediv_of_nonneg h0]
  exact Int.bmod_eq_of_le (by omega) (by omega)
theorem lI_rem {a b : Int} (h0 : 0 ≤ a) (ha : a ≤ 9223372036854775807) (hb : 0 < b) (hb2 : b ≤ 9223372036854775807) : lI a - lI a / lI b * lI b = lI (a % b) := by
  rw [lI_div h0 ha hb hb2, lI_mul, Int.emod_def, Int.mul_comm]
  exact (Int64.ofInt_sub _ _).symm
theorem iI_l {a : Int} (h : sm a) : (iI a).toInt64 = lI a := Int32.toInt64_ofInt h.1 h.2
theorem lI_i (a : Int) : (lI a).toInt32 = iI a := Int64.toInt32_ofInt
/-- of two like numbers 0, else -1 or 1 -/
def cmpI (a b : Int) : Int := if a < b then -1 else if a = b then 0 else 1
theorem cmpI_sm (a b : Int) : sm (cmpI a b) := by
  unfold cmpI sm
  split
  · omega
  · split <;> omega
theorem cmpI_lt (a b : Int) : cmpI a b < 0 ↔ a < b := by
  unfold cmpI
  split
  · omega
  · split <;> omega
theorem cmpI_le (a b : Int) : cmpI a b ≤ 0 ↔ a ≤ b := by
  unfold cmpI
  split
  · omega
  · split <;> omega
theorem cmpI_eq (a b : Int) : cmpI a b = 0 ↔ a = b := by
  unfold cmpI
  split
  · omega
  · split <;> omega
theorem lI_cmp {a b : Int} (ha : sL a) (hb : sL b) : lg_cmp (lI a) (lI b) = iI (cmpI a b) := by
  unfold lg_cmp cmpI
  by_cases h : a < b
  · rw [if_pos h]; simp [lI_lt ha hb, lI_eq ha hb, lI_lt hb ha, show ¬ b < a by omega, show ¬ a = b by omega, h]; try rfl
  · rw [if_neg h]
    by_cases h2 : a = b
    · subst h2
      simp [lI_lt ha ha]
      try rfl
    · rw [if_neg h2]
      simp [lI_lt ha hb, lI_eq ha hb, lI_lt hb ha, h, h2, show b < a by omega]
      try rfl
/-- a condition as 1 or 0 -/
def bI (P : Prop) [Decidable P] : Int := if P then 1 else 0
theorem bI_t {P : Prop} [Decidable P] (h : P) : bI P = 1 := if_pos h
theorem bI_f {P : Prop} [Decidable P] (h : ¬ P) : bI P = 0 := if_neg h
theorem bI_0 {P : Prop} [Decidable P] : bI P = 0 ↔ ¬ P := by
  unfold bI
  by_cases h : P <;> simp [h]
theorem bI_01 {P : Prop} [Decidable P] : 0 ≤ bI P ∧ bI P ≤ 1 := by
  unfold bI
  by_cases h : P <;> simp [h]
theorem bI_c {P Q : Prop} [Decidable P] [Decidable Q] (h : P ↔ Q) : bI P = bI Q := by
  unfold bI
  by_cases hp : P
  · rw [if_pos hp, if_pos (h.mp hp)]
  · rw [if_neg hp, if_neg (fun q => hp (h.mpr q))]
/-- f, but v at k -/
def up {α : Type} (f : Nat → α) (k : Nat) (v : α) : Nat → α := fun j => if j = k then v else f j
/-- f, but x at i -/
def uI (f : Int → Int) (i x : Int) : Int → Int := fun j => if j = i then x else f j
theorem uI_s (f : Int → Int) (i x : Int) : uI f i x i = x := if_pos rfl
theorem uI_n (f : Int → Int) {i j : Int} (x : Int) (h : j ≠ i) : uI f i x j = f j := if_neg h
/-- a row of ints -/
def aI (cA : ClassId) (n : Nat) (f : Int → Int) : va_E := .inl (cA, n, .inl (fun j => iI (f (j : Int))))
/-- a row of cells -/
def aR (cA : ClassId) (n : Nat) (f : Nat → Option Nat) : va_E := .inl (cA, n, .inr (.inr (.inr (.inr f))))
def TYs (d : Nat → ClassId) : List (ClassId × FieldType) := [(d 0, .int), (d 1, .boolean), (d 2, .object "BuyersArm$Stand"), (d 3, .array .int)]
/-- the private method of its host that Hidden calls (a word of the nest: no good one, so it goes beside the classes) -/
def NWs (U : State) : Prop := va_Nw (.methodLinkNest RX1 28 yX8_signOf RX8) U
/-- what is known of the classes -/
def KK (D : va_G) (d : Nat → ClassId) (U : State) : Prop := va_K D vwCl (TYs d) U ∧ NWs U
theorem KK.warm {D : va_G} {d : Nat → ClassId} {u U : State} (hW : u.WarmedH U.vm) (h : KK D d u) : KK D d U := ⟨va_K.moved hW.alike h.1, h.2.warmM hW⟩
theorem KK.same {D : va_G} {d : Nat → ClassId} {u U : State} (hvm : u.vm = U.vm) (h : KK D d u) : KK D d U := ⟨va_K.moved (by rw [hvm]; exact Vm.Alike.refl _) h.1, h.2.same rfl hvm⟩
/-- the places of a world -/
def inW (ws : va_W) (q : Nat) : Prop := ∃ (k : Nat) (e : va_E), ws[k]? = some (q, e)
section VV
variable {p : Program} {l : Launch} {e : Env} {R : Room} {s : State} {m : MethodId} {args : Array Value} {below : List Frame} {meth : Method} {c : Code} {A : Nat → Prop} {D : va_G} {d : Nat → ClassId} {Q : State → Prop} {cc : ByteArray} {nL : Nat} {own : String} {cells slots : Nat} {ws : va_W} {lv : List (Nat × Value)} {pc : Nat} {st : List Value}
/-- the machine at pc, with the world ws, the locals lv, the stack st, comes to Q -/
def V (p : Program) (l : Launch) (e : Env) (R : Room) (s : State) (m : MethodId) (args : Array Value) (below : List Frame) (meth : Method) (c : Code) (A : Nat → Prop) (D : va_G) (Q : State → Prop) (nL cells slots : Nat) (ws : va_W) (lv : List (Nat × Value)) (pc : Nat) (st : List Value) : Prop :=
  ∀ (H : Heap) (locs : List Loc) (ls : Array Slot), va_P D vwCl ws H → va_D A ws → va_S A s.heap H locs → lv_has ls nL lv → W p l e R s m args below meth c H locs cells slots Q (F0 m pc ls st)
def CX (p : Program) (s : State) (m : MethodId) (args : Array Value) (c : Code) (D : va_G) (d : Nat → ClassId) (cc : ByteArray) (nL : Nat) (own : String) : Prop :=
  p.tables.exec = Jvm.exec ∧ c.code = cc ∧ c.maxLocals = nL ∧ s.vm.findClass own = some m.cls ∧ (∀ w ∈ gtb, w.before args s = true) ∧ KK D d s
theorem V_iconst {n : Int} (C : CX p s m args c D d cc nL own) (hdg : decode cc pc = .ok (.iconst n, 1)) (kk : V p l e R s m args below meth c A D Q nL cells slots ws lv (pc + 1) (.int (iI n) :: st)) : V p l e R s m args below meth c A D Q nL cells slots ws lv pc st :=
  fun H locs ls hP hD hS hl => lv_iconst C.1 C.2.1 hdg rfl (kk H locs ls hP hD hS hl)
theorem V_bipush {n : Int} (C : CX p s m args c D d cc nL own) (hdg : decode cc pc = .ok (.bipush n, 2)) (hn : (Int8.ofInt n).toInt32 = iI n) (kk : V p l e R s m args below meth c A D Q nL cells slots ws lv (pc + 2) (.int (iI n) :: st)) : V p l e R s m args below meth c A D Q nL cells slots ws lv pc st :=
  fun H locs ls hP hD hS hl => lv_bipush C.1 C.2.1 hdg hn (kk H locs ls hP hD hS hl)
theorem V_sipush {n : Int} (C : CX p s m args c D d cc nL own) (hdg : decode cc pc = .ok (.sipush n, 3)) (hn : (Int16.ofInt n).toInt32 = iI n) (kk : V p l e R s m args below meth c A D Q nL cells slots ws lv (pc + 3) (.int (iI n) :: st)) : V p l e R s m args below meth c A D Q nL cells slots ws lv pc st :=
  fun H locs ls hP hD hS hl => lv_sipush C.1 C.2.1 hdg hn (kk H locs ls hP hD hS hl)
theorem V_ldc {n : Int} {index : Nat} {v : Int32} (C : CX p s m args c D d cc nL own) (hdg : decode cc pc = .ok (.ldc index, 2)) (hw : Cond.constant own index v ∈ gtb) (hn : v = iI n) (kk : V p l e R s m args below meth c A D Q nL cells slots ws lv (pc + 2) (.int (iI n) :: st)) : V p l e R s m args below meth c A D Q nL cells slots ws lv pc st := by
  subst hn
  exact fun H locs ls hP hD hS hl => lv_ldc C.1 C.2.1 C.2.2.2.1 (C.2.2.2.2.1 _ hw) hdg (kk H locs ls hP hD hS hl)
theorem V_ldcw {n : Int} {index : Nat} {v : Int32} (C : CX p s m args c D d cc nL own) (hdg : decode cc pc = .ok (.ldc_w index, 3)) (hw : Cond.constant own index v ∈ gtb) (hn : v = iI n) (kk : V p l e R s m args below meth c A D Q nL cells slots ws lv (pc + 3) (.int (iI n) :: st)) : V p l e R s m args below meth c A D Q nL cells slots ws lv pc st := by
  subst hn
  exact fun H locs ls hP hD hS hl => lv_ldcw C.1 C.2.1 C.2.2.2.1 (C.2.2.2.2.1 _ hw) hdg (kk H locs ls hP hD hS hl)
theorem V_ldc2 {n : Int} {index : Nat} {v : Int64} (C : CX p s m args c D d cc nL own) (hdg : decode cc pc = .ok (.ldc2_w index, 3)) (hw : Cond.constantLong own index v ∈ gtb) (hn : v = lI n) (kk : V p l e R s m args below meth c A D Q nL cells slots ws lv (pc + 3) (.long (lI n) :: st)) : V p l e R s m args below meth c A D Q nL cells slots ws lv pc st := by
  subst hn
  exact fun H locs ls hP hD hS hl => lv_ldc2 C.1 C.2.1 C.2.2.2.1 (C.2.2.2.2.1 _ hw) hdg (kk H locs ls hP hD hS hl)
theorem V_lconst {n : Fin 2} {k : Int} (C : CX p s m args c D d cc nL own) (hdg : decode cc pc = .ok (.lconst n, 1)) (hn : Int64.ofNat (n : Nat) = lI k) (kk : V p l e R s m args below meth c A D Q nL cells slots ws lv (pc + 1) (.long (lI k) :: st)) : V p l e R s m args below meth c A D Q nL cells slots ws lv pc st :=
  fun H locs ls hP hD hS hl => lv_lconst C.1 C.2.1 hdg hn (kk H locs ls hP hD hS hl)
theorem V_iload_n {k : Fin 4} {i : Nat} {x : Int32} (C : CX p s m args c D d cc nL own) (hdg : decode cc pc = .ok (.iload_n k, 1)) (hi : (k : Nat) = i) (j : Nat) (hj : lv[j]? = some (i, .int x)) (kk : V p l e R s m args below meth c A D Q nL cells slots ws lv (pc + 1) (.int x :: st)) : V p l e R s m args below meth c A D Q nL cells slots ws lv pc st :=
  fun H locs ls hP hD hS hl => lv_iload_n C.1 C.2.1 hdg hi (lv_at hl j hj) (kk H locs ls hP hD hS hl)
theorem V_iload {i : Nat} {x : Int32} (C : CX p s m args c D d cc nL own) (hdg : decode cc pc = .ok (.iload i, 2)) (j : Nat) (hj : lv[j]? = some (i, .int x)) (kk : V p l e R s m args below meth c A D Q nL cells slots ws lv (pc + 2) (.int x :: st)) : V p l e R s m args below meth c A D Q nL cells slots ws lv pc st :=
  fun H locs ls hP hD hS hl => lv_iload C.1 C.2.1 hdg (lv_at hl j hj) (kk H locs ls hP hD hS hl)
theorem V_lload_n {k : Fin 4} {i : Nat} {x : Int64} (C : CX p s m args c D d cc nL own) (hdg : decode cc pc = .ok (.lload_n k, 1)) (hi : (k : Nat) = i) (j : Nat) (hj : lv[j]? = some (i, .long x)) (kk : V p l e R s m args below meth c A D Q nL cells slots ws lv (pc + 1) (.long x :: st)) : V p l e R s m args below meth c A D Q nL cells slots ws lv pc st :=
  fun H locs ls hP hD hS hl => lv_lload_n C.1 C.2.1 hdg hi (lv_at hl j hj) (kk H locs ls hP hD hS hl)
theorem V_lload {i : Nat} {x : Int64} (C : CX p s m args c D d cc nL own) (hdg : decode cc pc = .ok (.lload i, 2)) (j : Nat) (hj : lv[j]? = some (i, .long x)) (kk : V p l e R s m args below meth c A D Q nL cells slots ws lv (pc + 2) (.long x :: st)) : V p l e R s m args below meth c A D Q nL cells slots ws lv pc st :=
  fun H locs ls hP hD hS hl => lv_lload C.1 C.2.1 hdg (lv_at hl j hj) (kk H locs ls hP hD hS hl)
theorem V_aload_n {k : Fin 4} {i : Nat} {x : Nat} (C : CX p s m args c D d cc nL own) (hdg : decode cc pc = .ok (.aload_n k, 1)) (hi : (k : Nat) = i) (j : Nat) (hj : lv[j]? = some (i, .ref x)) (kk : V p l e R s m args below meth c A D Q nL cells slots ws lv (pc + 1) (.ref x :: st)) : V p l e R s m args below meth c A D Q nL cells slots ws lv pc st :=
  fun H locs ls hP hD hS hl => lv_aload_n C.1 C.2.1 hdg hi (lv_at hl j hj) (kk H locs ls hP hD hS hl)
theorem V_aload {i : Nat} {x : Nat} (C : CX p s m args c D d cc nL own) (hdg : decode cc pc = .ok (.aload i, 2)) (j : Nat) (hj : lv[j]? = some (i, .ref x)) (kk : V p l e R s m args below meth c A D Q nL cells slots ws lv (pc + 2) (.ref x :: st)) : V p l e R s m args below meth c A D Q nL cells slots ws lv pc st :=
  fun H locs ls hP hD hS hl => lv_aload C.1 C.2.1 hdg (lv_at hl j hj) (kk H locs ls hP hD hS hl)
theorem V_istore_n {k : Fin 4} {i : Nat} {x : Int32} {lv' : List (Nat × Value)} (C : CX p s m args c D d cc nL own) (hdg : decode cc pc = .ok (.istore_n k, 1)) (hi : (k : Nat) = i) (hn : i < nL) (hl' : (i, Value.int x) :: lv.filter (fun q => !(q.1 == i) && !(q.1 + 1 == i && q.2.category == 2)) = lv') (kk : V p l e R s m args below meth c A D Q nL cells slots ws lv' (pc + 1) st) : V p l e R s m args below meth c A D Q nL cells slots ws lv pc (.int x :: st) :=
  fun H locs ls hP hD hS hl => lv_istore_n C.1 C.2.1 hdg hi hl hn hl' (fun ls2 hl2 => kk H locs ls2 hP hD hS hl2)
theorem V_istore {i : Nat} {x : Int32} {lv' : List (Nat × Value)} (C : CX p s m args c D d cc nL own) (hdg : decode cc pc = .ok (.istore i, 2)) (hn : i < nL) (hl' : (i, Value.int x) :: lv.filter (fun q => !(q.1 == i) && !(q.1 + 1 == i && q.2.category == 2)) = lv') (kk : V p l e R s m args below meth c A D Q nL cells slots ws lv' (pc + 2) st) : V p l e R s m args below meth c A D Q nL cells slots ws lv pc (.int x :: st) :=
  fun H locs ls hP hD hS hl => lv_istore C.1 C.2.1 hdg hl hn hl' (fun ls2 hl2 => kk H locs ls2 hP hD hS hl2)
theorem V_lstore_n {k : Fin 4} {i : Nat} {x : Int64} {lv' : List (Nat × Value)} (C : CX p s m args c D d cc nL own) (hdg : decode cc pc = .ok (.lstore_n k, 1)) (hi : (k : Nat) = i) (hn : i + 1 < nL) (hl' : (i, Value.long x) :: lv.filter (fun q => !(q.1 == i) && (!(q.1 == i + 1) && !(q.1 + 1 == i && q.2.category == 2))) = lv') (kk : V p l e R s m args below meth c A D Q nL cells slots ws lv' (pc + 1) st) : V p l e R s m args below meth c A D Q nL cells slots ws lv pc (.long x :: st) :=
  fun H locs ls hP hD hS hl => lv_lstore_n C.1 C.2.1 hdg hi hl hn hl' (fun ls2 hl2 => kk H locs ls2 hP hD hS hl2)
theorem V_lstore {i : Nat} {x : Int64} {lv' : List (Nat × Value)} (C : CX p s m args c D d cc nL own) (hdg : decode cc pc = .ok (.lstore i, 2)) (hn : i + 1 < nL) (hl' : (i, Value.long x) :: lv.filter (fun q => !(q.1 == i) && (!(q.1 == i + 1) && !(q.1 + 1 == i && q.2.category == 2))) = lv') (kk : V p l e R s m args below meth c A D Q nL cells slots ws lv' (pc + 2) st) : V p l e R s m args below meth c A D Q nL cells slots ws lv pc (.long x :: st) :=
  fun H locs ls hP hD hS hl => lv_lstore C.1 C.2.1 hdg hl hn hl' (fun ls2 hl2 => kk H locs ls2 hP hD hS hl2)
theorem V_astore_n {k : Fin 4} {i : Nat} {x : Nat} {lv' : List (Nat × Value)} (C : CX p s m args c D d cc nL own) (hdg : decode cc pc = .ok (.astore_n k, 1)) (hi : (k : Nat) = i) (hn : i < nL) (hl' : (i, Value.ref x) :: lv.filter (fun q => !(q.1 == i) && !(q.1 + 1 == i && q.2.category == 2)) = lv') (kk : V p l e R s m args below meth c A D Q nL cells slots ws lv' (pc + 1) st) : V p l e R s m args below meth c A D Q nL cells slots ws lv pc (.ref x :: st) :=
  fun H locs ls hP hD hS hl => lv_astore_n C.1 C.2.1 hdg hi hl hn hl' (fun ls2 hl2 => kk H locs ls2 hP hD hS hl2)
theorem V_astore {i : Nat} {x : Nat} {lv' : List (Nat × Value)} (C : CX p s m args c D d cc nL own) (hdg : decode cc pc = .ok (.astore i, 2)) (hn : i < nL) (hl' : (i, Value.ref x) :: lv.filter (fun q => !(q.1 == i) && !(q.1 + 1 == i && q.2.category == 2)) = lv') (kk : V p l e R s m args below meth c A D Q nL cells slots ws lv' (pc + 2) st) : V p l e R s m args below meth c A D Q nL cells slots ws lv pc (.ref x :: st) :=
  fun H locs ls hP hD hS hl => lv_astore C.1 C.2.1 hdg hl hn hl' (fun ls2 hl2 => kk H locs ls2 hP hD hS hl2)
theorem V_iinc {i : Nat} {n x : Int} {lv' : List (Nat × Value)} (C : CX p s m args c D d cc nL own) (hdg : decode cc pc = .ok (.iinc i n, 3)) (j : Nat) (hj : lv[j]? = some (i, .int (iI x))) (hn : i < nL) (hl' : (i, Value.int (iI (x + n))) :: lv.filter (fun q => !(q.1 == i) && !(q.1 + 1 == i && q.2.category == 2)) = lv') (kk : V p l e R s m args below meth c A D Q nL cells slots ws lv' (pc + 3) st) : V p l e R s m args below meth c A D Q nL cells slots ws lv pc st :=
  fun H locs ls hP hD hS hl => lv_iinc C.1 C.2.1 hdg hl hj (iI_add x n) hn hl' (fun ls2 hl2 => kk H locs ls2 hP hD hS hl2)
theorem V_iadd {x y : Int} (C : CX p s m args c D d cc nL own) (hdg : decode cc pc = .ok (.iadd, 1)) (kk : V p l e R s m args below meth c A D Q nL cells slots ws lv (pc + 1) (.int (iI (x + y)) :: st)) : V p l e R s m args below meth c A D Q nL cells slots ws lv pc (.int (iI y) :: .int (iI x) :: st) :=
  fun H locs ls hP hD hS hl => lv_iadd C.1 C.2.1 hdg (by rw [iI_add]; exact kk H locs ls hP hD hS hl)
theorem V_isub {x y : Int} (C : CX p s m args c D d cc nL own) (hdg : decode cc pc = .ok (.isub, 1)) (kk : V p l e R s m args below meth c A D Q nL cells slots ws lv (pc + 1) (.int (iI (x - y)) :: st)) : V p l e R s m args below meth c A D Q nL cells slots ws lv pc (.int (iI y) :: .int (iI x) :: st) :=
  fun H locs ls hP hD hS hl => lv_isub C.1 C.2.1 hdg (by rw [iI_sub]; exact kk H locs ls hP hD hS hl)
theorem V_imul {x y : Int} (C : CX p s m args c D d cc nL own) (hdg : decode cc pc = .ok (.imul, 1)) (kk : V p l e R s m args below meth c A D Q nL cells slots ws lv (pc + 1) (.int (iI (x * y)) :: st)) : V p l e R s m args below meth c A D Q nL cells slots ws lv pc (.int (iI y) :: .int (iI x) :: st) :=
  fun H locs ls hP hD hS hl => lv_imul C.1 C.2.1 hdg (by rw [iI_mul]; exact kk H locs ls hP hD hS hl)
theorem V_lmul {x y : Int} (C : CX p s m args c D d cc nL own) (hdg : decode cc pc = .ok (.lmul, 1)) (kk : V p l e R s m args below meth c A D Q nL cells slots ws lv (pc + 1) (.long (lI (x * y)) :: st)) : V p l e R s m args below meth c A D Q nL cells slots ws lv pc (.long (lI y) :: .long (lI x) :: st) :=
  fun H locs ls hP hD hS hl => lv_lmul C.1 C.2.1 hdg (by rw [lI_mul]; exact kk H locs ls hP hD hS hl)
theorem V_ineg {x : Int} (C : CX p s m args c D d cc nL own) (hdg : decode cc pc = .ok (.ineg, 1)) (kk : V p l e R s m args below meth c A D Q nL cells slots ws lv (pc + 1) (.int (iI (-x)) :: st)) : V p l e R s m args below meth c A D Q nL cells slots ws lv pc (.int (iI x) :: st) :=
  fun H locs ls hP hD hS hl => lv_ineg C.1 C.2.1 hdg (by rw [iI_neg]; exact kk H locs ls hP hD hS hl)
theorem V_idiv {x y : Int} (C : CX p s m args c D d cc nL own) (hdg : decode cc pc = .ok (.idiv, 1)) (h : (0 ≤ x ∧ x ≤ 2147483647) ∧ 0 < y ∧ y ≤ 2147483647) (kk : V p l e R s m args below meth c A D Q nL cells slots ws lv (pc + 1) (.int (iI (x / y)) :: st)) : V p l e R s m args below meth c A D Q nL cells slots ws lv pc (.int (iI y) :: .int (iI x) :: st) :=
  fun H locs ls hP hD hS hl => lv_idiv C.1 C.2.1 hdg (fun z => by have := (iI_eq (b := 0) ⟨by omega, by omega⟩ sm0).mp z; omega) (by rw [iI_div h.1.1 h.1.2 h.2.1 h.2.2]; exact kk H locs ls hP hD hS hl)
theorem V_irem {x y : Int} (C : CX p s m args c D d cc nL own) (hdg : decode cc pc = .ok (.irem, 1)) (h : (0 ≤ x ∧ x ≤ 2147483647) ∧ 0 < y ∧ y ≤ 2147483647) (kk : V p l e R s m args below meth c A D Q nL cells slots ws lv (pc + 1) (.int (iI (x % y)) :: st)) : V p l e R s m args below meth c A D Q nL cells slots ws lv pc (.int (iI y) :: .int (iI x) :: st) :=
  fun H locs ls hP hD hS hl => lv_irem C.1 C.2.1 hdg (fun z => by have := (iI_eq (b := 0) ⟨by omega, by omega⟩ sm0).mp z; omega) (by rw [iI_rem h.1.1 h.1.2 h.2.1 h.2.2]; exact kk H locs ls hP hD hS hl)
theorem V_ldiv {x y : Int} (C : CX p s m args c D d cc nL own) (hdg : decode cc pc = .ok (.ldiv, 1)) (h : (0 ≤ x ∧ x ≤ 9223372036854775807) ∧ 0 < y ∧ y ≤ 9223372036854775807) (kk : V p l e R s m args below meth c A D Q nL cells slots ws lv (pc + 1) (.long (lI (x / y)) :: st)) : V p l e R s m args below meth c A D Q nL cells slots ws lv pc (.long (lI y) :: .long (lI x) :: st) :=
  fun H locs ls hP hD hS hl => lv_ldiv C.1 C.2.1 hdg (fun z => by have := (lI_eq (b := 0) ⟨by omega, by omega⟩ ⟨by omega, by omega⟩).mp z; omega) (by rw [lI_div h.1.1 h.1.2 h.2.1 h.2.2]; exact kk H locs ls hP hD hS hl)
theorem V_lrem {x y : Int} (C : CX p s m args c D d cc nL own) (hdg : decode cc pc = .ok (.lrem, 1)) (h : (0 ≤ x ∧ x ≤ 9223372036854775807) ∧ 0 < y ∧ y ≤ 9223372036854775807) (kk : V p l e R s m args below meth c A D Q nL cells slots ws lv (pc + 1) (.long (lI (x % y)) :: st)) : V p l e R s m args below meth c A D Q nL cells slots ws lv pc (.long (lI y) :: .long (lI x) :: st) :=
  fun H locs ls hP hD hS hl => lv_lrem C.1 C.2.1 hdg (fun z => by have := (lI_eq (b := 0) ⟨by omega, by omega⟩ ⟨by omega, by omega⟩).mp z; omega) (by rw [lI_rem h.1.1 h.1.2 h.2.1 h.2.2]; exact kk H locs ls hP hD hS hl)
theorem V_iand {x y z : Int} (C : CX p s m args c D d cc nL own) (hdg : decode cc pc = .ok (.iand, 1)) (h : iI x &&& iI y = iI z) (kk : V p l e R s m args below meth c A D Q nL cells slots ws lv (pc + 1) (.int (iI z) :: st)) : V p l e R s m args below meth c A D Q nL cells slots ws lv pc (.int (iI y) :: .int (iI x) :: st) :=
  fun H locs ls hP hD hS hl => lv_iand C.1 C.2.1 hdg (by rw [h]; exact kk H locs ls hP hD hS hl)
theorem V_ior {x y z : Int} (C : CX p s m args c D d cc nL own) (hdg : decode cc pc = .ok (.ior, 1)) (h : iI x ||| iI y = iI z) (kk : V p l e R s m args below meth c A D Q nL cells slots ws lv (pc + 1) (.int (iI z) :: st)) : V p l e R s m args below meth c A D Q nL cells slots ws lv pc (.int (iI y) :: .int (iI x) :: st) :=
  fun H locs ls hP hD hS hl => lv_ior C.1 C.2.1 hdg (by rw [h]; exact kk H locs ls hP hD hS hl)
theorem V_ixor {x y z : Int} (C : CX p s m args c D d cc nL own) (hdg : decode cc pc = .ok (.ixor, 1)) (h : iI x ^^^ iI y = iI z) (kk : V p l e R s m args below meth c A D Q nL cells slots ws lv (pc + 1) (.int (iI z) :: st)) : V p l e R s m args below meth c A D Q nL cells slots ws lv pc (.int (iI y) :: .int (iI x) :: st) :=
  fun H locs ls hP hD hS hl => lv_ixor C.1 C.2.1 hdg (by rw [h]; exact kk H locs ls hP hD hS hl)
theorem V_ishl {x y z : Int} (C : CX p s m args c D d cc nL own) (hdg : decode cc pc = .ok (.ishl, 1)) (h : iI x <<< (iI y &&& 31) = iI z) (kk : V p l e R s m args below meth c A D Q nL cells slots ws lv (pc + 1) (.int (iI z) :: st)) : V p l e R s m args below meth c A D Q nL cells slots ws lv pc (.int (iI y) :: .int (iI x) :: st) :=
  fun H locs ls hP hD hS hl => lv_ishl C.1 C.2.1 hdg (by rw [h]; exact kk H locs ls hP hD hS hl)
theorem V_ishr {x y z : Int} (C : CX p s m args c D d cc nL own) (hdg : decode cc pc = .ok (.ishr, 1)) (h : iI x >>> (iI y &&& 31) = iI z) (kk : V p l e R s m args below meth c A D Q nL cells slots ws lv (pc + 1) (.int (iI z) :: st)) : V p l e R s m args below meth c A D Q nL cells slots ws lv pc (.int (iI y) :: .int (iI x) :: st) :=
  fun H locs ls hP hD hS hl => lv_ishr C.1 C.2.1 hdg (by rw [h]; exact kk H locs ls hP hD hS hl)
theorem V_iushr {x y z : Int} (C : CX p s m args c D d cc nL own) (hdg : decode cc pc = .ok (.iushr, 1)) (h : ((iI x).toUInt32 >>> ((iI y).toUInt32 &&& Int32.toUInt32 31)).toInt32 = iI z) (kk : V p l e R s m args below meth c A D Q nL cells slots ws lv (pc + 1) (.int (iI z) :: st)) : V p l e R s m args below meth c A D Q nL cells slots ws lv pc (.int (iI y) :: .int (iI x) :: st) :=
  fun H locs ls hP hD hS hl => lv_iushr C.1 C.2.1 hdg h (kk H locs ls hP hD hS hl)
theorem V_lushr {x y z : Int} (C : CX p s m args c D d cc nL own) (hdg : decode cc pc = .ok (.lushr, 1)) (h : ((lI x).toUInt64 >>> ((iI y).toInt64.toUInt64 &&& Int64.toUInt64 63)).toInt64 = lI z) (kk : V p l e R s m args below meth c A D Q nL cells slots ws lv (pc + 1) (.long (lI z) :: st)) : V p l e R s m args below meth c A D Q nL cells slots ws lv pc (.int (iI y) :: .long (lI x) :: st) :=
  fun H locs ls hP hD hS hl => lv_lushr C.1 C.2.1 hdg h (kk H locs ls hP hD hS hl)
theorem V_lshr {x y z : Int} (C : CX p s m args c D d cc nL own) (hdg : decode cc pc = .ok (.lshr, 1)) (h : lI x >>> ((iI y).toInt64 &&& 63) = lI z) (kk : V p l e R s m args below meth c A D Q nL cells slots ws lv (pc + 1) (.long (lI z) :: st)) : V p l e R s m args below meth c A D Q nL cells slots ws lv pc (.int (iI y) :: .long (lI x) :: st) :=
  fun H locs ls hP hD hS hl => lv_lshr C.1 C.2.1 hdg h (kk H locs ls hP hD hS hl)
theorem V_lshl {x y : Int} {z : Int64} (C : CX p s m args c D d cc nL own) (hdg : decode cc pc = .ok (.lshl, 1)) (h : lI x <<< ((iI y).toInt64 &&& 63) = z) (kk : V p l e R s m args below meth c A D Q nL cells slots ws lv (pc + 1) (.long z :: st)) : V p l e R s m args below meth c A D Q nL cells slots ws lv pc (.int (iI y) :: .long (lI x) :: st) :=
  fun H locs ls hP hD hS hl => lv_lshl C.1 C.2.1 hdg h (kk H locs ls hP hD hS hl)
theorem V_land {x y : Int64} (C : CX p s m args c D d cc nL own) (hdg : decode cc pc = .ok (.land, 1)) (kk : V p l e R s m args below meth c A D Q nL cells slots ws lv (pc + 1) (.long (x &&& y) :: st)) : V p l e R s m args below meth c A D Q nL cells slots ws lv pc (.long y :: .long x :: st) :=
  fun H locs ls hP hD hS hl => lv_land C.1 C.2.1 hdg (kk H locs ls hP hD hS hl)
theorem V_lor {x y : Int64} {z : Int} (C : CX p s m args c D d cc nL own) (hdg : decode cc pc = .ok (.lor, 1)) (h : x ||| y = lI z) (kk : V p l e R s m args below meth c A D Q nL cells slots ws lv (pc + 1) (.long (lI z) :: st)) : V p l e R s m args below meth c A D Q nL cells slots ws lv pc (.long y :: .long x :: st) :=
  fun H locs ls hP hD hS hl => lv_lor C.1 C.2.1 hdg (by rw [h]; exact kk H locs ls hP hD hS hl)
theorem V_i2l {x : Int} (C : CX p s m args c D d cc nL own) (hdg : decode cc pc = .ok (.i2l, 1)) (h : sm x) (kk : V p l e R s m args below meth c A D Q nL cells slots ws lv (pc + 1) (.long (lI x) :: st)) : V p l e R s m args below meth c A D Q nL cells slots ws lv pc (.int (iI x) :: st) :=
  fun H locs ls hP hD hS hl => lv_i2l C.1 C.2.1 hdg (iI_l h) (kk H locs ls hP hD hS hl)
theorem V_l2i {x : Int} (C : CX p s m args c D d cc nL own) (hdg : decode cc pc = .ok (.l2i, 1)) (kk : V p l e R s m args below meth c A D Q nL cells slots ws lv (pc + 1) (.int (iI x) :: st)) : V p l e R s m args below meth c A D Q nL cells slots ws lv pc (.long (lI x) :: st) :=
  fun H locs ls hP hD hS hl => lv_l2i C.1 C.2.1 hdg (lI_i x) (kk H locs ls hP hD hS hl)
theorem V_lcmp {x y : Int} (C : CX p s m args c D d cc nL own) (hdg : decode cc pc = .ok (.lcmp, 1)) (hx : sL x) (hy : sL y) (kk : V p l e R s m args below meth c A D Q nL cells slots ws lv (pc + 1) (.int (iI (cmpI x y)) :: st)) : V p l e R s m args below meth c A D Q nL cells slots ws lv pc (.long (lI y) :: .long (lI x) :: st) :=
  fun H locs ls hP hD hS hl => W.lcmp C.1 C.2.1 hdg (by rw [lI_cmp hx hy]; exact kk H locs ls hP hD hS hl)
theorem V_dup {v : Value} (C : CX p s m args c D d cc nL own) (hdg : decode cc pc = .ok (.dup, 1)) (hv : v.category = 1) (kk : V p l e R s m args below meth c A D Q nL cells slots ws lv (pc + 1) (v :: v :: st)) : V p l e R s m args below meth c A D Q nL cells slots ws lv pc (v :: st) :=
  fun H locs ls hP hD hS hl => lv_dup C.1 C.2.1 hdg hv (kk H locs ls hP hD hS hl)
theorem V_dup2 {v w : Value} (C : CX p s m args c D d cc nL own) (hdg : decode cc pc = .ok (.dup2, 1)) (hv : v.category = 1) (hw : w.category = 1) (kk : V p l e R s m args below meth c A D Q nL cells slots ws lv (pc + 1) (v :: w :: v :: w :: st)) : V p l e R s m args below meth c A D Q nL cells slots ws lv pc (v :: w :: st) :=
  fun H locs ls hP hD hS hl => lv_dup2_11 C.1 C.2.1 hdg hv hw (kk H locs ls hP hD hS hl)
theorem V_goto {off : Int} (tgt : Nat) (C : CX p s m args c D d cc nL own) (hdg : decode cc pc = .ok (.goto off, 3)) (ht : (pc : Int) + off = (tgt : Int)) (kk : V p l e R s m args below meth c A D Q nL cells slots ws lv tgt st) : V p l e R s m args below meth c A D Q nL cells slots ws lv pc st :=
  fun H locs ls hP hD hS hl => lv_goto C.1 C.2.1 hdg ht (kk H locs ls hP hD hS hl)
theorem V_if_eq {x : Int} {off : Int} (tgt : Nat) (C : CX p s m args c D d cc nL own) (hdg : decode cc pc = .ok (.ifCond .eq off, 3)) (ht : (pc : Int) + off = (tgt : Int)) (hx : sm x) (kt : x = 0 → V p l e R s m args below meth c A D Q nL cells slots ws lv tgt st) (kf : ¬ x = 0 → V p l e R s m args below meth c A D Q nL cells slots ws lv (pc + 3) st) : V p l e R s m args below meth c A D Q nL cells slots ws lv pc (.int (iI x) :: st) :=
  fun H locs ls hP hD hS hl => lv_if_eq C.1 C.2.1 hdg ht (fun z => (fun z => kt ((iI_eq hx sm0).mp z)) z H locs ls hP hD hS hl) (fun z => (fun z => kf (fun w => z ((iI_eq hx sm0).mpr w))) z H locs ls hP hD hS hl)
theorem V_ifb_eq {P : Prop} [Decidable P] {off : Int} (tgt : Nat) (C : CX p s m args c D d cc nL own) (hdg : decode cc pc = .ok (.ifCond .eq off, 3)) (ht : (pc : Int) + off = (tgt : Int)) (kt : ¬ P → V p l e R s m args below meth c A D Q nL cells slots ws lv tgt st) (kf : P → V p l e R s m args below meth c A D Q nL cells slots ws lv (pc + 3) st) : V p l e R s m args below meth c A D Q nL cells slots ws lv pc (.int (iI (bI P)) :: st) :=
  V_if_eq tgt C hdg ht ⟨by have := (bI_01 (P := P)).1; omega, by have := (bI_01 (P := P)).2; omega⟩ (fun z => kt (bI_0.mp z)) (fun z => kf (Classical.not_not.mp (fun w => z (bI_0.mpr w))))
theorem V_ifc_eq {x y : Int} {off : Int} (tgt : Nat) (C : CX p s m args c D d cc nL own) (hdg : decode cc pc = .ok (.ifCond .eq off, 3)) (ht : (pc : Int) + off = (tgt : Int)) (kt : x = y → V p l e R s m args below meth c A D Q nL cells slots ws lv tgt st) (kf : ¬ x = y → V p l e R s m args below meth c A D Q nL cells slots ws lv (pc + 3) st) : V p l e R s m args below meth c A D Q nL cells slots ws lv pc (.int (iI (cmpI x y)) :: st) :=
  V_if_eq tgt C hdg ht (cmpI_sm x y) (fun z => kt ((cmpI_eq x y).mp z)) (fun z => kf (fun w => z ((cmpI_eq x y).mpr w)))
theorem V_icmp_eq {x y : Int} {off : Int} (tgt : Nat) (C : CX p s m args c D d cc nL own) (hdg : decode cc pc = .ok (.if_icmp .eq off, 3)) (ht : (pc : Int) + off = (tgt : Int)) (hx : sm x) (hy : sm y) (kt : x = y → V p l e R s m args below meth c A D Q nL cells slots ws lv tgt st) (kf : ¬ x = y → V p l e R s m args below meth c A D Q nL cells slots ws lv (pc + 3) st) : V p l e R s m args below meth c A D Q nL cells slots ws lv pc (.int (iI y) :: .int (iI x) :: st) :=
  fun H locs ls hP hD hS hl => lv_icmp_eq C.1 C.2.1 hdg ht (fun z => (fun z => kt ((iI_eq hx hy).mp z)) z H locs ls hP hD hS hl) (fun z => (fun z => kf (fun w => z ((iI_eq hx hy).mpr w))) z H locs ls hP hD hS hl)
theorem V_if_ne {x : Int} {off : Int} (tgt : Nat) (C : CX p s m args c D d cc nL own) (hdg : decode cc pc = .ok (.ifCond .ne off, 3)) (ht : (pc : Int) + off = (tgt : Int)) (hx : sm x) (kt : ¬ x = 0 → V p l e R s m args below meth c A D Q nL cells slots ws lv tgt st) (kf : x = 0 → V p l e R s m args below meth c A D Q nL cells slots ws lv (pc + 3) st) : V p l e R s m args below meth c A D Q nL cells slots ws lv pc (.int (iI x) :: st) :=
  fun H locs ls hP hD hS hl => lv_if_ne C.1 C.2.1 hdg ht (fun z => (fun z => kt (fun w => z ((iI_eq hx sm0).mpr w))) z H locs ls hP hD hS hl) (fun z => (fun z => kf ((iI_eq hx sm0).mp z)) z H locs ls hP hD hS hl)
theorem V_ifb_ne {P : Prop} [Decidable P] {off : Int} (tgt : Nat) (C : CX p s m args c D d cc nL own) (hdg : decode cc pc = .ok (.ifCond .ne off, 3)) (ht : (pc : Int) + off = (tgt : Int)) (kt : P → V p l e R s m args below meth c A D Q nL cells slots ws lv tgt st) (kf : ¬ P → V p l e R s m args below meth c A D Q nL cells slots ws lv (pc + 3) st) : V p l e R s m args below meth c A D Q nL cells slots ws lv pc (.int (iI (bI P)) :: st) :=
  V_if_ne tgt C hdg ht ⟨by have := (bI_01 (P := P)).1; omega, by have := (bI_01 (P := P)).2; omega⟩ (fun z => kt (Classical.not_not.mp (fun w => z (bI_0.mpr w)))) (fun z => kf (bI_0.mp z))
theorem V_ifc_ne {x y : Int} {off : Int} (tgt : Nat) (C : CX p s m args c D d cc nL own) (hdg : decode cc pc = .ok (.ifCond .ne off, 3)) (ht : (pc : Int) + off = (tgt : Int)) (kt : ¬ x = y → V p l e R s m args below meth c A D Q nL cells slots ws lv tgt st) (kf : x = y → V p l e R s m args below meth c A D Q nL cells slots ws lv (pc + 3) st) : V p l e R s m args below meth c A D Q nL cells slots ws lv pc (.int (iI (cmpI x y)) :: st) :=
  V_if_ne tgt C hdg ht (cmpI_sm x y) (fun z => kt (fun w => z ((cmpI_eq x y).mpr w))) (fun z => kf ((cmpI_eq x y).mp z))
theorem V_icmp_ne {x y : Int} {off : Int} (tgt : Nat) (C : CX p s m args c D d cc nL own) (hdg : decode cc pc = .ok (.if_icmp .ne off, 3)) (ht : (pc : Int) + off = (tgt : Int)) (hx : sm x) (hy : sm y) (kt : ¬ x = y → V p l e R s m args below meth c A D Q nL cells slots ws lv tgt st) (kf : x = y → V p l e R s m args below meth c A D Q nL cells slots ws lv (pc + 3) st) : V p l e R s m args below meth c A D Q nL cells slots ws lv pc (.int (iI y) :: .int (iI x) :: st) :=
  fun H locs ls hP hD hS hl => lv_icmp_ne C.1 C.2.1 hdg ht (fun z => (fun z => kt (fun w => z ((iI_eq hx hy).mpr w))) z H locs ls hP hD hS hl) (fun z => (fun z => kf ((iI_eq hx hy).mp z)) z H locs ls hP hD hS hl)
theorem V_if_lt {x : Int} {off : Int} (tgt : Nat) (C : CX p s m args c D d cc nL own) (hdg : decode cc pc = .ok (.ifCond .lt off, 3)) (ht : (pc : Int) + off = (tgt : Int)) (hx : sm x) (kt : x < 0 → V p l e R s m args below meth c A D Q nL cells slots ws lv tgt st) (kf : 0 ≤ x → V p l e R s m args below meth c A D Q nL cells slots ws lv (pc + 3) st) : V p l e R s m args below meth c A D Q nL cells slots ws lv pc (.int (iI x) :: st) :=
  fun H locs ls hP hD hS hl => lv_if_lt C.1 C.2.1 hdg ht (fun z => (fun z => kt ((iI_lt hx sm0).mp z)) z H locs ls hP hD hS hl) (fun z => (fun z => kf (by have := mt (iI_lt hx sm0).mpr z; omega)) z H locs ls hP hD hS hl)
theorem V_ifc_lt {x y : Int} {off : Int} (tgt : Nat) (C : CX p s m args c D d cc nL own) (hdg : decode cc pc = .ok (.ifCond .lt off, 3)) (ht : (pc : Int) + off = (tgt : Int)) (kt : x < y → V p l e R s m args below meth c A D Q nL cells slots ws lv tgt st) (kf : y ≤ x → V p l e R s m args below meth c A D Q nL cells slots ws lv (pc + 3) st) : V p l e R s m args below meth c A D Q nL cells slots ws lv pc (.int (iI (cmpI x y)) :: st) :=
  V_if_lt tgt C hdg ht (cmpI_sm x y) (fun z => kt ((cmpI_lt x y).mp z)) (fun z => kf (by have := mt (cmpI_lt x y).mpr (by omega); omega))
theorem V_icmp_lt {x y : Int} {off : Int} (tgt : Nat) (C : CX p s m args c D d cc nL own) (hdg : decode cc pc = .ok (.if_icmp .lt off, 3)) (ht : (pc : Int) + off = (tgt : Int)) (hx : sm x) (hy : sm y) (kt : x < y → V p l e R s m args below meth c A D Q nL cells slots ws lv tgt st) (kf : y ≤ x → V p l e R s m args below meth c A D Q nL cells slots ws lv (pc + 3) st) : V p l e R s m args below meth c A D Q nL cells slots ws lv pc (.int (iI y) :: .int (iI x) :: st) :=
  fun H locs ls hP hD hS hl => lv_icmp_lt C.1 C.2.1 hdg ht (fun z => (fun z => kt ((iI_lt hx hy).mp z)) z H locs ls hP hD hS hl) (fun z => (fun z => kf (by have := mt (iI_lt hx hy).mpr z; omega)) z H locs ls hP hD hS hl)
theorem V_if_ge {x : Int} {off : Int} (tgt : Nat) (C : CX p s m args c D d cc nL own) (hdg : decode cc pc = .ok (.ifCond .ge off, 3)) (ht : (pc : Int) + off = (tgt : Int)) (hx : sm x) (kt : 0 ≤ x → V p l e R s m args below meth c A D Q nL cells slots ws lv tgt st) (kf : x < 0 → V p l e R s m args below meth c A D Q nL cells slots ws lv (pc + 3) st) : V p l e R s m args below meth c A D Q nL cells slots ws lv pc (.int (iI x) :: st) :=
  fun H locs ls hP hD hS hl => lv_if_ge C.1 C.2.1 hdg ht (fun z => (fun z => kt ((iI_le sm0 hx).mp z)) z H locs ls hP hD hS hl) (fun z => (fun z => kf (by have := mt (iI_le sm0 hx).mpr z; omega)) z H locs ls hP hD hS hl)
theorem V_ifc_ge {x y : Int} {off : Int} (tgt : Nat) (C : CX p s m args c D d cc nL own) (hdg : decode cc pc = .ok (.ifCond .ge off, 3)) (ht : (pc : Int) + off = (tgt : Int)) (kt : y ≤ x → V p l e R s m args below meth c A D Q nL cells slots ws lv tgt st) (kf : x < y → V p l e R s m args below meth c A D Q nL cells slots ws lv (pc + 3) st) : V p l e R s m args below meth c A D Q nL cells slots ws lv pc (.int (iI (cmpI x y)) :: st) :=
  V_if_ge tgt C hdg ht (cmpI_sm x y) (fun z => kt (by have := mt (cmpI_lt x y).mpr (by omega); omega)) (fun z => kf ((cmpI_lt x y).mp z))
theorem V_icmp_ge {x y : Int} {off : Int} (tgt : Nat) (C : CX p s m args c D d cc nL own) (hdg : decode cc pc = .ok (.if_icmp .ge off, 3)) (ht : (pc : Int) + off = (tgt : Int)) (hx : sm x) (hy : sm y) (kt : y ≤ x → V p l e R s m args below meth c A D Q nL cells slots ws lv tgt st) (kf : x < y → V p l e R s m args below meth c A D Q nL cells slots ws lv (pc + 3) st) : V p l e R s m args below meth c A D Q nL cells slots ws lv pc (.int (iI y) :: .int (iI x) :: st) :=
  fun H locs ls hP hD hS hl => lv_icmp_ge C.1 C.2.1 hdg ht (fun z => (fun z => kt ((iI_le hy hx).mp z)) z H locs ls hP hD hS hl) (fun z => (fun z => kf (by have := mt (iI_le hy hx).mpr z; omega)) z H locs ls hP hD hS hl)
theorem V_if_gt {x : Int} {off : Int} (tgt : Nat) (C : CX p s m args c D d cc nL own) (hdg : decode cc pc = .ok (.ifCond .gt off, 3)) (ht : (pc : Int) + off = (tgt : Int)) (hx : sm x) (kt : 0 < x → V p l e R s m args below meth c A D Q nL cells slots ws lv tgt st) (kf : x ≤ 0 → V p l e R s m args below meth c A D Q nL cells slots ws lv (pc + 3) st) : V p l e R s m args below meth c A D Q nL cells slots ws lv pc (.int (iI x) :: st) :=
  fun H locs ls hP hD hS hl => lv_if_gt C.1 C.2.1 hdg ht (fun z => (fun z => kt ((iI_lt sm0 hx).mp z)) z H locs ls hP hD hS hl) (fun z => (fun z => kf (by have := mt (iI_lt sm0 hx).mpr z; omega)) z H locs ls hP hD hS hl)
theorem V_ifc_gt {x y : Int} {off : Int} (tgt : Nat) (C : CX p s m args c D d cc nL own) (hdg : decode cc pc = .ok (.ifCond .gt off, 3)) (ht : (pc : Int) + off = (tgt : Int)) (kt : y < x → V p l e R s m args below meth c A D Q nL cells slots ws lv tgt st) (kf : x ≤ y → V p l e R s m args below meth c A D Q nL cells slots ws lv (pc + 3) st) : V p l e R s m args below meth c A D Q nL cells slots ws lv pc (.int (iI (cmpI x y)) :: st) :=
  V_if_gt tgt C hdg ht (cmpI_sm x y) (fun z => kt (by have := mt (cmpI_le x y).mpr (by omega); omega)) (fun z => kf ((cmpI_le x y).mp z))
theorem V_icmp_gt {x y : Int} {off : Int} (tgt : Nat) (C : CX p s m args c D d cc nL own) (hdg : decode cc pc = .ok (.if_icmp .gt off, 3)) (ht : (pc : Int) + off = (tgt : Int)) (hx : sm x) (hy : sm y) (kt : y < x → V p l e R s m args below meth c A D Q nL cells slots ws lv tgt st) (kf : x ≤ y → V p l e R s m args below meth c A D Q nL cells slots ws lv (pc + 3) st) : V p l e R s m args below meth c A D Q nL cells slots ws lv pc (.int (iI y) :: .int (iI x) :: st) :=
  fun H locs ls hP hD hS hl => lv_icmp_gt C.1 C.2.1 hdg ht (fun z => (fun z => kt ((iI_lt hy hx).mp z)) z H locs ls hP hD hS hl) (fun z => (fun z => kf (by have := mt (iI_lt hy hx).mpr z; omega)) z H locs ls hP hD hS hl)
theorem V_if_le {x : Int} {off : Int} (tgt : Nat) (C : CX p s m args c D d cc nL own) (hdg : decode cc pc = .ok (.ifCond .le off, 3)) (ht : (pc : Int) + off = (tgt : Int)) (hx : sm x) (kt : x ≤ 0 → V p l e R s m args below meth c A D Q nL cells slots ws lv tgt st) (kf : 0 < x → V p l e R s m args below meth c A D Q nL cells slots ws lv (pc + 3) st) : V p l e R s m args below meth c A D Q nL cells slots ws lv pc (.int (iI x) :: st) :=
  fun H locs ls hP hD hS hl => lv_if_le C.1 C.2.1 hdg ht (fun z => (fun z => kt ((iI_le hx sm0).mp z)) z H locs ls hP hD hS hl) (fun z => (fun z => kf (by have := mt (iI_le hx sm0).mpr z; omega)) z H locs ls hP hD hS hl)
theorem V_ifc_le {x y : Int} {off : Int} (tgt : Nat) (C : CX p s m args c D d cc nL own) (hdg : decode cc pc = .ok (.ifCond .le off, 3)) (ht : (pc : Int) + off = (tgt : Int)) (kt : x ≤ y → V p l e R s m args below meth c A D Q nL cells slots ws lv tgt st) (kf : y < x → V p l e R s m args below meth c A D Q nL cells slots ws lv (pc + 3) st) : V p l e R s m args below meth c A D Q nL cells slots ws lv pc (.int (iI (cmpI x y)) :: st) :=
  V_if_le tgt C hdg ht (cmpI_sm x y) (fun z => kt ((cmpI_le x y).mp z)) (fun z => kf (by have := mt (cmpI_le x y).mpr (by omega); omega))
theorem V_icmp_le {x y : Int} {off : Int} (tgt : Nat) (C : CX p s m args c D d cc nL own) (hdg : decode cc pc = .ok (.if_icmp .le off, 3)) (ht : (pc : Int) + off = (tgt : Int)) (hx : sm x) (hy : sm y) (kt : x ≤ y → V p l e R s m args below meth c A D Q nL cells slots ws lv tgt st) (kf : y < x → V p l e R s m args below meth c A D Q nL cells slots ws lv (pc + 3) st) : V p l e R s m args below meth c A D Q nL cells slots ws lv pc (.int (iI y) :: .int (iI x) :: st) :=
  fun H locs ls hP hD hS hl => lv_icmp_le C.1 C.2.1 hdg ht (fun z => (fun z => kt ((iI_le hx hy).mp z)) z H locs ls hP hD hS hl) (fun z => (fun z => kf (by have := mt (iI_le hx hy).mpr z; omega)) z H locs ls hP hD hS hl)
theorem V_tswIn {x k : Int} {dflt lo hi : Int} {offs : Array Int} {len : Nat} {off : Int} (tgt : Nat) (C : CX p s m args c D d cc nL own) (hdg : decode cc pc = .ok (.tableswitch dflt lo hi offs, len)) (hx : x = k) (hk : sm k) (h1 : lo ≤ k) (h2 : k ≤ hi) (ho : offs[(k - lo).toNat]? = some off) (ht : (pc : Int) + off = (tgt : Int)) (kk : V p l e R s m args below meth c A D Q nL cells slots ws lv tgt st) : V p l e R s m args below meth c A D Q nL cells slots ws lv pc (.int (iI x) :: st) := by
  subst hx
  have e : (iI x).toInt = x := iI_toInt hk.1 hk.2
  exact fun H locs ls hP hD hS hl => lv_tableIn C.1 C.2.1 hdg (by rw [e]; omega) (by rw [e]; omega) (by rw [e]; exact ho) ht (kk H locs ls hP hD hS hl)
theorem V_tswOut {x : Int} {dflt lo hi : Int} {offs : Array Int} {len : Nat} (tgt : Nat) (C : CX p s m args c D d cc nL own) (hdg : decode cc pc = .ok (.tableswitch dflt lo hi offs, len)) (hk : sm x) (h : x < lo ∨ hi < x) (ht : (pc : Int) + dflt = (tgt : Int)) (kk : V p l e R s m args below meth c A D Q nL cells slots ws lv tgt st) : V p l e R s m args below meth c A D Q nL cells slots ws lv pc (.int (iI x) :: st) := by
  have e : (iI x).toInt = x := iI_toInt hk.1 hk.2
  exact fun H locs ls hP hD hS hl => lv_tableOut C.1 C.2.1 hdg (by rw [e]; exact h) ht (kk H locs ls hP hD hS hl)
theorem aI_at {n : Nat} {f : Int → Int} {i : Int} (h0 : 0 ≤ i) (h1 : i < n) (hn : n < 2147483648) : iI (f ((iI i).toNatClampNeg : Int)) = iI (f i) := by
  rw [iI_nat h0 (by omega), Int.toNat_of_nonneg h0]
theorem aI_up {n : Nat} {f : Int → Int} {i x : Int} (h0 : 0 ≤ i) (h1 : i < n) (hn : n < 2147483648) : upd (fun j : Nat => iI (f (j : Int))) (iI i).toNatClampNeg (iI x) = fun j : Nat => iI (uI f i x (j : Int)) := by
  rw [iI_nat h0 (by omega)]
  funext j
  unfold upd uI
  by_cases h : j = i.toNat
  · rw [if_pos h, if_pos (by omega)]
  · rw [if_neg h, if_neg (by omega)]
theorem V_iald {a n : Nat} {f : Int → Int} {i : Int} (C : CX p s m args c D d cc nL own) (hdg : decode cc pc = .ok (.iaload, 1)) (q0 : Nat) (ha : ws[q0]? = some (a, aI (d 0) n f)) (h0 : 0 ≤ i) (h1 : i < n) (hn : n < 2147483648) (kk : V p l e R s m args below meth c A D Q nL cells slots ws lv (pc + 1) (.int (iI (f i)) :: st)) : V p l e R s m args below meth c A D Q nL cells slots ws lv pc (.int (iI i) :: .ref a :: st) :=
  fun H locs ls hP hD hS hl => va_iald C.1 C.2.1 C.2.2.2.2.2.1 hP q0 0 ha rfl (iI_in h0 h1 hn) hdg (by rw [aI_at h0 h1 hn]; exact kk H locs ls hP hD hS hl)
theorem V_zald {a n : Nat} {f : Int → Int} {i : Int} (C : CX p s m args c D d cc nL own) (hdg : decode cc pc = .ok (.baload, 1)) (q0 : Nat) (ha : ws[q0]? = some (a, aI (d 1) n f)) (h0 : 0 ≤ i) (h1 : i < n) (hn : n < 2147483648) (kk : V p l e R s m args below meth c A D Q nL cells slots ws lv (pc + 1) (.int (iI (f i)) :: st)) : V p l e R s m args below meth c A D Q nL cells slots ws lv pc (.int (iI i) :: .ref a :: st) :=
  fun H locs ls hP hD hS hl => va_zald C.1 C.2.1 C.2.2.2.2.2.1 hP q0 1 ha rfl (iI_in h0 h1 hn) hdg (by rw [aI_at h0 h1 hn]; exact kk H locs ls hP hD hS hl)
theorem V_iast {a n : Nat} {f : Int → Int} {i x : Int} {ws' : va_W} (C : CX p s m args c D d cc nL own) (hdg : decode cc pc = .ok (.iastore, 1)) (q0 : Nat) (ha : ws[q0]? = some (a, aI (d 0) n f)) (h0 : 0 ≤ i) (h1 : i < n) (hn : n < 2147483648) (hw : ws.set q0 (a, aI (d 0) n (uI f i x)) = ws') (kk : V p l e R s m args below meth c A D Q nL cells slots ws' lv (pc + 1) st) : V p l e R s m args below meth c A D Q nL cells slots ws lv pc (.int (iI x) :: .int (iI i) :: .ref a :: st) := by
  subst hw
  refine fun H locs ls hP hD hS hl => va_iast C.1 C.2.1 C.2.2.2.2.2.1 hP hD hS q0 0 ha rfl (iI_in h0 h1 hn) hdg (fun H1 locs1 hP1 hD1 hS1 => ?_)
  rw [aI_up h0 h1 hn] at hP1 hD1
  exact kk H1 locs1 ls hP1 hD1 hS1 hl
theorem nar_b {x : Int} (h : x = 0 ∨ x = 1) : vp_nar .boolean (iI x) = iI x := by
  rcases h with rfl | rfl <;> decide
theorem V_zast {a n : Nat} {f : Int → Int} {i x : Int} {ws' : va_W} (C : CX p s m args c D d cc nL own) (hdg : decode cc pc = .ok (.bastore, 1)) (q0 : Nat) (ha : ws[q0]? = some (a, aI (d 1) n f)) (h0 : 0 ≤ i) (h1 : i < n) (hn : n < 2147483648) (hx : x = 0 ∨ x = 1) (hw : ws.set q0 (a, aI (d 1) n (uI f i x)) = ws') (kk : V p l e R s m args below meth c A D Q nL cells slots ws' lv (pc + 1) st) : V p l e R s m args below meth c A D Q nL cells slots ws lv pc (.int (iI x) :: .int (iI i) :: .ref a :: st) := by
  subst hw
  refine fun H locs ls hP hD hS hl => va_zast C.1 C.2.1 C.2.2.2.2.2.1 hP hD hS q0 1 ha rfl (iI_in h0 h1 hn) hdg (fun H1 locs1 hP1 hD1 hS1 => ?_)
  rw [nar_b hx, aI_up h0 h1 hn] at hP1 hD1
  exact kk H1 locs1 ls hP1 hD1 hS1 hl
theorem V_alen {a n : Nat} {f : Int → Int} (C : CX p s m args c D d cc nL own) (hdg : decode cc pc = .ok (.arraylength, 1)) (q0 : Nat) (ha : ws[q0]? = some (a, aI (d 0) n f)) (kk : V p l e R s m args below meth c A D Q nL cells slots ws lv (pc + 1) (.int (iI n) :: st)) : V p l e R s m args below meth c A D Q nL cells slots ws lv pc (.ref a :: st) :=
  fun H locs ls hP hD hS hl => va_alen C.1 C.2.1 C.2.2.2.2.2.1 hP q0 0 ha rfl (v := iI n) (Int32.ofInt_eq_ofNat.symm) hdg (kk H locs ls hP hD hS hl)
theorem V_get {C0 : String} {T : u_T} {N ci index a : Nat} (hin : ∀ w ∈ u_ws C0 T N, w ∈ gtb) (hc : vwCl[ci]? = some (C0, T, N)) (k : Nat) (hk : k < N) (hw : Cond.fieldLink own index (T k).1 (T k).2.1 (T k).2.2.1 ∈ gtb) (C : CX p s m args c D d cc nL own) (hdg : decode cc pc = .ok (.getfield index, 3)) (q0 : Nat) {fs : List Value} (he : ws[q0]? = some (a, .inr (ci, fs))) {v : Value} (hv : fs[k]? = some v) (kk : V p l e R s m args below meth c A D Q nL cells slots ws lv (pc + 3) (v :: st)) : V p l e R s m args below meth c A D Q nL cells slots ws lv pc (.ref a :: st) :=
  fun H locs ls hP hD hS hl => va_get C.1 C.2.1 C.2.2.2.2.1 hin C.2.2.2.1 C.2.2.2.2.2.1 hP q0 he hc k hk (C.2.2.2.2.1 _ hw) (fun _ h9 => h9) hv hdg (kk H locs ls hP hD hS hl)
theorem V_put {C0 : String} {T : u_T} {N ci index a : Nat} (hin : ∀ w ∈ u_ws C0 T N, w ∈ gtb) (ty0 : Nat → FieldType) (hty : ∀ k, k < N → parseFieldDescriptor (T k).2.2.1 = some (ty0 k)) (hnm : ∀ a, a < N → ∀ b, b < N → a ≠ b → (T a).2.1 ≠ (T b).2.1) (hc : vwCl[ci]? = some (C0, T, N)) (k : Nat) (hk : k < N) (hw : Cond.fieldLink own index (T k).1 (T k).2.1 (T k).2.2.1 ∈ gtb) (hfin : (T k).2.2.2 = false) {ty : FieldType} (hd : parseFieldDescriptor (T k).2.2.1 = some ty) (C : CX p s m args c D d cc nL own) (hdg : decode cc pc = .ok (.putfield index, 3)) (q0 : Nat) {fs fs' : List Value} (he : ws[q0]? = some (a, .inr (ci, fs))) {v : Value} (hn : narrow ty v = v) (hfit : fits ty v = true) (hlen : k < fs.length) (hset : fs.set k v = fs') {ws' : va_W} (hws : ws.set q0 (a, .inr (ci, fs')) = ws') (kk : V p l e R s m args below meth c A D Q nL cells slots ws' lv (pc + 3) st) : V p l e R s m args below meth c A D Q nL cells slots ws lv pc (v :: .ref a :: st) := by
  subst hset
  subst hws
  exact fun H locs ls hP hD hS hl => va_put C.1 C.2.1 C.2.2.2.2.1 hin ty0 hty hnm C.2.2.2.1 C.2.2.2.2.2.1 hP hD hS q0 he hc k hk (C.2.2.2.2.1 _ hw) (fun _ h9 => h9) hfin hd hn hfit hlen hdg (fun H1 locs1 hP1 hD1 hS1 => kk H1 locs1 ls hP1 hD1 hS1 hl)
theorem V_mmin {index : Nat} {x y : Int} (C : CX p s m args c D d cc nL own) (hlink : Cond.methodLink own index Lib.Math.min.name ∈ gtb) (hstat : Cond.static Lib.Math.min.name ∈ gtb) (hini : Cond.initialized "java/lang/Math" ∈ gtb) (hcode : Cond.code Lib.Math.min.name Lib.Math.min.code 2 (some .int) ∈ gtb) (hdg : decode cc pc = .ok (.invokestatic index, 3)) (hx : sm x) (hy : sm y) (hframes : 1 ≤ R.frames) (hlocals : (st.map fun v => v.category).sum + 13 ≤ R.locals) (hcs : cells ≤ R.cells) (hss : slots ≤ R.slots) (kk : V p l e R s m args below meth c A D Q nL cells slots ws lv (pc + 3) (.int (iI (min x y)) :: st)) : V p l e R s m args below meth c A D Q nL cells slots ws lv pc (.int (iI y) :: .int (iI x) :: st) :=
  fun H locs ls hP hD hS hl => va_mmin C.1 C.2.1 (C.2.2.1.trans hl.1.symm) C.2.2.2.1 (C.2.2.2.2.1 _ hlink) (C.2.2.2.2.1 _ hstat) (C.2.2.2.2.1 _ hini) (C.2.2.2.2.1 _ hcode) hframes hlocals hcs hss hdg (by
    have hh : (if iI y < iI x then iI y else iI x) = iI (min x y) := by
      by_cases h : y < x
      · rw [if_pos ((iI_lt hy hx).mpr h), Int.min_eq_right (by omega)]
      · rw [if_neg (fun z => h ((iI_lt hy hx).mp z)), Int.min_eq_left (by omega)]
    rw [hh]; exact kk H locs ls hP hD hS hl)
theorem V_mmax {index : Nat} {x y : Int} (C : CX p s m args c D d cc nL own) (hlink : Cond.methodLink own index Lib.Math.max.name ∈ gtb) (hstat : Cond.static Lib.Math.max.name ∈ gtb) (hini : Cond.initialized "java/lang/Math" ∈ gtb) (hcode : Cond.code Lib.Math.max.name Lib.Math.max.code 2 (some .int) ∈ gtb) (hdg : decode cc pc = .ok (.invokestatic index, 3)) (hx : sm x) (hy : sm y) (hframes : 1 ≤ R.frames) (hlocals : (st.map fun v => v.category).sum + 13 ≤ R.locals) (hcs : cells ≤ R.cells) (hss : slots ≤ R.slots) (kk : V p l e R s m args below meth c A D Q nL cells slots ws lv (pc + 3) (.int (iI (max x y)) :: st)) : V p l e R s m args below meth c A D Q nL cells slots ws lv pc (.int (iI y) :: .int (iI x) :: st) :=
  fun H locs ls hP hD hS hl => va_mmax C.1 C.2.1 (C.2.2.1.trans hl.1.symm) C.2.2.2.1 (C.2.2.2.2.1 _ hlink) (C.2.2.2.2.1 _ hstat) (C.2.2.2.2.1 _ hini) (C.2.2.2.2.1 _ hcode) hframes hlocals hcs hss hdg (by
    have hh : (if iI x < iI y then iI y else iI x) = iI (max x y) := by
      by_cases h : x < y
      · rw [if_pos ((iI_lt hx hy).mpr h), Int.max_eq_right (by omega)]
      · rw [if_neg (fun z => h ((iI_lt hx hy).mp z)), Int.max_eq_left (by omega)]
    rw [hh]; exact kk H locs ls hP hD hS hl)
end VV
/-- ws, with the cells of w1 at the places is -/
def wput (ws : va_W) (is : List Nat) (w1 : va_W) : va_W := (is.zip w1).foldl (fun w q => w.set q.1 q.2) ws
theorem wput_spec : ∀ (is : List Nat) (w0 w1 ws : va_W), is.map (fun i => ws[i]?) = w0.map some → va_nd is = true → w1.map Prod.fst = w0.map Prod.fst →
    ∀ (k : Nat) (q : Nat × va_E), (wput ws is w1)[k]? = some q → (∃ (j : Nat) (q0 : Nat × va_E), is[j]? = some k ∧ w1[j]? = some q ∧ ws[k]? = some q0 ∧ q0.1 = q.1) ∨ (k ∉ is ∧ ws[k]? = some q)
  | [], w0, w1, ws, h0, _, _, k, q, h => by
    exact Or.inr ⟨List.not_mem_nil, h⟩
  | i :: is, w0, w1, ws, h0, hn, h1, k, q, h => by
    cases w0 with
    | nil => simp at h0
    | cons a w0 =>
      cases w1 with
      | nil => simp at h1
      | cons b w1 =>
        simp only [List.map_cons, List.cons.injEq] at h0 h1
        simp only [va_nd, Bool.and_eq_true, decide_eq_true_eq] at hn
        have h : (wput (ws.set i b) is w1)[k]? = some q := h
        have hs : is.map (fun j => (ws.set i b)[j]?) = w0.map some := by
          rw [← h0.2]
          apply List.map_congr_left
          intro j hj
          rw [List.getElem?_set_ne (show i ≠ j from fun e => hn.1 (by rw [e]; exact hj))]
        have hil : i < ws.length := (List.getElem?_eq_some_iff.mp h0.1).1
        rcases wput_spec is w0 w1 (ws.set i b) hs hn.2 h1.2 k q h with ⟨j, q0, g1, g2, g3, g4⟩ | ⟨g1, g2⟩
        · refine Or.inl ⟨j + 1, q0, g1, g2, ?_, g4⟩
          rw [List.getElem?_set_ne (show i ≠ k from fun e => hn.1 (by rw [e]; exact List.mem_of_getElem? g1))] at g3
          exact g3
        · by_cases hki : k = i
          · subst hki
            rw [List.getElem?_set_self hil] at g2
            cases g2
            exact Or.inl ⟨0, a, rfl, rfl, h0.1, h1.1.symm⟩
          · rw [List.getElem?_set_ne (Ne.symm hki)] at g2
            exact Or.inr ⟨fun e => (List.mem_cons.mp e).elim hki g1, g2⟩
theorem wput_ok {A : Nat → Prop} {D : va_G} {cl : List vw_C} {ws w0 w1 : va_W} {is : List Nat} {H H1 : Heap} (hP : va_P D cl ws H) (hD : va_D A ws) (hsub : is.map (fun i => ws[i]?) = w0.map some) (hn : va_nd is = true) (hadr : w1.map Prod.fst = w0.map Prod.fst) (hP1 : va_P D cl w1 H1) (hk : ∀ q : Nat, q < H.size → ¬ inW w0 q → H1[q]? = H[q]?) : va_P D cl (wput ws is w1) H1 ∧ va_D A (wput ws is w1) := by
  have at0 : ∀ (k2 : Nat) (q : Nat × va_E), w0[k2]? = some q → ∃ i, is[k2]? = some i ∧ ws[i]? = some q := by
    intro k2 q hq
    have h1 : (is.map (fun i => ws[i]?))[k2]? = some (some q) := by rw [hsub, List.getElem?_map, hq]; rfl
    rw [List.getElem?_map] at h1
    cases hi : is[k2]? with
    | none => rw [hi] at h1; cases h1
    | some i => rw [hi] at h1; exact ⟨i, rfl, Option.some.inj h1⟩
  have key : ∀ (k : Nat) (q : Nat × va_E), (wput ws is w1)[k]? = some q → ∃ q0, ws[k]? = some q0 ∧ q0.1 = q.1 := by
    intro k q hq
    rcases wput_spec is w0 w1 ws hsub hn hadr k q hq with ⟨j, q0, -, -, g3, g4⟩ | ⟨-, g2⟩
    · exact ⟨q0, g3, g4⟩
    · exact ⟨q, g2, rfl⟩
  refine ⟨fun k q hq => ?_, fun i j x y hi hj hxy => ?_, fun k q hq => ?_⟩
  · rcases wput_spec is w0 w1 ws hsub hn hadr k q hq with ⟨j, q0, g1, g2, -, -⟩ | ⟨g1, g2⟩
    · exact hP1 j q g2
    · refine (hP k q g2).kept (hk q.1 (hP k q g2).lt ?_)
      rintro ⟨k2, e, h⟩
      obtain ⟨i, h3, h4⟩ := at0 k2 (q.1, e) h
      have := hD.1 k i q (q.1, e) g2 h4 rfl
      subst this
      exact g1 (List.mem_of_getElem? h3)
  · obtain ⟨x0, h1, h2⟩ := key i x hi
    obtain ⟨y0, h3, h4⟩ := key j y hj
    exact hD.1 i j x0 y0 h1 h3 (h2.trans (hxy.trans h4.symm))
  · obtain ⟨q0, h1, h2⟩ := key k q hq
    rw [← h2]
    exact hD.2 k q0 h1
def PU (D : va_G) (d : Nat → ClassId) (av : List Value) (ws : va_W) : Array Value → State → Prop := va_Pc av (fun U => va_P D vwCl ws U.heap ∧ KK D d U ∧ va_D (fun _ => True) ws)
def QU (D : va_G) {S : Type} (post : S → Prop) (res : S → Option Value) (ws' : S → va_W) (ws : va_W) : Array Value → State → Outcome → State → Prop := fun _ st o t => (∃ u : S, post u ∧ o = .returned (res u) ∧ va_P D vwCl (ws' u) t.heap) ∧ va_F (inW ws) st t
/-- THE CONTRACT of a method that makes nothing: out of the world ws it answers res and leaves ws', for some u of post -/
def CU {S : Type} (l : Launch) (y : MethodName) (cc : ByteArray) (nL : Nat) (ret : Option FieldType) (rf rl : Nat) (D : va_G) (d : Nat → ClassId) (av : List Value) (ws : va_W) (post : S → Prop) (res : S → Option Value) (ws' : S → va_W) : Prop :=
  Met l y (.code y cc nL ret :: gtb) { frames := rf, cells := 0, slots := 0, locals := rl } (PU D d av ws) (QU D post res ws' ws) 0 0 (inW ws)
/-- what a walk keeps of its method: what it returns, how it ends -/
def ZZ {S : Type} (meth : Method) (below : List Frame) (args : Array Value) (s : State) (A : Nat → Prop) (Q : State → Prop) (ret : Option FieldType) (D : va_G) (post : S → Prop) (res : S → Option Value) (ws' : S → va_W) (ws0 : va_W) : Prop := meth.sig.returnType = ret ∧ meth.locks = false ∧ A = inW ws0 ∧ Q = MQ below (QU D post res ws' ws0) args s 0 0 (inW ws0)
theorem CU.mk {S : Type} {l : Launch} {y : MethodName} {cc : ByteArray} {nL : Nat} {ret : Option FieldType} {rf rl : Nat} {D : va_G} {d : Nat → ClassId} {av : List Value} {ws : va_W} {post : S → Prop} {res : S → Option Value} {ws' : S → va_W} {lv : List (Nat × Value)} {own : String} (hown : y.cls = own) (hy : plainName y.cls = true) (hlen : (lg_sl av).length ≤ nL) (hlv : lv_args 0 av = lv)
    (body : ∀ (p : Program) (e : Env) (R : Room) (s : State) (m : MethodId) (args : Array Value) (below : List Frame) (meth : Method) (c : Code) (A : Nat → Prop) (Q : State → Prop), R.frames = rf → R.locals = rl → CX p s m args c D d cc nL own → ZZ meth below args s A Q ret D post res ws' ws → V p l e R s m args below meth c A D Q nL 0 0 ws lv 0 []) : CU l y cc nL ret rf rl D d av ws post res ws' := by
  subst hown
  refine Met.ofW (cc := cc) (maxL := nL) (ret := ret) hy rfl ?_
  intro p e s m args below meth c s₁ B hml hv
  obtain ⟨rfl, hP, hK, hD⟩ := hv
  have hts := atoms_spec (ws := .code y cc nL ret :: gtb) B.pre
  have hl := lv_entry av (n := nL) hlen
  rw [lg_entry_eq]
  rw [hlv] at hl
  exact body p e _ s m _ below meth c (inW ws) _ rfl rfl ⟨B.exec, B.bytes, hml, findClass_of_methodNamed B.named, fun w h => hts w (List.mem_cons_of_mem _ h), hK⟩ ⟨B.returns, B.notSynchronized, rfl, rfl⟩ s.heap [] _ hP ⟨hD.1, fun k q hk => ⟨k, q.2, hk⟩⟩ va_S.rf hl
section VC
variable {p : Program} {l : Launch} {e : Env} {R : Room} {s : State} {m : MethodId} {args : Array Value} {below : List Frame} {meth : Method} {c : Code} {A : Nat → Prop} {D : va_G} {d : Nat → ClassId} {Q : State → Prop} {cc : ByteArray} {nL : Nat} {own : String} {cells slots : Nat} {ws : va_W} {lv : List (Nat × Value)} {pc : Nat} {st : List Value}
theorem V_iret {S : Type} {post : S → Prop} {res : S → Option Value} {ws' : S → va_W} {ws0 : va_W} {x : Int32} (C : CX p s m args c D d cc nL own) (Z : ZZ meth below args s A Q (some .int) D post res ws' ws0) (hdg : decode cc pc = .ok (.ireturn, 1)) (u : S) (hp : post u) (hres : res u = some (.int x)) (hw : ws' u = ws) : V p l e R s m args below meth c A D Q nL 0 0 ws lv pc [.int x] := by
  obtain ⟨hr, hk, rfl, rfl⟩ := Z
  exact fun H locs ls hP hD hS hl => W.iret C.1 C.2.1 hr (fun t ht hW => ⟨⟨u, hp, by rw [hres], by rw [hw, ht]; exact hP⟩, hS.F ht⟩) hS.2.2 hdg hk
theorem nar_z {x : Int} (h : x = 0 ∨ x = 1) : narrow .boolean (.int (iI x)) = .int (iI x) := by
  rcases h with rfl | rfl <;> rfl
theorem V_zret {S : Type} {post : S → Prop} {res : S → Option Value} {ws' : S → va_W} {ws0 : va_W} {x : Int} (C : CX p s m args c D d cc nL own) (Z : ZZ meth below args s A Q (some .boolean) D post res ws' ws0) (hdg : decode cc pc = .ok (.ireturn, 1)) (hx : x = 0 ∨ x = 1) (u : S) (hp : post u) (hres : res u = some (.int (iI x))) (hw : ws' u = ws) : V p l e R s m args below meth c A D Q nL 0 0 ws lv pc [.int (iI x)] := by
  obtain ⟨hr, hk, rfl, rfl⟩ := Z
  exact fun H locs ls hP hD hS hl => W.zret C.1 C.2.1 hr (nar_z hx) (fun t ht hW => ⟨⟨u, hp, by rw [hres], by rw [hw, ht]; exact hP⟩, hS.F ht⟩) hS.2.2 hdg hk
theorem V_lret {S : Type} {post : S → Prop} {res : S → Option Value} {ws' : S → va_W} {ws0 : va_W} {x : Int64} (C : CX p s m args c D d cc nL own) (Z : ZZ meth below args s A Q (some .long) D post res ws' ws0) (hdg : decode cc pc = .ok (.lreturn, 1)) (u : S) (hp : post u) (hres : res u = some (.long x)) (hw : ws' u = ws) : V p l e R s m args below meth c A D Q nL 0 0 ws lv pc [.long x] := by
  obtain ⟨hr, hk, rfl, rfl⟩ := Z
  exact fun H locs ls hP hD hS hl => W.lret C.1 C.2.1 hr (fun t ht hW => ⟨⟨u, hp, by rw [hres], by rw [hw, ht]; exact hP⟩, hS.F ht⟩) hS.2.2 hdg hk
theorem V_vret {S : Type} {post : S → Prop} {res : S → Option Value} {ws' : S → va_W} {ws0 : va_W} (C : CX p s m args c D d cc nL own) (Z : ZZ meth below args s A Q (none) D post res ws' ws0) (hdg : decode cc pc = .ok (.return_, 1)) (u : S) (hp : post u) (hres : res u = none) (hw : ws' u = ws) : V p l e R s m args below meth c A D Q nL 0 0 ws lv pc [] := by
  obtain ⟨hr, hk, rfl, rfl⟩ := Z
  exact fun H locs ls hP hD hS hl => W.vret C.1 C.2.1 hr (fun t ht hW => ⟨⟨u, hp, by rw [hres], by rw [hw, ht]; exact hP⟩, hS.F ht⟩) hS.2.2 hdg hk
theorem V_sub {lv' : List (Nat × Value)} (ks : List Nat) (h : lv_pick lv ks = lv') (kk : V p l e R s m args below meth c A D Q nL cells slots ws lv' pc st) : V p l e R s m args below meth c A D Q nL cells slots ws lv pc st := fun H locs ls hP hD hS hl => kk H locs ls hP hD hS (lv_sub hl ks h)
theorem V_topi {x : Int} (kk : ∀ y : Int, y = x → V p l e R s m args below meth c A D Q nL cells slots ws lv pc (.int (iI y) :: st)) : V p l e R s m args below meth c A D Q nL cells slots ws lv pc (.int (iI x) :: st) := kk x rfl
theorem V_topl {x : Int} (kk : ∀ y : Int, y = x → V p l e R s m args below meth c A D Q nL cells slots ws lv pc (.long (lI y) :: st)) : V p l e R s m args below meth c A D Q nL cells slots ws lv pc (.long (lI x) :: st) := kk x rfl
theorem V_eqt {x y : Int} (h : x = y) (kk : V p l e R s m args below meth c A D Q nL cells slots ws lv pc (.int (iI y) :: st)) : V p l e R s m args below meth c A D Q nL cells slots ws lv pc (.int (iI x) :: st) := h ▸ kk
theorem V_eqw {w' : va_W} (h : ws = w') (kk : V p l e R s m args below meth c A D Q nL cells slots w' lv pc st) : V p l e R s m args below meth c A D Q nL cells slots ws lv pc st := h ▸ kk
theorem sm_i {x : Int} (h : -2147483648 ≤ x ∧ x ≤ 2147483647) : sm x := h
theorem sL_i {x : Int} (h : -9223372036854775808 ≤ x ∧ x ≤ 9223372036854775807) : sL x := h
theorem ri {a b : Int} (h : a = b) : some (Value.int (iI a)) = some (Value.int (iI b)) := by rw [h]
theorem rl {a b : Int} (h : a = b) : some (Value.long (lI a)) = some (Value.long (lI b)) := by rw [h]
theorem gtb_code {y : MethodName} {bytes : ByteArray} {maxL : Nat} {ret : Option FieldType} (h : Cond.code y bytes maxL ret ∈ gtb) : GoodIn gtb (.code y bytes maxL ret :: gtb) := fun w hw => (List.mem_cons.mp hw).elim (fun e => by rw [e]; exact gtb_good _ h) (fun h2 => gtb_good w h2)
theorem run_done {S : Type} {post : S → Prop} {res : S → Option Value} {ws' wn : S → va_W} {w1 : va_W} {rest : List Value} {a : Array Value} {is : List Nat} {sn : S → List Value} {H : Heap} {locs : List Loc} {ls : Array Slot} {st0 : List Value}
    (hr : va_Run p l e R s m args below meth c H locs cells slots 0 0 (F0 m pc ls st0) rest (QU D post res ws' w1 a) (inW w1)) (hP : va_P D vwCl ws H) (hD : va_D A ws) (hS : va_S A s.heap H locs) (hl : lv_has ls nL lv) (hsub : is.map (fun i => ws[i]?) = w1.map some) (hnd : va_nd is = true) (hadr : ∀ u, (ws' u).map Prod.fst = w1.map Prod.fst) (hwn : ∀ u, wput ws is (ws' u) = wn u) (hsn : ∀ u, (res u).toList ++ rest = sn u)
    (kk : ∀ u, post u → V p l e R s m args below meth c A D Q nL cells slots (wn u) lv (pc + 3) (sn u)) : W p l e R s m args below meth c H locs cells slots Q (F0 m pc ls st0) := by
  intro T hT X
  obtain ⟨v, st₀, t, T', L, h0, X', hL, e1, e2, ⟨⟨u, hpu, hv, hPu⟩, hz, hk⟩, hgo⟩ := hr T hT X
  cases hv
  rw [h0] at hz hk
  rw [← e1] at hPu hz hk
  have hin : ∀ q, inW w1 q → A q := by
    rintro q ⟨k, e, h⟩
    have h1 : (is.map (fun i => ws[i]?))[k]? = some (some (q, e)) := by rw [hsub, List.getElem?_map, h]; rfl
    rw [List.getElem?_map] at h1
    cases hi : is[k]? with
    | none => rw [hi] at h1; cases h1
    | some i => rw [hi] at h1; exact hD.2 i (q, e) (Option.some.inj h1)
  obtain ⟨hP', hD'⟩ := wput_ok hP hD hsub hnd (hadr u) hPu hk
  rw [hwn u] at hP' hD'
  have h9 := kk u hpu T'.heap (locs ++ L) ls hP' hD' ⟨Nat.le_trans hS.1 hz, fun q h1 h2 => (hk q (Nat.lt_of_lt_of_le h1 hS.1) (fun z => h2 (hin q z))).trans (hS.2.1 q h1 h2), fun x hx => (List.mem_append.mp hx).elim (hS.2.2 x) (fun h => hin _ (hL x h))⟩ hl T' rfl X'
  rw [← hsn u] at h9
  obtain ⟨t2, a1, b1⟩ := h9
  exact ⟨t2, hgo t2 a1, b1⟩
theorem V_callV {S : Type} {post : S → Prop} {res : S → Option Value} {ws' wn : S → va_W} {w1 : va_W} {y : MethodName} {cc' : ByteArray} {nL' n index rf rl ci b : Nat} {ret' : Option FieldType} {As rest : List Value} {sn : S → List Value} {T0 : u_T} {N0 : Nat} {fs : List Value}
    (hcode : Cond.code y cc' nL' ret' ∈ gtb) (hlink : Cond.methodLink own index y ∈ gtb) (hinst : Cond.instanceMethod y ∈ gtb) (hsel : Cond.selects y.cls y y ∈ gtb) (hini : Cond.initialized y.cls ∈ gtb) (hd : y.cls ≠ "java/lang/invoke/MethodHandle" ∧ y.cls ≠ "java/lang/invoke/VarHandle" ∧ (parseMethodDescriptor y.desc).map (fun d => d.parameters.length) = some n) (hci : vwCl[ci]? = some (y.cls, T0, N0))
    (C : CX p s m args c D d cc nL own) (hdg : decode cc pc = .ok (.invokevirtual index, 3)) (hM : CU l y cc' nL' ret' rf rl D d (.ref b :: As) w1 post res ws') (is : List Nat) (hsub : is.map (fun i => ws[i]?) = w1.map some) (hnd : va_nd is = true) (r0 : Nat) (hrc : ws[r0]? = some (b, .inr (ci, fs))) (hst : st = As.reverse ++ .ref b :: rest) (hn : As.length = n) (hrest : (rest.map fun v => v.category).sum ≤ 8) (hroom : rf + 1 ≤ R.frames ∧ 8 + (nL' + 11) + rl ≤ R.locals) (hcl : cells ≤ R.cells ∧ slots ≤ R.slots) (hadr : ∀ u, (ws' u).map Prod.fst = w1.map Prod.fst) (hwn : ∀ u, wput ws is (ws' u) = wn u) (hsn : ∀ u, (res u).toList ++ rest = sn u)
    (kk : ∀ u, post u → V p l e R s m args below meth c A D Q nL cells slots (wn u) lv (pc + 3) (sn u)) : V p l e R s m args below meth c A D Q nL cells slots ws lv pc st := by
  intro H locs ls hP hD hS hl
  subst hst
  have hPc : va_P D vwCl w1 H := hP.sub is (by
    have h := congrArg (List.filterMap id) hsub
    simpa [List.filterMap_map, Function.comp_def] using h)
  have hDc : va_D A w1 := hD.sub is hnd hsub
  refine run_done (va_runV (As := As) (rest := rest) (b := b) (C := y.cls) (g := F0 m pc ls (As.reverse ++ .ref b :: rest)) ⟨C.1, C.2.1, C.2.2.1, C.2.2.2.1, C.2.2.2.2.1⟩ hM ⟨callB_of n C.2.2.2.2.1 (gtb_code hcode) rfl rfl rfl (C.2.2.2.2.1 _ hini) (C.2.2.2.2.1 _ hlink) hd hroom, C.2.2.2.2.1 _ hinst, C.2.2.2.2.1 _ hsel⟩
    ⟨fun a U g mk q => by obtain ⟨q0, qP, qK, qD⟩ := q; exact ⟨q0, qP, KK.same (u := U) (U := U.calling g mk a) rfl qK, qD⟩, va_recv C.2.2.2.2.2.1 hP hci hrc, fun U hU hW => ⟨rfl, by rw [hU]; exact hPc, KK.warm hW C.2.2.2.2.2, hDc.weaken (fun _ _ _ _ => trivial)⟩⟩ rfl hn hl.1 rfl (lv_room hrest) hdg hcl) hP hD hS hl hsub hnd hadr hwn hsn kk
theorem V_callS {S : Type} {post : S → Prop} {res : S → Option Value} {ws' wn : S → va_W} {w1 : va_W} {y : MethodName} {cc' : ByteArray} {nL' n index rf rl : Nat} {ret' : Option FieldType} {As rest : List Value} {sn : S → List Value}
    (hcode : Cond.code y cc' nL' ret' ∈ gtb) (hlink : Cond.methodLink own index y ∈ gtb) (hstat : Cond.static y ∈ gtb) (hini : Cond.initialized y.cls ∈ gtb) (hd : y.cls ≠ "java/lang/invoke/MethodHandle" ∧ y.cls ≠ "java/lang/invoke/VarHandle" ∧ (parseMethodDescriptor y.desc).map (fun d => d.parameters.length) = some n)
    (C : CX p s m args c D d cc nL own) (hdg : decode cc pc = .ok (.invokestatic index, 3)) (hM : CU l y cc' nL' ret' rf rl D d As w1 post res ws') (is : List Nat) (hsub : is.map (fun i => ws[i]?) = w1.map some) (hnd : va_nd is = true) (hst : st = As.reverse ++ rest) (hn : As.length = n) (hrest : (rest.map fun v => v.category).sum ≤ 8) (hroom : rf + 1 ≤ R.frames ∧ 8 + (nL' + 11) + rl ≤ R.locals) (hcl : cells ≤ R.cells ∧ slots ≤ R.slots) (hadr : ∀ u, (ws' u).map Prod.fst = w1.map Prod.fst) (hwn : ∀ u, wput ws is (ws' u) = wn u) (hsn : ∀ u, (res u).toList ++ rest = sn u)
    (kk : ∀ u, post u → V p l e R s m args below meth c A D Q nL cells slots (wn u) lv (pc + 3) (sn u)) : V p l e R s m args below meth c A D Q nL cells slots ws lv pc st := by
  intro H locs ls hP hD hS hl
  subst hst
  have hPc : va_P D vwCl w1 H := hP.sub is (by
    have h := congrArg (List.filterMap id) hsub
    simpa [List.filterMap_map, Function.comp_def] using h)
  have hDc : va_D A w1 := hD.sub is hnd hsub
  refine run_done (va_runS (As := As) (rest := rest) (g := F0 m pc ls (As.reverse ++ rest)) ⟨C.1, C.2.1, C.2.2.1, C.2.2.2.1, C.2.2.2.2.1⟩ hM ⟨callB_of n C.2.2.2.2.1 (gtb_code hcode) rfl rfl rfl (C.2.2.2.2.1 _ hini) (C.2.2.2.2.1 _ hlink) hd hroom, C.2.2.2.2.1 _ hstat⟩
    ⟨fun a U g mk q => by obtain ⟨q0, qP, qK, qD⟩ := q; exact ⟨q0, qP, KK.same (u := U) (U := U.calling g mk a) rfl qK, qD⟩, fun U hU hW => ⟨rfl, by rw [hU]; exact hPc, KK.warm hW C.2.2.2.2.2, hDc.weaken (fun _ _ _ _ => trivial)⟩⟩ rfl hn hl.1 rfl (lv_room hrest) hdg hcl) hP hD hS hl hsub hnd hadr hwn hsn kk
theorem V_callSN {host : String} {S : Type} {post : S → Prop} {res : S → Option Value} {ws' wn : S → va_W} {w1 : va_W} {y : MethodName} {cc' : ByteArray} {nL' n index rf rl : Nat} {ret' : Option FieldType} {As rest : List Value} {sn : S → List Value}
    (hcode : Cond.code y cc' nL' ret' ∈ gtb) (hlink : va_Nw (.methodLinkNest own index y host) s) (hstat : Cond.static y ∈ gtb) (hini : Cond.initialized y.cls ∈ gtb) (hd : y.cls ≠ "java/lang/invoke/MethodHandle" ∧ y.cls ≠ "java/lang/invoke/VarHandle" ∧ (parseMethodDescriptor y.desc).map (fun d => d.parameters.length) = some n)
    (C : CX p s m args c D d cc nL own) (hdg : decode cc pc = .ok (.invokestatic index, 3)) (hM : CU l y cc' nL' ret' rf rl D d As w1 post res ws') (is : List Nat) (hsub : is.map (fun i => ws[i]?) = w1.map some) (hnd : va_nd is = true) (hst : st = As.reverse ++ rest) (hn : As.length = n) (hrest : (rest.map fun v => v.category).sum ≤ 8) (hroom : rf + 1 ≤ R.frames ∧ 8 + (nL' + 11) + rl ≤ R.locals) (hcl : cells ≤ R.cells ∧ slots ≤ R.slots) (hadr : ∀ u, (ws' u).map Prod.fst = w1.map Prod.fst) (hwn : ∀ u, wput ws is (ws' u) = wn u) (hsn : ∀ u, (res u).toList ++ rest = sn u)
    (kk : ∀ u, post u → V p l e R s m args below meth c A D Q nL cells slots (wn u) lv (pc + 3) (sn u)) : V p l e R s m args below meth c A D Q nL cells slots ws lv pc st := by
  intro H locs ls hP hD hS hl
  subst hst
  have hPc : va_P D vwCl w1 H := hP.sub is (by
    have h := congrArg (List.filterMap id) hsub
    simpa [List.filterMap_map, Function.comp_def] using h)
  have hDc : va_D A w1 := hD.sub is hnd hsub
  refine run_done (va_runSN (As := As) (rest := rest) (g := F0 m pc ls (As.reverse ++ rest)) ⟨C.1, C.2.1, C.2.2.1, C.2.2.2.1, C.2.2.2.2.1⟩ hM ⟨va_cnB n C.2.2.2.2.1 (gtb_code hcode) rfl rfl rfl hlink (C.2.2.2.2.1 _ hini) hd hroom, C.2.2.2.2.1 _ hstat, trivial⟩
    ⟨fun a U g mk q => by obtain ⟨q0, qP, qK, qD⟩ := q; exact ⟨q0, qP, KK.same (u := U) (U := U.calling g mk a) rfl qK, qD⟩, fun U hU hW => ⟨rfl, by rw [hU]; exact hPc, KK.warm hW C.2.2.2.2.2, hDc.weaken (fun _ _ _ _ => trivial)⟩⟩ rfl hn hl.1 rfl (lv_room hrest) hdg hcl) hP hD hS hl hsub hnd hadr hwn hsn kk
end VC
