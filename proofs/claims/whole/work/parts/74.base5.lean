/-! a grid (rows of ints behind a row of references), by the machine's own words -/
section VG
variable {p : Program} {l : Launch} {e : Env} {R : Room} {s : State} {m : MethodId} {args : Array Value} {below : List Frame} {meth : Method} {c : Code} {T : State} {locs : List Loc} {cells slots : Nat}
/-- the outer row of a grid at h0, once i of its rows are there: they stand right behind it -/
def gO (cA : ClassId) (N h0 i : Nat) : Cell := arrV cA N (fun j => if j < i then .ref (h0 + 1 + j) else .null)
/-- a row of a grid -/
def gR (cR : ClassId) (M : Nat) : Cell := arrV cR M (fun _ => .int (iI 0))
/-- the machine, once i rows are there -/
def gT (T : State) (cA cR : ClassId) (N M : Nat) : Nat → State
  | 0 => T.pushCell (gO cA N T.heap.size 0)
  | i + 1 => ((gT T cA cR N M i).pushCell (gR cR M)).setCell T.heap.size (gO cA N T.heap.size (i + 1))
theorem gO_0 (cA : ClassId) (N h0 : Nat) : ({ cls := cA, slots := Array.replicate N .null, vm := .none } : Cell) = gO cA N h0 0 := by
  rw [arrV_new]
  unfold gO
  congr 1
theorem gO_put (cA : ClassId) (N h0 i : Nat) : (gO cA N h0 i).setSlot i (.ref (h0 + 1 + i)) = gO cA N h0 (i + 1) := by
  unfold gO
  rw [arrV_store]
  congr 1
  funext j
  unfold updV
  by_cases q : j = i
  · subst q
    rw [if_pos rfl, if_pos (Nat.lt_succ_self _)]
  · rw [if_neg q]
    show (if j < i then Value.ref (h0 + 1 + j) else .null) = _
    by_cases r : j < i
    · rw [if_pos r, if_pos (by omega)]
    · rw [if_neg r, if_neg (by omega)]
theorem gR_new (cR : ClassId) (M : Nat) : ({ cls := cR, slots := Array.replicate M (defaultValue .int), vm := .none } : Cell) = gR cR M := (arrV_new cR M (defaultValue .int)).trans rfl
theorem gT_is (T : State) (cA cR : ClassId) (N M i : Nat) : (gT T cA cR N M i).heap.size = T.heap.size + 1 + i ∧ (∀ a : Nat, a < T.heap.size → (gT T cA cR N M i).heap[a]? = T.heap[a]?) ∧ (gT T cA cR N M i).heap[T.heap.size]? = some (gO cA N T.heap.size i) ∧ (∀ j : Nat, j < i → (gT T cA cR N M i).heap[T.heap.size + 1 + j]? = some (gR cR M)) ∧ (gT T cA cR N M i).vm = T.vm := by
  induction i with
  | zero =>
    have hh : (gT T cA cR N M 0).heap = T.heap.push (gO cA N T.heap.size 0) := rfl
    refine ⟨by rw [hh, Array.size_push], fun a ha => ?_, ?_, fun j hj => absurd hj (Nat.not_lt_zero _), rfl⟩
    · rw [hh, Array.getElem?_push, if_neg (Nat.ne_of_lt ha)]
    · rw [hh, Array.getElem?_push_size]
  | succ i ih =>
    obtain ⟨z, o, u, r, v⟩ := ih
    have hh : (gT T cA cR N M (i + 1)).heap = ((gT T cA cR N M i).heap.push (gR cR M)).setIfInBounds T.heap.size (gO cA N T.heap.size (i + 1)) := rfl
    have ot : ∀ a : Nat, a ≠ T.heap.size → a ≠ T.heap.size + 1 + i → (gT T cA cR N M (i + 1)).heap[a]? = (gT T cA cR N M i).heap[a]? := fun a h1 h2 => by
      rw [hh, Array.getElem?_setIfInBounds, if_neg (Ne.symm h1), Array.getElem?_push, if_neg (by rw [z]; exact h2)]
    refine ⟨by rw [hh, Array.size_setIfInBounds, Array.size_push, z]; omega, fun a ha => (ot a (by omega) (by omega)).trans (o a ha), ?_, fun j hj => ?_, v⟩
    · rw [hh, Array.getElem?_setIfInBounds, if_pos rfl, if_pos (by rw [Array.size_push, z]; omega)]
    · by_cases q : j = i
      · subst q
        rw [hh, Array.getElem?_setIfInBounds, if_neg (by omega), Array.getElem?_push, if_pos (by rw [z])]
      · exact (ot _ (by omega) (by omega)).trans (r j (by omega))
theorem gT_X (X : Stand p l e R s m args below meth c T locs cells slots) (cA cR : ClassId) (N M i : Nat) : ∃ L : List Loc, (∀ x ∈ L, x.base = T.heap.size) ∧ Stand p l e R s m args below meth c (gT T cA cR N M i) (locs ++ L) (cells + 1 + i) (slots + N + i * M) := by
  induction i with
  | zero =>
    have h := X.pushed (gO cA N T.heap.size 0)
    rw [show (gO cA N T.heap.size 0).slots.size = N from arrV_size _ _ _] at h
    refine ⟨[], fun x h => absurd h List.not_mem_nil, ?_⟩
    rw [List.append_nil, Nat.zero_mul]
    exact h
  | succ i ih =>
    obtain ⟨L, hL, Y⟩ := ih
    obtain ⟨z, -, u, -, -⟩ := gT_is T cA cR N M i
    have h1 := Y.pushed (gR cR M)
    rw [show (gR cR M).slots.size = M from arrV_size _ _ _] at h1
    have hc : ((gT T cA cR N M i).pushCell (gR cR M)).heap[T.heap.size]? = some (gO cA N T.heap.size i) := by
      show ((gT T cA cR N M i).heap.push (gR cR M))[T.heap.size]? = _
      rw [Array.getElem?_push, if_neg (by rw [z]; omega)]
      exact u
    have h2 := h1.stored hc i (.ref (T.heap.size + 1 + i))
    rw [gO_put] at h2
    refine ⟨L ++ [⟨T.heap.size, i⟩], fun x hx => (List.mem_append.mp hx).elim (hL x) (fun h => by rw [List.mem_singleton.mp h]), ?_⟩
    rw [← List.append_assoc, show slots + N + (i + 1) * M = slots + N + i * M + M by rw [Nat.succ_mul]; omega]
    exact h2
/-- what the machine makes of two lengths -/
theorem wp_grid {E : CtlPost} {dd : Bool} {acts : List Action} {f : JFrame} (X : Stand p l e R s m args below meth c T locs cells slots) {cA cR cQ : ClassId} {kA kR : Class} (hA : T.vm.classes[cA]? = some kA) (hkA : kA.kind = .array cR (.array .int)) (hR : T.vm.classes[cR]? = some kR) (hkR : kR.kind = .array cQ .int) {n k : Int32} {N M : Nat} (hn : ¬ n < 0) (hk : ¬ k < 0) (eN : n.toNatClampNeg = N) (eM : k.toNatClampNeg = M) (b1 : N * 4 ≤ 536870912) (b2 : M * 4 ≤ 536870912) (hcells : cells + (1 + N) ≤ R.cells) (hslots : slots + (N + N * M) ≤ R.slots) {Q : Addr → Pre} (hq : ∀ d' acts', Q T.heap.size d' acts' ((gT T cA cR N M N).setTop f)) : wp (Op.multianewarray.make cA [n, k]) Q E e dd acts (T.setTop f) := by
  obtain ⟨r1, r2⟩ := X.roomAbove hcells hslots
  have li : ∀ x : Nat, x * 4 ≤ 536870912 → ¬ x > e.platform.arrayLengthLimit := fun x hx => by rw [Launch.admits_arrayLengthLimit X.admits]; omega
  have he : ∀ x : Nat, x * 4 ≤ 536870912 → ¬ x * 4 > e.platform.maxHeapBytes := fun x hx => by rw [Launch.admits_maxHeapBytes X.admits]; omega
  have hz : ([k].find? (fun x => decide (x < 0))) = none := by simp [hk]
  rw [Op.multianewarray.make]
  simp only [wp_bind', W.ite, hn, if_false, wp_pure', W.theClass, State.vm_setTop, hA, hkA, Option.some.injEq, exists_eq_left', eN, hz]
  refine W.newArray_of (k := kA) (by exact hA) hkA (li N b1) (he N b1) (by show T.heap.size < _; omega) (by show T.slotsUsed + N ≤ _; omega) rfl (fun acts1 => ?_)
  rw [ite_self, wp_bind', Std.Legacy.Range.forIn_eq_forIn_range']
  rw [show ([0:N] : Std.Legacy.Range).size = N by simp [Std.Legacy.Range.size]]
  refine wp_forIn_inv (fun rest S => ∃ i : Nat, i ≤ N ∧ rest = List.range' i (N - i) ∧ S = (gT T cA cR N M i).setTop f) _ _ ⟨0, Nat.zero_le _, rfl, ?_⟩ ?_ ?_
  · show (T.pushCell _).setTop f = (T.pushCell (gO cA N T.heap.size 0)).setTop f
    rw [← gO_0]
  · rintro x rest S d' acts' Q' ⟨i, hi, hl, rfl⟩ hnext
    have hlt : i < N := by
      rcases Nat.lt_or_ge i N with h | h
      · exact h
      · rw [show N - i = 0 by omega] at hl
        cases hl
    rw [show N - i = (N - (i + 1)) + 1 by omega, List.range'_succ] at hl
    obtain ⟨rfl, rfl⟩ := List.cons.inj hl
    obtain ⟨z, -, u, -, v⟩ := gT_is T cA cR N M x
    obtain ⟨L, -, Y⟩ := gT_X X cA cR N M x
    have hm : x * M + M ≤ N * M := by
      have h := Nat.mul_le_mul_right M (show x + 1 ≤ N from hlt)
      rw [Nat.succ_mul] at h
      exact h
    obtain ⟨q1, q2⟩ := Y.roomAbove (a := 1) (b := M) (by omega) (by omega)
    simp only [wp_bind']
    rw [Op.multianewarray.make]
    simp only [wp_bind', W.ite, hk, if_false, wp_pure', W.theClass, State.vm_setTop, v, hR, hkR, Option.some.injEq, exists_eq_left', eM]
    refine W.newArray_of (k := kR) (by show (gT T cA cR N M x).vm.classes[cR]? = _; rw [v]; exact hR) hkR (li M b2) (he M b2) (by show (gT T cA cR N M x).heap.size < _; omega) (by exact q2) rfl (fun acts1 => ?_)
    simp only [wp_bind', W.writeLoc, wp_pure']
    refine ⟨gO cA N T.heap.size x, ?_, (fun h => by cases h), by rw [show (gO cA N T.heap.size x).slots.size = N from arrV_size _ _ _]; exact hlt, ?_, hnext _ _ _ ⟨x + 1, hlt, rfl, ?_⟩⟩
    · show ((gT T cA cR N M x).heap.push _)[T.heap.size]? = _
      rw [Array.getElem?_push, if_neg (by rw [z]; omega)]
      exact u
    · show State.fitsSlot _ cA .none x _ = true
      simp [State.fitsSlot, State.slotType?, v, hA, hkA]
      rfl
    · show (((gT T cA cR N M x).pushCell { cls := cR, slots := Array.replicate M (defaultValue .int), vm := .none }).setCell T.heap.size ((gO cA N T.heap.size x).setSlot x (.ref (gT T cA cR N M x).heap.size))).setTop f = _
      rw [gR_new, z, gO_put]
      rfl
  · rintro S d' acts' ⟨i, hi, hl, rfl⟩
    have hiN : i = N := by
      rcases Nat.lt_or_ge i N with h | h
      · rw [show N - i = (N - (i + 1)) + 1 by omega, List.range'_succ] at hl
        cases hl
      · omega
    subst hiN
    simp only [wp_pure']
    exact hq _ _
/-- a grid's outer row, when all its rows are there -/
theorem gO_full (cA : ClassId) (N h0 : Nat) : gO cA N h0 N = arrV cA N (fun j => va_rf (some (h0 + 1 + j))) := by
  have h : (fun j : Fin N => (if j.val < N then Value.ref (h0 + 1 + j.val) else .null)) = fun j : Fin N => va_rf (some (h0 + 1 + j.val)) := by
    funext j
    rw [if_pos j.isLt]
    rfl
  show ({ cls := cA, slots := Array.ofFn (n := N) fun j => (if j.val < N then Value.ref (h0 + 1 + j.val) else .null), vm := .none } : Cell) = { cls := cA, slots := Array.ofFn (n := N) fun j => va_rf (some (h0 + 1 + j.val)), vm := .none }
  rw [h]
/-- the instruction that makes a grid -/
theorem grid_step (X : Stand p l e R s m args below meth c T locs cells slots) (hexec : p.tables.exec = Jvm.exec) {own : String} {index : Nat} (hown : s.vm.findClass own = some m.cls) (hcl : (Cond.classLink own index "[[I").before args s = true) {cA cR cQ : ClassId} {kA kR : Class} (fA : s.vm.findClass "[[I" = some cA) (mA : s.vm.classes[cA]? = some kA) (qA : kA.kind = .array cR (.array .int)) (mR : s.vm.classes[cR]? = some kR) (qR : kR.kind = .array cQ .int)
    {g : JFrame} (hg : g.method = m) (hdg : decode c.code g.pc = .ok (.multianewarray index 2, 4)) {n k : Int32} {rest : List Value} (hstack : g.stack = .int k :: .int n :: rest) {N M : Nat} (hn : ¬ n < 0) (hk : ¬ k < 0) (eN : n.toNatClampNeg = N) (eM : k.toNatClampNeg = M) (b1 : N * 4 ≤ 536870912) (b2 : M * 4 ≤ 536870912) (hcells : cells + (1 + N) ≤ R.cells) (hslots : slots + (N + N * M) ≤ R.slots) :
    ∃ (vm1 : Vm) (L : List Loc), (∀ x ∈ L, x.base = T.heap.size) ∧ Stand p l e R s m args below meth c (gT (T.setVm vm1) cA cR N M N) (locs ++ L) (cells + 1 + N) (slots + N + N * M) ∧ ∀ t, Steps p.tables e below ((gT (T.setVm vm1) cA cR N M N).setTop { g with pc := g.pc + 4, stack := .ref T.heap.size :: rest }) t → Steps p.tables e below (T.setTop g) t := by
  subst hg
  have hpl : e.platform.magicAccessors = ({} : Platform).magicAccessors := by rw [X.admits.platform]
  obtain ⟨cA2, fA2, hcl2⟩ := Cond.classLink_spec hown hcl e.platform hpl
  cases fA.symm.trans fA2
  obtain ⟨hg1, hW1, hr1⟩ := State.classEntry (e := e) X.warmed hcl2
  generalize T.vm.noted g.method.cls index (.cls cA) = vm1 at hg1 hW1 hr1
  have hal : s.vm.Alike vm1 := hW1.alike
  obtain ⟨kA1, mA1, heA⟩ := hal.2.2 _ _ mA
  obtain ⟨kR1, mR1, heR⟩ := hal.2.2 _ _ mR
  have qA1 : kA1.kind = .array cR (.array .int) := by rw [heA]; exact qA
  have qR1 : kR1.kind = .array cQ .int := by rw [heR]; exact qR
  have X1 := X.noted hW1
  obtain ⟨L, hL, X2⟩ := gT_X X1 cA cR N M N
  refine ⟨vm1, L, hL, X2, fun t ht => ?_⟩
  jvm_step X.here [hexec, hdg]
  simp only [Op.multianewarray.sem, wp_bind', W.resolveClassAt_links (State.method?_setTop g X.here.top) hg1]
  rw [W.popN, if_neg (by decide)]
  refine ⟨g, State.topJava?_setTop' (s := T.setVm vm1) g X.here.top, [.int n, .int k], rest, rfl, hstack, ?_⟩
  simp only [List.mapM_cons, List.mapM_nil, wp_bind', wp_pure']
  rw [show ((T.setTop g).setVm vm1).setTop { g with stack := rest } = (T.setVm vm1).setTop { g with stack := rest } from State.setTop_setTop (T.setVm vm1) g _]
  refine wp_grid X1 mA1 qA1 mR1 qR1 hn hk eN eM b1 b2 hcells hslots (fun d' acts' => ?_)
  simp only [wp_bind', W.mark, W.pushRef, State.topJava?_setTop' _ X2.here.top, Option.some.injEq, exists_eq_left', State.setTop_setTop]
  intro acts2
  simp [jvm, X2.here.top]
  exact ht
end VG
/-! rows that make cells: the array classes are those of TYs, so every new row of ints is an aI of d 0 -/
section VN
variable {p : Program} {l : Launch} {e : Env} {R : Room} {s : State} {m : MethodId} {args : Array Value} {below : List Frame} {meth : Method} {c : Code} {A : Nat → Prop} {D : va_G} {d : Nat → ClassId} {Q : State → Prop} {cc : ByteArray} {nL : Nat} {own : String} {cells slots : Nat} {ws : va_W} {lv : List (Nat × Value)} {pc : Nat} {st : List Value}
/-- the array classes of references, as the tables have them -/
def nstL : List (Nat × MethodName) := [(11, yX4_init), (18, yX3_init), (25, yX6_init), (35, yX5_init), (46, yX7_init), (53, yX0_init), (60, yX2_init), (67, yX1_init)]
def AOs (U : State) : Prop := va_AO "BuyersArm$Stand" U ∧ va_AOA .int U ∧ ∀ q ∈ nstL, va_Nw (.methodLinkNest "BuyersArm" q.1 q.2 "BuyersArm") U
theorem AOs.warm {u U : State} (hW : u.WarmedH U.vm) (h : AOs u) : AOs U := ⟨h.1.moved hW.alike, over_moved hW.alike h.2.1, fun q hq => (h.2.2 q hq).warmM hW⟩
theorem AOs.same {u U : State} (hvm : u.vm = U.vm) (hal : u.vm.Alike U.vm) (h : AOs u) : AOs U := ⟨h.1.moved hal, over_moved hal h.2.1, fun q hq => (h.2.2 q hq).same rfl hvm⟩
theorem iI_nn {N : Nat} (hN : N < 100000) : ¬ iI (N : Int) < 0 := fun z => by have := (iI_lt (b := 0) ⟨by omega, by omega⟩ sm0).mp z; omega
theorem iI_tn {N : Nat} (hN : N < 100000) : (iI (N : Int)).toNatClampNeg = N := by
  rw [iI_nat (by omega) (by omega)]
  omega
theorem V_newi {N : Nat} {n : Int} (C : CX p s m args c D d cc nL own) (hA : ∀ q, s.heap.size ≤ q → A q) (hdg : decode cc pc = .ok (.newarray .int, 2)) (hn : n = (N : Int)) (hN : N < 100000) (hcells : cells + 1 ≤ R.cells) (hslots : slots + N ≤ R.slots) (kk : ∀ q, V p l e R s m args below meth c A D Q nL (cells + 1) (slots + N) (ws ++ [(q, aI (d 0) N (fun _ => 0))]) lv (pc + 2) (.ref q :: st)) : V p l e R s m args below meth c A D Q nL cells slots ws lv pc (.int (iI n) :: st) := by
  subst hn
  intro H locs ls hP hD hS hl
  refine va_newa (atype := .int) (ty := .int) (N' := N) (a0 := (N, .inl (fun _ => iI 0))) C.1 C.2.1 (C.2.2.2.2.1 _ w1_39) rfl C.2.2.2.2.2.1 hP hD hS hA (fun cA => rfl) (iI_nn hN) (iI_tn hN) (by show N * 4 ≤ _; omega) hcells hslots hdg (fun q cA H1 hK1 hP1 hD1 hS1 => ?_)
  have e : cA = d 0 := Option.some.inj (((hK1.2 4 _ rfl).2 : s.vm.findClass ("[" ++ FieldType.int.toString) = some cA).symm.trans (C.2.2.2.2.2.1.2 0 _ rfl).2)
  subst e
  exact kk q H1 locs ls hP1 hD1 hS1 hl
theorem V_newz {N : Nat} {n : Int} (C : CX p s m args c D d cc nL own) (hA : ∀ q, s.heap.size ≤ q → A q) (hdg : decode cc pc = .ok (.newarray .boolean, 2)) (hn : n = (N : Int)) (hN : N < 100000) (hcells : cells + 1 ≤ R.cells) (hslots : slots + N ≤ R.slots) (kk : ∀ q, V p l e R s m args below meth c A D Q nL (cells + 1) (slots + N) (ws ++ [(q, aI (d 1) N (fun _ => 0))]) lv (pc + 2) (.ref q :: st)) : V p l e R s m args below meth c A D Q nL cells slots ws lv pc (.int (iI n) :: st) := by
  subst hn
  intro H locs ls hP hD hS hl
  refine va_newa (atype := .boolean) (ty := .boolean) (N' := N) (a0 := (N, .inl (fun _ => iI 0))) C.1 C.2.1 (C.2.2.2.2.1 _ w4_83) rfl C.2.2.2.2.2.1 hP hD hS hA (fun cA => rfl) (iI_nn hN) (iI_tn hN) (by show N * 1 ≤ _; omega) hcells hslots hdg (fun q cA H1 hK1 hP1 hD1 hS1 => ?_)
  have e : cA = d 1 := Option.some.inj (((hK1.2 4 _ rfl).2 : s.vm.findClass ("[" ++ FieldType.boolean.toString) = some cA).symm.trans (C.2.2.2.2.2.1.2 1 _ rfl).2)
  subst e
  exact kk q H1 locs ls hP1 hD1 hS1 hl
theorem V_newq {N index : Nat} {n : Int} (hO : AOs s) (hcl : Cond.classLink own index "BuyersArm$Stand" ∈ gtb) (C : CX p s m args c D d cc nL own) (hA : ∀ q, s.heap.size ≤ q → A q) (hdg : decode cc pc = .ok (.anewarray index, 3)) (hn : n = (N : Int)) (hN : N < 100000) (hcells : cells + 1 ≤ R.cells) (hslots : slots + N ≤ R.slots) (kk : ∀ q, V p l e R s m args below meth c A D Q nL (cells + 1) (slots + N) (ws ++ [(q, aR (d 2) N (fun _ => none))]) lv (pc + 3) (.ref q :: st)) : V p l e R s m args below meth c A D Q nL cells slots ws lv pc (.int (iI n) :: st) := by
  subst hn
  intro H locs ls hP hD hS hl
  refine va_newq (N' := N) C.1 C.2.1 C.2.2.2.1 (C.2.2.2.2.1 _ hcl) hO.1 C.2.2.2.2.2.1 hP hD hS hA (iI_nn hN) (iI_tn hN) (by omega) hcells hslots hdg (fun q cA H1 hK1 hP1 hD1 hS1 => ?_)
  have e : cA = d 2 := by
    obtain ⟨-, -, -, -, -, h4⟩ := (hK1.2 4 _ rfl).2
    obtain ⟨-, -, -, -, -, g4⟩ := (C.2.2.2.2.2.1.2 2 _ rfl).2
    exact Option.some.inj (h4.symm.trans g4)
  subst e
  exact kk q H1 locs ls hP1 hD1 hS1 hl
theorem V_aast {a n v : Nat} {f : Nat → Option Nat} {i : Int} {vs : List Value} {ws' : va_W} (C : CX p s m args c D d cc nL own) (hdg : decode cc pc = .ok (.aastore, 1)) (q0 qk : Nat) (ha : ws[q0]? = some (a, aR (d 2) n f)) (hv : ws[qk]? = some (v, .inr (5, vs))) (h0 : 0 ≤ i) (h1 : i < n) (hn : n < 2147483648) (hw : ws.set q0 (a, aR (d 2) n (va_up f i.toNat (some v))) = ws') (kk : V p l e R s m args below meth c A D Q nL cells slots ws' lv (pc + 1) st) : V p l e R s m args below meth c A D Q nL cells slots ws lv pc (.ref v :: .int (iI i) :: .ref a :: st) := by
  subst hw
  intro H locs ls hP hD hS hl
  refine va_astq C.1 C.2.1 C.2.2.2.2.2.1 hP hD hS q0 2 qk 5 ha rfl hv rfl (iI_in h0 h1 hn) hdg (fun H1 locs1 hP1 hD1 hS1 => ?_)
  rw [iI_nat h0 (by omega)] at hP1 hD1
  exact kk H1 locs1 ls hP1 hD1 hS1 hl
theorem V_putF {C0 : String} {T : u_T} {N ci index a : Nat} (hin : ∀ w ∈ u_ws C0 T N, w ∈ gtb) (ty0 : Nat → FieldType) (hty : ∀ k, k < N → parseFieldDescriptor (T k).2.2.1 = some (ty0 k)) (hnm : ∀ a, a < N → ∀ b, b < N → a ≠ b → (T a).2.1 ≠ (T b).2.1) (hc : vwCl[ci]? = some (C0, T, N)) (k : Nat) (hk : k < N) (hw : Cond.fieldLink own index (T k).1 (T k).2.1 (T k).2.2.1 ∈ gtb) (hfin : (T k).2.2.2 = true) (hin2 : meth.name = "<init>") (hdecl : (T k).1 = own) {ty : FieldType} (hd : parseFieldDescriptor (T k).2.2.1 = some ty) (C : CX p s m args c D d cc nL own) (hdg : decode cc pc = .ok (.putfield index, 3)) (q0 : Nat) {fs fs' : List Value} (he : ws[q0]? = some (a, .inr (ci, fs))) {v : Value} (hn : narrow ty v = v) (hfit : fits ty v = true) (hlen : k < fs.length) (hset : fs.set k v = fs') {ws' : va_W} (hws : ws.set q0 (a, .inr (ci, fs')) = ws') (kk : V p l e R s m args below meth c A D Q nL cells slots ws' lv (pc + 3) st) : V p l e R s m args below meth c A D Q nL cells slots ws lv pc (v :: .ref a :: st) := by
  subst hset
  subst hws
  exact fun H locs ls hP hD hS hl => va_putF C.1 C.2.1 C.2.2.2.2.1 hin ty0 hty hnm C.2.2.2.1 C.2.2.2.2.2.1 hP hD hS q0 he hc k hk (C.2.2.2.2.1 _ hw) (fun _ h9 => h9) hfin hin2 hdecl hd hn hfit hlen hdg (fun H1 locs1 hP1 hD1 hS1 => kk H1 locs1 ls hP1 hD1 hS1 hl)
theorem V_new {C0 : String} {T : u_T} {N ci index : Nat} (hin : ∀ w ∈ u_ws C0 T N, w ∈ gtb) (ty0 : Nat → FieldType) (hty : ∀ k, k < N → parseFieldDescriptor (T k).2.2.1 = some (ty0 k)) (hc : vwCl[ci]? = some (C0, T, N)) (hcl : Cond.classLink own index C0 ∈ gtb) (hinst : Cond.instantiable C0 N ∈ gtb) (hini : Cond.initialized C0 ∈ gtb) {fs : List Value} (hfs : ∀ j, j < N → defaultValue (ty0 j) = vp_V fs j) (C : CX p s m args c D d cc nL own) (hA : ∀ q, s.heap.size ≤ q → A q) (hdg : decode cc pc = .ok (.new index, 3)) (hcells : cells + 1 ≤ R.cells) (hslots : slots + N ≤ R.slots) (kk : ∀ q, V p l e R s m args below meth c A D Q nL (cells + 1) (slots + N) (ws ++ [(q, .inr (ci, fs))]) lv (pc + 3) (.ref q :: st)) : V p l e R s m args below meth c A D Q nL cells slots ws lv pc st :=
  fun H locs ls hP hD hS hl => va_new C.1 C.2.1 C.2.2.2.2.1 hin ty0 hty C.2.2.2.1 (C.2.2.2.2.1 _ hcl) (C.2.2.2.2.1 _ hinst) (C.2.2.2.2.1 _ hini) C.2.2.2.2.2.1 hP hD hS hA hc hfs hcells hslots hdg (fun q H1 hP1 hD1 hS1 => kk q H1 locs ls hP1 hD1 hS1 hl)
theorem V_objI {a idx : Nat} (hlink : Cond.methodLink own idx Lib.objectInit ∈ gtb) (C : CX p s m args c D d cc nL own) (hdg : decode cc pc = .ok (.invokespecial idx, 3)) (hframes : 1 ≤ R.frames) (hlocals : (st.map fun v => v.category).sum + 12 ≤ R.locals) (kk : V p l e R s m args below meth c A D Q nL cells slots ws lv (pc + 3) st) : V p l e R s m args below meth c A D Q nL cells slots ws lv pc (.ref a :: st) :=
  fun H locs ls hP hD hS hl => W.objInit (g := F0 m pc ls (.ref a :: st)) C.1 C.2.1 C.2.2.2.1 (C.2.2.2.2.1 _ hlink) (C.2.2.2.2.1 _ w1_21) (C.2.2.2.2.1 _ w1_22) rfl (by show ls.size = _; rw [C.2.2.1]; exact hl.1) rfl hdg hframes (by show 2 * 0 + _ + 12 ≤ _; omega) (W.eq (g2 := F0 m (pc + 3) ls st) rfl (kk H locs ls hP hD hS hl))
/-- THE CONTRACT of a constructor: of the blank object at h0 it makes the world ws', at some addresses u -/
def QN (D : va_G) (h0 ci : Nat) (fs : List Value) (ws' : (Nat → Nat) → va_W) (sz : Nat) : Array Value → State → Outcome → State → Prop := va_Qv (fun _ : Nat → Nat => True) (fun u t => va_P D vwCl (ws' u) t.heap ∧ va_D (va_A [(h0, .inr (ci, fs))] sz) (ws' u)) (va_A [(h0, .inr (ci, fs))] sz)
def CN (l : Launch) (y : MethodName) (cc : ByteArray) (nL rf rl mc ms : Nat) (D : va_G) (d : Nat → ClassId) (h0 ci : Nat) (fs : List Value) (ws' : (Nat → Nat) → va_W) : Prop :=
  ∀ sz : Nat, Met l y (.code y cc nL none :: gtb) { frames := rf, cells := mc, slots := ms, locals := rl } (va_Pc [.ref h0] (fun U => U.heap.size = sz ∧ va_P D vwCl [(h0, .inr (ci, fs))] U.heap ∧ KK D d U ∧ va_D (fun _ => True) [(h0, .inr (ci, fs))] ∧ AOs U)) (QN D h0 ci fs ws' sz) mc ms (va_A [(h0, .inr (ci, fs))] sz)
def ZN (meth : Method) (below : List Frame) (args : Array Value) (s : State) (A : Nat → Prop) (Q : State → Prop) (D : va_G) (h0 ci : Nat) (fs : List Value) (ws' : (Nat → Nat) → va_W) (mc ms : Nat) : Prop := meth.sig.returnType = none ∧ meth.locks = false ∧ A = va_A [(h0, .inr (ci, fs))] s.heap.size ∧ Q = MQ below (QN D h0 ci fs ws' s.heap.size) args s mc ms (va_A [(h0, .inr (ci, fs))] s.heap.size)
theorem CN.mk {l : Launch} {y : MethodName} {cc : ByteArray} {rf rl mc ms : Nat} {D : va_G} {d : Nat → ClassId} {h0 ci : Nat} {fs : List Value} {ws' : (Nat → Nat) → va_W} {own : String} (hown : y.cls = own) (hnm : y.name = "<init>") (hy : plainName y.cls = true)
    (body : ∀ (p : Program) (e : Env) (R : Room) (s : State) (m : MethodId) (args : Array Value) (below : List Frame) (meth : Method) (c : Code) (A : Nat → Prop) (Q : State → Prop), R.frames = rf → R.locals = rl → R.cells = mc → R.slots = ms → CX p s m args c D d cc 1 own → AOs s → meth.name = "<init>" → (∀ q, s.heap.size ≤ q → A q) → ZN meth below args s A Q D h0 ci fs ws' mc ms → V p l e R s m args below meth c A D Q 1 0 0 [(h0, .inr (ci, fs))] [(0, .ref h0)] 0 []) : CN l y cc 1 rf rl mc ms D d h0 ci fs ws' := by
  subst hown
  intro sz
  refine Met.ofW (cc := cc) (maxL := 1) (ret := none) hy rfl ?_
  intro p e s m args below meth c s₁ B hml hv
  obtain ⟨rfl, hsz, hP, hK, hD, hO⟩ := hv
  subst hsz
  have hts := atoms_spec (ws := .code y cc 1 none :: gtb) B.pre
  have hl := lv_entry [.ref h0] (n := 1) (Nat.le_of_ble_eq_true rfl)
  rw [lg_entry_eq]
  exact body p e _ s m _ below meth c (va_A [(h0, .inr (ci, fs))] s.heap.size) _ rfl rfl rfl rfl ⟨B.exec, B.bytes, hml, findClass_of_methodNamed B.named, fun w h => hts w (List.mem_cons_of_mem _ h), hK⟩ hO ((name_of_methodNamed B.named B.method).1.trans hnm) (fun q h => Or.inr h) ⟨B.returns, B.notSynchronized, rfl, rfl⟩ s.heap [] _ hP (hD.self (sz := s.heap.size)) va_S.rf hl
theorem V_nret {h0 ci : Nat} {fs : List Value} {ws' : (Nat → Nat) → va_W} {mc ms : Nat} (C : CX p s m args c D d cc nL own) (Z : ZN meth below args s A Q D h0 ci fs ws' mc ms) (hdg : decode cc pc = .ok (.return_, 1)) (hc : cells = mc) (hs : slots = ms) (u : Nat → Nat) (hw : ws' u = ws) : V p l e R s m args below meth c A D Q nL cells slots ws lv pc [] := by
  subst hc
  subst hs
  obtain ⟨hr, hk, rfl, rfl⟩ := Z
  exact fun H locs ls hP hD hS hl => W.vret C.1 C.2.1 hr (fun t ht hW => ⟨⟨u, rfl, trivial, by rw [hw, ht]; exact hP, by rw [hw]; exact hD⟩, hS.F ht⟩) hS.2.2 hdg hk
theorem V_callI {y : MethodName} {cc' : ByteArray} {nL' index rf rl mc ms b ci : Nat} {fs : List Value} {ws' wn : (Nat → Nat) → va_W} {wr : va_W} (hcode : Cond.code y cc' nL' none ∈ gtb) (hlink : Cond.methodLink own index y ∈ gtb) (hinst : Cond.instanceMethod y ∈ gtb) (hini : Cond.initialized y.cls ∈ gtb) (hy1 : y.name = "<init>") (hd : y.cls ≠ "java/lang/invoke/MethodHandle" ∧ y.cls ≠ "java/lang/invoke/VarHandle" ∧ (parseMethodDescriptor y.desc).map (fun d => d.parameters.length) = some 0)
    (C : CX p s m args c D d cc nL own) (hO : AOs s) (hA : ∀ q, s.heap.size ≤ q → A q) (hdg : decode cc pc = .ok (.invokespecial index, 3)) (hM : CN l y cc' nL' rf rl mc ms D d b ci fs ws') (ic : Nat) (isR : List Nat) (hic : [ic].map (fun i => ws[i]?) = [(b, (Sum.inr (ci, fs) : va_E))].map some) (hR : isR.map (fun i => ws[i]?) = wr.map some) (hnd : va_nd isR = true) (hdis : ∀ i ∈ isR, i ∉ [ic]) (hrest : (st.map fun v => v.category).sum ≤ 8) (hroom : rf + 1 ≤ R.frames ∧ 8 + (nL' + 11) + rl ≤ R.locals) (hcl : cells + mc ≤ R.cells ∧ slots + ms ≤ R.slots) (hwn : ∀ u, wr ++ ws' u = wn u)
    (kk : ∀ u, V p l e R s m args below meth c A D Q nL (cells + mc) (slots + ms) (wn u) lv (pc + 3) st) : V p l e R s m args below meth c A D Q nL cells slots ws lv pc (.ref b :: st) := by
  intro H locs ls hP hD hS hl
  have hPc : va_P D vwCl [(b, (Sum.inr (ci, fs) : va_E))] H := hP.sub [ic] (by
    have h : ws[ic]? = some (b, (Sum.inr (ci, fs) : va_E)) := by simpa using hic
    simp [h])
  have hDc : va_D A [(b, (Sum.inr (ci, fs) : va_E))] := hD.sub [ic] (by simp [va_nd]) hic
  have hFc := va_free (wc := [(b, (Sum.inr (ci, fs) : va_E))]) hD hS hA [ic] hic
  refine va_callv (va_runI (As := []) (rest := st) (b := b) (g := F0 m pc ls (.ref b :: st)) ⟨C.1, C.2.1, C.2.2.1, C.2.2.2.1, C.2.2.2.2.1⟩ (hM H.size) ⟨callB_of 0 C.2.2.2.2.1 (gtb_code hcode) rfl rfl rfl (C.2.2.2.2.1 _ hini) (C.2.2.2.2.1 _ hlink) hd hroom, hy1, C.2.2.2.2.1 _ hinst⟩
    ⟨fun a U g mk q => by obtain ⟨q0, q1, qP, qK, qD, qO⟩ := q; exact ⟨q0, q1, qP, KK.same (u := U) (U := U.calling g mk a) rfl qK, qD, AOs.same (u := U) (U := U.calling g mk a) rfl (Vm.Alike.refl U.vm) qO⟩, fun U hU hW => ⟨rfl, by rw [hU], by rw [hU]; exact hPc, KK.warm hW C.2.2.2.2.2, hDc.weaken (fun _ _ _ _ => trivial), hO.warm hW⟩⟩ rfl rfl hl.1 rfl (lv_room hrest) hdg hcl) hS (fun q _ h => hFc q h) hFc (fun u t H1 locs1 ht hvm hw hB hz1 hk1 hS1 => ?_)
  obtain ⟨hP1, hD1⟩ := hB
  rw [ht] at hP1
  obtain ⟨hP2, hD2⟩ := va_join (wr := wr) (w1 := ws' u) hP hD [ic] isR hic hR hnd hdis hk1 hFc hP1 hD1
  rw [hwn u] at hP2 hD2
  exact kk u H1 locs1 ls hP2 hD2 hS1 hl
theorem V_callIN {host : String} {y : MethodName} {cc' : ByteArray} {nL' index rf rl mc ms b ci : Nat} {fs : List Value} {ws' wn : (Nat → Nat) → va_W} {wr : va_W} (hcode : Cond.code y cc' nL' none ∈ gtb) (hlink : va_Nw (.methodLinkNest own index y host) s) (hinst : Cond.instanceMethod y ∈ gtb) (hini : Cond.initialized y.cls ∈ gtb) (hy1 : y.name = "<init>") (hd : y.cls ≠ "java/lang/invoke/MethodHandle" ∧ y.cls ≠ "java/lang/invoke/VarHandle" ∧ (parseMethodDescriptor y.desc).map (fun d => d.parameters.length) = some 0)
    (C : CX p s m args c D d cc nL own) (hO : AOs s) (hA : ∀ q, s.heap.size ≤ q → A q) (hdg : decode cc pc = .ok (.invokespecial index, 3)) (hM : CN l y cc' nL' rf rl mc ms D d b ci fs ws') (ic : Nat) (isR : List Nat) (hic : [ic].map (fun i => ws[i]?) = [(b, (Sum.inr (ci, fs) : va_E))].map some) (hR : isR.map (fun i => ws[i]?) = wr.map some) (hnd : va_nd isR = true) (hdis : ∀ i ∈ isR, i ∉ [ic]) (hrest : (st.map fun v => v.category).sum ≤ 8) (hroom : rf + 1 ≤ R.frames ∧ 8 + (nL' + 11) + rl ≤ R.locals) (hcl : cells + mc ≤ R.cells ∧ slots + ms ≤ R.slots) (hwn : ∀ u, wr ++ ws' u = wn u)
    (kk : ∀ u, V p l e R s m args below meth c A D Q nL (cells + mc) (slots + ms) (wn u) lv (pc + 3) st) : V p l e R s m args below meth c A D Q nL cells slots ws lv pc (.ref b :: st) := by
  intro H locs ls hP hD hS hl
  have hPc : va_P D vwCl [(b, (Sum.inr (ci, fs) : va_E))] H := hP.sub [ic] (by
    have h : ws[ic]? = some (b, (Sum.inr (ci, fs) : va_E)) := by simpa using hic
    simp [h])
  have hDc : va_D A [(b, (Sum.inr (ci, fs) : va_E))] := hD.sub [ic] (by simp [va_nd]) hic
  have hFc := va_free (wc := [(b, (Sum.inr (ci, fs) : va_E))]) hD hS hA [ic] hic
  refine va_callv (va_runIN (As := []) (rest := st) (b := b) (g := F0 m pc ls (.ref b :: st)) ⟨C.1, C.2.1, C.2.2.1, C.2.2.2.1, C.2.2.2.2.1⟩ (hM H.size) ⟨va_cnB 0 C.2.2.2.2.1 (gtb_code hcode) rfl rfl rfl hlink (C.2.2.2.2.1 _ hini) hd hroom, hy1, C.2.2.2.2.1 _ hinst⟩
    ⟨fun a U g mk q => by obtain ⟨q0, q1, qP, qK, qD, qO⟩ := q; exact ⟨q0, q1, qP, KK.same (u := U) (U := U.calling g mk a) rfl qK, qD, AOs.same (u := U) (U := U.calling g mk a) rfl (Vm.Alike.refl U.vm) qO⟩, fun U hU hW => ⟨rfl, by rw [hU], by rw [hU]; exact hPc, KK.warm hW C.2.2.2.2.2, hDc.weaken (fun _ _ _ _ => trivial), hO.warm hW⟩⟩ rfl rfl hl.1 rfl (lv_room hrest) hdg hcl) hS (fun q _ h => hFc q h) hFc (fun u t H1 locs1 ht hvm hw hB hz1 hk1 hS1 => ?_)
  obtain ⟨hP1, hD1⟩ := hB
  rw [ht] at hP1
  obtain ⟨hP2, hD2⟩ := va_join (wr := wr) (w1 := ws' u) hP hD [ic] isR hic hR hnd hdis hk1 hFc hP1 hD1
  rw [hwn u] at hP2 hD2
  exact kk u H1 locs1 ls hP2 hD2 hS1 hl
/-- a world told in another order, or with less -/
theorem V_subw {ws' : va_W} (is : List Nat) (hsub : is.map (fun i => ws[i]?) = ws'.map some) (hnd : va_nd is = true) (kk : V p l e R s m args below meth c A D Q nL cells slots ws' lv pc st) : V p l e R s m args below meth c A D Q nL cells slots ws lv pc st := by
  intro H locs ls hP hD hS hl
  refine kk H locs ls (hP.sub is (by
    have h := congrArg (List.filterMap id) hsub
    simpa [List.filterMap_map, Function.comp_def] using h)) (hD.sub is hnd hsub) hS hl
theorem V_multi {index : Nat} (hOO : AOs s) (hcl : Cond.classLink own index "[[I" ∈ gtb) (C : CX p s m args c D d cc nL own) (hA : ∀ q, s.heap.size ≤ q → A q) (hdg : decode cc pc = .ok (.multianewarray index 2, 4)) (hcells : cells + 8 ≤ R.cells) (hslots : slots + 7693 ≤ R.slots)
    (kk : ∀ q, V p l e R s m args below meth c A D Q nL (cells + 8) (slots + 7693) (ws ++ [(q, aR (d 3) 7 (fun j => some (q + 1 + j))), (q + 1, aI (d 0) 1098 (fun _ => 0)), (q + 2, aI (d 0) 1098 (fun _ => 0)), (q + 3, aI (d 0) 1098 (fun _ => 0)), (q + 4, aI (d 0) 1098 (fun _ => 0)), (q + 5, aI (d 0) 1098 (fun _ => 0)), (q + 6, aI (d 0) 1098 (fun _ => 0)), (q + 7, aI (d 0) 1098 (fun _ => 0))]) lv (pc + 4) (.ref q :: st)) : V p l e R s m args below meth c A D Q nL cells slots ws lv pc (.int (iI 1098) :: .int (iI 7) :: st) := by
  intro H locs ls hP hD hS hl T hT X
  have n7 : (iI 7).toNatClampNeg = 7 := by decide
  have k1 : (iI 1098).toNatClampNeg = 1098 := by decide
  have e2 : "[" ++ (FieldType.array .int).toString = "[[I" := by decide +kernel
  have e3 : (FieldType.array .int).toString = "[" ++ FieldType.int.toString := by decide +kernel
  obtain ⟨cR, cA, kA, fR, -, mA, qA, fA⟩ := arrayOverA_spec hOO.2.1
  obtain ⟨cR2, kR, cQ, fR2, mR, qR⟩ := Cond.arrayClass_spec (C.2.2.2.2.1 _ w1_39)
  have eA : cA = d 3 := Option.some.inj (fA.symm.trans ((C.2.2.2.2.2.1.2 3 _ rfl).2 : s.vm.findClass ("[" ++ (FieldType.array .int).toString) = some (d 3)))
  have eC2 : cR2 = d 0 := Option.some.inj (fR2.symm.trans ((C.2.2.2.2.2.1.2 0 _ rfl).2 : s.vm.findClass ("[" ++ FieldType.int.toString) = some (d 0)))
  have eC : cR = d 0 := by
    rw [e3] at fR
    exact Option.some.inj (fR.symm.trans (fR2.trans (congrArg some eC2)))
  subst eA
  subst eC2
  subst eC
  rw [e2] at fA
  obtain ⟨vm1, L, hL, X1, st1⟩ := grid_step X C.1 C.2.2.2.1 (C.2.2.2.2.1 _ hcl) fA mA qA mR qR (g := F0 m pc ls (.int (iI 1098) :: .int (iI 7) :: st)) rfl (by rw [C.2.1]; exact hdg) rfl (by decide) (by decide) n7 k1 (by decide) (by decide) (by omega) (by omega)
  obtain ⟨f1, fo, f2, fi, -⟩ := gT_is (T.setVm vm1) (d 3) (d 0) 7 1098 7
  have hTh : (T.setVm vm1).heap = H := hT
  rw [gO_full] at f2
  rw [hTh] at f1 fo f2 fi
  rw [hT] at hL st1
  generalize hF : gT (T.setVm vm1) (d 3) (d 0) 7 1098 7 = T1 at X1 st1 f1 f2 fo fi
  have f1 : T1.heap.size = H.size + 8 := f1
  have fi : ∀ j : Nat, j < 7 → T1.heap[H.size + 1 + j]? = some (arrV (d 0) 1098 (fun _ => .int (iI 0))) := fi
  have X1 : Stand p l e R s m args below meth c T1 (locs ++ L) (cells + 8) (slots + 7693) := X1
  have hk : ∀ (k : Nat) (x : Nat × va_E), ws[k]? = some x → T1.heap[x.1]? = H[x.1]? := fun k x hx => fo x.1 ((hP k x hx).lt)
  have hP1 : va_P D vwCl [(H.size, aR (d 3) 7 (fun j => some (H.size + 1 + j))), (H.size + 1, aI (d 0) 1098 (fun _ => 0)), (H.size + 2, aI (d 0) 1098 (fun _ => 0)), (H.size + 3, aI (d 0) 1098 (fun _ => 0)), (H.size + 4, aI (d 0) 1098 (fun _ => 0)), (H.size + 5, aI (d 0) 1098 (fun _ => 0)), (H.size + 6, aI (d 0) 1098 (fun _ => 0)), (H.size + 7, aI (d 0) 1098 (fun _ => 0))] T1.heap := by
    intro k x hx
    match k, hx with
    | 0, hx => cases hx; exact f2
    | 1, hx => cases hx; exact fi 0 (by decide)
    | 2, hx => cases hx; exact fi 1 (by decide)
    | 3, hx => cases hx; exact fi 2 (by decide)
    | 4, hx => cases hx; exact fi 3 (by decide)
    | 5, hx => cases hx; exact fi 4 (by decide)
    | 6, hx => cases hx; exact fi 5 (by decide)
    | 7, hx => cases hx; exact fi 6 (by decide)
    | k + 8, hx => simp at hx
  obtain ⟨wn, hwn⟩ : ∃ wn : va_W, wn = [(H.size, aR (d 3) 7 (fun j => some (H.size + 1 + j))), (H.size + 1, aI (d 0) 1098 (fun _ => 0)), (H.size + 2, aI (d 0) 1098 (fun _ => 0)), (H.size + 3, aI (d 0) 1098 (fun _ => 0)), (H.size + 4, aI (d 0) 1098 (fun _ => 0)), (H.size + 5, aI (d 0) 1098 (fun _ => 0)), (H.size + 6, aI (d 0) 1098 (fun _ => 0)), (H.size + 7, aI (d 0) 1098 (fun _ => 0))] := ⟨_, rfl⟩
  have hadr : ∀ (k : Nat) (x : Nat × va_E), wn[k]? = some x → x.1 = H.size + k := by
    intro k x hx
    rw [hwn] at hx
    match k, hx with
    | 0, hx => cases hx; rfl
    | 1, hx => cases hx; rfl
    | 2, hx => cases hx; rfl
    | 3, hx => cases hx; rfl
    | 4, hx => cases hx; rfl
    | 5, hx => cases hx; rfl
    | 6, hx => cases hx; rfl
    | 7, hx => cases hx; rfl
    | k + 8, hx => simp at hx
  have kk := kk H.size
  rw [← hwn] at hP1 kk
  have both : ∀ (k : Nat) (x : Nat × va_E), (ws ++ wn)[k]? = some x → (k < ws.length ∧ ws[k]? = some x ∧ x.1 < H.size) ∨ (ws.length ≤ k ∧ x.1 = H.size + (k - ws.length)) := by
    intro k x hx
    by_cases q : k < ws.length
    · rw [List.getElem?_append_left q] at hx
      exact Or.inl ⟨q, hx, (hP k x hx).lt⟩
    · rw [List.getElem?_append_right (by omega)] at hx
      exact Or.inr ⟨by omega, hadr _ x hx⟩
  have hD1 : va_D A (ws ++ wn) := by
    refine ⟨fun i j x y hi hj hxy => ?_, fun k x hx => ?_⟩
    · rcases both i x hi with ⟨a1, a2, a3⟩ | ⟨a1, a2⟩ <;> rcases both j y hj with ⟨b1, b2, b3⟩ | ⟨b1, b2⟩
      · exact hD.1 i j x y a2 b2 hxy
      · omega
      · omega
      · omega
    · rcases both k x hx with ⟨a1, a2, a3⟩ | ⟨a1, a2⟩
      · exact hD.2 k x a2
      · exact hA _ (Nat.le_trans hS.1 (by omega))
  obtain ⟨t, b1, b2⟩ := kk T1.heap (locs ++ L) ls ((hP.kept hk).app hP1) hD1 ⟨Nat.le_trans hS.1 (by omega), fun x h1 h2 => (fo x (Nat.lt_of_lt_of_le h1 hS.1)).trans (hS.2.1 x h1 h2), fun x hx => (List.mem_append.mp hx).elim (hS.2.2 x) (fun h => by rw [hL x h]; exact hA _ hS.1)⟩ hl T1 rfl X1
  exact ⟨t, st1 t b1, b2⟩
end VN
