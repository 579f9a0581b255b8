/-! rows that make cells: the array classes are those of TYs, so every new row of ints is an aI of d 0 -/
section VN
variable {p : Program} {l : Launch} {e : Env} {R : Room} {s : State} {m : MethodId} {args : Array Value} {below : List Frame} {meth : Method} {c : Code} {A : Nat → Prop} {D : va_G} {d : Nat → ClassId} {Q : State → Prop} {cc : ByteArray} {nL : Nat} {own : String} {cells slots : Nat} {ws : va_W} {lv : List (Nat × Value)} {pc : Nat} {st : List Value}
/-- the array classes of references, as the tables have them -/
def nstL : List (Nat × MethodName) := [(11, yX4_init), (18, yX3_init), (25, yX6_init), (35, yX5_init), (46, yX7_init), (53, yX0_init), (60, yX2_init), (67, yX1_init)]
def AOs (U : State) : Prop := va_AO "BuyersArm$Stand" U ∧ va_AOA .int U ∧ ∀ q ∈ nstL, va_Nw (.methodLinkNest "BuyersArm" q.1 q.2 "BuyersArm") U
theorem AOs.warm {u U : State} (hW : u.WarmedH U.vm) (h : AOs u) : AOs U := ⟨h.1.moved hW.alike, Jvm.Stand.arrayOver_alikeB hW.alike h.2.1, fun q hq => (h.2.2 q hq).warmM hW⟩
theorem AOs.same {u U : State} (hvm : u.vm = U.vm) (hal : u.vm.Alike U.vm) (h : AOs u) : AOs U := ⟨h.1.moved hal, Jvm.Stand.arrayOver_alikeB hal h.2.1, fun q hq => (h.2.2 q hq).same rfl hvm⟩
theorem iI_nn {N : Nat} (hN : N < 100000) : ¬ iI (N : Int) < 0 := fun z => by have := (iI_lt (b := 0) ⟨by omega, by omega⟩ sm0).mp z; omega
theorem iI_tn {N : Nat} (hN : N < 100000) : (iI (N : Int)).toNatClampNeg = N := by
  rw [iI_nat (by omega) (by omega)]
  omega
theorem V_newi {N : Nat} {n : Int} (C : CX p s m args c D d cc nL own) (hA : ∀ q, s.heap.size ≤ q → A q) (hdg : decode cc pc = .ok (.newarray .int, 2)) (hn : n = (N : Int)) (hN : N < 100000) (hcells : cells + 1 ≤ R.cells) (hslots : slots + N ≤ R.slots) (kk : ∀ q, V p l e R s m args below meth c A D Q nL (cells + 1) (slots + N) (ws ++ [(q, aI (d 0) N (fun _ => 0))]) lv (pc + 2) (.ref q :: st)) : V p l e R s m args below meth c A D Q nL cells slots ws lv pc (.int (iI n) :: st) := by
  subst hn
  intro H locs ls hP hD hS hl
  refine va_newa (atype := .int) (ty := .int) (N' := N) (a0 := (N, .inl (fun _ => iI 0))) C.1 C.2.1 (C.2.2.2.2.1 _ w1_39) rfl C.2.2.2.2.2.1 hP hD hS hA (fun cA => rfl) (iI_nn hN) (iI_tn hN) (by show N * 4 ≤ _; omega) hcells hslots hdg (fun q cA H1 hK1 hP1 hD1 hS1 => ?_)
  have e : cA = d 0 := Option.some.inj (((hK1.2 4 _ rfl).2 : s.vm.findClass ("[" ++ FieldType.int.toString) = some cA).symm.trans (C.2.2.2.2.2.1.2 0 _ rfl).2)
  subst e
  exact kk q H1 locs ls hP1 hD1 hS1 hl
theorem V_newz {N : Nat} {n : Int} (C : CX p s m args c D d cc nL own) (hA : ∀ q, s.heap.size ≤ q → A q) (hdg : decode cc pc = .ok (.newarray .boolean, 2)) (hn : n = (N : Int)) (hN : N < 100000) (hcells : cells + 1 ≤ R.cells) (hslots : slots + N ≤ R.slots) (kk : ∀ q, V p l e R s m args below meth c A D Q nL (cells + 1) (slots + N) (ws ++ [(q, aI (d 1) N (fun _ => 0))]) lv (pc + 2) (.ref q :: st)) : V p l e R s m args below meth c A D Q nL cells slots ws lv pc (.int (iI n) :: st) := by
  subst hn
  intro H locs ls hP hD hS hl
  refine va_newa (atype := .boolean) (ty := .boolean) (N' := N) (a0 := (N, .inl (fun _ => iI 0))) C.1 C.2.1 (C.2.2.2.2.1 _ w4_83) rfl C.2.2.2.2.2.1 hP hD hS hA (fun cA => rfl) (iI_nn hN) (iI_tn hN) (by show N * 1 ≤ _; omega) hcells hslots hdg (fun q cA H1 hK1 hP1 hD1 hS1 => ?_)
  have e : cA = d 1 := Option.some.inj (((hK1.2 4 _ rfl).2 : s.vm.findClass ("[" ++ FieldType.boolean.toString) = some cA).symm.trans (C.2.2.2.2.2.1.2 1 _ rfl).2)
  subst e
  exact kk q H1 locs ls hP1 hD1 hS1 hl
theorem V_newq {N index : Nat} {n : Int} (hO : AOs s) (hcl : Cond.classLink own index "BuyersArm$Stand" ∈ gtb) (C : CX p s m args c D d cc nL own) (hA : ∀ q, s.heap.size ≤ q → A q) (hdg : decode cc pc = .ok (.anewarray index, 3)) (hn : n = (N : Int)) (hN : N < 100000) (hcells : cells + 1 ≤ R.cells) (hslots : slots + N ≤ R.slots) (kk : ∀ q, V p l e R s m args below meth c A D Q nL (cells + 1) (slots + N) (ws ++ [(q, aR (d 2) N (fun _ => none))]) lv (pc + 3) (.ref q :: st)) : V p l e R s m args below meth c A D Q nL cells slots ws lv pc (.int (iI n) :: st) := by
  subst hn
  intro H locs ls hP hD hS hl
  refine va_newq (N' := N) C.1 C.2.1 C.2.2.2.1 (C.2.2.2.2.1 _ hcl) hO.1 C.2.2.2.2.2.1 hP hD hS hA (iI_nn hN) (iI_tn hN) (by omega) hcells hslots hdg (fun q cA H1 hK1 hP1 hD1 hS1 => ?_)
  have e : cA = d 2 := by
    obtain ⟨-, -, -, -, -, h4⟩ := (hK1.2 4 _ rfl).2
    obtain ⟨-, -, -, -, -, g4⟩ := (C.2.2.2.2.2.1.2 2 _ rfl).2
    exact Option.some.inj (h4.symm.trans g4)
  subst e
  exact kk q H1 locs ls hP1 hD1 hS1 hl
theorem V_aast {a n v : Nat} {f : Nat → Option Nat} {i : Int} {vs : List Value} {ws' : va_W} (C : CX p s m args c D d cc nL own) (hdg : decode cc pc = .ok (.aastore, 1)) (q0 qk : Nat) (ha : ws[q0]? = some (a, aR (d 2) n f)) (hv : ws[qk]? = some (v, .inr (5, vs))) (h0 : 0 ≤ i) (h1 : i < n) (hn : n < 2147483648) (hw : ws.set q0 (a, aR (d 2) n (va_up f i.toNat (some v))) = ws') (kk : V p l e R s m args below meth c A D Q nL cells slots ws' lv (pc + 1) st) : V p l e R s m args below meth c A D Q nL cells slots ws lv pc (.ref v :: .int (iI i) :: .ref a :: st) := by
  subst hw
  intro H locs ls hP hD hS hl
  refine va_astq C.1 C.2.1 C.2.2.2.2.2.1 hP hD hS q0 2 qk 5 ha rfl hv rfl (iI_in h0 h1 hn) hdg (fun H1 locs1 hP1 hD1 hS1 => ?_)
  rw [iI_nat h0 (by omega)] at hP1 hD1
  exact kk H1 locs1 ls hP1 hD1 hS1 hl
theorem V_putF {C0 : String} {T : u_T} {N ci index a : Nat} (hin : ∀ w ∈ u_ws C0 T N, w ∈ gtb) (ty0 : Nat → FieldType) (hty : ∀ k, k < N → parseFieldDescriptor (T k).2.2.1 = some (ty0 k)) (hnm : ∀ a, a < N → ∀ b, b < N → a ≠ b → (T a).2.1 ≠ (T b).2.1) (hc : vwCl[ci]? = some (C0, T, N)) (k : Nat) (hk : k < N) (hw : Cond.fieldLink own index (T k).1 (T k).2.1 (T k).2.2.1 ∈ gtb) (hfin : (T k).2.2.2 = true) (hin2 : meth.name = "<init>") (hdecl : (T k).1 = own) {ty : FieldType} (hd : parseFieldDescriptor (T k).2.2.1 = some ty) (C : CX p s m args c D d cc nL own) (hdg : decode cc pc = .ok (.putfield index, 3)) (q0 : Nat) {fs fs' : List Value} (he : ws[q0]? = some (a, .inr (ci, fs))) {v : Value} (hn : narrow ty v = v) (hfit : fits ty v = true) (hlen : k < fs.length) (hset : fs.set k v = fs') {ws' : va_W} (hws : ws.set q0 (a, .inr (ci, fs')) = ws') (kk : V p l e R s m args below meth c A D Q nL cells slots ws' lv (pc + 3) st) : V p l e R s m args below meth c A D Q nL cells slots ws lv pc (v :: .ref a :: st) := by
  subst hset
  subst hws
  exact fun H locs ls hP hD hS hl => va_putF C.1 C.2.1 C.2.2.2.2.1 hin ty0 hty hnm C.2.2.2.1 C.2.2.2.2.2.1 hP hD hS q0 he hc k hk (C.2.2.2.2.1 _ hw) (fun _ h9 => h9) hfin hin2 hdecl hd hn hfit hlen hdg (fun H1 locs1 hP1 hD1 hS1 => kk H1 locs1 ls hP1 hD1 hS1 hl)
theorem V_new {C0 : String} {T : u_T} {N ci index : Nat} (hin : ∀ w ∈ u_ws C0 T N, w ∈ gtb) (ty0 : Nat → FieldType) (hty : ∀ k, k < N → parseFieldDescriptor (T k).2.2.1 = some (ty0 k)) (hc : vwCl[ci]? = some (C0, T, N)) (hcl : Cond.classLink own index C0 ∈ gtb) (hinst : Cond.instantiable C0 N ∈ gtb) (hini : Cond.initialized C0 ∈ gtb) {fs : List Value} (hfs : ∀ j, j < N → defaultValue (ty0 j) = vp_V fs j) (C : CX p s m args c D d cc nL own) (hA : ∀ q, s.heap.size ≤ q → A q) (hdg : decode cc pc = .ok (.new index, 3)) (hcells : cells + 1 ≤ R.cells) (hslots : slots + N ≤ R.slots) (kk : ∀ q, V p l e R s m args below meth c A D Q nL (cells + 1) (slots + N) (ws ++ [(q, .inr (ci, fs))]) lv (pc + 3) (.ref q :: st)) : V p l e R s m args below meth c A D Q nL cells slots ws lv pc st :=
  fun H locs ls hP hD hS hl => va_new C.1 C.2.1 C.2.2.2.2.1 hin ty0 hty C.2.2.2.1 (C.2.2.2.2.1 _ hcl) (C.2.2.2.2.1 _ hinst) (C.2.2.2.2.1 _ hini) C.2.2.2.2.2.1 hP hD hS hA hc hfs hcells hslots hdg (fun q H1 hP1 hD1 hS1 => kk q H1 locs ls hP1 hD1 hS1 hl)
theorem V_objI {a idx : Nat} (hlink : Cond.methodLink own idx Lib.objectInit ∈ gtb) (C : CX p s m args c D d cc nL own) (hdg : decode cc pc = .ok (.invokespecial idx, 3)) (hframes : 1 ≤ R.frames) (hlocals : (st.map fun v => v.category).sum + 12 ≤ R.locals) (kk : V p l e R s m args below meth c A D Q nL cells slots ws lv (pc + 3) st) : V p l e R s m args below meth c A D Q nL cells slots ws lv pc (.ref a :: st) :=
  fun H locs ls hP hD hS hl => W.objInit (g := F0 m pc ls (.ref a :: st)) C.1 C.2.1 C.2.2.2.1 (C.2.2.2.2.1 _ hlink) (C.2.2.2.2.1 _ w1_21) (C.2.2.2.2.1 _ w1_22) rfl (by show ls.size = _; rw [C.2.2.1]; exact hl.1) rfl hdg hframes (by show 2 * 0 + _ + 12 ≤ _; omega) (W.eq (g2 := F0 m (pc + 3) ls st) rfl (kk H locs ls hP hD hS hl))
/-- THE CONTRACT of a constructor: of the blank object at h0 it makes the world ws', at some addresses u -/
def QN (D : va_G) (h0 ci : Nat) (fs : List Value) (ws' : (Nat → Nat) → va_W) (sz : Nat) : Array Value → State → Outcome → State → Prop := va_Qv (fun _ : Nat → Nat => True) (fun u t => va_P D vwCl (ws' u) t.heap ∧ va_D (va_A [(h0, .inr (ci, fs))] sz) (ws' u)) (va_A [(h0, .inr (ci, fs))] sz)
def CN (l : Launch) (y : MethodName) (cc : ByteArray) (nL rf rl mc ms : Nat) (D : va_G) (d : Nat → ClassId) (h0 ci : Nat) (fs : List Value) (ws' : (Nat → Nat) → va_W) : Prop :=
  ∀ sz : Nat, Met l y (.code y cc nL none :: gtb) { frames := rf, cells := mc, slots := ms, locals := rl } (va_Pc [.ref h0] (fun U => U.heap.size = sz ∧ va_P D vwCl [(h0, .inr (ci, fs))] U.heap ∧ KK D d U ∧ va_D (fun _ => True) [(h0, .inr (ci, fs))] ∧ AOs U)) (QN D h0 ci fs ws' sz) mc ms (va_A [(h0, .inr (ci, fs))] sz)
def ZN (meth : Method) (below : List Frame) (args : Array Value) (s : State) (A : Nat → Prop) (Q : State → Prop) (D : va_G) (h0 ci : Nat) (fs : List Value) (ws' : (Nat → Nat) → va_W) (mc ms : Nat) : Prop := meth.sig.returnType = none ∧ meth.locks = false ∧ A = va_A [(h0, .inr (ci, fs))] s.heap.size ∧ Q = MQ below (QN D h0 ci fs ws' s.heap.size) args s mc ms (va_A [(h0, .inr (ci, fs))] s.heap.size)
theorem CN.mk {l : Launch} {y : MethodName} {cc : ByteArray} {rf rl mc ms : Nat} {D : va_G} {d : Nat → ClassId} {h0 ci : Nat} {fs : List Value} {ws' : (Nat → Nat) → va_W} {own : String} (hown : y.cls = own) (hnm : y.name = "<init>") (hy : plainName y.cls = true)
    (body : ∀ (p : Program) (e : Env) (R : Room) (s : State) (m : MethodId) (args : Array Value) (below : List Frame) (meth : Method) (c : Code) (A : Nat → Prop) (Q : State → Prop), R.frames = rf → R.locals = rl → R.cells = mc → R.slots = ms → CX p s m args c D d cc 1 own → AOs s → meth.name = "<init>" → (∀ q, s.heap.size ≤ q → A q) → ZN meth below args s A Q D h0 ci fs ws' mc ms → V p l e R s m args below meth c A D Q 1 0 0 [(h0, .inr (ci, fs))] [(0, .ref h0)] 0 []) : CN l y cc 1 rf rl mc ms D d h0 ci fs ws' := by
  subst hown
  intro sz
  refine Met.ofW (cc := cc) (maxL := 1) (ret := none) hy rfl ?_
  intro p e s m args below meth c s₁ B hml hv
  obtain ⟨rfl, hsz, hP, hK, hD, hO⟩ := hv
  subst hsz
  have hts := atoms_spec (ws := .code y cc 1 none :: gtb) B.pre
  have hl := lv_entry [.ref h0] (n := 1) (Nat.le_of_ble_eq_true rfl)
  rw [lg_entry_eq]
  exact body p e _ s m _ below meth c (va_A [(h0, .inr (ci, fs))] s.heap.size) _ rfl rfl rfl rfl ⟨B.exec, B.bytes, hml, findClass_of_methodNamed B.named, fun w h => hts w (List.mem_cons_of_mem _ h), hK⟩ hO ((name_of_methodNamed B.named B.method).1.trans hnm) (fun q h => Or.inr h) ⟨B.returns, B.notSynchronized, rfl, rfl⟩ s.heap [] _ hP (hD.self (sz := s.heap.size)) va_S.rf hl
theorem V_nret {h0 ci : Nat} {fs : List Value} {ws' : (Nat → Nat) → va_W} {mc ms : Nat} (C : CX p s m args c D d cc nL own) (Z : ZN meth below args s A Q D h0 ci fs ws' mc ms) (hdg : decode cc pc = .ok (.return_, 1)) (hc : cells = mc) (hs : slots = ms) (u : Nat → Nat) (hw : ws' u = ws) : V p l e R s m args below meth c A D Q nL cells slots ws lv pc [] := by
  subst hc
  subst hs
  obtain ⟨hr, hk, rfl, rfl⟩ := Z
  exact fun H locs ls hP hD hS hl => W.vret C.1 C.2.1 hr (fun t ht hW => ⟨⟨u, rfl, trivial, by rw [hw, ht]; exact hP, by rw [hw]; exact hD⟩, hS.F ht⟩) hS.2.2 hdg hk
theorem V_callI {y : MethodName} {cc' : ByteArray} {nL' index rf rl mc ms b ci : Nat} {fs : List Value} {ws' wn : (Nat → Nat) → va_W} {wr : va_W} (hcode : Cond.code y cc' nL' none ∈ gtb) (hlink : Cond.methodLink own index y ∈ gtb) (hinst : Cond.instanceMethod y ∈ gtb) (hini : Cond.initialized y.cls ∈ gtb) (hy1 : y.name = "<init>") (hd : y.cls ≠ "java/lang/invoke/MethodHandle" ∧ y.cls ≠ "java/lang/invoke/VarHandle" ∧ (parseMethodDescriptor y.desc).map (fun d => d.parameters.length) = some 0)
    (C : CX p s m args c D d cc nL own) (hO : AOs s) (hA : ∀ q, s.heap.size ≤ q → A q) (hdg : decode cc pc = .ok (.invokespecial index, 3)) (hM : CN l y cc' nL' rf rl mc ms D d b ci fs ws') (ic : Nat) (isR : List Nat) (hic : [ic].map (fun i => ws[i]?) = [(b, (Sum.inr (ci, fs) : va_E))].map some) (hR : isR.map (fun i => ws[i]?) = wr.map some) (hnd : va_nd isR = true) (hdis : ∀ i ∈ isR, i ∉ [ic]) (hrest : (st.map fun v => v.category).sum ≤ 8) (hroom : rf + 1 ≤ R.frames ∧ 8 + (nL' + 11) + rl ≤ R.locals) (hcl : cells + mc ≤ R.cells ∧ slots + ms ≤ R.slots) (hwn : ∀ u, wr ++ ws' u = wn u)
    (kk : ∀ u, V p l e R s m args below meth c A D Q nL (cells + mc) (slots + ms) (wn u) lv (pc + 3) st) : V p l e R s m args below meth c A D Q nL cells slots ws lv pc (.ref b :: st) := by
  intro H locs ls hP hD hS hl
  have hPc : va_P D vwCl [(b, (Sum.inr (ci, fs) : va_E))] H := hP.sub [ic] (by
    have h : ws[ic]? = some (b, (Sum.inr (ci, fs) : va_E)) := by simpa using hic
    simp [h])
  have hDc : va_D A [(b, (Sum.inr (ci, fs) : va_E))] := hD.sub [ic] (by simp [va_nd]) hic
  have hFc := va_free (wc := [(b, (Sum.inr (ci, fs) : va_E))]) hD hS hA [ic] hic
  refine va_callv (va_runI (As := []) (rest := st) (b := b) (g := F0 m pc ls (.ref b :: st)) ⟨C.1, C.2.1, C.2.2.1, C.2.2.2.1, C.2.2.2.2.1⟩ (hM H.size) ⟨callB_of 0 C.2.2.2.2.1 (gtb_code hcode) rfl rfl rfl (C.2.2.2.2.1 _ hini) (C.2.2.2.2.1 _ hlink) hd hroom, hy1, C.2.2.2.2.1 _ hinst⟩
    ⟨fun a U g mk q => by obtain ⟨q0, q1, qP, qK, qD, qO⟩ := q; exact ⟨q0, q1, qP, KK.same (u := U) (U := U.calling g mk a) rfl qK, qD, AOs.same (u := U) (U := U.calling g mk a) rfl (Vm.Alike.refl U.vm) qO⟩, fun U hU hW => ⟨rfl, by rw [hU], by rw [hU]; exact hPc, KK.warm hW C.2.2.2.2.2, hDc.weaken (fun _ _ _ _ => trivial), hO.warm hW⟩⟩ rfl rfl hl.1 rfl (lv_room hrest) hdg hcl) hS (fun q _ h => hFc q h) hFc (fun u t H1 locs1 ht hvm hw hB hz1 hk1 hS1 => ?_)
  obtain ⟨hP1, hD1⟩ := hB
  rw [ht] at hP1
  obtain ⟨hP2, hD2⟩ := va_join (wr := wr) (w1 := ws' u) hP hD [ic] isR hic hR hnd hdis hk1 hFc hP1 hD1
  rw [hwn u] at hP2 hD2
  exact kk u H1 locs1 ls hP2 hD2 hS1 hl
theorem V_callIN {host : String} {y : MethodName} {cc' : ByteArray} {nL' index rf rl mc ms b ci : Nat} {fs : List Value} {ws' wn : (Nat → Nat) → va_W} {wr : va_W} (hcode : Cond.code y cc' nL' none ∈ gtb) (hlink : va_Nw (.methodLinkNest own index y host) s) (hinst : Cond.instanceMethod y ∈ gtb) (hini : Cond.initialized y.cls ∈ gtb) (hy1 : y.name = "<init>") (hd : y.cls ≠ "java/lang/invoke/MethodHandle" ∧ y.cls ≠ "java/lang/invoke/VarHandle" ∧ (parseMethodDescriptor y.desc).map (fun d => d.parameters.length) = some 0)
    (C : CX p s m args c D d cc nL own) (hO : AOs s) (hA : ∀ q, s.heap.size ≤ q → A q) (hdg : decode cc pc = .ok (.invokespecial index, 3)) (hM : CN l y cc' nL' rf rl mc ms D d b ci fs ws') (ic : Nat) (isR : List Nat) (hic : [ic].map (fun i => ws[i]?) = [(b, (Sum.inr (ci, fs) : va_E))].map some) (hR : isR.map (fun i => ws[i]?) = wr.map some) (hnd : va_nd isR = true) (hdis : ∀ i ∈ isR, i ∉ [ic]) (hrest : (st.map fun v => v.category).sum ≤ 8) (hroom : rf + 1 ≤ R.frames ∧ 8 + (nL' + 11) + rl ≤ R.locals) (hcl : cells + mc ≤ R.cells ∧ slots + ms ≤ R.slots) (hwn : ∀ u, wr ++ ws' u = wn u)
    (kk : ∀ u, V p l e R s m args below meth c A D Q nL (cells + mc) (slots + ms) (wn u) lv (pc + 3) st) : V p l e R s m args below meth c A D Q nL cells slots ws lv pc (.ref b :: st) := by
  intro H locs ls hP hD hS hl
  have hPc : va_P D vwCl [(b, (Sum.inr (ci, fs) : va_E))] H := hP.sub [ic] (by
    have h : ws[ic]? = some (b, (Sum.inr (ci, fs) : va_E)) := by simpa using hic
    simp [h])
  have hDc : va_D A [(b, (Sum.inr (ci, fs) : va_E))] := hD.sub [ic] (by simp [va_nd]) hic
  have hFc := va_free (wc := [(b, (Sum.inr (ci, fs) : va_E))]) hD hS hA [ic] hic
  refine va_callv (va_runIN (As := []) (rest := st) (b := b) (g := F0 m pc ls (.ref b :: st)) ⟨C.1, C.2.1, C.2.2.1, C.2.2.2.1, C.2.2.2.2.1⟩ (hM H.size) ⟨va_cnB 0 C.2.2.2.2.1 (gtb_code hcode) rfl rfl rfl hlink (C.2.2.2.2.1 _ hini) hd hroom, hy1, C.2.2.2.2.1 _ hinst⟩
    ⟨fun a U g mk q => by obtain ⟨q0, q1, qP, qK, qD, qO⟩ := q; exact ⟨q0, q1, qP, KK.same (u := U) (U := U.calling g mk a) rfl qK, qD, AOs.same (u := U) (U := U.calling g mk a) rfl (Vm.Alike.refl U.vm) qO⟩, fun U hU hW => ⟨rfl, by rw [hU], by rw [hU]; exact hPc, KK.warm hW C.2.2.2.2.2, hDc.weaken (fun _ _ _ _ => trivial), hO.warm hW⟩⟩ rfl rfl hl.1 rfl (lv_room hrest) hdg hcl) hS (fun q _ h => hFc q h) hFc (fun u t H1 locs1 ht hvm hw hB hz1 hk1 hS1 => ?_)
  obtain ⟨hP1, hD1⟩ := hB
  rw [ht] at hP1
  obtain ⟨hP2, hD2⟩ := va_join (wr := wr) (w1 := ws' u) hP hD [ic] isR hic hR hnd hdis hk1 hFc hP1 hD1
  rw [hwn u] at hP2 hD2
  exact kk u H1 locs1 ls hP2 hD2 hS1 hl
/-- a world told in another order, or with less -/
theorem V_subw {ws' : va_W} (is : List Nat) (hsub : is.map (fun i => ws[i]?) = ws'.map some) (hnd : va_nd is = true) (kk : V p l e R s m args below meth c A D Q nL cells slots ws' lv pc st) : V p l e R s m args below meth c A D Q nL cells slots ws lv pc st := by
  intro H locs ls hP hD hS hl
  refine kk H locs ls (hP.sub is (by
    have h := congrArg (List.filterMap id) hsub
    simpa [List.filterMap_map, Function.comp_def] using h)) (hD.sub is hnd hsub) hS hl
theorem outer_arr {cA : ClassId} {N h0 : Nat} : Jvm.Free.Multi.outerC cA N h0 N = arrV cA N (fun j => va_rf (some (h0 + 1 + j))) := by
  have key : ∀ i : Nat, Jvm.Free.Multi.outerC cA N h0 i = arrV cA N (fun j => if j < i then .ref (h0 + 1 + j) else .null) := by
    intro i
    induction i with
    | zero =>
      show ({ cls := cA, slots := Array.replicate N .null, vm := .none } : Cell) = _
      rw [arrV_new]
      congr 1
    | succ i ih =>
      show (Jvm.Free.Multi.outerC cA N h0 i).setSlot i (.ref (h0 + 1 + i)) = _
      rw [ih, arrV_store]
      congr 1
      funext j
      by_cases q : j = i
      · subst q
        simp [updV]
      · have e1 : (j < i + 1) = (j < i) := by
          apply propext
          omega
        simp only [updV, if_neg q, e1]
  rw [key N]
  show ({ cls := cA, slots := _, vm := .none } : Cell) = { cls := cA, slots := _, vm := .none }
  congr 1
  apply Array.ext (by simp)
  intro j h1 h2
  have : j < N := by simpa using h1
  simp [this, va_rf]
theorem V_multi {index : Nat} (hOO : AOs s) (hcl : Cond.classLink own index "[[I" ∈ gtb) (C : CX p s m args c D d cc nL own) (hA : ∀ q, s.heap.size ≤ q → A q) (hdg : decode cc pc = .ok (.multianewarray index 2, 4)) (hcells : cells + 8 ≤ R.cells) (hslots : slots + 7693 ≤ R.slots)
    (kk : ∀ q, V p l e R s m args below meth c A D Q nL (cells + 8) (slots + 7693) (ws ++ [(q, aR (d 3) 7 (fun j => some (q + 1 + j))), (q + 1, aI (d 0) 1098 (fun _ => 0)), (q + 2, aI (d 0) 1098 (fun _ => 0)), (q + 3, aI (d 0) 1098 (fun _ => 0)), (q + 4, aI (d 0) 1098 (fun _ => 0)), (q + 5, aI (d 0) 1098 (fun _ => 0)), (q + 6, aI (d 0) 1098 (fun _ => 0)), (q + 7, aI (d 0) 1098 (fun _ => 0))]) lv (pc + 4) (.ref q :: st)) : V p l e R s m args below meth c A D Q nL cells slots ws lv pc (.int (iI 1098) :: .int (iI 7) :: st) := by
  intro H locs ls hP hD hS hl T hT X
  have n7 : (iI 7).toNatClampNeg = 7 := by decide
  have k1 : (iI 1098).toNatClampNeg = 1098 := by decide
  have e2 : "[" ++ (FieldType.array .int).toString = "[[I" := by decide +kernel
  obtain ⟨vm₁, cA, comp, hW, hfA, hfC, hO, hI, X1, st1⟩ := X.multianewarray2F C.1 C.2.2.2.1 (ty := .int) (by rw [e2]; exact C.2.2.2.2.1 _ hcl) (va_AOA.use hOO.2.1) (C.2.2.2.2.1 _ w1_39) (g := F0 m pc ls (.int (iI 1098) :: .int (iI 7) :: st)) rfl (by rw [C.2.1]; exact hdg) rfl (by decide) (by decide) (by rw [n7]; decide) (by rw [k1]; decide) (by rw [k1]; decide) rfl rfl (by rw [n7]; omega) (by rw [n7, k1]; omega)
  rw [n7, k1] at X1 st1
  obtain ⟨f1, f2, f3, f4⟩ := Jvm.Free.Multi.fill_facts (T.setVm vm₁) cA comp 7 1098 (defaultValue .int) 7
  have fo := fun (a : Addr) (ha : a < T.heap.size) => Jvm.Free.Multi.fill_old (T.setVm vm₁) cA comp 7 1098 (defaultValue .int) (a := a) ha 7
  have fi := fun (j : Nat) (hj : j < 7) => Jvm.Free.Multi.fill_inner (T.setVm vm₁) cA comp 7 1098 (defaultValue .int) 7 j hj
  have eA : cA = d 3 := Option.some.inj (hfA.symm.trans ((C.2.2.2.2.2.1.2 3 _ rfl).2 : s.vm.findClass ("[" ++ (FieldType.array .int).toString) = some (d 3)))
  have eC : comp = d 0 := Option.some.inj (hfC.symm.trans (by
    have h := ((C.2.2.2.2.2.1.2 0 _ rfl).2 : s.vm.findClass ("[" ++ FieldType.int.toString) = some (d 0))
    have e3 : (FieldType.array .int).toString = "[" ++ FieldType.int.toString := by decide +kernel
    rw [e3]
    exact h))
  subst eA
  subst eC
  generalize hF : Jvm.Free.Multi.fill (T.setVm vm₁) (d 3) (d 0) 7 1098 (defaultValue .int) 7 = T1 at X1 st1 f1 f2 f3 f4 fo fi
  have f1 : T1.heap.size = H.size + 8 := by rw [f1]; show T.heap.size + 1 + 7 = _; rw [hT]
  have f2 : T1.heap[H.size]? = some (arrV (d 3) 7 (fun j => va_rf (some (H.size + 1 + j)))) := by
    rw [← hT]
    exact f2.trans (by rw [outer_arr]; rfl)
  have fo : ∀ a : Nat, a < H.size → T1.heap[a]? = H[a]? := fun a ha => by
    have := fo a (by rw [hT]; exact ha)
    rw [← hT]
    exact this
  have fi : ∀ j : Nat, j < 7 → T1.heap[H.size + 1 + j]? = some (arrV (d 0) 1098 (fun _ => .int (iI 0))) := fun j hj => by
    have := fi j hj
    rw [← hT]
    exact this.trans (by show some ({ cls := d 0, slots := Array.replicate 1098 (defaultValue .int), vm := .none } : Cell) = _; rw [arrV_new]; rfl)
  have hk : ∀ (k : Nat) (x : Nat × va_E), ws[k]? = some x → T1.heap[x.1]? = H[x.1]? := fun k x hx => fo x.1 ((hP k x hx).lt)
  have hP1 : va_P D vwCl [(H.size, aR (d 3) 7 (fun j => some (H.size + 1 + j))), (H.size + 1, aI (d 0) 1098 (fun _ => 0)), (H.size + 2, aI (d 0) 1098 (fun _ => 0)), (H.size + 3, aI (d 0) 1098 (fun _ => 0)), (H.size + 4, aI (d 0) 1098 (fun _ => 0)), (H.size + 5, aI (d 0) 1098 (fun _ => 0)), (H.size + 6, aI (d 0) 1098 (fun _ => 0)), (H.size + 7, aI (d 0) 1098 (fun _ => 0))] T1.heap := by
    intro k x hx
    match k, hx with
    | 0, hx => cases hx; exact f2
    | 1, hx => cases hx; exact fi 0 (by decide)
    | 2, hx => cases hx; exact fi 1 (by decide)
    | 3, hx => cases hx; exact fi 2 (by decide)
    | 4, hx => cases hx; exact fi 3 (by decide)
    | 5, hx => cases hx; exact fi 4 (by decide)
    | 6, hx => cases hx; exact fi 5 (by decide)
    | 7, hx => cases hx; exact fi 6 (by decide)
    | k + 8, hx => simp at hx
  obtain ⟨wn, hwn⟩ : ∃ wn : va_W, wn = [(H.size, aR (d 3) 7 (fun j => some (H.size + 1 + j))), (H.size + 1, aI (d 0) 1098 (fun _ => 0)), (H.size + 2, aI (d 0) 1098 (fun _ => 0)), (H.size + 3, aI (d 0) 1098 (fun _ => 0)), (H.size + 4, aI (d 0) 1098 (fun _ => 0)), (H.size + 5, aI (d 0) 1098 (fun _ => 0)), (H.size + 6, aI (d 0) 1098 (fun _ => 0)), (H.size + 7, aI (d 0) 1098 (fun _ => 0))] := ⟨_, rfl⟩
  have hadr : ∀ (k : Nat) (x : Nat × va_E), wn[k]? = some x → x.1 = H.size + k := by
    intro k x hx
    rw [hwn] at hx
    match k, hx with
    | 0, hx => cases hx; rfl
    | 1, hx => cases hx; rfl
    | 2, hx => cases hx; rfl
    | 3, hx => cases hx; rfl
    | 4, hx => cases hx; rfl
    | 5, hx => cases hx; rfl
    | 6, hx => cases hx; rfl
    | 7, hx => cases hx; rfl
    | k + 8, hx => simp at hx
  have kk := kk H.size
  rw [← hwn] at hP1 kk
  have both : ∀ (k : Nat) (x : Nat × va_E), (ws ++ wn)[k]? = some x → (k < ws.length ∧ ws[k]? = some x ∧ x.1 < H.size) ∨ (ws.length ≤ k ∧ x.1 = H.size + (k - ws.length)) := by
    intro k x hx
    by_cases q : k < ws.length
    · rw [List.getElem?_append_left q] at hx
      exact Or.inl ⟨q, hx, (hP k x hx).lt⟩
    · rw [List.getElem?_append_right (by omega)] at hx
      exact Or.inr ⟨by omega, hadr _ x hx⟩
  have hD1 : va_D A (ws ++ wn) := by
    refine ⟨fun i j x y hi hj hxy => ?_, fun k x hx => ?_⟩
    · rcases both i x hi with ⟨a1, a2, a3⟩ | ⟨a1, a2⟩ <;> rcases both j y hj with ⟨b1, b2, b3⟩ | ⟨b1, b2⟩
      · exact hD.1 i j x y a2 b2 hxy
      · omega
      · omega
      · omega
    · rcases both k x hx with ⟨a1, a2, a3⟩ | ⟨a1, a2⟩
      · exact hD.2 k x a2
      · exact hA _ (Nat.le_trans hS.1 (by omega))
  obtain ⟨t, b1, b2⟩ := kk T1.heap locs ls ((hP.kept hk).app hP1) hD1 ⟨Nat.le_trans hS.1 (by omega), fun x h1 h2 => (fo x (Nat.lt_of_lt_of_le h1 hS.1)).trans (hS.2.1 x h1 h2), hS.2.2⟩ hl T1 rfl X1
  refine ⟨t, st1 t ?_, b2⟩
  rw [hT]
  exact b1
end VN
