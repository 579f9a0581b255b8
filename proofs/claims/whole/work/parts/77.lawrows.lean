/-! rows of the law's own walk -/
def xz (xs : Nat → Int32) (i : Int) : Int := (xs i.toNat).toInt
theorem xz_sm (xs : Nat → Int32) (i : Int) : -2147483648 ≤ xz xs i ∧ xz xs i ≤ 2147483647 := sm_of _
section VLAW
variable {p : Program} {l : Launch} {e : Env} {R : Room} {s : State} {m : MethodId} {args : Array Value} {below : List Frame} {meth : Method} {c : Code} {A : Nat → Prop} {D : va_G} {d : Nat → ClassId} {Q : State → Prop} {cc : ByteArray} {nL : Nat} {own : String} {cells slots : Nat} {ws : va_W} {lv : List (Nat × Value)} {pc : Nat} {st : List Value}
/-- the script stands, and the world does not hold it -/
def SX (s : State) (A : Nat → Prop) (bs L : Nat) (xs : Nat → Int32) : Prop := va_X bs L xs s s.heap ∧ bs < s.heap.size ∧ ¬ A bs ∧ L ≤ 384
theorem V_sld {bs L : Nat} {xs : Nat → Int32} {i : Int} (X : SX s A bs L xs) (C : CX p s m args c D d cc nL own) (hdg : decode cc pc = .ok (.iaload, 1)) (h0 : 0 ≤ i) (h1 : i < L) (kk : V p l e R s m args below meth c A D Q nL cells slots ws lv (pc + 1) (.int (iI (xz xs i)) :: st)) : V p l e R s m args below meth c A D Q nL cells slots ws lv pc (.int (iI i) :: .ref bs :: st) := by
  obtain ⟨X1, X2, X3, X4⟩ := X
  intro H locs ls hP hD hS hl
  refine va_sld C.1 C.2.1 X1 X2 X3 hS (iI_in h0 h1 (by omega)) hdg ?_
  rw [iI_nat h0 (by omega)]
  have e1 : iI (xz xs i) = xs i.toNat := iI_of _
  rw [← e1]
  exact kk H locs ls hP hD hS hl
theorem V_slen {bs L : Nat} {xs : Nat → Int32} (X : SX s A bs L xs) (C : CX p s m args c D d cc nL own) (hdg : decode cc pc = .ok (.arraylength, 1)) (kk : V p l e R s m args below meth c A D Q nL cells slots ws lv (pc + 1) (.int (iI (L : Int)) :: st)) : V p l e R s m args below meth c A D Q nL cells slots ws lv pc (.ref bs :: st) := by
  obtain ⟨X1, X2, X3, X4⟩ := X
  intro H locs ls hP hD hS hl
  refine va_slen C.1 C.2.1 X1 X2 X3 hS hdg ?_
  rw [show Int32.ofNat L = iI (L : Int) from (Int32.ofInt_eq_ofNat).symm]
  exact kk H locs ls hP hD hS hl
theorem V_icmp_same {x y : Int} {off : Int} (tgt : Nat) (C : CX p s m args c D d cc nL own) (hdg : decode cc pc = .ok (.if_icmp .eq off, 3)) (ht : (pc : Int) + off = (tgt : Int)) (hxy : x = y) (kt : V p l e R s m args below meth c A D Q nL cells slots ws lv tgt st) : V p l e R s m args below meth c A D Q nL cells slots ws lv pc (.int (iI y) :: .int (iI x) :: st) := by
  subst hxy
  exact fun H locs ls hP hD hS hl => lv_icmp_eq C.1 C.2.1 hdg ht (fun _ => kt H locs ls hP hD hS hl) (fun z => absurd rfl z)
theorem V_lcmp_same {x y : Int} {off : Int} (tgt : Nat) (C : CX p s m args c D d cc nL own) (hdg : decode cc pc = .ok (.lcmp, 1)) (hdg2 : decode cc (pc + 1) = .ok (.ifCond .eq off, 3)) (ht : ((pc + 1 : Nat) : Int) + off = (tgt : Int)) (hxy : x = y) (kt : V p l e R s m args below meth c A D Q nL cells slots ws lv tgt st) : V p l e R s m args below meth c A D Q nL cells slots ws lv pc (.long (lI y) :: .long (lI x) :: st) := by
  subst hxy
  intro H locs ls hP hD hS hl
  refine W.lcmp C.1 C.2.1 hdg ?_
  have e0 : lg_cmp (lI x) (lI x) = 0 := by
    unfold lg_cmp
    simp
  rw [e0]
  exact lv_if_eq C.1 C.2.1 hdg2 ht (fun _ => kt H locs ls hP hD hS hl) (fun z => absurd rfl z)
theorem V_wl {x y z : Int} {w : Int} (C : CX p s m args c D d cc nL own) (hw : w = ((lI x <<< ((iI 32).toInt64 &&& 63)) ||| (lI y &&& lI z)).toInt) (kk : V p l e R s m args below meth c A D Q nL cells slots ws lv pc (.long (lI w) :: st)) : V p l e R s m args below meth c A D Q nL cells slots ws lv pc (.long ((lI x <<< ((iI 32).toInt64 &&& 63)) ||| (lI y &&& lI z)) :: st) := by
  have : lI w = (lI x <<< ((iI 32).toInt64 &&& 63)) ||| (lI y &&& lI z) := by rw [hw]; exact lI_of _
  rw [this] at kk
  exact kk
theorem V_lshl' {x : Int64} {y : Int32} (C : CX p s m args c D d cc nL own) (hdg : decode cc pc = .ok (.lshl, 1)) (kk : V p l e R s m args below meth c A D Q nL cells slots ws lv (pc + 1) (.long (x <<< (y.toInt64 &&& 63)) :: st)) : V p l e R s m args below meth c A D Q nL cells slots ws lv pc (.int y :: .long x :: st) :=
  fun H locs ls hP hD hS hl => lv_lshl C.1 C.2.1 hdg rfl (kk H locs ls hP hD hS hl)
theorem V_land' {x y : Int64} (C : CX p s m args c D d cc nL own) (hdg : decode cc pc = .ok (.land, 1)) (kk : V p l e R s m args below meth c A D Q nL cells slots ws lv (pc + 1) (.long (x &&& y) :: st)) : V p l e R s m args below meth c A D Q nL cells slots ws lv pc (.long y :: .long x :: st) :=
  fun H locs ls hP hD hS hl => lv_land C.1 C.2.1 hdg (kk H locs ls hP hD hS hl)
theorem V_lor' {x y : Int64} (C : CX p s m args c D d cc nL own) (hdg : decode cc pc = .ok (.lor, 1)) (kk : V p l e R s m args below meth c A D Q nL cells slots ws lv (pc + 1) (.long (x ||| y) :: st)) : V p l e R s m args below meth c A D Q nL cells slots ws lv pc (.long y :: .long x :: st) :=
  fun H locs ls hP hD hS hl => lv_lor C.1 C.2.1 hdg (kk H locs ls hP hD hS hl)
/-- x != 0, as javac spells it -/
theorem V_bool {x : Int} {o1 o2 : Int} (C : CX p s m args c D d cc nL own) (hx : sm x) (h1 : decode cc pc = .ok (.ifCond .eq o1, 3)) (h2 : decode cc (pc + 3) = .ok (.iconst 1, 1)) (h3 : decode cc (pc + 4) = .ok (.goto o2, 3)) (h4 : decode cc (pc + 7) = .ok (.iconst 0, 1)) (t1 : (pc : Int) + o1 = ((pc + 7 : Nat) : Int)) (t2 : ((pc + 4 : Nat) : Int) + o2 = ((pc + 8 : Nat) : Int)) (kk : ∀ w : Int, w = bI (¬ x = 0) → V p l e R s m args below meth c A D Q nL cells slots ws lv (pc + 8) (.int (iI w) :: st)) : V p l e R s m args below meth c A D Q nL cells slots ws lv pc (.int (iI x) :: st) := by
  refine V_if_eq (pc + 7) C h1 t1 hx (fun z => ?_) (fun z => ?_)
  · exact V_iconst C h4 (kk 0 (bI_f (fun w => w z)).symm)
  · exact V_iconst C h2 (V_goto (pc + 8) C h3 t2 (kk 1 (bI_t z).symm))
end VLAW
