/-! the world of the law: the class (the first 63 cells) and the reference -/
def clW (d : Nat → ClassId) (b : Nat → Nat) (a : Nat → Nat → Nat) (sl rw : Nat → Option Nat) (g : Nat → Nat → Int) (G : Nat → Nat → Int → Int) : va_W := [(b 8, .inr (8, fX8 (a 8) (g 8))), (a 8 0, .inr (4, fX4 (a 4) (g 4))), (a 4 0, aI (d 0) 72 (G 4 0)), (a 8 1, .inr (3, fX3 (a 3) (g 3))), (a 8 2, .inr (6, fX6 (a 6) (g 6))), (a 6 0, aI (d 0) 6 (G 6 0)), (a 6 1, aI (d 0) 6 (G 6 1)), (a 6 2, aI (d 0) 6 (G 6 2)), (a 6 3, aI (d 0) 6 (G 6 3)), (a 6 4, aI (d 0) 4 (G 6 4)), (a 6 5, aI (d 0) 4 (G 6 5)), (a 8 3, .inr (6, fX6 (a 10) (g 10))), (a 10 0, aI (d 0) 6 (G 10 0)), (a 10 1, aI (d 0) 6 (G 10 1)), (a 10 2, aI (d 0) 6 (G 10 2)), (a 10 3, aI (d 0) 6 (G 10 3)), (a 10 4, aI (d 0) 4 (G 10 4)), (a 10 5, aI (d 0) 4 (G 10 5)), (a 8 4, .inr (5, fX5 (a 5) (g 5))), (a 5 0, aI (d 0) 6 (G 5 0)), (a 5 1, aI (d 0) 4 (G 5 1)), (a 5 2, aI (d 0) 12 (G 5 2)), (a 5 3, aI (d 0) 12 (G 5 3)), (a 5 4, aI (d 0) 12 (G 5 4)), (a 5 5, aI (d 0) 12 (G 5 5)), (a 8 5, aR (d 2) 2 sl), (b 11, .inr (5, fX5 (a 11) (g 11))), (a 11 0, aI (d 0) 6 (G 11 0)), (a 11 1, aI (d 0) 4 (G 11 1)), (a 11 2, aI (d 0) 12 (G 11 2)), (a 11 3, aI (d 0) 12 (G 11 3)), (a 11 4, aI (d 0) 12 (G 11 4)), (a 11 5, aI (d 0) 12 (G 11 5)), (b 12, .inr (5, fX5 (a 12) (g 12))), (a 12 0, aI (d 0) 6 (G 12 0)), (a 12 1, aI (d 0) 4 (G 12 1)), (a 12 2, aI (d 0) 12 (G 12 2)), (a 12 3, aI (d 0) 12 (G 12 3)), (a 12 4, aI (d 0) 12 (G 12 4)), (a 12 5, aI (d 0) 12 (G 12 5)), (a 8 6, .inr (7, fX7 (a 7) (g 7))), (a 7 0, aR (d 3) 7 rw), (a 13 0, aI (d 0) 1098 (G 13 0)), (a 13 1, aI (d 0) 1098 (G 13 1)), (a 13 2, aI (d 0) 1098 (G 13 2)), (a 13 3, aI (d 0) 1098 (G 13 3)), (a 13 4, aI (d 0) 1098 (G 13 4)), (a 13 5, aI (d 0) 1098 (G 13 5)), (a 13 6, aI (d 0) 1098 (G 13 6)), (a 7 1, aI (d 0) 1098 (G 7 1)), (a 7 2, aI (d 0) 6 (G 7 2)), (a 8 7, .inr (0, fX0 (a 0) (g 0))), (a 0 0, aI (d 0) 8 (G 0 0)), (a 0 1, aI (d 0) 8 (G 0 1)), (a 0 2, aI (d 0) 8 (G 0 2)), (a 0 3, aI (d 0) 8 (G 0 3)), (a 0 4, aI (d 0) 8 (G 0 4)), (a 0 6, aI (d 0) 3 (G 0 6)), (a 8 8, .inr (2, fX2 (a 2) (g 2))), (a 2 0, aI (d 0) 1000 (G 2 0)), (a 8 9, .inr (1, fX1 (a 1) (g 1))), (a 1 0, aI (d 0) 60 (G 1 0)), (a 1 1, aI (d 0) 3 (G 1 1))]
def moW (d : Nat → ClassId) (b : Nat → Nat) (a : Nat → Nat → Nat) (g : Nat → Nat → Int) (G : Nat → Nat → Int → Int) : va_W := [(b 9, .inr (9, fX9 (a 9) (g 9))), (a 9 1, aI (d 0) 72 (G 9 1)), (a 9 6, aI (d 0) 6 (G 9 6)), (a 9 7, aI (d 0) 6 (G 9 7)), (a 9 8, aI (d 0) 4 (G 9 8)), (a 9 9, aI (d 0) 4 (G 9 9)), (a 9 10, aI (d 1) 24 (G 9 10)), (a 9 11, aI (d 0) 6 (G 9 11)), (a 9 12, aI (d 1) 6 (G 9 12)), (a 9 16, aI (d 0) 6 (G 9 16)), (a 9 17, aI (d 0) 6 (G 9 17)), (a 9 18, aI (d 0) 4 (G 9 18)), (a 9 19, aI (d 0) 4 (G 9 19)), (a 9 20, aI (d 1) 24 (G 9 20)), (a 9 22, aI (d 0) 12 (G 9 22)), (a 9 23, aI (d 0) 12 (G 9 23)), (a 9 24, aI (d 0) 12 (G 9 24)), (a 9 25, aI (d 0) 12 (G 9 25)), (a 9 27, aI (d 0) 8 (G 9 27)), (a 9 28, aI (d 0) 8 (G 9 28)), (a 9 29, aI (d 0) 8 (G 9 29)), (a 9 30, aI (d 0) 8 (G 9 30)), (a 9 31, aI (d 0) 8 (G 9 31)), (a 9 33, aI (d 0) 8 (G 9 33)), (a 9 34, aI (d 0) 8 (G 9 34)), (a 9 35, aI (d 0) 8 (G 9 35)), (a 9 36, aI (d 0) 8 (G 9 36)), (a 9 37, aI (d 0) 8 (G 9 37)), (a 9 38, aI (d 0) 120 (G 9 38)), (a 9 39, aI (d 1) 2 (G 9 39)), (a 9 40, aI (d 0) 7707 (G 9 40)), (a 9 41, aI (d 0) 6 (G 9 41)), (a 9 42, aI (d 0) 6 (G 9 42)), (a 9 43, aI (d 0) 3 (G 9 43)), (a 9 47, aI (d 0) 1000 (G 9 47))]
def lawW (d : Nat → ClassId) (b : Nat → Nat) (a : Nat → Nat → Nat) (sl rw : Nat → Option Nat) (g : Nat → Nat → Int) (G : Nat → Nat → Int → Int) : va_W := [(b 8, .inr (8, fX8 (a 8) (g 8))), (a 8 0, .inr (4, fX4 (a 4) (g 4))), (a 4 0, aI (d 0) 72 (G 4 0)), (a 8 1, .inr (3, fX3 (a 3) (g 3))), (a 8 2, .inr (6, fX6 (a 6) (g 6))), (a 6 0, aI (d 0) 6 (G 6 0)), (a 6 1, aI (d 0) 6 (G 6 1)), (a 6 2, aI (d 0) 6 (G 6 2)), (a 6 3, aI (d 0) 6 (G 6 3)), (a 6 4, aI (d 0) 4 (G 6 4)), (a 6 5, aI (d 0) 4 (G 6 5)), (a 8 3, .inr (6, fX6 (a 10) (g 10))), (a 10 0, aI (d 0) 6 (G 10 0)), (a 10 1, aI (d 0) 6 (G 10 1)), (a 10 2, aI (d 0) 6 (G 10 2)), (a 10 3, aI (d 0) 6 (G 10 3)), (a 10 4, aI (d 0) 4 (G 10 4)), (a 10 5, aI (d 0) 4 (G 10 5)), (a 8 4, .inr (5, fX5 (a 5) (g 5))), (a 5 0, aI (d 0) 6 (G 5 0)), (a 5 1, aI (d 0) 4 (G 5 1)), (a 5 2, aI (d 0) 12 (G 5 2)), (a 5 3, aI (d 0) 12 (G 5 3)), (a 5 4, aI (d 0) 12 (G 5 4)), (a 5 5, aI (d 0) 12 (G 5 5)), (a 8 5, aR (d 2) 2 sl), (b 11, .inr (5, fX5 (a 11) (g 11))), (a 11 0, aI (d 0) 6 (G 11 0)), (a 11 1, aI (d 0) 4 (G 11 1)), (a 11 2, aI (d 0) 12 (G 11 2)), (a 11 3, aI (d 0) 12 (G 11 3)), (a 11 4, aI (d 0) 12 (G 11 4)), (a 11 5, aI (d 0) 12 (G 11 5)), (b 12, .inr (5, fX5 (a 12) (g 12))), (a 12 0, aI (d 0) 6 (G 12 0)), (a 12 1, aI (d 0) 4 (G 12 1)), (a 12 2, aI (d 0) 12 (G 12 2)), (a 12 3, aI (d 0) 12 (G 12 3)), (a 12 4, aI (d 0) 12 (G 12 4)), (a 12 5, aI (d 0) 12 (G 12 5)), (a 8 6, .inr (7, fX7 (a 7) (g 7))), (a 7 0, aR (d 3) 7 rw), (a 13 0, aI (d 0) 1098 (G 13 0)), (a 13 1, aI (d 0) 1098 (G 13 1)), (a 13 2, aI (d 0) 1098 (G 13 2)), (a 13 3, aI (d 0) 1098 (G 13 3)), (a 13 4, aI (d 0) 1098 (G 13 4)), (a 13 5, aI (d 0) 1098 (G 13 5)), (a 13 6, aI (d 0) 1098 (G 13 6)), (a 7 1, aI (d 0) 1098 (G 7 1)), (a 7 2, aI (d 0) 6 (G 7 2)), (a 8 7, .inr (0, fX0 (a 0) (g 0))), (a 0 0, aI (d 0) 8 (G 0 0)), (a 0 1, aI (d 0) 8 (G 0 1)), (a 0 2, aI (d 0) 8 (G 0 2)), (a 0 3, aI (d 0) 8 (G 0 3)), (a 0 4, aI (d 0) 8 (G 0 4)), (a 0 6, aI (d 0) 3 (G 0 6)), (a 8 8, .inr (2, fX2 (a 2) (g 2))), (a 2 0, aI (d 0) 1000 (G 2 0)), (a 8 9, .inr (1, fX1 (a 1) (g 1))), (a 1 0, aI (d 0) 60 (G 1 0)), (a 1 1, aI (d 0) 3 (G 1 1)), (b 9, .inr (9, fX9 (a 9) (g 9))), (a 9 1, aI (d 0) 72 (G 9 1)), (a 9 6, aI (d 0) 6 (G 9 6)), (a 9 7, aI (d 0) 6 (G 9 7)), (a 9 8, aI (d 0) 4 (G 9 8)), (a 9 9, aI (d 0) 4 (G 9 9)), (a 9 10, aI (d 1) 24 (G 9 10)), (a 9 11, aI (d 0) 6 (G 9 11)), (a 9 12, aI (d 1) 6 (G 9 12)), (a 9 16, aI (d 0) 6 (G 9 16)), (a 9 17, aI (d 0) 6 (G 9 17)), (a 9 18, aI (d 0) 4 (G 9 18)), (a 9 19, aI (d 0) 4 (G 9 19)), (a 9 20, aI (d 1) 24 (G 9 20)), (a 9 22, aI (d 0) 12 (G 9 22)), (a 9 23, aI (d 0) 12 (G 9 23)), (a 9 24, aI (d 0) 12 (G 9 24)), (a 9 25, aI (d 0) 12 (G 9 25)), (a 9 27, aI (d 0) 8 (G 9 27)), (a 9 28, aI (d 0) 8 (G 9 28)), (a 9 29, aI (d 0) 8 (G 9 29)), (a 9 30, aI (d 0) 8 (G 9 30)), (a 9 31, aI (d 0) 8 (G 9 31)), (a 9 33, aI (d 0) 8 (G 9 33)), (a 9 34, aI (d 0) 8 (G 9 34)), (a 9 35, aI (d 0) 8 (G 9 35)), (a 9 36, aI (d 0) 8 (G 9 36)), (a 9 37, aI (d 0) 8 (G 9 37)), (a 9 38, aI (d 0) 120 (G 9 38)), (a 9 39, aI (d 1) 2 (G 9 39)), (a 9 40, aI (d 0) 7707 (G 9 40)), (a 9 41, aI (d 0) 6 (G 9 41)), (a 9 42, aI (d 0) 6 (G 9 42)), (a 9 43, aI (d 0) 3 (G 9 43)), (a 9 47, aI (d 0) 1000 (G 9 47))]
def bN (h0 : Nat) (u : Nat → Nat) (k : Nat) : Nat := if k = 8 then h0 else u (400 + k)
def aN (u : Nat → Nat) (k j : Nat) : Nat := if k = 13 then u 140 + 1 + j else u (20 * k + j)
def slN (u : Nat → Nat) : Nat → Option Nat := va_up (va_up (fun _ => none) 0 (some (u 411))) 1 (some (u 412))
def rwN (u : Nat → Nat) (j : Nat) : Option Nat := some (u 140 + 1 + j)
def gN (k : Nat) : Nat → Int := if k = 5 ∨ k = 11 ∨ k = 12 then up (fun _ => 0) 7 30 else if k = 9 then up (fun _ => 0) 13 30 else fun _ => 0
def GN (_ _ : Nat) (_ : Int) : Int := 0
theorem V_eqc {p : Program} {l : Launch} {e : Env} {R : Room} {s : State} {m : MethodId} {args : Array Value} {below : List Frame} {meth : Method} {c : Code} {A : Nat → Prop} {D : va_G} {Q : State → Prop} {nL cells slots c' s' : Nat} {ws ws' : va_W} {lv : List (Nat × Value)} {pc : Nat} {st : List Value} (hc : cells = c') (hs : slots = s') (hw : ws = ws') (kk : V p l e R s m args below meth c A D Q nL c' s' ws' lv pc st) : V p l e R s m args below meth c A D Q nL cells slots ws lv pc st := by
  subst hc
  subst hs
  subst hw
  exact kk
def bX0 : List Value := [.null, .null, .null, .null, .null, .int (iI 0), .null, .int (iI 0), .long (lI 0), .long (lI 0)]
theorem bkX0 : ∀ j, j < 10 → defaultValue (tyX0 j) = vp_V bX0 j := by
  intro j hj
  match j, hj with
  | 0, _ => rfl
  | 1, _ => rfl
  | 2, _ => rfl
  | 3, _ => rfl
  | 4, _ => rfl
  | 5, _ => rfl
  | 6, _ => rfl
  | 7, _ => rfl
  | 8, _ => rfl
  | 9, _ => rfl
  | k + 10, h => exact absurd h (by omega)
def bX1 : List Value := [.null, .null, .int (iI 0), .int (iI 0)]
theorem bkX1 : ∀ j, j < 4 → defaultValue (tyX1 j) = vp_V bX1 j := by
  intro j hj
  match j, hj with
  | 0, _ => rfl
  | 1, _ => rfl
  | 2, _ => rfl
  | 3, _ => rfl
  | k + 4, h => exact absurd h (by omega)
def bX2 : List Value := [.null, .int (iI 0), .int (iI 0)]
theorem bkX2 : ∀ j, j < 3 → defaultValue (tyX2 j) = vp_V bX2 j := by
  intro j hj
  match j, hj with
  | 0, _ => rfl
  | 1, _ => rfl
  | 2, _ => rfl
  | k + 3, h => exact absurd h (by omega)
def bX3 : List Value := [.int (iI 0), .int (iI 0), .int (iI 0), .int (iI 0)]
theorem bkX3 : ∀ j, j < 4 → defaultValue (tyX3 j) = vp_V bX3 j := by
  intro j hj
  match j, hj with
  | 0, _ => rfl
  | 1, _ => rfl
  | 2, _ => rfl
  | 3, _ => rfl
  | k + 4, h => exact absurd h (by omega)
def bX4 : List Value := [.null, .int (iI 0)]
theorem bkX4 : ∀ j, j < 2 → defaultValue (tyX4 j) = vp_V bX4 j := by
  intro j hj
  match j, hj with
  | 0, _ => rfl
  | 1, _ => rfl
  | k + 2, h => exact absurd h (by omega)
def bX5 : List Value := [.null, .null, .null, .null, .null, .null, .int (iI 0), .int (iI 0), .int (iI 0)]
theorem bkX5 : ∀ j, j < 9 → defaultValue (tyX5 j) = vp_V bX5 j := by
  intro j hj
  match j, hj with
  | 0, _ => rfl
  | 1, _ => rfl
  | 2, _ => rfl
  | 3, _ => rfl
  | 4, _ => rfl
  | 5, _ => rfl
  | 6, _ => rfl
  | 7, _ => rfl
  | 8, _ => rfl
  | k + 9, h => exact absurd h (by omega)
def bX6 : List Value := [.null, .null, .null, .null, .null, .null, .int (iI 0), .int (iI 0), .int (iI 0), .int (iI 0)]
theorem bkX6 : ∀ j, j < 10 → defaultValue (tyX6 j) = vp_V bX6 j := by
  intro j hj
  match j, hj with
  | 0, _ => rfl
  | 1, _ => rfl
  | 2, _ => rfl
  | 3, _ => rfl
  | 4, _ => rfl
  | 5, _ => rfl
  | 6, _ => rfl
  | 7, _ => rfl
  | 8, _ => rfl
  | 9, _ => rfl
  | k + 10, h => exact absurd h (by omega)
def bX7 : List Value := [.null, .null, .null, .int (iI 0), .int (iI 0)]
theorem bkX7 : ∀ j, j < 5 → defaultValue (tyX7 j) = vp_V bX7 j := by
  intro j hj
  match j, hj with
  | 0, _ => rfl
  | 1, _ => rfl
  | 2, _ => rfl
  | 3, _ => rfl
  | 4, _ => rfl
  | k + 5, h => exact absurd h (by omega)
def bX8 : List Value := [.null, .null, .null, .null, .null, .null, .null, .null, .null, .null]
theorem bkX8 : ∀ j, j < 10 → defaultValue (tyX8 j) = vp_V bX8 j := by
  intro j hj
  match j, hj with
  | 0, _ => rfl
  | 1, _ => rfl
  | 2, _ => rfl
  | 3, _ => rfl
  | 4, _ => rfl
  | 5, _ => rfl
  | 6, _ => rfl
  | 7, _ => rfl
  | 8, _ => rfl
  | 9, _ => rfl
  | k + 10, h => exact absurd h (by omega)
def bX9 : List Value := [.int (iI 0), .null, .int (iI 0), .int (iI 0), .int (iI 0), .int (iI 0), .null, .null, .null, .null, .null, .null, .null, .int (iI 0), .int (iI 0), .int (iI 0), .null, .null, .null, .null, .null, .int (iI 0), .null, .null, .null, .null, .int (iI 0), .null, .null, .null, .null, .null, .int (iI 0), .null, .null, .null, .null, .null, .null, .null, .null, .null, .null, .null, .int (iI 0), .long (lI 0), .long (lI 0), .null, .int (iI 0), .int (iI 0)]
theorem bkX9 : ∀ j, j < 50 → defaultValue (tyX9 j) = vp_V bX9 j := by
  intro j hj
  match j, hj with
  | 0, _ => rfl
  | 1, _ => rfl
  | 2, _ => rfl
  | 3, _ => rfl
  | 4, _ => rfl
  | 5, _ => rfl
  | 6, _ => rfl
  | 7, _ => rfl
  | 8, _ => rfl
  | 9, _ => rfl
  | 10, _ => rfl
  | 11, _ => rfl
  | 12, _ => rfl
  | 13, _ => rfl
  | 14, _ => rfl
  | 15, _ => rfl
  | 16, _ => rfl
  | 17, _ => rfl
  | 18, _ => rfl
  | 19, _ => rfl
  | 20, _ => rfl
  | 21, _ => rfl
  | 22, _ => rfl
  | 23, _ => rfl
  | 24, _ => rfl
  | 25, _ => rfl
  | 26, _ => rfl
  | 27, _ => rfl
  | 28, _ => rfl
  | 29, _ => rfl
  | 30, _ => rfl
  | 31, _ => rfl
  | 32, _ => rfl
  | 33, _ => rfl
  | 34, _ => rfl
  | 35, _ => rfl
  | 36, _ => rfl
  | 37, _ => rfl
  | 38, _ => rfl
  | 39, _ => rfl
  | 40, _ => rfl
  | 41, _ => rfl
  | 42, _ => rfl
  | 43, _ => rfl
  | 44, _ => rfl
  | 45, _ => rfl
  | 46, _ => rfl
  | 47, _ => rfl
  | 48, _ => rfl
  | 49, _ => rfl
  | k + 50, h => exact absurd h (by omega)
