/-! what the walks use of numbers -/
def bd (f : Int → Int) (lo hi : Int) : Prop := ∀ j, lo ≤ f j ∧ f j ≤ hi
theorem bd_w {f : Int → Int} {lo hi lo' hi' : Int} (h : bd f lo hi) (h1 : lo' ≤ lo) (h2 : hi ≤ hi') : bd f lo' hi' := fun j => ⟨Int.le_trans h1 (h j).1, Int.le_trans (h j).2 h2⟩
theorem bd_u {f : Int → Int} {lo hi i x : Int} (h : bd f lo hi) (hx : lo ≤ x ∧ x ≤ hi) : bd (uI f i x) lo hi := by
  intro j
  unfold uI
  split
  · exact hx
  · exact h j
theorem bd_0 {lo hi : Int} (h1 : lo ≤ 0) (h2 : 0 ≤ hi) : bd (fun _ => 0) lo hi := fun _ => ⟨h1, h2⟩
/-- f below n, g from n on -/
def cpI (f g : Int → Int) (n : Int) : Int → Int := fun j => if 0 ≤ j ∧ j < n then f j else g j
theorem bd_c {f g : Int → Int} {n lo hi : Int} (hf : bd f lo hi) (hg : bd g lo hi) : bd (cpI f g n) lo hi := by
  intro j
  unfold cpI
  split
  · exact hf j
  · exact hg j
theorem cpI_in {f g : Int → Int} {n j : Int} (h : 0 ≤ j ∧ j < n) : cpI f g n j = f j := if_pos h
theorem mulb {x y a b : Int} (hx : 0 ≤ x ∧ x ≤ a) (hy : 0 ≤ y ∧ y ≤ b) : 0 ≤ x * y ∧ x * y ≤ a * b := ⟨Int.mul_nonneg hx.1 hy.1, Int.mul_le_mul hx.2 hy.2 hy.1 (Int.le_trans hx.1 hx.2)⟩
theorem nI_iI (n : Nat) : nI n = iI n := Int32.ofInt_eq_ofNat.symm
theorem iI_nI {x : Int} (h : 0 ≤ x) : iI x = nI x.toNat := by
  rw [nI_iI, Int.toNat_of_nonneg h]
theorem iI_bv (x : Int) : (iI x).toBitVec = BitVec.ofInt 32 x := rfl
theorem and_m (x : Int) (k : Nat) (hk : k ≤ 32) {m : Int32} (hm : m.toBitVec.toNat = 2 ^ k - 1) : iI x &&& m = iI (x % 2 ^ k) := by
  rw [pk_and _ k hm, nI_iI, iI_bv, BitVec.toNat_ofInt]
  congr 1
  have e32 : (((2 : Nat) ^ 32 : Nat) : Int) = 2 ^ k * 2 ^ (32 - k) := by
    have h9 : (2 : Nat) ^ 32 = 2 ^ k * 2 ^ (32 - k) := by rw [← Nat.pow_add]; congr 1; omega
    rw [h9]
    push_cast
    rfl
  have hp : (0 : Int) < 2 ^ k := Int.pow_pos (by decide)
  have h0 : 0 ≤ x % (((2 : Nat) ^ 32 : Nat) : Int) := Int.emod_nonneg _ (by decide)
  rw [Int.natCast_emod, Int.toNat_of_nonneg h0, e32]
  push_cast
  exact Int.emod_emod_of_dvd x ⟨2 ^ (32 - k), rfl⟩
theorem and1_i (x : Int) : iI x &&& iI 1 = iI (x % 2) := and_m x 1 (by decide) (by decide)
theorem and255_i (x : Int) : iI x &&& iI 255 = iI (x % 256) := and_m x 8 (by decide) (by decide)
theorem and63_i (x : Int) : iI x &&& iI 63 = iI (x % 64) := and_m x 6 (by decide) (by decide)
theorem s_l9 : ∀ n, n < 32 → ((nI n &&& 31).toBitVec.smod 32).toNat = n := by decide +kernel
theorem shr_i {x k : Int} (h0 : 0 ≤ x) (h : x ≤ 2147483647) (k0 : 0 ≤ k) (hk : k ≤ 31) : iI x >>> (iI k &&& 31) = iI (x / 2 ^ k.toNat) := by
  rw [iI_nI h0, iI_nI k0, pk_shrN (by omega) _ k.toNat (s_l9 k.toNat (by omega)), nI_iI]
  congr 1
  rw [Int.natCast_ediv, Int.toNat_of_nonneg h0]
  push_cast
  rfl
theorem shl1_i {k : Int} (k0 : 0 ≤ k) (hk : k ≤ 30) : iI 1 <<< (iI k &&& 31) = iI (2 ^ k.toNat) := by
  rw [iI_nI (show (0 : Int) ≤ 1 by decide), iI_nI k0, pk_shlN _ k.toNat (s_l9 k.toNat (by omega)) (by
    have : 2 ^ k.toNat ≤ 2 ^ 30 := Nat.pow_le_pow_right (by decide) (by omega)
    show 1 * 2 ^ k.toNat < 2 ^ 32
    omega), nI_iI]
  congr 1
  show ((1 * 2 ^ k.toNat : Nat) : Int) = _
  rw [Nat.one_mul]
  push_cast
  rfl
def iOr (a b : Int) : Int := ((a.toNat ||| b.toNat : Nat) : Int)
def iAnd (a b : Int) : Int := ((a.toNat &&& b.toNat : Nat) : Int)
def iXor (a b : Int) : Int := ((a.toNat ^^^ b.toNat : Nat) : Int)
theorem nor_i (a b : Nat) : nI a ||| nI b = nI (a ||| b) := by
  apply Int32.toBitVec_inj.1
  show BitVec.ofNat 32 a ||| BitVec.ofNat 32 b = BitVec.ofNat 32 (a ||| b)
  apply BitVec.eq_of_getLsbD_eq
  intro i hi
  simp [hi]
theorem nxor_i (a b : Nat) : nI a ^^^ nI b = nI (a ^^^ b) := by
  apply Int32.toBitVec_inj.1
  show BitVec.ofNat 32 a ^^^ BitVec.ofNat 32 b = BitVec.ofNat 32 (a ^^^ b)
  apply BitVec.eq_of_getLsbD_eq
  intro i hi
  simp [hi]
theorem nand_i (a b : Nat) : nI a &&& nI b = nI (a &&& b) := by
  apply Int32.toBitVec_inj.1
  show BitVec.ofNat 32 a &&& BitVec.ofNat 32 b = BitVec.ofNat 32 (a &&& b)
  apply BitVec.eq_of_getLsbD_eq
  intro i hi
  simp [hi]
theorem or_i {a b : Int} (ha : 0 ≤ a) (hb : 0 ≤ b) : iI a ||| iI b = iI (iOr a b) := by
  rw [iI_nI ha, iI_nI hb, nor_i, nI_iI]
  rfl
theorem xor_i {a b : Int} (ha : 0 ≤ a) (hb : 0 ≤ b) : iI a ^^^ iI b = iI (iXor a b) := by
  rw [iI_nI ha, iI_nI hb, nxor_i, nI_iI]
  rfl
theorem and_i {a b : Int} (ha : 0 ≤ a) (hb : 0 ≤ b) : iI a &&& iI b = iI (iAnd a b) := by
  rw [iI_nI ha, iI_nI hb, nand_i, nI_iI]
  rfl
/-- the sum of g over 0 .. n - 1 -/
def sN (g : Int → Int) : Nat → Int
  | 0 => 0
  | k + 1 => sN g k + g (k : Int)
def sZ (g : Int → Int) (n : Int) : Int := sN g n.toNat
theorem sZ_0 (g : Int → Int) : sZ g 0 = 0 := rfl
theorem sZ_s (g : Int → Int) {n : Int} (h : 0 ≤ n) : sZ g (n + 1) = sZ g n + g n := by
  unfold sZ
  rw [show (n + 1).toNat = n.toNat + 1 by omega]
  show sN g n.toNat + g ((n.toNat : Nat) : Int) = _
  rw [Int.toNat_of_nonneg h]
theorem sN_c {g h : Int → Int} : ∀ {k : Nat}, (∀ j : Int, 0 ≤ j → j < k → g j = h j) → sN g k = sN h k
  | 0, _ => rfl
  | k + 1, e => by
    show sN g k + g k = sN h k + h k
    rw [sN_c (fun j h0 h1 => e j h0 (by omega)), e k (by omega) (by omega)]
theorem sZ_c {g h : Int → Int} {n : Int} (e : ∀ j : Int, 0 ≤ j → j < n → g j = h j) : sZ g n = sZ h n := by
  unfold sZ
  by_cases hn : 0 ≤ n
  · exact sN_c (fun j h0 h1 => e j h0 (by omega))
  · rw [show n.toNat = 0 by omega]
    rfl
theorem sN_b {g : Int → Int} {lo hi : Int} (h : ∀ j, lo ≤ g j ∧ g j ≤ hi) : ∀ k : Nat, lo * k ≤ sN g k ∧ sN g k ≤ hi * k
  | 0 => by simp [sN]
  | k + 1 => by
    have h1 := sN_b h k
    have h2 := h (k : Int)
    show lo * ((k + 1 : Nat) : Int) ≤ sN g k + g k ∧ sN g k + g k ≤ hi * ((k + 1 : Nat) : Int)
    push_cast
    rw [Int.mul_add, Int.mul_add]
    omega
section VQ
variable {p : Program} {l : Launch} {e : Env} {R : Room} {s : State} {m : MethodId} {args : Array Value} {below : List Frame} {meth : Method} {c : Code} {A : Nat → Prop} {D : va_G} {d : Nat → ClassId} {Q : State → Prop} {cc : ByteArray} {nL : Nat} {own : String} {cells slots : Nat} {ws : va_W} {lv : List (Nat × Value)} {pc : Nat} {st : List Value}
theorem V_aald {a n k x : Nat} {f : Nat → Option Nat} {i : Int} (hk : k = 2 ∨ k = 3) (C : CX p s m args c D d cc nL own) (hdg : decode cc pc = .ok (.aaload, 1)) (q0 : Nat) (ha : ws[q0]? = some (a, aR (d k) n f)) (h0 : 0 ≤ i) (h1 : i < n) (hf : f i.toNat = some x) (hn : n < 2147483648) (kk : V p l e R s m args below meth c A D Q nL cells slots ws lv (pc + 1) (.ref x :: st)) : V p l e R s m args below meth c A D Q nL cells slots ws lv pc (.int (iI i) :: .ref a :: st) := by
  intro H locs ls hP hD hS hl
  have hin := iI_in h0 h1 hn
  have hi : (iI i).toNatClampNeg = i.toNat := iI_nat h0 (by omega)
  have hlt : (iI i).toNatClampNeg < n := by omega
  have hv : (arrV (d k) n (fun j => va_rf (f j))).slots[(iI i).toNatClampNeg]? = some (.ref x) := by
    rw [arrV_read _ _ hlt, hi, hf]
    rfl
  rcases hk with rfl | rfl
  · exact W.aald (v := .ref x) (ty := .object "BuyersArm$Stand") C.1 C.2.1 (hP q0 _ ha) ((C.2.2.2.2.2.1.2 2 _ rfl).1 n (fun j => va_rf (f j))) rfl (fun q => by cases q) (by show ¬ (iI i < 0 ∨ (arrV _ _ _).slots.size ≤ _); rw [arrV_size]; exact hin) hv rfl rfl hdg (kk H locs ls hP hD hS hl)
  · exact W.aald (v := .ref x) (ty := .array .int) C.1 C.2.1 (hP q0 _ ha) ((C.2.2.2.2.2.1.2 3 _ rfl).1 n (fun j => va_rf (f j))) rfl (fun q => by cases q) (by show ¬ (iI i < 0 ∨ (arrV _ _ _).slots.size ≤ _); rw [arrV_size]; exact hin) hv rfl rfl hdg (kk H locs ls hP hD hS hl)
theorem V_copy {a0 a1 n0 n1 index : Nat} {f g : Int → Int} {n : Int} {ws' : va_W} (hlink : Cond.methodLink own index arraycopyName ∈ gtb) (hnat : Cond.native arraycopyName ∈ gtb) (hstat : Cond.static arraycopyName ∈ gtb) (hini : Cond.initialized "java/lang/System" ∈ gtb) (C : CX p s m args c D d cc nL own) (hdg : decode cc pc = .ok (.invokestatic index, 3)) (q0 q1 : Nat) (ha0 : ws[q0]? = some (a0, aI (d 0) n0 f)) (ha1 : ws[q1]? = some (a1, aI (d 0) n1 g)) (hn0 : 0 ≤ n ∧ n ≤ 2147483647) (h4 : n.toNat ≤ n0) (h5 : n.toNat ≤ n1) (hframes : 1 ≤ R.frames) (hlocals : (st.map fun v => v.category).sum + (nativeFrameWords "java/lang/System" "arraycopy" 5 + 11) ≤ R.locals) (hw : ws.set q1 (a1, aI (d 0) n1 (cpI f g n)) = ws') (kk : V p l e R s m args below meth c A D Q nL cells slots ws' lv (pc + 3) st) : V p l e R s m args below meth c A D Q nL cells slots ws lv pc (.int (iI n) :: .int (iI 0) :: .ref a1 :: .int (iI 0) :: .ref a0 :: st) := by
  subst hw
  have hnn : (iI n).toNatClampNeg = n.toNat := iI_nat hn0.1 hn0.2
  have h00 : (iI 0).toNatClampNeg = 0 := rfl
  refine fun H locs ls hP hD hS hl => va_copyi C.1 C.2.1 (C.2.2.1.trans hl.1.symm) C.2.2.2.1 (C.2.2.2.2.1 _ hlink) (C.2.2.2.2.1 _ hnat) (C.2.2.2.2.1 _ hstat) (C.2.2.2.2.1 _ hini) C.2.2.2.2.2.1 hP hD hS q0 q1 0 0 ha0 ha1 rfl rfl rfl (by decide) (by decide) (fun z => by have := (iI_lt (b := 0) ⟨by omega, by omega⟩ sm0).mp z; omega) (by rw [hnn, h00]; omega) (by rw [hnn, h00]; omega) (fun _ _ => rfl) hframes hlocals hdg (fun H1 locs1 hP1 hD1 hS1 => ?_)
  rw [hnn, h00, show va_cpy (fun j : Nat => iI (f (j : Int))) (fun j : Nat => iI (g (j : Int))) 0 0 n.toNat = (fun j : Nat => iI (cpI f g n (j : Int))) by
    funext j
    unfold va_cpy cpI
    by_cases h : 0 ≤ j ∧ j < 0 + n.toNat
    · rw [if_pos h, if_pos (by omega)]
      simp
    · rw [if_neg h, if_neg (by omega)]] at hP1 hD1
  exact kk H1 locs1 ls hP1 hD1 hS1 hl
end VQ
section VA
variable {p : Program} {l : Launch} {e : Env} {R : Room} {s : State} {m : MethodId} {args : Array Value} {below : List Frame} {meth : Method} {c : Code} {A : Nat → Prop} {D : va_G} {d : Nat → ClassId} {Q : State → Prop} {cc : ByteArray} {nL : Nat} {cells slots : Nat} {ws : va_W} {lv : List (Nat × Value)} {pc : Nat} {st : List Value}
theorem ac_X5_37 {a0 a1 n0 n1 : Nat} {f g : Int → Int} {n : Int} {ws' : va_W} (C : CX p s m args c D d cc nL RX5) (hdg : decode cc pc = .ok (.invokestatic 37, 3)) (q0 q1 : Nat) (ha0 : ws[q0]? = some (a0, aI (d 0) n0 f)) (ha1 : ws[q1]? = some (a1, aI (d 0) n1 g)) (hn0 : 0 ≤ n ∧ n ≤ 2147483647) (h4 : n.toNat ≤ n0) (h5 : n.toNat ≤ n1) (hframes : 1 ≤ R.frames) (hlocals : (st.map fun v => v.category).sum + (nativeFrameWords "java/lang/System" "arraycopy" 5 + 11) ≤ R.locals) (hw : ws.set q1 (a1, aI (d 0) n1 (cpI f g n)) = ws') (kk : V p l e R s m args below meth c A D Q nL cells slots ws' lv (pc + 3) st) : V p l e R s m args below meth c A D Q nL cells slots ws lv pc (.int (iI n) :: .int (iI 0) :: .ref a1 :: .int (iI 0) :: .ref a0 :: st) :=
  V_copy w2_133 w2_135 w2_134 w1_13 C hdg q0 q1 ha0 ha1 hn0 h4 h5 hframes hlocals hw kk
theorem ac_X7_54 {a0 a1 n0 n1 : Nat} {f g : Int → Int} {n : Int} {ws' : va_W} (C : CX p s m args c D d cc nL RX7) (hdg : decode cc pc = .ok (.invokestatic 54, 3)) (q0 q1 : Nat) (ha0 : ws[q0]? = some (a0, aI (d 0) n0 f)) (ha1 : ws[q1]? = some (a1, aI (d 0) n1 g)) (hn0 : 0 ≤ n ∧ n ≤ 2147483647) (h4 : n.toNat ≤ n0) (h5 : n.toNat ≤ n1) (hframes : 1 ≤ R.frames) (hlocals : (st.map fun v => v.category).sum + (nativeFrameWords "java/lang/System" "arraycopy" 5 + 11) ≤ R.locals) (hw : ws.set q1 (a1, aI (d 0) n1 (cpI f g n)) = ws') (kk : V p l e R s m args below meth c A D Q nL cells slots ws' lv (pc + 3) st) : V p l e R s m args below meth c A D Q nL cells slots ws lv pc (.int (iI n) :: .int (iI 0) :: .ref a1 :: .int (iI 0) :: .ref a0 :: st) :=
  V_copy w2_221 w2_135 w2_134 w1_13 C hdg q0 q1 ha0 ha1 hn0 h4 h5 hframes hlocals hw kk
end VA
