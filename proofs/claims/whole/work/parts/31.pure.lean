theorem up_same {α : Type} {f : Nat → α} {k : Nat} {v : α} (h : v = f k) : up f k v = f := by
  funext j
  unfold up
  split
  · next e => rw [e, h]
  · rfl
theorem up_up {α : Type} {f : Nat → α} {k : Nat} {v w : α} : up (up f k v) k w = up f k w := by
  funext j
  unfold up
  split <;> rfl
theorem cpI_f {F : Int → Int} {v i : Int} (h : 0 ≤ i) : uI (cpI (fun _ => v) F i) i v = cpI (fun _ => v) F (i + 1) := by
  funext j
  unfold uI cpI
  by_cases h1 : j = i
  · rw [if_pos h1, if_pos (by omega)]
  · rw [if_neg h1]
    by_cases h2 : 0 ≤ j ∧ j < i
    · rw [if_pos h2, if_pos (by omega)]
    · rw [if_neg h2, if_neg (by omega)]
theorem cpI_0 (g F : Int → Int) : cpI g F 0 = F := by
  funext j
  unfold cpI
  rw [if_neg (by omega)]
theorem sZ_add (g h : Int → Int) (n : Int) : sZ (fun j => g j + h j) n = sZ g n + sZ h n := by
  unfold sZ
  induction n.toNat with
  | zero => rfl
  | succ k ih =>
    show sN _ k + (g k + h k) = (sN g k + g k) + (sN h k + h k)
    rw [ih]
    omega
theorem sZ_mul (g : Int → Int) (c n : Int) : sZ (fun j => g j * c) n = sZ g n * c := by
  unfold sZ
  induction n.toNat with
  | zero => simp [sN]
  | succ k ih =>
    show sN _ k + _ = (sN g k + g k) * c
    rw [ih, Int.add_mul]
theorem sZ_sub (g h : Int → Int) (n : Int) : sZ (fun j => g j - h j) n = sZ g n - sZ h n := by
  unfold sZ
  induction n.toNat with
  | zero => rfl
  | succ k ih =>
    show sN _ k + (g k - h k) = (sN g k + g k) - (sN h k + h k)
    rw [ih]
    omega
/-- the greatest common divisor of two that are not below 0 -/
def gI (a b : Int) : Int := ((Nat.gcd a.toNat b.toNat : Nat) : Int)
theorem gI_step {x y : Int} (hx : 0 ≤ x) (hy : 0 < y) : gI y (x % y) = gI x y := by
  unfold gI
  have e : (x % y).toNat = x.toNat % y.toNat := by
    have h := Int.toNat_emod hx (Int.le_of_lt hy)
    exact h
  rw [e, Nat.gcd_comm, ← Nat.gcd_rec, Nat.gcd_comm]
theorem gI_0 {x : Int} (hx : 0 ≤ x) : gI x 0 = x := by
  unfold gI
  show ((Nat.gcd x.toNat 0 : Nat) : Int) = x
  rw [Nat.gcd_zero_right]
  omega
theorem gI_pos {x y : Int} (hx : 0 < x) : 0 < gI x y := by
  unfold gI
  have : 0 < Nat.gcd x.toNat y.toNat := Nat.gcd_pos_of_pos_left _ (by omega)
  omega
theorem gI_le {x y : Int} (hx : 0 < x) : gI x y ≤ x := by
  unfold gI
  have : Nat.gcd x.toNat y.toNat ≤ x.toNat := Nat.gcd_le_left _ (by omega)
  omega
theorem gI_le2 {x y : Int} (hy : 0 < y) : gI x y ≤ y := by
  unfold gI
  have : Nat.gcd x.toNat y.toNat ≤ y.toNat := Nat.gcd_le_right _ (by omega)
  omega
/-- each of euclid's steps halves the product -/
theorem eu_half {x y : Int} (hy : 0 < y) (hyx : y ≤ x) : 2 * (y * (x % y)) ≤ x * y := by
  have h1 : x % y < y := Int.emod_lt_of_pos _ hy
  have h0 : 0 ≤ x % y := Int.emod_nonneg _ (by omega)
  have h2 : x % y + y ≤ x := by
    have h3 := Int.mul_ediv_add_emod x y
    have h4 : 1 ≤ x / y := (Int.le_ediv_iff_mul_le hy).mpr (by omega)
    have h5 : y * 1 ≤ y * (x / y) := Int.mul_le_mul_of_nonneg_left h4 (by omega)
    omega
  have h6 : y * (2 * (x % y)) ≤ y * x := Int.mul_le_mul_of_nonneg_left (by omega) (by omega)
  have e1 : y * (2 * (x % y)) = 2 * (y * (x % y)) := by
    rw [← Int.mul_assoc, ← Int.mul_assoc, Int.mul_comm y 2]
  rw [Int.mul_comm x y]
  omega
def eu_inv (a b x y s : Int) : Prop := (s = 0 ∧ x = a ∧ y = b) ∨ (1 ≤ s ∧ y < x ∧ x * y * 2 ^ (s - 1).toNat ≤ a * b)
theorem eu_next {a b x y s : Int} (hx : 0 < x) (hy : 0 < y) (h : eu_inv a b x y s) : eu_inv a b y (x % y) (s + 1) := by
  have h1 : x % y < y := Int.emod_lt_of_pos _ hy
  have h0 : 0 ≤ x % y := Int.emod_nonneg _ (by omega)
  rcases h with ⟨rfl, rfl, rfl⟩ | ⟨h2, h3, h4⟩
  · refine Or.inr ⟨by omega, h1, ?_⟩
    show y * (x % y) * 2 ^ 0 ≤ x * y
    rw [Int.pow_zero, Int.mul_one]
    have h5 : x % y ≤ x := by
      have h6 := Int.mul_ediv_add_emod x y
      have h7 : 0 ≤ y * (x / y) := Int.mul_nonneg (by omega) (Int.ediv_nonneg (by omega) (by omega))
      omega
    rw [Int.mul_comm x y]
    exact Int.mul_le_mul_of_nonneg_left h5 (by omega)
  · refine Or.inr ⟨by omega, h1, ?_⟩
    have e : (s + 1 - 1).toNat = (s - 1).toNat + 1 := by omega
    rw [e, Int.pow_succ]
    have h5 := eu_half hy (by omega : y ≤ x)
    have hp : (0 : Int) ≤ 2 ^ (s - 1).toNat := Int.le_of_lt (Int.pow_pos (by decide))
    have h6 := Int.mul_le_mul_of_nonneg_right h5 hp
    have e2 : y * (x % y) * (2 ^ (s - 1).toNat * 2) = 2 * (y * (x % y)) * 2 ^ (s - 1).toNat := by
      rw [Int.mul_comm (2 ^ (s - 1).toNat) 2, ← Int.mul_assoc, Int.mul_comm (y * (x % y)) 2]
    rw [e2]
    omega
theorem eu_end {a b x y s : Int} (ha : 0 < a ∧ a ≤ 1000000000) (hb : 0 < b ∧ b ≤ 1000000000) (hx : 0 < x) (hy : 0 ≤ y) (h : eu_inv a b x y s) (hs : 100 ≤ s) : y = 0 := by
  rcases h with ⟨h1, -, -⟩ | ⟨h2, h3, h4⟩
  · omega
  · by_cases h0 : y = 0
    · exact h0
    · exfalso
      have h5 : a * b ≤ 1000000000 * 1000000000 := (mulb ⟨Int.le_of_lt ha.1, ha.2⟩ ⟨Int.le_of_lt hb.1, hb.2⟩).2
      have h6 : (1 : Int) ≤ x * y := by
        have := Int.mul_pos hx (show 0 < y by omega)
        omega
      have h7 : (2 : Int) ^ 99 ≤ 2 ^ (s - 1).toNat := by
        rw [show (s - 1).toNat = 99 + ((s - 1).toNat - 99) by omega, Int.pow_add]
        have h8 : (0 : Int) < 2 ^ ((s - 1).toNat - 99) := Int.pow_pos (by decide)
        have h9 := Int.mul_le_mul_of_nonneg_left (show (1 : Int) ≤ 2 ^ ((s - 1).toNat - 99) by omega) (show (0 : Int) ≤ 2 ^ 99 by decide)
        rw [Int.mul_one] at h9
        exact h9
      have hp : (0 : Int) ≤ 2 ^ (s - 1).toNat := Int.le_of_lt (Int.pow_pos (by decide))
      have h10 := Int.mul_le_mul_of_nonneg_right h6 hp
      have h11 : (2 : Int) ^ 99 > 1000000000 * 1000000000 := by decide
      omega
/-- the bytes of v, the highest of the lowest n first, from m on: the first k of them -/
def apS (S : Int → Int) (m n v k : Int) : Int → Int := fun j => if m ≤ j ∧ j < m + k then v / 2 ^ (8 * (m + n - 1 - j)).toNat % 256 else S j
theorem apS_0 (S : Int → Int) (m n v : Int) : apS S m n v 0 = S := by
  funext j
  unfold apS
  rw [if_neg (by omega)]
theorem apS_s {S : Int → Int} {m n v k x : Int} (h0 : 0 ≤ k) (hx : x = v / 2 ^ (8 * (n - 1 - k)).toNat % 256) : uI (apS S m n v k) (m + k) x = apS S m n v (k + 1) := by
  funext j
  unfold uI apS
  by_cases h1 : j = m + k
  · rw [if_pos h1, if_pos (by omega), hx, h1, show m + n - 1 - (m + k) = n - 1 - k by omega]
  · rw [if_neg h1]
    by_cases h2 : m ≤ j ∧ j < m + k
    · rw [if_pos h2, if_pos (by omega)]
    · rw [if_neg h2, if_neg (by omega)]
theorem apS_b {S : Int → Int} {m n v k : Int} (h : bd S 0 255) : bd (apS S m n v k) 0 255 := by
  intro j
  unfold apS
  split
  · omega
  · exact h j
theorem lI_ushr {x y : Int} (hx : -9223372036854775808 ≤ x ∧ x ≤ 9223372036854775807) (h0 : 0 ≤ y) (h1 : y ≤ 56) : ((lI x).toUInt64 >>> ((iI y).toInt64.toUInt64 &&& Int64.toUInt64 63)).toInt64 = lI ((x % 18446744073709551616) / 2 ^ y.toNat) := by
  have c1 : ∀ k, k < 64 → ((nI k).toInt64.toUInt64 &&& Int64.toUInt64 63).toBitVec = BitVec.ofNat 64 k := by decide +kernel
  have e1 : ((lI x).toUInt64 >>> ((iI y).toInt64.toUInt64 &&& Int64.toUInt64 63)).toInt64.toBitVec = (BitVec.ofInt 64 x) >>> y.toNat := by
    rw [iI_nI h0]
    show ((lI x).toUInt64 >>> ((nI y.toNat).toInt64.toUInt64 &&& Int64.toUInt64 63)).toBitVec = _
    rw [UInt64.toBitVec_shiftRight, c1 y.toNat (by omega)]
    show (BitVec.ofInt 64 x) >>> (BitVec.ofNat 64 y.toNat % 64) = _
    rw [BitVec.ushiftRight_eq']
    congr 1
    rw [BitVec.toNat_umod, BitVec.toNat_ofNat]
    show y.toNat % 2 ^ 64 % (64 % 2 ^ 64) = _
    rw [Nat.mod_eq_of_lt (show y.toNat < 2 ^ 64 by omega), Nat.mod_eq_of_lt (show 64 < 2 ^ 64 by decide)]
    omega
  apply Int64.toBitVec_inj.mp
  rw [e1]
  show _ = BitVec.ofInt 64 _
  apply BitVec.eq_of_toNat_eq
  rw [BitVec.toNat_ushiftRight, BitVec.toNat_ofInt, BitVec.toNat_ofInt, Nat.shiftRight_eq_div_pow]
  have hm : 0 ≤ x % 18446744073709551616 ∧ x % 18446744073709551616 < 18446744073709551616 := ⟨Int.emod_nonneg _ (by decide), Int.emod_lt_of_pos _ (by decide)⟩
  have e2 : (((2 : Nat) ^ 64 : Nat) : Int) = 18446744073709551616 := by decide
  rw [e2]
  have hp : (0 : Int) < 2 ^ y.toNat := Int.pow_pos (by decide)
  have hq0 : 0 ≤ x % 18446744073709551616 / 2 ^ y.toNat := Int.ediv_nonneg hm.1 (by omega)
  have hq1 : x % 18446744073709551616 / 2 ^ y.toNat ≤ x % 18446744073709551616 := Int.ediv_le_self _ hm.1
  rw [Int.emod_eq_of_lt hq0 (by omega)]
  have h9 : (((x % 18446744073709551616).toNat / 2 ^ y.toNat : Nat) : Int) = x % 18446744073709551616 / 2 ^ y.toNat := by
    rw [Int.natCast_ediv, Int.toNat_of_nonneg hm.1]
    push_cast
    rfl
  omega
theorem byte_u {x k : Int} (h0 : 0 ≤ k) (h1 : k ≤ 7) : (x % 18446744073709551616) / 2 ^ (8 * k).toNat % 256 = x / 2 ^ (8 * k).toNat % 256 := by
  have hk : k = 0 ∨ k = 1 ∨ k = 2 ∨ k = 3 ∨ k = 4 ∨ k = 5 ∨ k = 6 ∨ k = 7 := by omega
  rcases hk with rfl | rfl | rfl | rfl | rfl | rfl | rfl | rfl
  · show x % 18446744073709551616 / 1 % 256 = x / 1 % 256; omega
  · show x % 18446744073709551616 / 256 % 256 = x / 256 % 256; omega
  · show x % 18446744073709551616 / 65536 % 256 = x / 65536 % 256; omega
  · show x % 18446744073709551616 / 16777216 % 256 = x / 16777216 % 256; omega
  · show x % 18446744073709551616 / 4294967296 % 256 = x / 4294967296 % 256; omega
  · show x % 18446744073709551616 / 1099511627776 % 256 = x / 1099511627776 % 256; omega
  · show x % 18446744073709551616 / 281474976710656 % 256 = x / 281474976710656 % 256; omega
  · show x % 18446744073709551616 / 72057594037927936 % 256 = x / 72057594037927936 % 256; omega
theorem lI_shr {x y : Int} (hx : -9223372036854775808 ≤ x ∧ x ≤ 9223372036854775807) (h0 : 0 ≤ y) (h1 : y ≤ 56) : lI x >>> ((iI y).toInt64 &&& 63) = lI (x / 2 ^ y.toNat) := by
  have c1 : ∀ k, k < 64 → (((nI k).toInt64 &&& 63).toBitVec.smod 64).toNat = k := by decide +kernel
  apply Int64.toInt_inj.mp
  have hp : (0 : Int) < 2 ^ y.toNat := Int.pow_pos (by decide)
  have hb1 : -9223372036854775808 ≤ x / 2 ^ y.toNat := by
    rw [Int.le_ediv_iff_mul_le hp]
    have : (1 : Int) ≤ 2 ^ y.toNat := by omega
    have := Int.mul_le_mul_of_nonneg_left this (show (0 : Int) ≤ 9223372036854775808 by decide)
    omega
  have hb2 : x / 2 ^ y.toNat ≤ 9223372036854775807 := by
    rcases Int.le_total 0 x with h | h
    · have := Int.ediv_le_self (2 ^ y.toNat) h
      omega
    · have : x / 2 ^ y.toNat ≤ 0 := by
        have := Int.ediv_le_ediv hp h
        simpa using this
      omega
  rw [lI_toInt hb1 hb2]
  show ((lI x).toBitVec.sshiftRight ((((iI y).toInt64 &&& 63).toBitVec.smod 64).toNat)).toInt = _
  rw [iI_nI h0, c1 y.toNat (by omega), BitVec.toInt_sshiftRight]
  show (lI x).toInt >>> y.toNat = _
  rw [lI_toInt hx.1 hx.2, Int.shiftRight_eq_div_pow]
  rfl
