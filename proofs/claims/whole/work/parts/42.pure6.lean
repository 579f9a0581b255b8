/-! hidden arms -/
def popI (x : Int) : Int := sZ (fun k => bitI x k) 20
theorem ushr_i {x : Int} (k : Nat) (hk : k < 32) (h0 : 0 ≤ x) (h : x ≤ 2147483647) : ((iI x).toUInt32 >>> ((iI (k : Int)).toUInt32 &&& Int32.toUInt32 31)).toInt32 = iI (x / 2 ^ k) := by
  have s_u9 : ∀ n, n < 32 → (((nI n).toUInt32 &&& Int32.toUInt32 31).toBitVec % 32).toNat = n := by decide +kernel
  rw [iI_nI h0, ← nI_iI, pk_ushrN (by omega) _ k (s_u9 k hk), nI_iI]
  congr 1
  rw [Int.natCast_ediv, Int.toNat_of_nonneg h0]
  push_cast
  rfl
theorem nib_and (n d m e : Nat) (hd : d < 16) (he : e < 16) : (16 * n + d) &&& (16 * m + e) = 16 * (n &&& m) + (d &&& e) := by
  have hde : d &&& e < 16 := Nat.lt_of_le_of_lt Nat.and_le_left hd
  apply Nat.eq_of_testBit_eq
  intro i
  rw [Nat.testBit_and, show 16 * n + d = 2 ^ 4 * n + d from rfl, show 16 * m + e = 2 ^ 4 * m + e from rfl, show 16 * (n &&& m) + (d &&& e) = 2 ^ 4 * (n &&& m) + (d &&& e) from rfl, Nat.testBit_two_pow_mul_add _ hd, Nat.testBit_two_pow_mul_add _ he, Nat.testBit_two_pow_mul_add _ hde]
  split
  · rw [Nat.testBit_and]
  · rw [Nat.testBit_and]
/-- five figures of base 16 -/
def n5 (a b c d e : Nat) : Nat := 16 * (16 * (16 * (16 * e + d) + c) + b) + a
theorem n5_and {a b c d e a2 b2 c2 d2 e2 m : Nat} (ha : a < 16) (hb : b < 16) (hc : c < 16) (hd : d < 16) (he : e < 16) (ha2 : a2 < 16) (hb2 : b2 < 16) (hc2 : c2 < 16) (hd2 : d2 < 16) (he2 : e2 < 16) : n5 a b c d e &&& (16 * (16 * (16 * (16 * (16 * m + e2) + d2) + c2) + b2) + a2) = n5 (a &&& a2) (b &&& b2) (c &&& c2) (d &&& d2) (e &&& e2) := by
  unfold n5
  rw [nib_and _ _ _ _ ha ha2, nib_and _ _ _ _ hb hb2, nib_and _ _ _ _ hc hc2, nib_and _ _ _ _ hd hd2]
  have h := nib_and 0 e m e2 he he2
  rw [Nat.mul_zero, Nat.zero_add, Nat.zero_and, Nat.mul_zero, Nat.zero_add] at h
  rw [h]
def pN (d : Nat) : Nat := d % 2 + d / 2 % 2 + d / 4 % 2 + d / 8 % 2
theorem nb5 : ∀ d, d < 16 → ∀ t, t < 2 → (d / 2 + 8 * t) &&& 5 ≤ d ∧ ((d - ((d / 2 + 8 * t) &&& 5)) &&& 3) + (d - ((d / 2 + 8 * t) &&& 5)) / 4 = pN d ∧ ((d / 2 + 8 * t) &&& 5 = (d / 2) &&& 5) := by decide +kernel
theorem nb3 : ∀ f, f < 16 → ∀ t, t < 4 → (f / 4 + 4 * t) &&& 3 = f / 4 := by decide +kernel
theorem nb15 : ∀ f, f < 16 → f &&& 15 = f ∧ f &&& 0 = 0 := by decide +kernel
theorem pN_le : ∀ d, d < 16 → pN d ≤ 4 := by decide +kernel
theorem sw_end {ya yb yc yd ye s3 s4 s5 : Nat} (pa : ya ≤ 4) (pb : yb ≤ 4) (pc : yc ≤ 4) (pd : yd ≤ 4) (pe : ye ≤ 4) (h3 : s3 = 65536 * ye + 256 * (yc + yd) + (ya + yb)) (h4 : s4 = s3 + s3 / 256) (h5 : s5 = s4 + s4 / 65536) : s5 % 64 = ya + yb + yc + yd + ye := by
  have t1 : s3 / 256 = 256 * ye + (yc + yd) := by omega
  have t2 : s4 / 65536 = ye := by omega
  omega
theorem sw_nat (a b c d e : Nat) (ha : a < 16) (hb : b < 16) (hc : c < 16) (hd : d < 16) (he : e < 16) :
    ∀ s1 s2 s3 s4 s5 : Nat, s1 = n5 a b c d e - ((n5 a b c d e / 2) &&& 1431655765) → s2 = (s1 &&& 858993459) + ((s1 / 4) &&& 858993459) → s3 = (s2 + s2 / 16) &&& 252645135 → s4 = s3 + s3 / 256 → s5 = s4 + s4 / 65536 → s5 % 64 = pN a + pN b + pN c + pN d + pN e := by
  intro s1 s2 s3 s4 s5 h1 h2 h3 h4 h5
  have ea := nb5 a ha (b % 2) (Nat.mod_lt _ (by decide))
  have eb := nb5 b hb (c % 2) (Nat.mod_lt _ (by decide))
  have ec := nb5 c hc (d % 2) (Nat.mod_lt _ (by decide))
  have ed := nb5 d hd (e % 2) (Nat.mod_lt _ (by decide))
  have ee := nb5 e he 0 (by decide)
  have q1 : n5 a b c d e / 2 = n5 (a / 2 + 8 * (b % 2)) (b / 2 + 8 * (c % 2)) (c / 2 + 8 * (d % 2)) (d / 2 + 8 * (e % 2)) (e / 2 + 8 * 0) := by unfold n5; omega
  rw [q1, show 1431655765 = 16 * (16 * (16 * (16 * (16 * 1365 + 5) + 5) + 5) + 5) + 5 from rfl, n5_and (by omega) (by omega) (by omega) (by omega) (by omega) (by decide) (by decide) (by decide) (by decide) (by decide)] at h1
  generalize (a / 2 + 8 * (b % 2)) &&& 5 = a1 at ea h1
  generalize (b / 2 + 8 * (c % 2)) &&& 5 = b1 at eb h1
  generalize (c / 2 + 8 * (d % 2)) &&& 5 = c1 at ec h1
  generalize (d / 2 + 8 * (e % 2)) &&& 5 = d1 at ed h1
  generalize (e / 2 + 8 * 0) &&& 5 = e1 at ee h1
  have q2 : s1 = n5 (a - a1) (b - b1) (c - c1) (d - d1) (e - e1) := by rw [h1]; unfold n5; omega
  have q3 : s1 / 4 = n5 ((a - a1) / 4 + 4 * ((b - b1) % 4)) ((b - b1) / 4 + 4 * ((c - c1) % 4)) ((c - c1) / 4 + 4 * ((d - d1) % 4)) ((d - d1) / 4 + 4 * ((e - e1) % 4)) ((e - e1) / 4 + 4 * 0) := by rw [q2]; unfold n5; omega
  rw [q3, q2, show 858993459 = 16 * (16 * (16 * (16 * (16 * 819 + 3) + 3) + 3) + 3) + 3 from rfl, n5_and (by omega) (by omega) (by omega) (by omega) (by omega) (by decide) (by decide) (by decide) (by decide) (by decide), n5_and (by omega) (by omega) (by omega) (by omega) (by omega) (by decide) (by decide) (by decide) (by decide) (by decide), nb3 _ (by omega) _ (Nat.mod_lt _ (by decide)), nb3 _ (by omega) _ (Nat.mod_lt _ (by decide)), nb3 _ (by omega) _ (Nat.mod_lt _ (by decide)), nb3 _ (by omega) _ (Nat.mod_lt _ (by decide)), nb3 _ (by omega) _ (by decide)] at h2
  have pa := pN_le a ha
  have pb := pN_le b hb
  have pc := pN_le c hc
  have pd := pN_le d hd
  have pe := pN_le e he
  have q4 : s2 = n5 (pN a) (pN b) (pN c) (pN d) (pN e) := by
    rw [h2, ← ea.2.1, ← eb.2.1, ← ec.2.1, ← ed.2.1, ← ee.2.1]
    unfold n5
    omega
  generalize pN a = ya at *
  generalize pN b = yb at *
  generalize pN c = yc at *
  generalize pN d = yd at *
  generalize pN e = ye at *
  have q5 : s2 + s2 / 16 = n5 (ya + yb) (yb + yc) (yc + yd) (yd + ye) ye := by rw [q4]; unfold n5; omega
  rw [q5, show 252645135 = 16 * (16 * (16 * (16 * (16 * 240 + 15) + 0) + 15) + 0) + 15 from rfl, n5_and (by omega) (by omega) (by omega) (by omega) (by omega) (by decide) (by decide) (by decide) (by decide) (by decide), (nb15 _ (by omega)).1, (nb15 _ (by omega)).2, (nb15 _ (by omega)).1, (nb15 _ (by omega)).2, (nb15 _ (by omega)).1] at h3
  refine sw_end pa pb pc pd pe ?_ h4 h5
  rw [h3]
  unfold n5
  clear h1 h2 h3 h4 h5 q1 q2 q3 q4 q5 ea eb ec ed ee
  omega
theorem bitI_k (x : Int) (k : Nat) : bitI x (k : Int) = x / 2 ^ k % 2 := rfl
theorem iAnd_nat (a b : Nat) : iAnd (a : Int) (b : Int) = ((a &&& b : Nat) : Int) := rfl
theorem iAnd_le {a b : Int} (ha : 0 ≤ a) : 0 ≤ iAnd a b ∧ iAnd a b ≤ a := by
  unfold iAnd
  have : a.toNat &&& b.toNat ≤ a.toNat := Nat.and_le_left
  omega
theorem iAnd_le2 {a b : Int} (hb : 0 ≤ b) : 0 ≤ iAnd a b ∧ iAnd a b ≤ b := by
  unfold iAnd
  have : a.toNat &&& b.toNat ≤ b.toNat := Nat.and_le_right
  omega
theorem iAnd_m {a : Nat} {m : Int} {k : Nat} (h : m.toNat = k) : iAnd (a : Int) m = ((a &&& k : Nat) : Int) := by
  unfold iAnd
  rw [h, Int.toNat_natCast]
theorem bits4 (n m : Nat) : sN (fun k => bitI (n : Int) k) (m + 4) = sN (fun k => bitI (n : Int) k) m + (bitI (n : Int) (m : Nat) + bitI (n : Int) ((m + 1 : Nat) : Int) + bitI (n : Int) ((m + 2 : Nat) : Int) + bitI (n : Int) ((m + 3 : Nat) : Int)) := by
  show sN _ m + bitI (n : Int) (m : Nat) + bitI (n : Int) ((m + 1 : Nat) : Int) + bitI (n : Int) ((m + 2 : Nat) : Int) + bitI (n : Int) ((m + 3 : Nat) : Int) = _
  omega
theorem nibb (n : Nat) (d k : Nat) (h : d = n / 2 ^ k % 16) : bitI (n : Int) (k : Nat) + bitI (n : Int) ((k + 1 : Nat) : Int) + bitI (n : Int) ((k + 2 : Nat) : Int) + bitI (n : Int) ((k + 3 : Nat) : Int) = ((pN d : Nat) : Int) := by
  have e : ∀ t : Nat, bitI (n : Int) ((k + t : Nat) : Int) = ((n / 2 ^ k / 2 ^ t % 2 : Nat) : Int) := by
    intro t
    rw [bitI_k, Nat.div_div_eq_div_mul, ← Nat.pow_add]
    push_cast
    rfl
  have e0 := e 0
  rw [Nat.add_zero] at e0
  rw [e0, e 1, e 2, e 3]
  subst h
  unfold pN
  generalize n / 2 ^ k = q
  omega
theorem pop_nib {n : Nat} (hn : n < 1048576) : popI (n : Int) = ((pN (n % 16) + pN (n / 16 % 16) + pN (n / 256 % 16) + pN (n / 4096 % 16) + pN (n / 65536) : Nat) : Int) := by
  show sN (fun k => bitI (n : Int) k) (0 + 4 + 4 + 4 + 4 + 4) = _
  rw [bits4, bits4, bits4, bits4, bits4, nibb n (n % 16) 0 (by rw [Nat.pow_zero, Nat.div_one]), nibb n (n / 16 % 16) (0 + 4) rfl, nibb n (n / 256 % 16) (0 + 4 + 4) rfl, nibb n (n / 4096 % 16) (0 + 4 + 4 + 4) rfl, nibb n (n / 65536) (0 + 4 + 4 + 4 + 4) (by show n / 65536 = n / 65536 % 16; omega)]
  show (0 : Int) + _ + _ + _ + _ + _ = _
  omega
theorem bc_pop {x s1 s2 s3 s4 s5 : Int} (h0 : 0 ≤ x) (h1 : x < 1048576) (e1 : s1 = x - iAnd (x / 2 ^ 1) 1431655765) (e2 : s2 = iAnd s1 858993459 + iAnd (s1 / 2 ^ 2) 858993459) (e3 : s3 = iAnd (s2 + s2 / 2 ^ 4) 252645135) (e4 : s4 = s3 + s3 / 2 ^ 8) (e5 : s5 = s4 + s4 / 2 ^ 16) : popI x = s5 % 64 := by
  obtain ⟨n, rfl⟩ := Int.eq_ofNat_of_zero_le h0
  have hn : n < 1048576 := by omega
  have e9 : n5 (n % 16) (n / 16 % 16) (n / 256 % 16) (n / 4096 % 16) (n / 65536) = n := by unfold n5; omega
  have hs : n / 2 &&& 1431655765 ≤ n := Nat.le_trans Nat.and_le_left (Nat.div_le_self _ _)
  have g1 : s1 = ((n - (n / 2 &&& 1431655765) : Nat) : Int) := by
    rw [e1, show (n : Int) / 2 ^ 1 = ((n / 2 : Nat) : Int) by omega, iAnd_m (k := 1431655765) rfl]
    omega
  generalize hb1 : n - (n / 2 &&& 1431655765) = b1 at g1
  have g2 : s2 = (((b1 &&& 858993459) + (b1 / 4 &&& 858993459) : Nat) : Int) := by
    rw [e2, g1, show (b1 : Int) / 2 ^ 2 = ((b1 / 4 : Nat) : Int) by omega, iAnd_m (k := 858993459) rfl, iAnd_m (k := 858993459) rfl]
    omega
  generalize hb2 : (b1 &&& 858993459) + (b1 / 4 &&& 858993459) = b2 at g2
  have g3 : s3 = (((b2 + b2 / 16) &&& 252645135 : Nat) : Int) := by
    rw [e3, g2, show (b2 : Int) + (b2 : Int) / 2 ^ 4 = ((b2 + b2 / 16 : Nat) : Int) by omega, iAnd_m (k := 252645135) rfl]
  generalize hb3 : (b2 + b2 / 16) &&& 252645135 = b3 at g3
  have g4 : s4 = ((b3 + b3 / 256 : Nat) : Int) := by rw [e4, g3]; omega
  have g5 : s5 = ((b3 + b3 / 256 + (b3 + b3 / 256) / 65536 : Nat) : Int) := by rw [e5, g4]; omega
  have key := sw_nat (n % 16) (n / 16 % 16) (n / 256 % 16) (n / 4096 % 16) (n / 65536) (by omega) (by omega) (by omega) (by omega) (by omega) b1 b2 b3 _ _ (by rw [e9]; exact hb1.symm) hb2.symm hb3.symm rfl rfl
  rw [pop_nib hn, ← key, g5]
  omega
