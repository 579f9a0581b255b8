theorem p2_cast (k : Nat) : ((2 ^ k : Nat) : Int) = (2 : Int) ^ k := by push_cast; rfl
theorem bitI_compl {x k : Int} (h0 : 0 ≤ x) (h1 : x ≤ 1048575) (k0 : 0 ≤ k) (k1 : k < 20) : bitI (1048575 - x) k = 1 - bitI x k := by
  obtain ⟨n, rfl⟩ := Int.eq_ofNat_of_zero_le h0
  obtain ⟨t, rfl⟩ := Int.eq_ofNat_of_zero_le k0
  have hn : n < 2 ^ 20 := by omega
  have ht : t < 20 := by omega
  have e : (1048575 : Int) - (n : Int) = ((2 ^ 20 - (n + 1) : Nat) : Int) := by omega
  rw [e, bitI_tb (Int.natCast_nonneg _), bitI_tb (Int.natCast_nonneg _), Int.toNat_natCast, Int.toNat_natCast, Int.toNat_natCast, Nat.testBit_two_pow_sub_succ hn]
  cases n.testBit t <;> simp [ht]
theorem bit_ex {x : Int} (h0 : 0 < x) (h1 : x ≤ 1048575) : ∃ k : Int, (0 ≤ k ∧ k < 20) ∧ bitI x k = 1 := by
  obtain ⟨n, rfl⟩ := Int.eq_ofNat_of_zero_le (Int.le_of_lt h0)
  obtain ⟨i, hi⟩ := Nat.exists_testBit_of_ne_zero (show n ≠ 0 by omega)
  have h20 : i < 20 := by
    rcases Nat.lt_or_ge i 20 with h | h
    · exact h
    · exfalso
      have h2 : n < 2 ^ i := Nat.lt_of_lt_of_le (show n < 2 ^ 20 by omega) (Nat.pow_le_pow_right (by decide) h)
      rw [Nat.testBit_lt_two_pow h2] at hi
      cases hi
  refine ⟨(i : Int), ⟨by omega, by omega⟩, ?_⟩
  rw [bitI_tb (Int.natCast_nonneg _), Int.toNat_natCast, Int.toNat_natCast, hi]
  rfl
theorem bitI_z (k : Int) : bitI 0 k = 0 := by
  unfold bitI
  rw [Int.zero_ediv]
  rfl
def okC (H : Int → Int) (i j k : Int) : Prop := bitI (H i) j = 0 ∧ bitI (H (20 + i)) k = 0 ∧ bitI (H (40 + j)) k = 0
def thI (H : Int → Int) (i j : Int) : Int := 1048575 - iOr (H (20 + i)) (H (40 + j))
theorem or20 {H : Int → Int} (hH : bd H 0 1048575) (a b : Int) : 0 ≤ iOr (H a) (H b) ∧ iOr (H a) (H b) ≤ 1048575 := by
  have h := iOr_lt (k := 20) (a := H a) (b := H b) (by have := hH a; omega) (by have := hH b; omega)
  omega
theorem thI_b {H : Int → Int} (hH : bd H 0 1048575) (i j : Int) : 0 ≤ thI H i j ∧ thI H i j ≤ 1048575 := by
  have := or20 hH (20 + i) (40 + j)
  unfold thI
  omega
theorem thI_bit {H : Int → Int} (hH : bd H 0 1048575) {i j k : Int} (hk : 0 ≤ k ∧ k < 20) : bitI (thI H i j) k = if bitI (H (20 + i)) k = 0 ∧ bitI (H (40 + j)) k = 0 then 1 else 0 := by
  have h := or20 hH (20 + i) (40 + j)
  unfold thI
  rw [bitI_compl h.1 h.2 hk.1 hk.2, bitI_or (hH _).1 (hH _).1]
  have h1 := bitI_01 (H (20 + i)) k
  have h2 := bitI_01 (H (40 + j)) k
  (repeat' split) <;> omega
/-- which lengths were seen in the rows so far: all of i < x, and of i = x those of j < y -/
def sn (x y i j : Int) : Prop := i < x ∨ (i = x ∧ j < y)
def ln0 (H : Int → Int) (x y v : Int) : Prop := ∃ j k : Int, (0 ≤ j ∧ j < 20) ∧ (0 ≤ k ∧ k < 20) ∧ sn x y v j ∧ okC H v j k
def ln1 (H : Int → Int) (x y v : Int) : Prop := ∃ i k : Int, (0 ≤ i ∧ i < 20) ∧ (0 ≤ k ∧ k < 20) ∧ sn x y i v ∧ okC H i v k
def ln2 (H : Int → Int) (x y v : Int) : Prop := ∃ i j : Int, (0 ≤ i ∧ i < 20) ∧ (0 ≤ j ∧ j < 20) ∧ sn x y i j ∧ okC H i j v
def lnI (H G : Int → Int) (x y : Int) : Prop := ∀ v : Int, 0 ≤ v ∧ v < 20 → (bitI (G 0) v = 1 ↔ ln0 H x y v) ∧ (bitI (G 1) v = 1 ↔ ln1 H x y v) ∧ (bitI (G 2) v = 1 ↔ ln2 H x y v)
theorem lnI_0 {H G : Int → Int} (h0 : G 0 = 0) (h1 : G 1 = 0) (h2 : G 2 = 0) : lnI H G 0 0 := by
  intro v hv
  rw [h0, h1, h2, bitI_z]
  refine ⟨⟨fun h => by omega, ?_⟩, ⟨fun h => by omega, ?_⟩, ⟨fun h => by omega, ?_⟩⟩
  · rintro ⟨j, k, hj, hk, h, -⟩; unfold sn at h; omega
  · rintro ⟨j, k, hj, hk, h, -⟩; unfold sn at h; omega
  · rintro ⟨j, k, hj, hk, h, -⟩; unfold sn at h; omega
theorem lnI_row {H G : Int → Int} {x : Int} (h : lnI H G x 20) : lnI H G (x + 1) 0 := by
  intro v hv
  obtain ⟨a, b, c⟩ := h v hv
  refine ⟨a.trans ⟨?_, ?_⟩, b.trans ⟨?_, ?_⟩, c.trans ⟨?_, ?_⟩⟩
  all_goals
    rintro ⟨j, k, hj, hk, h, ho⟩
    refine ⟨j, k, hj, hk, ?_, ho⟩
    unfold sn at h ⊢
    omega
theorem lnI_skip {H G : Int → Int} {x y : Int} (h : lnI H G x y) (hn : ∀ k : Int, 0 ≤ k ∧ k < 20 → ¬ okC H x y k) : lnI H G x (y + 1) := by
  intro v hv
  obtain ⟨a, b, c⟩ := h v hv
  have key : ∀ i j k : Int, 0 ≤ k ∧ k < 20 → okC H i j k → (sn x (y + 1) i j ↔ sn x y i j) := by
    intro i j k hk ho
    unfold sn
    constructor
    · intro q
      rcases q with q | ⟨q1, q2⟩
      · exact Or.inl q
      · refine Or.inr ⟨q1, ?_⟩
        rcases (show j < y ∨ j = y by omega) with q3 | q3
        · exact q3
        · subst q1 q3
          exact absurd ho (hn k hk)
    · intro q
      omega
  refine ⟨a.trans ⟨?_, ?_⟩, b.trans ⟨?_, ?_⟩, c.trans ⟨?_, ?_⟩⟩
  · rintro ⟨j, k, hj, hk, h, ho⟩; exact ⟨j, k, hj, hk, (key _ _ k hk ho).mpr h, ho⟩
  · rintro ⟨j, k, hj, hk, h, ho⟩; exact ⟨j, k, hj, hk, (key _ _ k hk ho).mp h, ho⟩
  · rintro ⟨j, k, hj, hk, h, ho⟩; exact ⟨j, k, hj, hk, (key _ _ k hk ho).mpr h, ho⟩
  · rintro ⟨j, k, hj, hk, h, ho⟩; exact ⟨j, k, hj, hk, (key _ _ k hk ho).mp h, ho⟩
  · rintro ⟨i, j, hi, hj, h, ho⟩; exact ⟨i, j, hi, hj, (key i j v hv ho).mpr h, ho⟩
  · rintro ⟨i, j, hi, hj, h, ho⟩; exact ⟨i, j, hi, hj, (key i j v hv ho).mp h, ho⟩
theorem lnI_step {H G : Int → Int} {x y : Int} (hH : bd H 0 1048575) (hG : bd G 0 1048575) (hx : 0 ≤ x ∧ x < 20) (hy : 0 ≤ y ∧ y < 20) (h : lnI H G x y) (h1 : bitI (H x) y = 0) (h2 : ¬ thI H x y = 0) : lnI H (uI (uI (uI G 0 (iOr (G 0) (2 ^ x.toNat))) 1 (iOr (G 1) (2 ^ y.toNat))) 2 (iOr (G 2) (thI H x y))) x (y + 1) := by
  intro v hv
  obtain ⟨a, b, c⟩ := h v hv
  have tb := thI_b hH x y
  obtain ⟨k9, hk9, hb9⟩ := bit_ex (x := thI H x y) (by omega) tb.2
  have o9 : okC H x y k9 := by
    rw [thI_bit hH hk9] at hb9
    split at hb9
    · next q => exact ⟨h1, q⟩
    · omega
  have okv : bitI (thI H x y) v = 1 ↔ okC H x y v := by
    rw [thI_bit hH hv]
    unfold okC
    constructor
    · intro q
      split at q
      · next q2 => exact ⟨h1, q2⟩
      · omega
    · intro q
      rw [if_pos q.2]
  have e0 : uI (uI (uI G 0 (iOr (G 0) (2 ^ x.toNat))) 1 (iOr (G 1) (2 ^ y.toNat))) 2 (iOr (G 2) (thI H x y)) 0 = iOr (G 0) (2 ^ x.toNat) := rfl
  have e1 : uI (uI (uI G 0 (iOr (G 0) (2 ^ x.toNat))) 1 (iOr (G 1) (2 ^ y.toNat))) 2 (iOr (G 2) (thI H x y)) 1 = iOr (G 1) (2 ^ y.toNat) := rfl
  have e2 : uI (uI (uI G 0 (iOr (G 0) (2 ^ x.toNat))) 1 (iOr (G 1) (2 ^ y.toNat))) 2 (iOr (G 2) (thI H x y)) 2 = iOr (G 2) (thI H x y) := rfl
  rw [e0, e1, e2, bitI_or (hG 0).1 (Int.le_of_lt (p2_pos _)), bitI_or (hG 1).1 (Int.le_of_lt (p2_pos _)), bitI_or (hG 2).1 tb.1, bitI_p2 hx.1 hv.1, bitI_p2 hy.1 hv.1]
  refine ⟨⟨fun q => ?_, ?_⟩, ⟨fun q => ?_, ?_⟩, ⟨fun q => ?_, ?_⟩⟩
  · have q2 : bitI (G 0) v = 1 ∨ (if v = x then (1 : Int) else 0) = 1 := Classical.byContradiction (fun hh => by rw [if_neg hh] at q; omega)
    · rcases q2 with q2 | q2
      · obtain ⟨j, k, hj, hk, hs, ho⟩ := a.mp q2
        exact ⟨j, k, hj, hk, by unfold sn at hs ⊢; omega, ho⟩
      · have hvx : v = x := Classical.byContradiction (fun hh => by rw [if_neg hh] at q2; omega)
        subst hvx
        exact ⟨y, k9, hy, hk9, Or.inr ⟨rfl, by omega⟩, o9⟩
  · rintro ⟨j, k, hj, hk, hs, ho⟩
    rw [if_pos]
    by_cases q : sn x y v j
    · exact Or.inl (a.mpr ⟨j, k, hj, hk, q, ho⟩)
    · right
      have : v = x := by unfold sn at hs q; omega
      rw [if_pos this]
  · have q2 : bitI (G 1) v = 1 ∨ (if v = y then (1 : Int) else 0) = 1 := Classical.byContradiction (fun hh => by rw [if_neg hh] at q; omega)
    · rcases q2 with q2 | q2
      · obtain ⟨j, k, hj, hk, hs, ho⟩ := b.mp q2
        exact ⟨j, k, hj, hk, by unfold sn at hs ⊢; omega, ho⟩
      · have hvx : v = y := Classical.byContradiction (fun hh => by rw [if_neg hh] at q2; omega)
        subst hvx
        exact ⟨x, k9, hx, hk9, Or.inr ⟨rfl, by omega⟩, o9⟩
  · rintro ⟨j, k, hj, hk, hs, ho⟩
    rw [if_pos]
    by_cases q : sn x y j v
    · exact Or.inl (b.mpr ⟨j, k, hj, hk, q, ho⟩)
    · right
      have : v = y := by unfold sn at hs q; omega
      rw [if_pos this]
  · split at q
    · next q2 =>
      rcases q2 with q2 | q2
      · obtain ⟨i, j, hi, hj, hs, ho⟩ := c.mp q2
        exact ⟨i, j, hi, hj, by unfold sn at hs ⊢; omega, ho⟩
      · exact ⟨x, y, hx, hy, Or.inr ⟨rfl, by omega⟩, okv.mp q2⟩
    · omega
  · rintro ⟨i, j, hi, hj, hs, ho⟩
    rw [if_pos]
    by_cases q : sn x y i j
    · exact Or.inl (c.mpr ⟨i, j, hi, hj, q, ho⟩)
    · right
      have q1 : i = x := by unfold sn at hs q; omega
      have q2 : j = y := by unfold sn at hs q; omega
      subst q1 q2
      exact okv.mpr ho
theorem th_skip {H : Int → Int} (hH : bd H 0 1048575) {x y : Int} (h : ¬ bitI (H x) y = 0 ∨ thI H x y = 0) : ∀ k : Int, 0 ≤ k ∧ k < 20 → ¬ okC H x y k := by
  intro k hk ho
  rcases h with h | h
  · exact h ho.1
  · have := thI_bit (i := x) (j := y) hH hk
    rw [h, bitI_z, if_pos ho.2] at this
    omega
def rowC (H : Int → Int) (i j : Int) : Int := if bitI (H i) j = 0 then popI (thI H i j) else 0
def rowsC (H : Int → Int) : Int := sZ (fun i => sZ (fun j => rowC H i j) 20) 20
theorem popI_0 : popI 0 = 0 := by
  unfold popI
  rw [show (fun k : Int => bitI 0 k) = fun _ => 0 from funext bitI_z]
  rfl
theorem bd_lens {G : Int → Int} {x y t : Int} (hG : bd G 0 1048575) (hx : 0 ≤ x ∧ x < 20) (hy : 0 ≤ y ∧ y < 20) (ht : 0 ≤ t ∧ t ≤ 1048575) : bd (uI (uI (uI G 0 (iOr (G 0) (2 ^ x.toNat))) 1 (iOr (G 1) (2 ^ y.toNat))) 2 (iOr (G 2) t)) 0 1048575 := by
  have p20 : ∀ z : Int, 0 ≤ z ∧ z < 20 → (2 : Int) ^ z.toNat < 2 ^ 20 := by
    intro z hz
    rw [← p2_cast, ← p2_cast]
    exact Int.ofNat_lt.mpr (Nat.pow_lt_pow_right (by decide) (by omega))
  have k1 := iOr_lt (k := 20) (a := G 0) (b := 2 ^ x.toNat) (by have := hG 0; omega) ⟨Int.le_of_lt (p2_pos _), p20 x hx⟩
  have k2 := iOr_lt (k := 20) (a := G 1) (b := 2 ^ y.toNat) (by have := hG 1; omega) ⟨Int.le_of_lt (p2_pos _), p20 y hy⟩
  have k3 := iOr_lt (k := 20) (a := G 2) (b := t) (by have := hG 2; omega) (by omega)
  exact bd_u (bd_u (bd_u hG (by omega)) (by omega)) (by omega)
/-- the least or the greatest of a set of lengths, told -/
def armP (S : Int → Prop) (w u : Int) : Prop := (u = -9 ∧ ∀ v : Int, 0 ≤ v ∧ v < 20 → ¬ S v) ∨ ((1 ≤ u ∧ u ≤ 20) ∧ S (u - 1) ∧ ∀ v : Int, 0 ≤ v ∧ v < 20 → S v → (w = 0 → u - 1 ≤ v) ∧ (w = 1 → v ≤ u - 1))
theorem armP_u {S T : Int → Prop} {w u u2 : Int} (hw : w = 0 ∨ w = 1) (hST : ∀ v : Int, 0 ≤ v ∧ v < 20 → (S v ↔ T v)) (h : armP S w u) (h2 : armP T w u2) : u = u2 := by
  rcases h with ⟨a1, a2⟩ | ⟨a1, a2, a3⟩ <;> rcases h2 with ⟨b1, b2⟩ | ⟨b1, b2, b3⟩
  · omega
  · exact absurd ((hST _ ⟨by omega, by omega⟩).mpr b2) (a2 _ ⟨by omega, by omega⟩)
  · exact absurd ((hST _ ⟨by omega, by omega⟩).mp a2) (b2 _ ⟨by omega, by omega⟩)
  · have k1 := a3 (u2 - 1) ⟨by omega, by omega⟩ ((hST _ ⟨by omega, by omega⟩).mpr b2)
    have k2 := b3 (u - 1) ⟨by omega, by omega⟩ ((hST _ ⟨by omega, by omega⟩).mp a2)
    rcases hw with hw | hw
    · have := k1.1 hw; have := k2.1 hw; omega
    · have := k1.2 hw; have := k2.2 hw; omega
def lnS (H : Int → Int) (one v : Int) : Prop := if one = 0 then ln0 H 20 0 v else if one = 1 then ln1 H 20 0 v else ln2 H 20 0 v
theorem lnS_b {H G : Int → Int} {one : Int} (h : lnI H G 20 0) (ho : 0 ≤ one ∧ one ≤ 2) {v : Int} (hv : 0 ≤ v ∧ v < 20) : bitI (G one) v = 1 ↔ lnS H one v := by
  obtain ⟨a, b, c⟩ := h v hv
  unfold lnS
  rcases (show one = 0 ∨ one = 1 ∨ one = 2 by omega) with rfl | rfl | rfl
  · exact a
  · exact b
  · exact c
/-- the reference's rows -/
def arI (x k : Int) : Int := 1 + (if k = 0 then x / 400 else if k = 1 then x / 20 % 20 else x % 20)
theorem arI_b {x k : Int} (hx : 0 ≤ x ∧ x < 8000) : 1 ≤ arI x k ∧ arI x k ≤ 20 := by
  unfold arI
  (repeat' split) <;> omega
def fitI (O E P F S : Int → Int) (x : Int) : Nat → Int
  | 0 => 1
  | k + 1 => if fitI O E P F S x k = 1 ∧ cmpI (E k * arI x (O k)) (F k * arI x (P k)) = S k then 1 else 0
theorem fitI_s {O E P F S : Int → Int} {x k : Int} (hk : 0 ≤ k) : fitI O E P F S x (k + 1).toNat = if fitI O E P F S x k.toNat = 1 ∧ cmpI (E k * arI x (O k)) (F k * arI x (P k)) = S k then 1 else 0 := by
  rw [show (k + 1).toNat = k.toNat + 1 by omega]
  show (if fitI O E P F S x k.toNat = 1 ∧ cmpI (E (k.toNat : Int) * arI x (O (k.toNat : Int))) (F (k.toNat : Int) * arI x (P (k.toNat : Int))) = S (k.toNat : Int) then (1 : Int) else 0) = _
  rw [Int.toNat_of_nonneg hk]
theorem fitI_01 {O E P F S : Int → Int} {x : Int} : ∀ n : Nat, 0 ≤ fitI O E P F S x n ∧ fitI O E P F S x n ≤ 1
  | 0 => by simp [fitI]
  | n + 1 => by unfold fitI; split <;> omega
theorem fitI_all {O E P F S : Int → Int} {x : Int} : ∀ n : Nat, fitI O E P F S x n = 1 ↔ ∀ k : Int, 0 ≤ k ∧ k < n → cmpI (E k * arI x (O k)) (F k * arI x (P k)) = S k
  | 0 => ⟨fun _ k hk => by omega, fun _ => rfl⟩
  | n + 1 => by
    have ih := fitI_all (O := O) (E := E) (P := P) (F := F) (S := S) (x := x) n
    unfold fitI
    constructor
    · intro h
      split at h
      · next q =>
        intro k hk
        rcases (show k < n ∨ k = n by omega) with q2 | q2
        · exact ih.mp q.1 k ⟨hk.1, q2⟩
        · rw [q2]; exact q.2
      · omega
    · intro h
      rw [if_pos ⟨ih.mpr (fun k hk => h k ⟨hk.1, by omega⟩), h n ⟨by omega, by omega⟩⟩]
/-- of the rows below x: how many fit, the least and the greatest of one in these -/
def lyR (fit v : Int → Int) (x n lo hi : Int) : Prop := n = sZ fit x ∧ (∀ y : Int, 0 ≤ y ∧ y < x → fit y = 1 → lo ≤ v y ∧ v y ≤ hi) ∧ ((n = 0 ∧ lo = 99 ∧ hi = 0) ∨ (0 < n ∧ (∃ y : Int, (0 ≤ y ∧ y < x) ∧ fit y = 1 ∧ v y = lo) ∧ ∃ y : Int, (0 ≤ y ∧ y < x) ∧ fit y = 1 ∧ v y = hi))
theorem lyR_no {fit v : Int → Int} {x n lo hi : Int} (hx : 0 ≤ x) (h : lyR fit v x n lo hi) (h1 : fit x = 0) : lyR fit v (x + 1) n lo hi := by
  obtain ⟨a, b, c⟩ := h
  refine ⟨by rw [sZ_s _ hx, h1, a]; omega, fun y hy hf => ?_, ?_⟩
  · rcases (show y < x ∨ y = x by omega) with q | q
    · exact b y ⟨hy.1, q⟩ hf
    · rw [q] at hf; omega
  · rcases c with c | ⟨c1, ⟨y1, k1, k2, k3⟩, ⟨y2, k4, k5, k6⟩⟩
    · exact Or.inl c
    · exact Or.inr ⟨c1, ⟨y1, ⟨k1.1, by omega⟩, k2, k3⟩, ⟨y2, ⟨k4.1, by omega⟩, k5, k6⟩⟩
theorem lyR_yes {fit v : Int → Int} {x n lo hi lo2 hi2 : Int} (hx : 0 ≤ x) (h : lyR fit v x n lo hi) (h1 : fit x = 1) (hv : 1 ≤ v x ∧ v x ≤ 20) (hn : 0 ≤ n) (e1 : lo2 = if v x < lo then v x else lo) (e2 : hi2 = if hi < v x then v x else hi) : lyR fit v (x + 1) (n + 1) lo2 hi2 := by
  obtain ⟨a, b, c⟩ := h
  refine ⟨by rw [sZ_s _ hx, h1, a], fun y hy hf => ?_, Or.inr ⟨by omega, ?_, ?_⟩⟩
  · rcases (show y < x ∨ y = x by omega) with q | q
    · have := b y ⟨hy.1, q⟩ hf
      split at e1 <;> split at e2 <;> omega
    · rw [q]
      split at e1 <;> split at e2 <;> omega
  · by_cases q : v x < lo
    · rw [if_pos q] at e1
      exact ⟨x, ⟨hx, by omega⟩, h1, e1.symm⟩
    · rw [if_neg q] at e1
      rcases c with c | ⟨c1, ⟨y1, k1, k2, k3⟩, -⟩
      · omega
      · exact ⟨y1, ⟨k1.1, by omega⟩, k2, by omega⟩
  · by_cases q : hi < v x
    · rw [if_pos q] at e2
      exact ⟨x, ⟨hx, by omega⟩, h1, e2.symm⟩
    · rw [if_neg q] at e2
      rcases c with c | ⟨c1, -, ⟨y2, k4, k5, k6⟩⟩
      · omega
      · exact ⟨y2, ⟨k4.1, by omega⟩, k5, by omega⟩
