/-! the reference's sets against the class's weights: a way of the class is a set and a way of exactly that set -/
theorem sZ_at {g g' : Int → Int} {n i y : Int} (hi : 0 ≤ i ∧ i < n) (h1 : g' i = g i + y) (h2 : ∀ j : Int, ¬ j = i → g' j = g j) : sZ g' n = sZ g n + y := by
  have h0 := hi.1
  obtain ⟨k, rfl⟩ : ∃ k : Nat, n = i + 1 + k := ⟨(n - i - 1).toNat, by omega⟩
  clear hi
  induction k with
  | zero =>
    rw [show i + 1 + ((0 : Nat) : Int) = i + 1 by omega, sZ_s _ h0, sZ_s _ h0, h1, sZ_c (g := g') (h := g) (fun j _ b => h2 j (by omega))]
    omega
  | succ k ih =>
    rw [show i + 1 + ((k + 1 : Nat) : Int) = (i + 1 + (k : Int)) + 1 by push_cast; omega, sZ_s _ (by omega), sZ_s _ (by omega), ih, h2 _ (by omega)]
    omega
theorem tT_sZ {A e : Int → Int} {N : Int} (hN : 0 ≤ N) : tT A N e N.toNat = sZ (fun j => e j * A j) N := by
  obtain ⟨n, rfl⟩ := Int.eq_ofNat_of_zero_le hN
  have := tT_split (A := A) (e := e) hN (i := n) (Int.le_refl _)
  rw [show ((n : Int) - (n : Int)).toNat = 0 by omega] at this
  rw [this]
  show _ + 0 = _
  omega
theorem nT_sZ {e : Int → Int} {N : Int} (hN : 0 ≤ N) : nT N e N.toNat = sZ e N := by
  obtain ⟨n, rfl⟩ := Int.eq_ofNat_of_zero_le hN
  have := nT_split (e := e) hN (i := n) (Int.le_refl _)
  rw [show ((n : Int) - (n : Int)).toNat = 0 by omega] at this
  rw [this]
  show _ + 0 = _
  omega
theorem wT_sZ {H e : Int → Int} {el N : Int} (hN : 0 ≤ N) : wT H el N e N.toNat = sZ (pwI H el e) N := by
  obtain ⟨n, rfl⟩ := Int.eq_ofNat_of_zero_le hN
  have := wT_split (H := H) (el := el) (e := e) hN (i := n) (Int.le_refl _)
  rw [show ((n : Int) - (n : Int)).toNat = 0 by omega] at this
  rw [this]
  show _ + 0 = _
  omega
theorem m_bits {m N : Int} (hN : 0 ≤ N ∧ N ≤ 6) (h0 : 0 ≤ m) (hm : m < 2 ^ N.toNat) : sZ (fun j => bitI m j * 2 ^ j.toNat) N = m := by
  rcases (show N = 0 ∨ N = 1 ∨ N = 2 ∨ N = 3 ∨ N = 4 ∨ N = 5 ∨ N = 6 by omega) with rfl | rfl | rfl | rfl | rfl | rfl | rfl
  · have hm : m < 1 := hm
    show (0 : Int) = m
    omega
  · have hm : m < 2 := hm
    show 0 + m / 1 % 2 * 1 = m
    omega
  · have hm : m < 4 := hm
    show 0 + m / 1 % 2 * 1 + m / 2 % 2 * 2 = m
    omega
  · have hm : m < 8 := hm
    show 0 + m / 1 % 2 * 1 + m / 2 % 2 * 2 + m / 4 % 2 * 4 = m
    omega
  · have hm : m < 16 := hm
    show 0 + m / 1 % 2 * 1 + m / 2 % 2 * 2 + m / 4 % 2 * 4 + m / 8 % 2 * 8 = m
    omega
  · have hm : m < 32 := hm
    show 0 + m / 1 % 2 * 1 + m / 2 % 2 * 2 + m / 4 % 2 * 4 + m / 8 % 2 * 8 + m / 16 % 2 * 16 = m
    omega
  · have hm : m < 64 := hm
    show 0 + m / 1 % 2 * 1 + m / 2 % 2 * 2 + m / 4 % 2 * 4 + m / 8 % 2 * 8 + m / 16 % 2 * 16 + m / 32 % 2 * 32 = m
    omega
theorem W_of {F e : Int → Int} {p N m : Int} (hN : 0 ≤ N ∧ N ≤ 6) (h0 : 0 ≤ m) (hm : m < 2 ^ N.toNat) (hs : ∀ j : Int, 0 ≤ j ∧ j < N → (bitI m j = 1 → 1 ≤ e j) ∧ (¬ bitI m j = 1 → e j = 0)) : wT (hrI F) (p * 64) N e N.toNat = 64 * (feS F m N + p * sZ e N) + m := by
  have k1 : sZ (pwI (hrI F) (p * 64) e) N = sZ (fun j => ((fun j => (if bitI m j = 1 then F j else 0) * 64) j + (fun j => e j * (p * 64)) j) + (fun j => bitI m j * 2 ^ j.toNat) j) N := by
    refine sZ_c (fun j a b => ?_)
    have hj := hs j ⟨a, b⟩
    have h01 := bitI_01 m j
    unfold pwI hrI
    show _ = (if bitI m j = 1 then F j else 0) * 64 + e j * (p * 64) + bitI m j * 2 ^ j.toNat
    by_cases q : bitI m j = 1
    · have := hj.1 q
      rw [if_pos this, if_pos q, if_pos (by omega), q, Int.one_mul]
      omega
    · have h := hj.2 q
      rw [if_neg (by omega), if_neg q, h, show bitI m j = 0 by omega, Int.zero_mul, Int.zero_mul, Int.zero_mul]
      rfl
  rw [wT_sZ hN.1, k1, sZ_add, sZ_add, sZ_mul, sZ_mul, m_bits hN h0 hm]
  unfold feS
  have c1 : sZ e N * (p * 64) = 64 * (p * sZ e N) := by rw [← Int.mul_assoc, Int.mul_comm (sZ e N) p, Int.mul_comm]
  have c1 : sZ (fun j => e j) N * (p * 64) = 64 * (p * sZ e N) := c1
  rw [c1, Int.mul_add]
  omega
/-- the set of those who buy -/
def stG (e : Int → Int) (j : Int) : Int := if 1 ≤ e j then 2 ^ j.toNat else 0
theorem st_bits {e : Int → Int} : ∀ n : Nat, 0 ≤ sN (stG e) n ∧ sN (stG e) n < 2 ^ n ∧ ∀ j : Nat, j < n → sN (stG e) n / 2 ^ j % 2 = if 1 ≤ e j then 1 else 0
  | 0 => ⟨Int.le_refl _, by show (0 : Int) < 1; decide, fun j hj => by omega⟩
  | n + 1 => by
    obtain ⟨h1, h2, h3⟩ := st_bits (e := e) n
    obtain ⟨x, hx⟩ : ∃ x : Int, sN (stG e) n = x := ⟨_, rfl⟩
    have hS : sN (stG e) (n + 1) = x + (if 1 ≤ e n then 2 ^ n else 0) := by
      rw [← hx]
      rfl
    rw [hS]
    rw [hx] at h1 h2 h3
    have hp : (0 : Int) < 2 ^ n := p2_pos n
    have hps : (2 : Int) ^ (n + 1) = 2 ^ n * 2 := Int.pow_succ 2 n
    by_cases q : 1 ≤ e n
    · rw [if_pos q]
      refine ⟨by omega, by omega, fun j hj => ?_⟩
      have hpj : (0 : Int) < 2 ^ j := p2_pos j
      by_cases z : j = n
      · subst z
        rw [if_pos q]
        have : (x + 2 ^ j) / 2 ^ j = x / 2 ^ j + 1 := by
          have := Int.add_mul_ediv_right x 1 (show (2 : Int) ^ j ≠ 0 by omega)
          rw [Int.one_mul] at this
          exact this
        rw [this, Int.ediv_eq_zero_of_lt h1 h2]
        rfl
      · have e1 : (2 : Int) ^ n = (2 ^ (n - j - 1) * 2) * 2 ^ j := by
          rw [← Int.pow_succ, ← Int.pow_add]
          congr 1
          omega
        rw [e1, Int.add_mul_ediv_right x _ (show (2 : Int) ^ j ≠ 0 by omega), ← h3 j (by omega)]
        omega
    · rw [if_neg q]
      refine ⟨by omega, by omega, fun j hj => ?_⟩
      by_cases z : j = n
      · subst z
        rw [if_neg q, Int.add_zero, Int.ediv_eq_zero_of_lt h1 h2]
        rfl
      · rw [Int.add_zero]
        exact h3 j (by omega)
def suI (e : Int → Int) (N : Int) : Int := sZ (stG e) N
theorem suI_b {e : Int → Int} {N : Int} (hN : 0 ≤ N) : (0 ≤ suI e N ∧ suI e N < 2 ^ N.toNat) ∧ ∀ j : Int, 0 ≤ j ∧ j < N → bitI (suI e N) j = if 1 ≤ e j then 1 else 0 := by
  obtain ⟨h1, h2, h3⟩ := st_bits (e := e) N.toNat
  refine ⟨⟨h1, h2⟩, fun j hj => ?_⟩
  have := h3 j.toNat (by omega)
  rw [Int.toNat_of_nonneg hj.1] at this
  exact this
def cutI (e : Int → Int) (N : Int) (j : Int) : Int := if 0 ≤ j ∧ j < N then e j else 0
section TI
variable {A F Q : Int → Int} {p N L T : Int}
theorem cut_sum {e : Int → Int} (hN : 0 ≤ N ∧ N ≤ 6) : sZ (fun j => cutI e N j * A j) 6 = sZ (fun j => e j * A j) N ∧ sZ (cutI e N) 6 = sZ e N := by
  constructor
  · rw [sZ_ext hN.1 hN.2 (fun j a b => by show cutI e N j * A j = 0; unfold cutI; rw [if_neg (by omega), Int.zero_mul])]
    exact sZ_c (fun j a b => by show cutI e N j * A j = _; unfold cutI; rw [if_pos ⟨a, b⟩])
  · rw [sZ_ext hN.1 hN.2 (fun j a b => by unfold cutI; rw [if_neg (by omega)])]
    exact sZ_c (fun j a b => by unfold cutI; rw [if_pos ⟨a, b⟩])
theorem to_set {e : Int → Int} (hN : 0 ≤ N ∧ N ≤ 6) (hQ : bd Q 0 1) (ho : oT Q N e N.toNat) : (0 ≤ suI e N ∧ suI e N < 2 ^ N.toNat) ∧ okS Q (suI e N) N ∧ sT (suI e N) 6 (cutI e N) 6 ∧ tT A 6 (cutI e N) 6 = tT A N e N.toNat ∧ nT 6 (cutI e N) 6 = sZ e N ∧ wT (hrI F) (p * 64) N e N.toNat = 64 * (feS F (suI e N) N + p * sZ e N) + suI e N ∧ (1 ≤ tT A N e N.toNat → 1 ≤ suI e N) := by
  obtain ⟨hb, hj⟩ := suI_b (e := e) hN.1
  have oa := oT_all.mp ho
  have hs : ∀ j : Int, 0 ≤ j ∧ j < N → (bitI (suI e N) j = 1 → 1 ≤ e j) ∧ (¬ bitI (suI e N) j = 1 → e j = 0) := by
    intro j h
    rw [hj j h]
    have o := oa j (by omega)
    constructor
    · intro q
      split at q
      · assumption
      · omega
    · intro q
      split at q
      · omega
      · omega
  have cs := cut_sum (A := A) (e := e) hN
  refine ⟨hb, fun j h q => ?_, fun j h => ?_, ?_, ?_, W_of hN hb.1 hb.2 hs, fun ht => ?_⟩
  · have o := (oa j (by omega)).2 ((hs j h).1 q)
    have := hQ j
    omega
  · have h : 0 ≤ j ∧ j < 6 := by omega
    unfold cutI
    by_cases z : j < N
    · rw [if_pos ⟨h.1, z⟩]
      exact hs j ⟨h.1, z⟩
    · rw [if_neg (by omega)]
      have := bitI_hi (x := N) (j := j) hb.1 hb.2 (by omega) hN.1
      exact ⟨fun q => by omega, fun _ => rfl⟩
  · rw [tT_sZ hN.1, ← cs.1]
    exact tT_sZ (N := 6) (by decide)
  · rw [← cs.2]
    exact nT_sZ (N := 6) (by decide)
  · by_cases z : 1 ≤ suI e N
    · exact z
    · exfalso
      have z0 : suI e N = 0 := by omega
      rw [tT_sZ hN.1, sZ_zero (fun j a b => by
        have := (hs j ⟨a, b⟩).2 (by rw [z0, bitI_z]; decide)
        show e j * A j = 0
        rw [this, Int.zero_mul])] at ht
      omega
theorem of_set {e : Int → Int} {m : Int} (hN : 0 ≤ N ∧ N ≤ 6) (h0 : 0 ≤ m) (hm : m < 2 ^ N.toNat) (ho : okS Q m N) (hs : sT m 6 e 6) : oT Q N e N.toNat ∧ tT A 6 e 6 = tT A N e N.toNat ∧ nT 6 e 6 = sZ e N ∧ wT (hrI F) (p * 64) N e N.toNat = 64 * (feS F m N + p * sZ e N) + m := by
  have hz : ∀ j : Int, N ≤ j → j < 6 → e j = 0 := fun j a b => (hs j (by omega)).2 (by rw [bitI_hi (x := N) h0 hm a hN.1]; decide)
  have hs1 : ∀ j : Int, 0 ≤ j ∧ j < N → (bitI m j = 1 → 1 ≤ e j) ∧ (¬ bitI m j = 1 → e j = 0) := fun j h => hs j (by omega)
  refine ⟨oT_all.mpr (fun j h => ?_), ?_, ?_, W_of hN h0 hm hs1⟩
  · have h := hs1 j (by omega)
    by_cases q : bitI m j = 1
    · have := h.1 q
      exact ⟨by omega, fun _ => by rw [ho j (by omega) q]; decide⟩
    · have := h.2 q
      exact ⟨by omega, fun _ => by omega⟩
  · rw [tT_sZ hN.1]
    have := tT_sZ (A := A) (e := e) (N := 6) (by decide)
    have this : tT A 6 e 6 = _ := this
    rw [this]
    exact sZ_ext hN.1 hN.2 (fun j a b => by show e j * A j = 0; rw [hz j a b, Int.zero_mul])
  · have := nT_sZ (e := e) (N := 6) (by decide)
    have this : nT 6 e 6 = _ := this
    rw [this]
    exact sZ_ext hN.1 hN.2 (fun j a b => hz j a b)
/-- over all totals up to T: the reference's find is the class's least weight -/
theorem fc_chA {b : Int} {E : Int → Int} (hN : 0 ≤ N ∧ N ≤ 6) (hQ : bd Q 0 1) (hL : 1 ≤ L) (h : fcI A F Q p N L T (2 ^ N.toNat) b E) : chA A F Q p N L T b := by
  have p64 := p2_le6 hN
  rcases h with ⟨h1, h2⟩ | ⟨h1, m0, v, h2, h3, h4, ⟨⟨e9, he9, -⟩, -⟩, h6, h7⟩
  · refine Or.inl ⟨h1, fun e ho ht => ?_⟩
    obtain ⟨a1, a2, a3, a4, a5, a6, a7⟩ := to_set (A := A) (F := F) (p := p) hN hQ ho
    exact h2 (suI e N) ⟨a7 (by omega), a1.2⟩ a2 (cutI e N) ⟨a3, by omega, by omega⟩
  · obtain ⟨c1, c2, c3, c4⟩ := of_set (A := A) (F := F) (p := p) hN (by omega) h2.2 h3 he9.1
    have n9 : nT 6 e9 6 = v := he9.2.2
    have t9 : L ≤ tT A 6 e9 6 ∧ tT A 6 e9 6 ≤ T := he9.2.1
    have c5 : sZ e9 N = v := by omega
    rw [c5, ← h6] at c4
    refine Or.inr ⟨64 * b + m0, by omega, fun e ho ht => ?_, ⟨e9, c1, by omega, c4⟩, by omega⟩
    obtain ⟨a1, a2, a3, a4, a5, a6, a7⟩ := to_set (A := A) (F := F) (p := p) hN hQ ho
    have k := h7 (suI e N) ⟨a7 (by omega), a1.2⟩ a2 (cutI e N) ⟨a3, by omega, by omega⟩
    rw [a5] at k
    rw [a6]
    by_cases q : suI e N < m0
    · have := k.2 q
      omega
    · have := k.1
      omega
theorem fc_chB {b x : Int} {E : Int → Int} (hN : 0 ≤ N ∧ N ≤ 6) (hQ : bd Q 0 1) (hL : 1 ≤ L) (hp : 1 ≤ p) (h : fcI A F Q p N L T (2 ^ N.toNat) b E) : chB A F Q p N L T x (if b = -9 then -9 else E x) := by
  have p64 := p2_le6 hN
  have hch := fc_chA hN hQ hL h
  rcases h with ⟨h1, h2⟩ | ⟨h1, m0, v, h2, h3, h4, ⟨⟨e9, he9, ag9⟩, hlx⟩, h6, h7⟩
  · rw [if_pos h1]
    rcases hch with hc | ⟨W, w0, w1, w2, w3⟩
    · exact Or.inl ⟨rfl, hc.2⟩
    · omega
  · rw [if_neg (by omega)]
    obtain ⟨c1, c2, c3, c4⟩ := of_set (A := A) (F := F) (p := p) hN (by omega) h2.2 h3 he9.1
    have n9 : nT 6 e9 6 = v := he9.2.2
    have t9 : L ≤ tT A 6 e9 6 ∧ tT A 6 e9 6 ≤ T := he9.2.1
    have c5 : sZ e9 N = v := by omega
    rw [c5, ← h6] at c4
    refine Or.inr ⟨64 * b + m0, E, fun e ho ht => ?_, ⟨⟨e9, ⟨c1, by omega, c4⟩, fun j hj => ag9 j (by omega)⟩, fun y hy e ho ha => ?_⟩, rfl⟩
    · obtain ⟨a1, a2, a3, a4, a5, a6, a7⟩ := to_set (A := A) (F := F) (p := p) hN hQ ho
      have k := h7 (suI e N) ⟨a7 (by omega), a1.2⟩ a2 (cutI e N) ⟨a3, by omega, by omega⟩
      rw [a5] at k
      rw [a6]
      by_cases q : suI e N < m0
      · have := k.2 q
        omega
      · have := k.1
        omega
    · obtain ⟨o1, o2, o3⟩ := ho
      obtain ⟨a1, a2, a3, a4, a5, a6, a7⟩ := to_set (A := A) (F := F) (p := p) hN hQ o1
      rw [a6] at o3
      have sm : suI e N = m0 := by omega
      rw [sm] at a3 o3
      have pv : p * sZ e N = p * v := by omega
      have sv : sZ e N = v := Int.eq_of_mul_eq_mul_left (by omega) pv
      have := hlx y (by omega) (cutI e N) ⟨a3, by show L ≤ tT A 6 (cutI e N) 6 ∧ tT A 6 (cutI e N) 6 ≤ T; omega, by show nT 6 (cutI e N) 6 = v; omega⟩ (fun j hj => by unfold cutI; rw [if_pos (by omega)]; exact ha j hj)
      unfold cutI at this
      rw [if_pos hy] at this
      exact this
/-- a way that brings 99 parts too many is not the lightest: one ell less is lighter -/
theorem one_less {e : Int → Int} (hN : 0 ≤ N ∧ N ≤ 6) (hA : bd A 0 99) (hF : bd F 0 99) (hp : 1 ≤ p) (hL : 1 ≤ L) (ho : oT Q N e N.toNat) (ht : L + 99 ≤ tT A N e N.toNat) : ∃ g, oT Q N g N.toNat ∧ (L ≤ tT A N g N.toNat ∧ tT A N g N.toNat ≤ tT A N e N.toNat) ∧ wT (hrI F) (p * 64) N g N.toNat < wT (hrI F) (p * 64) N e N.toNat := by
  have oa := oT_all.mp ho
  by_cases z : ∃ j : Int, (0 ≤ j ∧ j < N) ∧ 1 ≤ e j
  · obtain ⟨j, hj, ej⟩ := z
    have aj := hA j
    have hj6 := hrI_b hF j
    refine ⟨uI e j (e j - 1), oT_all.mpr (fun i hi => ?_), ?_, ?_⟩
    · by_cases q : i = j
      · rw [q, uI_s]
        exact ⟨by omega, fun _ => (oa j (by omega)).2 ej⟩
      · rw [uI_n _ _ q]
        exact oa i hi
    · rw [tT_sZ hN.1] at ht ⊢
      rw [tT_sZ hN.1, sZ_at (g := fun j => e j * A j) (g' := fun i => uI e j (e j - 1) i * A i) (y := -(A j)) hj (by show uI e j (e j - 1) j * A j = e j * A j + -(A j); rw [uI_s, Int.sub_mul, Int.one_mul]; omega) (fun i hi => by show uI e j (e j - 1) i * A i = e i * A i; rw [uI_n _ _ hi])]
      omega
    · have el : e j * (p * 64) = (e j - 1) * (p * 64) + p * 64 := by rw [Int.sub_mul, Int.one_mul]; omega
      rw [wT_sZ hN.1, wT_sZ hN.1, sZ_at (g := pwI (hrI F) (p * 64) e) (g' := pwI (hrI F) (p * 64) (uI e j (e j - 1))) (y := pwI (hrI F) (p * 64) (uI e j (e j - 1)) j - pwI (hrI F) (p * 64) e j) hj (by omega) (fun i hi => by unfold pwI; rw [uI_n _ _ hi])]
      have d : pwI (hrI F) (p * 64) (uI e j (e j - 1)) j < pwI (hrI F) (p * 64) e j := by
        unfold pwI
        rw [uI_s, if_pos ej, el]
        split
        · omega
        · have := Int.mul_nonneg (show 0 ≤ e j - 1 by omega) (show 0 ≤ p * 64 by omega)
          omega
      omega
  · exfalso
    rw [tT_sZ hN.1, sZ_zero (fun j a b => by
      have o := oa j (by omega)
      have : ¬ 1 ≤ e j := fun q => z ⟨j, ⟨a, b⟩, q⟩
      show e j * A j = 0
      rw [show e j = 0 by omega, Int.zero_mul])] at ht
    omega
theorem opt_cut {e : Int → Int} {W S : Int} (hN : 0 ≤ N ∧ N ≤ 6) (hA : bd A 0 99) (hF : bd F 0 99) (hp : 1 ≤ p) (hL : 1 ≤ L) (hl : lst A (hrI F) Q (p * 64) N L (min S 1100) W) (ho : opt A (hrI F) Q (p * 64) N L (min S 1100) W e) : opt A (hrI F) Q (p * 64) N L (min S (L + 98)) W e := by
  obtain ⟨o1, o2, o3⟩ := ho
  refine ⟨o1, ⟨o2.1, ?_⟩, o3⟩
  by_cases q : tT A N e N.toNat ≤ L + 98
  · omega
  · obtain ⟨g, g1, g2, g3⟩ := one_less (F := F) (L := L) hN hA hF hp hL o1 (by omega)
    have := hl g g1 ⟨g2.1, by omega⟩
    omega
theorem chA_cut {a S : Int} (hN : 0 ≤ N ∧ N ≤ 6) (hA : bd A 0 99) (hF : bd F 0 99) (hp : 1 ≤ p) (hL : 1 ≤ L ∧ L ≤ 999) (h : chA A F Q p N L (min S 1100) a) : chA A F Q p N L (min S (L + 98)) a := by
  rcases h with ⟨h1, h2⟩ | ⟨W, w0, w1, ⟨e, he⟩, w3⟩
  · exact Or.inl ⟨h1, fun e ho ht => h2 e ho ⟨ht.1, by omega⟩⟩
  · exact Or.inr ⟨W, w0, fun e ho ht => w1 e ho ⟨ht.1, by omega⟩, ⟨e, opt_cut hN hA hF hp hL.1 w1 he⟩, w3⟩
theorem chB_cut {a S x : Int} (hN : 0 ≤ N ∧ N ≤ 6) (hA : bd A 0 99) (hF : bd F 0 99) (hp : 1 ≤ p) (hL : 1 ≤ L ∧ L ≤ 999) (h : chB A F Q p N L (min S 1100) x a) : chB A F Q p N L (min S (L + 98)) x a := by
  rcases h with ⟨h1, h2⟩ | ⟨W, E, w1, ⟨⟨e, he, ha⟩, w2⟩, w3⟩
  · exact Or.inl ⟨h1, fun e ho ht => h2 e ho ⟨ht.1, by omega⟩⟩
  · exact Or.inr ⟨W, E, fun e ho ht => w1 e ho ⟨ht.1, by omega⟩, ⟨⟨e, opt_cut hN hA hF hp hL.1 w1 he, ha⟩, fun y hy f hf hg => w2 y hy f ⟨hf.1, ⟨hf.2.1.1, by have := hf.2.1.2; omega⟩, hf.2.2⟩ hg⟩, w3⟩
end TI
