theorem dv_w {F e : Int → Int} {p N : Int} (hN : N ≤ 6) : ∀ {k : Nat}, (k : Int) ≤ N → ∃ c : Int, wT (hrI F) (p * 64) N e k = c * 2 ^ (N - k).toNat
  | 0, _ => ⟨0, by show (0 : Int) = _; omega⟩
  | k + 1, h => by
    obtain ⟨c, hc⟩ := dv_w (F := F) (e := e) (p := p) hN (k := k) (by omega)
    show ∃ c : Int, wT (hrI F) (p * 64) N e k + (if 1 ≤ e (N - (k : Int) - 1) then hrI F (N - (k : Int) - 1) + e (N - (k : Int) - 1) * (p * 64) else 0) = c * 2 ^ (N - ((k + 1 : Nat) : Int)).toNat
    rw [hc, show (N - (k : Int)).toNat = (N - ((k + 1 : Nat) : Int)).toNat + 1 by push_cast; omega, Int.pow_succ]
    obtain ⟨t, ht⟩ : ∃ t : Nat, (N - ((k + 1 : Nat) : Int)).toNat = t := ⟨_, rfl⟩
    rw [ht]
    have t5 : t ≤ 5 := by push_cast at ht; omega
    have e64 : (64 : Int) = 2 ^ (6 - t) * 2 ^ t := by
      rw [← Int.pow_add, show 6 - t + t = 6 by omega]
      rfl
    split
    · refine ⟨2 * c + (F (N - (k : Int) - 1) * 2 ^ (6 - t) + 1 + e (N - (k : Int) - 1) * p * 2 ^ (6 - t)), ?_⟩
      unfold hrI
      rw [if_pos (by push_cast at h; omega), show (N - (k : Int) - 1).toNat = t by push_cast at ht; omega, Int.add_mul, Int.add_mul, Int.add_mul, Int.mul_assoc (F _) _ _, ← e64, Int.mul_assoc (e _ * p) _ _, ← e64, Int.mul_assoc (e _) p 64, Int.one_mul]
      have q : c * (2 ^ t * 2) = 2 * c * 2 ^ t := by rw [Int.mul_comm (2 ^ t) 2, ← Int.mul_assoc, Int.mul_comm c 2]
      omega
    · refine ⟨2 * c, ?_⟩
      have q : c * (2 ^ t * 2) = 2 * c * 2 ^ t := by rw [Int.mul_comm (2 ^ t) 2, ← Int.mul_assoc, Int.mul_comm c 2]
      omega
theorem bit_w {F e : Int → Int} {p N i : Int} (hN : N ≤ 6) (hi : 0 ≤ i ∧ i < N) : bitI ((if 1 ≤ e i then hrI F i + e i * (p * 64) else 0) + wT (hrI F) (p * 64) N e (N - (i + 1)).toNat) i = if 1 ≤ e i then 1 else 0 := by
  obtain ⟨c, hc⟩ := dv_w (F := F) (e := e) (p := p) hN (k := (N - (i + 1)).toNat) (by omega)
  rw [hc, show (N - (((N - (i + 1)).toNat : Nat) : Int)).toNat = i.toNat + 1 by omega]
  have m : e i * (p * 64) = e i * p * 64 := (Int.mul_assoc _ _ _).symm
  rw [m]
  unfold hrI bitI
  rw [if_pos (show 0 ≤ i ∧ i < 6 by omega)]
  obtain ⟨y, hy⟩ : ∃ y : Int, e i * p = y := ⟨_, rfl⟩
  rw [hy]
  have h6 : i = 0 ∨ i = 1 ∨ i = 2 ∨ i = 3 ∨ i = 4 ∨ i = 5 := by omega
  by_cases q : 1 ≤ e i
  · rw [if_pos q, if_pos q]
    rcases h6 with h | h | h | h | h | h
    · subst h; show (F 0 * 64 + 1 + y * 64 + c * 2) / 1 % 2 = 1; omega
    · subst h; show (F 1 * 64 + 2 + y * 64 + c * 4) / 2 % 2 = 1; omega
    · subst h; show (F 2 * 64 + 4 + y * 64 + c * 8) / 4 % 2 = 1; omega
    · subst h; show (F 3 * 64 + 8 + y * 64 + c * 16) / 8 % 2 = 1; omega
    · subst h; show (F 4 * 64 + 16 + y * 64 + c * 32) / 16 % 2 = 1; omega
    · subst h; show (F 5 * 64 + 32 + y * 64 + c * 64) / 32 % 2 = 1; omega
  · rw [if_neg q, if_neg q]
    rcases h6 with h | h | h | h | h | h
    · subst h; show (0 + c * 2) / 1 % 2 = 0; omega
    · subst h; show (0 + c * 4) / 2 % 2 = 0; omega
    · subst h; show (0 + c * 8) / 4 % 2 = 0; omega
    · subst h; show (0 + c * 16) / 8 % 2 = 0; omega
    · subst h; show (0 + c * 32) / 16 % 2 = 0; omega
    · subst h; show (0 + c * 64) / 32 % 2 = 0; omega
theorem sZ_nn {g : Int → Int} {n : Int} (h : ∀ j : Int, 0 ≤ j → j < n → 0 ≤ g j) : 0 ≤ sZ g n := by
  have e : sZ g n = sZ (fun j => if 0 ≤ j ∧ j < n then g j else 0) n := sZ_c (fun j a b => (if_pos ⟨a, b⟩).symm)
  rw [e]
  unfold sZ
  induction n.toNat with
  | zero => exact Int.le_refl _
  | succ k ih =>
    show 0 ≤ sN _ k + (if 0 ≤ (k : Int) ∧ (k : Int) < n then g k else 0)
    have : 0 ≤ (if 0 ≤ (k : Int) ∧ (k : Int) < n then g k else 0) := by
      split
      · next q => exact h _ q.1 q.2
      · exact Int.le_refl _
    omega
section SH
variable {A B F : Int → Int} {p N L T W : Int}
theorem sh_bd {E : Int → Int} {i rest low high : Int} (hN : 0 ≤ N ∧ N ≤ 6) (hA : ∀ j, 0 ≤ A j) (hH : ∀ j, 0 ≤ hrI F j) (hp : 0 ≤ p) (hi : 0 ≤ i ∧ i ≤ N) (h : shI A (hrI F) B (p * 64) N L T W E i rest low high) : (0 ≤ high ∧ high ≤ T ∧ L - T ≤ low ∧ low ≤ L) ∧ 0 ≤ rest ∧ rest ≤ W := by
  obtain ⟨⟨e, ⟨o1, o2, o3⟩, ha⟩, -, h1, h2, h3⟩ := h
  obtain ⟨m, rfl⟩ := Int.eq_ofNat_of_zero_le hi.1
  have t1 := tT_split (A := A) (e := e) hN.1 (i := m) hi.2
  have w1 := wT_split (H := hrI F) (el := p * 64) (e := e) hN.1 (i := m) hi.2
  rw [agr_t (A := A) ha] at t1
  rw [agr_w (H := hrI F) (el := p * 64) ha] at w1
  have oa := oT_all.mp o1
  have ot : oT B N e (N - (m : Int)).toNat := oT_all.mpr (fun j hj => oa j (by omega))
  have t2 := tT_0 (N := N) hA ot
  have w2 := wT_0 (N := N) (el := p * 64) hH (by omega) ot
  have s1 : 0 ≤ sZ (fun j => E j * A j) (m : Int) := sZ_nn (fun j a b => Int.mul_nonneg (by rw [← ha j ⟨a, b⟩]; exact (oa j (by omega)).1) (hA j))
  have s2 : 0 ≤ sZ (pwI (hrI F) (p * 64) E) (m : Int) := sZ_nn (fun j a b => by
    unfold pwI
    split
    · have := hH j
      have := Int.mul_nonneg (show 0 ≤ E j by omega) (show 0 ≤ p * 64 by omega)
      omega
    · exact Int.le_refl _)
  omega
theorem sh_w {E : Int → Int} {i rest low high : Int} (hN : 0 ≤ N ∧ N ≤ 6) (hi : 0 ≤ i ∧ i < N) (hH : ∀ j, 0 ≤ hrI F j) (hp : 0 ≤ p) (h : shI A (hrI F) B (p * 64) N L T W E i rest low high) (hb : bitI rest i = 1) : 0 ≤ rest - hrI F i := by
  obtain ⟨e, ho, ha⟩ := h.1
  obtain ⟨-, c2, c3, c4, -⟩ := sh_cut hN.1 hi h ho ha
  have w2 := wT_0 (N := N) (el := p * 64) hH (by omega) c3
  have wn := Int.mul_nonneg c4 (show 0 ≤ p * 64 by omega)
  by_cases q : 1 ≤ e i
  · rw [if_pos q] at c2
    omega
  · rw [c2, bit_w hN.2 hi, if_neg q] at hb
    omega
theorem sh_no {E : Int → Int} {i rest low high : Int} (hN : 0 ≤ N ∧ N ≤ 6) (hi : 0 ≤ i ∧ i < N) (h : shI A (hrI F) B (p * 64) N L T W E i rest low high) (hb : ¬ bitI rest i = 1) : shI A (hrI F) B (p * 64) N L T W (uI E i 0) (i + 1) rest low high := by
  have key : ∀ e, opt A (hrI F) B (p * 64) N L T W e → agr e E i → e i = 0 := by
    intro e ho ha
    obtain ⟨-, c2, -, c4, -⟩ := sh_cut hN.1 hi h ho ha
    rw [c2, bit_w hN.2 hi] at hb
    by_cases q : 1 ≤ e i
    · rw [if_pos q] at hb
      exact absurd rfl hb
    · omega
  obtain ⟨⟨e, ho, ha⟩, h2, h3, h4, h5⟩ := h
  refine ⟨⟨e, ho, agr_s ha (key e ho ha)⟩, ?_, ?_, ?_, ?_⟩
  · intro x hx f hf hg
    by_cases q : x = i
    · rw [q] at hg ⊢
      rw [agr_u (Int.le_refl _)] at hg
      rw [uI_s, key f hf hg]
      exact Int.le_refl _
    · rw [agr_u (by omega)] at hg
      rw [uI_n _ _ q]
      exact h2 x (by omega) f hf hg
  · rw [u_t hi.1]; omega
  · rw [u_t hi.1]; omega
  · rw [u_w hi.1, if_neg (by decide)]; omega
theorem sh_yes {E R : Int → Int} {i rest low high r : Int} (hN : 0 ≤ N ∧ N ≤ 6) (hi : 0 ≤ i ∧ i < N) (hA : ∀ j, 0 ≤ A j) (hH : ∀ j, 0 ≤ hrI F j) (hp : 1 ≤ p) (hm : 1 ≤ A i) (hT : T ≤ 1097) (hW : W < 1000000000)
    (hl : lst A (hrI F) B (p * 64) N L T W) (h : shI A (hrI F) B (p * 64) N L T W E i rest low high) (hb : bitI rest i = 1) (hR : rwT A (hrI F) B (p * 64) N (N - (i + 1)).toNat T R) (hf : fwR R (A i) (rest - hrI F i) (p * 64) low high r) : 1 ≤ r ∧ shI A (hrI F) B (p * 64) N L T W (uI E i r) (i + 1) (rest - hrI F i - r * (p * 64)) (low - r * A i) (high - r * A i) := by
  have bds := sh_bd hN hA hH (by omega) ⟨hi.1, by omega⟩ h
  have key : ∀ e, opt A (hrI F) B (p * 64) N L T W e → agr e E i → 1 ≤ e i ∧ ¬ B i = 1 ∧ fwP R (A i) (rest - hrI F i) (p * 64) low high (e i) := by
    intro e ho ha
    obtain ⟨⟨c1, c1'⟩, c2, c3, c4, c5⟩ := sh_cut hN.1 hi h ho ha
    have e1 : 1 ≤ e i := by
      rw [c2, bit_w hN.2 hi] at hb
      by_cases q : 1 ≤ e i
      · exact q
      · rw [if_neg q] at hb
        omega
    rw [if_pos e1] at c2
    obtain ⟨s, hs⟩ : ∃ s : Int, tT A N e (N - (i + 1)).toNat = s := ⟨_, rfl⟩
    rw [hs] at c1 c1'
    have s0 : 0 ≤ s := by rw [← hs]; exact tT_0 hA c3
    have em : e i ≤ e i * A i := by
      have := Int.mul_le_mul_of_nonneg_left hm c4
      omega
    have mn : e i * A i + s ≤ low + A i - 1 := by
      by_cases q : e i * A i + s ≤ low + A i - 1
      · exact q
      · exfalso
        obtain ⟨g, g1, -, -, g4, g5, g6⟩ := sh_put (A := A) (n := e i - 1) hN.1 hi h (by omega) (fun _ => c5 e1) c3
        rw [hs, Int.sub_mul, Int.one_mul] at g4 g5
        have := hl g g1 ⟨by omega, by omega⟩
        have hh := hH i
        rw [Int.sub_mul, Int.one_mul] at g6
        split at g6
        · omega
        · have : e i = 1 := by omega
          rw [this] at c2
          omega
    refine ⟨e1, c5 e1, ⟨by omega, by omega⟩, s, ⟨s0, by omega, by omega, by omega⟩, ?_⟩
    have ms := hR s ⟨s0, by omega⟩
    have le := ms.2.1 e c3 hs
    by_cases q : R s = wT (hrI F) (p * 64) N e (N - (i + 1)).toNat
    · omega
    · exfalso
      have w2 := wT_0 (N := N) (el := p * 64) hH (by omega) c3
      have wh := hH i
      have wn := Int.mul_nonneg c4 (show 0 ≤ p * 64 by omega)
      obtain ⟨f, f1, f2, f3⟩ := ms.2.2 (by omega)
      obtain ⟨g, g1, -, -, g4, g5, g6⟩ := sh_put (A := A) (n := e i) hN.1 hi h c4 c5 f1
      rw [f2] at g4 g5
      rw [if_pos e1, f3] at g6
      have := hl g g1 ⟨by omega, by omega⟩
      omega
  obtain ⟨e0, ho0, ha0⟩ := h.1
  obtain ⟨k1, k2, k3⟩ := key e0 ho0 ha0
  obtain ⟨f1, f2⟩ := hf
  have r1 : 1 ≤ r ∧ fwP R (A i) (rest - hrI F i) (p * 64) low high r := by
    rcases f2 with f2 | f2
    · exact absurd k3 (f1 (e0 i) ⟨k1, Or.inl f2⟩)
    · exact f2
  refine ⟨r1.1, ?_⟩
  obtain ⟨r0, ⟨p1, p2⟩, s, ⟨s1, s2, s3, s4⟩, s5⟩ := r1
  have rn := Int.mul_nonneg (show 0 ≤ r by omega) (show 0 ≤ p * 64 by omega)
  have rm := Int.mul_nonneg (show 0 ≤ r by omega) (hA i)
  have wh := hH i
  have ms := hR s ⟨s1, by omega⟩
  obtain ⟨f, g1, g2, g3⟩ := ms.2.2 (by omega)
  obtain ⟨g, q1, q2, q3, q4, q5, q6⟩ := sh_put (A := A) (n := r) hN.1 hi h (by omega) (fun _ => k2) g1
  rw [g2] at q4 q5
  rw [if_pos r0, g3] at q6
  obtain ⟨-, h2, h3, h4, h5⟩ := h
  refine ⟨⟨g, ⟨q1, ⟨by omega, by omega⟩, by omega⟩, agr_s q2 q3⟩, ?_, ?_, ?_, ?_⟩
  · intro x hx e ho ha
    by_cases q : x = i
    · rw [q] at ha ⊢
      rw [agr_u (Int.le_refl _)] at ha
      rw [uI_s]
      obtain ⟨z1, z2, z3⟩ := key e ho ha
      by_cases z : e i < r
      · exact absurd z3 (f1 (e i) ⟨z1, Or.inr z⟩)
      · omega
    · rw [agr_u (by omega)] at ha
      rw [uI_n _ _ q]
      exact h2 x (by omega) e ho ha
  · rw [u_t hi.1]; omega
  · rw [u_t hi.1]; omega
  · rw [u_w hi.1, if_pos r0]; omega
/-- the least of them, person by person -/
def lxO (A H B : Int → Int) (el N L T W : Int) (E : Int → Int) : Prop := (∃ e, opt A H B el N L T W e ∧ agr e E N) ∧ ∀ x : Int, 0 ≤ x ∧ x < N → ∀ e, opt A H B el N L T W e → agr e E x → E x ≤ e x
theorem sh_0 {E : Int → Int} (h : ∃ e, opt A (hrI F) B (p * 64) N L T W e) : shI A (hrI F) B (p * 64) N L T W E 0 W L T := by
  obtain ⟨e, he⟩ := h
  refine ⟨⟨e, he, fun j hj => by omega⟩, fun x hx => by omega, ?_, ?_, ?_⟩
  · show L = L - 0; omega
  · show T = T - 0; omega
  · show W = W - 0; omega
end SH
