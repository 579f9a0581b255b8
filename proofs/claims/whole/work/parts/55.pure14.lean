def hrI (F : Int → Int) (j : Int) : Int := F j * 64 + (if 0 ≤ j ∧ j < 6 then 2 ^ j.toNat else 0)
theorem hrI_in {F : Int → Int} {j : Int} (h : 0 ≤ j ∧ j < 6) : F j * 64 + 2 ^ j.toNat = hrI F j := by
  unfold hrI
  rw [if_pos h]
theorem hrI_b {F : Int → Int} (hF : bd F 0 99) (j : Int) : 0 ≤ hrI F j ∧ hrI F j ≤ 6400 := by
  have h1 := hF j
  unfold hrI
  split
  · next q =>
    have h2 : (2 : Nat) ^ j.toNat ≤ 2 ^ 5 := Nat.pow_le_pow_right (by decide) (by omega)
    have h3 : (((2 : Nat) ^ j.toNat : Nat) : Int) ≤ 32 := by omega
    have h4 : (0 : Int) < 2 ^ j.toNat := p2_pos _
    push_cast at h3
    omega
  · omega
section RW
variable {A H B : Int → Int} {el N : Int}
theorem rwT_bar {k k2 : Nat} {T : Int} {R X : Int → Int} (hk : k2 = k + 1) (hb : B (N - (k : Int) - 1) = 1) (h : rwT A H B el N k T R) (hT : T ≤ 1097) : rwT A H B el N k2 T (cpI R X 1098) := by
  subst hk
  intro t ht
  rw [cpI_in (by omega)]
  exact mnT_bar hb (h t ht)
theorem rwT_e {k k2 : Nat} {T : Int} {R : Int → Int} (hk : k2 = k) (h : rwT A H B el N k T R) : rwT A H B el N k2 T R := by
  subst hk
  exact h
theorem rwT_0 {k : Nat} {T : Int} {L : Int → Int} (hk : k = 0) (hT : T ≤ 1097) : rwT A H B el N k T (uI (cpI (fun _ => 1000000000) L 1098) 0 0) := by
  subst hk
  intro t ht
  have h := mnT_0 (A := A) (H := H) (B := B) (el := el) (N := N) (t := t)
  by_cases q : t = 0
  · rw [if_pos q] at h
    rw [q, uI_s]
    rw [q] at h
    exact h
  · rw [if_neg q] at h
    rw [uI_n _ _ q, cpI_in (by omega)]
    exact h
end RW
def rwF (L0 L1 L2 L3 L4 L5 L6 : Int → Int) : Nat → Int → Int
  | 0 => L0
  | 1 => L1
  | 2 => L2
  | 3 => L3
  | 4 => L4
  | 5 => L5
  | _ => L6
/-- what the reckoning leaves: every row, and the least weight of the totals from L to T -/
def rkW (R : Int → Int) (L T W : Int) : Prop := (0 ≤ W ∧ W ≤ 1000000000) ∧ (∀ t : Int, L ≤ t ∧ t < T → W ≤ R t) ∧ (W < 1000000000 → ∃ t : Int, (L ≤ t ∧ t < T) ∧ R t = W)
theorem rkW_0 {R : Int → Int} {L : Int} : rkW R L L 1000000000 := ⟨by decide, fun t ht => by omega, fun q => absurd q (by decide)⟩
theorem rkW_s {R : Int → Int} {L T W : Int} (h : rkW R L T W) (hb : 0 ≤ R T) (hT : L ≤ T) : rkW R L (T + 1) (min W (R T)) := by
  obtain ⟨a, b, c⟩ := h
  refine ⟨by omega, fun t ht => ?_, fun q => ?_⟩
  · by_cases z : t = T
    · rw [z]
      omega
    · have := b t (by omega)
      omega
  · by_cases z : W ≤ R T
    · obtain ⟨t, ht, e⟩ := c (by omega)
      exact ⟨t, by omega, by omega⟩
    · exact ⟨T, by omega, by omega⟩
def rkP (A F : Int → Int) (B : Int → Int) (el N T L : Int) (R : Nat → Int → Int) (W : Int) : Prop := (∀ j : Nat, (j : Int) ≤ N → rwT A (hrI F) B el N (N - (j : Int)).toNat T (R j)) ∧ (L ≤ T + 1 → rkW (R 0) L (T + 1) W) ∧ (T + 1 < L → W = 1000000000)
theorem rk_all {A F B : Int → Int} {el N T : Int} {L0 L1 L2 L3 L4 L5 L6 : Int → Int} (hN : 0 ≤ N ∧ N ≤ 6) (h0 : rwT A (hrI F) B el N (N - 0).toNat T L0) (h1 : 1 ≤ N → rwT A (hrI F) B el N (N - 1).toNat T L1) (h2 : 2 ≤ N → rwT A (hrI F) B el N (N - 2).toNat T L2) (h3 : 3 ≤ N → rwT A (hrI F) B el N (N - 3).toNat T L3) (h4 : 4 ≤ N → rwT A (hrI F) B el N (N - 4).toNat T L4) (h5 : 5 ≤ N → rwT A (hrI F) B el N (N - 5).toNat T L5) (h6 : 6 ≤ N → rwT A (hrI F) B el N (N - 6).toNat T L6) : ∀ j : Nat, (j : Int) ≤ N → rwT A (hrI F) B el N (N - (j : Int)).toNat T (rwF L0 L1 L2 L3 L4 L5 L6 j)
  | 0, _ => h0
  | 1, h => h1 h
  | 2, h => h2 h
  | 3, h => h3 h
  | 4, h => h4 h
  | 5, h => h5 h
  | 6, h => h6 h
  | k + 7, h => by exfalso; push_cast at h; omega
theorem rkW_n {R : Int → Int} {L W : Int} (h : rkW R L L W) : W = 1000000000 := by
  by_cases q : W < 1000000000
  · obtain ⟨t, ht, -⟩ := h.2.2 q
    omega
  · have := h.1
    omega
