/-! what findCheapest keeps over the people of one set -/
def maI (Q : Int → Int) (m N a j : Int) : Prop := (a = 1 ∧ okS Q m j) ∨ (a = 0 ∧ ¬ okS Q m N)
section MA
variable {Q : Int → Int} {m N a j : Int}
theorem maI_0 : maI Q m N 1 0 := Or.inl ⟨rfl, fun j hj => by omega⟩
theorem maI_no (h : maI Q m N a j) (ha : a = 0) : maI Q m N 0 (j + 1) := by
  rcases h with h | h
  · omega
  · exact Or.inr ⟨rfl, h.2⟩
theorem maI_yes (h : maI Q m N a j) (ha : ¬ a = 0) (hz : bitI m j = 1 → Q j = 0) : maI Q m N 1 (j + 1) := by
  rcases h with h | h
  · refine Or.inl ⟨rfl, fun x hx hb => ?_⟩
    by_cases q : x = j
    · rw [q] at hb ⊢
      exact hz hb
    · exact h.2 x (by omega) hb
  · exact absurd h.1 ha
theorem maI_bar (hj : 0 ≤ j ∧ j < N) (hb : bitI m j = 1) (hq : ¬ Q j = 0) : maI Q m N 0 (j + 1) := Or.inr ⟨rfl, fun h => hq (h j hj hb)⟩
theorem maI_t (h : maI Q m N a N) (ha : ¬ a = 0) : okS Q m N := by
  rcases h with h | h
  · exact h.2
  · exact absurd h.1 ha
theorem maI_f (h : maI Q m N a N) (ha : a = 0) : ¬ okS Q m N := by
  rcases h with h | h
  · omega
  · exact h.2
end MA
theorem nT_tT {A e : Int → Int} {m N : Int} : ∀ {k : Nat}, (∀ j : Int, N - k ≤ j ∧ j < N → bitI m j = 1 → 1 ≤ A j) → sT m N e k → nT N e k ≤ tT A N e k
  | 0, _, _ => Int.le_refl _
  | k + 1, hA, h => by
    obtain ⟨h1, h2, h3⟩ := (sT_s rfl).mp h
    have ih := nT_tT (A := A) (k := k) (fun j hj => hA j (by push_cast; omega)) h1
    show nT N e k + e (N - (k : Int) - 1) ≤ tT A N e k + e (N - (k : Int) - 1) * A (N - (k : Int) - 1)
    by_cases q : bitI m (N - (k : Int) - 1) = 1
    · have a1 := hA (N - (k : Int) - 1) (by push_cast; omega) q
      have e1 := h2 q
      have := Int.mul_le_mul_of_nonneg_left a1 (show 0 ≤ e (N - (k : Int) - 1) by omega)
      omega
    · rw [h3 q]
      omega
theorem m9_no {A G : Int → Int} {m L T v : Int} (hL : 1 ≤ L) (hT : T ≤ 1100) (hR : rwM A m T G 0) (hA : ∀ j : Int, 0 ≤ j ∧ j < 6 → m / 2 ^ j.toNat % 2 = 1 → 1 ≤ A j) (h : m9 G L (T + 1) v) (hv : 99999 ≤ v) : ∀ e, ¬ inS A m L T e := by
  rintro e ⟨hs, h1, h2⟩
  obtain ⟨a, b, c⟩ := h
  have r := (hR (tT A 6 e 6) ⟨by omega, h2⟩).1
  rw [show 1101 * (0 : Int) + tT A 6 e 6 = tT A 6 e 6 by omega] at r
  have x := r.2.1 e hs rfl
  have y := b (tT A 6 e 6) ⟨h1, by omega⟩
  have z := nT_tT (A := A) (N := 6) (k := 6) (fun j hj hb => hA j (by omega) hb) hs
  have x : G (tT A 6 e 6) ≤ nT 6 e 6 := x
  omega
theorem lstM_6 {A : Int → Int} {m L T v : Int} (h : lstM A m 6 L T v) {e : Int → Int} (he : inS A m L T e) : v ≤ nT 6 e 6 := h e he.1 he.2
abbrev lw9 (G : Int → Int) (L t v : Int) : Prop := m9 G L t v
