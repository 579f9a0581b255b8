theorem wT_le {A H B : Int → Int} {el N : Int} {e : Int → Int} (hH : ∀ j, 0 ≤ H j ∧ H j ≤ 6400) (hl : 0 ≤ el) : ∀ {k : Nat}, (∀ j : Int, N - k ≤ j ∧ j < N → 1 ≤ A j) → oT B N e k → wT H el N e k ≤ tT A N e k * el + 6400 * k
  | 0, _, _ => by show (0 : Int) ≤ 0 * el + 6400 * 0; omega
  | k + 1, hA, h => by
    have ih := wT_le hH hl (k := k) (fun j hj => hA j (by push_cast; omega)) h.1
    have a1 := hA (N - (k : Int) - 1) (by push_cast; omega)
    have hh := hH (N - (k : Int) - 1)
    have e0 := h.2.1
    have m1 : e (N - (k : Int) - 1) ≤ e (N - (k : Int) - 1) * A (N - (k : Int) - 1) := by
      have := Int.mul_le_mul_of_nonneg_left a1 e0
      omega
    have m2 := Int.mul_le_mul_of_nonneg_right m1 hl
    have m3 := Int.mul_nonneg e0 hl
    show wT H el N e k + (if 1 ≤ e (N - (k : Int) - 1) then H (N - (k : Int) - 1) + e (N - (k : Int) - 1) * el else 0) ≤ (tT A N e k + e (N - (k : Int) - 1) * A (N - (k : Int) - 1)) * el + 6400 * ((k + 1 : Nat) : Int)
    rw [Int.add_mul]
    push_cast
    split <;> omega
section SM
variable {A B F : Int → Int} {p N L T W : Int}
theorem w_small {e : Int → Int} (hF : bd F 0 99) (hp : 0 ≤ p ∧ p ≤ 99) (hN : 0 ≤ N ∧ N ≤ 6) (hA : ∀ j : Int, 0 ≤ j ∧ j < N → 1 ≤ A j) (ho : oT B N e N.toNat) (ht : tT A N e N.toNat ≤ 1100) : wT (hrI F) (p * 64) N e N.toNat < 7100000 := by
  have h := wT_le (A := A) (el := p * 64) (hrI_b hF) (by omega) (k := N.toNat) (fun j hj => hA j (by omega)) ho
  have m := Int.mul_le_mul ht (show p * 64 ≤ 6336 by omega) (show 0 ≤ p * 64 by omega) (by decide)
  omega
theorem rk_sem {R : Nat → Int → Int} (hF : bd F 0 99) (hp : 0 ≤ p ∧ p ≤ 99) (hN : 0 ≤ N ∧ N ≤ 6) (hA0 : ∀ j, 0 ≤ A j) (hA : ∀ j : Int, 0 ≤ j ∧ j < N → 1 ≤ A j) (hT : 0 ≤ T ∧ T ≤ 1097) (hL : 1 ≤ L) (h : rkP A F B (p * 64) N T L R W) :
    (W < 1000000000 → lst A (hrI F) B (p * 64) N L T W ∧ ∃ e, opt A (hrI F) B (p * 64) N L T W e) ∧ (¬ W < 1000000000 → ∀ e, oT B N e N.toNat → ¬ (L ≤ tT A N e N.toNat ∧ tT A N e N.toNat ≤ T)) := by
  obtain ⟨h1, h2, h3⟩ := h
  have r0 : rwT A (hrI F) B (p * 64) N N.toNat T (R 0) := by
    have := h1 0 hN.1
    rw [show (N - ((0 : Nat) : Int)).toNat = N.toNat by omega] at this
    exact this
  by_cases q : L ≤ T + 1
  · obtain ⟨k1, k2, k3⟩ := h2 q
    refine ⟨fun hW => ⟨fun e ho ht => ?_, ?_⟩, fun hW e ho ht => ?_⟩
    · have a := (r0 (tT A N e N.toNat) ⟨by omega, ht.2⟩).2.1 e ho rfl
      have b := k2 (tT A N e N.toNat) ⟨ht.1, by omega⟩
      omega
    · obtain ⟨t, ht, e⟩ := k3 hW
      obtain ⟨f, f1, f2, f3⟩ := (r0 t ⟨by omega, by omega⟩).2.2 (by omega)
      exact ⟨f, f1, ⟨by omega, by omega⟩, by omega⟩
    · have a := (r0 (tT A N e N.toNat) ⟨by omega, ht.2⟩).2.1 e ho rfl
      have b := k2 (tT A N e N.toNat) ⟨ht.1, by omega⟩
      have c := w_small hF hp hN hA ho (show tT A N e N.toNat ≤ 1100 by omega)
      omega
  · have hW := h3 (by omega)
    exact ⟨fun z => by omega, fun z e ho ht => by omega⟩
/-- the answers -/
def chA (A F B : Int → Int) (p N L T a : Int) : Prop := (a = -9 ∧ ∀ e, oT B N e N.toNat → ¬ (L ≤ tT A N e N.toNat ∧ tT A N e N.toNat ≤ T)) ∨ ∃ W : Int, 0 ≤ W ∧ lst A (hrI F) B (p * 64) N L T W ∧ (∃ e, opt A (hrI F) B (p * 64) N L T W e) ∧ a = W / 64
def chB (A F B : Int → Int) (p N L T x a : Int) : Prop := (a = -9 ∧ ∀ e, oT B N e N.toNat → ¬ (L ≤ tT A N e N.toNat ∧ tT A N e N.toNat ≤ T)) ∨ ∃ W : Int, ∃ E : Int → Int, lst A (hrI F) B (p * 64) N L T W ∧ lxO A (hrI F) B (p * 64) N L T W E ∧ a = E x
end SM
