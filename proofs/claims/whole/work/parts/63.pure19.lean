section RM
variable {A : Int → Int} {m T i : Int} {G : Int → Int}
theorem rwM_u {j t v : Int} (h : rwM A m T G j) (hj : i < j) (hT : T ≤ 1100) (ht : 0 ≤ t ∧ t ≤ 1100) : rwM A m T (uI G (1101 * i + t) v) j := by
  intro s hs
  rw [uI_n _ _ (by omega)]
  exact h s hs
def clM (A : Int → Int) (m : Int) (G : Int → Int) (i t : Int) : Prop := ∀ s : Int, 0 ≤ s ∧ s < t → fwM A m 6 (6 - i).toNat s (G (1101 * i + s)) ∧ G (1101 * i + s) ≤ 99999 + (6 - i)
theorem clM_s {t v : Int} (h : clM A m G i t) (hv : fwM A m 6 (6 - i).toNat t v ∧ v ≤ 99999 + (6 - i)) : clM A m (uI G (1101 * i + t) v) i (t + 1) := by
  intro s hs
  by_cases q : s = t
  · rw [q, uI_s]
    exact hv
  · rw [uI_n _ _ (by omega)]
    exact h s (by omega)
theorem cl_no {t x : Int} (hi : 0 ≤ i ∧ i < 6) (h : rwM A m T G (i + 1)) (ht : 0 ≤ t ∧ t ≤ T) (hb : ¬ m / 2 ^ i.toNat % 2 = 1) (hx : x = 1101 * (i + 1) + t) : fwM A m 6 (6 - i).toNat t (G x) ∧ G x ≤ 99999 + (6 - i) := by
  obtain ⟨h1, h2⟩ := h t ht
  rw [hx, show (6 - i).toNat = (6 - (i + 1)).toNat + 1 by omega]
  exact ⟨fwM_no (by omega) hb h1, by omega⟩
theorem cl_lt {t : Int} (hi : 0 ≤ i ∧ i < 6) (hA : ∀ j, 0 ≤ A j) (hb : m / 2 ^ i.toNat % 2 = 1) (ht : t < A i) : fwM A m 6 (6 - i).toNat t 99999 ∧ (99999 : Int) ≤ 99999 + (6 - i) := by
  rw [show (6 - i).toNat = (6 - (i + 1)).toNat + 1 by omega]
  exact ⟨fwM_lt (by omega) hA hb ht, by omega⟩
theorem cl_ge {t x y v : Int} (hi : 0 ≤ i ∧ i < 6) (h : rwM A m T G (i + 1)) (hc : clM A m G i t) (ha : 1 ≤ A i) (ht : A i ≤ t ∧ t ≤ T) (hb : m / 2 ^ i.toNat % 2 = 1) (hx : x = 1101 * (i + 1) + (t - A i)) (hy : y = 1101 * i + (t - A i)) (hv : v = (if G x < G y then G x else G y) + 1) : fwM A m 6 (6 - i).toNat t v ∧ v ≤ 99999 + (6 - i) := by
  obtain ⟨h1, h2⟩ := h (t - A i) (by omega)
  obtain ⟨c1, c2⟩ := hc (t - A i) (by omega)
  rw [← hx] at h1 h2
  rw [← hy] at c1 c2
  rw [show (6 - i).toNat = (6 - (i + 1)).toNat + 1 by omega] at c1 ⊢
  refine ⟨by rw [hv]; exact fwM_ge (by omega) hb h1 c1, ?_⟩
  rw [hv]
  split <;> omega
theorem rwM_6 (h : ∀ s : Int, 0 ≤ s ∧ s ≤ T → G (6606 + s) = if s = 0 then 0 else 99999) : rwM A m T G 6 := by
  intro t ht
  rw [show 1101 * (6 : Int) + t = 6606 + t by omega, h t ht]
  exact ⟨fwM_0, by split <;> omega⟩
end RM
theorem cn_0 {t : Int} {P Q : Prop} (h : (t = 1 ∧ P) ∨ (t = 0 ∧ Q)) (h0 : t = 0) : Q := by
  rcases h with h | h
  · omega
  · exact h.2
