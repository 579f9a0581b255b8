/-! the fewest ells of a set over the totals from L on -/
def m9 (G : Int → Int) (L t v : Int) : Prop := (0 ≤ v ∧ v ≤ 99999) ∧ (∀ s : Int, L ≤ s ∧ s < t → v ≤ G s) ∧ (v < 99999 → ∃ s : Int, (L ≤ s ∧ s < t) ∧ G s = v)
theorem m9_0 {G : Int → Int} {L : Int} : m9 G L L 99999 := ⟨by decide, fun s hs => by omega, fun q => absurd q (by decide)⟩
theorem m9_s {G : Int → Int} {L t v v' : Int} (h : m9 G L t v) (hb : 0 ≤ G t) (hL : L ≤ t) (hv : v' = if G t < v then G t else v) : m9 G L (t + 1) v' := by
  obtain ⟨a, b, c⟩ := h
  subst hv
  by_cases z : G t < v
  · rw [if_pos z]
    refine ⟨by omega, fun s hs => ?_, fun _ => ⟨t, by omega, rfl⟩⟩
    by_cases q : s = t
    · rw [q]
      exact Int.le_refl _
    · have := b s (by omega)
      omega
  · rw [if_neg z]
    refine ⟨a, fun s hs => ?_, fun q => ?_⟩
    · by_cases q : s = t
      · rw [q]
        omega
      · exact b s (by omega)
    · obtain ⟨s, hs, e⟩ := c q
      exact ⟨s, by omega, e⟩
theorem m9_sem {A G : Int → Int} {m L T v : Int} (hL : 1 ≤ L) (hR : rwM A m T G 0) (h : m9 G L (T + 1) v) : (v < 99999 → lstM A m 6 L T v ∧ ∃ e, optM A m 6 L T v e) := by
  intro hv
  obtain ⟨a, b, c⟩ := h
  have row : ∀ t : Int, 0 ≤ t ∧ t ≤ T → fwM A m 6 6 t (G t) := fun t ht => by
    have := (hR t ht).1
    rw [show 1101 * (0 : Int) + t = t by omega] at this
    exact this
  refine ⟨fun e hs ht => ?_, ?_⟩
  · have x := (row (tT A 6 e 6) ⟨by have := ht.1; show 0 ≤ tT A 6 e (6 : Int).toNat; omega, ht.2⟩).2.1 e hs rfl
    have y := b (tT A 6 e 6) ⟨ht.1, by have := ht.2; show tT A 6 e (6 : Int).toNat < T + 1; omega⟩
    exact Int.le_trans y x
  · obtain ⟨s, hs, e⟩ := c hv
    obtain ⟨f, f1, f2, f3⟩ := (row s ⟨by omega, by omega⟩).2.2 (by omega)
    exact ⟨f, f1, by show L ≤ tT A 6 f 6 ∧ tT A 6 f 6 ≤ T; omega, by show nT 6 f 6 = v; omega⟩
