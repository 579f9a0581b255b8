/-! over the sets, from the least on -/
def feS (F : Int → Int) (m N : Int) : Int := sZ (fun j => if bitI m j = 1 then F j else 0) N
def okS (Q : Int → Int) (m N : Int) : Prop := ∀ j : Int, 0 ≤ j ∧ j < N → bitI m j = 1 → Q j = 0
def inS (A : Int → Int) (m L T : Int) (e : Int → Int) : Prop := sT m 6 e 6 ∧ L ≤ tT A 6 e 6 ∧ tT A 6 e 6 ≤ T
def lxM (A : Int → Int) (m L T v : Int) (E : Int → Int) : Prop := (∃ e, optM A m 6 L T v e ∧ agr e E 6) ∧ ∀ x : Int, 0 ≤ x ∧ x < 6 → ∀ e, optM A m 6 L T v e → agr e E x → E x ≤ e x
def fcI (A F Q : Int → Int) (p N L T m b : Int) (E : Int → Int) : Prop :=
  (b = -9 ∧ ∀ z : Int, 1 ≤ z ∧ z < m → okS Q z N → ∀ e, ¬ inS A z L T e) ∨
  (0 ≤ b ∧ ∃ m0 v : Int, (1 ≤ m0 ∧ m0 < m) ∧ okS Q m0 N ∧ lstM A m0 6 L T v ∧ lxM A m0 L T v E ∧ b = feS F m0 N + p * v ∧ ∀ z : Int, 1 ≤ z ∧ z < m → okS Q z N → ∀ e, inS A z L T e → b ≤ feS F z N + p * nT 6 e 6 ∧ (z < m0 → b < feS F z N + p * nT 6 e 6))
section FC
variable {A F Q E : Int → Int} {p N L T m b : Int}
theorem fc_1 : fcI A F Q p N L T 1 (-9) E := Or.inl ⟨rfl, fun z hz => by omega⟩
theorem fc_skip (h : fcI A F Q p N L T m b E) (hn : okS Q m N → ∀ e, ¬ inS A m L T e) : fcI A F Q p N L T (m + 1) b E := by
  rcases h with ⟨h1, h2⟩ | ⟨h1, m0, v, h2, h3, h4, h5, h6, h7⟩
  · refine Or.inl ⟨h1, fun z hz ho => ?_⟩
    by_cases q : z = m
    · rw [q] at ho ⊢
      exact hn ho
    · exact h2 z (by omega) ho
  · refine Or.inr ⟨h1, m0, v, by omega, h3, h4, h5, h6, fun z hz ho e he => ?_⟩
    by_cases q : z = m
    · rw [q] at ho he
      exact absurd he (hn ho e)
    · exact h7 z (by omega) ho e he
theorem fc_dear {v : Int} (hp : 0 ≤ p) (h : fcI A F Q p N L T m b E) (hb : ¬ b = -9) (hl : lstM A m 6 L T v) (hc : b ≤ feS F m N + p * v) : fcI A F Q p N L T (m + 1) b E := by
  rcases h with ⟨h1, h2⟩ | ⟨h1, m0, w, h2, h3, h4, h5, h6, h7⟩
  · exact absurd h1 hb
  · refine Or.inr ⟨h1, m0, w, by omega, h3, h4, h5, h6, fun z hz ho e he => ?_⟩
    by_cases q : z = m
    · rw [q] at he ⊢
      have a : v ≤ nT 6 e 6 := hl e he.1 he.2
      have := Int.mul_le_mul_of_nonneg_left a hp
      exact ⟨by omega, fun w => by omega⟩
    · exact h7 z (by omega) ho e he
theorem fc_new {v c : Int} {E' : Int → Int} (hp : 0 ≤ p) (h : fcI A F Q p N L T m b E) (hm : 1 ≤ m) (ho : okS Q m N) (hl : lstM A m 6 L T v) (hx : lxM A m L T v E') (hc : c = feS F m N + p * v) (h0 : 0 ≤ c) (hb : b = -9 ∨ c < b) : fcI A F Q p N L T (m + 1) c E' := by
  refine Or.inr ⟨h0, m, v, by omega, ho, hl, hx, hc, fun z hz hoz e he => ?_⟩
  by_cases q : z = m
  · rw [q] at he ⊢
    have a : v ≤ nT 6 e 6 := hl e he.1 he.2
    have := Int.mul_le_mul_of_nonneg_left a hp
    exact ⟨by omega, fun w => by omega⟩
  · rcases h with ⟨h1, h2⟩ | ⟨h1, m0, w, h2, h3, h4, h5, h6, h7⟩
    · exact absurd he (h2 z (by omega) hoz e)
    · have := (h7 z (by omega) hoz e he).1
      exact ⟨by omega, fun _ => by omega⟩
end FC
