theorem mn1_ge0 {A H B : Int → Int} {el N : Int} {k : Nat} {t v : Int} (hH : ∀ j, 0 ≤ H j) (hl : 0 ≤ el) (h : mn1 A H B el N k t v) : 0 ≤ v := by
  by_cases q : v < 1000000000
  · obtain ⟨e, o1, -, o2, o3⟩ := h.2.2 q
    rw [← o3]
    exact wT_0 hH hl o1
  · omega
theorem fl_ge {A H B : Int → Int} {el N : Int} {k : Nat} {i m h t r x : Int} (hi : N - (k : Int) - 1 = i) (hm : m = A i) (hh : h = H i) (hb : ¬ B i = 1) (hH : ∀ j, 0 ≤ H j) (hl : 0 ≤ el) (hr : mnT A H B el N k (t - m) r) (hx : mn1 A H B el N k (t - m) x) : mn1 A H B el N k t (min 1000000000 (min (r + h) x + el)) := by
  subst hi
  subst hm
  subst hh
  exact mn1_ge hb (hH _) hl hr hx
theorem fl_lt {A H B : Int → Int} {el N : Int} {k : Nat} {i m t : Int} (hi : N - (k : Int) - 1 = i) (hm : m = A i) (hA : ∀ j, 0 ≤ A j) (h : t < m) : mn1 A H B el N k t 1000000000 := by
  subst hi
  subst hm
  exact mn1_lt hA h
def allT (P : Int → Int → Prop) (G : Int → Int) (t : Int) : Prop := ∀ s : Int, 0 ≤ s ∧ s < t → P s (G s)
theorem allT_s {P : Int → Int → Prop} {G : Int → Int} {t v : Int} (h : allT P G t) (hv : P t v) : allT P (uI G t v) (t + 1) := by
  intro s hs
  by_cases q : s = t
  · rw [q, uI_s]
    exact hv
  · rw [uI_n _ _ q]
    exact h s (by omega)
/-- how few ells of one's own go with the others' row -/
def fwP (R : Int → Int) (m w el lo hi n : Int) : Prop := (n ≤ 1097 ∧ n * m ≤ min hi (lo + m - 1)) ∧ ∃ s : Int, (0 ≤ s ∧ lo - n * m ≤ s ∧ s ≤ min hi (lo + m - 1) - n * m ∧ s ≤ 1097) ∧ R s = w - n * el
def fwR (R : Int → Int) (m w el lo hi r : Int) : Prop := (∀ n : Int, 1 ≤ n ∧ (r = 0 ∨ n < r) → ¬ fwP R m w el lo hi n) ∧ (r = 0 ∨ (1 ≤ r ∧ fwP R m w el lo hi r))
theorem fw_mono {m : Int} (hm : 1 ≤ m) {n n' x : Int} (hn : n ≤ n') (h : ¬ n * m ≤ x) : ¬ n' * m ≤ x := by
  have := Int.mul_le_mul_of_nonneg_right hn (show 0 ≤ m by omega)
  omega
theorem fw_end {R : Int → Int} {m w el lo hi n : Int} (hm : 1 ≤ m) (h : ∀ z : Int, 1 ≤ z ∧ z < n → ¬ fwP R m w el lo hi z) (he : 1097 < n ∨ min hi (lo + m - 1) < n * m) : fwR R m w el lo hi 0 := by
  refine ⟨fun z hz hP => ?_, Or.inl rfl⟩
  by_cases q : z < n
  · exact h z ⟨hz.1, q⟩ hP
  · obtain ⟨⟨p1, p2⟩, -⟩ := hP
    rcases he with he | he
    · omega
    · exact fw_mono hm (show n ≤ z by omega) (by omega) p2
theorem fw_hit {R : Int → Int} {m w el lo hi n s : Int} (hn : 1 ≤ n) (h : ∀ z : Int, 1 ≤ z ∧ z < n → ¬ fwP R m w el lo hi z) (h1 : n ≤ 1097) (h2 : n * m ≤ min hi (lo + m - 1)) (hs : 0 ≤ s ∧ lo - n * m ≤ s ∧ s ≤ min hi (lo + m - 1) - n * m ∧ s ≤ 1097) (e : R s = w - n * el) : fwR R m w el lo hi n :=
  ⟨fun z hz => h z ⟨hz.1, by omega⟩, Or.inr ⟨hn, ⟨h1, h2⟩, s, hs, e⟩⟩
theorem fw_miss {R : Int → Int} {m w el lo hi n x : Int} (h : ∀ z : Int, 1 ≤ z ∧ z < n → ¬ fwP R m w el lo hi z) (hx : min (min hi (lo + m - 1) - n * m) 1097 < x) (hs : ∀ s : Int, max 0 (lo - n * m) ≤ s ∧ s < x → ¬ R s = w - n * el) : ∀ z : Int, 1 ≤ z ∧ z < n + 1 → ¬ fwP R m w el lo hi z := by
  intro z hz hP
  by_cases q : z < n
  · exact h z ⟨hz.1, q⟩ hP
  · have e : z = n := by omega
    subst e
    obtain ⟨-, s, ⟨q1, q2, q3, q4⟩, q5⟩ := hP
    exact hs s (by omega) q5
