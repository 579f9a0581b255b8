/-! a want: who buys how many ells. The people from N - k on, by recursion on k -/
def tT (A : Int → Int) (N : Int) (e : Int → Int) : Nat → Int
  | 0 => 0
  | k + 1 => tT A N e k + e (N - (k : Int) - 1) * A (N - (k : Int) - 1)
def wT (H : Int → Int) (el N : Int) (e : Int → Int) : Nat → Int
  | 0 => 0
  | k + 1 => wT H el N e k + (if 1 ≤ e (N - (k : Int) - 1) then H (N - (k : Int) - 1) + e (N - (k : Int) - 1) * el else 0)
def oT (B : Int → Int) (N : Int) (e : Int → Int) : Nat → Prop
  | 0 => True
  | k + 1 => oT B N e k ∧ 0 ≤ e (N - (k : Int) - 1) ∧ (1 ≤ e (N - (k : Int) - 1) → ¬ B (N - (k : Int) - 1) = 1)
section WT
variable {A H B : Int → Int} {el N : Int}
theorem tT_c {e e' : Int → Int} : ∀ {k : Nat}, (∀ j : Int, N - k ≤ j → e j = e' j) → tT A N e k = tT A N e' k
  | 0, _ => rfl
  | k + 1, h => by
    show tT A N e k + _ = tT A N e' k + _
    rw [tT_c (fun j hj => h j (by push_cast; omega)), h (N - (k : Int) - 1) (by push_cast; omega)]
theorem wT_c {e e' : Int → Int} : ∀ {k : Nat}, (∀ j : Int, N - k ≤ j → e j = e' j) → wT H el N e k = wT H el N e' k
  | 0, _ => rfl
  | k + 1, h => by
    show wT H el N e k + _ = wT H el N e' k + _
    rw [wT_c (fun j hj => h j (by push_cast; omega)), h (N - (k : Int) - 1) (by push_cast; omega)]
theorem oT_c {e e' : Int → Int} : ∀ {k : Nat}, (∀ j : Int, N - k ≤ j → e j = e' j) → (oT B N e k ↔ oT B N e' k)
  | 0, _ => Iff.rfl
  | k + 1, h => by
    show (oT B N e k ∧ _) ↔ (oT B N e' k ∧ _)
    rw [oT_c (fun j hj => h j (by push_cast; omega)), h (N - (k : Int) - 1) (by push_cast; omega)]
theorem tT_u {e : Int → Int} {k : Nat} {i n : Int} (hi : i < N - k) : tT A N (uI e i n) k = tT A N e k := tT_c (fun j hj => uI_n _ _ (by omega))
theorem wT_u {e : Int → Int} {k : Nat} {i n : Int} (hi : i < N - k) : wT H el N (uI e i n) k = wT H el N e k := wT_c (fun j hj => uI_n _ _ (by omega))
theorem oT_u {e : Int → Int} {k : Nat} {i n : Int} (hi : i < N - k) : oT B N (uI e i n) k ↔ oT B N e k := oT_c (fun j hj => uI_n _ _ (by omega))
theorem tT_0 {e : Int → Int} (hA : ∀ j, 0 ≤ A j) : ∀ {k : Nat}, oT B N e k → 0 ≤ tT A N e k
  | 0, _ => Int.le_refl _
  | k + 1, h => by
    show 0 ≤ tT A N e k + _
    have h1 := tT_0 hA h.1
    have h2 := Int.mul_nonneg h.2.1 (hA (N - (k : Int) - 1))
    omega
theorem wT_0 {e : Int → Int} (hH : ∀ j, 0 ≤ H j) (hl : 0 ≤ el) : ∀ {k : Nat}, oT B N e k → 0 ≤ wT H el N e k
  | 0, _ => Int.le_refl _
  | k + 1, h => by
    show 0 ≤ wT H el N e k + _
    have h1 := wT_0 hH hl h.1
    have h2 := Int.mul_nonneg h.2.1 hl
    have h3 := hH (N - (k : Int) - 1)
    split <;> omega
/-- v is the least weight by which the people from N - k on get t parts: or 1000000000 -/
def mnT (A H B : Int → Int) (el N : Int) (k : Nat) (t v : Int) : Prop := v ≤ 1000000000 ∧ (∀ e, oT B N e k → tT A N e k = t → v ≤ wT H el N e k) ∧ (v < 1000000000 → ∃ e, oT B N e k ∧ tT A N e k = t ∧ wT H el N e k = v)
/-- the same, where N - k - 1 buys -/
def mn1 (A H B : Int → Int) (el N : Int) (k : Nat) (t v : Int) : Prop := v ≤ 1000000000 ∧ (∀ e, oT B N e (k + 1) → 1 ≤ e (N - (k : Int) - 1) → tT A N e (k + 1) = t → v ≤ wT H el N e (k + 1)) ∧ (v < 1000000000 → ∃ e, oT B N e (k + 1) ∧ 1 ≤ e (N - (k : Int) - 1) ∧ tT A N e (k + 1) = t ∧ wT H el N e (k + 1) = v)
theorem mnT_0 {t : Int} : mnT A H B el N 0 t (if t = 0 then 0 else 1000000000) := by
  refine ⟨by split <;> omega, fun e _ ht => ?_, fun hv => ?_⟩
  · have ht : 0 = t := ht
    rw [if_pos ht.symm]
    exact Int.le_refl _
  · split at hv
    · next q => exact ⟨fun _ => 0, trivial, q.symm, by rw [if_pos q]; rfl⟩
    · omega
theorem mn1_lt {k : Nat} {t : Int} (hA : ∀ j, 0 ≤ A j) (h : t < A (N - (k : Int) - 1)) : mn1 A H B el N k t 1000000000 := by
  refine ⟨Int.le_refl _, fun e ho h1 ht => ?_, fun q => absurd q (by decide)⟩
  exfalso
  have h2 := tT_0 hA ho.1
  have ht : tT A N e k + e (N - (k : Int) - 1) * A (N - (k : Int) - 1) = t := ht
  have h3 : 1 * A (N - (k : Int) - 1) ≤ e (N - (k : Int) - 1) * A (N - (k : Int) - 1) := Int.mul_le_mul_of_nonneg_right h1 (hA _)
  omega
theorem mn1_ge {k : Nat} {t r x : Int} (hb : ¬ B (N - (k : Int) - 1) = 1) (hH : 0 ≤ H (N - (k : Int) - 1)) (hl : 0 ≤ el) (hr : mnT A H B el N k (t - A (N - (k : Int) - 1)) r) (hx : mn1 A H B el N k (t - A (N - (k : Int) - 1)) x) : mn1 A H B el N k t (min 1000000000 (min (r + H (N - (k : Int) - 1)) x + el)) := by
  obtain ⟨r0, r1, r2⟩ := hr
  obtain ⟨x0, x1, x2⟩ := hx
  obtain ⟨i, hi⟩ : ∃ i : Int, N - (k : Int) - 1 = i := ⟨_, rfl⟩
  unfold mn1
  rw [hi] at hb hH r1 r2 x1 x2 ⊢
  have wS : ∀ f : Int → Int, wT H el N f (k + 1) = wT H el N f k + (if 1 ≤ f i then H i + f i * el else 0) := fun f => by rw [← hi]; rfl
  have tS : ∀ f : Int → Int, tT A N f (k + 1) = tT A N f k + f i * A i := fun f => by rw [← hi]; rfl
  have oS : ∀ f : Int → Int, oT B N f (k + 1) ↔ oT B N f k ∧ 0 ≤ f i ∧ (1 ≤ f i → ¬ B i = 1) := fun f => by rw [← hi]; exact Iff.rfl
  refine ⟨Int.min_le_left _ _, fun e ho h1 ht => ?_, fun hv => ?_⟩
  · obtain ⟨o1, o2, o3⟩ := (oS e).mp ho
    rw [tS] at ht
    rw [wS, if_pos h1]
    by_cases h2 : e i = 1
    · rw [h2] at ht ⊢
      have := r1 e o1 (by omega)
      omega
    · have q := x1 (uI e i (e i - 1)) ((oS _).mpr ⟨(oT_u (by omega)).mpr o1, by rw [uI_s]; omega, fun _ => hb⟩) (by rw [uI_s]; omega) (by rw [tS, tT_u (by omega), uI_s, Int.sub_mul, Int.one_mul]; omega)
      rw [wS, wT_u (by omega), uI_s, if_pos (by omega), Int.sub_mul, Int.one_mul] at q
      omega
  · by_cases h2 : r + H i ≤ x
    · obtain ⟨e, o1, o2, o3⟩ := r2 (by omega)
      refine ⟨uI e i 1, (oS _).mpr ⟨(oT_u (by omega)).mpr o1, by rw [uI_s]; decide, fun _ => hb⟩, by rw [uI_s]; exact Int.le_refl _, by rw [tS, tT_u (by omega), uI_s]; omega, ?_⟩
      rw [wS, wT_u (by omega), uI_s, if_pos (Int.le_refl _)]
      omega
    · obtain ⟨e, o1, h1, o2, o3⟩ := x2 (by omega)
      obtain ⟨o4, o5, o6⟩ := (oS e).mp o1
      rw [tS] at o2
      rw [wS, if_pos h1] at o3
      refine ⟨uI e i (e i + 1), (oS _).mpr ⟨(oT_u (by omega)).mpr o4, by rw [uI_s]; omega, fun _ => hb⟩, by rw [uI_s]; omega, by rw [tS, tT_u (by omega), uI_s, Int.add_mul, Int.one_mul]; omega, ?_⟩
      rw [wS, wT_u (by omega), uI_s, if_pos (by omega), Int.add_mul, Int.one_mul]
      omega
theorem mnT_step {k : Nat} {t r x : Int} (hr : mnT A H B el N k t r) (hx : mn1 A H B el N k t x) : mnT A H B el N (k + 1) t (min r x) := by
  obtain ⟨r0, r1, r2⟩ := hr
  obtain ⟨x0, x1, x2⟩ := hx
  obtain ⟨i, hi⟩ : ∃ i : Int, N - (k : Int) - 1 = i := ⟨_, rfl⟩
  rw [hi] at x1 x2
  have wS : ∀ f : Int → Int, wT H el N f (k + 1) = wT H el N f k + (if 1 ≤ f i then H i + f i * el else 0) := fun f => by rw [← hi]; rfl
  have tS : ∀ f : Int → Int, tT A N f (k + 1) = tT A N f k + f i * A i := fun f => by rw [← hi]; rfl
  have oS : ∀ f : Int → Int, oT B N f (k + 1) ↔ oT B N f k ∧ 0 ≤ f i ∧ (1 ≤ f i → ¬ B i = 1) := fun f => by rw [← hi]; exact Iff.rfl
  refine ⟨by omega, fun e ho ht => ?_, fun hv => ?_⟩
  · by_cases h1 : 1 ≤ e i
    · have := x1 e ho h1 ht
      omega
    · obtain ⟨o1, o2, o3⟩ := (oS e).mp ho
      rw [tS, show e i = 0 by omega] at ht
      have := r1 e o1 (by omega)
      rw [wS, if_neg h1]
      omega
  · by_cases h2 : r ≤ x
    · obtain ⟨e, o1, o2, o3⟩ := r2 (by omega)
      refine ⟨uI e i 0, (oS _).mpr ⟨(oT_u (by omega)).mpr o1, by rw [uI_s]; decide, fun q => by rw [uI_s] at q; omega⟩, by rw [tS, tT_u (by omega), uI_s]; omega, ?_⟩
      rw [wS, wT_u (by omega), uI_s, if_neg (by decide)]
      omega
    · obtain ⟨e, o1, h1, o2, o3⟩ := x2 (by omega)
      exact ⟨e, o1, o2, by omega⟩
theorem mnT_bar {k : Nat} {t r : Int} (hb : B (N - (k : Int) - 1) = 1) (hr : mnT A H B el N k t r) : mnT A H B el N (k + 1) t r := by
  obtain ⟨r0, r1, r2⟩ := hr
  obtain ⟨i, hi⟩ : ∃ i : Int, N - (k : Int) - 1 = i := ⟨_, rfl⟩
  rw [hi] at hb
  have wS : ∀ f : Int → Int, wT H el N f (k + 1) = wT H el N f k + (if 1 ≤ f i then H i + f i * el else 0) := fun f => by rw [← hi]; rfl
  have tS : ∀ f : Int → Int, tT A N f (k + 1) = tT A N f k + f i * A i := fun f => by rw [← hi]; rfl
  have oS : ∀ f : Int → Int, oT B N f (k + 1) ↔ oT B N f k ∧ 0 ≤ f i ∧ (1 ≤ f i → ¬ B i = 1) := fun f => by rw [← hi]; exact Iff.rfl
  refine ⟨r0, fun e ho ht => ?_, fun hv => ?_⟩
  · obtain ⟨o1, o2, o3⟩ := (oS e).mp ho
    have h1 : ¬ 1 ≤ e i := fun q => o3 q hb
    rw [tS, show e i = 0 by omega] at ht
    have := r1 e o1 (by omega)
    rw [wS, if_neg h1]
    omega
  · obtain ⟨e, o1, o2, o3⟩ := r2 hv
    refine ⟨uI e i 0, (oS _).mpr ⟨(oT_u (by omega)).mpr o1, by rw [uI_s]; decide, fun q => by rw [uI_s] at q; omega⟩, by rw [tS, tT_u (by omega), uI_s]; omega, ?_⟩
    rw [wS, wT_u (by omega), uI_s, if_neg (by decide)]
    omega
/-- a row of them up to T -/
def rwT (A H B : Int → Int) (el N : Int) (k : Nat) (T : Int) (R : Int → Int) : Prop := ∀ t : Int, 0 ≤ t ∧ t ≤ T → mnT A H B el N k t (R t)
theorem mnT_ge0 {k : Nat} {t v : Int} (hH : ∀ j, 0 ≤ H j) (hl : 0 ≤ el) (h : mnT A H B el N k t v) : 0 ≤ v := by
  by_cases q : v < 1000000000
  · obtain ⟨e, o1, o2, o3⟩ := h.2.2 q
    rw [← o3]
    exact wT_0 hH hl o1
  · omega
end WT
