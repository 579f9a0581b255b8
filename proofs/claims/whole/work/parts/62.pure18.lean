/-! the reference's rows: the fewest ells of exactly the people of a set -/
def nT (N : Int) (e : Int → Int) : Nat → Int
  | 0 => 0
  | k + 1 => nT N e k + e (N - (k : Int) - 1)
def sT (m N : Int) (e : Int → Int) (k : Nat) : Prop := ∀ j : Int, N - k ≤ j ∧ j < N → (bitI m j = 1 → 1 ≤ e j) ∧ (¬ bitI m j = 1 → e j = 0)
section FM
variable {A : Int → Int} {m N : Int}
theorem nT_c {e e' : Int → Int} : ∀ {k : Nat}, (∀ j : Int, N - k ≤ j → e j = e' j) → nT N e k = nT N e' k
  | 0, _ => rfl
  | k + 1, h => by
    show nT N e k + _ = nT N e' k + _
    rw [nT_c (fun j hj => h j (by push_cast; omega)), h (N - (k : Int) - 1) (by push_cast; omega)]
theorem nT_u {e : Int → Int} {k : Nat} {i n : Int} (hi : i < N - k) : nT N (uI e i n) k = nT N e k := nT_c (fun j hj => uI_n _ _ (by omega))
theorem sT_u {e : Int → Int} {k : Nat} {i n : Int} (hi : i < N - k) : sT m N (uI e i n) k ↔ sT m N e k := by
  constructor
  · intro h j hj
    have := h j hj
    rw [uI_n _ _ (by omega)] at this
    exact this
  · intro h j hj
    rw [uI_n _ _ (by omega)]
    exact h j hj
theorem sT_s {e : Int → Int} {k : Nat} {i : Int} (hi : N - (k : Int) - 1 = i) : sT m N e (k + 1) ↔ sT m N e k ∧ (bitI m i = 1 → 1 ≤ e i) ∧ (¬ bitI m i = 1 → e i = 0) := by
  constructor
  · intro h
    exact ⟨fun j hj => h j (by push_cast; omega), h i (by push_cast; omega)⟩
  · rintro ⟨h1, h2⟩ j hj
    by_cases q : j = i
    · rw [q]
      exact h2
    · exact h1 j (by push_cast at hj; omega)
theorem sT_t {e : Int → Int} (hA : ∀ j, 0 ≤ A j) : ∀ {k : Nat}, sT m N e k → 0 ≤ tT A N e k
  | 0, _ => Int.le_refl _
  | k + 1, h => by
    obtain ⟨h1, h2, h3⟩ := (sT_s rfl).mp h
    have a := sT_t hA h1
    have e0 : 0 ≤ e (N - (k : Int) - 1) := by
      by_cases q : bitI m (N - (k : Int) - 1) = 1
      · have := h2 q
        omega
      · have := h3 q
        omega
    have b := Int.mul_nonneg e0 (hA (N - (k : Int) - 1))
    show 0 ≤ tT A N e k + e (N - (k : Int) - 1) * A (N - (k : Int) - 1)
    omega
def fwM (A : Int → Int) (m N : Int) (k : Nat) (t v : Int) : Prop := 0 ≤ v ∧ (∀ e, sT m N e k → tT A N e k = t → v ≤ nT N e k) ∧ (v < 99999 → ∃ e, sT m N e k ∧ tT A N e k = t ∧ nT N e k = v)
theorem fwM_0 {t : Int} : fwM A m N 0 t (if t = 0 then 0 else 99999) := by
  refine ⟨by split <;> omega, fun e _ ht => ?_, fun hv => ?_⟩
  · have ht : 0 = t := ht
    rw [if_pos ht.symm]
    exact Int.le_refl _
  · split at hv
    · next q => exact ⟨fun _ => 0, fun j hj => by omega, q.symm, by rw [if_pos q]; rfl⟩
    · omega
theorem fwM_no {k : Nat} {t v i : Int} (hi : N - (k : Int) - 1 = i) (hb : ¬ bitI m i = 1) (h : fwM A m N k t v) : fwM A m N (k + 1) t v := by
  obtain ⟨h0, h1, h2⟩ := h
  have tS : ∀ f : Int → Int, tT A N f (k + 1) = tT A N f k + f i * A i := fun f => by rw [← hi]; rfl
  have nS : ∀ f : Int → Int, nT N f (k + 1) = nT N f k + f i := fun f => by rw [← hi]; rfl
  refine ⟨h0, fun e hs ht => ?_, fun hv => ?_⟩
  · obtain ⟨s1, -, s3⟩ := (sT_s hi).mp hs
    rw [tS, s3 hb] at ht
    rw [nS, s3 hb]
    have := h1 e s1 (by omega)
    omega
  · obtain ⟨e, s1, s2, s3⟩ := h2 hv
    exact ⟨uI e i 0, (sT_s hi).mpr ⟨(sT_u (by omega)).mpr s1, fun q => absurd q hb, fun _ => uI_s _ _ _⟩, by rw [tS, tT_u (by omega), uI_s]; omega, by rw [nS, nT_u (by omega), uI_s]; omega⟩
theorem fwM_lt {k : Nat} {t i : Int} (hi : N - (k : Int) - 1 = i) (hA : ∀ j, 0 ≤ A j) (hb : bitI m i = 1) (ht : t < A i) : fwM A m N (k + 1) t 99999 := by
  have tS : ∀ f : Int → Int, tT A N f (k + 1) = tT A N f k + f i * A i := fun f => by rw [← hi]; rfl
  refine ⟨by decide, fun e hs h => ?_, fun q => absurd q (by decide)⟩
  exfalso
  obtain ⟨s1, s2, -⟩ := (sT_s hi).mp hs
  rw [tS] at h
  have := sT_t hA s1
  have := Int.mul_le_mul_of_nonneg_right (s2 hb) (hA i)
  omega
theorem fwM_ge {k : Nat} {t i r x : Int} (hi : N - (k : Int) - 1 = i) (hb : bitI m i = 1) (hr : fwM A m N k (t - A i) r) (hx : fwM A m N (k + 1) (t - A i) x) : fwM A m N (k + 1) t ((if r < x then r else x) + 1) := by
  obtain ⟨r0, r1, r2⟩ := hr
  obtain ⟨x0, x1, x2⟩ := hx
  have tS : ∀ f : Int → Int, tT A N f (k + 1) = tT A N f k + f i * A i := fun f => by rw [← hi]; rfl
  have nS : ∀ f : Int → Int, nT N f (k + 1) = nT N f k + f i := fun f => by rw [← hi]; rfl
  refine ⟨by split <;> omega, fun e hs ht => ?_, fun hv => ?_⟩
  · obtain ⟨s1, s2, -⟩ := (sT_s hi).mp hs
    have e1 := s2 hb
    rw [tS] at ht
    rw [nS]
    by_cases q : e i = 1
    · rw [q] at ht ⊢
      have := r1 e s1 (by omega)
      split <;> omega
    · have z := x1 (uI e i (e i - 1)) ((sT_s hi).mpr ⟨(sT_u (by omega)).mpr s1, fun _ => by rw [uI_s]; omega, fun w => absurd hb w⟩) (by rw [tS, tT_u (by omega), uI_s, Int.sub_mul, Int.one_mul]; omega)
      rw [nS, nT_u (by omega), uI_s] at z
      split <;> omega
  · by_cases q : r < x
    · rw [if_pos q] at hv ⊢
      obtain ⟨e, s1, s2, s3⟩ := r2 (by omega)
      exact ⟨uI e i 1, (sT_s hi).mpr ⟨(sT_u (by omega)).mpr s1, fun _ => by rw [uI_s]; exact Int.le_refl _, fun w => absurd hb w⟩, by rw [tS, tT_u (by omega), uI_s]; omega, by rw [nS, nT_u (by omega), uI_s]; omega⟩
    · rw [if_neg q] at hv ⊢
      obtain ⟨e, s1, s2, s3⟩ := x2 (by omega)
      obtain ⟨o1, o2, -⟩ := (sT_s hi).mp s1
      have e1 := o2 hb
      rw [tS] at s2
      rw [nS] at s3
      exact ⟨uI e i (e i + 1), (sT_s hi).mpr ⟨(sT_u (by omega)).mpr o1, fun _ => by rw [uI_s]; omega, fun w => absurd hb w⟩, by rw [tS, tT_u (by omega), uI_s, Int.add_mul, Int.one_mul]; omega, by rw [nS, nT_u (by omega), uI_s]; omega⟩
/-- row i of the table -/
def rwM (A : Int → Int) (m T : Int) (G : Int → Int) (i : Int) : Prop := ∀ t : Int, 0 ≤ t ∧ t ≤ T → fwM A m 6 (6 - i).toNat t (G (1101 * i + t)) ∧ G (1101 * i + t) ≤ 99999 + (6 - i)
end FM
