def stI (s : RS) (n U W : Int) (E : Int → Int) : Prop := n = s.1 ∧ U = s.2.1 ∧ W = s.2.2.1 ∧ (s.1 = 0 ∨ (E 0 = s.2.2.2.1 ∧ E 1 = s.2.2.2.2.1 ∧ (s.1 = 2 ∨ E 2 = s.2.2.2.2.2)))
def rgN (T F g p : Int → Int) (m : Nat) (n : Int) : RS := if n = 2 then (0, 0, 1, 0, 0, 0) else if n = 3 then rg2 T F g p m (0, 0, 1, 0, 0, 0) else rgB T F g p m
theorem rg2_rows {T F g p : Int → Int} {M : Int} (h : 0 ≤ M) (s : RS) : foldI (fun r s => st2 T F g p (r / M) (r % M) s) (M * M).toNat s = rg2 T F g p M.toNat s := by
  have e : (M * M).toNat = M.toNat * M.toNat := Int.toNat_mul h h
  have e2 : ((M.toNat : Nat) : Int) = M := Int.toNat_of_nonneg h
  have h3 := foldI_mul (fun i j s => st2 T F g p i j s) M.toNat s M.toNat
  rw [e2] at h3
  rw [e]
  exact h3
theorem rg3_rows {T F g p : Int → Int} {M : Int} (h : 0 ≤ M) (s : RS) : foldI (fun r s => st3 T F g p (r / M / M) (r / M % M) (r % M) s) (M * M * M).toNat s = rg3 T F g p M.toNat s := by
  have e : (M * M * M).toNat = M.toNat * M.toNat * M.toNat := by rw [Int.toNat_mul (Int.mul_nonneg h h) h, Int.toNat_mul h h]
  have e2 : ((M.toNat : Nat) : Int) = M := Int.toNat_of_nonneg h
  have h3 := foldI_mul (fun i j s => st3 T F g p (i / M) (i % M) j s) M.toNat s (M.toNat * M.toNat)
  rw [e2] at h3
  rw [e, h3]
  have h4 := foldI_mul (fun i j t => foldI (fun k t => st3 T F g p i j k t) M.toNat t) M.toNat s M.toNat
  rw [e2] at h4
  exact h4
theorem mr2 {T F g p : Int → Int} {s : RS} {n U W i j : Int} {R : Int → Int} (h : stI s n U W R) :
    (¬ (T i = F j ∧ T j = F i) → stI (st2 T F g p i j s) n U W R) ∧ (T i = F j ∧ T j = F i → g i * g j * W ≤ U * (p i * p j) → stI (st2 T F g p i j s) n U W R) ∧ (T i = F j ∧ T j = F i → U * (p i * p j) < g i * g j * W → stI (st2 T F g p i j s) 2 (g i * g j) (p i * p j) (uI (uI R 0 i) 1 j)) := by
  obtain ⟨h1, h2, h3, h4⟩ := h
  refine ⟨fun q => ?_, fun q q2 => ?_, fun q q2 => ?_⟩ <;> unfold st2
  · rw [if_neg q]; exact ⟨h1, h2, h3, h4⟩
  · rw [if_pos q]
    unfold offB
    rw [← h2, ← h3, if_neg (by omega)]
    exact ⟨h1, h2, h3, h4⟩
  · rw [if_pos q]
    unfold offB
    rw [← h2, ← h3, if_pos q2]
    exact ⟨rfl, rfl, rfl, Or.inr ⟨rfl, rfl, Or.inl rfl⟩⟩
theorem mr3 {T F g p : Int → Int} {s : RS} {n U W i j k : Int} {R : Int → Int} (h : stI s n U W R) :
    (¬ (T i = F j ∧ T j = F k ∧ T k = F i) → stI (st3 T F g p i j k s) n U W R) ∧ (T i = F j ∧ T j = F k ∧ T k = F i → g i * g j * g k * W ≤ U * (p i * p j * p k) → stI (st3 T F g p i j k s) n U W R) ∧ (T i = F j ∧ T j = F k ∧ T k = F i → U * (p i * p j * p k) < g i * g j * g k * W → stI (st3 T F g p i j k s) 3 (g i * g j * g k) (p i * p j * p k) (uI (uI (uI R 0 i) 1 j) 2 k)) := by
  obtain ⟨h1, h2, h3, h4⟩ := h
  refine ⟨fun q => ?_, fun q q2 => ?_, fun q q2 => ?_⟩ <;> unfold st3
  · rw [if_neg q]; exact ⟨h1, h2, h3, h4⟩
  · rw [if_pos q]
    unfold offB
    rw [← h2, ← h3, if_neg (by omega)]
    exact ⟨h1, h2, h3, h4⟩
  · rw [if_pos q]
    unfold offB
    rw [← h2, ← h3, if_pos q2]
    exact ⟨rfl, rfl, rfl, Or.inr ⟨rfl, rfl, Or.inr rfl⟩⟩
/-- the product of the first k -/
def prN (g : Int → Int) : Nat → Int
  | 0 => 1
  | k + 1 => prN g k * g (k : Int)
theorem prN_s (g : Int → Int) {k : Int} (h : 0 ≤ k) : prN g (k + 1).toNat = prN g k.toNat * g k := by
  rw [show (k + 1).toNat = k.toNat + 1 by omega]
  show prN g k.toNat * g ((k.toNat : Nat) : Int) = _
  rw [Int.toNat_of_nonneg h]
theorem prN_b {g : Int → Int} (h : bd g 0 891) {k : Int} (hk : 0 ≤ k ∧ k ≤ 3) : 0 ≤ prN g k.toNat ∧ prN g k.toNat ≤ 707347971 := by
  have hx : k = 0 ∨ k = 1 ∨ k = 2 ∨ k = 3 := by omega
  have h0 := h 0
  have h1 := mulb h0 (h 1)
  have h2 := mulb h1 (h 2)
  rcases hx with rfl | rfl | rfl | rfl
  · show (0 : Int) ≤ 1 ∧ (1 : Int) ≤ 707347971; omega
  · show 0 ≤ 1 * g 0 ∧ 1 * g 0 ≤ 707347971; omega
  · show 0 ≤ 1 * g 0 * g 1 ∧ 1 * g 0 * g 1 ≤ 707347971; rw [Int.one_mul]; omega
  · show 0 ≤ 1 * g 0 * g 1 * g 2 ∧ 1 * g 0 * g 1 * g 2 ≤ 707347971; rw [Int.one_mul]; omega
theorem sq_pos {M r : Int} (h0 : 0 ≤ M) (hr : 0 ≤ r) (h : r < M * M) : 1 ≤ M := by
  rcases (show M = 0 ∨ 1 ≤ M by omega) with e | e
  · rw [e] at h; omega
  · exact e
theorem cu_pos {M r : Int} (h0 : 0 ≤ M) (hr : 0 ≤ r) (h : r < M * M * M) : 1 ≤ M := by
  rcases (show M = 0 ∨ 1 ≤ M by omega) with e | e
  · rw [e] at h; omega
  · exact e
theorem dm2 {M r : Int} (hM : 1 ≤ M) (hr : 0 ≤ r) (h : r < M * M) : (0 ≤ r / M ∧ r / M < M) ∧ (0 ≤ r % M ∧ r % M < M) ∧ r / M % M = r / M := by
  have h1 : 0 ≤ r / M := Int.ediv_nonneg hr (by omega)
  have h2 : r / M < M := Int.ediv_lt_of_lt_mul (by omega) h
  exact ⟨⟨h1, h2⟩, ⟨Int.emod_nonneg _ (by omega), Int.emod_lt_of_pos _ (by omega)⟩, Int.emod_eq_of_lt h1 h2⟩
theorem dm3 {M r : Int} (hM : 1 ≤ M) (hr : 0 ≤ r) (h : r < M * M * M) : (0 ≤ r / M / M ∧ r / M / M < M) ∧ (0 ≤ r / M % M ∧ r / M % M < M) ∧ (0 ≤ r % M ∧ r % M < M) ∧ r / M / M % M = r / M / M := by
  have h1 : 0 ≤ r / M := Int.ediv_nonneg hr (by omega)
  have h2 : r / M < M * M := Int.ediv_lt_of_lt_mul (by omega) h
  have h3 := dm2 hM h1 h2
  exact ⟨h3.1, h3.2.1, ⟨Int.emod_nonneg _ (by omega), Int.emod_lt_of_pos _ (by omega)⟩, h3.2.2⟩
theorem st3_f {T F g p : Int → Int} {a b : Int} (h : T a = F b) (m : Nat) (s : RS) : foldI (fun k s => st3 T F g p a b k s) m s = foldI (fun k s => if T b = F k ∧ T k = F a then offB 3 a b k (g a * g b * g k) (p a * p b * p k) s else s) m s := by
  apply foldI_c
  intro k t _ _
  show st3 T F g p a b k t = if T b = F k ∧ T k = F a then offB 3 a b k (g a * g b * g k) (p a * p b * p k) t else t
  unfold st3
  by_cases q : T b = F k ∧ T k = F a
  · rw [if_pos ⟨h, q⟩, if_pos q]
  · rw [if_neg (fun q2 => q q2.2), if_neg q]
theorem ringAt_c {P m p w g7 : Int} {s : RS} {G : Int → Int} (hs : rOk m s) (k7 : g7 = s.1) (k6 : s.1 = 0 ∨ (G 0 = s.2.2.2.1 ∧ G 1 = s.2.2.2.2.1 ∧ (s.1 = 2 ∨ G 2 = s.2.2.2.2.2))) (hp : 0 ≤ p ∧ p < P) : (¬ (0 ≤ w ∧ w < g7) → -9 = pRingAt P s p w) ∧ (0 ≤ w ∧ w < g7 → G w = pRingAt P s p w) := by
  unfold pRingAt
  rw [if_neg (by omega)]
  refine ⟨fun h => ?_, fun h => ?_⟩
  · rw [if_pos (by omega)]
  · rw [if_neg (by omega)]
    rcases k6 with k6 | ⟨k6, k6b, k6c⟩
    · omega
    · rcases hs with q | ⟨q, -⟩
      · omega
      · by_cases h0 : w = 0
        · rw [if_pos h0, h0]; exact k6
        · rw [if_neg h0]
          by_cases h1 : w = 1
          · rw [if_pos h1, h1]; exact k6b
          · rw [if_neg h1]
            have h2 : w = 2 := by omega
            rw [h2]
            rcases k6c with k6c | k6c
            · omega
            · exact k6c
theorem rOk_n {m : Int} {s : RS} (hs : rOk m s) : s.1 = 0 ∨ s.1 = 2 ∨ s.1 = 3 := by
  rcases hs with q | q <;> omega
theorem k6_w {s : RS} {G : Int → Int} (k : s.1 = 0 ∨ (G 0 = s.2.2.2.1 ∧ G 1 = s.2.2.2.2.1 ∧ G 2 = s.2.2.2.2.2)) : s.1 = 0 ∨ (G 0 = s.2.2.2.1 ∧ G 1 = s.2.2.2.2.1 ∧ (s.1 = 2 ∨ G 2 = s.2.2.2.2.2)) := by
  rcases k with h | ⟨h1, h2, h3⟩
  · exact Or.inl h
  · exact Or.inr ⟨h1, h2, Or.inr h3⟩
