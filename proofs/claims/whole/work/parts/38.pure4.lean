/-! rings -/
abbrev RS : Type := Int × Int × Int × Int × Int × Int
def foldI {σ : Type} (g : Int → σ → σ) : Nat → σ → σ
  | 0, s => s
  | n + 1, s => g (n : Int) (foldI g n s)
theorem foldI_s {σ : Type} (g : Int → σ → σ) {n : Int} (h : 0 ≤ n) (s : σ) : foldI g (n + 1).toNat s = g n (foldI g n.toNat s) := by
  rw [show (n + 1).toNat = n.toNat + 1 by omega]
  show g ((n.toNat : Nat) : Int) _ = _
  rw [Int.toNat_of_nonneg h]
theorem foldI_id {σ : Type} {g : Int → σ → σ} (s : σ) (h : ∀ i s, g i s = s) : ∀ n : Nat, foldI g n s = s
  | 0 => rfl
  | n + 1 => by
    show g n (foldI g n s) = s
    rw [h, foldI_id s h n]
theorem foldI_c {σ : Type} {g h : Int → σ → σ} (s : σ) : ∀ (n : Nat), (∀ (i : Int) (t : σ), 0 ≤ i → i < n → g i t = h i t) → foldI g n s = foldI h n s
  | 0, _ => rfl
  | n + 1, e => by
    show g n (foldI g n s) = h n (foldI h n s)
    rw [foldI_c s n (fun i t h0 h1 => e i t h0 (by omega)), e n _ (by omega) (by omega)]
theorem foldI_add {σ : Type} (g : Int → σ → σ) (a : Nat) (s : σ) : ∀ b : Nat, foldI g (a + b) s = foldI (fun j t => g ((a : Int) + j) t) b (foldI g a s)
  | 0 => rfl
  | b + 1 => by
    show g ((a + b : Nat) : Int) (foldI g (a + b) s) = g ((a : Int) + (b : Int)) (foldI _ b _)
    rw [foldI_add g a s b]
    rfl
theorem foldI_mul {σ : Type} (h : Int → Int → σ → σ) (m : Nat) (s : σ) : ∀ a : Nat, foldI (fun r t => h (r / (m : Int)) (r % (m : Int)) t) (a * m) s = foldI (fun i t => foldI (fun j t => h i j t) m t) a s
  | 0 => by rw [Nat.zero_mul]; rfl
  | a + 1 => by
    rw [Nat.succ_mul, foldI_add, foldI_mul h m s a]
    show _ = foldI (fun j t => h (a : Int) j t) m (foldI (fun i t => foldI (fun j t => h i j t) m t) a s)
    apply foldI_c
    intro i t h0 h1
    show h ((((a * m : Nat) : Int) + i) / (m : Int)) ((((a * m : Nat) : Int) + i) % (m : Int)) t = h (a : Int) i t
    have e : (((a * m : Nat) : Int) + i) = i + (m : Int) * (a : Int) := by
      rw [Int.natCast_mul, Int.mul_comm]
      omega
    have hm : (m : Int) ≠ 0 := by omega
    rw [e, Int.add_mul_ediv_left _ _ hm, Int.add_mul_emod_self_left, Int.ediv_eq_zero_of_lt h0 h1, Int.emod_eq_of_lt h0 h1, Int.zero_add]
def gotE (T G : Int → Int) (w i : Int) : Int := if T i = 0 then G i else G i * w
def paidE (F V A : Int → Int) (i : Int) : Int := if F i = 0 then V i else V i * A i
def offB (n a b c U W : Int) (s : RS) : RS := if s.2.1 * W < U * s.2.2.1 then (n, U, W, a, b, c) else s
def st2 (T F g p : Int → Int) (i j : Int) (s : RS) : RS := if T i = F j ∧ T j = F i then offB 2 i j j (g i * g j) (p i * p j) s else s
def st3 (T F g p : Int → Int) (i j k : Int) (s : RS) : RS := if T i = F j ∧ T j = F k ∧ T k = F i then offB 3 i j k (g i * g j * g k) (p i * p j * p k) s else s
def rg2 (T F g p : Int → Int) (m : Nat) (s : RS) : RS := foldI (fun i s => foldI (fun j s => st2 T F g p i j s) m s) m s
def rg3 (T F g p : Int → Int) (m : Nat) (s : RS) : RS := foldI (fun i s => foldI (fun j s => foldI (fun k s => st3 T F g p i j k s) m s) m s) m s
def rgB (T F g p : Int → Int) (m : Nat) : RS := rg3 T F g p m (rg2 T F g p m (0, 0, 1, 0, 0, 0))
/-- how the class holds it -/
def stR (s : RS) (f : Nat → Int) (E : Int → Int) : Prop := f 7 = s.1 ∧ f 8 = s.2.1 ∧ f 9 = s.2.2.1 ∧ (s.1 = 0 ∨ (E 0 = s.2.2.2.1 ∧ E 1 = s.2.2.2.2.1 ∧ E 2 = s.2.2.2.2.2))
/-- how the reference holds it -/
def stM (s : RS) (f : Nat → Int) (E : Int → Int) : Prop := f 44 = s.1 ∧ f 45 = s.2.1 ∧ f 46 = s.2.2.1 ∧ (s.1 = 0 ∨ (E 0 = s.2.2.2.1 ∧ E 1 = s.2.2.2.2.1 ∧ (s.1 = 2 ∨ E 2 = s.2.2.2.2.2)))
theorem gotE_b {T G : Int → Int} {w : Int} (hG : bd G 0 9) (hw : 0 ≤ w ∧ w ≤ 99) : bd (gotE T G w) 0 891 := by
  intro i
  have h := mulb (hG i) hw
  have h2 := hG i
  unfold gotE
  split <;> omega
theorem paidE_b {F V A : Int → Int} (hV : bd V 0 9) (hA : bd A 0 99) : bd (paidE F V A) 0 891 := by
  intro i
  have h := mulb (hV i) (hA i)
  have h2 := hV i
  unfold paidE
  split <;> omega
theorem pr2_b {g : Int → Int} (h : bd g 0 891) (i j : Int) : 0 ≤ g i * g j ∧ g i * g j ≤ 793881 := mulb (h i) (h j)
theorem pr3_b {g : Int → Int} (h : bd g 0 891) (i j k : Int) : 0 ≤ g i * g j * g k ∧ g i * g j * g k ≤ 707347971 := mulb (pr2_b h i j) (h k)
theorem off_R {n a b c U W : Int} {s : RS} {f : Nat → Int} {E : Int → Int} (h : stR s f E) (hn : ¬ n = 0) : (f 8 * W < U * f 9 → stR (offB n a b c U W s) (up (up (up f 7 n) 8 U) 9 W) (uI (uI (uI E 0 a) 1 b) 2 c)) ∧ (U * f 9 ≤ f 8 * W → stR (offB n a b c U W s) f E) := by
  obtain ⟨h1, h2, h3, h4⟩ := h
  refine ⟨fun q => ?_, fun q => ?_⟩
  · unfold offB
    rw [← h2, ← h3, if_pos q]
    exact ⟨rfl, rfl, rfl, Or.inr ⟨rfl, rfl, rfl⟩⟩
  · unfold offB
    rw [← h2, ← h3, if_neg (by omega)]
    exact ⟨h1, h2, h3, h4⟩
/-- what a ring's state may be -/
def rOk (m : Int) (s : RS) : Prop := (s.1 = 0 ∧ s.2.1 = 0 ∧ s.2.2.1 = 1) ∨ ((s.1 = 2 ∨ s.1 = 3) ∧ (0 < s.2.1 ∧ s.2.1 ≤ 1000000000) ∧ (0 < s.2.2.1 ∧ s.2.2.1 ≤ 1000000000) ∧ (0 ≤ s.2.2.2.1 ∧ s.2.2.2.1 < m) ∧ (0 ≤ s.2.2.2.2.1 ∧ s.2.2.2.2.1 < m) ∧ 0 ≤ s.2.2.2.2.2 ∧ s.2.2.2.2.2 < m)
theorem rOk_off {m n a b c U W : Int} {s : RS} (h : rOk m s) (hn : n = 2 ∨ n = 3) (hU : 0 ≤ U ∧ U ≤ 1000000000) (hW : 0 < W ∧ W ≤ 1000000000) (ha : 0 ≤ a ∧ a < m) (hb : 0 ≤ b ∧ b < m) (hc : 0 ≤ c ∧ c < m) : rOk m (offB n a b c U W s) := by
  unfold offB
  split
  · next q =>
    refine Or.inr ⟨hn, ⟨?_, hU.2⟩, hW, ha, hb, hc⟩
    rcases Int.lt_or_le 0 U with h1 | h1
    · exact h1
    · exfalso
      have hU0 : U = 0 := by omega
      subst hU0
      rw [Int.zero_mul] at q
      rcases h with ⟨-, h2, -⟩ | ⟨-, ⟨h2, -⟩, -⟩
      · rw [h2, Int.zero_mul] at q
        omega
      · have := Int.mul_pos h2 hW.1
        omega
  · exact h
theorem foldI_ok {σ : Type} {P : σ → Prop} {g : Int → σ → σ} {s : σ} (h0 : P s) : ∀ n : Nat, (∀ (i : Int) (t : σ), 0 ≤ i → i < n → P t → P (g i t)) → P (foldI g n s)
  | 0, _ => h0
  | n + 1, h => h n _ (by omega) (by omega) (foldI_ok h0 n (fun i t h1 h2 h3 => h i t h1 (by omega) h3))
theorem rg2_ok {T F g p : Int → Int} {m : Nat} {s : RS} (hg : bd g 0 891) (hp : bd p 0 891) (hp1 : ∀ j : Int, 0 ≤ j ∧ j < m → 1 ≤ p j) (h : rOk m s) : rOk m (rg2 T F g p m s) := by
  refine foldI_ok h m (fun i t i0 i1 ht => foldI_ok ht m (fun j t j0 j1 ht => ?_))
  unfold st2
  split
  · have h1 := pr2_b hg i j
    have h2 := pr2_b hp i j
    have h3 := Int.mul_pos (show 0 < p i by have := hp1 i ⟨i0, i1⟩; omega) (show 0 < p j by have := hp1 j ⟨j0, j1⟩; omega)
    exact rOk_off ht (Or.inl rfl) (by omega) (by omega) ⟨i0, i1⟩ ⟨j0, j1⟩ ⟨j0, j1⟩
  · exact ht
theorem rg3_ok {T F g p : Int → Int} {m : Nat} {s : RS} (hg : bd g 0 891) (hp : bd p 0 891) (hp1 : ∀ j : Int, 0 ≤ j ∧ j < m → 1 ≤ p j) (h : rOk m s) : rOk m (rg3 T F g p m s) := by
  refine foldI_ok h m (fun i t i0 i1 ht => foldI_ok ht m (fun j t j0 j1 ht => foldI_ok ht m (fun k t k0 k1 ht => ?_)))
  unfold st3
  split
  · have h1 := pr3_b hg i j k
    have h2 := pr3_b hp i j k
    have h3 := Int.mul_pos (Int.mul_pos (show 0 < p i by have := hp1 i ⟨i0, i1⟩; omega) (show 0 < p j by have := hp1 j ⟨j0, j1⟩; omega)) (show 0 < p k by have := hp1 k ⟨k0, k1⟩; omega)
    exact rOk_off ht (Or.inr rfl) (by omega) (by omega) ⟨i0, i1⟩ ⟨j0, j1⟩ ⟨k0, k1⟩
  · exact ht
theorem rgB_ok {T F g p : Int → Int} {m : Nat} (hg : bd g 0 891) (hp : bd p 0 891) (hp1 : ∀ j : Int, 0 ≤ j ∧ j < m → 1 ≤ p j) : rOk m (rgB T F g p m) := rg3_ok hg hp hp1 (rg2_ok hg hp hp1 (Or.inl ⟨rfl, rfl, rfl⟩))
theorem paidE_1 {F V A : Int → Int} {m : Int} (hV : ∀ j : Int, 0 ≤ j ∧ j < m → 1 ≤ V j) (hA : ∀ j : Int, 0 ≤ j ∧ j < m → 1 ≤ A j) : ∀ j : Int, 0 ≤ j ∧ j < m → 1 ≤ paidE F V A j := by
  intro j hj
  have h1 := hV j hj
  have h2 := hA j hj
  unfold paidE
  split
  · exact h1
  · have := Int.mul_pos (show 0 < V j by omega) (show 0 < A j by omega)
    omega
def pRing (P : Int) (s : RS) (p w : Int) : Int := if ¬ (0 ≤ p ∧ p < P) then -1 else if s.1 = 0 then -9 else (if w = 0 then s.2.2.1 else s.2.1) / gI s.2.1 s.2.2.1
def pRingAt (P : Int) (s : RS) (p i : Int) : Int := if ¬ (0 ≤ p ∧ p < P) then -1 else if ¬ (0 ≤ i ∧ i < s.1) then -9 else if i = 0 then s.2.2.2.1 else if i = 1 then s.2.2.2.2.1 else s.2.2.2.2.2
