/-- g, but f from a on, n of it -/
def cpO (f g : Int → Int) (a n : Int) : Int → Int := fun j => if a ≤ j ∧ j < a + n then f (j - a) else g j
theorem cpO_0 (f g : Int → Int) (a : Int) : cpO f g a 0 = g := by
  funext j
  unfold cpO
  rw [if_neg (by omega)]
theorem cpO_s {f g : Int → Int} {a n i x : Int} (hn : 0 ≤ n) (hi : i = a + n) (hx : x = f n) : uI (cpO f g a n) i x = cpO f g a (n + 1) := by
  subst hi hx
  funext j
  unfold uI cpO
  by_cases h1 : j = a + n
  · rw [if_pos h1, if_pos (by omega), h1, show a + n - a = n by omega]
  · rw [if_neg h1]
    by_cases h2 : a ≤ j ∧ j < a + n
    · rw [if_pos h2, if_pos (by omega)]
    · rw [if_neg h2, if_neg (by omega)]
theorem cpO_c {f g : Int → Int} {a n i x : Int} (h : i < a ∨ a + n ≤ i) : uI (cpO f g a n) i x = cpO f (uI g i x) a n := by
  funext j
  unfold uI cpO
  by_cases h1 : j = i
  · rw [if_pos h1, if_neg (by omega)]
    exact (if_pos h1).symm
  · rw [if_neg h1]
    by_cases h2 : a ≤ j ∧ j < a + n
    · rw [if_pos h2, if_pos h2]
    · rw [if_neg h2, if_neg h2]
      exact (if_neg h1).symm
theorem cpI_s {f g : Int → Int} {n i x : Int} (hn : 0 ≤ n) (hi : i = n) (hx : x = f n) : uI (cpI f g n) i x = cpI f g (n + 1) := by
  subst hi hx
  funext j
  unfold uI cpI
  by_cases h1 : j = i
  · rw [if_pos h1, if_pos (by omega), h1]
  · rw [if_neg h1]
    by_cases h2 : 0 ≤ j ∧ j < i
    · rw [if_pos h2, if_pos (by omega)]
    · rw [if_neg h2, if_neg (by omega)]
theorem p2_le6 {x : Int} (h : 0 ≤ x ∧ x ≤ 6) : (1 : Int) ≤ 2 ^ x.toNat ∧ (2 : Int) ^ x.toNat ≤ 64 := by
  have hx : x = 0 ∨ x = 1 ∨ x = 2 ∨ x = 3 ∨ x = 4 ∨ x = 5 ∨ x = 6 := by omega
  rcases hx with rfl | rfl | rfl | rfl | rfl | rfl | rfl <;> decide
theorem bitI_hi {m x j : Int} (h0 : 0 ≤ m) (hm : m < 2 ^ x.toNat) (h : x ≤ j) (hx : 0 ≤ x) : bitI m j = 0 := by
  unfold bitI
  have e : (2 : Int) ^ j.toNat = 2 ^ x.toNat * 2 ^ (j.toNat - x.toNat) := by
    rw [← Int.pow_add]
    congr 1
    omega
  have h1 : (1 : Int) ≤ 2 ^ (j.toNat - x.toNat) := by
    have := p2_pos (j.toNat - x.toNat)
    omega
  have h2 := Int.mul_le_mul_of_nonneg_left h1 (Int.le_of_lt (p2_pos x.toNat))
  rw [Int.mul_one] at h2
  rw [Int.ediv_eq_zero_of_lt h0 (by rw [e]; omega)]
  rfl
/-- the fewest ells that are t long, by the first people of the mask, out of a table -/
def fwI (A P : Int → Int) (m t : Int) : Nat → Int
  | 0 => 1000000000
  | i + 1 => if bitI m i = 1 ∧ A i ≤ t then min (fwI A P m t i) (P (t - A i) + 1) else fwI A P m t i
theorem fwI_s {A P : Int → Int} {m t i : Int} (hi : 0 ≤ i) : fwI A P m t (i + 1).toNat = if bitI m i = 1 ∧ A i ≤ t then min (fwI A P m t i.toNat) (P (t - A i) + 1) else fwI A P m t i.toNat := by
  rw [show (i + 1).toNat = i.toNat + 1 by omega]
  show (if bitI m (i.toNat : Int) = 1 ∧ A (i.toNat : Int) ≤ t then min (fwI A P m t i.toNat) (P (t - A (i.toNat : Int)) + 1) else fwI A P m t i.toNat) = _
  rw [Int.toNat_of_nonneg hi]
theorem fwI_b {A P : Int → Int} {m t : Int} (hP : bd P 0 1000000000) : ∀ n : Nat, 0 ≤ fwI A P m t n ∧ fwI A P m t n ≤ 1000000000
  | 0 => by simp [fwI]
  | n + 1 => by
    have h1 := fwI_b (A := A) (m := m) (t := t) hP n
    have h2 := hP (t - A n)
    unfold fwI
    split <;> omega
/-- the table of the class -/
def tbI (A : Int → Int) (m : Int) (P : Int → Int) : Nat → Int → Int
  | 0 => uI P 0 0
  | n + 1 => uI (tbI A m P n) ((n : Int) + 1) (fwI A (tbI A m P n) m ((n : Int) + 1) 6)
theorem tbI_b {A : Int → Int} {m : Int} {P : Int → Int} (hP : bd P 0 1000000000) : ∀ n : Nat, bd (tbI A m P n) 0 1000000000
  | 0 => bd_u hP (by omega)
  | n + 1 => bd_u (tbI_b hP n) (fwI_b (tbI_b hP n) 6)
theorem tbI_s {A : Int → Int} {m : Int} {P : Int → Int} {t : Int} (ht : 1 ≤ t) : tbI A m P (t + 1 - 1).toNat = uI (tbI A m P (t - 1).toNat) t (fwI A (tbI A m P (t - 1).toNat) m t 6) := by
  rw [show (t + 1 - 1).toNat = (t - 1).toNat + 1 by omega]
  show uI _ (((t - 1).toNat : Int) + 1) (fwI A _ m (((t - 1).toNat : Int) + 1) 6) = _
  rw [show ((t - 1).toNat : Int) + 1 = t by omega]
/-- the longest that can be cut -/
def lgI (A : Int → Int) (m : Int) (P : Int → Int) : Nat → Int
  | 0 => 0
  | n + 1 => if tbI A m P (n + 1) ((n : Int) + 1) < 1000000000 then (n : Int) + 1 else lgI A m P n
theorem lgI_s {A : Int → Int} {m : Int} {P : Int → Int} {t : Int} (ht : 1 ≤ t) : lgI A m P (t + 1 - 1).toNat = if fwI A (tbI A m P (t - 1).toNat) m t 6 < 1000000000 then t else lgI A m P (t - 1).toNat := by
  rw [show (t + 1 - 1).toNat = (t - 1).toNat + 1 by omega]
  show (if tbI A m P ((t - 1).toNat + 1) (((t - 1).toNat : Int) + 1) < 1000000000 then ((t - 1).toNat : Int) + 1 else lgI A m P (t - 1).toNat) = _
  rw [show ((t - 1).toNat : Int) + 1 = t by omega]
  show (if uI (tbI A m P (t - 1).toNat) (((t - 1).toNat : Int) + 1) (fwI A (tbI A m P (t - 1).toNat) m (((t - 1).toNat : Int) + 1) 6) t < 1000000000 then t else lgI A m P (t - 1).toNat) = _
  rw [show ((t - 1).toNat : Int) + 1 = t by omega, uI_s]
theorem lgI_in {A : Int → Int} {m : Int} {P : Int → Int} : ∀ n : Nat, 0 ≤ lgI A m P n ∧ lgI A m P n ≤ n
  | 0 => by simp [lgI]
  | n + 1 => by
    have := lgI_in (A := A) (m := m) (P := P) n
    unfold lgI
    split <;> omega
def pCutC (N : Int) (A P : Int → Int) (t m w : Int) : Int := if ¬ ((1 ≤ t ∧ t ≤ 999) ∧ 0 ≤ m ∧ m ≤ 2 ^ N.toNat - 1) then -2 else if w = 0 then t - lgI A m P t.toNat else tbI A m P t.toNat (lgI A m P t.toNat)
/-- the table of the reference -/
def twI (A K : Int → Int) (m t : Int) : Nat → Int
  | 0 => if t = 0 then 0 else 99999
  | i + 1 => if bitI m i = 1 ∧ A i ≤ t ∧ K (t - A i) + 1 < twI A K m t i then K (t - A i) + 1 else twI A K m t i
theorem twI_s {A K : Int → Int} {m t i : Int} (hi : 0 ≤ i) : twI A K m t (i + 1).toNat = if bitI m i = 1 ∧ A i ≤ t ∧ K (t - A i) + 1 < twI A K m t i.toNat then K (t - A i) + 1 else twI A K m t i.toNat := by
  rw [show (i + 1).toNat = i.toNat + 1 by omega]
  show (if bitI m (i.toNat : Int) = 1 ∧ A (i.toNat : Int) ≤ t ∧ K (t - A (i.toNat : Int)) + 1 < twI A K m t i.toNat then K (t - A (i.toNat : Int)) + 1 else twI A K m t i.toNat) = _
  rw [Int.toNat_of_nonneg hi]
theorem twI_b {A K : Int → Int} {m t : Int} (hK : bd K 0 99999) : ∀ n : Nat, 0 ≤ twI A K m t n ∧ twI A K m t n ≤ 99999
  | 0 => by unfold twI; split <;> omega
  | n + 1 => by
    have h1 := twI_b (A := A) (m := m) (t := t) hK n
    have h2 := hK (t - A n)
    unfold twI
    split <;> omega
/-- the table with all below t laid -/
def tmI (A : Int → Int) (m : Int) (N : Nat) (K : Int → Int) : Nat → Int → Int
  | 0 => K
  | n + 1 => uI (tmI A m N K n) (n : Int) (twI A (tmI A m N K n) m (n : Int) N)
theorem tmI_b {A : Int → Int} {m : Int} {N : Nat} {K : Int → Int} (hK : bd K 0 99999) : ∀ n : Nat, bd (tmI A m N K n) 0 99999
  | 0 => hK
  | n + 1 => bd_u (tmI_b hK n) (twI_b (tmI_b hK n) N)
theorem tmI_s {A : Int → Int} {m : Int} {N : Nat} {K : Int → Int} {t : Int} (ht : 0 ≤ t) : tmI A m N K (t + 1).toNat = uI (tmI A m N K t.toNat) t (twI A (tmI A m N K t.toNat) m t N) := by
  rw [show (t + 1).toNat = t.toNat + 1 by omega]
  show uI _ ((t.toNat : Nat) : Int) (twI A _ m ((t.toNat : Nat) : Int) N) = _
  rw [Int.toNat_of_nonneg ht]
def mtI (A : Int → Int) (m : Int) (N : Nat) (K : Int → Int) : Nat → Int
  | 0 => 0
  | n + 1 => if tmI A m N K (n + 1) (n : Int) < 99999 then (n : Int) else mtI A m N K n
theorem mtI_s {A : Int → Int} {m : Int} {N : Nat} {K : Int → Int} {t : Int} (ht : 0 ≤ t) : mtI A m N K (t + 1).toNat = if twI A (tmI A m N K t.toNat) m t N < 99999 then t else mtI A m N K t.toNat := by
  rw [show (t + 1).toNat = t.toNat + 1 by omega]
  show (if uI (tmI A m N K t.toNat) ((t.toNat : Nat) : Int) (twI A (tmI A m N K t.toNat) m ((t.toNat : Nat) : Int) N) ((t.toNat : Nat) : Int) < 99999 then ((t.toNat : Nat) : Int) else mtI A m N K t.toNat) = _
  rw [Int.toNat_of_nonneg ht, uI_s]
theorem mtI_in {A : Int → Int} {m : Int} {N : Nat} {K : Int → Int} : ∀ n : Nat, 0 ≤ mtI A m N K n ∧ (mtI A m N K n < n ∨ mtI A m N K n = 0)
  | 0 => by simp [mtI]
  | n + 1 => by
    have := mtI_in (A := A) (m := m) (N := N) (K := K) n
    unfold mtI
    split <;> omega
def pCutM (N : Int) (A K : Int → Int) (t m w : Int) : Int := if ¬ ((1 ≤ t ∧ t ≤ 999) ∧ 0 ≤ m ∧ m ≤ 2 ^ N.toNat - 1) then -2 else if w = 0 then t - mtI A m N.toNat K (t + 1).toNat else tmI A m N.toNat K (t + 1).toNat (mtI A m N.toNat K (t + 1).toNat)
