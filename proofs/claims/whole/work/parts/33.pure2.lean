/-! what the calls answer, told once for the class and its reference -/
def pPerson (P n : Int) (arm fee com kp who wh el pa pr : Int → Int) (p w : Int) : Int :=
  if ¬ (0 ≤ p ∧ p < P) then -1 else if w = 0 then arm p else if w = 1 then fee p
  else if w = 2 then sZ (fun j => if who j = p then el j * pr (wh j) else 0) n
  else if w = 3 then sZ (fun j => if who j = p then pa j else 0) n
  else if w = 4 then com p else if w = 5 then kp p else -2
def pCounter (C n cm : Int) (pr sk wh el pa : Int → Int) (c w : Int) : Int :=
  if ¬ (0 ≤ c ∧ c < C) then -1 else if w = 0 then pr c else if w = 1 then sk c
  else if w = 2 then sZ (fun j => if wh j = c then el j else 0) n * pr c
  else if w = 3 then sZ (fun j => if wh j = c then el j else 0) n
  else if w = 4 then 1000000 + sZ (fun j => if wh j = c then pa j else 0) n - sZ (fun j => if wh j = c then el j else 0) n * cm
  else -2
def pBarred (P C : Int) (br : Int → Int → Int) (p c : Int) : Int := if ¬ ((0 ≤ p ∧ p < P) ∧ 0 ≤ c ∧ c < C) then -1 else br p c
def pPlaster (P : Int) (arm : Int → Int) (p a : Int) : Int × (Int → Int) :=
  if ¬ (0 ≤ p ∧ p < P) then (-1, arm) else if ¬ (1 ≤ a ∧ a ≤ 99) then (-2, arm) else (arm p, uI arm p a)
def pCommon (cm e : Int) : Int × Int := if ¬ (1 ≤ e ∧ e ≤ 99) then (-2, cm) else (cm, e)
def pBuy (P C n : Int) (br : Int → Int → Int) (arm sk who wh el pa : Int → Int) (p c k : Int) : Int × Int × (Int → Int) × (Int → Int) × (Int → Int) × (Int → Int) × (Int → Int) :=
  if ¬ ((0 ≤ p ∧ p < P) ∧ 0 ≤ c ∧ c < C) then (-1, n, sk, who, wh, el, pa) else if ¬ (1 ≤ k ∧ k ≤ 99) then (-2, n, sk, who, wh, el, pa)
  else if br p c = 1 ∨ sk c < k * arm p then (-3, n, sk, who, wh, el, pa) else if 12 ≤ n then (-4, n, sk, who, wh, el, pa)
  else (k * arm p, n + 1, uI sk c (sk c - k * arm p), uI who n p, uI wh n c, uI el n k, uI pa n (k * arm p))
def pUndo (n : Int) (sk wh pa : Int → Int) : Int × Int × (Int → Int) :=
  if n ≤ 0 then (-3, n, sk) else (n - 1, n - 1, uI sk (wh (n - 1)) (sk (wh (n - 1)) + pa (n - 1)))
def pSale (n : Int) (who wh el pa : Int → Int) (i w : Int) : Int :=
  if ¬ (0 ≤ w ∧ w ≤ 3) then -2 else if ¬ (0 ≤ i ∧ i < n) then -9 else if w = 0 then who i else if w = 1 then wh i else if w = 2 then el i else pa i
def pTruly (P C : Int) (arm pr : Int → Int) (p c w : Int) : Int :=
  if ¬ ((0 ≤ p ∧ p < P) ∧ 0 ≤ c ∧ c < C) then -1 else (if w = 0 then arm p else pr c) / gI (pr c) (arm p)
def pExchange (m : Int) (E0 E1 E2 E3 E4 : Int → Int) (g o x y c : Int) : Int × Int × (Int → Int) × (Int → Int) × (Int → Int) × (Int → Int) × (Int → Int) :=
  if ¬ ((0 ≤ g ∧ g ≤ 2) ∧ 0 ≤ o ∧ o ≤ 2) then (-1, m, E0, E1, E2, E3, E4)
  else if ¬ (¬ g = o ∧ (1 ≤ x ∧ x ≤ 9) ∧ (1 ≤ y ∧ y ≤ 9) ∧ 1 ≤ c ∧ c ≤ 99) then (-2, m, E0, E1, E2, E3, E4)
  else if 8 ≤ m then (-4, m, E0, E1, E2, E3, E4) else (m + 1, m + 1, uI E0 m g, uI E1 m o, uI E2 m x, uI E3 m y, uI E4 m c)
def pCome (P : Int) (com : Int → Int) (p n : Int) : Int × (Int → Int) :=
  if ¬ (0 ≤ p ∧ p < P) then (-1, com) else if ¬ (0 ≤ n ∧ n ≤ 9) then (-2, com) else (com p, uI com p n)
def brI (P : Int) (arm com : Int → Int) (p v k : Int) : Int := sZ (fun i => if p ≤ v * arm i then com i * (p - k * arm i) else 0) P
def okV (v k : Int) : Prop := (1 ≤ v ∧ v ≤ 99) ∧ 0 ≤ k ∧ k ≤ 9
def pEarned (P : Int) (arm com : Int → Int) (p v k : Int) : Int := if ¬ ((1 ≤ p ∧ p ≤ 999) ∧ (1 ≤ v ∧ v ≤ 99) ∧ 0 ≤ k ∧ k ≤ 9) then -2 else 100000 + brI P arm com p v k
/-- of 1 .. k + 1 the first by which g is greatest -/
def aM (g : Int → Int) : Nat → Int
  | 0 => 1
  | k + 1 => if g (aM g k) < g ((k : Int) + 2) then (k : Int) + 2 else aM g k
def pAsk (P : Int) (arm com : Int → Int) (v k : Int) : Int := if ¬ ((1 ≤ v ∧ v ≤ 99) ∧ 0 ≤ k ∧ k ≤ 9) then -2 else aM (fun p => brI P arm com p v k) 998
def lsI (P : Int) (arm kp : Int → Int) (e : Int) : Int := sZ (fun i => if kp i = 1 then (if arm i < e then 1 else 0) else if e < arm i then 1 else 0) P
def pLosers (P : Int) (arm kp : Int → Int) (e : Int) : Int := if ¬ (1 ≤ e ∧ e ≤ 99) then -2 else lsI P arm kp e
def pFairest (P : Int) (arm kp : Int → Int) : Int := aM (fun e => - lsI P arm kp e) 98
theorem aM_s {g : Int → Int} {p b : Int} (hp : 2 ≤ p) (hb : b = aM g (p - 2).toNat) : aM g (p + 1 - 2).toNat = if g b < g p then p else b := by
  have e : (p + 1 - 2).toNat = (p - 2).toNat + 1 := by omega
  rw [e, hb]
  show (if g (aM g (p - 2).toNat) < g (((p - 2).toNat : Int) + 2) then (((p - 2).toNat : Int) + 2) else aM g (p - 2).toNat) = _
  rw [show ((p - 2).toNat : Int) + 2 = p by omega]
theorem aM_in (g : Int → Int) : ∀ k : Nat, 1 ≤ aM g k ∧ aM g k ≤ (k : Int) + 1
  | 0 => by simp [aM]
  | k + 1 => by
    have := aM_in g k
    unfold aM
    split <;> omega
theorem brI_b {P p v k : Int} {arm com : Int → Int} (hP : 0 ≤ P ∧ P ≤ 6) (ha : bd arm 0 99) (hc : bd com 0 9) (hp : 1 ≤ p ∧ p ≤ 999) (hk : 0 ≤ k ∧ k ≤ 9) : -100000 ≤ brI P arm com p v k ∧ brI P arm com p v k ≤ 100000 := by
  unfold brI sZ
  have h := sN_b (g := fun i => if p ≤ v * arm i then com i * (p - k * arm i) else 0) (lo := -9000) (hi := 9000) (fun i => by
    have h1 := ha i
    have h2 := hc i
    have h3 := mulb hk h1
    have h4 : com i * (p - k * arm i) = com i * p - com i * (k * arm i) := Int.mul_sub ..
    have h5 := mulb h2 (show 0 ≤ p ∧ p ≤ 999 by omega)
    have h6 := mulb h2 (show 0 ≤ k * arm i ∧ k * arm i ≤ 9 * 99 by omega)
    try dsimp only
    split <;> omega) P.toNat
  have h7 : ((P.toNat : Nat) : Int) = P := Int.toNat_of_nonneg hP.1
  rw [h7] at h
  omega
theorem lsI_b {P e : Int} {arm kp : Int → Int} (hP : 0 ≤ P ∧ P ≤ 6) : 0 ≤ lsI P arm kp e ∧ lsI P arm kp e ≤ 6 := by
  unfold lsI sZ
  have h := sN_b (g := fun i => if kp i = 1 then (if arm i < e then 1 else 0) else if e < arm i then 1 else 0) (lo := 0) (hi := 1) (fun i => by
    try dsimp only
    (repeat' split) <;> omega) P.toNat
  have h7 : ((P.toNat : Nat) : Int) = P := Int.toNat_of_nonneg hP.1
  rw [h7] at h
  omega
/-- what the first k years leave: the best year, its arm, its price -/
def whN (A B g r : Int) : Nat → Int × Int × Int
  | 0 => (0, A, B)
  | k + 1 => if (whN A B g r k).2.1 * (B + ((k : Int) + 1) * r) < min 99 (A + ((k : Int) + 1) * g) * (whN A B g r k).2.2 then ((k : Int) + 1, min 99 (A + ((k : Int) + 1) * g), B + ((k : Int) + 1) * r) else whN A B g r k
theorem whN_s {A B g r t b x y : Int} (ht : 1 ≤ t) (h : (b, x, y) = whN A B g r (t - 1).toNat) : whN A B g r (t + 1 - 1).toNat = if x * (B + t * r) < min 99 (A + t * g) * y then (t, min 99 (A + t * g), B + t * r) else (b, x, y) := by
  have e : (t + 1 - 1).toNat = (t - 1).toNat + 1 := by omega
  rw [e]
  show (if (whN A B g r (t - 1).toNat).2.1 * (B + (((t - 1).toNat : Int) + 1) * r) < min 99 (A + (((t - 1).toNat : Int) + 1) * g) * (whN A B g r (t - 1).toNat).2.2 then (((t - 1).toNat : Int) + 1, min 99 (A + (((t - 1).toNat : Int) + 1) * g), B + (((t - 1).toNat : Int) + 1) * r) else whN A B g r (t - 1).toNat) = _
  rw [← h, show ((t - 1).toNat : Int) + 1 = t by omega]
def pWhen (P C : Int) (arm pr : Int → Int) (p c g r : Int) : Int :=
  if ¬ ((0 ≤ p ∧ p < P) ∧ 0 ≤ c ∧ c < C) then -1 else if ¬ ((0 ≤ g ∧ g ≤ 9) ∧ 0 ≤ r ∧ r ≤ 9) then -2 else (whN (arm p) (pr c) g r 30).1
def pWrite (m : Int) (S : Int → Int) (n v : Int) : Int × Int × (Int → Int) :=
  if ¬ (1 ≤ n ∧ n ≤ 8) then (-2, m, S) else if 72 < m + n then (-4, m, S) else (m + n, m + n, apS S m n v n)
def pCount (P C n m h cm t w : Int) : Int :=
  if w = 0 then P else if w = 1 then C else if w = 2 then n else if w = 3 then m else if w = 4 then h else if w = 5 then cm else if w = 6 then t else -2
def pKeeper (P : Int) (kp : Int → Int) (p w : Int) : Int := if ¬ (0 ≤ p ∧ p < P) then -1 else if kp p = w then 0 else 1
/-- the bit at j -/
def bitI (x j : Int) : Int := x / 2 ^ j.toNat % 2
theorem bitI_01 (x j : Int) : 0 ≤ bitI x j ∧ bitI x j ≤ 1 := by unfold bitI; omega
theorem bitI_tb {x j : Int} (hx : 0 ≤ x) : bitI x j = if x.toNat.testBit j.toNat then 1 else 0 := by
  unfold bitI
  have h : x / 2 ^ j.toNat = ((x.toNat / 2 ^ j.toNat : Nat) : Int) := by
    rw [Int.natCast_ediv, Int.toNat_of_nonneg hx]
    push_cast
    rfl
  rw [h, Nat.testBit_eq_decide_div_mod_eq]
  generalize x.toNat / 2 ^ j.toNat = a
  by_cases h2 : a % 2 = 1
  · rw [decide_eq_true h2, if_pos rfl]
    omega
  · rw [decide_eq_false h2, if_neg (by decide)]
    omega
theorem bitI_or {a b j : Int} (ha : 0 ≤ a) (hb : 0 ≤ b) : bitI (iOr a b) j = if bitI a j = 1 ∨ bitI b j = 1 then 1 else 0 := by
  rw [bitI_tb (show 0 ≤ iOr a b from Int.natCast_nonneg _), bitI_tb ha, bitI_tb hb]
  unfold iOr
  rw [Int.toNat_natCast, Nat.testBit_or]
  cases a.toNat.testBit j.toNat <;> cases b.toNat.testBit j.toNat <;> simp
theorem bitI_xor {a b j : Int} (ha : 0 ≤ a) (hb : 0 ≤ b) : bitI (iXor a b) j = if bitI a j = bitI b j then 0 else 1 := by
  rw [bitI_tb (show 0 ≤ iXor a b from Int.natCast_nonneg _), bitI_tb ha, bitI_tb hb]
  unfold iXor
  rw [Int.toNat_natCast, Nat.testBit_xor]
  cases a.toNat.testBit j.toNat <;> cases b.toNat.testBit j.toNat <;> simp
theorem bitI_and {a b j : Int} (ha : 0 ≤ a) (hb : 0 ≤ b) : bitI (iAnd a b) j = if bitI a j = 1 ∧ bitI b j = 1 then 1 else 0 := by
  rw [bitI_tb (show 0 ≤ iAnd a b from Int.natCast_nonneg _), bitI_tb ha, bitI_tb hb]
  unfold iAnd
  rw [Int.toNat_natCast, Nat.testBit_and]
  cases a.toNat.testBit j.toNat <;> cases b.toNat.testBit j.toNat <;> simp
theorem p2_nat (k : Nat) : ((2 : Int) ^ k).toNat = 2 ^ k := by
  have h : (2 : Int) ^ k = ((2 ^ k : Nat) : Int) := by push_cast; rfl
  rw [h, Int.toNat_natCast]
theorem p2_pos (k : Nat) : (0 : Int) < 2 ^ k := Int.pow_pos (by decide)
theorem bitI_p2 {i j : Int} (hi : 0 ≤ i) (hj : 0 ≤ j) : bitI (2 ^ i.toNat) j = if j = i then 1 else 0 := by
  rw [bitI_tb (Int.le_of_lt (p2_pos _)), p2_nat, Nat.testBit_two_pow]
  by_cases h : j = i
  · subst h; simp
  · rw [if_neg h]
    have : ¬ i.toNat = j.toNat := by omega
    simp [this]
/-- below 2 ^ k stays below it -/
theorem iOr_lt {a b : Int} {k : Nat} (ha : 0 ≤ a ∧ a < 2 ^ k) (hb : 0 ≤ b ∧ b < 2 ^ k) : 0 ≤ iOr a b ∧ iOr a b < 2 ^ k := by
  refine ⟨Int.natCast_nonneg _, ?_⟩
  unfold iOr
  have h1 : a.toNat < 2 ^ k := by rw [← p2_nat]; omega
  have h2 : b.toNat < 2 ^ k := by rw [← p2_nat]; omega
  have h3 := Nat.or_lt_two_pow h1 h2
  have h4 : ((2 ^ k : Nat) : Int) = (2 : Int) ^ k := by push_cast; rfl
  rw [← h4]
  exact Int.ofNat_lt.mpr h3
theorem iXor_lt {a b : Int} {k : Nat} (ha : 0 ≤ a ∧ a < 2 ^ k) (hb : 0 ≤ b ∧ b < 2 ^ k) : 0 ≤ iXor a b ∧ iXor a b < 2 ^ k := by
  refine ⟨Int.natCast_nonneg _, ?_⟩
  unfold iXor
  have h1 : a.toNat < 2 ^ k := by rw [← p2_nat]; omega
  have h2 : b.toNat < 2 ^ k := by rw [← p2_nat]; omega
  have h3 := Nat.xor_lt_two_pow h1 h2
  have h4 : ((2 ^ k : Nat) : Int) = (2 : Int) ^ k := by push_cast; rfl
  rw [← h4]
  exact Int.ofNat_lt.mpr h3
