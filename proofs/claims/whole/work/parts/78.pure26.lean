/-! what class and reference have in common, over their cells -/
def stk (S W A : Int → Int) (n : Int) : Prop := ∀ c : Int, 0 ≤ c ∧ c < 4 → S c + sZ (fun j => if W j = c then A j else 0) n ≤ 9999
def J1 (n : Int) (S : Int → Int) (n2 : Int) (S2 : Int → Int) : Prop := n = n2 ∧ S = S2 ∧ (0 ≤ n ∧ n ≤ 72) ∧ bd S 0 255
def J2 (E0 E1 E3 E4 E5 T0 T1 T3 T4 T5 M16 M17 M18 M19 M20 : Int → Int) : Prop := rdB E0 E1 E3 E4 E5 ∧ rdB T0 T1 T3 T4 T5 ∧ mdKB ((0, 0, 0, M16, M17, M18, M19, M20) : (Int × Int × Int × (Int → Int) × (Int → Int) × (Int → Int) × (Int → Int) × (Int → Int)))
def J3 (P K P2 K2 : Int) (T1 M7 T4 M8 T3 M10 T2 M11 : Int → Int) (kb : Int) (M12 : Int → Int) : Prop :=
  (P = P2 ∧ K = K2 ∧ (0 ≤ P ∧ P ≤ 6) ∧ 0 ≤ K ∧ K ≤ 4) ∧ (bd T1 0 99 ∧ bd M7 0 99 ∧ ∀ j : Int, 0 ≤ j ∧ j < P → T1 j = M7 j) ∧ (bd T4 0 99 ∧ bd M8 0 99 ∧ ∀ j : Int, 0 ≤ j ∧ j < K → T4 j = M8 j ∧ 1 ≤ T4 j) ∧
  (bd T3 0 15 ∧ bd M10 0 1 ∧ ∀ i c : Int, 0 ≤ i ∧ i < 6 → 0 ≤ c ∧ c < 4 → bitI (T3 i) c = M10 (4 * i + c)) ∧ (bd T2 0 9 ∧ bd M11 0 9 ∧ ∀ j : Int, 0 ≤ j ∧ j < P → T2 j = M11 j) ∧ ((0 ≤ kb ∧ kb ≤ 63) ∧ bd M12 0 1 ∧ ∀ j : Int, 0 ≤ j ∧ j < P → bitI kb j = M12 j)
def J4 (P K n n2 cm cm2 : Int) (A0 M6 A1 M9 A2 M22 A3 M23 A4 M24 A5 M25 : Int → Int) : Prop :=
  (n = n2 ∧ cm = cm2 ∧ (0 ≤ n ∧ n ≤ 12) ∧ 0 ≤ cm ∧ cm ≤ 99) ∧ (bd A0 0 99 ∧ bd M6 0 99 ∧ ∀ j : Int, 0 ≤ j ∧ j < P → A0 j = M6 j ∧ 1 ≤ A0 j) ∧ (bd A1 0 9999 ∧ bd M9 0 9999 ∧ ∀ j : Int, 0 ≤ j ∧ j < K → A1 j = M9 j) ∧
  (A2 = M22 ∧ A3 = M23 ∧ A4 = M24 ∧ A5 = M25) ∧ (bd A2 0 5 ∧ bd A3 0 3 ∧ bd A4 0 99 ∧ bd A5 0 9801) ∧ (∀ j : Int, 0 ≤ j ∧ j < n → A3 j < K) ∧ stk A1 A3 A5 n ∧ stk M9 A3 A5 n
def J5 (k P K z6 z7 z8 : Int) (K0 K1 K2 K3 K4 K5 M38 M39 : Int → Int) : Prop :=
  (z8 = M39 k ∧ (z8 = 0 ∨ z8 = 1)) ∧ (bd K0 0 99 ∧ bd K1 0 9999 ∧ bd K2 0 5 ∧ bd K3 0 3 ∧ bd K4 0 99 ∧ bd K5 0 9801) ∧
  (z8 = 1 → ((0 ≤ z6 ∧ z6 ≤ 12) ∧ 0 ≤ z7 ∧ z7 ≤ 99) ∧ (∀ j : Int, 0 ≤ j ∧ j < P → K0 j = M38 (60 * k + j) ∧ 1 ≤ K0 j) ∧ (∀ j : Int, 0 ≤ j ∧ j < 6 → M38 (60 * k + j) ≤ 99) ∧ (∀ j : Int, 0 ≤ j ∧ j < K → K1 j = M38 (60 * k + 6 + j)) ∧
    (∀ j : Int, 0 ≤ j ∧ j < 12 → M38 (60 * k + 10 + j) = 10 * K2 j + K3 j ∧ M38 (60 * k + 22 + j) = K4 j ∧ M38 (60 * k + 34 + j) = K5 j) ∧ (M38 (60 * k + 46) = z6 ∧ M38 (60 * k + 47) = z7) ∧ (∀ j : Int, 0 ≤ j ∧ j < z6 → K3 j < K) ∧ stk K1 K3 K5 z6 ∧ stk (fun c => M38 (60 * k + 6 + c)) K3 K5 z6)
def J6 (m m2 : Int) (E0 M27 E1 M28 E2 M29 E3 M30 E4 M31 M42 : Int → Int) : Prop :=
  (m = m2 ∧ 0 ≤ m ∧ m ≤ 8) ∧ (E0 = M27 ∧ E1 = M28 ∧ E2 = M29 ∧ E3 = M30 ∧ E4 = M31) ∧ (bd E0 0 2 ∧ bd E1 0 2 ∧ bd E2 0 9 ∧ bd E3 0 9 ∧ bd E4 0 99) ∧ (∀ j : Int, 0 ≤ j ∧ j < m → 1 ≤ paidE E0 E2 E4 j) ∧ (∀ j : Int, 0 ≤ j ∧ j < m → ¬ E0 j = E1 j) ∧ bd M42 0 7
def J8 (P0 M47 M40 M38 M39 : Int → Int) : Prop := bd P0 0 1000000000 ∧ bd M47 0 99999 ∧ bd M40 0 100005 ∧ bd M38 0 9999 ∧ bd M39 0 1
theorem stk_buy {S W A : Int → Int} {n c x : Int} (h : stk S W A n) (hn : 0 ≤ n) : stk (uI S c (S c - x)) (uI W n c) (uI A n x) (n + 1) := by
  intro z hz
  have hh := h z hz
  rw [sZ_s _ hn, sZ_c (h := fun j => if W j = z then A j else 0) (fun j a b => by rw [uI_n _ _ (by omega), uI_n _ _ (by omega)]), uI_s, uI_s]
  by_cases q : z = c
  · rw [q, uI_s, if_pos rfl]
    rw [q] at hh
    omega
  · rw [uI_n _ _ q, if_neg (fun w => q w.symm)]
    omega
theorem stk_undo {S W A : Int → Int} {n : Int} (h : stk S W A n) (hn : 1 ≤ n) : stk (uI S (W (n - 1)) (S (W (n - 1)) + A (n - 1))) W A (n - 1) := by
  intro z hz
  have hh := h z hz
  have e := sZ_s (fun j => if W j = z then A j else 0) (n := n - 1) (by omega)
  rw [show n - 1 + 1 = n by omega] at e
  rw [e] at hh
  by_cases q : z = W (n - 1)
  · rw [q, uI_s]
    rw [if_pos q.symm, q] at hh
    omega
  · rw [uI_n _ _ q]
    rw [if_neg (fun w => q w.symm)] at hh
    omega
theorem stk_top {S W A : Int → Int} {n : Int} (h : stk S W A n) (hn : 1 ≤ n) (hA : bd A 0 9801) (hW : 0 ≤ W (n - 1) ∧ W (n - 1) ≤ 3) : S (W (n - 1)) + A (n - 1) ≤ 9999 := by
  have hh := h (W (n - 1)) (by omega)
  have e := sZ_s (fun j => if W j = W (n - 1) then A j else 0) (n := n - 1) (by omega)
  rw [show n - 1 + 1 = n by omega] at e
  rw [e, if_pos rfl] at hh
  have nn : 0 ≤ sZ (fun j => if W j = W (n - 1) then A j else 0) (n - 1) := sZ_nn (fun j a b => by
    have := hA j
    show 0 ≤ if W j = W (n - 1) then A j else 0
    split <;> omega)
  omega
theorem stk_0 {S W A : Int → Int} (hS : bd S 0 9999) : stk S W A 0 := fun c _ => by
  have := hS c
  rw [sZ_0]
  omega
theorem s_write {n n2 k v : Int} {S S2 : Int → Int} {u u2 : Int × Int × (Int → Int)} (h : J1 n S n2 S2) (hu : u = pWrite n S k v) (hu2 : u2 = pWrite n2 S2 k v) : u.1 = u2.1 ∧ J1 u.2.1 u.2.2 u2.2.1 u2.2.2 := by
  obtain ⟨rfl, rfl, hn, hS⟩ := h
  rw [← hu] at hu2
  subst hu2
  refine ⟨rfl, rfl, rfl, ?_, ?_⟩
  · rw [hu]
    unfold pWrite
    split
    · exact hn
    · split
      · exact hn
      · show 0 ≤ n + k ∧ n + k ≤ 72
        omega
  · rw [hu]
    unfold pWrite
    split
    · exact hS
    · split
      · exact hS
      · intro j
        show 0 ≤ apS S n k v k j ∧ apS S n k v k j ≤ 255
        unfold apS
        split
        · omega
        · exact hS j
section EQ
variable {P K P2 K2 kb n n2 cm cm2 : Int} {T1 M7 T4 M8 T3 M10 T2 M11 M12 A0 M6 A1 M9 A2 M22 A3 M23 A4 M24 A5 M25 : Int → Int}
theorem e_person {p w : Int} (h3 : J3 P K P2 K2 T1 M7 T4 M8 T3 M10 T2 M11 kb M12) (h4 : J4 P K n n2 cm cm2 A0 M6 A1 M9 A2 M22 A3 M23 A4 M24 A5 M25) : pPerson P n A0 T1 T2 (fun j => bitI kb j) A2 A3 A4 A5 T4 p w = pPerson P2 n2 M6 M7 M11 M12 M22 M23 M24 M25 M8 p w := by
  obtain ⟨⟨rfl, rfl, hP, hK⟩, ⟨f1, f2, f3⟩, ⟨r1, r2, r3⟩, -, ⟨c1, c2, c3⟩, ⟨k1, k2, k3⟩⟩ := h3
  obtain ⟨⟨rfl, rfl, hn, hcm⟩, ⟨a1, a2, a3⟩, -, ⟨rfl, rfl, rfl, rfl⟩, ⟨b2, b3, b4, b5⟩, w1, -, -⟩ := h4
  unfold pPerson
  by_cases q : 0 ≤ p ∧ p < P
  · have hs : sZ (fun j => if A2 j = p then A4 j * T4 (A3 j) else 0) n = sZ (fun j => if A2 j = p then A4 j * M8 (A3 j) else 0) n := sZ_c (fun j a b => by rw [(r3 (A3 j) ⟨(b3 j).1, w1 j ⟨a, b⟩⟩).1])
    dsimp only
    rw [(a3 p q).1, f3 p q, c3 p q, k3 p q, hs]
  · rw [if_pos q, if_pos q]
theorem e_counter {c w : Int} (h3 : J3 P K P2 K2 T1 M7 T4 M8 T3 M10 T2 M11 kb M12) (h4 : J4 P K n n2 cm cm2 A0 M6 A1 M9 A2 M22 A3 M23 A4 M24 A5 M25) : pCounter K n cm T4 A1 A3 A4 A5 c w = pCounter K2 n2 cm2 M8 M9 M23 M24 M25 c w := by
  obtain ⟨⟨rfl, rfl, hP, hK⟩, -, ⟨r1, r2, r3⟩, -, -, -⟩ := h3
  obtain ⟨⟨rfl, rfl, hn, hcm⟩, -, ⟨s1, s2, s3⟩, ⟨rfl, rfl, rfl, rfl⟩, -, -, -, -⟩ := h4
  unfold pCounter
  by_cases q : 0 ≤ c ∧ c < K
  · rw [(r3 c q).1, s3 c q]
  · rw [if_pos q, if_pos q]
theorem e_barred {p c : Int} (h3 : J3 P K P2 K2 T1 M7 T4 M8 T3 M10 T2 M11 kb M12) : pBarred P K (fun i c => bitI (T3 i) c) p c = pBarred P2 K2 (fun i c => M10 (4 * i + c)) p c := by
  obtain ⟨⟨rfl, rfl, hP, hK⟩, -, -, ⟨b1, b2, b3⟩, -, -⟩ := h3
  unfold pBarred
  by_cases q : (0 ≤ p ∧ p < P) ∧ 0 ≤ c ∧ c < K
  · rw [if_neg (fun z => z q), if_neg (fun z => z q)]
    exact b3 p c (by omega) (by omega)
  · rw [if_pos q, if_pos q]
theorem s_plaster {p x : Int} {u u2 : Int × (Int → Int)} (hPP : P = P2) (h4 : J4 P K n n2 cm cm2 A0 M6 A1 M9 A2 M22 A3 M23 A4 M24 A5 M25) (hu : u = pPlaster P A0 p x) (hu2 : u2 = pPlaster P2 M6 p x) : u.1 = u2.1 ∧ J4 P K n n2 cm cm2 u.2 u2.2 A1 M9 A2 M22 A3 M23 A4 M24 A5 M25 := by
  subst hPP
  have h4' := h4
  obtain ⟨h0, ⟨a1, a2, a3⟩, hr⟩ := h4
  unfold pPlaster at hu hu2
  by_cases q : 0 ≤ p ∧ p < P
  · rw [if_neg (fun z => z q)] at hu hu2
    by_cases q2 : 1 ≤ x ∧ x ≤ 99
    · rw [if_neg (fun z => z q2)] at hu hu2
      subst hu hu2
      refine ⟨(a3 p q).1, h0, ⟨bd_u a1 (by omega), bd_u a2 (by omega), fun j hj => ?_⟩, hr⟩
      by_cases z : j = p
      · rw [z]
        show uI A0 p x p = uI M6 p x p ∧ 1 ≤ uI A0 p x p
        rw [uI_s, uI_s]
        exact ⟨rfl, q2.1⟩
      · show uI A0 p x j = uI M6 p x j ∧ 1 ≤ uI A0 p x j
        rw [uI_n _ _ z, uI_n _ _ z]
        exact a3 j hj
    · rw [if_pos q2] at hu hu2
      subst hu hu2
      exact ⟨rfl, h4'⟩
  · rw [if_pos q] at hu hu2
    subst hu hu2
    exact ⟨rfl, h4'⟩
theorem s_common {x : Int} {u u2 : Int × Int} (h4 : J4 P K n n2 cm cm2 A0 M6 A1 M9 A2 M22 A3 M23 A4 M24 A5 M25) (hu : u = pCommon cm x) (hu2 : u2 = pCommon cm2 x) : u.1 = u2.1 ∧ J4 P K n n2 u.2 u2.2 A0 M6 A1 M9 A2 M22 A3 M23 A4 M24 A5 M25 := by
  obtain ⟨⟨e1, rfl, hn, hcm⟩, hr⟩ := h4
  rw [← hu] at hu2
  subst hu2
  refine ⟨rfl, ⟨e1, rfl, hn, ?_⟩, hr⟩
  rw [hu]
  unfold pCommon
  split
  · exact hcm
  · next q =>
    show 0 ≤ x ∧ x ≤ 99
    omega
theorem s_buy {p c k : Int} {u u2 : Int × Int × (Int → Int) × (Int → Int) × (Int → Int) × (Int → Int) × (Int → Int)} (h3 : J3 P K P2 K2 T1 M7 T4 M8 T3 M10 T2 M11 kb M12) (h4 : J4 P K n n2 cm cm2 A0 M6 A1 M9 A2 M22 A3 M23 A4 M24 A5 M25) (hu : u = pBuy P K n (fun i c => bitI (T3 i) c) A0 A1 A2 A3 A4 A5 p c k) (hu2 : u2 = pBuy P2 K2 n2 (fun i c => M10 (4 * i + c)) M6 M9 M22 M23 M24 M25 p c k) :
    u.1 = u2.1 ∧ J4 P K u.2.1 u2.2.1 cm cm2 A0 M6 u.2.2.1 u2.2.2.1 u.2.2.2.1 u2.2.2.2.1 u.2.2.2.2.1 u2.2.2.2.2.1 u.2.2.2.2.2.1 u2.2.2.2.2.2.1 u.2.2.2.2.2.2 u2.2.2.2.2.2.2 := by
  obtain ⟨⟨rfl, rfl, hP, hK⟩, -, -, ⟨b1, b2, b3⟩, -, -⟩ := h3
  have h4' := h4
  obtain ⟨⟨rfl, e2, hn, hcm⟩, ⟨a1, a2, a3⟩, ⟨s1, s2, s3⟩, ⟨rfl, rfl, rfl, rfl⟩, ⟨c2, c3, c4, c5⟩, w1, t1, t2⟩ := h4
  unfold pBuy at hu hu2
  by_cases q : (0 ≤ p ∧ p < P) ∧ 0 ≤ c ∧ c < K
  · rw [if_neg (fun z => z q)] at hu hu2
    by_cases q2 : 1 ≤ k ∧ k ≤ 99
    · rw [if_neg (fun z => z q2)] at hu hu2
      dsimp only at hu hu2
      simp only [b3 p c (by omega) (by omega), (a3 p q.1).1, s3 c q.2] at hu
      have hA := (a3 p q.1)
      have hk := mulb (show 0 ≤ k ∧ k ≤ 99 by omega) (a2 p)
      by_cases q3 : M10 (4 * p + c) = 1 ∨ M9 c < k * M6 p
      · rw [if_pos q3] at hu hu2
        subst hu hu2
        exact ⟨rfl, h4'⟩
      · rw [if_neg q3] at hu hu2
        by_cases q4 : 12 ≤ n
        · rw [if_pos q4] at hu hu2
          subst hu hu2
          exact ⟨rfl, h4'⟩
        · rw [if_neg q4] at hu hu2
          subst hu hu2
          have m9 := s2 c
          refine ⟨rfl, ⟨rfl, e2, show 0 ≤ n + 1 ∧ n + 1 ≤ 12 by omega, hcm⟩, ⟨a1, a2, a3⟩, ⟨bd_u s1 (by omega), bd_u s2 (by omega), fun j hj => ?_⟩, ⟨rfl, rfl, rfl, rfl⟩, ⟨bd_u c2 (by omega), bd_u c3 (by omega), bd_u c4 (by omega), bd_u c5 (by omega)⟩, fun j hj => ?_, ?_, ?_⟩
          · show uI A1 c (M9 c - k * M6 p) j = uI M9 c (M9 c - k * M6 p) j
            by_cases z : j = c
            · rw [z, uI_s, uI_s]
            · rw [uI_n _ _ z, uI_n _ _ z]
              exact s3 j hj
          · have hj : 0 ≤ j ∧ j < n + 1 := hj
            show uI A3 n c j < K
            by_cases z : j = n
            · rw [z, uI_s]
              exact q.2.2
            · rw [uI_n _ _ z]
              exact w1 j (by omega)
          · have := stk_buy (c := c) (x := k * M6 p) t1 hn.1
            rw [s3 c q.2] at this
            exact this
          · exact stk_buy (c := c) (x := k * M6 p) t2 hn.1
    · rw [if_pos q2] at hu hu2
      subst hu hu2
      exact ⟨rfl, h4'⟩
  · rw [if_pos q] at hu hu2
    subst hu hu2
    exact ⟨rfl, h4'⟩
theorem s_undo {u u2 : Int × Int × (Int → Int)} (h4 : J4 P K n n2 cm cm2 A0 M6 A1 M9 A2 M22 A3 M23 A4 M24 A5 M25) (hu : u = pUndo n A1 A3 A5) (hu2 : u2 = pUndo n2 M9 M23 M25) : u.1 = u2.1 ∧ J4 P K u.2.1 u2.2.1 cm cm2 A0 M6 u.2.2 u2.2.2 A2 M22 A3 M23 A4 M24 A5 M25 := by
  have h4' := h4
  obtain ⟨⟨rfl, e2, hn, hcm⟩, ha, ⟨s1, s2, s3⟩, ⟨rfl, rfl, rfl, rfl⟩, ⟨c2, c3, c4, c5⟩, w1, t1, t2⟩ := h4
  unfold pUndo at hu hu2
  by_cases q : n ≤ 0
  · rw [if_pos q] at hu hu2
    subst hu hu2
    exact ⟨rfl, h4'⟩
  · rw [if_neg q] at hu hu2
    subst hu hu2
    have x1 := stk_top t1 (by omega) c5 (c3 (n - 1))
    have x2 := stk_top t2 (by omega) c5 (c3 (n - 1))
    have y1 := s1 (A3 (n - 1))
    have y2 := s2 (A3 (n - 1))
    have y5 := c5 (n - 1)
    refine ⟨rfl, ⟨rfl, e2, show 0 ≤ n - 1 ∧ n - 1 ≤ 12 by omega, hcm⟩, ha, ⟨bd_u s1 (by omega), bd_u s2 (by omega), fun j hj => ?_⟩, ⟨rfl, rfl, rfl, rfl⟩, ⟨c2, c3, c4, c5⟩, fun j hj => ?_, stk_undo t1 (by omega), stk_undo t2 (by omega)⟩
    · show uI A1 (A3 (n - 1)) _ j = uI M9 (A3 (n - 1)) _ j
      by_cases z : j = A3 (n - 1)
      · rw [z, uI_s, uI_s, s3 _ (by rw [← z]; exact hj)]
      · rw [uI_n _ _ z, uI_n _ _ z]
        exact s3 j hj
    · have hj : 0 ≤ j ∧ j < n - 1 := hj
      exact w1 j (by omega)
theorem e_sale {x w : Int} (h4 : J4 P K n n2 cm cm2 A0 M6 A1 M9 A2 M22 A3 M23 A4 M24 A5 M25) : pSale n A2 A3 A4 A5 x w = pSale n2 M22 M23 M24 M25 x w := by
  obtain ⟨⟨rfl, -⟩, -, -, ⟨rfl, rfl, rfl, rfl⟩, -⟩ := h4
  rfl
theorem e_truly {p c w : Int} (h3 : J3 P K P2 K2 T1 M7 T4 M8 T3 M10 T2 M11 kb M12) (h4 : J4 P K n n2 cm cm2 A0 M6 A1 M9 A2 M22 A3 M23 A4 M24 A5 M25) : pTruly P K A0 T4 p c w = pTruly P2 K2 M6 M8 p c w := by
  obtain ⟨⟨rfl, rfl, hP, hK⟩, -, ⟨r1, r2, r3⟩, -⟩ := h3
  obtain ⟨-, ⟨a1, a2, a3⟩, -⟩ := h4
  unfold pTruly
  by_cases q : (0 ≤ p ∧ p < P) ∧ 0 ≤ c ∧ c < K
  · rw [(a3 p q.1).1, (r3 c q.2).1]
  · rw [if_pos q, if_pos q]
theorem e_when {p c x y : Int} (h3 : J3 P K P2 K2 T1 M7 T4 M8 T3 M10 T2 M11 kb M12) (h4 : J4 P K n n2 cm cm2 A0 M6 A1 M9 A2 M22 A3 M23 A4 M24 A5 M25) : pWhen P K A0 T4 p c x y = pWhen P2 K2 M6 M8 p c x y := by
  obtain ⟨⟨rfl, rfl, hP, hK⟩, -, ⟨r1, r2, r3⟩, -⟩ := h3
  obtain ⟨-, ⟨a1, a2, a3⟩, -⟩ := h4
  unfold pWhen
  by_cases q : (0 ≤ p ∧ p < P) ∧ 0 ≤ c ∧ c < K
  · rw [(a3 p q.1).1, (r3 c q.2).1]
  · rw [if_pos q, if_pos q]
theorem e_br {p v k : Int} (h3 : J3 P K P2 K2 T1 M7 T4 M8 T3 M10 T2 M11 kb M12) (h4 : J4 P K n n2 cm cm2 A0 M6 A1 M9 A2 M22 A3 M23 A4 M24 A5 M25) : brI P A0 T2 p v k = brI P2 M6 M11 p v k := by
  obtain ⟨⟨rfl, rfl, hP, hK⟩, -, -, -, ⟨c1, c2, c3⟩, -⟩ := h3
  obtain ⟨-, ⟨a1, a2, a3⟩, -⟩ := h4
  unfold brI
  exact sZ_c (fun j a b => by rw [(a3 j ⟨a, b⟩).1, c3 j ⟨a, b⟩])
theorem e_earned {p v k : Int} (h3 : J3 P K P2 K2 T1 M7 T4 M8 T3 M10 T2 M11 kb M12) (h4 : J4 P K n n2 cm cm2 A0 M6 A1 M9 A2 M22 A3 M23 A4 M24 A5 M25) : pEarned P A0 T2 p v k = pEarned P2 M6 M11 p v k := by
  unfold pEarned
  rw [e_br h3 h4]
theorem e_ask {v k : Int} (h3 : J3 P K P2 K2 T1 M7 T4 M8 T3 M10 T2 M11 kb M12) (h4 : J4 P K n n2 cm cm2 A0 M6 A1 M9 A2 M22 A3 M23 A4 M24 A5 M25) : pAsk P A0 T2 v k = pAsk P2 M6 M11 v k := by
  unfold pAsk
  rw [show (fun p => brI P A0 T2 p v k) = (fun p => brI P2 M6 M11 p v k) from funext (fun p => e_br h3 h4)]
theorem e_ls {x : Int} (h3 : J3 P K P2 K2 T1 M7 T4 M8 T3 M10 T2 M11 kb M12) (h4 : J4 P K n n2 cm cm2 A0 M6 A1 M9 A2 M22 A3 M23 A4 M24 A5 M25) : lsI P A0 (fun j => bitI kb j) x = lsI P2 M6 M12 x := by
  obtain ⟨⟨rfl, rfl, hP, hK⟩, -, -, -, -, ⟨k1, k2, k3⟩⟩ := h3
  obtain ⟨-, ⟨a1, a2, a3⟩, -⟩ := h4
  unfold lsI
  exact sZ_c (fun j a b => by simp only [(a3 j ⟨a, b⟩).1, k3 j ⟨a, b⟩])
theorem e_losers {x : Int} (h3 : J3 P K P2 K2 T1 M7 T4 M8 T3 M10 T2 M11 kb M12) (h4 : J4 P K n n2 cm cm2 A0 M6 A1 M9 A2 M22 A3 M23 A4 M24 A5 M25) : pLosers P A0 (fun j => bitI kb j) x = pLosers P2 M6 M12 x := by
  unfold pLosers
  rw [e_ls h3 h4]
theorem e_fairest (h3 : J3 P K P2 K2 T1 M7 T4 M8 T3 M10 T2 M11 kb M12) (h4 : J4 P K n n2 cm cm2 A0 M6 A1 M9 A2 M22 A3 M23 A4 M24 A5 M25) : pFairest P A0 (fun j => bitI kb j) = pFairest P2 M6 M12 := by
  unfold pFairest
  rw [show (fun e => - lsI P A0 (fun j => bitI kb j) e) = (fun e => - lsI P2 M6 M12 e) from funext (fun e => by rw [e_ls h3 h4])]
theorem s_come {p x : Int} {u u2 : Int × (Int → Int)} (h3 : J3 P K P2 K2 T1 M7 T4 M8 T3 M10 T2 M11 kb M12) (hu : u = pCome P T2 p x) (hu2 : u2 = pCome P2 M11 p x) : u.1 = u2.1 ∧ J3 P K P2 K2 T1 M7 T4 M8 T3 M10 u.2 u2.2 kb M12 := by
  have h3' := h3
  obtain ⟨⟨rfl, rfl, hP, hK⟩, hf, hr, hb, ⟨c1, c2, c3⟩, hk⟩ := h3
  unfold pCome at hu hu2
  by_cases q : 0 ≤ p ∧ p < P
  · rw [if_neg (fun z => z q)] at hu hu2
    by_cases q2 : 0 ≤ x ∧ x ≤ 9
    · rw [if_neg (fun z => z q2)] at hu hu2
      subst hu hu2
      refine ⟨c3 p q, ⟨rfl, rfl, hP, hK⟩, hf, hr, hb, ⟨bd_u c1 q2, bd_u c2 q2, fun j hj => ?_⟩, hk⟩
      show uI T2 p x j = uI M11 p x j
      by_cases z : j = p
      · rw [z, uI_s, uI_s]
      · rw [uI_n _ _ z, uI_n _ _ z]
        exact c3 j hj
    · rw [if_pos q2] at hu hu2
      subst hu hu2
      exact ⟨rfl, h3'⟩
  · rw [if_pos q] at hu hu2
    subst hu hu2
    exact ⟨rfl, h3'⟩
theorem xor63 {x p : Int} (hx : 0 ≤ x ∧ x ≤ 63) (hp : 0 ≤ p ∧ p < 6) : 0 ≤ iXor x (2 ^ p.toNat) ∧ iXor x (2 ^ p.toNat) ≤ 63 := by
  have h1 : ((2 : Int) ^ p.toNat).toNat < 2 ^ 6 := by
    rw [p2_nat]
    exact Nat.pow_lt_pow_right (by decide) (by omega)
  have h2 : x.toNat < 2 ^ 6 := by
    have : (2 : Nat) ^ 6 = 64 := rfl
    omega
  have h3 := Nat.xor_lt_two_pow h2 h1
  unfold iXor
  have : (2 : Nat) ^ 6 = 64 := rfl
  omega
theorem s_keeper {p w : Int} {u : Int × Int} {u2 : Int × (Int → Int)} (hw : w = 0 ∨ w = 1) (h3 : J3 P K P2 K2 T1 M7 T4 M8 T3 M10 T2 M11 kb M12) (hu : u.1 = pKeeper P (fun j => bitI kb j) p w ∧ u.2 = if 0 ≤ p ∧ p < P ∧ ¬ bitI kb p = w then iXor kb (2 ^ p.toNat) else kb) (hu2 : u2.1 = pKeeper P2 M12 p w ∧ u2.2 = if 0 ≤ p ∧ p < P2 then uI M12 p w else M12) :
    u.1 = u2.1 ∧ J3 P K P2 K2 T1 M7 T4 M8 T3 M10 T2 M11 u.2 u2.2 := by
  obtain ⟨⟨rfl, rfl, hP, hK⟩, hf, hr, hb, hc, ⟨k1, k2, k3⟩⟩ := h3
  obtain ⟨x1, y1⟩ := hu
  obtain ⟨x2, y2⟩ := hu2
  rw [x1, x2, y1, y2]
  unfold pKeeper
  dsimp only
  by_cases q : 0 ≤ p ∧ p < P
  · have kp := k3 p q
    have b01 := bitI_01 kb p
    simp only [kp]
    rw [if_pos q]
    refine ⟨trivial, ⟨rfl, rfl, hP, hK⟩, hf, hr, hb, hc, ?_⟩
    by_cases z : bitI kb p = w
    · rw [if_neg (fun t => t.2.2 (by omega))]
      refine ⟨k1, bd_u k2 (by omega), fun j hj => ?_⟩
      by_cases t : j = p
      · rw [t, uI_s]
        exact z
      · rw [uI_n _ _ t]
        exact k3 j hj
    · rw [if_pos ⟨q.1, q.2, by omega⟩]
      refine ⟨xor63 k1 (by omega), bd_u k2 (by omega), fun j hj => ?_⟩
      rw [bitI_xor k1.1 (Int.le_of_lt (p2_pos _)), bitI_p2 q.1 hj.1]
      have b2 := bitI_01 kb j
      by_cases t : j = p
      · rw [t, uI_s, if_pos rfl]
        split <;> omega
      · rw [uI_n _ _ t, if_neg t, ← k3 j hj]
        split <;> omega
  · rw [if_pos q, if_pos q, if_neg q, if_neg (fun z => q ⟨z.1, z.2.1⟩)]
    exact ⟨rfl, ⟨rfl, rfl, hP, hK⟩, hf, hr, hb, hc, k1, k2, k3⟩
theorem e_ring {m m2 p w : Int} {E0 M27 E1 M28 E2 M29 E3 M30 E4 M31 M42 : Int → Int} (hPP : P = P2) (h4 : J4 P K n n2 cm cm2 A0 M6 A1 M9 A2 M22 A3 M23 A4 M24 A5 M25) (h6 : J6 m m2 E0 M27 E1 M28 E2 M29 E3 M30 E4 M31 M42) : pRing P (rgB E1 E0 (gotE E1 E3 (A0 p)) (paidE E0 E2 E4) m.toNat) p w = pRing P2 (rgB M28 M27 (gotE M28 M30 (M6 p)) (paidE M27 M29 M31) m2.toNat) p w := by
  subst hPP
  obtain ⟨⟨rfl, -⟩, ⟨rfl, rfl, rfl, rfl, rfl⟩, -⟩ := h6
  obtain ⟨-, ⟨a1, a2, a3⟩, -⟩ := h4
  unfold pRing
  by_cases q : 0 ≤ p ∧ p < P
  · rw [(a3 p q).1]
  · rw [if_pos q, if_pos q]
theorem e_ringAt {m m2 p w : Int} {E0 M27 E1 M28 E2 M29 E3 M30 E4 M31 M42 : Int → Int} (hPP : P = P2) (h4 : J4 P K n n2 cm cm2 A0 M6 A1 M9 A2 M22 A3 M23 A4 M24 A5 M25) (h6 : J6 m m2 E0 M27 E1 M28 E2 M29 E3 M30 E4 M31 M42) : pRingAt P (rgB E1 E0 (gotE E1 E3 (A0 p)) (paidE E0 E2 E4) m.toNat) p w = pRingAt P2 (rgB M28 M27 (gotE M28 M30 (M6 p)) (paidE M27 M29 M31) m2.toNat) p w := by
  subst hPP
  obtain ⟨⟨rfl, -⟩, ⟨rfl, rfl, rfl, rfl, rfl⟩, -⟩ := h6
  obtain ⟨-, ⟨a1, a2, a3⟩, -⟩ := h4
  unfold pRingAt
  by_cases q : 0 ≤ p ∧ p < P
  · rw [(a3 p q).1]
  · rw [if_pos q, if_pos q]
end EQ
theorem s_exchange {m m2 a b x y z : Int} {E0 M27 E1 M28 E2 M29 E3 M30 E4 M31 M42 : Int → Int} {u u2 : Int × Int × (Int → Int) × (Int → Int) × (Int → Int) × (Int → Int) × (Int → Int)} (h6 : J6 m m2 E0 M27 E1 M28 E2 M29 E3 M30 E4 M31 M42) (hu : u = pExchange m E0 E1 E2 E3 E4 a b x y z) (hu2 : u2 = pExchange m2 M27 M28 M29 M30 M31 a b x y z) :
    u.1 = u2.1 ∧ J6 u.2.1 u2.2.1 u.2.2.1 u2.2.2.1 u.2.2.2.1 u2.2.2.2.1 u.2.2.2.2.1 u2.2.2.2.2.1 u.2.2.2.2.2.1 u2.2.2.2.2.2.1 u.2.2.2.2.2.2 u2.2.2.2.2.2.2 M42 := by
  have h6' := h6
  obtain ⟨⟨rfl, hm⟩, ⟨rfl, rfl, rfl, rfl, rfl⟩, ⟨b0, b1, b2, b3, b4⟩, hp, hd, h42⟩ := h6
  rw [← hu] at hu2
  subst hu2
  refine ⟨rfl, ?_⟩
  unfold pExchange at hu
  by_cases q : (0 ≤ a ∧ a ≤ 2) ∧ 0 ≤ b ∧ b ≤ 2
  · rw [if_neg (fun z => z q)] at hu
    by_cases q2 : ¬ a = b ∧ (1 ≤ x ∧ x ≤ 9) ∧ (1 ≤ y ∧ y ≤ 9) ∧ 1 ≤ z ∧ z ≤ 99
    · rw [if_neg (fun z => z q2)] at hu
      by_cases q3 : 8 ≤ m
      · rw [if_pos q3] at hu
        subst hu
        exact h6'
      · rw [if_neg q3] at hu
        subst hu
        refine ⟨⟨rfl, show 0 ≤ m + 1 ∧ m + 1 ≤ 8 by omega⟩, ⟨rfl, rfl, rfl, rfl, rfl⟩, ⟨bd_u b0 q.1, bd_u b1 q.2, bd_u b2 (by omega), bd_u b3 (by omega), bd_u b4 (by omega)⟩, fun j hj => ?_, fun j hj => ?_, h42⟩
        · have hj : 0 ≤ j ∧ j < m + 1 := hj
          show 1 ≤ paidE (uI E0 m a) (uI E2 m x) (uI E4 m z) j
          unfold paidE
          by_cases t : j = m
          · rw [t, uI_s, uI_s, uI_s]
            have := Int.mul_le_mul q2.2.1.1 q2.2.2.2.1 (by decide) (by omega)
            split <;> omega
          · rw [uI_n _ _ t, uI_n _ _ t, uI_n _ _ t]
            exact hp j (by omega)
        · have hj : 0 ≤ j ∧ j < m + 1 := hj
          show ¬ uI E0 m a j = uI E1 m b j
          by_cases t : j = m
          · rw [t, uI_s, uI_s]
            exact q2.1
          · rw [uI_n _ _ t, uI_n _ _ t]
            exact hd j (by omega)
    · rw [if_pos q2] at hu
      subst hu
      exact h6'
  · rw [if_pos q] at hu
    subst hu
    exact h6'
theorem s_unchange {m m2 : Int} {E0 M27 E1 M28 E2 M29 E3 M30 E4 M31 M42 : Int → Int} (h6 : J6 m m2 E0 M27 E1 M28 E2 M29 E3 M30 E4 M31 M42) : J6 0 0 E0 M27 E1 M28 E2 M29 E3 M30 E4 M31 M42 := by
  obtain ⟨-, he, hb, -, -, h42⟩ := h6
  exact ⟨⟨rfl, by omega⟩, he, hb, fun j hj => by omega, fun j hj => by omega, h42⟩
theorem s_42 {m m2 : Int} {E0 M27 E1 M28 E2 M29 E3 M30 E4 M31 M42 N42 : Int → Int} (h6 : J6 m m2 E0 M27 E1 M28 E2 M29 E3 M30 E4 M31 M42) (h : bd N42 0 7) : J6 m m2 E0 M27 E1 M28 E2 M29 E3 M30 E4 M31 N42 := by
  obtain ⟨h0, he, hb, h1, h2, -⟩ := h6
  exact ⟨h0, he, hb, h1, h2, h⟩
