/-! one part of the text, as the reference reads it -/
def mdPerson (n : Int) (S : Int → Int) (p P : Int) (A B : Int → Int) : Int × Int × Int × (Int → Int) × (Int → Int) :=
  let x := twP n S p 1
  let y := if x.1 = -9 then (-9, x.2) else twP n S x.2 0
  if y.1 = -9 then (0, y.2, P, A, B) else (1, y.2, P + 1, uI A P x.1, uI B P y.1)
def mdCounter (n : Int) (S : Int → Int) (p K : Int) (A B : Int → Int) : Int × Int × Int × (Int → Int) × (Int → Int) :=
  let x := twP n S p 1
  let y := if x.1 = -9 then (-9, x.2) else twP n S x.2 0
  let z := if y.1 = -9 then (-9, y.2) else twP n S y.2 0
  if z.1 = -9 then (0, z.2, K, A, B) else (1, z.2, K + 1, uI A K x.1, uI B K (100 * y.1 + z.1))
def rowM (G : Int → Int) (K i : Int) : Int := sZ (fun c => G (4 * i + c)) K
def anyM (G : Int → Int) (K P : Int) : Int := sZ (fun i => rowM G K i) P
def chM (n : Int) (S : Int → Int) (p : Int) : Int := if p < n then S p - 48 else -9
def mdBar (n : Int) (S : Int → Int) (p P K : Int) (G : Int → Int) : Int × Int × (Int → Int) :=
  if ¬ ((0 ≤ chM n S p ∧ chM n S p ≤ P - 1) ∧ rowM G K (chM n S p) < K) then (0, p, G)
  else if ¬ ((0 ≤ chM n S (p + 1) ∧ chM n S (p + 1) ≤ K - 1) ∧ G (4 * chM n S p + chM n S (p + 1)) = 0) then (0, p + 1, G)
  else (1, p + 1 + 1, uI G (4 * chM n S p + chM n S (p + 1)) 1)
def mdPart (n : Int) (S : Int → Int) : (Int × Int × Int × (Int → Int) × (Int → Int) × (Int → Int) × (Int → Int) × (Int → Int)) → Int × (Int × Int × Int × (Int → Int) × (Int → Int) × (Int → Int) × (Int → Int) × (Int → Int))
  | (p, P, K, A, B, Q, R, G) => if S p = 65 ∧ P < 6 then ((mdPerson n S (p + 1) P A B).1, (mdPerson n S (p + 1) P A B).2.1, (mdPerson n S (p + 1) P A B).2.2.1, K, (mdPerson n S (p + 1) P A B).2.2.2.1, (mdPerson n S (p + 1) P A B).2.2.2.2, Q, R, G)
    else if S p = 67 ∧ K < 4 then ((mdCounter n S (p + 1) K Q R).1, (mdCounter n S (p + 1) K Q R).2.1, P, (mdCounter n S (p + 1) K Q R).2.2.1, A, B, (mdCounter n S (p + 1) K Q R).2.2.2.1, (mdCounter n S (p + 1) K Q R).2.2.2.2, G)
    else if S p = 78 ∧ anyM G K P < P * K then ((mdBar n S (p + 1) P K G).1, (mdBar n S (p + 1) P K G).2.1, P, K, A, B, Q, R, (mdBar n S (p + 1) P K G).2.2)
    else (0, p, P, K, A, B, Q, R, G)
def rmR : ((Nat → Int) × (Nat → Int) × (Int → Int) × (Int → Int) × (Int → Int) × (Int → Int) × (Int → Int)) → (Int × Int × Int × (Int → Int) × (Int → Int) × (Int → Int) × (Int → Int) × (Int → Int)) → Prop
  | (g, h, T0, T1, T3, T4, T5), (_, P, K, A, B, Q, R, G) => (g 0 = 0 ∧ h 6 = P ∧ h 7 = K) ∧ (∀ j : Int, 0 ≤ j ∧ j < P → T0 j = A j ∧ T1 j = B j) ∧ (∀ j : Int, 0 ≤ j ∧ j < K → T4 j = Q j ∧ T5 j = R j) ∧ bd G 0 1 ∧
    (∀ i c : Int, 0 ≤ i ∧ i < 6 → 0 ≤ c ∧ c < 4 → bitI (T3 i) c = G (4 * i + c)) ∧ (∀ i c : Int, 0 ≤ i ∧ i < 6 → 0 ≤ c ∧ c < 4 → (P ≤ i ∨ K ≤ c) → G (4 * i + c) = 0) ∧ h 8 = anyM G K P
theorem sZ_zero {g : Int → Int} {n : Int} (h : ∀ j : Int, 0 ≤ j → j < n → g j = 0) : sZ g n = 0 := by
  rw [sZ_c (h := fun _ => 0) h]
  unfold sZ
  induction n.toNat with
  | zero => rfl
  | succ k ih =>
    show sN _ k + 0 = 0
    rw [ih]
    rfl
theorem sZ_ext {g : Int → Int} {n m : Int} (h0 : 0 ≤ n) (hm : n ≤ m) (h : ∀ j : Int, n ≤ j → j < m → g j = 0) : sZ g m = sZ g n := by
  obtain ⟨k, rfl⟩ : ∃ k : Nat, m = n + k := ⟨(m - n).toNat, by omega⟩
  clear hm
  induction k with
  | zero => rw [show n + ((0 : Nat) : Int) = n by omega]
  | succ k ih =>
    rw [show n + ((k + 1 : Nat) : Int) = (n + (k : Int)) + 1 by push_cast; omega, sZ_s _ (by omega), ih (fun j a b => h j a (by push_cast; omega)), h (n + k) (by omega) (by push_cast; omega)]
    omega
theorem sZ_inc {g g' : Int → Int} {n i : Int} (hi : 0 ≤ i ∧ i < n) (h1 : g' i = g i + 1) (h2 : ∀ j : Int, ¬ j = i → g' j = g j) : sZ g' n = sZ g n + 1 := by
  have h0 := hi.1
  obtain ⟨k, rfl⟩ : ∃ k : Nat, n = i + 1 + k := ⟨(n - i - 1).toNat, by omega⟩
  clear hi
  induction k with
  | zero =>
    rw [show i + 1 + ((0 : Nat) : Int) = i + 1 by omega, sZ_s _ h0, sZ_s _ h0, h1, sZ_c (g := g') (h := g) (fun j _ b => h2 j (by omega))]
    omega
  | succ k ih =>
    rw [show i + 1 + ((k + 1 : Nat) : Int) = (i + 1 + (k : Int)) + 1 by push_cast; omega, sZ_s _ (by omega), sZ_s _ (by omega), ih, h2 _ (by omega)]
    omega
theorem pop_row {T G : Int → Int} {i K : Int} (hT : 0 ≤ T i ∧ T i ≤ 15) (hK : 0 ≤ K ∧ K ≤ 4) (hi : 0 ≤ i ∧ i < 6) (hb : ∀ i c : Int, 0 ≤ i ∧ i < 6 → 0 ≤ c ∧ c < 4 → bitI (T i) c = G (4 * i + c)) (hz : ∀ c : Int, 0 ≤ c ∧ c < 4 → K ≤ c → G (4 * i + c) = 0) : popI (T i) = rowM G K i := by
  unfold popI rowM
  rw [sZ_ext (n := 4) (m := 20) (by decide) (by decide) (fun j a b => bitI_hi (x := 4) hT.1 (by show T i < 16; omega) a (by decide)), sZ_c (h := fun c => G (4 * i + c)) (fun c a b => hb i c hi ⟨a, b⟩)]
  exact sZ_ext hK.1 hK.2 (fun j a b => hz j ⟨by omega, b⟩ a)
def mdE (S : Int → Int) (s0 : ((Nat → Int) × (Nat → Int) × (Int → Int) × (Int → Int) × (Int → Int) × (Int → Int) × (Int → Int))) (n p : Int) : Int × (Int × Int × Int × (Int → Int) × (Int → Int) × (Int → Int) × (Int → Int) × (Int → Int)) → Prop
  | (z, m) => (z = 1 ∧ (p < m.1 ∧ m.1 ≤ n) ∧ ∃ s : ((Nat → Int) × (Nat → Int) × (Int → Int) × (Int → Int) × (Int → Int) × (Int → Int) × (Int → Int)), adv S s0 m.1 s ∧ rmR s m) ∨ (z = 0 ∧ stp S s0 n m.1)
section MD
variable {S : Int → Int} {s0 : ((Nat → Int) × (Nat → Int) × (Int → Int) × (Int → Int) × (Int → Int) × (Int → Int) × (Int → Int))} {p n P K : Int} {g h : Nat → Int} {T0 T1 T3 T4 T5 A B Q R G : Int → Int}
theorem opens_m {c : Int} (e : g 0 = 0) : rdTakes c (g, h, T0, T1, T3, T4, T5) = (if c = 65 then bI (h 6 < 6) else if c = 67 then bI (h 7 < 4) else bI (c = 78 ∧ h 8 < h 6 * h 7), up (up (up g 0 c) 1 0) 2 0, h, T0, T1, T3, T4, T5) := by
  rw [rdTakes_m, if_pos e]
  rfl
theorem mdPerson_1 (e : (twP n S p 1).1 = -9) : mdPerson n S p P A B = (0, (twP n S p 1).2, P, A, B) := by
  unfold mdPerson
  dsimp only
  rw [if_pos e]
  rfl
theorem mdPerson_2 (e : ¬ (twP n S p 1).1 = -9) (e2 : (twP n S (twP n S p 1).2 0).1 = -9) : mdPerson n S p P A B = (0, (twP n S (twP n S p 1).2 0).2, P, A, B) := by
  unfold mdPerson
  dsimp only
  rw [if_neg e, if_pos e2]
theorem mdPerson_3 (e : ¬ (twP n S p 1).1 = -9) (e2 : ¬ (twP n S (twP n S p 1).2 0).1 = -9) : mdPerson n S p P A B = (1, (twP n S (twP n S p 1).2 0).2, P + 1, uI A P (twP n S p 1).1, uI B P (twP n S (twP n S p 1).2 0).1) := by
  unfold mdPerson
  dsimp only
  rw [if_neg e, if_neg e2]
theorem mdCounter_1 (e : (twP n S p 1).1 = -9) : mdCounter n S p P A B = (0, (twP n S p 1).2, P, A, B) := by
  unfold mdCounter
  dsimp only
  rw [if_pos e]
  rfl
theorem mdCounter_2 (e : ¬ (twP n S p 1).1 = -9) (e2 : (twP n S (twP n S p 1).2 0).1 = -9) : mdCounter n S p P A B = (0, (twP n S (twP n S p 1).2 0).2, P, A, B) := by
  unfold mdCounter
  dsimp only
  rw [if_neg e, if_pos e2]
  rfl
theorem mdCounter_3 {q : Int} (e : ¬ (twP n S p 1).1 = -9) (e2 : ¬ (twP n S (twP n S p 1).2 0).1 = -9) (hq : (twP n S (twP n S p 1).2 0).2 = q) (e3 : (twP n S q 0).1 = -9) : mdCounter n S p P A B = (0, (twP n S q 0).2, P, A, B) := by
  subst hq
  unfold mdCounter
  dsimp only
  rw [if_neg e, if_neg e2, if_pos e3]
theorem mdCounter_4 {q : Int} (e : ¬ (twP n S p 1).1 = -9) (e2 : ¬ (twP n S (twP n S p 1).2 0).1 = -9) (hq : (twP n S (twP n S p 1).2 0).2 = q) (e3 : ¬ (twP n S q 0).1 = -9) : mdCounter n S p P A B = (1, (twP n S q 0).2, P + 1, uI A P (twP n S p 1).1, uI B P (100 * (twP n S (twP n S p 1).2 0).1 + (twP n S q 0).1)) := by
  subst hq
  unfold mdCounter
  dsimp only
  rw [if_neg e, if_neg e2, if_neg e3]
theorem mdPart_A (hA : adv S s0 p (g, h, T0, T1, T3, T4, T5)) (hp : 0 ≤ p ∧ p < n) (hr : rmR (g, h, T0, T1, T3, T4, T5) (p, P, K, A, B, Q, R, G)) (b6 : 0 ≤ P ∧ P < 6) (b7 : 0 ≤ K ∧ K ≤ 4) (e : S p = 65) : mdE S s0 n p (mdPart n S (p, P, K, A, B, Q, R, G)) := by
  obtain ⟨⟨r0, r6, r7⟩, ra, rc, rb, rbit, rz, r8⟩ := hr
  have hm : mdPart n S (p, P, K, A, B, Q, R, G) = ((mdPerson n S (p + 1) P A B).1, (mdPerson n S (p + 1) P A B).2.1, (mdPerson n S (p + 1) P A B).2.2.1, K, (mdPerson n S (p + 1) P A B).2.2.2.1, (mdPerson n S (p + 1) P A B).2.2.2.2, Q, R, G) := if_pos ⟨e, b6.2⟩
  rw [hm]
  have o1 := opens_m (h := h) (T0 := T0) (T1 := T1) (T3 := T3) (T4 := T4) (T5 := T5) (c := S p) r0
  rw [if_pos e, bI_t (by omega)] at o1
  have k1 := adv_s hA o1 rfl
  rcases tw_A (n := n) k1 (by omega) (show S p = 65 from e) rfl rfl with ⟨w1, w2⟩ | ⟨w1, w2, w3, s2, w4, g2, ⟨u0, u1, u2⟩, w5⟩
  · rw [mdPerson_1 w1]
    exact Or.inr ⟨rfl, w2⟩
  · subst w5
    have n1 : ¬ (twP n S (p + 1) 1).1 = -9 := by omega
    rcases tw_B (n := n) w4 w3 u0 u1 u2 with ⟨x1, x2⟩ | ⟨x1, x2, x3, s3, x4, g3, x5, x6⟩
    · rw [← w2] at x1 x2
      rw [mdPerson_2 n1 x1]
      exact Or.inr ⟨rfl, x2⟩
    · subst x6
      have n2 : ¬ (twP n S (twP n S (p + 1) 1).2 0).1 = -9 := by rw [w2]; omega
      rw [mdPerson_3 n1 n2, w2, x2]
      dsimp only
      refine Or.inl ⟨rfl, ⟨by show p < p + 1 + 1 + 1 + 1 + 1; omega, x3⟩, _, x4, ⟨x5, show h 6 + 1 = P + 1 by omega, r7⟩, ?_, rc, rb, rbit, ?_, ?_⟩
      · intro j hj
        rw [r6]
        by_cases q : j = P
        · rw [q]
          exact ⟨by rw [uI_s, uI_s], by rw [uI_s, uI_s]⟩
        · rw [uI_n _ _ q, uI_n _ _ q, uI_n _ _ q, uI_n _ _ q]
          exact ra j (by omega)
      · intro i c hi hc hh
        exact rz i c hi hc (by omega)
      · show h 8 = anyM G K (P + 1)
        unfold anyM
        rw [sZ_s _ b6.1, show rowM G K P = 0 from sZ_zero (fun c a b => rz P c b6 ⟨a, by omega⟩ (Or.inl (Int.le_refl _)))]
        have r8 : h 8 = sZ (fun i => rowM G K i) P := r8
        omega
theorem mdPart_C (hA : adv S s0 p (g, h, T0, T1, T3, T4, T5)) (hp : 0 ≤ p ∧ p < n) (hr : rmR (g, h, T0, T1, T3, T4, T5) (p, P, K, A, B, Q, R, G)) (b6 : 0 ≤ P ∧ P ≤ 6) (b7 : 0 ≤ K ∧ K < 4) (e : S p = 67) : mdE S s0 n p (mdPart n S (p, P, K, A, B, Q, R, G)) := by
  obtain ⟨⟨r0, r6, r7⟩, ra, rc, rb, rbit, rz, r8⟩ := hr
  have hm : mdPart n S (p, P, K, A, B, Q, R, G) = ((mdCounter n S (p + 1) K Q R).1, (mdCounter n S (p + 1) K Q R).2.1, P, (mdCounter n S (p + 1) K Q R).2.2.1, A, B, (mdCounter n S (p + 1) K Q R).2.2.2.1, (mdCounter n S (p + 1) K Q R).2.2.2.2, G) := by
    show (if S p = 65 ∧ P < 6 then _ else if S p = 67 ∧ K < 4 then _ else _ : Int × (Int × Int × Int × (Int → Int) × (Int → Int) × (Int → Int) × (Int → Int) × (Int → Int))) = _
    rw [if_neg (by omega), if_pos ⟨e, b7.2⟩]
  rw [hm]
  have o1 := opens_m (h := h) (T0 := T0) (T1 := T1) (T3 := T3) (T4 := T4) (T5 := T5) (c := S p) r0
  rw [if_neg (by omega), if_pos e, bI_t (by omega)] at o1
  have k1 := adv_s hA o1 rfl
  rcases tw_C (n := n) k1 (by omega) (show S p = 67 from e) rfl rfl with ⟨w1, w2⟩ | ⟨w1, w2, w3, s2, w4, g2, ⟨u0, u1, u2⟩, w5⟩
  · rw [mdCounter_1 w1]
    exact Or.inr ⟨rfl, w2⟩
  · subst w5
    have n1 : ¬ (twP n S (p + 1) 1).1 = -9 := by omega
    rcases tw_D (n := n) w4 w3 u0 u1 u2 with ⟨x1, x2⟩ | ⟨x1, x2, x3, s3, x4, g3, ⟨v0, v1, v2⟩, x6⟩
    · rw [← w2] at x1 x2
      rw [mdCounter_2 n1 x1]
      exact Or.inr ⟨rfl, x2⟩
    · subst x6
      have n2 : ¬ (twP n S (twP n S (p + 1) 1).2 0).1 = -9 := by rw [w2]; omega
      have q2 : (twP n S (twP n S (p + 1) 1).2 0).2 = p + 1 + 1 + 1 + 1 + 1 := by rw [w2]; exact x2
      rcases tw_E (n := n) x4 x3 v0 v1 v2 with ⟨y1, y2⟩ | ⟨y1, y2, y3, s4, y4, g4, y5, y6⟩
      · rw [mdCounter_3 n1 n2 q2 y1]
        exact Or.inr ⟨rfl, y2⟩
      · subst y6
        rw [mdCounter_4 n1 n2 q2 (by omega), w2, y2]
        dsimp only
        refine Or.inl ⟨rfl, ⟨by show p < p + 1 + 1 + 1 + 1 + 1 + 1 + 1; omega, y3⟩, _, y4, ⟨y5, r6, show h 7 + 1 = K + 1 by omega⟩, ra, ?_, rb, rbit, ?_, ?_⟩
        · intro j hj
          rw [r7]
          by_cases q : j = K
          · rw [q]
            exact ⟨by rw [uI_s, uI_s], by rw [uI_s, uI_s]⟩
          · rw [uI_n _ _ q, uI_n _ _ q, uI_n _ _ q, uI_n _ _ q]
            exact rc j (by omega)
        · intro i c hi hc hh
          exact rz i c hi hc (by omega)
        · show h 8 = anyM G (K + 1) P
          have r8 : h 8 = sZ (fun i => rowM G K i) P := r8
          rw [r8]
          unfold anyM
          refine sZ_c (fun i a b => ?_)
          unfold rowM
          rw [sZ_s _ b7.1, rz i K ⟨a, by omega⟩ ⟨b7.1, b7.2⟩ (Or.inr (Int.le_refl _))]
          omega
theorem mdPart_N (hA : adv S s0 p (g, h, T0, T1, T3, T4, T5)) (hp : 0 ≤ p ∧ p < n) (hr : rmR (g, h, T0, T1, T3, T4, T5) (p, P, K, A, B, Q, R, G)) (b6 : 0 ≤ P ∧ P ≤ 6) (b7 : 0 ≤ K ∧ K ≤ 4) (bT : bd T3 0 15) (e : S p = 78) : mdE S s0 n p (mdPart n S (p, P, K, A, B, Q, R, G)) := by
  obtain ⟨⟨r0, r6, r7⟩, ra, rc, rb, rbit, rz, r8⟩ := hr
  have r8 : h 8 = anyM G K P := r8
  have o1 := opens_m (h := h) (T0 := T0) (T1 := T1) (T3 := T3) (T4 := T4) (T5 := T5) (c := S p) r0
  rw [if_neg (by omega), if_neg (by omega), r6, r7, r8] at o1
  by_cases an : anyM G K P < P * K
  · have hm : mdPart n S (p, P, K, A, B, Q, R, G) = ((mdBar n S (p + 1) P K G).1, (mdBar n S (p + 1) P K G).2.1, P, K, A, B, Q, R, (mdBar n S (p + 1) P K G).2.2) := by
      show (if S p = 65 ∧ P < 6 then _ else if S p = 67 ∧ K < 4 then _ else if S p = 78 ∧ anyM G K P < P * K then _ else _ : Int × (Int × Int × Int × (Int → Int) × (Int → Int) × (Int → Int) × (Int → Int) × (Int → Int))) = _
      rw [if_neg (by omega), if_neg (by omega), if_pos ⟨e, an⟩]
    rw [hm]
    rw [bI_t ⟨e, an⟩] at o1
    have k1 := adv_s hA o1 rfl
    have e0 : up (up (up g 0 (S p)) 1 0) 2 0 0 = 78 := e
    by_cases h1 : p + 1 < n
    · by_cases hd : 48 ≤ S (p + 1) ∧ S (p + 1) ≤ 57
      · obtain ⟨v, hv⟩ : ∃ v : Int, S (p + 1) = v + 48 := ⟨S (p + 1) - 48, by omega⟩
        have cv : chM n S (p + 1) = v := by unfold chM; rw [if_pos h1]; omega
        have o2 := rdT_n (h := h) (T0 := T0) (T1 := T1) (T3 := T3) (T4 := T4) (T5 := T5) e0 hv (by omega)
        have o2 : rdTakes (S (p + 1)) (up (up (up g 0 (S p)) 1 0) 2 0, h, T0, T1, T3, T4, T5) = (bI ((0 ≤ v ∧ v < h 6) ∧ popI (T3 v) < h 7), up (up (up (up (up g 0 (S p)) 1 0) 2 0) 1 (0 + 1)) 3 v, h, T0, T1, T3, T4, T5) := by
          rw [o2]
          unfold rdBar
          exact if_pos rfl
        rw [r6, r7] at o2
        unfold mdBar
        rw [cv]
        by_cases ok : (0 ≤ v ∧ v ≤ P - 1) ∧ rowM G K v < K
        · have pv : popI (T3 v) = rowM G K v := pop_row (bT v) b7 (by omega) rbit (fun c hc hk => rz v c (by omega) hc (Or.inr hk))
          rw [pv, bI_t (by omega)] at o2
          have k2 := adv_s k1 o2 rfl
          rw [if_neg (fun q => q ok)]
          by_cases h2 : p + 1 + 1 < n
          · by_cases hd2 : 48 ≤ S (p + 1 + 1) ∧ S (p + 1 + 1) ≤ 57
            · obtain ⟨w, hw⟩ : ∃ w : Int, S (p + 1 + 1) = w + 48 := ⟨S (p + 1 + 1) - 48, by omega⟩
              have cw : chM n S (p + 1 + 1) = w := by unfold chM; rw [if_pos h2]; omega
              rw [cw]
              have o3 := rdT_n (g := up (up (up (up (up g 0 (S p)) 1 0) 2 0) 1 (0 + 1)) 3 v) (h := h) (T0 := T0) (T1 := T1) (T3 := T3) (T4 := T4) (T5 := T5) e hw (by omega)
              unfold rdBar at o3
              have o3 : rdTakes (S (p + 1 + 1)) (up (up (up (up (up g 0 (S p)) 1 0) 2 0) 1 (0 + 1)) 3 v, h, T0, T1, T3, T4, T5) = if (0 ≤ w ∧ w < h 7) ∧ ¬ bitI (T3 v) w = 1 then (1, up (up (up (up (up (up (up g 0 (S p)) 1 0) 2 0) 1 (0 + 1)) 3 v) 1 (0 + 1 + 1)) 0 0, up h 8 (h 8 + 1), T0, T1, uI T3 v (iOr (T3 v) (2 ^ w.toNat)), T4, T5) else (0, up (up (up (up (up (up g 0 (S p)) 1 0) 2 0) 1 (0 + 1)) 3 v) 1 (0 + 1 + 1), h, T0, T1, T3, T4, T5) := o3.trans (if_neg (show ¬ ((0 : Int) + 1 + 1 = 1) by decide))
              by_cases ok2 : (0 ≤ w ∧ w ≤ K - 1) ∧ G (4 * v + w) = 0
              · rw [if_neg (fun q => q ok2)]
                dsimp only
                have bw := rbit v w (by omega) (by omega)
                rw [if_pos (by omega)] at o3
                have k3 := adv_s k2 o3 rfl
                refine Or.inl ⟨rfl, ⟨by show p < p + 1 + 1 + 1; omega, by show p + 1 + 1 + 1 ≤ n; omega⟩, _, k3, ⟨rfl, r6, r7⟩, ra, rc, bd_u rb (by decide), ?_, ?_, ?_⟩
                · intro i c hi hc
                  by_cases qi : i = v
                  · rw [qi, uI_s, bitI_or (bT v).1 (Int.le_of_lt (p2_pos _)), bitI_p2 (by omega) hc.1]
                    by_cases qc : c = w
                    · rw [if_pos (Or.inr (by rw [if_pos qc])), qc, uI_s]
                    · rw [uI_n _ _ (by omega), if_neg qc, ← rbit v c (by omega) hc]
                      have := bitI_01 (T3 v) c
                      split <;> omega
                  · rw [uI_n _ _ qi, uI_n _ _ (by omega)]
                    exact rbit i c hi hc
                · intro i c hi hc hh
                  rw [uI_n _ _ (by omega)]
                  exact rz i c hi hc hh
                · show h 8 + 1 = anyM (uI G (4 * v + w) 1) K P
                  rw [r8]
                  unfold anyM
                  refine (sZ_inc (i := v) (by omega) ?_ ?_).symm
                  · unfold rowM
                    refine sZ_inc (i := w) (by omega) ?_ ?_
                    · rw [uI_s, ok2.2]
                      rfl
                    · intro j hj
                      rw [uI_n _ _ (by omega)]
                  · intro j hj
                    unfold rowM
                    refine sZ_c (fun c a b => ?_)
                    show uI G (4 * v + w) 1 (4 * j + c) = G (4 * j + c)
                    rw [uI_n _ _ (by omega)]
              · rw [if_pos ok2]
                refine Or.inr ⟨rfl, stp_f k2 h2 ?_⟩
                rw [o3, if_neg]
                rintro ⟨q1, q2⟩
                have bw := rbit v w (by omega) (by omega)
                have b01 := bitI_01 (T3 v) w
                exact ok2 ⟨by omega, by omega⟩
            · rw [if_pos (by unfold chM; rw [if_pos h2]; omega)]
              exact Or.inr ⟨rfl, stp_f k2 h2 (rdT_nd (by show ¬ S p = 0; omega) hd2)⟩
          · rw [if_pos (by unfold chM; rw [if_neg h2]; omega)]
            exact Or.inr ⟨rfl, stp_n k2 (by show p + 1 + 1 = n; omega) (by show ¬ S p = 0; omega)⟩
        · rw [if_pos ok]
          refine Or.inr ⟨rfl, stp_f k1 h1 ?_⟩
          rw [o2]
          refine bI_f ?_
          rintro ⟨q1, q2⟩
          have pv : popI (T3 v) = rowM G K v := pop_row (bT v) b7 (by omega) rbit (fun c hc hk => rz v c (by omega) hc (Or.inr hk))
          exact ok ⟨by omega, by omega⟩
      · unfold mdBar
        rw [if_pos (by unfold chM; rw [if_pos h1]; omega)]
        exact Or.inr ⟨rfl, stp_f k1 h1 (rdT_nd (by show ¬ S p = 0; omega) hd)⟩
    · unfold mdBar
      rw [if_pos (by unfold chM; rw [if_neg h1]; omega)]
      exact Or.inr ⟨rfl, stp_n k1 (by show p + 1 = n; omega) (by show ¬ S p = 0; omega)⟩
  · have hm : mdPart n S (p, P, K, A, B, Q, R, G) = (0, p, P, K, A, B, Q, R, G) := by
      show (if S p = 65 ∧ P < 6 then _ else if S p = 67 ∧ K < 4 then _ else if S p = 78 ∧ anyM G K P < P * K then _ else _ : Int × (Int × Int × Int × (Int → Int) × (Int → Int) × (Int → Int) × (Int → Int) × (Int → Int))) = _
      rw [if_neg (by omega), if_neg (by omega), if_neg (by omega)]
    rw [hm]
    exact Or.inr ⟨rfl, stp_f hA hp.2 (by rw [o1]; exact bI_f (by omega))⟩
theorem mdPart_O (hA : adv S s0 p (g, h, T0, T1, T3, T4, T5)) (hp : 0 ≤ p ∧ p < n) (hr : rmR (g, h, T0, T1, T3, T4, T5) (p, P, K, A, B, Q, R, G)) (e1 : ¬ (S p = 65 ∧ P < 6)) (e2 : ¬ (S p = 67 ∧ K < 4)) (e3 : ¬ S p = 78) : mdE S s0 n p (mdPart n S (p, P, K, A, B, Q, R, G)) := by
  obtain ⟨⟨r0, r6, r7⟩, -⟩ := hr
  have hm : mdPart n S (p, P, K, A, B, Q, R, G) = (0, p, P, K, A, B, Q, R, G) := by
    show (if S p = 65 ∧ P < 6 then _ else if S p = 67 ∧ K < 4 then _ else if S p = 78 ∧ anyM G K P < P * K then _ else _ : Int × (Int × Int × Int × (Int → Int) × (Int → Int) × (Int → Int) × (Int → Int) × (Int → Int))) = _
    rw [if_neg e1, if_neg e2, if_neg (fun q => e3 q.1)]
  rw [hm]
  have o1 := opens_m (h := h) (T0 := T0) (T1 := T1) (T3 := T3) (T4 := T4) (T5 := T5) (c := S p) r0
  refine Or.inr ⟨rfl, stp_f hA hp.2 ?_⟩
  rw [o1]
  show (if S p = 65 then bI (h 6 < 6) else if S p = 67 then bI (h 7 < 4) else bI (S p = 78 ∧ h 8 < h 6 * h 7)) = 0
  by_cases q1 : S p = 65
  · rw [if_pos q1]
    exact bI_f (by omega)
  · rw [if_neg q1]
    by_cases q2 : S p = 67
    · rw [if_pos q2]
      exact bI_f (by omega)
    · rw [if_neg q2]
      exact bI_f (fun q => e3 q.1)
end MD
