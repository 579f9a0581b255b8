theorem fgP_e {n : Int} {S : Int → Int} {p a v q : Int} (h : (v, q) = fgP n S p a) (hp : 0 ≤ p ∧ p ≤ n) (ha : 0 ≤ a) : (0 ≤ q ∧ q ≤ n) ∧ (v = -9 ∨ (0 ≤ v ∧ v ≤ 9)) := by
  have k := fgP_b (S := S) hp ha
  rw [← h] at k
  exact k
theorem twP_e {n : Int} {S : Int → Int} {p a v q : Int} (h : (v, q) = twP n S p a) (hp : 0 ≤ p ∧ p ≤ n) (ha : 0 ≤ a) : (0 ≤ q ∧ q ≤ n) ∧ (v = -9 ∨ (0 ≤ v ∧ v ≤ 99)) := by
  have k := twP_b (S := S) hp ha
  rw [← h] at k
  exact k
theorem mdP1 {n : Int} {S : Int → Int} {p P x q : Int} {A B : Int → Int} (h : (x, q) = twP n S p 1) (e : x = -9) : (0, q, P, A, B) = mdPerson n S p P A B := by
  rw [mdPerson_1 (by rw [← h]; exact e), ← h]
theorem mdP2 {n : Int} {S : Int → Int} {p P x q y t : Int} {A B : Int → Int} (h : (x, q) = twP n S p 1) (e : ¬ x = -9) (h2 : (y, t) = twP n S q 0) (e2 : y = -9) : (0, t, P, A, B) = mdPerson n S p P A B := by
  rw [mdPerson_2 (by rw [← h]; exact e) (by rw [← h]; show (twP n S q 0).1 = -9; rw [← h2]; exact e2), ← h]
  show _ = (0, (twP n S q 0).2, P, A, B)
  rw [← h2]
theorem mdP3 {n : Int} {S : Int → Int} {p P x q y t : Int} {A B : Int → Int} (h : (x, q) = twP n S p 1) (e : ¬ x = -9) (h2 : (y, t) = twP n S q 0) (e2 : ¬ y = -9) : (1, t, P + 1, uI A P x, uI B P y) = mdPerson n S p P A B := by
  rw [mdPerson_3 (by rw [← h]; exact e) (by rw [← h]; show ¬ (twP n S q 0).1 = -9; rw [← h2]; exact e2), ← h]
  show _ = (1, (twP n S q 0).2, P + 1, uI A P x, uI B P (twP n S q 0).1)
  rw [← h2]
theorem mdC1 {n : Int} {S : Int → Int} {p P x q : Int} {A B : Int → Int} (h : (x, q) = twP n S p 1) (e : x = -9) : (0, q, P, A, B) = mdCounter n S p P A B := by
  rw [mdCounter_1 (by rw [← h]; exact e), ← h]
theorem mdC2 {n : Int} {S : Int → Int} {p P x q y t : Int} {A B : Int → Int} (h : (x, q) = twP n S p 1) (e : ¬ x = -9) (h2 : (y, t) = twP n S q 0) (e2 : y = -9) : (0, t, P, A, B) = mdCounter n S p P A B := by
  rw [mdCounter_2 (by rw [← h]; exact e) (by rw [← h]; show (twP n S q 0).1 = -9; rw [← h2]; exact e2), ← h]
  show _ = (0, (twP n S q 0).2, P, A, B)
  rw [← h2]
theorem mdC3 {n : Int} {S : Int → Int} {p P x q y t z w : Int} {A B : Int → Int} (h : (x, q) = twP n S p 1) (e : ¬ x = -9) (h2 : (y, t) = twP n S q 0) (e2 : ¬ y = -9) (h3 : (z, w) = twP n S t 0) (e3 : z = -9) : (0, w, P, A, B) = mdCounter n S p P A B := by
  rw [mdCounter_3 (q := t) (by rw [← h]; exact e) (by rw [← h]; show ¬ (twP n S q 0).1 = -9; rw [← h2]; exact e2) (by rw [← h]; show (twP n S q 0).2 = t; rw [← h2]) (by rw [← h3]; exact e3), ← h3]
theorem mdC4 {n : Int} {S : Int → Int} {p P x q y t z w : Int} {A B : Int → Int} (h : (x, q) = twP n S p 1) (e : ¬ x = -9) (h2 : (y, t) = twP n S q 0) (e2 : ¬ y = -9) (h3 : (z, w) = twP n S t 0) (e3 : ¬ z = -9) : (1, w, P + 1, uI A P x, uI B P (100 * y + z)) = mdCounter n S p P A B := by
  rw [mdCounter_4 (q := t) (by rw [← h]; exact e) (by rw [← h]; show ¬ (twP n S q 0).1 = -9; rw [← h2]; exact e2) (by rw [← h]; show (twP n S q 0).2 = t; rw [← h2]) (by rw [← h3]; exact e3), ← h3, ← h]
  show _ = (1, w, P + 1, uI A P x, uI B P (100 * (twP n S q 0).1 + z))
  rw [← h2]
theorem rowM_s {G : Int → Int} {i k : Int} (hk : 0 ≤ k) : rowM G (k + 1) i = rowM G k i + G (4 * i + k) := sZ_s _ hk
theorem anyM_s {G : Int → Int} {K k : Int} (hk : 0 ≤ k) : anyM G K (k + 1) = anyM G K k + rowM G K k := sZ_s _ hk
theorem rowM_b {G : Int → Int} {i k : Int} (hG : bd G 0 1) (hk : 0 ≤ k) : 0 ≤ rowM G k i ∧ rowM G k i ≤ k := by
  have h := sN_b (g := fun c => G (4 * i + c)) (lo := 0) (hi := 1) (fun j => hG _) k.toNat
  unfold rowM sZ
  rw [Int.toNat_of_nonneg hk] at h
  omega
theorem anyM_b {G : Int → Int} {K k : Int} (hG : bd G 0 1) (hK : 0 ≤ K) (hk : 0 ≤ k) : 0 ≤ anyM G K k ∧ anyM G K k ≤ k * K := by
  have h := sN_b (g := fun i => rowM G K i) (lo := 0) (hi := K) (fun j => rowM_b hG hK) k.toNat
  unfold anyM sZ
  rw [Int.toNat_of_nonneg hk] at h
  rw [Int.mul_comm k K]
  omega
theorem chM_b {n : Int} {S : Int → Int} {p : Int} (hS : bd S 0 255) : -48 ≤ chM n S p ∧ chM n S p ≤ 207 := by
  have := hS p
  unfold chM
  split <;> omega
theorem mdPart_m (n : Int) (S : Int → Int) (p P K : Int) (A B Q R G : Int → Int) : mdPart n S (p, P, K, A, B, Q, R, G) = if S p = 65 ∧ P < 6 then ((mdPerson n S (p + 1) P A B).1, (mdPerson n S (p + 1) P A B).2.1, (mdPerson n S (p + 1) P A B).2.2.1, K, (mdPerson n S (p + 1) P A B).2.2.2.1, (mdPerson n S (p + 1) P A B).2.2.2.2, Q, R, G)
    else if S p = 67 ∧ K < 4 then ((mdCounter n S (p + 1) K Q R).1, (mdCounter n S (p + 1) K Q R).2.1, P, (mdCounter n S (p + 1) K Q R).2.2.1, A, B, (mdCounter n S (p + 1) K Q R).2.2.2.1, (mdCounter n S (p + 1) K Q R).2.2.2.2, G)
    else if S p = 78 ∧ anyM G K P < P * K then ((mdBar n S (p + 1) P K G).1, (mdBar n S (p + 1) P K G).2.1, P, K, A, B, Q, R, (mdBar n S (p + 1) P K G).2.2)
    else (0, p, P, K, A, B, Q, R, G) := rfl
theorem mdPerson_01 {n : Int} {S : Int → Int} {p P : Int} {A B : Int → Int} : (mdPerson n S p P A B).1 = 0 ∨ (mdPerson n S p P A B).1 = 1 := by
  unfold mdPerson
  dsimp only
  (repeat' split) <;> first | exact Or.inl rfl | exact Or.inr rfl
theorem mdCounter_01 {n : Int} {S : Int → Int} {p P : Int} {A B : Int → Int} : (mdCounter n S p P A B).1 = 0 ∨ (mdCounter n S p P A B).1 = 1 := by
  unfold mdCounter
  dsimp only
  (repeat' split) <;> first | exact Or.inl rfl | exact Or.inr rfl
theorem mdBar_01 {n : Int} {S : Int → Int} {p P K : Int} {G : Int → Int} : (mdBar n S p P K G).1 = 0 ∨ (mdBar n S p P K G).1 = 1 := by
  unfold mdBar
  split
  · exact Or.inl rfl
  · split
    · exact Or.inl rfl
    · exact Or.inr rfl
theorem mdPart_01 {n : Int} {S : Int → Int} {m : (Int × Int × Int × (Int → Int) × (Int → Int) × (Int → Int) × (Int → Int) × (Int → Int))} : (mdPart n S m).1 = 0 ∨ (mdPart n S m).1 = 1 := by
  obtain ⟨p, P, K, A, B, Q, R, G⟩ := m
  rw [mdPart_m]
  split
  · exact mdPerson_01
  · split
    · exact mdCounter_01
    · split
      · exact mdBar_01
      · exact Or.inl rfl
def mdKB : (Int × Int × Int × (Int → Int) × (Int → Int) × (Int → Int) × (Int → Int) × (Int → Int)) → Prop
  | (_, _, _, A, B, Q, R, G) => bd A 0 99 ∧ bd B 0 99 ∧ bd Q 0 99 ∧ bd R 0 9999 ∧ bd G 0 1
theorem mdPart_bd {n : Int} {S : Int → Int} {m : (Int × Int × Int × (Int → Int) × (Int → Int) × (Int → Int) × (Int → Int) × (Int → Int))} (hp : 0 ≤ m.1 ∧ m.1 < n) (h : mdKB m) : mdKB (mdPart n S m).2 := by
  obtain ⟨p, P, K, A, B, Q, R, G⟩ := m
  have hp : 0 ≤ p ∧ p < n := hp
  obtain ⟨a, b, q, r, g⟩ := h
  rw [mdPart_m]
  have t1 := twP_b (n := n) (S := S) (p := p + 1) (a := 1) (by omega) (by decide)
  have t2 := twP_b (n := n) (S := S) (p := (twP n S (p + 1) 1).2) (a := 0) t1.1 (by decide)
  have t3 := twP_b (n := n) (S := S) (p := (twP n S (twP n S (p + 1) 1).2 0).2) (a := 0) t2.1 (by decide)
  split
  · by_cases e1 : (twP n S (p + 1) 1).1 = -9
    · rw [mdPerson_1 e1]
      exact ⟨a, b, q, r, g⟩
    · by_cases e2 : (twP n S (twP n S (p + 1) 1).2 0).1 = -9
      · rw [mdPerson_2 e1 e2]
        exact ⟨a, b, q, r, g⟩
      · rw [mdPerson_3 e1 e2]
        exact ⟨bd_u a (by omega), bd_u b (by omega), q, r, g⟩
  · split
    · by_cases e1 : (twP n S (p + 1) 1).1 = -9
      · rw [mdCounter_1 e1]
        exact ⟨a, b, q, r, g⟩
      · by_cases e2 : (twP n S (twP n S (p + 1) 1).2 0).1 = -9
        · rw [mdCounter_2 e1 e2]
          exact ⟨a, b, q, r, g⟩
        · by_cases e3 : (twP n S (twP n S (twP n S (p + 1) 1).2 0).2 0).1 = -9
          · rw [mdCounter_3 e1 e2 rfl e3]
            exact ⟨a, b, q, r, g⟩
          · rw [mdCounter_4 e1 e2 rfl e3]
            exact ⟨a, b, bd_u q (by omega), bd_u r (by omega), g⟩
    · split
      · unfold mdBar
        split
        · exact ⟨a, b, q, r, g⟩
        · split
          · exact ⟨a, b, q, r, g⟩
          · exact ⟨a, b, q, r, bd_u g (by decide)⟩
      · exact ⟨a, b, q, r, g⟩
theorem rdN_K {S : Int → Int} {s0 : ((Nat → Int) × (Nat → Int) × (Int → Int) × (Int → Int) × (Int → Int) × (Int → Int) × (Int → Int))} (hK : rdK s0) : ∀ {k : Nat}, rdOkTo S s0 k → rdK (rdN S s0 k)
  | 0, _ => hK
  | k + 1, h => rdT_ok (rdN_K hK (fun j hj => h j (Nat.lt_succ_of_lt hj))) (h k (Nat.lt_succ_self k))
theorem adv_K {S : Int → Int} {s0 s : ((Nat → Int) × (Nat → Int) × (Int → Int) × (Int → Int) × (Int → Int) × (Int → Int) × (Int → Int))} {p : Int} (hK : rdK s0) (h : adv S s0 p s) : rdK s := by
  obtain ⟨-, e, k⟩ := h
  rw [e]
  exact rdN_K hK k
theorem rm_b {s : ((Nat → Int) × (Nat → Int) × (Int → Int) × (Int → Int) × (Int → Int) × (Int → Int) × (Int → Int))} {m : (Int × Int × Int × (Int → Int) × (Int → Int) × (Int → Int) × (Int → Int) × (Int → Int))} (hK : rdK s) (h : rmR s m) : (0 ≤ m.2.1 ∧ m.2.1 ≤ 6) ∧ 0 ≤ m.2.2.1 ∧ m.2.2.1 ≤ 4 := by
  obtain ⟨g, h9, T0, T1, T3, T4, T5⟩ := s
  obtain ⟨p, P, K, A, B, Q, R, G⟩ := m
  obtain ⟨⟨-, a, b⟩, -⟩ := h
  obtain ⟨⟨c, d, -⟩, -⟩ := hK
  show (0 ≤ P ∧ P ≤ 6) ∧ 0 ≤ K ∧ K ≤ 4
  omega
theorem md_step {S : Int → Int} {s0 s : ((Nat → Int) × (Nat → Int) × (Int → Int) × (Int → Int) × (Int → Int) × (Int → Int) × (Int → Int))} {n : Int} {m : (Int × Int × Int × (Int → Int) × (Int → Int) × (Int → Int) × (Int → Int) × (Int → Int))} (hK : rdK s0) (hA : adv S s0 m.1 s) (hn : m.1 < n) (hr : rmR s m) : mdE S s0 n m.1 (mdPart n S m) := by
  have hs := adv_K hK hA
  have hb := rm_b hs hr
  obtain ⟨g, h9, T0, T1, T3, T4, T5⟩ := s
  obtain ⟨p, P, K, A, B, Q, R, G⟩ := m
  have h0 : 0 ≤ p := hA.1
  have hn : p < n := hn
  have hb : (0 ≤ P ∧ P ≤ 6) ∧ 0 ≤ K ∧ K ≤ 4 := hb
  by_cases e1 : S p = 65 ∧ P < 6
  · exact mdPart_A hA ⟨h0, hn⟩ hr ⟨hb.1.1, e1.2⟩ hb.2 e1.1
  · by_cases e2 : S p = 67 ∧ K < 4
    · exact mdPart_C hA ⟨h0, hn⟩ hr hb.1 ⟨hb.2.1, e2.2⟩ e2.1
    · by_cases e3 : S p = 78
      · exact mdPart_N hA ⟨h0, hn⟩ hr hb.1 hb.2 hs.2.1.2.2.1 e3
      · exact mdPart_O hA ⟨h0, hn⟩ hr e1 e2 e3
/-- how the reference's reading ends -/
def mrE (n : Int) (S : Int → Int) (s0 : ((Nat → Int) × (Nat → Int) × (Int → Int) × (Int → Int) × (Int → Int) × (Int → Int) × (Int → Int))) (r : Int) (m : (Int × Int × Int × (Int → Int) × (Int → Int) × (Int → Int) × (Int → Int) × (Int → Int))) : Prop := (r = -9 ∧ ∃ s : ((Nat → Int) × (Nat → Int) × (Int → Int) × (Int → Int) × (Int → Int) × (Int → Int) × (Int → Int)), adv S s0 n s ∧ rmR s m) ∨ ((0 ≤ r ∧ r ≤ n) ∧ stp S s0 n r)
theorem mr_tie {n : Int} {S : Int → Int} {s0 s' : ((Nat → Int) × (Nat → Int) × (Int → Int) × (Int → Int) × (Int → Int) × (Int → Int) × (Int → Int))} {r r2 : Int} {m : (Int × Int × Int × (Int → Int) × (Int → Int) × (Int → Int) × (Int → Int) × (Int → Int))} (h : rdE n S s0 r s') (h2 : mrE n S s0 r2 m) : r = r2 ∧ (r = -9 → rmR s' m) := by
  obtain ⟨-, k, hk, q⟩ := h
  rcases h2 with ⟨e2, s, ⟨h0, hs, ho⟩, hr⟩ | ⟨e2, ⟨h0, ho⟩, w⟩
  · rcases q with ⟨q1, q2, q3⟩ | ⟨q1, q2, q3, q4⟩
    · have := ho k (by omega)
      omega
    · have ek : k = n.toNat := by omega
      rw [ek, ← hs] at q2
      subst q2
      obtain ⟨g, h9, T0, T1, T3, T4, T5⟩ := s'
      obtain ⟨p, P, K, A, B, Q, R, G⟩ := m
      have g0 : g 0 = 0 := hr.1.1
      rcases q4 with q4 | q4
      · exact ⟨by omega, fun _ => hr⟩
      · exact absurd g0 q4.1
  · rcases q with ⟨q1, q2, q3⟩ | ⟨q1, q2, q3, q4⟩
    · rcases w with w | w
      · have := ho k (by omega)
        omega
      · have ek : k = r2.toNat := by
          rcases Nat.lt_trichotomy k r2.toNat with z | z | z
          · have := ho k z
            omega
          · exact z
          · have := hk r2.toNat z
            rw [Int.toNat_of_nonneg h0] at this
            omega
        exact ⟨by omega, fun z => by omega⟩
    · rcases w with w | w
      · have ek : k = r2.toNat := by omega
        rw [← ek, ← q2] at w
        rcases q4 with q4 | q4
        · exact absurd q4.1 w.2
        · exact ⟨by omega, fun z => by omega⟩
      · have := hk r2.toNat (by omega)
        rw [Int.toNat_of_nonneg h0] at this
        omega
theorem rd0_R {g h : Nat → Int} {T0 T1 T3 T4 T5 A B Q R G : Int → Int} (hG : bd G 0 1) (hz : ∀ j : Int, 0 ≤ j ∧ j < 24 → G j = 0) : rmR (rd0 g h T0 T1 T3 T4 T5) (0, 0, 0, A, B, Q, R, G) := by
  refine ⟨⟨rfl, rfl, rfl⟩, fun j hj => by omega, fun j hj => by omega, hG, fun i c hi hc => ?_, fun i c hi hc _ => hz _ (by omega), rfl⟩
  rw [cpI_in hi, bitI_z, hz _ (by omega)]
theorem md_01 {n : Int} {S : Int → Int} {m m1 : (Int × Int × Int × (Int → Int) × (Int → Int) × (Int → Int) × (Int → Int) × (Int → Int))} {z : Int} (h : (z, m1) = mdPart n S m) : z = 0 ∨ z = 1 := by
  have k := mdPart_01 (n := n) (S := S) (m := m)
  rw [← h] at k
  exact k
theorem md_go {n : Int} {S : Int → Int} {s0 s : ((Nat → Int) × (Nat → Int) × (Int → Int) × (Int → Int) × (Int → Int) × (Int → Int) × (Int → Int))} {m m1 : (Int × Int × Int × (Int → Int) × (Int → Int) × (Int → Int) × (Int → Int) × (Int → Int))} {z : Int} (hK : rdK s0) (hA : adv S s0 m.1 s) (hn : m.1 < n) (hr : rmR s m) (h : (z, m1) = mdPart n S m) : mdE S s0 n m.1 (z, m1) := by
  rw [h]
  exact md_step hK hA hn hr
theorem md_gb {n : Int} {S : Int → Int} {m m1 : (Int × Int × Int × (Int → Int) × (Int → Int) × (Int → Int) × (Int → Int) × (Int → Int))} {z : Int} (h0 : 0 ≤ m.1) (hn : m.1 < n) (hb : mdKB m) (h : (z, m1) = mdPart n S m) : mdKB m1 := by
  have k := mdPart_bd (S := S) ⟨h0, hn⟩ hb
  rw [← h] at k
  exact k
theorem md_ok {S : Int → Int} {s0 : ((Nat → Int) × (Nat → Int) × (Int → Int) × (Int → Int) × (Int → Int) × (Int → Int) × (Int → Int))} {n p z : Int} {m1 : (Int × Int × Int × (Int → Int) × (Int → Int) × (Int → Int) × (Int → Int) × (Int → Int))} (h : mdE S s0 n p (z, m1)) (hz : ¬ z = 0) : (p < m1.1 ∧ m1.1 ≤ n) := by
  rcases h with h | h
  · exact h.2.1
  · exact absurd h.1 hz
theorem md_ex {S : Int → Int} {s0 : ((Nat → Int) × (Nat → Int) × (Int → Int) × (Int → Int) × (Int → Int) × (Int → Int) × (Int → Int))} {n p z : Int} {m1 : (Int × Int × Int × (Int → Int) × (Int → Int) × (Int → Int) × (Int → Int) × (Int → Int))} (h : mdE S s0 n p (z, m1)) (hz : ¬ z = 0) : ∃ s : ((Nat → Int) × (Nat → Int) × (Int → Int) × (Int → Int) × (Int → Int) × (Int → Int) × (Int → Int)), adv S s0 m1.1 s ∧ rmR s m1 := by
  rcases h with h | h
  · exact h.2.2
  · exact absurd h.1 hz
theorem md_pk {S : Int → Int} {s0 : ((Nat → Int) × (Nat → Int) × (Int → Int) × (Int → Int) × (Int → Int) × (Int → Int) × (Int → Int))} {n p z : Int} {m1 : (Int × Int × Int × (Int → Int) × (Int → Int) × (Int → Int) × (Int → Int) × (Int → Int))} (hK : rdK s0) (h : mdE S s0 n p (z, m1)) (hz : ¬ z = 0) : (0 ≤ m1.2.1 ∧ m1.2.1 ≤ 6) ∧ 0 ≤ m1.2.2.1 ∧ m1.2.2.1 ≤ 4 := by
  obtain ⟨s, a, b⟩ := md_ex h hz
  exact rm_b (adv_K hK a) b
theorem md_no {S : Int → Int} {s0 : ((Nat → Int) × (Nat → Int) × (Int → Int) × (Int → Int) × (Int → Int) × (Int → Int) × (Int → Int))} {n p z : Int} {m1 : (Int × Int × Int × (Int → Int) × (Int → Int) × (Int → Int) × (Int → Int) × (Int → Int))} (h : mdE S s0 n p (z, m1)) (hz : z = 0) : mrE n S s0 m1.1 m1 := by
  rcases h with h | h
  · exact absurd h.1 (by omega)
  · refine Or.inr ⟨⟨h.2.1.1, ?_⟩, h.2⟩
    rcases h.2.2 with q | q <;> omega
theorem mrE_r {n : Int} {S : Int → Int} {s0 : ((Nat → Int) × (Nat → Int) × (Int → Int) × (Int → Int) × (Int → Int) × (Int → Int) × (Int → Int))} {r : Int} {m : (Int × Int × Int × (Int → Int) × (Int → Int) × (Int → Int) × (Int → Int) × (Int → Int))} (h : mrE n S s0 r m) (hn : 0 ≤ n ∧ n ≤ 72) : -9 ≤ r ∧ r ≤ 72 := by
  rcases h with h | h <;> omega
