theorem bI_1 {P : Prop} [Decidable P] (h : bI P = 1) : P := by
  unfold bI at h
  split at h
  · assumption
  · exact absurd h (by decide)
/-! the reader: one sign at a time, over (its fields, the draft's fields, the draft's rows) -/
def rdOpens (c : Int) (g h : Nat → Int) (T0 T1 T3 T4 T5 : Int → Int) : Int × ((Nat → Int) × (Nat → Int) × (Int → Int) × (Int → Int) × (Int → Int) × (Int → Int) × (Int → Int)) :=
  (if c = 65 then bI (h 6 < 6) else if c = 67 then bI (h 7 < 4) else bI (c = 78 ∧ h 8 < h 6 * h 7), up (up (up g 0 c) 1 0) 2 0, h, T0, T1, T3, T4, T5)
def rdPerson (v : Int) (g h : Nat → Int) (T0 T1 T3 T4 T5 : Int → Int) : Int × ((Nat → Int) × (Nat → Int) × (Int → Int) × (Int → Int) × (Int → Int) × (Int → Int) × (Int → Int)) :=
  if g 1 = 2 then (bI (0 < g 2 * 10 + v), up (up g 2 (g 2 * 10 + v)) 2 0, h, uI T0 (h 6) (g 2 * 10 + v), T1, T3, T4, T5)
  else if g 1 = 4 then (1, up (up g 2 (g 2 * 10 + v)) 0 0, up h 6 (h 6 + 1), T0, uI T1 (h 6) (g 2 * 10 + v), T3, T4, T5)
  else (1, up g 2 (g 2 * 10 + v), h, T0, T1, T3, T4, T5)
def rdCounter (v : Int) (g h : Nat → Int) (T0 T1 T3 T4 T5 : Int → Int) : Int × ((Nat → Int) × (Nat → Int) × (Int → Int) × (Int → Int) × (Int → Int) × (Int → Int) × (Int → Int)) :=
  if g 1 = 2 then (bI (0 < g 2 * 10 + v), up (up g 2 (g 2 * 10 + v)) 2 0, h, T0, T1, T3, uI T4 (h 7) (g 2 * 10 + v), T5)
  else if g 1 = 6 then (1, up (up g 2 (g 2 * 10 + v)) 0 0, up h 7 (h 7 + 1), T0, T1, T3, T4, uI T5 (h 7) (g 2 * 10 + v))
  else (1, up g 2 (g 2 * 10 + v), h, T0, T1, T3, T4, T5)
def rdBar (v : Int) (g h : Nat → Int) (T0 T1 T3 T4 T5 : Int → Int) : Int × ((Nat → Int) × (Nat → Int) × (Int → Int) × (Int → Int) × (Int → Int) × (Int → Int) × (Int → Int)) :=
  if g 1 = 1 then (bI ((0 ≤ v ∧ v < h 6) ∧ popI (T3 v) < h 7), up g 3 v, h, T0, T1, T3, T4, T5)
  else if (0 ≤ v ∧ v < h 7) ∧ ¬ bitI (T3 (g 3)) v = 1 then (1, up g 0 0, up h 8 (h 8 + 1), T0, T1, uI T3 (g 3) (iOr (T3 (g 3)) (2 ^ v.toNat)), T4, T5)
  else (0, g, h, T0, T1, T3, T4, T5)
def rdTakes (c : Int) : ((Nat → Int) × (Nat → Int) × (Int → Int) × (Int → Int) × (Int → Int) × (Int → Int) × (Int → Int)) → Int × ((Nat → Int) × (Nat → Int) × (Int → Int) × (Int → Int) × (Int → Int) × (Int → Int) × (Int → Int))
  | (g, h, T0, T1, T3, T4, T5) => if g 0 = 0 then rdOpens c g h T0 T1 T3 T4 T5 else if ¬ (48 ≤ c ∧ c ≤ 57) then (0, g, h, T0, T1, T3, T4, T5)
    else if g 0 = 65 then rdPerson (c - 48) (up g 1 (g 1 + 1)) h T0 T1 T3 T4 T5 else if g 0 = 67 then rdCounter (c - 48) (up g 1 (g 1 + 1)) h T0 T1 T3 T4 T5 else rdBar (c - 48) (up g 1 (g 1 + 1)) h T0 T1 T3 T4 T5
theorem rdTakes_m (c : Int) (g h : Nat → Int) (T0 T1 T3 T4 T5 : Int → Int) : rdTakes c (g, h, T0, T1, T3, T4, T5) = if g 0 = 0 then rdOpens c g h T0 T1 T3 T4 T5 else if ¬ (48 ≤ c ∧ c ≤ 57) then (0, g, h, T0, T1, T3, T4, T5)
    else if g 0 = 65 then rdPerson (c - 48) (up g 1 (g 1 + 1)) h T0 T1 T3 T4 T5 else if g 0 = 67 then rdCounter (c - 48) (up g 1 (g 1 + 1)) h T0 T1 T3 T4 T5 else rdBar (c - 48) (up g 1 (g 1 + 1)) h T0 T1 T3 T4 T5 := rfl
def rdN (S : Int → Int) (s : ((Nat → Int) × (Nat → Int) × (Int → Int) × (Int → Int) × (Int → Int) × (Int → Int) × (Int → Int))) : Nat → ((Nat → Int) × (Nat → Int) × (Int → Int) × (Int → Int) × (Int → Int) × (Int → Int) × (Int → Int))
  | 0 => s
  | k + 1 => (rdTakes (S k) (rdN S s k)).2
def rdB (T0 T1 T3 T4 T5 : Int → Int) : Prop := bd T0 0 99 ∧ bd T1 0 99 ∧ bd T3 0 15 ∧ bd T4 0 99 ∧ bd T5 0 9999
/-- where the reader may stand -/
def rdA (n x t : Int) : Prop := ((0 ≤ n ∧ n ≤ 3) ∧ 0 ≤ x ∧ x ≤ 9) ∧ (n = 0 ∨ n = 2 → x = 0) ∧ (2 ≤ n → 1 ≤ t)
def rdC (n x t : Int) : Prop := ((0 ≤ n ∧ n ≤ 5) ∧ 0 ≤ x ∧ x ≤ 999) ∧ (n = 0 ∨ n = 2 → x = 0) ∧ (n = 1 ∨ n = 3 → x ≤ 9) ∧ (n = 4 → x ≤ 99) ∧ (2 ≤ n → 1 ≤ t)
def rdP (g h : Nat → Int) (T0 T4 : Int → Int) : Prop :=
  g 0 = 0 ∨ (g 0 = 65 ∧ h 6 < 6 ∧ rdA (g 1) (g 2) (T0 (h 6))) ∨ (g 0 = 67 ∧ h 7 < 4 ∧ rdC (g 1) (g 2) (T4 (h 7))) ∨ (g 0 = 78 ∧ h 8 < 24 ∧ (g 1 = 0 ∨ (g 1 = 1 ∧ 0 ≤ g 3 ∧ g 3 < h 6)))
theorem rdA_0 (t : Int) : rdA 0 0 t := ⟨by omega, fun _ => rfl, fun q => by omega⟩
theorem rdC_0 (t : Int) : rdC 0 0 t := ⟨by omega, fun _ => rfl, fun q => by omega, fun q => by omega, fun q => by omega⟩
theorem rdP_4 {g h : Nat → Int} {T0 T4 : Int → Int} (hp : rdP g h T0 T4) : g 0 = 0 ∨ g 0 = 65 ∨ g 0 = 67 ∨ g 0 = 78 := by
  rcases hp with q | q | q | q
  · exact Or.inl q
  · exact Or.inr (Or.inl q.1)
  · exact Or.inr (Or.inr (Or.inl q.1))
  · exact Or.inr (Or.inr (Or.inr q.1))
theorem rdP_a {g h : Nat → Int} {T0 T4 : Int → Int} (hp : rdP g h T0 T4) (e : g 0 = 65) : h 6 < 6 ∧ rdA (g 1) (g 2) (T0 (h 6)) := by
  rcases hp with q | q | q | q
  · omega
  · exact q.2
  · exact absurd q.1 (by omega)
  · exact absurd q.1 (by omega)
theorem rdP_c {g h : Nat → Int} {T0 T4 : Int → Int} (hp : rdP g h T0 T4) (e : g 0 = 67) : h 7 < 4 ∧ rdC (g 1) (g 2) (T4 (h 7)) := by
  rcases hp with q | q | q | q
  · omega
  · exact absurd q.1 (by omega)
  · exact q.2
  · exact absurd q.1 (by omega)
theorem rdP_n {g h : Nat → Int} {T0 T4 : Int → Int} (hp : rdP g h T0 T4) (e0 : ¬ g 0 = 0) (e1 : ¬ g 0 = 65) (e2 : ¬ g 0 = 67) : g 0 = 78 ∧ h 8 < 24 ∧ (g 1 = 0 ∨ (g 1 = 1 ∧ 0 ≤ g 3 ∧ g 3 < h 6)) := by
  rcases hp with q | q | q | q
  · exact absurd q e0
  · exact absurd q.1 e1
  · exact absurd q.1 e2
  · exact q
theorem up_eq {α : Type} (f : Nat → α) (k : Nat) (x : α) : up f k x k = x := by
  unfold up
  rw [if_pos rfl]
theorem up_ne {α : Type} (f : Nat → α) {k j : Nat} (x : α) (h : ¬ j = k) : up f k x j = f j := by
  unfold up
  rw [if_neg h]
def rdK : ((Nat → Int) × (Nat → Int) × (Int → Int) × (Int → Int) × (Int → Int) × (Int → Int) × (Int → Int)) → Prop
  | (g, h, T0, T1, T3, T4, T5) => ((0 ≤ h 6 ∧ h 6 ≤ 6) ∧ (0 ≤ h 7 ∧ h 7 ≤ 4) ∧ 0 ≤ h 8 ∧ h 8 ≤ 24) ∧ rdB T0 T1 T3 T4 T5 ∧ ((∀ j : Int, 0 ≤ j ∧ j < h 6 → 1 ≤ T0 j) ∧ ∀ j : Int, 0 ≤ j ∧ j < h 7 → 1 ≤ T4 j) ∧ rdP g h T0 T4
def rdKB : ((Nat → Int) × (Nat → Int) × (Int → Int) × (Int → Int) × (Int → Int) × (Int → Int) × (Int → Int)) → Prop
  | (_, _, T0, T1, T3, T4, T5) => rdB T0 T1 T3 T4 T5
theorem or15 {x v : Int} (hx : 0 ≤ x ∧ x ≤ 15) (hv : 0 ≤ v ∧ v < 4) : 0 ≤ iOr x (2 ^ v.toNat) ∧ iOr x (2 ^ v.toNat) ≤ 15 := by
  have h1 : (2 : Int) ^ v.toNat < 2 ^ 4 := by
    have : v.toNat ≤ 3 := by omega
    have h2 : (2 : Nat) ^ v.toNat ≤ 2 ^ 3 := Nat.pow_le_pow_right (by decide) this
    have h3 : ((2 ^ v.toNat : Nat) : Int) ≤ 8 := by omega
    push_cast at h3
    omega
  have h := iOr_lt (k := 4) (a := x) (b := 2 ^ v.toNat) ⟨hx.1, by omega⟩ ⟨Int.le_of_lt (p2_pos _), h1⟩
  exact ⟨h.1, by omega⟩
theorem rdPerson_bd {v : Int} {g h : Nat → Int} {T0 T1 T3 T4 T5 : Int → Int} (b : rdB T0 T1 T3 T4 T5) (nb : 0 ≤ g 2 * 10 + v ∧ g 2 * 10 + v ≤ 99) : rdKB (rdPerson v g h T0 T1 T3 T4 T5).2 := by
  obtain ⟨b0, b1, b3, b4, b5⟩ := b
  unfold rdPerson
  split
  · exact ⟨bd_u b0 nb, b1, b3, b4, b5⟩
  · split
    · exact ⟨b0, bd_u b1 nb, b3, b4, b5⟩
    · exact ⟨b0, b1, b3, b4, b5⟩
theorem rdCounter_bd {v : Int} {g h : Nat → Int} {T0 T1 T3 T4 T5 : Int → Int} (b : rdB T0 T1 T3 T4 T5) (nb : 0 ≤ g 2 * 10 + v ∧ g 2 * 10 + v ≤ 9999) (n2 : g 1 = 2 → g 2 * 10 + v ≤ 99) : rdKB (rdCounter v g h T0 T1 T3 T4 T5).2 := by
  obtain ⟨b0, b1, b3, b4, b5⟩ := b
  unfold rdCounter
  split
  · next q => exact ⟨b0, b1, b3, bd_u b4 ⟨nb.1, n2 q⟩, b5⟩
  · split
    · exact ⟨b0, b1, b3, b4, bd_u b5 nb⟩
    · exact ⟨b0, b1, b3, b4, b5⟩
theorem rdBar_bd {v : Int} {g h : Nat → Int} {T0 T1 T3 T4 T5 : Int → Int} (b : rdB T0 T1 T3 T4 T5) (h7 : h 7 ≤ 4) : rdKB (rdBar v g h T0 T1 T3 T4 T5).2 := by
  obtain ⟨b0, b1, b3, b4, b5⟩ := b
  unfold rdBar
  split
  · exact ⟨b0, b1, b3, b4, b5⟩
  · split
    · next q => exact ⟨b0, b1, bd_u b3 (or15 (b3 _) ⟨q.1.1, by omega⟩), b4, b5⟩
    · exact ⟨b0, b1, b3, b4, b5⟩
theorem rdT_bd {c : Int} {s : ((Nat → Int) × (Nat → Int) × (Int → Int) × (Int → Int) × (Int → Int) × (Int → Int) × (Int → Int))} (h : rdK s) : rdKB (rdTakes c s).2 := by
  obtain ⟨g, h, T0, T1, T3, T4, T5⟩ := s
  obtain ⟨⟨a1, a2, a3⟩, b, ⟨c0, c4⟩, hp⟩ := h
  rw [rdTakes_m]
  split
  · exact b
  next e0 =>
  split
  · exact b
  next ec =>
  split
  · next e1 =>
    obtain ⟨-, q⟩ := rdP_a hp e1
    unfold rdA at q
    exact rdPerson_bd b (by show 0 ≤ g 2 * 10 + (c - 48) ∧ g 2 * 10 + (c - 48) ≤ 99; omega)
  · split
    · next e2 =>
      obtain ⟨-, q⟩ := rdP_c hp e2
      unfold rdC at q
      refine rdCounter_bd b (by show 0 ≤ g 2 * 10 + (c - 48) ∧ g 2 * 10 + (c - 48) ≤ 9999; omega) ?_
      intro z
      have z : g 1 + 1 = 2 := z
      show g 2 * 10 + (c - 48) ≤ 99
      omega
    · exact rdBar_bd b a2.2
theorem rdT_ok {c : Int} {s : ((Nat → Int) × (Nat → Int) × (Int → Int) × (Int → Int) × (Int → Int) × (Int → Int) × (Int → Int))} (h : rdK s) (ho : (rdTakes c s).1 = 1) : rdK (rdTakes c s).2 := by
  have hb := rdT_bd (c := c) h
  obtain ⟨g, h, T0, T1, T3, T4, T5⟩ := s
  obtain ⟨⟨a1, a2, a3⟩, b, ⟨c0, c4⟩, hp⟩ := h
  rw [rdTakes_m] at ho hb ⊢
  by_cases e0 : g 0 = 0
  · rw [if_pos e0] at ho hb ⊢
    refine ⟨⟨a1, a2, a3⟩, hb, ⟨c0, c4⟩, ?_⟩
    have ho : (if c = 65 then bI (h 6 < 6) else if c = 67 then bI (h 7 < 4) else bI (c = 78 ∧ h 8 < h 6 * h 7)) = 1 := ho
    by_cases k1 : c = 65
    · rw [if_pos k1] at ho
      exact Or.inr (Or.inl ⟨k1, bI_1 ho, rdA_0 _⟩)
    · rw [if_neg k1] at ho
      by_cases k2 : c = 67
      · rw [if_pos k2] at ho
        exact Or.inr (Or.inr (Or.inl ⟨k2, bI_1 ho, rdC_0 _⟩))
      · rw [if_neg k2] at ho
        have q := bI_1 ho
        have m := mulb a1 a2
        have q8 : h 8 < 24 := by omega
        exact Or.inr (Or.inr (Or.inr ⟨q.1, q8, Or.inl rfl⟩))
  rw [if_neg e0] at ho hb ⊢
  by_cases ec : 48 ≤ c ∧ c ≤ 57
  · rw [if_neg (fun q => q ec)] at ho hb ⊢
    by_cases e1 : g 0 = 65
    · rw [if_pos e1] at ho hb ⊢
      obtain ⟨q6, qa⟩ := rdP_a hp e1
      unfold rdA at qa
      unfold rdPerson at ho hb ⊢
      by_cases d2 : g 1 + 1 = 2
      · rw [if_pos (show up g 1 (g 1 + 1) 1 = 2 from d2)] at ho hb ⊢
        have hn : 0 < g 2 * 10 + (c - 48) := bI_1 ho
        refine ⟨⟨a1, a2, a3⟩, hb, ⟨fun j hj => by rw [uI_n _ _ (by omega)]; exact c0 j hj, c4⟩, Or.inr (Or.inl ⟨e1, q6, ?_⟩)⟩
        show rdA (g 1 + 1) 0 (uI T0 (h 6) (g 2 * 10 + (c - 48)) (h 6))
        rw [uI_s]
        exact ⟨by omega, fun _ => rfl, fun _ => hn⟩
      · rw [if_neg (show ¬ up g 1 (g 1 + 1) 1 = 2 from d2)] at ho hb ⊢
        by_cases d4 : g 1 + 1 = 4
        · rw [if_pos (show up g 1 (g 1 + 1) 1 = 4 from d4)] at ho hb ⊢
          refine ⟨⟨show 0 ≤ h 6 + 1 ∧ h 6 + 1 ≤ 6 by omega, a2, a3⟩, hb, ⟨fun j hj => ?_, c4⟩, Or.inl rfl⟩
          have hj : 0 ≤ j ∧ j < h 6 + 1 := hj
          by_cases q : j < h 6
          · exact c0 j ⟨hj.1, q⟩
          · rw [show j = h 6 by omega]
            omega
        · rw [if_neg (show ¬ up g 1 (g 1 + 1) 1 = 4 from d4)] at ho hb ⊢
          refine ⟨⟨a1, a2, a3⟩, hb, ⟨c0, c4⟩, Or.inr (Or.inl ⟨e1, q6, ?_⟩)⟩
          show rdA (g 1 + 1) (g 2 * 10 + (c - 48)) (T0 (h 6))
          exact ⟨by omega, fun _ => by omega, fun _ => by omega⟩
    · rw [if_neg e1] at ho hb ⊢
      by_cases e2 : g 0 = 67
      · rw [if_pos e2] at ho hb ⊢
        obtain ⟨q7, qa⟩ := rdP_c hp e2
        unfold rdC at qa
        unfold rdCounter at ho hb ⊢
        by_cases d2 : g 1 + 1 = 2
        · rw [if_pos (show up g 1 (g 1 + 1) 1 = 2 from d2)] at ho hb ⊢
          have hn : 0 < g 2 * 10 + (c - 48) := bI_1 ho
          refine ⟨⟨a1, a2, a3⟩, hb, ⟨c0, fun j hj => by rw [uI_n _ _ (by omega)]; exact c4 j hj⟩, Or.inr (Or.inr (Or.inl ⟨e2, q7, ?_⟩))⟩
          show rdC (g 1 + 1) 0 (uI T4 (h 7) (g 2 * 10 + (c - 48)) (h 7))
          rw [uI_s]
          exact ⟨by omega, fun _ => rfl, fun _ => by omega, fun _ => by omega, fun _ => hn⟩
        · rw [if_neg (show ¬ up g 1 (g 1 + 1) 1 = 2 from d2)] at ho hb ⊢
          by_cases d4 : g 1 + 1 = 6
          · rw [if_pos (show up g 1 (g 1 + 1) 1 = 6 from d4)] at ho hb ⊢
            refine ⟨⟨a1, show 0 ≤ h 7 + 1 ∧ h 7 + 1 ≤ 4 by omega, a3⟩, hb, ⟨c0, fun j hj => ?_⟩, Or.inl rfl⟩
            have hj : 0 ≤ j ∧ j < h 7 + 1 := hj
            by_cases q : j < h 7
            · exact c4 j ⟨hj.1, q⟩
            · rw [show j = h 7 by omega]
              omega
          · rw [if_neg (show ¬ up g 1 (g 1 + 1) 1 = 6 from d4)] at ho hb ⊢
            refine ⟨⟨a1, a2, a3⟩, hb, ⟨c0, c4⟩, Or.inr (Or.inr (Or.inl ⟨e2, q7, ?_⟩))⟩
            show rdC (g 1 + 1) (g 2 * 10 + (c - 48)) (T4 (h 7))
            exact ⟨by omega, fun _ => by omega, fun _ => by omega, fun _ => by omega, fun _ => by omega⟩
      · rw [if_neg e2] at ho hb ⊢
        obtain ⟨n1, n2, n3⟩ := rdP_n hp e0 e1 e2
        unfold rdBar at ho hb ⊢
        by_cases d2 : g 1 + 1 = 1
        · rw [if_pos (show up g 1 (g 1 + 1) 1 = 1 from d2)] at ho hb ⊢
          have q := bI_1 ho
          exact ⟨⟨a1, a2, a3⟩, hb, ⟨c0, c4⟩, Or.inr (Or.inr (Or.inr ⟨n1, n2, Or.inr ⟨d2, q.1.1, q.1.2⟩⟩))⟩
        · rw [if_neg (show ¬ up g 1 (g 1 + 1) 1 = 1 from d2)] at ho hb ⊢
          split at ho
          · next q =>
            rw [if_pos q] at hb ⊢
            exact ⟨⟨a1, a2, show 0 ≤ h 8 + 1 ∧ h 8 + 1 ≤ 24 by omega⟩, hb, ⟨c0, c4⟩, Or.inl rfl⟩
          · exact absurd (show (0 : Int) = 1 from ho) (by decide)
  · rw [if_pos ec] at ho
    exact absurd (show (0 : Int) = 1 from ho) (by decide)
/-- how a reading ends -/
def rdOkTo (S : Int → Int) (s : ((Nat → Int) × (Nat → Int) × (Int → Int) × (Int → Int) × (Int → Int) × (Int → Int) × (Int → Int))) (k : Nat) : Prop := ∀ j : Nat, j < k → (rdTakes (S j) (rdN S s j)).1 = 1
def rdE (n : Int) (S : Int → Int) (s : ((Nat → Int) × (Nat → Int) × (Int → Int) × (Int → Int) × (Int → Int) × (Int → Int) × (Int → Int))) (r : Int) (s' : ((Nat → Int) × (Nat → Int) × (Int → Int) × (Int → Int) × (Int → Int) × (Int → Int) × (Int → Int))) : Prop := rdKB s' ∧ ∃ k : Nat, rdOkTo S s k ∧
  (((k : Int) < n ∧ (rdTakes (S k) (rdN S s k)).1 = 0 ∧ r = k) ∨ ((k : Int) = n ∧ s' = rdN S s k ∧ rdK s' ∧ ((s'.1 0 = 0 ∧ r = -9) ∨ (¬ s'.1 0 = 0 ∧ r = n))))
theorem popI_b (x : Int) : 0 ≤ popI x ∧ popI x ≤ 20 := by
  have h := sN_b (g := fun k => bitI x k) (lo := 0) (hi := 1) (fun j => bitI_01 x j) 20
  unfold popI sZ
  have e : (20 : Int).toNat = 20 := rfl
  rw [e]
  omega
theorem rdOpens_01 {c : Int} {g h : Nat → Int} {T0 T1 T3 T4 T5 : Int → Int} : (rdOpens c g h T0 T1 T3 T4 T5).1 = 0 ∨ (rdOpens c g h T0 T1 T3 T4 T5).1 = 1 := by
  unfold rdOpens bI
  (repeat' split) <;> first | exact Or.inl rfl | exact Or.inr rfl
theorem rdPerson_01 {c : Int} {g h : Nat → Int} {T0 T1 T3 T4 T5 : Int → Int} : (rdPerson c g h T0 T1 T3 T4 T5).1 = 0 ∨ (rdPerson c g h T0 T1 T3 T4 T5).1 = 1 := by
  unfold rdPerson bI
  (repeat' split) <;> first | exact Or.inl rfl | exact Or.inr rfl
theorem rdCounter_01 {c : Int} {g h : Nat → Int} {T0 T1 T3 T4 T5 : Int → Int} : (rdCounter c g h T0 T1 T3 T4 T5).1 = 0 ∨ (rdCounter c g h T0 T1 T3 T4 T5).1 = 1 := by
  unfold rdCounter bI
  (repeat' split) <;> first | exact Or.inl rfl | exact Or.inr rfl
theorem rdBar_01 {c : Int} {g h : Nat → Int} {T0 T1 T3 T4 T5 : Int → Int} : (rdBar c g h T0 T1 T3 T4 T5).1 = 0 ∨ (rdBar c g h T0 T1 T3 T4 T5).1 = 1 := by
  unfold rdBar bI
  (repeat' split) <;> first | exact Or.inl rfl | exact Or.inr rfl
theorem rdT_01 {c : Int} {s : ((Nat → Int) × (Nat → Int) × (Int → Int) × (Int → Int) × (Int → Int) × (Int → Int) × (Int → Int))} : (rdTakes c s).1 = 0 ∨ (rdTakes c s).1 = 1 := by
  obtain ⟨g, h, T0, T1, T3, T4, T5⟩ := s
  rw [rdTakes_m]
  split
  · exact rdOpens_01
  · split
    · exact Or.inl rfl
    · split
      · exact rdPerson_01
      · split
        · exact rdCounter_01
        · exact rdBar_01
theorem rdN_s {S : Int → Int} {s : ((Nat → Int) × (Nat → Int) × (Int → Int) × (Int → Int) × (Int → Int) × (Int → Int) × (Int → Int))} {i : Int} (hi : 0 ≤ i) : rdN S s (i + 1).toNat = (rdTakes (S i) (rdN S s i.toNat)).2 := by
  rw [show (i + 1).toNat = i.toNat + 1 by omega]
  show (rdTakes (S ((i.toNat : Nat) : Int)) _).2 = _
  rw [Int.toNat_of_nonneg hi]
theorem rdOk_s {S : Int → Int} {s s1 : ((Nat → Int) × (Nat → Int) × (Int → Int) × (Int → Int) × (Int → Int) × (Int → Int) × (Int → Int))} {i z : Int} {s2 : ((Nat → Int) × (Nat → Int) × (Int → Int) × (Int → Int) × (Int → Int) × (Int → Int) × (Int → Int))} (hi : 0 ≤ i) (h : rdOkTo S s i.toNat) (hs : s1 = rdN S s i.toNat) (hu : (z, s2) = rdTakes (S i) s1) (hz : ¬ z = 0) : rdOkTo S s (i + 1).toNat := by
  intro j hj
  by_cases q : j < i.toNat
  · exact h j q
  · have e : j = i.toNat := by omega
    rw [e, Int.toNat_of_nonneg hi, ← hs]
    rcases rdT_01 (c := S i) (s := s1) with k | k
    · rw [← hu] at k
      exact absurd k hz
    · exact k
theorem rdE_no {S : Int → Int} {s s1 s2 : ((Nat → Int) × (Nat → Int) × (Int → Int) × (Int → Int) × (Int → Int) × (Int → Int) × (Int → Int))} {i n z : Int} (hi : 0 ≤ i ∧ i < n) (h : rdOkTo S s i.toNat) (hs : s1 = rdN S s i.toNat) (hK : rdK s1) (hu : (z, s2) = rdTakes (S i) s1) (hz : z = 0) : rdE n S s i s2 := by
  refine ⟨?_, i.toNat, h, Or.inl ⟨by omega, ?_, by omega⟩⟩
  · have := rdT_bd (c := S i) hK
    rw [← hu] at this
    exact this
  · rw [Int.toNat_of_nonneg hi.1, ← hs, ← hu]
    exact hz
theorem rdK_b {s : ((Nat → Int) × (Nat → Int) × (Int → Int) × (Int → Int) × (Int → Int) × (Int → Int) × (Int → Int))} (h : rdK s) : rdKB s := by
  obtain ⟨g, h, T0, T1, T3, T4, T5⟩ := s
  exact h.2.1
theorem rdE_end {S : Int → Int} {s s1 : ((Nat → Int) × (Nat → Int) × (Int → Int) × (Int → Int) × (Int → Int) × (Int → Int) × (Int → Int))} {i n r : Int} (hi : 0 ≤ i ∧ i = n) (h : rdOkTo S s i.toNat) (hs : s1 = rdN S s i.toNat) (hK : rdK s1) (hr : (s1.1 0 = 0 ∧ r = -9) ∨ (¬ s1.1 0 = 0 ∧ r = n)) : rdE n S s r s1 :=
  ⟨rdK_b hK, i.toNat, h, Or.inr ⟨by omega, hs, hK, hr⟩⟩
def rd0 (g h : Nat → Int) (T0 T1 T3 T4 T5 : Int → Int) : ((Nat → Int) × (Nat → Int) × (Int → Int) × (Int → Int) × (Int → Int) × (Int → Int) × (Int → Int)) := (up g 0 0, up (up (up (up h 6 0) 7 0) 8 0) 9 0, T0, T1, cpI (fun _ => 0) T3 6, T4, T5)
theorem rd0_K {g h : Nat → Int} {T0 T1 T3 T4 T5 : Int → Int} (b : rdB T0 T1 T3 T4 T5) : rdK (rd0 g h T0 T1 T3 T4 T5) := by
  obtain ⟨b0, b1, b3, b4, b5⟩ := b
  exact ⟨⟨⟨Int.le_refl _, show (0 : Int) ≤ 6 by decide⟩, ⟨Int.le_refl _, show (0 : Int) ≤ 4 by decide⟩, Int.le_refl _, show (0 : Int) ≤ 24 by decide⟩, ⟨b0, b1, bd_c (bd_0 (by decide) (by decide)) b3, b4, b5⟩, ⟨fun j hj => by have q : 0 ≤ j ∧ j < 0 := hj; omega, fun j hj => by have q : 0 ≤ j ∧ j < 0 := hj; omega⟩, Or.inl rfl⟩
theorem rdE_r {n : Int} {S : Int → Int} {s s' : ((Nat → Int) × (Nat → Int) × (Int → Int) × (Int → Int) × (Int → Int) × (Int → Int) × (Int → Int))} {r : Int} (h : rdE n S s r s') (hn : 0 ≤ n ∧ n ≤ 72) : -9 ≤ r ∧ r ≤ 72 := by
  obtain ⟨-, k, -, q | ⟨-, -, -, q | q⟩⟩ := h <;> omega
