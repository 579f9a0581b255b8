/-! the want: the answer is one -/
theorem tT_a {A A' e : Int → Int} {N : Int} : ∀ {k : Nat}, (∀ j : Int, N - k ≤ j ∧ j < N → A j = A' j) → tT A N e k = tT A' N e k
  | 0, _ => rfl
  | k + 1, h => by
    show tT A N e k + _ = tT A' N e k + _
    rw [tT_a (k := k) (fun j hj => h j (by push_cast; omega)), h (N - (k : Int) - 1) (by push_cast; omega)]
theorem wT_h {H H' e : Int → Int} {el N : Int} : ∀ {k : Nat}, (∀ j : Int, N - k ≤ j ∧ j < N → H j = H' j) → wT H el N e k = wT H' el N e k
  | 0, _ => rfl
  | k + 1, h => by
    show wT H el N e k + _ = wT H' el N e k + _
    rw [wT_h (k := k) (fun j hj => h j (by push_cast; omega)), h (N - (k : Int) - 1) (by push_cast; omega)]
theorem oT_b {B B' e : Int → Int} {N : Int} (k : Nat) (h : ∀ j : Int, N - k ≤ j ∧ j < N → B j = B' j) : oT B N e k ↔ oT B' N e k := by
  rw [oT_all, oT_all]
  constructor
  · intro q j hj
    rw [← h j hj]
    exact q j hj
  · intro q j hj
    rw [h j hj]
    exact q j hj
section CT
variable {A A' F F' B B' : Int → Int} {p N L T : Int}
theorem opt_c (hN : 0 ≤ N) (hA : ∀ j : Int, 0 ≤ j ∧ j < N → A j = A' j) (hF : ∀ j : Int, 0 ≤ j ∧ j < N → F j = F' j) (hB : ∀ j : Int, 0 ≤ j ∧ j < N → B j = B' j) (e : Int → Int) : tT A N e N.toNat = tT A' N e N.toNat ∧ wT (hrI F) (p * 64) N e N.toNat = wT (hrI F') (p * 64) N e N.toNat ∧ (oT B N e N.toNat ↔ oT B' N e N.toNat) :=
  ⟨tT_a (fun j hj => hA j (by omega)), wT_h (fun j hj => by unfold hrI; rw [hF j (by omega)]), oT_b _ (fun j hj => hB j (by omega))⟩
theorem chA_tie {a a' : Int} (hN : 0 ≤ N) (hA : ∀ j : Int, 0 ≤ j ∧ j < N → A j = A' j) (hF : ∀ j : Int, 0 ≤ j ∧ j < N → F j = F' j) (hB : ∀ j : Int, 0 ≤ j ∧ j < N → B j = B' j) (h : chA A F B p N L T a) (h' : chA A' F' B' p N L T a') : a = a' := by
  have cc := opt_c (p := p) hN hA hF hB
  rcases h with ⟨h1, h2⟩ | ⟨W, w0, w1, ⟨e, e1, e2, e3⟩, w3⟩ <;> rcases h' with ⟨g1, g2⟩ | ⟨V, v0, v1, ⟨f, f1, f2, f3⟩, v3⟩
  · omega
  · obtain ⟨c1, c2, c3⟩ := cc f
    exact absurd (by rw [c1]; exact f2) (h2 f (c3.mpr f1))
  · obtain ⟨c1, c2, c3⟩ := cc e
    exact absurd (by rw [← c1]; exact e2) (g2 e (c3.mp e1))
  · obtain ⟨c1, c2, c3⟩ := cc f
    obtain ⟨d1, d2, d3⟩ := cc e
    have x := w1 f (c3.mpr f1) (by rw [c1]; exact f2)
    have y := v1 e (d3.mp e1) (by rw [← d1]; exact e2)
    have : W = V := by omega
    rw [w3, v3, this]
theorem chB_tie {a a' x : Int} (hN : 0 ≤ N) (hx : 0 ≤ x ∧ x < N) (hA : ∀ j : Int, 0 ≤ j ∧ j < N → A j = A' j) (hF : ∀ j : Int, 0 ≤ j ∧ j < N → F j = F' j) (hB : ∀ j : Int, 0 ≤ j ∧ j < N → B j = B' j) (h : chB A F B p N L T x a) (h' : chB A' F' B' p N L T x a') : a = a' := by
  have cc := opt_c (p := p) hN hA hF hB
  rcases h with ⟨h1, h2⟩ | ⟨W, E, w1, ⟨⟨e, ⟨e1, e2, e3⟩, ea⟩, w2⟩, w3⟩ <;> rcases h' with ⟨g1, g2⟩ | ⟨V, D, v1, ⟨⟨f, ⟨f1, f2, f3⟩, fa⟩, v2⟩, v3⟩
  · omega
  · obtain ⟨c1, c2, c3⟩ := cc f
    exact absurd (by rw [c1]; exact f2) (h2 f (c3.mpr f1))
  · obtain ⟨c1, c2, c3⟩ := cc e
    exact absurd (by rw [← c1]; exact e2) (g2 e (c3.mp e1))
  · obtain ⟨c1, c2, c3⟩ := cc f
    obtain ⟨d1, d2, d3⟩ := cc e
    have xx := w1 f (c3.mpr f1) (by rw [c1]; exact f2)
    have yy := v1 e (d3.mp e1) (by rw [← d1]; exact e2)
    have hWV : W = V := by omega
    have of : opt A (hrI F) B (p * 64) N L T W f := ⟨c3.mpr f1, by rw [c1]; exact f2, by rw [c2, f3, hWV]⟩
    have oe : opt A' (hrI F') B' (p * 64) N L T V e := ⟨d3.mp e1, by rw [← d1]; exact e2, by rw [← d2, e3, hWV]⟩
    have key : ∀ n : Nat, (n : Int) ≤ N → agr E D n := by
      intro n
      induction n with
      | zero => exact fun _ j hj => by omega
      | succ n ih =>
        intro hn j hj
        have ih := ih (by omega)
        by_cases q : j < n
        · exact ih j ⟨hj.1, q⟩
        · have ej : j = (n : Int) := by omega
          rw [ej]
          have p1 := w2 n (by omega) f of (fun z hz => by rw [fa z (by omega), ih z hz])
          have p2 := v2 n (by omega) e oe (fun z hz => by rw [ea z (by omega), ih z hz])
          rw [fa n (by omega)] at p1
          rw [ea n (by omega)] at p2
          omega
    rw [w3, v3]
    exact key N.toNat (by omega) x (by omega)
end CT
section EC
variable {P K P2 K2 kb n n2 cm cm2 : Int} {T1 M7 T4 M8 T3 M10 T2 M11 M12 A0 M6 A1 M9 A2 M22 A3 M23 A4 M24 A5 M25 : Int → Int}
theorem e_cheap {c x u u2 : Int} (h3 : J3 P K P2 K2 T1 M7 T4 M8 T3 M10 T2 M11 kb M12) (h4 : J4 P K n n2 cm cm2 A0 M6 A1 M9 A2 M22 A3 M23 A4 M24 A5 M25)
    (hu : (¬ (0 ≤ c ∧ c < K) ∧ u = -1) ∨ ((0 ≤ c ∧ c < K) ∧ ¬ (1 ≤ x ∧ x ≤ 999) ∧ u = -2) ∨ ((0 ≤ c ∧ c < K) ∧ (1 ≤ x ∧ x ≤ 999) ∧ chA A0 T1 (fun x => bitI (T3 x) c) (T4 c) P x (min (A1 c) (x + 98)) u))
    (hu2 : (¬ (0 ≤ c ∧ c < K2) ∧ u2 = -1) ∨ ((0 ≤ c ∧ c < K2) ∧ ¬ (1 ≤ x ∧ x ≤ 999) ∧ u2 = -2) ∨ ((0 ≤ c ∧ c < K2) ∧ (1 ≤ x ∧ x ≤ 999) ∧ chA M6 M7 (fun x => M10 (4 * x + c)) (M8 c) P2 x (min (M9 c) (x + 98)) u2)) : u = u2 := by
  obtain ⟨⟨rfl, rfl, hP, hK⟩, ⟨f1, f2, f3⟩, ⟨r1, r2, r3⟩, ⟨b1, b2, b3⟩, -, -⟩ := h3
  obtain ⟨-, ⟨a1, a2, a3⟩, ⟨s1, s2, s3⟩, -⟩ := h4
  rcases hu with ⟨q, e⟩ | ⟨q, q2, e⟩ | ⟨q, q2, e⟩ <;> rcases hu2 with ⟨t, e'⟩ | ⟨t, t2, e'⟩ | ⟨t, t2, e'⟩
  · omega
  · exact absurd t q
  · exact absurd t q
  · exact absurd q t
  · omega
  · exact absurd t2 q2
  · exact absurd q t
  · exact absurd q2 t2
  · rw [(r3 c q).1, s3 c q] at e
    exact chA_tie hP.1 (fun j hj => (a3 j hj).1) f3 (fun j hj => b3 j c (by omega) (by omega)) e e'
theorem e_cheapBy {c x y u u2 : Int} (h3 : J3 P K P2 K2 T1 M7 T4 M8 T3 M10 T2 M11 kb M12) (h4 : J4 P K n n2 cm cm2 A0 M6 A1 M9 A2 M22 A3 M23 A4 M24 A5 M25)
    (hu : (¬ ((0 ≤ c ∧ c < K) ∧ 0 ≤ y ∧ y < P) ∧ u = -1) ∨ (((0 ≤ c ∧ c < K) ∧ 0 ≤ y ∧ y < P) ∧ ¬ (1 ≤ x ∧ x ≤ 999) ∧ u = -2) ∨ (((0 ≤ c ∧ c < K) ∧ 0 ≤ y ∧ y < P) ∧ (1 ≤ x ∧ x ≤ 999) ∧ chB A0 T1 (fun x => bitI (T3 x) c) (T4 c) P x (min (A1 c) (x + 98)) y u))
    (hu2 : (¬ ((0 ≤ c ∧ c < K2) ∧ 0 ≤ y ∧ y < P2) ∧ u2 = -1) ∨ (((0 ≤ c ∧ c < K2) ∧ 0 ≤ y ∧ y < P2) ∧ ¬ (1 ≤ x ∧ x ≤ 999) ∧ u2 = -2) ∨ (((0 ≤ c ∧ c < K2) ∧ 0 ≤ y ∧ y < P2) ∧ (1 ≤ x ∧ x ≤ 999) ∧ chB M6 M7 (fun x => M10 (4 * x + c)) (M8 c) P2 x (min (M9 c) (x + 98)) y u2)) : u = u2 := by
  obtain ⟨⟨rfl, rfl, hP, hK⟩, ⟨f1, f2, f3⟩, ⟨r1, r2, r3⟩, ⟨b1, b2, b3⟩, -, -⟩ := h3
  obtain ⟨-, ⟨a1, a2, a3⟩, ⟨s1, s2, s3⟩, -⟩ := h4
  rcases hu with ⟨q, e⟩ | ⟨q, q2, e⟩ | ⟨q, q2, e⟩ <;> rcases hu2 with ⟨t, e'⟩ | ⟨t, t2, e'⟩ | ⟨t, t2, e'⟩
  · omega
  · exact absurd t q
  · exact absurd t q
  · exact absurd q t
  · omega
  · exact absurd t2 q2
  · exact absurd q t
  · exact absurd q2 t2
  · rw [(r3 c q.1).1, s3 c q.1] at e
    exact chB_tie hP.1 q.2 (fun j hj => (a3 j hj).1) f3 (fun j hj => b3 j c (by omega) (by omega)) e e'
end EC
/-! pieces: the two tables tell the same -/
def rrC (x y t : Int) : Prop := (x = y ∧ 0 ≤ x ∧ x ≤ t) ∨ (x = 1000000000 ∧ y = 99999)
section CU2
variable {A A' T K : Int → Int} {m N t : Int}
theorem cut_in (hA : ∀ j : Int, 0 ≤ j ∧ j < N → A j = A' j ∧ 1 ≤ A j) (ht : 1 ≤ t ∧ t ≤ 999) (hR : ∀ s : Int, 0 ≤ s ∧ s < t → rrC (T s) (K s) s) : ∀ i : Nat, (i : Int) ≤ N → rrC (fwI A T m t i) (twI A' K m t i) t
  | 0, _ => Or.inr ⟨rfl, by unfold twI; rw [if_neg (by omega)]⟩
  | i + 1, h => by
    have ih := cut_in hA ht hR i (by omega)
    have hi := hA i (by omega)
    obtain ⟨x, hx⟩ : ∃ x : Int, fwI A T m t i = x := ⟨_, rfl⟩
    obtain ⟨y, hy⟩ : ∃ y : Int, twI A' K m t i = y := ⟨_, rfl⟩
    rw [hx, hy] at ih
    show rrC (if bitI m i = 1 ∧ A i ≤ t then min (fwI A T m t i) (T (t - A i) + 1) else fwI A T m t i) (if bitI m i = 1 ∧ A' i ≤ t ∧ K (t - A' i) + 1 < twI A' K m t i then K (t - A' i) + 1 else twI A' K m t i) t
    rw [hx, hy, ← hi.1]
    by_cases q : bitI m i = 1 ∧ A i ≤ t
    · have hr := hR (t - A i) (by omega)
      obtain ⟨u, hu⟩ : ∃ u : Int, T (t - A i) = u := ⟨_, rfl⟩
      obtain ⟨v, hv⟩ : ∃ v : Int, K (t - A i) = v := ⟨_, rfl⟩
      rw [hu, hv] at hr
      rw [hu, hv, if_pos q]
      by_cases z : v + 1 < y
      · rw [if_pos ⟨q.1, q.2, z⟩]
        unfold rrC at *
        omega
      · rw [if_neg (fun w => z w.2.2)]
        unfold rrC at *
        omega
    · rw [if_neg q, if_neg (fun w => q ⟨w.1, w.2.1⟩)]
      exact ih
theorem fw_hi (h0 : 0 ≤ m) (hm : m < 2 ^ N.toNat) (hN : 0 ≤ N) : ∀ k : Nat, fwI A T m t (N.toNat + k) = fwI A T m t N.toNat
  | 0 => rfl
  | k + 1 => by
    show (if bitI m ((N.toNat + k : Nat) : Int) = 1 ∧ A ((N.toNat + k : Nat) : Int) ≤ t then _ else fwI A T m t (N.toNat + k)) = _
    rw [if_neg (fun z => by have := bitI_hi (x := N) (j := ((N.toNat + k : Nat) : Int)) h0 hm (by push_cast; omega) hN; omega)]
    exact fw_hi h0 hm hN k
theorem tw_0 (hA : ∀ j : Int, 0 ≤ j ∧ j < N → 1 ≤ A' j) : ∀ i : Nat, (i : Int) ≤ N → twI A' K m 0 i = 0
  | 0, _ => rfl
  | i + 1, h => by
    show (if bitI m i = 1 ∧ A' i ≤ 0 ∧ K (0 - A' i) + 1 < twI A' K m 0 i then K (0 - A' i) + 1 else twI A' K m 0 i) = 0
    have := hA i (by omega)
    rw [if_neg (fun z => by omega)]
    exact tw_0 hA i (by omega)
theorem cut_tab {P : Int → Int} (hN : 0 ≤ N ∧ N ≤ 6) (h0 : 0 ≤ m) (hm : m < 2 ^ N.toNat) (hA : ∀ j : Int, 0 ≤ j ∧ j < N → A j = A' j ∧ 1 ≤ A j) : ∀ n : Nat, n ≤ 999 → ∀ s : Int, 0 ≤ s ∧ s ≤ n → rrC (tbI A m P n s) (tmI A' m N.toNat K (n + 1) s) s
  | 0, _, s, hs => by
    have e : s = 0 := by omega
    subst e
    show rrC (uI P 0 0 0) (uI (tmI A' m N.toNat K 0) 0 (twI A' (tmI A' m N.toNat K 0) m 0 N.toNat) 0) 0
    rw [uI_s, uI_s, tw_0 (N := N) (fun j hj => by have := hA j hj; omega) _ (by omega)]
    exact Or.inl ⟨rfl, by omega, by omega⟩
  | n + 1, hn, s, hs => by
    have ih := cut_tab (P := P) hN h0 hm hA n (by omega)
    show rrC (uI (tbI A m P n) ((n : Int) + 1) (fwI A (tbI A m P n) m ((n : Int) + 1) 6) s) (uI (tmI A' m N.toNat K (n + 1)) ((n + 1 : Nat) : Int) (twI A' (tmI A' m N.toNat K (n + 1)) m ((n + 1 : Nat) : Int) N.toNat) s) s
    rw [show ((n + 1 : Nat) : Int) = (n : Int) + 1 by push_cast; rfl]
    by_cases q : s = (n : Int) + 1
    · rw [q, uI_s, uI_s]
      have k := cut_in (m := m) (t := (n : Int) + 1) (T := tbI A m P n) (K := tmI A' m N.toNat K (n + 1)) hA (by omega) (fun z hz => ih z (by omega)) N.toNat (by omega)
      have f6 := fw_hi (A := A) (T := tbI A m P n) (t := (n : Int) + 1) h0 hm hN.1 (6 - N.toNat)
      rw [show N.toNat + (6 - N.toNat) = 6 by omega] at f6
      rw [f6]
      exact k
    · rw [uI_n _ _ q, uI_n _ _ q]
      exact ih s (by push_cast at hs; omega)
theorem cut_lg {P : Int → Int} (hN : 0 ≤ N ∧ N ≤ 6) (h0 : 0 ≤ m) (hm : m < 2 ^ N.toNat) (hA : ∀ j : Int, 0 ≤ j ∧ j < N → A j = A' j ∧ 1 ≤ A j) : ∀ n : Nat, n ≤ 999 → lgI A m P n = mtI A' m N.toNat K (n + 1) ∧ tbI A m P n (lgI A m P n) = tmI A' m N.toNat K (n + 1) (lgI A m P n)
  | 0, _ => by
    have t := cut_tab (P := P) (K := K) hN h0 hm hA 0 (by decide) 0 (by decide)
    have v0 : tbI A m P 0 0 = 0 := rfl
    refine ⟨?_, ?_⟩
    · show (0 : Int) = if tmI A' m N.toNat K (0 + 1) ((0 : Nat) : Int) < 99999 then ((0 : Nat) : Int) else 0
      split <;> rfl
    · show tbI A m P 0 0 = tmI A' m N.toNat K (0 + 1) 0
      rcases t with t | t
      · exact t.1
      · omega
  | n + 1, hn => by
    obtain ⟨i1, i2⟩ := cut_lg (P := P) hN h0 hm hA n (by omega)
    have t := cut_tab (P := P) (K := K) hN h0 hm hA (n + 1) hn ((n : Int) + 1) (by push_cast; omega)
    have lb := lgI_in (A := A) (m := m) (P := P) n
    show (if tbI A m P (n + 1) ((n : Int) + 1) < 1000000000 then (n : Int) + 1 else lgI A m P n) = (if tmI A' m N.toNat K (n + 1 + 1) ((n + 1 : Nat) : Int) < 99999 then ((n + 1 : Nat) : Int) else mtI A' m N.toNat K (n + 1)) ∧ tbI A m P (n + 1) (if tbI A m P (n + 1) ((n : Int) + 1) < 1000000000 then (n : Int) + 1 else lgI A m P n) = tmI A' m N.toNat K (n + 1 + 1) (if tbI A m P (n + 1) ((n : Int) + 1) < 1000000000 then (n : Int) + 1 else lgI A m P n)
    rw [show ((n + 1 : Nat) : Int) = (n : Int) + 1 by push_cast; rfl]
    rcases t with ⟨t1, t2, t3⟩ | ⟨t1, t2⟩
    · rw [if_pos (by omega), if_pos (by omega)]
      exact ⟨rfl, t1⟩
    · rw [if_neg (by omega), if_neg (by omega)]
      refine ⟨i1, ?_⟩
      have e1 : tbI A m P (n + 1) (lgI A m P n) = tbI A m P n (lgI A m P n) := uI_n _ _ (by omega)
      have e2 : tmI A' m N.toNat K (n + 1 + 1) (lgI A m P n) = tmI A' m N.toNat K (n + 1) (lgI A m P n) := uI_n _ _ (by push_cast; omega)
      rw [e1, e2]
      exact i2
theorem e_cut {P : Int → Int} {x w : Int} (hN : 0 ≤ N ∧ N ≤ 6) (hA : ∀ j : Int, 0 ≤ j ∧ j < N → A j = A' j ∧ 1 ≤ A j) : pCutC N A P x m w = pCutM N A' K x m w := by
  unfold pCutC pCutM
  by_cases q : (1 ≤ x ∧ x ≤ 999) ∧ 0 ≤ m ∧ m ≤ 2 ^ N.toNat - 1
  · rw [if_neg (show ¬ ¬ ((1 ≤ x ∧ x ≤ 999) ∧ 0 ≤ m ∧ m ≤ 2 ^ N.toNat - 1) from fun z => z q), if_neg (show ¬ ¬ ((1 ≤ x ∧ x ≤ 999) ∧ 0 ≤ m ∧ m ≤ 2 ^ N.toNat - 1) from fun z => z q)]
    obtain ⟨k1, k2⟩ := cut_lg (P := P) (K := K) hN q.2.1 (by omega) hA x.toNat (by omega)
    rw [show (x + 1).toNat = x.toNat + 1 by omega, ← k1, k2]
  · rw [if_pos q, if_pos q]
end CU2
