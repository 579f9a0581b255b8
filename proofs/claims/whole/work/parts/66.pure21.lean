theorem nT_0 {N : Int} {e : Int → Int} : ∀ {k : Nat}, (∀ j : Int, N - k ≤ j ∧ j < N → 0 ≤ e j) → 0 ≤ nT N e k
  | 0, _ => Int.le_refl _
  | k + 1, h => by
    have a := nT_0 (N := N) (e := e) (k := k) (fun j hj => h j (by push_cast; omega))
    have b := h (N - (k : Int) - 1) (by push_cast; omega)
    show 0 ≤ nT N e k + e (N - (k : Int) - 1)
    omega
section OM2
variable {A G E : Int → Int} {m L T w i p n : Int}
def canP (A G : Int → Int) (i p n L T c : Int) : Prop := ∃ x : Int, (L ≤ x ∧ x ≤ T) ∧ p + c * A i ≤ x ∧ G (1101 * (i + 1) + x - (p + c * A i)) = n - c
theorem can_to {c : Int} (hi : 0 ≤ i ∧ i < 6) (hA : ∀ j, 0 ≤ A j) (hp : 0 ≤ p) (hn : n < 99999) (hR : rwM A m T G (i + 1)) (h : shM A m 6 L T w E i p n) (hb : bitI m i = 1) (hc : 1 ≤ c) (hx : canP A G i p n L T c) : ∃ e, optM A m 6 L T w e ∧ agr e E i ∧ e i = c := by
  obtain ⟨x, x1, x2, x3⟩ := hx
  have ca := Int.mul_nonneg (show 0 ≤ c by omega) (hA i)
  obtain ⟨⟨-, -, f3⟩, -⟩ := hR (x - (p + c * A i)) (by omega)
  rw [show 1101 * (i + 1) + (x - (p + c * A i)) = 1101 * (i + 1) + x - (p + c * A i) by omega, x3] at f3
  obtain ⟨f, s1, s2, s3⟩ := f3 (by omega)
  obtain ⟨g, g1, g2, g3, g4, g5⟩ := shM_put (A := A) (c := c) (N := 6) (by decide) hi h (fun _ => hc) (fun z => absurd hb z) s1
  exact ⟨g, ⟨g1, ⟨by omega, by omega⟩, by omega⟩, g2, g3⟩
theorem can_of {e : Int → Int} (hi : 0 ≤ i ∧ i < 6) (hA : ∀ j, 0 ≤ A j) (hp : 0 ≤ p) (hn : n < 99999) (hR : rwM A m T G (i + 1)) (hl : lstM A m 6 L T w) (h : shM A m 6 L T w E i p n) (hb : bitI m i = 1) (ho : optM A m 6 L T w e) (ha : agr e E i) : 1 ≤ e i ∧ canP A G i p n L T (e i) := by
  obtain ⟨⟨c1, c1'⟩, c2, c3, c4, c5⟩ := shM_cut (N := 6) (by decide) hi h ho ha
  have e1 := c4 hb
  have ca := Int.mul_nonneg (show 0 ≤ e i by omega) (hA i)
  have t0 := sT_t hA c3
  obtain ⟨⟨f1, f2, f3⟩, -⟩ := hR (tT A 6 e (6 - (i + 1)).toNat) (by omega)
  have le := f2 e c3 rfl
  obtain ⟨v, hv⟩ : ∃ v : Int, G (1101 * (i + 1) + tT A 6 e (6 - (i + 1)).toNat) = v := ⟨_, rfl⟩
  rw [hv] at f1 f3 le
  obtain ⟨f, s1, s2, s3⟩ := f3 (by omega)
  obtain ⟨g, g1, g2, g3, g4, g5⟩ := shM_put (A := A) (c := e i) (N := 6) (by decide) hi h (fun _ => e1) (fun z => absurd hb z) s1
  have mn := hl g g1 ⟨by omega, by omega⟩
  refine ⟨e1, p + e i * A i + tT A 6 e (6 - (i + 1)).toNat, ⟨c1, c1'⟩, by omega, ?_⟩
  rw [show 1101 * (i + 1) + (p + e i * A i + tT A 6 e (6 - (i + 1)).toNat) - (p + e i * A i) = 1101 * (i + 1) + tT A 6 e (6 - (i + 1)).toNat by omega, hv]
  omega
theorem shM_no (hi : 0 ≤ i ∧ i < 6) (h : shM A m 6 L T w E i p n) (hb : ¬ bitI m i = 1) : shM A m 6 L T w (uI E i 0) (i + 1) (p + 0 * A i) (n - 0) := by
  have key : ∀ e, optM A m 6 L T w e → agr e E i → e i = 0 := fun e ho ha => (shM_cut (N := 6) (by decide) hi h ho ha).2.2.2.2 hb
  obtain ⟨⟨e, ho, ha⟩, h2, h3, h4⟩ := h
  refine ⟨⟨e, ho, agr_s ha (key e ho ha)⟩, ?_, ?_, ?_⟩
  · intro x hx f hf hg
    by_cases q : x = i
    · rw [q] at hg ⊢
      rw [agr_u (Int.le_refl _)] at hg
      rw [uI_s, key f hf hg]
      exact Int.le_refl _
    · rw [agr_u (by omega)] at hg
      rw [uI_n _ _ q]
      exact h2 x (by omega) f hf hg
  · rw [u_t hi.1]; omega
  · rw [u_n hi.1]; omega
theorem shM_yes {c : Int} (hi : 0 ≤ i ∧ i < 6) (hA : ∀ j, 0 ≤ A j) (hp : 0 ≤ p) (hn : n < 99999) (hR : rwM A m T G (i + 1)) (hl : lstM A m 6 L T w) (h : shM A m 6 L T w E i p n) (hb : bitI m i = 1) (hc : 1 ≤ c) (h1 : canP A G i p n L T c) (h2 : ∀ z : Int, 1 ≤ z ∧ z < c → ¬ canP A G i p n L T z) : shM A m 6 L T w (uI E i c) (i + 1) (p + c * A i) (n - c) := by
  obtain ⟨g, g1, g2, g3⟩ := can_to hi hA hp hn hR h hb hc h1
  have key : ∀ e, optM A m 6 L T w e → agr e E i → c ≤ e i := by
    intro e ho ha
    obtain ⟨e1, e2⟩ := can_of hi hA hp hn hR hl h hb ho ha
    by_cases q : e i < c
    · exact absurd e2 (h2 (e i) ⟨e1, q⟩)
    · omega
  obtain ⟨-, k2, k3, k4⟩ := h
  refine ⟨⟨g, g1, agr_s g2 g3⟩, ?_, ?_, ?_⟩
  · intro x hx f hf hg
    by_cases q : x = i
    · rw [q] at hg ⊢
      rw [agr_u (Int.le_refl _)] at hg
      rw [uI_s]
      exact key f hf hg
    · rw [agr_u (by omega)] at hg
      rw [uI_n _ _ q]
      exact k2 x (by omega) f hf hg
  · rw [u_t hi.1]; omega
  · rw [u_n hi.1]; omega
theorem shM_0 (h : ∃ e, optM A m 6 L T w e) : shM A m 6 L T w E 0 0 w := by
  obtain ⟨e, he⟩ := h
  refine ⟨⟨e, he, fun j hj => by omega⟩, fun x hx => by omega, rfl, ?_⟩
  show w = w - 0
  omega
theorem shM_b (hA : ∀ j, 0 ≤ A j) (hi : 0 ≤ i ∧ i ≤ 6) (h : shM A m 6 L T w E i p n) : (0 ≤ p ∧ p ≤ T) ∧ 0 ≤ n ∧ n ≤ w := by
  obtain ⟨⟨e, ⟨o1, o2, o3⟩, ha⟩, -, h1, h2⟩ := h
  obtain ⟨q, rfl⟩ := Int.eq_ofNat_of_zero_le hi.1
  have t1 := tT_split (A := A) (e := e) (N := 6) (by decide) (i := q) hi.2
  have w1 := nT_split (e := e) (N := 6) (by decide) (i := q) hi.2
  rw [agr_t (A := A) ha] at t1
  rw [agr_n ha] at w1
  have oa : ∀ j : Int, 0 ≤ j ∧ j < 6 → 0 ≤ e j := fun j hj => by
    have := o1 j (by show 6 - ((6 : Nat) : Int) ≤ j ∧ j < 6; omega)
    by_cases z : bitI m j = 1
    · have := this.1 z; omega
    · have := this.2 z; omega
  have ot : sT m 6 e (6 - (q : Int)).toNat := fun j hj => o1 j (by show 6 - ((6 : Nat) : Int) ≤ j ∧ j < 6; omega)
  have t2 := sT_t hA ot
  have n2 : 0 ≤ nT 6 e (6 - (q : Int)).toNat := by
    have := nT_0 (N := 6) (k := (6 - (q : Int)).toNat) (e := e) (fun j hj => oa j (by omega))
    exact this
  have s1 : 0 ≤ sZ (fun j => E j * A j) (q : Int) := sZ_nn (fun j a b => Int.mul_nonneg (by rw [← ha j ⟨a, b⟩]; exact oa j (by omega)) (hA j))
  have s2 : 0 ≤ sZ E (q : Int) := sZ_nn (fun j a b => by rw [← ha j ⟨a, b⟩]; exact oa j (by omega))
  omega
end OM2
theorem shM_eb {A E e : Int → Int} {m L T w i p n : Int} (hA : ∀ j, 0 ≤ A j) (hi : 0 ≤ i ∧ i < 6) (h : shM A m 6 L T w E i p n) (ho : optM A m 6 L T w e) (ha : agr e E i) : e i ≤ n := by
  obtain ⟨-, c2, c3, -, -⟩ := shM_cut (N := 6) (by decide) hi h ho ha
  have := nT_0 (N := 6) (e := e) (k := (6 - (i + 1)).toNat) (fun j hj => by
    have := c3 j hj
    by_cases z : bitI m j = 1
    · have := this.1 z; omega
    · have := this.2 z; omega)
  omega
