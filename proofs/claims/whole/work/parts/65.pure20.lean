/-! the ways of exactly a set that take fewest ells, and the least of them -/
section OM
variable {A : Int → Int} {m N : Int}
theorem nT_split {e : Int → Int} (hN : 0 ≤ N) : ∀ {i : Nat}, (i : Int) ≤ N → nT N e N.toNat = sZ e i + nT N e (N - i).toNat
  | 0, _ => by
    rw [show (N - ((0 : Nat) : Int)).toNat = N.toNat by omega]
    show _ = 0 + _
    omega
  | i + 1, h => by
    rw [nT_split hN (i := i) (by omega), show (((i + 1 : Nat)) : Int) = (i : Int) + 1 by push_cast; rfl, sZ_s _ (by omega), show (N - (i : Int)).toNat = (N - ((i : Int) + 1)).toNat + 1 by omega]
    show _ + (nT N e (N - ((i : Int) + 1)).toNat + e (N - (((N - ((i : Int) + 1)).toNat : Nat) : Int) - 1)) = _
    rw [show N - (((N - ((i : Int) + 1)).toNat : Nat) : Int) - 1 = (i : Int) by omega]
    omega
def optM (A : Int → Int) (m N L T w : Int) (e : Int → Int) : Prop := sT m N e N.toNat ∧ (L ≤ tT A N e N.toNat ∧ tT A N e N.toNat ≤ T) ∧ nT N e N.toNat = w
def lstM (A : Int → Int) (m N L T w : Int) : Prop := ∀ e : Int → Int, sT m N e N.toNat → L ≤ tT A N e N.toNat ∧ tT A N e N.toNat ≤ T → w ≤ nT N e N.toNat
def shM (A : Int → Int) (m N L T w : Int) (E : Int → Int) (i p n : Int) : Prop :=
  (∃ e, optM A m N L T w e ∧ agr e E i) ∧ (∀ x : Int, 0 ≤ x ∧ x < i → ∀ e, optM A m N L T w e → agr e E x → E x ≤ e x) ∧ p = sZ (fun j => E j * A j) i ∧ n = w - sZ E i
theorem agr_n {e E : Int → Int} {i : Int} (h : agr e E i) : sZ e i = sZ E i := sZ_c (fun j a b => h j ⟨a, b⟩)
theorem u_n {E : Int → Int} {i n : Int} (hi : 0 ≤ i) : sZ (uI E i n) (i + 1) = sZ E i + n := by
  rw [sZ_s _ hi, uI_s, sZ_c (h := E) (fun j a b => uI_n _ _ (by omega))]
theorem shM_cut {L T w i p n : Int} {E e : Int → Int} (hN : 0 ≤ N) (hi : 0 ≤ i ∧ i < N) (h : shM A m N L T w E i p n) (ho : optM A m N L T w e) (ha : agr e E i) :
    (L ≤ p + e i * A i + tT A N e (N - (i + 1)).toNat ∧ p + e i * A i + tT A N e (N - (i + 1)).toNat ≤ T) ∧ n = e i + nT N e (N - (i + 1)).toNat ∧ sT m N e (N - (i + 1)).toNat ∧ (bitI m i = 1 → 1 ≤ e i) ∧ (¬ bitI m i = 1 → e i = 0) := by
  obtain ⟨-, -, h1, h2⟩ := h
  obtain ⟨o1, o2, o3⟩ := ho
  obtain ⟨q, rfl⟩ := Int.eq_ofNat_of_zero_le hi.1
  have t1 := tT_split (A := A) (e := e) hN (i := q + 1) (by push_cast; omega)
  have w1 := nT_split (e := e) hN (i := q + 1) (by push_cast; omega)
  rw [show (((q + 1 : Nat)) : Int) = (q : Int) + 1 by push_cast; rfl, sZ_s _ (by omega)] at t1 w1
  have ea := agr_t (A := A) ha
  have ew := agr_n ha
  have oi := o1 q (by omega)
  refine ⟨⟨by omega, by omega⟩, by omega, fun j hj => o1 j (by omega), oi.1, oi.2⟩
theorem shM_put {L T w i p n c : Int} {E f : Int → Int} (hN : 0 ≤ N) (hi : 0 ≤ i ∧ i < N) (h : shM A m N L T w E i p n) (h1 : bitI m i = 1 → 1 ≤ c) (h2 : ¬ bitI m i = 1 → c = 0) (of : sT m N f (N - (i + 1)).toNat) :
    ∃ g : Int → Int, sT m N g N.toNat ∧ agr g E i ∧ g i = c ∧ tT A N g N.toNat = p + c * A i + tT A N f (N - (i + 1)).toNat ∧ nT N g N.toNat = w - n + c + nT N f (N - (i + 1)).toNat := by
  obtain ⟨⟨e, ⟨o1, -, -⟩, ha⟩, -, k1, k2⟩ := h
  obtain ⟨q, rfl⟩ := Int.eq_ofNat_of_zero_le hi.1
  obtain ⟨g, hg⟩ : ∃ g : Int → Int, g = fun j => if j < (q : Int) then E j else if j = q then c else f j := ⟨_, rfl⟩
  have gm : g q = c := by rw [hg]; show (if (q : Int) < q then E q else if (q : Int) = q then c else f q) = c; rw [if_neg (by omega), if_pos rfl]
  have ga : agr g E q := fun j hj => by rw [hg]; show (if j < q then E j else _) = E j; rw [if_pos hj.2]
  have gf : ∀ j : Int, N - (((N - ((q : Int) + 1)).toNat : Nat) : Int) ≤ j → g j = f j := fun j hj => by rw [hg]; show (if j < q then E j else if j = q then c else f j) = f j; rw [if_neg (by omega), if_neg (by omega)]
  have t1 := tT_split (A := A) (e := g) hN (i := q + 1) (by push_cast; omega)
  have w1 := nT_split (e := g) hN (i := q + 1) (by push_cast; omega)
  rw [show (((q + 1 : Nat)) : Int) = (q : Int) + 1 by push_cast; rfl, sZ_s _ (by omega)] at t1 w1
  have ea := agr_t (A := A) ga
  have ew := agr_n ga
  rw [gm, nT_c gf] at w1
  rw [gm, tT_c (A := A) gf] at t1
  refine ⟨g, fun j hj => ?_, ga, gm, by omega, by omega⟩
  by_cases z : j < q
  · rw [ga j (by omega), ← ha j (by omega)]
    exact o1 j (by omega)
  · by_cases z2 : j = q
    · rw [z2, gm]
      exact ⟨h1, h2⟩
    · rw [gf j (by omega)]
      exact of j (by omega)
end OM
