/-! the lightest ways, and how one of them is told ell by ell -/
section OP
variable {A H B : Int → Int} {el N : Int}
theorem tT_split {e : Int → Int} (hN : 0 ≤ N) : ∀ {i : Nat}, (i : Int) ≤ N → tT A N e N.toNat = sZ (fun j => e j * A j) i + tT A N e (N - i).toNat
  | 0, _ => by
    rw [show (N - ((0 : Nat) : Int)).toNat = N.toNat by omega]
    show _ = 0 + _
    omega
  | i + 1, h => by
    rw [tT_split hN (i := i) (by omega), show (((i + 1 : Nat)) : Int) = (i : Int) + 1 by push_cast; rfl, sZ_s _ (by omega), show (N - (i : Int)).toNat = (N - ((i : Int) + 1)).toNat + 1 by omega]
    show _ + (tT A N e (N - ((i : Int) + 1)).toNat + e (N - (((N - ((i : Int) + 1)).toNat : Nat) : Int) - 1) * A (N - (((N - ((i : Int) + 1)).toNat : Nat) : Int) - 1)) = _
    rw [show N - (((N - ((i : Int) + 1)).toNat : Nat) : Int) - 1 = (i : Int) by omega]
    omega
def pwI (H : Int → Int) (el : Int) (e : Int → Int) (j : Int) : Int := if 1 ≤ e j then H j + e j * el else 0
theorem wT_split {e : Int → Int} (hN : 0 ≤ N) : ∀ {i : Nat}, (i : Int) ≤ N → wT H el N e N.toNat = sZ (pwI H el e) i + wT H el N e (N - i).toNat
  | 0, _ => by
    rw [show (N - ((0 : Nat) : Int)).toNat = N.toNat by omega]
    show _ = 0 + _
    omega
  | i + 1, h => by
    rw [wT_split hN (i := i) (by omega), show (((i + 1 : Nat)) : Int) = (i : Int) + 1 by push_cast; rfl, sZ_s _ (by omega), show (N - (i : Int)).toNat = (N - ((i : Int) + 1)).toNat + 1 by omega]
    show _ + (wT H el N e (N - ((i : Int) + 1)).toNat + pwI H el e (N - (((N - ((i : Int) + 1)).toNat : Nat) : Int) - 1)) = _
    rw [show N - (((N - ((i : Int) + 1)).toNat : Nat) : Int) - 1 = (i : Int) by omega]
    omega
theorem oT_all {e : Int → Int} : ∀ {k : Nat}, oT B N e k ↔ ∀ j : Int, N - k ≤ j ∧ j < N → 0 ≤ e j ∧ (1 ≤ e j → ¬ B j = 1)
  | 0 => ⟨fun _ j hj => by omega, fun _ => trivial⟩
  | k + 1 => by
    show (oT B N e k ∧ _) ↔ _
    rw [oT_all]
    constructor
    · rintro ⟨h1, h2⟩ j hj
      by_cases q : j = N - (k : Int) - 1
      · rw [q]
        exact h2
      · exact h1 j (by push_cast at hj; omega)
    · intro h
      exact ⟨fun j hj => h j (by push_cast; omega), h _ (by push_cast; omega)⟩
/-- the ways to L .. T parts of weight W -/
def opt (A H B : Int → Int) (el N L T W : Int) (e : Int → Int) : Prop := oT B N e N.toNat ∧ (L ≤ tT A N e N.toNat ∧ tT A N e N.toNat ≤ T) ∧ wT H el N e N.toNat = W
/-- W is the least weight -/
def lst (A H B : Int → Int) (el N L T W : Int) : Prop := ∀ e : Int → Int, oT B N e N.toNat → L ≤ tT A N e N.toNat ∧ tT A N e N.toNat ≤ T → W ≤ wT H el N e N.toNat
def agr (e E : Int → Int) (i : Int) : Prop := ∀ j : Int, 0 ≤ j ∧ j < i → e j = E j
def shI (A H B : Int → Int) (el N L T W : Int) (E : Int → Int) (i rest low high : Int) : Prop :=
  (∃ e, opt A H B el N L T W e ∧ agr e E i) ∧ (∀ x : Int, 0 ≤ x ∧ x < i → ∀ e, opt A H B el N L T W e → agr e E x → E x ≤ e x) ∧ low = L - sZ (fun j => E j * A j) i ∧ high = T - sZ (fun j => E j * A j) i ∧ rest = W - sZ (pwI H el E) i
theorem agr_s {e E : Int → Int} {i n : Int} (h : agr e E i) (hn : e i = n) : agr e (uI E i n) (i + 1) := by
  intro j hj
  by_cases q : j = i
  · rw [q, uI_s, hn]
  · rw [uI_n _ _ q]
    exact h j (by omega)
theorem agr_u {e E : Int → Int} {i n x : Int} (hx : x ≤ i) : agr e (uI E i n) x ↔ agr e E x := by
  constructor
  · intro h j hj
    have := h j hj
    rw [uI_n _ _ (by omega)] at this
    exact this
  · intro h j hj
    rw [uI_n _ _ (by omega)]
    exact h j hj
theorem agr_t {e E : Int → Int} {i : Int} (h : agr e E i) : sZ (fun j => e j * A j) i = sZ (fun j => E j * A j) i := sZ_c (fun j a b => by rw [h j ⟨a, b⟩])
theorem agr_w {e E : Int → Int} {i : Int} (h : agr e E i) : sZ (pwI H el e) i = sZ (pwI H el E) i := sZ_c (fun j a b => by unfold pwI; rw [h j ⟨a, b⟩])
theorem u_t {E : Int → Int} {i n : Int} (hi : 0 ≤ i) : sZ (fun j => uI E i n j * A j) (i + 1) = sZ (fun j => E j * A j) i + n * A i := by
  rw [sZ_s _ hi, uI_s, sZ_c (h := fun j => E j * A j) (fun j a b => by rw [uI_n _ _ (by omega)])]
theorem u_w {E : Int → Int} {i n : Int} (hi : 0 ≤ i) : sZ (pwI H el (uI E i n)) (i + 1) = sZ (pwI H el E) i + (if 1 ≤ n then H i + n * el else 0) := by
  rw [sZ_s _ hi, sZ_c (h := pwI H el E) (fun j a b => by unfold pwI; rw [uI_n _ _ (by omega)])]
  congr 1
  unfold pwI
  rw [uI_s]
/-- a lightest way that agrees so far, cut in what is told, the next one, and the rest -/
theorem sh_cut {L T W i rest low high : Int} {E e : Int → Int} (hN : 0 ≤ N) (hi : 0 ≤ i ∧ i < N) (h : shI A H B el N L T W E i rest low high) (ho : opt A H B el N L T W e) (ha : agr e E i) :
    (low ≤ e i * A i + tT A N e (N - (i + 1)).toNat ∧ e i * A i + tT A N e (N - (i + 1)).toNat ≤ high) ∧ rest = (if 1 ≤ e i then H i + e i * el else 0) + wT H el N e (N - (i + 1)).toNat ∧ oT B N e (N - (i + 1)).toNat ∧ 0 ≤ e i ∧ (1 ≤ e i → ¬ B i = 1) := by
  obtain ⟨-, -, h1, h2, h3⟩ := h
  obtain ⟨o1, o2, o3⟩ := ho
  obtain ⟨m, rfl⟩ := Int.eq_ofNat_of_zero_le hi.1
  have t1 := tT_split (A := A) (e := e) hN (i := m + 1) (by push_cast; omega)
  have w1 := wT_split (H := H) (el := el) (e := e) hN (i := m + 1) (by push_cast; omega)
  rw [show (((m + 1 : Nat)) : Int) = (m : Int) + 1 by push_cast; rfl, sZ_s _ (by omega)] at t1 w1
  have ea := agr_t (A := A) ha
  have ew := agr_w (H := H) (el := el) ha
  have oa := oT_all.mp o1
  have oi := oa m (by omega)
  have wi : pwI H el e (m : Int) = if 1 ≤ e m then H m + e m * el else 0 := rfl
  rw [wi] at w1
  refine ⟨⟨by omega, by omega⟩, by omega, oT_all.mpr (fun j hj => oa j (by omega)), oi.1, oi.2⟩
/-- and put together again -/
theorem sh_put {L T W i rest low high n : Int} {E f : Int → Int} (hN : 0 ≤ N) (hi : 0 ≤ i ∧ i < N) (h : shI A H B el N L T W E i rest low high) (h0 : 0 ≤ n) (hb : 1 ≤ n → ¬ B i = 1) (of : oT B N f (N - (i + 1)).toNat) :
    ∃ g : Int → Int, oT B N g N.toNat ∧ agr g E i ∧ g i = n ∧ tT A N g N.toNat = L - low + (n * A i + tT A N f (N - (i + 1)).toNat) ∧ tT A N g N.toNat = T - high + (n * A i + tT A N f (N - (i + 1)).toNat) ∧ wT H el N g N.toNat = W - rest + ((if 1 ≤ n then H i + n * el else 0) + wT H el N f (N - (i + 1)).toNat) := by
  obtain ⟨⟨e, ⟨o1, -, -⟩, ha⟩, -, h1, h2, h3⟩ := h
  obtain ⟨m, rfl⟩ := Int.eq_ofNat_of_zero_le hi.1
  have oe := oT_all.mp o1
  have off := oT_all.mp of
  refine ⟨fun j => if j < m then E j else if j = m then n else f j, ?_, ?_, ?_, ?_⟩
  · refine oT_all.mpr (fun j hj => ?_)
    show 0 ≤ (if j < m then E j else if j = m then n else f j) ∧ (1 ≤ (if j < m then E j else if j = m then n else f j) → ¬ B j = 1)
    by_cases q : j < m
    · rw [if_pos q, ← ha j (by omega)]
      exact oe j (by omega)
    · rw [if_neg q]
      by_cases q2 : j = m
      · rw [if_pos q2, q2]
        exact ⟨h0, hb⟩
      · rw [if_neg q2]
        exact off j (by omega)
  · intro j hj
    show (if j < m then E j else _) = E j
    rw [if_pos hj.2]
  · show (if (m : Int) < m then E m else if (m : Int) = m then n else f m) = n
    rw [if_neg (by omega), if_pos rfl]
  · obtain ⟨g, hg⟩ : ∃ g : Int → Int, g = fun j => if j < (m : Int) then E j else if j = m then n else f j := ⟨_, rfl⟩
    rw [← hg]
    have gm : g m = n := by rw [hg]; show (if (m : Int) < m then E m else if (m : Int) = m then n else f m) = n; rw [if_neg (by omega), if_pos rfl]
    have ga : agr g E m := fun j hj => by rw [hg]; show (if j < m then E j else _) = E j; rw [if_pos hj.2]
    have gf : ∀ j : Int, N - (((N - ((m : Int) + 1)).toNat : Nat) : Int) ≤ j → g j = f j := fun j hj => by rw [hg]; show (if j < m then E j else if j = m then n else f j) = f j; rw [if_neg (by omega), if_neg (by omega)]
    have t1 := tT_split (A := A) (e := g) hN (i := m + 1) (by push_cast; omega)
    have w1 := wT_split (H := H) (el := el) (e := g) hN (i := m + 1) (by push_cast; omega)
    rw [show (((m + 1 : Nat)) : Int) = (m : Int) + 1 by push_cast; rfl, sZ_s _ (by omega)] at t1 w1
    have ea := agr_t (A := A) ga
    have ew := agr_w (H := H) (el := el) ga
    have wi : pwI H el g (m : Int) = if 1 ≤ g m then H m + g m * el else 0 := rfl
    rw [wi, gm, wT_c (H := H) (el := el) gf] at w1
    rw [gm, tT_c (A := A) gf] at t1
    omega
end OP
