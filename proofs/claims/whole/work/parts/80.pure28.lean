/-! hidden arms: the class's masks against the reference's list -/
def hidR (H O E P F S : Int → Int) (n : Int) : Prop := ∀ x y : Int, (0 ≤ x ∧ x < y ∧ y ≤ 2) → ∀ i j : Int, 0 ≤ i ∧ i < 20 → 0 ≤ j ∧ j < 20 →
  (bitI (H ((x + y - 1) * 20 + i)) j = 1 ↔ ∃ k : Int, (0 ≤ k ∧ k < n) ∧ ((O k = x ∧ P k = y ∧ ¬ cmpI (E k * (i + 1)) (F k * (j + 1)) = S k) ∨ (O k = y ∧ P k = x ∧ ¬ cmpI (F k * (i + 1)) (E k * (j + 1)) = - S k)))
def J7 (h h2 : Int) (H L O E P F S : Int → Int) : Prop :=
  (h = h2 ∧ 0 ≤ h ∧ h ≤ 8) ∧ (bd H 0 1048575 ∧ bd L 0 1048575) ∧ (bd O 0 2 ∧ bd E 0 9 ∧ bd P 0 2 ∧ bd F 0 9 ∧ bd S (-1) 1) ∧ (∀ k : Int, 0 ≤ k ∧ k < h → ¬ O k = P k) ∧ hidR H O E P F S h
theorem cmpI_sw (a b z : Int) : cmpI a b = z ↔ cmpI b a = -z := by
  unfold cmpI
  (repeat' split) <;> omega
section HD
variable {H L O E P F S : Int → Int} {n : Int}
theorem hid_ok (hn : 0 ≤ n) (hO : bd O 0 2) (hP : bd P 0 2) (hd : ∀ k : Int, 0 ≤ k ∧ k < n → ¬ O k = P k) (h : hidR H O E P F S n) {i j k : Int} (hi : 0 ≤ i ∧ i < 20) (hj : 0 ≤ j ∧ j < 20) (hk : 0 ≤ k ∧ k < 20) : okC H i j k ↔ fitI O E P F S (400 * i + 20 * j + k) n.toNat = 1 := by
  rw [fitI_all]
  have r0 : arI (400 * i + 20 * j + k) 0 = i + 1 := by unfold arI; rw [if_pos rfl]; omega
  have r1 : arI (400 * i + 20 * j + k) 1 = j + 1 := by unfold arI; rw [if_neg (by decide), if_pos rfl]; omega
  have r2 : arI (400 * i + 20 * j + k) 2 = k + 1 := by unfold arI; rw [if_neg (by decide), if_neg (by decide)]; omega
  have h01 := h 0 1 (by decide) i j hi hj
  have h02 := h 0 2 (by decide) i k hi hk
  have h12 := h 1 2 (by decide) j k hj hk
  rw [show ((0 : Int) + 1 - 1) * 20 + i = i by omega] at h01
  rw [show ((0 : Int) + 2 - 1) * 20 + i = 20 + i by omega] at h02
  rw [show ((1 : Int) + 2 - 1) * 20 + j = 40 + j by omega] at h12
  have b01 := bitI_01 (H i) j
  have b02 := bitI_01 (H (20 + i)) k
  have b12 := bitI_01 (H (40 + j)) k
  constructor
  · rintro ⟨o1, o2, o3⟩ q hq
    have hq' : 0 ≤ q ∧ q < n := by omega
    have oq := hO q
    have pq := hP q
    have dq := hd q hq'
    have n01 : ¬ bitI (H i) j = 1 := by omega
    have n02 : ¬ bitI (H (20 + i)) k = 1 := by omega
    have n12 : ¬ bitI (H (40 + j)) k = 1 := by omega
    rw [h01] at n01
    rw [h02] at n02
    rw [h12] at n12
    apply Classical.byContradiction
    intro hc
    rcases (show (O q = 0 ∧ P q = 1) ∨ (O q = 1 ∧ P q = 0) ∨ (O q = 0 ∧ P q = 2) ∨ (O q = 2 ∧ P q = 0) ∨ (O q = 1 ∧ P q = 2) ∨ (O q = 2 ∧ P q = 1) by omega) with ⟨u, v⟩ | ⟨u, v⟩ | ⟨u, v⟩ | ⟨u, v⟩ | ⟨u, v⟩ | ⟨u, v⟩
    · rw [u, v, r0, r1] at hc
      exact n01 ⟨q, hq', Or.inl ⟨u, v, hc⟩⟩
    · rw [u, v, r0, r1, cmpI_sw] at hc
      exact n01 ⟨q, hq', Or.inr ⟨u, v, hc⟩⟩
    · rw [u, v, r0, r2] at hc
      exact n02 ⟨q, hq', Or.inl ⟨u, v, hc⟩⟩
    · rw [u, v, r0, r2, cmpI_sw] at hc
      exact n02 ⟨q, hq', Or.inr ⟨u, v, hc⟩⟩
    · rw [u, v, r1, r2] at hc
      exact n12 ⟨q, hq', Or.inl ⟨u, v, hc⟩⟩
    · rw [u, v, r1, r2, cmpI_sw] at hc
      exact n12 ⟨q, hq', Or.inr ⟨u, v, hc⟩⟩
  · intro hf
    refine ⟨?_, ?_, ?_⟩
    · have : ¬ bitI (H i) j = 1 := by
        rw [h01]
        rintro ⟨q, hq, ⟨u, v, w⟩ | ⟨u, v, w⟩⟩
        · have := hf q (by omega)
          rw [u, v, r0, r1] at this
          exact w this
        · have := hf q (by omega)
          rw [u, v, r0, r1, cmpI_sw] at this
          exact w this
      omega
    · have : ¬ bitI (H (20 + i)) k = 1 := by
        rw [h02]
        rintro ⟨q, hq, ⟨u, v, w⟩ | ⟨u, v, w⟩⟩
        · have := hf q (by omega)
          rw [u, v, r0, r2] at this
          exact w this
        · have := hf q (by omega)
          rw [u, v, r0, r2, cmpI_sw] at this
          exact w this
      omega
    · have : ¬ bitI (H (40 + j)) k = 1 := by
        rw [h12]
        rintro ⟨q, hq, ⟨u, v, w⟩ | ⟨u, v, w⟩⟩
        · have := hf q (by omega)
          rw [u, v, r1, r2] at this
          exact w this
        · have := hf q (by omega)
          rw [u, v, r1, r2, cmpI_sw] at this
          exact w this
      omega
end HD
theorem sZ_app (f : Int → Int) {n : Int} (hn : 0 ≤ n) : ∀ k : Nat, sZ f (n + k) = sZ f n + sZ (fun j => f (n + j)) k
  | 0 => by
    rw [show n + ((0 : Nat) : Int) = n by omega]
    show _ = _ + 0
    omega
  | k + 1 => by
    rw [show n + ((k + 1 : Nat) : Int) = (n + k) + 1 by push_cast; omega, sZ_s _ (by omega), sZ_app f hn k, show (((k + 1 : Nat)) : Int) = (k : Int) + 1 by push_cast; rfl, sZ_s _ (by omega)]
    omega
theorem sZ_grid (f : Int → Int) (b : Nat) : ∀ a : Nat, sZ f ((b : Int) * a) = sZ (fun i => sZ (fun j => f (b * i + j)) b) a
  | 0 => by
    rw [show (b : Int) * ((0 : Nat) : Int) = 0 by simp]
    rfl
  | a + 1 => by
    have hb : 0 ≤ (b : Int) * (a : Int) := Int.mul_nonneg (by omega) (by omega)
    rw [show (b : Int) * ((a + 1 : Nat) : Int) = b * a + (b : Nat) by push_cast; rw [Int.mul_add, Int.mul_one], sZ_app f hb b, sZ_grid f b a, show (((a + 1 : Nat)) : Int) = (a : Int) + 1 by push_cast; rfl, sZ_s _ (by omega)]
section HE
variable {h h2 : Int} {H L O E P F S : Int → Int}
theorem e_mayBe (h7 : J7 h h2 H L O E P F S) : rowsC H = sZ (fun y => fitI O E P F S y h2.toNat) 8000 := by
  obtain ⟨⟨rfl, hn⟩, ⟨bH, -⟩, ⟨bO, -, bP, -, -⟩, hd, hr⟩ := h7
  have g1 := sZ_grid (fun y => fitI O E P F S y h.toNat) 400 20
  have e1 : ((400 : Nat) : Int) * ((20 : Nat) : Int) = 8000 := rfl
  rw [e1] at g1
  rw [g1]
  unfold rowsC
  refine sZ_c (fun i a b => ?_)
  have g2 := sZ_grid (fun j => fitI O E P F S (((400 : Nat) : Int) * i + j) h.toNat) 20 20
  have e2 : ((20 : Nat) : Int) * ((20 : Nat) : Int) = ((400 : Nat) : Int) := rfl
  rw [e2] at g2
  rw [g2]
  refine sZ_c (fun j c d => ?_)
  have hij : ∀ k : Int, 0 ≤ k → k < 20 → (if bitI (H i) j = 0 ∧ bitI (H (20 + i)) k = 0 ∧ bitI (H (40 + j)) k = 0 then (1 : Int) else 0) = fitI O E P F S (((400 : Nat) : Int) * i + (((20 : Nat) : Int) * j + k)) h.toNat := by
    intro k k0 k1
    have ok := hid_ok hn.1 bO bP hd hr ⟨a, b⟩ ⟨c, d⟩ ⟨k0, k1⟩
    have f01 := fitI_01 (O := O) (E := E) (P := P) (F := F) (S := S) (x := 400 * i + 20 * j + k) h.toNat
    rw [show ((400 : Nat) : Int) * i + (((20 : Nat) : Int) * j + k) = 400 * i + 20 * j + k by show (400 : Int) * i + (20 * j + k) = _; omega]
    by_cases q : bitI (H i) j = 0 ∧ bitI (H (20 + i)) k = 0 ∧ bitI (H (40 + j)) k = 0
    · rw [if_pos q]
      exact (ok.mp q).symm
    · rw [if_neg q]
      have : ¬ fitI O E P F S (400 * i + 20 * j + k) h.toNat = 1 := fun z => q (ok.mpr z)
      omega
  refine Eq.trans ?_ (sZ_c (n := ((20 : Nat) : Int)) (g := fun k => if bitI (H i) j = 0 ∧ bitI (H (20 + i)) k = 0 ∧ bitI (H (40 + j)) k = 0 then (1 : Int) else 0) hij)
  unfold rowC
  by_cases q : bitI (H i) j = 0
  · rw [if_pos q]
    unfold popI
    refine sZ_c (fun k k0 k1 => ?_)
    rw [thI_bit bH ⟨k0, k1⟩]
    by_cases z : bitI (H (20 + i)) k = 0 ∧ bitI (H (40 + j)) k = 0
    · rw [if_pos z, if_pos ⟨q, z.1, z.2⟩]
    · rw [if_neg z, if_neg (fun w => z ⟨w.2.1, w.2.2⟩)]
  · rw [if_neg q]
    exact (sZ_zero (fun k k0 k1 => if_neg (fun w => q w.1))).symm
theorem e_arm {a w u u2 : Int} (hw : w = 0 ∨ w = 1) (h7 : J7 h h2 H L O E P F S) (hu : (¬ (0 ≤ a ∧ a ≤ 2) ∧ u = -1) ∨ ((0 ≤ a ∧ a ≤ 2) ∧ armP (lnS H a) w u)) (hu2 : (¬ (0 ≤ a ∧ a ≤ 2) ∧ u2 = -1) ∨ ((0 ≤ a ∧ a ≤ 2) ∧ armP (fun v => ∃ y : Int, (0 ≤ y ∧ y < 8000) ∧ fitI O E P F S y h2.toNat = 1 ∧ arI y a = v + 1) w u2)) : u = u2 := by
  obtain ⟨⟨rfl, hn⟩, ⟨bH, -⟩, ⟨bO, -, bP, -, -⟩, hd, hr⟩ := h7
  rcases hu with ⟨q, e⟩ | ⟨q, e⟩ <;> rcases hu2 with ⟨t, e'⟩ | ⟨t, e'⟩
  · omega
  · exact absurd t q
  · exact absurd q t
  · refine armP_u hw (fun v hv => ?_) e e'
    have back : ∀ y : Int, 0 ≤ y ∧ y < 8000 → fitI O E P F S y h.toNat = 1 → okC H (y / 400) (y / 20 % 20) (y % 20) := by
      intro y hy hf
      have := (hid_ok hn.1 bO bP hd hr (i := y / 400) (j := y / 20 % 20) (k := y % 20) (by omega) (by omega) (by omega)).mpr
      rw [show 400 * (y / 400) + 20 * (y / 20 % 20) + y % 20 = y by omega] at this
      exact this hf
    unfold lnS
    rcases (show a = 0 ∨ a = 1 ∨ a = 2 by omega) with rfl | rfl | rfl
    · rw [if_pos rfl]
      constructor
      · rintro ⟨j, k, hj, hk, -, ho⟩
        exact ⟨400 * v + 20 * j + k, by omega, (hid_ok hn.1 bO bP hd hr hv hj hk).mp ho, by unfold arI; rw [if_pos rfl]; omega⟩
      · rintro ⟨y, hy, hf, ha⟩
        have ob := back y hy hf
        unfold arI at ha
        rw [if_pos rfl] at ha
        rw [show y / 400 = v by omega] at ob
        exact ⟨y / 20 % 20, y % 20, by omega, by omega, Or.inl (by omega), ob⟩
    · rw [if_neg (by decide), if_pos rfl]
      constructor
      · rintro ⟨i, k, hi, hk, -, ho⟩
        exact ⟨400 * i + 20 * v + k, by omega, (hid_ok hn.1 bO bP hd hr hi hv hk).mp ho, by unfold arI; rw [if_neg (by decide), if_pos rfl]; omega⟩
      · rintro ⟨y, hy, hf, ha⟩
        have ob := back y hy hf
        unfold arI at ha
        rw [if_neg (by decide), if_pos rfl] at ha
        rw [show y / 20 % 20 = v by omega] at ob
        exact ⟨y / 400, y % 20, by omega, by omega, Or.inl (by omega), ob⟩
    · rw [if_neg (by decide), if_neg (by decide)]
      constructor
      · rintro ⟨i, j, hi, hj, -, ho⟩
        exact ⟨400 * i + 20 * j + v, by omega, (hid_ok hn.1 bO bP hd hr hi hj hv).mp ho, by unfold arI; rw [if_neg (by decide), if_neg (by decide)]; omega⟩
      · rintro ⟨y, hy, hf, ha⟩
        have ob := back y hy hf
        unfold arI at ha
        rw [if_neg (by decide), if_neg (by decide)] at ha
        rw [show y % 20 = v by omega] at ob
        exact ⟨y / 400, y / 20 % 20, by omega, by omega, Or.inl (by omega), ob⟩
theorem s_L {L' : Int → Int} (h7 : J7 h h2 H L O E P F S) (hL : bd L' 0 1048575) : J7 h h2 H L' O E P F S := ⟨h7.1, ⟨h7.2.1.1, hL⟩, h7.2.2⟩
theorem s_unheld (h7 : J7 h h2 H L O E P F S) : J7 0 0 (cpI (fun _ => 0) H 60) L O E P F S := by
  obtain ⟨-, ⟨bH, bL⟩, hb, hd, -⟩ := h7
  refine ⟨⟨rfl, by omega⟩, ⟨bd_c (bd_0 (by decide) (by decide)) bH, bL⟩, hb, fun k hk => by omega, fun x y hxy i j hi hj => ?_⟩
  rw [cpI_in (by omega), bitI_z]
  constructor
  · intro q
    omega
  · rintro ⟨k, hk, -⟩
    omega
theorem s_held {a e b g z : Int} {u : Int × Int × (Int → Int)} {u2 : Int × Int × (Int → Int) × (Int → Int) × (Int → Int) × (Int → Int) × (Int → Int)} (h7 : J7 h h2 H L O E P F S) (hu : hdC h H a e b g z u.1 u.2.1 u.2.2) (hu2 : u2 = pHeldM h2 O E P F S a e b g z) :
    u.1 = u2.1 ∧ J7 u.2.1 u2.2.1 u.2.2 L u2.2.2.1 u2.2.2.2.1 u2.2.2.2.2.1 u2.2.2.2.2.2.1 u2.2.2.2.2.2.2 := by
  have h7' := h7
  obtain ⟨⟨rfl, hn⟩, ⟨bH, bL⟩, ⟨bO, bE, bP, bF, bS⟩, hd, hr⟩ := h7
  obtain ⟨r, m, G⟩ := u
  obtain ⟨hp, bG, hc⟩ := hu
  have p1 : r = (pHeld h a e b g z).1 := congrArg Prod.fst hp
  have p2 : m = (pHeld h a e b g z).2 := congrArg Prod.snd hp
  unfold pHeldM at hu2
  by_cases q : (0 ≤ a ∧ a ≤ 2) ∧ (0 ≤ b ∧ b ≤ 2) ∧ ¬ a = b ∧ (1 ≤ e ∧ e ≤ 9) ∧ (1 ≤ g ∧ g ≤ 9) ∧ (-1 ≤ z ∧ z ≤ 1) ∧ h < 8
  · rw [if_pos q] at hu2
    have em : m = h + 1 := by
      rw [p2]
      unfold pHeld
      rw [if_neg (fun w => w ⟨q.1, q.2.1⟩), if_neg (fun w => w ⟨q.2.2.1, q.2.2.2.1, q.2.2.2.2.1, q.2.2.2.2.2.1⟩), if_neg (by omega)]
    subst hu2
    refine ⟨p1, ?_⟩
    show J7 m (h + 1) G L (uI O h a) (uI E h e) (uI P h b) (uI F h g) (uI S h z)
    subst em
    rcases hc with ⟨c1, -⟩ | ⟨-, -, c3, c4⟩
    · have : h + 1 = h := c1
      omega
    · refine ⟨⟨rfl, by omega⟩, ⟨bG, bL⟩, ⟨bd_u bO q.1, bd_u bE (by omega), bd_u bP q.2.1, bd_u bF (by omega), bd_u bS (by omega)⟩, fun k hk => ?_, fun x y hxy i j hi hj => ?_⟩
      · by_cases t : k = h
        · rw [t, uI_s, uI_s]
          exact q.2.2.1
        · rw [uI_n _ _ t, uI_n _ _ t]
          exact hd k (by omega)
      · have old := hr x y hxy i j hi hj
        have lift : (∃ k : Int, (0 ≤ k ∧ k < h + 1) ∧ ((uI O h a k = x ∧ uI P h b k = y ∧ ¬ cmpI (uI E h e k * (i + 1)) (uI F h g k * (j + 1)) = uI S h z k) ∨ (uI O h a k = y ∧ uI P h b k = x ∧ ¬ cmpI (uI F h g k * (i + 1)) (uI E h e k * (j + 1)) = - uI S h z k))) ↔
            bitI (H ((x + y - 1) * 20 + i)) j = 1 ∨ ((a = x ∧ b = y ∧ ¬ cmpI (e * (i + 1)) (g * (j + 1)) = z) ∨ (a = y ∧ b = x ∧ ¬ cmpI (g * (i + 1)) (e * (j + 1)) = - z)) := by
          rw [old]
          constructor
          · rintro ⟨k, hk, hh⟩
            by_cases t : k = h
            · rw [t, uI_s, uI_s, uI_s, uI_s, uI_s] at hh
              exact Or.inr hh
            · rw [uI_n _ _ t, uI_n _ _ t, uI_n _ _ t, uI_n _ _ t, uI_n _ _ t] at hh
              exact Or.inl ⟨k, by omega, hh⟩
          · rintro (⟨k, hk, hh⟩ | hh)
            · refine ⟨k, by omega, ?_⟩
              have t : ¬ k = h := by omega
              rw [uI_n _ _ t, uI_n _ _ t, uI_n _ _ t, uI_n _ _ t, uI_n _ _ t]
              exact hh
            · refine ⟨h, by omega, ?_⟩
              rw [uI_s, uI_s, uI_s, uI_s, uI_s]
              exact hh
        rw [lift]
        clear lift old
        by_cases ab : a < b
        · obtain ⟨d1, d2⟩ := c3 ab
          by_cases t : a = x ∧ b = y
          · obtain ⟨t1, t2⟩ := t
            subst t1 t2
            have dd := d2 i j hi hj
            constructor
            · intro w
              rcases dd.mp w with w | w
              · exact Or.inl w
              · exact Or.inr (Or.inl ⟨rfl, rfl, w⟩)
            · rintro (w | ⟨-, -, w⟩ | ⟨w1, w2, -⟩)
              · exact dd.mpr (Or.inl w)
              · exact dd.mpr (Or.inr w)
              · omega
          · rw [show G ((x + y - 1) * 20 + i) = H ((x + y - 1) * 20 + i) from d1 ((x + y - 1) * 20 + i) (by omega)]
            constructor
            · exact fun w => Or.inl w
            · rintro (w | ⟨w1, w2, -⟩ | ⟨w1, w2, -⟩)
              · exact w
              · exact absurd ⟨w1, w2⟩ t
              · omega
        · have ba : b < a := by omega
          obtain ⟨d1, d2⟩ := c4 ba
          by_cases t : b = x ∧ a = y
          · obtain ⟨t1, t2⟩ := t
            subst t1 t2
            have dd := d2 i j hi hj
            constructor
            · intro w
              rcases dd.mp w with w | w
              · exact Or.inl w
              · exact Or.inr (Or.inr ⟨rfl, rfl, w⟩)
            · rintro (w | ⟨w1, w2, -⟩ | ⟨-, -, w⟩)
              · exact dd.mpr (Or.inl w)
              · omega
              · exact dd.mpr (Or.inr w)
          · rw [show G ((x + y - 1) * 20 + i) = H ((x + y - 1) * 20 + i) from d1 ((x + y - 1) * 20 + i) (by omega)]
            constructor
            · exact fun w => Or.inl w
            · rintro (w | ⟨w1, w2, -⟩ | ⟨w1, w2, -⟩)
              · exact w
              · omega
              · exact absurd ⟨w2, w1⟩ t
  · rw [if_neg q] at hu2
    have em : m = h := by
      rw [p2]
      unfold pHeld
      (repeat' split) <;> first | rfl | (exfalso; omega)
    subst hu2
    refine ⟨p1, ?_⟩
    show J7 m h G L O E P F S
    subst em
    rcases hc with ⟨-, c2⟩ | ⟨c1, -⟩
    · have c2 : G = H := c2
      rw [c2]
      exact h7'
    · have : m = m + 1 := c1
      omega
end HE
