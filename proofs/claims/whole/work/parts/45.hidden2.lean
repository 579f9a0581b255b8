theorem armP_m {S T : Int → Prop} {w u w2 : Int} (hw : w2 = w) (h : ∀ v : Int, 0 ≤ v ∧ v < 20 → (T v ↔ S v)) (ha : armP T w u) : armP S w2 u := by
  subst hw
  rcases ha with ⟨a1, a2⟩ | ⟨a1, a2, a3⟩
  · exact Or.inl ⟨a1, fun v hv hs => a2 v hv ((h v hv).mpr hs)⟩
  · exact Or.inr ⟨a1, (h _ ⟨by omega, by omega⟩).mp a2, fun v hv hs => a3 v hv ((h v hv).mpr hs)⟩
/-- what may be held -/
def okH (a e b g z : Int) : Prop := ((0 ≤ a ∧ a ≤ 2) ∧ 0 ≤ b ∧ b ≤ 2) ∧ ¬ a = b ∧ (1 ≤ e ∧ e ≤ 9) ∧ (1 ≤ g ∧ g ≤ 9) ∧ -1 ≤ z ∧ z ≤ 1
def pHeld (n a e b g z : Int) : Int × Int := if ¬ ((0 ≤ a ∧ a ≤ 2) ∧ 0 ≤ b ∧ b ≤ 2) then (-1, n) else if ¬ (¬ a = b ∧ (1 ≤ e ∧ e ≤ 9) ∧ (1 ≤ g ∧ g ≤ 9) ∧ -1 ≤ z ∧ z ≤ 1) then (-2, n) else if 8 ≤ n then (-4, n) else (n + 1, n + 1)
/-- what the class makes of it: in the pair's twenty masks what does not fit is marked -/
def hdC (n : Int) (H : Int → Int) (a e b g z r m : Int) (G : Int → Int) : Prop := (r, m) = pHeld n a e b g z ∧ bd G 0 1048575 ∧ ((m = n ∧ G = H) ∨ (m = n + 1 ∧ okH a e b g z ∧
  (a < b → (∀ x : Int, ¬ ((a + b - 1) * 20 ≤ x ∧ x < (a + b - 1) * 20 + 20) → G x = H x) ∧ ∀ i j : Int, 0 ≤ i ∧ i < 20 → 0 ≤ j ∧ j < 20 → (bitI (G ((a + b - 1) * 20 + i)) j = 1 ↔ bitI (H ((a + b - 1) * 20 + i)) j = 1 ∨ ¬ cmpI (e * (i + 1)) (g * (j + 1)) = z)) ∧
  (b < a → (∀ x : Int, ¬ ((b + a - 1) * 20 ≤ x ∧ x < (b + a - 1) * 20 + 20) → G x = H x) ∧ ∀ i j : Int, 0 ≤ i ∧ i < 20 → 0 ≤ j ∧ j < 20 → (bitI (G ((b + a - 1) * 20 + i)) j = 1 ↔ bitI (H ((b + a - 1) * 20 + i)) j = 1 ∨ ¬ cmpI (g * (i + 1)) (e * (j + 1)) = -z))))
theorem hdC_no {n : Int} {H : Int → Int} {a e b g z r : Int} (hH : bd H 0 1048575) (h : (r, n) = pHeld n a e b g z) (h2 : True ∨ ¬ okH a e b g z) : hdC n H a e b g z r n H := ⟨h, hH, Or.inl ⟨rfl, rfl⟩⟩
theorem hdC_yes {n : Int} {H G : Int → Int} {a e b g z r m : Int} (h : (r, m) = pHeld n a e b g z) (h2 : okH a e b g z) (hm : m = n + 1) (hG : bd G 0 1048575)
    (h3 : a < b → (∀ x : Int, ¬ ((a + b - 1) * 20 ≤ x ∧ x < (a + b - 1) * 20 + 20) → G x = H x) ∧ ∀ i j : Int, 0 ≤ i ∧ i < 20 → 0 ≤ j ∧ j < 20 → (bitI (G ((a + b - 1) * 20 + i)) j = 1 ↔ bitI (H ((a + b - 1) * 20 + i)) j = 1 ∨ ¬ cmpI (e * (i + 1)) (g * (j + 1)) = z))
    (h4 : b < a → (∀ x : Int, ¬ ((b + a - 1) * 20 ≤ x ∧ x < (b + a - 1) * 20 + 20) → G x = H x) ∧ ∀ i j : Int, 0 ≤ i ∧ i < 20 → 0 ≤ j ∧ j < 20 → (bitI (G ((b + a - 1) * 20 + i)) j = 1 ↔ bitI (H ((b + a - 1) * 20 + i)) j = 1 ∨ ¬ cmpI (g * (i + 1)) (e * (j + 1)) = -z)) : hdC n H a e b g z r m G := ⟨h, hG, Or.inr ⟨hm, h2, h3, h4⟩⟩
def pHeldM (n : Int) (O E P F S : Int → Int) (a e b g z : Int) : Int × Int × (Int → Int) × (Int → Int) × (Int → Int) × (Int → Int) × (Int → Int) :=
  if (0 ≤ a ∧ a ≤ 2) ∧ (0 ≤ b ∧ b ≤ 2) ∧ ¬ a = b ∧ (1 ≤ e ∧ e ≤ 9) ∧ (1 ≤ g ∧ g ≤ 9) ∧ (-1 ≤ z ∧ z ≤ 1) ∧ n < 8 then ((pHeld n a e b g z).1, n + 1, uI O n a, uI E n e, uI P n b, uI F n g, uI S n z) else ((pHeld n a e b g z).1, n, O, E, P, F, S)
theorem ly_n {fit v : Int → Int} {x n lo hi : Int} (h : lyR fit v x n lo hi) : 0 ≤ n ∧ (n = 0 → lo = 99) := by
  rcases h.2.2 with c | c <;> omega
theorem ly_b {fit v : Int → Int} {x n lo hi : Int} (h : lyR fit v x n lo hi) (hf : ∀ y, 0 ≤ fit y ∧ fit y ≤ 1) (hx : 0 ≤ x) : n ≤ x := by
  have h2 := sN_b (g := fit) (lo := 0) (hi := 1) hf x.toNat
  have e := h.1
  unfold sZ at e
  rw [Int.toNat_of_nonneg hx] at h2
  omega
theorem ly_arm {fit v : Int → Int} {x n lo hi w r : Int} (hw : w = 0 ∨ w = 1) (h : lyR fit v x n lo hi) (hv : ∀ y : Int, 0 ≤ y ∧ y < x → 1 ≤ v y ∧ v y ≤ 20) (hf : True ∨ 0 ≤ x) (hr : (n = 0 ∧ r = -9) ∨ (¬ n = 0 ∧ w = 0 ∧ r = lo) ∨ (¬ n = 0 ∧ w = 1 ∧ r = hi)) : armP (fun u => ∃ y : Int, (0 ≤ y ∧ y < x) ∧ fit y = 1 ∧ v y = u + 1) w r := by
  obtain ⟨a, b, c⟩ := h
  rcases c with ⟨c1, c2, c3⟩ | ⟨c1, ⟨y1, k1, k2, k3⟩, ⟨y2, k4, k5, k6⟩⟩
  · rcases hr with hr | hr | hr
    · refine Or.inl ⟨hr.2, fun u hu => ?_⟩
      rintro ⟨y, hy, hfy, hvy⟩
      have := b y hy hfy
      omega
    · omega
    · omega
  · rcases hr with hr | ⟨-, q1, q2⟩ | ⟨-, q1, q2⟩
    · omega
    · have := hv y1 k1
      refine Or.inr ⟨by omega, ⟨y1, k1, k2, by omega⟩, ?_⟩
      rintro u hu ⟨y, hy, hfy, hvy⟩
      have := b y hy hfy
      exact ⟨fun _ => by omega, fun q => by omega⟩
    · have := hv y2 k4
      refine Or.inr ⟨by omega, ⟨y2, k4, k5, by omega⟩, ?_⟩
      rintro u hu ⟨y, hy, hfy, hvy⟩
      have := b y hy hfy
      exact ⟨fun q => by omega, fun _ => by omega⟩
set_option maxRecDepth 100000 in
set_option maxHeartbeats 4000000 in
theorem c_X8_unheld (l : Launch) (D : va_G) (d : Nat → ClassId) (o : Nat) (q : Nat → Nat) (f : Nat → Int) (qh : Nat → Nat) (fh : Nat → Int) (H : Int → Int) : CU l yX8_unheld cX8_unheld 2 (some .int) 2 43 D d [.ref o] [(o, .inr (8, fX8 q f)), (q 9, .inr (1, fX1 qh fh)), (qh 0, aI (d 0) 60 H)] (fun (_ : Unit) => True) (fun (_ : Unit) => some (.int (iI (fh 2)))) (fun (_ : Unit) => [(o, .inr (8, fX8 q f)), (q 9, .inr (1, fX1 qh (up fh 2 0))), (qh 0, aI (d 0) 60 (cpI (fun _ => 0) H 60))]) := by
  refine CU.mk (own := RX8) (lv := [(0, .ref o)]) rfl (by decide) (Nat.le_of_ble_eq_true rfl) rfl ?_
  intro p9 e9 R9 s9 m9 args9 below9 meth9 c9 A9 Q9 hRf hRl C Z
  refine V_aload_n (pc := 0) C dX8_unheld_0 rfl 0 rfl ?_
  refine gf_X8_68 (x := q 9) (pc := 1) C dX8_unheld_1 0 rfl rfl ?_
  refine gf_X8_242 (x := fh 2) (pc := 4) C dX8_unheld_4 1 rfl rfl ?_
  refine V_istore_n (lv' := [(1, .int (iI (fh 2))), (0, .ref o)]) (pc := 7) C dX8_unheld_7 rfl (by decide) rfl ?_
  refine V_aload_n (pc := 8) C dX8_unheld_8 rfl 1 rfl ?_
  refine gf_X8_68 (x := q 9) (pc := 9) C dX8_unheld_9 0 rfl rfl ?_
  refine cv_X8_248 (pc := 12) (rest := []) (wn := fun _ => [(o, .inr (8, fX8 q f)), (q 9, .inr (1, fX1 qh (up fh 2 0))), (qh 0, aI (d 0) 60 (cpI (fun _ => 0) H 60))]) (sn := fun _ => []) C dX8_unheld_12 (c_X1_forget l D d (q 9) qh fh H ) [1, 2] rfl rfl 1 rfl rfl rfl (Nat.le_of_ble_eq_true rfl) ⟨by omega, by omega⟩ ⟨Nat.zero_le _, Nat.zero_le _⟩ (fun _ => rfl) (fun _ => rfl) (fun _ => rfl) ?_
  intro _ _
  refine V_iload_n (pc := 15) C dX8_unheld_15 rfl 0 rfl ?_
  exact V_iret (pc := 16) C Z dX8_unheld_16 () trivial (ri (by first | rfl | omega | exact bI_t (by omega) | exact bI_f (by omega))) rfl
set_option maxRecDepth 100000 in
set_option maxHeartbeats 4000000 in
theorem c_X8_mayBe (l : Launch) (D : va_G) (d : Nat → ClassId) (o : Nat) (q : Nat → Nat) (f : Nat → Int) (qh : Nat → Nat) (fh : Nat → Int) (H : Int → Int) (L : Int → Int) (hH : bd H 0 1048575) (hL : bd L 0 1048575) : CU l yX8_mayBe cX8_mayBe 1 (some .int) 2 46 D d [.ref o] [(o, .inr (8, fX8 q f)), (q 9, .inr (1, fX1 qh fh)), (qh 0, aI (d 0) 60 H), (qh 1, aI (d 0) 3 L)] (fun (u : Int → Int) => bd u 0 1048575) (fun (u : Int → Int) => some (.int (iI (rowsC H)))) (fun (u : Int → Int) => [(o, .inr (8, fX8 q f)), (q 9, .inr (1, fX1 qh (up fh 3 (rowsC H)))), (qh 0, aI (d 0) 60 H), (qh 1, aI (d 0) 3 u)]) := by
  refine CU.mk (own := RX8) (lv := [(0, .ref o)]) rfl (by decide) (Nat.le_of_ble_eq_true rfl) rfl ?_
  intro p9 e9 R9 s9 m9 args9 below9 meth9 c9 A9 Q9 hRf hRl C Z
  refine V_aload_n (pc := 0) C dX8_mayBe_0 rfl 0 rfl ?_
  refine gf_X8_68 (x := q 9) (pc := 1) C dX8_mayBe_1 0 rfl rfl ?_
  refine cv_X8_251 (pc := 4) (rest := []) (wn := fun u => [(o, .inr (8, fX8 q f)), (q 9, .inr (1, fX1 qh (up fh 3 (rowsC H)))), (qh 0, aI (d 0) 60 H), (qh 1, aI (d 0) 3 u)]) (sn := fun u => []) C dX8_mayBe_4 (c_X1_reckon l D d (q 9) qh fh H L hH hL) [1, 2, 3] rfl rfl 1 rfl rfl rfl (Nat.le_of_ble_eq_true rfl) ⟨by omega, by omega⟩ ⟨Nat.zero_le _, Nat.zero_le _⟩ (fun u => rfl) (fun u => rfl) (fun u => rfl) ?_
  rintro G hu
  obtain ⟨bG, hl⟩ := hu
  refine V_aload_n (pc := 7) C dX8_mayBe_7 rfl 0 rfl ?_
  refine gf_X8_68 (x := q 9) (pc := 8) C dX8_mayBe_8 0 rfl rfl ?_
  refine gf_X8_253 (x := rowsC H) (pc := 11) C dX8_mayBe_11 1 rfl rfl ?_
  exact V_iret (pc := 14) C Z dX8_mayBe_14 G bG (ri (by rfl)) rfl
set_option maxRecDepth 100000 in
set_option maxHeartbeats 4000000 in
theorem c_X8_arm (l : Launch) (D : va_G) (d : Nat → ClassId) (o : Nat) (q : Nat → Nat) (f : Nat → Int) (qh : Nat → Nat) (fh : Nat → Int) (H : Int → Int) (L : Int → Int) (a : Int) (w : Int) (hH : bd H 0 1048575) (hL : bd L 0 1048575) (ha : -2147483648 ≤ a ∧ a ≤ 2147483647) (hw : w = 0 ∨ w = 1) : CU l yX8_arm cX8_arm 3 (some .int) 2 46 D d [.ref o, .int (iI a), .int (iI w)] [(o, .inr (8, fX8 q f)), (q 9, .inr (1, fX1 qh fh)), (qh 0, aI (d 0) 60 H), (qh 1, aI (d 0) 3 L)] (fun (u : Int × Int × (Int → Int)) => ((¬ (0 ≤ a ∧ a ≤ 2) ∧ u.1 = -1) ∨ ((0 ≤ a ∧ a ≤ 2) ∧ armP (lnS H a) w u.1)) ∧ bd u.2.2 0 1048575) (fun (u : Int × Int × (Int → Int)) => some (.int (iI (u.1)))) (fun (u : Int × Int × (Int → Int)) => [(o, .inr (8, fX8 q f)), (q 9, .inr (1, fX1 qh (up fh 3 u.2.1))), (qh 0, aI (d 0) 60 H), (qh 1, aI (d 0) 3 u.2.2)]) := by
  refine CU.mk (own := RX8) (lv := [(0, .ref o), (1, .int (iI a)), (2, .int (iI w))]) rfl (by decide) (Nat.le_of_ble_eq_true rfl) rfl ?_
  intro p9 e9 R9 s9 m9 args9 below9 meth9 c9 A9 Q9 hRf hRl C Z
  refine V_iload_n (pc := 0) C dX8_arm_0 rfl 1 rfl ?_
  refine V_iconst (pc := 1) C dX8_arm_1 ?_
  refine V_iconst (pc := 2) C dX8_arm_2 ?_
  refine cs_X8_72 (pc := 3) (rest := []) (wn := fun _ => [(o, .inr (8, fX8 q f)), (q 9, .inr (1, fX1 qh fh)), (qh 0, aI (d 0) 60 H), (qh 1, aI (d 0) 3 L)]) (sn := fun _ => [.int (iI (bI (0 ≤ a ∧ a ≤ 2)))]) C dX8_arm_3 (c_X8_within l D d a 0 2 ha (show -2147483648 ≤ 0 ∧ 0 ≤ 2147483647 by omega) (show -2147483648 ≤ 2 ∧ 2 ≤ 2147483647 by omega)) [] rfl rfl rfl rfl (Nat.le_of_ble_eq_true rfl) ⟨by omega, by omega⟩ ⟨Nat.zero_le _, Nat.zero_le _⟩ (fun _ => rfl) (fun _ => rfl) (fun _ => rfl) ?_
  intro _ _
  refine V_ifb_ne (pc := 6) 11 C dX8_arm_6 (by decide) (fun c6 => ?_) (fun c6 => ?_)
  · refine V_aload_n (pc := 11) C dX8_arm_11 rfl 0 rfl ?_
    refine gf_X8_68 (x := q 9) (pc := 12) C dX8_arm_12 0 rfl rfl ?_
    refine cv_X8_251 (pc := 15) (rest := []) (wn := fun u => [(o, .inr (8, fX8 q f)), (q 9, .inr (1, fX1 qh (up fh 3 (rowsC H)))), (qh 0, aI (d 0) 60 H), (qh 1, aI (d 0) 3 u)]) (sn := fun u => []) C dX8_arm_15 (c_X1_reckon l D d (q 9) qh fh H L hH hL) [1, 2, 3] rfl rfl 1 rfl rfl rfl (Nat.le_of_ble_eq_true rfl) ⟨by omega, by omega⟩ ⟨Nat.zero_le _, Nat.zero_le _⟩ (fun u => rfl) (fun u => rfl) (fun u => rfl) ?_
    rintro G hu
    obtain ⟨bG, hl⟩ := hu
    refine V_iload_n (pc := 18) C dX8_arm_18 rfl 2 rfl ?_
    refine V_if_eq (pc := 19) 33 C dX8_arm_19 (by decide) (sm_i (by omega)) (fun c19 => ?_) (fun c19 => ?_)
    · refine V_aload_n (pc := 33) C dX8_arm_33 rfl 0 rfl ?_
      refine gf_X8_68 (x := q 9) (pc := 34) C dX8_arm_34 0 rfl rfl ?_
      refine V_iload_n (pc := 37) C dX8_arm_37 rfl 1 rfl ?_
      refine cv_X8_259 (pc := 38) (rest := []) (wn := fun u => [(o, .inr (8, fX8 q f)), (q 9, .inr (1, fX1 qh (up fh 3 (rowsC H)))), (qh 0, aI (d 0) 60 H), (qh 1, aI (d 0) 3 G)]) (sn := fun u => [.int (iI u)]) C dX8_arm_38 (c_X1_leastOf l D d (q 9) qh (up fh 3 (rowsC H)) G a bG (show 0 ≤ a ∧ a ≤ 2 by omega)) [1, 3] rfl rfl 1 rfl rfl rfl (Nat.le_of_ble_eq_true rfl) ⟨by omega, by omega⟩ ⟨Nat.zero_le _, Nat.zero_le _⟩ (fun u => rfl) (fun u => rfl) (fun u => rfl) ?_
      rintro z hz
      exact V_iret (pc := 41) C Z dX8_arm_41 (z, rowsC H, G) (⟨by first | exact Or.inl ⟨by omega, rfl⟩ | exact Or.inr ⟨by omega, armP_m (by omega) (fun v hv => lnS_b hl (by omega) hv) hz⟩, by first | exact bG | exact hL⟩) (ri (by rfl)) (by first | rfl | rw [up_same rfl])
    · refine V_aload_n (pc := 22) C dX8_arm_22 rfl 0 rfl ?_
      refine gf_X8_68 (x := q 9) (pc := 23) C dX8_arm_23 0 rfl rfl ?_
      refine V_iload_n (pc := 26) C dX8_arm_26 rfl 1 rfl ?_
      refine cv_X8_256 (pc := 27) (rest := []) (wn := fun u => [(o, .inr (8, fX8 q f)), (q 9, .inr (1, fX1 qh (up fh 3 (rowsC H)))), (qh 0, aI (d 0) 60 H), (qh 1, aI (d 0) 3 G)]) (sn := fun u => [.int (iI u)]) C dX8_arm_27 (c_X1_greatestOf l D d (q 9) qh (up fh 3 (rowsC H)) G a bG (show 0 ≤ a ∧ a ≤ 2 by omega)) [1, 3] rfl rfl 1 rfl rfl rfl (Nat.le_of_ble_eq_true rfl) ⟨by omega, by omega⟩ ⟨Nat.zero_le _, Nat.zero_le _⟩ (fun u => rfl) (fun u => rfl) (fun u => rfl) ?_
      rintro z hz
      refine V_goto (pc := 30) 41 C dX8_arm_30 (by decide) ?_
      exact V_iret (pc := 41) C Z dX8_arm_41 (z, rowsC H, G) (⟨by first | exact Or.inl ⟨by omega, rfl⟩ | exact Or.inr ⟨by omega, armP_m (by omega) (fun v hv => lnS_b hl (by omega) hv) hz⟩, by first | exact bG | exact hL⟩) (ri (by rfl)) (by first | rfl | rw [up_same rfl])
  · refine V_iconst (pc := 9) C dX8_arm_9 ?_
    exact V_iret (pc := 10) C Z dX8_arm_10 (-1, fh 3, L) (⟨by first | exact Or.inl ⟨by omega, rfl⟩ | exact Or.inr ⟨by omega, armP_m (by omega) (fun v hv => lnS_b hl (by omega) hv) hz⟩, by first | exact bG | exact hL⟩) (ri (by rfl)) (by first | rfl | rw [up_same rfl])
set_option maxRecDepth 100000 in
set_option maxHeartbeats 4000000 in
theorem c_X8_held (l : Launch) (D : va_G) (d : Nat → ClassId) (o : Nat) (q : Nat → Nat) (f : Nat → Int) (qh : Nat → Nat) (fh : Nat → Int) (H : Int → Int) (a : Int) (e : Int) (b : Int) (g : Int) (z : Int) (hH : bd H 0 1048575) (h2 : 0 ≤ fh 2 ∧ fh 2 ≤ 8) (sa : -2147483648 ≤ a ∧ a ≤ 2147483647) (se : -2147483648 ≤ e ∧ e ≤ 2147483647) (sb : -2147483648 ≤ b ∧ b ≤ 2147483647) (sg : -2147483648 ≤ g ∧ g ≤ 2147483647) (sz : -2147483648 ≤ z ∧ z ≤ 2147483647) : CU l yX8_held cX8_held 6 (some .int) 2 48 D d [.ref o, .int (iI a), .int (iI e), .int (iI b), .int (iI g), .int (iI z)] [(o, .inr (8, fX8 q f)), (q 9, .inr (1, fX1 qh fh)), (qh 0, aI (d 0) 60 H)] (fun (u : Int × Int × (Int → Int)) => hdC (fh 2) H a e b g z u.1 u.2.1 u.2.2) (fun (u : Int × Int × (Int → Int)) => some (.int (iI (u.1)))) (fun (u : Int × Int × (Int → Int)) => [(o, .inr (8, fX8 q f)), (q 9, .inr (1, fX1 qh (up fh 2 u.2.1))), (qh 0, aI (d 0) 60 u.2.2)]) := by
  refine CU.mk (own := RX8) (lv := [(0, .ref o), (1, .int (iI a)), (2, .int (iI e)), (3, .int (iI b)), (4, .int (iI g)), (5, .int (iI z))]) rfl (by decide) (Nat.le_of_ble_eq_true rfl) rfl ?_
  intro p9 e9 R9 s9 m9 args9 below9 meth9 c9 A9 Q9 hRf hRl C Z
  refine V_iload_n (pc := 0) C dX8_held_0 rfl 1 rfl ?_
  refine V_iconst (pc := 1) C dX8_held_1 ?_
  refine V_iconst (pc := 2) C dX8_held_2 ?_
  refine cs_X8_72 (pc := 3) (rest := []) (wn := fun _ => [(o, .inr (8, fX8 q f)), (q 9, .inr (1, fX1 qh fh)), (qh 0, aI (d 0) 60 H)]) (sn := fun _ => [.int (iI (bI (0 ≤ a ∧ a ≤ 2)))]) C dX8_held_3 (c_X8_within l D d a 0 2 sa (show -2147483648 ≤ 0 ∧ 0 ≤ 2147483647 by omega) (show -2147483648 ≤ 2 ∧ 2 ≤ 2147483647 by omega)) [] rfl rfl rfl rfl (Nat.le_of_ble_eq_true rfl) ⟨by omega, by omega⟩ ⟨Nat.zero_le _, Nat.zero_le _⟩ (fun _ => rfl) (fun _ => rfl) (fun _ => rfl) ?_
  intro _ _
  refine V_ifb_eq (pc := 6) 18 C dX8_held_6 (by decide) (fun c6 => ?_) (fun c6 => ?_)
  · refine V_iconst (pc := 18) C dX8_held_18 ?_
    exact V_iret (pc := 19) C Z dX8_held_19 (-1, fh 2, H) (by first | exact hdC_no hH (by unfold pHeld; (try dsimp only); (repeat' split) <;> first | rfl | omega) (Or.inl trivial) | exact hdC_yes (by unfold pHeld; (try dsimp only); (repeat' split) <;> first | rfl | omega) (by unfold okH; omega) rfl hu.1 (fun _ => hu.2) (fun q => by omega) | exact hdC_yes (by unfold pHeld; (try dsimp only); (repeat' split) <;> first | rfl | omega) (by unfold okH; omega) rfl hu.1 (fun q => by omega) (fun _ => hu.2)) (ri (by rfl)) (by first | rfl | rw [up_same rfl])
  · refine V_iload_n (pc := 9) C dX8_held_9 rfl 3 rfl ?_
    refine V_iconst (pc := 10) C dX8_held_10 ?_
    refine V_iconst (pc := 11) C dX8_held_11 ?_
    refine cs_X8_72 (pc := 12) (rest := []) (wn := fun _ => [(o, .inr (8, fX8 q f)), (q 9, .inr (1, fX1 qh fh)), (qh 0, aI (d 0) 60 H)]) (sn := fun _ => [.int (iI (bI (0 ≤ b ∧ b ≤ 2)))]) C dX8_held_12 (c_X8_within l D d b 0 2 sb (show -2147483648 ≤ 0 ∧ 0 ≤ 2147483647 by omega) (show -2147483648 ≤ 2 ∧ 2 ≤ 2147483647 by omega)) [] rfl rfl rfl rfl (Nat.le_of_ble_eq_true rfl) ⟨by omega, by omega⟩ ⟨Nat.zero_le _, Nat.zero_le _⟩ (fun _ => rfl) (fun _ => rfl) (fun _ => rfl) ?_
    intro _ _
    refine V_ifb_ne (pc := 15) 20 C dX8_held_15 (by decide) (fun c15 => ?_) (fun c15 => ?_)
    · refine V_iload_n (pc := 20) C dX8_held_20 rfl 1 rfl ?_
      refine V_iload_n (pc := 21) C dX8_held_21 rfl 3 rfl ?_
      refine V_icmp_eq (pc := 22) 56 C dX8_held_22 (by decide) (sm_i (by omega)) (sm_i (by omega)) (fun c22 => ?_) (fun c22 => ?_)
      · refine V_bipush (pc := 56) C dX8_held_56 rfl ?_
        exact V_iret (pc := 58) C Z dX8_held_58 (-2, fh 2, H) (by first | exact hdC_no hH (by unfold pHeld; (try dsimp only); (repeat' split) <;> first | rfl | omega) (Or.inl trivial) | exact hdC_yes (by unfold pHeld; (try dsimp only); (repeat' split) <;> first | rfl | omega) (by unfold okH; omega) rfl hu.1 (fun _ => hu.2) (fun q => by omega) | exact hdC_yes (by unfold pHeld; (try dsimp only); (repeat' split) <;> first | rfl | omega) (by unfold okH; omega) rfl hu.1 (fun q => by omega) (fun _ => hu.2)) (ri (by rfl)) (by first | rfl | rw [up_same rfl])
      · refine V_iload_n (pc := 25) C dX8_held_25 rfl 2 rfl ?_
        refine V_iconst (pc := 26) C dX8_held_26 ?_
        refine V_bipush (pc := 27) C dX8_held_27 rfl ?_
        refine cs_X8_72 (pc := 29) (rest := []) (wn := fun _ => [(o, .inr (8, fX8 q f)), (q 9, .inr (1, fX1 qh fh)), (qh 0, aI (d 0) 60 H)]) (sn := fun _ => [.int (iI (bI (1 ≤ e ∧ e ≤ 9)))]) C dX8_held_29 (c_X8_within l D d e 1 9 se (show -2147483648 ≤ 1 ∧ 1 ≤ 2147483647 by omega) (show -2147483648 ≤ 9 ∧ 9 ≤ 2147483647 by omega)) [] rfl rfl rfl rfl (Nat.le_of_ble_eq_true rfl) ⟨by omega, by omega⟩ ⟨Nat.zero_le _, Nat.zero_le _⟩ (fun _ => rfl) (fun _ => rfl) (fun _ => rfl) ?_
        intro _ _
        refine V_ifb_eq (pc := 32) 56 C dX8_held_32 (by decide) (fun c32 => ?_) (fun c32 => ?_)
        · refine V_bipush (pc := 56) C dX8_held_56 rfl ?_
          exact V_iret (pc := 58) C Z dX8_held_58 (-2, fh 2, H) (by first | exact hdC_no hH (by unfold pHeld; (try dsimp only); (repeat' split) <;> first | rfl | omega) (Or.inl trivial) | exact hdC_yes (by unfold pHeld; (try dsimp only); (repeat' split) <;> first | rfl | omega) (by unfold okH; omega) rfl hu.1 (fun _ => hu.2) (fun q => by omega) | exact hdC_yes (by unfold pHeld; (try dsimp only); (repeat' split) <;> first | rfl | omega) (by unfold okH; omega) rfl hu.1 (fun q => by omega) (fun _ => hu.2)) (ri (by rfl)) (by first | rfl | rw [up_same rfl])
        · refine V_iload (pc := 35) C dX8_held_35 4 rfl ?_
          refine V_iconst (pc := 37) C dX8_held_37 ?_
          refine V_bipush (pc := 38) C dX8_held_38 rfl ?_
          refine cs_X8_72 (pc := 40) (rest := []) (wn := fun _ => [(o, .inr (8, fX8 q f)), (q 9, .inr (1, fX1 qh fh)), (qh 0, aI (d 0) 60 H)]) (sn := fun _ => [.int (iI (bI (1 ≤ g ∧ g ≤ 9)))]) C dX8_held_40 (c_X8_within l D d g 1 9 sg (show -2147483648 ≤ 1 ∧ 1 ≤ 2147483647 by omega) (show -2147483648 ≤ 9 ∧ 9 ≤ 2147483647 by omega)) [] rfl rfl rfl rfl (Nat.le_of_ble_eq_true rfl) ⟨by omega, by omega⟩ ⟨Nat.zero_le _, Nat.zero_le _⟩ (fun _ => rfl) (fun _ => rfl) (fun _ => rfl) ?_
          intro _ _
          refine V_ifb_eq (pc := 43) 56 C dX8_held_43 (by decide) (fun c43 => ?_) (fun c43 => ?_)
          · refine V_bipush (pc := 56) C dX8_held_56 rfl ?_
            exact V_iret (pc := 58) C Z dX8_held_58 (-2, fh 2, H) (by first | exact hdC_no hH (by unfold pHeld; (try dsimp only); (repeat' split) <;> first | rfl | omega) (Or.inl trivial) | exact hdC_yes (by unfold pHeld; (try dsimp only); (repeat' split) <;> first | rfl | omega) (by unfold okH; omega) rfl hu.1 (fun _ => hu.2) (fun q => by omega) | exact hdC_yes (by unfold pHeld; (try dsimp only); (repeat' split) <;> first | rfl | omega) (by unfold okH; omega) rfl hu.1 (fun q => by omega) (fun _ => hu.2)) (ri (by rfl)) (by first | rfl | rw [up_same rfl])
          · refine V_iload (pc := 46) C dX8_held_46 5 rfl ?_
            refine V_iconst (pc := 48) C dX8_held_48 ?_
            refine V_iconst (pc := 49) C dX8_held_49 ?_
            refine cs_X8_72 (pc := 50) (rest := []) (wn := fun _ => [(o, .inr (8, fX8 q f)), (q 9, .inr (1, fX1 qh fh)), (qh 0, aI (d 0) 60 H)]) (sn := fun _ => [.int (iI (bI ((-1) ≤ z ∧ z ≤ 1)))]) C dX8_held_50 (c_X8_within l D d z (-1) 1 sz (show -2147483648 ≤ (-1) ∧ (-1) ≤ 2147483647 by omega) (show -2147483648 ≤ 1 ∧ 1 ≤ 2147483647 by omega)) [] rfl rfl rfl rfl (Nat.le_of_ble_eq_true rfl) ⟨by omega, by omega⟩ ⟨Nat.zero_le _, Nat.zero_le _⟩ (fun _ => rfl) (fun _ => rfl) (fun _ => rfl) ?_
            intro _ _
            refine V_ifb_ne (pc := 53) 59 C dX8_held_53 (by decide) (fun c53 => ?_) (fun c53 => ?_)
            · refine V_aload_n (pc := 59) C dX8_held_59 rfl 0 rfl ?_
              refine gf_X8_68 (x := q 9) (pc := 60) C dX8_held_60 0 rfl rfl ?_
              refine gf_X8_242 (x := fh 2) (pc := 63) C dX8_held_63 1 rfl rfl ?_
              refine V_bipush (pc := 66) C dX8_held_66 rfl ?_
              refine V_icmp_lt (pc := 68) 74 C dX8_held_68 (by decide) (sm_i (by omega)) (sm_i (by decide)) (fun c68 => ?_) (fun c68 => ?_)
              · refine V_iload_n (pc := 74) C dX8_held_74 rfl 1 rfl ?_
                refine V_iload_n (pc := 75) C dX8_held_75 rfl 3 rfl ?_
                refine V_icmp_ge (pc := 76) 96 C dX8_held_76 (by decide) (sm_i (by omega)) (sm_i (by omega)) (fun c76 => ?_) (fun c76 => ?_)
                · refine V_aload_n (pc := 96) C dX8_held_96 rfl 0 rfl ?_
                  refine gf_X8_68 (x := q 9) (pc := 97) C dX8_held_97 0 rfl rfl ?_
                  refine V_iload_n (pc := 100) C dX8_held_100 rfl 3 rfl ?_
                  refine V_iload (pc := 101) C dX8_held_101 4 rfl ?_
                  refine V_iload_n (pc := 103) C dX8_held_103 rfl 1 rfl ?_
                  refine V_iload_n (pc := 104) C dX8_held_104 rfl 2 rfl ?_
                  refine V_iload (pc := 105) C dX8_held_105 5 rfl ?_
                  refine V_ineg (pc := 107) C dX8_held_107 ?_
                  refine cv_X8_245 (pc := 108) (rest := []) (wn := fun u => [(o, .inr (8, fX8 q f)), (q 9, .inr (1, fX1 qh (up fh 2 ((fh 2) + 1)))), (qh 0, aI (d 0) 60 u)]) (sn := fun u => []) C dX8_held_108 (c_X1_hold l D d (q 9) qh fh H b g a e (-z) hH (show 0 ≤ b ∧ b < a ∧ a ≤ 2 by omega) (show 1 ≤ g ∧ g ≤ 9 by omega) (show 1 ≤ e ∧ e ≤ 9 by omega) (show -1 ≤ (-z) ∧ (-z) ≤ 1 by omega)) [1, 2] rfl rfl 1 rfl rfl rfl (Nat.le_of_ble_eq_true rfl) ⟨by omega, by omega⟩ ⟨Nat.zero_le _, Nat.zero_le _⟩ (fun u => rfl) (fun u => rfl) (fun u => rfl) ?_
                  rintro G hu
                  refine V_aload_n (pc := 111) C dX8_held_111 rfl 0 rfl ?_
                  refine gf_X8_68 (x := q 9) (pc := 112) C dX8_held_112 0 rfl rfl ?_
                  refine gf_X8_242 (x := (fh 2) + 1) (pc := 115) C dX8_held_115 1 rfl rfl ?_
                  exact V_iret (pc := 118) C Z dX8_held_118 ((fh 2) + 1, (fh 2) + 1, G) (by first | exact hdC_no hH (by unfold pHeld; (try dsimp only); (repeat' split) <;> first | rfl | omega) (Or.inl trivial) | exact hdC_yes (by unfold pHeld; (try dsimp only); (repeat' split) <;> first | rfl | omega) (by unfold okH; omega) rfl hu.1 (fun _ => hu.2) (fun q => by omega) | exact hdC_yes (by unfold pHeld; (try dsimp only); (repeat' split) <;> first | rfl | omega) (by unfold okH; omega) rfl hu.1 (fun q => by omega) (fun _ => hu.2)) (ri (by rfl)) (by first | rfl | rw [up_same rfl])
                · refine V_aload_n (pc := 79) C dX8_held_79 rfl 0 rfl ?_
                  refine gf_X8_68 (x := q 9) (pc := 80) C dX8_held_80 0 rfl rfl ?_
                  refine V_iload_n (pc := 83) C dX8_held_83 rfl 1 rfl ?_
                  refine V_iload_n (pc := 84) C dX8_held_84 rfl 2 rfl ?_
                  refine V_iload_n (pc := 85) C dX8_held_85 rfl 3 rfl ?_
                  refine V_iload (pc := 86) C dX8_held_86 4 rfl ?_
                  refine V_iload (pc := 88) C dX8_held_88 5 rfl ?_
                  refine cv_X8_245 (pc := 90) (rest := []) (wn := fun u => [(o, .inr (8, fX8 q f)), (q 9, .inr (1, fX1 qh (up fh 2 ((fh 2) + 1)))), (qh 0, aI (d 0) 60 u)]) (sn := fun u => []) C dX8_held_90 (c_X1_hold l D d (q 9) qh fh H a e b g z hH (show 0 ≤ a ∧ a < b ∧ b ≤ 2 by omega) (show 1 ≤ e ∧ e ≤ 9 by omega) (show 1 ≤ g ∧ g ≤ 9 by omega) (show -1 ≤ z ∧ z ≤ 1 by omega)) [1, 2] rfl rfl 1 rfl rfl rfl (Nat.le_of_ble_eq_true rfl) ⟨by omega, by omega⟩ ⟨Nat.zero_le _, Nat.zero_le _⟩ (fun u => rfl) (fun u => rfl) (fun u => rfl) ?_
                  rintro G hu
                  refine V_goto (pc := 93) 111 C dX8_held_93 (by decide) ?_
                  refine V_aload_n (pc := 111) C dX8_held_111 rfl 0 rfl ?_
                  refine gf_X8_68 (x := q 9) (pc := 112) C dX8_held_112 0 rfl rfl ?_
                  refine gf_X8_242 (x := (fh 2) + 1) (pc := 115) C dX8_held_115 1 rfl rfl ?_
                  exact V_iret (pc := 118) C Z dX8_held_118 ((fh 2) + 1, (fh 2) + 1, G) (by first | exact hdC_no hH (by unfold pHeld; (try dsimp only); (repeat' split) <;> first | rfl | omega) (Or.inl trivial) | exact hdC_yes (by unfold pHeld; (try dsimp only); (repeat' split) <;> first | rfl | omega) (by unfold okH; omega) rfl hu.1 (fun _ => hu.2) (fun q => by omega) | exact hdC_yes (by unfold pHeld; (try dsimp only); (repeat' split) <;> first | rfl | omega) (by unfold okH; omega) rfl hu.1 (fun q => by omega) (fun _ => hu.2)) (ri (by rfl)) (by first | rfl | rw [up_same rfl])
              · refine V_bipush (pc := 71) C dX8_held_71 rfl ?_
                exact V_iret (pc := 73) C Z dX8_held_73 (-4, fh 2, H) (by first | exact hdC_no hH (by unfold pHeld; (try dsimp only); (repeat' split) <;> first | rfl | omega) (Or.inl trivial) | exact hdC_yes (by unfold pHeld; (try dsimp only); (repeat' split) <;> first | rfl | omega) (by unfold okH; omega) rfl hu.1 (fun _ => hu.2) (fun q => by omega) | exact hdC_yes (by unfold pHeld; (try dsimp only); (repeat' split) <;> first | rfl | omega) (by unfold okH; omega) rfl hu.1 (fun q => by omega) (fun _ => hu.2)) (ri (by rfl)) (by first | rfl | rw [up_same rfl])
            · refine V_bipush (pc := 56) C dX8_held_56 rfl ?_
              exact V_iret (pc := 58) C Z dX8_held_58 (-2, fh 2, H) (by first | exact hdC_no hH (by unfold pHeld; (try dsimp only); (repeat' split) <;> first | rfl | omega) (Or.inl trivial) | exact hdC_yes (by unfold pHeld; (try dsimp only); (repeat' split) <;> first | rfl | omega) (by unfold okH; omega) rfl hu.1 (fun _ => hu.2) (fun q => by omega) | exact hdC_yes (by unfold pHeld; (try dsimp only); (repeat' split) <;> first | rfl | omega) (by unfold okH; omega) rfl hu.1 (fun q => by omega) (fun _ => hu.2)) (ri (by rfl)) (by first | rfl | rw [up_same rfl])
    · refine V_iconst (pc := 18) C dX8_held_18 ?_
      exact V_iret (pc := 19) C Z dX8_held_19 (-1, fh 2, H) (by first | exact hdC_no hH (by unfold pHeld; (try dsimp only); (repeat' split) <;> first | rfl | omega) (Or.inl trivial) | exact hdC_yes (by unfold pHeld; (try dsimp only); (repeat' split) <;> first | rfl | omega) (by unfold okH; omega) rfl hu.1 (fun _ => hu.2) (fun q => by omega) | exact hdC_yes (by unfold pHeld; (try dsimp only); (repeat' split) <;> first | rfl | omega) (by unfold okH; omega) rfl hu.1 (fun q => by omega) (fun _ => hu.2)) (ri (by rfl)) (by first | rfl | rw [up_same rfl])
set_option maxRecDepth 100000 in
set_option maxHeartbeats 4000000 in
theorem c_X9_held (l : Launch) (D : va_G) (d : Nat → ClassId) (o : Nat) (q : Nat → Nat) (f : Nat → Int) (M33 : Int → Int) (M34 : Int → Int) (M35 : Int → Int) (M36 : Int → Int) (M37 : Int → Int) (a : Int) (e : Int) (b : Int) (g : Int) (z : Int) (h2 : 0 ≤ f 32 ∧ f 32 ≤ 8) (sa : -2147483648 ≤ a ∧ a ≤ 2147483647) (se : -2147483648 ≤ e ∧ e ≤ 2147483647) (sb : -2147483648 ≤ b ∧ b ≤ 2147483647) (sg : -2147483648 ≤ g ∧ g ≤ 2147483647) (sz : -2147483648 ≤ z ∧ z ≤ 2147483647) : CU l yX9_held cX9_held 6 (some .int) 1 25 D d [.ref o, .int (iI a), .int (iI e), .int (iI b), .int (iI g), .int (iI z)] [(o, .inr (9, fX9 q f)), (q 33, aI (d 0) 8 M33), (q 34, aI (d 0) 8 M34), (q 35, aI (d 0) 8 M35), (q 36, aI (d 0) 8 M36), (q 37, aI (d 0) 8 M37)] (fun (u : Int × Int × (Int → Int) × (Int → Int) × (Int → Int) × (Int → Int) × (Int → Int)) => u = pHeldM (f 32) M33 M34 M35 M36 M37 a e b g z) (fun (u : Int × Int × (Int → Int) × (Int → Int) × (Int → Int) × (Int → Int) × (Int → Int)) => some (.int (iI (u.1)))) (fun (u : Int × Int × (Int → Int) × (Int → Int) × (Int → Int) × (Int → Int) × (Int → Int)) => [(o, .inr (9, fX9 q (up (up f 0 0) 32 u.2.1))), (q 33, aI (d 0) 8 u.2.2.1), (q 34, aI (d 0) 8 u.2.2.2.1), (q 35, aI (d 0) 8 u.2.2.2.2.1), (q 36, aI (d 0) 8 u.2.2.2.2.2.1), (q 37, aI (d 0) 8 u.2.2.2.2.2.2)]) := by
  refine CU.mk (own := RX9) (lv := [(0, .ref o), (1, .int (iI a)), (2, .int (iI e)), (3, .int (iI b)), (4, .int (iI g)), (5, .int (iI z))]) rfl (by decide) (Nat.le_of_ble_eq_true rfl) rfl ?_
  intro p9 e9 R9 s9 m9 args9 below9 meth9 c9 A9 Q9 hRf hRl C Z
  refine V_aload_n (pc := 0) C dX9_held_0 rfl 0 rfl ?_
  refine V_iconst (pc := 1) C dX9_held_1 ?_
  refine pf_X9_117 (ws' := [(o, .inr (9, fX9 q (up f 0 0))), (q 33, aI (d 0) 8 M33), (q 34, aI (d 0) 8 M34), (q 35, aI (d 0) 8 M35), (q 36, aI (d 0) 8 M36), (q 37, aI (d 0) 8 M37)]) (pc := 2) C dX9_held_2 0 rfl rfl ?_
  refine V_iload_n (pc := 5) C dX9_held_5 rfl 1 rfl ?_
  refine V_i2l (pc := 6) C dX9_held_6 (sm_i (by omega)) ?_
  refine V_lconst (k := 0) (pc := 7) C dX9_held_7 rfl ?_
  refine V_ldc2 (n := 2) (pc := 8) C dX9_held_8 w4_228 rfl ?_
  refine cs_X9_123 (pc := 11) (rest := []) (wn := fun _ => [(o, .inr (9, fX9 q (up f 0 0))), (q 33, aI (d 0) 8 M33), (q 34, aI (d 0) 8 M34), (q 35, aI (d 0) 8 M35), (q 36, aI (d 0) 8 M36), (q 37, aI (d 0) 8 M37)]) (sn := fun _ => [.int (iI (bI (0 ≤ a ∧ a ≤ 2)))]) C dX9_held_11 (c_X9_in l D d a 0 2 (show -9223372036854775808 ≤ a ∧ a ≤ 9223372036854775807 by omega) (show -9223372036854775808 ≤ 0 ∧ 0 ≤ 9223372036854775807 by omega) (show -9223372036854775808 ≤ 2 ∧ 2 ≤ 9223372036854775807 by omega)) [] rfl rfl rfl rfl (Nat.le_of_ble_eq_true rfl) ⟨by omega, by omega⟩ ⟨Nat.zero_le _, Nat.zero_le _⟩ (fun _ => rfl) (fun _ => rfl) (fun _ => rfl) ?_
  intro _ _
  refine V_ifb_eq (pc := 14) 29 C dX9_held_14 (by decide) (fun c14 => ?_) (fun c14 => ?_)
  · refine V_iconst (pc := 29) C dX9_held_29 ?_
    exact V_iret (pc := 30) C Z dX9_held_30 (-1, f 32, M33, M34, M35, M36, M37) (by unfold pHeldM pHeld; (try dsimp only); (repeat' split) <;> first | rfl | omega) (ri (by rfl)) (by first | rfl | rw [up_same rfl])
  · refine V_iload_n (pc := 17) C dX9_held_17 rfl 3 rfl ?_
    refine V_i2l (pc := 18) C dX9_held_18 (sm_i (by omega)) ?_
    refine V_lconst (k := 0) (pc := 19) C dX9_held_19 rfl ?_
    refine V_ldc2 (n := 2) (pc := 20) C dX9_held_20 w4_228 rfl ?_
    refine cs_X9_123 (pc := 23) (rest := []) (wn := fun _ => [(o, .inr (9, fX9 q (up f 0 0))), (q 33, aI (d 0) 8 M33), (q 34, aI (d 0) 8 M34), (q 35, aI (d 0) 8 M35), (q 36, aI (d 0) 8 M36), (q 37, aI (d 0) 8 M37)]) (sn := fun _ => [.int (iI (bI (0 ≤ b ∧ b ≤ 2)))]) C dX9_held_23 (c_X9_in l D d b 0 2 (show -9223372036854775808 ≤ b ∧ b ≤ 9223372036854775807 by omega) (show -9223372036854775808 ≤ 0 ∧ 0 ≤ 9223372036854775807 by omega) (show -9223372036854775808 ≤ 2 ∧ 2 ≤ 9223372036854775807 by omega)) [] rfl rfl rfl rfl (Nat.le_of_ble_eq_true rfl) ⟨by omega, by omega⟩ ⟨Nat.zero_le _, Nat.zero_le _⟩ (fun _ => rfl) (fun _ => rfl) (fun _ => rfl) ?_
    intro _ _
    refine V_ifb_ne (pc := 26) 31 C dX9_held_26 (by decide) (fun c26 => ?_) (fun c26 => ?_)
    · refine V_iload_n (pc := 31) C dX9_held_31 rfl 1 rfl ?_
      refine V_iload_n (pc := 32) C dX9_held_32 rfl 3 rfl ?_
      refine V_icmp_eq (pc := 33) 74 C dX9_held_33 (by decide) (sm_i (by omega)) (sm_i (by omega)) (fun c33 => ?_) (fun c33 => ?_)
      · refine V_bipush (pc := 74) C dX9_held_74 rfl ?_
        exact V_iret (pc := 76) C Z dX9_held_76 (-2, f 32, M33, M34, M35, M36, M37) (by unfold pHeldM pHeld; (try dsimp only); (repeat' split) <;> first | rfl | omega) (ri (by rfl)) (by first | rfl | rw [up_same rfl])
      · refine V_iload_n (pc := 36) C dX9_held_36 rfl 2 rfl ?_
        refine V_i2l (pc := 37) C dX9_held_37 (sm_i (by omega)) ?_
        refine V_lconst (k := 1) (pc := 38) C dX9_held_38 rfl ?_
        refine V_ldc2 (n := 9) (pc := 39) C dX9_held_39 w4_120 rfl ?_
        refine cs_X9_123 (pc := 42) (rest := []) (wn := fun _ => [(o, .inr (9, fX9 q (up f 0 0))), (q 33, aI (d 0) 8 M33), (q 34, aI (d 0) 8 M34), (q 35, aI (d 0) 8 M35), (q 36, aI (d 0) 8 M36), (q 37, aI (d 0) 8 M37)]) (sn := fun _ => [.int (iI (bI (1 ≤ e ∧ e ≤ 9)))]) C dX9_held_42 (c_X9_in l D d e 1 9 (show -9223372036854775808 ≤ e ∧ e ≤ 9223372036854775807 by omega) (show -9223372036854775808 ≤ 1 ∧ 1 ≤ 9223372036854775807 by omega) (show -9223372036854775808 ≤ 9 ∧ 9 ≤ 9223372036854775807 by omega)) [] rfl rfl rfl rfl (Nat.le_of_ble_eq_true rfl) ⟨by omega, by omega⟩ ⟨Nat.zero_le _, Nat.zero_le _⟩ (fun _ => rfl) (fun _ => rfl) (fun _ => rfl) ?_
        intro _ _
        refine V_ifb_eq (pc := 45) 74 C dX9_held_45 (by decide) (fun c45 => ?_) (fun c45 => ?_)
        · refine V_bipush (pc := 74) C dX9_held_74 rfl ?_
          exact V_iret (pc := 76) C Z dX9_held_76 (-2, f 32, M33, M34, M35, M36, M37) (by unfold pHeldM pHeld; (try dsimp only); (repeat' split) <;> first | rfl | omega) (ri (by rfl)) (by first | rfl | rw [up_same rfl])
        · refine V_iload (pc := 48) C dX9_held_48 4 rfl ?_
          refine V_i2l (pc := 50) C dX9_held_50 (sm_i (by omega)) ?_
          refine V_lconst (k := 1) (pc := 51) C dX9_held_51 rfl ?_
          refine V_ldc2 (n := 9) (pc := 52) C dX9_held_52 w4_120 rfl ?_
          refine cs_X9_123 (pc := 55) (rest := []) (wn := fun _ => [(o, .inr (9, fX9 q (up f 0 0))), (q 33, aI (d 0) 8 M33), (q 34, aI (d 0) 8 M34), (q 35, aI (d 0) 8 M35), (q 36, aI (d 0) 8 M36), (q 37, aI (d 0) 8 M37)]) (sn := fun _ => [.int (iI (bI (1 ≤ g ∧ g ≤ 9)))]) C dX9_held_55 (c_X9_in l D d g 1 9 (show -9223372036854775808 ≤ g ∧ g ≤ 9223372036854775807 by omega) (show -9223372036854775808 ≤ 1 ∧ 1 ≤ 9223372036854775807 by omega) (show -9223372036854775808 ≤ 9 ∧ 9 ≤ 9223372036854775807 by omega)) [] rfl rfl rfl rfl (Nat.le_of_ble_eq_true rfl) ⟨by omega, by omega⟩ ⟨Nat.zero_le _, Nat.zero_le _⟩ (fun _ => rfl) (fun _ => rfl) (fun _ => rfl) ?_
          intro _ _
          refine V_ifb_eq (pc := 58) 74 C dX9_held_58 (by decide) (fun c58 => ?_) (fun c58 => ?_)
          · refine V_bipush (pc := 74) C dX9_held_74 rfl ?_
            exact V_iret (pc := 76) C Z dX9_held_76 (-2, f 32, M33, M34, M35, M36, M37) (by unfold pHeldM pHeld; (try dsimp only); (repeat' split) <;> first | rfl | omega) (ri (by rfl)) (by first | rfl | rw [up_same rfl])
          · refine V_iload (pc := 61) C dX9_held_61 5 rfl ?_
            refine V_i2l (pc := 63) C dX9_held_63 (sm_i (by omega)) ?_
            refine V_ldc2 (n := (-1)) (pc := 64) C dX9_held_64 w4_237 rfl ?_
            refine V_lconst (k := 1) (pc := 67) C dX9_held_67 rfl ?_
            refine cs_X9_123 (pc := 68) (rest := []) (wn := fun _ => [(o, .inr (9, fX9 q (up f 0 0))), (q 33, aI (d 0) 8 M33), (q 34, aI (d 0) 8 M34), (q 35, aI (d 0) 8 M35), (q 36, aI (d 0) 8 M36), (q 37, aI (d 0) 8 M37)]) (sn := fun _ => [.int (iI (bI ((-1) ≤ z ∧ z ≤ 1)))]) C dX9_held_68 (c_X9_in l D d z (-1) 1 (show -9223372036854775808 ≤ z ∧ z ≤ 9223372036854775807 by omega) (show -9223372036854775808 ≤ (-1) ∧ (-1) ≤ 9223372036854775807 by omega) (show -9223372036854775808 ≤ 1 ∧ 1 ≤ 9223372036854775807 by omega)) [] rfl rfl rfl rfl (Nat.le_of_ble_eq_true rfl) ⟨by omega, by omega⟩ ⟨Nat.zero_le _, Nat.zero_le _⟩ (fun _ => rfl) (fun _ => rfl) (fun _ => rfl) ?_
            intro _ _
            refine V_ifb_ne (pc := 71) 77 C dX9_held_71 (by decide) (fun c71 => ?_) (fun c71 => ?_)
            · refine V_aload_n (pc := 77) C dX9_held_77 rfl 0 rfl ?_
              refine gf_X9_254 (x := f 32) (pc := 78) C dX9_held_78 0 rfl rfl ?_
              refine V_bipush (pc := 81) C dX9_held_81 rfl ?_
              refine V_icmp_ne (pc := 83) 89 C dX9_held_83 (by decide) (sm_i (by omega)) (sm_i (by decide)) (fun c83 => ?_) (fun c83 => ?_)
              · refine V_aload_n (pc := 89) C dX9_held_89 rfl 0 rfl ?_
                refine gf_X9_81 (x := q 33) (pc := 90) C dX9_held_90 0 rfl rfl ?_
                refine V_aload_n (pc := 93) C dX9_held_93 rfl 0 rfl ?_
                refine gf_X9_254 (x := f 32) (pc := 94) C dX9_held_94 0 rfl rfl ?_
                refine V_iload_n (pc := 97) C dX9_held_97 rfl 1 rfl ?_
                refine V_iast (f := M33) (ws' := [(o, .inr (9, fX9 q (up f 0 0))), (q 33, aI (d 0) 8 (uI M33 (f 32) a)), (q 34, aI (d 0) 8 M34), (q 35, aI (d 0) 8 M35), (q 36, aI (d 0) 8 M36), (q 37, aI (d 0) 8 M37)]) (pc := 98) C dX9_held_98 1 rfl (by omega) (by omega) (Nat.le_of_ble_eq_true rfl) rfl ?_
                refine V_aload_n (pc := 99) C dX9_held_99 rfl 0 rfl ?_
                refine gf_X9_84 (x := q 34) (pc := 100) C dX9_held_100 0 rfl rfl ?_
                refine V_aload_n (pc := 103) C dX9_held_103 rfl 0 rfl ?_
                refine gf_X9_254 (x := f 32) (pc := 104) C dX9_held_104 0 rfl rfl ?_
                refine V_iload_n (pc := 107) C dX9_held_107 rfl 2 rfl ?_
                refine V_iast (f := M34) (ws' := [(o, .inr (9, fX9 q (up f 0 0))), (q 33, aI (d 0) 8 (uI M33 (f 32) a)), (q 34, aI (d 0) 8 (uI M34 (f 32) e)), (q 35, aI (d 0) 8 M35), (q 36, aI (d 0) 8 M36), (q 37, aI (d 0) 8 M37)]) (pc := 108) C dX9_held_108 2 rfl (by omega) (by omega) (Nat.le_of_ble_eq_true rfl) rfl ?_
                refine V_aload_n (pc := 109) C dX9_held_109 rfl 0 rfl ?_
                refine gf_X9_87 (x := q 35) (pc := 110) C dX9_held_110 0 rfl rfl ?_
                refine V_aload_n (pc := 113) C dX9_held_113 rfl 0 rfl ?_
                refine gf_X9_254 (x := f 32) (pc := 114) C dX9_held_114 0 rfl rfl ?_
                refine V_iload_n (pc := 117) C dX9_held_117 rfl 3 rfl ?_
                refine V_iast (f := M35) (ws' := [(o, .inr (9, fX9 q (up f 0 0))), (q 33, aI (d 0) 8 (uI M33 (f 32) a)), (q 34, aI (d 0) 8 (uI M34 (f 32) e)), (q 35, aI (d 0) 8 (uI M35 (f 32) b)), (q 36, aI (d 0) 8 M36), (q 37, aI (d 0) 8 M37)]) (pc := 118) C dX9_held_118 3 rfl (by omega) (by omega) (Nat.le_of_ble_eq_true rfl) rfl ?_
                refine V_aload_n (pc := 119) C dX9_held_119 rfl 0 rfl ?_
                refine gf_X9_90 (x := q 36) (pc := 120) C dX9_held_120 0 rfl rfl ?_
                refine V_aload_n (pc := 123) C dX9_held_123 rfl 0 rfl ?_
                refine gf_X9_254 (x := f 32) (pc := 124) C dX9_held_124 0 rfl rfl ?_
                refine V_iload (pc := 127) C dX9_held_127 4 rfl ?_
                refine V_iast (f := M36) (ws' := [(o, .inr (9, fX9 q (up f 0 0))), (q 33, aI (d 0) 8 (uI M33 (f 32) a)), (q 34, aI (d 0) 8 (uI M34 (f 32) e)), (q 35, aI (d 0) 8 (uI M35 (f 32) b)), (q 36, aI (d 0) 8 (uI M36 (f 32) g)), (q 37, aI (d 0) 8 M37)]) (pc := 129) C dX9_held_129 4 rfl (by omega) (by omega) (Nat.le_of_ble_eq_true rfl) rfl ?_
                refine V_aload_n (pc := 130) C dX9_held_130 rfl 0 rfl ?_
                refine gf_X9_93 (x := q 37) (pc := 131) C dX9_held_131 0 rfl rfl ?_
                refine V_aload_n (pc := 134) C dX9_held_134 rfl 0 rfl ?_
                refine gf_X9_254 (x := f 32) (pc := 135) C dX9_held_135 0 rfl rfl ?_
                refine V_iload (pc := 138) C dX9_held_138 5 rfl ?_
                refine V_iast (f := M37) (ws' := [(o, .inr (9, fX9 q (up f 0 0))), (q 33, aI (d 0) 8 (uI M33 (f 32) a)), (q 34, aI (d 0) 8 (uI M34 (f 32) e)), (q 35, aI (d 0) 8 (uI M35 (f 32) b)), (q 36, aI (d 0) 8 (uI M36 (f 32) g)), (q 37, aI (d 0) 8 (uI M37 (f 32) z))]) (pc := 140) C dX9_held_140 5 rfl (by omega) (by omega) (Nat.le_of_ble_eq_true rfl) rfl ?_
                refine V_aload_n (pc := 141) C dX9_held_141 rfl 0 rfl ?_
                refine V_dup (pc := 142) C dX9_held_142 rfl ?_
                refine gf_X9_254 (x := f 32) (pc := 143) C dX9_held_143 0 rfl rfl ?_
                refine V_iconst (pc := 146) C dX9_held_146 ?_
                refine V_iadd (pc := 147) C dX9_held_147 ?_
                refine pf_X9_254 (ws' := [(o, .inr (9, fX9 q (up (up f 0 0) 32 ((f 32) + 1)))), (q 33, aI (d 0) 8 (uI M33 (f 32) a)), (q 34, aI (d 0) 8 (uI M34 (f 32) e)), (q 35, aI (d 0) 8 (uI M35 (f 32) b)), (q 36, aI (d 0) 8 (uI M36 (f 32) g)), (q 37, aI (d 0) 8 (uI M37 (f 32) z))]) (pc := 148) C dX9_held_148 0 rfl rfl ?_
                refine V_aload_n (pc := 151) C dX9_held_151 rfl 0 rfl ?_
                refine gf_X9_254 (x := ((f 32) + 1)) (pc := 152) C dX9_held_152 0 rfl rfl ?_
                exact V_iret (pc := 155) C Z dX9_held_155 ((f 32) + 1, (f 32) + 1, uI M33 (f 32) a, uI M34 (f 32) e, uI M35 (f 32) b, uI M36 (f 32) g, uI M37 (f 32) z) (by unfold pHeldM pHeld; (try dsimp only); (repeat' split) <;> first | rfl | omega) (ri (by rfl)) (by first | rfl | rw [up_same rfl])
              · refine V_bipush (pc := 86) C dX9_held_86 rfl ?_
                exact V_iret (pc := 88) C Z dX9_held_88 (-4, f 32, M33, M34, M35, M36, M37) (by unfold pHeldM pHeld; (try dsimp only); (repeat' split) <;> first | rfl | omega) (ri (by rfl)) (by first | rfl | rw [up_same rfl])
            · refine V_bipush (pc := 74) C dX9_held_74 rfl ?_
              exact V_iret (pc := 76) C Z dX9_held_76 (-2, f 32, M33, M34, M35, M36, M37) (by unfold pHeldM pHeld; (try dsimp only); (repeat' split) <;> first | rfl | omega) (ri (by rfl)) (by first | rfl | rw [up_same rfl])
    · refine V_iconst (pc := 29) C dX9_held_29 ?_
      exact V_iret (pc := 30) C Z dX9_held_30 (-1, f 32, M33, M34, M35, M36, M37) (by unfold pHeldM pHeld; (try dsimp only); (repeat' split) <;> first | rfl | omega) (ri (by rfl)) (by first | rfl | rw [up_same rfl])
set_option maxRecDepth 100000 in
set_option maxHeartbeats 4000000 in
theorem c_X9_fits (l : Launch) (D : va_G) (d : Nat → ClassId) (o : Nat) (q : Nat → Nat) (f : Nat → Int) (M33 : Int → Int) (M34 : Int → Int) (M35 : Int → Int) (M36 : Int → Int) (M37 : Int → Int) (x : Int) (hM33 : bd M33 0 2) (hM34 : bd M34 0 9) (hM35 : bd M35 0 2) (hM36 : bd M36 0 9) (hM37 : bd M37 (-1) 1) (h2 : 0 ≤ f 32 ∧ f 32 ≤ 8) (hx : 0 ≤ x ∧ x < 8000) : CU l yX9_fits cX9_fits 5 (some .boolean) 1 21 D d [.ref o, .int (iI x)] [(o, .inr (9, fX9 q f)), (q 33, aI (d 0) 8 M33), (q 34, aI (d 0) 8 M34), (q 35, aI (d 0) 8 M35), (q 36, aI (d 0) 8 M36), (q 37, aI (d 0) 8 M37)] (fun (_ : Unit) => True) (fun (_ : Unit) => some (.int (iI (fitI M33 M34 M35 M36 M37 x (f 32).toNat)))) (fun (_ : Unit) => [(o, .inr (9, fX9 q f)), (q 33, aI (d 0) 8 M33), (q 34, aI (d 0) 8 M34), (q 35, aI (d 0) 8 M35), (q 36, aI (d 0) 8 M36), (q 37, aI (d 0) 8 M37)]) := by
  refine CU.mk (own := RX9) (lv := [(0, .ref o), (1, .int (iI x))]) rfl (by decide) (Nat.le_of_ble_eq_true rfl) rfl ?_
  intro p9 e9 R9 s9 m9 args9 below9 meth9 c9 A9 Q9 hRf hRl C Z
  refine V_iconst (pc := 0) C dX9_fits_0 ?_
  refine V_istore_n (lv' := [(2, .int (iI 1)), (0, .ref o), (1, .int (iI x))]) (pc := 1) C dX9_fits_1 rfl (by decide) rfl ?_
  refine V_iconst (pc := 2) C dX9_fits_2 ?_
  refine V_istore_n (lv' := [(3, .int (iI 0)), (2, .int (iI 1)), (0, .ref o), (1, .int (iI x))]) (pc := 3) C dX9_fits_3 rfl (by decide) rfl ?_
  have L4 : ∀ (nn9 : Nat) (k : Int) (t : Int), (0 ≤ k ∧ k ≤ f 32) → (t = fitI M33 M34 M35 M36 M37 x k.toNat) → (f 32 - k).toNat < nn9 → V p9 l e9 R9 s9 m9 args9 below9 meth9 c9 A9 D Q9 5 0 0 [(o, .inr (9, fX9 q f)), (q 33, aI (d 0) 8 M33), (q 34, aI (d 0) 8 M34), (q 35, aI (d 0) 8 M35), (q 36, aI (d 0) 8 M36), (q 37, aI (d 0) 8 M37)] [(3, .int (iI k)), (2, .int (iI t)), (0, .ref o), (1, .int (iI x))] 4 [] := by
    intro nn9
    induction nn9 with
    | zero => intro _ _ _ _ hm4; exact absurd hm4 (Nat.not_lt_zero _)
    | succ nn9 ih4 =>
      intro k t hk ht hm4
      have t01 := fitI_01 (O := M33) (E := M34) (P := M35) (F := M36) (S := M37) (x := x) k.toNat
      rw [← ht] at t01
      refine V_iload_n (pc := 4) C dX9_fits_4 rfl 0 rfl ?_
      refine V_aload_n (pc := 5) C dX9_fits_5 rfl 2 rfl ?_
      refine gf_X9_254 (x := f 32) (pc := 6) C dX9_fits_6 0 rfl rfl ?_
      refine V_icmp_ge (pc := 9) 93 C dX9_fits_9 (by decide) (sm_i (by omega)) (sm_i (by omega)) (fun c9 => ?_) (fun c9 => ?_)
      · refine V_iload_n (pc := 93) C dX9_fits_93 rfl 1 rfl ?_
        exact V_zret (pc := 94) C Z dX9_fits_94 (by omega) () trivial (ri (by rw [ht]; congr 1; omega)) rfl
      · refine V_aload_n (pc := 12) C dX9_fits_12 rfl 2 rfl ?_
        refine gf_X9_84 (x := q 34) (pc := 13) C dX9_fits_13 0 rfl rfl ?_
        refine V_iload_n (pc := 16) C dX9_fits_16 rfl 0 rfl ?_
        refine V_iald (f := M34) (pc := 17) C dX9_fits_17 2 rfl (by omega) (by omega) (Nat.le_of_ble_eq_true rfl) ?_
        have b17 := hM34 k
        refine V_iload_n (pc := 18) C dX9_fits_18 rfl 3 rfl ?_
        refine V_aload_n (pc := 19) C dX9_fits_19 rfl 2 rfl ?_
        refine gf_X9_81 (x := q 33) (pc := 20) C dX9_fits_20 0 rfl rfl ?_
        refine V_iload_n (pc := 23) C dX9_fits_23 rfl 0 rfl ?_
        refine V_iald (f := M33) (pc := 24) C dX9_fits_24 1 rfl (by omega) (by omega) (Nat.le_of_ble_eq_true rfl) ?_
        have b24 := hM33 k
        refine cs_X9_257 (pc := 25) (rest := [.int (iI (M34 k))]) (wn := fun _ => [(o, .inr (9, fX9 q f)), (q 33, aI (d 0) 8 M33), (q 34, aI (d 0) 8 M34), (q 35, aI (d 0) 8 M35), (q 36, aI (d 0) 8 M36), (q 37, aI (d 0) 8 M37)]) (sn := fun _ => [.int (iI (1 + (if (M33 k) = 0 then x / 400 else if (M33 k) = 1 then x / 20 % 20 else x % 20))), .int (iI (M34 k))]) C dX9_fits_25 (c_X9_armIn l D d x (M33 k) hx (show -2147483648 ≤ (M33 k) ∧ (M33 k) ≤ 2147483647 by omega)) [] rfl rfl rfl rfl (Nat.le_of_ble_eq_true rfl) ⟨by omega, by omega⟩ ⟨Nat.zero_le _, Nat.zero_le _⟩ (fun _ => rfl) (fun _ => rfl) (fun _ => rfl) ?_
        intro _ _
        refine V_topi (fun aa e_aa => ?_)
        have ea : aa = arI x (M33 k) := e_aa
        have ba := arI_b (k := M33 k) hx
        rw [← ea] at ba
        have ma := mulb (hM34 k) (show 0 ≤ aa ∧ aa ≤ 20 by omega)
        refine V_imul (pc := 28) C dX9_fits_28 ?_
        refine V_aload_n (pc := 29) C dX9_fits_29 rfl 2 rfl ?_
        refine gf_X9_90 (x := q 36) (pc := 30) C dX9_fits_30 0 rfl rfl ?_
        refine V_iload_n (pc := 33) C dX9_fits_33 rfl 0 rfl ?_
        refine V_iald (f := M36) (pc := 34) C dX9_fits_34 4 rfl (by omega) (by omega) (Nat.le_of_ble_eq_true rfl) ?_
        have b34 := hM36 k
        refine V_iload_n (pc := 35) C dX9_fits_35 rfl 3 rfl ?_
        refine V_aload_n (pc := 36) C dX9_fits_36 rfl 2 rfl ?_
        refine gf_X9_87 (x := q 35) (pc := 37) C dX9_fits_37 0 rfl rfl ?_
        refine V_iload_n (pc := 40) C dX9_fits_40 rfl 0 rfl ?_
        refine V_iald (f := M35) (pc := 41) C dX9_fits_41 3 rfl (by omega) (by omega) (Nat.le_of_ble_eq_true rfl) ?_
        have b41 := hM35 k
        refine cs_X9_257 (pc := 42) (rest := [.int (iI (M36 k)), .int (iI ((M34 k) * aa))]) (wn := fun _ => [(o, .inr (9, fX9 q f)), (q 33, aI (d 0) 8 M33), (q 34, aI (d 0) 8 M34), (q 35, aI (d 0) 8 M35), (q 36, aI (d 0) 8 M36), (q 37, aI (d 0) 8 M37)]) (sn := fun _ => [.int (iI (1 + (if (M35 k) = 0 then x / 400 else if (M35 k) = 1 then x / 20 % 20 else x % 20))), .int (iI (M36 k)), .int (iI ((M34 k) * aa))]) C dX9_fits_42 (c_X9_armIn l D d x (M35 k) hx (show -2147483648 ≤ (M35 k) ∧ (M35 k) ≤ 2147483647 by omega)) [] rfl rfl rfl rfl (Nat.le_of_ble_eq_true rfl) ⟨by omega, by omega⟩ ⟨Nat.zero_le _, Nat.zero_le _⟩ (fun _ => rfl) (fun _ => rfl) (fun _ => rfl) ?_
        intro _ _
        refine V_topi (fun bb e_bb => ?_)
        have eb : bb = arI x (M35 k) := e_bb
        have b9 := arI_b (k := M35 k) hx
        rw [← eb] at b9
        have m9 := mulb (hM36 k) (show 0 ≤ bb ∧ bb ≤ 20 by omega)
        refine V_imul (pc := 45) C dX9_fits_45 ?_
        refine V_isub (pc := 46) C dX9_fits_46 ?_
        refine V_istore (lv' := [(4, .int (iI (((M34 k) * aa) - ((M36 k) * bb)))), (3, .int (iI k)), (2, .int (iI t)), (0, .ref o), (1, .int (iI x))]) (pc := 47) C dX9_fits_47 (by decide) rfl ?_
        refine V_iload_n (pc := 49) C dX9_fits_49 rfl 2 rfl ?_
        refine V_if_eq (pc := 50) 85 C dX9_fits_50 (by decide) (sm_i (by omega)) (fun c50 => ?_) (fun c50 => ?_)
        · refine V_iconst (pc := 85) C dX9_fits_85 ?_
          refine V_istore_n (lv' := [(2, .int (iI 0)), (4, .int (iI (((M34 k) * aa) - ((M36 k) * bb)))), (3, .int (iI k)), (0, .ref o), (1, .int (iI x))]) (pc := 86) C dX9_fits_86 rfl (by decide) rfl ?_
          refine V_iinc (lv' := [(3, .int (iI (k + 1))), (2, .int (iI 0)), (4, .int (iI (((M34 k) * aa) - ((M36 k) * bb)))), (0, .ref o), (1, .int (iI x))]) (pc := 87) C dX9_fits_87 2 rfl (by decide) rfl ?_
          refine V_goto (pc := 90) 4 C dX9_fits_90 (by decide) ?_
          exact V_sub [0, 1, 3, 4] rfl (ih4 (k + 1) 0 (by omega) (by rw [fitI_s hk.1, ← ht, ← ea, ← eb]; unfold cmpI; (repeat' split) <;> omega) (by omega))
        · refine V_iload (pc := 53) C dX9_fits_53 0 rfl ?_
          refine V_if_le (pc := 55) 62 C dX9_fits_55 (by decide) (sm_i (by omega)) (fun c55 => ?_) (fun c55 => ?_)
          · refine V_iload (pc := 62) C dX9_fits_62 0 rfl ?_
            refine V_if_ge (pc := 64) 71 C dX9_fits_64 (by decide) (sm_i (by omega)) (fun c64 => ?_) (fun c64 => ?_)
            · refine V_iconst (pc := 71) C dX9_fits_71 ?_
              refine V_aload_n (pc := 72) C dX9_fits_72 rfl 3 rfl ?_
              refine gf_X9_93 (x := q 37) (pc := 73) C dX9_fits_73 0 rfl rfl ?_
              refine V_iload_n (pc := 76) C dX9_fits_76 rfl 1 rfl ?_
              refine V_iald (f := M37) (pc := 77) C dX9_fits_77 5 rfl (by omega) (by omega) (Nat.le_of_ble_eq_true rfl) ?_
              have b77 := hM37 k
              refine V_icmp_ne (pc := 78) 85 C dX9_fits_78 (by decide) (sm_i (by decide)) (sm_i (by omega)) (fun c78 => ?_) (fun c78 => ?_)
              · refine V_iconst (pc := 85) C dX9_fits_85 ?_
                refine V_istore_n (lv' := [(2, .int (iI 0)), (4, .int (iI (((M34 k) * aa) - ((M36 k) * bb)))), (3, .int (iI k)), (0, .ref o), (1, .int (iI x))]) (pc := 86) C dX9_fits_86 rfl (by decide) rfl ?_
                refine V_iinc (lv' := [(3, .int (iI (k + 1))), (2, .int (iI 0)), (4, .int (iI (((M34 k) * aa) - ((M36 k) * bb)))), (0, .ref o), (1, .int (iI x))]) (pc := 87) C dX9_fits_87 2 rfl (by decide) rfl ?_
                refine V_goto (pc := 90) 4 C dX9_fits_90 (by decide) ?_
                exact V_sub [0, 1, 3, 4] rfl (ih4 (k + 1) 0 (by omega) (by rw [fitI_s hk.1, ← ht, ← ea, ← eb]; unfold cmpI; (repeat' split) <;> omega) (by omega))
              · refine V_iconst (pc := 81) C dX9_fits_81 ?_
                refine V_goto (pc := 82) 86 C dX9_fits_82 (by decide) ?_
                refine V_istore_n (lv' := [(2, .int (iI 1)), (4, .int (iI (((M34 k) * aa) - ((M36 k) * bb)))), (3, .int (iI k)), (0, .ref o), (1, .int (iI x))]) (pc := 86) C dX9_fits_86 rfl (by decide) rfl ?_
                refine V_iinc (lv' := [(3, .int (iI (k + 1))), (2, .int (iI 1)), (4, .int (iI (((M34 k) * aa) - ((M36 k) * bb)))), (0, .ref o), (1, .int (iI x))]) (pc := 87) C dX9_fits_87 2 rfl (by decide) rfl ?_
                refine V_goto (pc := 90) 4 C dX9_fits_90 (by decide) ?_
                exact V_sub [0, 1, 3, 4] rfl (ih4 (k + 1) 1 (by omega) (by rw [fitI_s hk.1, ← ht, ← ea, ← eb]; unfold cmpI; (repeat' split) <;> omega) (by omega))
            · refine V_iconst (pc := 67) C dX9_fits_67 ?_
              refine V_goto (pc := 68) 72 C dX9_fits_68 (by decide) ?_
              refine V_aload_n (pc := 72) C dX9_fits_72 rfl 3 rfl ?_
              refine gf_X9_93 (x := q 37) (pc := 73) C dX9_fits_73 0 rfl rfl ?_
              refine V_iload_n (pc := 76) C dX9_fits_76 rfl 1 rfl ?_
              refine V_iald (f := M37) (pc := 77) C dX9_fits_77 5 rfl (by omega) (by omega) (Nat.le_of_ble_eq_true rfl) ?_
              have b77 := hM37 k
              refine V_icmp_ne (pc := 78) 85 C dX9_fits_78 (by decide) (sm_i (by decide)) (sm_i (by omega)) (fun c78 => ?_) (fun c78 => ?_)
              · refine V_iconst (pc := 85) C dX9_fits_85 ?_
                refine V_istore_n (lv' := [(2, .int (iI 0)), (4, .int (iI (((M34 k) * aa) - ((M36 k) * bb)))), (3, .int (iI k)), (0, .ref o), (1, .int (iI x))]) (pc := 86) C dX9_fits_86 rfl (by decide) rfl ?_
                refine V_iinc (lv' := [(3, .int (iI (k + 1))), (2, .int (iI 0)), (4, .int (iI (((M34 k) * aa) - ((M36 k) * bb)))), (0, .ref o), (1, .int (iI x))]) (pc := 87) C dX9_fits_87 2 rfl (by decide) rfl ?_
                refine V_goto (pc := 90) 4 C dX9_fits_90 (by decide) ?_
                exact V_sub [0, 1, 3, 4] rfl (ih4 (k + 1) 0 (by omega) (by rw [fitI_s hk.1, ← ht, ← ea, ← eb]; unfold cmpI; (repeat' split) <;> omega) (by omega))
              · refine V_iconst (pc := 81) C dX9_fits_81 ?_
                refine V_goto (pc := 82) 86 C dX9_fits_82 (by decide) ?_
                refine V_istore_n (lv' := [(2, .int (iI 1)), (4, .int (iI (((M34 k) * aa) - ((M36 k) * bb)))), (3, .int (iI k)), (0, .ref o), (1, .int (iI x))]) (pc := 86) C dX9_fits_86 rfl (by decide) rfl ?_
                refine V_iinc (lv' := [(3, .int (iI (k + 1))), (2, .int (iI 1)), (4, .int (iI (((M34 k) * aa) - ((M36 k) * bb)))), (0, .ref o), (1, .int (iI x))]) (pc := 87) C dX9_fits_87 2 rfl (by decide) rfl ?_
                refine V_goto (pc := 90) 4 C dX9_fits_90 (by decide) ?_
                exact V_sub [0, 1, 3, 4] rfl (ih4 (k + 1) 1 (by omega) (by rw [fitI_s hk.1, ← ht, ← ea, ← eb]; unfold cmpI; (repeat' split) <;> omega) (by omega))
          · refine V_iconst (pc := 58) C dX9_fits_58 ?_
            refine V_goto (pc := 59) 72 C dX9_fits_59 (by decide) ?_
            refine V_aload_n (pc := 72) C dX9_fits_72 rfl 3 rfl ?_
            refine gf_X9_93 (x := q 37) (pc := 73) C dX9_fits_73 0 rfl rfl ?_
            refine V_iload_n (pc := 76) C dX9_fits_76 rfl 1 rfl ?_
            refine V_iald (f := M37) (pc := 77) C dX9_fits_77 5 rfl (by omega) (by omega) (Nat.le_of_ble_eq_true rfl) ?_
            have b77 := hM37 k
            refine V_icmp_ne (pc := 78) 85 C dX9_fits_78 (by decide) (sm_i (by decide)) (sm_i (by omega)) (fun c78 => ?_) (fun c78 => ?_)
            · refine V_iconst (pc := 85) C dX9_fits_85 ?_
              refine V_istore_n (lv' := [(2, .int (iI 0)), (4, .int (iI (((M34 k) * aa) - ((M36 k) * bb)))), (3, .int (iI k)), (0, .ref o), (1, .int (iI x))]) (pc := 86) C dX9_fits_86 rfl (by decide) rfl ?_
              refine V_iinc (lv' := [(3, .int (iI (k + 1))), (2, .int (iI 0)), (4, .int (iI (((M34 k) * aa) - ((M36 k) * bb)))), (0, .ref o), (1, .int (iI x))]) (pc := 87) C dX9_fits_87 2 rfl (by decide) rfl ?_
              refine V_goto (pc := 90) 4 C dX9_fits_90 (by decide) ?_
              exact V_sub [0, 1, 3, 4] rfl (ih4 (k + 1) 0 (by omega) (by rw [fitI_s hk.1, ← ht, ← ea, ← eb]; unfold cmpI; (repeat' split) <;> omega) (by omega))
            · refine V_iconst (pc := 81) C dX9_fits_81 ?_
              refine V_goto (pc := 82) 86 C dX9_fits_82 (by decide) ?_
              refine V_istore_n (lv' := [(2, .int (iI 1)), (4, .int (iI (((M34 k) * aa) - ((M36 k) * bb)))), (3, .int (iI k)), (0, .ref o), (1, .int (iI x))]) (pc := 86) C dX9_fits_86 rfl (by decide) rfl ?_
              refine V_iinc (lv' := [(3, .int (iI (k + 1))), (2, .int (iI 1)), (4, .int (iI (((M34 k) * aa) - ((M36 k) * bb)))), (0, .ref o), (1, .int (iI x))]) (pc := 87) C dX9_fits_87 2 rfl (by decide) rfl ?_
              refine V_goto (pc := 90) 4 C dX9_fits_90 (by decide) ?_
              exact V_sub [0, 1, 3, 4] rfl (ih4 (k + 1) 1 (by omega) (by rw [fitI_s hk.1, ← ht, ← ea, ← eb]; unfold cmpI; (repeat' split) <;> omega) (by omega))
  exact V_sub [0, 1, 2, 3] rfl (L4 ((f 32 - 0).toNat + 1) 0 1 (by omega) (rfl) (Nat.lt_succ_self _))
set_option maxRecDepth 100000 in
set_option maxHeartbeats 4000000 in
theorem c_X9_layRows (l : Launch) (D : va_G) (d : Nat → ClassId) (o : Nat) (q : Nat → Nat) (f : Nat → Int) (M33 : Int → Int) (M34 : Int → Int) (M35 : Int → Int) (M36 : Int → Int) (M37 : Int → Int) (a : Int) (hM33 : bd M33 0 2) (hM34 : bd M34 0 9) (hM35 : bd M35 0 2) (hM36 : bd M36 0 9) (hM37 : bd M37 (-1) 1) (h2 : 0 ≤ f 32 ∧ f 32 ≤ 8) (ha : 0 ≤ a ∧ a ≤ 2) : CU l yX9_layRows cX9_layRows 5 (some .int) 2 45 D d [.ref o, .int (iI a)] [(o, .inr (9, fX9 q f)), (q 33, aI (d 0) 8 M33), (q 34, aI (d 0) 8 M34), (q 35, aI (d 0) 8 M35), (q 36, aI (d 0) 8 M36), (q 37, aI (d 0) 8 M37)] (fun (u : Int × Int × Int) => lyR (fun y => fitI M33 M34 M35 M36 M37 y (f 32).toNat) (fun y => arI y a) 8000 u.1 u.2.1 u.2.2) (fun (u : Int × Int × Int) => some (.int (iI (u.1)))) (fun (u : Int × Int × Int) => [(o, .inr (9, fX9 q (up (up f 48 u.2.1) 49 u.2.2))), (q 33, aI (d 0) 8 M33), (q 34, aI (d 0) 8 M34), (q 35, aI (d 0) 8 M35), (q 36, aI (d 0) 8 M36), (q 37, aI (d 0) 8 M37)]) := by
  refine CU.mk (own := RX9) (lv := [(0, .ref o), (1, .int (iI a))]) rfl (by decide) (Nat.le_of_ble_eq_true rfl) rfl ?_
  intro p9 e9 R9 s9 m9 args9 below9 meth9 c9 A9 Q9 hRf hRl C Z
  refine V_iconst (pc := 0) C dX9_layRows_0 ?_
  refine V_istore_n (lv' := [(2, .int (iI 0)), (0, .ref o), (1, .int (iI a))]) (pc := 1) C dX9_layRows_1 rfl (by decide) rfl ?_
  refine V_aload_n (pc := 2) C dX9_layRows_2 rfl 1 rfl ?_
  refine V_bipush (pc := 3) C dX9_layRows_3 rfl ?_
  refine pf_X9_260 (ws' := [(o, .inr (9, fX9 q (up f 48 99))), (q 33, aI (d 0) 8 M33), (q 34, aI (d 0) 8 M34), (q 35, aI (d 0) 8 M35), (q 36, aI (d 0) 8 M36), (q 37, aI (d 0) 8 M37)]) (pc := 5) C dX9_layRows_5 0 rfl rfl ?_
  refine V_aload_n (pc := 8) C dX9_layRows_8 rfl 1 rfl ?_
  refine V_iconst (pc := 9) C dX9_layRows_9 ?_
  refine pf_X9_263 (ws' := [(o, .inr (9, fX9 q (up (up f 48 99) 49 0))), (q 33, aI (d 0) 8 M33), (q 34, aI (d 0) 8 M34), (q 35, aI (d 0) 8 M35), (q 36, aI (d 0) 8 M36), (q 37, aI (d 0) 8 M37)]) (pc := 10) C dX9_layRows_10 0 rfl rfl ?_
  refine V_iconst (pc := 13) C dX9_layRows_13 ?_
  refine V_istore_n (lv' := [(3, .int (iI 0)), (2, .int (iI 0)), (0, .ref o), (1, .int (iI a))]) (pc := 14) C dX9_layRows_14 rfl (by decide) rfl ?_
  have L15 : ∀ (nn9 : Nat) (x : Int) (n : Int) (lo : Int) (hi : Int), (0 ≤ x ∧ x ≤ 8000) → (0 ≤ n ∧ n ≤ x) → (0 ≤ lo ∧ lo ≤ 99) → (0 ≤ hi ∧ hi ≤ 99) → (lyR (fun y => fitI M33 M34 M35 M36 M37 y (f 32).toNat) (fun y => arI y a) x n lo hi) → ((8000 : Int) - x).toNat < nn9 → V p9 l e9 R9 s9 m9 args9 below9 meth9 c9 A9 D Q9 5 0 0 [(o, .inr (9, fX9 q (up (up f 48 lo) 49 hi))), (q 33, aI (d 0) 8 M33), (q 34, aI (d 0) 8 M34), (q 35, aI (d 0) 8 M35), (q 36, aI (d 0) 8 M36), (q 37, aI (d 0) 8 M37)] [(3, .int (iI x)), (2, .int (iI n)), (0, .ref o), (1, .int (iI a))] 15 [] := by
    intro nn9
    induction nn9 with
    | zero => intro _ _ _ _ _ _ _ _ _ hm15; exact absurd hm15 (Nat.not_lt_zero _)
    | succ nn9 ih15 =>
      intro x n lo hi hx hn blo bhi hR hm15
      refine V_iload_n (pc := 15) C dX9_layRows_15 rfl 0 rfl ?_
      refine V_sipush (pc := 16) C dX9_layRows_16 rfl ?_
      refine V_icmp_ge (pc := 19) 90 C dX9_layRows_19 (by decide) (sm_i (by omega)) (sm_i (by decide)) (fun c19 => ?_) (fun c19 => ?_)
      · refine V_iload_n (pc := 90) C dX9_layRows_90 rfl 1 rfl ?_
        exact V_iret (pc := 91) C Z dX9_layRows_91 (n, lo, hi) (by have h := hR; rw [show x = 8000 by omega] at h; exact h) (ri (by rfl)) rfl
      · have f01 := fitI_01 (O := M33) (E := M34) (P := M35) (F := M36) (S := M37) (x := x) (f 32).toNat
        refine V_aload_n (pc := 22) C dX9_layRows_22 rfl 2 rfl ?_
        refine V_iload_n (pc := 23) C dX9_layRows_23 rfl 0 rfl ?_
        refine cv_X9_266 (pc := 24) (rest := []) (wn := fun _ => [(o, .inr (9, fX9 q (up (up f 48 lo) 49 hi))), (q 33, aI (d 0) 8 M33), (q 34, aI (d 0) 8 M34), (q 35, aI (d 0) 8 M35), (q 36, aI (d 0) 8 M36), (q 37, aI (d 0) 8 M37)]) (sn := fun _ => [.int (iI (fitI M33 M34 M35 M36 M37 x ((f 32)).toNat))]) C dX9_layRows_24 (c_X9_fits l D d o q (up (up f 48 lo) 49 hi) M33 M34 M35 M36 M37 x hM33 hM34 hM35 hM36 hM37 h2 (show 0 ≤ x ∧ x < 8000 by omega)) [0, 1, 2, 3, 4, 5] rfl rfl 0 rfl rfl rfl (Nat.le_of_ble_eq_true rfl) ⟨by omega, by omega⟩ ⟨Nat.zero_le _, Nat.zero_le _⟩ (fun _ => rfl) (fun _ => rfl) (fun _ => rfl) ?_
        intro _ _
        refine V_if_eq (pc := 27) 84 C dX9_layRows_27 (by decide) (sm_i (by omega)) (fun c27 => ?_) (fun c27 => ?_)
        · refine V_iinc (lv' := [(3, .int (iI (x + 1))), (2, .int (iI n)), (0, .ref o), (1, .int (iI a))]) (pc := 84) C dX9_layRows_84 0 rfl (by decide) rfl ?_
          refine V_goto (pc := 87) 15 C dX9_layRows_87 (by decide) ?_
          exact V_sub [0, 1, 2, 3] rfl (ih15 (x + 1) n lo hi (by omega) (by omega) (by omega) (by omega) (by first | exact lyR_no hx.1 hR c27 | exact lyR_yes hx.1 hR (by show fitI _ _ _ _ _ _ _ = 1; omega) (by show 1 ≤ arI x a ∧ arI x a ≤ 20; omega) hn.1 (by show _ = if arI x a < lo then _ else _; split <;> omega) (by show _ = if hi < arI x a then _ else _; split <;> omega)) (by omega))
        · refine V_iload_n (pc := 30) C dX9_layRows_30 rfl 0 rfl ?_
          refine V_iload_n (pc := 31) C dX9_layRows_31 rfl 3 rfl ?_
          refine cs_X9_257 (pc := 32) (rest := []) (wn := fun _ => [(o, .inr (9, fX9 q (up (up f 48 lo) 49 hi))), (q 33, aI (d 0) 8 M33), (q 34, aI (d 0) 8 M34), (q 35, aI (d 0) 8 M35), (q 36, aI (d 0) 8 M36), (q 37, aI (d 0) 8 M37)]) (sn := fun _ => [.int (iI (1 + (if a = 0 then x / 400 else if a = 1 then x / 20 % 20 else x % 20)))]) C dX9_layRows_32 (c_X9_armIn l D d x a (show 0 ≤ x ∧ x < 8000 by omega) (show -2147483648 ≤ a ∧ a ≤ 2147483647 by omega)) [] rfl rfl rfl rfl (Nat.le_of_ble_eq_true rfl) ⟨by omega, by omega⟩ ⟨Nat.zero_le _, Nat.zero_le _⟩ (fun _ => rfl) (fun _ => rfl) (fun _ => rfl) ?_
          intro _ _
          refine V_topi (fun vv e_vv => ?_)
          have ev : vv = arI x a := e_vv
          have bv := arI_b (k := a) (show 0 ≤ x ∧ x < 8000 by omega)
          rw [← ev] at bv
          refine V_istore (lv' := [(4, .int (iI vv)), (3, .int (iI x)), (2, .int (iI n)), (0, .ref o), (1, .int (iI a))]) (pc := 35) C dX9_layRows_35 (by decide) rfl ?_
          refine V_iinc (lv' := [(2, .int (iI (n + 1))), (4, .int (iI vv)), (3, .int (iI x)), (0, .ref o), (1, .int (iI a))]) (pc := 37) C dX9_layRows_37 2 rfl (by decide) rfl ?_
          refine V_aload_n (pc := 40) C dX9_layRows_40 rfl 3 rfl ?_
          refine V_iload (pc := 41) C dX9_layRows_41 1 rfl ?_
          refine V_aload_n (pc := 43) C dX9_layRows_43 rfl 3 rfl ?_
          refine gf_X9_260 (x := lo) (pc := 44) C dX9_layRows_44 0 rfl rfl ?_
          refine V_icmp_ge (pc := 47) 55 C dX9_layRows_47 (by decide) (sm_i (by omega)) (sm_i (by omega)) (fun c47 => ?_) (fun c47 => ?_)
          · refine V_aload_n (pc := 55) C dX9_layRows_55 rfl 3 rfl ?_
            refine gf_X9_260 (x := lo) (pc := 56) C dX9_layRows_56 0 rfl rfl ?_
            refine pf_X9_260 (ws' := [(o, .inr (9, fX9 q (up (up (up f 48 lo) 49 hi) 48 lo))), (q 33, aI (d 0) 8 M33), (q 34, aI (d 0) 8 M34), (q 35, aI (d 0) 8 M35), (q 36, aI (d 0) 8 M36), (q 37, aI (d 0) 8 M37)]) (pc := 59) C dX9_layRows_59 0 rfl rfl ?_
            refine V_aload_n (pc := 62) C dX9_layRows_62 rfl 3 rfl ?_
            refine V_iload (pc := 63) C dX9_layRows_63 1 rfl ?_
            refine V_aload_n (pc := 65) C dX9_layRows_65 rfl 3 rfl ?_
            refine gf_X9_263 (x := hi) (pc := 66) C dX9_layRows_66 0 rfl rfl ?_
            refine V_icmp_le (pc := 69) 77 C dX9_layRows_69 (by decide) (sm_i (by omega)) (sm_i (by omega)) (fun c69 => ?_) (fun c69 => ?_)
            · refine V_aload_n (pc := 77) C dX9_layRows_77 rfl 3 rfl ?_
              refine gf_X9_263 (x := hi) (pc := 78) C dX9_layRows_78 0 rfl rfl ?_
              refine pf_X9_263 (ws' := [(o, .inr (9, fX9 q (up (up (up (up f 48 lo) 49 hi) 48 lo) 49 hi))), (q 33, aI (d 0) 8 M33), (q 34, aI (d 0) 8 M34), (q 35, aI (d 0) 8 M35), (q 36, aI (d 0) 8 M36), (q 37, aI (d 0) 8 M37)]) (pc := 81) C dX9_layRows_81 0 rfl rfl ?_
              refine V_iinc (lv' := [(3, .int (iI (x + 1))), (2, .int (iI (n + 1))), (4, .int (iI vv)), (0, .ref o), (1, .int (iI a))]) (pc := 84) C dX9_layRows_84 2 rfl (by decide) rfl ?_
              refine V_goto (pc := 87) 15 C dX9_layRows_87 (by decide) ?_
              exact V_sub [0, 1, 3, 4] rfl (ih15 (x + 1) (n + 1) lo hi (by omega) (by omega) (by omega) (by omega) (by first | exact lyR_no hx.1 hR c27 | exact lyR_yes hx.1 hR (by show fitI _ _ _ _ _ _ _ = 1; omega) (by show 1 ≤ arI x a ∧ arI x a ≤ 20; omega) hn.1 (by show _ = if arI x a < lo then _ else _; split <;> omega) (by show _ = if hi < arI x a then _ else _; split <;> omega)) (by omega))
            · refine V_iload (pc := 72) C dX9_layRows_72 1 rfl ?_
              refine V_goto (pc := 74) 81 C dX9_layRows_74 (by decide) ?_
              refine pf_X9_263 (ws' := [(o, .inr (9, fX9 q (up (up (up (up f 48 lo) 49 hi) 48 lo) 49 vv))), (q 33, aI (d 0) 8 M33), (q 34, aI (d 0) 8 M34), (q 35, aI (d 0) 8 M35), (q 36, aI (d 0) 8 M36), (q 37, aI (d 0) 8 M37)]) (pc := 81) C dX9_layRows_81 0 rfl rfl ?_
              refine V_iinc (lv' := [(3, .int (iI (x + 1))), (2, .int (iI (n + 1))), (4, .int (iI vv)), (0, .ref o), (1, .int (iI a))]) (pc := 84) C dX9_layRows_84 2 rfl (by decide) rfl ?_
              refine V_goto (pc := 87) 15 C dX9_layRows_87 (by decide) ?_
              exact V_sub [0, 1, 3, 4] rfl (ih15 (x + 1) (n + 1) lo vv (by omega) (by omega) (by omega) (by omega) (by first | exact lyR_no hx.1 hR c27 | exact lyR_yes hx.1 hR (by show fitI _ _ _ _ _ _ _ = 1; omega) (by show 1 ≤ arI x a ∧ arI x a ≤ 20; omega) hn.1 (by show _ = if arI x a < lo then _ else _; split <;> omega) (by show _ = if hi < arI x a then _ else _; split <;> omega)) (by omega))
          · refine V_iload (pc := 50) C dX9_layRows_50 1 rfl ?_
            refine V_goto (pc := 52) 59 C dX9_layRows_52 (by decide) ?_
            refine pf_X9_260 (ws' := [(o, .inr (9, fX9 q (up (up (up f 48 lo) 49 hi) 48 vv))), (q 33, aI (d 0) 8 M33), (q 34, aI (d 0) 8 M34), (q 35, aI (d 0) 8 M35), (q 36, aI (d 0) 8 M36), (q 37, aI (d 0) 8 M37)]) (pc := 59) C dX9_layRows_59 0 rfl rfl ?_
            refine V_aload_n (pc := 62) C dX9_layRows_62 rfl 3 rfl ?_
            refine V_iload (pc := 63) C dX9_layRows_63 1 rfl ?_
            refine V_aload_n (pc := 65) C dX9_layRows_65 rfl 3 rfl ?_
            refine gf_X9_263 (x := hi) (pc := 66) C dX9_layRows_66 0 rfl rfl ?_
            refine V_icmp_le (pc := 69) 77 C dX9_layRows_69 (by decide) (sm_i (by omega)) (sm_i (by omega)) (fun c69 => ?_) (fun c69 => ?_)
            · refine V_aload_n (pc := 77) C dX9_layRows_77 rfl 3 rfl ?_
              refine gf_X9_263 (x := hi) (pc := 78) C dX9_layRows_78 0 rfl rfl ?_
              refine pf_X9_263 (ws' := [(o, .inr (9, fX9 q (up (up (up (up f 48 lo) 49 hi) 48 vv) 49 hi))), (q 33, aI (d 0) 8 M33), (q 34, aI (d 0) 8 M34), (q 35, aI (d 0) 8 M35), (q 36, aI (d 0) 8 M36), (q 37, aI (d 0) 8 M37)]) (pc := 81) C dX9_layRows_81 0 rfl rfl ?_
              refine V_iinc (lv' := [(3, .int (iI (x + 1))), (2, .int (iI (n + 1))), (4, .int (iI vv)), (0, .ref o), (1, .int (iI a))]) (pc := 84) C dX9_layRows_84 2 rfl (by decide) rfl ?_
              refine V_goto (pc := 87) 15 C dX9_layRows_87 (by decide) ?_
              exact V_sub [0, 1, 3, 4] rfl (ih15 (x + 1) (n + 1) vv hi (by omega) (by omega) (by omega) (by omega) (by first | exact lyR_no hx.1 hR c27 | exact lyR_yes hx.1 hR (by show fitI _ _ _ _ _ _ _ = 1; omega) (by show 1 ≤ arI x a ∧ arI x a ≤ 20; omega) hn.1 (by show _ = if arI x a < lo then _ else _; split <;> omega) (by show _ = if hi < arI x a then _ else _; split <;> omega)) (by omega))
            · refine V_iload (pc := 72) C dX9_layRows_72 1 rfl ?_
              refine V_goto (pc := 74) 81 C dX9_layRows_74 (by decide) ?_
              refine pf_X9_263 (ws' := [(o, .inr (9, fX9 q (up (up (up (up f 48 lo) 49 hi) 48 vv) 49 vv))), (q 33, aI (d 0) 8 M33), (q 34, aI (d 0) 8 M34), (q 35, aI (d 0) 8 M35), (q 36, aI (d 0) 8 M36), (q 37, aI (d 0) 8 M37)]) (pc := 81) C dX9_layRows_81 0 rfl rfl ?_
              refine V_iinc (lv' := [(3, .int (iI (x + 1))), (2, .int (iI (n + 1))), (4, .int (iI vv)), (0, .ref o), (1, .int (iI a))]) (pc := 84) C dX9_layRows_84 2 rfl (by decide) rfl ?_
              refine V_goto (pc := 87) 15 C dX9_layRows_87 (by decide) ?_
              exact V_sub [0, 1, 3, 4] rfl (ih15 (x + 1) (n + 1) vv vv (by omega) (by omega) (by omega) (by omega) (by first | exact lyR_no hx.1 hR c27 | exact lyR_yes hx.1 hR (by show fitI _ _ _ _ _ _ _ = 1; omega) (by show 1 ≤ arI x a ∧ arI x a ≤ 20; omega) hn.1 (by show _ = if arI x a < lo then _ else _; split <;> omega) (by show _ = if hi < arI x a then _ else _; split <;> omega)) (by omega))
  exact V_sub [0, 1, 2, 3] rfl (L15 (((8000 : Int) - 0).toNat + 1) 0 0 99 0 (by omega) (by omega) (by omega) (by omega) (⟨rfl, fun y hy => by omega, Or.inl ⟨rfl, rfl, rfl⟩⟩) (Nat.lt_succ_self _))
set_option maxRecDepth 100000 in
set_option maxHeartbeats 4000000 in
theorem c_X9_mayBe (l : Launch) (D : va_G) (d : Nat → ClassId) (o : Nat) (q : Nat → Nat) (f : Nat → Int) (M33 : Int → Int) (M34 : Int → Int) (M35 : Int → Int) (M36 : Int → Int) (M37 : Int → Int) (hM33 : bd M33 0 2) (hM34 : bd M34 0 9) (hM35 : bd M35 0 2) (hM36 : bd M36 0 9) (hM37 : bd M37 (-1) 1) (h2 : 0 ≤ f 32 ∧ f 32 ≤ 8) : CU l yX9_mayBe cX9_mayBe 1 (some .int) 3 69 D d [.ref o] [(o, .inr (9, fX9 q f)), (q 33, aI (d 0) 8 M33), (q 34, aI (d 0) 8 M34), (q 35, aI (d 0) 8 M35), (q 36, aI (d 0) 8 M36), (q 37, aI (d 0) 8 M37)] (fun (u : Int × Int × Int) => u.1 = sZ (fun y => fitI M33 M34 M35 M36 M37 y (f 32).toNat) 8000) (fun (u : Int × Int × Int) => some (.int (iI (u.1)))) (fun (u : Int × Int × Int) => [(o, .inr (9, fX9 q (up (up (up f 0 0) 48 u.2.1) 49 u.2.2))), (q 33, aI (d 0) 8 M33), (q 34, aI (d 0) 8 M34), (q 35, aI (d 0) 8 M35), (q 36, aI (d 0) 8 M36), (q 37, aI (d 0) 8 M37)]) := by
  refine CU.mk (own := RX9) (lv := [(0, .ref o)]) rfl (by decide) (Nat.le_of_ble_eq_true rfl) rfl ?_
  intro p9 e9 R9 s9 m9 args9 below9 meth9 c9 A9 Q9 hRf hRl C Z
  refine V_aload_n (pc := 0) C dX9_mayBe_0 rfl 0 rfl ?_
  refine V_iconst (pc := 1) C dX9_mayBe_1 ?_
  refine pf_X9_117 (ws' := [(o, .inr (9, fX9 q (up f 0 0))), (q 33, aI (d 0) 8 M33), (q 34, aI (d 0) 8 M34), (q 35, aI (d 0) 8 M35), (q 36, aI (d 0) 8 M36), (q 37, aI (d 0) 8 M37)]) (pc := 2) C dX9_mayBe_2 0 rfl rfl ?_
  refine V_aload_n (pc := 5) C dX9_mayBe_5 rfl 0 rfl ?_
  refine V_iconst (pc := 6) C dX9_mayBe_6 ?_
  refine cv_X9_269 (pc := 7) (rest := []) (wn := fun u => [(o, .inr (9, fX9 q (up (up (up f 0 0) 48 u.2.1) 49 u.2.2))), (q 33, aI (d 0) 8 M33), (q 34, aI (d 0) 8 M34), (q 35, aI (d 0) 8 M35), (q 36, aI (d 0) 8 M36), (q 37, aI (d 0) 8 M37)]) (sn := fun u => [.int (iI u.1)]) C dX9_mayBe_7 (c_X9_layRows l D d o q (up f 0 0) M33 M34 M35 M36 M37 0 hM33 hM34 hM35 hM36 hM37 h2 (show 0 ≤ 0 ∧ 0 ≤ 2 by omega)) [0, 1, 2, 3, 4, 5] rfl rfl 0 rfl rfl rfl (Nat.le_of_ble_eq_true rfl) ⟨by omega, by omega⟩ ⟨Nat.zero_le _, Nat.zero_le _⟩ (fun u => rfl) (fun u => rfl) (fun u => rfl) ?_
  rintro ⟨n9, lo9, hi9⟩ hu
  have hu : lyR (fun y => fitI M33 M34 M35 M36 M37 y (f 32).toNat) (fun y => arI y 0) 8000 n9 lo9 hi9 := hu
  exact V_iret (pc := 10) C Z dX9_mayBe_10 (n9, lo9, hi9) hu.1 (ri (by rfl)) rfl
set_option maxRecDepth 100000 in
set_option maxHeartbeats 4000000 in
theorem c_X9_arm (l : Launch) (D : va_G) (d : Nat → ClassId) (o : Nat) (q : Nat → Nat) (f : Nat → Int) (M33 : Int → Int) (M34 : Int → Int) (M35 : Int → Int) (M36 : Int → Int) (M37 : Int → Int) (a : Int) (w : Int) (hM33 : bd M33 0 2) (hM34 : bd M34 0 9) (hM35 : bd M35 0 2) (hM36 : bd M36 0 9) (hM37 : bd M37 (-1) 1) (h2 : 0 ≤ f 32 ∧ f 32 ≤ 8) (ha : -2147483648 ≤ a ∧ a ≤ 2147483647) (hw : w = 0 ∨ w = 1) : CU l yX9_arm cX9_arm 3 (some .int) 3 69 D d [.ref o, .int (iI a), .int (iI w)] [(o, .inr (9, fX9 q f)), (q 33, aI (d 0) 8 M33), (q 34, aI (d 0) 8 M34), (q 35, aI (d 0) 8 M35), (q 36, aI (d 0) 8 M36), (q 37, aI (d 0) 8 M37)] (fun (u : Int × Int × Int) => (¬ (0 ≤ a ∧ a ≤ 2) ∧ u.1 = -1) ∨ ((0 ≤ a ∧ a ≤ 2) ∧ armP (fun v => ∃ y : Int, (0 ≤ y ∧ y < 8000) ∧ fitI M33 M34 M35 M36 M37 y (f 32).toNat = 1 ∧ arI y a = v + 1) w u.1)) (fun (u : Int × Int × Int) => some (.int (iI (u.1)))) (fun (u : Int × Int × Int) => [(o, .inr (9, fX9 q (up (up (up f 0 0) 48 u.2.1) 49 u.2.2))), (q 33, aI (d 0) 8 M33), (q 34, aI (d 0) 8 M34), (q 35, aI (d 0) 8 M35), (q 36, aI (d 0) 8 M36), (q 37, aI (d 0) 8 M37)]) := by
  refine CU.mk (own := RX9) (lv := [(0, .ref o), (1, .int (iI a)), (2, .int (iI w))]) rfl (by decide) (Nat.le_of_ble_eq_true rfl) rfl ?_
  intro p9 e9 R9 s9 m9 args9 below9 meth9 c9 A9 Q9 hRf hRl C Z
  refine V_aload_n (pc := 0) C dX9_arm_0 rfl 0 rfl ?_
  refine V_iconst (pc := 1) C dX9_arm_1 ?_
  refine pf_X9_117 (ws' := [(o, .inr (9, fX9 q (up f 0 0))), (q 33, aI (d 0) 8 M33), (q 34, aI (d 0) 8 M34), (q 35, aI (d 0) 8 M35), (q 36, aI (d 0) 8 M36), (q 37, aI (d 0) 8 M37)]) (pc := 2) C dX9_arm_2 0 rfl rfl ?_
  refine V_iload_n (pc := 5) C dX9_arm_5 rfl 1 rfl ?_
  refine V_i2l (pc := 6) C dX9_arm_6 (sm_i (by omega)) ?_
  refine V_lconst (k := 0) (pc := 7) C dX9_arm_7 rfl ?_
  refine V_ldc2 (n := 2) (pc := 8) C dX9_arm_8 w4_228 rfl ?_
  refine cs_X9_123 (pc := 11) (rest := []) (wn := fun _ => [(o, .inr (9, fX9 q (up f 0 0))), (q 33, aI (d 0) 8 M33), (q 34, aI (d 0) 8 M34), (q 35, aI (d 0) 8 M35), (q 36, aI (d 0) 8 M36), (q 37, aI (d 0) 8 M37)]) (sn := fun _ => [.int (iI (bI (0 ≤ a ∧ a ≤ 2)))]) C dX9_arm_11 (c_X9_in l D d a 0 2 (show -9223372036854775808 ≤ a ∧ a ≤ 9223372036854775807 by omega) (show -9223372036854775808 ≤ 0 ∧ 0 ≤ 9223372036854775807 by omega) (show -9223372036854775808 ≤ 2 ∧ 2 ≤ 9223372036854775807 by omega)) [] rfl rfl rfl rfl (Nat.le_of_ble_eq_true rfl) ⟨by omega, by omega⟩ ⟨Nat.zero_le _, Nat.zero_le _⟩ (fun _ => rfl) (fun _ => rfl) (fun _ => rfl) ?_
  intro _ _
  refine V_ifb_ne (pc := 14) 19 C dX9_arm_14 (by decide) (fun c14 => ?_) (fun c14 => ?_)
  · refine V_aload_n (pc := 19) C dX9_arm_19 rfl 0 rfl ?_
    refine V_iload_n (pc := 20) C dX9_arm_20 rfl 1 rfl ?_
    refine cv_X9_269 (pc := 21) (rest := []) (wn := fun u => [(o, .inr (9, fX9 q (up (up (up f 0 0) 48 u.2.1) 49 u.2.2))), (q 33, aI (d 0) 8 M33), (q 34, aI (d 0) 8 M34), (q 35, aI (d 0) 8 M35), (q 36, aI (d 0) 8 M36), (q 37, aI (d 0) 8 M37)]) (sn := fun u => [.int (iI u.1)]) C dX9_arm_21 (c_X9_layRows l D d o q (up f 0 0) M33 M34 M35 M36 M37 a hM33 hM34 hM35 hM36 hM37 h2 (show 0 ≤ a ∧ a ≤ 2 by omega)) [0, 1, 2, 3, 4, 5] rfl rfl 0 rfl rfl rfl (Nat.le_of_ble_eq_true rfl) ⟨by omega, by omega⟩ ⟨Nat.zero_le _, Nat.zero_le _⟩ (fun u => rfl) (fun u => rfl) (fun u => rfl) ?_
    rintro ⟨n9, lo9, hi9⟩ hu
    have hu : lyR (fun y => fitI M33 M34 M35 M36 M37 y (f 32).toNat) (fun y => arI y a) 8000 n9 lo9 hi9 := hu
    have nb := ly_n hu
    have nb2 := ly_b hu (fun y => fitI_01 _) (by decide)
    refine V_if_ne (pc := 24) 32 C dX9_arm_24 (by decide) (sm_i (by omega)) (fun c24 => ?_) (fun c24 => ?_)
    · refine V_iload_n (pc := 32) C dX9_arm_32 rfl 2 rfl ?_
      refine V_if_eq (pc := 33) 43 C dX9_arm_33 (by decide) (sm_i (by omega)) (fun c33 => ?_) (fun c33 => ?_)
      · refine V_aload_n (pc := 43) C dX9_arm_43 rfl 0 rfl ?_
        refine gf_X9_260 (x := lo9) (pc := 44) C dX9_arm_44 0 rfl rfl ?_
        exact V_iret (pc := 47) C Z dX9_arm_47 (lo9, lo9, hi9) (by first | exact Or.inl ⟨by omega, rfl⟩ | exact Or.inr ⟨by omega, ly_arm hw hu (fun y hy => arI_b hy) (by omega) (Or.inl ⟨by omega, rfl⟩)⟩ | exact Or.inr ⟨by omega, ly_arm hw hu (fun y hy => arI_b hy) (by omega) (Or.inr (Or.inl ⟨by omega, by omega, rfl⟩))⟩ | exact Or.inr ⟨by omega, ly_arm hw hu (fun y hy => arI_b hy) (by omega) (Or.inr (Or.inr ⟨by omega, by omega, rfl⟩))⟩) (ri (by rfl)) (by first | rfl | (rw [up_same rfl, up_same rfl]))
      · refine V_aload_n (pc := 36) C dX9_arm_36 rfl 0 rfl ?_
        refine gf_X9_263 (x := hi9) (pc := 37) C dX9_arm_37 0 rfl rfl ?_
        refine V_goto (pc := 40) 47 C dX9_arm_40 (by decide) ?_
        exact V_iret (pc := 47) C Z dX9_arm_47 (hi9, lo9, hi9) (by first | exact Or.inl ⟨by omega, rfl⟩ | exact Or.inr ⟨by omega, ly_arm hw hu (fun y hy => arI_b hy) (by omega) (Or.inl ⟨by omega, rfl⟩)⟩ | exact Or.inr ⟨by omega, ly_arm hw hu (fun y hy => arI_b hy) (by omega) (Or.inr (Or.inl ⟨by omega, by omega, rfl⟩))⟩ | exact Or.inr ⟨by omega, ly_arm hw hu (fun y hy => arI_b hy) (by omega) (Or.inr (Or.inr ⟨by omega, by omega, rfl⟩))⟩) (ri (by rfl)) (by first | rfl | (rw [up_same rfl, up_same rfl]))
    · refine V_bipush (pc := 27) C dX9_arm_27 rfl ?_
      refine V_goto (pc := 29) 47 C dX9_arm_29 (by decide) ?_
      exact V_iret (pc := 47) C Z dX9_arm_47 (-9, lo9, hi9) (by first | exact Or.inl ⟨by omega, rfl⟩ | exact Or.inr ⟨by omega, ly_arm hw hu (fun y hy => arI_b hy) (by omega) (Or.inl ⟨by omega, rfl⟩)⟩ | exact Or.inr ⟨by omega, ly_arm hw hu (fun y hy => arI_b hy) (by omega) (Or.inr (Or.inl ⟨by omega, by omega, rfl⟩))⟩ | exact Or.inr ⟨by omega, ly_arm hw hu (fun y hy => arI_b hy) (by omega) (Or.inr (Or.inr ⟨by omega, by omega, rfl⟩))⟩) (ri (by rfl)) (by first | rfl | (rw [up_same rfl, up_same rfl]))
  · refine V_iconst (pc := 17) C dX9_arm_17 ?_
    exact V_iret (pc := 18) C Z dX9_arm_18 (-1, f 48, f 49) (by first | exact Or.inl ⟨by omega, rfl⟩ | exact Or.inr ⟨by omega, ly_arm hw hu (fun y hy => arI_b hy) (by omega) (Or.inl ⟨by omega, rfl⟩)⟩ | exact Or.inr ⟨by omega, ly_arm hw hu (fun y hy => arI_b hy) (by omega) (Or.inr (Or.inl ⟨by omega, by omega, rfl⟩))⟩ | exact Or.inr ⟨by omega, ly_arm hw hu (fun y hy => arI_b hy) (by omega) (Or.inr (Or.inr ⟨by omega, by omega, rfl⟩))⟩) (ri (by rfl)) (by first | rfl | (rw [up_same rfl, up_same rfl]))
