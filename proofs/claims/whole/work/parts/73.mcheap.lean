set_option maxRecDepth 100000 in
set_option maxHeartbeats 4000000 in
theorem c_X9_cheapest (l : Launch) (D : va_G) (d : Nat → ClassId) (o : Nat) (q : Nat → Nat) (f : Nat → Int) (M6 : Int → Int) (M7 : Int → Int) (M8 : Int → Int) (M9 : Int → Int) (M10 : Int → Int) (M40 : Int → Int) (M41 : Int → Int) (c : Int) (g : Int) (hP : 0 ≤ f 4 ∧ f 4 ≤ 6) (hC : 0 ≤ f 5 ∧ f 5 ≤ 4) (hM6 : bd M6 0 99) (hM7 : bd M7 0 99) (hM8 : bd M8 0 99) (hM9 : bd M9 0 9999) (hM10 : bd M10 0 1) (hM40 : bd M40 0 100005) (hU : ∀ j : Int, 0 ≤ j ∧ j < f 4 → 1 ≤ M6 j) (hV : ∀ j : Int, 0 ≤ j ∧ j < f 5 → 1 ≤ M8 j) (sc : -2147483648 ≤ c ∧ c ≤ 2147483647) (sg : -2147483648 ≤ g ∧ g ≤ 2147483647) : CU l yX9_cheapest cX9_cheapest 3 (some .int) 3 84 D d [.ref o, .int (iI c), .int (iI g)] [(o, .inr (9, fX9 q f)), (q 6, aI (d 0) 6 M6), (q 7, aI (d 0) 6 M7), (q 8, aI (d 0) 4 M8), (q 9, aI (d 0) 4 M9), (q 10, aI (d 1) 24 M10), (q 40, aI (d 0) 7707 M40), (q 41, aI (d 0) 6 M41)] (fun (u : Int × (Int → Int) × (Int → Int)) => ((¬ (0 ≤ c ∧ c < f 5) ∧ u.1 = -1) ∨ ((0 ≤ c ∧ c < f 5) ∧ ¬ (1 ≤ g ∧ g ≤ 999) ∧ u.1 = -2) ∨ ((0 ≤ c ∧ c < f 5) ∧ (1 ≤ g ∧ g ≤ 999) ∧ chA M6 M7 (fun x => M10 (4 * x + c)) (M8 c) (f 4) g (min (M9 c) (g + 98)) u.1)) ∧ bd u.2.1 0 100005) (fun (u : Int × (Int → Int) × (Int → Int)) => some (.int (iI (u.1)))) (fun (u : Int × (Int → Int) × (Int → Int)) => [(o, .inr (9, fX9 q (up f 0 0))), (q 6, aI (d 0) 6 M6), (q 7, aI (d 0) 6 M7), (q 8, aI (d 0) 4 M8), (q 9, aI (d 0) 4 M9), (q 10, aI (d 1) 24 M10), (q 40, aI (d 0) 7707 u.2.1), (q 41, aI (d 0) 6 u.2.2)]) := by
  refine CU.mk (own := RX9) (lv := [(0, .ref o), (1, .int (iI c)), (2, .int (iI g))]) rfl (by decide) (Nat.le_of_ble_eq_true rfl) rfl ?_
  intro p9 e9 R9 s9 m9 args9 below9 meth9 c9 A9 Q9 hRf hRl C Z
  refine V_aload_n (pc := 0) C dX9_cheapest_0 rfl 0 rfl ?_
  refine V_iconst (pc := 1) C dX9_cheapest_1 ?_
  refine pf_X9_117 (ws' := [(o, .inr (9, fX9 q (up f 0 0))), (q 6, aI (d 0) 6 M6), (q 7, aI (d 0) 6 M7), (q 8, aI (d 0) 4 M8), (q 9, aI (d 0) 4 M9), (q 10, aI (d 1) 24 M10), (q 40, aI (d 0) 7707 M40), (q 41, aI (d 0) 6 M41)]) (pc := 2) C dX9_cheapest_2 0 rfl rfl ?_
  refine V_aload_n (pc := 5) C dX9_cheapest_5 rfl 0 rfl ?_
  refine V_iload_n (pc := 6) C dX9_cheapest_6 rfl 1 rfl ?_
  refine cv_X9_187 (pc := 7) (rest := []) (wn := fun _ => [(o, .inr (9, fX9 q (up f 0 0))), (q 6, aI (d 0) 6 M6), (q 7, aI (d 0) 6 M7), (q 8, aI (d 0) 4 M8), (q 9, aI (d 0) 4 M9), (q 10, aI (d 1) 24 M10), (q 40, aI (d 0) 7707 M40), (q 41, aI (d 0) 6 M41)]) (sn := fun _ => [.int (iI (bI (¬ (0 ≤ c ∧ c < (f 5)))))]) C dX9_cheapest_7 (c_X9_noCounter l D d o q (up f 0 0) c sc hC) [0] rfl rfl 0 rfl rfl rfl (Nat.le_of_ble_eq_true rfl) ⟨by omega, by omega⟩ ⟨Nat.zero_le _, Nat.zero_le _⟩ (fun _ => rfl) (fun _ => rfl) (fun _ => rfl) ?_
  intro _ _
  refine V_ifb_eq (pc := 10) 15 C dX9_cheapest_10 (by decide) (fun c10 => ?_) (fun c10 => ?_)
  · refine V_iload_n (pc := 15) C dX9_cheapest_15 rfl 2 rfl ?_
    refine V_i2l (pc := 16) C dX9_cheapest_16 (sm_i (by omega)) ?_
    refine V_lconst (k := 1) (pc := 17) C dX9_cheapest_17 rfl ?_
    refine V_ldc2 (n := 999) (pc := 18) C dX9_cheapest_18 w4_199 rfl ?_
    refine cs_X9_123 (pc := 21) (rest := []) (wn := fun _ => [(o, .inr (9, fX9 q (up f 0 0))), (q 6, aI (d 0) 6 M6), (q 7, aI (d 0) 6 M7), (q 8, aI (d 0) 4 M8), (q 9, aI (d 0) 4 M9), (q 10, aI (d 1) 24 M10), (q 40, aI (d 0) 7707 M40), (q 41, aI (d 0) 6 M41)]) (sn := fun _ => [.int (iI (bI (1 ≤ g ∧ g ≤ 999)))]) C dX9_cheapest_21 (c_X9_in l D d g 1 999 (show -9223372036854775808 ≤ g ∧ g ≤ 9223372036854775807 by omega) (show -9223372036854775808 ≤ 1 ∧ 1 ≤ 9223372036854775807 by omega) (show -9223372036854775808 ≤ 999 ∧ 999 ≤ 9223372036854775807 by omega)) [] rfl rfl rfl rfl (Nat.le_of_ble_eq_true rfl) ⟨by omega, by omega⟩ ⟨Nat.zero_le _, Nat.zero_le _⟩ (fun _ => rfl) (fun _ => rfl) (fun _ => rfl) ?_
    intro _ _
    refine V_ifb_eq (pc := 24) 36 C dX9_cheapest_24 (by decide) (fun c24 => ?_) (fun c24 => ?_)
    · refine V_bipush (pc := 36) C dX9_cheapest_36 rfl ?_
      exact V_iret (pc := 38) C Z dX9_cheapest_38 (-2, M40, M41) (⟨by first | exact Or.inl ⟨by omega, rfl⟩ | exact Or.inr (Or.inl ⟨by omega, by omega, rfl⟩) | exact Or.inr (Or.inr ⟨by omega, by omega, chA_cut hP hM6 hM7 (hV c (by omega)) (by omega) (fc_chA hP hQ9 (by omega) hf9)⟩), by first | exact bG9 | exact hM40⟩) (ri (by rfl)) rfl
    · refine V_aload_n (pc := 27) C dX9_cheapest_27 rfl 0 rfl ?_
      refine V_iload_n (pc := 28) C dX9_cheapest_28 rfl 1 rfl ?_
      refine V_iload_n (pc := 29) C dX9_cheapest_29 rfl 2 rfl ?_
      refine cv_X9_218 (pc := 30) (rest := []) (wn := fun u => [(o, .inr (9, fX9 q (up f 0 0))), (q 6, aI (d 0) 6 M6), (q 7, aI (d 0) 6 M7), (q 8, aI (d 0) 4 M8), (q 9, aI (d 0) 4 M9), (q 10, aI (d 1) 24 M10), (q 40, aI (d 0) 7707 u.2.1), (q 41, aI (d 0) 6 u.2.2)]) (sn := fun u => [.int (iI u.1)]) C dX9_cheapest_30 (c_X9_findCheapest l D d o q (up f 0 0) M6 M7 M8 M9 M10 M40 M41 c g hM6 hM7 hM8 hM9 hM10 hM40 hP (show 0 ≤ c ∧ c < 4 by omega) (show 1 ≤ g ∧ g ≤ 999 by omega) hU) [0, 1, 2, 3, 4, 5, 6, 7] rfl rfl 0 rfl rfl rfl (Nat.le_of_ble_eq_true rfl) ⟨by omega, by omega⟩ ⟨Nat.zero_le _, Nat.zero_le _⟩ (fun u => rfl) (fun u => rfl) (fun u => rfl) ?_
      rintro ⟨b9, G9, E9⟩ hu
      obtain ⟨hf9, bG9, bb9⟩ := hu
      have hQ9 : bd (fun x => M10 (4 * x + c)) 0 1 := fun x => hM10 (4 * x + c)
      refine V_goto (pc := 33) 38 C dX9_cheapest_33 (by decide) ?_
      exact V_iret (pc := 38) C Z dX9_cheapest_38 (b9, G9, E9) (⟨by first | exact Or.inl ⟨by omega, rfl⟩ | exact Or.inr (Or.inl ⟨by omega, by omega, rfl⟩) | exact Or.inr (Or.inr ⟨by omega, by omega, chA_cut hP hM6 hM7 (hV c (by omega)) (by omega) (fc_chA hP hQ9 (by omega) hf9)⟩), by first | exact bG9 | exact hM40⟩) (ri (by rfl)) rfl
  · refine V_iconst (pc := 13) C dX9_cheapest_13 ?_
    exact V_iret (pc := 14) C Z dX9_cheapest_14 (-1, M40, M41) (⟨by first | exact Or.inl ⟨by omega, rfl⟩ | exact Or.inr (Or.inl ⟨by omega, by omega, rfl⟩) | exact Or.inr (Or.inr ⟨by omega, by omega, chA_cut hP hM6 hM7 (hV c (by omega)) (by omega) (fc_chA hP hQ9 (by omega) hf9)⟩), by first | exact bG9 | exact hM40⟩) (ri (by rfl)) rfl
set_option maxRecDepth 100000 in
set_option maxHeartbeats 4000000 in
theorem c_X9_cheapestBy (l : Launch) (D : va_G) (d : Nat → ClassId) (o : Nat) (q : Nat → Nat) (f : Nat → Int) (M6 : Int → Int) (M7 : Int → Int) (M8 : Int → Int) (M9 : Int → Int) (M10 : Int → Int) (M40 : Int → Int) (M41 : Int → Int) (c : Int) (g : Int) (x : Int) (hP : 0 ≤ f 4 ∧ f 4 ≤ 6) (hC : 0 ≤ f 5 ∧ f 5 ≤ 4) (hM6 : bd M6 0 99) (hM7 : bd M7 0 99) (hM8 : bd M8 0 99) (hM9 : bd M9 0 9999) (hM10 : bd M10 0 1) (hM40 : bd M40 0 100005) (hU : ∀ j : Int, 0 ≤ j ∧ j < f 4 → 1 ≤ M6 j) (hV : ∀ j : Int, 0 ≤ j ∧ j < f 5 → 1 ≤ M8 j) (sc : -2147483648 ≤ c ∧ c ≤ 2147483647) (sg : -2147483648 ≤ g ∧ g ≤ 2147483647) (sx : -2147483648 ≤ x ∧ x ≤ 2147483647) : CU l yX9_cheapestBy cX9_cheapestBy 4 (some .int) 3 84 D d [.ref o, .int (iI c), .int (iI g), .int (iI x)] [(o, .inr (9, fX9 q f)), (q 6, aI (d 0) 6 M6), (q 7, aI (d 0) 6 M7), (q 8, aI (d 0) 4 M8), (q 9, aI (d 0) 4 M9), (q 10, aI (d 1) 24 M10), (q 40, aI (d 0) 7707 M40), (q 41, aI (d 0) 6 M41)] (fun (u : Int × (Int → Int) × (Int → Int)) => ((¬ ((0 ≤ c ∧ c < f 5) ∧ 0 ≤ x ∧ x < f 4) ∧ u.1 = -1) ∨ (((0 ≤ c ∧ c < f 5) ∧ 0 ≤ x ∧ x < f 4) ∧ ¬ (1 ≤ g ∧ g ≤ 999) ∧ u.1 = -2) ∨ (((0 ≤ c ∧ c < f 5) ∧ 0 ≤ x ∧ x < f 4) ∧ (1 ≤ g ∧ g ≤ 999) ∧ chB M6 M7 (fun x => M10 (4 * x + c)) (M8 c) (f 4) g (min (M9 c) (g + 98)) x u.1)) ∧ bd u.2.1 0 100005) (fun (u : Int × (Int → Int) × (Int → Int)) => some (.int (iI (u.1)))) (fun (u : Int × (Int → Int) × (Int → Int)) => [(o, .inr (9, fX9 q (up f 0 0))), (q 6, aI (d 0) 6 M6), (q 7, aI (d 0) 6 M7), (q 8, aI (d 0) 4 M8), (q 9, aI (d 0) 4 M9), (q 10, aI (d 1) 24 M10), (q 40, aI (d 0) 7707 u.2.1), (q 41, aI (d 0) 6 u.2.2)]) := by
  refine CU.mk (own := RX9) (lv := [(0, .ref o), (1, .int (iI c)), (2, .int (iI g)), (3, .int (iI x))]) rfl (by decide) (Nat.le_of_ble_eq_true rfl) rfl ?_
  intro p9 e9 R9 s9 m9 args9 below9 meth9 c9 A9 Q9 hRf hRl C Z
  refine V_aload_n (pc := 0) C dX9_cheapestBy_0 rfl 0 rfl ?_
  refine V_iconst (pc := 1) C dX9_cheapestBy_1 ?_
  refine pf_X9_117 (ws' := [(o, .inr (9, fX9 q (up f 0 0))), (q 6, aI (d 0) 6 M6), (q 7, aI (d 0) 6 M7), (q 8, aI (d 0) 4 M8), (q 9, aI (d 0) 4 M9), (q 10, aI (d 1) 24 M10), (q 40, aI (d 0) 7707 M40), (q 41, aI (d 0) 6 M41)]) (pc := 2) C dX9_cheapestBy_2 0 rfl rfl ?_
  refine V_aload_n (pc := 5) C dX9_cheapestBy_5 rfl 0 rfl ?_
  refine V_iload_n (pc := 6) C dX9_cheapestBy_6 rfl 1 rfl ?_
  refine cv_X9_187 (pc := 7) (rest := []) (wn := fun _ => [(o, .inr (9, fX9 q (up f 0 0))), (q 6, aI (d 0) 6 M6), (q 7, aI (d 0) 6 M7), (q 8, aI (d 0) 4 M8), (q 9, aI (d 0) 4 M9), (q 10, aI (d 1) 24 M10), (q 40, aI (d 0) 7707 M40), (q 41, aI (d 0) 6 M41)]) (sn := fun _ => [.int (iI (bI (¬ (0 ≤ c ∧ c < (f 5)))))]) C dX9_cheapestBy_7 (c_X9_noCounter l D d o q (up f 0 0) c sc hC) [0] rfl rfl 0 rfl rfl rfl (Nat.le_of_ble_eq_true rfl) ⟨by omega, by omega⟩ ⟨Nat.zero_le _, Nat.zero_le _⟩ (fun _ => rfl) (fun _ => rfl) (fun _ => rfl) ?_
  intro _ _
  refine V_ifb_ne (pc := 10) 21 C dX9_cheapestBy_10 (by decide) (fun c10 => ?_) (fun c10 => ?_)
  · refine V_iconst (pc := 21) C dX9_cheapestBy_21 ?_
    exact V_iret (pc := 22) C Z dX9_cheapestBy_22 (-1, M40, M41) (⟨by first | exact Or.inl ⟨by omega, rfl⟩ | exact Or.inr (Or.inl ⟨by omega, by omega, rfl⟩) | exact Or.inr (Or.inr ⟨by omega, by omega, by rw [if_pos c46] at hB9; exact hB9⟩) | exact Or.inr (Or.inr ⟨by omega, by omega, by rw [if_neg c46] at hB9; exact hB9⟩), by first | exact bG9 | exact hM40⟩) (ri (by rfl)) rfl
  · refine V_aload_n (pc := 13) C dX9_cheapestBy_13 rfl 0 rfl ?_
    refine V_iload_n (pc := 14) C dX9_cheapestBy_14 rfl 3 rfl ?_
    refine cv_X9_180 (pc := 15) (rest := []) (wn := fun _ => [(o, .inr (9, fX9 q (up f 0 0))), (q 6, aI (d 0) 6 M6), (q 7, aI (d 0) 6 M7), (q 8, aI (d 0) 4 M8), (q 9, aI (d 0) 4 M9), (q 10, aI (d 1) 24 M10), (q 40, aI (d 0) 7707 M40), (q 41, aI (d 0) 6 M41)]) (sn := fun _ => [.int (iI (bI (¬ (0 ≤ x ∧ x < (f 4)))))]) C dX9_cheapestBy_15 (c_X9_noOne l D d o q (up f 0 0) x sx hP) [0] rfl rfl 0 rfl rfl rfl (Nat.le_of_ble_eq_true rfl) ⟨by omega, by omega⟩ ⟨Nat.zero_le _, Nat.zero_le _⟩ (fun _ => rfl) (fun _ => rfl) (fun _ => rfl) ?_
    intro _ _
    refine V_ifb_eq (pc := 18) 23 C dX9_cheapestBy_18 (by decide) (fun c18 => ?_) (fun c18 => ?_)
    · refine V_iload_n (pc := 23) C dX9_cheapestBy_23 rfl 2 rfl ?_
      refine V_i2l (pc := 24) C dX9_cheapestBy_24 (sm_i (by omega)) ?_
      refine V_lconst (k := 1) (pc := 25) C dX9_cheapestBy_25 rfl ?_
      refine V_ldc2 (n := 999) (pc := 26) C dX9_cheapestBy_26 w4_199 rfl ?_
      refine cs_X9_123 (pc := 29) (rest := []) (wn := fun _ => [(o, .inr (9, fX9 q (up f 0 0))), (q 6, aI (d 0) 6 M6), (q 7, aI (d 0) 6 M7), (q 8, aI (d 0) 4 M8), (q 9, aI (d 0) 4 M9), (q 10, aI (d 1) 24 M10), (q 40, aI (d 0) 7707 M40), (q 41, aI (d 0) 6 M41)]) (sn := fun _ => [.int (iI (bI (1 ≤ g ∧ g ≤ 999)))]) C dX9_cheapestBy_29 (c_X9_in l D d g 1 999 (show -9223372036854775808 ≤ g ∧ g ≤ 9223372036854775807 by omega) (show -9223372036854775808 ≤ 1 ∧ 1 ≤ 9223372036854775807 by omega) (show -9223372036854775808 ≤ 999 ∧ 999 ≤ 9223372036854775807 by omega)) [] rfl rfl rfl rfl (Nat.le_of_ble_eq_true rfl) ⟨by omega, by omega⟩ ⟨Nat.zero_le _, Nat.zero_le _⟩ (fun _ => rfl) (fun _ => rfl) (fun _ => rfl) ?_
      intro _ _
      refine V_ifb_ne (pc := 32) 38 C dX9_cheapestBy_32 (by decide) (fun c32 => ?_) (fun c32 => ?_)
      · refine V_aload_n (pc := 38) C dX9_cheapestBy_38 rfl 0 rfl ?_
        refine V_iload_n (pc := 39) C dX9_cheapestBy_39 rfl 1 rfl ?_
        refine V_iload_n (pc := 40) C dX9_cheapestBy_40 rfl 2 rfl ?_
        refine cv_X9_218 (pc := 41) (rest := []) (wn := fun u => [(o, .inr (9, fX9 q (up f 0 0))), (q 6, aI (d 0) 6 M6), (q 7, aI (d 0) 6 M7), (q 8, aI (d 0) 4 M8), (q 9, aI (d 0) 4 M9), (q 10, aI (d 1) 24 M10), (q 40, aI (d 0) 7707 u.2.1), (q 41, aI (d 0) 6 u.2.2)]) (sn := fun u => [.int (iI u.1)]) C dX9_cheapestBy_41 (c_X9_findCheapest l D d o q (up f 0 0) M6 M7 M8 M9 M10 M40 M41 c g hM6 hM7 hM8 hM9 hM10 hM40 hP (show 0 ≤ c ∧ c < 4 by omega) (show 1 ≤ g ∧ g ≤ 999 by omega) hU) [0, 1, 2, 3, 4, 5, 6, 7] rfl rfl 0 rfl rfl rfl (Nat.le_of_ble_eq_true rfl) ⟨by omega, by omega⟩ ⟨Nat.zero_le _, Nat.zero_le _⟩ (fun u => rfl) (fun u => rfl) (fun u => rfl) ?_
        rintro ⟨b9, G9, E9⟩ hu
        obtain ⟨hf9, bG9, bb9⟩ := hu
        have hQ9 : bd (fun x => M10 (4 * x + c)) 0 1 := fun x => hM10 (4 * x + c)
        have hB9 := chB_cut (x := x) hP hM6 hM7 (hV c (by omega)) (by omega) (fc_chB hP hQ9 (by omega) (hV c (by omega)) hf9)
        refine V_bipush (pc := 44) C dX9_cheapestBy_44 rfl ?_
        refine V_icmp_ne (pc := 46) 54 C dX9_cheapestBy_46 (by decide) (sm_i (by omega)) (sm_i (by decide)) (fun c46 => ?_) (fun c46 => ?_)
        · refine V_aload_n (pc := 54) C dX9_cheapestBy_54 rfl 0 rfl ?_
          refine gf_X9_105 (x := q 41) (pc := 55) C dX9_cheapestBy_55 0 rfl rfl ?_
          refine V_iload_n (pc := 58) C dX9_cheapestBy_58 rfl 3 rfl ?_
          refine V_iald (f := E9) (pc := 59) C dX9_cheapestBy_59 7 rfl (by omega) (by omega) (Nat.le_of_ble_eq_true rfl) ?_
          exact V_iret (pc := 60) C Z dX9_cheapestBy_60 (E9 x, G9, E9) (⟨by first | exact Or.inl ⟨by omega, rfl⟩ | exact Or.inr (Or.inl ⟨by omega, by omega, rfl⟩) | exact Or.inr (Or.inr ⟨by omega, by omega, by rw [if_pos c46] at hB9; exact hB9⟩) | exact Or.inr (Or.inr ⟨by omega, by omega, by rw [if_neg c46] at hB9; exact hB9⟩), by first | exact bG9 | exact hM40⟩) (ri (by rfl)) rfl
        · refine V_bipush (pc := 49) C dX9_cheapestBy_49 rfl ?_
          refine V_goto (pc := 51) 60 C dX9_cheapestBy_51 (by decide) ?_
          exact V_iret (pc := 60) C Z dX9_cheapestBy_60 (-9, G9, E9) (⟨by first | exact Or.inl ⟨by omega, rfl⟩ | exact Or.inr (Or.inl ⟨by omega, by omega, rfl⟩) | exact Or.inr (Or.inr ⟨by omega, by omega, by rw [if_pos c46] at hB9; exact hB9⟩) | exact Or.inr (Or.inr ⟨by omega, by omega, by rw [if_neg c46] at hB9; exact hB9⟩), by first | exact bG9 | exact hM40⟩) (ri (by rfl)) rfl
      · refine V_bipush (pc := 35) C dX9_cheapestBy_35 rfl ?_
        exact V_iret (pc := 37) C Z dX9_cheapestBy_37 (-2, M40, M41) (⟨by first | exact Or.inl ⟨by omega, rfl⟩ | exact Or.inr (Or.inl ⟨by omega, by omega, rfl⟩) | exact Or.inr (Or.inr ⟨by omega, by omega, by rw [if_pos c46] at hB9; exact hB9⟩) | exact Or.inr (Or.inr ⟨by omega, by omega, by rw [if_neg c46] at hB9; exact hB9⟩), by first | exact bG9 | exact hM40⟩) (ri (by rfl)) rfl
    · refine V_iconst (pc := 21) C dX9_cheapestBy_21 ?_
      exact V_iret (pc := 22) C Z dX9_cheapestBy_22 (-1, M40, M41) (⟨by first | exact Or.inl ⟨by omega, rfl⟩ | exact Or.inr (Or.inl ⟨by omega, by omega, rfl⟩) | exact Or.inr (Or.inr ⟨by omega, by omega, by rw [if_pos c46] at hB9; exact hB9⟩) | exact Or.inr (Or.inr ⟨by omega, by omega, by rw [if_neg c46] at hB9; exact hB9⟩), by first | exact bG9 | exact hM40⟩) (ri (by rfl)) rfl
