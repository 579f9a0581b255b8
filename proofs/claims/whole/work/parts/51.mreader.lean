set_option maxRecDepth 100000 in
set_option maxHeartbeats 4000000 in
theorem c_X9_figure (l : Launch) (D : va_G) (d : Nat → ClassId) (o : Nat) (q : Nat → Nat) (f : Nat → Int) (M1 : Int → Int) (a : Int) (hM1 : bd M1 0 255) (h2 : 0 ≤ f 2 ∧ f 2 ≤ 72) (h3 : 0 ≤ f 3 ∧ f 3 ≤ f 2) (ha : 0 ≤ a ∧ a ≤ 9) : CU l yX9_figure cX9_figure 2 (some .int) 1 25 D d [.ref o, .int (iI a)] [(o, .inr (9, fX9 q f)), (q 1, aI (d 0) 72 M1)] (fun (u : Int × Int) => u = fgP (f 2) M1 (f 3) a) (fun (u : Int × Int) => some (.int (iI (u.1)))) (fun (u : Int × Int) => [(o, .inr (9, fX9 q (up f 3 u.2))), (q 1, aI (d 0) 72 M1)]) := by
  refine CU.mk (own := RX9) (lv := [(0, .ref o), (1, .int (iI a))]) rfl (by decide) (Nat.le_of_ble_eq_true rfl) rfl ?_
  intro p9 e9 R9 s9 m9 args9 below9 meth9 c9 A9 Q9 hRf hRl C Z
  refine V_aload_n (pc := 0) C dX9_figure_0 rfl 0 rfl ?_
  refine gf_X9_135 (x := f 3) (pc := 1) C dX9_figure_1 0 rfl rfl ?_
  refine V_aload_n (pc := 4) C dX9_figure_4 rfl 0 rfl ?_
  refine gf_X9_132 (x := f 2) (pc := 5) C dX9_figure_5 0 rfl rfl ?_
  refine V_icmp_eq (pc := 8) 35 C dX9_figure_8 (by decide) (sm_i (by omega)) (sm_i (by omega)) (fun c8 => ?_) (fun c8 => ?_)
  · refine V_bipush (pc := 35) C dX9_figure_35 rfl ?_
    exact V_iret (pc := 37) C Z dX9_figure_37 (-9, f 3) (by unfold fgP; first | rw [if_pos (by omega)] | rw [if_neg (by omega), show f 3 + 1 - 1 = f 3 by omega]) (ri (by rfl)) (by first | rfl | rw [up_same rfl])
  · refine V_aload_n (pc := 11) C dX9_figure_11 rfl 0 rfl ?_
    refine gf_X9_7 (x := q 1) (pc := 12) C dX9_figure_12 0 rfl rfl ?_
    refine V_aload_n (pc := 15) C dX9_figure_15 rfl 0 rfl ?_
    refine gf_X9_135 (x := f 3) (pc := 16) C dX9_figure_16 0 rfl rfl ?_
    refine V_iald (f := M1) (pc := 19) C dX9_figure_19 1 rfl (by omega) (by omega) (Nat.le_of_ble_eq_true rfl) ?_
    have b19 := hM1 (f 3)
    refine V_bipush (pc := 20) C dX9_figure_20 rfl ?_
    refine V_isub (pc := 22) C dX9_figure_22 ?_
    refine V_i2l (pc := 23) C dX9_figure_23 (sm_i (by omega)) ?_
    refine V_iload_n (pc := 24) C dX9_figure_24 rfl 1 rfl ?_
    refine V_i2l (pc := 25) C dX9_figure_25 (sm_i (by omega)) ?_
    refine V_ldc2 (n := 9) (pc := 26) C dX9_figure_26 w4_120 rfl ?_
    refine cs_X9_123 (pc := 29) (rest := []) (wn := fun _ => [(o, .inr (9, fX9 q f)), (q 1, aI (d 0) 72 M1)]) (sn := fun _ => [.int (iI (bI (a ≤ ((M1 (f 3)) - 48) ∧ ((M1 (f 3)) - 48) ≤ 9)))]) C dX9_figure_29 (c_X9_in l D d ((M1 (f 3)) - 48) a 9 (show -9223372036854775808 ≤ ((M1 (f 3)) - 48) ∧ ((M1 (f 3)) - 48) ≤ 9223372036854775807 by omega) (show -9223372036854775808 ≤ a ∧ a ≤ 9223372036854775807 by omega) (show -9223372036854775808 ≤ 9 ∧ 9 ≤ 9223372036854775807 by omega)) [] rfl rfl rfl rfl (Nat.le_of_ble_eq_true rfl) ⟨by omega, by omega⟩ ⟨Nat.zero_le _, Nat.zero_le _⟩ (fun _ => rfl) (fun _ => rfl) (fun _ => rfl) ?_
    intro _ _
    refine V_ifb_ne (pc := 32) 38 C dX9_figure_32 (by decide) (fun c32 => ?_) (fun c32 => ?_)
    · refine V_aload_n (pc := 38) C dX9_figure_38 rfl 0 rfl ?_
      refine V_dup (pc := 39) C dX9_figure_39 rfl ?_
      refine gf_X9_135 (x := f 3) (pc := 40) C dX9_figure_40 0 rfl rfl ?_
      refine V_iconst (pc := 43) C dX9_figure_43 ?_
      refine V_iadd (pc := 44) C dX9_figure_44 ?_
      refine pf_X9_135 (ws' := [(o, .inr (9, fX9 q (up f 3 ((f 3) + 1)))), (q 1, aI (d 0) 72 M1)]) (pc := 45) C dX9_figure_45 0 rfl rfl ?_
      refine V_aload_n (pc := 48) C dX9_figure_48 rfl 0 rfl ?_
      refine gf_X9_7 (x := q 1) (pc := 49) C dX9_figure_49 0 rfl rfl ?_
      refine V_aload_n (pc := 52) C dX9_figure_52 rfl 0 rfl ?_
      refine gf_X9_135 (x := ((f 3) + 1)) (pc := 53) C dX9_figure_53 0 rfl rfl ?_
      refine V_iconst (pc := 56) C dX9_figure_56 ?_
      refine V_isub (pc := 57) C dX9_figure_57 ?_
      refine V_iald (f := M1) (pc := 58) C dX9_figure_58 1 rfl (by omega) (by omega) (Nat.le_of_ble_eq_true rfl) ?_
      have b58 := hM1 (((f 3) + 1) - 1)
      refine V_bipush (pc := 59) C dX9_figure_59 rfl ?_
      refine V_isub (pc := 61) C dX9_figure_61 ?_
      exact V_iret (pc := 62) C Z dX9_figure_62 ((M1 (((f 3) + 1) - 1)) - 48, (f 3) + 1) (by unfold fgP; first | rw [if_pos (by omega)] | rw [if_neg (by omega), show f 3 + 1 - 1 = f 3 by omega]) (ri (by rfl)) (by first | rfl | rw [up_same rfl])
    · refine V_bipush (pc := 35) C dX9_figure_35 rfl ?_
      exact V_iret (pc := 37) C Z dX9_figure_37 (-9, f 3) (by unfold fgP; first | rw [if_pos (by omega)] | rw [if_neg (by omega), show f 3 + 1 - 1 = f 3 by omega]) (ri (by rfl)) (by first | rfl | rw [up_same rfl])
set_option maxRecDepth 100000 in
set_option maxHeartbeats 4000000 in
theorem c_X9_two (l : Launch) (D : va_G) (d : Nat → ClassId) (o : Nat) (q : Nat → Nat) (f : Nat → Int) (M1 : Int → Int) (a : Int) (hM1 : bd M1 0 255) (h2 : 0 ≤ f 2 ∧ f 2 ≤ 72) (h3 : 0 ≤ f 3 ∧ f 3 ≤ f 2) (ha : 0 ≤ a ∧ a ≤ 1) : CU l yX9_two cX9_two 4 (some .int) 2 46 D d [.ref o, .int (iI a)] [(o, .inr (9, fX9 q f)), (q 1, aI (d 0) 72 M1)] (fun (u : Int × Int) => u = twP (f 2) M1 (f 3) a) (fun (u : Int × Int) => some (.int (iI (u.1)))) (fun (u : Int × Int) => [(o, .inr (9, fX9 q (up f 3 u.2))), (q 1, aI (d 0) 72 M1)]) := by
  refine CU.mk (own := RX9) (lv := [(0, .ref o), (1, .int (iI a))]) rfl (by decide) (Nat.le_of_ble_eq_true rfl) rfl ?_
  intro p9 e9 R9 s9 m9 args9 below9 meth9 c9 A9 Q9 hRf hRl C Z
  refine V_aload_n (pc := 0) C dX9_two_0 rfl 0 rfl ?_
  refine V_iconst (pc := 1) C dX9_two_1 ?_
  refine cv_X9_140 (pc := 2) (rest := []) (wn := fun u => [(o, .inr (9, fX9 q (up f 3 u.2))), (q 1, aI (d 0) 72 M1)]) (sn := fun u => [.int (iI u.1)]) C dX9_two_2 (c_X9_figure l D d o q f M1 0 hM1 h2 h3 (show 0 ≤ 0 ∧ 0 ≤ 9 by omega)) [0, 1] rfl rfl 0 rfl rfl rfl (Nat.le_of_ble_eq_true rfl) ⟨by omega, by omega⟩ ⟨Nat.zero_le _, Nat.zero_le _⟩ (fun u => rfl) (fun u => rfl) (fun u => rfl) ?_
  rintro ⟨v1, p1⟩ g1
  have g1 : (v1, p1) = fgP (f 2) M1 (f 3) _ := g1
  have b901 := fgP_e g1 (by omega) (by omega)
  refine V_istore_n (lv' := [(2, .int (iI v1)), (0, .ref o), (1, .int (iI a))]) (pc := 5) C dX9_two_5 rfl (by decide) rfl ?_
  refine V_iload_n (pc := 6) C dX9_two_6 rfl 0 rfl ?_
  refine V_bipush (pc := 7) C dX9_two_7 rfl ?_
  refine V_icmp_ne (pc := 9) 17 C dX9_two_9 (by decide) (sm_i (by omega)) (sm_i (by decide)) (fun c9 => ?_) (fun c9 => ?_)
  · refine V_aload_n (pc := 17) C dX9_two_17 rfl 1 rfl ?_
    refine V_iload_n (pc := 18) C dX9_two_18 rfl 0 rfl ?_
    refine V_if_ne (pc := 19) 26 C dX9_two_19 (by decide) (sm_i (by omega)) (fun c19 => ?_) (fun c19 => ?_)
    · refine V_iconst (pc := 26) C dX9_two_26 ?_
      refine cv_X9_140 (pc := 27) (rest := []) (wn := fun u => [(o, .inr (9, fX9 q (up (up f 3 p1) 3 u.2))), (q 1, aI (d 0) 72 M1)]) (sn := fun u => [.int (iI u.1)]) C dX9_two_27 (c_X9_figure l D d o q (up f 3 p1) M1 0 hM1 h2 (show 0 ≤ p1 ∧ p1 ≤ (f 2) by omega) (show 0 ≤ 0 ∧ 0 ≤ 9 by omega)) [0, 1] rfl rfl 0 rfl rfl rfl (Nat.le_of_ble_eq_true rfl) ⟨by omega, by omega⟩ ⟨Nat.zero_le _, Nat.zero_le _⟩ (fun u => rfl) (fun u => rfl) (fun u => rfl) ?_
      rintro ⟨v2, p2⟩ g2
      have g2 : (v2, p2) = fgP (f 2) M1 (p1) _ := g2
      have b902 := fgP_e g2 (by omega) (by omega)
      refine V_istore_n (lv' := [(3, .int (iI v2)), (2, .int (iI v1)), (0, .ref o), (1, .int (iI a))]) (pc := 30) C dX9_two_30 rfl (by decide) rfl ?_
      refine V_iload_n (pc := 31) C dX9_two_31 rfl 0 rfl ?_
      refine V_bipush (pc := 32) C dX9_two_32 rfl ?_
      refine V_icmp_ne (pc := 34) 42 C dX9_two_34 (by decide) (sm_i (by omega)) (sm_i (by decide)) (fun c34 => ?_) (fun c34 => ?_)
      · refine V_bipush (pc := 42) C dX9_two_42 rfl ?_
        refine V_iload_n (pc := 44) C dX9_two_44 rfl 1 rfl ?_
        refine V_imul (pc := 45) C dX9_two_45 ?_
        refine V_iload_n (pc := 46) C dX9_two_46 rfl 0 rfl ?_
        refine V_iadd (pc := 47) C dX9_two_47 ?_
        exact V_iret (pc := 48) C Z dX9_two_48 ((10 * v1) + v2, p2) (by first | exact (twP_1 (by rw [← g1, c9])).symm | exact (twP_2 g1.symm (by omega) (by first | rw [if_pos (by omega), ← g2, c34] | rw [if_neg (by omega), ← g2, c34])).symm | exact (twP_3 g1.symm (by omega) (by first | rw [if_pos (by omega), ← g2] | rw [if_neg (by omega), ← g2]) (by omega)).symm) (ri (by rfl)) (by first | rfl | rw [up_same rfl])
      · refine V_bipush (pc := 37) C dX9_two_37 rfl ?_
        refine V_goto (pc := 39) 48 C dX9_two_39 (by decide) ?_
        exact V_iret (pc := 48) C Z dX9_two_48 (-9, p2) (by first | exact (twP_1 (by rw [← g1, c9])).symm | exact (twP_2 g1.symm (by omega) (by first | rw [if_pos (by omega), ← g2, c34] | rw [if_neg (by omega), ← g2, c34])).symm | exact (twP_3 g1.symm (by omega) (by first | rw [if_pos (by omega), ← g2] | rw [if_neg (by omega), ← g2]) (by omega)).symm) (ri (by rfl)) (by first | rfl | rw [up_same rfl])
    · refine V_iload_n (pc := 22) C dX9_two_22 rfl 2 rfl ?_
      refine V_goto (pc := 23) 27 C dX9_two_23 (by decide) ?_
      refine cv_X9_140 (pc := 27) (rest := []) (wn := fun u => [(o, .inr (9, fX9 q (up (up f 3 p1) 3 u.2))), (q 1, aI (d 0) 72 M1)]) (sn := fun u => [.int (iI u.1)]) C dX9_two_27 (c_X9_figure l D d o q (up f 3 p1) M1 a hM1 h2 (show 0 ≤ p1 ∧ p1 ≤ (f 2) by omega) (show 0 ≤ a ∧ a ≤ 9 by omega)) [0, 1] rfl rfl 0 rfl rfl rfl (Nat.le_of_ble_eq_true rfl) ⟨by omega, by omega⟩ ⟨Nat.zero_le _, Nat.zero_le _⟩ (fun u => rfl) (fun u => rfl) (fun u => rfl) ?_
      rintro ⟨v2, p2⟩ g2
      have g2 : (v2, p2) = fgP (f 2) M1 (p1) _ := g2
      have b902 := fgP_e g2 (by omega) (by omega)
      refine V_istore_n (lv' := [(3, .int (iI v2)), (2, .int (iI v1)), (0, .ref o), (1, .int (iI a))]) (pc := 30) C dX9_two_30 rfl (by decide) rfl ?_
      refine V_iload_n (pc := 31) C dX9_two_31 rfl 0 rfl ?_
      refine V_bipush (pc := 32) C dX9_two_32 rfl ?_
      refine V_icmp_ne (pc := 34) 42 C dX9_two_34 (by decide) (sm_i (by omega)) (sm_i (by decide)) (fun c34 => ?_) (fun c34 => ?_)
      · refine V_bipush (pc := 42) C dX9_two_42 rfl ?_
        refine V_iload_n (pc := 44) C dX9_two_44 rfl 1 rfl ?_
        refine V_imul (pc := 45) C dX9_two_45 ?_
        refine V_iload_n (pc := 46) C dX9_two_46 rfl 0 rfl ?_
        refine V_iadd (pc := 47) C dX9_two_47 ?_
        exact V_iret (pc := 48) C Z dX9_two_48 ((10 * v1) + v2, p2) (by first | exact (twP_1 (by rw [← g1, c9])).symm | exact (twP_2 g1.symm (by omega) (by first | rw [if_pos (by omega), ← g2, c34] | rw [if_neg (by omega), ← g2, c34])).symm | exact (twP_3 g1.symm (by omega) (by first | rw [if_pos (by omega), ← g2] | rw [if_neg (by omega), ← g2]) (by omega)).symm) (ri (by rfl)) (by first | rfl | rw [up_same rfl])
      · refine V_bipush (pc := 37) C dX9_two_37 rfl ?_
        refine V_goto (pc := 39) 48 C dX9_two_39 (by decide) ?_
        exact V_iret (pc := 48) C Z dX9_two_48 (-9, p2) (by first | exact (twP_1 (by rw [← g1, c9])).symm | exact (twP_2 g1.symm (by omega) (by first | rw [if_pos (by omega), ← g2, c34] | rw [if_neg (by omega), ← g2, c34])).symm | exact (twP_3 g1.symm (by omega) (by first | rw [if_pos (by omega), ← g2] | rw [if_neg (by omega), ← g2]) (by omega)).symm) (ri (by rfl)) (by first | rfl | rw [up_same rfl])
  · refine V_bipush (pc := 12) C dX9_two_12 rfl ?_
    refine V_goto (pc := 14) 30 C dX9_two_14 (by decide) ?_
    refine V_istore_n (lv' := [(3, .int (iI (-9))), (2, .int (iI v1)), (0, .ref o), (1, .int (iI a))]) (pc := 30) C dX9_two_30 rfl (by decide) rfl ?_
    refine V_iload_n (pc := 31) C dX9_two_31 rfl 0 rfl ?_
    refine V_bipush (pc := 32) C dX9_two_32 rfl ?_
    refine V_icmp_ne (pc := 34) 42 C dX9_two_34 (by decide) (sm_i (by decide)) (sm_i (by decide)) (fun c34 => ?_) (fun c34 => ?_)
    · exact absurd c34 (by decide)
    · refine V_bipush (pc := 37) C dX9_two_37 rfl ?_
      refine V_goto (pc := 39) 48 C dX9_two_39 (by decide) ?_
      exact V_iret (pc := 48) C Z dX9_two_48 (-9, p1) (by first | exact (twP_1 (by rw [← g1, c9])).symm | exact (twP_2 g1.symm (by omega) (by first | rw [if_pos (by omega), ← g2, c34] | rw [if_neg (by omega), ← g2, c34])).symm | exact (twP_3 g1.symm (by omega) (by first | rw [if_pos (by omega), ← g2] | rw [if_neg (by omega), ← g2]) (by omega)).symm) (ri (by rfl)) (by first | rfl | rw [up_same rfl])
set_option maxRecDepth 100000 in
set_option maxHeartbeats 4000000 in
theorem c_X9_readPerson (l : Launch) (D : va_G) (d : Nat → ClassId) (o : Nat) (q : Nat → Nat) (f : Nat → Int) (M1 : Int → Int) (M16 : Int → Int) (M17 : Int → Int) (hM1 : bd M1 0 255) (h2 : 0 ≤ f 2 ∧ f 2 ≤ 72) (h3 : 0 ≤ f 3 ∧ f 3 ≤ f 2) (h14 : 0 ≤ f 14 ∧ f 14 < 6) : CU l yX9_readPerson cX9_readPerson 3 (some .boolean) 3 69 D d [.ref o] [(o, .inr (9, fX9 q f)), (q 1, aI (d 0) 72 M1), (q 16, aI (d 0) 6 M16), (q 17, aI (d 0) 6 M17)] (fun (u : Int × Int × Int × (Int → Int) × (Int → Int)) => u = mdPerson (f 2) M1 (f 3) (f 14) M16 M17) (fun (u : Int × Int × Int × (Int → Int) × (Int → Int)) => some (.int (iI (u.1)))) (fun (u : Int × Int × Int × (Int → Int) × (Int → Int)) => [(o, .inr (9, fX9 q (up (up f 3 u.2.1) 14 u.2.2.1))), (q 1, aI (d 0) 72 M1), (q 16, aI (d 0) 6 u.2.2.2.1), (q 17, aI (d 0) 6 u.2.2.2.2)]) := by
  refine CU.mk (own := RX9) (lv := [(0, .ref o)]) rfl (by decide) (Nat.le_of_ble_eq_true rfl) rfl ?_
  intro p9 e9 R9 s9 m9 args9 below9 meth9 c9 A9 Q9 hRf hRl C Z
  refine V_aload_n (pc := 0) C dX9_readPerson_0 rfl 0 rfl ?_
  refine V_iconst (pc := 1) C dX9_readPerson_1 ?_
  refine cv_X9_144 (pc := 2) (rest := []) (wn := fun u => [(o, .inr (9, fX9 q (up f 3 u.2))), (q 1, aI (d 0) 72 M1), (q 16, aI (d 0) 6 M16), (q 17, aI (d 0) 6 M17)]) (sn := fun u => [.int (iI u.1)]) C dX9_readPerson_2 (c_X9_two l D d o q f M1 1 hM1 h2 h3 (show 0 ≤ 1 ∧ 1 ≤ 1 by omega)) [0, 1] rfl rfl 0 rfl rfl rfl (Nat.le_of_ble_eq_true rfl) ⟨by omega, by omega⟩ ⟨Nat.zero_le _, Nat.zero_le _⟩ (fun u => rfl) (fun u => rfl) (fun u => rfl) ?_
  rintro ⟨v1, p1⟩ g1
  have g1 : (v1, p1) = twP (f 2) M1 (f 3) _ := g1
  have b901 := twP_e g1 (by omega) (by omega)
  refine V_istore_n (lv' := [(1, .int (iI v1)), (0, .ref o)]) (pc := 5) C dX9_readPerson_5 rfl (by decide) rfl ?_
  refine V_iload_n (pc := 6) C dX9_readPerson_6 rfl 0 rfl ?_
  refine V_bipush (pc := 7) C dX9_readPerson_7 rfl ?_
  refine V_icmp_ne (pc := 9) 17 C dX9_readPerson_9 (by decide) (sm_i (by omega)) (sm_i (by decide)) (fun c9 => ?_) (fun c9 => ?_)
  · refine V_aload_n (pc := 17) C dX9_readPerson_17 rfl 1 rfl ?_
    refine V_iconst (pc := 18) C dX9_readPerson_18 ?_
    refine cv_X9_144 (pc := 19) (rest := []) (wn := fun u => [(o, .inr (9, fX9 q (up (up f 3 p1) 3 u.2))), (q 1, aI (d 0) 72 M1), (q 16, aI (d 0) 6 M16), (q 17, aI (d 0) 6 M17)]) (sn := fun u => [.int (iI u.1)]) C dX9_readPerson_19 (c_X9_two l D d o q (up f 3 p1) M1 0 hM1 h2 (show 0 ≤ p1 ∧ p1 ≤ (f 2) by omega) (show 0 ≤ 0 ∧ 0 ≤ 1 by omega)) [0, 1] rfl rfl 0 rfl rfl rfl (Nat.le_of_ble_eq_true rfl) ⟨by omega, by omega⟩ ⟨Nat.zero_le _, Nat.zero_le _⟩ (fun u => rfl) (fun u => rfl) (fun u => rfl) ?_
    rintro ⟨v2, p2⟩ g2
    have g2 : (v2, p2) = twP (f 2) M1 (p1) _ := g2
    have b902 := twP_e g2 (by omega) (by omega)
    refine V_istore_n (lv' := [(2, .int (iI v2)), (1, .int (iI v1)), (0, .ref o)]) (pc := 22) C dX9_readPerson_22 rfl (by decide) rfl ?_
    refine V_iload_n (pc := 23) C dX9_readPerson_23 rfl 0 rfl ?_
    refine V_bipush (pc := 24) C dX9_readPerson_24 rfl ?_
    refine V_icmp_ne (pc := 26) 31 C dX9_readPerson_26 (by decide) (sm_i (by omega)) (sm_i (by decide)) (fun c26 => ?_) (fun c26 => ?_)
    · refine V_aload_n (pc := 31) C dX9_readPerson_31 rfl 2 rfl ?_
      refine gf_X9_39 (x := q 16) (pc := 32) C dX9_readPerson_32 0 rfl rfl ?_
      refine V_aload_n (pc := 35) C dX9_readPerson_35 rfl 2 rfl ?_
      refine gf_X9_147 (x := f 14) (pc := 36) C dX9_readPerson_36 0 rfl rfl ?_
      refine V_iload_n (pc := 39) C dX9_readPerson_39 rfl 1 rfl ?_
      refine V_iast (f := M16) (ws' := [(o, .inr (9, fX9 q (up (up f 3 p1) 3 p2))), (q 1, aI (d 0) 72 M1), (q 16, aI (d 0) 6 (uI M16 (f 14) v1)), (q 17, aI (d 0) 6 M17)]) (pc := 40) C dX9_readPerson_40 2 rfl (by omega) (by omega) (Nat.le_of_ble_eq_true rfl) rfl ?_
      refine V_aload_n (pc := 41) C dX9_readPerson_41 rfl 2 rfl ?_
      refine gf_X9_42 (x := q 17) (pc := 42) C dX9_readPerson_42 0 rfl rfl ?_
      refine V_aload_n (pc := 45) C dX9_readPerson_45 rfl 2 rfl ?_
      refine gf_X9_147 (x := f 14) (pc := 46) C dX9_readPerson_46 0 rfl rfl ?_
      refine V_iload_n (pc := 49) C dX9_readPerson_49 rfl 0 rfl ?_
      refine V_iast (f := M17) (ws' := [(o, .inr (9, fX9 q (up (up f 3 p1) 3 p2))), (q 1, aI (d 0) 72 M1), (q 16, aI (d 0) 6 (uI M16 (f 14) v1)), (q 17, aI (d 0) 6 (uI M17 (f 14) v2))]) (pc := 50) C dX9_readPerson_50 3 rfl (by omega) (by omega) (Nat.le_of_ble_eq_true rfl) rfl ?_
      refine V_aload_n (pc := 51) C dX9_readPerson_51 rfl 2 rfl ?_
      refine V_dup (pc := 52) C dX9_readPerson_52 rfl ?_
      refine gf_X9_147 (x := f 14) (pc := 53) C dX9_readPerson_53 0 rfl rfl ?_
      refine V_iconst (pc := 56) C dX9_readPerson_56 ?_
      refine V_iadd (pc := 57) C dX9_readPerson_57 ?_
      refine pf_X9_147 (ws' := [(o, .inr (9, fX9 q (up (up (up f 3 p1) 3 p2) 14 ((f 14) + 1)))), (q 1, aI (d 0) 72 M1), (q 16, aI (d 0) 6 (uI M16 (f 14) v1)), (q 17, aI (d 0) 6 (uI M17 (f 14) v2))]) (pc := 58) C dX9_readPerson_58 0 rfl rfl ?_
      refine V_iconst (pc := 61) C dX9_readPerson_61 ?_
      exact V_zret (pc := 62) C Z dX9_readPerson_62 (Or.inr rfl) (1, p2, (f 14) + 1, uI M16 (f 14) v1, uI M17 (f 14) v2) (by first | exact mdP1 g1 (by omega) | exact mdP2 g1 (by omega) g2 (by omega) | exact mdP3 g1 (by omega) g2 (by omega)) (ri (by rfl)) (by first | rfl | rw [up_same rfl])
    · refine V_iconst (pc := 29) C dX9_readPerson_29 ?_
      exact V_zret (pc := 30) C Z dX9_readPerson_30 (Or.inl rfl) (0, p2, f 14, M16, M17) (by first | exact mdP1 g1 (by omega) | exact mdP2 g1 (by omega) g2 (by omega) | exact mdP3 g1 (by omega) g2 (by omega)) (ri (by rfl)) (by first | rfl | rw [up_same rfl])
  · refine V_bipush (pc := 12) C dX9_readPerson_12 rfl ?_
    refine V_goto (pc := 14) 22 C dX9_readPerson_14 (by decide) ?_
    refine V_istore_n (lv' := [(2, .int (iI (-9))), (1, .int (iI v1)), (0, .ref o)]) (pc := 22) C dX9_readPerson_22 rfl (by decide) rfl ?_
    refine V_iload_n (pc := 23) C dX9_readPerson_23 rfl 0 rfl ?_
    refine V_bipush (pc := 24) C dX9_readPerson_24 rfl ?_
    refine V_icmp_ne (pc := 26) 31 C dX9_readPerson_26 (by decide) (sm_i (by decide)) (sm_i (by decide)) (fun c26 => ?_) (fun c26 => ?_)
    · exact absurd c26 (by decide)
    · refine V_iconst (pc := 29) C dX9_readPerson_29 ?_
      exact V_zret (pc := 30) C Z dX9_readPerson_30 (Or.inl rfl) (0, p1, f 14, M16, M17) (by first | exact mdP1 g1 (by omega) | exact mdP2 g1 (by omega) g2 (by omega) | exact mdP3 g1 (by omega) g2 (by omega)) (ri (by rfl)) (by first | rfl | rw [up_same rfl])
set_option maxRecDepth 100000 in
set_option maxHeartbeats 4000000 in
theorem c_X9_readCounter (l : Launch) (D : va_G) (d : Nat → ClassId) (o : Nat) (q : Nat → Nat) (f : Nat → Int) (M1 : Int → Int) (M18 : Int → Int) (M19 : Int → Int) (hM1 : bd M1 0 255) (h2 : 0 ≤ f 2 ∧ f 2 ≤ 72) (h3 : 0 ≤ f 3 ∧ f 3 ≤ f 2) (h15 : 0 ≤ f 15 ∧ f 15 < 4) : CU l yX9_readCounter cX9_readCounter 4 (some .boolean) 3 69 D d [.ref o] [(o, .inr (9, fX9 q f)), (q 1, aI (d 0) 72 M1), (q 18, aI (d 0) 4 M18), (q 19, aI (d 0) 4 M19)] (fun (u : Int × Int × Int × (Int → Int) × (Int → Int)) => u = mdCounter (f 2) M1 (f 3) (f 15) M18 M19) (fun (u : Int × Int × Int × (Int → Int) × (Int → Int)) => some (.int (iI (u.1)))) (fun (u : Int × Int × Int × (Int → Int) × (Int → Int)) => [(o, .inr (9, fX9 q (up (up f 3 u.2.1) 15 u.2.2.1))), (q 1, aI (d 0) 72 M1), (q 18, aI (d 0) 4 u.2.2.2.1), (q 19, aI (d 0) 4 u.2.2.2.2)]) := by
  refine CU.mk (own := RX9) (lv := [(0, .ref o)]) rfl (by decide) (Nat.le_of_ble_eq_true rfl) rfl ?_
  intro p9 e9 R9 s9 m9 args9 below9 meth9 c9 A9 Q9 hRf hRl C Z
  refine V_aload_n (pc := 0) C dX9_readCounter_0 rfl 0 rfl ?_
  refine V_iconst (pc := 1) C dX9_readCounter_1 ?_
  refine cv_X9_144 (pc := 2) (rest := []) (wn := fun u => [(o, .inr (9, fX9 q (up f 3 u.2))), (q 1, aI (d 0) 72 M1), (q 18, aI (d 0) 4 M18), (q 19, aI (d 0) 4 M19)]) (sn := fun u => [.int (iI u.1)]) C dX9_readCounter_2 (c_X9_two l D d o q f M1 1 hM1 h2 h3 (show 0 ≤ 1 ∧ 1 ≤ 1 by omega)) [0, 1] rfl rfl 0 rfl rfl rfl (Nat.le_of_ble_eq_true rfl) ⟨by omega, by omega⟩ ⟨Nat.zero_le _, Nat.zero_le _⟩ (fun u => rfl) (fun u => rfl) (fun u => rfl) ?_
  rintro ⟨v1, p1⟩ g1
  have g1 : (v1, p1) = twP (f 2) M1 (f 3) _ := g1
  have b901 := twP_e g1 (by omega) (by omega)
  refine V_istore_n (lv' := [(1, .int (iI v1)), (0, .ref o)]) (pc := 5) C dX9_readCounter_5 rfl (by decide) rfl ?_
  refine V_iload_n (pc := 6) C dX9_readCounter_6 rfl 0 rfl ?_
  refine V_bipush (pc := 7) C dX9_readCounter_7 rfl ?_
  refine V_icmp_ne (pc := 9) 17 C dX9_readCounter_9 (by decide) (sm_i (by omega)) (sm_i (by decide)) (fun c9 => ?_) (fun c9 => ?_)
  · refine V_aload_n (pc := 17) C dX9_readCounter_17 rfl 1 rfl ?_
    refine V_iconst (pc := 18) C dX9_readCounter_18 ?_
    refine cv_X9_144 (pc := 19) (rest := []) (wn := fun u => [(o, .inr (9, fX9 q (up (up f 3 p1) 3 u.2))), (q 1, aI (d 0) 72 M1), (q 18, aI (d 0) 4 M18), (q 19, aI (d 0) 4 M19)]) (sn := fun u => [.int (iI u.1)]) C dX9_readCounter_19 (c_X9_two l D d o q (up f 3 p1) M1 0 hM1 h2 (show 0 ≤ p1 ∧ p1 ≤ (f 2) by omega) (show 0 ≤ 0 ∧ 0 ≤ 1 by omega)) [0, 1] rfl rfl 0 rfl rfl rfl (Nat.le_of_ble_eq_true rfl) ⟨by omega, by omega⟩ ⟨Nat.zero_le _, Nat.zero_le _⟩ (fun u => rfl) (fun u => rfl) (fun u => rfl) ?_
    rintro ⟨v2, p2⟩ g2
    have g2 : (v2, p2) = twP (f 2) M1 (p1) _ := g2
    have b902 := twP_e g2 (by omega) (by omega)
    refine V_istore_n (lv' := [(2, .int (iI v2)), (1, .int (iI v1)), (0, .ref o)]) (pc := 22) C dX9_readCounter_22 rfl (by decide) rfl ?_
    refine V_iload_n (pc := 23) C dX9_readCounter_23 rfl 0 rfl ?_
    refine V_bipush (pc := 24) C dX9_readCounter_24 rfl ?_
    refine V_icmp_ne (pc := 26) 34 C dX9_readCounter_26 (by decide) (sm_i (by omega)) (sm_i (by decide)) (fun c26 => ?_) (fun c26 => ?_)
    · refine V_aload_n (pc := 34) C dX9_readCounter_34 rfl 2 rfl ?_
      refine V_iconst (pc := 35) C dX9_readCounter_35 ?_
      refine cv_X9_144 (pc := 36) (rest := []) (wn := fun u => [(o, .inr (9, fX9 q (up (up (up f 3 p1) 3 p2) 3 u.2))), (q 1, aI (d 0) 72 M1), (q 18, aI (d 0) 4 M18), (q 19, aI (d 0) 4 M19)]) (sn := fun u => [.int (iI u.1)]) C dX9_readCounter_36 (c_X9_two l D d o q (up (up f 3 p1) 3 p2) M1 0 hM1 h2 (show 0 ≤ p2 ∧ p2 ≤ (f 2) by omega) (show 0 ≤ 0 ∧ 0 ≤ 1 by omega)) [0, 1] rfl rfl 0 rfl rfl rfl (Nat.le_of_ble_eq_true rfl) ⟨by omega, by omega⟩ ⟨Nat.zero_le _, Nat.zero_le _⟩ (fun u => rfl) (fun u => rfl) (fun u => rfl) ?_
      rintro ⟨v3, p3⟩ g3
      have g3 : (v3, p3) = twP (f 2) M1 (p2) _ := g3
      have b903 := twP_e g3 (by omega) (by omega)
      refine V_istore_n (lv' := [(3, .int (iI v3)), (2, .int (iI v2)), (1, .int (iI v1)), (0, .ref o)]) (pc := 39) C dX9_readCounter_39 rfl (by decide) rfl ?_
      refine V_iload_n (pc := 40) C dX9_readCounter_40 rfl 0 rfl ?_
      refine V_bipush (pc := 41) C dX9_readCounter_41 rfl ?_
      refine V_icmp_ne (pc := 43) 48 C dX9_readCounter_43 (by decide) (sm_i (by omega)) (sm_i (by decide)) (fun c43 => ?_) (fun c43 => ?_)
      · refine V_aload_n (pc := 48) C dX9_readCounter_48 rfl 3 rfl ?_
        refine gf_X9_45 (x := q 18) (pc := 49) C dX9_readCounter_49 0 rfl rfl ?_
        refine V_aload_n (pc := 52) C dX9_readCounter_52 rfl 3 rfl ?_
        refine gf_X9_150 (x := f 15) (pc := 53) C dX9_readCounter_53 0 rfl rfl ?_
        refine V_iload_n (pc := 56) C dX9_readCounter_56 rfl 2 rfl ?_
        refine V_iast (f := M18) (ws' := [(o, .inr (9, fX9 q (up (up (up f 3 p1) 3 p2) 3 p3))), (q 1, aI (d 0) 72 M1), (q 18, aI (d 0) 4 (uI M18 (f 15) v1)), (q 19, aI (d 0) 4 M19)]) (pc := 57) C dX9_readCounter_57 2 rfl (by omega) (by omega) (Nat.le_of_ble_eq_true rfl) rfl ?_
        refine V_aload_n (pc := 58) C dX9_readCounter_58 rfl 3 rfl ?_
        refine gf_X9_48 (x := q 19) (pc := 59) C dX9_readCounter_59 0 rfl rfl ?_
        refine V_aload_n (pc := 62) C dX9_readCounter_62 rfl 3 rfl ?_
        refine gf_X9_150 (x := f 15) (pc := 63) C dX9_readCounter_63 0 rfl rfl ?_
        refine V_bipush (pc := 66) C dX9_readCounter_66 rfl ?_
        refine V_iload_n (pc := 68) C dX9_readCounter_68 rfl 1 rfl ?_
        refine V_imul (pc := 69) C dX9_readCounter_69 ?_
        refine V_iload_n (pc := 70) C dX9_readCounter_70 rfl 0 rfl ?_
        refine V_iadd (pc := 71) C dX9_readCounter_71 ?_
        refine V_iast (f := M19) (ws' := [(o, .inr (9, fX9 q (up (up (up f 3 p1) 3 p2) 3 p3))), (q 1, aI (d 0) 72 M1), (q 18, aI (d 0) 4 (uI M18 (f 15) v1)), (q 19, aI (d 0) 4 (uI M19 (f 15) ((100 * v2) + v3)))]) (pc := 72) C dX9_readCounter_72 3 rfl (by omega) (by omega) (Nat.le_of_ble_eq_true rfl) rfl ?_
        refine V_aload_n (pc := 73) C dX9_readCounter_73 rfl 3 rfl ?_
        refine V_dup (pc := 74) C dX9_readCounter_74 rfl ?_
        refine gf_X9_150 (x := f 15) (pc := 75) C dX9_readCounter_75 0 rfl rfl ?_
        refine V_iconst (pc := 78) C dX9_readCounter_78 ?_
        refine V_iadd (pc := 79) C dX9_readCounter_79 ?_
        refine pf_X9_150 (ws' := [(o, .inr (9, fX9 q (up (up (up (up f 3 p1) 3 p2) 3 p3) 15 ((f 15) + 1)))), (q 1, aI (d 0) 72 M1), (q 18, aI (d 0) 4 (uI M18 (f 15) v1)), (q 19, aI (d 0) 4 (uI M19 (f 15) ((100 * v2) + v3)))]) (pc := 80) C dX9_readCounter_80 0 rfl rfl ?_
        refine V_iconst (pc := 83) C dX9_readCounter_83 ?_
        exact V_zret (pc := 84) C Z dX9_readCounter_84 (Or.inr rfl) (1, p3, (f 15) + 1, uI M18 (f 15) v1, uI M19 (f 15) ((100 * v2) + v3)) (by first | exact mdC1 g1 (by omega) | exact mdC2 g1 (by omega) g2 (by omega) | exact mdC3 g1 (by omega) g2 (by omega) g3 (by omega) | exact mdC4 g1 (by omega) g2 (by omega) g3 (by omega)) (ri (by rfl)) (by first | rfl | rw [up_same rfl])
      · refine V_iconst (pc := 46) C dX9_readCounter_46 ?_
        exact V_zret (pc := 47) C Z dX9_readCounter_47 (Or.inl rfl) (0, p3, f 15, M18, M19) (by first | exact mdC1 g1 (by omega) | exact mdC2 g1 (by omega) g2 (by omega) | exact mdC3 g1 (by omega) g2 (by omega) g3 (by omega) | exact mdC4 g1 (by omega) g2 (by omega) g3 (by omega)) (ri (by rfl)) (by first | rfl | rw [up_same rfl])
    · refine V_bipush (pc := 29) C dX9_readCounter_29 rfl ?_
      refine V_goto (pc := 31) 39 C dX9_readCounter_31 (by decide) ?_
      refine V_istore_n (lv' := [(3, .int (iI (-9))), (2, .int (iI v2)), (1, .int (iI v1)), (0, .ref o)]) (pc := 39) C dX9_readCounter_39 rfl (by decide) rfl ?_
      refine V_iload_n (pc := 40) C dX9_readCounter_40 rfl 0 rfl ?_
      refine V_bipush (pc := 41) C dX9_readCounter_41 rfl ?_
      refine V_icmp_ne (pc := 43) 48 C dX9_readCounter_43 (by decide) (sm_i (by decide)) (sm_i (by decide)) (fun c43 => ?_) (fun c43 => ?_)
      · exact absurd c43 (by decide)
      · refine V_iconst (pc := 46) C dX9_readCounter_46 ?_
        exact V_zret (pc := 47) C Z dX9_readCounter_47 (Or.inl rfl) (0, p2, f 15, M18, M19) (by first | exact mdC1 g1 (by omega) | exact mdC2 g1 (by omega) g2 (by omega) | exact mdC3 g1 (by omega) g2 (by omega) g3 (by omega) | exact mdC4 g1 (by omega) g2 (by omega) g3 (by omega)) (ri (by rfl)) (by first | rfl | rw [up_same rfl])
  · refine V_bipush (pc := 12) C dX9_readCounter_12 rfl ?_
    refine V_goto (pc := 14) 22 C dX9_readCounter_14 (by decide) ?_
    refine V_istore_n (lv' := [(2, .int (iI (-9))), (1, .int (iI v1)), (0, .ref o)]) (pc := 22) C dX9_readCounter_22 rfl (by decide) rfl ?_
    refine V_iload_n (pc := 23) C dX9_readCounter_23 rfl 0 rfl ?_
    refine V_bipush (pc := 24) C dX9_readCounter_24 rfl ?_
    refine V_icmp_ne (pc := 26) 34 C dX9_readCounter_26 (by decide) (sm_i (by decide)) (sm_i (by decide)) (fun c26 => ?_) (fun c26 => ?_)
    · exact absurd c26 (by decide)
    · refine V_bipush (pc := 29) C dX9_readCounter_29 rfl ?_
      refine V_goto (pc := 31) 39 C dX9_readCounter_31 (by decide) ?_
      refine V_istore_n (lv' := [(3, .int (iI (-9))), (2, .int (iI (-9))), (1, .int (iI v1)), (0, .ref o)]) (pc := 39) C dX9_readCounter_39 rfl (by decide) rfl ?_
      refine V_iload_n (pc := 40) C dX9_readCounter_40 rfl 0 rfl ?_
      refine V_bipush (pc := 41) C dX9_readCounter_41 rfl ?_
      refine V_icmp_ne (pc := 43) 48 C dX9_readCounter_43 (by decide) (sm_i (by decide)) (sm_i (by decide)) (fun c43 => ?_) (fun c43 => ?_)
      · exact absurd c43 (by decide)
      · refine V_iconst (pc := 46) C dX9_readCounter_46 ?_
        exact V_zret (pc := 47) C Z dX9_readCounter_47 (Or.inl rfl) (0, p1, f 15, M18, M19) (by first | exact mdC1 g1 (by omega) | exact mdC2 g1 (by omega) g2 (by omega) | exact mdC3 g1 (by omega) g2 (by omega) g3 (by omega) | exact mdC4 g1 (by omega) g2 (by omega) g3 (by omega)) (ri (by rfl)) (by first | rfl | rw [up_same rfl])
set_option maxRecDepth 100000 in
set_option maxHeartbeats 4000000 in
theorem c_X9_hasLeft (l : Launch) (D : va_G) (d : Nat → ClassId) (o : Nat) (q : Nat → Nat) (f : Nat → Int) (M20 : Int → Int) (i : Int) (hM20 : bd M20 0 1) (h15 : 0 ≤ f 15 ∧ f 15 ≤ 4) (hi : 0 ≤ i ∧ i < 6) : CU l yX9_hasLeft cX9_hasLeft 4 (some .boolean) 0 0 D d [.ref o, .int (iI i)] [(o, .inr (9, fX9 q f)), (q 20, aI (d 1) 24 M20)] (fun (_ : Unit) => True) (fun (_ : Unit) => some (.int (iI (bI (rowM M20 (f 15) i < f 15))))) (fun (_ : Unit) => [(o, .inr (9, fX9 q f)), (q 20, aI (d 1) 24 M20)]) := by
  refine CU.mk (own := RX9) (lv := [(0, .ref o), (1, .int (iI i))]) rfl (by decide) (Nat.le_of_ble_eq_true rfl) rfl ?_
  intro p9 e9 R9 s9 m9 args9 below9 meth9 c9 A9 Q9 hRf hRl C Z
  refine V_iconst (pc := 0) C dX9_hasLeft_0 ?_
  refine V_istore_n (lv' := [(2, .int (iI 0)), (0, .ref o), (1, .int (iI i))]) (pc := 1) C dX9_hasLeft_1 rfl (by decide) rfl ?_
  refine V_iconst (pc := 2) C dX9_hasLeft_2 ?_
  refine V_istore_n (lv' := [(3, .int (iI 0)), (2, .int (iI 0)), (0, .ref o), (1, .int (iI i))]) (pc := 3) C dX9_hasLeft_3 rfl (by decide) rfl ?_
  have L4 : ∀ (nn9 : Nat) (k : Int) (t : Int), (0 ≤ k ∧ k ≤ f 15) → ((t = 1 ∧ rowM M20 k i < k) ∨ (t = 0 ∧ rowM M20 k i = k)) → (f 15 - k).toNat < nn9 → V p9 l e9 R9 s9 m9 args9 below9 meth9 c9 A9 D Q9 4 0 0 [(o, .inr (9, fX9 q f)), (q 20, aI (d 1) 24 M20)] [(3, .int (iI k)), (2, .int (iI t)), (0, .ref o), (1, .int (iI i))] 4 [] := by
    intro nn9
    induction nn9 with
    | zero => intro _ _ _ _ hm4; exact absurd hm4 (Nat.not_lt_zero _)
    | succ nn9 ih4 =>
      intro k t hk ht hm4
      have rs := rowM_s (G := M20) (i := i) hk.1
      have b8 := hM20 (4 * i + k)
      have rw9 := rowM_b (i := i) hM20 hk.1
      refine V_iload_n (pc := 4) C dX9_hasLeft_4 rfl 0 rfl ?_
      refine V_aload_n (pc := 5) C dX9_hasLeft_5 rfl 2 rfl ?_
      refine gf_X9_150 (x := f 15) (pc := 6) C dX9_hasLeft_6 0 rfl rfl ?_
      refine V_icmp_ge (pc := 9) 41 C dX9_hasLeft_9 (by decide) (sm_i (by omega)) (sm_i (by omega)) (fun c9 => ?_) (fun c9 => ?_)
      · refine V_iload_n (pc := 41) C dX9_hasLeft_41 rfl 1 rfl ?_
        exact V_zret (pc := 42) C Z dX9_hasLeft_42 (by omega) () trivial (ri (by have ek : k = f 15 := (by omega); rw [ek] at ht; unfold bI; split <;> omega)) rfl
      · refine V_iload_n (pc := 12) C dX9_hasLeft_12 rfl 1 rfl ?_
        refine V_if_ne (pc := 13) 29 C dX9_hasLeft_13 (by decide) (sm_i (by omega)) (fun c13 => ?_) (fun c13 => ?_)
        · refine V_iconst (pc := 29) C dX9_hasLeft_29 ?_
          refine V_goto (pc := 30) 34 C dX9_hasLeft_30 (by decide) ?_
          refine V_istore_n (lv' := [(2, .int (iI 1)), (3, .int (iI k)), (0, .ref o), (1, .int (iI i))]) (pc := 34) C dX9_hasLeft_34 rfl (by decide) rfl ?_
          refine V_iinc (lv' := [(3, .int (iI (k + 1))), (2, .int (iI 1)), (0, .ref o), (1, .int (iI i))]) (pc := 35) C dX9_hasLeft_35 1 rfl (by decide) rfl ?_
          refine V_goto (pc := 38) 4 C dX9_hasLeft_38 (by decide) ?_
          exact V_sub [0, 1, 2, 3] rfl (ih4 (k + 1) 1 (by omega) (by omega) (by omega))
        · refine V_aload_n (pc := 16) C dX9_hasLeft_16 rfl 2 rfl ?_
          refine gf_X9_51 (x := q 20) (pc := 17) C dX9_hasLeft_17 0 rfl rfl ?_
          refine V_iconst (pc := 20) C dX9_hasLeft_20 ?_
          refine V_iload_n (pc := 21) C dX9_hasLeft_21 rfl 3 rfl ?_
          refine V_imul (pc := 22) C dX9_hasLeft_22 ?_
          refine V_iload_n (pc := 23) C dX9_hasLeft_23 rfl 0 rfl ?_
          refine V_iadd (pc := 24) C dX9_hasLeft_24 ?_
          refine V_zald (f := M20) (pc := 25) C dX9_hasLeft_25 1 rfl (by omega) (by omega) (Nat.le_of_ble_eq_true rfl) ?_
          have b25 := hM20 ((4 * i) + k)
          refine V_if_ne (pc := 26) 33 C dX9_hasLeft_26 (by decide) (sm_i (by omega)) (fun c26 => ?_) (fun c26 => ?_)
          · refine V_iconst (pc := 33) C dX9_hasLeft_33 ?_
            refine V_istore_n (lv' := [(2, .int (iI 0)), (3, .int (iI k)), (0, .ref o), (1, .int (iI i))]) (pc := 34) C dX9_hasLeft_34 rfl (by decide) rfl ?_
            refine V_iinc (lv' := [(3, .int (iI (k + 1))), (2, .int (iI 0)), (0, .ref o), (1, .int (iI i))]) (pc := 35) C dX9_hasLeft_35 1 rfl (by decide) rfl ?_
            refine V_goto (pc := 38) 4 C dX9_hasLeft_38 (by decide) ?_
            exact V_sub [0, 1, 2, 3] rfl (ih4 (k + 1) 0 (by omega) (by omega) (by omega))
          · refine V_iconst (pc := 29) C dX9_hasLeft_29 ?_
            refine V_goto (pc := 30) 34 C dX9_hasLeft_30 (by decide) ?_
            refine V_istore_n (lv' := [(2, .int (iI 1)), (3, .int (iI k)), (0, .ref o), (1, .int (iI i))]) (pc := 34) C dX9_hasLeft_34 rfl (by decide) rfl ?_
            refine V_iinc (lv' := [(3, .int (iI (k + 1))), (2, .int (iI 1)), (0, .ref o), (1, .int (iI i))]) (pc := 35) C dX9_hasLeft_35 1 rfl (by decide) rfl ?_
            refine V_goto (pc := 38) 4 C dX9_hasLeft_38 (by decide) ?_
            exact V_sub [0, 1, 2, 3] rfl (ih4 (k + 1) 1 (by omega) (by omega) (by omega))
  exact V_sub [0, 1, 2, 3] rfl (L4 ((f 15 - 0).toNat + 1) 0 0 (by omega) (Or.inr ⟨rfl, rfl⟩) (Nat.lt_succ_self _))
set_option maxRecDepth 100000 in
set_option maxHeartbeats 4000000 in
theorem c_X9_hasAny (l : Launch) (D : va_G) (d : Nat → ClassId) (o : Nat) (q : Nat → Nat) (f : Nat → Int) (M20 : Int → Int) (hM20 : bd M20 0 1) (h14 : 0 ≤ f 14 ∧ f 14 ≤ 6) (h15 : 0 ≤ f 15 ∧ f 15 ≤ 4) : CU l yX9_hasAny cX9_hasAny 3 (some .boolean) 1 23 D d [.ref o] [(o, .inr (9, fX9 q f)), (q 20, aI (d 1) 24 M20)] (fun (_ : Unit) => True) (fun (_ : Unit) => some (.int (iI (bI (anyM M20 (f 15) (f 14) < f 14 * f 15))))) (fun (_ : Unit) => [(o, .inr (9, fX9 q f)), (q 20, aI (d 1) 24 M20)]) := by
  refine CU.mk (own := RX9) (lv := [(0, .ref o)]) rfl (by decide) (Nat.le_of_ble_eq_true rfl) rfl ?_
  intro p9 e9 R9 s9 m9 args9 below9 meth9 c9 A9 Q9 hRf hRl C Z
  refine V_iconst (pc := 0) C dX9_hasAny_0 ?_
  refine V_istore_n (lv' := [(1, .int (iI 0)), (0, .ref o)]) (pc := 1) C dX9_hasAny_1 rfl (by decide) rfl ?_
  refine V_iconst (pc := 2) C dX9_hasAny_2 ?_
  refine V_istore_n (lv' := [(2, .int (iI 0)), (1, .int (iI 0)), (0, .ref o)]) (pc := 3) C dX9_hasAny_3 rfl (by decide) rfl ?_
  have L4 : ∀ (nn9 : Nat) (k : Int) (t : Int), (0 ≤ k ∧ k ≤ f 14) → ((t = 1 ∧ anyM M20 (f 15) k < k * f 15) ∨ (t = 0 ∧ anyM M20 (f 15) k = k * f 15)) → (f 14 - k).toNat < nn9 → V p9 l e9 R9 s9 m9 args9 below9 meth9 c9 A9 D Q9 3 0 0 [(o, .inr (9, fX9 q f)), (q 20, aI (d 1) 24 M20)] [(2, .int (iI k)), (1, .int (iI t)), (0, .ref o)] 4 [] := by
    intro nn9
    induction nn9 with
    | zero => intro _ _ _ _ hm4; exact absurd hm4 (Nat.not_lt_zero _)
    | succ nn9 ih4 =>
      intro k t hk ht hm4
      have rs := anyM_s (G := M20) (K := f 15) hk.1
      have rw8 := rowM_b (i := k) hM20 h15.1
      have rw9 := anyM_b hM20 h15.1 hk.1
      have am : (k + 1) * f 15 = k * f 15 + f 15 := by rw [Int.add_mul, Int.one_mul]
      refine V_iload_n (pc := 4) C dX9_hasAny_4 rfl 0 rfl ?_
      refine V_aload_n (pc := 5) C dX9_hasAny_5 rfl 2 rfl ?_
      refine gf_X9_147 (x := f 14) (pc := 6) C dX9_hasAny_6 0 rfl rfl ?_
      refine V_icmp_ge (pc := 9) 36 C dX9_hasAny_9 (by decide) (sm_i (by omega)) (sm_i (by omega)) (fun c9 => ?_) (fun c9 => ?_)
      · refine V_iload_n (pc := 36) C dX9_hasAny_36 rfl 1 rfl ?_
        exact V_zret (pc := 37) C Z dX9_hasAny_37 (by omega) () trivial (ri (by have ek : k = f 14 := (by omega); rw [ek] at ht; unfold bI; split <;> omega)) rfl
      · refine V_iload_n (pc := 12) C dX9_hasAny_12 rfl 1 rfl ?_
        refine V_if_ne (pc := 13) 24 C dX9_hasAny_13 (by decide) (sm_i (by omega)) (fun c13 => ?_) (fun c13 => ?_)
        · refine V_iconst (pc := 24) C dX9_hasAny_24 ?_
          refine V_goto (pc := 25) 29 C dX9_hasAny_25 (by decide) ?_
          refine V_istore_n (lv' := [(1, .int (iI 1)), (2, .int (iI k)), (0, .ref o)]) (pc := 29) C dX9_hasAny_29 rfl (by decide) rfl ?_
          refine V_iinc (lv' := [(2, .int (iI (k + 1))), (1, .int (iI 1)), (0, .ref o)]) (pc := 30) C dX9_hasAny_30 1 rfl (by decide) rfl ?_
          refine V_goto (pc := 33) 4 C dX9_hasAny_33 (by decide) ?_
          exact V_sub [0, 1, 2] rfl (ih4 (k + 1) 1 (by omega) (by omega) (by omega))
        · refine V_aload_n (pc := 16) C dX9_hasAny_16 rfl 2 rfl ?_
          refine V_iload_n (pc := 17) C dX9_hasAny_17 rfl 0 rfl ?_
          refine cv_X9_153 (pc := 18) (rest := []) (wn := fun _ => [(o, .inr (9, fX9 q f)), (q 20, aI (d 1) 24 M20)]) (sn := fun _ => [.int (iI (bI (rowM M20 ((f 15)) k < (f 15))))]) C dX9_hasAny_18 (c_X9_hasLeft l D d o q f M20 k hM20 h15 (show 0 ≤ k ∧ k < 6 by omega)) [0, 1] rfl rfl 0 rfl rfl rfl (Nat.le_of_ble_eq_true rfl) ⟨by omega, by omega⟩ ⟨Nat.zero_le _, Nat.zero_le _⟩ (fun _ => rfl) (fun _ => rfl) (fun _ => rfl) ?_
          intro _ _
          refine V_ifb_eq (pc := 21) 28 C dX9_hasAny_21 (by decide) (fun c21 => ?_) (fun c21 => ?_)
          · refine V_iconst (pc := 28) C dX9_hasAny_28 ?_
            refine V_istore_n (lv' := [(1, .int (iI 0)), (2, .int (iI k)), (0, .ref o)]) (pc := 29) C dX9_hasAny_29 rfl (by decide) rfl ?_
            refine V_iinc (lv' := [(2, .int (iI (k + 1))), (1, .int (iI 0)), (0, .ref o)]) (pc := 30) C dX9_hasAny_30 1 rfl (by decide) rfl ?_
            refine V_goto (pc := 33) 4 C dX9_hasAny_33 (by decide) ?_
            exact V_sub [0, 1, 2] rfl (ih4 (k + 1) 0 (by omega) (by omega) (by omega))
          · refine V_iconst (pc := 24) C dX9_hasAny_24 ?_
            refine V_goto (pc := 25) 29 C dX9_hasAny_25 (by decide) ?_
            refine V_istore_n (lv' := [(1, .int (iI 1)), (2, .int (iI k)), (0, .ref o)]) (pc := 29) C dX9_hasAny_29 rfl (by decide) rfl ?_
            refine V_iinc (lv' := [(2, .int (iI (k + 1))), (1, .int (iI 1)), (0, .ref o)]) (pc := 30) C dX9_hasAny_30 1 rfl (by decide) rfl ?_
            refine V_goto (pc := 33) 4 C dX9_hasAny_33 (by decide) ?_
            exact V_sub [0, 1, 2] rfl (ih4 (k + 1) 1 (by omega) (by omega) (by omega))
  exact V_sub [0, 1, 2] rfl (L4 ((f 14 - 0).toNat + 1) 0 0 (by omega) (Or.inr ⟨rfl, (Int.zero_mul _).symm⟩) (Nat.lt_succ_self _))
set_option maxRecDepth 100000 in
set_option maxHeartbeats 4000000 in
theorem c_X9_readBar (l : Launch) (D : va_G) (d : Nat → ClassId) (o : Nat) (q : Nat → Nat) (f : Nat → Int) (M1 : Int → Int) (M20 : Int → Int) (hM1 : bd M1 0 255) (h2 : 0 ≤ f 2 ∧ f 2 ≤ 72) (h3 : 0 ≤ f 3 ∧ f 3 ≤ f 2) (h14 : 0 ≤ f 14 ∧ f 14 ≤ 6) (h15 : 0 ≤ f 15 ∧ f 15 ≤ 4) (hM20 : bd M20 0 1) : CU l yX9_readBar cX9_readBar 3 (some .boolean) 1 25 D d [.ref o] [(o, .inr (9, fX9 q f)), (q 1, aI (d 0) 72 M1), (q 20, aI (d 1) 24 M20)] (fun (u : Int × Int × (Int → Int)) => u = mdBar (f 2) M1 (f 3) (f 14) (f 15) M20) (fun (u : Int × Int × (Int → Int)) => some (.int (iI (u.1)))) (fun (u : Int × Int × (Int → Int)) => [(o, .inr (9, fX9 q (up f 3 u.2.1))), (q 1, aI (d 0) 72 M1), (q 20, aI (d 1) 24 u.2.2)]) := by
  refine CU.mk (own := RX9) (lv := [(0, .ref o)]) rfl (by decide) (Nat.le_of_ble_eq_true rfl) rfl ?_
  intro p9 e9 R9 s9 m9 args9 below9 meth9 c9 A9 Q9 hRf hRl C Z
  refine V_aload_n (pc := 0) C dX9_readBar_0 rfl 0 rfl ?_
  refine gf_X9_135 (x := f 3) (pc := 1) C dX9_readBar_1 0 rfl rfl ?_
  refine V_aload_n (pc := 4) C dX9_readBar_4 rfl 0 rfl ?_
  refine gf_X9_132 (x := f 2) (pc := 5) C dX9_readBar_5 0 rfl rfl ?_
  refine V_icmp_ge (pc := 8) 26 C dX9_readBar_8 (by decide) (sm_i (by omega)) (sm_i (by omega)) (fun c8 => ?_) (fun c8 => ?_)
  · refine V_bipush (pc := 26) C dX9_readBar_26 rfl ?_
    refine V_eqt (show (-9) = chM (f 2) M1 (f 3) from by unfold chM; split <;> omega) ?_
    refine V_istore_n (lv' := [(1, .int (iI (chM (f 2) M1 (f 3)))), (0, .ref o)]) (pc := 28) C dX9_readBar_28 rfl (by decide) rfl ?_
    have k1 := chM_b (n := f 2) (p := f 3) hM1
    refine V_iload_n (pc := 29) C dX9_readBar_29 rfl 0 rfl ?_
    refine V_i2l (pc := 30) C dX9_readBar_30 (sm_i (by omega)) ?_
    refine V_lconst (k := 0) (pc := 31) C dX9_readBar_31 rfl ?_
    refine V_aload_n (pc := 32) C dX9_readBar_32 rfl 1 rfl ?_
    refine gf_X9_147 (x := f 14) (pc := 33) C dX9_readBar_33 0 rfl rfl ?_
    refine V_iconst (pc := 36) C dX9_readBar_36 ?_
    refine V_isub (pc := 37) C dX9_readBar_37 ?_
    refine V_i2l (pc := 38) C dX9_readBar_38 (sm_i (by omega)) ?_
    refine cs_X9_123 (pc := 39) (rest := []) (wn := fun _ => [(o, .inr (9, fX9 q f)), (q 1, aI (d 0) 72 M1), (q 20, aI (d 1) 24 M20)]) (sn := fun _ => [.int (iI (bI (0 ≤ (chM (f 2) M1 (f 3)) ∧ (chM (f 2) M1 (f 3)) ≤ ((f 14) - 1))))]) C dX9_readBar_39 (c_X9_in l D d (chM (f 2) M1 (f 3)) 0 ((f 14) - 1) (show -9223372036854775808 ≤ (chM (f 2) M1 (f 3)) ∧ (chM (f 2) M1 (f 3)) ≤ 9223372036854775807 by omega) (show -9223372036854775808 ≤ 0 ∧ 0 ≤ 9223372036854775807 by omega) (show -9223372036854775808 ≤ ((f 14) - 1) ∧ ((f 14) - 1) ≤ 9223372036854775807 by omega)) [] rfl rfl rfl rfl (Nat.le_of_ble_eq_true rfl) ⟨by omega, by omega⟩ ⟨Nat.zero_le _, Nat.zero_le _⟩ (fun _ => rfl) (fun _ => rfl) (fun _ => rfl) ?_
    intro _ _
    refine V_ifb_eq (pc := 42) 53 C dX9_readBar_42 (by decide) (fun c42 => ?_) (fun c42 => ?_)
    · refine V_iconst (pc := 53) C dX9_readBar_53 ?_
      exact V_zret (pc := 54) C Z dX9_readBar_54 (Or.inl rfl) (0, f 3, M20) (by unfold mdBar; (repeat' split) <;> first | rfl | omega) (ri (by rfl)) (by first | rfl | rw [up_same rfl])
    · refine V_aload_n (pc := 45) C dX9_readBar_45 rfl 1 rfl ?_
      refine V_iload_n (pc := 46) C dX9_readBar_46 rfl 0 rfl ?_
      refine cv_X9_153 (pc := 47) (rest := []) (wn := fun _ => [(o, .inr (9, fX9 q f)), (q 1, aI (d 0) 72 M1), (q 20, aI (d 1) 24 M20)]) (sn := fun _ => [.int (iI (bI (rowM M20 ((f 15)) (chM (f 2) M1 (f 3)) < (f 15))))]) C dX9_readBar_47 (c_X9_hasLeft l D d o q f M20 (chM (f 2) M1 (f 3)) hM20 h15 (show 0 ≤ (chM (f 2) M1 (f 3)) ∧ (chM (f 2) M1 (f 3)) < 6 by omega)) [0, 2] rfl rfl 0 rfl rfl rfl (Nat.le_of_ble_eq_true rfl) ⟨by omega, by omega⟩ ⟨Nat.zero_le _, Nat.zero_le _⟩ (fun _ => rfl) (fun _ => rfl) (fun _ => rfl) ?_
      intro _ _
      refine V_ifb_ne (pc := 50) 55 C dX9_readBar_50 (by decide) (fun c50 => ?_) (fun c50 => ?_)
      · refine V_aload_n (pc := 55) C dX9_readBar_55 rfl 1 rfl ?_
        refine V_dup (pc := 56) C dX9_readBar_56 rfl ?_
        refine gf_X9_135 (x := f 3) (pc := 57) C dX9_readBar_57 0 rfl rfl ?_
        refine V_iconst (pc := 60) C dX9_readBar_60 ?_
        refine V_iadd (pc := 61) C dX9_readBar_61 ?_
        refine pf_X9_135 (ws' := [(o, .inr (9, fX9 q (up f 3 ((f 3) + 1)))), (q 1, aI (d 0) 72 M1), (q 20, aI (d 1) 24 M20)]) (pc := 62) C dX9_readBar_62 0 rfl rfl ?_
        refine V_aload_n (pc := 65) C dX9_readBar_65 rfl 1 rfl ?_
        refine gf_X9_135 (x := ((f 3) + 1)) (pc := 66) C dX9_readBar_66 0 rfl rfl ?_
        refine V_aload_n (pc := 69) C dX9_readBar_69 rfl 1 rfl ?_
        refine gf_X9_132 (x := f 2) (pc := 70) C dX9_readBar_70 0 rfl rfl ?_
        refine V_icmp_ge (pc := 73) 91 C dX9_readBar_73 (by decide) (sm_i (by omega)) (sm_i (by omega)) (fun c73 => ?_) (fun c73 => ?_)
        · refine V_bipush (pc := 91) C dX9_readBar_91 rfl ?_
          refine V_eqt (show (-9) = chM (f 2) M1 (f 3 + 1) from by unfold chM; split <;> omega) ?_
          refine V_istore_n (lv' := [(2, .int (iI (chM (f 2) M1 (f 3 + 1)))), (1, .int (iI (chM (f 2) M1 (f 3)))), (0, .ref o)]) (pc := 93) C dX9_readBar_93 rfl (by decide) rfl ?_
          have k2 := chM_b (n := f 2) (p := f 3 + 1) hM1
          have b8 := hM20 (4 * chM (f 2) M1 (f 3) + chM (f 2) M1 (f 3 + 1))
          refine V_iload_n (pc := 94) C dX9_readBar_94 rfl 0 rfl ?_
          refine V_i2l (pc := 95) C dX9_readBar_95 (sm_i (by omega)) ?_
          refine V_lconst (k := 0) (pc := 96) C dX9_readBar_96 rfl ?_
          refine V_aload_n (pc := 97) C dX9_readBar_97 rfl 2 rfl ?_
          refine gf_X9_150 (x := f 15) (pc := 98) C dX9_readBar_98 0 rfl rfl ?_
          refine V_iconst (pc := 101) C dX9_readBar_101 ?_
          refine V_isub (pc := 102) C dX9_readBar_102 ?_
          refine V_i2l (pc := 103) C dX9_readBar_103 (sm_i (by omega)) ?_
          refine cs_X9_123 (pc := 104) (rest := []) (wn := fun _ => [(o, .inr (9, fX9 q (up f 3 ((f 3) + 1)))), (q 1, aI (d 0) 72 M1), (q 20, aI (d 1) 24 M20)]) (sn := fun _ => [.int (iI (bI (0 ≤ (chM (f 2) M1 (f 3 + 1)) ∧ (chM (f 2) M1 (f 3 + 1)) ≤ ((f 15) - 1))))]) C dX9_readBar_104 (c_X9_in l D d (chM (f 2) M1 (f 3 + 1)) 0 ((f 15) - 1) (show -9223372036854775808 ≤ (chM (f 2) M1 (f 3 + 1)) ∧ (chM (f 2) M1 (f 3 + 1)) ≤ 9223372036854775807 by omega) (show -9223372036854775808 ≤ 0 ∧ 0 ≤ 9223372036854775807 by omega) (show -9223372036854775808 ≤ ((f 15) - 1) ∧ ((f 15) - 1) ≤ 9223372036854775807 by omega)) [] rfl rfl rfl rfl (Nat.le_of_ble_eq_true rfl) ⟨by omega, by omega⟩ ⟨Nat.zero_le _, Nat.zero_le _⟩ (fun _ => rfl) (fun _ => rfl) (fun _ => rfl) ?_
          intro _ _
          refine V_ifb_eq (pc := 107) 123 C dX9_readBar_107 (by decide) (fun c107 => ?_) (fun c107 => ?_)
          · refine V_iconst (pc := 123) C dX9_readBar_123 ?_
            exact V_zret (pc := 124) C Z dX9_readBar_124 (Or.inl rfl) (0, (f 3) + 1, M20) (by unfold mdBar; (repeat' split) <;> first | rfl | omega) (ri (by rfl)) (by first | rfl | rw [up_same rfl])
          · refine V_aload_n (pc := 110) C dX9_readBar_110 rfl 2 rfl ?_
            refine gf_X9_51 (x := q 20) (pc := 111) C dX9_readBar_111 0 rfl rfl ?_
            refine V_iconst (pc := 114) C dX9_readBar_114 ?_
            refine V_iload_n (pc := 115) C dX9_readBar_115 rfl 1 rfl ?_
            refine V_imul (pc := 116) C dX9_readBar_116 ?_
            refine V_iload_n (pc := 117) C dX9_readBar_117 rfl 0 rfl ?_
            refine V_iadd (pc := 118) C dX9_readBar_118 ?_
            refine V_zald (f := M20) (pc := 119) C dX9_readBar_119 2 rfl (by omega) (by omega) (Nat.le_of_ble_eq_true rfl) ?_
            have b119 := hM20 ((4 * (chM (f 2) M1 (f 3))) + (chM (f 2) M1 (f 3 + 1)))
            refine V_if_eq (pc := 120) 125 C dX9_readBar_120 (by decide) (sm_i (by omega)) (fun c120 => ?_) (fun c120 => ?_)
            · refine V_aload_n (pc := 125) C dX9_readBar_125 rfl 2 rfl ?_
              refine V_dup (pc := 126) C dX9_readBar_126 rfl ?_
              refine gf_X9_135 (x := ((f 3) + 1)) (pc := 127) C dX9_readBar_127 0 rfl rfl ?_
              refine V_iconst (pc := 130) C dX9_readBar_130 ?_
              refine V_iadd (pc := 131) C dX9_readBar_131 ?_
              refine pf_X9_135 (ws' := [(o, .inr (9, fX9 q (up (up f 3 ((f 3) + 1)) 3 (((f 3) + 1) + 1)))), (q 1, aI (d 0) 72 M1), (q 20, aI (d 1) 24 M20)]) (pc := 132) C dX9_readBar_132 0 rfl rfl ?_
              refine V_aload_n (pc := 135) C dX9_readBar_135 rfl 2 rfl ?_
              refine gf_X9_51 (x := q 20) (pc := 136) C dX9_readBar_136 0 rfl rfl ?_
              refine V_iconst (pc := 139) C dX9_readBar_139 ?_
              refine V_iload_n (pc := 140) C dX9_readBar_140 rfl 1 rfl ?_
              refine V_imul (pc := 141) C dX9_readBar_141 ?_
              refine V_iload_n (pc := 142) C dX9_readBar_142 rfl 0 rfl ?_
              refine V_iadd (pc := 143) C dX9_readBar_143 ?_
              refine V_iconst (pc := 144) C dX9_readBar_144 ?_
              refine V_zast (f := M20) (ws' := [(o, .inr (9, fX9 q (up (up f 3 ((f 3) + 1)) 3 (((f 3) + 1) + 1)))), (q 1, aI (d 0) 72 M1), (q 20, aI (d 1) 24 (uI M20 ((4 * (chM (f 2) M1 (f 3))) + (chM (f 2) M1 (f 3 + 1))) 1))]) (pc := 145) C dX9_readBar_145 2 rfl (by omega) (by omega) (Nat.le_of_ble_eq_true rfl) (Or.inr rfl) rfl ?_
              refine V_iconst (pc := 146) C dX9_readBar_146 ?_
              exact V_zret (pc := 147) C Z dX9_readBar_147 (Or.inr rfl) (1, ((f 3) + 1) + 1, uI M20 ((4 * (chM (f 2) M1 (f 3))) + (chM (f 2) M1 (f 3 + 1))) 1) (by unfold mdBar; (repeat' split) <;> first | rfl | omega) (ri (by rfl)) (by first | rfl | rw [up_same rfl])
            · refine V_iconst (pc := 123) C dX9_readBar_123 ?_
              exact V_zret (pc := 124) C Z dX9_readBar_124 (Or.inl rfl) (0, (f 3) + 1, M20) (by unfold mdBar; (repeat' split) <;> first | rfl | omega) (ri (by rfl)) (by first | rfl | rw [up_same rfl])
        · refine V_aload_n (pc := 76) C dX9_readBar_76 rfl 1 rfl ?_
          refine gf_X9_7 (x := q 1) (pc := 77) C dX9_readBar_77 0 rfl rfl ?_
          refine V_aload_n (pc := 80) C dX9_readBar_80 rfl 1 rfl ?_
          refine gf_X9_135 (x := ((f 3) + 1)) (pc := 81) C dX9_readBar_81 0 rfl rfl ?_
          refine V_iald (f := M1) (pc := 84) C dX9_readBar_84 1 rfl (by omega) (by omega) (Nat.le_of_ble_eq_true rfl) ?_
          have b84 := hM1 ((f 3) + 1)
          refine V_bipush (pc := 85) C dX9_readBar_85 rfl ?_
          refine V_isub (pc := 87) C dX9_readBar_87 ?_
          refine V_goto (pc := 88) 93 C dX9_readBar_88 (by decide) ?_
          refine V_eqt (show ((M1 ((f 3) + 1)) - 48) = chM (f 2) M1 (f 3 + 1) from by unfold chM; split <;> omega) ?_
          refine V_istore_n (lv' := [(2, .int (iI (chM (f 2) M1 (f 3 + 1)))), (1, .int (iI (chM (f 2) M1 (f 3)))), (0, .ref o)]) (pc := 93) C dX9_readBar_93 rfl (by decide) rfl ?_
          have k2 := chM_b (n := f 2) (p := f 3 + 1) hM1
          have b8 := hM20 (4 * chM (f 2) M1 (f 3) + chM (f 2) M1 (f 3 + 1))
          refine V_iload_n (pc := 94) C dX9_readBar_94 rfl 0 rfl ?_
          refine V_i2l (pc := 95) C dX9_readBar_95 (sm_i (by omega)) ?_
          refine V_lconst (k := 0) (pc := 96) C dX9_readBar_96 rfl ?_
          refine V_aload_n (pc := 97) C dX9_readBar_97 rfl 2 rfl ?_
          refine gf_X9_150 (x := f 15) (pc := 98) C dX9_readBar_98 0 rfl rfl ?_
          refine V_iconst (pc := 101) C dX9_readBar_101 ?_
          refine V_isub (pc := 102) C dX9_readBar_102 ?_
          refine V_i2l (pc := 103) C dX9_readBar_103 (sm_i (by omega)) ?_
          refine cs_X9_123 (pc := 104) (rest := []) (wn := fun _ => [(o, .inr (9, fX9 q (up f 3 ((f 3) + 1)))), (q 1, aI (d 0) 72 M1), (q 20, aI (d 1) 24 M20)]) (sn := fun _ => [.int (iI (bI (0 ≤ (chM (f 2) M1 (f 3 + 1)) ∧ (chM (f 2) M1 (f 3 + 1)) ≤ ((f 15) - 1))))]) C dX9_readBar_104 (c_X9_in l D d (chM (f 2) M1 (f 3 + 1)) 0 ((f 15) - 1) (show -9223372036854775808 ≤ (chM (f 2) M1 (f 3 + 1)) ∧ (chM (f 2) M1 (f 3 + 1)) ≤ 9223372036854775807 by omega) (show -9223372036854775808 ≤ 0 ∧ 0 ≤ 9223372036854775807 by omega) (show -9223372036854775808 ≤ ((f 15) - 1) ∧ ((f 15) - 1) ≤ 9223372036854775807 by omega)) [] rfl rfl rfl rfl (Nat.le_of_ble_eq_true rfl) ⟨by omega, by omega⟩ ⟨Nat.zero_le _, Nat.zero_le _⟩ (fun _ => rfl) (fun _ => rfl) (fun _ => rfl) ?_
          intro _ _
          refine V_ifb_eq (pc := 107) 123 C dX9_readBar_107 (by decide) (fun c107 => ?_) (fun c107 => ?_)
          · refine V_iconst (pc := 123) C dX9_readBar_123 ?_
            exact V_zret (pc := 124) C Z dX9_readBar_124 (Or.inl rfl) (0, (f 3) + 1, M20) (by unfold mdBar; (repeat' split) <;> first | rfl | omega) (ri (by rfl)) (by first | rfl | rw [up_same rfl])
          · refine V_aload_n (pc := 110) C dX9_readBar_110 rfl 2 rfl ?_
            refine gf_X9_51 (x := q 20) (pc := 111) C dX9_readBar_111 0 rfl rfl ?_
            refine V_iconst (pc := 114) C dX9_readBar_114 ?_
            refine V_iload_n (pc := 115) C dX9_readBar_115 rfl 1 rfl ?_
            refine V_imul (pc := 116) C dX9_readBar_116 ?_
            refine V_iload_n (pc := 117) C dX9_readBar_117 rfl 0 rfl ?_
            refine V_iadd (pc := 118) C dX9_readBar_118 ?_
            refine V_zald (f := M20) (pc := 119) C dX9_readBar_119 2 rfl (by omega) (by omega) (Nat.le_of_ble_eq_true rfl) ?_
            have b119 := hM20 ((4 * (chM (f 2) M1 (f 3))) + (chM (f 2) M1 (f 3 + 1)))
            refine V_if_eq (pc := 120) 125 C dX9_readBar_120 (by decide) (sm_i (by omega)) (fun c120 => ?_) (fun c120 => ?_)
            · refine V_aload_n (pc := 125) C dX9_readBar_125 rfl 2 rfl ?_
              refine V_dup (pc := 126) C dX9_readBar_126 rfl ?_
              refine gf_X9_135 (x := ((f 3) + 1)) (pc := 127) C dX9_readBar_127 0 rfl rfl ?_
              refine V_iconst (pc := 130) C dX9_readBar_130 ?_
              refine V_iadd (pc := 131) C dX9_readBar_131 ?_
              refine pf_X9_135 (ws' := [(o, .inr (9, fX9 q (up (up f 3 ((f 3) + 1)) 3 (((f 3) + 1) + 1)))), (q 1, aI (d 0) 72 M1), (q 20, aI (d 1) 24 M20)]) (pc := 132) C dX9_readBar_132 0 rfl rfl ?_
              refine V_aload_n (pc := 135) C dX9_readBar_135 rfl 2 rfl ?_
              refine gf_X9_51 (x := q 20) (pc := 136) C dX9_readBar_136 0 rfl rfl ?_
              refine V_iconst (pc := 139) C dX9_readBar_139 ?_
              refine V_iload_n (pc := 140) C dX9_readBar_140 rfl 1 rfl ?_
              refine V_imul (pc := 141) C dX9_readBar_141 ?_
              refine V_iload_n (pc := 142) C dX9_readBar_142 rfl 0 rfl ?_
              refine V_iadd (pc := 143) C dX9_readBar_143 ?_
              refine V_iconst (pc := 144) C dX9_readBar_144 ?_
              refine V_zast (f := M20) (ws' := [(o, .inr (9, fX9 q (up (up f 3 ((f 3) + 1)) 3 (((f 3) + 1) + 1)))), (q 1, aI (d 0) 72 M1), (q 20, aI (d 1) 24 (uI M20 ((4 * (chM (f 2) M1 (f 3))) + (chM (f 2) M1 (f 3 + 1))) 1))]) (pc := 145) C dX9_readBar_145 2 rfl (by omega) (by omega) (Nat.le_of_ble_eq_true rfl) (Or.inr rfl) rfl ?_
              refine V_iconst (pc := 146) C dX9_readBar_146 ?_
              exact V_zret (pc := 147) C Z dX9_readBar_147 (Or.inr rfl) (1, ((f 3) + 1) + 1, uI M20 ((4 * (chM (f 2) M1 (f 3))) + (chM (f 2) M1 (f 3 + 1))) 1) (by unfold mdBar; (repeat' split) <;> first | rfl | omega) (ri (by rfl)) (by first | rfl | rw [up_same rfl])
            · refine V_iconst (pc := 123) C dX9_readBar_123 ?_
              exact V_zret (pc := 124) C Z dX9_readBar_124 (Or.inl rfl) (0, (f 3) + 1, M20) (by unfold mdBar; (repeat' split) <;> first | rfl | omega) (ri (by rfl)) (by first | rfl | rw [up_same rfl])
      · refine V_iconst (pc := 53) C dX9_readBar_53 ?_
        exact V_zret (pc := 54) C Z dX9_readBar_54 (Or.inl rfl) (0, f 3, M20) (by unfold mdBar; (repeat' split) <;> first | rfl | omega) (ri (by rfl)) (by first | rfl | rw [up_same rfl])
  · refine V_aload_n (pc := 11) C dX9_readBar_11 rfl 0 rfl ?_
    refine gf_X9_7 (x := q 1) (pc := 12) C dX9_readBar_12 0 rfl rfl ?_
    refine V_aload_n (pc := 15) C dX9_readBar_15 rfl 0 rfl ?_
    refine gf_X9_135 (x := f 3) (pc := 16) C dX9_readBar_16 0 rfl rfl ?_
    refine V_iald (f := M1) (pc := 19) C dX9_readBar_19 1 rfl (by omega) (by omega) (Nat.le_of_ble_eq_true rfl) ?_
    have b19 := hM1 (f 3)
    refine V_bipush (pc := 20) C dX9_readBar_20 rfl ?_
    refine V_isub (pc := 22) C dX9_readBar_22 ?_
    refine V_goto (pc := 23) 28 C dX9_readBar_23 (by decide) ?_
    refine V_eqt (show ((M1 (f 3)) - 48) = chM (f 2) M1 (f 3) from by unfold chM; split <;> omega) ?_
    refine V_istore_n (lv' := [(1, .int (iI (chM (f 2) M1 (f 3)))), (0, .ref o)]) (pc := 28) C dX9_readBar_28 rfl (by decide) rfl ?_
    have k1 := chM_b (n := f 2) (p := f 3) hM1
    refine V_iload_n (pc := 29) C dX9_readBar_29 rfl 0 rfl ?_
    refine V_i2l (pc := 30) C dX9_readBar_30 (sm_i (by omega)) ?_
    refine V_lconst (k := 0) (pc := 31) C dX9_readBar_31 rfl ?_
    refine V_aload_n (pc := 32) C dX9_readBar_32 rfl 1 rfl ?_
    refine gf_X9_147 (x := f 14) (pc := 33) C dX9_readBar_33 0 rfl rfl ?_
    refine V_iconst (pc := 36) C dX9_readBar_36 ?_
    refine V_isub (pc := 37) C dX9_readBar_37 ?_
    refine V_i2l (pc := 38) C dX9_readBar_38 (sm_i (by omega)) ?_
    refine cs_X9_123 (pc := 39) (rest := []) (wn := fun _ => [(o, .inr (9, fX9 q f)), (q 1, aI (d 0) 72 M1), (q 20, aI (d 1) 24 M20)]) (sn := fun _ => [.int (iI (bI (0 ≤ (chM (f 2) M1 (f 3)) ∧ (chM (f 2) M1 (f 3)) ≤ ((f 14) - 1))))]) C dX9_readBar_39 (c_X9_in l D d (chM (f 2) M1 (f 3)) 0 ((f 14) - 1) (show -9223372036854775808 ≤ (chM (f 2) M1 (f 3)) ∧ (chM (f 2) M1 (f 3)) ≤ 9223372036854775807 by omega) (show -9223372036854775808 ≤ 0 ∧ 0 ≤ 9223372036854775807 by omega) (show -9223372036854775808 ≤ ((f 14) - 1) ∧ ((f 14) - 1) ≤ 9223372036854775807 by omega)) [] rfl rfl rfl rfl (Nat.le_of_ble_eq_true rfl) ⟨by omega, by omega⟩ ⟨Nat.zero_le _, Nat.zero_le _⟩ (fun _ => rfl) (fun _ => rfl) (fun _ => rfl) ?_
    intro _ _
    refine V_ifb_eq (pc := 42) 53 C dX9_readBar_42 (by decide) (fun c42 => ?_) (fun c42 => ?_)
    · refine V_iconst (pc := 53) C dX9_readBar_53 ?_
      exact V_zret (pc := 54) C Z dX9_readBar_54 (Or.inl rfl) (0, f 3, M20) (by unfold mdBar; (repeat' split) <;> first | rfl | omega) (ri (by rfl)) (by first | rfl | rw [up_same rfl])
    · refine V_aload_n (pc := 45) C dX9_readBar_45 rfl 1 rfl ?_
      refine V_iload_n (pc := 46) C dX9_readBar_46 rfl 0 rfl ?_
      refine cv_X9_153 (pc := 47) (rest := []) (wn := fun _ => [(o, .inr (9, fX9 q f)), (q 1, aI (d 0) 72 M1), (q 20, aI (d 1) 24 M20)]) (sn := fun _ => [.int (iI (bI (rowM M20 ((f 15)) (chM (f 2) M1 (f 3)) < (f 15))))]) C dX9_readBar_47 (c_X9_hasLeft l D d o q f M20 (chM (f 2) M1 (f 3)) hM20 h15 (show 0 ≤ (chM (f 2) M1 (f 3)) ∧ (chM (f 2) M1 (f 3)) < 6 by omega)) [0, 2] rfl rfl 0 rfl rfl rfl (Nat.le_of_ble_eq_true rfl) ⟨by omega, by omega⟩ ⟨Nat.zero_le _, Nat.zero_le _⟩ (fun _ => rfl) (fun _ => rfl) (fun _ => rfl) ?_
      intro _ _
      refine V_ifb_ne (pc := 50) 55 C dX9_readBar_50 (by decide) (fun c50 => ?_) (fun c50 => ?_)
      · refine V_aload_n (pc := 55) C dX9_readBar_55 rfl 1 rfl ?_
        refine V_dup (pc := 56) C dX9_readBar_56 rfl ?_
        refine gf_X9_135 (x := f 3) (pc := 57) C dX9_readBar_57 0 rfl rfl ?_
        refine V_iconst (pc := 60) C dX9_readBar_60 ?_
        refine V_iadd (pc := 61) C dX9_readBar_61 ?_
        refine pf_X9_135 (ws' := [(o, .inr (9, fX9 q (up f 3 ((f 3) + 1)))), (q 1, aI (d 0) 72 M1), (q 20, aI (d 1) 24 M20)]) (pc := 62) C dX9_readBar_62 0 rfl rfl ?_
        refine V_aload_n (pc := 65) C dX9_readBar_65 rfl 1 rfl ?_
        refine gf_X9_135 (x := ((f 3) + 1)) (pc := 66) C dX9_readBar_66 0 rfl rfl ?_
        refine V_aload_n (pc := 69) C dX9_readBar_69 rfl 1 rfl ?_
        refine gf_X9_132 (x := f 2) (pc := 70) C dX9_readBar_70 0 rfl rfl ?_
        refine V_icmp_ge (pc := 73) 91 C dX9_readBar_73 (by decide) (sm_i (by omega)) (sm_i (by omega)) (fun c73 => ?_) (fun c73 => ?_)
        · refine V_bipush (pc := 91) C dX9_readBar_91 rfl ?_
          refine V_eqt (show (-9) = chM (f 2) M1 (f 3 + 1) from by unfold chM; split <;> omega) ?_
          refine V_istore_n (lv' := [(2, .int (iI (chM (f 2) M1 (f 3 + 1)))), (1, .int (iI (chM (f 2) M1 (f 3)))), (0, .ref o)]) (pc := 93) C dX9_readBar_93 rfl (by decide) rfl ?_
          have k2 := chM_b (n := f 2) (p := f 3 + 1) hM1
          have b8 := hM20 (4 * chM (f 2) M1 (f 3) + chM (f 2) M1 (f 3 + 1))
          refine V_iload_n (pc := 94) C dX9_readBar_94 rfl 0 rfl ?_
          refine V_i2l (pc := 95) C dX9_readBar_95 (sm_i (by omega)) ?_
          refine V_lconst (k := 0) (pc := 96) C dX9_readBar_96 rfl ?_
          refine V_aload_n (pc := 97) C dX9_readBar_97 rfl 2 rfl ?_
          refine gf_X9_150 (x := f 15) (pc := 98) C dX9_readBar_98 0 rfl rfl ?_
          refine V_iconst (pc := 101) C dX9_readBar_101 ?_
          refine V_isub (pc := 102) C dX9_readBar_102 ?_
          refine V_i2l (pc := 103) C dX9_readBar_103 (sm_i (by omega)) ?_
          refine cs_X9_123 (pc := 104) (rest := []) (wn := fun _ => [(o, .inr (9, fX9 q (up f 3 ((f 3) + 1)))), (q 1, aI (d 0) 72 M1), (q 20, aI (d 1) 24 M20)]) (sn := fun _ => [.int (iI (bI (0 ≤ (chM (f 2) M1 (f 3 + 1)) ∧ (chM (f 2) M1 (f 3 + 1)) ≤ ((f 15) - 1))))]) C dX9_readBar_104 (c_X9_in l D d (chM (f 2) M1 (f 3 + 1)) 0 ((f 15) - 1) (show -9223372036854775808 ≤ (chM (f 2) M1 (f 3 + 1)) ∧ (chM (f 2) M1 (f 3 + 1)) ≤ 9223372036854775807 by omega) (show -9223372036854775808 ≤ 0 ∧ 0 ≤ 9223372036854775807 by omega) (show -9223372036854775808 ≤ ((f 15) - 1) ∧ ((f 15) - 1) ≤ 9223372036854775807 by omega)) [] rfl rfl rfl rfl (Nat.le_of_ble_eq_true rfl) ⟨by omega, by omega⟩ ⟨Nat.zero_le _, Nat.zero_le _⟩ (fun _ => rfl) (fun _ => rfl) (fun _ => rfl) ?_
          intro _ _
          refine V_ifb_eq (pc := 107) 123 C dX9_readBar_107 (by decide) (fun c107 => ?_) (fun c107 => ?_)
          · refine V_iconst (pc := 123) C dX9_readBar_123 ?_
            exact V_zret (pc := 124) C Z dX9_readBar_124 (Or.inl rfl) (0, (f 3) + 1, M20) (by unfold mdBar; (repeat' split) <;> first | rfl | omega) (ri (by rfl)) (by first | rfl | rw [up_same rfl])
          · refine V_aload_n (pc := 110) C dX9_readBar_110 rfl 2 rfl ?_
            refine gf_X9_51 (x := q 20) (pc := 111) C dX9_readBar_111 0 rfl rfl ?_
            refine V_iconst (pc := 114) C dX9_readBar_114 ?_
            refine V_iload_n (pc := 115) C dX9_readBar_115 rfl 1 rfl ?_
            refine V_imul (pc := 116) C dX9_readBar_116 ?_
            refine V_iload_n (pc := 117) C dX9_readBar_117 rfl 0 rfl ?_
            refine V_iadd (pc := 118) C dX9_readBar_118 ?_
            refine V_zald (f := M20) (pc := 119) C dX9_readBar_119 2 rfl (by omega) (by omega) (Nat.le_of_ble_eq_true rfl) ?_
            have b119 := hM20 ((4 * (chM (f 2) M1 (f 3))) + (chM (f 2) M1 (f 3 + 1)))
            refine V_if_eq (pc := 120) 125 C dX9_readBar_120 (by decide) (sm_i (by omega)) (fun c120 => ?_) (fun c120 => ?_)
            · refine V_aload_n (pc := 125) C dX9_readBar_125 rfl 2 rfl ?_
              refine V_dup (pc := 126) C dX9_readBar_126 rfl ?_
              refine gf_X9_135 (x := ((f 3) + 1)) (pc := 127) C dX9_readBar_127 0 rfl rfl ?_
              refine V_iconst (pc := 130) C dX9_readBar_130 ?_
              refine V_iadd (pc := 131) C dX9_readBar_131 ?_
              refine pf_X9_135 (ws' := [(o, .inr (9, fX9 q (up (up f 3 ((f 3) + 1)) 3 (((f 3) + 1) + 1)))), (q 1, aI (d 0) 72 M1), (q 20, aI (d 1) 24 M20)]) (pc := 132) C dX9_readBar_132 0 rfl rfl ?_
              refine V_aload_n (pc := 135) C dX9_readBar_135 rfl 2 rfl ?_
              refine gf_X9_51 (x := q 20) (pc := 136) C dX9_readBar_136 0 rfl rfl ?_
              refine V_iconst (pc := 139) C dX9_readBar_139 ?_
              refine V_iload_n (pc := 140) C dX9_readBar_140 rfl 1 rfl ?_
              refine V_imul (pc := 141) C dX9_readBar_141 ?_
              refine V_iload_n (pc := 142) C dX9_readBar_142 rfl 0 rfl ?_
              refine V_iadd (pc := 143) C dX9_readBar_143 ?_
              refine V_iconst (pc := 144) C dX9_readBar_144 ?_
              refine V_zast (f := M20) (ws' := [(o, .inr (9, fX9 q (up (up f 3 ((f 3) + 1)) 3 (((f 3) + 1) + 1)))), (q 1, aI (d 0) 72 M1), (q 20, aI (d 1) 24 (uI M20 ((4 * (chM (f 2) M1 (f 3))) + (chM (f 2) M1 (f 3 + 1))) 1))]) (pc := 145) C dX9_readBar_145 2 rfl (by omega) (by omega) (Nat.le_of_ble_eq_true rfl) (Or.inr rfl) rfl ?_
              refine V_iconst (pc := 146) C dX9_readBar_146 ?_
              exact V_zret (pc := 147) C Z dX9_readBar_147 (Or.inr rfl) (1, ((f 3) + 1) + 1, uI M20 ((4 * (chM (f 2) M1 (f 3))) + (chM (f 2) M1 (f 3 + 1))) 1) (by unfold mdBar; (repeat' split) <;> first | rfl | omega) (ri (by rfl)) (by first | rfl | rw [up_same rfl])
            · refine V_iconst (pc := 123) C dX9_readBar_123 ?_
              exact V_zret (pc := 124) C Z dX9_readBar_124 (Or.inl rfl) (0, (f 3) + 1, M20) (by unfold mdBar; (repeat' split) <;> first | rfl | omega) (ri (by rfl)) (by first | rfl | rw [up_same rfl])
        · refine V_aload_n (pc := 76) C dX9_readBar_76 rfl 1 rfl ?_
          refine gf_X9_7 (x := q 1) (pc := 77) C dX9_readBar_77 0 rfl rfl ?_
          refine V_aload_n (pc := 80) C dX9_readBar_80 rfl 1 rfl ?_
          refine gf_X9_135 (x := ((f 3) + 1)) (pc := 81) C dX9_readBar_81 0 rfl rfl ?_
          refine V_iald (f := M1) (pc := 84) C dX9_readBar_84 1 rfl (by omega) (by omega) (Nat.le_of_ble_eq_true rfl) ?_
          have b84 := hM1 ((f 3) + 1)
          refine V_bipush (pc := 85) C dX9_readBar_85 rfl ?_
          refine V_isub (pc := 87) C dX9_readBar_87 ?_
          refine V_goto (pc := 88) 93 C dX9_readBar_88 (by decide) ?_
          refine V_eqt (show ((M1 ((f 3) + 1)) - 48) = chM (f 2) M1 (f 3 + 1) from by unfold chM; split <;> omega) ?_
          refine V_istore_n (lv' := [(2, .int (iI (chM (f 2) M1 (f 3 + 1)))), (1, .int (iI (chM (f 2) M1 (f 3)))), (0, .ref o)]) (pc := 93) C dX9_readBar_93 rfl (by decide) rfl ?_
          have k2 := chM_b (n := f 2) (p := f 3 + 1) hM1
          have b8 := hM20 (4 * chM (f 2) M1 (f 3) + chM (f 2) M1 (f 3 + 1))
          refine V_iload_n (pc := 94) C dX9_readBar_94 rfl 0 rfl ?_
          refine V_i2l (pc := 95) C dX9_readBar_95 (sm_i (by omega)) ?_
          refine V_lconst (k := 0) (pc := 96) C dX9_readBar_96 rfl ?_
          refine V_aload_n (pc := 97) C dX9_readBar_97 rfl 2 rfl ?_
          refine gf_X9_150 (x := f 15) (pc := 98) C dX9_readBar_98 0 rfl rfl ?_
          refine V_iconst (pc := 101) C dX9_readBar_101 ?_
          refine V_isub (pc := 102) C dX9_readBar_102 ?_
          refine V_i2l (pc := 103) C dX9_readBar_103 (sm_i (by omega)) ?_
          refine cs_X9_123 (pc := 104) (rest := []) (wn := fun _ => [(o, .inr (9, fX9 q (up f 3 ((f 3) + 1)))), (q 1, aI (d 0) 72 M1), (q 20, aI (d 1) 24 M20)]) (sn := fun _ => [.int (iI (bI (0 ≤ (chM (f 2) M1 (f 3 + 1)) ∧ (chM (f 2) M1 (f 3 + 1)) ≤ ((f 15) - 1))))]) C dX9_readBar_104 (c_X9_in l D d (chM (f 2) M1 (f 3 + 1)) 0 ((f 15) - 1) (show -9223372036854775808 ≤ (chM (f 2) M1 (f 3 + 1)) ∧ (chM (f 2) M1 (f 3 + 1)) ≤ 9223372036854775807 by omega) (show -9223372036854775808 ≤ 0 ∧ 0 ≤ 9223372036854775807 by omega) (show -9223372036854775808 ≤ ((f 15) - 1) ∧ ((f 15) - 1) ≤ 9223372036854775807 by omega)) [] rfl rfl rfl rfl (Nat.le_of_ble_eq_true rfl) ⟨by omega, by omega⟩ ⟨Nat.zero_le _, Nat.zero_le _⟩ (fun _ => rfl) (fun _ => rfl) (fun _ => rfl) ?_
          intro _ _
          refine V_ifb_eq (pc := 107) 123 C dX9_readBar_107 (by decide) (fun c107 => ?_) (fun c107 => ?_)
          · refine V_iconst (pc := 123) C dX9_readBar_123 ?_
            exact V_zret (pc := 124) C Z dX9_readBar_124 (Or.inl rfl) (0, (f 3) + 1, M20) (by unfold mdBar; (repeat' split) <;> first | rfl | omega) (ri (by rfl)) (by first | rfl | rw [up_same rfl])
          · refine V_aload_n (pc := 110) C dX9_readBar_110 rfl 2 rfl ?_
            refine gf_X9_51 (x := q 20) (pc := 111) C dX9_readBar_111 0 rfl rfl ?_
            refine V_iconst (pc := 114) C dX9_readBar_114 ?_
            refine V_iload_n (pc := 115) C dX9_readBar_115 rfl 1 rfl ?_
            refine V_imul (pc := 116) C dX9_readBar_116 ?_
            refine V_iload_n (pc := 117) C dX9_readBar_117 rfl 0 rfl ?_
            refine V_iadd (pc := 118) C dX9_readBar_118 ?_
            refine V_zald (f := M20) (pc := 119) C dX9_readBar_119 2 rfl (by omega) (by omega) (Nat.le_of_ble_eq_true rfl) ?_
            have b119 := hM20 ((4 * (chM (f 2) M1 (f 3))) + (chM (f 2) M1 (f 3 + 1)))
            refine V_if_eq (pc := 120) 125 C dX9_readBar_120 (by decide) (sm_i (by omega)) (fun c120 => ?_) (fun c120 => ?_)
            · refine V_aload_n (pc := 125) C dX9_readBar_125 rfl 2 rfl ?_
              refine V_dup (pc := 126) C dX9_readBar_126 rfl ?_
              refine gf_X9_135 (x := ((f 3) + 1)) (pc := 127) C dX9_readBar_127 0 rfl rfl ?_
              refine V_iconst (pc := 130) C dX9_readBar_130 ?_
              refine V_iadd (pc := 131) C dX9_readBar_131 ?_
              refine pf_X9_135 (ws' := [(o, .inr (9, fX9 q (up (up f 3 ((f 3) + 1)) 3 (((f 3) + 1) + 1)))), (q 1, aI (d 0) 72 M1), (q 20, aI (d 1) 24 M20)]) (pc := 132) C dX9_readBar_132 0 rfl rfl ?_
              refine V_aload_n (pc := 135) C dX9_readBar_135 rfl 2 rfl ?_
              refine gf_X9_51 (x := q 20) (pc := 136) C dX9_readBar_136 0 rfl rfl ?_
              refine V_iconst (pc := 139) C dX9_readBar_139 ?_
              refine V_iload_n (pc := 140) C dX9_readBar_140 rfl 1 rfl ?_
              refine V_imul (pc := 141) C dX9_readBar_141 ?_
              refine V_iload_n (pc := 142) C dX9_readBar_142 rfl 0 rfl ?_
              refine V_iadd (pc := 143) C dX9_readBar_143 ?_
              refine V_iconst (pc := 144) C dX9_readBar_144 ?_
              refine V_zast (f := M20) (ws' := [(o, .inr (9, fX9 q (up (up f 3 ((f 3) + 1)) 3 (((f 3) + 1) + 1)))), (q 1, aI (d 0) 72 M1), (q 20, aI (d 1) 24 (uI M20 ((4 * (chM (f 2) M1 (f 3))) + (chM (f 2) M1 (f 3 + 1))) 1))]) (pc := 145) C dX9_readBar_145 2 rfl (by omega) (by omega) (Nat.le_of_ble_eq_true rfl) (Or.inr rfl) rfl ?_
              refine V_iconst (pc := 146) C dX9_readBar_146 ?_
              exact V_zret (pc := 147) C Z dX9_readBar_147 (Or.inr rfl) (1, ((f 3) + 1) + 1, uI M20 ((4 * (chM (f 2) M1 (f 3))) + (chM (f 2) M1 (f 3 + 1))) 1) (by unfold mdBar; (repeat' split) <;> first | rfl | omega) (ri (by rfl)) (by first | rfl | rw [up_same rfl])
            · refine V_iconst (pc := 123) C dX9_readBar_123 ?_
              exact V_zret (pc := 124) C Z dX9_readBar_124 (Or.inl rfl) (0, (f 3) + 1, M20) (by unfold mdBar; (repeat' split) <;> first | rfl | omega) (ri (by rfl)) (by first | rfl | rw [up_same rfl])
      · refine V_iconst (pc := 53) C dX9_readBar_53 ?_
        exact V_zret (pc := 54) C Z dX9_readBar_54 (Or.inl rfl) (0, f 3, M20) (by unfold mdBar; (repeat' split) <;> first | rfl | omega) (ri (by rfl)) (by first | rfl | rw [up_same rfl])
set_option maxRecDepth 100000 in
set_option maxHeartbeats 4000000 in
theorem c_X9_readPart (l : Launch) (D : va_G) (d : Nat → ClassId) (o : Nat) (q : Nat → Nat) (f : Nat → Int) (M1 : Int → Int) (M16 : Int → Int) (M17 : Int → Int) (M18 : Int → Int) (M19 : Int → Int) (M20 : Int → Int) (hM1 : bd M1 0 255) (h2 : 0 ≤ f 2 ∧ f 2 ≤ 72) (h3 : 0 ≤ f 3 ∧ f 3 ≤ f 2) (hp : f 3 < f 2) (h14 : 0 ≤ f 14 ∧ f 14 ≤ 6) (h15 : 0 ≤ f 15 ∧ f 15 ≤ 4) (hM20 : bd M20 0 1) : CU l yX9_readPart cX9_readPart 2 (some .boolean) 4 92 D d [.ref o] [(o, .inr (9, fX9 q f)), (q 1, aI (d 0) 72 M1), (q 16, aI (d 0) 6 M16), (q 17, aI (d 0) 6 M17), (q 18, aI (d 0) 4 M18), (q 19, aI (d 0) 4 M19), (q 20, aI (d 1) 24 M20)] (fun (u : Int × (Int × Int × Int × (Int → Int) × (Int → Int) × (Int → Int) × (Int → Int) × (Int → Int))) => u = mdPart (f 2) M1 (f 3, f 14, f 15, M16, M17, M18, M19, M20)) (fun (u : Int × (Int × Int × Int × (Int → Int) × (Int → Int) × (Int → Int) × (Int → Int) × (Int → Int))) => some (.int (iI (u.1)))) (fun (u : Int × (Int × Int × Int × (Int → Int) × (Int → Int) × (Int → Int) × (Int → Int) × (Int → Int))) => [(o, .inr (9, fX9 q (up (up (up f 3 u.2.1) 14 u.2.2.1) 15 u.2.2.2.1))), (q 1, aI (d 0) 72 M1), (q 16, aI (d 0) 6 u.2.2.2.2.1), (q 17, aI (d 0) 6 u.2.2.2.2.2.1), (q 18, aI (d 0) 4 u.2.2.2.2.2.2.1), (q 19, aI (d 0) 4 u.2.2.2.2.2.2.2.1), (q 20, aI (d 1) 24 u.2.2.2.2.2.2.2.2)]) := by
  refine CU.mk (own := RX9) (lv := [(0, .ref o)]) rfl (by decide) (Nat.le_of_ble_eq_true rfl) rfl ?_
  intro p9 e9 R9 s9 m9 args9 below9 meth9 c9 A9 Q9 hRf hRl C Z
  refine V_aload_n (pc := 0) C dX9_readPart_0 rfl 0 rfl ?_
  refine gf_X9_7 (x := q 1) (pc := 1) C dX9_readPart_1 0 rfl rfl ?_
  refine V_aload_n (pc := 4) C dX9_readPart_4 rfl 0 rfl ?_
  refine gf_X9_135 (x := f 3) (pc := 5) C dX9_readPart_5 0 rfl rfl ?_
  refine V_iald (f := M1) (pc := 8) C dX9_readPart_8 1 rfl (by omega) (by omega) (Nat.le_of_ble_eq_true rfl) ?_
  have b8 := hM1 (f 3)
  refine V_istore_n (lv' := [(1, .int (iI (M1 (f 3)))), (0, .ref o)]) (pc := 9) C dX9_readPart_9 rfl (by decide) rfl ?_
  refine V_iload_n (pc := 10) C dX9_readPart_10 rfl 0 rfl ?_
  refine V_bipush (pc := 11) C dX9_readPart_11 rfl ?_
  refine V_icmp_ne (pc := 13) 40 C dX9_readPart_13 (by decide) (sm_i (by omega)) (sm_i (by decide)) (fun c13 => ?_) (fun c13 => ?_)
  · refine V_iload_n (pc := 40) C dX9_readPart_40 rfl 0 rfl ?_
    refine V_bipush (pc := 41) C dX9_readPart_41 rfl ?_
    refine V_icmp_ne (pc := 43) 69 C dX9_readPart_43 (by decide) (sm_i (by omega)) (sm_i (by decide)) (fun c43 => ?_) (fun c43 => ?_)
    · refine V_iload_n (pc := 69) C dX9_readPart_69 rfl 0 rfl ?_
      refine V_bipush (pc := 70) C dX9_readPart_70 rfl ?_
      refine V_icmp_ne (pc := 72) 97 C dX9_readPart_72 (by decide) (sm_i (by omega)) (sm_i (by decide)) (fun c72 => ?_) (fun c72 => ?_)
      · refine V_iconst (pc := 97) C dX9_readPart_97 ?_
        exact V_zret (pc := 98) C Z dX9_readPart_98 (Or.inl rfl) (0, f 3, f 14, f 15, M16, M17, M18, M19, M20) (by rw [mdPart_m]; first | rw [if_pos (by omega), ← hu] | rw [if_neg (by omega), if_pos (by omega), ← hu] | rw [if_neg (by omega), if_neg (by omega), if_pos (by omega), ← hu] | rw [if_neg (by omega), if_neg (by omega), if_neg (by omega)]) (ri (by rfl)) (by first | rfl | rw [up_same rfl] | rw [up_same rfl, up_same rfl] | rw [up_same rfl, up_same rfl, up_same rfl])
      · refine V_aload_n (pc := 75) C dX9_readPart_75 rfl 1 rfl ?_
        refine cv_X9_164 (pc := 76) (rest := []) (wn := fun _ => [(o, .inr (9, fX9 q f)), (q 1, aI (d 0) 72 M1), (q 16, aI (d 0) 6 M16), (q 17, aI (d 0) 6 M17), (q 18, aI (d 0) 4 M18), (q 19, aI (d 0) 4 M19), (q 20, aI (d 1) 24 M20)]) (sn := fun _ => [.int (iI (bI (anyM M20 ((f 15)) ((f 14)) < (f 14) * (f 15))))]) C dX9_readPart_76 (c_X9_hasAny l D d o q f M20 hM20 h14 h15) [0, 6] rfl rfl 0 rfl rfl rfl (Nat.le_of_ble_eq_true rfl) ⟨by omega, by omega⟩ ⟨Nat.zero_le _, Nat.zero_le _⟩ (fun _ => rfl) (fun _ => rfl) (fun _ => rfl) ?_
        intro _ _
        refine V_ifb_eq (pc := 79) 97 C dX9_readPart_79 (by decide) (fun c79 => ?_) (fun c79 => ?_)
        · refine V_iconst (pc := 97) C dX9_readPart_97 ?_
          exact V_zret (pc := 98) C Z dX9_readPart_98 (Or.inl rfl) (0, f 3, f 14, f 15, M16, M17, M18, M19, M20) (by rw [mdPart_m]; first | rw [if_pos (by omega), ← hu] | rw [if_neg (by omega), if_pos (by omega), ← hu] | rw [if_neg (by omega), if_neg (by omega), if_pos (by omega), ← hu] | rw [if_neg (by omega), if_neg (by omega), if_neg (by omega)]) (ri (by rfl)) (by first | rfl | rw [up_same rfl] | rw [up_same rfl, up_same rfl] | rw [up_same rfl, up_same rfl, up_same rfl])
        · refine V_aload_n (pc := 82) C dX9_readPart_82 rfl 1 rfl ?_
          refine V_dup (pc := 83) C dX9_readPart_83 rfl ?_
          refine gf_X9_135 (x := f 3) (pc := 84) C dX9_readPart_84 0 rfl rfl ?_
          refine V_iconst (pc := 87) C dX9_readPart_87 ?_
          refine V_iadd (pc := 88) C dX9_readPart_88 ?_
          refine pf_X9_135 (ws' := [(o, .inr (9, fX9 q (up f 3 ((f 3) + 1)))), (q 1, aI (d 0) 72 M1), (q 16, aI (d 0) 6 M16), (q 17, aI (d 0) 6 M17), (q 18, aI (d 0) 4 M18), (q 19, aI (d 0) 4 M19), (q 20, aI (d 1) 24 M20)]) (pc := 89) C dX9_readPart_89 0 rfl rfl ?_
          refine V_aload_n (pc := 92) C dX9_readPart_92 rfl 1 rfl ?_
          refine cv_X9_167 (pc := 93) (rest := []) (wn := fun u => [(o, .inr (9, fX9 q (up (up f 3 ((f 3) + 1)) 3 u.2.1))), (q 1, aI (d 0) 72 M1), (q 16, aI (d 0) 6 M16), (q 17, aI (d 0) 6 M17), (q 18, aI (d 0) 4 M18), (q 19, aI (d 0) 4 M19), (q 20, aI (d 1) 24 u.2.2)]) (sn := fun u => [.int (iI u.1)]) C dX9_readPart_93 (c_X9_readBar l D d o q (up f 3 ((f 3) + 1)) M1 M20 hM1 h2 (show 0 ≤ ((f 3) + 1) ∧ ((f 3) + 1) ≤ (f 2) by omega) h14 h15 hM20) [0, 1, 6] rfl rfl 0 rfl rfl rfl (Nat.le_of_ble_eq_true rfl) ⟨by omega, by omega⟩ ⟨Nat.zero_le _, Nat.zero_le _⟩ (fun u => rfl) (fun u => rfl) (fun u => rfl) ?_
          rintro ⟨z1, p1, y1⟩ hu
          have hu : (z1, p1, y1) = mdBar (f 2) M1 (f 3 + 1) (f 14) (f 15) M20 := hu
          exact V_zret (pc := 96) C Z dX9_readPart_96 (by first | (have k9 := mdPerson_01 (n := f 2) (S := M1) (p := f 3 + 1) (P := f 14) (A := M16) (B := M17); rw [← hu] at k9; exact k9) | (have k9 := mdCounter_01 (n := f 2) (S := M1) (p := f 3 + 1) (P := f 15) (A := M18) (B := M19); rw [← hu] at k9; exact k9) | (have k9 := mdBar_01 (n := f 2) (S := M1) (p := f 3 + 1) (P := f 14) (K := f 15) (G := M20); rw [← hu] at k9; exact k9)) (z1, p1, f 14, f 15, M16, M17, M18, M19, y1) (by rw [mdPart_m]; first | rw [if_pos (by omega), ← hu] | rw [if_neg (by omega), if_pos (by omega), ← hu] | rw [if_neg (by omega), if_neg (by omega), if_pos (by omega), ← hu] | rw [if_neg (by omega), if_neg (by omega), if_neg (by omega)]) (ri (by rfl)) (by first | rfl | rw [up_same rfl] | rw [up_same rfl, up_same rfl] | rw [up_same rfl, up_same rfl, up_same rfl])
    · refine V_aload_n (pc := 46) C dX9_readPart_46 rfl 1 rfl ?_
      refine gf_X9_150 (x := f 15) (pc := 47) C dX9_readPart_47 0 rfl rfl ?_
      refine V_iconst (pc := 50) C dX9_readPart_50 ?_
      refine V_icmp_ge (pc := 51) 69 C dX9_readPart_51 (by decide) (sm_i (by omega)) (sm_i (by decide)) (fun c51 => ?_) (fun c51 => ?_)
      · refine V_iload_n (pc := 69) C dX9_readPart_69 rfl 0 rfl ?_
        refine V_bipush (pc := 70) C dX9_readPart_70 rfl ?_
        refine V_icmp_ne (pc := 72) 97 C dX9_readPart_72 (by decide) (sm_i (by omega)) (sm_i (by decide)) (fun c72 => ?_) (fun c72 => ?_)
        · refine V_iconst (pc := 97) C dX9_readPart_97 ?_
          exact V_zret (pc := 98) C Z dX9_readPart_98 (Or.inl rfl) (0, f 3, f 14, f 15, M16, M17, M18, M19, M20) (by rw [mdPart_m]; first | rw [if_pos (by omega), ← hu] | rw [if_neg (by omega), if_pos (by omega), ← hu] | rw [if_neg (by omega), if_neg (by omega), if_pos (by omega), ← hu] | rw [if_neg (by omega), if_neg (by omega), if_neg (by omega)]) (ri (by rfl)) (by first | rfl | rw [up_same rfl] | rw [up_same rfl, up_same rfl] | rw [up_same rfl, up_same rfl, up_same rfl])
        · refine V_aload_n (pc := 75) C dX9_readPart_75 rfl 1 rfl ?_
          refine cv_X9_164 (pc := 76) (rest := []) (wn := fun _ => [(o, .inr (9, fX9 q f)), (q 1, aI (d 0) 72 M1), (q 16, aI (d 0) 6 M16), (q 17, aI (d 0) 6 M17), (q 18, aI (d 0) 4 M18), (q 19, aI (d 0) 4 M19), (q 20, aI (d 1) 24 M20)]) (sn := fun _ => [.int (iI (bI (anyM M20 ((f 15)) ((f 14)) < (f 14) * (f 15))))]) C dX9_readPart_76 (c_X9_hasAny l D d o q f M20 hM20 h14 h15) [0, 6] rfl rfl 0 rfl rfl rfl (Nat.le_of_ble_eq_true rfl) ⟨by omega, by omega⟩ ⟨Nat.zero_le _, Nat.zero_le _⟩ (fun _ => rfl) (fun _ => rfl) (fun _ => rfl) ?_
          intro _ _
          refine V_ifb_eq (pc := 79) 97 C dX9_readPart_79 (by decide) (fun c79 => ?_) (fun c79 => ?_)
          · refine V_iconst (pc := 97) C dX9_readPart_97 ?_
            exact V_zret (pc := 98) C Z dX9_readPart_98 (Or.inl rfl) (0, f 3, f 14, f 15, M16, M17, M18, M19, M20) (by rw [mdPart_m]; first | rw [if_pos (by omega), ← hu] | rw [if_neg (by omega), if_pos (by omega), ← hu] | rw [if_neg (by omega), if_neg (by omega), if_pos (by omega), ← hu] | rw [if_neg (by omega), if_neg (by omega), if_neg (by omega)]) (ri (by rfl)) (by first | rfl | rw [up_same rfl] | rw [up_same rfl, up_same rfl] | rw [up_same rfl, up_same rfl, up_same rfl])
          · refine V_aload_n (pc := 82) C dX9_readPart_82 rfl 1 rfl ?_
            refine V_dup (pc := 83) C dX9_readPart_83 rfl ?_
            refine gf_X9_135 (x := f 3) (pc := 84) C dX9_readPart_84 0 rfl rfl ?_
            refine V_iconst (pc := 87) C dX9_readPart_87 ?_
            refine V_iadd (pc := 88) C dX9_readPart_88 ?_
            refine pf_X9_135 (ws' := [(o, .inr (9, fX9 q (up f 3 ((f 3) + 1)))), (q 1, aI (d 0) 72 M1), (q 16, aI (d 0) 6 M16), (q 17, aI (d 0) 6 M17), (q 18, aI (d 0) 4 M18), (q 19, aI (d 0) 4 M19), (q 20, aI (d 1) 24 M20)]) (pc := 89) C dX9_readPart_89 0 rfl rfl ?_
            refine V_aload_n (pc := 92) C dX9_readPart_92 rfl 1 rfl ?_
            refine cv_X9_167 (pc := 93) (rest := []) (wn := fun u => [(o, .inr (9, fX9 q (up (up f 3 ((f 3) + 1)) 3 u.2.1))), (q 1, aI (d 0) 72 M1), (q 16, aI (d 0) 6 M16), (q 17, aI (d 0) 6 M17), (q 18, aI (d 0) 4 M18), (q 19, aI (d 0) 4 M19), (q 20, aI (d 1) 24 u.2.2)]) (sn := fun u => [.int (iI u.1)]) C dX9_readPart_93 (c_X9_readBar l D d o q (up f 3 ((f 3) + 1)) M1 M20 hM1 h2 (show 0 ≤ ((f 3) + 1) ∧ ((f 3) + 1) ≤ (f 2) by omega) h14 h15 hM20) [0, 1, 6] rfl rfl 0 rfl rfl rfl (Nat.le_of_ble_eq_true rfl) ⟨by omega, by omega⟩ ⟨Nat.zero_le _, Nat.zero_le _⟩ (fun u => rfl) (fun u => rfl) (fun u => rfl) ?_
            rintro ⟨z1, p1, y1⟩ hu
            have hu : (z1, p1, y1) = mdBar (f 2) M1 (f 3 + 1) (f 14) (f 15) M20 := hu
            exact V_zret (pc := 96) C Z dX9_readPart_96 (by first | (have k9 := mdPerson_01 (n := f 2) (S := M1) (p := f 3 + 1) (P := f 14) (A := M16) (B := M17); rw [← hu] at k9; exact k9) | (have k9 := mdCounter_01 (n := f 2) (S := M1) (p := f 3 + 1) (P := f 15) (A := M18) (B := M19); rw [← hu] at k9; exact k9) | (have k9 := mdBar_01 (n := f 2) (S := M1) (p := f 3 + 1) (P := f 14) (K := f 15) (G := M20); rw [← hu] at k9; exact k9)) (z1, p1, f 14, f 15, M16, M17, M18, M19, y1) (by rw [mdPart_m]; first | rw [if_pos (by omega), ← hu] | rw [if_neg (by omega), if_pos (by omega), ← hu] | rw [if_neg (by omega), if_neg (by omega), if_pos (by omega), ← hu] | rw [if_neg (by omega), if_neg (by omega), if_neg (by omega)]) (ri (by rfl)) (by first | rfl | rw [up_same rfl] | rw [up_same rfl, up_same rfl] | rw [up_same rfl, up_same rfl, up_same rfl])
      · refine V_aload_n (pc := 54) C dX9_readPart_54 rfl 1 rfl ?_
        refine V_dup (pc := 55) C dX9_readPart_55 rfl ?_
        refine gf_X9_135 (x := f 3) (pc := 56) C dX9_readPart_56 0 rfl rfl ?_
        refine V_iconst (pc := 59) C dX9_readPart_59 ?_
        refine V_iadd (pc := 60) C dX9_readPart_60 ?_
        refine pf_X9_135 (ws' := [(o, .inr (9, fX9 q (up f 3 ((f 3) + 1)))), (q 1, aI (d 0) 72 M1), (q 16, aI (d 0) 6 M16), (q 17, aI (d 0) 6 M17), (q 18, aI (d 0) 4 M18), (q 19, aI (d 0) 4 M19), (q 20, aI (d 1) 24 M20)]) (pc := 61) C dX9_readPart_61 0 rfl rfl ?_
        refine V_aload_n (pc := 64) C dX9_readPart_64 rfl 1 rfl ?_
        refine cv_X9_161 (pc := 65) (rest := []) (wn := fun u => [(o, .inr (9, fX9 q (up (up (up f 3 ((f 3) + 1)) 3 u.2.1) 15 u.2.2.1))), (q 1, aI (d 0) 72 M1), (q 16, aI (d 0) 6 M16), (q 17, aI (d 0) 6 M17), (q 18, aI (d 0) 4 u.2.2.2.1), (q 19, aI (d 0) 4 u.2.2.2.2), (q 20, aI (d 1) 24 M20)]) (sn := fun u => [.int (iI u.1)]) C dX9_readPart_65 (c_X9_readCounter l D d o q (up f 3 ((f 3) + 1)) M1 M18 M19 hM1 h2 (show 0 ≤ ((f 3) + 1) ∧ ((f 3) + 1) ≤ (f 2) by omega) (show 0 ≤ (f 15) ∧ (f 15) < 4 by omega)) [0, 1, 4, 5] rfl rfl 0 rfl rfl rfl (Nat.le_of_ble_eq_true rfl) ⟨by omega, by omega⟩ ⟨Nat.zero_le _, Nat.zero_le _⟩ (fun u => rfl) (fun u => rfl) (fun u => rfl) ?_
        rintro ⟨z1, p1, n1, y1, y2⟩ hu
        have hu : (z1, p1, n1, y1, y2) = mdCounter (f 2) M1 (f 3 + 1) (f 15) M18 M19 := hu
        exact V_zret (pc := 68) C Z dX9_readPart_68 (by first | (have k9 := mdPerson_01 (n := f 2) (S := M1) (p := f 3 + 1) (P := f 14) (A := M16) (B := M17); rw [← hu] at k9; exact k9) | (have k9 := mdCounter_01 (n := f 2) (S := M1) (p := f 3 + 1) (P := f 15) (A := M18) (B := M19); rw [← hu] at k9; exact k9) | (have k9 := mdBar_01 (n := f 2) (S := M1) (p := f 3 + 1) (P := f 14) (K := f 15) (G := M20); rw [← hu] at k9; exact k9)) (z1, p1, f 14, n1, M16, M17, y1, y2, M20) (by rw [mdPart_m]; first | rw [if_pos (by omega), ← hu] | rw [if_neg (by omega), if_pos (by omega), ← hu] | rw [if_neg (by omega), if_neg (by omega), if_pos (by omega), ← hu] | rw [if_neg (by omega), if_neg (by omega), if_neg (by omega)]) (ri (by rfl)) (by first | rfl | rw [up_same rfl] | rw [up_same rfl, up_same rfl] | rw [up_same rfl, up_same rfl, up_same rfl])
  · refine V_aload_n (pc := 16) C dX9_readPart_16 rfl 1 rfl ?_
    refine gf_X9_147 (x := f 14) (pc := 17) C dX9_readPart_17 0 rfl rfl ?_
    refine V_bipush (pc := 20) C dX9_readPart_20 rfl ?_
    refine V_icmp_ge (pc := 22) 40 C dX9_readPart_22 (by decide) (sm_i (by omega)) (sm_i (by decide)) (fun c22 => ?_) (fun c22 => ?_)
    · refine V_iload_n (pc := 40) C dX9_readPart_40 rfl 0 rfl ?_
      refine V_bipush (pc := 41) C dX9_readPart_41 rfl ?_
      refine V_icmp_ne (pc := 43) 69 C dX9_readPart_43 (by decide) (sm_i (by omega)) (sm_i (by decide)) (fun c43 => ?_) (fun c43 => ?_)
      · refine V_iload_n (pc := 69) C dX9_readPart_69 rfl 0 rfl ?_
        refine V_bipush (pc := 70) C dX9_readPart_70 rfl ?_
        refine V_icmp_ne (pc := 72) 97 C dX9_readPart_72 (by decide) (sm_i (by omega)) (sm_i (by decide)) (fun c72 => ?_) (fun c72 => ?_)
        · refine V_iconst (pc := 97) C dX9_readPart_97 ?_
          exact V_zret (pc := 98) C Z dX9_readPart_98 (Or.inl rfl) (0, f 3, f 14, f 15, M16, M17, M18, M19, M20) (by rw [mdPart_m]; first | rw [if_pos (by omega), ← hu] | rw [if_neg (by omega), if_pos (by omega), ← hu] | rw [if_neg (by omega), if_neg (by omega), if_pos (by omega), ← hu] | rw [if_neg (by omega), if_neg (by omega), if_neg (by omega)]) (ri (by rfl)) (by first | rfl | rw [up_same rfl] | rw [up_same rfl, up_same rfl] | rw [up_same rfl, up_same rfl, up_same rfl])
        · refine V_aload_n (pc := 75) C dX9_readPart_75 rfl 1 rfl ?_
          refine cv_X9_164 (pc := 76) (rest := []) (wn := fun _ => [(o, .inr (9, fX9 q f)), (q 1, aI (d 0) 72 M1), (q 16, aI (d 0) 6 M16), (q 17, aI (d 0) 6 M17), (q 18, aI (d 0) 4 M18), (q 19, aI (d 0) 4 M19), (q 20, aI (d 1) 24 M20)]) (sn := fun _ => [.int (iI (bI (anyM M20 ((f 15)) ((f 14)) < (f 14) * (f 15))))]) C dX9_readPart_76 (c_X9_hasAny l D d o q f M20 hM20 h14 h15) [0, 6] rfl rfl 0 rfl rfl rfl (Nat.le_of_ble_eq_true rfl) ⟨by omega, by omega⟩ ⟨Nat.zero_le _, Nat.zero_le _⟩ (fun _ => rfl) (fun _ => rfl) (fun _ => rfl) ?_
          intro _ _
          refine V_ifb_eq (pc := 79) 97 C dX9_readPart_79 (by decide) (fun c79 => ?_) (fun c79 => ?_)
          · refine V_iconst (pc := 97) C dX9_readPart_97 ?_
            exact V_zret (pc := 98) C Z dX9_readPart_98 (Or.inl rfl) (0, f 3, f 14, f 15, M16, M17, M18, M19, M20) (by rw [mdPart_m]; first | rw [if_pos (by omega), ← hu] | rw [if_neg (by omega), if_pos (by omega), ← hu] | rw [if_neg (by omega), if_neg (by omega), if_pos (by omega), ← hu] | rw [if_neg (by omega), if_neg (by omega), if_neg (by omega)]) (ri (by rfl)) (by first | rfl | rw [up_same rfl] | rw [up_same rfl, up_same rfl] | rw [up_same rfl, up_same rfl, up_same rfl])
          · refine V_aload_n (pc := 82) C dX9_readPart_82 rfl 1 rfl ?_
            refine V_dup (pc := 83) C dX9_readPart_83 rfl ?_
            refine gf_X9_135 (x := f 3) (pc := 84) C dX9_readPart_84 0 rfl rfl ?_
            refine V_iconst (pc := 87) C dX9_readPart_87 ?_
            refine V_iadd (pc := 88) C dX9_readPart_88 ?_
            refine pf_X9_135 (ws' := [(o, .inr (9, fX9 q (up f 3 ((f 3) + 1)))), (q 1, aI (d 0) 72 M1), (q 16, aI (d 0) 6 M16), (q 17, aI (d 0) 6 M17), (q 18, aI (d 0) 4 M18), (q 19, aI (d 0) 4 M19), (q 20, aI (d 1) 24 M20)]) (pc := 89) C dX9_readPart_89 0 rfl rfl ?_
            refine V_aload_n (pc := 92) C dX9_readPart_92 rfl 1 rfl ?_
            refine cv_X9_167 (pc := 93) (rest := []) (wn := fun u => [(o, .inr (9, fX9 q (up (up f 3 ((f 3) + 1)) 3 u.2.1))), (q 1, aI (d 0) 72 M1), (q 16, aI (d 0) 6 M16), (q 17, aI (d 0) 6 M17), (q 18, aI (d 0) 4 M18), (q 19, aI (d 0) 4 M19), (q 20, aI (d 1) 24 u.2.2)]) (sn := fun u => [.int (iI u.1)]) C dX9_readPart_93 (c_X9_readBar l D d o q (up f 3 ((f 3) + 1)) M1 M20 hM1 h2 (show 0 ≤ ((f 3) + 1) ∧ ((f 3) + 1) ≤ (f 2) by omega) h14 h15 hM20) [0, 1, 6] rfl rfl 0 rfl rfl rfl (Nat.le_of_ble_eq_true rfl) ⟨by omega, by omega⟩ ⟨Nat.zero_le _, Nat.zero_le _⟩ (fun u => rfl) (fun u => rfl) (fun u => rfl) ?_
            rintro ⟨z1, p1, y1⟩ hu
            have hu : (z1, p1, y1) = mdBar (f 2) M1 (f 3 + 1) (f 14) (f 15) M20 := hu
            exact V_zret (pc := 96) C Z dX9_readPart_96 (by first | (have k9 := mdPerson_01 (n := f 2) (S := M1) (p := f 3 + 1) (P := f 14) (A := M16) (B := M17); rw [← hu] at k9; exact k9) | (have k9 := mdCounter_01 (n := f 2) (S := M1) (p := f 3 + 1) (P := f 15) (A := M18) (B := M19); rw [← hu] at k9; exact k9) | (have k9 := mdBar_01 (n := f 2) (S := M1) (p := f 3 + 1) (P := f 14) (K := f 15) (G := M20); rw [← hu] at k9; exact k9)) (z1, p1, f 14, f 15, M16, M17, M18, M19, y1) (by rw [mdPart_m]; first | rw [if_pos (by omega), ← hu] | rw [if_neg (by omega), if_pos (by omega), ← hu] | rw [if_neg (by omega), if_neg (by omega), if_pos (by omega), ← hu] | rw [if_neg (by omega), if_neg (by omega), if_neg (by omega)]) (ri (by rfl)) (by first | rfl | rw [up_same rfl] | rw [up_same rfl, up_same rfl] | rw [up_same rfl, up_same rfl, up_same rfl])
      · refine V_aload_n (pc := 46) C dX9_readPart_46 rfl 1 rfl ?_
        refine gf_X9_150 (x := f 15) (pc := 47) C dX9_readPart_47 0 rfl rfl ?_
        refine V_iconst (pc := 50) C dX9_readPart_50 ?_
        refine V_icmp_ge (pc := 51) 69 C dX9_readPart_51 (by decide) (sm_i (by omega)) (sm_i (by decide)) (fun c51 => ?_) (fun c51 => ?_)
        · refine V_iload_n (pc := 69) C dX9_readPart_69 rfl 0 rfl ?_
          refine V_bipush (pc := 70) C dX9_readPart_70 rfl ?_
          refine V_icmp_ne (pc := 72) 97 C dX9_readPart_72 (by decide) (sm_i (by omega)) (sm_i (by decide)) (fun c72 => ?_) (fun c72 => ?_)
          · refine V_iconst (pc := 97) C dX9_readPart_97 ?_
            exact V_zret (pc := 98) C Z dX9_readPart_98 (Or.inl rfl) (0, f 3, f 14, f 15, M16, M17, M18, M19, M20) (by rw [mdPart_m]; first | rw [if_pos (by omega), ← hu] | rw [if_neg (by omega), if_pos (by omega), ← hu] | rw [if_neg (by omega), if_neg (by omega), if_pos (by omega), ← hu] | rw [if_neg (by omega), if_neg (by omega), if_neg (by omega)]) (ri (by rfl)) (by first | rfl | rw [up_same rfl] | rw [up_same rfl, up_same rfl] | rw [up_same rfl, up_same rfl, up_same rfl])
          · refine V_aload_n (pc := 75) C dX9_readPart_75 rfl 1 rfl ?_
            refine cv_X9_164 (pc := 76) (rest := []) (wn := fun _ => [(o, .inr (9, fX9 q f)), (q 1, aI (d 0) 72 M1), (q 16, aI (d 0) 6 M16), (q 17, aI (d 0) 6 M17), (q 18, aI (d 0) 4 M18), (q 19, aI (d 0) 4 M19), (q 20, aI (d 1) 24 M20)]) (sn := fun _ => [.int (iI (bI (anyM M20 ((f 15)) ((f 14)) < (f 14) * (f 15))))]) C dX9_readPart_76 (c_X9_hasAny l D d o q f M20 hM20 h14 h15) [0, 6] rfl rfl 0 rfl rfl rfl (Nat.le_of_ble_eq_true rfl) ⟨by omega, by omega⟩ ⟨Nat.zero_le _, Nat.zero_le _⟩ (fun _ => rfl) (fun _ => rfl) (fun _ => rfl) ?_
            intro _ _
            refine V_ifb_eq (pc := 79) 97 C dX9_readPart_79 (by decide) (fun c79 => ?_) (fun c79 => ?_)
            · refine V_iconst (pc := 97) C dX9_readPart_97 ?_
              exact V_zret (pc := 98) C Z dX9_readPart_98 (Or.inl rfl) (0, f 3, f 14, f 15, M16, M17, M18, M19, M20) (by rw [mdPart_m]; first | rw [if_pos (by omega), ← hu] | rw [if_neg (by omega), if_pos (by omega), ← hu] | rw [if_neg (by omega), if_neg (by omega), if_pos (by omega), ← hu] | rw [if_neg (by omega), if_neg (by omega), if_neg (by omega)]) (ri (by rfl)) (by first | rfl | rw [up_same rfl] | rw [up_same rfl, up_same rfl] | rw [up_same rfl, up_same rfl, up_same rfl])
            · refine V_aload_n (pc := 82) C dX9_readPart_82 rfl 1 rfl ?_
              refine V_dup (pc := 83) C dX9_readPart_83 rfl ?_
              refine gf_X9_135 (x := f 3) (pc := 84) C dX9_readPart_84 0 rfl rfl ?_
              refine V_iconst (pc := 87) C dX9_readPart_87 ?_
              refine V_iadd (pc := 88) C dX9_readPart_88 ?_
              refine pf_X9_135 (ws' := [(o, .inr (9, fX9 q (up f 3 ((f 3) + 1)))), (q 1, aI (d 0) 72 M1), (q 16, aI (d 0) 6 M16), (q 17, aI (d 0) 6 M17), (q 18, aI (d 0) 4 M18), (q 19, aI (d 0) 4 M19), (q 20, aI (d 1) 24 M20)]) (pc := 89) C dX9_readPart_89 0 rfl rfl ?_
              refine V_aload_n (pc := 92) C dX9_readPart_92 rfl 1 rfl ?_
              refine cv_X9_167 (pc := 93) (rest := []) (wn := fun u => [(o, .inr (9, fX9 q (up (up f 3 ((f 3) + 1)) 3 u.2.1))), (q 1, aI (d 0) 72 M1), (q 16, aI (d 0) 6 M16), (q 17, aI (d 0) 6 M17), (q 18, aI (d 0) 4 M18), (q 19, aI (d 0) 4 M19), (q 20, aI (d 1) 24 u.2.2)]) (sn := fun u => [.int (iI u.1)]) C dX9_readPart_93 (c_X9_readBar l D d o q (up f 3 ((f 3) + 1)) M1 M20 hM1 h2 (show 0 ≤ ((f 3) + 1) ∧ ((f 3) + 1) ≤ (f 2) by omega) h14 h15 hM20) [0, 1, 6] rfl rfl 0 rfl rfl rfl (Nat.le_of_ble_eq_true rfl) ⟨by omega, by omega⟩ ⟨Nat.zero_le _, Nat.zero_le _⟩ (fun u => rfl) (fun u => rfl) (fun u => rfl) ?_
              rintro ⟨z1, p1, y1⟩ hu
              have hu : (z1, p1, y1) = mdBar (f 2) M1 (f 3 + 1) (f 14) (f 15) M20 := hu
              exact V_zret (pc := 96) C Z dX9_readPart_96 (by first | (have k9 := mdPerson_01 (n := f 2) (S := M1) (p := f 3 + 1) (P := f 14) (A := M16) (B := M17); rw [← hu] at k9; exact k9) | (have k9 := mdCounter_01 (n := f 2) (S := M1) (p := f 3 + 1) (P := f 15) (A := M18) (B := M19); rw [← hu] at k9; exact k9) | (have k9 := mdBar_01 (n := f 2) (S := M1) (p := f 3 + 1) (P := f 14) (K := f 15) (G := M20); rw [← hu] at k9; exact k9)) (z1, p1, f 14, f 15, M16, M17, M18, M19, y1) (by rw [mdPart_m]; first | rw [if_pos (by omega), ← hu] | rw [if_neg (by omega), if_pos (by omega), ← hu] | rw [if_neg (by omega), if_neg (by omega), if_pos (by omega), ← hu] | rw [if_neg (by omega), if_neg (by omega), if_neg (by omega)]) (ri (by rfl)) (by first | rfl | rw [up_same rfl] | rw [up_same rfl, up_same rfl] | rw [up_same rfl, up_same rfl, up_same rfl])
        · refine V_aload_n (pc := 54) C dX9_readPart_54 rfl 1 rfl ?_
          refine V_dup (pc := 55) C dX9_readPart_55 rfl ?_
          refine gf_X9_135 (x := f 3) (pc := 56) C dX9_readPart_56 0 rfl rfl ?_
          refine V_iconst (pc := 59) C dX9_readPart_59 ?_
          refine V_iadd (pc := 60) C dX9_readPart_60 ?_
          refine pf_X9_135 (ws' := [(o, .inr (9, fX9 q (up f 3 ((f 3) + 1)))), (q 1, aI (d 0) 72 M1), (q 16, aI (d 0) 6 M16), (q 17, aI (d 0) 6 M17), (q 18, aI (d 0) 4 M18), (q 19, aI (d 0) 4 M19), (q 20, aI (d 1) 24 M20)]) (pc := 61) C dX9_readPart_61 0 rfl rfl ?_
          refine V_aload_n (pc := 64) C dX9_readPart_64 rfl 1 rfl ?_
          refine cv_X9_161 (pc := 65) (rest := []) (wn := fun u => [(o, .inr (9, fX9 q (up (up (up f 3 ((f 3) + 1)) 3 u.2.1) 15 u.2.2.1))), (q 1, aI (d 0) 72 M1), (q 16, aI (d 0) 6 M16), (q 17, aI (d 0) 6 M17), (q 18, aI (d 0) 4 u.2.2.2.1), (q 19, aI (d 0) 4 u.2.2.2.2), (q 20, aI (d 1) 24 M20)]) (sn := fun u => [.int (iI u.1)]) C dX9_readPart_65 (c_X9_readCounter l D d o q (up f 3 ((f 3) + 1)) M1 M18 M19 hM1 h2 (show 0 ≤ ((f 3) + 1) ∧ ((f 3) + 1) ≤ (f 2) by omega) (show 0 ≤ (f 15) ∧ (f 15) < 4 by omega)) [0, 1, 4, 5] rfl rfl 0 rfl rfl rfl (Nat.le_of_ble_eq_true rfl) ⟨by omega, by omega⟩ ⟨Nat.zero_le _, Nat.zero_le _⟩ (fun u => rfl) (fun u => rfl) (fun u => rfl) ?_
          rintro ⟨z1, p1, n1, y1, y2⟩ hu
          have hu : (z1, p1, n1, y1, y2) = mdCounter (f 2) M1 (f 3 + 1) (f 15) M18 M19 := hu
          exact V_zret (pc := 68) C Z dX9_readPart_68 (by first | (have k9 := mdPerson_01 (n := f 2) (S := M1) (p := f 3 + 1) (P := f 14) (A := M16) (B := M17); rw [← hu] at k9; exact k9) | (have k9 := mdCounter_01 (n := f 2) (S := M1) (p := f 3 + 1) (P := f 15) (A := M18) (B := M19); rw [← hu] at k9; exact k9) | (have k9 := mdBar_01 (n := f 2) (S := M1) (p := f 3 + 1) (P := f 14) (K := f 15) (G := M20); rw [← hu] at k9; exact k9)) (z1, p1, f 14, n1, M16, M17, y1, y2, M20) (by rw [mdPart_m]; first | rw [if_pos (by omega), ← hu] | rw [if_neg (by omega), if_pos (by omega), ← hu] | rw [if_neg (by omega), if_neg (by omega), if_pos (by omega), ← hu] | rw [if_neg (by omega), if_neg (by omega), if_neg (by omega)]) (ri (by rfl)) (by first | rfl | rw [up_same rfl] | rw [up_same rfl, up_same rfl] | rw [up_same rfl, up_same rfl, up_same rfl])
    · refine V_aload_n (pc := 25) C dX9_readPart_25 rfl 1 rfl ?_
      refine V_dup (pc := 26) C dX9_readPart_26 rfl ?_
      refine gf_X9_135 (x := f 3) (pc := 27) C dX9_readPart_27 0 rfl rfl ?_
      refine V_iconst (pc := 30) C dX9_readPart_30 ?_
      refine V_iadd (pc := 31) C dX9_readPart_31 ?_
      refine pf_X9_135 (ws' := [(o, .inr (9, fX9 q (up f 3 ((f 3) + 1)))), (q 1, aI (d 0) 72 M1), (q 16, aI (d 0) 6 M16), (q 17, aI (d 0) 6 M17), (q 18, aI (d 0) 4 M18), (q 19, aI (d 0) 4 M19), (q 20, aI (d 1) 24 M20)]) (pc := 32) C dX9_readPart_32 0 rfl rfl ?_
      refine V_aload_n (pc := 35) C dX9_readPart_35 rfl 1 rfl ?_
      refine cv_X9_157 (pc := 36) (rest := []) (wn := fun u => [(o, .inr (9, fX9 q (up (up (up f 3 ((f 3) + 1)) 3 u.2.1) 14 u.2.2.1))), (q 1, aI (d 0) 72 M1), (q 16, aI (d 0) 6 u.2.2.2.1), (q 17, aI (d 0) 6 u.2.2.2.2), (q 18, aI (d 0) 4 M18), (q 19, aI (d 0) 4 M19), (q 20, aI (d 1) 24 M20)]) (sn := fun u => [.int (iI u.1)]) C dX9_readPart_36 (c_X9_readPerson l D d o q (up f 3 ((f 3) + 1)) M1 M16 M17 hM1 h2 (show 0 ≤ ((f 3) + 1) ∧ ((f 3) + 1) ≤ (f 2) by omega) (show 0 ≤ (f 14) ∧ (f 14) < 6 by omega)) [0, 1, 2, 3] rfl rfl 0 rfl rfl rfl (Nat.le_of_ble_eq_true rfl) ⟨by omega, by omega⟩ ⟨Nat.zero_le _, Nat.zero_le _⟩ (fun u => rfl) (fun u => rfl) (fun u => rfl) ?_
      rintro ⟨z1, p1, n1, y1, y2⟩ hu
      have hu : (z1, p1, n1, y1, y2) = mdPerson (f 2) M1 (f 3 + 1) (f 14) M16 M17 := hu
      exact V_zret (pc := 39) C Z dX9_readPart_39 (by first | (have k9 := mdPerson_01 (n := f 2) (S := M1) (p := f 3 + 1) (P := f 14) (A := M16) (B := M17); rw [← hu] at k9; exact k9) | (have k9 := mdCounter_01 (n := f 2) (S := M1) (p := f 3 + 1) (P := f 15) (A := M18) (B := M19); rw [← hu] at k9; exact k9) | (have k9 := mdBar_01 (n := f 2) (S := M1) (p := f 3 + 1) (P := f 14) (K := f 15) (G := M20); rw [← hu] at k9; exact k9)) (z1, p1, n1, f 15, y1, y2, M18, M19, M20) (by rw [mdPart_m]; first | rw [if_pos (by omega), ← hu] | rw [if_neg (by omega), if_pos (by omega), ← hu] | rw [if_neg (by omega), if_neg (by omega), if_pos (by omega), ← hu] | rw [if_neg (by omega), if_neg (by omega), if_neg (by omega)]) (ri (by rfl)) (by first | rfl | rw [up_same rfl] | rw [up_same rfl, up_same rfl] | rw [up_same rfl, up_same rfl, up_same rfl])
set_option maxRecDepth 100000 in
set_option maxHeartbeats 4000000 in
theorem c_X9_readMarket (l : Launch) (D : va_G) (d : Nat → ClassId) (o : Nat) (q : Nat → Nat) (f : Nat → Int) (M1 : Int → Int) (M16 : Int → Int) (M17 : Int → Int) (M18 : Int → Int) (M19 : Int → Int) (M20 : Int → Int) (s0 : ((Nat → Int) × (Nat → Int) × (Int → Int) × (Int → Int) × (Int → Int) × (Int → Int) × (Int → Int))) (hM1 : bd M1 0 255) (h2 : 0 ≤ f 2 ∧ f 2 ≤ 72) (hB : mdKB (0, 0, 0, M16, M17, M18, M19, M20)) (hK0 : rdK s0) (hR0 : rmR s0 (0, 0, 0, M16, M17, M18, M19, cpI (fun _ => 0) M20 24)) : CU l yX9_readMarket cX9_readMarket 2 (some .int) 5 113 D d [.ref o] [(o, .inr (9, fX9 q f)), (q 1, aI (d 0) 72 M1), (q 16, aI (d 0) 6 M16), (q 17, aI (d 0) 6 M17), (q 18, aI (d 0) 4 M18), (q 19, aI (d 0) 4 M19), (q 20, aI (d 1) 24 M20)] (fun (u : Int × (Int × Int × Int × (Int → Int) × (Int → Int) × (Int → Int) × (Int → Int) × (Int → Int))) => mrE (f 2) M1 s0 u.1 u.2 ∧ mdKB u.2) (fun (u : Int × (Int × Int × Int × (Int → Int) × (Int → Int) × (Int → Int) × (Int → Int) × (Int → Int))) => some (.int (iI (u.1)))) (fun (u : Int × (Int × Int × Int × (Int → Int) × (Int → Int) × (Int → Int) × (Int → Int) × (Int → Int))) => [(o, .inr (9, fX9 q (up (up (up f 3 u.2.1) 14 u.2.2.1) 15 u.2.2.2.1))), (q 1, aI (d 0) 72 M1), (q 16, aI (d 0) 6 u.2.2.2.2.1), (q 17, aI (d 0) 6 u.2.2.2.2.2.1), (q 18, aI (d 0) 4 u.2.2.2.2.2.2.1), (q 19, aI (d 0) 4 u.2.2.2.2.2.2.2.1), (q 20, aI (d 1) 24 u.2.2.2.2.2.2.2.2)]) := by
  refine CU.mk (own := RX9) (lv := [(0, .ref o)]) rfl (by decide) (Nat.le_of_ble_eq_true rfl) rfl ?_
  intro p9 e9 R9 s9 m9 args9 below9 meth9 c9 A9 Q9 hRf hRl C Z
  refine V_aload_n (pc := 0) C dX9_readMarket_0 rfl 0 rfl ?_
  refine V_iconst (pc := 1) C dX9_readMarket_1 ?_
  refine pf_X9_135 (ws' := [(o, .inr (9, fX9 q (up f 3 0))), (q 1, aI (d 0) 72 M1), (q 16, aI (d 0) 6 M16), (q 17, aI (d 0) 6 M17), (q 18, aI (d 0) 4 M18), (q 19, aI (d 0) 4 M19), (q 20, aI (d 1) 24 M20)]) (pc := 2) C dX9_readMarket_2 0 rfl rfl ?_
  refine V_aload_n (pc := 5) C dX9_readMarket_5 rfl 0 rfl ?_
  refine V_iconst (pc := 6) C dX9_readMarket_6 ?_
  refine pf_X9_147 (ws' := [(o, .inr (9, fX9 q (up (up f 3 0) 14 0))), (q 1, aI (d 0) 72 M1), (q 16, aI (d 0) 6 M16), (q 17, aI (d 0) 6 M17), (q 18, aI (d 0) 4 M18), (q 19, aI (d 0) 4 M19), (q 20, aI (d 1) 24 M20)]) (pc := 7) C dX9_readMarket_7 0 rfl rfl ?_
  refine V_aload_n (pc := 10) C dX9_readMarket_10 rfl 0 rfl ?_
  refine V_iconst (pc := 11) C dX9_readMarket_11 ?_
  refine pf_X9_150 (ws' := [(o, .inr (9, fX9 q (up (up (up f 3 0) 14 0) 15 0))), (q 1, aI (d 0) 72 M1), (q 16, aI (d 0) 6 M16), (q 17, aI (d 0) 6 M17), (q 18, aI (d 0) 4 M18), (q 19, aI (d 0) 4 M19), (q 20, aI (d 1) 24 M20)]) (pc := 12) C dX9_readMarket_12 0 rfl rfl ?_
  refine V_iconst (pc := 15) C dX9_readMarket_15 ?_
  refine V_istore_n (lv' := [(1, .int (iI 0)), (0, .ref o)]) (pc := 16) C dX9_readMarket_16 rfl (by decide) rfl ?_
  have L17 : ∀ (nn9 : Nat) (k : Int) (G : Int → Int), (0 ≤ k ∧ k ≤ 24) → (G = cpI (fun _ => 0) M20 k) → ((24 : Int) - k).toNat < nn9 → V p9 l e9 R9 s9 m9 args9 below9 meth9 c9 A9 D Q9 2 0 0 [(o, .inr (9, fX9 q (up (up (up f 3 0) 14 0) 15 0))), (q 1, aI (d 0) 72 M1), (q 16, aI (d 0) 6 M16), (q 17, aI (d 0) 6 M17), (q 18, aI (d 0) 4 M18), (q 19, aI (d 0) 4 M19), (q 20, aI (d 1) 24 G)] [(1, .int (iI k)), (0, .ref o)] 17 [] := by
    intro nn9
    induction nn9 with
    | zero => intro _ _ _ _ hm17; exact absurd hm17 (Nat.not_lt_zero _)
    | succ nn9 ih17 =>
      intro k G hk hG hm17
      refine V_iload_n (pc := 17) C dX9_readMarket_17 rfl 0 rfl ?_
      refine V_bipush (pc := 18) C dX9_readMarket_18 rfl ?_
      refine V_icmp_ge (pc := 20) 36 C dX9_readMarket_20 (by decide) (sm_i (by omega)) (sm_i (by decide)) (fun c20 => ?_) (fun c20 => ?_)
      · have L36 : ∀ (nn9 : Nat) (p : Int) (P : Int) (K : Int) (W16 : Int → Int) (W17 : Int → Int) (W18 : Int → Int) (W19 : Int → Int) (W20 : Int → Int), (0 ≤ p ∧ p ≤ f 2) → ((0 ≤ P ∧ P ≤ 6) ∧ 0 ≤ K ∧ K ≤ 4) → (∃ s : ((Nat → Int) × (Nat → Int) × (Int → Int) × (Int → Int) × (Int → Int) × (Int → Int) × (Int → Int)), adv M1 s0 p s ∧ rmR s (p, P, K, W16, W17, W18, W19, W20)) → (mdKB (p, P, K, W16, W17, W18, W19, W20)) → (f 2 - p).toNat < nn9 → V p9 l e9 R9 s9 m9 args9 below9 meth9 c9 A9 D Q9 2 0 0 [(o, .inr (9, fX9 q (up (up (up f 3 p) 14 P) 15 K))), (q 1, aI (d 0) 72 M1), (q 16, aI (d 0) 6 W16), (q 17, aI (d 0) 6 W17), (q 18, aI (d 0) 4 W18), (q 19, aI (d 0) 4 W19), (q 20, aI (d 1) 24 W20)] [(0, .ref o)] 36 [] := by
          intro nn9
          induction nn9 with
          | zero => intro _ _ _ _ _ _ _ _ _ _ _ _ hm36; exact absurd hm36 (Nat.not_lt_zero _)
          | succ nn9 ih36 =>
            intro p P K W16 W17 W18 W19 W20 hp hPK hA hBd hm36
            have hM20 : bd W20 0 1 := hBd.2.2.2.2
            refine V_aload_n (pc := 36) C dX9_readMarket_36 rfl 0 rfl ?_
            refine gf_X9_135 (x := p) (pc := 37) C dX9_readMarket_37 0 rfl rfl ?_
            refine V_aload_n (pc := 40) C dX9_readMarket_40 rfl 0 rfl ?_
            refine gf_X9_132 (x := f 2) (pc := 41) C dX9_readMarket_41 0 rfl rfl ?_
            refine V_icmp_ge (pc := 44) 59 C dX9_readMarket_44 (by decide) (sm_i (by omega)) (sm_i (by omega)) (fun c44 => ?_) (fun c44 => ?_)
            · refine V_bipush (pc := 59) C dX9_readMarket_59 rfl ?_
              exact V_iret (pc := 61) C Z dX9_readMarket_61 (-9, p, P, K, W16, W17, W18, W19, W20) (⟨by rw [show p = f 2 by omega] at hA ⊢; exact Or.inl ⟨rfl, hA⟩, hBd⟩) (ri (by rfl)) rfl
            · refine V_aload_n (pc := 47) C dX9_readMarket_47 rfl 0 rfl ?_
              refine cv_X9_170 (pc := 48) (rest := []) (wn := fun u => [(o, .inr (9, fX9 q (up (up (up (up (up (up f 3 p) 14 P) 15 K) 3 u.2.1) 14 u.2.2.1) 15 u.2.2.2.1))), (q 1, aI (d 0) 72 M1), (q 16, aI (d 0) 6 u.2.2.2.2.1), (q 17, aI (d 0) 6 u.2.2.2.2.2.1), (q 18, aI (d 0) 4 u.2.2.2.2.2.2.1), (q 19, aI (d 0) 4 u.2.2.2.2.2.2.2.1), (q 20, aI (d 1) 24 u.2.2.2.2.2.2.2.2)]) (sn := fun u => [.int (iI u.1)]) C dX9_readMarket_48 (c_X9_readPart l D d o q (up (up (up f 3 p) 14 P) 15 K) M1 W16 W17 W18 W19 W20 hM1 h2 hp (show p < (f 2) by omega) (show 0 ≤ P ∧ P ≤ 6 by omega) (show 0 ≤ K ∧ K ≤ 4 by omega) hM20) [0, 1, 2, 3, 4, 5, 6] rfl rfl 0 rfl rfl rfl (Nat.le_of_ble_eq_true rfl) ⟨by omega, by omega⟩ ⟨Nat.zero_le _, Nat.zero_le _⟩ (fun u => rfl) (fun u => rfl) (fun u => rfl) ?_
              rintro ⟨z1, p1, P1, K1, y16, y17, y18, y19, y20⟩ hu
              have hu : (z1, p1, P1, K1, y16, y17, y18, y19, y20) = mdPart (f 2) M1 (p, P, K, W16, W17, W18, W19, W20) := hu
              have z9 : z1 = 0 ∨ z1 = 1 := md_01 hu
              obtain ⟨s9, hA9, hR9⟩ := hA
              have st9 := md_go hK0 hA9 c44 hR9 hu
              have bd9 := md_gb (by omega) c44 hBd hu
              refine V_if_ne (pc := 51) 36 C dX9_readMarket_51 (by decide) (sm_i (by omega)) (fun c51 => ?_) (fun c51 => ?_)
              · exact V_sub [0] rfl (ih36 p1 P1 K1 y16 y17 y18 y19 y20 (by have q9 := md_ok st9 c51; omega) (md_pk hK0 st9 c51) (md_ex st9 c51) (bd9) (by have q9 := md_ok st9 c51; omega))
              · refine V_aload_n (pc := 54) C dX9_readMarket_54 rfl 0 rfl ?_
                refine gf_X9_135 (x := p1) (pc := 55) C dX9_readMarket_55 0 rfl rfl ?_
                exact V_iret (pc := 58) C Z dX9_readMarket_58 (p1, p1, P1, K1, y16, y17, y18, y19, y20) (⟨md_no st9 c51, bd9⟩) (ri (by rfl)) rfl
        exact V_sub [1] rfl (L36 ((f 2 - 0).toNat + 1) 0 0 0 M16 M17 M18 M19 G (by omega) (by omega) (by rw [hG, show k = 24 by omega]; exact ⟨s0, ⟨Int.le_refl _, rfl, fun j hj => absurd hj (Nat.not_lt_zero _)⟩, hR0⟩) (by rw [hG]; exact ⟨hB.1, hB.2.1, hB.2.2.1, hB.2.2.2.1, bd_c (bd_0 (by decide) (by decide)) hB.2.2.2.2⟩) (Nat.lt_succ_self _))
      · refine V_aload_n (pc := 23) C dX9_readMarket_23 rfl 1 rfl ?_
        refine gf_X9_51 (x := q 20) (pc := 24) C dX9_readMarket_24 0 rfl rfl ?_
        refine V_iload_n (pc := 27) C dX9_readMarket_27 rfl 0 rfl ?_
        refine V_iconst (pc := 28) C dX9_readMarket_28 ?_
        refine V_zast (f := G) (ws' := [(o, .inr (9, fX9 q (up (up (up f 3 0) 14 0) 15 0))), (q 1, aI (d 0) 72 M1), (q 16, aI (d 0) 6 M16), (q 17, aI (d 0) 6 M17), (q 18, aI (d 0) 4 M18), (q 19, aI (d 0) 4 M19), (q 20, aI (d 1) 24 (uI G k 0))]) (pc := 29) C dX9_readMarket_29 6 rfl (by omega) (by omega) (Nat.le_of_ble_eq_true rfl) (by omega) rfl ?_
        refine V_iinc (lv' := [(1, .int (iI (k + 1))), (0, .ref o)]) (pc := 30) C dX9_readMarket_30 0 rfl (by decide) rfl ?_
        refine V_goto (pc := 33) 17 C dX9_readMarket_33 (by decide) ?_
        exact V_sub [0, 1] rfl (ih17 (k + 1) (uI G k 0) (by omega) (by rw [hG]; exact cpI_f hk.1) (by omega))
  exact V_sub [0, 1] rfl (L17 (((24 : Int) - 0).toNat + 1) 0 M20 (by omega) ((cpI_0 _ _).symm) (Nat.lt_succ_self _))
set_option maxRecDepth 100000 in
set_option maxHeartbeats 4000000 in
theorem c_X9_fault (l : Launch) (D : va_G) (d : Nat → ClassId) (o : Nat) (q : Nat → Nat) (f : Nat → Int) (M1 : Int → Int) (M16 : Int → Int) (M17 : Int → Int) (M18 : Int → Int) (M19 : Int → Int) (M20 : Int → Int) (s0 : ((Nat → Int) × (Nat → Int) × (Int → Int) × (Int → Int) × (Int → Int) × (Int → Int) × (Int → Int))) (hM1 : bd M1 0 255) (h2 : 0 ≤ f 2 ∧ f 2 ≤ 72) (hB : mdKB (0, 0, 0, M16, M17, M18, M19, M20)) (hK0 : rdK s0) (hR0 : rmR s0 (0, 0, 0, M16, M17, M18, M19, cpI (fun _ => 0) M20 24)) : CU l yX9_fault cX9_fault 1 (some .int) 6 134 D d [.ref o] [(o, .inr (9, fX9 q f)), (q 1, aI (d 0) 72 M1), (q 16, aI (d 0) 6 M16), (q 17, aI (d 0) 6 M17), (q 18, aI (d 0) 4 M18), (q 19, aI (d 0) 4 M19), (q 20, aI (d 1) 24 M20)] (fun (u : Int × (Int × Int × Int × (Int → Int) × (Int → Int) × (Int → Int) × (Int → Int) × (Int → Int))) => mrE (f 2) M1 s0 u.1 u.2 ∧ mdKB u.2) (fun (u : Int × (Int × Int × Int × (Int → Int) × (Int → Int) × (Int → Int) × (Int → Int) × (Int → Int))) => some (.int (iI (u.1)))) (fun (u : Int × (Int × Int × Int × (Int → Int) × (Int → Int) × (Int → Int) × (Int → Int) × (Int → Int))) => [(o, .inr (9, fX9 q (up (up (up (up f 0 0) 3 u.2.1) 14 u.2.2.1) 15 u.2.2.2.1))), (q 1, aI (d 0) 72 M1), (q 16, aI (d 0) 6 u.2.2.2.2.1), (q 17, aI (d 0) 6 u.2.2.2.2.2.1), (q 18, aI (d 0) 4 u.2.2.2.2.2.2.1), (q 19, aI (d 0) 4 u.2.2.2.2.2.2.2.1), (q 20, aI (d 1) 24 u.2.2.2.2.2.2.2.2)]) := by
  refine CU.mk (own := RX9) (lv := [(0, .ref o)]) rfl (by decide) (Nat.le_of_ble_eq_true rfl) rfl ?_
  intro p9 e9 R9 s9 m9 args9 below9 meth9 c9 A9 Q9 hRf hRl C Z
  refine V_aload_n (pc := 0) C dX9_fault_0 rfl 0 rfl ?_
  refine V_iconst (pc := 1) C dX9_fault_1 ?_
  refine pf_X9_117 (ws' := [(o, .inr (9, fX9 q (up f 0 0))), (q 1, aI (d 0) 72 M1), (q 16, aI (d 0) 6 M16), (q 17, aI (d 0) 6 M17), (q 18, aI (d 0) 4 M18), (q 19, aI (d 0) 4 M19), (q 20, aI (d 1) 24 M20)]) (pc := 2) C dX9_fault_2 0 rfl rfl ?_
  refine V_aload_n (pc := 5) C dX9_fault_5 rfl 0 rfl ?_
  refine cv_X9_173 (pc := 6) (rest := []) (wn := fun u => [(o, .inr (9, fX9 q (up (up (up (up f 0 0) 3 u.2.1) 14 u.2.2.1) 15 u.2.2.2.1))), (q 1, aI (d 0) 72 M1), (q 16, aI (d 0) 6 u.2.2.2.2.1), (q 17, aI (d 0) 6 u.2.2.2.2.2.1), (q 18, aI (d 0) 4 u.2.2.2.2.2.2.1), (q 19, aI (d 0) 4 u.2.2.2.2.2.2.2.1), (q 20, aI (d 1) 24 u.2.2.2.2.2.2.2.2)]) (sn := fun u => [.int (iI u.1)]) C dX9_fault_6 (c_X9_readMarket l D d o q (up f 0 0) M1 M16 M17 M18 M19 M20 s0 hM1 h2 hB hK0 hR0) [0, 1, 2, 3, 4, 5, 6] rfl rfl 0 rfl rfl rfl (Nat.le_of_ble_eq_true rfl) ⟨by omega, by omega⟩ ⟨Nat.zero_le _, Nat.zero_le _⟩ (fun u => rfl) (fun u => rfl) (fun u => rfl) ?_
  rintro ⟨z1, p1, P1, K1, y16, y17, y18, y19, y20⟩ hu
  exact V_iret (pc := 9) C Z dX9_fault_9 (z1, p1, P1, K1, y16, y17, y18, y19, y20) hu (ri (by rfl)) rfl
set_option maxRecDepth 100000 in
set_option maxHeartbeats 4000000 in
theorem c_X9_market_no (l : Launch) (D : va_G) (d : Nat → ClassId) (o : Nat) (q : Nat → Nat) (f : Nat → Int) (M1 : Int → Int) (M16 : Int → Int) (M17 : Int → Int) (M18 : Int → Int) (M19 : Int → Int) (M20 : Int → Int) (s0 : ((Nat → Int) × (Nat → Int) × (Int → Int) × (Int → Int) × (Int → Int) × (Int → Int) × (Int → Int))) (hM1 : bd M1 0 255) (h2 : 0 ≤ f 2 ∧ f 2 ≤ 72) (hB : mdKB (0, 0, 0, M16, M17, M18, M19, M20)) (hK0 : rdK s0) (hR0 : rmR s0 (0, 0, 0, M16, M17, M18, M19, cpI (fun _ => 0) M20 24)) (hno : ∀ x y, mrE (f 2) M1 s0 x y → ¬ x = -9) : CU l yX9_market cX9_market 2 (some .int) 6 134 D d [.ref o] [(o, .inr (9, fX9 q f)), (q 1, aI (d 0) 72 M1), (q 16, aI (d 0) 6 M16), (q 17, aI (d 0) 6 M17), (q 18, aI (d 0) 4 M18), (q 19, aI (d 0) 4 M19), (q 20, aI (d 1) 24 M20)] (fun (u : (Int × Int × Int × (Int → Int) × (Int → Int) × (Int → Int) × (Int → Int) × (Int → Int))) => mdKB u) (fun (u : (Int × Int × Int × (Int → Int) × (Int → Int) × (Int → Int) × (Int → Int) × (Int → Int))) => some (.int (iI (-3)))) (fun (u : (Int × Int × Int × (Int → Int) × (Int → Int) × (Int → Int) × (Int → Int) × (Int → Int))) => [(o, .inr (9, fX9 q (up (up (up (up f 0 0) 3 u.1) 14 u.2.1) 15 u.2.2.1))), (q 1, aI (d 0) 72 M1), (q 16, aI (d 0) 6 u.2.2.2.1), (q 17, aI (d 0) 6 u.2.2.2.2.1), (q 18, aI (d 0) 4 u.2.2.2.2.2.1), (q 19, aI (d 0) 4 u.2.2.2.2.2.2.1), (q 20, aI (d 1) 24 u.2.2.2.2.2.2.2)]) := by
  refine CU.mk (own := RX9) (lv := [(0, .ref o)]) rfl (by decide) (Nat.le_of_ble_eq_true rfl) rfl ?_
  intro p9 e9 R9 s9 m9 args9 below9 meth9 c9 A9 Q9 hRf hRl C Z
  refine V_aload_n (pc := 0) C dX9_market_0 rfl 0 rfl ?_
  refine V_iconst (pc := 1) C dX9_market_1 ?_
  refine pf_X9_117 (ws' := [(o, .inr (9, fX9 q (up f 0 0))), (q 1, aI (d 0) 72 M1), (q 16, aI (d 0) 6 M16), (q 17, aI (d 0) 6 M17), (q 18, aI (d 0) 4 M18), (q 19, aI (d 0) 4 M19), (q 20, aI (d 1) 24 M20)]) (pc := 2) C dX9_market_2 0 rfl rfl ?_
  refine V_aload_n (pc := 5) C dX9_market_5 rfl 0 rfl ?_
  refine cv_X9_173 (pc := 6) (rest := []) (wn := fun u => [(o, .inr (9, fX9 q (up (up (up (up f 0 0) 3 u.2.1) 14 u.2.2.1) 15 u.2.2.2.1))), (q 1, aI (d 0) 72 M1), (q 16, aI (d 0) 6 u.2.2.2.2.1), (q 17, aI (d 0) 6 u.2.2.2.2.2.1), (q 18, aI (d 0) 4 u.2.2.2.2.2.2.1), (q 19, aI (d 0) 4 u.2.2.2.2.2.2.2.1), (q 20, aI (d 1) 24 u.2.2.2.2.2.2.2.2)]) (sn := fun u => [.int (iI u.1)]) C dX9_market_6 (c_X9_readMarket l D d o q (up f 0 0) M1 M16 M17 M18 M19 M20 s0 hM1 h2 hB hK0 hR0) [0, 1, 2, 3, 4, 5, 6] rfl rfl 0 rfl rfl rfl (Nat.le_of_ble_eq_true rfl) ⟨by omega, by omega⟩ ⟨Nat.zero_le _, Nat.zero_le _⟩ (fun u => rfl) (fun u => rfl) (fun u => rfl) ?_
  rintro ⟨z1, p1, P1, K1, y16, y17, y18, y19, y20⟩ hu
  have r9 := mrE_r hu.1 h2
  refine V_bipush (pc := 9) C dX9_market_9 rfl ?_
  refine V_icmp_eq (pc := 11) 17 C dX9_market_11 (by decide) (sm_i (by omega)) (sm_i (by decide)) (fun c11 => ?_) (fun c11 => ?_)
  · exact absurd c11 (hno _ _ hu.1)
  · refine V_bipush (pc := 14) C dX9_market_14 rfl ?_
    exact V_iret (pc := 16) C Z dX9_market_16 (p1, P1, K1, y16, y17, y18, y19, y20) hu.2 (ri (by rfl)) rfl
set_option maxRecDepth 100000 in
set_option maxHeartbeats 4000000 in
theorem c_X9_market_ok (l : Launch) (D : va_G) (d : Nat → ClassId) (o : Nat) (q : Nat → Nat) (f : Nat → Int) (M1 : Int → Int) (M16 : Int → Int) (M17 : Int → Int) (M18 : Int → Int) (M19 : Int → Int) (M20 : Int → Int) (M6 : Int → Int) (M7 : Int → Int) (M8 : Int → Int) (M9 : Int → Int) (M10 : Int → Int) (M11 : Int → Int) (M12 : Int → Int) (M39 : Int → Int) (s0 : ((Nat → Int) × (Nat → Int) × (Int → Int) × (Int → Int) × (Int → Int) × (Int → Int) × (Int → Int))) (hM1 : bd M1 0 255) (h2 : 0 ≤ f 2 ∧ f 2 ≤ 72) (hB : mdKB (0, 0, 0, M16, M17, M18, M19, M20)) (hK0 : rdK s0) (hR0 : rmR s0 (0, 0, 0, M16, M17, M18, M19, cpI (fun _ => 0) M20 24)) (hyes : ∀ x y, mrE (f 2) M1 s0 x y → x = -9) : CU l yX9_market cX9_market 2 (some .int) 6 134 D d [.ref o] [(o, .inr (9, fX9 q f)), (q 1, aI (d 0) 72 M1), (q 16, aI (d 0) 6 M16), (q 17, aI (d 0) 6 M17), (q 18, aI (d 0) 4 M18), (q 19, aI (d 0) 4 M19), (q 20, aI (d 1) 24 M20), (q 6, aI (d 0) 6 M6), (q 7, aI (d 0) 6 M7), (q 8, aI (d 0) 4 M8), (q 9, aI (d 0) 4 M9), (q 10, aI (d 1) 24 M10), (q 11, aI (d 0) 6 M11), (q 12, aI (d 1) 6 M12), (q 39, aI (d 1) 2 M39)] (fun (u : (Int × Int × Int × (Int → Int) × (Int → Int) × (Int → Int) × (Int → Int) × (Int → Int))) => mrE (f 2) M1 s0 (-9) u ∧ mdKB u) (fun (u : (Int × Int × Int × (Int → Int) × (Int → Int) × (Int → Int) × (Int → Int) × (Int → Int))) => some (.int (iI (u.2.1)))) (fun (u : (Int × Int × Int × (Int → Int) × (Int → Int) × (Int → Int) × (Int → Int) × (Int → Int))) => [(o, .inr (9, fX9 q (up (up (up (up (up (up (up f 0 0) 3 u.1) 14 u.2.1) 15 u.2.2.1) 4 u.2.1) 5 u.2.2.1) 21 0))), (q 1, aI (d 0) 72 M1), (q 16, aI (d 0) 6 u.2.2.2.1), (q 17, aI (d 0) 6 u.2.2.2.2.1), (q 18, aI (d 0) 4 u.2.2.2.2.2.1), (q 19, aI (d 0) 4 u.2.2.2.2.2.2.1), (q 20, aI (d 1) 24 u.2.2.2.2.2.2.2), (q 6, aI (d 0) 6 (cpI u.2.2.2.1 M6 6)), (q 7, aI (d 0) 6 (cpI u.2.2.2.2.1 M7 6)), (q 8, aI (d 0) 4 (cpI u.2.2.2.2.2.1 M8 4)), (q 9, aI (d 0) 4 (cpI u.2.2.2.2.2.2.1 M9 4)), (q 10, aI (d 1) 24 (cpI u.2.2.2.2.2.2.2 M10 24)), (q 11, aI (d 0) 6 (cpI (fun _ => 0) M11 6)), (q 12, aI (d 1) 6 (cpI (fun _ => 0) M12 6)), (q 39, aI (d 1) 2 (uI (uI M39 0 0) 1 0))]) := by
  refine CU.mk (own := RX9) (lv := [(0, .ref o)]) rfl (by decide) (Nat.le_of_ble_eq_true rfl) rfl ?_
  intro p9 e9 R9 s9 m9 args9 below9 meth9 c9 A9 Q9 hRf hRl C Z
  refine V_aload_n (pc := 0) C dX9_market_0 rfl 0 rfl ?_
  refine V_iconst (pc := 1) C dX9_market_1 ?_
  refine pf_X9_117 (ws' := [(o, .inr (9, fX9 q (up f 0 0))), (q 1, aI (d 0) 72 M1), (q 16, aI (d 0) 6 M16), (q 17, aI (d 0) 6 M17), (q 18, aI (d 0) 4 M18), (q 19, aI (d 0) 4 M19), (q 20, aI (d 1) 24 M20), (q 6, aI (d 0) 6 M6), (q 7, aI (d 0) 6 M7), (q 8, aI (d 0) 4 M8), (q 9, aI (d 0) 4 M9), (q 10, aI (d 1) 24 M10), (q 11, aI (d 0) 6 M11), (q 12, aI (d 1) 6 M12), (q 39, aI (d 1) 2 M39)]) (pc := 2) C dX9_market_2 0 rfl rfl ?_
  refine V_aload_n (pc := 5) C dX9_market_5 rfl 0 rfl ?_
  refine cv_X9_173 (pc := 6) (rest := []) (wn := fun u => [(o, .inr (9, fX9 q (up (up (up (up f 0 0) 3 u.2.1) 14 u.2.2.1) 15 u.2.2.2.1))), (q 1, aI (d 0) 72 M1), (q 16, aI (d 0) 6 u.2.2.2.2.1), (q 17, aI (d 0) 6 u.2.2.2.2.2.1), (q 18, aI (d 0) 4 u.2.2.2.2.2.2.1), (q 19, aI (d 0) 4 u.2.2.2.2.2.2.2.1), (q 20, aI (d 1) 24 u.2.2.2.2.2.2.2.2), (q 6, aI (d 0) 6 M6), (q 7, aI (d 0) 6 M7), (q 8, aI (d 0) 4 M8), (q 9, aI (d 0) 4 M9), (q 10, aI (d 1) 24 M10), (q 11, aI (d 0) 6 M11), (q 12, aI (d 1) 6 M12), (q 39, aI (d 1) 2 M39)]) (sn := fun u => [.int (iI u.1)]) C dX9_market_6 (c_X9_readMarket l D d o q (up f 0 0) M1 M16 M17 M18 M19 M20 s0 hM1 h2 hB hK0 hR0) [0, 1, 2, 3, 4, 5, 6] rfl rfl 0 rfl rfl rfl (Nat.le_of_ble_eq_true rfl) ⟨by omega, by omega⟩ ⟨Nat.zero_le _, Nat.zero_le _⟩ (fun u => rfl) (fun u => rfl) (fun u => rfl) ?_
  rintro ⟨z1, p1, P1, K1, y16, y17, y18, y19, y20⟩ hu
  have hM20 := hu.2.2.2.2.2
  have r9 := mrE_r hu.1 h2
  refine V_bipush (pc := 9) C dX9_market_9 rfl ?_
  refine V_icmp_eq (pc := 11) 17 C dX9_market_11 (by decide) (sm_i (by omega)) (sm_i (by decide)) (fun c11 => ?_) (fun c11 => ?_)
  · refine V_aload_n (pc := 17) C dX9_market_17 rfl 0 rfl ?_
    refine V_aload_n (pc := 18) C dX9_market_18 rfl 0 rfl ?_
    refine gf_X9_147 (x := P1) (pc := 19) C dX9_market_19 0 rfl rfl ?_
    refine pf_X9_120 (ws' := [(o, .inr (9, fX9 q (up (up (up (up (up f 0 0) 3 p1) 14 P1) 15 K1) 4 P1))), (q 1, aI (d 0) 72 M1), (q 16, aI (d 0) 6 y16), (q 17, aI (d 0) 6 y17), (q 18, aI (d 0) 4 y18), (q 19, aI (d 0) 4 y19), (q 20, aI (d 1) 24 y20), (q 6, aI (d 0) 6 M6), (q 7, aI (d 0) 6 M7), (q 8, aI (d 0) 4 M8), (q 9, aI (d 0) 4 M9), (q 10, aI (d 1) 24 M10), (q 11, aI (d 0) 6 M11), (q 12, aI (d 1) 6 M12), (q 39, aI (d 1) 2 M39)]) (pc := 22) C dX9_market_22 0 rfl rfl ?_
    refine V_aload_n (pc := 25) C dX9_market_25 rfl 0 rfl ?_
    refine V_aload_n (pc := 26) C dX9_market_26 rfl 0 rfl ?_
    refine gf_X9_150 (x := K1) (pc := 27) C dX9_market_27 0 rfl rfl ?_
    refine pf_X9_127 (ws' := [(o, .inr (9, fX9 q (up (up (up (up (up (up f 0 0) 3 p1) 14 P1) 15 K1) 4 P1) 5 K1))), (q 1, aI (d 0) 72 M1), (q 16, aI (d 0) 6 y16), (q 17, aI (d 0) 6 y17), (q 18, aI (d 0) 4 y18), (q 19, aI (d 0) 4 y19), (q 20, aI (d 1) 24 y20), (q 6, aI (d 0) 6 M6), (q 7, aI (d 0) 6 M7), (q 8, aI (d 0) 4 M8), (q 9, aI (d 0) 4 M9), (q 10, aI (d 1) 24 M10), (q 11, aI (d 0) 6 M11), (q 12, aI (d 1) 6 M12), (q 39, aI (d 1) 2 M39)]) (pc := 30) C dX9_market_30 0 rfl rfl ?_
    refine V_iconst (pc := 33) C dX9_market_33 ?_
    refine V_istore_n (lv' := [(1, .int (iI 0)), (0, .ref o)]) (pc := 34) C dX9_market_34 rfl (by decide) rfl ?_
    have L35 : ∀ (nn9 : Nat) (j1 : Int) (X6 : Int → Int) (X7 : Int → Int) (X11 : Int → Int) (X12 : Int → Int), (0 ≤ j1 ∧ j1 ≤ 6) → (X6 = cpI y16 M6 j1) → (X7 = cpI y17 M7 j1) → (X11 = cpI (fun _ => 0) M11 j1) → (X12 = cpI (fun _ => 0) M12 j1) → ((6 : Int) - j1).toNat < nn9 → V p9 l e9 R9 s9 m9 args9 below9 meth9 c9 A9 D Q9 2 0 0 [(o, .inr (9, fX9 q (up (up (up (up (up (up f 0 0) 3 p1) 14 P1) 15 K1) 4 P1) 5 K1))), (q 1, aI (d 0) 72 M1), (q 16, aI (d 0) 6 y16), (q 17, aI (d 0) 6 y17), (q 18, aI (d 0) 4 y18), (q 19, aI (d 0) 4 y19), (q 20, aI (d 1) 24 y20), (q 6, aI (d 0) 6 X6), (q 7, aI (d 0) 6 X7), (q 8, aI (d 0) 4 M8), (q 9, aI (d 0) 4 M9), (q 10, aI (d 1) 24 M10), (q 11, aI (d 0) 6 X11), (q 12, aI (d 1) 6 X12), (q 39, aI (d 1) 2 M39)] [(1, .int (iI j1)), (0, .ref o)] 35 [] := by
      intro nn9
      induction nn9 with
      | zero => intro _ _ _ _ _ _ _ _ _ _ hm35; exact absurd hm35 (Nat.not_lt_zero _)
      | succ nn9 ih35 =>
        intro j1 X6 X7 X11 X12 hj1 hX6 hX7 hX11 hX12 hm35
        refine V_iload_n (pc := 35) C dX9_market_35 rfl 0 rfl ?_
        refine V_bipush (pc := 36) C dX9_market_36 rfl ?_
        refine V_icmp_ge (pc := 38) 85 C dX9_market_38 (by decide) (sm_i (by omega)) (sm_i (by decide)) (fun c38 => ?_) (fun c38 => ?_)
        · refine V_iconst (pc := 85) C dX9_market_85 ?_
          refine V_istore_n (lv' := [(1, .int (iI 0)), (0, .ref o)]) (pc := 86) C dX9_market_86 rfl (by decide) rfl ?_
          have L87 : ∀ (nn9 : Nat) (j2 : Int) (X8 : Int → Int) (X9 : Int → Int), (0 ≤ j2 ∧ j2 ≤ 4) → (X8 = cpI y18 M8 j2) → (X9 = cpI y19 M9 j2) → ((4 : Int) - j2).toNat < nn9 → V p9 l e9 R9 s9 m9 args9 below9 meth9 c9 A9 D Q9 2 0 0 [(o, .inr (9, fX9 q (up (up (up (up (up (up f 0 0) 3 p1) 14 P1) 15 K1) 4 P1) 5 K1))), (q 1, aI (d 0) 72 M1), (q 16, aI (d 0) 6 y16), (q 17, aI (d 0) 6 y17), (q 18, aI (d 0) 4 y18), (q 19, aI (d 0) 4 y19), (q 20, aI (d 1) 24 y20), (q 6, aI (d 0) 6 X6), (q 7, aI (d 0) 6 X7), (q 8, aI (d 0) 4 X8), (q 9, aI (d 0) 4 X9), (q 10, aI (d 1) 24 M10), (q 11, aI (d 0) 6 X11), (q 12, aI (d 1) 6 X12), (q 39, aI (d 1) 2 M39)] [(1, .int (iI j2)), (0, .ref o)] 87 [] := by
            intro nn9
            induction nn9 with
            | zero => intro _ _ _ _ _ _ hm87; exact absurd hm87 (Nat.not_lt_zero _)
            | succ nn9 ih87 =>
              intro j2 X8 X9 hj2 hX8 hX9 hm87
              refine V_iload_n (pc := 87) C dX9_market_87 rfl 0 rfl ?_
              refine V_iconst (pc := 88) C dX9_market_88 ?_
              refine V_icmp_ge (pc := 89) 122 C dX9_market_89 (by decide) (sm_i (by omega)) (sm_i (by decide)) (fun c89 => ?_) (fun c89 => ?_)
              · refine V_iconst (pc := 122) C dX9_market_122 ?_
                refine V_istore_n (lv' := [(1, .int (iI 0)), (0, .ref o)]) (pc := 123) C dX9_market_123 rfl (by decide) rfl ?_
                have L124 : ∀ (nn9 : Nat) (j3 : Int) (X10 : Int → Int), (0 ≤ j3 ∧ j3 ≤ 24) → (X10 = cpI y20 M10 j3) → ((24 : Int) - j3).toNat < nn9 → V p9 l e9 R9 s9 m9 args9 below9 meth9 c9 A9 D Q9 2 0 0 [(o, .inr (9, fX9 q (up (up (up (up (up (up f 0 0) 3 p1) 14 P1) 15 K1) 4 P1) 5 K1))), (q 1, aI (d 0) 72 M1), (q 16, aI (d 0) 6 y16), (q 17, aI (d 0) 6 y17), (q 18, aI (d 0) 4 y18), (q 19, aI (d 0) 4 y19), (q 20, aI (d 1) 24 y20), (q 6, aI (d 0) 6 X6), (q 7, aI (d 0) 6 X7), (q 8, aI (d 0) 4 X8), (q 9, aI (d 0) 4 X9), (q 10, aI (d 1) 24 X10), (q 11, aI (d 0) 6 X11), (q 12, aI (d 1) 6 X12), (q 39, aI (d 1) 2 M39)] [(1, .int (iI j3)), (0, .ref o)] 124 [] := by
                  intro nn9
                  induction nn9 with
                  | zero => intro _ _ _ _ hm124; exact absurd hm124 (Nat.not_lt_zero _)
                  | succ nn9 ih124 =>
                    intro j3 X10 hj3 hX10 hm124
                    have b8 : 0 ≤ y20 j3 ∧ y20 j3 ≤ 1 := hM20 j3
                    refine V_iload_n (pc := 124) C dX9_market_124 rfl 0 rfl ?_
                    refine V_bipush (pc := 125) C dX9_market_125 rfl ?_
                    refine V_icmp_ge (pc := 127) 148 C dX9_market_127 (by decide) (sm_i (by omega)) (sm_i (by decide)) (fun c127 => ?_) (fun c127 => ?_)
                    · refine V_aload_n (pc := 148) C dX9_market_148 rfl 1 rfl ?_
                      refine V_iconst (pc := 149) C dX9_market_149 ?_
                      refine pf_X9_177 (ws' := [(o, .inr (9, fX9 q (up (up (up (up (up (up (up f 0 0) 3 p1) 14 P1) 15 K1) 4 P1) 5 K1) 21 0))), (q 1, aI (d 0) 72 M1), (q 16, aI (d 0) 6 y16), (q 17, aI (d 0) 6 y17), (q 18, aI (d 0) 4 y18), (q 19, aI (d 0) 4 y19), (q 20, aI (d 1) 24 y20), (q 6, aI (d 0) 6 X6), (q 7, aI (d 0) 6 X7), (q 8, aI (d 0) 4 X8), (q 9, aI (d 0) 4 X9), (q 10, aI (d 1) 24 X10), (q 11, aI (d 0) 6 X11), (q 12, aI (d 1) 6 X12), (q 39, aI (d 1) 2 M39)]) (pc := 150) C dX9_market_150 0 rfl rfl ?_
                      refine V_aload_n (pc := 153) C dX9_market_153 rfl 1 rfl ?_
                      refine gf_X9_99 (x := q 39) (pc := 154) C dX9_market_154 0 rfl rfl ?_
                      refine V_iconst (pc := 157) C dX9_market_157 ?_
                      refine V_iconst (pc := 158) C dX9_market_158 ?_
                      refine V_zast (f := M39) (ws' := [(o, .inr (9, fX9 q (up (up (up (up (up (up (up f 0 0) 3 p1) 14 P1) 15 K1) 4 P1) 5 K1) 21 0))), (q 1, aI (d 0) 72 M1), (q 16, aI (d 0) 6 y16), (q 17, aI (d 0) 6 y17), (q 18, aI (d 0) 4 y18), (q 19, aI (d 0) 4 y19), (q 20, aI (d 1) 24 y20), (q 6, aI (d 0) 6 X6), (q 7, aI (d 0) 6 X7), (q 8, aI (d 0) 4 X8), (q 9, aI (d 0) 4 X9), (q 10, aI (d 1) 24 X10), (q 11, aI (d 0) 6 X11), (q 12, aI (d 1) 6 X12), (q 39, aI (d 1) 2 (uI M39 0 0))]) (pc := 159) C dX9_market_159 14 rfl (by omega) (by omega) (Nat.le_of_ble_eq_true rfl) (Or.inl rfl) rfl ?_
                      refine V_aload_n (pc := 160) C dX9_market_160 rfl 1 rfl ?_
                      refine gf_X9_99 (x := q 39) (pc := 161) C dX9_market_161 0 rfl rfl ?_
                      refine V_iconst (pc := 164) C dX9_market_164 ?_
                      refine V_iconst (pc := 165) C dX9_market_165 ?_
                      refine V_zast (f := uI M39 0 0) (ws' := [(o, .inr (9, fX9 q (up (up (up (up (up (up (up f 0 0) 3 p1) 14 P1) 15 K1) 4 P1) 5 K1) 21 0))), (q 1, aI (d 0) 72 M1), (q 16, aI (d 0) 6 y16), (q 17, aI (d 0) 6 y17), (q 18, aI (d 0) 4 y18), (q 19, aI (d 0) 4 y19), (q 20, aI (d 1) 24 y20), (q 6, aI (d 0) 6 X6), (q 7, aI (d 0) 6 X7), (q 8, aI (d 0) 4 X8), (q 9, aI (d 0) 4 X9), (q 10, aI (d 1) 24 X10), (q 11, aI (d 0) 6 X11), (q 12, aI (d 1) 6 X12), (q 39, aI (d 1) 2 (uI (uI M39 0 0) 1 0))]) (pc := 166) C dX9_market_166 14 rfl (by omega) (by omega) (Nat.le_of_ble_eq_true rfl) (Or.inl rfl) rfl ?_
                      refine V_aload_n (pc := 167) C dX9_market_167 rfl 1 rfl ?_
                      refine gf_X9_120 (x := P1) (pc := 168) C dX9_market_168 0 rfl rfl ?_
                      exact V_iret (pc := 171) C Z dX9_market_171 (p1, P1, K1, y16, y17, y18, y19, y20) (⟨by rw [← c11]; exact hu.1, hu.2⟩) (ri (by rfl)) (by rw [hX6, hX7, hX11, hX12, hX8, hX9, hX10, show j1 = 6 by omega, show j2 = 4 by omega, show j3 = 24 by omega])
                    · refine V_aload_n (pc := 130) C dX9_market_130 rfl 1 rfl ?_
                      refine gf_X9_25 (x := q 10) (pc := 131) C dX9_market_131 0 rfl rfl ?_
                      refine V_iload_n (pc := 134) C dX9_market_134 rfl 0 rfl ?_
                      refine V_aload_n (pc := 135) C dX9_market_135 rfl 1 rfl ?_
                      refine gf_X9_51 (x := q 20) (pc := 136) C dX9_market_136 0 rfl rfl ?_
                      refine V_iload_n (pc := 139) C dX9_market_139 rfl 0 rfl ?_
                      refine V_zald (f := y20) (pc := 140) C dX9_market_140 6 rfl (by omega) (by omega) (Nat.le_of_ble_eq_true rfl) ?_
                      refine V_zast (f := X10) (ws' := [(o, .inr (9, fX9 q (up (up (up (up (up (up f 0 0) 3 p1) 14 P1) 15 K1) 4 P1) 5 K1))), (q 1, aI (d 0) 72 M1), (q 16, aI (d 0) 6 y16), (q 17, aI (d 0) 6 y17), (q 18, aI (d 0) 4 y18), (q 19, aI (d 0) 4 y19), (q 20, aI (d 1) 24 y20), (q 6, aI (d 0) 6 X6), (q 7, aI (d 0) 6 X7), (q 8, aI (d 0) 4 X8), (q 9, aI (d 0) 4 X9), (q 10, aI (d 1) 24 (uI X10 j3 (y20 j3))), (q 11, aI (d 0) 6 X11), (q 12, aI (d 1) 6 X12), (q 39, aI (d 1) 2 M39)]) (pc := 141) C dX9_market_141 11 rfl (by omega) (by omega) (Nat.le_of_ble_eq_true rfl) (by omega) rfl ?_
                      refine V_iinc (lv' := [(1, .int (iI (j3 + 1))), (0, .ref o)]) (pc := 142) C dX9_market_142 0 rfl (by decide) rfl ?_
                      refine V_goto (pc := 145) 124 C dX9_market_145 (by decide) ?_
                      exact V_sub [0, 1] rfl (ih124 (j3 + 1) (uI X10 j3 (y20 j3)) (by omega) (by rw [hX10]; first | exact cpI_s hj3.1 rfl rfl | exact cpI_f hj3.1) (by omega))
                exact V_sub [0, 1] rfl (L124 (((24 : Int) - 0).toNat + 1) 0 M10 (by omega) ((cpI_0 _ _).symm) (Nat.lt_succ_self _))
              · refine V_aload_n (pc := 92) C dX9_market_92 rfl 1 rfl ?_
                refine gf_X9_19 (x := q 8) (pc := 93) C dX9_market_93 0 rfl rfl ?_
                refine V_iload_n (pc := 96) C dX9_market_96 rfl 0 rfl ?_
                refine V_aload_n (pc := 97) C dX9_market_97 rfl 1 rfl ?_
                refine gf_X9_45 (x := q 18) (pc := 98) C dX9_market_98 0 rfl rfl ?_
                refine V_iload_n (pc := 101) C dX9_market_101 rfl 0 rfl ?_
                refine V_iald (f := y18) (pc := 102) C dX9_market_102 4 rfl (by omega) (by omega) (Nat.le_of_ble_eq_true rfl) ?_
                refine V_iast (f := X8) (ws' := [(o, .inr (9, fX9 q (up (up (up (up (up (up f 0 0) 3 p1) 14 P1) 15 K1) 4 P1) 5 K1))), (q 1, aI (d 0) 72 M1), (q 16, aI (d 0) 6 y16), (q 17, aI (d 0) 6 y17), (q 18, aI (d 0) 4 y18), (q 19, aI (d 0) 4 y19), (q 20, aI (d 1) 24 y20), (q 6, aI (d 0) 6 X6), (q 7, aI (d 0) 6 X7), (q 8, aI (d 0) 4 (uI X8 j2 (y18 j2))), (q 9, aI (d 0) 4 X9), (q 10, aI (d 1) 24 M10), (q 11, aI (d 0) 6 X11), (q 12, aI (d 1) 6 X12), (q 39, aI (d 1) 2 M39)]) (pc := 103) C dX9_market_103 9 rfl (by omega) (by omega) (Nat.le_of_ble_eq_true rfl) rfl ?_
                refine V_aload_n (pc := 104) C dX9_market_104 rfl 1 rfl ?_
                refine gf_X9_22 (x := q 9) (pc := 105) C dX9_market_105 0 rfl rfl ?_
                refine V_iload_n (pc := 108) C dX9_market_108 rfl 0 rfl ?_
                refine V_aload_n (pc := 109) C dX9_market_109 rfl 1 rfl ?_
                refine gf_X9_48 (x := q 19) (pc := 110) C dX9_market_110 0 rfl rfl ?_
                refine V_iload_n (pc := 113) C dX9_market_113 rfl 0 rfl ?_
                refine V_iald (f := y19) (pc := 114) C dX9_market_114 5 rfl (by omega) (by omega) (Nat.le_of_ble_eq_true rfl) ?_
                refine V_iast (f := X9) (ws' := [(o, .inr (9, fX9 q (up (up (up (up (up (up f 0 0) 3 p1) 14 P1) 15 K1) 4 P1) 5 K1))), (q 1, aI (d 0) 72 M1), (q 16, aI (d 0) 6 y16), (q 17, aI (d 0) 6 y17), (q 18, aI (d 0) 4 y18), (q 19, aI (d 0) 4 y19), (q 20, aI (d 1) 24 y20), (q 6, aI (d 0) 6 X6), (q 7, aI (d 0) 6 X7), (q 8, aI (d 0) 4 (uI X8 j2 (y18 j2))), (q 9, aI (d 0) 4 (uI X9 j2 (y19 j2))), (q 10, aI (d 1) 24 M10), (q 11, aI (d 0) 6 X11), (q 12, aI (d 1) 6 X12), (q 39, aI (d 1) 2 M39)]) (pc := 115) C dX9_market_115 10 rfl (by omega) (by omega) (Nat.le_of_ble_eq_true rfl) rfl ?_
                refine V_iinc (lv' := [(1, .int (iI (j2 + 1))), (0, .ref o)]) (pc := 116) C dX9_market_116 0 rfl (by decide) rfl ?_
                refine V_goto (pc := 119) 87 C dX9_market_119 (by decide) ?_
                exact V_sub [0, 1] rfl (ih87 (j2 + 1) (uI X8 j2 (y18 j2)) (uI X9 j2 (y19 j2)) (by omega) (by rw [hX8]; first | exact cpI_s hj2.1 rfl rfl | exact cpI_f hj2.1) (by rw [hX9]; first | exact cpI_s hj2.1 rfl rfl | exact cpI_f hj2.1) (by omega))
          exact V_sub [0, 1] rfl (L87 (((4 : Int) - 0).toNat + 1) 0 M8 M9 (by omega) ((cpI_0 _ _).symm) ((cpI_0 _ _).symm) (Nat.lt_succ_self _))
        · refine V_aload_n (pc := 41) C dX9_market_41 rfl 1 rfl ?_
          refine gf_X9_13 (x := q 6) (pc := 42) C dX9_market_42 0 rfl rfl ?_
          refine V_iload_n (pc := 45) C dX9_market_45 rfl 0 rfl ?_
          refine V_aload_n (pc := 46) C dX9_market_46 rfl 1 rfl ?_
          refine gf_X9_39 (x := q 16) (pc := 47) C dX9_market_47 0 rfl rfl ?_
          refine V_iload_n (pc := 50) C dX9_market_50 rfl 0 rfl ?_
          refine V_iald (f := y16) (pc := 51) C dX9_market_51 2 rfl (by omega) (by omega) (Nat.le_of_ble_eq_true rfl) ?_
          refine V_iast (f := X6) (ws' := [(o, .inr (9, fX9 q (up (up (up (up (up (up f 0 0) 3 p1) 14 P1) 15 K1) 4 P1) 5 K1))), (q 1, aI (d 0) 72 M1), (q 16, aI (d 0) 6 y16), (q 17, aI (d 0) 6 y17), (q 18, aI (d 0) 4 y18), (q 19, aI (d 0) 4 y19), (q 20, aI (d 1) 24 y20), (q 6, aI (d 0) 6 (uI X6 j1 (y16 j1))), (q 7, aI (d 0) 6 X7), (q 8, aI (d 0) 4 M8), (q 9, aI (d 0) 4 M9), (q 10, aI (d 1) 24 M10), (q 11, aI (d 0) 6 X11), (q 12, aI (d 1) 6 X12), (q 39, aI (d 1) 2 M39)]) (pc := 52) C dX9_market_52 7 rfl (by omega) (by omega) (Nat.le_of_ble_eq_true rfl) rfl ?_
          refine V_aload_n (pc := 53) C dX9_market_53 rfl 1 rfl ?_
          refine gf_X9_16 (x := q 7) (pc := 54) C dX9_market_54 0 rfl rfl ?_
          refine V_iload_n (pc := 57) C dX9_market_57 rfl 0 rfl ?_
          refine V_aload_n (pc := 58) C dX9_market_58 rfl 1 rfl ?_
          refine gf_X9_42 (x := q 17) (pc := 59) C dX9_market_59 0 rfl rfl ?_
          refine V_iload_n (pc := 62) C dX9_market_62 rfl 0 rfl ?_
          refine V_iald (f := y17) (pc := 63) C dX9_market_63 3 rfl (by omega) (by omega) (Nat.le_of_ble_eq_true rfl) ?_
          refine V_iast (f := X7) (ws' := [(o, .inr (9, fX9 q (up (up (up (up (up (up f 0 0) 3 p1) 14 P1) 15 K1) 4 P1) 5 K1))), (q 1, aI (d 0) 72 M1), (q 16, aI (d 0) 6 y16), (q 17, aI (d 0) 6 y17), (q 18, aI (d 0) 4 y18), (q 19, aI (d 0) 4 y19), (q 20, aI (d 1) 24 y20), (q 6, aI (d 0) 6 (uI X6 j1 (y16 j1))), (q 7, aI (d 0) 6 (uI X7 j1 (y17 j1))), (q 8, aI (d 0) 4 M8), (q 9, aI (d 0) 4 M9), (q 10, aI (d 1) 24 M10), (q 11, aI (d 0) 6 X11), (q 12, aI (d 1) 6 X12), (q 39, aI (d 1) 2 M39)]) (pc := 64) C dX9_market_64 8 rfl (by omega) (by omega) (Nat.le_of_ble_eq_true rfl) rfl ?_
          refine V_aload_n (pc := 65) C dX9_market_65 rfl 1 rfl ?_
          refine gf_X9_29 (x := q 11) (pc := 66) C dX9_market_66 0 rfl rfl ?_
          refine V_iload_n (pc := 69) C dX9_market_69 rfl 0 rfl ?_
          refine V_iconst (pc := 70) C dX9_market_70 ?_
          refine V_iast (f := X11) (ws' := [(o, .inr (9, fX9 q (up (up (up (up (up (up f 0 0) 3 p1) 14 P1) 15 K1) 4 P1) 5 K1))), (q 1, aI (d 0) 72 M1), (q 16, aI (d 0) 6 y16), (q 17, aI (d 0) 6 y17), (q 18, aI (d 0) 4 y18), (q 19, aI (d 0) 4 y19), (q 20, aI (d 1) 24 y20), (q 6, aI (d 0) 6 (uI X6 j1 (y16 j1))), (q 7, aI (d 0) 6 (uI X7 j1 (y17 j1))), (q 8, aI (d 0) 4 M8), (q 9, aI (d 0) 4 M9), (q 10, aI (d 1) 24 M10), (q 11, aI (d 0) 6 (uI X11 j1 0)), (q 12, aI (d 1) 6 X12), (q 39, aI (d 1) 2 M39)]) (pc := 71) C dX9_market_71 12 rfl (by omega) (by omega) (Nat.le_of_ble_eq_true rfl) rfl ?_
          refine V_aload_n (pc := 72) C dX9_market_72 rfl 1 rfl ?_
          refine gf_X9_32 (x := q 12) (pc := 73) C dX9_market_73 0 rfl rfl ?_
          refine V_iload_n (pc := 76) C dX9_market_76 rfl 0 rfl ?_
          refine V_iconst (pc := 77) C dX9_market_77 ?_
          refine V_zast (f := X12) (ws' := [(o, .inr (9, fX9 q (up (up (up (up (up (up f 0 0) 3 p1) 14 P1) 15 K1) 4 P1) 5 K1))), (q 1, aI (d 0) 72 M1), (q 16, aI (d 0) 6 y16), (q 17, aI (d 0) 6 y17), (q 18, aI (d 0) 4 y18), (q 19, aI (d 0) 4 y19), (q 20, aI (d 1) 24 y20), (q 6, aI (d 0) 6 (uI X6 j1 (y16 j1))), (q 7, aI (d 0) 6 (uI X7 j1 (y17 j1))), (q 8, aI (d 0) 4 M8), (q 9, aI (d 0) 4 M9), (q 10, aI (d 1) 24 M10), (q 11, aI (d 0) 6 (uI X11 j1 0)), (q 12, aI (d 1) 6 (uI X12 j1 0)), (q 39, aI (d 1) 2 M39)]) (pc := 78) C dX9_market_78 13 rfl (by omega) (by omega) (Nat.le_of_ble_eq_true rfl) (by omega) rfl ?_
          refine V_iinc (lv' := [(1, .int (iI (j1 + 1))), (0, .ref o)]) (pc := 79) C dX9_market_79 0 rfl (by decide) rfl ?_
          refine V_goto (pc := 82) 35 C dX9_market_82 (by decide) ?_
          exact V_sub [0, 1] rfl (ih35 (j1 + 1) (uI X6 j1 (y16 j1)) (uI X7 j1 (y17 j1)) (uI X11 j1 0) (uI X12 j1 0) (by omega) (by rw [hX6]; first | exact cpI_s hj1.1 rfl rfl | exact cpI_f hj1.1) (by rw [hX7]; first | exact cpI_s hj1.1 rfl rfl | exact cpI_f hj1.1) (by rw [hX11]; first | exact cpI_s hj1.1 rfl rfl | exact cpI_f hj1.1) (by rw [hX12]; first | exact cpI_s hj1.1 rfl rfl | exact cpI_f hj1.1) (by omega))
    exact V_sub [0, 1] rfl (L35 (((6 : Int) - 0).toNat + 1) 0 M6 M7 M11 M12 (by omega) ((cpI_0 _ _).symm) ((cpI_0 _ _).symm) ((cpI_0 _ _).symm) ((cpI_0 _ _).symm) (Nat.lt_succ_self _))
  · exact absurd (hyes _ _ hu.1) c11
