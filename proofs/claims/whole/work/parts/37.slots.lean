theorem step_uI {G H : Int → Int} {x v w w' : Int} (hH : H = uI G x v) (h : w = w') : uI H x w = uI G x w' := by
  rw [hH, h]
  funext j
  unfold uI
  split <;> rfl
theorem uI_uu (f : Int → Int) (i x y : Int) : uI (uI f i x) i y = uI f i y := by
  funext j
  unfold uI
  split <;> rfl
set_option maxRecDepth 100000 in
set_option maxHeartbeats 4000000 in
theorem c_X8_keep_bad (l : Launch) (D : va_G) (d : Nat → ClassId) (o : Nat) (q : Nat → Nat) (f : Nat → Int) (k : Int) (hk : -2147483648 ≤ k ∧ k ≤ 2147483647) (hb : ¬ (0 ≤ k ∧ k ≤ 1)) : CU l yX8_keep cX8_keep 2 (some .int) 2 61 D d [.ref o, .int (iI k)] [(o, .inr (8, fX8 q f))] (fun (_ : Unit) => True) (fun (_ : Unit) => some (.int (iI (-1)))) (fun (_ : Unit) => [(o, .inr (8, fX8 q f))]) := by
  refine CU.mk (own := RX8) (lv := [(0, .ref o), (1, .int (iI k))]) rfl (by decide) (Nat.le_of_ble_eq_true rfl) rfl ?_
  intro p9 e9 R9 s9 m9 args9 below9 meth9 c9 A9 Q9 hRf hRl C Z
  refine V_iload_n (pc := 0) C dX8_keep_0 rfl 1 rfl ?_
  refine V_iconst (pc := 1) C dX8_keep_1 ?_
  refine V_iconst (pc := 2) C dX8_keep_2 ?_
  refine cs_X8_72 (pc := 3) (rest := []) (wn := fun _ => [(o, .inr (8, fX8 q f))]) (sn := fun _ => [.int (iI (bI (0 ≤ k ∧ k ≤ 1)))]) C dX8_keep_3 (c_X8_within l D d k 0 1 hk (show -2147483648 ≤ 0 ∧ 0 ≤ 2147483647 by omega) (show -2147483648 ≤ 1 ∧ 1 ≤ 2147483647 by omega)) [] rfl rfl rfl rfl (Nat.le_of_ble_eq_true rfl) ⟨by omega, by omega⟩ ⟨Nat.zero_le _, Nat.zero_le _⟩ (fun _ => rfl) (fun _ => rfl) (fun _ => rfl) ?_
  intro _ _
  refine V_ifb_ne (pc := 6) 11 C dX8_keep_6 (by decide) (fun c6 => ?_) (fun c6 => ?_)
  · exact absurd c6 (by omega)
  · refine V_iconst (pc := 9) C dX8_keep_9 ?_
    exact V_iret (pc := 10) C Z dX8_keep_10 () trivial (ri (by first | rfl | omega | exact bI_t (by omega) | exact bI_f (by omega))) rfl
set_option maxRecDepth 100000 in
set_option maxHeartbeats 4000000 in
theorem c_X8_keep_ok (l : Launch) (D : va_G) (d : Nat → ClassId) (o : Nat) (q : Nat → Nat) (f : Nat → Int) (qa : Nat → Nat) (fa : Nat → Int) (z : Nat) (qz : Nat → Nat) (fz : Nat → Int) (sl : Nat → Option Nat) (K0 : Int → Int) (K1 : Int → Int) (K2 : Int → Int) (K3 : Int → Int) (K4 : Int → Int) (K5 : Int → Int) (A0 : Int → Int) (A1 : Int → Int) (A2 : Int → Int) (A3 : Int → Int) (A4 : Int → Int) (A5 : Int → Int) (k : Int) (hk : 0 ≤ k ∧ k ≤ 1) (hsl : sl k.toNat = some z) : CU l yX8_keep cX8_keep 2 (some .int) 2 61 D d [.ref o, .int (iI k)] [(o, .inr (8, fX8 q f)), (q 5, aR (d 2) 2 sl), (q 4, .inr (5, fX5 qa fa)), (qa 0, aI (d 0) 6 A0), (qa 1, aI (d 0) 4 A1), (qa 2, aI (d 0) 12 A2), (qa 3, aI (d 0) 12 A3), (qa 4, aI (d 0) 12 A4), (qa 5, aI (d 0) 12 A5), (z, .inr (5, fX5 qz fz)), (qz 0, aI (d 0) 6 K0), (qz 1, aI (d 0) 4 K1), (qz 2, aI (d 0) 12 K2), (qz 3, aI (d 0) 12 K3), (qz 4, aI (d 0) 12 K4), (qz 5, aI (d 0) 12 K5)] (fun (_ : Unit) => True) (fun (_ : Unit) => some (.int (iI (fa 6)))) (fun (_ : Unit) => [(o, .inr (8, fX8 q f)), (q 5, aR (d 2) 2 sl), (q 4, .inr (5, fX5 qa fa)), (qa 0, aI (d 0) 6 A0), (qa 1, aI (d 0) 4 A1), (qa 2, aI (d 0) 12 A2), (qa 3, aI (d 0) 12 A3), (qa 4, aI (d 0) 12 A4), (qa 5, aI (d 0) 12 A5), (z, .inr (5, fX5 qz (up (up (up fz 6 (fa 6)) 7 (fa 7)) 8 1))), (qz 0, aI (d 0) 6 (cpI A0 K0 6)), (qz 1, aI (d 0) 4 (cpI A1 K1 4)), (qz 2, aI (d 0) 12 (cpI A2 K2 12)), (qz 3, aI (d 0) 12 (cpI A3 K3 12)), (qz 4, aI (d 0) 12 (cpI A4 K4 12)), (qz 5, aI (d 0) 12 (cpI A5 K5 12))]) := by
  refine CU.mk (own := RX8) (lv := [(0, .ref o), (1, .int (iI k))]) rfl (by decide) (Nat.le_of_ble_eq_true rfl) rfl ?_
  intro p9 e9 R9 s9 m9 args9 below9 meth9 c9 A9 Q9 hRf hRl C Z
  refine V_iload_n (pc := 0) C dX8_keep_0 rfl 1 rfl ?_
  refine V_iconst (pc := 1) C dX8_keep_1 ?_
  refine V_iconst (pc := 2) C dX8_keep_2 ?_
  refine cs_X8_72 (pc := 3) (rest := []) (wn := fun _ => [(o, .inr (8, fX8 q f)), (q 5, aR (d 2) 2 sl), (q 4, .inr (5, fX5 qa fa)), (qa 0, aI (d 0) 6 A0), (qa 1, aI (d 0) 4 A1), (qa 2, aI (d 0) 12 A2), (qa 3, aI (d 0) 12 A3), (qa 4, aI (d 0) 12 A4), (qa 5, aI (d 0) 12 A5), (z, .inr (5, fX5 qz fz)), (qz 0, aI (d 0) 6 K0), (qz 1, aI (d 0) 4 K1), (qz 2, aI (d 0) 12 K2), (qz 3, aI (d 0) 12 K3), (qz 4, aI (d 0) 12 K4), (qz 5, aI (d 0) 12 K5)]) (sn := fun _ => [.int (iI (bI (0 ≤ k ∧ k ≤ 1)))]) C dX8_keep_3 (c_X8_within l D d k 0 1 (show -2147483648 ≤ k ∧ k ≤ 2147483647 by omega) (show -2147483648 ≤ 0 ∧ 0 ≤ 2147483647 by omega) (show -2147483648 ≤ 1 ∧ 1 ≤ 2147483647 by omega)) [] rfl rfl rfl rfl (Nat.le_of_ble_eq_true rfl) ⟨by omega, by omega⟩ ⟨Nat.zero_le _, Nat.zero_le _⟩ (fun _ => rfl) (fun _ => rfl) (fun _ => rfl) ?_
  intro _ _
  refine V_ifb_ne (pc := 6) 11 C dX8_keep_6 (by decide) (fun c6 => ?_) (fun c6 => ?_)
  · refine V_aload_n (pc := 11) C dX8_keep_11 rfl 0 rfl ?_
    refine gf_X8_40 (x := q 5) (pc := 12) C dX8_keep_12 0 rfl rfl ?_
    refine V_iload_n (pc := 15) C dX8_keep_15 rfl 1 rfl ?_
    refine V_aald (k := 2) (x := z) (f := sl) (Or.inl rfl) (pc := 16) C dX8_keep_16 1 rfl (by omega) (by omega) hsl (Nat.le_of_ble_eq_true rfl) ?_
    refine V_aload_n (pc := 17) C dX8_keep_17 rfl 0 rfl ?_
    refine gf_X8_36 (x := q 4) (pc := 18) C dX8_keep_18 0 rfl rfl ?_
    refine cv_X8_262 (pc := 21) (rest := []) (wn := fun _ => [(o, .inr (8, fX8 q f)), (q 5, aR (d 2) 2 sl), (q 4, .inr (5, fX5 qa fa)), (qa 0, aI (d 0) 6 A0), (qa 1, aI (d 0) 4 A1), (qa 2, aI (d 0) 12 A2), (qa 3, aI (d 0) 12 A3), (qa 4, aI (d 0) 12 A4), (qa 5, aI (d 0) 12 A5), (z, .inr (5, fX5 qz (up (up fz 6 (fa 6)) 7 (fa 7)))), (qz 0, aI (d 0) 6 (cpI A0 K0 6)), (qz 1, aI (d 0) 4 (cpI A1 K1 4)), (qz 2, aI (d 0) 12 (cpI A2 K2 12)), (qz 3, aI (d 0) 12 (cpI A3 K3 12)), (qz 4, aI (d 0) 12 (cpI A4 K4 12)), (qz 5, aI (d 0) 12 (cpI A5 K5 12))]) (sn := fun _ => []) C dX8_keep_21 (c_X5_takeFrom l D d z (q 4) qz qa fz fa K0 K1 K2 K3 K4 K5 A0 A1 A2 A3 A4 A5 ) [9, 10, 11, 12, 13, 14, 15, 2, 3, 4, 5, 6, 7, 8] rfl rfl 9 rfl rfl rfl (Nat.le_of_ble_eq_true rfl) ⟨by omega, by omega⟩ ⟨Nat.zero_le _, Nat.zero_le _⟩ (fun _ => rfl) (fun _ => rfl) (fun _ => rfl) ?_
    intro _ _
    refine V_aload_n (pc := 24) C dX8_keep_24 rfl 0 rfl ?_
    refine gf_X8_40 (x := q 5) (pc := 25) C dX8_keep_25 0 rfl rfl ?_
    refine V_iload_n (pc := 28) C dX8_keep_28 rfl 1 rfl ?_
    refine V_aald (k := 2) (x := z) (f := sl) (Or.inl rfl) (pc := 29) C dX8_keep_29 1 rfl (by omega) (by omega) hsl (Nat.le_of_ble_eq_true rfl) ?_
    refine V_iconst (pc := 30) C dX8_keep_30 ?_
    refine pf_X8_92 (ws' := [(o, .inr (8, fX8 q f)), (q 5, aR (d 2) 2 sl), (q 4, .inr (5, fX5 qa fa)), (qa 0, aI (d 0) 6 A0), (qa 1, aI (d 0) 4 A1), (qa 2, aI (d 0) 12 A2), (qa 3, aI (d 0) 12 A3), (qa 4, aI (d 0) 12 A4), (qa 5, aI (d 0) 12 A5), (z, .inr (5, fX5 qz (up (up (up fz 6 (fa 6)) 7 (fa 7)) 8 1))), (qz 0, aI (d 0) 6 (cpI A0 K0 6)), (qz 1, aI (d 0) 4 (cpI A1 K1 4)), (qz 2, aI (d 0) 12 (cpI A2 K2 12)), (qz 3, aI (d 0) 12 (cpI A3 K3 12)), (qz 4, aI (d 0) 12 (cpI A4 K4 12)), (qz 5, aI (d 0) 12 (cpI A5 K5 12))]) (hx := (Or.inr rfl)) (pc := 31) C dX8_keep_31 9 rfl rfl ?_
    refine V_aload_n (pc := 34) C dX8_keep_34 rfl 0 rfl ?_
    refine gf_X8_36 (x := q 4) (pc := 35) C dX8_keep_35 0 rfl rfl ?_
    refine gf_X8_146 (x := fa 6) (pc := 38) C dX8_keep_38 2 rfl rfl ?_
    exact V_iret (pc := 41) C Z dX8_keep_41 () trivial (ri (by first | rfl | omega | exact bI_t (by omega) | exact bI_f (by omega))) rfl
  · exact absurd c6 (by omega)
set_option maxRecDepth 100000 in
set_option maxHeartbeats 4000000 in
theorem c_X8_again_bad (l : Launch) (D : va_G) (d : Nat → ClassId) (o : Nat) (q : Nat → Nat) (f : Nat → Int) (k : Int) (hk : -2147483648 ≤ k ∧ k ≤ 2147483647) (hb : ¬ (0 ≤ k ∧ k ≤ 1)) : CU l yX8_again cX8_again 2 (some .int) 2 61 D d [.ref o, .int (iI k)] [(o, .inr (8, fX8 q f))] (fun (_ : Unit) => True) (fun (_ : Unit) => some (.int (iI (-1)))) (fun (_ : Unit) => [(o, .inr (8, fX8 q f))]) := by
  refine CU.mk (own := RX8) (lv := [(0, .ref o), (1, .int (iI k))]) rfl (by decide) (Nat.le_of_ble_eq_true rfl) rfl ?_
  intro p9 e9 R9 s9 m9 args9 below9 meth9 c9 A9 Q9 hRf hRl C Z
  refine V_iload_n (pc := 0) C dX8_again_0 rfl 1 rfl ?_
  refine V_iconst (pc := 1) C dX8_again_1 ?_
  refine V_iconst (pc := 2) C dX8_again_2 ?_
  refine cs_X8_72 (pc := 3) (rest := []) (wn := fun _ => [(o, .inr (8, fX8 q f))]) (sn := fun _ => [.int (iI (bI (0 ≤ k ∧ k ≤ 1)))]) C dX8_again_3 (c_X8_within l D d k 0 1 hk (show -2147483648 ≤ 0 ∧ 0 ≤ 2147483647 by omega) (show -2147483648 ≤ 1 ∧ 1 ≤ 2147483647 by omega)) [] rfl rfl rfl rfl (Nat.le_of_ble_eq_true rfl) ⟨by omega, by omega⟩ ⟨Nat.zero_le _, Nat.zero_le _⟩ (fun _ => rfl) (fun _ => rfl) (fun _ => rfl) ?_
  intro _ _
  refine V_ifb_ne (pc := 6) 11 C dX8_again_6 (by decide) (fun c6 => ?_) (fun c6 => ?_)
  · exact absurd c6 (by omega)
  · refine V_iconst (pc := 9) C dX8_again_9 ?_
    exact V_iret (pc := 10) C Z dX8_again_10 () trivial (ri (by first | rfl | omega | exact bI_t (by omega) | exact bI_f (by omega))) rfl
set_option maxRecDepth 100000 in
set_option maxHeartbeats 4000000 in
theorem c_X8_again_no (l : Launch) (D : va_G) (d : Nat → ClassId) (o : Nat) (q : Nat → Nat) (f : Nat → Int) (z : Nat) (qz : Nat → Nat) (fz : Nat → Int) (sl : Nat → Option Nat) (k : Int) (hk : 0 ≤ k ∧ k ≤ 1) (hsl : sl k.toNat = some z) (h8 : fz 8 = 0) : CU l yX8_again cX8_again 2 (some .int) 2 61 D d [.ref o, .int (iI k)] [(o, .inr (8, fX8 q f)), (q 5, aR (d 2) 2 sl), (z, .inr (5, fX5 qz fz))] (fun (_ : Unit) => True) (fun (_ : Unit) => some (.int (iI (-3)))) (fun (_ : Unit) => [(o, .inr (8, fX8 q f)), (q 5, aR (d 2) 2 sl), (z, .inr (5, fX5 qz fz))]) := by
  refine CU.mk (own := RX8) (lv := [(0, .ref o), (1, .int (iI k))]) rfl (by decide) (Nat.le_of_ble_eq_true rfl) rfl ?_
  intro p9 e9 R9 s9 m9 args9 below9 meth9 c9 A9 Q9 hRf hRl C Z
  refine V_iload_n (pc := 0) C dX8_again_0 rfl 1 rfl ?_
  refine V_iconst (pc := 1) C dX8_again_1 ?_
  refine V_iconst (pc := 2) C dX8_again_2 ?_
  refine cs_X8_72 (pc := 3) (rest := []) (wn := fun _ => [(o, .inr (8, fX8 q f)), (q 5, aR (d 2) 2 sl), (z, .inr (5, fX5 qz fz))]) (sn := fun _ => [.int (iI (bI (0 ≤ k ∧ k ≤ 1)))]) C dX8_again_3 (c_X8_within l D d k 0 1 (show -2147483648 ≤ k ∧ k ≤ 2147483647 by omega) (show -2147483648 ≤ 0 ∧ 0 ≤ 2147483647 by omega) (show -2147483648 ≤ 1 ∧ 1 ≤ 2147483647 by omega)) [] rfl rfl rfl rfl (Nat.le_of_ble_eq_true rfl) ⟨by omega, by omega⟩ ⟨Nat.zero_le _, Nat.zero_le _⟩ (fun _ => rfl) (fun _ => rfl) (fun _ => rfl) ?_
  intro _ _
  refine V_ifb_ne (pc := 6) 11 C dX8_again_6 (by decide) (fun c6 => ?_) (fun c6 => ?_)
  · refine V_aload_n (pc := 11) C dX8_again_11 rfl 0 rfl ?_
    refine gf_X8_40 (x := q 5) (pc := 12) C dX8_again_12 0 rfl rfl ?_
    refine V_iload_n (pc := 15) C dX8_again_15 rfl 1 rfl ?_
    refine V_aald (k := 2) (x := z) (f := sl) (Or.inl rfl) (pc := 16) C dX8_again_16 1 rfl (by omega) (by omega) hsl (Nat.le_of_ble_eq_true rfl) ?_
    refine gf_X8_92 (x := fz 8) (pc := 17) C dX8_again_17 2 rfl rfl ?_
    refine V_if_ne (pc := 20) 26 C dX8_again_20 (by decide) (sm_i (by omega)) (fun c20 => ?_) (fun c20 => ?_)
    · exact absurd h8 c20
    · refine V_bipush (pc := 23) C dX8_again_23 rfl ?_
      exact V_iret (pc := 25) C Z dX8_again_25 () trivial (ri (by first | rfl | omega | exact bI_t (by omega) | exact bI_f (by omega))) rfl
  · exact absurd c6 (by omega)
set_option maxRecDepth 100000 in
set_option maxHeartbeats 4000000 in
theorem c_X8_again_ok (l : Launch) (D : va_G) (d : Nat → ClassId) (o : Nat) (q : Nat → Nat) (f : Nat → Int) (qa : Nat → Nat) (fa : Nat → Int) (z : Nat) (qz : Nat → Nat) (fz : Nat → Int) (sl : Nat → Option Nat) (K0 : Int → Int) (K1 : Int → Int) (K2 : Int → Int) (K3 : Int → Int) (K4 : Int → Int) (K5 : Int → Int) (A0 : Int → Int) (A1 : Int → Int) (A2 : Int → Int) (A3 : Int → Int) (A4 : Int → Int) (A5 : Int → Int) (k : Int) (hk : 0 ≤ k ∧ k ≤ 1) (hsl : sl k.toNat = some z) (h8 : fz 8 = 1) : CU l yX8_again cX8_again 2 (some .int) 2 61 D d [.ref o, .int (iI k)] [(o, .inr (8, fX8 q f)), (q 5, aR (d 2) 2 sl), (q 4, .inr (5, fX5 qa fa)), (qa 0, aI (d 0) 6 A0), (qa 1, aI (d 0) 4 A1), (qa 2, aI (d 0) 12 A2), (qa 3, aI (d 0) 12 A3), (qa 4, aI (d 0) 12 A4), (qa 5, aI (d 0) 12 A5), (z, .inr (5, fX5 qz fz)), (qz 0, aI (d 0) 6 K0), (qz 1, aI (d 0) 4 K1), (qz 2, aI (d 0) 12 K2), (qz 3, aI (d 0) 12 K3), (qz 4, aI (d 0) 12 K4), (qz 5, aI (d 0) 12 K5)] (fun (_ : Unit) => True) (fun (_ : Unit) => some (.int (iI (fz 6)))) (fun (_ : Unit) => [(o, .inr (8, fX8 q f)), (q 5, aR (d 2) 2 sl), (q 4, .inr (5, fX5 qa (up (up fa 6 (fz 6)) 7 (fz 7)))), (qa 0, aI (d 0) 6 (cpI K0 A0 6)), (qa 1, aI (d 0) 4 (cpI K1 A1 4)), (qa 2, aI (d 0) 12 (cpI K2 A2 12)), (qa 3, aI (d 0) 12 (cpI K3 A3 12)), (qa 4, aI (d 0) 12 (cpI K4 A4 12)), (qa 5, aI (d 0) 12 (cpI K5 A5 12)), (z, .inr (5, fX5 qz fz)), (qz 0, aI (d 0) 6 K0), (qz 1, aI (d 0) 4 K1), (qz 2, aI (d 0) 12 K2), (qz 3, aI (d 0) 12 K3), (qz 4, aI (d 0) 12 K4), (qz 5, aI (d 0) 12 K5)]) := by
  refine CU.mk (own := RX8) (lv := [(0, .ref o), (1, .int (iI k))]) rfl (by decide) (Nat.le_of_ble_eq_true rfl) rfl ?_
  intro p9 e9 R9 s9 m9 args9 below9 meth9 c9 A9 Q9 hRf hRl C Z
  refine V_iload_n (pc := 0) C dX8_again_0 rfl 1 rfl ?_
  refine V_iconst (pc := 1) C dX8_again_1 ?_
  refine V_iconst (pc := 2) C dX8_again_2 ?_
  refine cs_X8_72 (pc := 3) (rest := []) (wn := fun _ => [(o, .inr (8, fX8 q f)), (q 5, aR (d 2) 2 sl), (q 4, .inr (5, fX5 qa fa)), (qa 0, aI (d 0) 6 A0), (qa 1, aI (d 0) 4 A1), (qa 2, aI (d 0) 12 A2), (qa 3, aI (d 0) 12 A3), (qa 4, aI (d 0) 12 A4), (qa 5, aI (d 0) 12 A5), (z, .inr (5, fX5 qz fz)), (qz 0, aI (d 0) 6 K0), (qz 1, aI (d 0) 4 K1), (qz 2, aI (d 0) 12 K2), (qz 3, aI (d 0) 12 K3), (qz 4, aI (d 0) 12 K4), (qz 5, aI (d 0) 12 K5)]) (sn := fun _ => [.int (iI (bI (0 ≤ k ∧ k ≤ 1)))]) C dX8_again_3 (c_X8_within l D d k 0 1 (show -2147483648 ≤ k ∧ k ≤ 2147483647 by omega) (show -2147483648 ≤ 0 ∧ 0 ≤ 2147483647 by omega) (show -2147483648 ≤ 1 ∧ 1 ≤ 2147483647 by omega)) [] rfl rfl rfl rfl (Nat.le_of_ble_eq_true rfl) ⟨by omega, by omega⟩ ⟨Nat.zero_le _, Nat.zero_le _⟩ (fun _ => rfl) (fun _ => rfl) (fun _ => rfl) ?_
  intro _ _
  refine V_ifb_ne (pc := 6) 11 C dX8_again_6 (by decide) (fun c6 => ?_) (fun c6 => ?_)
  · refine V_aload_n (pc := 11) C dX8_again_11 rfl 0 rfl ?_
    refine gf_X8_40 (x := q 5) (pc := 12) C dX8_again_12 0 rfl rfl ?_
    refine V_iload_n (pc := 15) C dX8_again_15 rfl 1 rfl ?_
    refine V_aald (k := 2) (x := z) (f := sl) (Or.inl rfl) (pc := 16) C dX8_again_16 1 rfl (by omega) (by omega) hsl (Nat.le_of_ble_eq_true rfl) ?_
    refine gf_X8_92 (x := fz 8) (pc := 17) C dX8_again_17 9 rfl rfl ?_
    refine V_if_ne (pc := 20) 26 C dX8_again_20 (by decide) (sm_i (by omega)) (fun c20 => ?_) (fun c20 => ?_)
    · refine V_aload_n (pc := 26) C dX8_again_26 rfl 0 rfl ?_
      refine gf_X8_36 (x := q 4) (pc := 27) C dX8_again_27 0 rfl rfl ?_
      refine V_aload_n (pc := 30) C dX8_again_30 rfl 0 rfl ?_
      refine gf_X8_40 (x := q 5) (pc := 31) C dX8_again_31 0 rfl rfl ?_
      refine V_iload_n (pc := 34) C dX8_again_34 rfl 1 rfl ?_
      refine V_aald (k := 2) (x := z) (f := sl) (Or.inl rfl) (pc := 35) C dX8_again_35 1 rfl (by omega) (by omega) hsl (Nat.le_of_ble_eq_true rfl) ?_
      refine cv_X8_262 (pc := 36) (rest := []) (wn := fun _ => [(o, .inr (8, fX8 q f)), (q 5, aR (d 2) 2 sl), (q 4, .inr (5, fX5 qa (up (up fa 6 (fz 6)) 7 (fz 7)))), (qa 0, aI (d 0) 6 (cpI K0 A0 6)), (qa 1, aI (d 0) 4 (cpI K1 A1 4)), (qa 2, aI (d 0) 12 (cpI K2 A2 12)), (qa 3, aI (d 0) 12 (cpI K3 A3 12)), (qa 4, aI (d 0) 12 (cpI K4 A4 12)), (qa 5, aI (d 0) 12 (cpI K5 A5 12)), (z, .inr (5, fX5 qz fz)), (qz 0, aI (d 0) 6 K0), (qz 1, aI (d 0) 4 K1), (qz 2, aI (d 0) 12 K2), (qz 3, aI (d 0) 12 K3), (qz 4, aI (d 0) 12 K4), (qz 5, aI (d 0) 12 K5)]) (sn := fun _ => []) C dX8_again_36 (c_X5_takeFrom l D d (q 4) z qa qz fa fz A0 A1 A2 A3 A4 A5 K0 K1 K2 K3 K4 K5 ) [2, 3, 4, 5, 6, 7, 8, 9, 10, 11, 12, 13, 14, 15] rfl rfl 2 rfl rfl rfl (Nat.le_of_ble_eq_true rfl) ⟨by omega, by omega⟩ ⟨Nat.zero_le _, Nat.zero_le _⟩ (fun _ => rfl) (fun _ => rfl) (fun _ => rfl) ?_
      intro _ _
      refine V_aload_n (pc := 39) C dX8_again_39 rfl 0 rfl ?_
      refine gf_X8_36 (x := q 4) (pc := 40) C dX8_again_40 0 rfl rfl ?_
      refine gf_X8_146 (x := (fz 6)) (pc := 43) C dX8_again_43 2 rfl rfl ?_
      exact V_iret (pc := 46) C Z dX8_again_46 () trivial (ri (by first | rfl | omega | exact bI_t (by omega) | exact bI_f (by omega))) rfl
    · exact absurd c20 (by omega)
  · exact absurd c6 (by omega)
set_option maxRecDepth 100000 in
set_option maxHeartbeats 4000000 in
theorem c_X9_keep_bad (l : Launch) (D : va_G) (d : Nat → ClassId) (o : Nat) (q : Nat → Nat) (f : Nat → Int) (k : Int) (hk : -2147483648 ≤ k ∧ k ≤ 2147483647) (hb : ¬ (0 ≤ k ∧ k ≤ 1)) : CU l yX9_keep cX9_keep 3 (some .int) 1 25 D d [.ref o, .int (iI k)] [(o, .inr (9, fX9 q f))] (fun (_ : Unit) => True) (fun (_ : Unit) => some (.int (iI (-1)))) (fun (_ : Unit) => [(o, .inr (9, fX9 q (up f 0 0)))]) := by
  refine CU.mk (own := RX9) (lv := [(0, .ref o), (1, .int (iI k))]) rfl (by decide) (Nat.le_of_ble_eq_true rfl) rfl ?_
  intro p9 e9 R9 s9 m9 args9 below9 meth9 c9 A9 Q9 hRf hRl C Z
  refine V_aload_n (pc := 0) C dX9_keep_0 rfl 0 rfl ?_
  refine V_iconst (pc := 1) C dX9_keep_1 ?_
  refine pf_X9_117 (ws' := [(o, .inr (9, fX9 q (up f 0 0)))]) (pc := 2) C dX9_keep_2 0 rfl rfl ?_
  refine V_iload_n (pc := 5) C dX9_keep_5 rfl 1 rfl ?_
  refine V_i2l (pc := 6) C dX9_keep_6 (sm_i (by omega)) ?_
  refine V_lconst (k := 0) (pc := 7) C dX9_keep_7 rfl ?_
  refine V_lconst (k := 1) (pc := 8) C dX9_keep_8 rfl ?_
  refine cs_X9_123 (pc := 9) (rest := []) (wn := fun _ => [(o, .inr (9, fX9 q (up f 0 0)))]) (sn := fun _ => [.int (iI (bI (0 ≤ k ∧ k ≤ 1)))]) C dX9_keep_9 (c_X9_in l D d k 0 1 (show -9223372036854775808 ≤ k ∧ k ≤ 9223372036854775807 by omega) (show -9223372036854775808 ≤ 0 ∧ 0 ≤ 9223372036854775807 by omega) (show -9223372036854775808 ≤ 1 ∧ 1 ≤ 9223372036854775807 by omega)) [] rfl rfl rfl rfl (Nat.le_of_ble_eq_true rfl) ⟨by omega, by omega⟩ ⟨Nat.zero_le _, Nat.zero_le _⟩ (fun _ => rfl) (fun _ => rfl) (fun _ => rfl) ?_
  intro _ _
  refine V_ifb_ne (pc := 12) 17 C dX9_keep_12 (by decide) (fun c12 => ?_) (fun c12 => ?_)
  · exact absurd c12 (by omega)
  · refine V_iconst (pc := 15) C dX9_keep_15 ?_
    exact V_iret (pc := 16) C Z dX9_keep_16 () trivial (ri (by first | rfl | omega | exact bI_t (by omega) | exact bI_f (by omega))) rfl
set_option maxRecDepth 100000 in
set_option maxHeartbeats 4000000 in
theorem c_X9_keep_ok (l : Launch) (D : va_G) (d : Nat → ClassId) (o : Nat) (q : Nat → Nat) (f : Nat → Int) (M6 : Int → Int) (M9 : Int → Int) (M22 : Int → Int) (M23 : Int → Int) (M24 : Int → Int) (M25 : Int → Int) (M38 : Int → Int) (M39 : Int → Int) (k : Int) (hk : 0 ≤ k ∧ k ≤ 1) : CU l yX9_keep cX9_keep 3 (some .int) 1 25 D d [.ref o, .int (iI k)] [(o, .inr (9, fX9 q f)), (q 6, aI (d 0) 6 M6), (q 9, aI (d 0) 4 M9), (q 22, aI (d 0) 12 M22), (q 23, aI (d 0) 12 M23), (q 24, aI (d 0) 12 M24), (q 25, aI (d 0) 12 M25), (q 38, aI (d 0) 120 M38), (q 39, aI (d 1) 2 M39)] (fun (_ : Unit) => True) (fun (_ : Unit) => some (.int (iI (f 21)))) (fun (_ : Unit) => [(o, .inr (9, fX9 q (up f 0 0))), (q 6, aI (d 0) 6 M6), (q 9, aI (d 0) 4 M9), (q 22, aI (d 0) 12 M22), (q 23, aI (d 0) 12 M23), (q 24, aI (d 0) 12 M24), (q 25, aI (d 0) 12 M25), (q 38, aI (d 0) 120 (uI (uI (cpO M25 (cpO M24 (cpO (fun j => 10 * M22 j + M23 j) (cpO M9 (cpO M6 M38 (60 * k) 6) (60 * k + 6) 4) (60 * k + 10) 12) (60 * k + 22) 12) (60 * k + 34) 12) (60 * k + 46) (f 21)) (60 * k + 47) (f 13))), (q 39, aI (d 1) 2 (uI M39 k 1))]) := by
  refine CU.mk (own := RX9) (lv := [(0, .ref o), (1, .int (iI k))]) rfl (by decide) (Nat.le_of_ble_eq_true rfl) rfl ?_
  intro p9 e9 R9 s9 m9 args9 below9 meth9 c9 A9 Q9 hRf hRl C Z
  refine V_aload_n (pc := 0) C dX9_keep_0 rfl 0 rfl ?_
  refine V_iconst (pc := 1) C dX9_keep_1 ?_
  refine pf_X9_117 (ws' := [(o, .inr (9, fX9 q (up f 0 0))), (q 6, aI (d 0) 6 M6), (q 9, aI (d 0) 4 M9), (q 22, aI (d 0) 12 M22), (q 23, aI (d 0) 12 M23), (q 24, aI (d 0) 12 M24), (q 25, aI (d 0) 12 M25), (q 38, aI (d 0) 120 M38), (q 39, aI (d 1) 2 M39)]) (pc := 2) C dX9_keep_2 0 rfl rfl ?_
  refine V_iload_n (pc := 5) C dX9_keep_5 rfl 1 rfl ?_
  refine V_i2l (pc := 6) C dX9_keep_6 (sm_i (by omega)) ?_
  refine V_lconst (k := 0) (pc := 7) C dX9_keep_7 rfl ?_
  refine V_lconst (k := 1) (pc := 8) C dX9_keep_8 rfl ?_
  refine cs_X9_123 (pc := 9) (rest := []) (wn := fun _ => [(o, .inr (9, fX9 q (up f 0 0))), (q 6, aI (d 0) 6 M6), (q 9, aI (d 0) 4 M9), (q 22, aI (d 0) 12 M22), (q 23, aI (d 0) 12 M23), (q 24, aI (d 0) 12 M24), (q 25, aI (d 0) 12 M25), (q 38, aI (d 0) 120 M38), (q 39, aI (d 1) 2 M39)]) (sn := fun _ => [.int (iI (bI (0 ≤ k ∧ k ≤ 1)))]) C dX9_keep_9 (c_X9_in l D d k 0 1 (show -9223372036854775808 ≤ k ∧ k ≤ 9223372036854775807 by omega) (show -9223372036854775808 ≤ 0 ∧ 0 ≤ 9223372036854775807 by omega) (show -9223372036854775808 ≤ 1 ∧ 1 ≤ 9223372036854775807 by omega)) [] rfl rfl rfl rfl (Nat.le_of_ble_eq_true rfl) ⟨by omega, by omega⟩ ⟨Nat.zero_le _, Nat.zero_le _⟩ (fun _ => rfl) (fun _ => rfl) (fun _ => rfl) ?_
  intro _ _
  refine V_ifb_ne (pc := 12) 17 C dX9_keep_12 (by decide) (fun c12 => ?_) (fun c12 => ?_)
  · refine V_aload_n (pc := 17) C dX9_keep_17 rfl 0 rfl ?_
    refine gf_X9_99 (x := q 39) (pc := 18) C dX9_keep_18 0 rfl rfl ?_
    refine V_iload_n (pc := 21) C dX9_keep_21 rfl 1 rfl ?_
    refine V_iconst (pc := 22) C dX9_keep_22 ?_
    refine V_zast (f := M39) (ws' := [(o, .inr (9, fX9 q (up f 0 0))), (q 6, aI (d 0) 6 M6), (q 9, aI (d 0) 4 M9), (q 22, aI (d 0) 12 M22), (q 23, aI (d 0) 12 M23), (q 24, aI (d 0) 12 M24), (q 25, aI (d 0) 12 M25), (q 38, aI (d 0) 120 M38), (q 39, aI (d 1) 2 (uI M39 k 1))]) (pc := 23) C dX9_keep_23 8 rfl (by omega) (by omega) (Nat.le_of_ble_eq_true rfl) (by omega) rfl ?_
    refine V_iconst (pc := 24) C dX9_keep_24 ?_
    refine V_istore_n (lv' := [(2, .int (iI 0)), (0, .ref o), (1, .int (iI k))]) (pc := 25) C dX9_keep_25 rfl (by decide) rfl ?_
    have L26 : ∀ (nn9 : Nat) (j1 : Int) (G1 : Int → Int), (0 ≤ j1 ∧ j1 ≤ 6) → (G1 = cpO M6 M38 (60 * k) j1) → ((6 : Int) - j1).toNat < nn9 → V p9 l e9 R9 s9 m9 args9 below9 meth9 c9 A9 D Q9 3 0 0 [(o, .inr (9, fX9 q (up f 0 0))), (q 6, aI (d 0) 6 M6), (q 9, aI (d 0) 4 M9), (q 22, aI (d 0) 12 M22), (q 23, aI (d 0) 12 M23), (q 24, aI (d 0) 12 M24), (q 25, aI (d 0) 12 M25), (q 38, aI (d 0) 120 G1), (q 39, aI (d 1) 2 (uI M39 k 1))] [(2, .int (iI j1)), (0, .ref o), (1, .int (iI k))] 26 [] := by
      intro nn9
      induction nn9 with
      | zero => intro _ _ _ _ hm26; exact absurd hm26 (Nat.not_lt_zero _)
      | succ nn9 ih26 =>
        intro j1 G1 hj1 hG1 hm26
        refine V_iload_n (pc := 26) C dX9_keep_26 rfl 0 rfl ?_
        refine V_bipush (pc := 27) C dX9_keep_27 rfl ?_
        refine V_icmp_ge (pc := 29) 55 C dX9_keep_29 (by decide) (sm_i (by omega)) (sm_i (by decide)) (fun c29 => ?_) (fun c29 => ?_)
        · refine V_iconst (pc := 55) C dX9_keep_55 ?_
          refine V_istore_n (lv' := [(2, .int (iI 0)), (0, .ref o), (1, .int (iI k))]) (pc := 56) C dX9_keep_56 rfl (by decide) rfl ?_
          have L57 : ∀ (nn9 : Nat) (j2 : Int) (G2 : Int → Int), (0 ≤ j2 ∧ j2 ≤ 4) → (G2 = cpO M9 (cpO M6 M38 (60 * k) 6) (60 * k + 6) j2) → ((4 : Int) - j2).toNat < nn9 → V p9 l e9 R9 s9 m9 args9 below9 meth9 c9 A9 D Q9 3 0 0 [(o, .inr (9, fX9 q (up f 0 0))), (q 6, aI (d 0) 6 M6), (q 9, aI (d 0) 4 M9), (q 22, aI (d 0) 12 M22), (q 23, aI (d 0) 12 M23), (q 24, aI (d 0) 12 M24), (q 25, aI (d 0) 12 M25), (q 38, aI (d 0) 120 G2), (q 39, aI (d 1) 2 (uI M39 k 1))] [(2, .int (iI j2)), (0, .ref o), (1, .int (iI k))] 57 [] := by
            intro nn9
            induction nn9 with
            | zero => intro _ _ _ _ hm57; exact absurd hm57 (Nat.not_lt_zero _)
            | succ nn9 ih57 =>
              intro j2 G2 hj2 hG2 hm57
              refine V_iload_n (pc := 57) C dX9_keep_57 rfl 0 rfl ?_
              refine V_iconst (pc := 58) C dX9_keep_58 ?_
              refine V_icmp_ge (pc := 59) 88 C dX9_keep_59 (by decide) (sm_i (by omega)) (sm_i (by decide)) (fun c59 => ?_) (fun c59 => ?_)
              · refine V_iconst (pc := 88) C dX9_keep_88 ?_
                refine V_istore_n (lv' := [(2, .int (iI 0)), (0, .ref o), (1, .int (iI k))]) (pc := 89) C dX9_keep_89 rfl (by decide) rfl ?_
                have L90 : ∀ (nn9 : Nat) (j3 : Int) (G3 : Int → Int), (0 ≤ j3 ∧ j3 ≤ 12) → (G3 = cpO M25 (cpO M24 (cpO (fun j => 10 * M22 j + M23 j) (cpO M9 (cpO M6 M38 (60 * k) 6) (60 * k + 6) 4) (60 * k + 10) j3) (60 * k + 22) j3) (60 * k + 34) j3) → ((12 : Int) - j3).toNat < nn9 → V p9 l e9 R9 s9 m9 args9 below9 meth9 c9 A9 D Q9 3 0 0 [(o, .inr (9, fX9 q (up f 0 0))), (q 6, aI (d 0) 6 M6), (q 9, aI (d 0) 4 M9), (q 22, aI (d 0) 12 M22), (q 23, aI (d 0) 12 M23), (q 24, aI (d 0) 12 M24), (q 25, aI (d 0) 12 M25), (q 38, aI (d 0) 120 G3), (q 39, aI (d 1) 2 (uI M39 k 1))] [(2, .int (iI j3)), (0, .ref o), (1, .int (iI k))] 90 [] := by
                  intro nn9
                  induction nn9 with
                  | zero => intro _ _ _ _ hm90; exact absurd hm90 (Nat.not_lt_zero _)
                  | succ nn9 ih90 =>
                    intro j3 G3 hj3 hG3 hm90
                    refine V_iload_n (pc := 90) C dX9_keep_90 rfl 0 rfl ?_
                    refine V_bipush (pc := 91) C dX9_keep_91 rfl ?_
                    refine V_icmp_ge (pc := 93) 172 C dX9_keep_93 (by decide) (sm_i (by omega)) (sm_i (by decide)) (fun c93 => ?_) (fun c93 => ?_)
                    · refine V_aload_n (pc := 172) C dX9_keep_172 rfl 1 rfl ?_
                      refine gf_X9_96 (x := q 38) (pc := 173) C dX9_keep_173 0 rfl rfl ?_
                      refine V_bipush (pc := 176) C dX9_keep_176 rfl ?_
                      refine V_iload_n (pc := 178) C dX9_keep_178 rfl 2 rfl ?_
                      refine V_imul (pc := 179) C dX9_keep_179 ?_
                      refine V_bipush (pc := 180) C dX9_keep_180 rfl ?_
                      refine V_iadd (pc := 182) C dX9_keep_182 ?_
                      refine V_aload_n (pc := 183) C dX9_keep_183 rfl 1 rfl ?_
                      refine gf_X9_177 (x := f 21) (pc := 184) C dX9_keep_184 0 rfl rfl ?_
                      refine V_iast (f := G3) (ws' := [(o, .inr (9, fX9 q (up f 0 0))), (q 6, aI (d 0) 6 M6), (q 9, aI (d 0) 4 M9), (q 22, aI (d 0) 12 M22), (q 23, aI (d 0) 12 M23), (q 24, aI (d 0) 12 M24), (q 25, aI (d 0) 12 M25), (q 38, aI (d 0) 120 (uI G3 ((60 * k) + 46) (f 21))), (q 39, aI (d 1) 2 (uI M39 k 1))]) (pc := 187) C dX9_keep_187 7 rfl (by omega) (by omega) (Nat.le_of_ble_eq_true rfl) rfl ?_
                      refine V_aload_n (pc := 188) C dX9_keep_188 rfl 1 rfl ?_
                      refine gf_X9_96 (x := q 38) (pc := 189) C dX9_keep_189 0 rfl rfl ?_
                      refine V_bipush (pc := 192) C dX9_keep_192 rfl ?_
                      refine V_iload_n (pc := 194) C dX9_keep_194 rfl 2 rfl ?_
                      refine V_imul (pc := 195) C dX9_keep_195 ?_
                      refine V_bipush (pc := 196) C dX9_keep_196 rfl ?_
                      refine V_iadd (pc := 198) C dX9_keep_198 ?_
                      refine V_aload_n (pc := 199) C dX9_keep_199 rfl 1 rfl ?_
                      refine gf_X9_35 (x := f 13) (pc := 200) C dX9_keep_200 0 rfl rfl ?_
                      refine V_iast (f := uI G3 ((60 * k) + 46) (f 21)) (ws' := [(o, .inr (9, fX9 q (up f 0 0))), (q 6, aI (d 0) 6 M6), (q 9, aI (d 0) 4 M9), (q 22, aI (d 0) 12 M22), (q 23, aI (d 0) 12 M23), (q 24, aI (d 0) 12 M24), (q 25, aI (d 0) 12 M25), (q 38, aI (d 0) 120 (uI (uI G3 ((60 * k) + 46) (f 21)) ((60 * k) + 47) (f 13))), (q 39, aI (d 1) 2 (uI M39 k 1))]) (pc := 203) C dX9_keep_203 7 rfl (by omega) (by omega) (Nat.le_of_ble_eq_true rfl) rfl ?_
                      refine V_aload_n (pc := 204) C dX9_keep_204 rfl 1 rfl ?_
                      refine gf_X9_177 (x := f 21) (pc := 205) C dX9_keep_205 0 rfl rfl ?_
                      exact V_iret (pc := 208) C Z dX9_keep_208 () trivial (ri (by rfl)) (by rw [hG3, show j3 = 12 by omega])
                    · refine V_aload_n (pc := 96) C dX9_keep_96 rfl 1 rfl ?_
                      refine gf_X9_96 (x := q 38) (pc := 97) C dX9_keep_97 0 rfl rfl ?_
                      refine V_bipush (pc := 100) C dX9_keep_100 rfl ?_
                      refine V_iload_n (pc := 102) C dX9_keep_102 rfl 2 rfl ?_
                      refine V_imul (pc := 103) C dX9_keep_103 ?_
                      refine V_bipush (pc := 104) C dX9_keep_104 rfl ?_
                      refine V_iadd (pc := 106) C dX9_keep_106 ?_
                      refine V_iload_n (pc := 107) C dX9_keep_107 rfl 0 rfl ?_
                      refine V_iadd (pc := 108) C dX9_keep_108 ?_
                      refine V_bipush (pc := 109) C dX9_keep_109 rfl ?_
                      refine V_aload_n (pc := 111) C dX9_keep_111 rfl 1 rfl ?_
                      refine gf_X9_54 (x := q 22) (pc := 112) C dX9_keep_112 0 rfl rfl ?_
                      refine V_iload_n (pc := 115) C dX9_keep_115 rfl 0 rfl ?_
                      refine V_iald (f := M22) (pc := 116) C dX9_keep_116 3 rfl (by omega) (by omega) (Nat.le_of_ble_eq_true rfl) ?_
                      refine V_imul (pc := 117) C dX9_keep_117 ?_
                      refine V_aload_n (pc := 118) C dX9_keep_118 rfl 1 rfl ?_
                      refine gf_X9_57 (x := q 23) (pc := 119) C dX9_keep_119 0 rfl rfl ?_
                      refine V_iload_n (pc := 122) C dX9_keep_122 rfl 0 rfl ?_
                      refine V_iald (f := M23) (pc := 123) C dX9_keep_123 4 rfl (by omega) (by omega) (Nat.le_of_ble_eq_true rfl) ?_
                      refine V_iadd (pc := 124) C dX9_keep_124 ?_
                      refine V_iast (f := G3) (ws' := [(o, .inr (9, fX9 q (up f 0 0))), (q 6, aI (d 0) 6 M6), (q 9, aI (d 0) 4 M9), (q 22, aI (d 0) 12 M22), (q 23, aI (d 0) 12 M23), (q 24, aI (d 0) 12 M24), (q 25, aI (d 0) 12 M25), (q 38, aI (d 0) 120 (uI G3 (((60 * k) + 10) + j3) ((10 * (M22 j3)) + (M23 j3)))), (q 39, aI (d 1) 2 (uI M39 k 1))]) (pc := 125) C dX9_keep_125 7 rfl (by omega) (by omega) (Nat.le_of_ble_eq_true rfl) rfl ?_
                      refine V_aload_n (pc := 126) C dX9_keep_126 rfl 1 rfl ?_
                      refine gf_X9_96 (x := q 38) (pc := 127) C dX9_keep_127 0 rfl rfl ?_
                      refine V_bipush (pc := 130) C dX9_keep_130 rfl ?_
                      refine V_iload_n (pc := 132) C dX9_keep_132 rfl 2 rfl ?_
                      refine V_imul (pc := 133) C dX9_keep_133 ?_
                      refine V_bipush (pc := 134) C dX9_keep_134 rfl ?_
                      refine V_iadd (pc := 136) C dX9_keep_136 ?_
                      refine V_iload_n (pc := 137) C dX9_keep_137 rfl 0 rfl ?_
                      refine V_iadd (pc := 138) C dX9_keep_138 ?_
                      refine V_aload_n (pc := 139) C dX9_keep_139 rfl 1 rfl ?_
                      refine gf_X9_60 (x := q 24) (pc := 140) C dX9_keep_140 0 rfl rfl ?_
                      refine V_iload_n (pc := 143) C dX9_keep_143 rfl 0 rfl ?_
                      refine V_iald (f := M24) (pc := 144) C dX9_keep_144 5 rfl (by omega) (by omega) (Nat.le_of_ble_eq_true rfl) ?_
                      refine V_iast (f := uI G3 (((60 * k) + 10) + j3) ((10 * (M22 j3)) + (M23 j3))) (ws' := [(o, .inr (9, fX9 q (up f 0 0))), (q 6, aI (d 0) 6 M6), (q 9, aI (d 0) 4 M9), (q 22, aI (d 0) 12 M22), (q 23, aI (d 0) 12 M23), (q 24, aI (d 0) 12 M24), (q 25, aI (d 0) 12 M25), (q 38, aI (d 0) 120 (uI (uI G3 (((60 * k) + 10) + j3) ((10 * (M22 j3)) + (M23 j3))) (((60 * k) + 22) + j3) (M24 j3))), (q 39, aI (d 1) 2 (uI M39 k 1))]) (pc := 145) C dX9_keep_145 7 rfl (by omega) (by omega) (Nat.le_of_ble_eq_true rfl) rfl ?_
                      refine V_aload_n (pc := 146) C dX9_keep_146 rfl 1 rfl ?_
                      refine gf_X9_96 (x := q 38) (pc := 147) C dX9_keep_147 0 rfl rfl ?_
                      refine V_bipush (pc := 150) C dX9_keep_150 rfl ?_
                      refine V_iload_n (pc := 152) C dX9_keep_152 rfl 2 rfl ?_
                      refine V_imul (pc := 153) C dX9_keep_153 ?_
                      refine V_bipush (pc := 154) C dX9_keep_154 rfl ?_
                      refine V_iadd (pc := 156) C dX9_keep_156 ?_
                      refine V_iload_n (pc := 157) C dX9_keep_157 rfl 0 rfl ?_
                      refine V_iadd (pc := 158) C dX9_keep_158 ?_
                      refine V_aload_n (pc := 159) C dX9_keep_159 rfl 1 rfl ?_
                      refine gf_X9_63 (x := q 25) (pc := 160) C dX9_keep_160 0 rfl rfl ?_
                      refine V_iload_n (pc := 163) C dX9_keep_163 rfl 0 rfl ?_
                      refine V_iald (f := M25) (pc := 164) C dX9_keep_164 6 rfl (by omega) (by omega) (Nat.le_of_ble_eq_true rfl) ?_
                      refine V_iast (f := uI (uI G3 (((60 * k) + 10) + j3) ((10 * (M22 j3)) + (M23 j3))) (((60 * k) + 22) + j3) (M24 j3)) (ws' := [(o, .inr (9, fX9 q (up f 0 0))), (q 6, aI (d 0) 6 M6), (q 9, aI (d 0) 4 M9), (q 22, aI (d 0) 12 M22), (q 23, aI (d 0) 12 M23), (q 24, aI (d 0) 12 M24), (q 25, aI (d 0) 12 M25), (q 38, aI (d 0) 120 (uI (uI (uI G3 (((60 * k) + 10) + j3) ((10 * (M22 j3)) + (M23 j3))) (((60 * k) + 22) + j3) (M24 j3)) (((60 * k) + 34) + j3) (M25 j3))), (q 39, aI (d 1) 2 (uI M39 k 1))]) (pc := 165) C dX9_keep_165 7 rfl (by omega) (by omega) (Nat.le_of_ble_eq_true rfl) rfl ?_
                      refine V_iinc (lv' := [(2, .int (iI (j3 + 1))), (0, .ref o), (1, .int (iI k))]) (pc := 166) C dX9_keep_166 0 rfl (by decide) rfl ?_
                      refine V_goto (pc := 169) 90 C dX9_keep_169 (by decide) ?_
                      exact V_sub [0, 1, 2] rfl (ih90 (j3 + 1) (uI (uI (uI G3 (((60 * k) + 10) + j3) ((10 * (M22 j3)) + (M23 j3))) (((60 * k) + 22) + j3) (M24 j3)) (((60 * k) + 34) + j3) (M25 j3)) (by omega) (by rw [hG3, cpO_c (f := M25) (i := 60 * k + 10 + j3) (by omega), cpO_c (f := M24) (by omega), cpO_s (f := fun j => 10 * M22 j + M23 j) hj3.1 rfl rfl, cpO_c (f := M25) (i := 60 * k + 22 + j3) (by omega), cpO_s (f := M24) hj3.1 rfl rfl, cpO_s (f := M25) hj3.1 rfl rfl]) (by omega))
                exact V_sub [0, 1, 2] rfl (L90 (((12 : Int) - 0).toNat + 1) 0 G2 (by omega) (by rw [cpO_0, cpO_0, cpO_0, hG2, show j2 = 4 by omega]) (Nat.lt_succ_self _))
              · refine V_aload_n (pc := 62) C dX9_keep_62 rfl 1 rfl ?_
                refine gf_X9_96 (x := q 38) (pc := 63) C dX9_keep_63 0 rfl rfl ?_
                refine V_bipush (pc := 66) C dX9_keep_66 rfl ?_
                refine V_iload_n (pc := 68) C dX9_keep_68 rfl 2 rfl ?_
                refine V_imul (pc := 69) C dX9_keep_69 ?_
                refine V_bipush (pc := 70) C dX9_keep_70 rfl ?_
                refine V_iadd (pc := 72) C dX9_keep_72 ?_
                refine V_iload_n (pc := 73) C dX9_keep_73 rfl 0 rfl ?_
                refine V_iadd (pc := 74) C dX9_keep_74 ?_
                refine V_aload_n (pc := 75) C dX9_keep_75 rfl 1 rfl ?_
                refine gf_X9_22 (x := q 9) (pc := 76) C dX9_keep_76 0 rfl rfl ?_
                refine V_iload_n (pc := 79) C dX9_keep_79 rfl 0 rfl ?_
                refine V_iald (f := M9) (pc := 80) C dX9_keep_80 2 rfl (by omega) (by omega) (Nat.le_of_ble_eq_true rfl) ?_
                refine V_iast (f := G2) (ws' := [(o, .inr (9, fX9 q (up f 0 0))), (q 6, aI (d 0) 6 M6), (q 9, aI (d 0) 4 M9), (q 22, aI (d 0) 12 M22), (q 23, aI (d 0) 12 M23), (q 24, aI (d 0) 12 M24), (q 25, aI (d 0) 12 M25), (q 38, aI (d 0) 120 (uI G2 (((60 * k) + 6) + j2) (M9 j2))), (q 39, aI (d 1) 2 (uI M39 k 1))]) (pc := 81) C dX9_keep_81 7 rfl (by omega) (by omega) (Nat.le_of_ble_eq_true rfl) rfl ?_
                refine V_iinc (lv' := [(2, .int (iI (j2 + 1))), (0, .ref o), (1, .int (iI k))]) (pc := 82) C dX9_keep_82 0 rfl (by decide) rfl ?_
                refine V_goto (pc := 85) 57 C dX9_keep_85 (by decide) ?_
                exact V_sub [0, 1, 2] rfl (ih57 (j2 + 1) (uI G2 (((60 * k) + 6) + j2) (M9 j2)) (by omega) (by rw [hG2]; exact cpO_s hj2.1 rfl rfl) (by omega))
          exact V_sub [0, 1, 2] rfl (L57 (((4 : Int) - 0).toNat + 1) 0 G1 (by omega) (by rw [cpO_0, hG1, show j1 = 6 by omega]) (Nat.lt_succ_self _))
        · refine V_aload_n (pc := 32) C dX9_keep_32 rfl 1 rfl ?_
          refine gf_X9_96 (x := q 38) (pc := 33) C dX9_keep_33 0 rfl rfl ?_
          refine V_bipush (pc := 36) C dX9_keep_36 rfl ?_
          refine V_iload_n (pc := 38) C dX9_keep_38 rfl 2 rfl ?_
          refine V_imul (pc := 39) C dX9_keep_39 ?_
          refine V_iload_n (pc := 40) C dX9_keep_40 rfl 0 rfl ?_
          refine V_iadd (pc := 41) C dX9_keep_41 ?_
          refine V_aload_n (pc := 42) C dX9_keep_42 rfl 1 rfl ?_
          refine gf_X9_13 (x := q 6) (pc := 43) C dX9_keep_43 0 rfl rfl ?_
          refine V_iload_n (pc := 46) C dX9_keep_46 rfl 0 rfl ?_
          refine V_iald (f := M6) (pc := 47) C dX9_keep_47 1 rfl (by omega) (by omega) (Nat.le_of_ble_eq_true rfl) ?_
          refine V_iast (f := G1) (ws' := [(o, .inr (9, fX9 q (up f 0 0))), (q 6, aI (d 0) 6 M6), (q 9, aI (d 0) 4 M9), (q 22, aI (d 0) 12 M22), (q 23, aI (d 0) 12 M23), (q 24, aI (d 0) 12 M24), (q 25, aI (d 0) 12 M25), (q 38, aI (d 0) 120 (uI G1 ((60 * k) + j1) (M6 j1))), (q 39, aI (d 1) 2 (uI M39 k 1))]) (pc := 48) C dX9_keep_48 7 rfl (by omega) (by omega) (Nat.le_of_ble_eq_true rfl) rfl ?_
          refine V_iinc (lv' := [(2, .int (iI (j1 + 1))), (0, .ref o), (1, .int (iI k))]) (pc := 49) C dX9_keep_49 0 rfl (by decide) rfl ?_
          refine V_goto (pc := 52) 26 C dX9_keep_52 (by decide) ?_
          exact V_sub [0, 1, 2] rfl (ih26 (j1 + 1) (uI G1 ((60 * k) + j1) (M6 j1)) (by omega) (by rw [hG1]; exact cpO_s hj1.1 rfl rfl) (by omega))
    exact V_sub [0, 1, 2] rfl (L26 (((6 : Int) - 0).toNat + 1) 0 M38 (by omega) ((cpO_0 _ _ _).symm) (Nat.lt_succ_self _))
  · exact absurd c12 (by omega)
set_option maxRecDepth 100000 in
set_option maxHeartbeats 4000000 in
theorem c_X9_again_bad (l : Launch) (D : va_G) (d : Nat → ClassId) (o : Nat) (q : Nat → Nat) (f : Nat → Int) (k : Int) (hk : -2147483648 ≤ k ∧ k ≤ 2147483647) (hb : ¬ (0 ≤ k ∧ k ≤ 1)) : CU l yX9_again cX9_again 3 (some .int) 1 25 D d [.ref o, .int (iI k)] [(o, .inr (9, fX9 q f))] (fun (_ : Unit) => True) (fun (_ : Unit) => some (.int (iI (-1)))) (fun (_ : Unit) => [(o, .inr (9, fX9 q (up f 0 0)))]) := by
  refine CU.mk (own := RX9) (lv := [(0, .ref o), (1, .int (iI k))]) rfl (by decide) (Nat.le_of_ble_eq_true rfl) rfl ?_
  intro p9 e9 R9 s9 m9 args9 below9 meth9 c9 A9 Q9 hRf hRl C Z
  refine V_aload_n (pc := 0) C dX9_again_0 rfl 0 rfl ?_
  refine V_iconst (pc := 1) C dX9_again_1 ?_
  refine pf_X9_117 (ws' := [(o, .inr (9, fX9 q (up f 0 0)))]) (pc := 2) C dX9_again_2 0 rfl rfl ?_
  refine V_iload_n (pc := 5) C dX9_again_5 rfl 1 rfl ?_
  refine V_i2l (pc := 6) C dX9_again_6 (sm_i (by omega)) ?_
  refine V_lconst (k := 0) (pc := 7) C dX9_again_7 rfl ?_
  refine V_lconst (k := 1) (pc := 8) C dX9_again_8 rfl ?_
  refine cs_X9_123 (pc := 9) (rest := []) (wn := fun _ => [(o, .inr (9, fX9 q (up f 0 0)))]) (sn := fun _ => [.int (iI (bI (0 ≤ k ∧ k ≤ 1)))]) C dX9_again_9 (c_X9_in l D d k 0 1 (show -9223372036854775808 ≤ k ∧ k ≤ 9223372036854775807 by omega) (show -9223372036854775808 ≤ 0 ∧ 0 ≤ 9223372036854775807 by omega) (show -9223372036854775808 ≤ 1 ∧ 1 ≤ 9223372036854775807 by omega)) [] rfl rfl rfl rfl (Nat.le_of_ble_eq_true rfl) ⟨by omega, by omega⟩ ⟨Nat.zero_le _, Nat.zero_le _⟩ (fun _ => rfl) (fun _ => rfl) (fun _ => rfl) ?_
  intro _ _
  refine V_ifb_ne (pc := 12) 17 C dX9_again_12 (by decide) (fun c12 => ?_) (fun c12 => ?_)
  · exact absurd c12 (by omega)
  · refine V_iconst (pc := 15) C dX9_again_15 ?_
    exact V_iret (pc := 16) C Z dX9_again_16 () trivial (ri (by first | rfl | omega | exact bI_t (by omega) | exact bI_f (by omega))) rfl
set_option maxRecDepth 100000 in
set_option maxHeartbeats 4000000 in
theorem c_X9_again_no (l : Launch) (D : va_G) (d : Nat → ClassId) (o : Nat) (q : Nat → Nat) (f : Nat → Int) (M39 : Int → Int) (k : Int) (hk : 0 ≤ k ∧ k ≤ 1) (h8 : M39 k = 0) : CU l yX9_again cX9_again 3 (some .int) 1 25 D d [.ref o, .int (iI k)] [(o, .inr (9, fX9 q f)), (q 39, aI (d 1) 2 M39)] (fun (_ : Unit) => True) (fun (_ : Unit) => some (.int (iI (-3)))) (fun (_ : Unit) => [(o, .inr (9, fX9 q (up f 0 0))), (q 39, aI (d 1) 2 M39)]) := by
  refine CU.mk (own := RX9) (lv := [(0, .ref o), (1, .int (iI k))]) rfl (by decide) (Nat.le_of_ble_eq_true rfl) rfl ?_
  intro p9 e9 R9 s9 m9 args9 below9 meth9 c9 A9 Q9 hRf hRl C Z
  refine V_aload_n (pc := 0) C dX9_again_0 rfl 0 rfl ?_
  refine V_iconst (pc := 1) C dX9_again_1 ?_
  refine pf_X9_117 (ws' := [(o, .inr (9, fX9 q (up f 0 0))), (q 39, aI (d 1) 2 M39)]) (pc := 2) C dX9_again_2 0 rfl rfl ?_
  refine V_iload_n (pc := 5) C dX9_again_5 rfl 1 rfl ?_
  refine V_i2l (pc := 6) C dX9_again_6 (sm_i (by omega)) ?_
  refine V_lconst (k := 0) (pc := 7) C dX9_again_7 rfl ?_
  refine V_lconst (k := 1) (pc := 8) C dX9_again_8 rfl ?_
  refine cs_X9_123 (pc := 9) (rest := []) (wn := fun _ => [(o, .inr (9, fX9 q (up f 0 0))), (q 39, aI (d 1) 2 M39)]) (sn := fun _ => [.int (iI (bI (0 ≤ k ∧ k ≤ 1)))]) C dX9_again_9 (c_X9_in l D d k 0 1 (show -9223372036854775808 ≤ k ∧ k ≤ 9223372036854775807 by omega) (show -9223372036854775808 ≤ 0 ∧ 0 ≤ 9223372036854775807 by omega) (show -9223372036854775808 ≤ 1 ∧ 1 ≤ 9223372036854775807 by omega)) [] rfl rfl rfl rfl (Nat.le_of_ble_eq_true rfl) ⟨by omega, by omega⟩ ⟨Nat.zero_le _, Nat.zero_le _⟩ (fun _ => rfl) (fun _ => rfl) (fun _ => rfl) ?_
  intro _ _
  refine V_ifb_ne (pc := 12) 17 C dX9_again_12 (by decide) (fun c12 => ?_) (fun c12 => ?_)
  · refine V_aload_n (pc := 17) C dX9_again_17 rfl 0 rfl ?_
    refine gf_X9_99 (x := q 39) (pc := 18) C dX9_again_18 0 rfl rfl ?_
    refine V_iload_n (pc := 21) C dX9_again_21 rfl 1 rfl ?_
    refine V_zald (f := M39) (pc := 22) C dX9_again_22 1 rfl (by omega) (by omega) (Nat.le_of_ble_eq_true rfl) ?_
    refine V_if_ne (pc := 23) 29 C dX9_again_23 (by decide) (sm_i (by omega)) (fun c23 => ?_) (fun c23 => ?_)
    · exact absurd h8 c23
    · refine V_bipush (pc := 26) C dX9_again_26 rfl ?_
      exact V_iret (pc := 28) C Z dX9_again_28 () trivial (ri (by first | rfl | omega | exact bI_t (by omega) | exact bI_f (by omega))) rfl
  · exact absurd c12 (by omega)
set_option maxRecDepth 100000 in
set_option maxHeartbeats 4000000 in
theorem c_X9_again_ok (l : Launch) (D : va_G) (d : Nat → ClassId) (o : Nat) (q : Nat → Nat) (f : Nat → Int) (M6 : Int → Int) (M9 : Int → Int) (M22 : Int → Int) (M23 : Int → Int) (M24 : Int → Int) (M25 : Int → Int) (M38 : Int → Int) (M39 : Int → Int) (k : Int) (hM38 : bd M38 0 9999) (hk : 0 ≤ k ∧ k ≤ 1) (h8 : M39 k = 1) : CU l yX9_again cX9_again 3 (some .int) 1 25 D d [.ref o, .int (iI k)] [(o, .inr (9, fX9 q f)), (q 6, aI (d 0) 6 M6), (q 9, aI (d 0) 4 M9), (q 22, aI (d 0) 12 M22), (q 23, aI (d 0) 12 M23), (q 24, aI (d 0) 12 M24), (q 25, aI (d 0) 12 M25), (q 38, aI (d 0) 120 M38), (q 39, aI (d 1) 2 M39)] (fun (_ : Unit) => True) (fun (_ : Unit) => some (.int (iI (M38 (60 * k + 46))))) (fun (_ : Unit) => [(o, .inr (9, fX9 q (up (up (up f 0 0) 21 (M38 (60 * k + 46))) 13 (M38 (60 * k + 47))))), (q 6, aI (d 0) 6 (cpI (fun j => M38 (60 * k + j)) M6 6)), (q 9, aI (d 0) 4 (cpI (fun j => M38 (60 * k + 6 + j)) M9 4)), (q 22, aI (d 0) 12 (cpI (fun j => M38 (60 * k + 10 + j) / 10) M22 12)), (q 23, aI (d 0) 12 (cpI (fun j => M38 (60 * k + 10 + j) % 10) M23 12)), (q 24, aI (d 0) 12 (cpI (fun j => M38 (60 * k + 22 + j)) M24 12)), (q 25, aI (d 0) 12 (cpI (fun j => M38 (60 * k + 34 + j)) M25 12)), (q 38, aI (d 0) 120 M38), (q 39, aI (d 1) 2 M39)]) := by
  refine CU.mk (own := RX9) (lv := [(0, .ref o), (1, .int (iI k))]) rfl (by decide) (Nat.le_of_ble_eq_true rfl) rfl ?_
  intro p9 e9 R9 s9 m9 args9 below9 meth9 c9 A9 Q9 hRf hRl C Z
  refine V_aload_n (pc := 0) C dX9_again_0 rfl 0 rfl ?_
  refine V_iconst (pc := 1) C dX9_again_1 ?_
  refine pf_X9_117 (ws' := [(o, .inr (9, fX9 q (up f 0 0))), (q 6, aI (d 0) 6 M6), (q 9, aI (d 0) 4 M9), (q 22, aI (d 0) 12 M22), (q 23, aI (d 0) 12 M23), (q 24, aI (d 0) 12 M24), (q 25, aI (d 0) 12 M25), (q 38, aI (d 0) 120 M38), (q 39, aI (d 1) 2 M39)]) (pc := 2) C dX9_again_2 0 rfl rfl ?_
  refine V_iload_n (pc := 5) C dX9_again_5 rfl 1 rfl ?_
  refine V_i2l (pc := 6) C dX9_again_6 (sm_i (by omega)) ?_
  refine V_lconst (k := 0) (pc := 7) C dX9_again_7 rfl ?_
  refine V_lconst (k := 1) (pc := 8) C dX9_again_8 rfl ?_
  refine cs_X9_123 (pc := 9) (rest := []) (wn := fun _ => [(o, .inr (9, fX9 q (up f 0 0))), (q 6, aI (d 0) 6 M6), (q 9, aI (d 0) 4 M9), (q 22, aI (d 0) 12 M22), (q 23, aI (d 0) 12 M23), (q 24, aI (d 0) 12 M24), (q 25, aI (d 0) 12 M25), (q 38, aI (d 0) 120 M38), (q 39, aI (d 1) 2 M39)]) (sn := fun _ => [.int (iI (bI (0 ≤ k ∧ k ≤ 1)))]) C dX9_again_9 (c_X9_in l D d k 0 1 (show -9223372036854775808 ≤ k ∧ k ≤ 9223372036854775807 by omega) (show -9223372036854775808 ≤ 0 ∧ 0 ≤ 9223372036854775807 by omega) (show -9223372036854775808 ≤ 1 ∧ 1 ≤ 9223372036854775807 by omega)) [] rfl rfl rfl rfl (Nat.le_of_ble_eq_true rfl) ⟨by omega, by omega⟩ ⟨Nat.zero_le _, Nat.zero_le _⟩ (fun _ => rfl) (fun _ => rfl) (fun _ => rfl) ?_
  intro _ _
  refine V_ifb_ne (pc := 12) 17 C dX9_again_12 (by decide) (fun c12 => ?_) (fun c12 => ?_)
  · refine V_aload_n (pc := 17) C dX9_again_17 rfl 0 rfl ?_
    refine gf_X9_99 (x := q 39) (pc := 18) C dX9_again_18 0 rfl rfl ?_
    refine V_iload_n (pc := 21) C dX9_again_21 rfl 1 rfl ?_
    refine V_zald (f := M39) (pc := 22) C dX9_again_22 8 rfl (by omega) (by omega) (Nat.le_of_ble_eq_true rfl) ?_
    refine V_if_ne (pc := 23) 29 C dX9_again_23 (by decide) (sm_i (by omega)) (fun c23 => ?_) (fun c23 => ?_)
    · refine V_iconst (pc := 29) C dX9_again_29 ?_
      refine V_istore_n (lv' := [(2, .int (iI 0)), (0, .ref o), (1, .int (iI k))]) (pc := 30) C dX9_again_30 rfl (by decide) rfl ?_
      have L31 : ∀ (nn9 : Nat) (j1 : Int) (G6 : Int → Int), (0 ≤ j1 ∧ j1 ≤ 6) → (G6 = cpI (fun j => M38 (60 * k + j)) M6 j1) → ((6 : Int) - j1).toNat < nn9 → V p9 l e9 R9 s9 m9 args9 below9 meth9 c9 A9 D Q9 3 0 0 [(o, .inr (9, fX9 q (up f 0 0))), (q 6, aI (d 0) 6 G6), (q 9, aI (d 0) 4 M9), (q 22, aI (d 0) 12 M22), (q 23, aI (d 0) 12 M23), (q 24, aI (d 0) 12 M24), (q 25, aI (d 0) 12 M25), (q 38, aI (d 0) 120 M38), (q 39, aI (d 1) 2 M39)] [(2, .int (iI j1)), (0, .ref o), (1, .int (iI k))] 31 [] := by
        intro nn9
        induction nn9 with
        | zero => intro _ _ _ _ hm31; exact absurd hm31 (Nat.not_lt_zero _)
        | succ nn9 ih31 =>
          intro j1 G6 hj1 hG6 hm31
          refine V_iload_n (pc := 31) C dX9_again_31 rfl 0 rfl ?_
          refine V_bipush (pc := 32) C dX9_again_32 rfl ?_
          refine V_icmp_ge (pc := 34) 60 C dX9_again_34 (by decide) (sm_i (by omega)) (sm_i (by decide)) (fun c34 => ?_) (fun c34 => ?_)
          · refine V_iconst (pc := 60) C dX9_again_60 ?_
            refine V_istore_n (lv' := [(2, .int (iI 0)), (0, .ref o), (1, .int (iI k))]) (pc := 61) C dX9_again_61 rfl (by decide) rfl ?_
            have L62 : ∀ (nn9 : Nat) (j2 : Int) (G9 : Int → Int), (0 ≤ j2 ∧ j2 ≤ 4) → (G9 = cpI (fun j => M38 (60 * k + 6 + j)) M9 j2) → ((4 : Int) - j2).toNat < nn9 → V p9 l e9 R9 s9 m9 args9 below9 meth9 c9 A9 D Q9 3 0 0 [(o, .inr (9, fX9 q (up f 0 0))), (q 6, aI (d 0) 6 G6), (q 9, aI (d 0) 4 G9), (q 22, aI (d 0) 12 M22), (q 23, aI (d 0) 12 M23), (q 24, aI (d 0) 12 M24), (q 25, aI (d 0) 12 M25), (q 38, aI (d 0) 120 M38), (q 39, aI (d 1) 2 M39)] [(2, .int (iI j2)), (0, .ref o), (1, .int (iI k))] 62 [] := by
              intro nn9
              induction nn9 with
              | zero => intro _ _ _ _ hm62; exact absurd hm62 (Nat.not_lt_zero _)
              | succ nn9 ih62 =>
                intro j2 G9 hj2 hG9 hm62
                refine V_iload_n (pc := 62) C dX9_again_62 rfl 0 rfl ?_
                refine V_iconst (pc := 63) C dX9_again_63 ?_
                refine V_icmp_ge (pc := 64) 93 C dX9_again_64 (by decide) (sm_i (by omega)) (sm_i (by decide)) (fun c64 => ?_) (fun c64 => ?_)
                · refine V_iconst (pc := 93) C dX9_again_93 ?_
                  refine V_istore_n (lv' := [(2, .int (iI 0)), (0, .ref o), (1, .int (iI k))]) (pc := 94) C dX9_again_94 rfl (by decide) rfl ?_
                  have L95 : ∀ (nn9 : Nat) (j3 : Int) (W22 : Int → Int) (W23 : Int → Int) (W24 : Int → Int) (W25 : Int → Int), (0 ≤ j3 ∧ j3 ≤ 12) → (W22 = cpI (fun j => M38 (60 * k + 10 + j) / 10) M22 j3) → (W23 = cpI (fun j => M38 (60 * k + 10 + j) % 10) M23 j3) → (W24 = cpI (fun j => M38 (60 * k + 22 + j)) M24 j3) → (W25 = cpI (fun j => M38 (60 * k + 34 + j)) M25 j3) → ((12 : Int) - j3).toNat < nn9 → V p9 l e9 R9 s9 m9 args9 below9 meth9 c9 A9 D Q9 3 0 0 [(o, .inr (9, fX9 q (up f 0 0))), (q 6, aI (d 0) 6 G6), (q 9, aI (d 0) 4 G9), (q 22, aI (d 0) 12 W22), (q 23, aI (d 0) 12 W23), (q 24, aI (d 0) 12 W24), (q 25, aI (d 0) 12 W25), (q 38, aI (d 0) 120 M38), (q 39, aI (d 1) 2 M39)] [(2, .int (iI j3)), (0, .ref o), (1, .int (iI k))] 95 [] := by
                    intro nn9
                    induction nn9 with
                    | zero => intro _ _ _ _ _ _ _ _ _ _ hm95; exact absurd hm95 (Nat.not_lt_zero _)
                    | succ nn9 ih95 =>
                      intro j3 W22 W23 W24 W25 hj3 hW22 hW23 hW24 hW25 hm95
                      refine V_iload_n (pc := 95) C dX9_again_95 rfl 0 rfl ?_
                      refine V_bipush (pc := 96) C dX9_again_96 rfl ?_
                      refine V_icmp_ge (pc := 98) 193 C dX9_again_98 (by decide) (sm_i (by omega)) (sm_i (by decide)) (fun c98 => ?_) (fun c98 => ?_)
                      · refine V_aload_n (pc := 193) C dX9_again_193 rfl 1 rfl ?_
                        refine V_aload_n (pc := 194) C dX9_again_194 rfl 1 rfl ?_
                        refine gf_X9_96 (x := q 38) (pc := 195) C dX9_again_195 0 rfl rfl ?_
                        refine V_bipush (pc := 198) C dX9_again_198 rfl ?_
                        refine V_iload_n (pc := 200) C dX9_again_200 rfl 2 rfl ?_
                        refine V_imul (pc := 201) C dX9_again_201 ?_
                        refine V_bipush (pc := 202) C dX9_again_202 rfl ?_
                        refine V_iadd (pc := 204) C dX9_again_204 ?_
                        refine V_iald (f := M38) (pc := 205) C dX9_again_205 7 rfl (by omega) (by omega) (Nat.le_of_ble_eq_true rfl) ?_
                        have b205 := hM38 ((60 * k) + 46)
                        refine pf_X9_177 (ws' := [(o, .inr (9, fX9 q (up (up f 0 0) 21 (M38 ((60 * k) + 46))))), (q 6, aI (d 0) 6 G6), (q 9, aI (d 0) 4 G9), (q 22, aI (d 0) 12 W22), (q 23, aI (d 0) 12 W23), (q 24, aI (d 0) 12 W24), (q 25, aI (d 0) 12 W25), (q 38, aI (d 0) 120 M38), (q 39, aI (d 1) 2 M39)]) (pc := 206) C dX9_again_206 0 rfl rfl ?_
                        refine V_aload_n (pc := 209) C dX9_again_209 rfl 1 rfl ?_
                        refine V_aload_n (pc := 210) C dX9_again_210 rfl 1 rfl ?_
                        refine gf_X9_96 (x := q 38) (pc := 211) C dX9_again_211 0 rfl rfl ?_
                        refine V_bipush (pc := 214) C dX9_again_214 rfl ?_
                        refine V_iload_n (pc := 216) C dX9_again_216 rfl 2 rfl ?_
                        refine V_imul (pc := 217) C dX9_again_217 ?_
                        refine V_bipush (pc := 218) C dX9_again_218 rfl ?_
                        refine V_iadd (pc := 220) C dX9_again_220 ?_
                        refine V_iald (f := M38) (pc := 221) C dX9_again_221 7 rfl (by omega) (by omega) (Nat.le_of_ble_eq_true rfl) ?_
                        have b221 := hM38 ((60 * k) + 47)
                        refine pf_X9_35 (ws' := [(o, .inr (9, fX9 q (up (up (up f 0 0) 21 (M38 ((60 * k) + 46))) 13 (M38 ((60 * k) + 47))))), (q 6, aI (d 0) 6 G6), (q 9, aI (d 0) 4 G9), (q 22, aI (d 0) 12 W22), (q 23, aI (d 0) 12 W23), (q 24, aI (d 0) 12 W24), (q 25, aI (d 0) 12 W25), (q 38, aI (d 0) 120 M38), (q 39, aI (d 1) 2 M39)]) (pc := 222) C dX9_again_222 0 rfl rfl ?_
                        refine V_aload_n (pc := 225) C dX9_again_225 rfl 1 rfl ?_
                        refine gf_X9_177 (x := M38 ((60 * k) + 46)) (pc := 226) C dX9_again_226 0 rfl rfl ?_
                        exact V_iret (pc := 229) C Z dX9_again_229 () trivial (ri (by rfl)) (by rw [hG6, hG9, hW22, hW23, hW24, hW25, show j1 = 6 by omega, show j2 = 4 by omega, show j3 = 12 by omega])
                      · refine V_aload_n (pc := 101) C dX9_again_101 rfl 1 rfl ?_
                        refine gf_X9_54 (x := q 22) (pc := 102) C dX9_again_102 0 rfl rfl ?_
                        refine V_iload_n (pc := 105) C dX9_again_105 rfl 0 rfl ?_
                        refine V_aload_n (pc := 106) C dX9_again_106 rfl 1 rfl ?_
                        refine gf_X9_96 (x := q 38) (pc := 107) C dX9_again_107 0 rfl rfl ?_
                        refine V_bipush (pc := 110) C dX9_again_110 rfl ?_
                        refine V_iload_n (pc := 112) C dX9_again_112 rfl 2 rfl ?_
                        refine V_imul (pc := 113) C dX9_again_113 ?_
                        refine V_bipush (pc := 114) C dX9_again_114 rfl ?_
                        refine V_iadd (pc := 116) C dX9_again_116 ?_
                        refine V_iload_n (pc := 117) C dX9_again_117 rfl 0 rfl ?_
                        refine V_iadd (pc := 118) C dX9_again_118 ?_
                        refine V_iald (f := M38) (pc := 119) C dX9_again_119 7 rfl (by omega) (by omega) (Nat.le_of_ble_eq_true rfl) ?_
                        have b119 := hM38 (((60 * k) + 10) + j3)
                        refine V_bipush (pc := 120) C dX9_again_120 rfl ?_
                        refine V_idiv (pc := 122) C dX9_again_122 (by omega) ?_
                        refine V_iast (f := W22) (ws' := [(o, .inr (9, fX9 q (up f 0 0))), (q 6, aI (d 0) 6 G6), (q 9, aI (d 0) 4 G9), (q 22, aI (d 0) 12 (uI W22 j3 ((M38 (((60 * k) + 10) + j3)) / 10))), (q 23, aI (d 0) 12 W23), (q 24, aI (d 0) 12 W24), (q 25, aI (d 0) 12 W25), (q 38, aI (d 0) 120 M38), (q 39, aI (d 1) 2 M39)]) (pc := 123) C dX9_again_123 3 rfl (by omega) (by omega) (Nat.le_of_ble_eq_true rfl) rfl ?_
                        refine V_aload_n (pc := 124) C dX9_again_124 rfl 1 rfl ?_
                        refine gf_X9_57 (x := q 23) (pc := 125) C dX9_again_125 0 rfl rfl ?_
                        refine V_iload_n (pc := 128) C dX9_again_128 rfl 0 rfl ?_
                        refine V_aload_n (pc := 129) C dX9_again_129 rfl 1 rfl ?_
                        refine gf_X9_96 (x := q 38) (pc := 130) C dX9_again_130 0 rfl rfl ?_
                        refine V_bipush (pc := 133) C dX9_again_133 rfl ?_
                        refine V_iload_n (pc := 135) C dX9_again_135 rfl 2 rfl ?_
                        refine V_imul (pc := 136) C dX9_again_136 ?_
                        refine V_bipush (pc := 137) C dX9_again_137 rfl ?_
                        refine V_iadd (pc := 139) C dX9_again_139 ?_
                        refine V_iload_n (pc := 140) C dX9_again_140 rfl 0 rfl ?_
                        refine V_iadd (pc := 141) C dX9_again_141 ?_
                        refine V_iald (f := M38) (pc := 142) C dX9_again_142 7 rfl (by omega) (by omega) (Nat.le_of_ble_eq_true rfl) ?_
                        have b142 := hM38 (((60 * k) + 10) + j3)
                        refine V_bipush (pc := 143) C dX9_again_143 rfl ?_
                        refine V_irem (pc := 145) C dX9_again_145 (by omega) ?_
                        refine V_iast (f := W23) (ws' := [(o, .inr (9, fX9 q (up f 0 0))), (q 6, aI (d 0) 6 G6), (q 9, aI (d 0) 4 G9), (q 22, aI (d 0) 12 (uI W22 j3 ((M38 (((60 * k) + 10) + j3)) / 10))), (q 23, aI (d 0) 12 (uI W23 j3 ((M38 (((60 * k) + 10) + j3)) % 10))), (q 24, aI (d 0) 12 W24), (q 25, aI (d 0) 12 W25), (q 38, aI (d 0) 120 M38), (q 39, aI (d 1) 2 M39)]) (pc := 146) C dX9_again_146 4 rfl (by omega) (by omega) (Nat.le_of_ble_eq_true rfl) rfl ?_
                        refine V_aload_n (pc := 147) C dX9_again_147 rfl 1 rfl ?_
                        refine gf_X9_60 (x := q 24) (pc := 148) C dX9_again_148 0 rfl rfl ?_
                        refine V_iload_n (pc := 151) C dX9_again_151 rfl 0 rfl ?_
                        refine V_aload_n (pc := 152) C dX9_again_152 rfl 1 rfl ?_
                        refine gf_X9_96 (x := q 38) (pc := 153) C dX9_again_153 0 rfl rfl ?_
                        refine V_bipush (pc := 156) C dX9_again_156 rfl ?_
                        refine V_iload_n (pc := 158) C dX9_again_158 rfl 2 rfl ?_
                        refine V_imul (pc := 159) C dX9_again_159 ?_
                        refine V_bipush (pc := 160) C dX9_again_160 rfl ?_
                        refine V_iadd (pc := 162) C dX9_again_162 ?_
                        refine V_iload_n (pc := 163) C dX9_again_163 rfl 0 rfl ?_
                        refine V_iadd (pc := 164) C dX9_again_164 ?_
                        refine V_iald (f := M38) (pc := 165) C dX9_again_165 7 rfl (by omega) (by omega) (Nat.le_of_ble_eq_true rfl) ?_
                        have b165 := hM38 (((60 * k) + 22) + j3)
                        refine V_iast (f := W24) (ws' := [(o, .inr (9, fX9 q (up f 0 0))), (q 6, aI (d 0) 6 G6), (q 9, aI (d 0) 4 G9), (q 22, aI (d 0) 12 (uI W22 j3 ((M38 (((60 * k) + 10) + j3)) / 10))), (q 23, aI (d 0) 12 (uI W23 j3 ((M38 (((60 * k) + 10) + j3)) % 10))), (q 24, aI (d 0) 12 (uI W24 j3 (M38 (((60 * k) + 22) + j3)))), (q 25, aI (d 0) 12 W25), (q 38, aI (d 0) 120 M38), (q 39, aI (d 1) 2 M39)]) (pc := 166) C dX9_again_166 5 rfl (by omega) (by omega) (Nat.le_of_ble_eq_true rfl) rfl ?_
                        refine V_aload_n (pc := 167) C dX9_again_167 rfl 1 rfl ?_
                        refine gf_X9_63 (x := q 25) (pc := 168) C dX9_again_168 0 rfl rfl ?_
                        refine V_iload_n (pc := 171) C dX9_again_171 rfl 0 rfl ?_
                        refine V_aload_n (pc := 172) C dX9_again_172 rfl 1 rfl ?_
                        refine gf_X9_96 (x := q 38) (pc := 173) C dX9_again_173 0 rfl rfl ?_
                        refine V_bipush (pc := 176) C dX9_again_176 rfl ?_
                        refine V_iload_n (pc := 178) C dX9_again_178 rfl 2 rfl ?_
                        refine V_imul (pc := 179) C dX9_again_179 ?_
                        refine V_bipush (pc := 180) C dX9_again_180 rfl ?_
                        refine V_iadd (pc := 182) C dX9_again_182 ?_
                        refine V_iload_n (pc := 183) C dX9_again_183 rfl 0 rfl ?_
                        refine V_iadd (pc := 184) C dX9_again_184 ?_
                        refine V_iald (f := M38) (pc := 185) C dX9_again_185 7 rfl (by omega) (by omega) (Nat.le_of_ble_eq_true rfl) ?_
                        have b185 := hM38 (((60 * k) + 34) + j3)
                        refine V_iast (f := W25) (ws' := [(o, .inr (9, fX9 q (up f 0 0))), (q 6, aI (d 0) 6 G6), (q 9, aI (d 0) 4 G9), (q 22, aI (d 0) 12 (uI W22 j3 ((M38 (((60 * k) + 10) + j3)) / 10))), (q 23, aI (d 0) 12 (uI W23 j3 ((M38 (((60 * k) + 10) + j3)) % 10))), (q 24, aI (d 0) 12 (uI W24 j3 (M38 (((60 * k) + 22) + j3)))), (q 25, aI (d 0) 12 (uI W25 j3 (M38 (((60 * k) + 34) + j3)))), (q 38, aI (d 0) 120 M38), (q 39, aI (d 1) 2 M39)]) (pc := 186) C dX9_again_186 6 rfl (by omega) (by omega) (Nat.le_of_ble_eq_true rfl) rfl ?_
                        refine V_iinc (lv' := [(2, .int (iI (j3 + 1))), (0, .ref o), (1, .int (iI k))]) (pc := 187) C dX9_again_187 0 rfl (by decide) rfl ?_
                        refine V_goto (pc := 190) 95 C dX9_again_190 (by decide) ?_
                        exact V_sub [0, 1, 2] rfl (ih95 (j3 + 1) (uI W22 j3 ((M38 (((60 * k) + 10) + j3)) / 10)) (uI W23 j3 ((M38 (((60 * k) + 10) + j3)) % 10)) (uI W24 j3 (M38 (((60 * k) + 22) + j3))) (uI W25 j3 (M38 (((60 * k) + 34) + j3))) (by omega) (by rw [hW22]; exact cpI_s hj3.1 rfl rfl) (by rw [hW23]; exact cpI_s hj3.1 rfl rfl) (by rw [hW24]; exact cpI_s hj3.1 rfl rfl) (by rw [hW25]; exact cpI_s hj3.1 rfl rfl) (by omega))
                  exact V_sub [0, 1, 2] rfl (L95 (((12 : Int) - 0).toNat + 1) 0 M22 M23 M24 M25 (by omega) ((cpI_0 _ _).symm) ((cpI_0 _ _).symm) ((cpI_0 _ _).symm) ((cpI_0 _ _).symm) (Nat.lt_succ_self _))
                · refine V_aload_n (pc := 67) C dX9_again_67 rfl 1 rfl ?_
                  refine gf_X9_22 (x := q 9) (pc := 68) C dX9_again_68 0 rfl rfl ?_
                  refine V_iload_n (pc := 71) C dX9_again_71 rfl 0 rfl ?_
                  refine V_aload_n (pc := 72) C dX9_again_72 rfl 1 rfl ?_
                  refine gf_X9_96 (x := q 38) (pc := 73) C dX9_again_73 0 rfl rfl ?_
                  refine V_bipush (pc := 76) C dX9_again_76 rfl ?_
                  refine V_iload_n (pc := 78) C dX9_again_78 rfl 2 rfl ?_
                  refine V_imul (pc := 79) C dX9_again_79 ?_
                  refine V_bipush (pc := 80) C dX9_again_80 rfl ?_
                  refine V_iadd (pc := 82) C dX9_again_82 ?_
                  refine V_iload_n (pc := 83) C dX9_again_83 rfl 0 rfl ?_
                  refine V_iadd (pc := 84) C dX9_again_84 ?_
                  refine V_iald (f := M38) (pc := 85) C dX9_again_85 7 rfl (by omega) (by omega) (Nat.le_of_ble_eq_true rfl) ?_
                  have b85 := hM38 (((60 * k) + 6) + j2)
                  refine V_iast (f := G9) (ws' := [(o, .inr (9, fX9 q (up f 0 0))), (q 6, aI (d 0) 6 G6), (q 9, aI (d 0) 4 (uI G9 j2 (M38 (((60 * k) + 6) + j2)))), (q 22, aI (d 0) 12 M22), (q 23, aI (d 0) 12 M23), (q 24, aI (d 0) 12 M24), (q 25, aI (d 0) 12 M25), (q 38, aI (d 0) 120 M38), (q 39, aI (d 1) 2 M39)]) (pc := 86) C dX9_again_86 2 rfl (by omega) (by omega) (Nat.le_of_ble_eq_true rfl) rfl ?_
                  refine V_iinc (lv' := [(2, .int (iI (j2 + 1))), (0, .ref o), (1, .int (iI k))]) (pc := 87) C dX9_again_87 0 rfl (by decide) rfl ?_
                  refine V_goto (pc := 90) 62 C dX9_again_90 (by decide) ?_
                  exact V_sub [0, 1, 2] rfl (ih62 (j2 + 1) (uI G9 j2 (M38 (((60 * k) + 6) + j2))) (by omega) (by rw [hG9]; exact cpI_s hj2.1 rfl rfl) (by omega))
            exact V_sub [0, 1, 2] rfl (L62 (((4 : Int) - 0).toNat + 1) 0 M9 (by omega) ((cpI_0 _ _).symm) (Nat.lt_succ_self _))
          · refine V_aload_n (pc := 37) C dX9_again_37 rfl 1 rfl ?_
            refine gf_X9_13 (x := q 6) (pc := 38) C dX9_again_38 0 rfl rfl ?_
            refine V_iload_n (pc := 41) C dX9_again_41 rfl 0 rfl ?_
            refine V_aload_n (pc := 42) C dX9_again_42 rfl 1 rfl ?_
            refine gf_X9_96 (x := q 38) (pc := 43) C dX9_again_43 0 rfl rfl ?_
            refine V_bipush (pc := 46) C dX9_again_46 rfl ?_
            refine V_iload_n (pc := 48) C dX9_again_48 rfl 2 rfl ?_
            refine V_imul (pc := 49) C dX9_again_49 ?_
            refine V_iload_n (pc := 50) C dX9_again_50 rfl 0 rfl ?_
            refine V_iadd (pc := 51) C dX9_again_51 ?_
            refine V_iald (f := M38) (pc := 52) C dX9_again_52 7 rfl (by omega) (by omega) (Nat.le_of_ble_eq_true rfl) ?_
            have b52 := hM38 ((60 * k) + j1)
            refine V_iast (f := G6) (ws' := [(o, .inr (9, fX9 q (up f 0 0))), (q 6, aI (d 0) 6 (uI G6 j1 (M38 ((60 * k) + j1)))), (q 9, aI (d 0) 4 M9), (q 22, aI (d 0) 12 M22), (q 23, aI (d 0) 12 M23), (q 24, aI (d 0) 12 M24), (q 25, aI (d 0) 12 M25), (q 38, aI (d 0) 120 M38), (q 39, aI (d 1) 2 M39)]) (pc := 53) C dX9_again_53 1 rfl (by omega) (by omega) (Nat.le_of_ble_eq_true rfl) rfl ?_
            refine V_iinc (lv' := [(2, .int (iI (j1 + 1))), (0, .ref o), (1, .int (iI k))]) (pc := 54) C dX9_again_54 0 rfl (by decide) rfl ?_
            refine V_goto (pc := 57) 31 C dX9_again_57 (by decide) ?_
            exact V_sub [0, 1, 2] rfl (ih31 (j1 + 1) (uI G6 j1 (M38 ((60 * k) + j1))) (by omega) (by rw [hG6]; exact cpI_s hj1.1 rfl rfl) (by omega))
      exact V_sub [0, 1, 2] rfl (L31 (((6 : Int) - 0).toNat + 1) 0 M6 (by omega) ((cpI_0 _ _).symm) (Nat.lt_succ_self _))
    · exact absurd c23 (by omega)
  · exact absurd c12 (by omega)
set_option maxRecDepth 100000 in
set_option maxHeartbeats 4000000 in
theorem c_X2_fewestTo (l : Launch) (D : va_G) (d : Nat → ClassId) (o : Nat) (q : Nat → Nat) (f : Nat → Int) (a : Nat) (P : Int → Int) (A : Int → Int) (t : Int) (m : Int) (ht : 1 ≤ t ∧ t ≤ 999) (hm : 0 ≤ m ∧ m ≤ 63) (hP : bd P 0 1000000000) (hA : bd A 0 99) : CU l yX2_fewestTo cX2_fewestTo 6 (some .int) 1 24 D d [.ref o, .int (iI t), .int (iI m), .ref a] [(o, .inr (2, fX2 q f)), (q 0, aI (d 0) 1000 P), (a, aI (d 0) 6 A)] (fun (_ : Unit) => True) (fun (_ : Unit) => some (.int (iI (fwI A P m t 6)))) (fun (_ : Unit) => [(o, .inr (2, fX2 q f)), (q 0, aI (d 0) 1000 P), (a, aI (d 0) 6 A)]) := by
  refine CU.mk (own := RX2) (lv := [(0, .ref o), (1, .int (iI t)), (2, .int (iI m)), (3, .ref a)]) rfl (by decide) (Nat.le_of_ble_eq_true rfl) rfl ?_
  intro p9 e9 R9 s9 m9 args9 below9 meth9 c9 A9 Q9 hRf hRl C Z
  refine V_ldc (n := 1000000000) (pc := 0) C dX2_fewestTo_0 w3_101 rfl ?_
  refine V_istore (lv' := [(4, .int (iI 1000000000)), (0, .ref o), (1, .int (iI t)), (2, .int (iI m)), (3, .ref a)]) (pc := 2) C dX2_fewestTo_2 (by decide) rfl ?_
  refine V_iconst (pc := 4) C dX2_fewestTo_4 ?_
  refine V_istore (lv' := [(5, .int (iI 0)), (4, .int (iI 1000000000)), (0, .ref o), (1, .int (iI t)), (2, .int (iI m)), (3, .ref a)]) (pc := 5) C dX2_fewestTo_5 (by decide) rfl ?_
  have L7 : ∀ (nn9 : Nat) (x : Int) (z : Int), (0 ≤ x ∧ x ≤ 6) → (z = fwI A P m t x.toNat) → ((6 : Int) - x).toNat < nn9 → V p9 l e9 R9 s9 m9 args9 below9 meth9 c9 A9 D Q9 6 0 0 [(o, .inr (2, fX2 q f)), (q 0, aI (d 0) 1000 P), (a, aI (d 0) 6 A)] [(5, .int (iI x)), (4, .int (iI z)), (0, .ref o), (1, .int (iI t)), (2, .int (iI m)), (3, .ref a)] 7 [] := by
    intro nn9
    induction nn9 with
    | zero => intro _ _ _ _ hm7; exact absurd hm7 (Nat.not_lt_zero _)
    | succ nn9 ih7 =>
      intro x z hx hz hm7
      have zb := fwI_b (A := A) (m := m) (t := t) hP x.toNat
      rw [← hz] at zb
      have a0 := hA x
      refine V_iload (pc := 7) C dX2_fewestTo_7 0 rfl ?_
      refine V_bipush (pc := 9) C dX2_fewestTo_9 rfl ?_
      refine V_icmp_ge (pc := 11) 58 C dX2_fewestTo_11 (by decide) (sm_i (by omega)) (sm_i (by decide)) (fun c11 => ?_) (fun c11 => ?_)
      · refine V_iload (pc := 58) C dX2_fewestTo_58 1 rfl ?_
        exact V_iret (pc := 60) C Z dX2_fewestTo_60 () trivial (ri (by rw [hz, show x = 6 by omega]; rfl)) rfl
      · refine V_iload_n (pc := 14) C dX2_fewestTo_14 rfl 4 rfl ?_
        refine V_iload (pc := 15) C dX2_fewestTo_15 0 rfl ?_
        refine V_ishr (z := (m / 2 ^ x.toNat)) (pc := 17) C dX2_fewestTo_17 (shr_i (by omega) (by omega) (by omega) (by omega)) ?_
        refine V_iconst (pc := 18) C dX2_fewestTo_18 ?_
        refine V_iand (z := ((m / 2 ^ x.toNat) % 2)) (pc := 19) C dX2_fewestTo_19 (and1_i (m / 2 ^ x.toNat)) ?_
        refine V_iconst (pc := 20) C dX2_fewestTo_20 ?_
        refine V_icmp_ne (pc := 21) 52 C dX2_fewestTo_21 (by decide) (sm_i (by omega)) (sm_i (by decide)) (fun c21 => ?_) (fun c21 => ?_)
        · refine V_iinc (lv' := [(5, .int (iI (x + 1))), (4, .int (iI z)), (0, .ref o), (1, .int (iI t)), (2, .int (iI m)), (3, .ref a)]) (pc := 52) C dX2_fewestTo_52 0 rfl (by decide) rfl ?_
          refine V_goto (pc := 55) 7 C dX2_fewestTo_55 (by decide) ?_
          exact V_sub [0, 1, 2, 3, 4, 5] rfl (ih7 (x + 1) z (by omega) (by rw [fwI_s hx.1, ← hz]; unfold bitI; split <;> omega) (by omega))
        · refine V_aload_n (pc := 24) C dX2_fewestTo_24 rfl 5 rfl ?_
          refine V_iload (pc := 25) C dX2_fewestTo_25 0 rfl ?_
          refine V_iald (f := A) (pc := 27) C dX2_fewestTo_27 2 rfl (by omega) (by omega) (Nat.le_of_ble_eq_true rfl) ?_
          have b27 := hA x
          refine V_iload_n (pc := 28) C dX2_fewestTo_28 rfl 3 rfl ?_
          refine V_icmp_gt (pc := 29) 52 C dX2_fewestTo_29 (by decide) (sm_i (by omega)) (sm_i (by omega)) (fun c29 => ?_) (fun c29 => ?_)
          · refine V_iinc (lv' := [(5, .int (iI (x + 1))), (4, .int (iI z)), (0, .ref o), (1, .int (iI t)), (2, .int (iI m)), (3, .ref a)]) (pc := 52) C dX2_fewestTo_52 0 rfl (by decide) rfl ?_
            refine V_goto (pc := 55) 7 C dX2_fewestTo_55 (by decide) ?_
            exact V_sub [0, 1, 2, 3, 4, 5] rfl (ih7 (x + 1) z (by omega) (by rw [fwI_s hx.1, ← hz]; unfold bitI; split <;> omega) (by omega))
          · refine V_iload (pc := 32) C dX2_fewestTo_32 1 rfl ?_
            refine V_aload_n (pc := 34) C dX2_fewestTo_34 rfl 2 rfl ?_
            refine gf_X2_9 (x := q 0) (pc := 35) C dX2_fewestTo_35 0 rfl rfl ?_
            refine V_iload_n (pc := 38) C dX2_fewestTo_38 rfl 3 rfl ?_
            refine V_aload_n (pc := 39) C dX2_fewestTo_39 rfl 5 rfl ?_
            refine V_iload (pc := 40) C dX2_fewestTo_40 0 rfl ?_
            refine V_iald (f := A) (pc := 42) C dX2_fewestTo_42 2 rfl (by omega) (by omega) (Nat.le_of_ble_eq_true rfl) ?_
            have b42 := hA x
            refine V_isub (pc := 43) C dX2_fewestTo_43 ?_
            refine V_iald (f := P) (pc := 44) C dX2_fewestTo_44 1 rfl (by omega) (by omega) (Nat.le_of_ble_eq_true rfl) ?_
            have b44 := hP (t - (A x))
            refine V_iconst (pc := 45) C dX2_fewestTo_45 ?_
            refine V_iadd (pc := 46) C dX2_fewestTo_46 ?_
            refine mm_X2_27 (pc := 47) C dX2_fewestTo_47 (sm_i (by omega)) (sm_i (by omega)) (by omega) (by show _ ≤ R9.locals; rw [hRl]; exact Nat.le_of_ble_eq_true rfl) (Nat.zero_le _) (Nat.zero_le _) ?_
            refine V_istore (lv' := [(4, .int (iI (min z ((P (t - (A x))) + 1)))), (5, .int (iI x)), (0, .ref o), (1, .int (iI t)), (2, .int (iI m)), (3, .ref a)]) (pc := 50) C dX2_fewestTo_50 (by decide) rfl ?_
            refine V_iinc (lv' := [(5, .int (iI (x + 1))), (4, .int (iI (min z ((P (t - (A x))) + 1)))), (0, .ref o), (1, .int (iI t)), (2, .int (iI m)), (3, .ref a)]) (pc := 52) C dX2_fewestTo_52 1 rfl (by decide) rfl ?_
            refine V_goto (pc := 55) 7 C dX2_fewestTo_55 (by decide) ?_
            exact V_sub [0, 1, 2, 3, 4, 5] rfl (ih7 (x + 1) (min z ((P (t - (A x))) + 1)) (by omega) (by rw [fwI_s hx.1, ← hz]; unfold bitI; split <;> omega) (by omega))
  exact V_sub [0, 1, 2, 3, 4, 5] rfl (L7 (((6 : Int) - 0).toNat + 1) 0 1000000000 (by omega) (rfl) (Nat.lt_succ_self _))
set_option maxRecDepth 100000 in
set_option maxHeartbeats 4000000 in
theorem c_X2_reckon (l : Launch) (D : va_G) (d : Nat → ClassId) (o : Nat) (q : Nat → Nat) (f : Nat → Int) (a : Nat) (P : Int → Int) (A : Int → Int) (t : Int) (m : Int) (ht : 1 ≤ t ∧ t ≤ 999) (hm : 0 ≤ m ∧ m ≤ 63) (hP : bd P 0 1000000000) (hA : bd A 0 99) : CU l yX2_reckon cX2_reckon 6 none 2 49 D d [.ref o, .int (iI t), .int (iI m), .ref a] [(o, .inr (2, fX2 q f)), (q 0, aI (d 0) 1000 P), (a, aI (d 0) 6 A)] (fun (_ : Unit) => True) (fun (_ : Unit) => none) (fun (_ : Unit) => [(o, .inr (2, fX2 q (up (up f 1 (t - lgI A m P t.toNat)) 2 (tbI A m P t.toNat (lgI A m P t.toNat))))), (q 0, aI (d 0) 1000 (tbI A m P t.toNat)), (a, aI (d 0) 6 A)]) := by
  refine CU.mk (own := RX2) (lv := [(0, .ref o), (1, .int (iI t)), (2, .int (iI m)), (3, .ref a)]) rfl (by decide) (Nat.le_of_ble_eq_true rfl) rfl ?_
  intro p9 e9 R9 s9 m9 args9 below9 meth9 c9 A9 Q9 hRf hRl C Z
  refine V_iconst (pc := 0) C dX2_reckon_0 ?_
  refine V_istore (lv' := [(4, .int (iI 0)), (0, .ref o), (1, .int (iI t)), (2, .int (iI m)), (3, .ref a)]) (pc := 1) C dX2_reckon_1 (by decide) rfl ?_
  refine V_aload_n (pc := 3) C dX2_reckon_3 rfl 1 rfl ?_
  refine gf_X2_9 (x := q 0) (pc := 4) C dX2_reckon_4 0 rfl rfl ?_
  refine V_iconst (pc := 7) C dX2_reckon_7 ?_
  refine V_iconst (pc := 8) C dX2_reckon_8 ?_
  refine V_iast (f := P) (ws' := [(o, .inr (2, fX2 q f)), (q 0, aI (d 0) 1000 (uI P 0 0)), (a, aI (d 0) 6 A)]) (pc := 9) C dX2_reckon_9 1 rfl (by omega) (by omega) (Nat.le_of_ble_eq_true rfl) rfl ?_
  refine V_iconst (pc := 10) C dX2_reckon_10 ?_
  refine V_istore (lv' := [(5, .int (iI 1)), (4, .int (iI 0)), (0, .ref o), (1, .int (iI t)), (2, .int (iI m)), (3, .ref a)]) (pc := 11) C dX2_reckon_11 (by decide) rfl ?_
  have L13 : ∀ (nn9 : Nat) (x : Int) (z : Int) (G : Int → Int), (1 ≤ x ∧ x ≤ t + 1) → (G = tbI A m P (x - 1).toNat) → (z = lgI A m P (x - 1).toNat) → (t + 1 - x).toNat < nn9 → V p9 l e9 R9 s9 m9 args9 below9 meth9 c9 A9 D Q9 6 0 0 [(o, .inr (2, fX2 q f)), (q 0, aI (d 0) 1000 G), (a, aI (d 0) 6 A)] [(5, .int (iI x)), (4, .int (iI z)), (0, .ref o), (1, .int (iI t)), (2, .int (iI m)), (3, .ref a)] 13 [] := by
    intro nn9
    induction nn9 with
    | zero => intro _ _ _ _ _ _ hm13; exact absurd hm13 (Nat.not_lt_zero _)
    | succ nn9 ih13 =>
      intro x z G hx hG hz hm13
      have zb := lgI_in (A := A) (m := m) (P := P) (x - 1).toNat
      rw [← hz] at zb
      have Gb : bd G 0 1000000000 := by rw [hG]; exact tbI_b hP _
      have fb := fwI_b (A := A) (m := m) (t := x) Gb 6
      refine V_iload (pc := 13) C dX2_reckon_13 0 rfl ?_
      refine V_iload_n (pc := 15) C dX2_reckon_15 rfl 3 rfl ?_
      refine V_icmp_gt (pc := 16) 56 C dX2_reckon_16 (by decide) (sm_i (by omega)) (sm_i (by omega)) (fun c16 => ?_) (fun c16 => ?_)
      · refine V_aload_n (pc := 56) C dX2_reckon_56 rfl 2 rfl ?_
        refine V_iload_n (pc := 57) C dX2_reckon_57 rfl 3 rfl ?_
        refine V_iload (pc := 58) C dX2_reckon_58 1 rfl ?_
        refine V_isub (pc := 60) C dX2_reckon_60 ?_
        refine pf_X2_20 (ws' := [(o, .inr (2, fX2 q (up f 1 (t - z)))), (q 0, aI (d 0) 1000 G), (a, aI (d 0) 6 A)]) (pc := 61) C dX2_reckon_61 0 rfl rfl ?_
        refine V_aload_n (pc := 64) C dX2_reckon_64 rfl 2 rfl ?_
        refine V_aload_n (pc := 65) C dX2_reckon_65 rfl 2 rfl ?_
        refine gf_X2_9 (x := q 0) (pc := 66) C dX2_reckon_66 0 rfl rfl ?_
        refine V_iload (pc := 69) C dX2_reckon_69 1 rfl ?_
        refine V_iald (f := G) (pc := 71) C dX2_reckon_71 1 rfl (by omega) (by omega) (Nat.le_of_ble_eq_true rfl) ?_
        refine pf_X2_24 (ws' := [(o, .inr (2, fX2 q (up (up f 1 (t - z)) 2 (G z)))), (q 0, aI (d 0) 1000 G), (a, aI (d 0) 6 A)]) (pc := 72) C dX2_reckon_72 0 rfl rfl ?_
        have ex : (x - 1).toNat = t.toNat := by omega
        rw [ex] at hG hz
        exact V_vret (pc := 75) C Z dX2_reckon_75 () trivial rfl (by rw [hG, hz])
      · refine V_aload_n (pc := 19) C dX2_reckon_19 rfl 2 rfl ?_
        refine gf_X2_9 (x := q 0) (pc := 20) C dX2_reckon_20 0 rfl rfl ?_
        refine V_iload (pc := 23) C dX2_reckon_23 0 rfl ?_
        refine V_aload_n (pc := 25) C dX2_reckon_25 rfl 2 rfl ?_
        refine V_iload (pc := 26) C dX2_reckon_26 0 rfl ?_
        refine V_iload_n (pc := 28) C dX2_reckon_28 rfl 4 rfl ?_
        refine V_aload_n (pc := 29) C dX2_reckon_29 rfl 5 rfl ?_
        refine cv_X2_15 (pc := 30) (rest := [.int (iI x), .ref (q 0)]) (wn := fun _ => [(o, .inr (2, fX2 q f)), (q 0, aI (d 0) 1000 G), (a, aI (d 0) 6 A)]) (sn := fun _ => [.int (iI (fwI A G m x 6)), .int (iI x), .ref (q 0)]) C dX2_reckon_30 (c_X2_fewestTo l D d o q f a G A x m (show 1 ≤ x ∧ x ≤ 999 by omega) hm Gb hA) [0, 1, 2] rfl rfl 0 rfl rfl rfl (Nat.le_of_ble_eq_true rfl) ⟨by omega, by omega⟩ ⟨Nat.zero_le _, Nat.zero_le _⟩ (fun _ => rfl) (fun _ => rfl) (fun _ => rfl) ?_
        intro _ _
        refine V_iast (f := G) (ws' := [(o, .inr (2, fX2 q f)), (q 0, aI (d 0) 1000 (uI G x (fwI A G m x 6))), (a, aI (d 0) 6 A)]) (pc := 33) C dX2_reckon_33 1 rfl (by omega) (by omega) (Nat.le_of_ble_eq_true rfl) rfl ?_
        refine V_aload_n (pc := 34) C dX2_reckon_34 rfl 2 rfl ?_
        refine gf_X2_9 (x := q 0) (pc := 35) C dX2_reckon_35 0 rfl rfl ?_
        refine V_iload (pc := 38) C dX2_reckon_38 0 rfl ?_
        refine V_iald (f := uI G x (fwI A G m x 6)) (pc := 40) C dX2_reckon_40 1 rfl (by omega) (by omega) (Nat.le_of_ble_eq_true rfl) ?_
        refine V_ldc (n := 1000000000) (pc := 41) C dX2_reckon_41 w3_101 rfl ?_
        have us : uI G x (fwI A G m x 6) x = fwI A G m x 6 := uI_s _ _ _
        refine V_icmp_ge (pc := 43) 50 C dX2_reckon_43 (by decide) (sm_i (by omega)) (sm_i (by decide)) (fun c43 => ?_) (fun c43 => ?_)
        · refine V_iinc (lv' := [(5, .int (iI (x + 1))), (4, .int (iI z)), (0, .ref o), (1, .int (iI t)), (2, .int (iI m)), (3, .ref a)]) (pc := 50) C dX2_reckon_50 0 rfl (by decide) rfl ?_
          refine V_goto (pc := 53) 13 C dX2_reckon_53 (by decide) ?_
          exact V_sub [0, 1, 2, 3, 4, 5] rfl (ih13 (x + 1) z (uI G x (fwI A G m x 6)) (by omega) (by rw [hG, tbI_s hx.1]) (by rw [lgI_s hx.1, ← hG]; rw [uI_s] at c43; split <;> omega) (by omega))
        · refine V_iload (pc := 46) C dX2_reckon_46 0 rfl ?_
          refine V_istore (lv' := [(4, .int (iI x)), (5, .int (iI x)), (0, .ref o), (1, .int (iI t)), (2, .int (iI m)), (3, .ref a)]) (pc := 48) C dX2_reckon_48 (by decide) rfl ?_
          refine V_iinc (lv' := [(5, .int (iI (x + 1))), (4, .int (iI x)), (0, .ref o), (1, .int (iI t)), (2, .int (iI m)), (3, .ref a)]) (pc := 50) C dX2_reckon_50 1 rfl (by decide) rfl ?_
          refine V_goto (pc := 53) 13 C dX2_reckon_53 (by decide) ?_
          exact V_sub [0, 1, 2, 3, 4, 5] rfl (ih13 (x + 1) x (uI G x (fwI A G m x 6)) (by omega) (by rw [hG, tbI_s hx.1]) (by rw [lgI_s hx.1, ← hG]; rw [uI_s] at c43; split <;> omega) (by omega))
  exact V_sub [0, 1, 2, 3, 4, 5] rfl (L13 ((t + 1 - 1).toNat + 1) 1 0 (uI P 0 0) (by omega) (rfl) (rfl) (Nat.lt_succ_self _))
set_option maxRecDepth 100000 in
set_option maxHeartbeats 4000000 in
theorem c_X8_cut (l : Launch) (D : va_G) (d : Nat → ClassId) (o : Nat) (q : Nat → Nat) (f : Nat → Int) (qt : Nat → Nat) (ft : Nat → Int) (qa : Nat → Nat) (fa : Nat → Int) (qp : Nat → Nat) (fp : Nat → Int) (A0 : Int → Int) (P0 : Int → Int) (t : Int) (m : Int) (w : Int) (hP : 0 ≤ ft 6 ∧ ft 6 ≤ 6) (hA0 : bd A0 0 99) (hP0 : bd P0 0 1000000000) (ht : -2147483648 ≤ t ∧ t ≤ 2147483647) (hm : -2147483648 ≤ m ∧ m ≤ 2147483647) (hw : w = 0 ∨ w = 1) : CU l yX8_cut cX8_cut 4 (some .int) 3 74 D d [.ref o, .int (iI t), .int (iI m), .int (iI w)] [(o, .inr (8, fX8 q f)), (q 2, .inr (6, fX6 qt ft)), (q 4, .inr (5, fX5 qa fa)), (qa 0, aI (d 0) 6 A0), (q 8, .inr (2, fX2 qp fp)), (qp 0, aI (d 0) 1000 P0)] (fun (u : Int × (Nat → Int) × (Int → Int)) => u.1 = pCutC (ft 6) A0 P0 t m w ∧ bd u.2.2 0 1000000000) (fun (u : Int × (Nat → Int) × (Int → Int)) => some (.int (iI (u.1)))) (fun (u : Int × (Nat → Int) × (Int → Int)) => [(o, .inr (8, fX8 q f)), (q 2, .inr (6, fX6 qt ft)), (q 4, .inr (5, fX5 qa fa)), (qa 0, aI (d 0) 6 A0), (q 8, .inr (2, fX2 qp u.2.1)), (qp 0, aI (d 0) 1000 u.2.2)]) := by
  refine CU.mk (own := RX8) (lv := [(0, .ref o), (1, .int (iI t)), (2, .int (iI m)), (3, .int (iI w))]) rfl (by decide) (Nat.le_of_ble_eq_true rfl) rfl ?_
  intro p9 e9 R9 s9 m9 args9 below9 meth9 c9 A9 Q9 hRf hRl C Z
  have p2 := p2_le6 hP
  refine V_iload_n (pc := 0) C dX8_cut_0 rfl 1 rfl ?_
  refine V_iconst (pc := 1) C dX8_cut_1 ?_
  refine V_sipush (pc := 2) C dX8_cut_2 rfl ?_
  refine cs_X8_72 (pc := 5) (rest := []) (wn := fun _ => [(o, .inr (8, fX8 q f)), (q 2, .inr (6, fX6 qt ft)), (q 4, .inr (5, fX5 qa fa)), (qa 0, aI (d 0) 6 A0), (q 8, .inr (2, fX2 qp fp)), (qp 0, aI (d 0) 1000 P0)]) (sn := fun _ => [.int (iI (bI (1 ≤ t ∧ t ≤ 999)))]) C dX8_cut_5 (c_X8_within l D d t 1 999 ht (show -2147483648 ≤ 1 ∧ 1 ≤ 2147483647 by omega) (show -2147483648 ≤ 999 ∧ 999 ≤ 2147483647 by omega)) [] rfl rfl rfl rfl (Nat.le_of_ble_eq_true rfl) ⟨by omega, by omega⟩ ⟨Nat.zero_le _, Nat.zero_le _⟩ (fun _ => rfl) (fun _ => rfl) (fun _ => rfl) ?_
  intro _ _
  refine V_ifb_eq (pc := 8) 30 C dX8_cut_8 (by decide) (fun c8 => ?_) (fun c8 => ?_)
  · refine V_bipush (pc := 30) C dX8_cut_30 rfl ?_
    exact V_iret (pc := 32) C Z dX8_cut_32 (-2, fp, P0) (⟨by unfold pCutC; (try dsimp only); (repeat' split) <;> first | rfl | omega, by first | exact hP0 | exact tbI_b hP0 _⟩) (ri (by rfl)) rfl
  · refine V_iload_n (pc := 11) C dX8_cut_11 rfl 2 rfl ?_
    refine V_iconst (pc := 12) C dX8_cut_12 ?_
    refine V_iconst (pc := 13) C dX8_cut_13 ?_
    refine V_aload_n (pc := 14) C dX8_cut_14 rfl 0 rfl ?_
    refine gf_X8_26 (x := q 2) (pc := 15) C dX8_cut_15 0 rfl rfl ?_
    refine gf_X8_96 (x := ft 6) (pc := 18) C dX8_cut_18 1 rfl rfl ?_
    refine V_ishl (z := (2 ^ (ft 6).toNat)) (pc := 21) C dX8_cut_21 (shl1_i (by omega) (by omega)) ?_
    refine V_iconst (pc := 22) C dX8_cut_22 ?_
    refine V_isub (pc := 23) C dX8_cut_23 ?_
    refine cs_X8_72 (pc := 24) (rest := []) (wn := fun _ => [(o, .inr (8, fX8 q f)), (q 2, .inr (6, fX6 qt ft)), (q 4, .inr (5, fX5 qa fa)), (qa 0, aI (d 0) 6 A0), (q 8, .inr (2, fX2 qp fp)), (qp 0, aI (d 0) 1000 P0)]) (sn := fun _ => [.int (iI (bI (0 ≤ m ∧ m ≤ ((2 ^ (ft 6).toNat) - 1))))]) C dX8_cut_24 (c_X8_within l D d m 0 ((2 ^ (ft 6).toNat) - 1) hm (show -2147483648 ≤ 0 ∧ 0 ≤ 2147483647 by omega) (show -2147483648 ≤ ((2 ^ (ft 6).toNat) - 1) ∧ ((2 ^ (ft 6).toNat) - 1) ≤ 2147483647 by omega)) [] rfl rfl rfl rfl (Nat.le_of_ble_eq_true rfl) ⟨by omega, by omega⟩ ⟨Nat.zero_le _, Nat.zero_le _⟩ (fun _ => rfl) (fun _ => rfl) (fun _ => rfl) ?_
    intro _ _
    refine V_ifb_ne (pc := 27) 33 C dX8_cut_27 (by decide) (fun c27 => ?_) (fun c27 => ?_)
    · refine V_aload_n (pc := 33) C dX8_cut_33 rfl 0 rfl ?_
      refine gf_X8_61 (x := q 8) (pc := 34) C dX8_cut_34 0 rfl rfl ?_
      refine V_iload_n (pc := 37) C dX8_cut_37 rfl 1 rfl ?_
      refine V_iload_n (pc := 38) C dX8_cut_38 rfl 2 rfl ?_
      refine V_aload_n (pc := 39) C dX8_cut_39 rfl 0 rfl ?_
      refine gf_X8_36 (x := q 4) (pc := 40) C dX8_cut_40 0 rfl rfl ?_
      refine gf_X8_103 (x := qa 0) (pc := 43) C dX8_cut_43 2 rfl rfl ?_
      refine cv_X8_227 (pc := 46) (rest := []) (wn := fun _ => [(o, .inr (8, fX8 q f)), (q 2, .inr (6, fX6 qt ft)), (q 4, .inr (5, fX5 qa fa)), (qa 0, aI (d 0) 6 A0), (q 8, .inr (2, fX2 qp (up (up fp 1 (t - lgI A0 m P0 t.toNat)) 2 (tbI A0 m P0 t.toNat (lgI A0 m P0 t.toNat))))), (qp 0, aI (d 0) 1000 (tbI A0 m P0 t.toNat))]) (sn := fun _ => []) C dX8_cut_46 (c_X2_reckon l D d (q 8) qp fp (qa 0) P0 A0 t m (show 1 ≤ t ∧ t ≤ 999 by omega) (show 0 ≤ m ∧ m ≤ 63 by omega) hP0 hA0) [4, 5, 3] rfl rfl 4 rfl rfl rfl (Nat.le_of_ble_eq_true rfl) ⟨by omega, by omega⟩ ⟨Nat.zero_le _, Nat.zero_le _⟩ (fun _ => rfl) (fun _ => rfl) (fun _ => rfl) ?_
      intro _ _
      refine V_iload_n (pc := 49) C dX8_cut_49 rfl 3 rfl ?_
      refine V_if_eq (pc := 50) 63 C dX8_cut_50 (by decide) (sm_i (by omega)) (fun c50 => ?_) (fun c50 => ?_)
      · refine V_aload_n (pc := 63) C dX8_cut_63 rfl 0 rfl ?_
        refine gf_X8_61 (x := q 8) (pc := 64) C dX8_cut_64 0 rfl rfl ?_
        refine gf_X8_233 (x := t - lgI A0 m P0 t.toNat) (pc := 67) C dX8_cut_67 4 rfl rfl ?_
        exact V_iret (pc := 70) C Z dX8_cut_70 (t - lgI A0 m P0 t.toNat, (up (up fp 1 (t - lgI A0 m P0 t.toNat)) 2 (tbI A0 m P0 t.toNat (lgI A0 m P0 t.toNat))), tbI A0 m P0 t.toNat) (⟨by unfold pCutC; (try dsimp only); (repeat' split) <;> first | rfl | omega, by first | exact hP0 | exact tbI_b hP0 _⟩) (ri (by rfl)) rfl
      · refine V_aload_n (pc := 53) C dX8_cut_53 rfl 0 rfl ?_
        refine gf_X8_61 (x := q 8) (pc := 54) C dX8_cut_54 0 rfl rfl ?_
        refine gf_X8_230 (x := tbI A0 m P0 t.toNat (lgI A0 m P0 t.toNat)) (pc := 57) C dX8_cut_57 4 rfl rfl ?_
        refine V_goto (pc := 60) 70 C dX8_cut_60 (by decide) ?_
        exact V_iret (pc := 70) C Z dX8_cut_70 (tbI A0 m P0 t.toNat (lgI A0 m P0 t.toNat), (up (up fp 1 (t - lgI A0 m P0 t.toNat)) 2 (tbI A0 m P0 t.toNat (lgI A0 m P0 t.toNat))), tbI A0 m P0 t.toNat) (⟨by unfold pCutC; (try dsimp only); (repeat' split) <;> first | rfl | omega, by first | exact hP0 | exact tbI_b hP0 _⟩) (ri (by rfl)) rfl
    · refine V_bipush (pc := 30) C dX8_cut_30 rfl ?_
      exact V_iret (pc := 32) C Z dX8_cut_32 (-2, fp, P0) (⟨by unfold pCutC; (try dsimp only); (repeat' split) <;> first | rfl | omega, by first | exact hP0 | exact tbI_b hP0 _⟩) (ri (by rfl)) rfl
set_option maxRecDepth 100000 in
set_option maxHeartbeats 4000000 in
theorem c_X9_cut (l : Launch) (D : va_G) (d : Nat → ClassId) (o : Nat) (q : Nat → Nat) (f : Nat → Int) (M6 : Int → Int) (M47 : Int → Int) (t : Int) (m : Int) (w : Int) (hP : 0 ≤ f 4 ∧ f 4 ≤ 6) (hM6 : bd M6 0 99) (hA1 : ∀ j : Int, 0 ≤ j ∧ j < f 4 → 1 ≤ M6 j) (hM47 : bd M47 0 99999) (ht : -2147483648 ≤ t ∧ t ≤ 2147483647) (hm : -2147483648 ≤ m ∧ m ≤ 2147483647) (hw : w = 0 ∨ w = 1) : CU l yX9_cut cX9_cut 8 (some .int) 1 25 D d [.ref o, .int (iI t), .int (iI m), .int (iI w)] [(o, .inr (9, fX9 q f)), (q 6, aI (d 0) 6 M6), (q 47, aI (d 0) 1000 M47)] (fun (u : Int × (Int → Int)) => u.1 = pCutM (f 4) M6 M47 t m w ∧ bd u.2 0 99999) (fun (u : Int × (Int → Int)) => some (.int (iI (u.1)))) (fun (u : Int × (Int → Int)) => [(o, .inr (9, fX9 q (up f 0 0))), (q 6, aI (d 0) 6 M6), (q 47, aI (d 0) 1000 u.2)]) := by
  refine CU.mk (own := RX9) (lv := [(0, .ref o), (1, .int (iI t)), (2, .int (iI m)), (3, .int (iI w))]) rfl (by decide) (Nat.le_of_ble_eq_true rfl) rfl ?_
  intro p9 e9 R9 s9 m9 args9 below9 meth9 c9 A9 Q9 hRf hRl C Z
  have p2 := p2_le6 hP
  refine V_aload_n (pc := 0) C dX9_cut_0 rfl 0 rfl ?_
  refine V_iconst (pc := 1) C dX9_cut_1 ?_
  refine pf_X9_117 (ws' := [(o, .inr (9, fX9 q (up f 0 0))), (q 6, aI (d 0) 6 M6), (q 47, aI (d 0) 1000 M47)]) (pc := 2) C dX9_cut_2 0 rfl rfl ?_
  refine V_iload_n (pc := 5) C dX9_cut_5 rfl 1 rfl ?_
  refine V_i2l (pc := 6) C dX9_cut_6 (sm_i (by omega)) ?_
  refine V_lconst (k := 1) (pc := 7) C dX9_cut_7 rfl ?_
  refine V_ldc2 (n := 999) (pc := 8) C dX9_cut_8 w4_199 rfl ?_
  refine cs_X9_123 (pc := 11) (rest := []) (wn := fun _ => [(o, .inr (9, fX9 q (up f 0 0))), (q 6, aI (d 0) 6 M6), (q 47, aI (d 0) 1000 M47)]) (sn := fun _ => [.int (iI (bI (1 ≤ t ∧ t ≤ 999)))]) C dX9_cut_11 (c_X9_in l D d t 1 999 (show -9223372036854775808 ≤ t ∧ t ≤ 9223372036854775807 by omega) (show -9223372036854775808 ≤ 1 ∧ 1 ≤ 9223372036854775807 by omega) (show -9223372036854775808 ≤ 999 ∧ 999 ≤ 9223372036854775807 by omega)) [] rfl rfl rfl rfl (Nat.le_of_ble_eq_true rfl) ⟨by omega, by omega⟩ ⟨Nat.zero_le _, Nat.zero_le _⟩ (fun _ => rfl) (fun _ => rfl) (fun _ => rfl) ?_
  intro _ _
  refine V_ifb_eq (pc := 14) 35 C dX9_cut_14 (by decide) (fun c14 => ?_) (fun c14 => ?_)
  · refine V_bipush (pc := 35) C dX9_cut_35 rfl ?_
    exact V_iret (pc := 37) C Z dX9_cut_37 (-2, M47) (⟨by unfold pCutM; (try dsimp only); (repeat' split) <;> first | rfl | omega, by first | exact hM47 | exact Gb⟩) (ri (by rfl)) rfl
  · refine V_iload_n (pc := 17) C dX9_cut_17 rfl 2 rfl ?_
    refine V_i2l (pc := 18) C dX9_cut_18 (sm_i (by omega)) ?_
    refine V_lconst (k := 0) (pc := 19) C dX9_cut_19 rfl ?_
    refine V_iconst (pc := 20) C dX9_cut_20 ?_
    refine V_aload_n (pc := 21) C dX9_cut_21 rfl 0 rfl ?_
    refine gf_X9_120 (x := f 4) (pc := 22) C dX9_cut_22 0 rfl rfl ?_
    refine V_ishl (z := (2 ^ (f 4).toNat)) (pc := 25) C dX9_cut_25 (shl1_i (by omega) (by omega)) ?_
    refine V_iconst (pc := 26) C dX9_cut_26 ?_
    refine V_isub (pc := 27) C dX9_cut_27 ?_
    refine V_i2l (pc := 28) C dX9_cut_28 (sm_i (by omega)) ?_
    refine cs_X9_123 (pc := 29) (rest := []) (wn := fun _ => [(o, .inr (9, fX9 q (up f 0 0))), (q 6, aI (d 0) 6 M6), (q 47, aI (d 0) 1000 M47)]) (sn := fun _ => [.int (iI (bI (0 ≤ m ∧ m ≤ ((2 ^ (f 4).toNat) - 1))))]) C dX9_cut_29 (c_X9_in l D d m 0 ((2 ^ (f 4).toNat) - 1) (show -9223372036854775808 ≤ m ∧ m ≤ 9223372036854775807 by omega) (show -9223372036854775808 ≤ 0 ∧ 0 ≤ 9223372036854775807 by omega) (show -9223372036854775808 ≤ ((2 ^ (f 4).toNat) - 1) ∧ ((2 ^ (f 4).toNat) - 1) ≤ 9223372036854775807 by omega)) [] rfl rfl rfl rfl (Nat.le_of_ble_eq_true rfl) ⟨by omega, by omega⟩ ⟨Nat.zero_le _, Nat.zero_le _⟩ (fun _ => rfl) (fun _ => rfl) (fun _ => rfl) ?_
    intro _ _
    refine V_ifb_ne (pc := 32) 38 C dX9_cut_32 (by decide) (fun c32 => ?_) (fun c32 => ?_)
    · refine V_iconst (pc := 38) C dX9_cut_38 ?_
      refine V_istore (lv' := [(4, .int (iI 0)), (0, .ref o), (1, .int (iI t)), (2, .int (iI m)), (3, .int (iI w))]) (pc := 39) C dX9_cut_39 (by decide) rfl ?_
      refine V_iconst (pc := 41) C dX9_cut_41 ?_
      refine V_istore (lv' := [(5, .int (iI 0)), (4, .int (iI 0)), (0, .ref o), (1, .int (iI t)), (2, .int (iI m)), (3, .int (iI w))]) (pc := 42) C dX9_cut_42 (by decide) rfl ?_
      have L44 : ∀ (nn9 : Nat) (x : Int) (z : Int) (G : Int → Int), (0 ≤ x ∧ x ≤ t + 1) → (G = tmI M6 m (f 4).toNat M47 x.toNat) → (z = mtI M6 m (f 4).toNat M47 x.toNat) → (t + 1 - x).toNat < nn9 → V p9 l e9 R9 s9 m9 args9 below9 meth9 c9 A9 D Q9 8 0 0 [(o, .inr (9, fX9 q (up f 0 0))), (q 6, aI (d 0) 6 M6), (q 47, aI (d 0) 1000 G)] [(5, .int (iI x)), (4, .int (iI z)), (0, .ref o), (1, .int (iI t)), (2, .int (iI m)), (3, .int (iI w))] 44 [] := by
        intro nn9
        induction nn9 with
        | zero => intro _ _ _ _ _ _ hm44; exact absurd hm44 (Nat.not_lt_zero _)
        | succ nn9 ih44 =>
          intro x z G hx hG hz hm44
          have zb := mtI_in (A := M6) (m := m) (N := (f 4).toNat) (K := M47) x.toNat
          rw [← hz] at zb
          have Gb : bd G 0 99999 := by rw [hG]; exact tmI_b hM47 _
          refine V_iload (pc := 44) C dX9_cut_44 0 rfl ?_
          refine V_iload_n (pc := 46) C dX9_cut_46 rfl 3 rfl ?_
          refine V_icmp_gt (pc := 47) 207 C dX9_cut_47 (by decide) (sm_i (by omega)) (sm_i (by omega)) (fun c47 => ?_) (fun c47 => ?_)
          · refine V_iload_n (pc := 207) C dX9_cut_207 rfl 5 rfl ?_
            refine V_if_eq (pc := 208) 221 C dX9_cut_208 (by decide) (sm_i (by omega)) (fun c208 => ?_) (fun c208 => ?_)
            · refine V_iload_n (pc := 221) C dX9_cut_221 rfl 3 rfl ?_
              refine V_iload (pc := 222) C dX9_cut_222 1 rfl ?_
              refine V_isub (pc := 224) C dX9_cut_224 ?_
              have ex : x.toNat = (t + 1).toNat := by omega
              rw [ex] at hG hz
              exact V_iret (pc := 225) C Z dX9_cut_225 (t - z, G) (⟨by unfold pCutM; rw [← hG, ← hz]; (try dsimp only); (repeat' split) <;> first | rfl | omega, Gb⟩) (ri (by rfl)) rfl
            · refine V_aload_n (pc := 211) C dX9_cut_211 rfl 2 rfl ?_
              refine gf_X9_114 (x := q 47) (pc := 212) C dX9_cut_212 0 rfl rfl ?_
              refine V_iload (pc := 215) C dX9_cut_215 1 rfl ?_
              refine V_iald (f := G) (pc := 217) C dX9_cut_217 2 rfl (by omega) (by omega) (Nat.le_of_ble_eq_true rfl) ?_
              refine V_goto (pc := 218) 225 C dX9_cut_218 (by decide) ?_
              have ex : x.toNat = (t + 1).toNat := by omega
              rw [ex] at hG hz
              exact V_iret (pc := 225) C Z dX9_cut_225 (G z, G) (⟨by unfold pCutM; rw [← hG, ← hz]; (try dsimp only); (repeat' split) <;> first | rfl | omega, Gb⟩) (ri (by rfl)) rfl
          · refine V_aload_n (pc := 50) C dX9_cut_50 rfl 2 rfl ?_
            refine gf_X9_114 (x := q 47) (pc := 51) C dX9_cut_51 0 rfl rfl ?_
            refine V_iload (pc := 54) C dX9_cut_54 0 rfl ?_
            refine V_iload (pc := 56) C dX9_cut_56 0 rfl ?_
            refine V_if_ne (pc := 58) 65 C dX9_cut_58 (by decide) (sm_i (by omega)) (fun c58 => ?_) (fun c58 => ?_)
            · refine V_ldc (n := 99999) (pc := 65) C dX9_cut_65 w4_211 rfl ?_
              refine V_iast (f := G) (ws' := [(o, .inr (9, fX9 q (up f 0 0))), (q 6, aI (d 0) 6 M6), (q 47, aI (d 0) 1000 (uI G x 99999))]) (pc := 67) C dX9_cut_67 2 rfl (by omega) (by omega) (Nat.le_of_ble_eq_true rfl) rfl ?_
              refine V_iconst (pc := 68) C dX9_cut_68 ?_
              refine V_istore (lv' := [(6, .int (iI 0)), (5, .int (iI x)), (4, .int (iI z)), (0, .ref o), (1, .int (iI t)), (2, .int (iI m)), (3, .int (iI w))]) (pc := 69) C dX9_cut_69 (by decide) rfl ?_
              have L71 : ∀ (nn9 : Nat) (y : Int) (H : Int → Int), (0 ≤ y ∧ y ≤ f 4) → (H = uI G x (twI M6 G m x y.toNat)) → (f 4 - y).toNat < nn9 → V p9 l e9 R9 s9 m9 args9 below9 meth9 c9 A9 D Q9 8 0 0 [(o, .inr (9, fX9 q (up f 0 0))), (q 6, aI (d 0) 6 M6), (q 47, aI (d 0) 1000 H)] [(6, .int (iI y)), (5, .int (iI x)), (4, .int (iI z)), (0, .ref o), (1, .int (iI t)), (2, .int (iI m)), (3, .int (iI w))] 71 [] := by
                intro nn9
                induction nn9 with
                | zero => intro _ _ _ _ hm71; exact absurd hm71 (Nat.not_lt_zero _)
                | succ nn9 ih71 =>
                  intro y H hy hH hm71
                  have tb := twI_b (A := M6) (m := m) (t := x) Gb y.toNat
                  have hHx : H x = twI M6 G m x y.toNat := by rw [hH, uI_s]
                  have a0 := hM6 y
                  refine V_iload (pc := 71) C dX9_cut_71 0 rfl ?_
                  refine V_aload_n (pc := 73) C dX9_cut_73 rfl 3 rfl ?_
                  refine gf_X9_120 (x := f 4) (pc := 74) C dX9_cut_74 0 rfl rfl ?_
                  refine V_icmp_ge (pc := 77) 180 C dX9_cut_77 (by decide) (sm_i (by omega)) (sm_i (by omega)) (fun c77 => ?_) (fun c77 => ?_)
                  · refine V_aload_n (pc := 180) C dX9_cut_180 rfl 3 rfl ?_
                    refine gf_X9_114 (x := q 47) (pc := 181) C dX9_cut_181 0 rfl rfl ?_
                    refine V_iload (pc := 184) C dX9_cut_184 1 rfl ?_
                    refine V_iald (f := H) (pc := 186) C dX9_cut_186 2 rfl (by omega) (by omega) (Nat.le_of_ble_eq_true rfl) ?_
                    refine V_ldc (n := 99999) (pc := 187) C dX9_cut_187 w4_211 rfl ?_
                    refine V_icmp_ge (pc := 189) 197 C dX9_cut_189 (by decide) (sm_i (by omega)) (sm_i (by decide)) (fun c189 => ?_) (fun c189 => ?_)
                    · refine V_iload (pc := 197) C dX9_cut_197 2 rfl ?_
                      refine V_istore (lv' := [(4, .int (iI z)), (6, .int (iI y)), (5, .int (iI x)), (0, .ref o), (1, .int (iI t)), (2, .int (iI m)), (3, .int (iI w))]) (pc := 199) C dX9_cut_199 (by decide) rfl ?_
                      refine V_iinc (lv' := [(5, .int (iI (x + 1))), (4, .int (iI z)), (6, .int (iI y)), (0, .ref o), (1, .int (iI t)), (2, .int (iI m)), (3, .int (iI w))]) (pc := 201) C dX9_cut_201 2 rfl (by decide) rfl ?_
                      refine V_goto (pc := 204) 44 C dX9_cut_204 (by decide) ?_
                      exact V_sub [0, 1, 3, 4, 5, 6] rfl (ih44 (x + 1) z H (by omega) (by rw [hH, tmI_s hx.1, ← hG, show y = f 4 by omega]) (by rw [mtI_s hx.1, ← hG, ← hz, ← show y = f 4 by omega, ← hHx]; split <;> omega) (by omega))
                    · refine V_iload (pc := 192) C dX9_cut_192 1 rfl ?_
                      refine V_goto (pc := 194) 199 C dX9_cut_194 (by decide) ?_
                      refine V_istore (lv' := [(4, .int (iI x)), (6, .int (iI y)), (5, .int (iI x)), (0, .ref o), (1, .int (iI t)), (2, .int (iI m)), (3, .int (iI w))]) (pc := 199) C dX9_cut_199 (by decide) rfl ?_
                      refine V_iinc (lv' := [(5, .int (iI (x + 1))), (4, .int (iI x)), (6, .int (iI y)), (0, .ref o), (1, .int (iI t)), (2, .int (iI m)), (3, .int (iI w))]) (pc := 201) C dX9_cut_201 2 rfl (by decide) rfl ?_
                      refine V_goto (pc := 204) 44 C dX9_cut_204 (by decide) ?_
                      exact V_sub [0, 1, 3, 4, 5, 6] rfl (ih44 (x + 1) x H (by omega) (by rw [hH, tmI_s hx.1, ← hG, show y = f 4 by omega]) (by rw [mtI_s hx.1, ← hG, ← hz, ← show y = f 4 by omega, ← hHx]; split <;> omega) (by omega))
                  · have a1 := hA1 y (by omega)
                    have hHy : H (x - M6 y) = G (x - M6 y) := by rw [hH]; exact uI_n _ _ (by omega)
                    have gy := Gb (x - M6 y)
                    refine V_iload_n (pc := 80) C dX9_cut_80 rfl 5 rfl ?_
                    refine V_iload (pc := 81) C dX9_cut_81 0 rfl ?_
                    refine cs_X9_200 (pc := 83) (rest := []) (wn := fun _ => [(o, .inr (9, fX9 q (up f 0 0))), (q 6, aI (d 0) 6 M6), (q 47, aI (d 0) 1000 H)]) (sn := fun _ => [.int (iI (bI (m / 2 ^ y.toNat % 2 = 1)))]) C dX9_cut_83 (c_X9_has l D d m y (show 0 ≤ m ∧ m ≤ 2147483647 by omega) (show 0 ≤ y ∧ y ≤ 31 by omega)) [] rfl rfl rfl rfl (Nat.le_of_ble_eq_true rfl) ⟨by omega, by omega⟩ ⟨Nat.zero_le _, Nat.zero_le _⟩ (fun _ => rfl) (fun _ => rfl) (fun _ => rfl) ?_
                    intro _ _
                    refine V_ifb_eq (pc := 86) 132 C dX9_cut_86 (by decide) (fun c86 => ?_) (fun c86 => ?_)
                    · refine V_iconst (pc := 132) C dX9_cut_132 ?_
                      refine V_istore (lv' := [(7, .int (iI 0)), (6, .int (iI y)), (5, .int (iI x)), (4, .int (iI z)), (0, .ref o), (1, .int (iI t)), (2, .int (iI m)), (3, .int (iI w))]) (pc := 133) C dX9_cut_133 (by decide) rfl ?_
                      refine V_aload_n (pc := 135) C dX9_cut_135 rfl 4 rfl ?_
                      refine gf_X9_114 (x := q 47) (pc := 136) C dX9_cut_136 0 rfl rfl ?_
                      refine V_iload (pc := 139) C dX9_cut_139 2 rfl ?_
                      refine V_iload (pc := 141) C dX9_cut_141 0 rfl ?_
                      refine V_if_eq (pc := 143) 166 C dX9_cut_143 (by decide) (sm_i (by decide)) (fun c143 => ?_) (fun c143 => ?_)
                      · refine V_aload_n (pc := 166) C dX9_cut_166 rfl 4 rfl ?_
                        refine gf_X9_114 (x := q 47) (pc := 167) C dX9_cut_167 0 rfl rfl ?_
                        refine V_iload (pc := 170) C dX9_cut_170 2 rfl ?_
                        refine V_iald (f := H) (pc := 172) C dX9_cut_172 2 rfl (by omega) (by omega) (Nat.le_of_ble_eq_true rfl) ?_
                        refine V_iast (f := H) (ws' := [(o, .inr (9, fX9 q (up f 0 0))), (q 6, aI (d 0) 6 M6), (q 47, aI (d 0) 1000 (uI H x (H x)))]) (pc := 173) C dX9_cut_173 2 rfl (by omega) (by omega) (Nat.le_of_ble_eq_true rfl) rfl ?_
                        refine V_iinc (lv' := [(6, .int (iI (y + 1))), (7, .int (iI 0)), (5, .int (iI x)), (4, .int (iI z)), (0, .ref o), (1, .int (iI t)), (2, .int (iI m)), (3, .int (iI w))]) (pc := 174) C dX9_cut_174 1 rfl (by decide) rfl ?_
                        refine V_goto (pc := 177) 71 C dX9_cut_177 (by decide) ?_
                        exact V_sub [0, 2, 3, 4, 5, 6, 7] rfl (ih71 (y + 1) (uI H x (H x)) (by omega) (step_uI hH (by rw [twI_s hy.1]; unfold bitI; (repeat' split) <;> omega)) (by omega))
                      · exact absurd c143 (by decide)
                    · refine V_iload (pc := 89) C dX9_cut_89 1 rfl ?_
                      refine V_aload_n (pc := 91) C dX9_cut_91 rfl 3 rfl ?_
                      refine gf_X9_13 (x := q 6) (pc := 92) C dX9_cut_92 0 rfl rfl ?_
                      refine V_iload (pc := 95) C dX9_cut_95 0 rfl ?_
                      refine V_iald (f := M6) (pc := 97) C dX9_cut_97 1 rfl (by omega) (by omega) (Nat.le_of_ble_eq_true rfl) ?_
                      have b97 := hM6 y
                      refine V_icmp_lt (pc := 98) 132 C dX9_cut_98 (by decide) (sm_i (by omega)) (sm_i (by omega)) (fun c98 => ?_) (fun c98 => ?_)
                      · refine V_iconst (pc := 132) C dX9_cut_132 ?_
                        refine V_istore (lv' := [(7, .int (iI 0)), (6, .int (iI y)), (5, .int (iI x)), (4, .int (iI z)), (0, .ref o), (1, .int (iI t)), (2, .int (iI m)), (3, .int (iI w))]) (pc := 133) C dX9_cut_133 (by decide) rfl ?_
                        refine V_aload_n (pc := 135) C dX9_cut_135 rfl 4 rfl ?_
                        refine gf_X9_114 (x := q 47) (pc := 136) C dX9_cut_136 0 rfl rfl ?_
                        refine V_iload (pc := 139) C dX9_cut_139 2 rfl ?_
                        refine V_iload (pc := 141) C dX9_cut_141 0 rfl ?_
                        refine V_if_eq (pc := 143) 166 C dX9_cut_143 (by decide) (sm_i (by decide)) (fun c143 => ?_) (fun c143 => ?_)
                        · refine V_aload_n (pc := 166) C dX9_cut_166 rfl 4 rfl ?_
                          refine gf_X9_114 (x := q 47) (pc := 167) C dX9_cut_167 0 rfl rfl ?_
                          refine V_iload (pc := 170) C dX9_cut_170 2 rfl ?_
                          refine V_iald (f := H) (pc := 172) C dX9_cut_172 2 rfl (by omega) (by omega) (Nat.le_of_ble_eq_true rfl) ?_
                          refine V_iast (f := H) (ws' := [(o, .inr (9, fX9 q (up f 0 0))), (q 6, aI (d 0) 6 M6), (q 47, aI (d 0) 1000 (uI H x (H x)))]) (pc := 173) C dX9_cut_173 2 rfl (by omega) (by omega) (Nat.le_of_ble_eq_true rfl) rfl ?_
                          refine V_iinc (lv' := [(6, .int (iI (y + 1))), (7, .int (iI 0)), (5, .int (iI x)), (4, .int (iI z)), (0, .ref o), (1, .int (iI t)), (2, .int (iI m)), (3, .int (iI w))]) (pc := 174) C dX9_cut_174 1 rfl (by decide) rfl ?_
                          refine V_goto (pc := 177) 71 C dX9_cut_177 (by decide) ?_
                          exact V_sub [0, 2, 3, 4, 5, 6, 7] rfl (ih71 (y + 1) (uI H x (H x)) (by omega) (step_uI hH (by rw [twI_s hy.1]; unfold bitI; (repeat' split) <;> omega)) (by omega))
                        · exact absurd c143 (by decide)
                      · refine V_aload_n (pc := 101) C dX9_cut_101 rfl 3 rfl ?_
                        refine gf_X9_114 (x := q 47) (pc := 102) C dX9_cut_102 0 rfl rfl ?_
                        refine V_iload (pc := 105) C dX9_cut_105 1 rfl ?_
                        refine V_aload_n (pc := 107) C dX9_cut_107 rfl 3 rfl ?_
                        refine gf_X9_13 (x := q 6) (pc := 108) C dX9_cut_108 0 rfl rfl ?_
                        refine V_iload (pc := 111) C dX9_cut_111 0 rfl ?_
                        refine V_iald (f := M6) (pc := 113) C dX9_cut_113 1 rfl (by omega) (by omega) (Nat.le_of_ble_eq_true rfl) ?_
                        have b113 := hM6 y
                        refine V_isub (pc := 114) C dX9_cut_114 ?_
                        refine V_iald (f := H) (pc := 115) C dX9_cut_115 2 rfl (by omega) (by omega) (Nat.le_of_ble_eq_true rfl) ?_
                        refine V_iconst (pc := 116) C dX9_cut_116 ?_
                        refine V_iadd (pc := 117) C dX9_cut_117 ?_
                        refine V_aload_n (pc := 118) C dX9_cut_118 rfl 3 rfl ?_
                        refine gf_X9_114 (x := q 47) (pc := 119) C dX9_cut_119 0 rfl rfl ?_
                        refine V_iload (pc := 122) C dX9_cut_122 1 rfl ?_
                        refine V_iald (f := H) (pc := 124) C dX9_cut_124 2 rfl (by omega) (by omega) (Nat.le_of_ble_eq_true rfl) ?_
                        refine V_icmp_ge (pc := 125) 132 C dX9_cut_125 (by decide) (sm_i (by omega)) (sm_i (by omega)) (fun c125 => ?_) (fun c125 => ?_)
                        · refine V_iconst (pc := 132) C dX9_cut_132 ?_
                          refine V_istore (lv' := [(7, .int (iI 0)), (6, .int (iI y)), (5, .int (iI x)), (4, .int (iI z)), (0, .ref o), (1, .int (iI t)), (2, .int (iI m)), (3, .int (iI w))]) (pc := 133) C dX9_cut_133 (by decide) rfl ?_
                          refine V_aload_n (pc := 135) C dX9_cut_135 rfl 4 rfl ?_
                          refine gf_X9_114 (x := q 47) (pc := 136) C dX9_cut_136 0 rfl rfl ?_
                          refine V_iload (pc := 139) C dX9_cut_139 2 rfl ?_
                          refine V_iload (pc := 141) C dX9_cut_141 0 rfl ?_
                          refine V_if_eq (pc := 143) 166 C dX9_cut_143 (by decide) (sm_i (by decide)) (fun c143 => ?_) (fun c143 => ?_)
                          · refine V_aload_n (pc := 166) C dX9_cut_166 rfl 4 rfl ?_
                            refine gf_X9_114 (x := q 47) (pc := 167) C dX9_cut_167 0 rfl rfl ?_
                            refine V_iload (pc := 170) C dX9_cut_170 2 rfl ?_
                            refine V_iald (f := H) (pc := 172) C dX9_cut_172 2 rfl (by omega) (by omega) (Nat.le_of_ble_eq_true rfl) ?_
                            refine V_iast (f := H) (ws' := [(o, .inr (9, fX9 q (up f 0 0))), (q 6, aI (d 0) 6 M6), (q 47, aI (d 0) 1000 (uI H x (H x)))]) (pc := 173) C dX9_cut_173 2 rfl (by omega) (by omega) (Nat.le_of_ble_eq_true rfl) rfl ?_
                            refine V_iinc (lv' := [(6, .int (iI (y + 1))), (7, .int (iI 0)), (5, .int (iI x)), (4, .int (iI z)), (0, .ref o), (1, .int (iI t)), (2, .int (iI m)), (3, .int (iI w))]) (pc := 174) C dX9_cut_174 1 rfl (by decide) rfl ?_
                            refine V_goto (pc := 177) 71 C dX9_cut_177 (by decide) ?_
                            exact V_sub [0, 2, 3, 4, 5, 6, 7] rfl (ih71 (y + 1) (uI H x (H x)) (by omega) (step_uI hH (by rw [twI_s hy.1]; unfold bitI; (repeat' split) <;> omega)) (by omega))
                          · exact absurd c143 (by decide)
                        · refine V_iconst (pc := 128) C dX9_cut_128 ?_
                          refine V_goto (pc := 129) 133 C dX9_cut_129 (by decide) ?_
                          refine V_istore (lv' := [(7, .int (iI 1)), (6, .int (iI y)), (5, .int (iI x)), (4, .int (iI z)), (0, .ref o), (1, .int (iI t)), (2, .int (iI m)), (3, .int (iI w))]) (pc := 133) C dX9_cut_133 (by decide) rfl ?_
                          refine V_aload_n (pc := 135) C dX9_cut_135 rfl 4 rfl ?_
                          refine gf_X9_114 (x := q 47) (pc := 136) C dX9_cut_136 0 rfl rfl ?_
                          refine V_iload (pc := 139) C dX9_cut_139 2 rfl ?_
                          refine V_iload (pc := 141) C dX9_cut_141 0 rfl ?_
                          refine V_if_eq (pc := 143) 166 C dX9_cut_143 (by decide) (sm_i (by decide)) (fun c143 => ?_) (fun c143 => ?_)
                          · exact absurd c143 (by decide)
                          · refine V_aload_n (pc := 146) C dX9_cut_146 rfl 4 rfl ?_
                            refine gf_X9_114 (x := q 47) (pc := 147) C dX9_cut_147 0 rfl rfl ?_
                            refine V_iload (pc := 150) C dX9_cut_150 2 rfl ?_
                            refine V_aload_n (pc := 152) C dX9_cut_152 rfl 4 rfl ?_
                            refine gf_X9_13 (x := q 6) (pc := 153) C dX9_cut_153 0 rfl rfl ?_
                            refine V_iload (pc := 156) C dX9_cut_156 1 rfl ?_
                            refine V_iald (f := M6) (pc := 158) C dX9_cut_158 1 rfl (by omega) (by omega) (Nat.le_of_ble_eq_true rfl) ?_
                            have b158 := hM6 y
                            refine V_isub (pc := 159) C dX9_cut_159 ?_
                            refine V_iald (f := H) (pc := 160) C dX9_cut_160 2 rfl (by omega) (by omega) (Nat.le_of_ble_eq_true rfl) ?_
                            refine V_iconst (pc := 161) C dX9_cut_161 ?_
                            refine V_iadd (pc := 162) C dX9_cut_162 ?_
                            refine V_goto (pc := 163) 173 C dX9_cut_163 (by decide) ?_
                            refine V_iast (f := H) (ws' := [(o, .inr (9, fX9 q (up f 0 0))), (q 6, aI (d 0) 6 M6), (q 47, aI (d 0) 1000 (uI H x ((H (x - (M6 y))) + 1)))]) (pc := 173) C dX9_cut_173 2 rfl (by omega) (by omega) (Nat.le_of_ble_eq_true rfl) rfl ?_
                            refine V_iinc (lv' := [(6, .int (iI (y + 1))), (7, .int (iI 1)), (5, .int (iI x)), (4, .int (iI z)), (0, .ref o), (1, .int (iI t)), (2, .int (iI m)), (3, .int (iI w))]) (pc := 174) C dX9_cut_174 1 rfl (by decide) rfl ?_
                            refine V_goto (pc := 177) 71 C dX9_cut_177 (by decide) ?_
                            exact V_sub [0, 2, 3, 4, 5, 6, 7] rfl (ih71 (y + 1) (uI H x ((H (x - (M6 y))) + 1)) (by omega) (step_uI hH (by rw [twI_s hy.1]; unfold bitI; (repeat' split) <;> omega)) (by omega))
              exact V_sub [0, 1, 2, 3, 4, 5, 6] rfl (L71 ((f 4 - 0).toNat + 1) 0 (uI G x 99999) (by omega) (by show uI G x _ = uI G x (if x = 0 then 0 else 99999); (repeat' split) <;> first | rfl | omega) (Nat.lt_succ_self _))
            · refine V_iconst (pc := 61) C dX9_cut_61 ?_
              refine V_goto (pc := 62) 67 C dX9_cut_62 (by decide) ?_
              refine V_iast (f := G) (ws' := [(o, .inr (9, fX9 q (up f 0 0))), (q 6, aI (d 0) 6 M6), (q 47, aI (d 0) 1000 (uI G x 0))]) (pc := 67) C dX9_cut_67 2 rfl (by omega) (by omega) (Nat.le_of_ble_eq_true rfl) rfl ?_
              refine V_iconst (pc := 68) C dX9_cut_68 ?_
              refine V_istore (lv' := [(6, .int (iI 0)), (5, .int (iI x)), (4, .int (iI z)), (0, .ref o), (1, .int (iI t)), (2, .int (iI m)), (3, .int (iI w))]) (pc := 69) C dX9_cut_69 (by decide) rfl ?_
              have L71 : ∀ (nn9 : Nat) (y : Int) (H : Int → Int), (0 ≤ y ∧ y ≤ f 4) → (H = uI G x (twI M6 G m x y.toNat)) → (f 4 - y).toNat < nn9 → V p9 l e9 R9 s9 m9 args9 below9 meth9 c9 A9 D Q9 8 0 0 [(o, .inr (9, fX9 q (up f 0 0))), (q 6, aI (d 0) 6 M6), (q 47, aI (d 0) 1000 H)] [(6, .int (iI y)), (5, .int (iI x)), (4, .int (iI z)), (0, .ref o), (1, .int (iI t)), (2, .int (iI m)), (3, .int (iI w))] 71 [] := by
                intro nn9
                induction nn9 with
                | zero => intro _ _ _ _ hm71; exact absurd hm71 (Nat.not_lt_zero _)
                | succ nn9 ih71 =>
                  intro y H hy hH hm71
                  have tb := twI_b (A := M6) (m := m) (t := x) Gb y.toNat
                  have hHx : H x = twI M6 G m x y.toNat := by rw [hH, uI_s]
                  have a0 := hM6 y
                  refine V_iload (pc := 71) C dX9_cut_71 0 rfl ?_
                  refine V_aload_n (pc := 73) C dX9_cut_73 rfl 3 rfl ?_
                  refine gf_X9_120 (x := f 4) (pc := 74) C dX9_cut_74 0 rfl rfl ?_
                  refine V_icmp_ge (pc := 77) 180 C dX9_cut_77 (by decide) (sm_i (by omega)) (sm_i (by omega)) (fun c77 => ?_) (fun c77 => ?_)
                  · refine V_aload_n (pc := 180) C dX9_cut_180 rfl 3 rfl ?_
                    refine gf_X9_114 (x := q 47) (pc := 181) C dX9_cut_181 0 rfl rfl ?_
                    refine V_iload (pc := 184) C dX9_cut_184 1 rfl ?_
                    refine V_iald (f := H) (pc := 186) C dX9_cut_186 2 rfl (by omega) (by omega) (Nat.le_of_ble_eq_true rfl) ?_
                    refine V_ldc (n := 99999) (pc := 187) C dX9_cut_187 w4_211 rfl ?_
                    refine V_icmp_ge (pc := 189) 197 C dX9_cut_189 (by decide) (sm_i (by omega)) (sm_i (by decide)) (fun c189 => ?_) (fun c189 => ?_)
                    · refine V_iload (pc := 197) C dX9_cut_197 2 rfl ?_
                      refine V_istore (lv' := [(4, .int (iI z)), (6, .int (iI y)), (5, .int (iI x)), (0, .ref o), (1, .int (iI t)), (2, .int (iI m)), (3, .int (iI w))]) (pc := 199) C dX9_cut_199 (by decide) rfl ?_
                      refine V_iinc (lv' := [(5, .int (iI (x + 1))), (4, .int (iI z)), (6, .int (iI y)), (0, .ref o), (1, .int (iI t)), (2, .int (iI m)), (3, .int (iI w))]) (pc := 201) C dX9_cut_201 2 rfl (by decide) rfl ?_
                      refine V_goto (pc := 204) 44 C dX9_cut_204 (by decide) ?_
                      exact V_sub [0, 1, 3, 4, 5, 6] rfl (ih44 (x + 1) z H (by omega) (by rw [hH, tmI_s hx.1, ← hG, show y = f 4 by omega]) (by rw [mtI_s hx.1, ← hG, ← hz, ← show y = f 4 by omega, ← hHx]; split <;> omega) (by omega))
                    · refine V_iload (pc := 192) C dX9_cut_192 1 rfl ?_
                      refine V_goto (pc := 194) 199 C dX9_cut_194 (by decide) ?_
                      refine V_istore (lv' := [(4, .int (iI x)), (6, .int (iI y)), (5, .int (iI x)), (0, .ref o), (1, .int (iI t)), (2, .int (iI m)), (3, .int (iI w))]) (pc := 199) C dX9_cut_199 (by decide) rfl ?_
                      refine V_iinc (lv' := [(5, .int (iI (x + 1))), (4, .int (iI x)), (6, .int (iI y)), (0, .ref o), (1, .int (iI t)), (2, .int (iI m)), (3, .int (iI w))]) (pc := 201) C dX9_cut_201 2 rfl (by decide) rfl ?_
                      refine V_goto (pc := 204) 44 C dX9_cut_204 (by decide) ?_
                      exact V_sub [0, 1, 3, 4, 5, 6] rfl (ih44 (x + 1) x H (by omega) (by rw [hH, tmI_s hx.1, ← hG, show y = f 4 by omega]) (by rw [mtI_s hx.1, ← hG, ← hz, ← show y = f 4 by omega, ← hHx]; split <;> omega) (by omega))
                  · have a1 := hA1 y (by omega)
                    have hHy : H (x - M6 y) = G (x - M6 y) := by rw [hH]; exact uI_n _ _ (by omega)
                    have gy := Gb (x - M6 y)
                    refine V_iload_n (pc := 80) C dX9_cut_80 rfl 5 rfl ?_
                    refine V_iload (pc := 81) C dX9_cut_81 0 rfl ?_
                    refine cs_X9_200 (pc := 83) (rest := []) (wn := fun _ => [(o, .inr (9, fX9 q (up f 0 0))), (q 6, aI (d 0) 6 M6), (q 47, aI (d 0) 1000 H)]) (sn := fun _ => [.int (iI (bI (m / 2 ^ y.toNat % 2 = 1)))]) C dX9_cut_83 (c_X9_has l D d m y (show 0 ≤ m ∧ m ≤ 2147483647 by omega) (show 0 ≤ y ∧ y ≤ 31 by omega)) [] rfl rfl rfl rfl (Nat.le_of_ble_eq_true rfl) ⟨by omega, by omega⟩ ⟨Nat.zero_le _, Nat.zero_le _⟩ (fun _ => rfl) (fun _ => rfl) (fun _ => rfl) ?_
                    intro _ _
                    refine V_ifb_eq (pc := 86) 132 C dX9_cut_86 (by decide) (fun c86 => ?_) (fun c86 => ?_)
                    · refine V_iconst (pc := 132) C dX9_cut_132 ?_
                      refine V_istore (lv' := [(7, .int (iI 0)), (6, .int (iI y)), (5, .int (iI x)), (4, .int (iI z)), (0, .ref o), (1, .int (iI t)), (2, .int (iI m)), (3, .int (iI w))]) (pc := 133) C dX9_cut_133 (by decide) rfl ?_
                      refine V_aload_n (pc := 135) C dX9_cut_135 rfl 4 rfl ?_
                      refine gf_X9_114 (x := q 47) (pc := 136) C dX9_cut_136 0 rfl rfl ?_
                      refine V_iload (pc := 139) C dX9_cut_139 2 rfl ?_
                      refine V_iload (pc := 141) C dX9_cut_141 0 rfl ?_
                      refine V_if_eq (pc := 143) 166 C dX9_cut_143 (by decide) (sm_i (by decide)) (fun c143 => ?_) (fun c143 => ?_)
                      · refine V_aload_n (pc := 166) C dX9_cut_166 rfl 4 rfl ?_
                        refine gf_X9_114 (x := q 47) (pc := 167) C dX9_cut_167 0 rfl rfl ?_
                        refine V_iload (pc := 170) C dX9_cut_170 2 rfl ?_
                        refine V_iald (f := H) (pc := 172) C dX9_cut_172 2 rfl (by omega) (by omega) (Nat.le_of_ble_eq_true rfl) ?_
                        refine V_iast (f := H) (ws' := [(o, .inr (9, fX9 q (up f 0 0))), (q 6, aI (d 0) 6 M6), (q 47, aI (d 0) 1000 (uI H x (H x)))]) (pc := 173) C dX9_cut_173 2 rfl (by omega) (by omega) (Nat.le_of_ble_eq_true rfl) rfl ?_
                        refine V_iinc (lv' := [(6, .int (iI (y + 1))), (7, .int (iI 0)), (5, .int (iI x)), (4, .int (iI z)), (0, .ref o), (1, .int (iI t)), (2, .int (iI m)), (3, .int (iI w))]) (pc := 174) C dX9_cut_174 1 rfl (by decide) rfl ?_
                        refine V_goto (pc := 177) 71 C dX9_cut_177 (by decide) ?_
                        exact V_sub [0, 2, 3, 4, 5, 6, 7] rfl (ih71 (y + 1) (uI H x (H x)) (by omega) (step_uI hH (by rw [twI_s hy.1]; unfold bitI; (repeat' split) <;> omega)) (by omega))
                      · exact absurd c143 (by decide)
                    · refine V_iload (pc := 89) C dX9_cut_89 1 rfl ?_
                      refine V_aload_n (pc := 91) C dX9_cut_91 rfl 3 rfl ?_
                      refine gf_X9_13 (x := q 6) (pc := 92) C dX9_cut_92 0 rfl rfl ?_
                      refine V_iload (pc := 95) C dX9_cut_95 0 rfl ?_
                      refine V_iald (f := M6) (pc := 97) C dX9_cut_97 1 rfl (by omega) (by omega) (Nat.le_of_ble_eq_true rfl) ?_
                      have b97 := hM6 y
                      refine V_icmp_lt (pc := 98) 132 C dX9_cut_98 (by decide) (sm_i (by omega)) (sm_i (by omega)) (fun c98 => ?_) (fun c98 => ?_)
                      · refine V_iconst (pc := 132) C dX9_cut_132 ?_
                        refine V_istore (lv' := [(7, .int (iI 0)), (6, .int (iI y)), (5, .int (iI x)), (4, .int (iI z)), (0, .ref o), (1, .int (iI t)), (2, .int (iI m)), (3, .int (iI w))]) (pc := 133) C dX9_cut_133 (by decide) rfl ?_
                        refine V_aload_n (pc := 135) C dX9_cut_135 rfl 4 rfl ?_
                        refine gf_X9_114 (x := q 47) (pc := 136) C dX9_cut_136 0 rfl rfl ?_
                        refine V_iload (pc := 139) C dX9_cut_139 2 rfl ?_
                        refine V_iload (pc := 141) C dX9_cut_141 0 rfl ?_
                        refine V_if_eq (pc := 143) 166 C dX9_cut_143 (by decide) (sm_i (by decide)) (fun c143 => ?_) (fun c143 => ?_)
                        · refine V_aload_n (pc := 166) C dX9_cut_166 rfl 4 rfl ?_
                          refine gf_X9_114 (x := q 47) (pc := 167) C dX9_cut_167 0 rfl rfl ?_
                          refine V_iload (pc := 170) C dX9_cut_170 2 rfl ?_
                          refine V_iald (f := H) (pc := 172) C dX9_cut_172 2 rfl (by omega) (by omega) (Nat.le_of_ble_eq_true rfl) ?_
                          refine V_iast (f := H) (ws' := [(o, .inr (9, fX9 q (up f 0 0))), (q 6, aI (d 0) 6 M6), (q 47, aI (d 0) 1000 (uI H x (H x)))]) (pc := 173) C dX9_cut_173 2 rfl (by omega) (by omega) (Nat.le_of_ble_eq_true rfl) rfl ?_
                          refine V_iinc (lv' := [(6, .int (iI (y + 1))), (7, .int (iI 0)), (5, .int (iI x)), (4, .int (iI z)), (0, .ref o), (1, .int (iI t)), (2, .int (iI m)), (3, .int (iI w))]) (pc := 174) C dX9_cut_174 1 rfl (by decide) rfl ?_
                          refine V_goto (pc := 177) 71 C dX9_cut_177 (by decide) ?_
                          exact V_sub [0, 2, 3, 4, 5, 6, 7] rfl (ih71 (y + 1) (uI H x (H x)) (by omega) (step_uI hH (by rw [twI_s hy.1]; unfold bitI; (repeat' split) <;> omega)) (by omega))
                        · exact absurd c143 (by decide)
                      · refine V_aload_n (pc := 101) C dX9_cut_101 rfl 3 rfl ?_
                        refine gf_X9_114 (x := q 47) (pc := 102) C dX9_cut_102 0 rfl rfl ?_
                        refine V_iload (pc := 105) C dX9_cut_105 1 rfl ?_
                        refine V_aload_n (pc := 107) C dX9_cut_107 rfl 3 rfl ?_
                        refine gf_X9_13 (x := q 6) (pc := 108) C dX9_cut_108 0 rfl rfl ?_
                        refine V_iload (pc := 111) C dX9_cut_111 0 rfl ?_
                        refine V_iald (f := M6) (pc := 113) C dX9_cut_113 1 rfl (by omega) (by omega) (Nat.le_of_ble_eq_true rfl) ?_
                        have b113 := hM6 y
                        refine V_isub (pc := 114) C dX9_cut_114 ?_
                        refine V_iald (f := H) (pc := 115) C dX9_cut_115 2 rfl (by omega) (by omega) (Nat.le_of_ble_eq_true rfl) ?_
                        refine V_iconst (pc := 116) C dX9_cut_116 ?_
                        refine V_iadd (pc := 117) C dX9_cut_117 ?_
                        refine V_aload_n (pc := 118) C dX9_cut_118 rfl 3 rfl ?_
                        refine gf_X9_114 (x := q 47) (pc := 119) C dX9_cut_119 0 rfl rfl ?_
                        refine V_iload (pc := 122) C dX9_cut_122 1 rfl ?_
                        refine V_iald (f := H) (pc := 124) C dX9_cut_124 2 rfl (by omega) (by omega) (Nat.le_of_ble_eq_true rfl) ?_
                        refine V_icmp_ge (pc := 125) 132 C dX9_cut_125 (by decide) (sm_i (by omega)) (sm_i (by omega)) (fun c125 => ?_) (fun c125 => ?_)
                        · refine V_iconst (pc := 132) C dX9_cut_132 ?_
                          refine V_istore (lv' := [(7, .int (iI 0)), (6, .int (iI y)), (5, .int (iI x)), (4, .int (iI z)), (0, .ref o), (1, .int (iI t)), (2, .int (iI m)), (3, .int (iI w))]) (pc := 133) C dX9_cut_133 (by decide) rfl ?_
                          refine V_aload_n (pc := 135) C dX9_cut_135 rfl 4 rfl ?_
                          refine gf_X9_114 (x := q 47) (pc := 136) C dX9_cut_136 0 rfl rfl ?_
                          refine V_iload (pc := 139) C dX9_cut_139 2 rfl ?_
                          refine V_iload (pc := 141) C dX9_cut_141 0 rfl ?_
                          refine V_if_eq (pc := 143) 166 C dX9_cut_143 (by decide) (sm_i (by decide)) (fun c143 => ?_) (fun c143 => ?_)
                          · refine V_aload_n (pc := 166) C dX9_cut_166 rfl 4 rfl ?_
                            refine gf_X9_114 (x := q 47) (pc := 167) C dX9_cut_167 0 rfl rfl ?_
                            refine V_iload (pc := 170) C dX9_cut_170 2 rfl ?_
                            refine V_iald (f := H) (pc := 172) C dX9_cut_172 2 rfl (by omega) (by omega) (Nat.le_of_ble_eq_true rfl) ?_
                            refine V_iast (f := H) (ws' := [(o, .inr (9, fX9 q (up f 0 0))), (q 6, aI (d 0) 6 M6), (q 47, aI (d 0) 1000 (uI H x (H x)))]) (pc := 173) C dX9_cut_173 2 rfl (by omega) (by omega) (Nat.le_of_ble_eq_true rfl) rfl ?_
                            refine V_iinc (lv' := [(6, .int (iI (y + 1))), (7, .int (iI 0)), (5, .int (iI x)), (4, .int (iI z)), (0, .ref o), (1, .int (iI t)), (2, .int (iI m)), (3, .int (iI w))]) (pc := 174) C dX9_cut_174 1 rfl (by decide) rfl ?_
                            refine V_goto (pc := 177) 71 C dX9_cut_177 (by decide) ?_
                            exact V_sub [0, 2, 3, 4, 5, 6, 7] rfl (ih71 (y + 1) (uI H x (H x)) (by omega) (step_uI hH (by rw [twI_s hy.1]; unfold bitI; (repeat' split) <;> omega)) (by omega))
                          · exact absurd c143 (by decide)
                        · refine V_iconst (pc := 128) C dX9_cut_128 ?_
                          refine V_goto (pc := 129) 133 C dX9_cut_129 (by decide) ?_
                          refine V_istore (lv' := [(7, .int (iI 1)), (6, .int (iI y)), (5, .int (iI x)), (4, .int (iI z)), (0, .ref o), (1, .int (iI t)), (2, .int (iI m)), (3, .int (iI w))]) (pc := 133) C dX9_cut_133 (by decide) rfl ?_
                          refine V_aload_n (pc := 135) C dX9_cut_135 rfl 4 rfl ?_
                          refine gf_X9_114 (x := q 47) (pc := 136) C dX9_cut_136 0 rfl rfl ?_
                          refine V_iload (pc := 139) C dX9_cut_139 2 rfl ?_
                          refine V_iload (pc := 141) C dX9_cut_141 0 rfl ?_
                          refine V_if_eq (pc := 143) 166 C dX9_cut_143 (by decide) (sm_i (by decide)) (fun c143 => ?_) (fun c143 => ?_)
                          · exact absurd c143 (by decide)
                          · refine V_aload_n (pc := 146) C dX9_cut_146 rfl 4 rfl ?_
                            refine gf_X9_114 (x := q 47) (pc := 147) C dX9_cut_147 0 rfl rfl ?_
                            refine V_iload (pc := 150) C dX9_cut_150 2 rfl ?_
                            refine V_aload_n (pc := 152) C dX9_cut_152 rfl 4 rfl ?_
                            refine gf_X9_13 (x := q 6) (pc := 153) C dX9_cut_153 0 rfl rfl ?_
                            refine V_iload (pc := 156) C dX9_cut_156 1 rfl ?_
                            refine V_iald (f := M6) (pc := 158) C dX9_cut_158 1 rfl (by omega) (by omega) (Nat.le_of_ble_eq_true rfl) ?_
                            have b158 := hM6 y
                            refine V_isub (pc := 159) C dX9_cut_159 ?_
                            refine V_iald (f := H) (pc := 160) C dX9_cut_160 2 rfl (by omega) (by omega) (Nat.le_of_ble_eq_true rfl) ?_
                            refine V_iconst (pc := 161) C dX9_cut_161 ?_
                            refine V_iadd (pc := 162) C dX9_cut_162 ?_
                            refine V_goto (pc := 163) 173 C dX9_cut_163 (by decide) ?_
                            refine V_iast (f := H) (ws' := [(o, .inr (9, fX9 q (up f 0 0))), (q 6, aI (d 0) 6 M6), (q 47, aI (d 0) 1000 (uI H x ((H (x - (M6 y))) + 1)))]) (pc := 173) C dX9_cut_173 2 rfl (by omega) (by omega) (Nat.le_of_ble_eq_true rfl) rfl ?_
                            refine V_iinc (lv' := [(6, .int (iI (y + 1))), (7, .int (iI 1)), (5, .int (iI x)), (4, .int (iI z)), (0, .ref o), (1, .int (iI t)), (2, .int (iI m)), (3, .int (iI w))]) (pc := 174) C dX9_cut_174 1 rfl (by decide) rfl ?_
                            refine V_goto (pc := 177) 71 C dX9_cut_177 (by decide) ?_
                            exact V_sub [0, 2, 3, 4, 5, 6, 7] rfl (ih71 (y + 1) (uI H x ((H (x - (M6 y))) + 1)) (by omega) (step_uI hH (by rw [twI_s hy.1]; unfold bitI; (repeat' split) <;> omega)) (by omega))
              exact V_sub [0, 1, 2, 3, 4, 5, 6] rfl (L71 ((f 4 - 0).toNat + 1) 0 (uI G x 0) (by omega) (by show uI G x _ = uI G x (if x = 0 then 0 else 99999); (repeat' split) <;> first | rfl | omega) (Nat.lt_succ_self _))
      exact V_sub [0, 1, 2, 3, 4, 5] rfl (L44 ((t + 1 - 0).toNat + 1) 0 0 M47 (by omega) (rfl) (rfl) (Nat.lt_succ_self _))
    · refine V_bipush (pc := 35) C dX9_cut_35 rfl ?_
      exact V_iret (pc := 37) C Z dX9_cut_37 (-2, M47) (⟨by unfold pCutM; (try dsimp only); (repeat' split) <;> first | rfl | omega, by first | exact hM47 | exact Gb⟩) (ri (by rfl)) rfl
