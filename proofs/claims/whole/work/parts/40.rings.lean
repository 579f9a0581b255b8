set_option maxRecDepth 100000 in
set_option maxHeartbeats 4000000 in
theorem c_X0_follows (l : Launch) (D : va_G) (d : Nat → ClassId) (o : Nat) (q : Nat → Nat) (f : Nat → Int) (E0 : Int → Int) (E1 : Int → Int) (a : Int) (b : Int) (hE0 : bd E0 0 2) (hE1 : bd E1 0 2) (ha : 0 ≤ a ∧ a < 8) (hb : 0 ≤ b ∧ b < 8) : CU l yX0_follows cX0_follows 3 (some .boolean) 0 0 D d [.ref o, .int (iI a), .int (iI b)] [(o, .inr (0, fX0 q f)), (q 0, aI (d 0) 8 E0), (q 1, aI (d 0) 8 E1)] (fun (_ : Unit) => True) (fun (_ : Unit) => some (.int (iI (bI (E1 a = E0 b))))) (fun (_ : Unit) => [(o, .inr (0, fX0 q f)), (q 0, aI (d 0) 8 E0), (q 1, aI (d 0) 8 E1)]) := by
  refine CU.mk (own := RX0) (lv := [(0, .ref o), (1, .int (iI a)), (2, .int (iI b))]) rfl (by decide) (Nat.le_of_ble_eq_true rfl) rfl ?_
  intro p9 e9 R9 s9 m9 args9 below9 meth9 c9 A9 Q9 hRf hRl C Z
  refine V_aload_n (pc := 0) C dX0_follows_0 rfl 0 rfl ?_
  refine gf_X0_15 (x := q 1) (pc := 1) C dX0_follows_1 0 rfl rfl ?_
  refine V_iload_n (pc := 4) C dX0_follows_4 rfl 1 rfl ?_
  refine V_iald (f := E1) (pc := 5) C dX0_follows_5 2 rfl (by omega) (by omega) (Nat.le_of_ble_eq_true rfl) ?_
  have b5 := hE1 a
  refine V_aload_n (pc := 6) C dX0_follows_6 rfl 0 rfl ?_
  refine gf_X0_9 (x := q 0) (pc := 7) C dX0_follows_7 0 rfl rfl ?_
  refine V_iload_n (pc := 10) C dX0_follows_10 rfl 2 rfl ?_
  refine V_iald (f := E0) (pc := 11) C dX0_follows_11 1 rfl (by omega) (by omega) (Nat.le_of_ble_eq_true rfl) ?_
  have b11 := hE0 b
  refine V_icmp_ne (pc := 12) 19 C dX0_follows_12 (by decide) (sm_i (by omega)) (sm_i (by omega)) (fun c12 => ?_) (fun c12 => ?_)
  · refine V_iconst (pc := 19) C dX0_follows_19 ?_
    exact V_zret (pc := 20) C Z dX0_follows_20 (Or.inl rfl) () trivial (ri (by first | rfl | omega | exact bI_t (by omega) | exact bI_f (by omega))) rfl
  · refine V_iconst (pc := 15) C dX0_follows_15 ?_
    refine V_goto (pc := 16) 20 C dX0_follows_16 (by decide) ?_
    exact V_zret (pc := 20) C Z dX0_follows_20 (Or.inr rfl) () trivial (ri (by first | rfl | omega | exact bI_t (by omega) | exact bI_f (by omega))) rfl
set_option maxRecDepth 100000 in
set_option maxHeartbeats 4000000 in
theorem c_X0_got (l : Launch) (D : va_G) (d : Nat → ClassId) (o : Nat) (q : Nat → Nat) (f : Nat → Int) (E1 : Int → Int) (E3 : Int → Int) (a : Int) (w : Int) (hE1 : bd E1 0 2) (hE3 : bd E3 0 9) (ha : 0 ≤ a ∧ a < 8) (hw : 0 ≤ w ∧ w ≤ 99) : CU l yX0_got cX0_got 3 (some .long) 0 0 D d [.ref o, .int (iI a), .int (iI w)] [(o, .inr (0, fX0 q f)), (q 1, aI (d 0) 8 E1), (q 3, aI (d 0) 8 E3)] (fun (_ : Unit) => True) (fun (_ : Unit) => some (.long (lI (gotE E1 E3 w a)))) (fun (_ : Unit) => [(o, .inr (0, fX0 q f)), (q 1, aI (d 0) 8 E1), (q 3, aI (d 0) 8 E3)]) := by
  refine CU.mk (own := RX0) (lv := [(0, .ref o), (1, .int (iI a)), (2, .int (iI w))]) rfl (by decide) (Nat.le_of_ble_eq_true rfl) rfl ?_
  intro p9 e9 R9 s9 m9 args9 below9 meth9 c9 A9 Q9 hRf hRl C Z
  refine V_aload_n (pc := 0) C dX0_got_0 rfl 0 rfl ?_
  refine gf_X0_15 (x := q 1) (pc := 1) C dX0_got_1 0 rfl rfl ?_
  refine V_iload_n (pc := 4) C dX0_got_4 rfl 1 rfl ?_
  refine V_iald (f := E1) (pc := 5) C dX0_got_5 1 rfl (by omega) (by omega) (Nat.le_of_ble_eq_true rfl) ?_
  have b5 := hE1 a
  refine V_if_ne (pc := 6) 19 C dX0_got_6 (by decide) (sm_i (by omega)) (fun c6 => ?_) (fun c6 => ?_)
  · refine V_aload_n (pc := 19) C dX0_got_19 rfl 0 rfl ?_
    refine gf_X0_21 (x := q 3) (pc := 20) C dX0_got_20 0 rfl rfl ?_
    refine V_iload_n (pc := 23) C dX0_got_23 rfl 1 rfl ?_
    refine V_iald (f := E3) (pc := 24) C dX0_got_24 2 rfl (by omega) (by omega) (Nat.le_of_ble_eq_true rfl) ?_
    have b24 := hE3 a
    refine V_iload_n (pc := 25) C dX0_got_25 rfl 2 rfl ?_
    refine V_imul (pc := 26) C dX0_got_26 ?_
    have m27 := mulb b24 hw
    refine V_i2l (pc := 27) C dX0_got_27 (sm_i (by omega)) ?_
    exact V_lret (pc := 28) C Z dX0_got_28 () trivial (rl (by unfold gotE; split <;> omega)) rfl
  · refine V_aload_n (pc := 9) C dX0_got_9 rfl 0 rfl ?_
    refine gf_X0_21 (x := q 3) (pc := 10) C dX0_got_10 0 rfl rfl ?_
    refine V_iload_n (pc := 13) C dX0_got_13 rfl 1 rfl ?_
    refine V_iald (f := E3) (pc := 14) C dX0_got_14 2 rfl (by omega) (by omega) (Nat.le_of_ble_eq_true rfl) ?_
    have b14 := hE3 a
    refine V_i2l (pc := 15) C dX0_got_15 (sm_i (by omega)) ?_
    refine V_goto (pc := 16) 28 C dX0_got_16 (by decide) ?_
    exact V_lret (pc := 28) C Z dX0_got_28 () trivial (rl (by unfold gotE; split <;> omega)) rfl
set_option maxRecDepth 100000 in
set_option maxHeartbeats 4000000 in
theorem c_X0_paid (l : Launch) (D : va_G) (d : Nat → ClassId) (o : Nat) (q : Nat → Nat) (f : Nat → Int) (E0 : Int → Int) (E2 : Int → Int) (E4 : Int → Int) (a : Int) (hE0 : bd E0 0 2) (hE2 : bd E2 0 9) (hE4 : bd E4 0 99) (ha : 0 ≤ a ∧ a < 8) : CU l yX0_paid cX0_paid 2 (some .long) 0 0 D d [.ref o, .int (iI a)] [(o, .inr (0, fX0 q f)), (q 0, aI (d 0) 8 E0), (q 2, aI (d 0) 8 E2), (q 4, aI (d 0) 8 E4)] (fun (_ : Unit) => True) (fun (_ : Unit) => some (.long (lI (paidE E0 E2 E4 a)))) (fun (_ : Unit) => [(o, .inr (0, fX0 q f)), (q 0, aI (d 0) 8 E0), (q 2, aI (d 0) 8 E2), (q 4, aI (d 0) 8 E4)]) := by
  refine CU.mk (own := RX0) (lv := [(0, .ref o), (1, .int (iI a))]) rfl (by decide) (Nat.le_of_ble_eq_true rfl) rfl ?_
  intro p9 e9 R9 s9 m9 args9 below9 meth9 c9 A9 Q9 hRf hRl C Z
  refine V_aload_n (pc := 0) C dX0_paid_0 rfl 0 rfl ?_
  refine gf_X0_9 (x := q 0) (pc := 1) C dX0_paid_1 0 rfl rfl ?_
  refine V_iload_n (pc := 4) C dX0_paid_4 rfl 1 rfl ?_
  refine V_iald (f := E0) (pc := 5) C dX0_paid_5 1 rfl (by omega) (by omega) (Nat.le_of_ble_eq_true rfl) ?_
  have b5 := hE0 a
  refine V_if_ne (pc := 6) 19 C dX0_paid_6 (by decide) (sm_i (by omega)) (fun c6 => ?_) (fun c6 => ?_)
  · refine V_aload_n (pc := 19) C dX0_paid_19 rfl 0 rfl ?_
    refine gf_X0_18 (x := q 2) (pc := 20) C dX0_paid_20 0 rfl rfl ?_
    refine V_iload_n (pc := 23) C dX0_paid_23 rfl 1 rfl ?_
    refine V_iald (f := E2) (pc := 24) C dX0_paid_24 2 rfl (by omega) (by omega) (Nat.le_of_ble_eq_true rfl) ?_
    have b24 := hE2 a
    refine V_aload_n (pc := 25) C dX0_paid_25 rfl 0 rfl ?_
    refine gf_X0_24 (x := q 4) (pc := 26) C dX0_paid_26 0 rfl rfl ?_
    refine V_iload_n (pc := 29) C dX0_paid_29 rfl 1 rfl ?_
    refine V_iald (f := E4) (pc := 30) C dX0_paid_30 3 rfl (by omega) (by omega) (Nat.le_of_ble_eq_true rfl) ?_
    have b30 := hE4 a
    refine V_imul (pc := 31) C dX0_paid_31 ?_
    have m27 := mulb b24 b30
    refine V_i2l (pc := 32) C dX0_paid_32 (sm_i (by omega)) ?_
    exact V_lret (pc := 33) C Z dX0_paid_33 () trivial (rl (by unfold paidE; split <;> omega)) rfl
  · refine V_aload_n (pc := 9) C dX0_paid_9 rfl 0 rfl ?_
    refine gf_X0_18 (x := q 2) (pc := 10) C dX0_paid_10 0 rfl rfl ?_
    refine V_iload_n (pc := 13) C dX0_paid_13 rfl 1 rfl ?_
    refine V_iald (f := E2) (pc := 14) C dX0_paid_14 2 rfl (by omega) (by omega) (Nat.le_of_ble_eq_true rfl) ?_
    have b14 := hE2 a
    refine V_i2l (pc := 15) C dX0_paid_15 (sm_i (by omega)) ?_
    refine V_goto (pc := 16) 33 C dX0_paid_16 (by decide) ?_
    exact V_lret (pc := 33) C Z dX0_paid_33 () trivial (rl (by unfold paidE; split <;> omega)) rfl
set_option maxRecDepth 100000 in
set_option maxHeartbeats 4000000 in
theorem c_X0_offer (l : Launch) (D : va_G) (d : Nat → ClassId) (o : Nat) (q : Nat → Nat) (f : Nat → Int) (E0 : Int → Int) (E1 : Int → Int) (E2 : Int → Int) (E3 : Int → Int) (E4 : Int → Int) (E6 : Int → Int) (n : Int) (a : Int) (b : Int) (z : Int) (w : Int) (hE0 : bd E0 0 2) (hE1 : bd E1 0 2) (hE2 : bd E2 0 9) (hE3 : bd E3 0 9) (hE4 : bd E4 0 99) (h5 : 0 ≤ f 5 ∧ f 5 ≤ 8) (h8 : 0 ≤ f 8 ∧ f 8 ≤ 1000000000) (h9 : 1 ≤ f 9 ∧ f 9 ≤ 1000000000) (hp1 : ∀ j : Int, 0 ≤ j ∧ j < f 5 → 1 ≤ paidE E0 E2 E4 j) (ha : 0 ≤ a ∧ a < f 5) (hb : 0 ≤ b ∧ b < f 5) (hz : 0 ≤ z ∧ z < f 5) (hw : 0 ≤ w ∧ w ≤ 99) (hn : n = 2 ∨ n = 3) : CU l yX0_offer cX0_offer 10 none 1 22 D d [.ref o, .int (iI n), .int (iI a), .int (iI b), .int (iI z), .int (iI w)] [(o, .inr (0, fX0 q f)), (q 0, aI (d 0) 8 E0), (q 1, aI (d 0) 8 E1), (q 2, aI (d 0) 8 E2), (q 3, aI (d 0) 8 E3), (q 4, aI (d 0) 8 E4), (q 6, aI (d 0) 3 E6)] (fun (u : (Nat → Int) × (Int → Int)) => u.1 5 = f 5 ∧ (0 ≤ u.1 8 ∧ u.1 8 ≤ 1000000000) ∧ (1 ≤ u.1 9 ∧ u.1 9 ≤ 1000000000) ∧ ∀ s : RS, stR s f E6 → stR (offB n a b z (if n = 3 then (gotE E1 E3 w) a * (gotE E1 E3 w) b * (gotE E1 E3 w) z else (gotE E1 E3 w) a * (gotE E1 E3 w) b) (if n = 3 then (paidE E0 E2 E4) a * (paidE E0 E2 E4) b * (paidE E0 E2 E4) z else (paidE E0 E2 E4) a * (paidE E0 E2 E4) b) s) u.1 u.2) (fun (u : (Nat → Int) × (Int → Int)) => none) (fun (u : (Nat → Int) × (Int → Int)) => [(o, .inr (0, fX0 q u.1)), (q 0, aI (d 0) 8 E0), (q 1, aI (d 0) 8 E1), (q 2, aI (d 0) 8 E2), (q 3, aI (d 0) 8 E3), (q 4, aI (d 0) 8 E4), (q 6, aI (d 0) 3 u.2)]) := by
  refine CU.mk (own := RX0) (lv := [(0, .ref o), (1, .int (iI n)), (2, .int (iI a)), (3, .int (iI b)), (4, .int (iI z)), (5, .int (iI w))]) rfl (by decide) (Nat.le_of_ble_eq_true rfl) rfl ?_
  intro p9 e9 R9 s9 m9 args9 below9 meth9 c9 A9 Q9 hRf hRl C Z
  have gb := gotE_b (T := E1) hE3 hw
  have pb := paidE_b (F := E0) hE2 hE4
  have k2a := pr2_b gb a b
  have k2b := pr2_b pb a b
  have k3a := pr3_b gb a b z
  have k3b := pr3_b pb a b z
  have q1 := hp1 a ha
  have q2 := hp1 b hb
  have q3 := hp1 z hz
  have q4 := Int.mul_pos (show 0 < paidE E0 E2 E4 a by omega) (show 0 < paidE E0 E2 E4 b by omega)
  have q5 := Int.mul_pos q4 (show 0 < paidE E0 E2 E4 z by omega)
  refine V_aload_n (pc := 0) C dX0_offer_0 rfl 0 rfl ?_
  refine V_iload_n (pc := 1) C dX0_offer_1 rfl 2 rfl ?_
  refine V_iload (pc := 2) C dX0_offer_2 5 rfl ?_
  refine cv_X0_56 (pc := 4) (rest := []) (wn := fun _ => [(o, .inr (0, fX0 q f)), (q 0, aI (d 0) 8 E0), (q 1, aI (d 0) 8 E1), (q 2, aI (d 0) 8 E2), (q 3, aI (d 0) 8 E3), (q 4, aI (d 0) 8 E4), (q 6, aI (d 0) 3 E6)]) (sn := fun _ => [.long (lI (gotE E1 E3 w a))]) C dX0_offer_4 (c_X0_got l D d o q f E1 E3 a w hE1 hE3 (show 0 ≤ a ∧ a < 8 by omega) hw) [0, 2, 4] rfl rfl 0 rfl rfl rfl (Nat.le_of_ble_eq_true rfl) ⟨by omega, by omega⟩ ⟨Nat.zero_le _, Nat.zero_le _⟩ (fun _ => rfl) (fun _ => rfl) (fun _ => rfl) ?_
  intro _ _
  refine V_aload_n (pc := 7) C dX0_offer_7 rfl 0 rfl ?_
  refine V_iload_n (pc := 8) C dX0_offer_8 rfl 3 rfl ?_
  refine V_iload (pc := 9) C dX0_offer_9 5 rfl ?_
  refine cv_X0_56 (pc := 11) (rest := [.long (lI (gotE E1 E3 w a))]) (wn := fun _ => [(o, .inr (0, fX0 q f)), (q 0, aI (d 0) 8 E0), (q 1, aI (d 0) 8 E1), (q 2, aI (d 0) 8 E2), (q 3, aI (d 0) 8 E3), (q 4, aI (d 0) 8 E4), (q 6, aI (d 0) 3 E6)]) (sn := fun _ => [.long (lI (gotE E1 E3 w b)), .long (lI (gotE E1 E3 w a))]) C dX0_offer_11 (c_X0_got l D d o q f E1 E3 b w hE1 hE3 (show 0 ≤ b ∧ b < 8 by omega) hw) [0, 2, 4] rfl rfl 0 rfl rfl rfl (Nat.le_of_ble_eq_true rfl) ⟨by omega, by omega⟩ ⟨Nat.zero_le _, Nat.zero_le _⟩ (fun _ => rfl) (fun _ => rfl) (fun _ => rfl) ?_
  intro _ _
  refine V_lmul (pc := 14) C dX0_offer_14 ?_
  refine V_lstore (lv' := [(6, .long (lI ((gotE E1 E3 w a) * (gotE E1 E3 w b)))), (0, .ref o), (1, .int (iI n)), (2, .int (iI a)), (3, .int (iI b)), (4, .int (iI z)), (5, .int (iI w))]) (pc := 15) C dX0_offer_15 (by decide) rfl ?_
  refine V_aload_n (pc := 17) C dX0_offer_17 rfl 1 rfl ?_
  refine V_iload_n (pc := 18) C dX0_offer_18 rfl 3 rfl ?_
  refine cv_X0_60 (pc := 19) (rest := []) (wn := fun _ => [(o, .inr (0, fX0 q f)), (q 0, aI (d 0) 8 E0), (q 1, aI (d 0) 8 E1), (q 2, aI (d 0) 8 E2), (q 3, aI (d 0) 8 E3), (q 4, aI (d 0) 8 E4), (q 6, aI (d 0) 3 E6)]) (sn := fun _ => [.long (lI (paidE E0 E2 E4 a))]) C dX0_offer_19 (c_X0_paid l D d o q f E0 E2 E4 a hE0 hE2 hE4 (show 0 ≤ a ∧ a < 8 by omega)) [0, 1, 3, 5] rfl rfl 0 rfl rfl rfl (Nat.le_of_ble_eq_true rfl) ⟨by omega, by omega⟩ ⟨Nat.zero_le _, Nat.zero_le _⟩ (fun _ => rfl) (fun _ => rfl) (fun _ => rfl) ?_
  intro _ _
  refine V_aload_n (pc := 22) C dX0_offer_22 rfl 1 rfl ?_
  refine V_iload_n (pc := 23) C dX0_offer_23 rfl 4 rfl ?_
  refine cv_X0_60 (pc := 24) (rest := [.long (lI (paidE E0 E2 E4 a))]) (wn := fun _ => [(o, .inr (0, fX0 q f)), (q 0, aI (d 0) 8 E0), (q 1, aI (d 0) 8 E1), (q 2, aI (d 0) 8 E2), (q 3, aI (d 0) 8 E3), (q 4, aI (d 0) 8 E4), (q 6, aI (d 0) 3 E6)]) (sn := fun _ => [.long (lI (paidE E0 E2 E4 b)), .long (lI (paidE E0 E2 E4 a))]) C dX0_offer_24 (c_X0_paid l D d o q f E0 E2 E4 b hE0 hE2 hE4 (show 0 ≤ b ∧ b < 8 by omega)) [0, 1, 3, 5] rfl rfl 0 rfl rfl rfl (Nat.le_of_ble_eq_true rfl) ⟨by omega, by omega⟩ ⟨Nat.zero_le _, Nat.zero_le _⟩ (fun _ => rfl) (fun _ => rfl) (fun _ => rfl) ?_
  intro _ _
  refine V_lmul (pc := 27) C dX0_offer_27 ?_
  refine V_lstore (lv' := [(8, .long (lI ((paidE E0 E2 E4 a) * (paidE E0 E2 E4 b)))), (6, .long (lI ((gotE E1 E3 w a) * (gotE E1 E3 w b)))), (0, .ref o), (1, .int (iI n)), (2, .int (iI a)), (3, .int (iI b)), (4, .int (iI z)), (5, .int (iI w))]) (pc := 28) C dX0_offer_28 (by decide) rfl ?_
  refine V_iload_n (pc := 30) C dX0_offer_30 rfl 3 rfl ?_
  refine V_iconst (pc := 31) C dX0_offer_31 ?_
  refine V_icmp_ne (pc := 32) 59 C dX0_offer_32 (by decide) (sm_i (by omega)) (sm_i (by decide)) (fun c32 => ?_) (fun c32 => ?_)
  · refine V_lload (pc := 59) C dX0_offer_59 1 rfl ?_
    refine V_aload_n (pc := 61) C dX0_offer_61 rfl 2 rfl ?_
    refine gf_X0_41 (x := f 9) (pc := 62) C dX0_offer_62 0 rfl rfl ?_
    refine V_lmul (pc := 65) C dX0_offer_65 ?_
    refine V_aload_n (pc := 66) C dX0_offer_66 rfl 2 rfl ?_
    refine gf_X0_37 (x := f 8) (pc := 67) C dX0_offer_67 0 rfl rfl ?_
    refine V_lload (pc := 70) C dX0_offer_70 0 rfl ?_
    refine V_lmul (pc := 72) C dX0_offer_72 ?_
    have m1 := mulb (show 0 ≤ (gotE E1 E3 w a) * (gotE E1 E3 w b) ∧ (gotE E1 E3 w a) * (gotE E1 E3 w b) ≤ 707347971 by omega) (show 0 ≤ f 9 ∧ f 9 ≤ 1000000000 by omega)
    have m2 := mulb h8 (show 0 ≤ (paidE E0 E2 E4 a) * (paidE E0 E2 E4 b) ∧ (paidE E0 E2 E4 a) * (paidE E0 E2 E4 b) ≤ 707347971 by omega)
    refine V_lcmp (pc := 73) C dX0_offer_73 (sL_i (by omega)) (sL_i (by omega)) ?_
    refine V_ifc_le (pc := 74) 116 C dX0_offer_74 (by decide) (fun c74 => ?_) (fun c74 => ?_)
    · exact V_vret (pc := 116) C Z dX0_offer_116 (f, E6) (⟨rfl, by (try dsimp only [up]); (try simp); omega, by (try dsimp only [up]); (try simp); omega, fun s hs => by first | (rw [if_pos (show n = 3 by omega), if_pos (show n = 3 by omega)]; first | exact (off_R hs (by omega)).1 (by omega) | exact (off_R hs (by omega)).2 (by omega)) | (rw [if_neg (show ¬ n = 3 by omega), if_neg (show ¬ n = 3 by omega)]; first | exact (off_R hs (by omega)).1 (by omega) | exact (off_R hs (by omega)).2 (by omega))⟩) rfl rfl
    · refine V_aload_n (pc := 77) C dX0_offer_77 rfl 2 rfl ?_
      refine V_iload_n (pc := 78) C dX0_offer_78 rfl 3 rfl ?_
      refine pf_X0_34 (ws' := [(o, .inr (0, fX0 q (up f 7 n))), (q 0, aI (d 0) 8 E0), (q 1, aI (d 0) 8 E1), (q 2, aI (d 0) 8 E2), (q 3, aI (d 0) 8 E3), (q 4, aI (d 0) 8 E4), (q 6, aI (d 0) 3 E6)]) (pc := 79) C dX0_offer_79 0 rfl rfl ?_
      refine V_aload_n (pc := 82) C dX0_offer_82 rfl 2 rfl ?_
      refine gf_X0_27 (x := q 6) (pc := 83) C dX0_offer_83 0 rfl rfl ?_
      refine V_iconst (pc := 86) C dX0_offer_86 ?_
      refine V_iload_n (pc := 87) C dX0_offer_87 rfl 4 rfl ?_
      refine V_iast (f := E6) (ws' := [(o, .inr (0, fX0 q (up f 7 n))), (q 0, aI (d 0) 8 E0), (q 1, aI (d 0) 8 E1), (q 2, aI (d 0) 8 E2), (q 3, aI (d 0) 8 E3), (q 4, aI (d 0) 8 E4), (q 6, aI (d 0) 3 (uI E6 0 a))]) (pc := 88) C dX0_offer_88 6 rfl (by omega) (by omega) (Nat.le_of_ble_eq_true rfl) rfl ?_
      refine V_aload_n (pc := 89) C dX0_offer_89 rfl 2 rfl ?_
      refine gf_X0_27 (x := q 6) (pc := 90) C dX0_offer_90 0 rfl rfl ?_
      refine V_iconst (pc := 93) C dX0_offer_93 ?_
      refine V_iload_n (pc := 94) C dX0_offer_94 rfl 5 rfl ?_
      refine V_iast (f := uI E6 0 a) (ws' := [(o, .inr (0, fX0 q (up f 7 n))), (q 0, aI (d 0) 8 E0), (q 1, aI (d 0) 8 E1), (q 2, aI (d 0) 8 E2), (q 3, aI (d 0) 8 E3), (q 4, aI (d 0) 8 E4), (q 6, aI (d 0) 3 (uI (uI E6 0 a) 1 b))]) (pc := 95) C dX0_offer_95 6 rfl (by omega) (by omega) (Nat.le_of_ble_eq_true rfl) rfl ?_
      refine V_aload_n (pc := 96) C dX0_offer_96 rfl 2 rfl ?_
      refine gf_X0_27 (x := q 6) (pc := 97) C dX0_offer_97 0 rfl rfl ?_
      refine V_iconst (pc := 100) C dX0_offer_100 ?_
      refine V_iload (pc := 101) C dX0_offer_101 6 rfl ?_
      refine V_iast (f := uI (uI E6 0 a) 1 b) (ws' := [(o, .inr (0, fX0 q (up f 7 n))), (q 0, aI (d 0) 8 E0), (q 1, aI (d 0) 8 E1), (q 2, aI (d 0) 8 E2), (q 3, aI (d 0) 8 E3), (q 4, aI (d 0) 8 E4), (q 6, aI (d 0) 3 (uI (uI (uI E6 0 a) 1 b) 2 z))]) (pc := 103) C dX0_offer_103 6 rfl (by omega) (by omega) (Nat.le_of_ble_eq_true rfl) rfl ?_
      refine V_aload_n (pc := 104) C dX0_offer_104 rfl 2 rfl ?_
      refine V_lload (pc := 105) C dX0_offer_105 1 rfl ?_
      refine pf_X0_37 (ws' := [(o, .inr (0, fX0 q (up (up f 7 n) 8 ((gotE E1 E3 w a) * (gotE E1 E3 w b))))), (q 0, aI (d 0) 8 E0), (q 1, aI (d 0) 8 E1), (q 2, aI (d 0) 8 E2), (q 3, aI (d 0) 8 E3), (q 4, aI (d 0) 8 E4), (q 6, aI (d 0) 3 (uI (uI (uI E6 0 a) 1 b) 2 z))]) (pc := 107) C dX0_offer_107 0 rfl rfl ?_
      refine V_aload_n (pc := 110) C dX0_offer_110 rfl 2 rfl ?_
      refine V_lload (pc := 111) C dX0_offer_111 0 rfl ?_
      refine pf_X0_41 (ws' := [(o, .inr (0, fX0 q (up (up (up f 7 n) 8 ((gotE E1 E3 w a) * (gotE E1 E3 w b))) 9 ((paidE E0 E2 E4 a) * (paidE E0 E2 E4 b))))), (q 0, aI (d 0) 8 E0), (q 1, aI (d 0) 8 E1), (q 2, aI (d 0) 8 E2), (q 3, aI (d 0) 8 E3), (q 4, aI (d 0) 8 E4), (q 6, aI (d 0) 3 (uI (uI (uI E6 0 a) 1 b) 2 z))]) (pc := 113) C dX0_offer_113 0 rfl rfl ?_
      exact V_vret (pc := 116) C Z dX0_offer_116 ((up (up (up f 7 n) 8 ((gotE E1 E3 w a) * (gotE E1 E3 w b))) 9 ((paidE E0 E2 E4 a) * (paidE E0 E2 E4 b))), uI (uI (uI E6 0 a) 1 b) 2 z) (⟨rfl, by (try dsimp only [up]); (try simp); omega, by (try dsimp only [up]); (try simp); omega, fun s hs => by first | (rw [if_pos (show n = 3 by omega), if_pos (show n = 3 by omega)]; first | exact (off_R hs (by omega)).1 (by omega) | exact (off_R hs (by omega)).2 (by omega)) | (rw [if_neg (show ¬ n = 3 by omega), if_neg (show ¬ n = 3 by omega)]; first | exact (off_R hs (by omega)).1 (by omega) | exact (off_R hs (by omega)).2 (by omega))⟩) rfl rfl
  · refine V_lload (pc := 35) C dX0_offer_35 1 rfl ?_
    refine V_aload_n (pc := 37) C dX0_offer_37 rfl 2 rfl ?_
    refine V_iload (pc := 38) C dX0_offer_38 6 rfl ?_
    refine V_iload (pc := 40) C dX0_offer_40 7 rfl ?_
    refine cv_X0_56 (pc := 42) (rest := [.long (lI ((gotE E1 E3 w a) * (gotE E1 E3 w b)))]) (wn := fun _ => [(o, .inr (0, fX0 q f)), (q 0, aI (d 0) 8 E0), (q 1, aI (d 0) 8 E1), (q 2, aI (d 0) 8 E2), (q 3, aI (d 0) 8 E3), (q 4, aI (d 0) 8 E4), (q 6, aI (d 0) 3 E6)]) (sn := fun _ => [.long (lI (gotE E1 E3 w z)), .long (lI ((gotE E1 E3 w a) * (gotE E1 E3 w b)))]) C dX0_offer_42 (c_X0_got l D d o q f E1 E3 z w hE1 hE3 (show 0 ≤ z ∧ z < 8 by omega) hw) [0, 2, 4] rfl rfl 0 rfl rfl rfl (Nat.le_of_ble_eq_true rfl) ⟨by omega, by omega⟩ ⟨Nat.zero_le _, Nat.zero_le _⟩ (fun _ => rfl) (fun _ => rfl) (fun _ => rfl) ?_
    intro _ _
    refine V_lmul (pc := 45) C dX0_offer_45 ?_
    refine V_lstore (lv' := [(6, .long (lI (((gotE E1 E3 w a) * (gotE E1 E3 w b)) * (gotE E1 E3 w z)))), (8, .long (lI ((paidE E0 E2 E4 a) * (paidE E0 E2 E4 b)))), (0, .ref o), (1, .int (iI n)), (2, .int (iI a)), (3, .int (iI b)), (4, .int (iI z)), (5, .int (iI w))]) (pc := 46) C dX0_offer_46 (by decide) rfl ?_
    refine V_lload (pc := 48) C dX0_offer_48 1 rfl ?_
    refine V_aload_n (pc := 50) C dX0_offer_50 rfl 2 rfl ?_
    refine V_iload (pc := 51) C dX0_offer_51 6 rfl ?_
    refine cv_X0_60 (pc := 53) (rest := [.long (lI ((paidE E0 E2 E4 a) * (paidE E0 E2 E4 b)))]) (wn := fun _ => [(o, .inr (0, fX0 q f)), (q 0, aI (d 0) 8 E0), (q 1, aI (d 0) 8 E1), (q 2, aI (d 0) 8 E2), (q 3, aI (d 0) 8 E3), (q 4, aI (d 0) 8 E4), (q 6, aI (d 0) 3 E6)]) (sn := fun _ => [.long (lI (paidE E0 E2 E4 z)), .long (lI ((paidE E0 E2 E4 a) * (paidE E0 E2 E4 b)))]) C dX0_offer_53 (c_X0_paid l D d o q f E0 E2 E4 z hE0 hE2 hE4 (show 0 ≤ z ∧ z < 8 by omega)) [0, 1, 3, 5] rfl rfl 0 rfl rfl rfl (Nat.le_of_ble_eq_true rfl) ⟨by omega, by omega⟩ ⟨Nat.zero_le _, Nat.zero_le _⟩ (fun _ => rfl) (fun _ => rfl) (fun _ => rfl) ?_
    intro _ _
    refine V_lmul (pc := 56) C dX0_offer_56 ?_
    refine V_lstore (lv' := [(8, .long (lI (((paidE E0 E2 E4 a) * (paidE E0 E2 E4 b)) * (paidE E0 E2 E4 z)))), (6, .long (lI (((gotE E1 E3 w a) * (gotE E1 E3 w b)) * (gotE E1 E3 w z)))), (0, .ref o), (1, .int (iI n)), (2, .int (iI a)), (3, .int (iI b)), (4, .int (iI z)), (5, .int (iI w))]) (pc := 57) C dX0_offer_57 (by decide) rfl ?_
    refine V_lload (pc := 59) C dX0_offer_59 1 rfl ?_
    refine V_aload_n (pc := 61) C dX0_offer_61 rfl 2 rfl ?_
    refine gf_X0_41 (x := f 9) (pc := 62) C dX0_offer_62 0 rfl rfl ?_
    refine V_lmul (pc := 65) C dX0_offer_65 ?_
    refine V_aload_n (pc := 66) C dX0_offer_66 rfl 2 rfl ?_
    refine gf_X0_37 (x := f 8) (pc := 67) C dX0_offer_67 0 rfl rfl ?_
    refine V_lload (pc := 70) C dX0_offer_70 0 rfl ?_
    refine V_lmul (pc := 72) C dX0_offer_72 ?_
    have m1 := mulb (show 0 ≤ ((gotE E1 E3 w a) * (gotE E1 E3 w b)) * (gotE E1 E3 w z) ∧ ((gotE E1 E3 w a) * (gotE E1 E3 w b)) * (gotE E1 E3 w z) ≤ 707347971 by omega) (show 0 ≤ f 9 ∧ f 9 ≤ 1000000000 by omega)
    have m2 := mulb h8 (show 0 ≤ ((paidE E0 E2 E4 a) * (paidE E0 E2 E4 b)) * (paidE E0 E2 E4 z) ∧ ((paidE E0 E2 E4 a) * (paidE E0 E2 E4 b)) * (paidE E0 E2 E4 z) ≤ 707347971 by omega)
    refine V_lcmp (pc := 73) C dX0_offer_73 (sL_i (by omega)) (sL_i (by omega)) ?_
    refine V_ifc_le (pc := 74) 116 C dX0_offer_74 (by decide) (fun c74 => ?_) (fun c74 => ?_)
    · exact V_vret (pc := 116) C Z dX0_offer_116 (f, E6) (⟨rfl, by (try dsimp only [up]); (try simp); omega, by (try dsimp only [up]); (try simp); omega, fun s hs => by first | (rw [if_pos (show n = 3 by omega), if_pos (show n = 3 by omega)]; first | exact (off_R hs (by omega)).1 (by omega) | exact (off_R hs (by omega)).2 (by omega)) | (rw [if_neg (show ¬ n = 3 by omega), if_neg (show ¬ n = 3 by omega)]; first | exact (off_R hs (by omega)).1 (by omega) | exact (off_R hs (by omega)).2 (by omega))⟩) rfl rfl
    · refine V_aload_n (pc := 77) C dX0_offer_77 rfl 2 rfl ?_
      refine V_iload_n (pc := 78) C dX0_offer_78 rfl 3 rfl ?_
      refine pf_X0_34 (ws' := [(o, .inr (0, fX0 q (up f 7 n))), (q 0, aI (d 0) 8 E0), (q 1, aI (d 0) 8 E1), (q 2, aI (d 0) 8 E2), (q 3, aI (d 0) 8 E3), (q 4, aI (d 0) 8 E4), (q 6, aI (d 0) 3 E6)]) (pc := 79) C dX0_offer_79 0 rfl rfl ?_
      refine V_aload_n (pc := 82) C dX0_offer_82 rfl 2 rfl ?_
      refine gf_X0_27 (x := q 6) (pc := 83) C dX0_offer_83 0 rfl rfl ?_
      refine V_iconst (pc := 86) C dX0_offer_86 ?_
      refine V_iload_n (pc := 87) C dX0_offer_87 rfl 4 rfl ?_
      refine V_iast (f := E6) (ws' := [(o, .inr (0, fX0 q (up f 7 n))), (q 0, aI (d 0) 8 E0), (q 1, aI (d 0) 8 E1), (q 2, aI (d 0) 8 E2), (q 3, aI (d 0) 8 E3), (q 4, aI (d 0) 8 E4), (q 6, aI (d 0) 3 (uI E6 0 a))]) (pc := 88) C dX0_offer_88 6 rfl (by omega) (by omega) (Nat.le_of_ble_eq_true rfl) rfl ?_
      refine V_aload_n (pc := 89) C dX0_offer_89 rfl 2 rfl ?_
      refine gf_X0_27 (x := q 6) (pc := 90) C dX0_offer_90 0 rfl rfl ?_
      refine V_iconst (pc := 93) C dX0_offer_93 ?_
      refine V_iload_n (pc := 94) C dX0_offer_94 rfl 5 rfl ?_
      refine V_iast (f := uI E6 0 a) (ws' := [(o, .inr (0, fX0 q (up f 7 n))), (q 0, aI (d 0) 8 E0), (q 1, aI (d 0) 8 E1), (q 2, aI (d 0) 8 E2), (q 3, aI (d 0) 8 E3), (q 4, aI (d 0) 8 E4), (q 6, aI (d 0) 3 (uI (uI E6 0 a) 1 b))]) (pc := 95) C dX0_offer_95 6 rfl (by omega) (by omega) (Nat.le_of_ble_eq_true rfl) rfl ?_
      refine V_aload_n (pc := 96) C dX0_offer_96 rfl 2 rfl ?_
      refine gf_X0_27 (x := q 6) (pc := 97) C dX0_offer_97 0 rfl rfl ?_
      refine V_iconst (pc := 100) C dX0_offer_100 ?_
      refine V_iload (pc := 101) C dX0_offer_101 6 rfl ?_
      refine V_iast (f := uI (uI E6 0 a) 1 b) (ws' := [(o, .inr (0, fX0 q (up f 7 n))), (q 0, aI (d 0) 8 E0), (q 1, aI (d 0) 8 E1), (q 2, aI (d 0) 8 E2), (q 3, aI (d 0) 8 E3), (q 4, aI (d 0) 8 E4), (q 6, aI (d 0) 3 (uI (uI (uI E6 0 a) 1 b) 2 z))]) (pc := 103) C dX0_offer_103 6 rfl (by omega) (by omega) (Nat.le_of_ble_eq_true rfl) rfl ?_
      refine V_aload_n (pc := 104) C dX0_offer_104 rfl 2 rfl ?_
      refine V_lload (pc := 105) C dX0_offer_105 1 rfl ?_
      refine pf_X0_37 (ws' := [(o, .inr (0, fX0 q (up (up f 7 n) 8 (((gotE E1 E3 w a) * (gotE E1 E3 w b)) * (gotE E1 E3 w z))))), (q 0, aI (d 0) 8 E0), (q 1, aI (d 0) 8 E1), (q 2, aI (d 0) 8 E2), (q 3, aI (d 0) 8 E3), (q 4, aI (d 0) 8 E4), (q 6, aI (d 0) 3 (uI (uI (uI E6 0 a) 1 b) 2 z))]) (pc := 107) C dX0_offer_107 0 rfl rfl ?_
      refine V_aload_n (pc := 110) C dX0_offer_110 rfl 2 rfl ?_
      refine V_lload (pc := 111) C dX0_offer_111 0 rfl ?_
      refine pf_X0_41 (ws' := [(o, .inr (0, fX0 q (up (up (up f 7 n) 8 (((gotE E1 E3 w a) * (gotE E1 E3 w b)) * (gotE E1 E3 w z))) 9 (((paidE E0 E2 E4 a) * (paidE E0 E2 E4 b)) * (paidE E0 E2 E4 z))))), (q 0, aI (d 0) 8 E0), (q 1, aI (d 0) 8 E1), (q 2, aI (d 0) 8 E2), (q 3, aI (d 0) 8 E3), (q 4, aI (d 0) 8 E4), (q 6, aI (d 0) 3 (uI (uI (uI E6 0 a) 1 b) 2 z))]) (pc := 113) C dX0_offer_113 0 rfl rfl ?_
      exact V_vret (pc := 116) C Z dX0_offer_116 ((up (up (up f 7 n) 8 (((gotE E1 E3 w a) * (gotE E1 E3 w b)) * (gotE E1 E3 w z))) 9 (((paidE E0 E2 E4 a) * (paidE E0 E2 E4 b)) * (paidE E0 E2 E4 z))), uI (uI (uI E6 0 a) 1 b) 2 z) (⟨rfl, by (try dsimp only [up]); (try simp); omega, by (try dsimp only [up]); (try simp); omega, fun s hs => by first | (rw [if_pos (show n = 3 by omega), if_pos (show n = 3 by omega)]; first | exact (off_R hs (by omega)).1 (by omega) | exact (off_R hs (by omega)).2 (by omega)) | (rw [if_neg (show ¬ n = 3 by omega), if_neg (show ¬ n = 3 by omega)]; first | exact (off_R hs (by omega)).1 (by omega) | exact (off_R hs (by omega)).2 (by omega))⟩) rfl rfl
set_option maxRecDepth 100000 in
set_option maxHeartbeats 4000000 in
theorem c_X0_seekThird (l : Launch) (D : va_G) (d : Nat → ClassId) (o : Nat) (q : Nat → Nat) (f : Nat → Int) (E0 : Int → Int) (E1 : Int → Int) (E2 : Int → Int) (E3 : Int → Int) (E4 : Int → Int) (E6 : Int → Int) (a : Int) (b : Int) (w : Int) (hE0 : bd E0 0 2) (hE1 : bd E1 0 2) (hE2 : bd E2 0 9) (hE3 : bd E3 0 9) (hE4 : bd E4 0 99) (h5 : 0 ≤ f 5 ∧ f 5 ≤ 8) (h8 : 0 ≤ f 8 ∧ f 8 ≤ 1000000000) (h9 : 1 ≤ f 9 ∧ f 9 ≤ 1000000000) (hp1 : ∀ j : Int, 0 ≤ j ∧ j < f 5 → 1 ≤ paidE E0 E2 E4 j) (ha : 0 ≤ a ∧ a < f 5) (hb : 0 ≤ b ∧ b < f 5) (hw : 0 ≤ w ∧ w ≤ 99) : CU l yX0_seekThird cX0_seekThird 5 none 2 51 D d [.ref o, .int (iI a), .int (iI b), .int (iI w)] [(o, .inr (0, fX0 q f)), (q 0, aI (d 0) 8 E0), (q 1, aI (d 0) 8 E1), (q 2, aI (d 0) 8 E2), (q 3, aI (d 0) 8 E3), (q 4, aI (d 0) 8 E4), (q 6, aI (d 0) 3 E6)] (fun (u : (Nat → Int) × (Int → Int)) => u.1 5 = f 5 ∧ (0 ≤ u.1 8 ∧ u.1 8 ≤ 1000000000) ∧ (1 ≤ u.1 9 ∧ u.1 9 ≤ 1000000000) ∧ ∀ s : RS, stR s f E6 → stR (foldI (fun k s => if E1 b = E0 k ∧ E1 k = E0 a then offB 3 a b k ((gotE E1 E3 w) a * (gotE E1 E3 w) b * (gotE E1 E3 w) k) ((paidE E0 E2 E4) a * (paidE E0 E2 E4) b * (paidE E0 E2 E4) k) s else s) (f 5).toNat s) u.1 u.2) (fun (u : (Nat → Int) × (Int → Int)) => none) (fun (u : (Nat → Int) × (Int → Int)) => [(o, .inr (0, fX0 q u.1)), (q 0, aI (d 0) 8 E0), (q 1, aI (d 0) 8 E1), (q 2, aI (d 0) 8 E2), (q 3, aI (d 0) 8 E3), (q 4, aI (d 0) 8 E4), (q 6, aI (d 0) 3 u.2)]) := by
  refine CU.mk (own := RX0) (lv := [(0, .ref o), (1, .int (iI a)), (2, .int (iI b)), (3, .int (iI w))]) rfl (by decide) (Nat.le_of_ble_eq_true rfl) rfl ?_
  intro p9 e9 R9 s9 m9 args9 below9 meth9 c9 A9 Q9 hRf hRl C Z
  refine V_iconst (pc := 0) C dX0_seekThird_0 ?_
  refine V_istore (lv' := [(4, .int (iI 0)), (0, .ref o), (1, .int (iI a)), (2, .int (iI b)), (3, .int (iI w))]) (pc := 1) C dX0_seekThird_1 (by decide) rfl ?_
  have L3 : ∀ (nn9 : Nat) (z : Int) (g : Nat → Int) (G : Int → Int), (0 ≤ z ∧ z ≤ f 5) → (g 5 = f 5) → (0 ≤ g 8 ∧ g 8 ≤ 1000000000) → (1 ≤ g 9 ∧ g 9 ≤ 1000000000) → (∀ s : RS, stR s f E6 → stR (foldI (fun k s => if E1 b = E0 k ∧ E1 k = E0 a then offB 3 a b k ((gotE E1 E3 w) a * (gotE E1 E3 w) b * (gotE E1 E3 w) k) ((paidE E0 E2 E4) a * (paidE E0 E2 E4) b * (paidE E0 E2 E4) k) s else s) z.toNat s) g G) → (f 5 - z).toNat < nn9 → V p9 l e9 R9 s9 m9 args9 below9 meth9 c9 A9 D Q9 5 0 0 [(o, .inr (0, fX0 q g)), (q 0, aI (d 0) 8 E0), (q 1, aI (d 0) 8 E1), (q 2, aI (d 0) 8 E2), (q 3, aI (d 0) 8 E3), (q 4, aI (d 0) 8 E4), (q 6, aI (d 0) 3 G)] [(4, .int (iI z)), (0, .ref o), (1, .int (iI a)), (2, .int (iI b)), (3, .int (iI w))] 3 [] := by
    intro nn9
    induction nn9 with
    | zero => intro _ _ _ _ _ _ _ _ hm3; exact absurd hm3 (Nat.not_lt_zero _)
    | succ nn9 ih3 =>
      intro z g G hz g5 g8 g9 hR hm3
      refine V_iload (pc := 3) C dX0_seekThird_3 0 rfl ?_
      refine V_aload_n (pc := 5) C dX0_seekThird_5 rfl 1 rfl ?_
      refine gf_X0_30 (x := g 5) (pc := 6) C dX0_seekThird_6 0 rfl rfl ?_
      refine V_icmp_ge (pc := 9) 48 C dX0_seekThird_9 (by decide) (sm_i (by omega)) (sm_i (by omega)) (fun c9 => ?_) (fun c9 => ?_)
      · exact V_vret (pc := 48) C Z dX0_seekThird_48 (g, G) (⟨by dsimp only; omega, by dsimp only; omega, by dsimp only; omega, fun s hs => by have h := hR s hs; rw [show z = f 5 by omega] at h; exact h⟩) rfl rfl
      · refine V_aload_n (pc := 12) C dX0_seekThird_12 rfl 1 rfl ?_
        refine V_iload_n (pc := 13) C dX0_seekThird_13 rfl 3 rfl ?_
        refine V_iload (pc := 14) C dX0_seekThird_14 0 rfl ?_
        refine cv_X0_44 (pc := 16) (rest := []) (wn := fun _ => [(o, .inr (0, fX0 q g)), (q 0, aI (d 0) 8 E0), (q 1, aI (d 0) 8 E1), (q 2, aI (d 0) 8 E2), (q 3, aI (d 0) 8 E3), (q 4, aI (d 0) 8 E4), (q 6, aI (d 0) 3 G)]) (sn := fun _ => [.int (iI (bI (E1 b = E0 z)))]) C dX0_seekThird_16 (c_X0_follows l D d o q g E0 E1 b z hE0 hE1 (show 0 ≤ b ∧ b < 8 by omega) (show 0 ≤ z ∧ z < 8 by omega)) [0, 1, 2] rfl rfl 0 rfl rfl rfl (Nat.le_of_ble_eq_true rfl) ⟨by omega, by omega⟩ ⟨Nat.zero_le _, Nat.zero_le _⟩ (fun _ => rfl) (fun _ => rfl) (fun _ => rfl) ?_
        intro _ _
        refine V_ifb_eq (pc := 19) 42 C dX0_seekThird_19 (by decide) (fun c19 => ?_) (fun c19 => ?_)
        · refine V_iinc (lv' := [(4, .int (iI (z + 1))), (0, .ref o), (1, .int (iI a)), (2, .int (iI b)), (3, .int (iI w))]) (pc := 42) C dX0_seekThird_42 0 rfl (by decide) rfl ?_
          refine V_goto (pc := 45) 3 C dX0_seekThird_45 (by decide) ?_
          exact V_sub [0, 1, 2, 3, 4] rfl (ih3 (z + 1) g G (by omega) (by omega) (by omega) (by omega) (fun s h => by rw [foldI_s _ hz.1]; show stR (if _ ∧ _ then _ else _) _ _; first | (rw [if_neg (fun q => c19 q.1)]; exact hR s h) | (rw [if_neg (fun q => c29 q.2)]; exact hR s h) | (rw [if_pos ⟨c19, c29⟩]; exact hu39 _ (hR s h))) (by omega))
        · refine V_aload_n (pc := 22) C dX0_seekThird_22 rfl 1 rfl ?_
          refine V_iload (pc := 23) C dX0_seekThird_23 0 rfl ?_
          refine V_iload_n (pc := 25) C dX0_seekThird_25 rfl 2 rfl ?_
          refine cv_X0_44 (pc := 26) (rest := []) (wn := fun _ => [(o, .inr (0, fX0 q g)), (q 0, aI (d 0) 8 E0), (q 1, aI (d 0) 8 E1), (q 2, aI (d 0) 8 E2), (q 3, aI (d 0) 8 E3), (q 4, aI (d 0) 8 E4), (q 6, aI (d 0) 3 G)]) (sn := fun _ => [.int (iI (bI (E1 z = E0 a)))]) C dX0_seekThird_26 (c_X0_follows l D d o q g E0 E1 z a hE0 hE1 (show 0 ≤ z ∧ z < 8 by omega) (show 0 ≤ a ∧ a < 8 by omega)) [0, 1, 2] rfl rfl 0 rfl rfl rfl (Nat.le_of_ble_eq_true rfl) ⟨by omega, by omega⟩ ⟨Nat.zero_le _, Nat.zero_le _⟩ (fun _ => rfl) (fun _ => rfl) (fun _ => rfl) ?_
          intro _ _
          refine V_ifb_eq (pc := 29) 42 C dX0_seekThird_29 (by decide) (fun c29 => ?_) (fun c29 => ?_)
          · refine V_iinc (lv' := [(4, .int (iI (z + 1))), (0, .ref o), (1, .int (iI a)), (2, .int (iI b)), (3, .int (iI w))]) (pc := 42) C dX0_seekThird_42 0 rfl (by decide) rfl ?_
            refine V_goto (pc := 45) 3 C dX0_seekThird_45 (by decide) ?_
            exact V_sub [0, 1, 2, 3, 4] rfl (ih3 (z + 1) g G (by omega) (by omega) (by omega) (by omega) (fun s h => by rw [foldI_s _ hz.1]; show stR (if _ ∧ _ then _ else _) _ _; first | (rw [if_neg (fun q => c19 q.1)]; exact hR s h) | (rw [if_neg (fun q => c29 q.2)]; exact hR s h) | (rw [if_pos ⟨c19, c29⟩]; exact hu39 _ (hR s h))) (by omega))
          · refine V_aload_n (pc := 32) C dX0_seekThird_32 rfl 1 rfl ?_
            refine V_iconst (pc := 33) C dX0_seekThird_33 ?_
            refine V_iload_n (pc := 34) C dX0_seekThird_34 rfl 2 rfl ?_
            refine V_iload_n (pc := 35) C dX0_seekThird_35 rfl 3 rfl ?_
            refine V_iload (pc := 36) C dX0_seekThird_36 0 rfl ?_
            refine V_iload_n (pc := 38) C dX0_seekThird_38 rfl 4 rfl ?_
            refine cv_X0_48 (pc := 39) (rest := []) (wn := fun u => [(o, .inr (0, fX0 q u.1)), (q 0, aI (d 0) 8 E0), (q 1, aI (d 0) 8 E1), (q 2, aI (d 0) 8 E2), (q 3, aI (d 0) 8 E3), (q 4, aI (d 0) 8 E4), (q 6, aI (d 0) 3 u.2)]) (sn := fun u => []) C dX0_seekThird_39 (c_X0_offer l D d o q g E0 E1 E2 E3 E4 G 3 a b z w hE0 hE1 hE2 hE3 hE4 (show 0 ≤ (g 5) ∧ (g 5) ≤ 8 by omega) g8 g9 (fun j hj => hp1 j (by omega)) (show 0 ≤ a ∧ a < (g 5) by omega) (show 0 ≤ b ∧ b < (g 5) by omega) (show 0 ≤ z ∧ z < (g 5) by omega) hw (show 3 = 2 ∨ 3 = 3 by omega)) [0, 1, 2, 3, 4, 5, 6] rfl rfl 0 rfl rfl rfl (Nat.le_of_ble_eq_true rfl) ⟨by omega, by omega⟩ ⟨Nat.zero_le _, Nat.zero_le _⟩ (fun u => rfl) (fun u => rfl) (fun u => rfl) ?_
            rintro ⟨g2, G2⟩ hu39
            dsimp only at hu39
            obtain ⟨hx5, hx8, hx9, hu39⟩ := hu39
            rw [if_pos (show (3 : Int) = 3 from rfl), if_pos (show (3 : Int) = 3 from rfl)] at hu39
            refine V_iinc (lv' := [(4, .int (iI (z + 1))), (0, .ref o), (1, .int (iI a)), (2, .int (iI b)), (3, .int (iI w))]) (pc := 42) C dX0_seekThird_42 0 rfl (by decide) rfl ?_
            refine V_goto (pc := 45) 3 C dX0_seekThird_45 (by decide) ?_
            exact V_sub [0, 1, 2, 3, 4] rfl (ih3 (z + 1) g2 G2 (by omega) (by omega) (by omega) (by omega) (fun s h => by rw [foldI_s _ hz.1]; show stR (if _ ∧ _ then _ else _) _ _; first | (rw [if_neg (fun q => c19 q.1)]; exact hR s h) | (rw [if_neg (fun q => c29 q.2)]; exact hR s h) | (rw [if_pos ⟨c19, c29⟩]; exact hu39 _ (hR s h))) (by omega))
  exact V_sub [0, 1, 2, 3, 4] rfl (L3 ((f 5 - 0).toNat + 1) 0 f E6 (by omega) (rfl) (by omega) (by omega) (fun s h => h) (Nat.lt_succ_self _))
set_option maxRecDepth 100000 in
set_option maxHeartbeats 4000000 in
theorem c_X0_seekBest (l : Launch) (D : va_G) (d : Nat → ClassId) (o : Nat) (q : Nat → Nat) (f : Nat → Int) (E0 : Int → Int) (E1 : Int → Int) (E2 : Int → Int) (E3 : Int → Int) (E4 : Int → Int) (E6 : Int → Int) (w : Int) (hE0 : bd E0 0 2) (hE1 : bd E1 0 2) (hE2 : bd E2 0 9) (hE3 : bd E3 0 9) (hE4 : bd E4 0 99) (h5 : 0 ≤ f 5 ∧ f 5 ≤ 8) (hp1 : ∀ j : Int, 0 ≤ j ∧ j < f 5 → 1 ≤ paidE E0 E2 E4 j) (hw : 0 ≤ w ∧ w ≤ 99) : CU l yX0_seekBest cX0_seekBest 4 none 3 75 D d [.ref o, .int (iI w)] [(o, .inr (0, fX0 q f)), (q 0, aI (d 0) 8 E0), (q 1, aI (d 0) 8 E1), (q 2, aI (d 0) 8 E2), (q 3, aI (d 0) 8 E3), (q 4, aI (d 0) 8 E4), (q 6, aI (d 0) 3 E6)] (fun (u : (Nat → Int) × (Int → Int)) => u.1 5 = f 5 ∧ stR (rgB E1 E0 (gotE E1 E3 w) (paidE E0 E2 E4) (f 5).toNat) u.1 u.2) (fun (u : (Nat → Int) × (Int → Int)) => none) (fun (u : (Nat → Int) × (Int → Int)) => [(o, .inr (0, fX0 q u.1)), (q 0, aI (d 0) 8 E0), (q 1, aI (d 0) 8 E1), (q 2, aI (d 0) 8 E2), (q 3, aI (d 0) 8 E3), (q 4, aI (d 0) 8 E4), (q 6, aI (d 0) 3 u.2)]) := by
  refine CU.mk (own := RX0) (lv := [(0, .ref o), (1, .int (iI w))]) rfl (by decide) (Nat.le_of_ble_eq_true rfl) rfl ?_
  intro p9 e9 R9 s9 m9 args9 below9 meth9 c9 A9 Q9 hRf hRl C Z
  refine V_aload_n (pc := 0) C dX0_seekBest_0 rfl 0 rfl ?_
  refine V_iconst (pc := 1) C dX0_seekBest_1 ?_
  refine pf_X0_34 (ws' := [(o, .inr (0, fX0 q (up f 7 0))), (q 0, aI (d 0) 8 E0), (q 1, aI (d 0) 8 E1), (q 2, aI (d 0) 8 E2), (q 3, aI (d 0) 8 E3), (q 4, aI (d 0) 8 E4), (q 6, aI (d 0) 3 E6)]) (pc := 2) C dX0_seekBest_2 0 rfl rfl ?_
  refine V_aload_n (pc := 5) C dX0_seekBest_5 rfl 0 rfl ?_
  refine V_lconst (k := 0) (pc := 6) C dX0_seekBest_6 rfl ?_
  refine pf_X0_37 (ws' := [(o, .inr (0, fX0 q (up (up f 7 0) 8 0))), (q 0, aI (d 0) 8 E0), (q 1, aI (d 0) 8 E1), (q 2, aI (d 0) 8 E2), (q 3, aI (d 0) 8 E3), (q 4, aI (d 0) 8 E4), (q 6, aI (d 0) 3 E6)]) (pc := 7) C dX0_seekBest_7 0 rfl rfl ?_
  refine V_aload_n (pc := 10) C dX0_seekBest_10 rfl 0 rfl ?_
  refine V_lconst (k := 1) (pc := 11) C dX0_seekBest_11 rfl ?_
  refine pf_X0_41 (ws' := [(o, .inr (0, fX0 q (up (up (up f 7 0) 8 0) 9 1))), (q 0, aI (d 0) 8 E0), (q 1, aI (d 0) 8 E1), (q 2, aI (d 0) 8 E2), (q 3, aI (d 0) 8 E3), (q 4, aI (d 0) 8 E4), (q 6, aI (d 0) 3 E6)]) (pc := 12) C dX0_seekBest_12 0 rfl rfl ?_
  refine V_iconst (pc := 15) C dX0_seekBest_15 ?_
  refine V_istore_n (lv' := [(2, .int (iI 0)), (0, .ref o), (1, .int (iI w))]) (pc := 16) C dX0_seekBest_16 rfl (by decide) rfl ?_
  have L17 : ∀ (nn9 : Nat) (x : Int) (g : Nat → Int) (G : Int → Int), (0 ≤ x ∧ x ≤ f 5) → (g 5 = f 5) → (0 ≤ g 8 ∧ g 8 ≤ 1000000000) → (1 ≤ g 9 ∧ g 9 ≤ 1000000000) → (stR (foldI (fun i s => foldI (fun j s => st2 E1 E0 (gotE E1 E3 w) (paidE E0 E2 E4) i j s) (f 5).toNat s) x.toNat ((0, 0, 1, 0, 0, 0) : RS)) g G) → (f 5 - x).toNat < nn9 → V p9 l e9 R9 s9 m9 args9 below9 meth9 c9 A9 D Q9 4 0 0 [(o, .inr (0, fX0 q g)), (q 0, aI (d 0) 8 E0), (q 1, aI (d 0) 8 E1), (q 2, aI (d 0) 8 E2), (q 3, aI (d 0) 8 E3), (q 4, aI (d 0) 8 E4), (q 6, aI (d 0) 3 G)] [(2, .int (iI x)), (0, .ref o), (1, .int (iI w))] 17 [] := by
    intro nn9
    induction nn9 with
    | zero => intro _ _ _ _ _ _ _ _ hm17; exact absurd hm17 (Nat.not_lt_zero _)
    | succ nn9 ih17 =>
      intro x g G hx g5 g8 g9 hR hm17
      refine V_iload_n (pc := 17) C dX0_seekBest_17 rfl 0 rfl ?_
      refine V_aload_n (pc := 18) C dX0_seekBest_18 rfl 1 rfl ?_
      refine gf_X0_30 (x := g 5) (pc := 19) C dX0_seekBest_19 0 rfl rfl ?_
      refine V_icmp_ge (pc := 22) 74 C dX0_seekBest_22 (by decide) (sm_i (by omega)) (sm_i (by omega)) (fun c22 => ?_) (fun c22 => ?_)
      · refine V_iconst (pc := 74) C dX0_seekBest_74 ?_
        refine V_istore_n (lv' := [(2, .int (iI 0)), (0, .ref o), (1, .int (iI w))]) (pc := 75) C dX0_seekBest_75 rfl (by decide) rfl ?_
        have L76 : ∀ (nn9 : Nat) (x2 : Int) (g3 : Nat → Int) (G3 : Int → Int), (0 ≤ x2 ∧ x2 ≤ f 5) → (g3 5 = f 5) → (0 ≤ g3 8 ∧ g3 8 ≤ 1000000000) → (1 ≤ g3 9 ∧ g3 9 ≤ 1000000000) → (stR (foldI (fun i s => foldI (fun j s => foldI (fun k s => st3 E1 E0 (gotE E1 E3 w) (paidE E0 E2 E4) i j k s) (f 5).toNat s) (f 5).toNat s) x2.toNat (rg2 E1 E0 (gotE E1 E3 w) (paidE E0 E2 E4) (f 5).toNat ((0, 0, 1, 0, 0, 0) : RS))) g3 G3) → (f 5 - x2).toNat < nn9 → V p9 l e9 R9 s9 m9 args9 below9 meth9 c9 A9 D Q9 4 0 0 [(o, .inr (0, fX0 q g3)), (q 0, aI (d 0) 8 E0), (q 1, aI (d 0) 8 E1), (q 2, aI (d 0) 8 E2), (q 3, aI (d 0) 8 E3), (q 4, aI (d 0) 8 E4), (q 6, aI (d 0) 3 G3)] [(2, .int (iI x2)), (0, .ref o), (1, .int (iI w))] 76 [] := by
          intro nn9
          induction nn9 with
          | zero => intro _ _ _ _ _ _ _ _ hm76; exact absurd hm76 (Nat.not_lt_zero _)
          | succ nn9 ih76 =>
            intro x2 g3 G3 hx2 g35 g38 g39 hR3 hm76
            refine V_iload_n (pc := 76) C dX0_seekBest_76 rfl 0 rfl ?_
            refine V_aload_n (pc := 77) C dX0_seekBest_77 rfl 1 rfl ?_
            refine gf_X0_30 (x := g3 5) (pc := 78) C dX0_seekBest_78 0 rfl rfl ?_
            refine V_icmp_ge (pc := 81) 122 C dX0_seekBest_81 (by decide) (sm_i (by omega)) (sm_i (by omega)) (fun c81 => ?_) (fun c81 => ?_)
            · exact V_vret (pc := 122) C Z dX0_seekBest_122 (g3, G3) (⟨by dsimp only; omega, by have h := hR3; rw [show x2 = f 5 by omega] at h; exact h⟩) rfl rfl
            · refine V_iconst (pc := 84) C dX0_seekBest_84 ?_
              refine V_istore_n (lv' := [(3, .int (iI 0)), (2, .int (iI x2)), (0, .ref o), (1, .int (iI w))]) (pc := 85) C dX0_seekBest_85 rfl (by decide) rfl ?_
              have L86 : ∀ (nn9 : Nat) (y2 : Int) (g4 : Nat → Int) (G4 : Int → Int), (0 ≤ y2 ∧ y2 ≤ f 5) → (g4 5 = f 5) → (0 ≤ g4 8 ∧ g4 8 ≤ 1000000000) → (1 ≤ g4 9 ∧ g4 9 ≤ 1000000000) → (stR (foldI (fun j s => foldI (fun k s => st3 E1 E0 (gotE E1 E3 w) (paidE E0 E2 E4) x2 j k s) (f 5).toNat s) y2.toNat (foldI (fun i s => foldI (fun j s => foldI (fun k s => st3 E1 E0 (gotE E1 E3 w) (paidE E0 E2 E4) i j k s) (f 5).toNat s) (f 5).toNat s) x2.toNat (rg2 E1 E0 (gotE E1 E3 w) (paidE E0 E2 E4) (f 5).toNat ((0, 0, 1, 0, 0, 0) : RS)))) g4 G4) → (f 5 - y2).toNat < nn9 → V p9 l e9 R9 s9 m9 args9 below9 meth9 c9 A9 D Q9 4 0 0 [(o, .inr (0, fX0 q g4)), (q 0, aI (d 0) 8 E0), (q 1, aI (d 0) 8 E1), (q 2, aI (d 0) 8 E2), (q 3, aI (d 0) 8 E3), (q 4, aI (d 0) 8 E4), (q 6, aI (d 0) 3 G4)] [(3, .int (iI y2)), (2, .int (iI x2)), (0, .ref o), (1, .int (iI w))] 86 [] := by
                intro nn9
                induction nn9 with
                | zero => intro _ _ _ _ _ _ _ _ hm86; exact absurd hm86 (Nat.not_lt_zero _)
                | succ nn9 ih86 =>
                  intro y2 g4 G4 hy2 g45 g48 g49 hR4 hm86
                  refine V_iload_n (pc := 86) C dX0_seekBest_86 rfl 0 rfl ?_
                  refine V_aload_n (pc := 87) C dX0_seekBest_87 rfl 2 rfl ?_
                  refine gf_X0_30 (x := g4 5) (pc := 88) C dX0_seekBest_88 0 rfl rfl ?_
                  refine V_icmp_ge (pc := 91) 116 C dX0_seekBest_91 (by decide) (sm_i (by omega)) (sm_i (by omega)) (fun c91 => ?_) (fun c91 => ?_)
                  · refine V_iinc (lv' := [(2, .int (iI (x2 + 1))), (3, .int (iI y2)), (0, .ref o), (1, .int (iI w))]) (pc := 116) C dX0_seekBest_116 1 rfl (by decide) rfl ?_
                    refine V_goto (pc := 119) 76 C dX0_seekBest_119 (by decide) ?_
                    exact V_sub [0, 2, 3] rfl (ih76 (x2 + 1) g4 G4 (by omega) (by omega) (by omega) (by omega) (by rw [foldI_s _ hx2.1]; have h := hR4; rw [show y2 = f 5 by omega] at h; exact h) (by omega))
                  · refine V_aload_n (pc := 94) C dX0_seekBest_94 rfl 2 rfl ?_
                    refine V_iload_n (pc := 95) C dX0_seekBest_95 rfl 1 rfl ?_
                    refine V_iload_n (pc := 96) C dX0_seekBest_96 rfl 0 rfl ?_
                    refine cv_X0_44 (pc := 97) (rest := []) (wn := fun _ => [(o, .inr (0, fX0 q g4)), (q 0, aI (d 0) 8 E0), (q 1, aI (d 0) 8 E1), (q 2, aI (d 0) 8 E2), (q 3, aI (d 0) 8 E3), (q 4, aI (d 0) 8 E4), (q 6, aI (d 0) 3 G4)]) (sn := fun _ => [.int (iI (bI (E1 x2 = E0 y2)))]) C dX0_seekBest_97 (c_X0_follows l D d o q g4 E0 E1 x2 y2 hE0 hE1 (show 0 ≤ x2 ∧ x2 < 8 by omega) (show 0 ≤ y2 ∧ y2 < 8 by omega)) [0, 1, 2] rfl rfl 0 rfl rfl rfl (Nat.le_of_ble_eq_true rfl) ⟨by omega, by omega⟩ ⟨Nat.zero_le _, Nat.zero_le _⟩ (fun _ => rfl) (fun _ => rfl) (fun _ => rfl) ?_
                    intro _ _
                    refine V_ifb_eq (pc := 100) 110 C dX0_seekBest_100 (by decide) (fun c100 => ?_) (fun c100 => ?_)
                    · refine V_iinc (lv' := [(3, .int (iI (y2 + 1))), (2, .int (iI x2)), (0, .ref o), (1, .int (iI w))]) (pc := 110) C dX0_seekBest_110 0 rfl (by decide) rfl ?_
                      refine V_goto (pc := 113) 86 C dX0_seekBest_113 (by decide) ?_
                      exact V_sub [0, 1, 2, 3] rfl (ih86 (y2 + 1) g4 G4 (by omega) (by omega) (by omega) (by omega) (by rw [foldI_s _ hy2.1]; show stR (foldI (fun k s => st3 E1 E0 _ _ x2 y2 k s) _ _) _ _; first | (rw [foldI_id _ (fun k t => by unfold st3; rw [if_neg (fun q => c100 q.1)])]; exact hR4) | (rw [st3_f c100]; have h := hu107 _ hR4; rw [g45] at h; exact h)) (by omega))
                    · refine V_aload_n (pc := 103) C dX0_seekBest_103 rfl 2 rfl ?_
                      refine V_iload_n (pc := 104) C dX0_seekBest_104 rfl 1 rfl ?_
                      refine V_iload_n (pc := 105) C dX0_seekBest_105 rfl 0 rfl ?_
                      refine V_iload_n (pc := 106) C dX0_seekBest_106 rfl 3 rfl ?_
                      refine cv_X0_52 (pc := 107) (rest := []) (wn := fun u => [(o, .inr (0, fX0 q u.1)), (q 0, aI (d 0) 8 E0), (q 1, aI (d 0) 8 E1), (q 2, aI (d 0) 8 E2), (q 3, aI (d 0) 8 E3), (q 4, aI (d 0) 8 E4), (q 6, aI (d 0) 3 u.2)]) (sn := fun u => []) C dX0_seekBest_107 (c_X0_seekThird l D d o q g4 E0 E1 E2 E3 E4 G4 x2 y2 w hE0 hE1 hE2 hE3 hE4 (show 0 ≤ (g4 5) ∧ (g4 5) ≤ 8 by omega) g48 g49 (fun j hj => hp1 j (by omega)) (show 0 ≤ x2 ∧ x2 < (g4 5) by omega) (show 0 ≤ y2 ∧ y2 < (g4 5) by omega) hw) [0, 1, 2, 3, 4, 5, 6] rfl rfl 0 rfl rfl rfl (Nat.le_of_ble_eq_true rfl) ⟨by omega, by omega⟩ ⟨Nat.zero_le _, Nat.zero_le _⟩ (fun u => rfl) (fun u => rfl) (fun u => rfl) ?_
                      rintro ⟨g6v, G6v⟩ hu107
                      dsimp only at hu107
                      obtain ⟨hx5, hx8, hx9, hu107⟩ := hu107
                      refine V_iinc (lv' := [(3, .int (iI (y2 + 1))), (2, .int (iI x2)), (0, .ref o), (1, .int (iI w))]) (pc := 110) C dX0_seekBest_110 0 rfl (by decide) rfl ?_
                      refine V_goto (pc := 113) 86 C dX0_seekBest_113 (by decide) ?_
                      exact V_sub [0, 1, 2, 3] rfl (ih86 (y2 + 1) g6v G6v (by omega) (by omega) (by omega) (by omega) (by rw [foldI_s _ hy2.1]; show stR (foldI (fun k s => st3 E1 E0 _ _ x2 y2 k s) _ _) _ _; first | (rw [foldI_id _ (fun k t => by unfold st3; rw [if_neg (fun q => c100 q.1)])]; exact hR4) | (rw [st3_f c100]; have h := hu107 _ hR4; rw [g45] at h; exact h)) (by omega))
              exact V_sub [0, 1, 2, 3] rfl (L86 ((f 5 - 0).toNat + 1) 0 g3 G3 (by omega) (by first | rfl | omega) (by first | omega | (show (0 : Int) ≤ 0 ∧ (0 : Int) ≤ 1000000000; omega)) (by first | omega | (show (1 : Int) ≤ 1 ∧ (1 : Int) ≤ 1000000000; omega)) (hR3) (Nat.lt_succ_self _))
        exact V_sub [0, 1, 2] rfl (L76 ((f 5 - 0).toNat + 1) 0 g G (by omega) (by first | rfl | omega) (by first | omega | (show (0 : Int) ≤ 0 ∧ (0 : Int) ≤ 1000000000; omega)) (by first | omega | (show (1 : Int) ≤ 1 ∧ (1 : Int) ≤ 1000000000; omega)) (by have h := hR; rw [show x = f 5 by omega] at h; exact h) (Nat.lt_succ_self _))
      · refine V_iconst (pc := 25) C dX0_seekBest_25 ?_
        refine V_istore_n (lv' := [(3, .int (iI 0)), (2, .int (iI x)), (0, .ref o), (1, .int (iI w))]) (pc := 26) C dX0_seekBest_26 rfl (by decide) rfl ?_
        have L27 : ∀ (nn9 : Nat) (y : Int) (g2 : Nat → Int) (G2 : Int → Int), (0 ≤ y ∧ y ≤ f 5) → (g2 5 = f 5) → (0 ≤ g2 8 ∧ g2 8 ≤ 1000000000) → (1 ≤ g2 9 ∧ g2 9 ≤ 1000000000) → (stR (foldI (fun j s => st2 E1 E0 (gotE E1 E3 w) (paidE E0 E2 E4) x j s) y.toNat (foldI (fun i s => foldI (fun j s => st2 E1 E0 (gotE E1 E3 w) (paidE E0 E2 E4) i j s) (f 5).toNat s) x.toNat ((0, 0, 1, 0, 0, 0) : RS))) g2 G2) → (f 5 - y).toNat < nn9 → V p9 l e9 R9 s9 m9 args9 below9 meth9 c9 A9 D Q9 4 0 0 [(o, .inr (0, fX0 q g2)), (q 0, aI (d 0) 8 E0), (q 1, aI (d 0) 8 E1), (q 2, aI (d 0) 8 E2), (q 3, aI (d 0) 8 E3), (q 4, aI (d 0) 8 E4), (q 6, aI (d 0) 3 G2)] [(3, .int (iI y)), (2, .int (iI x)), (0, .ref o), (1, .int (iI w))] 27 [] := by
          intro nn9
          induction nn9 with
          | zero => intro _ _ _ _ _ _ _ _ hm27; exact absurd hm27 (Nat.not_lt_zero _)
          | succ nn9 ih27 =>
            intro y g2 G2 hy g25 g28 g29 hR2 hm27
            refine V_iload_n (pc := 27) C dX0_seekBest_27 rfl 0 rfl ?_
            refine V_aload_n (pc := 28) C dX0_seekBest_28 rfl 2 rfl ?_
            refine gf_X0_30 (x := g2 5) (pc := 29) C dX0_seekBest_29 0 rfl rfl ?_
            refine V_icmp_ge (pc := 32) 68 C dX0_seekBest_32 (by decide) (sm_i (by omega)) (sm_i (by omega)) (fun c32 => ?_) (fun c32 => ?_)
            · refine V_iinc (lv' := [(2, .int (iI (x + 1))), (3, .int (iI y)), (0, .ref o), (1, .int (iI w))]) (pc := 68) C dX0_seekBest_68 1 rfl (by decide) rfl ?_
              refine V_goto (pc := 71) 17 C dX0_seekBest_71 (by decide) ?_
              exact V_sub [0, 2, 3] rfl (ih17 (x + 1) g2 G2 (by omega) (by omega) (by omega) (by omega) (by rw [foldI_s _ hx.1]; have h := hR2; rw [show y = f 5 by omega] at h; exact h) (by omega))
            · refine V_aload_n (pc := 35) C dX0_seekBest_35 rfl 2 rfl ?_
              refine V_iload_n (pc := 36) C dX0_seekBest_36 rfl 1 rfl ?_
              refine V_iload_n (pc := 37) C dX0_seekBest_37 rfl 0 rfl ?_
              refine cv_X0_44 (pc := 38) (rest := []) (wn := fun _ => [(o, .inr (0, fX0 q g2)), (q 0, aI (d 0) 8 E0), (q 1, aI (d 0) 8 E1), (q 2, aI (d 0) 8 E2), (q 3, aI (d 0) 8 E3), (q 4, aI (d 0) 8 E4), (q 6, aI (d 0) 3 G2)]) (sn := fun _ => [.int (iI (bI (E1 x = E0 y)))]) C dX0_seekBest_38 (c_X0_follows l D d o q g2 E0 E1 x y hE0 hE1 (show 0 ≤ x ∧ x < 8 by omega) (show 0 ≤ y ∧ y < 8 by omega)) [0, 1, 2] rfl rfl 0 rfl rfl rfl (Nat.le_of_ble_eq_true rfl) ⟨by omega, by omega⟩ ⟨Nat.zero_le _, Nat.zero_le _⟩ (fun _ => rfl) (fun _ => rfl) (fun _ => rfl) ?_
              intro _ _
              refine V_ifb_eq (pc := 41) 62 C dX0_seekBest_41 (by decide) (fun c41 => ?_) (fun c41 => ?_)
              · refine V_iinc (lv' := [(3, .int (iI (y + 1))), (2, .int (iI x)), (0, .ref o), (1, .int (iI w))]) (pc := 62) C dX0_seekBest_62 0 rfl (by decide) rfl ?_
                refine V_goto (pc := 65) 27 C dX0_seekBest_65 (by decide) ?_
                exact V_sub [0, 1, 2, 3] rfl (ih27 (y + 1) g2 G2 (by omega) (by omega) (by omega) (by omega) (by rw [foldI_s _ hy.1]; show stR (st2 E1 E0 _ _ x y _) _ _; unfold st2; first | (rw [if_neg (fun q => c41 q.1)]; exact hR2) | (rw [if_neg (fun q => c50 q.2)]; exact hR2) | (rw [if_pos ⟨c41, c50⟩]; exact hu59 _ hR2)) (by omega))
              · refine V_aload_n (pc := 44) C dX0_seekBest_44 rfl 2 rfl ?_
                refine V_iload_n (pc := 45) C dX0_seekBest_45 rfl 0 rfl ?_
                refine V_iload_n (pc := 46) C dX0_seekBest_46 rfl 1 rfl ?_
                refine cv_X0_44 (pc := 47) (rest := []) (wn := fun _ => [(o, .inr (0, fX0 q g2)), (q 0, aI (d 0) 8 E0), (q 1, aI (d 0) 8 E1), (q 2, aI (d 0) 8 E2), (q 3, aI (d 0) 8 E3), (q 4, aI (d 0) 8 E4), (q 6, aI (d 0) 3 G2)]) (sn := fun _ => [.int (iI (bI (E1 y = E0 x)))]) C dX0_seekBest_47 (c_X0_follows l D d o q g2 E0 E1 y x hE0 hE1 (show 0 ≤ y ∧ y < 8 by omega) (show 0 ≤ x ∧ x < 8 by omega)) [0, 1, 2] rfl rfl 0 rfl rfl rfl (Nat.le_of_ble_eq_true rfl) ⟨by omega, by omega⟩ ⟨Nat.zero_le _, Nat.zero_le _⟩ (fun _ => rfl) (fun _ => rfl) (fun _ => rfl) ?_
                intro _ _
                refine V_ifb_eq (pc := 50) 62 C dX0_seekBest_50 (by decide) (fun c50 => ?_) (fun c50 => ?_)
                · refine V_iinc (lv' := [(3, .int (iI (y + 1))), (2, .int (iI x)), (0, .ref o), (1, .int (iI w))]) (pc := 62) C dX0_seekBest_62 0 rfl (by decide) rfl ?_
                  refine V_goto (pc := 65) 27 C dX0_seekBest_65 (by decide) ?_
                  exact V_sub [0, 1, 2, 3] rfl (ih27 (y + 1) g2 G2 (by omega) (by omega) (by omega) (by omega) (by rw [foldI_s _ hy.1]; show stR (st2 E1 E0 _ _ x y _) _ _; unfold st2; first | (rw [if_neg (fun q => c41 q.1)]; exact hR2) | (rw [if_neg (fun q => c50 q.2)]; exact hR2) | (rw [if_pos ⟨c41, c50⟩]; exact hu59 _ hR2)) (by omega))
                · refine V_aload_n (pc := 53) C dX0_seekBest_53 rfl 2 rfl ?_
                  refine V_iconst (pc := 54) C dX0_seekBest_54 ?_
                  refine V_iload_n (pc := 55) C dX0_seekBest_55 rfl 1 rfl ?_
                  refine V_iload_n (pc := 56) C dX0_seekBest_56 rfl 0 rfl ?_
                  refine V_iload_n (pc := 57) C dX0_seekBest_57 rfl 0 rfl ?_
                  refine V_iload_n (pc := 58) C dX0_seekBest_58 rfl 3 rfl ?_
                  refine cv_X0_48 (pc := 59) (rest := []) (wn := fun u => [(o, .inr (0, fX0 q u.1)), (q 0, aI (d 0) 8 E0), (q 1, aI (d 0) 8 E1), (q 2, aI (d 0) 8 E2), (q 3, aI (d 0) 8 E3), (q 4, aI (d 0) 8 E4), (q 6, aI (d 0) 3 u.2)]) (sn := fun u => []) C dX0_seekBest_59 (c_X0_offer l D d o q g2 E0 E1 E2 E3 E4 G2 2 x y y w hE0 hE1 hE2 hE3 hE4 (show 0 ≤ (g2 5) ∧ (g2 5) ≤ 8 by omega) g28 g29 (fun j hj => hp1 j (by omega)) (show 0 ≤ x ∧ x < (g2 5) by omega) (show 0 ≤ y ∧ y < (g2 5) by omega) (show 0 ≤ y ∧ y < (g2 5) by omega) hw (show 2 = 2 ∨ 2 = 3 by omega)) [0, 1, 2, 3, 4, 5, 6] rfl rfl 0 rfl rfl rfl (Nat.le_of_ble_eq_true rfl) ⟨by omega, by omega⟩ ⟨Nat.zero_le _, Nat.zero_le _⟩ (fun u => rfl) (fun u => rfl) (fun u => rfl) ?_
                  rintro ⟨g5v, G5v⟩ hu59
                  dsimp only at hu59
                  obtain ⟨hx5, hx8, hx9, hu59⟩ := hu59
                  rw [if_neg (show ¬ (2 : Int) = 3 by decide), if_neg (show ¬ (2 : Int) = 3 by decide)] at hu59
                  refine V_iinc (lv' := [(3, .int (iI (y + 1))), (2, .int (iI x)), (0, .ref o), (1, .int (iI w))]) (pc := 62) C dX0_seekBest_62 0 rfl (by decide) rfl ?_
                  refine V_goto (pc := 65) 27 C dX0_seekBest_65 (by decide) ?_
                  exact V_sub [0, 1, 2, 3] rfl (ih27 (y + 1) g5v G5v (by omega) (by omega) (by omega) (by omega) (by rw [foldI_s _ hy.1]; show stR (st2 E1 E0 _ _ x y _) _ _; unfold st2; first | (rw [if_neg (fun q => c41 q.1)]; exact hR2) | (rw [if_neg (fun q => c50 q.2)]; exact hR2) | (rw [if_pos ⟨c41, c50⟩]; exact hu59 _ hR2)) (by omega))
        exact V_sub [0, 1, 2, 3] rfl (L27 ((f 5 - 0).toNat + 1) 0 g G (by omega) (by first | rfl | omega) (by first | omega | (show (0 : Int) ≤ 0 ∧ (0 : Int) ≤ 1000000000; omega)) (by first | omega | (show (1 : Int) ≤ 1 ∧ (1 : Int) ≤ 1000000000; omega)) (hR) (Nat.lt_succ_self _))
  exact V_sub [0, 1, 2] rfl (L17 ((f 5 - 0).toNat + 1) 0 (up (up (up f 7 0) 8 0) 9 1) E6 (by omega) (by first | rfl | omega) (by first | omega | (show (0 : Int) ≤ 0 ∧ (0 : Int) ≤ 1000000000; omega)) (by first | omega | (show (1 : Int) ≤ 1 ∧ (1 : Int) ≤ 1000000000; omega)) (⟨rfl, rfl, rfl, Or.inl rfl⟩) (Nat.lt_succ_self _))
set_option maxRecDepth 100000 in
set_option maxHeartbeats 4000000 in
theorem c_X8_ring (l : Launch) (D : va_G) (d : Nat → ClassId) (o : Nat) (q : Nat → Nat) (f : Nat → Int) (qt : Nat → Nat) (ft : Nat → Int) (qa : Nat → Nat) (fa : Nat → Int) (qe : Nat → Nat) (fe : Nat → Int) (A0 : Int → Int) (E0 : Int → Int) (E1 : Int → Int) (E2 : Int → Int) (E3 : Int → Int) (E4 : Int → Int) (E6 : Int → Int) (p : Int) (w : Int) (hP : 0 ≤ ft 6 ∧ ft 6 ≤ 6) (hA0 : bd A0 0 99) (hE0 : bd E0 0 2) (hE1 : bd E1 0 2) (hE2 : bd E2 0 9) (hE3 : bd E3 0 9) (hE4 : bd E4 0 99) (h5 : 0 ≤ fe 5 ∧ fe 5 ≤ 8) (hp1 : ∀ j : Int, 0 ≤ j ∧ j < fe 5 → 1 ≤ paidE E0 E2 E4 j) (hp : -2147483648 ≤ p ∧ p ≤ 2147483647) (hw : w = 0 ∨ w = 1) : CU l yX8_ring cX8_ring 3 (some .long) 4 98 D d [.ref o, .int (iI p), .int (iI w)] [(o, .inr (8, fX8 q f)), (q 2, .inr (6, fX6 qt ft)), (q 4, .inr (5, fX5 qa fa)), (qa 0, aI (d 0) 6 A0), (q 7, .inr (0, fX0 qe fe)), (qe 0, aI (d 0) 8 E0), (qe 1, aI (d 0) 8 E1), (qe 2, aI (d 0) 8 E2), (qe 3, aI (d 0) 8 E3), (qe 4, aI (d 0) 8 E4), (qe 6, aI (d 0) 3 E6)] (fun (u : Int × (Nat → Int) × (Int → Int)) => u.1 = pRing (ft 6) (rgB E1 E0 (gotE E1 E3 (A0 p)) (paidE E0 E2 E4) (fe 5).toNat) p w ∧ u.2.1 5 = fe 5) (fun (u : Int × (Nat → Int) × (Int → Int)) => some (.long (lI u.1))) (fun (u : Int × (Nat → Int) × (Int → Int)) => [(o, .inr (8, fX8 q f)), (q 2, .inr (6, fX6 qt ft)), (q 4, .inr (5, fX5 qa fa)), (qa 0, aI (d 0) 6 A0), (q 7, .inr (0, fX0 qe u.2.1)), (qe 0, aI (d 0) 8 E0), (qe 1, aI (d 0) 8 E1), (qe 2, aI (d 0) 8 E2), (qe 3, aI (d 0) 8 E3), (qe 4, aI (d 0) 8 E4), (qe 6, aI (d 0) 3 u.2.2)]) := by
  refine CU.mk (own := RX8) (lv := [(0, .ref o), (1, .int (iI p)), (2, .int (iI w))]) rfl (by decide) (Nat.le_of_ble_eq_true rfl) rfl ?_
  intro p9 e9 R9 s9 m9 args9 below9 meth9 c9 A9 Q9 hRf hRl C Z
  have a0 := hA0 p
  have rok := rgB_ok (T := E1) (F := E0) (m := (fe 5).toNat) (gotE_b (T := E1) hE3 (show 0 ≤ A0 p ∧ A0 p ≤ 99 by omega)) (paidE_b (F := E0) hE2 hE4) (fun j hj => hp1 j (by omega))
  refine V_aload_n (pc := 0) C dX8_ring_0 rfl 0 rfl ?_
  refine gf_X8_26 (x := q 2) (pc := 1) C dX8_ring_1 0 rfl rfl ?_
  refine V_iload_n (pc := 4) C dX8_ring_4 rfl 1 rfl ?_
  refine cv_X8_99 (pc := 5) (rest := []) (wn := fun _ => [(o, .inr (8, fX8 q f)), (q 2, .inr (6, fX6 qt ft)), (q 4, .inr (5, fX5 qa fa)), (qa 0, aI (d 0) 6 A0), (q 7, .inr (0, fX0 qe fe)), (qe 0, aI (d 0) 8 E0), (qe 1, aI (d 0) 8 E1), (qe 2, aI (d 0) 8 E2), (qe 3, aI (d 0) 8 E3), (qe 4, aI (d 0) 8 E4), (qe 6, aI (d 0) 3 E6)]) (sn := fun _ => [.int (iI (bI (0 ≤ p ∧ p < (ft 6))))]) C dX8_ring_5 (c_X6_hasPerson l D d (q 2) qt ft p hp hP) [1] rfl rfl 1 rfl rfl rfl (Nat.le_of_ble_eq_true rfl) ⟨by omega, by omega⟩ ⟨Nat.zero_le _, Nat.zero_le _⟩ (fun _ => rfl) (fun _ => rfl) (fun _ => rfl) ?_
  intro _ _
  refine V_ifb_ne (pc := 8) 15 C dX8_ring_8 (by decide) (fun c8 => ?_) (fun c8 => ?_)
  · refine V_aload_n (pc := 15) C dX8_ring_15 rfl 0 rfl ?_
    refine gf_X8_54 (x := q 7) (pc := 16) C dX8_ring_16 0 rfl rfl ?_
    refine V_aload_n (pc := 19) C dX8_ring_19 rfl 0 rfl ?_
    refine gf_X8_36 (x := q 4) (pc := 20) C dX8_ring_20 0 rfl rfl ?_
    refine gf_X8_103 (x := qa 0) (pc := 23) C dX8_ring_23 2 rfl rfl ?_
    refine V_iload_n (pc := 26) C dX8_ring_26 rfl 1 rfl ?_
    refine V_iald (f := A0) (pc := 27) C dX8_ring_27 3 rfl (by omega) (by omega) (Nat.le_of_ble_eq_true rfl) ?_
    have b27 := hA0 p
    refine cv_X8_194 (pc := 28) (rest := []) (wn := fun u => [(o, .inr (8, fX8 q f)), (q 2, .inr (6, fX6 qt ft)), (q 4, .inr (5, fX5 qa fa)), (qa 0, aI (d 0) 6 A0), (q 7, .inr (0, fX0 qe u.1)), (qe 0, aI (d 0) 8 E0), (qe 1, aI (d 0) 8 E1), (qe 2, aI (d 0) 8 E2), (qe 3, aI (d 0) 8 E3), (qe 4, aI (d 0) 8 E4), (qe 6, aI (d 0) 3 u.2)]) (sn := fun u => []) C dX8_ring_28 (c_X0_seekBest l D d (q 7) qe fe E0 E1 E2 E3 E4 E6 (A0 p) hE0 hE1 hE2 hE3 hE4 h5 hp1 (show 0 ≤ (A0 p) ∧ (A0 p) ≤ 99 by omega)) [4, 5, 6, 7, 8, 9, 10] rfl rfl 4 rfl rfl rfl (Nat.le_of_ble_eq_true rfl) ⟨by omega, by omega⟩ ⟨Nat.zero_le _, Nat.zero_le _⟩ (fun u => rfl) (fun u => rfl) (fun u => rfl) ?_
    rintro ⟨g, G⟩ hu
    dsimp only at hu
    obtain ⟨hg5, hg⟩ := hu
    obtain ⟨k7, k8, k9, k6⟩ := hg
    have k6b := k6_w k6
    have gsm := rOk_n rok
    refine V_aload_n (pc := 31) C dX8_ring_31 rfl 0 rfl ?_
    refine gf_X8_54 (x := q 7) (pc := 32) C dX8_ring_32 0 rfl rfl ?_
    refine gf_X8_198 (x := g 7) (pc := 35) C dX8_ring_35 4 rfl rfl ?_
    refine V_if_ne (pc := 38) 45 C dX8_ring_38 (by decide) (sm_i (by omega)) (fun c38 => ?_) (fun c38 => ?_)
    · refine V_aload_n (pc := 45) C dX8_ring_45 rfl 0 rfl ?_
      refine gf_X8_54 (x := q 7) (pc := 46) C dX8_ring_46 0 rfl rfl ?_
      refine gf_X8_203 (x := g 8) (pc := 49) C dX8_ring_49 4 rfl rfl ?_
      refine V_aload_n (pc := 52) C dX8_ring_52 rfl 0 rfl ?_
      refine gf_X8_54 (x := q 7) (pc := 53) C dX8_ring_53 0 rfl rfl ?_
      refine gf_X8_207 (x := g 9) (pc := 56) C dX8_ring_56 4 rfl rfl ?_
      refine V_iload_n (pc := 59) C dX8_ring_59 rfl 2 rfl ?_
      refine cs_X8_168 (pc := 60) (rest := []) (wn := fun _ => [(o, .inr (8, fX8 q f)), (q 2, .inr (6, fX6 qt ft)), (q 4, .inr (5, fX5 qa fa)), (qa 0, aI (d 0) 6 A0), (q 7, .inr (0, fX0 qe g)), (qe 0, aI (d 0) 8 E0), (qe 1, aI (d 0) 8 E1), (qe 2, aI (d 0) 8 E2), (qe 3, aI (d 0) 8 E3), (qe 4, aI (d 0) 8 E4), (qe 6, aI (d 0) 3 G)]) (sn := fun _ => [.long (lI ((if w = 0 then (g 9) else (g 8)) / gI (g 8) (g 9)))]) C dX8_ring_60 (c_X8_inLeastTerms l D d (g 8) (g 9) w (by rcases rok with q | q <;> omega) (by rcases rok with q | q <;> omega) hw) [] rfl rfl rfl rfl (Nat.le_of_ble_eq_true rfl) ⟨by omega, by omega⟩ ⟨Nat.zero_le _, Nat.zero_le _⟩ (fun _ => rfl) (fun _ => rfl) (fun _ => rfl) ?_
      intro _ _
      exact V_lret (pc := 63) C Z dX8_ring_63 ((if w = 0 then (g 9) else (g 8)) / gI (g 8) (g 9), g, G) (⟨by unfold pRing; (try rw [← k7, ← k8, ← k9]); (try dsimp only); (repeat' split) <;> first | rfl | omega, by first | rfl | exact hg5⟩) (rl (by rfl)) rfl
    · refine V_ldc2 (n := (-9)) (pc := 41) C dX8_ring_41 w3_48 rfl ?_
      exact V_lret (pc := 44) C Z dX8_ring_44 (-9, g, G) (⟨by unfold pRing; (try rw [← k7, ← k8, ← k9]); (try dsimp only); (repeat' split) <;> first | rfl | omega, by first | rfl | exact hg5⟩) (rl (by rfl)) rfl
  · refine V_ldc2 (n := (-1)) (pc := 11) C dX8_ring_11 w3_23 rfl ?_
    exact V_lret (pc := 14) C Z dX8_ring_14 (-1, fe, E6) (⟨by unfold pRing; (try rw [← k7, ← k8, ← k9]); (try dsimp only); (repeat' split) <;> first | rfl | omega, by first | rfl | exact hg5⟩) (rl (by rfl)) rfl
set_option maxRecDepth 100000 in
set_option maxHeartbeats 4000000 in
theorem c_X8_ringAt (l : Launch) (D : va_G) (d : Nat → ClassId) (o : Nat) (q : Nat → Nat) (f : Nat → Int) (qt : Nat → Nat) (ft : Nat → Int) (qa : Nat → Nat) (fa : Nat → Int) (qe : Nat → Nat) (fe : Nat → Int) (A0 : Int → Int) (E0 : Int → Int) (E1 : Int → Int) (E2 : Int → Int) (E3 : Int → Int) (E4 : Int → Int) (E6 : Int → Int) (p : Int) (w : Int) (hP : 0 ≤ ft 6 ∧ ft 6 ≤ 6) (hA0 : bd A0 0 99) (hE0 : bd E0 0 2) (hE1 : bd E1 0 2) (hE2 : bd E2 0 9) (hE3 : bd E3 0 9) (hE4 : bd E4 0 99) (h5 : 0 ≤ fe 5 ∧ fe 5 ≤ 8) (hp1 : ∀ j : Int, 0 ≤ j ∧ j < fe 5 → 1 ≤ paidE E0 E2 E4 j) (hp : -2147483648 ≤ p ∧ p ≤ 2147483647) (hw : -2147483648 ≤ w ∧ w ≤ 2147483647) : CU l yX8_ringAt cX8_ringAt 3 (some .int) 4 98 D d [.ref o, .int (iI p), .int (iI w)] [(o, .inr (8, fX8 q f)), (q 2, .inr (6, fX6 qt ft)), (q 4, .inr (5, fX5 qa fa)), (qa 0, aI (d 0) 6 A0), (q 7, .inr (0, fX0 qe fe)), (qe 0, aI (d 0) 8 E0), (qe 1, aI (d 0) 8 E1), (qe 2, aI (d 0) 8 E2), (qe 3, aI (d 0) 8 E3), (qe 4, aI (d 0) 8 E4), (qe 6, aI (d 0) 3 E6)] (fun (u : Int × (Nat → Int) × (Int → Int)) => u.1 = pRingAt (ft 6) (rgB E1 E0 (gotE E1 E3 (A0 p)) (paidE E0 E2 E4) (fe 5).toNat) p w ∧ u.2.1 5 = fe 5) (fun (u : Int × (Nat → Int) × (Int → Int)) => some (.int (iI (u.1)))) (fun (u : Int × (Nat → Int) × (Int → Int)) => [(o, .inr (8, fX8 q f)), (q 2, .inr (6, fX6 qt ft)), (q 4, .inr (5, fX5 qa fa)), (qa 0, aI (d 0) 6 A0), (q 7, .inr (0, fX0 qe u.2.1)), (qe 0, aI (d 0) 8 E0), (qe 1, aI (d 0) 8 E1), (qe 2, aI (d 0) 8 E2), (qe 3, aI (d 0) 8 E3), (qe 4, aI (d 0) 8 E4), (qe 6, aI (d 0) 3 u.2.2)]) := by
  refine CU.mk (own := RX8) (lv := [(0, .ref o), (1, .int (iI p)), (2, .int (iI w))]) rfl (by decide) (Nat.le_of_ble_eq_true rfl) rfl ?_
  intro p9 e9 R9 s9 m9 args9 below9 meth9 c9 A9 Q9 hRf hRl C Z
  have a0 := hA0 p
  have rok := rgB_ok (T := E1) (F := E0) (m := (fe 5).toNat) (gotE_b (T := E1) hE3 (show 0 ≤ A0 p ∧ A0 p ≤ 99 by omega)) (paidE_b (F := E0) hE2 hE4) (fun j hj => hp1 j (by omega))
  refine V_aload_n (pc := 0) C dX8_ringAt_0 rfl 0 rfl ?_
  refine gf_X8_26 (x := q 2) (pc := 1) C dX8_ringAt_1 0 rfl rfl ?_
  refine V_iload_n (pc := 4) C dX8_ringAt_4 rfl 1 rfl ?_
  refine cv_X8_99 (pc := 5) (rest := []) (wn := fun _ => [(o, .inr (8, fX8 q f)), (q 2, .inr (6, fX6 qt ft)), (q 4, .inr (5, fX5 qa fa)), (qa 0, aI (d 0) 6 A0), (q 7, .inr (0, fX0 qe fe)), (qe 0, aI (d 0) 8 E0), (qe 1, aI (d 0) 8 E1), (qe 2, aI (d 0) 8 E2), (qe 3, aI (d 0) 8 E3), (qe 4, aI (d 0) 8 E4), (qe 6, aI (d 0) 3 E6)]) (sn := fun _ => [.int (iI (bI (0 ≤ p ∧ p < (ft 6))))]) C dX8_ringAt_5 (c_X6_hasPerson l D d (q 2) qt ft p hp hP) [1] rfl rfl 1 rfl rfl rfl (Nat.le_of_ble_eq_true rfl) ⟨by omega, by omega⟩ ⟨Nat.zero_le _, Nat.zero_le _⟩ (fun _ => rfl) (fun _ => rfl) (fun _ => rfl) ?_
  intro _ _
  refine V_ifb_ne (pc := 8) 13 C dX8_ringAt_8 (by decide) (fun c8 => ?_) (fun c8 => ?_)
  · refine V_aload_n (pc := 13) C dX8_ringAt_13 rfl 0 rfl ?_
    refine gf_X8_54 (x := q 7) (pc := 14) C dX8_ringAt_14 0 rfl rfl ?_
    refine V_aload_n (pc := 17) C dX8_ringAt_17 rfl 0 rfl ?_
    refine gf_X8_36 (x := q 4) (pc := 18) C dX8_ringAt_18 0 rfl rfl ?_
    refine gf_X8_103 (x := qa 0) (pc := 21) C dX8_ringAt_21 2 rfl rfl ?_
    refine V_iload_n (pc := 24) C dX8_ringAt_24 rfl 1 rfl ?_
    refine V_iald (f := A0) (pc := 25) C dX8_ringAt_25 3 rfl (by omega) (by omega) (Nat.le_of_ble_eq_true rfl) ?_
    have b25 := hA0 p
    refine cv_X8_194 (pc := 26) (rest := []) (wn := fun u => [(o, .inr (8, fX8 q f)), (q 2, .inr (6, fX6 qt ft)), (q 4, .inr (5, fX5 qa fa)), (qa 0, aI (d 0) 6 A0), (q 7, .inr (0, fX0 qe u.1)), (qe 0, aI (d 0) 8 E0), (qe 1, aI (d 0) 8 E1), (qe 2, aI (d 0) 8 E2), (qe 3, aI (d 0) 8 E3), (qe 4, aI (d 0) 8 E4), (qe 6, aI (d 0) 3 u.2)]) (sn := fun u => []) C dX8_ringAt_26 (c_X0_seekBest l D d (q 7) qe fe E0 E1 E2 E3 E4 E6 (A0 p) hE0 hE1 hE2 hE3 hE4 h5 hp1 (show 0 ≤ (A0 p) ∧ (A0 p) ≤ 99 by omega)) [4, 5, 6, 7, 8, 9, 10] rfl rfl 4 rfl rfl rfl (Nat.le_of_ble_eq_true rfl) ⟨by omega, by omega⟩ ⟨Nat.zero_le _, Nat.zero_le _⟩ (fun u => rfl) (fun u => rfl) (fun u => rfl) ?_
    rintro ⟨g, G⟩ hu
    dsimp only at hu
    obtain ⟨hg5, hg⟩ := hu
    obtain ⟨k7, k8, k9, k6⟩ := hg
    have k6b := k6_w k6
    have gsm := rOk_n rok
    refine V_iload_n (pc := 29) C dX8_ringAt_29 rfl 2 rfl ?_
    refine V_if_lt (pc := 30) 56 C dX8_ringAt_30 (by decide) (sm_i (by omega)) (fun c30 => ?_) (fun c30 => ?_)
    · refine V_bipush (pc := 56) C dX8_ringAt_56 rfl ?_
      exact V_iret (pc := 58) C Z dX8_ringAt_58 (-9, g, G) (⟨by first | (unfold pRingAt; rw [if_pos (by omega)]) | exact (ringAt_c rok k7 k6b (by omega)).1 (by omega) | exact (ringAt_c rok k7 k6b (by omega)).2 (by omega), by first | rfl | exact hg5⟩) (ri (by rfl)) rfl
    · refine V_iload_n (pc := 33) C dX8_ringAt_33 rfl 2 rfl ?_
      refine V_aload_n (pc := 34) C dX8_ringAt_34 rfl 0 rfl ?_
      refine gf_X8_54 (x := q 7) (pc := 35) C dX8_ringAt_35 0 rfl rfl ?_
      refine gf_X8_198 (x := g 7) (pc := 38) C dX8_ringAt_38 4 rfl rfl ?_
      refine V_icmp_ge (pc := 41) 56 C dX8_ringAt_41 (by decide) (sm_i (by omega)) (sm_i (by omega)) (fun c41 => ?_) (fun c41 => ?_)
      · refine V_bipush (pc := 56) C dX8_ringAt_56 rfl ?_
        exact V_iret (pc := 58) C Z dX8_ringAt_58 (-9, g, G) (⟨by first | (unfold pRingAt; rw [if_pos (by omega)]) | exact (ringAt_c rok k7 k6b (by omega)).1 (by omega) | exact (ringAt_c rok k7 k6b (by omega)).2 (by omega), by first | rfl | exact hg5⟩) (ri (by rfl)) rfl
      · refine V_aload_n (pc := 44) C dX8_ringAt_44 rfl 0 rfl ?_
        refine gf_X8_54 (x := q 7) (pc := 45) C dX8_ringAt_45 0 rfl rfl ?_
        refine gf_X8_210 (x := qe 6) (pc := 48) C dX8_ringAt_48 4 rfl rfl ?_
        refine V_iload_n (pc := 51) C dX8_ringAt_51 rfl 2 rfl ?_
        refine V_iald (f := G) (pc := 52) C dX8_ringAt_52 10 rfl (by omega) (by omega) (Nat.le_of_ble_eq_true rfl) ?_
        refine V_goto (pc := 53) 58 C dX8_ringAt_53 (by decide) ?_
        exact V_iret (pc := 58) C Z dX8_ringAt_58 (G w, g, G) (⟨by first | (unfold pRingAt; rw [if_pos (by omega)]) | exact (ringAt_c rok k7 k6b (by omega)).1 (by omega) | exact (ringAt_c rok k7 k6b (by omega)).2 (by omega), by first | rfl | exact hg5⟩) (ri (by rfl)) rfl
  · refine V_iconst (pc := 11) C dX8_ringAt_11 ?_
    exact V_iret (pc := 12) C Z dX8_ringAt_12 (-1, fe, E6) (⟨by first | (unfold pRingAt; rw [if_pos (by omega)]) | exact (ringAt_c rok k7 k6b (by omega)).1 (by omega) | exact (ringAt_c rok k7 k6b (by omega)).2 (by omega), by first | rfl | exact hg5⟩) (ri (by rfl)) rfl
