set_option maxRecDepth 100000 in
set_option maxHeartbeats 4000000 in
theorem c_X3_opens (l : Launch) (D : va_G) (d : Nat → ClassId) (o : Nat) (t : Nat) (q : Nat → Nat) (qt : Nat → Nat) (f : Nat → Int) (ft : Nat → Int) (T0 : Int → Int) (T1 : Int → Int) (T3 : Int → Int) (T4 : Int → Int) (T5 : Int → Int) (c : Int) (h6 : 0 ≤ ft 6 ∧ ft 6 ≤ 6) (h7 : 0 ≤ ft 7 ∧ ft 7 ≤ 4) (h8 : 0 ≤ ft 8 ∧ ft 8 ≤ 24) (hc : 0 ≤ c ∧ c ≤ 255) : CU l yX3_opens cX3_opens 3 (some .boolean) 0 0 D d [.ref o, .int (iI c), .ref t] [(o, .inr (3, fX3 q f)), (t, .inr (6, fX6 qt ft)), (qt 0, aI (d 0) 6 T0), (qt 1, aI (d 0) 6 T1), (qt 3, aI (d 0) 6 T3), (qt 4, aI (d 0) 4 T4), (qt 5, aI (d 0) 4 T5)] (fun (u : Int × ((Nat → Int) × (Nat → Int) × (Int → Int) × (Int → Int) × (Int → Int) × (Int → Int) × (Int → Int))) => u = rdOpens c f ft T0 T1 T3 T4 T5) (fun (u : Int × ((Nat → Int) × (Nat → Int) × (Int → Int) × (Int → Int) × (Int → Int) × (Int → Int) × (Int → Int))) => some (.int (iI (u.1)))) (fun (u : Int × ((Nat → Int) × (Nat → Int) × (Int → Int) × (Int → Int) × (Int → Int) × (Int → Int) × (Int → Int))) => [(o, .inr (3, fX3 q u.2.1)), (t, .inr (6, fX6 qt u.2.2.1)), (qt 0, aI (d 0) 6 u.2.2.2.1), (qt 1, aI (d 0) 6 u.2.2.2.2.1), (qt 3, aI (d 0) 6 u.2.2.2.2.2.1), (qt 4, aI (d 0) 4 u.2.2.2.2.2.2.1), (qt 5, aI (d 0) 4 u.2.2.2.2.2.2.2)]) := by
  refine CU.mk (own := RX3) (lv := [(0, .ref o), (1, .int (iI c)), (2, .ref t)]) rfl (by decide) (Nat.le_of_ble_eq_true rfl) rfl ?_
  intro p9 e9 R9 s9 m9 args9 below9 meth9 c9 A9 Q9 hRf hRl C Z
  have m9 := mulb h6 h7
  refine V_aload_n (pc := 0) C dX3_opens_0 rfl 0 rfl ?_
  refine V_iload_n (pc := 1) C dX3_opens_1 rfl 1 rfl ?_
  refine pf_X3_16 (ws' := [(o, .inr (3, fX3 q (up f 0 c))), (t, .inr (6, fX6 qt ft)), (qt 0, aI (d 0) 6 T0), (qt 1, aI (d 0) 6 T1), (qt 3, aI (d 0) 6 T3), (qt 4, aI (d 0) 4 T4), (qt 5, aI (d 0) 4 T5)]) (pc := 2) C dX3_opens_2 0 rfl rfl ?_
  refine V_aload_n (pc := 5) C dX3_opens_5 rfl 0 rfl ?_
  refine V_iconst (pc := 6) C dX3_opens_6 ?_
  refine pf_X3_36 (ws' := [(o, .inr (3, fX3 q (up (up f 0 c) 1 0))), (t, .inr (6, fX6 qt ft)), (qt 0, aI (d 0) 6 T0), (qt 1, aI (d 0) 6 T1), (qt 3, aI (d 0) 6 T3), (qt 4, aI (d 0) 4 T4), (qt 5, aI (d 0) 4 T5)]) (pc := 7) C dX3_opens_7 0 rfl rfl ?_
  refine V_aload_n (pc := 10) C dX3_opens_10 rfl 0 rfl ?_
  refine V_iconst (pc := 11) C dX3_opens_11 ?_
  refine pf_X3_48 (ws' := [(o, .inr (3, fX3 q (up (up (up f 0 c) 1 0) 2 0))), (t, .inr (6, fX6 qt ft)), (qt 0, aI (d 0) 6 T0), (qt 1, aI (d 0) 6 T1), (qt 3, aI (d 0) 6 T3), (qt 4, aI (d 0) 4 T4), (qt 5, aI (d 0) 4 T5)]) (pc := 12) C dX3_opens_12 0 rfl rfl ?_
  refine V_iload_n (pc := 15) C dX3_opens_15 rfl 1 rfl ?_
  refine V_bipush (pc := 16) C dX3_opens_16 rfl ?_
  refine V_icmp_ne (pc := 18) 36 C dX3_opens_18 (by decide) (sm_i (by omega)) (sm_i (by decide)) (fun c18 => ?_) (fun c18 => ?_)
  · refine V_iload_n (pc := 36) C dX3_opens_36 rfl 1 rfl ?_
    refine V_bipush (pc := 37) C dX3_opens_37 rfl ?_
    refine V_icmp_ne (pc := 39) 56 C dX3_opens_39 (by decide) (sm_i (by omega)) (sm_i (by decide)) (fun c39 => ?_) (fun c39 => ?_)
    · refine V_iload_n (pc := 56) C dX3_opens_56 rfl 1 rfl ?_
      refine V_bipush (pc := 57) C dX3_opens_57 rfl ?_
      refine V_icmp_ne (pc := 59) 82 C dX3_opens_59 (by decide) (sm_i (by omega)) (sm_i (by decide)) (fun c59 => ?_) (fun c59 => ?_)
      · refine V_iconst (pc := 82) C dX3_opens_82 ?_
        exact V_zret (pc := 83) C Z dX3_opens_83 (Or.inl rfl) (0, (up (up (up f 0 c) 1 0) 2 0), ft, T0, T1, T3, T4, T5) (by unfold rdOpens bI; congr 1; (repeat' split) <;> first | rfl | omega) (ri (by rfl)) rfl
      · refine V_aload_n (pc := 62) C dX3_opens_62 rfl 2 rfl ?_
        refine gf_X3_57 (x := ft 8) (pc := 63) C dX3_opens_63 1 rfl rfl ?_
        refine V_aload_n (pc := 66) C dX3_opens_66 rfl 2 rfl ?_
        refine gf_X3_51 (x := ft 6) (pc := 67) C dX3_opens_67 1 rfl rfl ?_
        refine V_aload_n (pc := 70) C dX3_opens_70 rfl 2 rfl ?_
        refine gf_X3_54 (x := ft 7) (pc := 71) C dX3_opens_71 1 rfl rfl ?_
        refine V_imul (pc := 74) C dX3_opens_74 ?_
        refine V_icmp_ge (pc := 75) 82 C dX3_opens_75 (by decide) (sm_i (by omega)) (sm_i (by omega)) (fun c75 => ?_) (fun c75 => ?_)
        · refine V_iconst (pc := 82) C dX3_opens_82 ?_
          exact V_zret (pc := 83) C Z dX3_opens_83 (Or.inl rfl) (0, (up (up (up f 0 c) 1 0) 2 0), ft, T0, T1, T3, T4, T5) (by unfold rdOpens bI; congr 1; (repeat' split) <;> first | rfl | omega) (ri (by rfl)) rfl
        · refine V_iconst (pc := 78) C dX3_opens_78 ?_
          refine V_goto (pc := 79) 83 C dX3_opens_79 (by decide) ?_
          exact V_zret (pc := 83) C Z dX3_opens_83 (Or.inr rfl) (1, (up (up (up f 0 c) 1 0) 2 0), ft, T0, T1, T3, T4, T5) (by unfold rdOpens bI; congr 1; (repeat' split) <;> first | rfl | omega) (ri (by rfl)) rfl
    · refine V_aload_n (pc := 42) C dX3_opens_42 rfl 2 rfl ?_
      refine gf_X3_54 (x := ft 7) (pc := 43) C dX3_opens_43 1 rfl rfl ?_
      refine V_iconst (pc := 46) C dX3_opens_46 ?_
      refine V_icmp_ge (pc := 47) 54 C dX3_opens_47 (by decide) (sm_i (by omega)) (sm_i (by decide)) (fun c47 => ?_) (fun c47 => ?_)
      · refine V_iconst (pc := 54) C dX3_opens_54 ?_
        exact V_zret (pc := 55) C Z dX3_opens_55 (Or.inl rfl) (0, (up (up (up f 0 c) 1 0) 2 0), ft, T0, T1, T3, T4, T5) (by unfold rdOpens bI; congr 1; (repeat' split) <;> first | rfl | omega) (ri (by rfl)) rfl
      · refine V_iconst (pc := 50) C dX3_opens_50 ?_
        refine V_goto (pc := 51) 55 C dX3_opens_51 (by decide) ?_
        exact V_zret (pc := 55) C Z dX3_opens_55 (Or.inr rfl) (1, (up (up (up f 0 c) 1 0) 2 0), ft, T0, T1, T3, T4, T5) (by unfold rdOpens bI; congr 1; (repeat' split) <;> first | rfl | omega) (ri (by rfl)) rfl
  · refine V_aload_n (pc := 21) C dX3_opens_21 rfl 2 rfl ?_
    refine gf_X3_51 (x := ft 6) (pc := 22) C dX3_opens_22 1 rfl rfl ?_
    refine V_bipush (pc := 25) C dX3_opens_25 rfl ?_
    refine V_icmp_ge (pc := 27) 34 C dX3_opens_27 (by decide) (sm_i (by omega)) (sm_i (by decide)) (fun c27 => ?_) (fun c27 => ?_)
    · refine V_iconst (pc := 34) C dX3_opens_34 ?_
      exact V_zret (pc := 35) C Z dX3_opens_35 (Or.inl rfl) (0, (up (up (up f 0 c) 1 0) 2 0), ft, T0, T1, T3, T4, T5) (by unfold rdOpens bI; congr 1; (repeat' split) <;> first | rfl | omega) (ri (by rfl)) rfl
    · refine V_iconst (pc := 30) C dX3_opens_30 ?_
      refine V_goto (pc := 31) 35 C dX3_opens_31 (by decide) ?_
      exact V_zret (pc := 35) C Z dX3_opens_35 (Or.inr rfl) (1, (up (up (up f 0 c) 1 0) 2 0), ft, T0, T1, T3, T4, T5) (by unfold rdOpens bI; congr 1; (repeat' split) <;> first | rfl | omega) (ri (by rfl)) rfl
set_option maxRecDepth 100000 in
set_option maxHeartbeats 4000000 in
theorem c_X3_takesOfPerson (l : Launch) (D : va_G) (d : Nat → ClassId) (o : Nat) (t : Nat) (q : Nat → Nat) (qt : Nat → Nat) (f : Nat → Int) (ft : Nat → Int) (T0 : Int → Int) (T1 : Int → Int) (T3 : Int → Int) (T4 : Int → Int) (T5 : Int → Int) (v : Int) (h6 : 0 ≤ ft 6 ∧ ft 6 < 6) (h2 : 0 ≤ f 2 ∧ f 2 ≤ 9) (h1 : 0 ≤ f 1 ∧ f 1 ≤ 9) (hv : 0 ≤ v ∧ v ≤ 9) : CU l yX3_takesOfPerson cX3_takesOfPerson 4 (some .boolean) 0 0 D d [.ref o, .int (iI v), .ref t] [(o, .inr (3, fX3 q f)), (t, .inr (6, fX6 qt ft)), (qt 0, aI (d 0) 6 T0), (qt 1, aI (d 0) 6 T1), (qt 3, aI (d 0) 6 T3), (qt 4, aI (d 0) 4 T4), (qt 5, aI (d 0) 4 T5)] (fun (u : Int × ((Nat → Int) × (Nat → Int) × (Int → Int) × (Int → Int) × (Int → Int) × (Int → Int) × (Int → Int))) => u = rdPerson v f ft T0 T1 T3 T4 T5) (fun (u : Int × ((Nat → Int) × (Nat → Int) × (Int → Int) × (Int → Int) × (Int → Int) × (Int → Int) × (Int → Int))) => some (.int (iI (u.1)))) (fun (u : Int × ((Nat → Int) × (Nat → Int) × (Int → Int) × (Int → Int) × (Int → Int) × (Int → Int) × (Int → Int))) => [(o, .inr (3, fX3 q u.2.1)), (t, .inr (6, fX6 qt u.2.2.1)), (qt 0, aI (d 0) 6 u.2.2.2.1), (qt 1, aI (d 0) 6 u.2.2.2.2.1), (qt 3, aI (d 0) 6 u.2.2.2.2.2.1), (qt 4, aI (d 0) 4 u.2.2.2.2.2.2.1), (qt 5, aI (d 0) 4 u.2.2.2.2.2.2.2)]) := by
  refine CU.mk (own := RX3) (lv := [(0, .ref o), (1, .int (iI v)), (2, .ref t)]) rfl (by decide) (Nat.le_of_ble_eq_true rfl) rfl ?_
  intro p9 e9 R9 s9 m9 args9 below9 meth9 c9 A9 Q9 hRf hRl C Z
  refine V_aload_n (pc := 0) C dX3_takesOfPerson_0 rfl 0 rfl ?_
  refine V_aload_n (pc := 1) C dX3_takesOfPerson_1 rfl 0 rfl ?_
  refine gf_X3_48 (x := f 2) (pc := 2) C dX3_takesOfPerson_2 0 rfl rfl ?_
  refine V_bipush (pc := 5) C dX3_takesOfPerson_5 rfl ?_
  refine V_imul (pc := 7) C dX3_takesOfPerson_7 ?_
  refine V_iload_n (pc := 8) C dX3_takesOfPerson_8 rfl 1 rfl ?_
  refine V_iadd (pc := 9) C dX3_takesOfPerson_9 ?_
  refine pf_X3_48 (ws' := [(o, .inr (3, fX3 q (up f 2 (((f 2) * 10) + v)))), (t, .inr (6, fX6 qt ft)), (qt 0, aI (d 0) 6 T0), (qt 1, aI (d 0) 6 T1), (qt 3, aI (d 0) 6 T3), (qt 4, aI (d 0) 4 T4), (qt 5, aI (d 0) 4 T5)]) (pc := 10) C dX3_takesOfPerson_10 0 rfl rfl ?_
  refine V_aload_n (pc := 13) C dX3_takesOfPerson_13 rfl 0 rfl ?_
  refine gf_X3_36 (x := f 1) (pc := 14) C dX3_takesOfPerson_14 0 rfl rfl ?_
  refine V_iconst (pc := 17) C dX3_takesOfPerson_17 ?_
  refine V_icmp_ne (pc := 18) 54 C dX3_takesOfPerson_18 (by decide) (sm_i (by omega)) (sm_i (by decide)) (fun c18 => ?_) (fun c18 => ?_)
  · refine V_aload_n (pc := 54) C dX3_takesOfPerson_54 rfl 0 rfl ?_
    refine gf_X3_36 (x := f 1) (pc := 55) C dX3_takesOfPerson_55 0 rfl rfl ?_
    refine V_iconst (pc := 58) C dX3_takesOfPerson_58 ?_
    refine V_icmp_ne (pc := 59) 90 C dX3_takesOfPerson_59 (by decide) (sm_i (by omega)) (sm_i (by decide)) (fun c59 => ?_) (fun c59 => ?_)
    · refine V_iconst (pc := 90) C dX3_takesOfPerson_90 ?_
      exact V_zret (pc := 91) C Z dX3_takesOfPerson_91 (Or.inr rfl) (1, (up f 2 (((f 2) * 10) + v)), ft, T0, T1, T3, T4, T5) (by unfold rdPerson bI; (try dsimp only); (repeat' split) <;> first | rfl | omega) (ri (by rfl)) rfl
    · refine V_aload_n (pc := 62) C dX3_takesOfPerson_62 rfl 2 rfl ?_
      refine gf_X3_63 (x := qt 1) (pc := 63) C dX3_takesOfPerson_63 1 rfl rfl ?_
      refine V_aload_n (pc := 66) C dX3_takesOfPerson_66 rfl 2 rfl ?_
      refine gf_X3_51 (x := ft 6) (pc := 67) C dX3_takesOfPerson_67 1 rfl rfl ?_
      refine V_aload_n (pc := 70) C dX3_takesOfPerson_70 rfl 0 rfl ?_
      refine gf_X3_48 (x := (((f 2) * 10) + v)) (pc := 71) C dX3_takesOfPerson_71 0 rfl rfl ?_
      refine V_iast (f := T1) (ws' := [(o, .inr (3, fX3 q (up f 2 (((f 2) * 10) + v)))), (t, .inr (6, fX6 qt ft)), (qt 0, aI (d 0) 6 T0), (qt 1, aI (d 0) 6 (uI T1 (ft 6) (((f 2) * 10) + v))), (qt 3, aI (d 0) 6 T3), (qt 4, aI (d 0) 4 T4), (qt 5, aI (d 0) 4 T5)]) (pc := 74) C dX3_takesOfPerson_74 3 rfl (by omega) (by omega) (Nat.le_of_ble_eq_true rfl) rfl ?_
      refine V_aload_n (pc := 75) C dX3_takesOfPerson_75 rfl 2 rfl ?_
      refine V_dup (pc := 76) C dX3_takesOfPerson_76 rfl ?_
      refine gf_X3_51 (x := ft 6) (pc := 77) C dX3_takesOfPerson_77 1 rfl rfl ?_
      refine V_iconst (pc := 80) C dX3_takesOfPerson_80 ?_
      refine V_iadd (pc := 81) C dX3_takesOfPerson_81 ?_
      refine pf_X3_51 (ws' := [(o, .inr (3, fX3 q (up f 2 (((f 2) * 10) + v)))), (t, .inr (6, fX6 qt (up ft 6 ((ft 6) + 1)))), (qt 0, aI (d 0) 6 T0), (qt 1, aI (d 0) 6 (uI T1 (ft 6) (((f 2) * 10) + v))), (qt 3, aI (d 0) 6 T3), (qt 4, aI (d 0) 4 T4), (qt 5, aI (d 0) 4 T5)]) (pc := 82) C dX3_takesOfPerson_82 1 rfl rfl ?_
      refine V_aload_n (pc := 85) C dX3_takesOfPerson_85 rfl 0 rfl ?_
      refine V_iconst (pc := 86) C dX3_takesOfPerson_86 ?_
      refine pf_X3_16 (ws' := [(o, .inr (3, fX3 q (up (up f 2 (((f 2) * 10) + v)) 0 0))), (t, .inr (6, fX6 qt (up ft 6 ((ft 6) + 1)))), (qt 0, aI (d 0) 6 T0), (qt 1, aI (d 0) 6 (uI T1 (ft 6) (((f 2) * 10) + v))), (qt 3, aI (d 0) 6 T3), (qt 4, aI (d 0) 4 T4), (qt 5, aI (d 0) 4 T5)]) (pc := 87) C dX3_takesOfPerson_87 0 rfl rfl ?_
      refine V_iconst (pc := 90) C dX3_takesOfPerson_90 ?_
      exact V_zret (pc := 91) C Z dX3_takesOfPerson_91 (Or.inr rfl) (1, (up (up f 2 (((f 2) * 10) + v)) 0 0), (up ft 6 ((ft 6) + 1)), T0, uI T1 (ft 6) (((f 2) * 10) + v), T3, T4, T5) (by unfold rdPerson bI; (try dsimp only); (repeat' split) <;> first | rfl | omega) (ri (by rfl)) rfl
  · refine V_aload_n (pc := 21) C dX3_takesOfPerson_21 rfl 2 rfl ?_
    refine gf_X3_60 (x := qt 0) (pc := 22) C dX3_takesOfPerson_22 1 rfl rfl ?_
    refine V_aload_n (pc := 25) C dX3_takesOfPerson_25 rfl 2 rfl ?_
    refine gf_X3_51 (x := ft 6) (pc := 26) C dX3_takesOfPerson_26 1 rfl rfl ?_
    refine V_aload_n (pc := 29) C dX3_takesOfPerson_29 rfl 0 rfl ?_
    refine gf_X3_48 (x := (((f 2) * 10) + v)) (pc := 30) C dX3_takesOfPerson_30 0 rfl rfl ?_
    refine V_iast (f := T0) (ws' := [(o, .inr (3, fX3 q (up f 2 (((f 2) * 10) + v)))), (t, .inr (6, fX6 qt ft)), (qt 0, aI (d 0) 6 (uI T0 (ft 6) (((f 2) * 10) + v))), (qt 1, aI (d 0) 6 T1), (qt 3, aI (d 0) 6 T3), (qt 4, aI (d 0) 4 T4), (qt 5, aI (d 0) 4 T5)]) (pc := 33) C dX3_takesOfPerson_33 2 rfl (by omega) (by omega) (Nat.le_of_ble_eq_true rfl) rfl ?_
    refine V_aload_n (pc := 34) C dX3_takesOfPerson_34 rfl 0 rfl ?_
    refine gf_X3_48 (x := (((f 2) * 10) + v)) (pc := 35) C dX3_takesOfPerson_35 0 rfl rfl ?_
    refine V_if_le (pc := 38) 45 C dX3_takesOfPerson_38 (by decide) (sm_i (by omega)) (fun c38 => ?_) (fun c38 => ?_)
    · refine V_iconst (pc := 45) C dX3_takesOfPerson_45 ?_
      refine V_istore_n (lv' := [(3, .int (iI 0)), (0, .ref o), (1, .int (iI v)), (2, .ref t)]) (pc := 46) C dX3_takesOfPerson_46 rfl (by decide) rfl ?_
      refine V_aload_n (pc := 47) C dX3_takesOfPerson_47 rfl 1 rfl ?_
      refine V_iconst (pc := 48) C dX3_takesOfPerson_48 ?_
      refine pf_X3_48 (ws' := [(o, .inr (3, fX3 q (up (up f 2 (((f 2) * 10) + v)) 2 0))), (t, .inr (6, fX6 qt ft)), (qt 0, aI (d 0) 6 (uI T0 (ft 6) (((f 2) * 10) + v))), (qt 1, aI (d 0) 6 T1), (qt 3, aI (d 0) 6 T3), (qt 4, aI (d 0) 4 T4), (qt 5, aI (d 0) 4 T5)]) (pc := 49) C dX3_takesOfPerson_49 0 rfl rfl ?_
      refine V_iload_n (pc := 52) C dX3_takesOfPerson_52 rfl 0 rfl ?_
      exact V_zret (pc := 53) C Z dX3_takesOfPerson_53 (Or.inl rfl) (0, (up (up f 2 (((f 2) * 10) + v)) 2 0), ft, uI T0 (ft 6) (((f 2) * 10) + v), T1, T3, T4, T5) (by unfold rdPerson bI; (try dsimp only); (repeat' split) <;> first | rfl | omega) (ri (by rfl)) rfl
    · refine V_iconst (pc := 41) C dX3_takesOfPerson_41 ?_
      refine V_goto (pc := 42) 46 C dX3_takesOfPerson_42 (by decide) ?_
      refine V_istore_n (lv' := [(3, .int (iI 1)), (0, .ref o), (1, .int (iI v)), (2, .ref t)]) (pc := 46) C dX3_takesOfPerson_46 rfl (by decide) rfl ?_
      refine V_aload_n (pc := 47) C dX3_takesOfPerson_47 rfl 1 rfl ?_
      refine V_iconst (pc := 48) C dX3_takesOfPerson_48 ?_
      refine pf_X3_48 (ws' := [(o, .inr (3, fX3 q (up (up f 2 (((f 2) * 10) + v)) 2 0))), (t, .inr (6, fX6 qt ft)), (qt 0, aI (d 0) 6 (uI T0 (ft 6) (((f 2) * 10) + v))), (qt 1, aI (d 0) 6 T1), (qt 3, aI (d 0) 6 T3), (qt 4, aI (d 0) 4 T4), (qt 5, aI (d 0) 4 T5)]) (pc := 49) C dX3_takesOfPerson_49 0 rfl rfl ?_
      refine V_iload_n (pc := 52) C dX3_takesOfPerson_52 rfl 0 rfl ?_
      exact V_zret (pc := 53) C Z dX3_takesOfPerson_53 (Or.inr rfl) (1, (up (up f 2 (((f 2) * 10) + v)) 2 0), ft, uI T0 (ft 6) (((f 2) * 10) + v), T1, T3, T4, T5) (by unfold rdPerson bI; (try dsimp only); (repeat' split) <;> first | rfl | omega) (ri (by rfl)) rfl
set_option maxRecDepth 100000 in
set_option maxHeartbeats 4000000 in
theorem c_X3_takesOfCounter (l : Launch) (D : va_G) (d : Nat → ClassId) (o : Nat) (t : Nat) (q : Nat → Nat) (qt : Nat → Nat) (f : Nat → Int) (ft : Nat → Int) (T0 : Int → Int) (T1 : Int → Int) (T3 : Int → Int) (T4 : Int → Int) (T5 : Int → Int) (v : Int) (h7 : 0 ≤ ft 7 ∧ ft 7 < 4) (h2 : 0 ≤ f 2 ∧ f 2 ≤ 999) (h1 : 0 ≤ f 1 ∧ f 1 ≤ 9) (hv : 0 ≤ v ∧ v ≤ 9) : CU l yX3_takesOfCounter cX3_takesOfCounter 4 (some .boolean) 0 0 D d [.ref o, .int (iI v), .ref t] [(o, .inr (3, fX3 q f)), (t, .inr (6, fX6 qt ft)), (qt 0, aI (d 0) 6 T0), (qt 1, aI (d 0) 6 T1), (qt 3, aI (d 0) 6 T3), (qt 4, aI (d 0) 4 T4), (qt 5, aI (d 0) 4 T5)] (fun (u : Int × ((Nat → Int) × (Nat → Int) × (Int → Int) × (Int → Int) × (Int → Int) × (Int → Int) × (Int → Int))) => u = rdCounter v f ft T0 T1 T3 T4 T5) (fun (u : Int × ((Nat → Int) × (Nat → Int) × (Int → Int) × (Int → Int) × (Int → Int) × (Int → Int) × (Int → Int))) => some (.int (iI (u.1)))) (fun (u : Int × ((Nat → Int) × (Nat → Int) × (Int → Int) × (Int → Int) × (Int → Int) × (Int → Int) × (Int → Int))) => [(o, .inr (3, fX3 q u.2.1)), (t, .inr (6, fX6 qt u.2.2.1)), (qt 0, aI (d 0) 6 u.2.2.2.1), (qt 1, aI (d 0) 6 u.2.2.2.2.1), (qt 3, aI (d 0) 6 u.2.2.2.2.2.1), (qt 4, aI (d 0) 4 u.2.2.2.2.2.2.1), (qt 5, aI (d 0) 4 u.2.2.2.2.2.2.2)]) := by
  refine CU.mk (own := RX3) (lv := [(0, .ref o), (1, .int (iI v)), (2, .ref t)]) rfl (by decide) (Nat.le_of_ble_eq_true rfl) rfl ?_
  intro p9 e9 R9 s9 m9 args9 below9 meth9 c9 A9 Q9 hRf hRl C Z
  refine V_aload_n (pc := 0) C dX3_takesOfCounter_0 rfl 0 rfl ?_
  refine V_aload_n (pc := 1) C dX3_takesOfCounter_1 rfl 0 rfl ?_
  refine gf_X3_48 (x := f 2) (pc := 2) C dX3_takesOfCounter_2 0 rfl rfl ?_
  refine V_bipush (pc := 5) C dX3_takesOfCounter_5 rfl ?_
  refine V_imul (pc := 7) C dX3_takesOfCounter_7 ?_
  refine V_iload_n (pc := 8) C dX3_takesOfCounter_8 rfl 1 rfl ?_
  refine V_iadd (pc := 9) C dX3_takesOfCounter_9 ?_
  refine pf_X3_48 (ws' := [(o, .inr (3, fX3 q (up f 2 (((f 2) * 10) + v)))), (t, .inr (6, fX6 qt ft)), (qt 0, aI (d 0) 6 T0), (qt 1, aI (d 0) 6 T1), (qt 3, aI (d 0) 6 T3), (qt 4, aI (d 0) 4 T4), (qt 5, aI (d 0) 4 T5)]) (pc := 10) C dX3_takesOfCounter_10 0 rfl rfl ?_
  refine V_aload_n (pc := 13) C dX3_takesOfCounter_13 rfl 0 rfl ?_
  refine gf_X3_36 (x := f 1) (pc := 14) C dX3_takesOfCounter_14 0 rfl rfl ?_
  refine V_iconst (pc := 17) C dX3_takesOfCounter_17 ?_
  refine V_icmp_ne (pc := 18) 54 C dX3_takesOfCounter_18 (by decide) (sm_i (by omega)) (sm_i (by decide)) (fun c18 => ?_) (fun c18 => ?_)
  · refine V_aload_n (pc := 54) C dX3_takesOfCounter_54 rfl 0 rfl ?_
    refine gf_X3_36 (x := f 1) (pc := 55) C dX3_takesOfCounter_55 0 rfl rfl ?_
    refine V_bipush (pc := 58) C dX3_takesOfCounter_58 rfl ?_
    refine V_icmp_ne (pc := 60) 91 C dX3_takesOfCounter_60 (by decide) (sm_i (by omega)) (sm_i (by decide)) (fun c60 => ?_) (fun c60 => ?_)
    · refine V_iconst (pc := 91) C dX3_takesOfCounter_91 ?_
      exact V_zret (pc := 92) C Z dX3_takesOfCounter_92 (Or.inr rfl) (1, (up f 2 (((f 2) * 10) + v)), ft, T0, T1, T3, T4, T5) (by unfold rdCounter bI; (try dsimp only); (repeat' split) <;> first | rfl | omega) (ri (by rfl)) rfl
    · refine V_aload_n (pc := 63) C dX3_takesOfCounter_63 rfl 2 rfl ?_
      refine gf_X3_69 (x := qt 5) (pc := 64) C dX3_takesOfCounter_64 1 rfl rfl ?_
      refine V_aload_n (pc := 67) C dX3_takesOfCounter_67 rfl 2 rfl ?_
      refine gf_X3_54 (x := ft 7) (pc := 68) C dX3_takesOfCounter_68 1 rfl rfl ?_
      refine V_aload_n (pc := 71) C dX3_takesOfCounter_71 rfl 0 rfl ?_
      refine gf_X3_48 (x := (((f 2) * 10) + v)) (pc := 72) C dX3_takesOfCounter_72 0 rfl rfl ?_
      refine V_iast (f := T5) (ws' := [(o, .inr (3, fX3 q (up f 2 (((f 2) * 10) + v)))), (t, .inr (6, fX6 qt ft)), (qt 0, aI (d 0) 6 T0), (qt 1, aI (d 0) 6 T1), (qt 3, aI (d 0) 6 T3), (qt 4, aI (d 0) 4 T4), (qt 5, aI (d 0) 4 (uI T5 (ft 7) (((f 2) * 10) + v)))]) (pc := 75) C dX3_takesOfCounter_75 6 rfl (by omega) (by omega) (Nat.le_of_ble_eq_true rfl) rfl ?_
      refine V_aload_n (pc := 76) C dX3_takesOfCounter_76 rfl 2 rfl ?_
      refine V_dup (pc := 77) C dX3_takesOfCounter_77 rfl ?_
      refine gf_X3_54 (x := ft 7) (pc := 78) C dX3_takesOfCounter_78 1 rfl rfl ?_
      refine V_iconst (pc := 81) C dX3_takesOfCounter_81 ?_
      refine V_iadd (pc := 82) C dX3_takesOfCounter_82 ?_
      refine pf_X3_54 (ws' := [(o, .inr (3, fX3 q (up f 2 (((f 2) * 10) + v)))), (t, .inr (6, fX6 qt (up ft 7 ((ft 7) + 1)))), (qt 0, aI (d 0) 6 T0), (qt 1, aI (d 0) 6 T1), (qt 3, aI (d 0) 6 T3), (qt 4, aI (d 0) 4 T4), (qt 5, aI (d 0) 4 (uI T5 (ft 7) (((f 2) * 10) + v)))]) (pc := 83) C dX3_takesOfCounter_83 1 rfl rfl ?_
      refine V_aload_n (pc := 86) C dX3_takesOfCounter_86 rfl 0 rfl ?_
      refine V_iconst (pc := 87) C dX3_takesOfCounter_87 ?_
      refine pf_X3_16 (ws' := [(o, .inr (3, fX3 q (up (up f 2 (((f 2) * 10) + v)) 0 0))), (t, .inr (6, fX6 qt (up ft 7 ((ft 7) + 1)))), (qt 0, aI (d 0) 6 T0), (qt 1, aI (d 0) 6 T1), (qt 3, aI (d 0) 6 T3), (qt 4, aI (d 0) 4 T4), (qt 5, aI (d 0) 4 (uI T5 (ft 7) (((f 2) * 10) + v)))]) (pc := 88) C dX3_takesOfCounter_88 0 rfl rfl ?_
      refine V_iconst (pc := 91) C dX3_takesOfCounter_91 ?_
      exact V_zret (pc := 92) C Z dX3_takesOfCounter_92 (Or.inr rfl) (1, (up (up f 2 (((f 2) * 10) + v)) 0 0), (up ft 7 ((ft 7) + 1)), T0, T1, T3, T4, uI T5 (ft 7) (((f 2) * 10) + v)) (by unfold rdCounter bI; (try dsimp only); (repeat' split) <;> first | rfl | omega) (ri (by rfl)) rfl
  · refine V_aload_n (pc := 21) C dX3_takesOfCounter_21 rfl 2 rfl ?_
    refine gf_X3_66 (x := qt 4) (pc := 22) C dX3_takesOfCounter_22 1 rfl rfl ?_
    refine V_aload_n (pc := 25) C dX3_takesOfCounter_25 rfl 2 rfl ?_
    refine gf_X3_54 (x := ft 7) (pc := 26) C dX3_takesOfCounter_26 1 rfl rfl ?_
    refine V_aload_n (pc := 29) C dX3_takesOfCounter_29 rfl 0 rfl ?_
    refine gf_X3_48 (x := (((f 2) * 10) + v)) (pc := 30) C dX3_takesOfCounter_30 0 rfl rfl ?_
    refine V_iast (f := T4) (ws' := [(o, .inr (3, fX3 q (up f 2 (((f 2) * 10) + v)))), (t, .inr (6, fX6 qt ft)), (qt 0, aI (d 0) 6 T0), (qt 1, aI (d 0) 6 T1), (qt 3, aI (d 0) 6 T3), (qt 4, aI (d 0) 4 (uI T4 (ft 7) (((f 2) * 10) + v))), (qt 5, aI (d 0) 4 T5)]) (pc := 33) C dX3_takesOfCounter_33 5 rfl (by omega) (by omega) (Nat.le_of_ble_eq_true rfl) rfl ?_
    refine V_aload_n (pc := 34) C dX3_takesOfCounter_34 rfl 0 rfl ?_
    refine gf_X3_48 (x := (((f 2) * 10) + v)) (pc := 35) C dX3_takesOfCounter_35 0 rfl rfl ?_
    refine V_if_le (pc := 38) 45 C dX3_takesOfCounter_38 (by decide) (sm_i (by omega)) (fun c38 => ?_) (fun c38 => ?_)
    · refine V_iconst (pc := 45) C dX3_takesOfCounter_45 ?_
      refine V_istore_n (lv' := [(3, .int (iI 0)), (0, .ref o), (1, .int (iI v)), (2, .ref t)]) (pc := 46) C dX3_takesOfCounter_46 rfl (by decide) rfl ?_
      refine V_aload_n (pc := 47) C dX3_takesOfCounter_47 rfl 1 rfl ?_
      refine V_iconst (pc := 48) C dX3_takesOfCounter_48 ?_
      refine pf_X3_48 (ws' := [(o, .inr (3, fX3 q (up (up f 2 (((f 2) * 10) + v)) 2 0))), (t, .inr (6, fX6 qt ft)), (qt 0, aI (d 0) 6 T0), (qt 1, aI (d 0) 6 T1), (qt 3, aI (d 0) 6 T3), (qt 4, aI (d 0) 4 (uI T4 (ft 7) (((f 2) * 10) + v))), (qt 5, aI (d 0) 4 T5)]) (pc := 49) C dX3_takesOfCounter_49 0 rfl rfl ?_
      refine V_iload_n (pc := 52) C dX3_takesOfCounter_52 rfl 0 rfl ?_
      exact V_zret (pc := 53) C Z dX3_takesOfCounter_53 (Or.inl rfl) (0, (up (up f 2 (((f 2) * 10) + v)) 2 0), ft, T0, T1, T3, uI T4 (ft 7) (((f 2) * 10) + v), T5) (by unfold rdCounter bI; (try dsimp only); (repeat' split) <;> first | rfl | omega) (ri (by rfl)) rfl
    · refine V_iconst (pc := 41) C dX3_takesOfCounter_41 ?_
      refine V_goto (pc := 42) 46 C dX3_takesOfCounter_42 (by decide) ?_
      refine V_istore_n (lv' := [(3, .int (iI 1)), (0, .ref o), (1, .int (iI v)), (2, .ref t)]) (pc := 46) C dX3_takesOfCounter_46 rfl (by decide) rfl ?_
      refine V_aload_n (pc := 47) C dX3_takesOfCounter_47 rfl 1 rfl ?_
      refine V_iconst (pc := 48) C dX3_takesOfCounter_48 ?_
      refine pf_X3_48 (ws' := [(o, .inr (3, fX3 q (up (up f 2 (((f 2) * 10) + v)) 2 0))), (t, .inr (6, fX6 qt ft)), (qt 0, aI (d 0) 6 T0), (qt 1, aI (d 0) 6 T1), (qt 3, aI (d 0) 6 T3), (qt 4, aI (d 0) 4 (uI T4 (ft 7) (((f 2) * 10) + v))), (qt 5, aI (d 0) 4 T5)]) (pc := 49) C dX3_takesOfCounter_49 0 rfl rfl ?_
      refine V_iload_n (pc := 52) C dX3_takesOfCounter_52 rfl 0 rfl ?_
      exact V_zret (pc := 53) C Z dX3_takesOfCounter_53 (Or.inr rfl) (1, (up (up f 2 (((f 2) * 10) + v)) 2 0), ft, T0, T1, T3, uI T4 (ft 7) (((f 2) * 10) + v), T5) (by unfold rdCounter bI; (try dsimp only); (repeat' split) <;> first | rfl | omega) (ri (by rfl)) rfl
set_option maxRecDepth 100000 in
set_option maxHeartbeats 4000000 in
theorem c_X3_takesOfBar (l : Launch) (D : va_G) (d : Nat → ClassId) (o : Nat) (t : Nat) (q : Nat → Nat) (qt : Nat → Nat) (f : Nat → Int) (ft : Nat → Int) (T0 : Int → Int) (T1 : Int → Int) (T3 : Int → Int) (T4 : Int → Int) (T5 : Int → Int) (v : Int) (h6 : 0 ≤ ft 6 ∧ ft 6 ≤ 6) (h7 : 0 ≤ ft 7 ∧ ft 7 ≤ 4) (h1 : 0 ≤ f 1 ∧ f 1 ≤ 9) (h3 : ¬ f 1 = 1 → 0 ≤ f 3 ∧ f 3 < 6) (hT3 : bd T3 0 15) (hv : 0 ≤ v ∧ v ≤ 9) : CU l yX3_takesOfBar cX3_takesOfBar 3 (some .boolean) 1 22 D d [.ref o, .int (iI v), .ref t] [(o, .inr (3, fX3 q f)), (t, .inr (6, fX6 qt ft)), (qt 0, aI (d 0) 6 T0), (qt 1, aI (d 0) 6 T1), (qt 3, aI (d 0) 6 T3), (qt 4, aI (d 0) 4 T4), (qt 5, aI (d 0) 4 T5)] (fun (u : Int × ((Nat → Int) × (Nat → Int) × (Int → Int) × (Int → Int) × (Int → Int) × (Int → Int) × (Int → Int))) => u = rdBar v f ft T0 T1 T3 T4 T5) (fun (u : Int × ((Nat → Int) × (Nat → Int) × (Int → Int) × (Int → Int) × (Int → Int) × (Int → Int) × (Int → Int))) => some (.int (iI (u.1)))) (fun (u : Int × ((Nat → Int) × (Nat → Int) × (Int → Int) × (Int → Int) × (Int → Int) × (Int → Int) × (Int → Int))) => [(o, .inr (3, fX3 q u.2.1)), (t, .inr (6, fX6 qt u.2.2.1)), (qt 0, aI (d 0) 6 u.2.2.2.1), (qt 1, aI (d 0) 6 u.2.2.2.2.1), (qt 3, aI (d 0) 6 u.2.2.2.2.2.1), (qt 4, aI (d 0) 4 u.2.2.2.2.2.2.1), (qt 5, aI (d 0) 4 u.2.2.2.2.2.2.2)]) := by
  refine CU.mk (own := RX3) (lv := [(0, .ref o), (1, .int (iI v)), (2, .ref t)]) rfl (by decide) (Nat.le_of_ble_eq_true rfl) rfl ?_
  intro p9 e9 R9 s9 m9 args9 below9 meth9 c9 A9 Q9 hRf hRl C Z
  refine V_aload_n (pc := 0) C dX3_takesOfBar_0 rfl 0 rfl ?_
  refine gf_X3_36 (x := f 1) (pc := 1) C dX3_takesOfBar_1 0 rfl rfl ?_
  refine V_iconst (pc := 4) C dX3_takesOfBar_4 ?_
  refine V_icmp_ne (pc := 5) 43 C dX3_takesOfBar_5 (by decide) (sm_i (by omega)) (sm_i (by decide)) (fun c5 => ?_) (fun c5 => ?_)
  · refine V_aload_n (pc := 43) C dX3_takesOfBar_43 rfl 2 rfl ?_
    refine V_iload_n (pc := 44) C dX3_takesOfBar_44 rfl 1 rfl ?_
    refine cv_X3_88 (pc := 45) (rest := []) (wn := fun _ => [(o, .inr (3, fX3 q f)), (t, .inr (6, fX6 qt ft)), (qt 0, aI (d 0) 6 T0), (qt 1, aI (d 0) 6 T1), (qt 3, aI (d 0) 6 T3), (qt 4, aI (d 0) 4 T4), (qt 5, aI (d 0) 4 T5)]) (sn := fun _ => [.int (iI (bI (0 ≤ v ∧ v < (ft 7))))]) C dX3_takesOfBar_45 (c_X6_hasCounter l D d t qt ft v (show -2147483648 ≤ v ∧ v ≤ 2147483647 by omega) h7) [1] rfl rfl 1 rfl rfl rfl (Nat.le_of_ble_eq_true rfl) ⟨by omega, by omega⟩ ⟨Nat.zero_le _, Nat.zero_le _⟩ (fun _ => rfl) (fun _ => rfl) (fun _ => rfl) ?_
    intro _ _
    refine V_ifb_eq (pc := 48) 63 C dX3_takesOfBar_48 (by decide) (fun c48 => ?_) (fun c48 => ?_)
    · refine V_iconst (pc := 63) C dX3_takesOfBar_63 ?_
      exact V_zret (pc := 64) C Z dX3_takesOfBar_64 (Or.inl rfl) (0, f, ft, T0, T1, T3, T4, T5) (by unfold rdBar bI bitI; (try dsimp only); (repeat' split) <;> first | rfl | omega) (ri (by rfl)) rfl
    · refine V_aload_n (pc := 51) C dX3_takesOfBar_51 rfl 2 rfl ?_
      refine V_aload_n (pc := 52) C dX3_takesOfBar_52 rfl 0 rfl ?_
      refine gf_X3_72 (x := f 3) (pc := 53) C dX3_takesOfBar_53 0 rfl rfl ?_
      refine V_iload_n (pc := 56) C dX3_takesOfBar_56 rfl 1 rfl ?_
      refine cv_X3_91 (pc := 57) (rest := []) (wn := fun _ => [(o, .inr (3, fX3 q f)), (t, .inr (6, fX6 qt ft)), (qt 0, aI (d 0) 6 T0), (qt 1, aI (d 0) 6 T1), (qt 3, aI (d 0) 6 T3), (qt 4, aI (d 0) 4 T4), (qt 5, aI (d 0) 4 T5)]) (sn := fun _ => [.int (iI (bI (T3 (f 3) / 2 ^ v.toNat % 2 = 1)))]) C dX3_takesOfBar_57 (c_X6_bars l D d t qt ft (f 3) v T3 (show 0 ≤ (f 3) ∧ (f 3) < 6 by omega) (show 0 ≤ v ∧ v < 4 by omega) hT3) [1, 4] rfl rfl 1 rfl rfl rfl (Nat.le_of_ble_eq_true rfl) ⟨by omega, by omega⟩ ⟨Nat.zero_le _, Nat.zero_le _⟩ (fun _ => rfl) (fun _ => rfl) (fun _ => rfl) ?_
      intro _ _
      refine V_ifb_eq (pc := 60) 65 C dX3_takesOfBar_60 (by decide) (fun c60 => ?_) (fun c60 => ?_)
      · refine V_aload_n (pc := 65) C dX3_takesOfBar_65 rfl 2 rfl ?_
        refine gf_X3_79 (x := qt 3) (pc := 66) C dX3_takesOfBar_66 1 rfl rfl ?_
        refine V_aload_n (pc := 69) C dX3_takesOfBar_69 rfl 0 rfl ?_
        refine gf_X3_72 (x := f 3) (pc := 70) C dX3_takesOfBar_70 0 rfl rfl ?_
        refine V_dup2 (pc := 73) C dX3_takesOfBar_73 rfl rfl ?_
        refine V_iald (f := T3) (pc := 74) C dX3_takesOfBar_74 4 rfl (by omega) (by omega) (Nat.le_of_ble_eq_true rfl) ?_
        have b74 := hT3 (f 3)
        refine V_iconst (pc := 75) C dX3_takesOfBar_75 ?_
        refine V_iload_n (pc := 76) C dX3_takesOfBar_76 rfl 1 rfl ?_
        refine V_ishl (z := (2 ^ v.toNat)) (pc := 77) C dX3_takesOfBar_77 (shl1_i (by omega) (by omega)) ?_
        refine V_ior (z := (iOr (T3 (f 3)) (2 ^ v.toNat))) (pc := 78) C dX3_takesOfBar_78 (or_i (by omega) (Int.le_of_lt (p2_pos _))) ?_
        refine V_iast (f := T3) (ws' := [(o, .inr (3, fX3 q f)), (t, .inr (6, fX6 qt ft)), (qt 0, aI (d 0) 6 T0), (qt 1, aI (d 0) 6 T1), (qt 3, aI (d 0) 6 (uI T3 (f 3) (iOr (T3 (f 3)) (2 ^ v.toNat)))), (qt 4, aI (d 0) 4 T4), (qt 5, aI (d 0) 4 T5)]) (pc := 79) C dX3_takesOfBar_79 4 rfl (by omega) (by omega) (Nat.le_of_ble_eq_true rfl) rfl ?_
        refine V_aload_n (pc := 80) C dX3_takesOfBar_80 rfl 2 rfl ?_
        refine V_dup (pc := 81) C dX3_takesOfBar_81 rfl ?_
        refine gf_X3_57 (x := ft 8) (pc := 82) C dX3_takesOfBar_82 1 rfl rfl ?_
        refine V_iconst (pc := 85) C dX3_takesOfBar_85 ?_
        refine V_iadd (pc := 86) C dX3_takesOfBar_86 ?_
        refine pf_X3_57 (ws' := [(o, .inr (3, fX3 q f)), (t, .inr (6, fX6 qt (up ft 8 ((ft 8) + 1)))), (qt 0, aI (d 0) 6 T0), (qt 1, aI (d 0) 6 T1), (qt 3, aI (d 0) 6 (uI T3 (f 3) (iOr (T3 (f 3)) (2 ^ v.toNat)))), (qt 4, aI (d 0) 4 T4), (qt 5, aI (d 0) 4 T5)]) (pc := 87) C dX3_takesOfBar_87 1 rfl rfl ?_
        refine V_aload_n (pc := 90) C dX3_takesOfBar_90 rfl 0 rfl ?_
        refine V_iconst (pc := 91) C dX3_takesOfBar_91 ?_
        refine pf_X3_16 (ws' := [(o, .inr (3, fX3 q (up f 0 0))), (t, .inr (6, fX6 qt (up ft 8 ((ft 8) + 1)))), (qt 0, aI (d 0) 6 T0), (qt 1, aI (d 0) 6 T1), (qt 3, aI (d 0) 6 (uI T3 (f 3) (iOr (T3 (f 3)) (2 ^ v.toNat)))), (qt 4, aI (d 0) 4 T4), (qt 5, aI (d 0) 4 T5)]) (pc := 92) C dX3_takesOfBar_92 0 rfl rfl ?_
        refine V_iconst (pc := 95) C dX3_takesOfBar_95 ?_
        exact V_zret (pc := 96) C Z dX3_takesOfBar_96 (Or.inr rfl) (1, (up f 0 0), (up ft 8 ((ft 8) + 1)), T0, T1, uI T3 (f 3) (iOr (T3 (f 3)) (2 ^ v.toNat)), T4, T5) (by unfold rdBar bI bitI; (try dsimp only); (repeat' split) <;> first | rfl | omega) (ri (by rfl)) rfl
      · refine V_iconst (pc := 63) C dX3_takesOfBar_63 ?_
        exact V_zret (pc := 64) C Z dX3_takesOfBar_64 (Or.inl rfl) (0, f, ft, T0, T1, T3, T4, T5) (by unfold rdBar bI bitI; (try dsimp only); (repeat' split) <;> first | rfl | omega) (ri (by rfl)) rfl
  · refine V_aload_n (pc := 8) C dX3_takesOfBar_8 rfl 0 rfl ?_
    refine V_iload_n (pc := 9) C dX3_takesOfBar_9 rfl 1 rfl ?_
    refine pf_X3_72 (ws' := [(o, .inr (3, fX3 q (up f 3 v))), (t, .inr (6, fX6 qt ft)), (qt 0, aI (d 0) 6 T0), (qt 1, aI (d 0) 6 T1), (qt 3, aI (d 0) 6 T3), (qt 4, aI (d 0) 4 T4), (qt 5, aI (d 0) 4 T5)]) (pc := 10) C dX3_takesOfBar_10 0 rfl rfl ?_
    refine V_aload_n (pc := 13) C dX3_takesOfBar_13 rfl 2 rfl ?_
    refine V_iload_n (pc := 14) C dX3_takesOfBar_14 rfl 1 rfl ?_
    refine cv_X3_75 (pc := 15) (rest := []) (wn := fun _ => [(o, .inr (3, fX3 q (up f 3 v))), (t, .inr (6, fX6 qt ft)), (qt 0, aI (d 0) 6 T0), (qt 1, aI (d 0) 6 T1), (qt 3, aI (d 0) 6 T3), (qt 4, aI (d 0) 4 T4), (qt 5, aI (d 0) 4 T5)]) (sn := fun _ => [.int (iI (bI (0 ≤ v ∧ v < (ft 6))))]) C dX3_takesOfBar_15 (c_X6_hasPerson l D d t qt ft v (show -2147483648 ≤ v ∧ v ≤ 2147483647 by omega) h6) [1] rfl rfl 1 rfl rfl rfl (Nat.le_of_ble_eq_true rfl) ⟨by omega, by omega⟩ ⟨Nat.zero_le _, Nat.zero_le _⟩ (fun _ => rfl) (fun _ => rfl) (fun _ => rfl) ?_
    intro _ _
    refine V_ifb_eq (pc := 18) 41 C dX3_takesOfBar_18 (by decide) (fun c18 => ?_) (fun c18 => ?_)
    · refine V_iconst (pc := 41) C dX3_takesOfBar_41 ?_
      exact V_zret (pc := 42) C Z dX3_takesOfBar_42 (Or.inl rfl) (0, (up f 3 v), ft, T0, T1, T3, T4, T5) (by unfold rdBar bI bitI; (try dsimp only); (repeat' split) <;> first | rfl | omega) (ri (by rfl)) rfl
    · refine V_aload_n (pc := 21) C dX3_takesOfBar_21 rfl 2 rfl ?_
      refine gf_X3_79 (x := qt 3) (pc := 22) C dX3_takesOfBar_22 1 rfl rfl ?_
      refine V_iload_n (pc := 25) C dX3_takesOfBar_25 rfl 1 rfl ?_
      refine V_iald (f := T3) (pc := 26) C dX3_takesOfBar_26 4 rfl (by omega) (by omega) (Nat.le_of_ble_eq_true rfl) ?_
      have b26 := hT3 v
      refine cs_X3_82 (pc := 27) (rest := []) (wn := fun _ => [(o, .inr (3, fX3 q (up f 3 v))), (t, .inr (6, fX6 qt ft)), (qt 0, aI (d 0) 6 T0), (qt 1, aI (d 0) 6 T1), (qt 3, aI (d 0) 6 T3), (qt 4, aI (d 0) 4 T4), (qt 5, aI (d 0) 4 T5)]) (sn := fun _ => [.int (iI (popI (T3 v)))]) C dX3_takesOfBar_27 (c_J6_bitCount_0f7a4 l D d (T3 v) (show 0 ≤ (T3 v) ∧ (T3 v) ≤ 1048575 by omega)) [] rfl rfl rfl rfl (Nat.le_of_ble_eq_true rfl) ⟨by omega, by omega⟩ ⟨Nat.zero_le _, Nat.zero_le _⟩ (fun _ => rfl) (fun _ => rfl) (fun _ => rfl) ?_
      intro _ _
      refine V_aload_n (pc := 30) C dX3_takesOfBar_30 rfl 2 rfl ?_
      refine gf_X3_54 (x := ft 7) (pc := 31) C dX3_takesOfBar_31 1 rfl rfl ?_
      have pb := popI_b (T3 v)
      refine V_icmp_ge (pc := 34) 41 C dX3_takesOfBar_34 (by decide) (sm_i (by omega)) (sm_i (by omega)) (fun c34 => ?_) (fun c34 => ?_)
      · refine V_iconst (pc := 41) C dX3_takesOfBar_41 ?_
        exact V_zret (pc := 42) C Z dX3_takesOfBar_42 (Or.inl rfl) (0, (up f 3 v), ft, T0, T1, T3, T4, T5) (by unfold rdBar bI bitI; (try dsimp only); (repeat' split) <;> first | rfl | omega) (ri (by rfl)) rfl
      · refine V_iconst (pc := 37) C dX3_takesOfBar_37 ?_
        refine V_goto (pc := 38) 42 C dX3_takesOfBar_38 (by decide) ?_
        exact V_zret (pc := 42) C Z dX3_takesOfBar_42 (Or.inr rfl) (1, (up f 3 v), ft, T0, T1, T3, T4, T5) (by unfold rdBar bI bitI; (try dsimp only); (repeat' split) <;> first | rfl | omega) (ri (by rfl)) rfl
set_option maxRecDepth 100000 in
set_option maxHeartbeats 4000000 in
theorem c_X3_takes (l : Launch) (D : va_G) (d : Nat → ClassId) (o : Nat) (t : Nat) (q : Nat → Nat) (qt : Nat → Nat) (f : Nat → Int) (ft : Nat → Int) (T0 : Int → Int) (T1 : Int → Int) (T3 : Int → Int) (T4 : Int → Int) (T5 : Int → Int) (c : Int) (hK : rdK (f, ft, T0, T1, T3, T4, T5)) (hc : 0 ≤ c ∧ c ≤ 255) : CU l yX3_takes cX3_takes 4 (some .boolean) 2 44 D d [.ref o, .int (iI c), .ref t] [(o, .inr (3, fX3 q f)), (t, .inr (6, fX6 qt ft)), (qt 0, aI (d 0) 6 T0), (qt 1, aI (d 0) 6 T1), (qt 3, aI (d 0) 6 T3), (qt 4, aI (d 0) 4 T4), (qt 5, aI (d 0) 4 T5)] (fun (u : Int × ((Nat → Int) × (Nat → Int) × (Int → Int) × (Int → Int) × (Int → Int) × (Int → Int) × (Int → Int))) => u = rdTakes c (f, ft, T0, T1, T3, T4, T5)) (fun (u : Int × ((Nat → Int) × (Nat → Int) × (Int → Int) × (Int → Int) × (Int → Int) × (Int → Int) × (Int → Int))) => some (.int (iI (u.1)))) (fun (u : Int × ((Nat → Int) × (Nat → Int) × (Int → Int) × (Int → Int) × (Int → Int) × (Int → Int) × (Int → Int))) => [(o, .inr (3, fX3 q u.2.1)), (t, .inr (6, fX6 qt u.2.2.1)), (qt 0, aI (d 0) 6 u.2.2.2.1), (qt 1, aI (d 0) 6 u.2.2.2.2.1), (qt 3, aI (d 0) 6 u.2.2.2.2.2.1), (qt 4, aI (d 0) 4 u.2.2.2.2.2.2.1), (qt 5, aI (d 0) 4 u.2.2.2.2.2.2.2)]) := by
  refine CU.mk (own := RX3) (lv := [(0, .ref o), (1, .int (iI c)), (2, .ref t)]) rfl (by decide) (Nat.le_of_ble_eq_true rfl) rfl ?_
  intro p9 e9 R9 s9 m9 args9 below9 meth9 c9 A9 Q9 hRf hRl C Z
  obtain ⟨⟨h6, h7, h8⟩, ⟨hT0, hT1, hT3, hT4, hT5⟩, -, hp⟩ := hK
  have f0 := rdP_4 hp
  refine V_aload_n (pc := 0) C dX3_takes_0 rfl 0 rfl ?_
  refine gf_X3_16 (x := f 0) (pc := 1) C dX3_takes_1 0 rfl rfl ?_
  refine V_if_ne (pc := 4) 14 C dX3_takes_4 (by decide) (sm_i (by omega)) (fun c4 => ?_) (fun c4 => ?_)
  · refine V_iload_n (pc := 14) C dX3_takes_14 rfl 1 rfl ?_
    refine V_bipush (pc := 15) C dX3_takes_15 rfl ?_
    refine V_icmp_lt (pc := 17) 26 C dX3_takes_17 (by decide) (sm_i (by omega)) (sm_i (by decide)) (fun c17 => ?_) (fun c17 => ?_)
    · refine V_iconst (pc := 26) C dX3_takes_26 ?_
      exact V_zret (pc := 27) C Z dX3_takes_27 (Or.inl rfl) (0, f, ft, T0, T1, T3, T4, T5) (by rw [rdTakes_m]; (repeat' split) <;> first | exact hu | rfl | omega) (ri (by rfl)) rfl
    · refine V_iload_n (pc := 20) C dX3_takes_20 rfl 1 rfl ?_
      refine V_bipush (pc := 21) C dX3_takes_21 rfl ?_
      refine V_icmp_le (pc := 23) 28 C dX3_takes_23 (by decide) (sm_i (by omega)) (sm_i (by decide)) (fun c23 => ?_) (fun c23 => ?_)
      · refine V_iload_n (pc := 28) C dX3_takes_28 rfl 1 rfl ?_
        refine V_bipush (pc := 29) C dX3_takes_29 rfl ?_
        refine V_isub (pc := 31) C dX3_takes_31 ?_
        refine V_istore_n (lv' := [(3, .int (iI (c - 48))), (0, .ref o), (1, .int (iI c)), (2, .ref t)]) (pc := 32) C dX3_takes_32 rfl (by decide) rfl ?_
        refine V_aload_n (pc := 33) C dX3_takes_33 rfl 1 rfl ?_
        refine V_dup (pc := 34) C dX3_takes_34 rfl ?_
        refine gf_X3_36 (x := f 1) (pc := 35) C dX3_takes_35 0 rfl rfl ?_
        refine V_iconst (pc := 38) C dX3_takes_38 ?_
        refine V_iadd (pc := 39) C dX3_takes_39 ?_
        refine pf_X3_36 (ws' := [(o, .inr (3, fX3 q (up f 1 ((f 1) + 1)))), (t, .inr (6, fX6 qt ft)), (qt 0, aI (d 0) 6 T0), (qt 1, aI (d 0) 6 T1), (qt 3, aI (d 0) 6 T3), (qt 4, aI (d 0) 4 T4), (qt 5, aI (d 0) 4 T5)]) (pc := 40) C dX3_takes_40 0 rfl rfl ?_
        refine V_aload_n (pc := 43) C dX3_takes_43 rfl 1 rfl ?_
        refine gf_X3_16 (x := f 0) (pc := 44) C dX3_takes_44 0 rfl rfl ?_
        refine V_bipush (pc := 47) C dX3_takes_47 rfl ?_
        refine V_icmp_ne (pc := 49) 59 C dX3_takes_49 (by decide) (sm_i (by omega)) (sm_i (by decide)) (fun c49 => ?_) (fun c49 => ?_)
        · refine V_aload_n (pc := 59) C dX3_takes_59 rfl 1 rfl ?_
          refine gf_X3_16 (x := f 0) (pc := 60) C dX3_takes_60 0 rfl rfl ?_
          refine V_bipush (pc := 63) C dX3_takes_63 rfl ?_
          refine V_icmp_ne (pc := 65) 77 C dX3_takes_65 (by decide) (sm_i (by omega)) (sm_i (by decide)) (fun c65 => ?_) (fun c65 => ?_)
          · refine V_aload_n (pc := 77) C dX3_takes_77 rfl 1 rfl ?_
            refine V_iload_n (pc := 78) C dX3_takes_78 rfl 0 rfl ?_
            refine V_aload_n (pc := 79) C dX3_takes_79 rfl 3 rfl ?_
            obtain ⟨-, q8, qa⟩ := rdP_n hp (by omega) (by omega) (by omega)
            refine cv_X3_45 (pc := 80) (rest := []) (wn := fun u => [(o, .inr (3, fX3 q u.2.1)), (t, .inr (6, fX6 qt u.2.2.1)), (qt 0, aI (d 0) 6 u.2.2.2.1), (qt 1, aI (d 0) 6 u.2.2.2.2.1), (qt 3, aI (d 0) 6 u.2.2.2.2.2.1), (qt 4, aI (d 0) 4 u.2.2.2.2.2.2.1), (qt 5, aI (d 0) 4 u.2.2.2.2.2.2.2)]) (sn := fun u => [.int (iI u.1)]) C dX3_takes_80 (c_X3_takesOfBar l D d o t q qt (up f 1 ((f 1) + 1)) ft T0 T1 T3 T4 T5 (c - 48) (show 0 ≤ (ft 6) ∧ (ft 6) ≤ 6 by omega) (show 0 ≤ (ft 7) ∧ (ft 7) ≤ 4 by omega) (show 0 ≤ ((f 1) + 1) ∧ ((f 1) + 1) ≤ 9 by omega) (fun z => by have z : ¬ f 1 + 1 = 1 := z; show 0 ≤ f 3 ∧ f 3 < 6; omega) hT3 (show 0 ≤ (c - 48) ∧ (c - 48) ≤ 9 by omega)) [0, 1, 2, 3, 4, 5, 6] rfl rfl 0 rfl rfl rfl (Nat.le_of_ble_eq_true rfl) ⟨by omega, by omega⟩ ⟨Nat.zero_le _, Nat.zero_le _⟩ (fun u => rfl) (fun u => rfl) (fun u => rfl) ?_
            rintro u hu
            exact V_zret (pc := 83) C Z dX3_takes_83 (by rw [hu]; first | exact rdOpens_01 | exact rdPerson_01 | exact rdCounter_01 | exact rdBar_01) (u.1, u.2.1, u.2.2.1, u.2.2.2.1, u.2.2.2.2.1, u.2.2.2.2.2.1, u.2.2.2.2.2.2.1, u.2.2.2.2.2.2.2) (by rw [rdTakes_m]; (repeat' split) <;> first | exact hu | rfl | omega) (ri (by rfl)) rfl
          · refine V_aload_n (pc := 68) C dX3_takes_68 rfl 1 rfl ?_
            refine V_iload_n (pc := 69) C dX3_takes_69 rfl 0 rfl ?_
            refine V_aload_n (pc := 70) C dX3_takes_70 rfl 3 rfl ?_
            obtain ⟨q7, qa⟩ := rdP_c hp (by omega)
            unfold rdC at qa
            refine cv_X3_42 (pc := 71) (rest := []) (wn := fun u => [(o, .inr (3, fX3 q u.2.1)), (t, .inr (6, fX6 qt u.2.2.1)), (qt 0, aI (d 0) 6 u.2.2.2.1), (qt 1, aI (d 0) 6 u.2.2.2.2.1), (qt 3, aI (d 0) 6 u.2.2.2.2.2.1), (qt 4, aI (d 0) 4 u.2.2.2.2.2.2.1), (qt 5, aI (d 0) 4 u.2.2.2.2.2.2.2)]) (sn := fun u => [.int (iI u.1)]) C dX3_takes_71 (c_X3_takesOfCounter l D d o t q qt (up f 1 ((f 1) + 1)) ft T0 T1 T3 T4 T5 (c - 48) (show 0 ≤ (ft 7) ∧ (ft 7) < 4 by omega) (show 0 ≤ (f 2) ∧ (f 2) ≤ 999 by omega) (show 0 ≤ ((f 1) + 1) ∧ ((f 1) + 1) ≤ 9 by omega) (show 0 ≤ (c - 48) ∧ (c - 48) ≤ 9 by omega)) [0, 1, 2, 3, 4, 5, 6] rfl rfl 0 rfl rfl rfl (Nat.le_of_ble_eq_true rfl) ⟨by omega, by omega⟩ ⟨Nat.zero_le _, Nat.zero_le _⟩ (fun u => rfl) (fun u => rfl) (fun u => rfl) ?_
            rintro u hu
            refine V_goto (pc := 74) 83 C dX3_takes_74 (by decide) ?_
            exact V_zret (pc := 83) C Z dX3_takes_83 (by rw [hu]; first | exact rdOpens_01 | exact rdPerson_01 | exact rdCounter_01 | exact rdBar_01) (u.1, u.2.1, u.2.2.1, u.2.2.2.1, u.2.2.2.2.1, u.2.2.2.2.2.1, u.2.2.2.2.2.2.1, u.2.2.2.2.2.2.2) (by rw [rdTakes_m]; (repeat' split) <;> first | exact hu | rfl | omega) (ri (by rfl)) rfl
        · refine V_aload_n (pc := 52) C dX3_takes_52 rfl 1 rfl ?_
          refine V_iload_n (pc := 53) C dX3_takes_53 rfl 0 rfl ?_
          refine V_aload_n (pc := 54) C dX3_takes_54 rfl 3 rfl ?_
          obtain ⟨q6, qa⟩ := rdP_a hp (by omega)
          unfold rdA at qa
          refine cv_X3_39 (pc := 55) (rest := []) (wn := fun u => [(o, .inr (3, fX3 q u.2.1)), (t, .inr (6, fX6 qt u.2.2.1)), (qt 0, aI (d 0) 6 u.2.2.2.1), (qt 1, aI (d 0) 6 u.2.2.2.2.1), (qt 3, aI (d 0) 6 u.2.2.2.2.2.1), (qt 4, aI (d 0) 4 u.2.2.2.2.2.2.1), (qt 5, aI (d 0) 4 u.2.2.2.2.2.2.2)]) (sn := fun u => [.int (iI u.1)]) C dX3_takes_55 (c_X3_takesOfPerson l D d o t q qt (up f 1 ((f 1) + 1)) ft T0 T1 T3 T4 T5 (c - 48) (show 0 ≤ (ft 6) ∧ (ft 6) < 6 by omega) (show 0 ≤ (f 2) ∧ (f 2) ≤ 9 by omega) (show 0 ≤ ((f 1) + 1) ∧ ((f 1) + 1) ≤ 9 by omega) (show 0 ≤ (c - 48) ∧ (c - 48) ≤ 9 by omega)) [0, 1, 2, 3, 4, 5, 6] rfl rfl 0 rfl rfl rfl (Nat.le_of_ble_eq_true rfl) ⟨by omega, by omega⟩ ⟨Nat.zero_le _, Nat.zero_le _⟩ (fun u => rfl) (fun u => rfl) (fun u => rfl) ?_
          rintro u hu
          exact V_zret (pc := 58) C Z dX3_takes_58 (by rw [hu]; first | exact rdOpens_01 | exact rdPerson_01 | exact rdCounter_01 | exact rdBar_01) (u.1, u.2.1, u.2.2.1, u.2.2.2.1, u.2.2.2.2.1, u.2.2.2.2.2.1, u.2.2.2.2.2.2.1, u.2.2.2.2.2.2.2) (by rw [rdTakes_m]; (repeat' split) <;> first | exact hu | rfl | omega) (ri (by rfl)) rfl
      · refine V_iconst (pc := 26) C dX3_takes_26 ?_
        exact V_zret (pc := 27) C Z dX3_takes_27 (Or.inl rfl) (0, f, ft, T0, T1, T3, T4, T5) (by rw [rdTakes_m]; (repeat' split) <;> first | exact hu | rfl | omega) (ri (by rfl)) rfl
  · refine V_aload_n (pc := 7) C dX3_takes_7 rfl 0 rfl ?_
    refine V_iload_n (pc := 8) C dX3_takes_8 rfl 1 rfl ?_
    refine V_aload_n (pc := 9) C dX3_takes_9 rfl 2 rfl ?_
    refine cv_X3_33 (pc := 10) (rest := []) (wn := fun u => [(o, .inr (3, fX3 q u.2.1)), (t, .inr (6, fX6 qt u.2.2.1)), (qt 0, aI (d 0) 6 u.2.2.2.1), (qt 1, aI (d 0) 6 u.2.2.2.2.1), (qt 3, aI (d 0) 6 u.2.2.2.2.2.1), (qt 4, aI (d 0) 4 u.2.2.2.2.2.2.1), (qt 5, aI (d 0) 4 u.2.2.2.2.2.2.2)]) (sn := fun u => [.int (iI u.1)]) C dX3_takes_10 (c_X3_opens l D d o t q qt f ft T0 T1 T3 T4 T5 c (show 0 ≤ (ft 6) ∧ (ft 6) ≤ 6 by omega) (show 0 ≤ (ft 7) ∧ (ft 7) ≤ 4 by omega) (show 0 ≤ (ft 8) ∧ (ft 8) ≤ 24 by omega) hc) [0, 1, 2, 3, 4, 5, 6] rfl rfl 0 rfl rfl rfl (Nat.le_of_ble_eq_true rfl) ⟨by omega, by omega⟩ ⟨Nat.zero_le _, Nat.zero_le _⟩ (fun u => rfl) (fun u => rfl) (fun u => rfl) ?_
    rintro u hu
    exact V_zret (pc := 13) C Z dX3_takes_13 (by rw [hu]; first | exact rdOpens_01 | exact rdPerson_01 | exact rdCounter_01 | exact rdBar_01) (u.1, u.2.1, u.2.2.1, u.2.2.2.1, u.2.2.2.2.1, u.2.2.2.2.2.1, u.2.2.2.2.2.2.1, u.2.2.2.2.2.2.2) (by rw [rdTakes_m]; (repeat' split) <;> first | exact hu | rfl | omega) (ri (by rfl)) rfl
set_option maxRecDepth 100000 in
set_option maxHeartbeats 4000000 in
theorem c_X3_read (l : Launch) (D : va_G) (d : Nat → ClassId) (o : Nat) (t : Nat) (q : Nat → Nat) (qt : Nat → Nat) (f : Nat → Int) (ft : Nat → Int) (T0 : Int → Int) (T1 : Int → Int) (T3 : Int → Int) (T4 : Int → Int) (T5 : Int → Int) (T2 : Int → Int) (sg : Nat) (qs : Nat → Nat) (fs : Nat → Int) (S0 : Int → Int) (hB : rdB T0 T1 T3 T4 T5) (hS : bd S0 0 255) (hs : 0 ≤ fs 1 ∧ fs 1 ≤ 72) : CU l yX3_read cX3_read 4 (some .int) 3 67 D d [.ref o, .ref sg, .ref t] [(o, .inr (3, fX3 q f)), (t, .inr (6, fX6 qt ft)), (qt 0, aI (d 0) 6 T0), (qt 1, aI (d 0) 6 T1), (qt 3, aI (d 0) 6 T3), (qt 4, aI (d 0) 4 T4), (qt 5, aI (d 0) 4 T5), (qt 2, aI (d 0) 6 T2), (sg, .inr (4, fX4 qs fs)), (qs 0, aI (d 0) 72 S0)] (fun (u : Int × ((Nat → Int) × (Nat → Int) × (Int → Int) × (Int → Int) × (Int → Int) × (Int → Int) × (Int → Int))) => rdE (fs 1) S0 (rd0 f ft T0 T1 T3 T4 T5) u.1 u.2) (fun (u : Int × ((Nat → Int) × (Nat → Int) × (Int → Int) × (Int → Int) × (Int → Int) × (Int → Int) × (Int → Int))) => some (.int (iI (u.1)))) (fun (u : Int × ((Nat → Int) × (Nat → Int) × (Int → Int) × (Int → Int) × (Int → Int) × (Int → Int) × (Int → Int))) => [(o, .inr (3, fX3 q u.2.1)), (t, .inr (6, fX6 qt u.2.2.1)), (qt 0, aI (d 0) 6 u.2.2.2.1), (qt 1, aI (d 0) 6 u.2.2.2.2.1), (qt 3, aI (d 0) 6 u.2.2.2.2.2.1), (qt 4, aI (d 0) 4 u.2.2.2.2.2.2.1), (qt 5, aI (d 0) 4 u.2.2.2.2.2.2.2), (qt 2, aI (d 0) 6 (cpI (fun _ => 0) T2 6)), (sg, .inr (4, fX4 qs fs)), (qs 0, aI (d 0) 72 S0)]) := by
  refine CU.mk (own := RX3) (lv := [(0, .ref o), (1, .ref sg), (2, .ref t)]) rfl (by decide) (Nat.le_of_ble_eq_true rfl) rfl ?_
  intro p9 e9 R9 s9 m9 args9 below9 meth9 c9 A9 Q9 hRf hRl C Z
  refine V_aload_n (pc := 0) C dX3_read_0 rfl 2 rfl ?_
  refine cv_X3_9 (pc := 1) (rest := []) (wn := fun _ => [(o, .inr (3, fX3 q f)), (t, .inr (6, fX6 qt (up (up (up (up ft 6 0) 7 0) 8 0) 9 0))), (qt 0, aI (d 0) 6 T0), (qt 1, aI (d 0) 6 T1), (qt 3, aI (d 0) 6 (cpI (fun _ => 0) T3 6)), (qt 4, aI (d 0) 4 T4), (qt 5, aI (d 0) 4 T5), (qt 2, aI (d 0) 6 (cpI (fun _ => 0) T2 6)), (sg, .inr (4, fX4 qs fs)), (qs 0, aI (d 0) 72 S0)]) (sn := fun _ => []) C dX3_read_1 (c_X6_clear l D d t qt ft T2 T3 ) [1, 7, 4] rfl rfl 1 rfl rfl rfl (Nat.le_of_ble_eq_true rfl) ⟨by omega, by omega⟩ ⟨Nat.zero_le _, Nat.zero_le _⟩ (fun _ => rfl) (fun _ => rfl) (fun _ => rfl) ?_
  intro _ _
  refine V_aload_n (pc := 4) C dX3_read_4 rfl 0 rfl ?_
  refine V_iconst (pc := 5) C dX3_read_5 ?_
  refine pf_X3_16 (ws' := [(o, .inr (3, fX3 q (up f 0 0))), (t, .inr (6, fX6 qt (up (up (up (up ft 6 0) 7 0) 8 0) 9 0))), (qt 0, aI (d 0) 6 T0), (qt 1, aI (d 0) 6 T1), (qt 3, aI (d 0) 6 (cpI (fun _ => 0) T3 6)), (qt 4, aI (d 0) 4 T4), (qt 5, aI (d 0) 4 T5), (qt 2, aI (d 0) 6 (cpI (fun _ => 0) T2 6)), (sg, .inr (4, fX4 qs fs)), (qs 0, aI (d 0) 72 S0)]) (pc := 6) C dX3_read_6 0 rfl rfl ?_
  refine V_iconst (pc := 9) C dX3_read_9 ?_
  refine V_istore_n (lv' := [(3, .int (iI 0)), (0, .ref o), (1, .ref sg), (2, .ref t)]) (pc := 10) C dX3_read_10 rfl (by decide) rfl ?_
  have L11 : ∀ (nn9 : Nat) (i : Int) (g : Nat → Int) (h : Nat → Int) (W0 : Int → Int) (W1 : Int → Int) (W3 : Int → Int) (W4 : Int → Int) (W5 : Int → Int), (0 ≤ i ∧ i ≤ fs 1) → ((g, h, W0, W1, W3, W4, W5) = rdN S0 (rd0 f ft T0 T1 T3 T4 T5) i.toNat) → (rdOkTo S0 (rd0 f ft T0 T1 T3 T4 T5) i.toNat) → (rdK (g, h, W0, W1, W3, W4, W5)) → (fs 1 - i).toNat < nn9 → V p9 l e9 R9 s9 m9 args9 below9 meth9 c9 A9 D Q9 4 0 0 [(o, .inr (3, fX3 q g)), (t, .inr (6, fX6 qt h)), (qt 0, aI (d 0) 6 W0), (qt 1, aI (d 0) 6 W1), (qt 3, aI (d 0) 6 W3), (qt 4, aI (d 0) 4 W4), (qt 5, aI (d 0) 4 W5), (qt 2, aI (d 0) 6 (cpI (fun _ => 0) T2 6)), (sg, .inr (4, fX4 qs fs)), (qs 0, aI (d 0) 72 S0)] [(3, .int (iI i)), (0, .ref o), (1, .ref sg), (2, .ref t)] 11 [] := by
    intro nn9
    induction nn9 with
    | zero => intro _ _ _ _ _ _ _ _ _ _ _ _ hm11; exact absurd hm11 (Nat.not_lt_zero _)
    | succ nn9 ih11 =>
      intro i g h W0 W1 W3 W4 W5 hi hw ha hK hm11
      refine V_iload_n (pc := 11) C dX3_read_11 rfl 0 rfl ?_
      refine V_aload_n (pc := 12) C dX3_read_12 rfl 2 rfl ?_
      refine gf_X3_20 (x := fs 1) (pc := 13) C dX3_read_13 8 rfl rfl ?_
      refine V_icmp_ge (pc := 16) 41 C dX3_read_16 (by decide) (sm_i (by omega)) (sm_i (by omega)) (fun c16 => ?_) (fun c16 => ?_)
      · refine V_aload_n (pc := 41) C dX3_read_41 rfl 1 rfl ?_
        have hp9 := hK.2.2.2
        have g09 : g 0 = 0 ∨ g 0 = 65 ∨ g 0 = 67 ∨ g 0 = 78 := rdP_4 hp9
        refine gf_X3_16 (x := g 0) (pc := 42) C dX3_read_42 0 rfl rfl ?_
        refine V_if_ne (pc := 45) 53 C dX3_read_45 (by decide) (sm_i (by omega)) (fun c45 => ?_) (fun c45 => ?_)
        · refine V_aload_n (pc := 53) C dX3_read_53 rfl 2 rfl ?_
          refine gf_X3_20 (x := fs 1) (pc := 54) C dX3_read_54 8 rfl rfl ?_
          exact V_iret (pc := 57) C Z dX3_read_57 (fs 1, g, h, W0, W1, W3, W4, W5) (rdE_end (by omega) ha hw hK (by first | exact Or.inl ⟨c45, rfl⟩ | exact Or.inr ⟨c45, rfl⟩)) (ri (by rfl)) rfl
        · refine V_bipush (pc := 48) C dX3_read_48 rfl ?_
          refine V_goto (pc := 50) 57 C dX3_read_50 (by decide) ?_
          exact V_iret (pc := 57) C Z dX3_read_57 (-9, g, h, W0, W1, W3, W4, W5) (rdE_end (by omega) ha hw hK (by first | exact Or.inl ⟨c45, rfl⟩ | exact Or.inr ⟨c45, rfl⟩)) (ri (by rfl)) rfl
      · refine V_aload_n (pc := 19) C dX3_read_19 rfl 1 rfl ?_
        refine V_aload_n (pc := 20) C dX3_read_20 rfl 2 rfl ?_
        refine gf_X3_25 (x := qs 0) (pc := 21) C dX3_read_21 8 rfl rfl ?_
        refine V_iload_n (pc := 24) C dX3_read_24 rfl 0 rfl ?_
        refine V_iald (f := S0) (pc := 25) C dX3_read_25 9 rfl (by omega) (by omega) (Nat.le_of_ble_eq_true rfl) ?_
        have b25 := hS i
        refine V_aload_n (pc := 26) C dX3_read_26 rfl 3 rfl ?_
        refine cv_X3_29 (pc := 27) (rest := []) (wn := fun u => [(o, .inr (3, fX3 q u.2.1)), (t, .inr (6, fX6 qt u.2.2.1)), (qt 0, aI (d 0) 6 u.2.2.2.1), (qt 1, aI (d 0) 6 u.2.2.2.2.1), (qt 3, aI (d 0) 6 u.2.2.2.2.2.1), (qt 4, aI (d 0) 4 u.2.2.2.2.2.2.1), (qt 5, aI (d 0) 4 u.2.2.2.2.2.2.2), (qt 2, aI (d 0) 6 (cpI (fun _ => 0) T2 6)), (sg, .inr (4, fX4 qs fs)), (qs 0, aI (d 0) 72 S0)]) (sn := fun u => [.int (iI u.1)]) C dX3_read_27 (c_X3_takes l D d o t q qt g h W0 W1 W3 W4 W5 (S0 i) hK (show 0 ≤ (S0 i) ∧ (S0 i) ≤ 255 by omega)) [0, 1, 2, 3, 4, 5, 6] rfl rfl 0 rfl rfl rfl (Nat.le_of_ble_eq_true rfl) ⟨by omega, by omega⟩ ⟨Nat.zero_le _, Nat.zero_le _⟩ (fun u => rfl) (fun u => rfl) (fun u => rfl) ?_
        rintro ⟨z1, g1, h1, y0, y1, y3, y4, y5⟩ hu
        have z9 : z1 = 0 ∨ z1 = 1 := by have k8 := rdT_01 (c := S0 i) (s := (g, h, W0, W1, W3, W4, W5)); rw [← hu] at k8; exact k8
        refine V_if_ne (pc := 30) 35 C dX3_read_30 (by decide) (sm_i (by omega)) (fun c30 => ?_) (fun c30 => ?_)
        · refine V_iinc (lv' := [(3, .int (iI (i + 1))), (0, .ref o), (1, .ref sg), (2, .ref t)]) (pc := 35) C dX3_read_35 0 rfl (by decide) rfl ?_
          refine V_goto (pc := 38) 11 C dX3_read_38 (by decide) ?_
          exact V_sub [0, 1, 2, 3] rfl (ih11 (i + 1) g1 h1 y0 y1 y3 y4 y5 (by omega) (by rw [rdN_s hi.1, ← hw, ← hu]) (rdOk_s hi.1 ha hw hu c30) (by have k9 := rdT_ok (c := S0 i) hK (by rw [← hu]; exact Or.resolve_left (by have k8 := rdT_01 (c := S0 i) (s := (g, h, W0, W1, W3, W4, W5)); rw [← hu] at k8; exact k8) c30); rw [← hu] at k9; exact k9) (by omega))
        · refine V_iload_n (pc := 33) C dX3_read_33 rfl 0 rfl ?_
          exact V_iret (pc := 34) C Z dX3_read_34 (i, g1, h1, y0, y1, y3, y4, y5) (rdE_no (by omega) ha hw hK hu c30) (ri (by rfl)) rfl
  exact V_sub [0, 1, 2, 3] rfl (L11 ((fs 1 - 0).toNat + 1) 0 (up f 0 0) (up (up (up (up ft 6 0) 7 0) 8 0) 9 0) T0 T1 (cpI (fun _ => 0) T3 6) T4 T5 (by omega) (rfl) (fun j hj => absurd hj (Nat.not_lt_zero _)) (rd0_K hB) (Nat.lt_succ_self _))
set_option maxRecDepth 100000 in
set_option maxHeartbeats 4000000 in
theorem c_X8_fault (l : Launch) (D : va_G) (d : Nat → ClassId) (o : Nat) (q : Nat → Nat) (f : Nat → Int) (qr : Nat → Nat) (fr : Nat → Int) (qd : Nat → Nat) (fd : Nat → Int) (qs : Nat → Nat) (fs : Nat → Int) (E0 : Int → Int) (E1 : Int → Int) (E2 : Int → Int) (E3 : Int → Int) (E4 : Int → Int) (E5 : Int → Int) (S0 : Int → Int) (hB : rdB E0 E1 E3 E4 E5) (hS : bd S0 0 255) (hs : 0 ≤ fs 1 ∧ fs 1 ≤ 72) : CU l yX8_fault cX8_fault 1 (some .int) 4 90 D d [.ref o] [(o, .inr (8, fX8 q f)), (q 1, .inr (3, fX3 qr fr)), (q 3, .inr (6, fX6 qd fd)), (qd 0, aI (d 0) 6 E0), (qd 1, aI (d 0) 6 E1), (qd 2, aI (d 0) 6 E2), (qd 3, aI (d 0) 6 E3), (qd 4, aI (d 0) 4 E4), (qd 5, aI (d 0) 4 E5), (q 0, .inr (4, fX4 qs fs)), (qs 0, aI (d 0) 72 S0)] (fun (u : Int × ((Nat → Int) × (Nat → Int) × (Int → Int) × (Int → Int) × (Int → Int) × (Int → Int) × (Int → Int))) => rdE (fs 1) S0 (rd0 fr fd E0 E1 E3 E4 E5) u.1 u.2) (fun (u : Int × ((Nat → Int) × (Nat → Int) × (Int → Int) × (Int → Int) × (Int → Int) × (Int → Int) × (Int → Int))) => some (.int (iI (u.1)))) (fun (u : Int × ((Nat → Int) × (Nat → Int) × (Int → Int) × (Int → Int) × (Int → Int) × (Int → Int) × (Int → Int))) => [(o, .inr (8, fX8 q f)), (q 1, .inr (3, fX3 qr u.2.1)), (q 3, .inr (6, fX6 qd u.2.2.1)), (qd 0, aI (d 0) 6 u.2.2.2.1), (qd 1, aI (d 0) 6 u.2.2.2.2.1), (qd 2, aI (d 0) 6 (cpI (fun _ => 0) E2 6)), (qd 3, aI (d 0) 6 u.2.2.2.2.2.1), (qd 4, aI (d 0) 4 u.2.2.2.2.2.2.1), (qd 5, aI (d 0) 4 u.2.2.2.2.2.2.2), (q 0, .inr (4, fX4 qs fs)), (qs 0, aI (d 0) 72 S0)]) := by
  refine CU.mk (own := RX8) (lv := [(0, .ref o)]) rfl (by decide) (Nat.le_of_ble_eq_true rfl) rfl ?_
  intro p9 e9 R9 s9 m9 args9 below9 meth9 c9 A9 Q9 hRf hRl C Z
  refine V_aload_n (pc := 0) C dX8_fault_0 rfl 0 rfl ?_
  refine gf_X8_19 (x := q 1) (pc := 1) C dX8_fault_1 0 rfl rfl ?_
  refine V_aload_n (pc := 4) C dX8_fault_4 rfl 0 rfl ?_
  refine gf_X8_12 (x := q 0) (pc := 5) C dX8_fault_5 0 rfl rfl ?_
  refine V_aload_n (pc := 8) C dX8_fault_8 rfl 0 rfl ?_
  refine gf_X8_30 (x := q 3) (pc := 9) C dX8_fault_9 0 rfl rfl ?_
  refine cv_X8_84 (pc := 12) (rest := []) (wn := fun u => [(o, .inr (8, fX8 q f)), (q 1, .inr (3, fX3 qr u.2.1)), (q 3, .inr (6, fX6 qd u.2.2.1)), (qd 0, aI (d 0) 6 u.2.2.2.1), (qd 1, aI (d 0) 6 u.2.2.2.2.1), (qd 2, aI (d 0) 6 (cpI (fun _ => 0) E2 6)), (qd 3, aI (d 0) 6 u.2.2.2.2.2.1), (qd 4, aI (d 0) 4 u.2.2.2.2.2.2.1), (qd 5, aI (d 0) 4 u.2.2.2.2.2.2.2), (q 0, .inr (4, fX4 qs fs)), (qs 0, aI (d 0) 72 S0)]) (sn := fun u => [.int (iI u.1)]) C dX8_fault_12 (c_X3_read l D d (q 1) (q 3) qr qd fr fd E0 E1 E3 E4 E5 E2 (q 0) qs fs S0 hB hS hs) [1, 2, 3, 4, 6, 7, 8, 5, 9, 10] rfl rfl 1 rfl rfl rfl (Nat.le_of_ble_eq_true rfl) ⟨by omega, by omega⟩ ⟨Nat.zero_le _, Nat.zero_le _⟩ (fun u => rfl) (fun u => rfl) (fun u => rfl) ?_
  rintro ⟨z1, g1, h1, y0, y1, y3, y4, y5⟩ hu
  exact V_iret (pc := 15) C Z dX8_fault_15 (z1, g1, h1, y0, y1, y3, y4, y5) hu (ri (by rfl)) rfl
set_option maxRecDepth 100000 in
set_option maxHeartbeats 4000000 in
theorem c_X8_market_no (l : Launch) (D : va_G) (d : Nat → ClassId) (o : Nat) (q : Nat → Nat) (f : Nat → Int) (qr : Nat → Nat) (fr : Nat → Int) (qd : Nat → Nat) (fd : Nat → Int) (qs : Nat → Nat) (fs : Nat → Int) (E0 : Int → Int) (E1 : Int → Int) (E2 : Int → Int) (E3 : Int → Int) (E4 : Int → Int) (E5 : Int → Int) (S0 : Int → Int) (hB : rdB E0 E1 E3 E4 E5) (hS : bd S0 0 255) (hs : 0 ≤ fs 1 ∧ fs 1 ≤ 72) (hno : ∀ x y, rdE (fs 1) S0 (rd0 fr fd E0 E1 E3 E4 E5) x y → ¬ x = -9) : CU l yX8_market cX8_market 3 (some .int) 4 90 D d [.ref o] [(o, .inr (8, fX8 q f)), (q 1, .inr (3, fX3 qr fr)), (q 3, .inr (6, fX6 qd fd)), (qd 0, aI (d 0) 6 E0), (qd 1, aI (d 0) 6 E1), (qd 2, aI (d 0) 6 E2), (qd 3, aI (d 0) 6 E3), (qd 4, aI (d 0) 4 E4), (qd 5, aI (d 0) 4 E5), (q 0, .inr (4, fX4 qs fs)), (qs 0, aI (d 0) 72 S0)] (fun (u : ((Nat → Int) × (Nat → Int) × (Int → Int) × (Int → Int) × (Int → Int) × (Int → Int) × (Int → Int))) => rdKB u) (fun (u : ((Nat → Int) × (Nat → Int) × (Int → Int) × (Int → Int) × (Int → Int) × (Int → Int) × (Int → Int))) => some (.int (iI (-3)))) (fun (u : ((Nat → Int) × (Nat → Int) × (Int → Int) × (Int → Int) × (Int → Int) × (Int → Int) × (Int → Int))) => [(o, .inr (8, fX8 q f)), (q 1, .inr (3, fX3 qr u.1)), (q 3, .inr (6, fX6 qd u.2.1)), (qd 0, aI (d 0) 6 u.2.2.1), (qd 1, aI (d 0) 6 u.2.2.2.1), (qd 2, aI (d 0) 6 (cpI (fun _ => 0) E2 6)), (qd 3, aI (d 0) 6 u.2.2.2.2.1), (qd 4, aI (d 0) 4 u.2.2.2.2.2.1), (qd 5, aI (d 0) 4 u.2.2.2.2.2.2), (q 0, .inr (4, fX4 qs fs)), (qs 0, aI (d 0) 72 S0)]) := by
  refine CU.mk (own := RX8) (lv := [(0, .ref o)]) rfl (by decide) (Nat.le_of_ble_eq_true rfl) rfl ?_
  intro p9 e9 R9 s9 m9 args9 below9 meth9 c9 A9 Q9 hRf hRl C Z
  refine V_aload_n (pc := 0) C dX8_market_0 rfl 0 rfl ?_
  refine gf_X8_19 (x := q 1) (pc := 1) C dX8_market_1 0 rfl rfl ?_
  refine V_aload_n (pc := 4) C dX8_market_4 rfl 0 rfl ?_
  refine gf_X8_12 (x := q 0) (pc := 5) C dX8_market_5 0 rfl rfl ?_
  refine V_aload_n (pc := 8) C dX8_market_8 rfl 0 rfl ?_
  refine gf_X8_30 (x := q 3) (pc := 9) C dX8_market_9 0 rfl rfl ?_
  refine cv_X8_84 (pc := 12) (rest := []) (wn := fun u => [(o, .inr (8, fX8 q f)), (q 1, .inr (3, fX3 qr u.2.1)), (q 3, .inr (6, fX6 qd u.2.2.1)), (qd 0, aI (d 0) 6 u.2.2.2.1), (qd 1, aI (d 0) 6 u.2.2.2.2.1), (qd 2, aI (d 0) 6 (cpI (fun _ => 0) E2 6)), (qd 3, aI (d 0) 6 u.2.2.2.2.2.1), (qd 4, aI (d 0) 4 u.2.2.2.2.2.2.1), (qd 5, aI (d 0) 4 u.2.2.2.2.2.2.2), (q 0, .inr (4, fX4 qs fs)), (qs 0, aI (d 0) 72 S0)]) (sn := fun u => [.int (iI u.1)]) C dX8_market_12 (c_X3_read l D d (q 1) (q 3) qr qd fr fd E0 E1 E3 E4 E5 E2 (q 0) qs fs S0 hB hS hs) [1, 2, 3, 4, 6, 7, 8, 5, 9, 10] rfl rfl 1 rfl rfl rfl (Nat.le_of_ble_eq_true rfl) ⟨by omega, by omega⟩ ⟨Nat.zero_le _, Nat.zero_le _⟩ (fun u => rfl) (fun u => rfl) (fun u => rfl) ?_
  rintro ⟨z1, g1, h1, y0, y1, y3, y4, y5⟩ hu
  have r9 := rdE_r hu hs
  refine V_bipush (pc := 15) C dX8_market_15 rfl ?_
  refine V_icmp_eq (pc := 17) 23 C dX8_market_17 (by decide) (sm_i (by omega)) (sm_i (by decide)) (fun c17 => ?_) (fun c17 => ?_)
  · exact absurd c17 (hno _ _ hu)
  · refine V_bipush (pc := 20) C dX8_market_20 rfl ?_
    exact V_iret (pc := 22) C Z dX8_market_22 (g1, h1, y0, y1, y3, y4, y5) hu.1 (ri (by rfl)) rfl
set_option maxRecDepth 100000 in
set_option maxHeartbeats 4000000 in
theorem c_X8_market_ok (l : Launch) (D : va_G) (d : Nat → ClassId) (o : Nat) (q : Nat → Nat) (f : Nat → Int) (qr : Nat → Nat) (fr : Nat → Int) (qd : Nat → Nat) (fd : Nat → Int) (qs : Nat → Nat) (fs : Nat → Int) (E0 : Int → Int) (E1 : Int → Int) (E2 : Int → Int) (E3 : Int → Int) (E4 : Int → Int) (E5 : Int → Int) (S0 : Int → Int) (qa : Nat → Nat) (fa : Nat → Int) (A0 : Int → Int) (A1 : Int → Int) (za : Nat) (zb : Nat) (qx : Nat → Nat) (qy : Nat → Nat) (fx : Nat → Int) (fy : Nat → Int) (sl : Nat → Option Nat) (hB : rdB E0 E1 E3 E4 E5) (hS : bd S0 0 255) (hs : 0 ≤ fs 1 ∧ fs 1 ≤ 72) (hyes : ∀ x y, rdE (fs 1) S0 (rd0 fr fd E0 E1 E3 E4 E5) x y → x = -9) (hza : sl 0 = some za) (hzb : sl 1 = some zb) : CU l yX8_market cX8_market 3 (some .int) 4 90 D d [.ref o] [(o, .inr (8, fX8 q f)), (q 1, .inr (3, fX3 qr fr)), (q 3, .inr (6, fX6 qd fd)), (qd 0, aI (d 0) 6 E0), (qd 1, aI (d 0) 6 E1), (qd 2, aI (d 0) 6 E2), (qd 3, aI (d 0) 6 E3), (qd 4, aI (d 0) 4 E4), (qd 5, aI (d 0) 4 E5), (q 0, .inr (4, fX4 qs fs)), (qs 0, aI (d 0) 72 S0), (q 4, .inr (5, fX5 qa fa)), (qa 0, aI (d 0) 6 A0), (qa 1, aI (d 0) 4 A1), (q 5, aR (d 2) 2 sl), (za, .inr (5, fX5 qx fx)), (zb, .inr (5, fX5 qy fy))] (fun (u : ((Nat → Int) × (Nat → Int) × (Int → Int) × (Int → Int) × (Int → Int) × (Int → Int) × (Int → Int))) => rdE (fs 1) S0 (rd0 fr fd E0 E1 E3 E4 E5) (-9) u) (fun (u : ((Nat → Int) × (Nat → Int) × (Int → Int) × (Int → Int) × (Int → Int) × (Int → Int) × (Int → Int))) => some (.int (iI (u.2.1 6)))) (fun (u : ((Nat → Int) × (Nat → Int) × (Int → Int) × (Int → Int) × (Int → Int) × (Int → Int) × (Int → Int))) => [(o, .inr (8, fX8 (up (up q 2 (q 3)) 3 (q 2)) f)), (q 1, .inr (3, fX3 qr u.1)), (q 3, .inr (6, fX6 qd u.2.1)), (qd 0, aI (d 0) 6 u.2.2.1), (qd 1, aI (d 0) 6 u.2.2.2.1), (qd 2, aI (d 0) 6 (cpI (fun _ => 0) E2 6)), (qd 3, aI (d 0) 6 u.2.2.2.2.1), (qd 4, aI (d 0) 4 u.2.2.2.2.2.1), (qd 5, aI (d 0) 4 u.2.2.2.2.2.2), (q 0, .inr (4, fX4 qs fs)), (qs 0, aI (d 0) 72 S0), (q 4, .inr (5, fX5 qa (up fa 6 0))), (qa 0, aI (d 0) 6 (cpI u.2.2.1 A0 6)), (qa 1, aI (d 0) 4 (cpI u.2.2.2.2.2.2 A1 4)), (q 5, aR (d 2) 2 sl), (za, .inr (5, fX5 qx (up fx 8 0))), (zb, .inr (5, fX5 qy (up fy 8 0)))]) := by
  refine CU.mk (own := RX8) (lv := [(0, .ref o)]) rfl (by decide) (Nat.le_of_ble_eq_true rfl) rfl ?_
  intro p9 e9 R9 s9 m9 args9 below9 meth9 c9 A9 Q9 hRf hRl C Z
  refine V_aload_n (pc := 0) C dX8_market_0 rfl 0 rfl ?_
  refine gf_X8_19 (x := q 1) (pc := 1) C dX8_market_1 0 rfl rfl ?_
  refine V_aload_n (pc := 4) C dX8_market_4 rfl 0 rfl ?_
  refine gf_X8_12 (x := q 0) (pc := 5) C dX8_market_5 0 rfl rfl ?_
  refine V_aload_n (pc := 8) C dX8_market_8 rfl 0 rfl ?_
  refine gf_X8_30 (x := q 3) (pc := 9) C dX8_market_9 0 rfl rfl ?_
  refine cv_X8_84 (pc := 12) (rest := []) (wn := fun u => [(o, .inr (8, fX8 q f)), (q 1, .inr (3, fX3 qr u.2.1)), (q 3, .inr (6, fX6 qd u.2.2.1)), (qd 0, aI (d 0) 6 u.2.2.2.1), (qd 1, aI (d 0) 6 u.2.2.2.2.1), (qd 2, aI (d 0) 6 (cpI (fun _ => 0) E2 6)), (qd 3, aI (d 0) 6 u.2.2.2.2.2.1), (qd 4, aI (d 0) 4 u.2.2.2.2.2.2.1), (qd 5, aI (d 0) 4 u.2.2.2.2.2.2.2), (q 0, .inr (4, fX4 qs fs)), (qs 0, aI (d 0) 72 S0), (q 4, .inr (5, fX5 qa fa)), (qa 0, aI (d 0) 6 A0), (qa 1, aI (d 0) 4 A1), (q 5, aR (d 2) 2 sl), (za, .inr (5, fX5 qx fx)), (zb, .inr (5, fX5 qy fy))]) (sn := fun u => [.int (iI u.1)]) C dX8_market_12 (c_X3_read l D d (q 1) (q 3) qr qd fr fd E0 E1 E3 E4 E5 E2 (q 0) qs fs S0 hB hS hs) [1, 2, 3, 4, 6, 7, 8, 5, 9, 10] rfl rfl 1 rfl rfl rfl (Nat.le_of_ble_eq_true rfl) ⟨by omega, by omega⟩ ⟨Nat.zero_le _, Nat.zero_le _⟩ (fun u => rfl) (fun u => rfl) (fun u => rfl) ?_
  rintro ⟨z1, g1, h1, y0, y1, y3, y4, y5⟩ hu
  have r9 := rdE_r hu hs
  refine V_bipush (pc := 15) C dX8_market_15 rfl ?_
  refine V_icmp_eq (pc := 17) 23 C dX8_market_17 (by decide) (sm_i (by omega)) (sm_i (by decide)) (fun c17 => ?_) (fun c17 => ?_)
  · refine V_aload_n (pc := 23) C dX8_market_23 rfl 0 rfl ?_
    refine gf_X8_26 (x := q 2) (pc := 24) C dX8_market_24 0 rfl rfl ?_
    refine V_astore_n (lv' := [(1, .ref (q 2)), (0, .ref o)]) (pc := 27) C dX8_market_27 rfl (by decide) rfl ?_
    refine V_aload_n (pc := 28) C dX8_market_28 rfl 1 rfl ?_
    refine V_aload_n (pc := 29) C dX8_market_29 rfl 1 rfl ?_
    refine gf_X8_30 (x := q 3) (pc := 30) C dX8_market_30 0 rfl rfl ?_
    refine pf_X8_26 (ws' := [(o, .inr (8, fX8 (up q 2 (q 3)) f)), (q 1, .inr (3, fX3 qr g1)), (q 3, .inr (6, fX6 qd h1)), (qd 0, aI (d 0) 6 y0), (qd 1, aI (d 0) 6 y1), (qd 2, aI (d 0) 6 (cpI (fun _ => 0) E2 6)), (qd 3, aI (d 0) 6 y3), (qd 4, aI (d 0) 4 y4), (qd 5, aI (d 0) 4 y5), (q 0, .inr (4, fX4 qs fs)), (qs 0, aI (d 0) 72 S0), (q 4, .inr (5, fX5 qa fa)), (qa 0, aI (d 0) 6 A0), (qa 1, aI (d 0) 4 A1), (q 5, aR (d 2) 2 sl), (za, .inr (5, fX5 qx fx)), (zb, .inr (5, fX5 qy fy))]) (pc := 33) C dX8_market_33 0 rfl rfl ?_
    refine V_aload_n (pc := 36) C dX8_market_36 rfl 1 rfl ?_
    refine V_aload_n (pc := 37) C dX8_market_37 rfl 0 rfl ?_
    refine pf_X8_30 (ws' := [(o, .inr (8, fX8 (up (up q 2 (q 3)) 3 (q 2)) f)), (q 1, .inr (3, fX3 qr g1)), (q 3, .inr (6, fX6 qd h1)), (qd 0, aI (d 0) 6 y0), (qd 1, aI (d 0) 6 y1), (qd 2, aI (d 0) 6 (cpI (fun _ => 0) E2 6)), (qd 3, aI (d 0) 6 y3), (qd 4, aI (d 0) 4 y4), (qd 5, aI (d 0) 4 y5), (q 0, .inr (4, fX4 qs fs)), (qs 0, aI (d 0) 72 S0), (q 4, .inr (5, fX5 qa fa)), (qa 0, aI (d 0) 6 A0), (qa 1, aI (d 0) 4 A1), (q 5, aR (d 2) 2 sl), (za, .inr (5, fX5 qx fx)), (zb, .inr (5, fX5 qy fy))]) (pc := 38) C dX8_market_38 0 rfl rfl ?_
    refine V_aload_n (pc := 41) C dX8_market_41 rfl 1 rfl ?_
    refine gf_X8_36 (x := q 4) (pc := 42) C dX8_market_42 0 rfl rfl ?_
    refine V_aload_n (pc := 45) C dX8_market_45 rfl 1 rfl ?_
    refine gf_X8_26 (x := q 3) (pc := 46) C dX8_market_46 0 rfl rfl ?_
    refine cv_X8_88 (pc := 49) (rest := []) (wn := fun _ => [(o, .inr (8, fX8 (up (up q 2 (q 3)) 3 (q 2)) f)), (q 1, .inr (3, fX3 qr g1)), (q 3, .inr (6, fX6 qd h1)), (qd 0, aI (d 0) 6 y0), (qd 1, aI (d 0) 6 y1), (qd 2, aI (d 0) 6 (cpI (fun _ => 0) E2 6)), (qd 3, aI (d 0) 6 y3), (qd 4, aI (d 0) 4 y4), (qd 5, aI (d 0) 4 y5), (q 0, .inr (4, fX4 qs fs)), (qs 0, aI (d 0) 72 S0), (q 4, .inr (5, fX5 qa (up fa 6 0))), (qa 0, aI (d 0) 6 (cpI y0 A0 6)), (qa 1, aI (d 0) 4 (cpI y5 A1 4)), (q 5, aR (d 2) 2 sl), (za, .inr (5, fX5 qx fx)), (zb, .inr (5, fX5 qy fy))]) (sn := fun _ => []) C dX8_market_49 (c_X5_begin l D d (q 4) (q 3) qa qd fa h1 A0 A1 y0 y5 ) [11, 12, 13, 2, 3, 8] rfl rfl 11 rfl rfl rfl (Nat.le_of_ble_eq_true rfl) ⟨by omega, by omega⟩ ⟨Nat.zero_le _, Nat.zero_le _⟩ (fun _ => rfl) (fun _ => rfl) (fun _ => rfl) ?_
    intro _ _
    refine V_iconst (pc := 52) C dX8_market_52 ?_
    refine V_istore_n (lv' := [(2, .int (iI 0)), (1, .ref (q 2)), (0, .ref o)]) (pc := 53) C dX8_market_53 rfl (by decide) rfl ?_
    refine V_iload_n (pc := 54) C dX8_market_54 rfl 0 rfl ?_
    refine V_iconst (pc := 55) C dX8_market_55 ?_
    refine V_icmp_ge (pc := 56) 75 C dX8_market_56 (by decide) (sm_i (by decide)) (sm_i (by decide)) (fun c56 => ?_) (fun c56 => ?_)
    · exact absurd c56 (by decide)
    · refine V_aload_n (pc := 59) C dX8_market_59 rfl 2 rfl ?_
      refine gf_X8_40 (x := q 5) (pc := 60) C dX8_market_60 0 rfl rfl ?_
      refine V_iload_n (pc := 63) C dX8_market_63 rfl 0 rfl ?_
      refine V_aald (k := 2) (x := za) (f := sl) (Or.inl rfl) (pc := 64) C dX8_market_64 14 rfl (by decide) (by decide) hza (Nat.le_of_ble_eq_true rfl) ?_
      refine V_iconst (pc := 65) C dX8_market_65 ?_
      refine pf_X8_92 (ws' := [(o, .inr (8, fX8 (up (up q 2 (q 3)) 3 (q 2)) f)), (q 1, .inr (3, fX3 qr g1)), (q 3, .inr (6, fX6 qd h1)), (qd 0, aI (d 0) 6 y0), (qd 1, aI (d 0) 6 y1), (qd 2, aI (d 0) 6 (cpI (fun _ => 0) E2 6)), (qd 3, aI (d 0) 6 y3), (qd 4, aI (d 0) 4 y4), (qd 5, aI (d 0) 4 y5), (q 0, .inr (4, fX4 qs fs)), (qs 0, aI (d 0) 72 S0), (q 4, .inr (5, fX5 qa (up fa 6 0))), (qa 0, aI (d 0) 6 (cpI y0 A0 6)), (qa 1, aI (d 0) 4 (cpI y5 A1 4)), (q 5, aR (d 2) 2 sl), (za, .inr (5, fX5 qx (up fx 8 0))), (zb, .inr (5, fX5 qy fy))]) (hx := (Or.inl rfl)) (pc := 66) C dX8_market_66 15 rfl rfl ?_
      refine V_iinc (lv' := [(2, .int (iI 1)), (1, .ref (q 2)), (0, .ref o)]) (pc := 69) C dX8_market_69 0 rfl (by decide) rfl ?_
      refine V_goto (pc := 72) 54 C dX8_market_72 (by decide) ?_
      refine V_iload_n (pc := 54) C dX8_market_54 rfl 0 rfl ?_
      refine V_iconst (pc := 55) C dX8_market_55 ?_
      refine V_icmp_ge (pc := 56) 75 C dX8_market_56 (by decide) (sm_i (by decide)) (sm_i (by decide)) (fun c56 => ?_) (fun c56 => ?_)
      · exact absurd c56 (by decide)
      · refine V_aload_n (pc := 59) C dX8_market_59 rfl 2 rfl ?_
        refine gf_X8_40 (x := q 5) (pc := 60) C dX8_market_60 0 rfl rfl ?_
        refine V_iload_n (pc := 63) C dX8_market_63 rfl 0 rfl ?_
        refine V_aald (k := 2) (x := zb) (f := sl) (Or.inl rfl) (pc := 64) C dX8_market_64 14 rfl (by decide) (by decide) hzb (Nat.le_of_ble_eq_true rfl) ?_
        refine V_iconst (pc := 65) C dX8_market_65 ?_
        refine pf_X8_92 (ws' := [(o, .inr (8, fX8 (up (up q 2 (q 3)) 3 (q 2)) f)), (q 1, .inr (3, fX3 qr g1)), (q 3, .inr (6, fX6 qd h1)), (qd 0, aI (d 0) 6 y0), (qd 1, aI (d 0) 6 y1), (qd 2, aI (d 0) 6 (cpI (fun _ => 0) E2 6)), (qd 3, aI (d 0) 6 y3), (qd 4, aI (d 0) 4 y4), (qd 5, aI (d 0) 4 y5), (q 0, .inr (4, fX4 qs fs)), (qs 0, aI (d 0) 72 S0), (q 4, .inr (5, fX5 qa (up fa 6 0))), (qa 0, aI (d 0) 6 (cpI y0 A0 6)), (qa 1, aI (d 0) 4 (cpI y5 A1 4)), (q 5, aR (d 2) 2 sl), (za, .inr (5, fX5 qx (up fx 8 0))), (zb, .inr (5, fX5 qy (up fy 8 0)))]) (hx := (Or.inl rfl)) (pc := 66) C dX8_market_66 16 rfl rfl ?_
        refine V_iinc (lv' := [(2, .int (iI 2)), (1, .ref (q 2)), (0, .ref o)]) (pc := 69) C dX8_market_69 0 rfl (by decide) rfl ?_
        refine V_goto (pc := 72) 54 C dX8_market_72 (by decide) ?_
        refine V_iload_n (pc := 54) C dX8_market_54 rfl 0 rfl ?_
        refine V_iconst (pc := 55) C dX8_market_55 ?_
        refine V_icmp_ge (pc := 56) 75 C dX8_market_56 (by decide) (sm_i (by decide)) (sm_i (by decide)) (fun c56 => ?_) (fun c56 => ?_)
        · refine V_aload_n (pc := 75) C dX8_market_75 rfl 2 rfl ?_
          refine gf_X8_26 (x := q 3) (pc := 76) C dX8_market_76 0 rfl rfl ?_
          refine gf_X8_96 (x := h1 6) (pc := 79) C dX8_market_79 2 rfl rfl ?_
          exact V_iret (pc := 82) C Z dX8_market_82 (g1, h1, y0, y1, y3, y4, y5) (by rw [← c17]; exact hu) (ri (by rfl)) rfl
        · exact absurd c56 (by decide)
  · exact absurd (hyes _ _ hu) c17
