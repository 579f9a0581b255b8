set_option maxRecDepth 100000 in
set_option maxHeartbeats 4000000 in
theorem c_J7_fill_53178 (l : Launch) (D : va_G) (d : Nat → ClassId) (a : Nat) (n : Nat) (F : Int → Int) (v : Int) (hn : n < 2147483648) : CU l yJ7_fill_53178 cJ7_fill_53178 4 none 0 0 D d [.ref a, .int (iI v)] [(a, aI (d 0) n F)] (fun (_ : Unit) => True) (fun (_ : Unit) => none) (fun (_ : Unit) => [(a, aI (d 0) n (cpI (fun _ => v) F n))]) := by
  refine CU.mk (own := RJ7) (lv := [(0, .ref a), (1, .int (iI v))]) rfl (by decide) (Nat.le_of_ble_eq_true rfl) rfl ?_
  intro p e R s m args below meth c A Q hRf hRl C Z
  refine V_iconst (pc := 0) C dJ7_fill_53178_0 ?_
  refine V_istore_n (lv' := [(2, .int (iI 0)), (0, .ref a), (1, .int (iI v))]) (pc := 1) C dJ7_fill_53178_1 rfl (by decide) rfl ?_
  refine V_aload_n (pc := 2) C dJ7_fill_53178_2 rfl 1 rfl ?_
  refine V_alen (pc := 3) C dJ7_fill_53178_3 0 rfl ?_
  refine V_istore_n (lv' := [(3, .int (iI (n : Int))), (2, .int (iI 0)), (0, .ref a), (1, .int (iI v))]) (pc := 4) C dJ7_fill_53178_4 rfl (by decide) rfl ?_
  have L5 : ∀ (nn9 : Nat) (k : Int) (G : Int → Int), (0 ≤ k ∧ k ≤ n) → (G = cpI (fun _ => v) F k) → ((n : Int) - k).toNat < nn9 → V p l e R s m args below meth c A D Q 4 0 0 [(a, aI (d 0) n G)] [(2, .int (iI k)), (3, .int (iI (n : Int))), (0, .ref a), (1, .int (iI v))] 5 [] := by
    intro nn9
    induction nn9 with
    | zero => intro _ _ _ _ hm5; exact absurd hm5 (Nat.not_lt_zero _)
    | succ nn9 ih5 =>
      intro k G hk hG hm5
      refine V_iload_n (pc := 5) C dJ7_fill_53178_5 rfl 0 rfl ?_
      refine V_iload_n (pc := 6) C dJ7_fill_53178_6 rfl 1 rfl ?_
      refine V_icmp_ge (pc := 7) 20 C dJ7_fill_53178_7 (by decide) (sm_i (by omega)) (sm_i (by omega)) (fun c7 => ?_) (fun c7 => ?_)
      · exact V_vret (pc := 20) C Z dJ7_fill_53178_20 () trivial rfl (by rw [hG, show k = (n : Int) by omega])
      · refine V_aload_n (pc := 10) C dJ7_fill_53178_10 rfl 2 rfl ?_
        refine V_iload_n (pc := 11) C dJ7_fill_53178_11 rfl 0 rfl ?_
        refine V_iload_n (pc := 12) C dJ7_fill_53178_12 rfl 3 rfl ?_
        refine V_iast (f := G) (ws' := [(a, aI (d 0) n (uI G k v))]) (pc := 13) C dJ7_fill_53178_13 0 rfl (by omega) (by omega) hn rfl ?_
        refine V_iinc (lv' := [(2, .int (iI (k + 1))), (3, .int (iI (n : Int))), (0, .ref a), (1, .int (iI v))]) (pc := 14) C dJ7_fill_53178_14 0 rfl (by decide) rfl ?_
        refine V_goto (pc := 17) 5 C dJ7_fill_53178_17 (by decide) ?_
        exact V_sub [0, 1, 2, 3] rfl (ih5 (k + 1) (uI G k v) (by omega) (by rw [hG]; exact cpI_f hk.1) (by omega))
  exact V_sub [1, 0, 2, 3] rfl (L5 (((n : Int) - 0).toNat + 1) 0 F (by omega) ((cpI_0 _ _).symm) (Nat.lt_succ_self _))
set_option maxRecDepth 100000 in
set_option maxHeartbeats 4000000 in
theorem c_X8_signOf (l : Launch) (D : va_G) (d : Nat → ClassId) (x : Int) (hx : -2147483648 ≤ x ∧ x ≤ 2147483647) : CU l yX8_signOf cX8_signOf 1 (some .int) 0 0 D d [.int (iI x)] [] (fun (_ : Unit) => True) (fun (_ : Unit) => some (.int (iI (cmpI x 0)))) (fun (_ : Unit) => []) := by
  refine CU.mk (own := RX8) (lv := [(0, .int (iI x))]) rfl (by decide) (Nat.le_of_ble_eq_true rfl) rfl ?_
  intro p9 e9 R9 s9 m9 args9 below9 meth9 c9 A9 Q9 hRf hRl C Z
  refine V_iload_n (pc := 0) C dX8_signOf_0 rfl 0 rfl ?_
  refine V_if_ne (pc := 1) 6 C dX8_signOf_1 (by decide) (sm_i (by omega)) (fun c1 => ?_) (fun c1 => ?_)
  · refine V_iload_n (pc := 6) C dX8_signOf_6 rfl 0 rfl ?_
    refine V_if_ge (pc := 7) 14 C dX8_signOf_7 (by decide) (sm_i (by omega)) (fun c7 => ?_) (fun c7 => ?_)
    · refine V_iconst (pc := 14) C dX8_signOf_14 ?_
      exact V_iret (pc := 15) C Z dX8_signOf_15 () trivial (ri (by unfold cmpI; (repeat' split) <;> omega)) rfl
    · refine V_iconst (pc := 10) C dX8_signOf_10 ?_
      refine V_goto (pc := 11) 15 C dX8_signOf_11 (by decide) ?_
      exact V_iret (pc := 15) C Z dX8_signOf_15 () trivial (ri (by unfold cmpI; (repeat' split) <;> omega)) rfl
  · refine V_iconst (pc := 4) C dX8_signOf_4 ?_
    exact V_iret (pc := 5) C Z dX8_signOf_5 () trivial (ri (by unfold cmpI; (repeat' split) <;> omega)) rfl
set_option maxRecDepth 100000 in
set_option maxHeartbeats 4000000 in
theorem c_X5_begin (l : Launch) (D : va_G) (d : Nat → ClassId) (o : Nat) (t : Nat) (q : Nat → Nat) (qt : Nat → Nat) (f : Nat → Int) (ft : Nat → Int) (A0 : Int → Int) (A1 : Int → Int) (T0 : Int → Int) (T5 : Int → Int) : CU l yX5_begin cX5_begin 2 none 1 40 D d [.ref o, .ref t] [(o, .inr (5, fX5 q f)), (q 0, aI (d 0) 6 A0), (q 1, aI (d 0) 4 A1), (t, .inr (6, fX6 qt ft)), (qt 0, aI (d 0) 6 T0), (qt 5, aI (d 0) 4 T5)] (fun (_ : Unit) => True) (fun (_ : Unit) => none) (fun (_ : Unit) => [(o, .inr (5, fX5 q (up f 6 0))), (q 0, aI (d 0) 6 (cpI T0 A0 6)), (q 1, aI (d 0) 4 (cpI T5 A1 4)), (t, .inr (6, fX6 qt ft)), (qt 0, aI (d 0) 6 T0), (qt 5, aI (d 0) 4 T5)]) := by
  refine CU.mk (own := RX5) (lv := [(0, .ref o), (1, .ref t)]) rfl (by decide) (Nat.le_of_ble_eq_true rfl) rfl ?_
  intro p e R s m args below meth c A Q hRf hRl C Z
  refine V_aload_n (pc := 0) C dX5_begin_0 rfl 1 rfl ?_
  refine gf_X5_34 (x := qt 0) (pc := 1) C dX5_begin_1 3 rfl rfl ?_
  refine V_iconst (pc := 4) C dX5_begin_4 ?_
  refine V_aload_n (pc := 5) C dX5_begin_5 rfl 0 rfl ?_
  refine gf_X5_9 (x := q 0) (pc := 6) C dX5_begin_6 0 rfl rfl ?_
  refine V_iconst (pc := 9) C dX5_begin_9 ?_
  refine V_bipush (pc := 10) C dX5_begin_10 rfl ?_
  refine ac_X5_37 (pc := 12) (f := T0) (g := A0) (ws' := [(o, .inr (5, fX5 q f)), (q 0, aI (d 0) 6 (cpI T0 A0 6)), (q 1, aI (d 0) 4 A1), (t, .inr (6, fX6 qt ft)), (qt 0, aI (d 0) 6 T0), (qt 5, aI (d 0) 4 T5)]) C dX5_begin_12 4 1 rfl rfl (by decide) (by decide) (by decide) (by omega) (by show _ ≤ R.locals; rw [hRl]; exact Nat.le_of_ble_eq_true rfl) rfl ?_
  refine V_aload_n (pc := 15) C dX5_begin_15 rfl 1 rfl ?_
  refine gf_X5_43 (x := qt 5) (pc := 16) C dX5_begin_16 3 rfl rfl ?_
  refine V_iconst (pc := 19) C dX5_begin_19 ?_
  refine V_aload_n (pc := 20) C dX5_begin_20 rfl 0 rfl ?_
  refine gf_X5_15 (x := q 1) (pc := 21) C dX5_begin_21 0 rfl rfl ?_
  refine V_iconst (pc := 24) C dX5_begin_24 ?_
  refine V_iconst (pc := 25) C dX5_begin_25 ?_
  refine ac_X5_37 (pc := 26) (f := T5) (g := A1) (ws' := [(o, .inr (5, fX5 q f)), (q 0, aI (d 0) 6 (cpI T0 A0 6)), (q 1, aI (d 0) 4 (cpI T5 A1 4)), (t, .inr (6, fX6 qt ft)), (qt 0, aI (d 0) 6 T0), (qt 5, aI (d 0) 4 T5)]) C dX5_begin_26 5 2 rfl rfl (by decide) (by decide) (by decide) (by omega) (by show _ ≤ R.locals; rw [hRl]; exact Nat.le_of_ble_eq_true rfl) rfl ?_
  refine V_aload_n (pc := 29) C dX5_begin_29 rfl 0 rfl ?_
  refine V_iconst (pc := 30) C dX5_begin_30 ?_
  refine pf_X5_44 (ws' := [(o, .inr (5, fX5 q (up f 6 0))), (q 0, aI (d 0) 6 (cpI T0 A0 6)), (q 1, aI (d 0) 4 (cpI T5 A1 4)), (t, .inr (6, fX6 qt ft)), (qt 0, aI (d 0) 6 T0), (qt 5, aI (d 0) 4 T5)]) (pc := 31) C dX5_begin_31 0 rfl rfl ?_
  exact V_vret (pc := 34) C Z dX5_begin_34 () trivial rfl rfl
set_option maxRecDepth 100000 in
set_option maxHeartbeats 4000000 in
theorem c_X5_takeFrom (l : Launch) (D : va_G) (d : Nat → ClassId) (o : Nat) (t : Nat) (q : Nat → Nat) (qt : Nat → Nat) (f : Nat → Int) (ft : Nat → Int) (A0 : Int → Int) (A1 : Int → Int) (A2 : Int → Int) (A3 : Int → Int) (A4 : Int → Int) (A5 : Int → Int) (B0 : Int → Int) (B1 : Int → Int) (B2 : Int → Int) (B3 : Int → Int) (B4 : Int → Int) (B5 : Int → Int) : CU l yX5_takeFrom cX5_takeFrom 2 none 1 40 D d [.ref o, .ref t] [(o, .inr (5, fX5 q f)), (q 0, aI (d 0) 6 A0), (q 1, aI (d 0) 4 A1), (q 2, aI (d 0) 12 A2), (q 3, aI (d 0) 12 A3), (q 4, aI (d 0) 12 A4), (q 5, aI (d 0) 12 A5), (t, .inr (5, fX5 qt ft)), (qt 0, aI (d 0) 6 B0), (qt 1, aI (d 0) 4 B1), (qt 2, aI (d 0) 12 B2), (qt 3, aI (d 0) 12 B3), (qt 4, aI (d 0) 12 B4), (qt 5, aI (d 0) 12 B5)] (fun (_ : Unit) => True) (fun (_ : Unit) => none) (fun (_ : Unit) => [(o, .inr (5, fX5 q (up (up f 6 (ft 6)) 7 (ft 7)))), (q 0, aI (d 0) 6 (cpI B0 A0 6)), (q 1, aI (d 0) 4 (cpI B1 A1 4)), (q 2, aI (d 0) 12 (cpI B2 A2 12)), (q 3, aI (d 0) 12 (cpI B3 A3 12)), (q 4, aI (d 0) 12 (cpI B4 A4 12)), (q 5, aI (d 0) 12 (cpI B5 A5 12)), (t, .inr (5, fX5 qt ft)), (qt 0, aI (d 0) 6 B0), (qt 1, aI (d 0) 4 B1), (qt 2, aI (d 0) 12 B2), (qt 3, aI (d 0) 12 B3), (qt 4, aI (d 0) 12 B4), (qt 5, aI (d 0) 12 B5)]) := by
  refine CU.mk (own := RX5) (lv := [(0, .ref o), (1, .ref t)]) rfl (by decide) (Nat.le_of_ble_eq_true rfl) rfl ?_
  intro p e R s m args below meth c A Q hRf hRl C Z
  refine V_aload_n (pc := 0) C dX5_takeFrom_0 rfl 1 rfl ?_
  refine gf_X5_9 (x := qt 0) (pc := 1) C dX5_takeFrom_1 7 rfl rfl ?_
  refine V_iconst (pc := 4) C dX5_takeFrom_4 ?_
  refine V_aload_n (pc := 5) C dX5_takeFrom_5 rfl 0 rfl ?_
  refine gf_X5_9 (x := q 0) (pc := 6) C dX5_takeFrom_6 0 rfl rfl ?_
  refine V_iconst (pc := 9) C dX5_takeFrom_9 ?_
  refine V_bipush (pc := 10) C dX5_takeFrom_10 rfl ?_
  refine ac_X5_37 (pc := 12) (f := B0) (g := A0) (ws' := [(o, .inr (5, fX5 q f)), (q 0, aI (d 0) 6 (cpI B0 A0 6)), (q 1, aI (d 0) 4 A1), (q 2, aI (d 0) 12 A2), (q 3, aI (d 0) 12 A3), (q 4, aI (d 0) 12 A4), (q 5, aI (d 0) 12 A5), (t, .inr (5, fX5 qt ft)), (qt 0, aI (d 0) 6 B0), (qt 1, aI (d 0) 4 B1), (qt 2, aI (d 0) 12 B2), (qt 3, aI (d 0) 12 B3), (qt 4, aI (d 0) 12 B4), (qt 5, aI (d 0) 12 B5)]) C dX5_takeFrom_12 8 1 rfl rfl (by decide) (by decide) (by decide) (by omega) (by show _ ≤ R.locals; rw [hRl]; exact Nat.le_of_ble_eq_true rfl) rfl ?_
  refine V_aload_n (pc := 15) C dX5_takeFrom_15 rfl 1 rfl ?_
  refine gf_X5_15 (x := qt 1) (pc := 16) C dX5_takeFrom_16 7 rfl rfl ?_
  refine V_iconst (pc := 19) C dX5_takeFrom_19 ?_
  refine V_aload_n (pc := 20) C dX5_takeFrom_20 rfl 0 rfl ?_
  refine gf_X5_15 (x := q 1) (pc := 21) C dX5_takeFrom_21 0 rfl rfl ?_
  refine V_iconst (pc := 24) C dX5_takeFrom_24 ?_
  refine V_iconst (pc := 25) C dX5_takeFrom_25 ?_
  refine ac_X5_37 (pc := 26) (f := B1) (g := A1) (ws' := [(o, .inr (5, fX5 q f)), (q 0, aI (d 0) 6 (cpI B0 A0 6)), (q 1, aI (d 0) 4 (cpI B1 A1 4)), (q 2, aI (d 0) 12 A2), (q 3, aI (d 0) 12 A3), (q 4, aI (d 0) 12 A4), (q 5, aI (d 0) 12 A5), (t, .inr (5, fX5 qt ft)), (qt 0, aI (d 0) 6 B0), (qt 1, aI (d 0) 4 B1), (qt 2, aI (d 0) 12 B2), (qt 3, aI (d 0) 12 B3), (qt 4, aI (d 0) 12 B4), (qt 5, aI (d 0) 12 B5)]) C dX5_takeFrom_26 9 2 rfl rfl (by decide) (by decide) (by decide) (by omega) (by show _ ≤ R.locals; rw [hRl]; exact Nat.le_of_ble_eq_true rfl) rfl ?_
  refine V_aload_n (pc := 29) C dX5_takeFrom_29 rfl 1 rfl ?_
  refine gf_X5_18 (x := qt 2) (pc := 30) C dX5_takeFrom_30 7 rfl rfl ?_
  refine V_iconst (pc := 33) C dX5_takeFrom_33 ?_
  refine V_aload_n (pc := 34) C dX5_takeFrom_34 rfl 0 rfl ?_
  refine gf_X5_18 (x := q 2) (pc := 35) C dX5_takeFrom_35 0 rfl rfl ?_
  refine V_iconst (pc := 38) C dX5_takeFrom_38 ?_
  refine V_bipush (pc := 39) C dX5_takeFrom_39 rfl ?_
  refine ac_X5_37 (pc := 41) (f := B2) (g := A2) (ws' := [(o, .inr (5, fX5 q f)), (q 0, aI (d 0) 6 (cpI B0 A0 6)), (q 1, aI (d 0) 4 (cpI B1 A1 4)), (q 2, aI (d 0) 12 (cpI B2 A2 12)), (q 3, aI (d 0) 12 A3), (q 4, aI (d 0) 12 A4), (q 5, aI (d 0) 12 A5), (t, .inr (5, fX5 qt ft)), (qt 0, aI (d 0) 6 B0), (qt 1, aI (d 0) 4 B1), (qt 2, aI (d 0) 12 B2), (qt 3, aI (d 0) 12 B3), (qt 4, aI (d 0) 12 B4), (qt 5, aI (d 0) 12 B5)]) C dX5_takeFrom_41 10 3 rfl rfl (by decide) (by decide) (by decide) (by omega) (by show _ ≤ R.locals; rw [hRl]; exact Nat.le_of_ble_eq_true rfl) rfl ?_
  refine V_aload_n (pc := 44) C dX5_takeFrom_44 rfl 1 rfl ?_
  refine gf_X5_21 (x := qt 3) (pc := 45) C dX5_takeFrom_45 7 rfl rfl ?_
  refine V_iconst (pc := 48) C dX5_takeFrom_48 ?_
  refine V_aload_n (pc := 49) C dX5_takeFrom_49 rfl 0 rfl ?_
  refine gf_X5_21 (x := q 3) (pc := 50) C dX5_takeFrom_50 0 rfl rfl ?_
  refine V_iconst (pc := 53) C dX5_takeFrom_53 ?_
  refine V_bipush (pc := 54) C dX5_takeFrom_54 rfl ?_
  refine ac_X5_37 (pc := 56) (f := B3) (g := A3) (ws' := [(o, .inr (5, fX5 q f)), (q 0, aI (d 0) 6 (cpI B0 A0 6)), (q 1, aI (d 0) 4 (cpI B1 A1 4)), (q 2, aI (d 0) 12 (cpI B2 A2 12)), (q 3, aI (d 0) 12 (cpI B3 A3 12)), (q 4, aI (d 0) 12 A4), (q 5, aI (d 0) 12 A5), (t, .inr (5, fX5 qt ft)), (qt 0, aI (d 0) 6 B0), (qt 1, aI (d 0) 4 B1), (qt 2, aI (d 0) 12 B2), (qt 3, aI (d 0) 12 B3), (qt 4, aI (d 0) 12 B4), (qt 5, aI (d 0) 12 B5)]) C dX5_takeFrom_56 11 4 rfl rfl (by decide) (by decide) (by decide) (by omega) (by show _ ≤ R.locals; rw [hRl]; exact Nat.le_of_ble_eq_true rfl) rfl ?_
  refine V_aload_n (pc := 59) C dX5_takeFrom_59 rfl 1 rfl ?_
  refine gf_X5_24 (x := qt 4) (pc := 60) C dX5_takeFrom_60 7 rfl rfl ?_
  refine V_iconst (pc := 63) C dX5_takeFrom_63 ?_
  refine V_aload_n (pc := 64) C dX5_takeFrom_64 rfl 0 rfl ?_
  refine gf_X5_24 (x := q 4) (pc := 65) C dX5_takeFrom_65 0 rfl rfl ?_
  refine V_iconst (pc := 68) C dX5_takeFrom_68 ?_
  refine V_bipush (pc := 69) C dX5_takeFrom_69 rfl ?_
  refine ac_X5_37 (pc := 71) (f := B4) (g := A4) (ws' := [(o, .inr (5, fX5 q f)), (q 0, aI (d 0) 6 (cpI B0 A0 6)), (q 1, aI (d 0) 4 (cpI B1 A1 4)), (q 2, aI (d 0) 12 (cpI B2 A2 12)), (q 3, aI (d 0) 12 (cpI B3 A3 12)), (q 4, aI (d 0) 12 (cpI B4 A4 12)), (q 5, aI (d 0) 12 A5), (t, .inr (5, fX5 qt ft)), (qt 0, aI (d 0) 6 B0), (qt 1, aI (d 0) 4 B1), (qt 2, aI (d 0) 12 B2), (qt 3, aI (d 0) 12 B3), (qt 4, aI (d 0) 12 B4), (qt 5, aI (d 0) 12 B5)]) C dX5_takeFrom_71 12 5 rfl rfl (by decide) (by decide) (by decide) (by omega) (by show _ ≤ R.locals; rw [hRl]; exact Nat.le_of_ble_eq_true rfl) rfl ?_
  refine V_aload_n (pc := 74) C dX5_takeFrom_74 rfl 1 rfl ?_
  refine gf_X5_27 (x := qt 5) (pc := 75) C dX5_takeFrom_75 7 rfl rfl ?_
  refine V_iconst (pc := 78) C dX5_takeFrom_78 ?_
  refine V_aload_n (pc := 79) C dX5_takeFrom_79 rfl 0 rfl ?_
  refine gf_X5_27 (x := q 5) (pc := 80) C dX5_takeFrom_80 0 rfl rfl ?_
  refine V_iconst (pc := 83) C dX5_takeFrom_83 ?_
  refine V_bipush (pc := 84) C dX5_takeFrom_84 rfl ?_
  refine ac_X5_37 (pc := 86) (f := B5) (g := A5) (ws' := [(o, .inr (5, fX5 q f)), (q 0, aI (d 0) 6 (cpI B0 A0 6)), (q 1, aI (d 0) 4 (cpI B1 A1 4)), (q 2, aI (d 0) 12 (cpI B2 A2 12)), (q 3, aI (d 0) 12 (cpI B3 A3 12)), (q 4, aI (d 0) 12 (cpI B4 A4 12)), (q 5, aI (d 0) 12 (cpI B5 A5 12)), (t, .inr (5, fX5 qt ft)), (qt 0, aI (d 0) 6 B0), (qt 1, aI (d 0) 4 B1), (qt 2, aI (d 0) 12 B2), (qt 3, aI (d 0) 12 B3), (qt 4, aI (d 0) 12 B4), (qt 5, aI (d 0) 12 B5)]) C dX5_takeFrom_86 13 6 rfl rfl (by decide) (by decide) (by decide) (by omega) (by show _ ≤ R.locals; rw [hRl]; exact Nat.le_of_ble_eq_true rfl) rfl ?_
  refine V_aload_n (pc := 89) C dX5_takeFrom_89 rfl 0 rfl ?_
  refine V_aload_n (pc := 90) C dX5_takeFrom_90 rfl 1 rfl ?_
  refine gf_X5_44 (x := ft 6) (pc := 91) C dX5_takeFrom_91 7 rfl rfl ?_
  refine pf_X5_44 (ws' := [(o, .inr (5, fX5 q (up f 6 (ft 6)))), (q 0, aI (d 0) 6 (cpI B0 A0 6)), (q 1, aI (d 0) 4 (cpI B1 A1 4)), (q 2, aI (d 0) 12 (cpI B2 A2 12)), (q 3, aI (d 0) 12 (cpI B3 A3 12)), (q 4, aI (d 0) 12 (cpI B4 A4 12)), (q 5, aI (d 0) 12 (cpI B5 A5 12)), (t, .inr (5, fX5 qt ft)), (qt 0, aI (d 0) 6 B0), (qt 1, aI (d 0) 4 B1), (qt 2, aI (d 0) 12 B2), (qt 3, aI (d 0) 12 B3), (qt 4, aI (d 0) 12 B4), (qt 5, aI (d 0) 12 B5)]) (pc := 94) C dX5_takeFrom_94 0 rfl rfl ?_
  refine V_aload_n (pc := 97) C dX5_takeFrom_97 rfl 0 rfl ?_
  refine V_aload_n (pc := 98) C dX5_takeFrom_98 rfl 1 rfl ?_
  refine gf_X5_30 (x := ft 7) (pc := 99) C dX5_takeFrom_99 7 rfl rfl ?_
  refine pf_X5_30 (ws' := [(o, .inr (5, fX5 q (up (up f 6 (ft 6)) 7 (ft 7)))), (q 0, aI (d 0) 6 (cpI B0 A0 6)), (q 1, aI (d 0) 4 (cpI B1 A1 4)), (q 2, aI (d 0) 12 (cpI B2 A2 12)), (q 3, aI (d 0) 12 (cpI B3 A3 12)), (q 4, aI (d 0) 12 (cpI B4 A4 12)), (q 5, aI (d 0) 12 (cpI B5 A5 12)), (t, .inr (5, fX5 qt ft)), (qt 0, aI (d 0) 6 B0), (qt 1, aI (d 0) 4 B1), (qt 2, aI (d 0) 12 B2), (qt 3, aI (d 0) 12 B3), (qt 4, aI (d 0) 12 B4), (qt 5, aI (d 0) 12 B5)]) (pc := 102) C dX5_takeFrom_102 0 rfl rfl ?_
  exact V_vret (pc := 105) C Z dX5_takeFrom_105 () trivial rfl rfl
set_option maxRecDepth 100000 in
set_option maxHeartbeats 4000000 in
theorem c_X5_sell (l : Launch) (D : va_G) (d : Nat → ClassId) (o : Nat) (q : Nat → Nat) (f : Nat → Int) (A0 : Int → Int) (A1 : Int → Int) (A2 : Int → Int) (A3 : Int → Int) (A4 : Int → Int) (A5 : Int → Int) (b : Int) (k : Int) (n : Int) (h6 : 0 ≤ f 6 ∧ f 6 < 12) (hb : 0 ≤ b ∧ b < 6) (hk : 0 ≤ k ∧ k < 4) : CU l yX5_sell cX5_sell 4 none 0 0 D d [.ref o, .int (iI b), .int (iI k), .int (iI n)] [(o, .inr (5, fX5 q f)), (q 0, aI (d 0) 6 A0), (q 1, aI (d 0) 4 A1), (q 2, aI (d 0) 12 A2), (q 3, aI (d 0) 12 A3), (q 4, aI (d 0) 12 A4), (q 5, aI (d 0) 12 A5)] (fun (_ : Unit) => True) (fun (_ : Unit) => none) (fun (_ : Unit) => [(o, .inr (5, fX5 q (up f 6 (f 6 + 1)))), (q 0, aI (d 0) 6 A0), (q 1, aI (d 0) 4 (uI A1 k (A1 k - n * A0 b))), (q 2, aI (d 0) 12 (uI A2 (f 6) b)), (q 3, aI (d 0) 12 (uI A3 (f 6) k)), (q 4, aI (d 0) 12 (uI A4 (f 6) n)), (q 5, aI (d 0) 12 (uI A5 (f 6) (n * A0 b)))]) := by
  refine CU.mk (own := RX5) (lv := [(0, .ref o), (1, .int (iI b)), (2, .int (iI k)), (3, .int (iI n))]) rfl (by decide) (Nat.le_of_ble_eq_true rfl) rfl ?_
  intro p e R s m args below meth c A Q hRf hRl C Z
  refine V_aload_n (pc := 0) C dX5_sell_0 rfl 0 rfl ?_
  refine gf_X5_18 (x := q 2) (pc := 1) C dX5_sell_1 0 rfl rfl ?_
  refine V_aload_n (pc := 4) C dX5_sell_4 rfl 0 rfl ?_
  refine gf_X5_44 (x := f 6) (pc := 5) C dX5_sell_5 0 rfl rfl ?_
  refine V_iload_n (pc := 8) C dX5_sell_8 rfl 1 rfl ?_
  refine V_iast (f := A2) (ws' := [(o, .inr (5, fX5 q f)), (q 0, aI (d 0) 6 A0), (q 1, aI (d 0) 4 A1), (q 2, aI (d 0) 12 (uI A2 (f 6) b)), (q 3, aI (d 0) 12 A3), (q 4, aI (d 0) 12 A4), (q 5, aI (d 0) 12 A5)]) (pc := 9) C dX5_sell_9 3 rfl (by omega) (by omega) (Nat.le_of_ble_eq_true rfl) rfl ?_
  refine V_aload_n (pc := 10) C dX5_sell_10 rfl 0 rfl ?_
  refine gf_X5_21 (x := q 3) (pc := 11) C dX5_sell_11 0 rfl rfl ?_
  refine V_aload_n (pc := 14) C dX5_sell_14 rfl 0 rfl ?_
  refine gf_X5_44 (x := f 6) (pc := 15) C dX5_sell_15 0 rfl rfl ?_
  refine V_iload_n (pc := 18) C dX5_sell_18 rfl 2 rfl ?_
  refine V_iast (f := A3) (ws' := [(o, .inr (5, fX5 q f)), (q 0, aI (d 0) 6 A0), (q 1, aI (d 0) 4 A1), (q 2, aI (d 0) 12 (uI A2 (f 6) b)), (q 3, aI (d 0) 12 (uI A3 (f 6) k)), (q 4, aI (d 0) 12 A4), (q 5, aI (d 0) 12 A5)]) (pc := 19) C dX5_sell_19 4 rfl (by omega) (by omega) (Nat.le_of_ble_eq_true rfl) rfl ?_
  refine V_aload_n (pc := 20) C dX5_sell_20 rfl 0 rfl ?_
  refine gf_X5_24 (x := q 4) (pc := 21) C dX5_sell_21 0 rfl rfl ?_
  refine V_aload_n (pc := 24) C dX5_sell_24 rfl 0 rfl ?_
  refine gf_X5_44 (x := f 6) (pc := 25) C dX5_sell_25 0 rfl rfl ?_
  refine V_iload_n (pc := 28) C dX5_sell_28 rfl 3 rfl ?_
  refine V_iast (f := A4) (ws' := [(o, .inr (5, fX5 q f)), (q 0, aI (d 0) 6 A0), (q 1, aI (d 0) 4 A1), (q 2, aI (d 0) 12 (uI A2 (f 6) b)), (q 3, aI (d 0) 12 (uI A3 (f 6) k)), (q 4, aI (d 0) 12 (uI A4 (f 6) n)), (q 5, aI (d 0) 12 A5)]) (pc := 29) C dX5_sell_29 5 rfl (by omega) (by omega) (Nat.le_of_ble_eq_true rfl) rfl ?_
  refine V_aload_n (pc := 30) C dX5_sell_30 rfl 0 rfl ?_
  refine gf_X5_27 (x := q 5) (pc := 31) C dX5_sell_31 0 rfl rfl ?_
  refine V_aload_n (pc := 34) C dX5_sell_34 rfl 0 rfl ?_
  refine gf_X5_44 (x := f 6) (pc := 35) C dX5_sell_35 0 rfl rfl ?_
  refine V_iload_n (pc := 38) C dX5_sell_38 rfl 3 rfl ?_
  refine V_aload_n (pc := 39) C dX5_sell_39 rfl 0 rfl ?_
  refine gf_X5_9 (x := q 0) (pc := 40) C dX5_sell_40 0 rfl rfl ?_
  refine V_iload_n (pc := 43) C dX5_sell_43 rfl 1 rfl ?_
  refine V_iald (f := A0) (pc := 44) C dX5_sell_44 1 rfl (by omega) (by omega) (Nat.le_of_ble_eq_true rfl) ?_
  refine V_imul (pc := 45) C dX5_sell_45 ?_
  refine V_iast (f := A5) (ws' := [(o, .inr (5, fX5 q f)), (q 0, aI (d 0) 6 A0), (q 1, aI (d 0) 4 A1), (q 2, aI (d 0) 12 (uI A2 (f 6) b)), (q 3, aI (d 0) 12 (uI A3 (f 6) k)), (q 4, aI (d 0) 12 (uI A4 (f 6) n)), (q 5, aI (d 0) 12 (uI A5 (f 6) (n * (A0 b))))]) (pc := 46) C dX5_sell_46 6 rfl (by omega) (by omega) (Nat.le_of_ble_eq_true rfl) rfl ?_
  refine V_aload_n (pc := 47) C dX5_sell_47 rfl 0 rfl ?_
  refine gf_X5_15 (x := q 1) (pc := 48) C dX5_sell_48 0 rfl rfl ?_
  refine V_iload_n (pc := 51) C dX5_sell_51 rfl 2 rfl ?_
  refine V_dup2 (pc := 52) C dX5_sell_52 rfl rfl ?_
  refine V_iald (f := A1) (pc := 53) C dX5_sell_53 2 rfl (by omega) (by omega) (Nat.le_of_ble_eq_true rfl) ?_
  refine V_aload_n (pc := 54) C dX5_sell_54 rfl 0 rfl ?_
  refine gf_X5_27 (x := q 5) (pc := 55) C dX5_sell_55 0 rfl rfl ?_
  refine V_aload_n (pc := 58) C dX5_sell_58 rfl 0 rfl ?_
  refine gf_X5_44 (x := f 6) (pc := 59) C dX5_sell_59 0 rfl rfl ?_
  refine V_iald (f := uI A5 (f 6) (n * (A0 b))) (pc := 62) C dX5_sell_62 6 rfl (by omega) (by omega) (Nat.le_of_ble_eq_true rfl) ?_
  refine V_isub (pc := 63) C dX5_sell_63 ?_
  refine V_iast (f := A1) (ws' := [(o, .inr (5, fX5 q f)), (q 0, aI (d 0) 6 A0), (q 1, aI (d 0) 4 (uI A1 k ((A1 k) - ((uI A5 (f 6) (n * (A0 b))) (f 6))))), (q 2, aI (d 0) 12 (uI A2 (f 6) b)), (q 3, aI (d 0) 12 (uI A3 (f 6) k)), (q 4, aI (d 0) 12 (uI A4 (f 6) n)), (q 5, aI (d 0) 12 (uI A5 (f 6) (n * (A0 b))))]) (pc := 64) C dX5_sell_64 2 rfl (by omega) (by omega) (Nat.le_of_ble_eq_true rfl) rfl ?_
  refine V_aload_n (pc := 65) C dX5_sell_65 rfl 0 rfl ?_
  refine V_dup (pc := 66) C dX5_sell_66 rfl ?_
  refine gf_X5_44 (x := f 6) (pc := 67) C dX5_sell_67 0 rfl rfl ?_
  refine V_iconst (pc := 70) C dX5_sell_70 ?_
  refine V_iadd (pc := 71) C dX5_sell_71 ?_
  refine pf_X5_44 (ws' := [(o, .inr (5, fX5 q (up f 6 ((f 6) + 1)))), (q 0, aI (d 0) 6 A0), (q 1, aI (d 0) 4 (uI A1 k ((A1 k) - ((uI A5 (f 6) (n * (A0 b))) (f 6))))), (q 2, aI (d 0) 12 (uI A2 (f 6) b)), (q 3, aI (d 0) 12 (uI A3 (f 6) k)), (q 4, aI (d 0) 12 (uI A4 (f 6) n)), (q 5, aI (d 0) 12 (uI A5 (f 6) (n * (A0 b))))]) (pc := 72) C dX5_sell_72 0 rfl rfl ?_
  exact V_vret (pc := 75) C Z dX5_sell_75 () trivial rfl (by simp only [uI_s])
set_option maxRecDepth 100000 in
set_option maxHeartbeats 4000000 in
theorem c_X5_takeBack (l : Launch) (D : va_G) (d : Nat → ClassId) (o : Nat) (q : Nat → Nat) (f : Nat → Int) (A1 : Int → Int) (A3 : Int → Int) (A5 : Int → Int) (h6 : 0 < f 6 ∧ f 6 ≤ 12) (hA3 : bd A3 0 3) : CU l yX5_takeBack cX5_takeBack 1 none 0 0 D d [.ref o] [(o, .inr (5, fX5 q f)), (q 1, aI (d 0) 4 A1), (q 3, aI (d 0) 12 A3), (q 5, aI (d 0) 12 A5)] (fun (_ : Unit) => True) (fun (_ : Unit) => none) (fun (_ : Unit) => [(o, .inr (5, fX5 q (up f 6 (f 6 - 1)))), (q 1, aI (d 0) 4 (uI A1 (A3 (f 6 - 1)) (A1 (A3 (f 6 - 1)) + A5 (f 6 - 1)))), (q 3, aI (d 0) 12 A3), (q 5, aI (d 0) 12 A5)]) := by
  refine CU.mk (own := RX5) (lv := [(0, .ref o)]) rfl (by decide) (Nat.le_of_ble_eq_true rfl) rfl ?_
  intro p e R s m args below meth c A Q hRf hRl C Z
  refine V_aload_n (pc := 0) C dX5_takeBack_0 rfl 0 rfl ?_
  refine V_dup (pc := 1) C dX5_takeBack_1 rfl ?_
  refine gf_X5_44 (x := f 6) (pc := 2) C dX5_takeBack_2 0 rfl rfl ?_
  refine V_iconst (pc := 5) C dX5_takeBack_5 ?_
  refine V_isub (pc := 6) C dX5_takeBack_6 ?_
  refine pf_X5_44 (ws' := [(o, .inr (5, fX5 q (up f 6 ((f 6) - 1)))), (q 1, aI (d 0) 4 A1), (q 3, aI (d 0) 12 A3), (q 5, aI (d 0) 12 A5)]) (pc := 7) C dX5_takeBack_7 0 rfl rfl ?_
  refine V_aload_n (pc := 10) C dX5_takeBack_10 rfl 0 rfl ?_
  refine gf_X5_15 (x := q 1) (pc := 11) C dX5_takeBack_11 0 rfl rfl ?_
  refine V_aload_n (pc := 14) C dX5_takeBack_14 rfl 0 rfl ?_
  refine gf_X5_21 (x := q 3) (pc := 15) C dX5_takeBack_15 0 rfl rfl ?_
  refine V_aload_n (pc := 18) C dX5_takeBack_18 rfl 0 rfl ?_
  refine gf_X5_44 (x := ((f 6) - 1)) (pc := 19) C dX5_takeBack_19 0 rfl rfl ?_
  refine V_iald (f := A3) (pc := 22) C dX5_takeBack_22 2 rfl (by omega) (by omega) (Nat.le_of_ble_eq_true rfl) ?_
  have b22 := hA3 ((f 6) - 1)
  refine V_dup2 (pc := 23) C dX5_takeBack_23 rfl rfl ?_
  refine V_iald (f := A1) (pc := 24) C dX5_takeBack_24 1 rfl (by omega) (by omega) (Nat.le_of_ble_eq_true rfl) ?_
  refine V_aload_n (pc := 25) C dX5_takeBack_25 rfl 0 rfl ?_
  refine gf_X5_27 (x := q 5) (pc := 26) C dX5_takeBack_26 0 rfl rfl ?_
  refine V_aload_n (pc := 29) C dX5_takeBack_29 rfl 0 rfl ?_
  refine gf_X5_44 (x := ((f 6) - 1)) (pc := 30) C dX5_takeBack_30 0 rfl rfl ?_
  refine V_iald (f := A5) (pc := 33) C dX5_takeBack_33 3 rfl (by omega) (by omega) (Nat.le_of_ble_eq_true rfl) ?_
  refine V_iadd (pc := 34) C dX5_takeBack_34 ?_
  refine V_iast (f := A1) (ws' := [(o, .inr (5, fX5 q (up f 6 ((f 6) - 1)))), (q 1, aI (d 0) 4 (uI A1 (A3 ((f 6) - 1)) ((A1 (A3 ((f 6) - 1))) + (A5 ((f 6) - 1))))), (q 3, aI (d 0) 12 A3), (q 5, aI (d 0) 12 A5)]) (pc := 35) C dX5_takeBack_35 1 rfl (by omega) (by omega) (Nat.le_of_ble_eq_true rfl) rfl ?_
  exact V_vret (pc := 36) C Z dX5_takeBack_36 () trivial rfl rfl
set_option maxRecDepth 100000 in
set_option maxHeartbeats 4000000 in
theorem c_X5_ellsSoldAt (l : Launch) (D : va_G) (d : Nat → ClassId) (o : Nat) (q : Nat → Nat) (f : Nat → Int) (A3 : Int → Int) (A4 : Int → Int) (k : Int) (h6 : 0 ≤ f 6 ∧ f 6 ≤ 12) (hA3 : bd A3 0 3) (hk : -2147483648 ≤ k ∧ k ≤ 2147483647) : CU l yX5_ellsSoldAt cX5_ellsSoldAt 4 (some .int) 0 0 D d [.ref o, .int (iI k)] [(o, .inr (5, fX5 q f)), (q 3, aI (d 0) 12 A3), (q 4, aI (d 0) 12 A4)] (fun (_ : Unit) => True) (fun (_ : Unit) => some (.int (iI (sZ (fun j => if A3 j = k then A4 j else 0) (f 6))))) (fun (_ : Unit) => [(o, .inr (5, fX5 q f)), (q 3, aI (d 0) 12 A3), (q 4, aI (d 0) 12 A4)]) := by
  refine CU.mk (own := RX5) (lv := [(0, .ref o), (1, .int (iI k))]) rfl (by decide) (Nat.le_of_ble_eq_true rfl) rfl ?_
  intro p e R s m args below meth c A Q hRf hRl C Z
  refine V_iconst (pc := 0) C dX5_ellsSoldAt_0 ?_
  refine V_istore_n (lv' := [(2, .int (iI 0)), (0, .ref o), (1, .int (iI k))]) (pc := 1) C dX5_ellsSoldAt_1 rfl (by decide) rfl ?_
  refine V_iconst (pc := 2) C dX5_ellsSoldAt_2 ?_
  refine V_istore_n (lv' := [(3, .int (iI 0)), (2, .int (iI 0)), (0, .ref o), (1, .int (iI k))]) (pc := 3) C dX5_ellsSoldAt_3 rfl (by decide) rfl ?_
  have L4 : ∀ (nn9 : Nat) (i : Int) (t : Int), (0 ≤ i ∧ i ≤ f 6) → (t = sZ (fun j => if A3 j = k then A4 j else 0) i) → (f 6 - i).toNat < nn9 → V p l e R s m args below meth c A D Q 4 0 0 [(o, .inr (5, fX5 q f)), (q 3, aI (d 0) 12 A3), (q 4, aI (d 0) 12 A4)] [(3, .int (iI i)), (2, .int (iI t)), (0, .ref o), (1, .int (iI k))] 4 [] := by
    intro nn9
    induction nn9 with
    | zero => intro _ _ _ _ hm4; exact absurd hm4 (Nat.not_lt_zero _)
    | succ nn9 ih4 =>
      intro i t hi ht hm4
      refine V_iload_n (pc := 4) C dX5_ellsSoldAt_4 rfl 0 rfl ?_
      refine V_aload_n (pc := 5) C dX5_ellsSoldAt_5 rfl 2 rfl ?_
      refine gf_X5_44 (x := f 6) (pc := 6) C dX5_ellsSoldAt_6 0 rfl rfl ?_
      refine V_icmp_ge (pc := 9) 37 C dX5_ellsSoldAt_9 (by decide) (sm_i (by omega)) (sm_i (by omega)) (fun c9 => ?_) (fun c9 => ?_)
      · refine V_iload_n (pc := 37) C dX5_ellsSoldAt_37 rfl 1 rfl ?_
        exact V_iret (pc := 38) C Z dX5_ellsSoldAt_38 () trivial (ri (by rw [ht]; congr 1; omega)) rfl
      · refine V_aload_n (pc := 12) C dX5_ellsSoldAt_12 rfl 2 rfl ?_
        refine gf_X5_21 (x := q 3) (pc := 13) C dX5_ellsSoldAt_13 0 rfl rfl ?_
        refine V_iload_n (pc := 16) C dX5_ellsSoldAt_16 rfl 0 rfl ?_
        refine V_iald (f := A3) (pc := 17) C dX5_ellsSoldAt_17 1 rfl (by omega) (by omega) (Nat.le_of_ble_eq_true rfl) ?_
        have b17 := hA3 i
        refine V_iload_n (pc := 18) C dX5_ellsSoldAt_18 rfl 3 rfl ?_
        refine V_icmp_ne (pc := 19) 31 C dX5_ellsSoldAt_19 (by decide) (sm_i (by omega)) (sm_i (by omega)) (fun c19 => ?_) (fun c19 => ?_)
        · refine V_iinc (lv' := [(3, .int (iI (i + 1))), (2, .int (iI t)), (0, .ref o), (1, .int (iI k))]) (pc := 31) C dX5_ellsSoldAt_31 0 rfl (by decide) rfl ?_
          refine V_goto (pc := 34) 4 C dX5_ellsSoldAt_34 (by decide) ?_
          exact V_sub [0, 1, 2, 3] rfl (ih4 (i + 1) t (by omega) (by rw [ht, sZ_s _ (by omega)]; (repeat' split) <;> omega) (by omega))
        · refine V_iload_n (pc := 22) C dX5_ellsSoldAt_22 rfl 1 rfl ?_
          refine V_aload_n (pc := 23) C dX5_ellsSoldAt_23 rfl 2 rfl ?_
          refine gf_X5_24 (x := q 4) (pc := 24) C dX5_ellsSoldAt_24 0 rfl rfl ?_
          refine V_iload_n (pc := 27) C dX5_ellsSoldAt_27 rfl 0 rfl ?_
          refine V_iald (f := A4) (pc := 28) C dX5_ellsSoldAt_28 2 rfl (by omega) (by omega) (Nat.le_of_ble_eq_true rfl) ?_
          refine V_iadd (pc := 29) C dX5_ellsSoldAt_29 ?_
          refine V_istore_n (lv' := [(2, .int (iI (t + (A4 i)))), (3, .int (iI i)), (0, .ref o), (1, .int (iI k))]) (pc := 30) C dX5_ellsSoldAt_30 rfl (by decide) rfl ?_
          refine V_iinc (lv' := [(3, .int (iI (i + 1))), (2, .int (iI (t + (A4 i)))), (0, .ref o), (1, .int (iI k))]) (pc := 31) C dX5_ellsSoldAt_31 1 rfl (by decide) rfl ?_
          refine V_goto (pc := 34) 4 C dX5_ellsSoldAt_34 (by decide) ?_
          exact V_sub [0, 1, 2, 3] rfl (ih4 (i + 1) (t + (A4 i)) (by omega) (by rw [ht, sZ_s _ (by omega)]; (repeat' split) <;> omega) (by omega))
  exact V_sub [0, 1, 2, 3] rfl (L4 ((f 6 - 0).toNat + 1) 0 0 (by omega) (rfl) (Nat.lt_succ_self _))
set_option maxRecDepth 100000 in
set_option maxHeartbeats 4000000 in
theorem c_X5_lostAt (l : Launch) (D : va_G) (d : Nat → ClassId) (o : Nat) (q : Nat → Nat) (f : Nat → Int) (A3 : Int → Int) (A4 : Int → Int) (A5 : Int → Int) (k : Int) (h6 : 0 ≤ f 6 ∧ f 6 ≤ 12) (hA3 : bd A3 0 3) (hk : -2147483648 ≤ k ∧ k ≤ 2147483647) : CU l yX5_lostAt cX5_lostAt 4 (some .int) 0 0 D d [.ref o, .int (iI k)] [(o, .inr (5, fX5 q f)), (q 3, aI (d 0) 12 A3), (q 4, aI (d 0) 12 A4), (q 5, aI (d 0) 12 A5)] (fun (_ : Unit) => True) (fun (_ : Unit) => some (.int (iI (sZ (fun j => if A3 j = k then A5 j - A4 j * f 7 else 0) (f 6))))) (fun (_ : Unit) => [(o, .inr (5, fX5 q f)), (q 3, aI (d 0) 12 A3), (q 4, aI (d 0) 12 A4), (q 5, aI (d 0) 12 A5)]) := by
  refine CU.mk (own := RX5) (lv := [(0, .ref o), (1, .int (iI k))]) rfl (by decide) (Nat.le_of_ble_eq_true rfl) rfl ?_
  intro p e R s m args below meth c A Q hRf hRl C Z
  refine V_iconst (pc := 0) C dX5_lostAt_0 ?_
  refine V_istore_n (lv' := [(2, .int (iI 0)), (0, .ref o), (1, .int (iI k))]) (pc := 1) C dX5_lostAt_1 rfl (by decide) rfl ?_
  refine V_iconst (pc := 2) C dX5_lostAt_2 ?_
  refine V_istore_n (lv' := [(3, .int (iI 0)), (2, .int (iI 0)), (0, .ref o), (1, .int (iI k))]) (pc := 3) C dX5_lostAt_3 rfl (by decide) rfl ?_
  have L4 : ∀ (nn9 : Nat) (i : Int) (t : Int), (0 ≤ i ∧ i ≤ f 6) → (t = sZ (fun j => if A3 j = k then A5 j - A4 j * f 7 else 0) i) → (f 6 - i).toNat < nn9 → V p l e R s m args below meth c A D Q 4 0 0 [(o, .inr (5, fX5 q f)), (q 3, aI (d 0) 12 A3), (q 4, aI (d 0) 12 A4), (q 5, aI (d 0) 12 A5)] [(3, .int (iI i)), (2, .int (iI t)), (0, .ref o), (1, .int (iI k))] 4 [] := by
    intro nn9
    induction nn9 with
    | zero => intro _ _ _ _ hm4; exact absurd hm4 (Nat.not_lt_zero _)
    | succ nn9 ih4 =>
      intro i t hi ht hm4
      refine V_iload_n (pc := 4) C dX5_lostAt_4 rfl 0 rfl ?_
      refine V_aload_n (pc := 5) C dX5_lostAt_5 rfl 2 rfl ?_
      refine gf_X5_44 (x := f 6) (pc := 6) C dX5_lostAt_6 0 rfl rfl ?_
      refine V_icmp_ge (pc := 9) 49 C dX5_lostAt_9 (by decide) (sm_i (by omega)) (sm_i (by omega)) (fun c9 => ?_) (fun c9 => ?_)
      · refine V_iload_n (pc := 49) C dX5_lostAt_49 rfl 1 rfl ?_
        exact V_iret (pc := 50) C Z dX5_lostAt_50 () trivial (ri (by rw [ht]; congr 1; omega)) rfl
      · refine V_aload_n (pc := 12) C dX5_lostAt_12 rfl 2 rfl ?_
        refine gf_X5_21 (x := q 3) (pc := 13) C dX5_lostAt_13 0 rfl rfl ?_
        refine V_iload_n (pc := 16) C dX5_lostAt_16 rfl 0 rfl ?_
        refine V_iald (f := A3) (pc := 17) C dX5_lostAt_17 1 rfl (by omega) (by omega) (Nat.le_of_ble_eq_true rfl) ?_
        have b17 := hA3 i
        refine V_iload_n (pc := 18) C dX5_lostAt_18 rfl 3 rfl ?_
        refine V_icmp_ne (pc := 19) 43 C dX5_lostAt_19 (by decide) (sm_i (by omega)) (sm_i (by omega)) (fun c19 => ?_) (fun c19 => ?_)
        · refine V_iinc (lv' := [(3, .int (iI (i + 1))), (2, .int (iI t)), (0, .ref o), (1, .int (iI k))]) (pc := 43) C dX5_lostAt_43 0 rfl (by decide) rfl ?_
          refine V_goto (pc := 46) 4 C dX5_lostAt_46 (by decide) ?_
          exact V_sub [0, 1, 2, 3] rfl (ih4 (i + 1) t (by omega) (by rw [ht, sZ_s _ (by omega)]; (repeat' split) <;> omega) (by omega))
        · refine V_iload_n (pc := 22) C dX5_lostAt_22 rfl 1 rfl ?_
          refine V_aload_n (pc := 23) C dX5_lostAt_23 rfl 2 rfl ?_
          refine gf_X5_27 (x := q 5) (pc := 24) C dX5_lostAt_24 0 rfl rfl ?_
          refine V_iload_n (pc := 27) C dX5_lostAt_27 rfl 0 rfl ?_
          refine V_iald (f := A5) (pc := 28) C dX5_lostAt_28 3 rfl (by omega) (by omega) (Nat.le_of_ble_eq_true rfl) ?_
          refine V_aload_n (pc := 29) C dX5_lostAt_29 rfl 2 rfl ?_
          refine gf_X5_24 (x := q 4) (pc := 30) C dX5_lostAt_30 0 rfl rfl ?_
          refine V_iload_n (pc := 33) C dX5_lostAt_33 rfl 0 rfl ?_
          refine V_iald (f := A4) (pc := 34) C dX5_lostAt_34 2 rfl (by omega) (by omega) (Nat.le_of_ble_eq_true rfl) ?_
          refine V_aload_n (pc := 35) C dX5_lostAt_35 rfl 2 rfl ?_
          refine gf_X5_30 (x := f 7) (pc := 36) C dX5_lostAt_36 0 rfl rfl ?_
          refine V_imul (pc := 39) C dX5_lostAt_39 ?_
          refine V_isub (pc := 40) C dX5_lostAt_40 ?_
          refine V_iadd (pc := 41) C dX5_lostAt_41 ?_
          refine V_istore_n (lv' := [(2, .int (iI (t + ((A5 i) - ((A4 i) * (f 7)))))), (3, .int (iI i)), (0, .ref o), (1, .int (iI k))]) (pc := 42) C dX5_lostAt_42 rfl (by decide) rfl ?_
          refine V_iinc (lv' := [(3, .int (iI (i + 1))), (2, .int (iI (t + ((A5 i) - ((A4 i) * (f 7)))))), (0, .ref o), (1, .int (iI k))]) (pc := 43) C dX5_lostAt_43 1 rfl (by decide) rfl ?_
          refine V_goto (pc := 46) 4 C dX5_lostAt_46 (by decide) ?_
          exact V_sub [0, 1, 2, 3] rfl (ih4 (i + 1) (t + ((A5 i) - ((A4 i) * (f 7)))) (by omega) (by rw [ht, sZ_s _ (by omega)]; (repeat' split) <;> omega) (by omega))
  exact V_sub [0, 1, 2, 3] rfl (L4 ((f 6 - 0).toNat + 1) 0 0 (by omega) (rfl) (Nat.lt_succ_self _))
set_option maxRecDepth 100000 in
set_option maxHeartbeats 4000000 in
theorem c_X6_clear (l : Launch) (D : va_G) (d : Nat → ClassId) (o : Nat) (q : Nat → Nat) (f : Nat → Int) (T2 : Int → Int) (T3 : Int → Int) : CU l yX6_clear cX6_clear 1 none 1 23 D d [.ref o] [(o, .inr (6, fX6 q f)), (q 2, aI (d 0) 6 T2), (q 3, aI (d 0) 6 T3)] (fun (_ : Unit) => True) (fun (_ : Unit) => none) (fun (_ : Unit) => [(o, .inr (6, fX6 q (up (up (up (up f 6 0) 7 0) 8 0) 9 0))), (q 2, aI (d 0) 6 (cpI (fun _ => 0) T2 6)), (q 3, aI (d 0) 6 (cpI (fun _ => 0) T3 6))]) := by
  refine CU.mk (own := RX6) (lv := [(0, .ref o)]) rfl (by decide) (Nat.le_of_ble_eq_true rfl) rfl ?_
  intro p e R s m args below meth c A Q hRf hRl C Z
  refine V_aload_n (pc := 0) C dX6_clear_0 rfl 0 rfl ?_
  refine V_iconst (pc := 1) C dX6_clear_1 ?_
  refine pf_X6_30 (ws' := [(o, .inr (6, fX6 q (up f 6 0))), (q 2, aI (d 0) 6 T2), (q 3, aI (d 0) 6 T3)]) (pc := 2) C dX6_clear_2 0 rfl rfl ?_
  refine V_aload_n (pc := 5) C dX6_clear_5 rfl 0 rfl ?_
  refine V_iconst (pc := 6) C dX6_clear_6 ?_
  refine pf_X6_34 (ws' := [(o, .inr (6, fX6 q (up (up f 6 0) 7 0))), (q 2, aI (d 0) 6 T2), (q 3, aI (d 0) 6 T3)]) (pc := 7) C dX6_clear_7 0 rfl rfl ?_
  refine V_aload_n (pc := 10) C dX6_clear_10 rfl 0 rfl ?_
  refine V_iconst (pc := 11) C dX6_clear_11 ?_
  refine pf_X6_37 (ws' := [(o, .inr (6, fX6 q (up (up (up f 6 0) 7 0) 8 0))), (q 2, aI (d 0) 6 T2), (q 3, aI (d 0) 6 T3)]) (pc := 12) C dX6_clear_12 0 rfl rfl ?_
  refine V_aload_n (pc := 15) C dX6_clear_15 rfl 0 rfl ?_
  refine V_iconst (pc := 16) C dX6_clear_16 ?_
  refine pf_X6_40 (ws' := [(o, .inr (6, fX6 q (up (up (up (up f 6 0) 7 0) 8 0) 9 0))), (q 2, aI (d 0) 6 T2), (q 3, aI (d 0) 6 T3)]) (pc := 17) C dX6_clear_17 0 rfl rfl ?_
  refine V_aload_n (pc := 20) C dX6_clear_20 rfl 0 rfl ?_
  refine gf_X6_18 (x := q 2) (pc := 21) C dX6_clear_21 0 rfl rfl ?_
  refine V_iconst (pc := 24) C dX6_clear_24 ?_
  refine cs_X6_43 (pc := 25) (rest := []) (wn := fun _ => [(o, .inr (6, fX6 q (up (up (up (up f 6 0) 7 0) 8 0) 9 0))), (q 2, aI (d 0) 6 (cpI (fun _ => 0) T2 6)), (q 3, aI (d 0) 6 T3)]) (sn := fun _ => []) C dX6_clear_25 (c_J7_fill_53178 l D d (q 2) 6 T2 0 (by omega)) [1] rfl rfl rfl rfl (Nat.le_of_ble_eq_true rfl) ⟨by omega, by omega⟩ ⟨Nat.zero_le _, Nat.zero_le _⟩ (fun _ => rfl) (fun _ => rfl) (fun _ => rfl) ?_
  intro _ _
  refine V_aload_n (pc := 28) C dX6_clear_28 rfl 0 rfl ?_
  refine gf_X6_21 (x := q 3) (pc := 29) C dX6_clear_29 0 rfl rfl ?_
  refine V_iconst (pc := 32) C dX6_clear_32 ?_
  refine cs_X6_43 (pc := 33) (rest := []) (wn := fun _ => [(o, .inr (6, fX6 q (up (up (up (up f 6 0) 7 0) 8 0) 9 0))), (q 2, aI (d 0) 6 (cpI (fun _ => 0) T2 6)), (q 3, aI (d 0) 6 (cpI (fun _ => 0) T3 6))]) (sn := fun _ => []) C dX6_clear_33 (c_J7_fill_53178 l D d (q 3) 6 T3 0 (by omega)) [2] rfl rfl rfl rfl (Nat.le_of_ble_eq_true rfl) ⟨by omega, by omega⟩ ⟨Nat.zero_le _, Nat.zero_le _⟩ (fun _ => rfl) (fun _ => rfl) (fun _ => rfl) ?_
  intro _ _
  exact V_vret (pc := 36) C Z dX6_clear_36 () trivial rfl rfl
set_option maxRecDepth 100000 in
set_option maxHeartbeats 4000000 in
theorem c_X4_append (l : Launch) (D : va_G) (d : Nat → ClassId) (o : Nat) (q : Nat → Nat) (f : Nat → Int) (S : Int → Int) (n : Int) (v : Int) (hn : 1 ≤ n ∧ n ≤ 8) (h1 : 0 ≤ f 1 ∧ f 1 + n ≤ 72) (hv : -9223372036854775808 ≤ v ∧ v ≤ 9223372036854775807) : CU l yX4_append cX4_append 5 none 0 0 D d [.ref o, .int (iI n), .long (lI v)] [(o, .inr (4, fX4 q f)), (q 0, aI (d 0) 72 S)] (fun (_ : Unit) => True) (fun (_ : Unit) => none) (fun (_ : Unit) => [(o, .inr (4, fX4 q (up f 1 (f 1 + n)))), (q 0, aI (d 0) 72 (apS S (f 1) n v n))]) := by
  refine CU.mk (own := RX4) (lv := [(0, .ref o), (1, .int (iI n)), (2, .long (lI v))]) rfl (by decide) (Nat.le_of_ble_eq_true rfl) rfl ?_
  intro p e R s m args below meth c A Q hRf hRl C Z
  refine V_iload_n (pc := 0) C dX4_append_0 rfl 1 rfl ?_
  refine V_iconst (pc := 1) C dX4_append_1 ?_
  refine V_isub (pc := 2) C dX4_append_2 ?_
  refine V_istore (lv' := [(4, .int (iI (n - 1))), (0, .ref o), (1, .int (iI n)), (2, .long (lI v))]) (pc := 3) C dX4_append_3 (by decide) rfl ?_
  have L5 : ∀ (nn9 : Nat) (k : Int) (G : Int → Int) (g : Nat → Int), (-1 ≤ k ∧ k ≤ n - 1) → (g = up f 1 (f 1 + (n - 1 - k))) → (G = apS S (f 1) n v (n - 1 - k)) → (k + 1).toNat < nn9 → V p l e R s m args below meth c A D Q 5 0 0 [(o, .inr (4, fX4 q g)), (q 0, aI (d 0) 72 G)] [(4, .int (iI k)), (0, .ref o), (1, .int (iI n)), (2, .long (lI v))] 5 [] := by
    intro nn9
    induction nn9 with
    | zero => intro _ _ _ _ _ _ hm5; exact absurd hm5 (Nat.not_lt_zero _)
    | succ nn9 ih5 =>
      intro k G g hk hg hG hm5
      have hl : g 1 = f 1 + (n - 1 - k) := by rw [hg]; rfl
      refine V_iload (pc := 5) C dX4_append_5 0 rfl ?_
      refine V_if_lt (pc := 7) 56 C dX4_append_7 (by decide) (sm_i (by omega)) (fun c7 => ?_) (fun c7 => ?_)
      · exact V_vret (pc := 56) C Z dX4_append_56 () trivial rfl (by rw [hG, hg, show f 1 + (n - 1 - k) = f 1 + n by omega, show n - 1 - k = n by omega])
      · refine V_aload_n (pc := 10) C dX4_append_10 rfl 1 rfl ?_
        refine gf_X4_15 (x := g 1) (pc := 11) C dX4_append_11 0 rfl rfl ?_
        refine V_bipush (pc := 14) C dX4_append_14 rfl ?_
        refine V_icmp_ge (pc := 16) 56 C dX4_append_16 (by decide) (sm_i (by omega)) (sm_i (by decide)) (fun c16 => ?_) (fun c16 => ?_)
        · exact V_vret (pc := 56) C Z dX4_append_56 () trivial rfl (by rw [hG, hg, show f 1 + (n - 1 - k) = f 1 + n by omega, show n - 1 - k = n by omega])
        · refine V_aload_n (pc := 19) C dX4_append_19 rfl 1 rfl ?_
          refine gf_X4_9 (x := q 0) (pc := 20) C dX4_append_20 0 rfl rfl ?_
          refine V_aload_n (pc := 23) C dX4_append_23 rfl 1 rfl ?_
          refine gf_X4_15 (x := g 1) (pc := 24) C dX4_append_24 0 rfl rfl ?_
          refine V_lload_n (pc := 27) C dX4_append_27 rfl 3 rfl ?_
          refine V_bipush (pc := 28) C dX4_append_28 rfl ?_
          refine V_iload (pc := 30) C dX4_append_30 0 rfl ?_
          refine V_imul (pc := 32) C dX4_append_32 ?_
          refine V_lushr (z := ((v % 18446744073709551616) / 2 ^ (8 * k).toNat)) (pc := 33) C dX4_append_33 (lI_ushr hv (by omega) (by omega)) ?_
          refine V_l2i (pc := 34) C dX4_append_34 ?_
          refine V_sipush (pc := 35) C dX4_append_35 rfl ?_
          refine V_iand (z := (((v % 18446744073709551616) / 2 ^ (8 * k).toNat) % 256)) (pc := 38) C dX4_append_38 (and255_i ((v % 18446744073709551616) / 2 ^ (8 * k).toNat)) ?_
          refine V_iast (f := G) (ws' := [(o, .inr (4, fX4 q g)), (q 0, aI (d 0) 72 (uI G (g 1) (((v % 18446744073709551616) / 2 ^ (8 * k).toNat) % 256)))]) (pc := 39) C dX4_append_39 1 rfl (by omega) (by omega) (Nat.le_of_ble_eq_true rfl) rfl ?_
          refine V_aload_n (pc := 40) C dX4_append_40 rfl 1 rfl ?_
          refine V_dup (pc := 41) C dX4_append_41 rfl ?_
          refine gf_X4_15 (x := g 1) (pc := 42) C dX4_append_42 0 rfl rfl ?_
          refine V_iconst (pc := 45) C dX4_append_45 ?_
          refine V_iadd (pc := 46) C dX4_append_46 ?_
          refine pf_X4_15 (ws' := [(o, .inr (4, fX4 q (up g 1 ((g 1) + 1)))), (q 0, aI (d 0) 72 (uI G (g 1) (((v % 18446744073709551616) / 2 ^ (8 * k).toNat) % 256)))]) (pc := 47) C dX4_append_47 0 rfl rfl ?_
          refine V_iinc (lv' := [(4, .int (iI (k + (-1)))), (0, .ref o), (1, .int (iI n)), (2, .long (lI v))]) (pc := 50) C dX4_append_50 0 rfl (by decide) rfl ?_
          refine V_goto (pc := 53) 5 C dX4_append_53 (by decide) ?_
          exact V_sub [0, 1, 2, 3] rfl (ih5 (k + (-1)) (uI G (g 1) (((v % 18446744073709551616) / 2 ^ (8 * k).toNat) % 256)) (up g 1 ((g 1) + 1)) (by omega) (by rw [hg]; funext z; unfold up; split <;> omega) (by rw [hG, hl, apS_s (by omega) (by rw [byte_u (by omega) (by omega), show n - 1 - (n - 1 - k) = k by omega])]; congr 1; omega) (by omega))
  exact V_sub [0, 1, 2, 3] rfl (L5 (((n - 1) + 1).toNat + 1) (n - 1) S f (by omega) ((up_same (by omega)).symm) (by rw [show n - 1 - (n - 1) = 0 by omega, apS_0]) (Nat.lt_succ_self _))
set_option maxRecDepth 100000 in
set_option maxHeartbeats 4000000 in
theorem c_X8_inLeastTerms (l : Launch) (D : va_G) (d : Nat → ClassId) (a : Int) (b : Int) (w : Int) (ha : 0 < a ∧ a ≤ 1000000000) (hb : 0 < b ∧ b ≤ 1000000000) (hw : w = 0 ∨ w = 1) : CU l yX8_inLeastTerms cX8_inLeastTerms 12 (some .long) 0 0 D d [.long (lI a), .long (lI b), .int (iI w)] [] (fun (_ : Unit) => True) (fun (_ : Unit) => some (.long (lI ((if w = 0 then b else a) / gI a b)))) (fun (_ : Unit) => []) := by
  refine CU.mk (own := RX8) (lv := [(0, .long (lI a)), (2, .long (lI b)), (4, .int (iI w))]) rfl (by decide) (Nat.le_of_ble_eq_true rfl) rfl ?_
  intro p e R s m args below meth c A Q hRf hRl C Z
  refine V_lload_n (pc := 0) C dX8_inLeastTerms_0 rfl 0 rfl ?_
  refine V_lstore (lv' := [(5, .long (lI a)), (0, .long (lI a)), (2, .long (lI b)), (4, .int (iI w))]) (pc := 1) C dX8_inLeastTerms_1 (by decide) rfl ?_
  refine V_lload_n (pc := 3) C dX8_inLeastTerms_3 rfl 2 rfl ?_
  refine V_lstore (lv' := [(7, .long (lI b)), (5, .long (lI a)), (0, .long (lI a)), (2, .long (lI b)), (4, .int (iI w))]) (pc := 4) C dX8_inLeastTerms_4 (by decide) rfl ?_
  refine V_iconst (pc := 6) C dX8_inLeastTerms_6 ?_
  refine V_istore (lv' := [(9, .int (iI 0)), (7, .long (lI b)), (5, .long (lI a)), (0, .long (lI a)), (2, .long (lI b)), (4, .int (iI w))]) (pc := 7) C dX8_inLeastTerms_7 (by decide) rfl ?_
  have L9 : ∀ (nn9 : Nat) (x : Int) (y : Int) (t : Int), (0 ≤ t ∧ t ≤ 100) → (0 < x ∧ x ≤ 1000000000) → (0 ≤ y ∧ y ≤ 1000000000) → (gI x y = gI a b) → (eu_inv a b x y t) → ((100 : Int) - t).toNat < nn9 → V p l e R s m args below meth c A D Q 12 0 0 [] [(9, .int (iI t)), (7, .long (lI y)), (5, .long (lI x)), (0, .long (lI a)), (2, .long (lI b)), (4, .int (iI w))] 9 [] := by
    intro nn9
    induction nn9 with
    | zero => intro _ _ _ _ _ _ _ _ hm9; exact absurd hm9 (Nat.not_lt_zero _)
    | succ nn9 ih9 =>
      intro x y t ht hx hy hg he hm9
      refine V_iload (pc := 9) C dX8_inLeastTerms_9 0 rfl ?_
      refine V_bipush (pc := 11) C dX8_inLeastTerms_11 rfl ?_
      refine V_icmp_ge (pc := 13) 44 C dX8_inLeastTerms_13 (by decide) (sm_i (by omega)) (sm_i (by decide)) (fun c13 => ?_) (fun c13 => ?_)
      · have y0 : y = 0 := by
          first | omega | exact eu_end ha hb hx.1 hy.1 he (by omega)
        have xg : x = gI a b := by rw [← hg, y0, gI_0 (by omega)]
        refine V_iload (pc := 44) C dX8_inLeastTerms_44 5 rfl ?_
        refine V_if_eq (pc := 46) 53 C dX8_inLeastTerms_46 (by decide) (sm_i (by omega)) (fun c46 => ?_) (fun c46 => ?_)
        · refine V_lload_n (pc := 53) C dX8_inLeastTerms_53 rfl 4 rfl ?_
          refine V_lstore (lv' := [(9, .long (lI b)), (7, .long (lI y)), (5, .long (lI x)), (0, .long (lI a)), (2, .long (lI b)), (4, .int (iI w))]) (pc := 54) C dX8_inLeastTerms_54 (by decide) rfl ?_
          refine V_lload (pc := 56) C dX8_inLeastTerms_56 2 rfl ?_
          refine V_lconst (k := 0) (pc := 58) C dX8_inLeastTerms_58 rfl ?_
          refine V_lcmp (pc := 59) C dX8_inLeastTerms_59 (sL_i (by omega)) (sL_i (by omega)) ?_
          refine V_ifc_ne (pc := 60) 68 C dX8_inLeastTerms_60 (by decide) (fun c60 => ?_) (fun c60 => ?_)
          · refine V_lload (pc := 68) C dX8_inLeastTerms_68 0 rfl ?_
            refine V_lload (pc := 70) C dX8_inLeastTerms_70 2 rfl ?_
            refine V_ldiv (pc := 72) C dX8_inLeastTerms_72 (by omega) ?_
            exact V_lret (pc := 73) C Z dX8_inLeastTerms_73 () trivial (rl (by rw [xg]; (repeat' split) <;> first | rfl | omega)) rfl
          · exact absurd c60 (by omega)
        · refine V_lload_n (pc := 49) C dX8_inLeastTerms_49 rfl 3 rfl ?_
          refine V_goto (pc := 50) 54 C dX8_inLeastTerms_50 (by decide) ?_
          refine V_lstore (lv' := [(9, .long (lI a)), (7, .long (lI y)), (5, .long (lI x)), (0, .long (lI a)), (2, .long (lI b)), (4, .int (iI w))]) (pc := 54) C dX8_inLeastTerms_54 (by decide) rfl ?_
          refine V_lload (pc := 56) C dX8_inLeastTerms_56 2 rfl ?_
          refine V_lconst (k := 0) (pc := 58) C dX8_inLeastTerms_58 rfl ?_
          refine V_lcmp (pc := 59) C dX8_inLeastTerms_59 (sL_i (by omega)) (sL_i (by omega)) ?_
          refine V_ifc_ne (pc := 60) 68 C dX8_inLeastTerms_60 (by decide) (fun c60 => ?_) (fun c60 => ?_)
          · refine V_lload (pc := 68) C dX8_inLeastTerms_68 0 rfl ?_
            refine V_lload (pc := 70) C dX8_inLeastTerms_70 2 rfl ?_
            refine V_ldiv (pc := 72) C dX8_inLeastTerms_72 (by omega) ?_
            exact V_lret (pc := 73) C Z dX8_inLeastTerms_73 () trivial (rl (by rw [xg]; (repeat' split) <;> first | rfl | omega)) rfl
          · exact absurd c60 (by omega)
      · refine V_lload (pc := 16) C dX8_inLeastTerms_16 1 rfl ?_
        refine V_lconst (k := 0) (pc := 18) C dX8_inLeastTerms_18 rfl ?_
        refine V_lcmp (pc := 19) C dX8_inLeastTerms_19 (sL_i (by omega)) (sL_i (by omega)) ?_
        refine V_ifc_eq (pc := 20) 44 C dX8_inLeastTerms_20 (by decide) (fun c20 => ?_) (fun c20 => ?_)
        · have y0 : y = 0 := by
            first | omega | exact eu_end ha hb hx.1 hy.1 he (by omega)
          have xg : x = gI a b := by rw [← hg, y0, gI_0 (by omega)]
          refine V_iload (pc := 44) C dX8_inLeastTerms_44 5 rfl ?_
          refine V_if_eq (pc := 46) 53 C dX8_inLeastTerms_46 (by decide) (sm_i (by omega)) (fun c46 => ?_) (fun c46 => ?_)
          · refine V_lload_n (pc := 53) C dX8_inLeastTerms_53 rfl 4 rfl ?_
            refine V_lstore (lv' := [(9, .long (lI b)), (7, .long (lI y)), (5, .long (lI x)), (0, .long (lI a)), (2, .long (lI b)), (4, .int (iI w))]) (pc := 54) C dX8_inLeastTerms_54 (by decide) rfl ?_
            refine V_lload (pc := 56) C dX8_inLeastTerms_56 2 rfl ?_
            refine V_lconst (k := 0) (pc := 58) C dX8_inLeastTerms_58 rfl ?_
            refine V_lcmp (pc := 59) C dX8_inLeastTerms_59 (sL_i (by omega)) (sL_i (by omega)) ?_
            refine V_ifc_ne (pc := 60) 68 C dX8_inLeastTerms_60 (by decide) (fun c60 => ?_) (fun c60 => ?_)
            · refine V_lload (pc := 68) C dX8_inLeastTerms_68 0 rfl ?_
              refine V_lload (pc := 70) C dX8_inLeastTerms_70 2 rfl ?_
              refine V_ldiv (pc := 72) C dX8_inLeastTerms_72 (by omega) ?_
              exact V_lret (pc := 73) C Z dX8_inLeastTerms_73 () trivial (rl (by rw [xg]; (repeat' split) <;> first | rfl | omega)) rfl
            · exact absurd c60 (by omega)
          · refine V_lload_n (pc := 49) C dX8_inLeastTerms_49 rfl 3 rfl ?_
            refine V_goto (pc := 50) 54 C dX8_inLeastTerms_50 (by decide) ?_
            refine V_lstore (lv' := [(9, .long (lI a)), (7, .long (lI y)), (5, .long (lI x)), (0, .long (lI a)), (2, .long (lI b)), (4, .int (iI w))]) (pc := 54) C dX8_inLeastTerms_54 (by decide) rfl ?_
            refine V_lload (pc := 56) C dX8_inLeastTerms_56 2 rfl ?_
            refine V_lconst (k := 0) (pc := 58) C dX8_inLeastTerms_58 rfl ?_
            refine V_lcmp (pc := 59) C dX8_inLeastTerms_59 (sL_i (by omega)) (sL_i (by omega)) ?_
            refine V_ifc_ne (pc := 60) 68 C dX8_inLeastTerms_60 (by decide) (fun c60 => ?_) (fun c60 => ?_)
            · refine V_lload (pc := 68) C dX8_inLeastTerms_68 0 rfl ?_
              refine V_lload (pc := 70) C dX8_inLeastTerms_70 2 rfl ?_
              refine V_ldiv (pc := 72) C dX8_inLeastTerms_72 (by omega) ?_
              exact V_lret (pc := 73) C Z dX8_inLeastTerms_73 () trivial (rl (by rw [xg]; (repeat' split) <;> first | rfl | omega)) rfl
            · exact absurd c60 (by omega)
        · refine V_lload (pc := 23) C dX8_inLeastTerms_23 2 rfl ?_
          refine V_lload (pc := 25) C dX8_inLeastTerms_25 1 rfl ?_
          refine V_lrem (pc := 27) C dX8_inLeastTerms_27 (by omega) ?_
          refine V_lstore (lv' := [(10, .long (lI (x % y))), (9, .int (iI t)), (7, .long (lI y)), (5, .long (lI x)), (0, .long (lI a)), (2, .long (lI b)), (4, .int (iI w))]) (pc := 28) C dX8_inLeastTerms_28 (by decide) rfl ?_
          refine V_lload (pc := 30) C dX8_inLeastTerms_30 2 rfl ?_
          refine V_lstore (lv' := [(5, .long (lI y)), (10, .long (lI (x % y))), (9, .int (iI t)), (7, .long (lI y)), (0, .long (lI a)), (2, .long (lI b)), (4, .int (iI w))]) (pc := 32) C dX8_inLeastTerms_32 (by decide) rfl ?_
          refine V_lload (pc := 34) C dX8_inLeastTerms_34 1 rfl ?_
          refine V_lstore (lv' := [(7, .long (lI (x % y))), (5, .long (lI y)), (10, .long (lI (x % y))), (9, .int (iI t)), (0, .long (lI a)), (2, .long (lI b)), (4, .int (iI w))]) (pc := 36) C dX8_inLeastTerms_36 (by decide) rfl ?_
          refine V_iinc (lv' := [(9, .int (iI (t + 1))), (7, .long (lI (x % y))), (5, .long (lI y)), (10, .long (lI (x % y))), (0, .long (lI a)), (2, .long (lI b)), (4, .int (iI w))]) (pc := 38) C dX8_inLeastTerms_38 3 rfl (by decide) rfl ?_
          refine V_goto (pc := 41) 9 C dX8_inLeastTerms_41 (by decide) ?_
          exact V_sub [0, 1, 2, 4, 5, 6] rfl (ih9 y (x % y) (t + 1) (by omega) (by omega) (⟨Int.emod_nonneg _ (by omega), by have := Int.emod_lt_of_pos x (show 0 < y by omega); omega⟩) ((gI_step (by omega) (by omega)).trans hg) (eu_next (by omega) (by omega) he) (by omega))
  exact V_sub [0, 1, 2, 3, 4, 5] rfl (L9 (((100 : Int) - 0).toNat + 1) a b 0 (by omega) (by omega) (by omega) (rfl) (Or.inl ⟨rfl, rfl, rfl⟩) (Nat.lt_succ_self _))
set_option maxRecDepth 100000 in
set_option maxHeartbeats 4000000 in
theorem c_X9_divisor (l : Launch) (D : va_G) (d : Nat → ClassId) (a : Int) (b : Int) (ha : 0 < a ∧ a ≤ 1000000000) (hb : 0 < b ∧ b ≤ 1000000000) : CU l yX9_divisor cX9_divisor 10 (some .long) 0 0 D d [.long (lI a), .long (lI b)] [] (fun (_ : Unit) => True) (fun (_ : Unit) => some (.long (lI (gI a b)))) (fun (_ : Unit) => []) := by
  refine CU.mk (own := RX9) (lv := [(0, .long (lI a)), (2, .long (lI b))]) rfl (by decide) (Nat.le_of_ble_eq_true rfl) rfl ?_
  intro p e R s m args below meth c A Q hRf hRl C Z
  refine V_lload_n (pc := 0) C dX9_divisor_0 rfl 0 rfl ?_
  refine V_lstore (lv' := [(4, .long (lI a)), (0, .long (lI a)), (2, .long (lI b))]) (pc := 1) C dX9_divisor_1 (by decide) rfl ?_
  refine V_lload_n (pc := 3) C dX9_divisor_3 rfl 2 rfl ?_
  refine V_lstore (lv' := [(6, .long (lI b)), (4, .long (lI a)), (0, .long (lI a)), (2, .long (lI b))]) (pc := 4) C dX9_divisor_4 (by decide) rfl ?_
  have L6 : ∀ (nn9 : Nat) (x : Int) (y : Int), (0 < x ∧ x ≤ 1000000000) → (0 ≤ y ∧ y ≤ 1000000000) → (gI x y = gI a b) → y.toNat < nn9 → V p l e R s m args below meth c A D Q 10 0 0 [] [(6, .long (lI y)), (4, .long (lI x)), (0, .long (lI a)), (2, .long (lI b))] 6 [] := by
    intro nn9
    induction nn9 with
    | zero => intro _ _ _ _ _ hm6; exact absurd hm6 (Nat.not_lt_zero _)
    | succ nn9 ih6 =>
      intro x y hx hy hg hm6
      refine V_lload (pc := 6) C dX9_divisor_6 0 rfl ?_
      refine V_lconst (k := 0) (pc := 8) C dX9_divisor_8 rfl ?_
      refine V_lcmp (pc := 9) C dX9_divisor_9 (sL_i (by omega)) (sL_i (by omega)) ?_
      refine V_ifc_eq (pc := 10) 31 C dX9_divisor_10 (by decide) (fun c10 => ?_) (fun c10 => ?_)
      · refine V_lload (pc := 31) C dX9_divisor_31 1 rfl ?_
        exact V_lret (pc := 33) C Z dX9_divisor_33 () trivial (rl (by rw [← hg, c10, gI_0 (by omega)])) rfl
      · refine V_lload (pc := 13) C dX9_divisor_13 1 rfl ?_
        refine V_lload (pc := 15) C dX9_divisor_15 0 rfl ?_
        refine V_lrem (pc := 17) C dX9_divisor_17 (by omega) ?_
        refine V_lstore (lv' := [(8, .long (lI (x % y))), (6, .long (lI y)), (4, .long (lI x)), (0, .long (lI a)), (2, .long (lI b))]) (pc := 18) C dX9_divisor_18 (by decide) rfl ?_
        refine V_lload (pc := 20) C dX9_divisor_20 1 rfl ?_
        refine V_lstore (lv' := [(4, .long (lI y)), (8, .long (lI (x % y))), (6, .long (lI y)), (0, .long (lI a)), (2, .long (lI b))]) (pc := 22) C dX9_divisor_22 (by decide) rfl ?_
        refine V_lload (pc := 24) C dX9_divisor_24 1 rfl ?_
        refine V_lstore (lv' := [(6, .long (lI (x % y))), (4, .long (lI y)), (8, .long (lI (x % y))), (0, .long (lI a)), (2, .long (lI b))]) (pc := 26) C dX9_divisor_26 (by decide) rfl ?_
        refine V_goto (pc := 28) 6 C dX9_divisor_28 (by decide) ?_
        exact V_sub [0, 1, 3, 4] rfl (ih6 y (x % y) (by omega) (⟨Int.emod_nonneg _ (by omega), by have := Int.emod_lt_of_pos x (show 0 < y by omega); omega⟩) ((gI_step (by omega) (by omega)).trans hg) (by have h8 := Int.emod_lt_of_pos x (show 0 < y by omega); have h9 := Int.emod_nonneg x (show y ≠ 0 by omega); omega))
  exact V_sub [0, 1, 2, 3] rfl (L6 (b.toNat + 1) a b (by omega) (by omega) (rfl) (Nat.lt_succ_self _))
set_option maxRecDepth 100000 in
set_option maxHeartbeats 4000000 in
theorem c_X9_armIn (l : Launch) (D : va_G) (d : Nat → ClassId) (x : Int) (k : Int) (hx : 0 ≤ x ∧ x < 8000) (hk : -2147483648 ≤ k ∧ k ≤ 2147483647) : CU l yX9_armIn cX9_armIn 2 (some .int) 0 0 D d [.int (iI x), .int (iI k)] [] (fun (_ : Unit) => True) (fun (_ : Unit) => some (.int (iI (1 + (if k = 0 then x / 400 else if k = 1 then x / 20 % 20 else x % 20))))) (fun (_ : Unit) => []) := by
  refine CU.mk (own := RX9) (lv := [(0, .int (iI x)), (1, .int (iI k))]) rfl (by decide) (Nat.le_of_ble_eq_true rfl) rfl ?_
  intro p e R s m args below meth c A Q hRf hRl C Z
  refine V_iconst (pc := 0) C dX9_armIn_0 ?_
  refine V_iload_n (pc := 1) C dX9_armIn_1 rfl 1 rfl ?_
  refine V_if_ne (pc := 2) 13 C dX9_armIn_2 (by decide) (sm_i (by omega)) (fun c2 => ?_) (fun c2 => ?_)
  · refine V_iload_n (pc := 13) C dX9_armIn_13 rfl 1 rfl ?_
    refine V_iconst (pc := 14) C dX9_armIn_14 ?_
    refine V_icmp_ne (pc := 15) 28 C dX9_armIn_15 (by decide) (sm_i (by omega)) (sm_i (by decide)) (fun c15 => ?_) (fun c15 => ?_)
    · refine V_iload_n (pc := 28) C dX9_armIn_28 rfl 0 rfl ?_
      refine V_bipush (pc := 29) C dX9_armIn_29 rfl ?_
      refine V_irem (pc := 31) C dX9_armIn_31 (by omega) ?_
      refine V_iadd (pc := 32) C dX9_armIn_32 ?_
      exact V_iret (pc := 33) C Z dX9_armIn_33 () trivial (ri (by (repeat' split) <;> omega)) rfl
    · refine V_iload_n (pc := 18) C dX9_armIn_18 rfl 0 rfl ?_
      refine V_bipush (pc := 19) C dX9_armIn_19 rfl ?_
      refine V_idiv (pc := 21) C dX9_armIn_21 (by omega) ?_
      refine V_bipush (pc := 22) C dX9_armIn_22 rfl ?_
      refine V_irem (pc := 24) C dX9_armIn_24 (by omega) ?_
      refine V_goto (pc := 25) 32 C dX9_armIn_25 (by decide) ?_
      refine V_iadd (pc := 32) C dX9_armIn_32 ?_
      exact V_iret (pc := 33) C Z dX9_armIn_33 () trivial (ri (by (repeat' split) <;> omega)) rfl
  · refine V_iload_n (pc := 5) C dX9_armIn_5 rfl 0 rfl ?_
    refine V_sipush (pc := 6) C dX9_armIn_6 rfl ?_
    refine V_idiv (pc := 9) C dX9_armIn_9 (by omega) ?_
    refine V_goto (pc := 10) 32 C dX9_armIn_10 (by decide) ?_
    refine V_iadd (pc := 32) C dX9_armIn_32 ?_
    exact V_iret (pc := 33) C Z dX9_armIn_33 () trivial (ri (by (repeat' split) <;> omega)) rfl
