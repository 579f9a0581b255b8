set_option maxRecDepth 100000 in
set_option maxHeartbeats 4000000 in
theorem c_X7_hire (l : Launch) (D : va_G) (d : Nat → ClassId) (t : Nat) (qt : Nat → Nat) (ft : Nat → Int) (T1 : Int → Int) (i : Int) (hi : 0 ≤ i ∧ i < 6) : CU l yX7_hire cX7_hire 2 (some .int) 0 0 D d [.ref t, .int (iI i)] [(t, .inr (6, fX6 qt ft)), (qt 1, aI (d 0) 6 T1)] (fun (_ : Unit) => True) (fun (_ : Unit) => some (.int (iI (T1 i * 64 + 2 ^ Int.toNat i)))) (fun (_ : Unit) => [(t, .inr (6, fX6 qt ft)), (qt 1, aI (d 0) 6 T1)]) := by
  refine CU.mk (own := RX7) (lv := [(0, .ref t), (1, .int (iI i))]) rfl (by decide) (Nat.le_of_ble_eq_true rfl) rfl ?_
  intro p9 e9 R9 s9 m9 args9 below9 meth9 c9 A9 Q9 hRf hRl C Z
  refine V_aload_n (pc := 0) C dX7_hire_0 rfl 0 rfl ?_
  refine gf_X7_80 (x := qt 1) (pc := 1) C dX7_hire_1 0 rfl rfl ?_
  refine V_iload_n (pc := 4) C dX7_hire_4 rfl 1 rfl ?_
  refine V_iald (f := T1) (pc := 5) C dX7_hire_5 1 rfl (by omega) (by omega) (Nat.le_of_ble_eq_true rfl) ?_
  refine V_bipush (pc := 6) C dX7_hire_6 rfl ?_
  refine V_imul (pc := 8) C dX7_hire_8 ?_
  refine V_iconst (pc := 9) C dX7_hire_9 ?_
  refine V_iload_n (pc := 10) C dX7_hire_10 rfl 1 rfl ?_
  refine V_ishl (z := (2 ^ i.toNat)) (pc := 11) C dX7_hire_11 (shl1_i (by omega) (by omega)) ?_
  refine V_iadd (pc := 12) C dX7_hire_12 ?_
  exact V_iret (pc := 13) C Z dX7_hire_13 () trivial (ri (by first | rfl | omega | exact bI_t (by omega) | exact bI_f (by omega))) rfl
set_option maxRecDepth 100000 in
set_option maxHeartbeats 4000000 in
theorem c_X7_fill (l : Launch) (D : va_G) (d : Nat → ClassId) (o : Nat) (q : Nat → Nat) (f : Nat → Int) (rw : Nat → Option Nat) (x : Nat) (y : Nat) (k : Nat) (R1 : Int → Int) (R0 : Int → Int) (X : Int → Int) (A : Int → Int) (H : Int → Int) (B : Int → Int) (N : Int) (el : Int) (i : Int) (m : Int) (h : Int) (hA : ∀ j, 0 ≤ A j) (hH : ∀ j, 0 ≤ H j ∧ H j ≤ 6400) (hl : 0 ≤ el ∧ el ≤ 6336) (hi : 0 ≤ i ∧ i < 6) (hx : rw i.toNat = some x) (hy : rw (i + 1).toNat = some y) (h3 : 0 ≤ f 3 ∧ f 3 ≤ 1097) (hk : N - (k : Int) - 1 = i) (em : m = A i) (eh : h = H i) (hb : ¬ B i = 1) (hm : 1 ≤ m ∧ m ≤ 99) (hR : rwT A H B el N k (f 3) R0) : CU l yX7_fill cX7_fill 10 none 1 24 D d [.ref o, .int (iI i), .int (iI m), .int (iI h), .int (iI el)] [(o, .inr (7, fX7 q f)), (q 0, aR (d 3) 7 rw), (x, aI (d 0) 1098 R1), (y, aI (d 0) 1098 R0), (q 1, aI (d 0) 1098 X)] (fun (u : (Int → Int) × (Int → Int)) => rwT A H B el N (k + 1) (f 3) u.1) (fun (u : (Int → Int) × (Int → Int)) => none) (fun (u : (Int → Int) × (Int → Int)) => [(o, .inr (7, fX7 q f)), (q 0, aR (d 3) 7 rw), (x, aI (d 0) 1098 u.1), (y, aI (d 0) 1098 R0), (q 1, aI (d 0) 1098 u.2)]) := by
  refine CU.mk (own := RX7) (lv := [(0, .ref o), (1, .int (iI i)), (2, .int (iI m)), (3, .int (iI h)), (4, .int (iI el))]) rfl (by decide) (Nat.le_of_ble_eq_true rfl) rfl ?_
  intro p9 e9 R9 s9 m9 args9 below9 meth9 c9 A9 Q9 hRf hRl C Z
  have eh9 := hH i
  refine V_aload_n (pc := 0) C dX7_fill_0 rfl 0 rfl ?_
  refine gf_X7_13 (x := q 0) (pc := 1) C dX7_fill_1 0 rfl rfl ?_
  refine V_iload_n (pc := 4) C dX7_fill_4 rfl 1 rfl ?_
  refine V_aald (k := 3) (x := x) (f := rw) (Or.inr rfl) (pc := 5) C dX7_fill_5 1 rfl (by omega) (by omega) hx (Nat.le_of_ble_eq_true rfl) ?_
  refine V_astore (lv' := [(5, .ref x), (0, .ref o), (1, .int (iI i)), (2, .int (iI m)), (3, .int (iI h)), (4, .int (iI el))]) (pc := 6) C dX7_fill_6 (by decide) rfl ?_
  refine V_aload_n (pc := 8) C dX7_fill_8 rfl 1 rfl ?_
  refine gf_X7_13 (x := q 0) (pc := 9) C dX7_fill_9 0 rfl rfl ?_
  refine V_iload_n (pc := 12) C dX7_fill_12 rfl 2 rfl ?_
  refine V_iconst (pc := 13) C dX7_fill_13 ?_
  refine V_iadd (pc := 14) C dX7_fill_14 ?_
  refine V_aald (k := 3) (x := y) (f := rw) (Or.inr rfl) (pc := 15) C dX7_fill_15 1 rfl (by omega) (by omega) hy (Nat.le_of_ble_eq_true rfl) ?_
  refine V_astore (lv' := [(6, .ref y), (5, .ref x), (0, .ref o), (1, .int (iI i)), (2, .int (iI m)), (3, .int (iI h)), (4, .int (iI el))]) (pc := 16) C dX7_fill_16 (by decide) rfl ?_
  refine V_iconst (pc := 18) C dX7_fill_18 ?_
  refine V_istore (lv' := [(7, .int (iI 0)), (6, .ref y), (5, .ref x), (0, .ref o), (1, .int (iI i)), (2, .int (iI m)), (3, .int (iI h)), (4, .int (iI el))]) (pc := 19) C dX7_fill_19 (by decide) rfl ?_
  have L21 : ∀ (nn9 : Nat) (t : Int) (G : Int → Int) (W : Int → Int), (0 ≤ t ∧ t ≤ f 3 + 1) → (allT (mn1 A H B el N k) W t) → (allT (mnT A H B el N (k + 1)) G t) → (f 3 + 1 - t).toNat < nn9 → V p9 l e9 R9 s9 m9 args9 below9 meth9 c9 A9 D Q9 10 0 0 [(o, .inr (7, fX7 q f)), (q 0, aR (d 3) 7 rw), (x, aI (d 0) 1098 G), (y, aI (d 0) 1098 R0), (q 1, aI (d 0) 1098 W)] [(7, .int (iI t)), (5, .ref x), (6, .ref y), (0, .ref o), (1, .int (iI i)), (2, .int (iI m)), (3, .int (iI h)), (4, .int (iI el))] 21 [] := by
    intro nn9
    induction nn9 with
    | zero => intro _ _ _ _ _ _ hm21; exact absurd hm21 (Nat.not_lt_zero _)
    | succ nn9 ih21 =>
      intro t G W ht hW hG hm21
      refine V_iload (pc := 21) C dX7_fill_21 0 rfl ?_
      refine V_aload_n (pc := 23) C dX7_fill_23 rfl 3 rfl ?_
      refine gf_X7_34 (x := f 3) (pc := 24) C dX7_fill_24 0 rfl rfl ?_
      refine V_icmp_gt (pc := 27) 103 C dX7_fill_27 (by decide) (sm_i (by omega)) (sm_i (by omega)) (fun c27 => ?_) (fun c27 => ?_)
      · exact V_vret (pc := 103) C Z dX7_fill_103 (G, W) (fun s hs => hG s (by omega)) rfl rfl
      · have rt := hR t (by omega)
        have rt0 := mnT_ge0 (fun j => (hH j).1) hl.1 rt
        have rt1 := rt.1
        refine V_ldc (n := 1000000000) (pc := 30) C dX7_fill_30 w2_218 rfl ?_
        refine V_istore (lv' := [(8, .int (iI 1000000000)), (7, .int (iI t)), (5, .ref x), (6, .ref y), (0, .ref o), (1, .int (iI i)), (2, .int (iI m)), (3, .int (iI h)), (4, .int (iI el))]) (pc := 32) C dX7_fill_32 (by decide) rfl ?_
        refine V_iload (pc := 34) C dX7_fill_34 1 rfl ?_
        refine V_iload_n (pc := 36) C dX7_fill_36 rfl 6 rfl ?_
        refine V_icmp_lt (pc := 37) 73 C dX7_fill_37 (by decide) (sm_i (by omega)) (sm_i (by omega)) (fun c37 => ?_) (fun c37 => ?_)
        · refine V_aload_n (pc := 73) C dX7_fill_73 rfl 4 rfl ?_
          refine gf_X7_16 (x := q 1) (pc := 74) C dX7_fill_74 0 rfl rfl ?_
          refine V_iload (pc := 77) C dX7_fill_77 1 rfl ?_
          refine V_iload (pc := 79) C dX7_fill_79 0 rfl ?_
          refine V_iast (f := W) (ws' := [(o, .inr (7, fX7 q f)), (q 0, aR (d 3) 7 rw), (x, aI (d 0) 1098 G), (y, aI (d 0) 1098 R0), (q 1, aI (d 0) 1098 (uI W t 1000000000))]) (pc := 81) C dX7_fill_81 4 rfl (by omega) (by omega) (Nat.le_of_ble_eq_true rfl) rfl ?_
          refine V_aload (pc := 82) C dX7_fill_82 2 rfl ?_
          refine V_iload (pc := 84) C dX7_fill_84 1 rfl ?_
          refine V_aload (pc := 86) C dX7_fill_86 3 rfl ?_
          refine V_iload (pc := 88) C dX7_fill_88 1 rfl ?_
          refine V_iald (f := R0) (pc := 90) C dX7_fill_90 3 rfl (by omega) (by omega) (Nat.le_of_ble_eq_true rfl) ?_
          refine V_iload (pc := 91) C dX7_fill_91 0 rfl ?_
          refine mm_X7_28 (pc := 93) C dX7_fill_93 (sm_i (by omega)) (sm_i (by decide)) (by omega) (by show _ ≤ R9.locals; rw [hRl]; exact Nat.le_of_ble_eq_true rfl) (Nat.zero_le _) (Nat.zero_le _) ?_
          refine V_iast (f := G) (ws' := [(o, .inr (7, fX7 q f)), (q 0, aR (d 3) 7 rw), (x, aI (d 0) 1098 (uI G t (min (R0 t) 1000000000))), (y, aI (d 0) 1098 R0), (q 1, aI (d 0) 1098 (uI W t 1000000000))]) (pc := 96) C dX7_fill_96 2 rfl (by omega) (by omega) (Nat.le_of_ble_eq_true rfl) rfl ?_
          refine V_iinc (lv' := [(7, .int (iI (t + 1))), (8, .int (iI 1000000000)), (5, .ref x), (6, .ref y), (0, .ref o), (1, .int (iI i)), (2, .int (iI m)), (3, .int (iI h)), (4, .int (iI el))]) (pc := 97) C dX7_fill_97 1 rfl (by decide) rfl ?_
          refine V_goto (pc := 100) 21 C dX7_fill_100 (by decide) ?_
          exact V_sub [0, 2, 3, 4, 5, 6, 7, 8] rfl (ih21 (t + 1) (uI G t (min (R0 t) 1000000000)) (uI W t 1000000000) (by omega) (allT_s hW (by first | exact fl_lt hk em hA (by omega) | exact fl_ge hk em eh hb (fun j => (hH j).1) hl.1 rb wb)) (allT_s hG (mnT_step rt (by first | exact fl_lt hk em hA (by omega) | exact fl_ge hk em eh hb (fun j => (hH j).1) hl.1 rb wb))) (by omega))
        · refine V_iload (pc := 40) C dX7_fill_40 1 rfl ?_
          refine V_iload_n (pc := 42) C dX7_fill_42 rfl 6 rfl ?_
          refine V_isub (pc := 43) C dX7_fill_43 ?_
          refine V_istore (lv' := [(9, .int (iI (t - m))), (8, .int (iI 1000000000)), (7, .int (iI t)), (5, .ref x), (6, .ref y), (0, .ref o), (1, .int (iI i)), (2, .int (iI m)), (3, .int (iI h)), (4, .int (iI el))]) (pc := 44) C dX7_fill_44 (by decide) rfl ?_
          have rb := hR (t - m) (by omega)
          have rb0 := mnT_ge0 (fun j => (hH j).1) hl.1 rb
          have rb1 := rb.1
          have wb := hW (t - m) (by omega)
          have wb0 := mn1_ge0 (fun j => (hH j).1) hl.1 wb
          have wb1 := wb.1
          refine V_ldc (n := 1000000000) (pc := 46) C dX7_fill_46 w2_218 rfl ?_
          refine V_aload (pc := 48) C dX7_fill_48 4 rfl ?_
          refine V_iload (pc := 50) C dX7_fill_50 0 rfl ?_
          refine V_iald (f := R0) (pc := 52) C dX7_fill_52 3 rfl (by omega) (by omega) (Nat.le_of_ble_eq_true rfl) ?_
          refine V_iload_n (pc := 53) C dX7_fill_53 rfl 8 rfl ?_
          refine V_iadd (pc := 54) C dX7_fill_54 ?_
          refine V_aload_n (pc := 55) C dX7_fill_55 rfl 5 rfl ?_
          refine gf_X7_16 (x := q 1) (pc := 56) C dX7_fill_56 0 rfl rfl ?_
          refine V_iload (pc := 59) C dX7_fill_59 0 rfl ?_
          refine V_iald (f := W) (pc := 61) C dX7_fill_61 4 rfl (by omega) (by omega) (Nat.le_of_ble_eq_true rfl) ?_
          refine mm_X7_28 (pc := 62) C dX7_fill_62 (sm_i (by omega)) (sm_i (by omega)) (by omega) (by show _ ≤ R9.locals; rw [hRl]; exact Nat.le_of_ble_eq_true rfl) (Nat.zero_le _) (Nat.zero_le _) ?_
          refine V_iload (pc := 65) C dX7_fill_65 9 rfl ?_
          refine V_iadd (pc := 67) C dX7_fill_67 ?_
          refine mm_X7_28 (pc := 68) C dX7_fill_68 (sm_i (by decide)) (sm_i (by omega)) (by omega) (by show _ ≤ R9.locals; rw [hRl]; exact Nat.le_of_ble_eq_true rfl) (Nat.zero_le _) (Nat.zero_le _) ?_
          refine V_istore (lv' := [(8, .int (iI (min 1000000000 ((min ((R0 (t - m)) + h) (W (t - m))) + el)))), (9, .int (iI (t - m))), (7, .int (iI t)), (5, .ref x), (6, .ref y), (0, .ref o), (1, .int (iI i)), (2, .int (iI m)), (3, .int (iI h)), (4, .int (iI el))]) (pc := 71) C dX7_fill_71 (by decide) rfl ?_
          refine V_aload_n (pc := 73) C dX7_fill_73 rfl 5 rfl ?_
          refine gf_X7_16 (x := q 1) (pc := 74) C dX7_fill_74 0 rfl rfl ?_
          refine V_iload (pc := 77) C dX7_fill_77 2 rfl ?_
          refine V_iload (pc := 79) C dX7_fill_79 0 rfl ?_
          refine V_iast (f := W) (ws' := [(o, .inr (7, fX7 q f)), (q 0, aR (d 3) 7 rw), (x, aI (d 0) 1098 G), (y, aI (d 0) 1098 R0), (q 1, aI (d 0) 1098 (uI W t (min 1000000000 ((min ((R0 (t - m)) + h) (W (t - m))) + el))))]) (pc := 81) C dX7_fill_81 4 rfl (by omega) (by omega) (Nat.le_of_ble_eq_true rfl) rfl ?_
          refine V_aload (pc := 82) C dX7_fill_82 3 rfl ?_
          refine V_iload (pc := 84) C dX7_fill_84 2 rfl ?_
          refine V_aload (pc := 86) C dX7_fill_86 4 rfl ?_
          refine V_iload (pc := 88) C dX7_fill_88 2 rfl ?_
          refine V_iald (f := R0) (pc := 90) C dX7_fill_90 3 rfl (by omega) (by omega) (Nat.le_of_ble_eq_true rfl) ?_
          refine V_iload (pc := 91) C dX7_fill_91 0 rfl ?_
          refine mm_X7_28 (pc := 93) C dX7_fill_93 (sm_i (by omega)) (sm_i (by omega)) (by omega) (by show _ ≤ R9.locals; rw [hRl]; exact Nat.le_of_ble_eq_true rfl) (Nat.zero_le _) (Nat.zero_le _) ?_
          refine V_iast (f := G) (ws' := [(o, .inr (7, fX7 q f)), (q 0, aR (d 3) 7 rw), (x, aI (d 0) 1098 (uI G t (min (R0 t) (min 1000000000 ((min ((R0 (t - m)) + h) (W (t - m))) + el))))), (y, aI (d 0) 1098 R0), (q 1, aI (d 0) 1098 (uI W t (min 1000000000 ((min ((R0 (t - m)) + h) (W (t - m))) + el))))]) (pc := 96) C dX7_fill_96 2 rfl (by omega) (by omega) (Nat.le_of_ble_eq_true rfl) rfl ?_
          refine V_iinc (lv' := [(7, .int (iI (t + 1))), (8, .int (iI (min 1000000000 ((min ((R0 (t - m)) + h) (W (t - m))) + el)))), (9, .int (iI (t - m))), (5, .ref x), (6, .ref y), (0, .ref o), (1, .int (iI i)), (2, .int (iI m)), (3, .int (iI h)), (4, .int (iI el))]) (pc := 97) C dX7_fill_97 2 rfl (by decide) rfl ?_
          refine V_goto (pc := 100) 21 C dX7_fill_100 (by decide) ?_
          exact V_sub [0, 3, 4, 5, 6, 7, 8, 9] rfl (ih21 (t + 1) (uI G t (min (R0 t) (min 1000000000 ((min ((R0 (t - m)) + h) (W (t - m))) + el)))) (uI W t (min 1000000000 ((min ((R0 (t - m)) + h) (W (t - m))) + el))) (by omega) (allT_s hW (by first | exact fl_lt hk em hA (by omega) | exact fl_ge hk em eh hb (fun j => (hH j).1) hl.1 rb wb)) (allT_s hG (mnT_step rt (by first | exact fl_lt hk em hA (by omega) | exact fl_ge hk em eh hb (fun j => (hH j).1) hl.1 rb wb))) (by omega))
  exact V_sub [0, 2, 1, 3, 4, 5, 6, 7] rfl (L21 ((f 3 + 1 - 0).toNat + 1) 0 R1 X (by omega) (fun s hs => by omega) (fun s hs => by omega) (Nat.lt_succ_self _))
set_option maxRecDepth 100000 in
set_option maxHeartbeats 4000000 in
theorem c_X7_fewestOf (l : Launch) (D : va_G) (d : Nat → ClassId) (a : Nat) (R : Int → Int) (m : Int) (w : Int) (el : Int) (lo : Int) (hi : Int) (hm : 1 ≤ m ∧ m ≤ 99) (hw : 0 ≤ w ∧ w ≤ 1000000000) (hl : 0 ≤ el ∧ el ≤ 6336) (hlo : -200000 ≤ lo ∧ lo ≤ 999) (hhi : -200000 ≤ hi ∧ hi ≤ 1097) (hR : ∀ s : Int, 0 ≤ s ∧ s ≤ hi → 0 ≤ R s ∧ R s ≤ 1000000000) : CU l yX7_fewestOf cX7_fewestOf 10 (some .int) 1 24 D d [.ref a, .int (iI m), .int (iI w), .int (iI el), .int (iI lo), .int (iI hi)] [(a, aI (d 0) 1098 R)] (fun (u : Int) => fwR R m w el lo hi u) (fun (u : Int) => some (.int (iI (u)))) (fun (u : Int) => [(a, aI (d 0) 1098 R)]) := by
  refine CU.mk (own := RX7) (lv := [(0, .ref a), (1, .int (iI m)), (2, .int (iI w)), (3, .int (iI el)), (4, .int (iI lo)), (5, .int (iI hi))]) rfl (by decide) (Nat.le_of_ble_eq_true rfl) rfl ?_
  intro p9 e9 R9 s9 m9 args9 below9 meth9 c9 A9 Q9 hRf hRl C Z
  refine V_iload (pc := 0) C dX7_fewestOf_0 5 rfl ?_
  refine V_iload (pc := 2) C dX7_fewestOf_2 4 rfl ?_
  refine V_iload_n (pc := 4) C dX7_fewestOf_4 rfl 1 rfl ?_
  refine V_iadd (pc := 5) C dX7_fewestOf_5 ?_
  refine V_iconst (pc := 6) C dX7_fewestOf_6 ?_
  refine V_isub (pc := 7) C dX7_fewestOf_7 ?_
  refine mm_X7_28 (pc := 8) C dX7_fewestOf_8 (sm_i (by omega)) (sm_i (by omega)) (by omega) (by show _ ≤ R9.locals; rw [hRl]; exact Nat.le_of_ble_eq_true rfl) (Nat.zero_le _) (Nat.zero_le _) ?_
  refine V_istore (lv' := [(6, .int (iI (min hi ((lo + m) - 1)))), (0, .ref a), (1, .int (iI m)), (2, .int (iI w)), (3, .int (iI el)), (4, .int (iI lo)), (5, .int (iI hi))]) (pc := 11) C dX7_fewestOf_11 (by decide) rfl ?_
  refine V_iconst (pc := 13) C dX7_fewestOf_13 ?_
  refine V_istore (lv' := [(7, .int (iI 1)), (6, .int (iI (min hi ((lo + m) - 1)))), (0, .ref a), (1, .int (iI m)), (2, .int (iI w)), (3, .int (iI el)), (4, .int (iI lo)), (5, .int (iI hi))]) (pc := 14) C dX7_fewestOf_14 (by decide) rfl ?_
  have L16 : ∀ (nn9 : Nat) (n : Int), (1 ≤ n ∧ n ≤ 1098) → (∀ z : Int, 1 ≤ z ∧ z < n → ¬ fwP R m w el lo hi z) → ((1098 : Int) - n).toNat < nn9 → V p9 l e9 R9 s9 m9 args9 below9 meth9 c9 A9 D Q9 10 0 0 [(a, aI (d 0) 1098 R)] [(7, .int (iI n)), (6, .int (iI (min hi (lo + m - 1)))), (0, .ref a), (1, .int (iI m)), (2, .int (iI w)), (3, .int (iI el)), (4, .int (iI lo)), (5, .int (iI hi))] 16 [] := by
    intro nn9
    induction nn9 with
    | zero => intro _ _ _ hm16; exact absurd hm16 (Nat.not_lt_zero _)
    | succ nn9 ih16 =>
      intro n hn hz hm16
      have m1 := mulb (show 0 ≤ n ∧ n ≤ 1098 by omega) (show 0 ≤ m ∧ m ≤ 99 by omega)
      have m2 := mulb (show 0 ≤ n ∧ n ≤ 1098 by omega) hl
      refine V_iload (pc := 16) C dX7_fewestOf_16 0 rfl ?_
      refine V_sipush (pc := 18) C dX7_fewestOf_18 rfl ?_
      refine V_icmp_gt (pc := 21) 96 C dX7_fewestOf_21 (by decide) (sm_i (by omega)) (sm_i (by decide)) (fun c21 => ?_) (fun c21 => ?_)
      · refine V_iconst (pc := 96) C dX7_fewestOf_96 ?_
        exact V_iret (pc := 97) C Z dX7_fewestOf_97 0 (fw_end hm.1 hz (by omega)) (ri (by rfl)) rfl
      · refine V_iload (pc := 24) C dX7_fewestOf_24 0 rfl ?_
        refine V_iload_n (pc := 26) C dX7_fewestOf_26 rfl 3 rfl ?_
        refine V_imul (pc := 27) C dX7_fewestOf_27 ?_
        refine V_iload (pc := 28) C dX7_fewestOf_28 1 rfl ?_
        refine V_icmp_gt (pc := 30) 96 C dX7_fewestOf_30 (by decide) (sm_i (by omega)) (sm_i (by omega)) (fun c30 => ?_) (fun c30 => ?_)
        · refine V_iconst (pc := 96) C dX7_fewestOf_96 ?_
          exact V_iret (pc := 97) C Z dX7_fewestOf_97 0 (fw_end hm.1 hz (by omega)) (ri (by rfl)) rfl
        · refine V_iload (pc := 33) C dX7_fewestOf_33 1 rfl ?_
          refine V_iload (pc := 35) C dX7_fewestOf_35 0 rfl ?_
          refine V_iload_n (pc := 37) C dX7_fewestOf_37 rfl 3 rfl ?_
          refine V_imul (pc := 38) C dX7_fewestOf_38 ?_
          refine V_isub (pc := 39) C dX7_fewestOf_39 ?_
          refine V_sipush (pc := 40) C dX7_fewestOf_40 rfl ?_
          refine mm_X7_28 (pc := 43) C dX7_fewestOf_43 (sm_i (by omega)) (sm_i (by decide)) (by omega) (by show _ ≤ R9.locals; rw [hRl]; exact Nat.le_of_ble_eq_true rfl) (Nat.zero_le _) (Nat.zero_le _) ?_
          refine V_istore (lv' := [(8, .int (iI (min ((min hi (lo + m - 1)) - (n * m)) 1097))), (7, .int (iI n)), (6, .int (iI (min hi (lo + m - 1)))), (0, .ref a), (1, .int (iI m)), (2, .int (iI w)), (3, .int (iI el)), (4, .int (iI lo)), (5, .int (iI hi))]) (pc := 46) C dX7_fewestOf_46 (by decide) rfl ?_
          refine V_iconst (pc := 48) C dX7_fewestOf_48 ?_
          refine V_iload (pc := 49) C dX7_fewestOf_49 7 rfl ?_
          refine V_iload (pc := 51) C dX7_fewestOf_51 1 rfl ?_
          refine V_iload_n (pc := 53) C dX7_fewestOf_53 rfl 4 rfl ?_
          refine V_imul (pc := 54) C dX7_fewestOf_54 ?_
          refine V_isub (pc := 55) C dX7_fewestOf_55 ?_
          refine mm_X7_83 (pc := 56) C dX7_fewestOf_56 (sm_i (by decide)) (sm_i (by omega)) (by omega) (by show _ ≤ R9.locals; rw [hRl]; exact Nat.le_of_ble_eq_true rfl) (Nat.zero_le _) (Nat.zero_le _) ?_
          refine V_istore (lv' := [(9, .int (iI (max 0 (lo - (n * m))))), (8, .int (iI (min ((min hi (lo + m - 1)) - (n * m)) 1097))), (7, .int (iI n)), (6, .int (iI (min hi (lo + m - 1)))), (0, .ref a), (1, .int (iI m)), (2, .int (iI w)), (3, .int (iI el)), (4, .int (iI lo)), (5, .int (iI hi))]) (pc := 59) C dX7_fewestOf_59 (by decide) rfl ?_
          have L61 : ∀ (nn9 : Nat) (s : Int), (max 0 (lo - n * m) ≤ s ∧ s ≤ 1098) → (∀ x : Int, max 0 (lo - n * m) ≤ x ∧ x < s → ¬ R x = w - n * el) → ((1098 : Int) - s).toNat < nn9 → V p9 l e9 R9 s9 m9 args9 below9 meth9 c9 A9 D Q9 10 0 0 [(a, aI (d 0) 1098 R)] [(9, .int (iI s)), (8, .int (iI (min (min hi (lo + m - 1) - n * m) 1097))), (7, .int (iI n)), (6, .int (iI (min hi (lo + m - 1)))), (0, .ref a), (1, .int (iI m)), (2, .int (iI w)), (3, .int (iI el)), (4, .int (iI lo)), (5, .int (iI hi))] 61 [] := by
            intro nn9
            induction nn9 with
            | zero => intro _ _ _ hm61; exact absurd hm61 (Nat.not_lt_zero _)
            | succ nn9 ih61 =>
              intro s hs0 hs hm61
              refine V_iload (pc := 61) C dX7_fewestOf_61 0 rfl ?_
              refine V_iload (pc := 63) C dX7_fewestOf_63 1 rfl ?_
              refine V_icmp_gt (pc := 65) 90 C dX7_fewestOf_65 (by decide) (sm_i (by omega)) (sm_i (by omega)) (fun c65 => ?_) (fun c65 => ?_)
              · refine V_iinc (lv' := [(7, .int (iI (n + 1))), (9, .int (iI s)), (8, .int (iI (min (min hi (lo + m - 1) - n * m) 1097))), (6, .int (iI (min hi (lo + m - 1)))), (0, .ref a), (1, .int (iI m)), (2, .int (iI w)), (3, .int (iI el)), (4, .int (iI lo)), (5, .int (iI hi))]) (pc := 90) C dX7_fewestOf_90 2 rfl (by decide) rfl ?_
                refine V_goto (pc := 93) 16 C dX7_fewestOf_93 (by decide) ?_
                exact V_sub [0, 3, 4, 5, 6, 7, 8, 9] rfl (ih16 (n + 1) (by omega) (fw_miss hz (by omega) hs) (by omega))
              · have rs := hR s (by omega)
                refine V_aload_n (pc := 68) C dX7_fewestOf_68 rfl 4 rfl ?_
                refine V_iload (pc := 69) C dX7_fewestOf_69 0 rfl ?_
                refine V_iald (f := R) (pc := 71) C dX7_fewestOf_71 0 rfl (by omega) (by omega) (Nat.le_of_ble_eq_true rfl) ?_
                refine V_iload_n (pc := 72) C dX7_fewestOf_72 rfl 6 rfl ?_
                refine V_iload (pc := 73) C dX7_fewestOf_73 2 rfl ?_
                refine V_iload_n (pc := 75) C dX7_fewestOf_75 rfl 7 rfl ?_
                refine V_imul (pc := 76) C dX7_fewestOf_76 ?_
                refine V_isub (pc := 77) C dX7_fewestOf_77 ?_
                refine V_icmp_ne (pc := 78) 84 C dX7_fewestOf_78 (by decide) (sm_i (by omega)) (sm_i (by omega)) (fun c78 => ?_) (fun c78 => ?_)
                · refine V_iinc (lv' := [(9, .int (iI (s + 1))), (8, .int (iI (min (min hi (lo + m - 1) - n * m) 1097))), (7, .int (iI n)), (6, .int (iI (min hi (lo + m - 1)))), (0, .ref a), (1, .int (iI m)), (2, .int (iI w)), (3, .int (iI el)), (4, .int (iI lo)), (5, .int (iI hi))]) (pc := 84) C dX7_fewestOf_84 0 rfl (by decide) rfl ?_
                  refine V_goto (pc := 87) 61 C dX7_fewestOf_87 (by decide) ?_
                  exact V_sub [0, 1, 2, 3, 4, 5, 6, 7, 8, 9] rfl (ih61 (s + 1) (by omega) (fun x hx => by by_cases q : x = s; exact q ▸ c78; exact hs x (by omega)) (by omega))
                · refine V_iload (pc := 81) C dX7_fewestOf_81 2 rfl ?_
                  exact V_iret (pc := 83) C Z dX7_fewestOf_83 n (fw_hit hn.1 hz (by omega) (by omega) (by omega) c78) (ri (by rfl)) rfl
          exact V_sub [0, 1, 2, 3, 4, 5, 6, 7, 8, 9] rfl (L61 (((1098 : Int) - (max 0 (lo - (n * m)))).toNat + 1) (max 0 (lo - (n * m))) (by omega) (fun x hx => by omega) (Nat.lt_succ_self _))
  exact V_sub [0, 1, 2, 3, 4, 5, 6, 7] rfl (L16 (((1098 : Int) - 1).toNat + 1) 1 (by omega) (fun z hz => by omega) (Nat.lt_succ_self _))
