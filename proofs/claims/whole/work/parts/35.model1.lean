set_option maxRecDepth 100000 in
set_option maxHeartbeats 4000000 in
theorem c_X9_sumOf (l : Launch) (D : va_G) (d : Nat → ClassId) (o : Nat) (q : Nat → Nat) (f : Nat → Int) (M8 : Int → Int) (M22 : Int → Int) (M23 : Int → Int) (M24 : Int → Int) (M25 : Int → Int) (p : Int) (k : Int) (w : Int) (hn : 0 ≤ f 21 ∧ f 21 ≤ 12) (hM8 : bd M8 0 99) (hM22 : bd M22 0 5) (hM23 : bd M23 0 3) (hM24 : bd M24 0 99) (hM25 : bd M25 0 9801) (hp : -2147483648 ≤ p ∧ p ≤ 2147483647) (hk : -2147483648 ≤ k ∧ k ≤ 2147483647) (hw : -2147483648 ≤ w ∧ w ≤ 2147483647) : CU l yX9_sumOf cX9_sumOf 6 (some .int) 0 0 D d [.ref o, .int (iI p), .int (iI k), .int (iI w)] [(o, .inr (9, fX9 q f)), (q 8, aI (d 0) 4 M8), (q 22, aI (d 0) 12 M22), (q 23, aI (d 0) 12 M23), (q 24, aI (d 0) 12 M24), (q 25, aI (d 0) 12 M25)] (fun (_ : Unit) => True) (fun (_ : Unit) => some (.int (iI (sZ (fun j => if (p = -9 ∨ M22 j = p) ∧ (k = -9 ∨ M23 j = k) then (if w = 0 then M24 j * M8 (M23 j) else if w = 1 then M25 j else M24 j) else 0) (f 21))))) (fun (_ : Unit) => [(o, .inr (9, fX9 q f)), (q 8, aI (d 0) 4 M8), (q 22, aI (d 0) 12 M22), (q 23, aI (d 0) 12 M23), (q 24, aI (d 0) 12 M24), (q 25, aI (d 0) 12 M25)]) := by
  refine CU.mk (own := RX9) (lv := [(0, .ref o), (1, .int (iI p)), (2, .int (iI k)), (3, .int (iI w))]) rfl (by decide) (Nat.le_of_ble_eq_true rfl) rfl ?_
  intro p9 e9 R9 s9 m9 args9 below9 meth9 c9 A9 Q9 hRf hRl C Z
  refine V_iconst (pc := 0) C dX9_sumOf_0 ?_
  refine V_istore (lv' := [(4, .int (iI 0)), (0, .ref o), (1, .int (iI p)), (2, .int (iI k)), (3, .int (iI w))]) (pc := 1) C dX9_sumOf_1 (by decide) rfl ?_
  refine V_iconst (pc := 3) C dX9_sumOf_3 ?_
  refine V_istore (lv' := [(5, .int (iI 0)), (4, .int (iI 0)), (0, .ref o), (1, .int (iI p)), (2, .int (iI k)), (3, .int (iI w))]) (pc := 4) C dX9_sumOf_4 (by decide) rfl ?_
  have L6 : ∀ (nn9 : Nat) (i : Int) (t : Int), (0 ≤ i ∧ i ≤ f 21) → (t = sZ (fun j => if (p = -9 ∨ M22 j = p) ∧ (k = -9 ∨ M23 j = k) then (if w = 0 then M24 j * M8 (M23 j) else if w = 1 then M25 j else M24 j) else 0) i) → (f 21 - i).toNat < nn9 → V p9 l e9 R9 s9 m9 args9 below9 meth9 c9 A9 D Q9 6 0 0 [(o, .inr (9, fX9 q f)), (q 8, aI (d 0) 4 M8), (q 22, aI (d 0) 12 M22), (q 23, aI (d 0) 12 M23), (q 24, aI (d 0) 12 M24), (q 25, aI (d 0) 12 M25)] [(5, .int (iI i)), (4, .int (iI t)), (0, .ref o), (1, .int (iI p)), (2, .int (iI k)), (3, .int (iI w))] 6 [] := by
    intro nn9
    induction nn9 with
    | zero => intro _ _ _ _ hm6; exact absurd hm6 (Nat.not_lt_zero _)
    | succ nn9 ih6 =>
      intro i t hi ht hm6
      refine V_iload (pc := 6) C dX9_sumOf_6 0 rfl ?_
      refine V_aload_n (pc := 8) C dX9_sumOf_8 rfl 2 rfl ?_
      refine gf_X9_177 (x := f 21) (pc := 9) C dX9_sumOf_9 0 rfl rfl ?_
      refine V_icmp_ge (pc := 12) 109 C dX9_sumOf_12 (by decide) (sm_i (by omega)) (sm_i (by omega)) (fun c12 => ?_) (fun c12 => ?_)
      · refine V_iload (pc := 109) C dX9_sumOf_109 1 rfl ?_
        exact V_iret (pc := 111) C Z dX9_sumOf_111 () trivial (ri (by rw [ht]; congr 1; omega)) rfl
      · refine V_iload_n (pc := 15) C dX9_sumOf_15 rfl 3 rfl ?_
        refine V_bipush (pc := 16) C dX9_sumOf_16 rfl ?_
        refine V_icmp_eq (pc := 18) 32 C dX9_sumOf_18 (by decide) (sm_i (by omega)) (sm_i (by decide)) (fun c18 => ?_) (fun c18 => ?_)
        · refine V_iload_n (pc := 32) C dX9_sumOf_32 rfl 4 rfl ?_
          refine V_bipush (pc := 33) C dX9_sumOf_33 rfl ?_
          refine V_icmp_eq (pc := 35) 49 C dX9_sumOf_35 (by decide) (sm_i (by omega)) (sm_i (by decide)) (fun c35 => ?_) (fun c35 => ?_)
          · refine V_iload (pc := 49) C dX9_sumOf_49 1 rfl ?_
            refine V_iload_n (pc := 51) C dX9_sumOf_51 rfl 5 rfl ?_
            refine V_if_ne (pc := 52) 78 C dX9_sumOf_52 (by decide) (sm_i (by omega)) (fun c52 => ?_) (fun c52 => ?_)
            · refine V_iload_n (pc := 78) C dX9_sumOf_78 rfl 5 rfl ?_
              refine V_iconst (pc := 79) C dX9_sumOf_79 ?_
              refine V_icmp_ne (pc := 80) 93 C dX9_sumOf_80 (by decide) (sm_i (by omega)) (sm_i (by decide)) (fun c80 => ?_) (fun c80 => ?_)
              · refine V_aload_n (pc := 93) C dX9_sumOf_93 rfl 2 rfl ?_
                refine gf_X9_60 (x := q 24) (pc := 94) C dX9_sumOf_94 0 rfl rfl ?_
                refine V_iload (pc := 97) C dX9_sumOf_97 0 rfl ?_
                refine V_iald (f := M24) (pc := 99) C dX9_sumOf_99 4 rfl (by omega) (by omega) (Nat.le_of_ble_eq_true rfl) ?_
                have b99 := hM24 i
                refine V_iadd (pc := 100) C dX9_sumOf_100 ?_
                refine V_istore (lv' := [(4, .int (iI (t + (M24 i)))), (5, .int (iI i)), (0, .ref o), (1, .int (iI p)), (2, .int (iI k)), (3, .int (iI w))]) (pc := 101) C dX9_sumOf_101 (by decide) rfl ?_
                refine V_iinc (lv' := [(5, .int (iI (i + 1))), (4, .int (iI (t + (M24 i)))), (0, .ref o), (1, .int (iI p)), (2, .int (iI k)), (3, .int (iI w))]) (pc := 103) C dX9_sumOf_103 1 rfl (by decide) rfl ?_
                refine V_goto (pc := 106) 6 C dX9_sumOf_106 (by decide) ?_
                exact V_sub [0, 1, 2, 3, 4, 5] rfl (ih6 (i + 1) (t + (M24 i)) (by omega) (by rw [ht, sZ_s _ (by omega)]; (repeat' split) <;> omega) (by omega))
              · refine V_aload_n (pc := 83) C dX9_sumOf_83 rfl 2 rfl ?_
                refine gf_X9_63 (x := q 25) (pc := 84) C dX9_sumOf_84 0 rfl rfl ?_
                refine V_iload (pc := 87) C dX9_sumOf_87 0 rfl ?_
                refine V_iald (f := M25) (pc := 89) C dX9_sumOf_89 5 rfl (by omega) (by omega) (Nat.le_of_ble_eq_true rfl) ?_
                have b89 := hM25 i
                refine V_goto (pc := 90) 100 C dX9_sumOf_90 (by decide) ?_
                refine V_iadd (pc := 100) C dX9_sumOf_100 ?_
                refine V_istore (lv' := [(4, .int (iI (t + (M25 i)))), (5, .int (iI i)), (0, .ref o), (1, .int (iI p)), (2, .int (iI k)), (3, .int (iI w))]) (pc := 101) C dX9_sumOf_101 (by decide) rfl ?_
                refine V_iinc (lv' := [(5, .int (iI (i + 1))), (4, .int (iI (t + (M25 i)))), (0, .ref o), (1, .int (iI p)), (2, .int (iI k)), (3, .int (iI w))]) (pc := 103) C dX9_sumOf_103 1 rfl (by decide) rfl ?_
                refine V_goto (pc := 106) 6 C dX9_sumOf_106 (by decide) ?_
                exact V_sub [0, 1, 2, 3, 4, 5] rfl (ih6 (i + 1) (t + (M25 i)) (by omega) (by rw [ht, sZ_s _ (by omega)]; (repeat' split) <;> omega) (by omega))
            · refine V_aload_n (pc := 55) C dX9_sumOf_55 rfl 2 rfl ?_
              refine gf_X9_60 (x := q 24) (pc := 56) C dX9_sumOf_56 0 rfl rfl ?_
              refine V_iload (pc := 59) C dX9_sumOf_59 0 rfl ?_
              refine V_iald (f := M24) (pc := 61) C dX9_sumOf_61 4 rfl (by omega) (by omega) (Nat.le_of_ble_eq_true rfl) ?_
              have b61 := hM24 i
              refine V_aload_n (pc := 62) C dX9_sumOf_62 rfl 2 rfl ?_
              refine gf_X9_19 (x := q 8) (pc := 63) C dX9_sumOf_63 0 rfl rfl ?_
              refine V_aload_n (pc := 66) C dX9_sumOf_66 rfl 2 rfl ?_
              refine gf_X9_57 (x := q 23) (pc := 67) C dX9_sumOf_67 0 rfl rfl ?_
              refine V_iload (pc := 70) C dX9_sumOf_70 0 rfl ?_
              refine V_iald (f := M23) (pc := 72) C dX9_sumOf_72 3 rfl (by omega) (by omega) (Nat.le_of_ble_eq_true rfl) ?_
              have b72 := hM23 i
              refine V_iald (f := M8) (pc := 73) C dX9_sumOf_73 1 rfl (by omega) (by omega) (Nat.le_of_ble_eq_true rfl) ?_
              have b73 := hM8 (M23 i)
              refine V_imul (pc := 74) C dX9_sumOf_74 ?_
              refine V_goto (pc := 75) 100 C dX9_sumOf_75 (by decide) ?_
              refine V_iadd (pc := 100) C dX9_sumOf_100 ?_
              refine V_istore (lv' := [(4, .int (iI (t + ((M24 i) * (M8 (M23 i)))))), (5, .int (iI i)), (0, .ref o), (1, .int (iI p)), (2, .int (iI k)), (3, .int (iI w))]) (pc := 101) C dX9_sumOf_101 (by decide) rfl ?_
              refine V_iinc (lv' := [(5, .int (iI (i + 1))), (4, .int (iI (t + ((M24 i) * (M8 (M23 i)))))), (0, .ref o), (1, .int (iI p)), (2, .int (iI k)), (3, .int (iI w))]) (pc := 103) C dX9_sumOf_103 1 rfl (by decide) rfl ?_
              refine V_goto (pc := 106) 6 C dX9_sumOf_106 (by decide) ?_
              exact V_sub [0, 1, 2, 3, 4, 5] rfl (ih6 (i + 1) (t + ((M24 i) * (M8 (M23 i)))) (by omega) (by rw [ht, sZ_s _ (by omega)]; (repeat' split) <;> omega) (by omega))
          · refine V_aload_n (pc := 38) C dX9_sumOf_38 rfl 2 rfl ?_
            refine gf_X9_57 (x := q 23) (pc := 39) C dX9_sumOf_39 0 rfl rfl ?_
            refine V_iload (pc := 42) C dX9_sumOf_42 0 rfl ?_
            refine V_iald (f := M23) (pc := 44) C dX9_sumOf_44 3 rfl (by omega) (by omega) (Nat.le_of_ble_eq_true rfl) ?_
            have b44 := hM23 i
            refine V_iload_n (pc := 45) C dX9_sumOf_45 rfl 4 rfl ?_
            refine V_icmp_ne (pc := 46) 103 C dX9_sumOf_46 (by decide) (sm_i (by omega)) (sm_i (by omega)) (fun c46 => ?_) (fun c46 => ?_)
            · refine V_iinc (lv' := [(5, .int (iI (i + 1))), (4, .int (iI t)), (0, .ref o), (1, .int (iI p)), (2, .int (iI k)), (3, .int (iI w))]) (pc := 103) C dX9_sumOf_103 0 rfl (by decide) rfl ?_
              refine V_goto (pc := 106) 6 C dX9_sumOf_106 (by decide) ?_
              exact V_sub [0, 1, 2, 3, 4, 5] rfl (ih6 (i + 1) t (by omega) (by rw [ht, sZ_s _ (by omega)]; (repeat' split) <;> omega) (by omega))
            · refine V_iload (pc := 49) C dX9_sumOf_49 1 rfl ?_
              refine V_iload_n (pc := 51) C dX9_sumOf_51 rfl 5 rfl ?_
              refine V_if_ne (pc := 52) 78 C dX9_sumOf_52 (by decide) (sm_i (by omega)) (fun c52 => ?_) (fun c52 => ?_)
              · refine V_iload_n (pc := 78) C dX9_sumOf_78 rfl 5 rfl ?_
                refine V_iconst (pc := 79) C dX9_sumOf_79 ?_
                refine V_icmp_ne (pc := 80) 93 C dX9_sumOf_80 (by decide) (sm_i (by omega)) (sm_i (by decide)) (fun c80 => ?_) (fun c80 => ?_)
                · refine V_aload_n (pc := 93) C dX9_sumOf_93 rfl 2 rfl ?_
                  refine gf_X9_60 (x := q 24) (pc := 94) C dX9_sumOf_94 0 rfl rfl ?_
                  refine V_iload (pc := 97) C dX9_sumOf_97 0 rfl ?_
                  refine V_iald (f := M24) (pc := 99) C dX9_sumOf_99 4 rfl (by omega) (by omega) (Nat.le_of_ble_eq_true rfl) ?_
                  have b99 := hM24 i
                  refine V_iadd (pc := 100) C dX9_sumOf_100 ?_
                  refine V_istore (lv' := [(4, .int (iI (t + (M24 i)))), (5, .int (iI i)), (0, .ref o), (1, .int (iI p)), (2, .int (iI k)), (3, .int (iI w))]) (pc := 101) C dX9_sumOf_101 (by decide) rfl ?_
                  refine V_iinc (lv' := [(5, .int (iI (i + 1))), (4, .int (iI (t + (M24 i)))), (0, .ref o), (1, .int (iI p)), (2, .int (iI k)), (3, .int (iI w))]) (pc := 103) C dX9_sumOf_103 1 rfl (by decide) rfl ?_
                  refine V_goto (pc := 106) 6 C dX9_sumOf_106 (by decide) ?_
                  exact V_sub [0, 1, 2, 3, 4, 5] rfl (ih6 (i + 1) (t + (M24 i)) (by omega) (by rw [ht, sZ_s _ (by omega)]; (repeat' split) <;> omega) (by omega))
                · refine V_aload_n (pc := 83) C dX9_sumOf_83 rfl 2 rfl ?_
                  refine gf_X9_63 (x := q 25) (pc := 84) C dX9_sumOf_84 0 rfl rfl ?_
                  refine V_iload (pc := 87) C dX9_sumOf_87 0 rfl ?_
                  refine V_iald (f := M25) (pc := 89) C dX9_sumOf_89 5 rfl (by omega) (by omega) (Nat.le_of_ble_eq_true rfl) ?_
                  have b89 := hM25 i
                  refine V_goto (pc := 90) 100 C dX9_sumOf_90 (by decide) ?_
                  refine V_iadd (pc := 100) C dX9_sumOf_100 ?_
                  refine V_istore (lv' := [(4, .int (iI (t + (M25 i)))), (5, .int (iI i)), (0, .ref o), (1, .int (iI p)), (2, .int (iI k)), (3, .int (iI w))]) (pc := 101) C dX9_sumOf_101 (by decide) rfl ?_
                  refine V_iinc (lv' := [(5, .int (iI (i + 1))), (4, .int (iI (t + (M25 i)))), (0, .ref o), (1, .int (iI p)), (2, .int (iI k)), (3, .int (iI w))]) (pc := 103) C dX9_sumOf_103 1 rfl (by decide) rfl ?_
                  refine V_goto (pc := 106) 6 C dX9_sumOf_106 (by decide) ?_
                  exact V_sub [0, 1, 2, 3, 4, 5] rfl (ih6 (i + 1) (t + (M25 i)) (by omega) (by rw [ht, sZ_s _ (by omega)]; (repeat' split) <;> omega) (by omega))
              · refine V_aload_n (pc := 55) C dX9_sumOf_55 rfl 2 rfl ?_
                refine gf_X9_60 (x := q 24) (pc := 56) C dX9_sumOf_56 0 rfl rfl ?_
                refine V_iload (pc := 59) C dX9_sumOf_59 0 rfl ?_
                refine V_iald (f := M24) (pc := 61) C dX9_sumOf_61 4 rfl (by omega) (by omega) (Nat.le_of_ble_eq_true rfl) ?_
                have b61 := hM24 i
                refine V_aload_n (pc := 62) C dX9_sumOf_62 rfl 2 rfl ?_
                refine gf_X9_19 (x := q 8) (pc := 63) C dX9_sumOf_63 0 rfl rfl ?_
                refine V_aload_n (pc := 66) C dX9_sumOf_66 rfl 2 rfl ?_
                refine gf_X9_57 (x := q 23) (pc := 67) C dX9_sumOf_67 0 rfl rfl ?_
                refine V_iload (pc := 70) C dX9_sumOf_70 0 rfl ?_
                refine V_iald (f := M23) (pc := 72) C dX9_sumOf_72 3 rfl (by omega) (by omega) (Nat.le_of_ble_eq_true rfl) ?_
                have b72 := hM23 i
                refine V_iald (f := M8) (pc := 73) C dX9_sumOf_73 1 rfl (by omega) (by omega) (Nat.le_of_ble_eq_true rfl) ?_
                have b73 := hM8 (M23 i)
                refine V_imul (pc := 74) C dX9_sumOf_74 ?_
                refine V_goto (pc := 75) 100 C dX9_sumOf_75 (by decide) ?_
                refine V_iadd (pc := 100) C dX9_sumOf_100 ?_
                refine V_istore (lv' := [(4, .int (iI (t + ((M24 i) * (M8 (M23 i)))))), (5, .int (iI i)), (0, .ref o), (1, .int (iI p)), (2, .int (iI k)), (3, .int (iI w))]) (pc := 101) C dX9_sumOf_101 (by decide) rfl ?_
                refine V_iinc (lv' := [(5, .int (iI (i + 1))), (4, .int (iI (t + ((M24 i) * (M8 (M23 i)))))), (0, .ref o), (1, .int (iI p)), (2, .int (iI k)), (3, .int (iI w))]) (pc := 103) C dX9_sumOf_103 1 rfl (by decide) rfl ?_
                refine V_goto (pc := 106) 6 C dX9_sumOf_106 (by decide) ?_
                exact V_sub [0, 1, 2, 3, 4, 5] rfl (ih6 (i + 1) (t + ((M24 i) * (M8 (M23 i)))) (by omega) (by rw [ht, sZ_s _ (by omega)]; (repeat' split) <;> omega) (by omega))
        · refine V_aload_n (pc := 21) C dX9_sumOf_21 rfl 2 rfl ?_
          refine gf_X9_54 (x := q 22) (pc := 22) C dX9_sumOf_22 0 rfl rfl ?_
          refine V_iload (pc := 25) C dX9_sumOf_25 0 rfl ?_
          refine V_iald (f := M22) (pc := 27) C dX9_sumOf_27 2 rfl (by omega) (by omega) (Nat.le_of_ble_eq_true rfl) ?_
          have b27 := hM22 i
          refine V_iload_n (pc := 28) C dX9_sumOf_28 rfl 3 rfl ?_
          refine V_icmp_ne (pc := 29) 103 C dX9_sumOf_29 (by decide) (sm_i (by omega)) (sm_i (by omega)) (fun c29 => ?_) (fun c29 => ?_)
          · refine V_iinc (lv' := [(5, .int (iI (i + 1))), (4, .int (iI t)), (0, .ref o), (1, .int (iI p)), (2, .int (iI k)), (3, .int (iI w))]) (pc := 103) C dX9_sumOf_103 0 rfl (by decide) rfl ?_
            refine V_goto (pc := 106) 6 C dX9_sumOf_106 (by decide) ?_
            exact V_sub [0, 1, 2, 3, 4, 5] rfl (ih6 (i + 1) t (by omega) (by rw [ht, sZ_s _ (by omega)]; (repeat' split) <;> omega) (by omega))
          · refine V_iload_n (pc := 32) C dX9_sumOf_32 rfl 4 rfl ?_
            refine V_bipush (pc := 33) C dX9_sumOf_33 rfl ?_
            refine V_icmp_eq (pc := 35) 49 C dX9_sumOf_35 (by decide) (sm_i (by omega)) (sm_i (by decide)) (fun c35 => ?_) (fun c35 => ?_)
            · refine V_iload (pc := 49) C dX9_sumOf_49 1 rfl ?_
              refine V_iload_n (pc := 51) C dX9_sumOf_51 rfl 5 rfl ?_
              refine V_if_ne (pc := 52) 78 C dX9_sumOf_52 (by decide) (sm_i (by omega)) (fun c52 => ?_) (fun c52 => ?_)
              · refine V_iload_n (pc := 78) C dX9_sumOf_78 rfl 5 rfl ?_
                refine V_iconst (pc := 79) C dX9_sumOf_79 ?_
                refine V_icmp_ne (pc := 80) 93 C dX9_sumOf_80 (by decide) (sm_i (by omega)) (sm_i (by decide)) (fun c80 => ?_) (fun c80 => ?_)
                · refine V_aload_n (pc := 93) C dX9_sumOf_93 rfl 2 rfl ?_
                  refine gf_X9_60 (x := q 24) (pc := 94) C dX9_sumOf_94 0 rfl rfl ?_
                  refine V_iload (pc := 97) C dX9_sumOf_97 0 rfl ?_
                  refine V_iald (f := M24) (pc := 99) C dX9_sumOf_99 4 rfl (by omega) (by omega) (Nat.le_of_ble_eq_true rfl) ?_
                  have b99 := hM24 i
                  refine V_iadd (pc := 100) C dX9_sumOf_100 ?_
                  refine V_istore (lv' := [(4, .int (iI (t + (M24 i)))), (5, .int (iI i)), (0, .ref o), (1, .int (iI p)), (2, .int (iI k)), (3, .int (iI w))]) (pc := 101) C dX9_sumOf_101 (by decide) rfl ?_
                  refine V_iinc (lv' := [(5, .int (iI (i + 1))), (4, .int (iI (t + (M24 i)))), (0, .ref o), (1, .int (iI p)), (2, .int (iI k)), (3, .int (iI w))]) (pc := 103) C dX9_sumOf_103 1 rfl (by decide) rfl ?_
                  refine V_goto (pc := 106) 6 C dX9_sumOf_106 (by decide) ?_
                  exact V_sub [0, 1, 2, 3, 4, 5] rfl (ih6 (i + 1) (t + (M24 i)) (by omega) (by rw [ht, sZ_s _ (by omega)]; (repeat' split) <;> omega) (by omega))
                · refine V_aload_n (pc := 83) C dX9_sumOf_83 rfl 2 rfl ?_
                  refine gf_X9_63 (x := q 25) (pc := 84) C dX9_sumOf_84 0 rfl rfl ?_
                  refine V_iload (pc := 87) C dX9_sumOf_87 0 rfl ?_
                  refine V_iald (f := M25) (pc := 89) C dX9_sumOf_89 5 rfl (by omega) (by omega) (Nat.le_of_ble_eq_true rfl) ?_
                  have b89 := hM25 i
                  refine V_goto (pc := 90) 100 C dX9_sumOf_90 (by decide) ?_
                  refine V_iadd (pc := 100) C dX9_sumOf_100 ?_
                  refine V_istore (lv' := [(4, .int (iI (t + (M25 i)))), (5, .int (iI i)), (0, .ref o), (1, .int (iI p)), (2, .int (iI k)), (3, .int (iI w))]) (pc := 101) C dX9_sumOf_101 (by decide) rfl ?_
                  refine V_iinc (lv' := [(5, .int (iI (i + 1))), (4, .int (iI (t + (M25 i)))), (0, .ref o), (1, .int (iI p)), (2, .int (iI k)), (3, .int (iI w))]) (pc := 103) C dX9_sumOf_103 1 rfl (by decide) rfl ?_
                  refine V_goto (pc := 106) 6 C dX9_sumOf_106 (by decide) ?_
                  exact V_sub [0, 1, 2, 3, 4, 5] rfl (ih6 (i + 1) (t + (M25 i)) (by omega) (by rw [ht, sZ_s _ (by omega)]; (repeat' split) <;> omega) (by omega))
              · refine V_aload_n (pc := 55) C dX9_sumOf_55 rfl 2 rfl ?_
                refine gf_X9_60 (x := q 24) (pc := 56) C dX9_sumOf_56 0 rfl rfl ?_
                refine V_iload (pc := 59) C dX9_sumOf_59 0 rfl ?_
                refine V_iald (f := M24) (pc := 61) C dX9_sumOf_61 4 rfl (by omega) (by omega) (Nat.le_of_ble_eq_true rfl) ?_
                have b61 := hM24 i
                refine V_aload_n (pc := 62) C dX9_sumOf_62 rfl 2 rfl ?_
                refine gf_X9_19 (x := q 8) (pc := 63) C dX9_sumOf_63 0 rfl rfl ?_
                refine V_aload_n (pc := 66) C dX9_sumOf_66 rfl 2 rfl ?_
                refine gf_X9_57 (x := q 23) (pc := 67) C dX9_sumOf_67 0 rfl rfl ?_
                refine V_iload (pc := 70) C dX9_sumOf_70 0 rfl ?_
                refine V_iald (f := M23) (pc := 72) C dX9_sumOf_72 3 rfl (by omega) (by omega) (Nat.le_of_ble_eq_true rfl) ?_
                have b72 := hM23 i
                refine V_iald (f := M8) (pc := 73) C dX9_sumOf_73 1 rfl (by omega) (by omega) (Nat.le_of_ble_eq_true rfl) ?_
                have b73 := hM8 (M23 i)
                refine V_imul (pc := 74) C dX9_sumOf_74 ?_
                refine V_goto (pc := 75) 100 C dX9_sumOf_75 (by decide) ?_
                refine V_iadd (pc := 100) C dX9_sumOf_100 ?_
                refine V_istore (lv' := [(4, .int (iI (t + ((M24 i) * (M8 (M23 i)))))), (5, .int (iI i)), (0, .ref o), (1, .int (iI p)), (2, .int (iI k)), (3, .int (iI w))]) (pc := 101) C dX9_sumOf_101 (by decide) rfl ?_
                refine V_iinc (lv' := [(5, .int (iI (i + 1))), (4, .int (iI (t + ((M24 i) * (M8 (M23 i)))))), (0, .ref o), (1, .int (iI p)), (2, .int (iI k)), (3, .int (iI w))]) (pc := 103) C dX9_sumOf_103 1 rfl (by decide) rfl ?_
                refine V_goto (pc := 106) 6 C dX9_sumOf_106 (by decide) ?_
                exact V_sub [0, 1, 2, 3, 4, 5] rfl (ih6 (i + 1) (t + ((M24 i) * (M8 (M23 i)))) (by omega) (by rw [ht, sZ_s _ (by omega)]; (repeat' split) <;> omega) (by omega))
            · refine V_aload_n (pc := 38) C dX9_sumOf_38 rfl 2 rfl ?_
              refine gf_X9_57 (x := q 23) (pc := 39) C dX9_sumOf_39 0 rfl rfl ?_
              refine V_iload (pc := 42) C dX9_sumOf_42 0 rfl ?_
              refine V_iald (f := M23) (pc := 44) C dX9_sumOf_44 3 rfl (by omega) (by omega) (Nat.le_of_ble_eq_true rfl) ?_
              have b44 := hM23 i
              refine V_iload_n (pc := 45) C dX9_sumOf_45 rfl 4 rfl ?_
              refine V_icmp_ne (pc := 46) 103 C dX9_sumOf_46 (by decide) (sm_i (by omega)) (sm_i (by omega)) (fun c46 => ?_) (fun c46 => ?_)
              · refine V_iinc (lv' := [(5, .int (iI (i + 1))), (4, .int (iI t)), (0, .ref o), (1, .int (iI p)), (2, .int (iI k)), (3, .int (iI w))]) (pc := 103) C dX9_sumOf_103 0 rfl (by decide) rfl ?_
                refine V_goto (pc := 106) 6 C dX9_sumOf_106 (by decide) ?_
                exact V_sub [0, 1, 2, 3, 4, 5] rfl (ih6 (i + 1) t (by omega) (by rw [ht, sZ_s _ (by omega)]; (repeat' split) <;> omega) (by omega))
              · refine V_iload (pc := 49) C dX9_sumOf_49 1 rfl ?_
                refine V_iload_n (pc := 51) C dX9_sumOf_51 rfl 5 rfl ?_
                refine V_if_ne (pc := 52) 78 C dX9_sumOf_52 (by decide) (sm_i (by omega)) (fun c52 => ?_) (fun c52 => ?_)
                · refine V_iload_n (pc := 78) C dX9_sumOf_78 rfl 5 rfl ?_
                  refine V_iconst (pc := 79) C dX9_sumOf_79 ?_
                  refine V_icmp_ne (pc := 80) 93 C dX9_sumOf_80 (by decide) (sm_i (by omega)) (sm_i (by decide)) (fun c80 => ?_) (fun c80 => ?_)
                  · refine V_aload_n (pc := 93) C dX9_sumOf_93 rfl 2 rfl ?_
                    refine gf_X9_60 (x := q 24) (pc := 94) C dX9_sumOf_94 0 rfl rfl ?_
                    refine V_iload (pc := 97) C dX9_sumOf_97 0 rfl ?_
                    refine V_iald (f := M24) (pc := 99) C dX9_sumOf_99 4 rfl (by omega) (by omega) (Nat.le_of_ble_eq_true rfl) ?_
                    have b99 := hM24 i
                    refine V_iadd (pc := 100) C dX9_sumOf_100 ?_
                    refine V_istore (lv' := [(4, .int (iI (t + (M24 i)))), (5, .int (iI i)), (0, .ref o), (1, .int (iI p)), (2, .int (iI k)), (3, .int (iI w))]) (pc := 101) C dX9_sumOf_101 (by decide) rfl ?_
                    refine V_iinc (lv' := [(5, .int (iI (i + 1))), (4, .int (iI (t + (M24 i)))), (0, .ref o), (1, .int (iI p)), (2, .int (iI k)), (3, .int (iI w))]) (pc := 103) C dX9_sumOf_103 1 rfl (by decide) rfl ?_
                    refine V_goto (pc := 106) 6 C dX9_sumOf_106 (by decide) ?_
                    exact V_sub [0, 1, 2, 3, 4, 5] rfl (ih6 (i + 1) (t + (M24 i)) (by omega) (by rw [ht, sZ_s _ (by omega)]; (repeat' split) <;> omega) (by omega))
                  · refine V_aload_n (pc := 83) C dX9_sumOf_83 rfl 2 rfl ?_
                    refine gf_X9_63 (x := q 25) (pc := 84) C dX9_sumOf_84 0 rfl rfl ?_
                    refine V_iload (pc := 87) C dX9_sumOf_87 0 rfl ?_
                    refine V_iald (f := M25) (pc := 89) C dX9_sumOf_89 5 rfl (by omega) (by omega) (Nat.le_of_ble_eq_true rfl) ?_
                    have b89 := hM25 i
                    refine V_goto (pc := 90) 100 C dX9_sumOf_90 (by decide) ?_
                    refine V_iadd (pc := 100) C dX9_sumOf_100 ?_
                    refine V_istore (lv' := [(4, .int (iI (t + (M25 i)))), (5, .int (iI i)), (0, .ref o), (1, .int (iI p)), (2, .int (iI k)), (3, .int (iI w))]) (pc := 101) C dX9_sumOf_101 (by decide) rfl ?_
                    refine V_iinc (lv' := [(5, .int (iI (i + 1))), (4, .int (iI (t + (M25 i)))), (0, .ref o), (1, .int (iI p)), (2, .int (iI k)), (3, .int (iI w))]) (pc := 103) C dX9_sumOf_103 1 rfl (by decide) rfl ?_
                    refine V_goto (pc := 106) 6 C dX9_sumOf_106 (by decide) ?_
                    exact V_sub [0, 1, 2, 3, 4, 5] rfl (ih6 (i + 1) (t + (M25 i)) (by omega) (by rw [ht, sZ_s _ (by omega)]; (repeat' split) <;> omega) (by omega))
                · refine V_aload_n (pc := 55) C dX9_sumOf_55 rfl 2 rfl ?_
                  refine gf_X9_60 (x := q 24) (pc := 56) C dX9_sumOf_56 0 rfl rfl ?_
                  refine V_iload (pc := 59) C dX9_sumOf_59 0 rfl ?_
                  refine V_iald (f := M24) (pc := 61) C dX9_sumOf_61 4 rfl (by omega) (by omega) (Nat.le_of_ble_eq_true rfl) ?_
                  have b61 := hM24 i
                  refine V_aload_n (pc := 62) C dX9_sumOf_62 rfl 2 rfl ?_
                  refine gf_X9_19 (x := q 8) (pc := 63) C dX9_sumOf_63 0 rfl rfl ?_
                  refine V_aload_n (pc := 66) C dX9_sumOf_66 rfl 2 rfl ?_
                  refine gf_X9_57 (x := q 23) (pc := 67) C dX9_sumOf_67 0 rfl rfl ?_
                  refine V_iload (pc := 70) C dX9_sumOf_70 0 rfl ?_
                  refine V_iald (f := M23) (pc := 72) C dX9_sumOf_72 3 rfl (by omega) (by omega) (Nat.le_of_ble_eq_true rfl) ?_
                  have b72 := hM23 i
                  refine V_iald (f := M8) (pc := 73) C dX9_sumOf_73 1 rfl (by omega) (by omega) (Nat.le_of_ble_eq_true rfl) ?_
                  have b73 := hM8 (M23 i)
                  refine V_imul (pc := 74) C dX9_sumOf_74 ?_
                  refine V_goto (pc := 75) 100 C dX9_sumOf_75 (by decide) ?_
                  refine V_iadd (pc := 100) C dX9_sumOf_100 ?_
                  refine V_istore (lv' := [(4, .int (iI (t + ((M24 i) * (M8 (M23 i)))))), (5, .int (iI i)), (0, .ref o), (1, .int (iI p)), (2, .int (iI k)), (3, .int (iI w))]) (pc := 101) C dX9_sumOf_101 (by decide) rfl ?_
                  refine V_iinc (lv' := [(5, .int (iI (i + 1))), (4, .int (iI (t + ((M24 i) * (M8 (M23 i)))))), (0, .ref o), (1, .int (iI p)), (2, .int (iI k)), (3, .int (iI w))]) (pc := 103) C dX9_sumOf_103 1 rfl (by decide) rfl ?_
                  refine V_goto (pc := 106) 6 C dX9_sumOf_106 (by decide) ?_
                  exact V_sub [0, 1, 2, 3, 4, 5] rfl (ih6 (i + 1) (t + ((M24 i) * (M8 (M23 i)))) (by omega) (by rw [ht, sZ_s _ (by omega)]; (repeat' split) <;> omega) (by omega))
  exact V_sub [0, 1, 2, 3, 4, 5] rfl (L6 ((f 21 - 0).toNat + 1) 0 0 (by omega) (rfl) (Nat.lt_succ_self _))
set_option maxRecDepth 100000 in
set_option maxHeartbeats 4000000 in
theorem c_X9_earnedBy (l : Launch) (D : va_G) (d : Nat → ClassId) (o : Nat) (q : Nat → Nat) (f : Nat → Int) (M6 : Int → Int) (M11 : Int → Int) (p : Int) (v : Int) (k : Int) (hP : 0 ≤ f 4 ∧ f 4 ≤ 6) (hM6 : bd M6 0 99) (hM11 : bd M11 0 9) (hp : 1 ≤ p ∧ p ≤ 999) (hv : 1 ≤ v ∧ v ≤ 99) (hk : 0 ≤ k ∧ k ≤ 9) : CU l yX9_earnedBy cX9_earnedBy 6 (some .int) 0 0 D d [.ref o, .int (iI p), .int (iI v), .int (iI k)] [(o, .inr (9, fX9 q f)), (q 6, aI (d 0) 6 M6), (q 11, aI (d 0) 6 M11)] (fun (_ : Unit) => True) (fun (_ : Unit) => some (.int (iI (brI (f 4) M6 M11 p v k)))) (fun (_ : Unit) => [(o, .inr (9, fX9 q f)), (q 6, aI (d 0) 6 M6), (q 11, aI (d 0) 6 M11)]) := by
  refine CU.mk (own := RX9) (lv := [(0, .ref o), (1, .int (iI p)), (2, .int (iI v)), (3, .int (iI k))]) rfl (by decide) (Nat.le_of_ble_eq_true rfl) rfl ?_
  intro p9 e9 R9 s9 m9 args9 below9 meth9 c9 A9 Q9 hRf hRl C Z
  refine V_iconst (pc := 0) C dX9_earnedBy_0 ?_
  refine V_istore (lv' := [(4, .int (iI 0)), (0, .ref o), (1, .int (iI p)), (2, .int (iI v)), (3, .int (iI k))]) (pc := 1) C dX9_earnedBy_1 (by decide) rfl ?_
  refine V_iconst (pc := 3) C dX9_earnedBy_3 ?_
  refine V_istore (lv' := [(5, .int (iI 0)), (4, .int (iI 0)), (0, .ref o), (1, .int (iI p)), (2, .int (iI v)), (3, .int (iI k))]) (pc := 4) C dX9_earnedBy_4 (by decide) rfl ?_
  have L6 : ∀ (nn9 : Nat) (i : Int) (t : Int), (0 ≤ i ∧ i ≤ f 4) → (t = sZ (fun i => if p ≤ v * M6 i then M11 i * (p - k * M6 i) else 0) i) → (f 4 - i).toNat < nn9 → V p9 l e9 R9 s9 m9 args9 below9 meth9 c9 A9 D Q9 6 0 0 [(o, .inr (9, fX9 q f)), (q 6, aI (d 0) 6 M6), (q 11, aI (d 0) 6 M11)] [(5, .int (iI i)), (4, .int (iI t)), (0, .ref o), (1, .int (iI p)), (2, .int (iI v)), (3, .int (iI k))] 6 [] := by
    intro nn9
    induction nn9 with
    | zero => intro _ _ _ _ hm6; exact absurd hm6 (Nat.not_lt_zero _)
    | succ nn9 ih6 =>
      intro i t hi ht hm6
      refine V_iload (pc := 6) C dX9_earnedBy_6 0 rfl ?_
      refine V_aload_n (pc := 8) C dX9_earnedBy_8 rfl 2 rfl ?_
      refine gf_X9_120 (x := f 4) (pc := 9) C dX9_earnedBy_9 0 rfl rfl ?_
      refine V_icmp_ge (pc := 12) 62 C dX9_earnedBy_12 (by decide) (sm_i (by omega)) (sm_i (by omega)) (fun c12 => ?_) (fun c12 => ?_)
      · refine V_iload (pc := 62) C dX9_earnedBy_62 1 rfl ?_
        exact V_iret (pc := 64) C Z dX9_earnedBy_64 () trivial (ri (by rw [ht]; unfold brI; congr 1; omega)) rfl
      · refine V_iload (pc := 15) C dX9_earnedBy_15 1 rfl ?_
        refine V_iload_n (pc := 17) C dX9_earnedBy_17 rfl 3 rfl ?_
        refine V_iload_n (pc := 18) C dX9_earnedBy_18 rfl 4 rfl ?_
        refine V_aload_n (pc := 19) C dX9_earnedBy_19 rfl 2 rfl ?_
        refine gf_X9_13 (x := q 6) (pc := 20) C dX9_earnedBy_20 0 rfl rfl ?_
        refine V_iload (pc := 23) C dX9_earnedBy_23 0 rfl ?_
        refine V_iald (f := M6) (pc := 25) C dX9_earnedBy_25 1 rfl (by omega) (by omega) (Nat.le_of_ble_eq_true rfl) ?_
        have b25 := hM6 i
        refine V_imul (pc := 26) C dX9_earnedBy_26 ?_
        have m31 := mulb (show 0 ≤ v ∧ v ≤ 99 by omega) b25
        refine V_icmp_gt (pc := 27) 52 C dX9_earnedBy_27 (by decide) (sm_i (by omega)) (sm_i (by omega)) (fun c27 => ?_) (fun c27 => ?_)
        · refine V_iconst (pc := 52) C dX9_earnedBy_52 ?_
          refine V_iadd (pc := 53) C dX9_earnedBy_53 ?_
          refine V_istore (lv' := [(4, .int (iI (t + 0))), (5, .int (iI i)), (0, .ref o), (1, .int (iI p)), (2, .int (iI v)), (3, .int (iI k))]) (pc := 54) C dX9_earnedBy_54 (by decide) rfl ?_
          refine V_iinc (lv' := [(5, .int (iI (i + 1))), (4, .int (iI (t + 0))), (0, .ref o), (1, .int (iI p)), (2, .int (iI v)), (3, .int (iI k))]) (pc := 56) C dX9_earnedBy_56 1 rfl (by decide) rfl ?_
          refine V_goto (pc := 59) 6 C dX9_earnedBy_59 (by decide) ?_
          exact V_sub [0, 1, 2, 3, 4, 5] rfl (ih6 (i + 1) (t + 0) (by omega) (by rw [ht, sZ_s _ (by omega)]; (repeat' split) <;> omega) (by omega))
        · refine V_aload_n (pc := 30) C dX9_earnedBy_30 rfl 2 rfl ?_
          refine gf_X9_29 (x := q 11) (pc := 31) C dX9_earnedBy_31 0 rfl rfl ?_
          refine V_iload (pc := 34) C dX9_earnedBy_34 0 rfl ?_
          refine V_iald (f := M11) (pc := 36) C dX9_earnedBy_36 2 rfl (by omega) (by omega) (Nat.le_of_ble_eq_true rfl) ?_
          have b36 := hM11 i
          refine V_iload_n (pc := 37) C dX9_earnedBy_37 rfl 3 rfl ?_
          refine V_iload_n (pc := 38) C dX9_earnedBy_38 rfl 5 rfl ?_
          refine V_aload_n (pc := 39) C dX9_earnedBy_39 rfl 2 rfl ?_
          refine gf_X9_13 (x := q 6) (pc := 40) C dX9_earnedBy_40 0 rfl rfl ?_
          refine V_iload (pc := 43) C dX9_earnedBy_43 0 rfl ?_
          refine V_iald (f := M6) (pc := 45) C dX9_earnedBy_45 1 rfl (by omega) (by omega) (Nat.le_of_ble_eq_true rfl) ?_
          have b45 := hM6 i
          refine V_imul (pc := 46) C dX9_earnedBy_46 ?_
          refine V_isub (pc := 47) C dX9_earnedBy_47 ?_
          refine V_imul (pc := 48) C dX9_earnedBy_48 ?_
          refine V_goto (pc := 49) 53 C dX9_earnedBy_49 (by decide) ?_
          refine V_iadd (pc := 53) C dX9_earnedBy_53 ?_
          refine V_istore (lv' := [(4, .int (iI (t + ((M11 i) * (p - (k * (M6 i))))))), (5, .int (iI i)), (0, .ref o), (1, .int (iI p)), (2, .int (iI v)), (3, .int (iI k))]) (pc := 54) C dX9_earnedBy_54 (by decide) rfl ?_
          refine V_iinc (lv' := [(5, .int (iI (i + 1))), (4, .int (iI (t + ((M11 i) * (p - (k * (M6 i))))))), (0, .ref o), (1, .int (iI p)), (2, .int (iI v)), (3, .int (iI k))]) (pc := 56) C dX9_earnedBy_56 1 rfl (by decide) rfl ?_
          refine V_goto (pc := 59) 6 C dX9_earnedBy_59 (by decide) ?_
          exact V_sub [0, 1, 2, 3, 4, 5] rfl (ih6 (i + 1) (t + ((M11 i) * (p - (k * (M6 i))))) (by omega) (by rw [ht, sZ_s _ (by omega)]; (repeat' split) <;> omega) (by omega))
  exact V_sub [0, 1, 2, 3, 4, 5] rfl (L6 ((f 4 - 0).toNat + 1) 0 0 (by omega) (rfl) (Nat.lt_succ_self _))
set_option maxRecDepth 100000 in
set_option maxHeartbeats 4000000 in
theorem c_X9_losersBy (l : Launch) (D : va_G) (d : Nat → ClassId) (o : Nat) (q : Nat → Nat) (f : Nat → Int) (M6 : Int → Int) (M12 : Int → Int) (p : Int) (hP : 0 ≤ f 4 ∧ f 4 ≤ 6) (hM6 : bd M6 0 99) (hM12 : bd M12 0 1) (hp : -2147483648 ≤ p ∧ p ≤ 2147483647) : CU l yX9_losersBy cX9_losersBy 4 (some .int) 0 0 D d [.ref o, .int (iI p)] [(o, .inr (9, fX9 q f)), (q 6, aI (d 0) 6 M6), (q 12, aI (d 1) 6 M12)] (fun (_ : Unit) => True) (fun (_ : Unit) => some (.int (iI (lsI (f 4) M6 M12 p)))) (fun (_ : Unit) => [(o, .inr (9, fX9 q f)), (q 6, aI (d 0) 6 M6), (q 12, aI (d 1) 6 M12)]) := by
  refine CU.mk (own := RX9) (lv := [(0, .ref o), (1, .int (iI p))]) rfl (by decide) (Nat.le_of_ble_eq_true rfl) rfl ?_
  intro p9 e9 R9 s9 m9 args9 below9 meth9 c9 A9 Q9 hRf hRl C Z
  refine V_iconst (pc := 0) C dX9_losersBy_0 ?_
  refine V_istore_n (lv' := [(2, .int (iI 0)), (0, .ref o), (1, .int (iI p))]) (pc := 1) C dX9_losersBy_1 rfl (by decide) rfl ?_
  refine V_iconst (pc := 2) C dX9_losersBy_2 ?_
  refine V_istore_n (lv' := [(3, .int (iI 0)), (2, .int (iI 0)), (0, .ref o), (1, .int (iI p))]) (pc := 3) C dX9_losersBy_3 rfl (by decide) rfl ?_
  have L4 : ∀ (nn9 : Nat) (i : Int) (t : Int), (0 ≤ i ∧ i ≤ f 4) → (t = lsI i M6 M12 p) → (f 4 - i).toNat < nn9 → V p9 l e9 R9 s9 m9 args9 below9 meth9 c9 A9 D Q9 4 0 0 [(o, .inr (9, fX9 q f)), (q 6, aI (d 0) 6 M6), (q 12, aI (d 1) 6 M12)] [(3, .int (iI i)), (2, .int (iI t)), (0, .ref o), (1, .int (iI p))] 4 [] := by
    intro nn9
    induction nn9 with
    | zero => intro _ _ _ _ hm4; exact absurd hm4 (Nat.not_lt_zero _)
    | succ nn9 ih4 =>
      intro i t hi ht hm4
      refine V_iload_n (pc := 4) C dX9_losersBy_4 rfl 0 rfl ?_
      refine V_aload_n (pc := 5) C dX9_losersBy_5 rfl 2 rfl ?_
      refine gf_X9_120 (x := f 4) (pc := 6) C dX9_losersBy_6 0 rfl rfl ?_
      refine V_icmp_ge (pc := 9) 63 C dX9_losersBy_9 (by decide) (sm_i (by omega)) (sm_i (by omega)) (fun c9 => ?_) (fun c9 => ?_)
      · refine V_iload_n (pc := 63) C dX9_losersBy_63 rfl 1 rfl ?_
        exact V_iret (pc := 64) C Z dX9_losersBy_64 () trivial (ri (by rw [ht]; congr 1; omega)) rfl
      · refine V_iload_n (pc := 12) C dX9_losersBy_12 rfl 1 rfl ?_
        refine V_aload_n (pc := 13) C dX9_losersBy_13 rfl 2 rfl ?_
        refine gf_X9_32 (x := q 12) (pc := 14) C dX9_losersBy_14 0 rfl rfl ?_
        refine V_iload_n (pc := 17) C dX9_losersBy_17 rfl 0 rfl ?_
        refine V_zald (f := M12) (pc := 18) C dX9_losersBy_18 2 rfl (by omega) (by omega) (Nat.le_of_ble_eq_true rfl) ?_
        have b18 := hM12 i
        refine V_if_eq (pc := 19) 40 C dX9_losersBy_19 (by decide) (sm_i (by omega)) (fun c19 => ?_) (fun c19 => ?_)
        · refine V_iload_n (pc := 40) C dX9_losersBy_40 rfl 3 rfl ?_
          refine V_aload_n (pc := 41) C dX9_losersBy_41 rfl 2 rfl ?_
          refine gf_X9_13 (x := q 6) (pc := 42) C dX9_losersBy_42 0 rfl rfl ?_
          refine V_iload_n (pc := 45) C dX9_losersBy_45 rfl 0 rfl ?_
          refine V_iald (f := M6) (pc := 46) C dX9_losersBy_46 1 rfl (by omega) (by omega) (Nat.le_of_ble_eq_true rfl) ?_
          have b46 := hM6 i
          refine V_icmp_ge (pc := 47) 54 C dX9_losersBy_47 (by decide) (sm_i (by omega)) (sm_i (by omega)) (fun c47 => ?_) (fun c47 => ?_)
          · refine V_iconst (pc := 54) C dX9_losersBy_54 ?_
            refine V_iadd (pc := 55) C dX9_losersBy_55 ?_
            refine V_istore_n (lv' := [(2, .int (iI (t + 0))), (3, .int (iI i)), (0, .ref o), (1, .int (iI p))]) (pc := 56) C dX9_losersBy_56 rfl (by decide) rfl ?_
            refine V_iinc (lv' := [(3, .int (iI (i + 1))), (2, .int (iI (t + 0))), (0, .ref o), (1, .int (iI p))]) (pc := 57) C dX9_losersBy_57 1 rfl (by decide) rfl ?_
            refine V_goto (pc := 60) 4 C dX9_losersBy_60 (by decide) ?_
            exact V_sub [0, 1, 2, 3] rfl (ih4 (i + 1) (t + 0) (by omega) (by rw [ht]; unfold lsI; rw [sZ_s _ (by omega)]; (repeat' split) <;> omega) (by omega))
          · refine V_iconst (pc := 50) C dX9_losersBy_50 ?_
            refine V_goto (pc := 51) 55 C dX9_losersBy_51 (by decide) ?_
            refine V_iadd (pc := 55) C dX9_losersBy_55 ?_
            refine V_istore_n (lv' := [(2, .int (iI (t + 1))), (3, .int (iI i)), (0, .ref o), (1, .int (iI p))]) (pc := 56) C dX9_losersBy_56 rfl (by decide) rfl ?_
            refine V_iinc (lv' := [(3, .int (iI (i + 1))), (2, .int (iI (t + 1))), (0, .ref o), (1, .int (iI p))]) (pc := 57) C dX9_losersBy_57 1 rfl (by decide) rfl ?_
            refine V_goto (pc := 60) 4 C dX9_losersBy_60 (by decide) ?_
            exact V_sub [0, 1, 2, 3] rfl (ih4 (i + 1) (t + 1) (by omega) (by rw [ht]; unfold lsI; rw [sZ_s _ (by omega)]; (repeat' split) <;> omega) (by omega))
        · refine V_iload_n (pc := 22) C dX9_losersBy_22 rfl 3 rfl ?_
          refine V_aload_n (pc := 23) C dX9_losersBy_23 rfl 2 rfl ?_
          refine gf_X9_13 (x := q 6) (pc := 24) C dX9_losersBy_24 0 rfl rfl ?_
          refine V_iload_n (pc := 27) C dX9_losersBy_27 rfl 0 rfl ?_
          refine V_iald (f := M6) (pc := 28) C dX9_losersBy_28 1 rfl (by omega) (by omega) (Nat.le_of_ble_eq_true rfl) ?_
          have b28 := hM6 i
          refine V_icmp_le (pc := 29) 36 C dX9_losersBy_29 (by decide) (sm_i (by omega)) (sm_i (by omega)) (fun c29 => ?_) (fun c29 => ?_)
          · refine V_iconst (pc := 36) C dX9_losersBy_36 ?_
            refine V_goto (pc := 37) 55 C dX9_losersBy_37 (by decide) ?_
            refine V_iadd (pc := 55) C dX9_losersBy_55 ?_
            refine V_istore_n (lv' := [(2, .int (iI (t + 0))), (3, .int (iI i)), (0, .ref o), (1, .int (iI p))]) (pc := 56) C dX9_losersBy_56 rfl (by decide) rfl ?_
            refine V_iinc (lv' := [(3, .int (iI (i + 1))), (2, .int (iI (t + 0))), (0, .ref o), (1, .int (iI p))]) (pc := 57) C dX9_losersBy_57 1 rfl (by decide) rfl ?_
            refine V_goto (pc := 60) 4 C dX9_losersBy_60 (by decide) ?_
            exact V_sub [0, 1, 2, 3] rfl (ih4 (i + 1) (t + 0) (by omega) (by rw [ht]; unfold lsI; rw [sZ_s _ (by omega)]; (repeat' split) <;> omega) (by omega))
          · refine V_iconst (pc := 32) C dX9_losersBy_32 ?_
            refine V_goto (pc := 33) 55 C dX9_losersBy_33 (by decide) ?_
            refine V_iadd (pc := 55) C dX9_losersBy_55 ?_
            refine V_istore_n (lv' := [(2, .int (iI (t + 1))), (3, .int (iI i)), (0, .ref o), (1, .int (iI p))]) (pc := 56) C dX9_losersBy_56 rfl (by decide) rfl ?_
            refine V_iinc (lv' := [(3, .int (iI (i + 1))), (2, .int (iI (t + 1))), (0, .ref o), (1, .int (iI p))]) (pc := 57) C dX9_losersBy_57 1 rfl (by decide) rfl ?_
            refine V_goto (pc := 60) 4 C dX9_losersBy_60 (by decide) ?_
            exact V_sub [0, 1, 2, 3] rfl (ih4 (i + 1) (t + 1) (by omega) (by rw [ht]; unfold lsI; rw [sZ_s _ (by omega)]; (repeat' split) <;> omega) (by omega))
  exact V_sub [0, 1, 2, 3] rfl (L4 ((f 4 - 0).toNat + 1) 0 0 (by omega) (rfl) (Nat.lt_succ_self _))
set_option maxRecDepth 100000 in
set_option maxHeartbeats 4000000 in
theorem c_X9_person (l : Launch) (D : va_G) (d : Nat → ClassId) (o : Nat) (q : Nat → Nat) (f : Nat → Int) (M6 : Int → Int) (M7 : Int → Int) (M8 : Int → Int) (M11 : Int → Int) (M12 : Int → Int) (M22 : Int → Int) (M23 : Int → Int) (M24 : Int → Int) (M25 : Int → Int) (p : Int) (w : Int) (hP : 0 ≤ f 4 ∧ f 4 ≤ 6) (hn : 0 ≤ f 21 ∧ f 21 ≤ 12) (hM6 : bd M6 0 99) (hM7 : bd M7 0 99) (hM8 : bd M8 0 99) (hM11 : bd M11 0 9) (hM12 : bd M12 0 1) (hM22 : bd M22 0 5) (hM23 : bd M23 0 3) (hM24 : bd M24 0 99) (hM25 : bd M25 0 9801) (hp : -2147483648 ≤ p ∧ p ≤ 2147483647) (hw : -2147483648 ≤ w ∧ w ≤ 2147483647) : CU l yX9_person cX9_person 3 (some .int) 2 46 D d [.ref o, .int (iI p), .int (iI w)] [(o, .inr (9, fX9 q f)), (q 6, aI (d 0) 6 M6), (q 7, aI (d 0) 6 M7), (q 8, aI (d 0) 4 M8), (q 11, aI (d 0) 6 M11), (q 12, aI (d 1) 6 M12), (q 22, aI (d 0) 12 M22), (q 23, aI (d 0) 12 M23), (q 24, aI (d 0) 12 M24), (q 25, aI (d 0) 12 M25)] (fun (_ : Unit) => True) (fun (_ : Unit) => some (.int (iI (pPerson (f 4) (f 21) M6 M7 M11 M12 M22 M23 M24 M25 M8 p w)))) (fun (_ : Unit) => [(o, .inr (9, fX9 q (up f 0 0))), (q 6, aI (d 0) 6 M6), (q 7, aI (d 0) 6 M7), (q 8, aI (d 0) 4 M8), (q 11, aI (d 0) 6 M11), (q 12, aI (d 1) 6 M12), (q 22, aI (d 0) 12 M22), (q 23, aI (d 0) 12 M23), (q 24, aI (d 0) 12 M24), (q 25, aI (d 0) 12 M25)]) := by
  refine CU.mk (own := RX9) (lv := [(0, .ref o), (1, .int (iI p)), (2, .int (iI w))]) rfl (by decide) (Nat.le_of_ble_eq_true rfl) rfl ?_
  intro p9 e9 R9 s9 m9 args9 below9 meth9 c9 A9 Q9 hRf hRl C Z
  refine V_aload_n (pc := 0) C dX9_person_0 rfl 0 rfl ?_
  refine V_iconst (pc := 1) C dX9_person_1 ?_
  refine pf_X9_117 (ws' := [(o, .inr (9, fX9 q (up f 0 0))), (q 6, aI (d 0) 6 M6), (q 7, aI (d 0) 6 M7), (q 8, aI (d 0) 4 M8), (q 11, aI (d 0) 6 M11), (q 12, aI (d 1) 6 M12), (q 22, aI (d 0) 12 M22), (q 23, aI (d 0) 12 M23), (q 24, aI (d 0) 12 M24), (q 25, aI (d 0) 12 M25)]) (pc := 2) C dX9_person_2 0 rfl rfl ?_
  refine V_aload_n (pc := 5) C dX9_person_5 rfl 0 rfl ?_
  refine V_iload_n (pc := 6) C dX9_person_6 rfl 1 rfl ?_
  refine cv_X9_180 (pc := 7) (rest := []) (wn := fun _ => [(o, .inr (9, fX9 q (up f 0 0))), (q 6, aI (d 0) 6 M6), (q 7, aI (d 0) 6 M7), (q 8, aI (d 0) 4 M8), (q 11, aI (d 0) 6 M11), (q 12, aI (d 1) 6 M12), (q 22, aI (d 0) 12 M22), (q 23, aI (d 0) 12 M23), (q 24, aI (d 0) 12 M24), (q 25, aI (d 0) 12 M25)]) (sn := fun _ => [.int (iI (bI (¬ (0 ≤ p ∧ p < (f 4)))))]) C dX9_person_7 (c_X9_noOne l D d o q (up f 0 0) p hp hP) [0] rfl rfl 0 rfl rfl rfl (Nat.le_of_ble_eq_true rfl) ⟨by omega, by omega⟩ ⟨Nat.zero_le _, Nat.zero_le _⟩ (fun _ => rfl) (fun _ => rfl) (fun _ => rfl) ?_
  intro _ _
  refine V_ifb_eq (pc := 10) 15 C dX9_person_10 (by decide) (fun c10 => ?_) (fun c10 => ?_)
  · refine V_iload_n (pc := 15) C dX9_person_15 rfl 2 rfl ?_
    by_cases k16_0 : w = 0
    · refine V_tswIn (pc := 16) (k := 0) 56 C dX9_person_16 k16_0 (sm_i (by omega)) (by decide) (by decide) rfl (by decide) ?_
      refine V_aload_n (pc := 56) C dX9_person_56 rfl 0 rfl ?_
      refine gf_X9_13 (x := q 6) (pc := 57) C dX9_person_57 0 rfl rfl ?_
      refine V_iload_n (pc := 60) C dX9_person_60 rfl 1 rfl ?_
      refine V_iald (f := M6) (pc := 61) C dX9_person_61 1 rfl (by omega) (by omega) (Nat.le_of_ble_eq_true rfl) ?_
      have b61 := hM6 p
      exact V_iret (pc := 62) C Z dX9_person_62 () trivial (ri (by unfold pPerson; (try dsimp only); (repeat' split) <;> first | rfl | omega)) rfl
    by_cases k16_1 : w = 1
    · refine V_tswIn (pc := 16) (k := 1) 63 C dX9_person_16 k16_1 (sm_i (by omega)) (by decide) (by decide) rfl (by decide) ?_
      refine V_aload_n (pc := 63) C dX9_person_63 rfl 0 rfl ?_
      refine gf_X9_16 (x := q 7) (pc := 64) C dX9_person_64 0 rfl rfl ?_
      refine V_iload_n (pc := 67) C dX9_person_67 rfl 1 rfl ?_
      refine V_iald (f := M7) (pc := 68) C dX9_person_68 2 rfl (by omega) (by omega) (Nat.le_of_ble_eq_true rfl) ?_
      have b68 := hM7 p
      exact V_iret (pc := 69) C Z dX9_person_69 () trivial (ri (by unfold pPerson; (try dsimp only); (repeat' split) <;> first | rfl | omega)) rfl
    by_cases k16_2 : w = 2
    · refine V_tswIn (pc := 16) (k := 2) 70 C dX9_person_16 k16_2 (sm_i (by omega)) (by decide) (by decide) rfl (by decide) ?_
      refine V_aload_n (pc := 70) C dX9_person_70 rfl 0 rfl ?_
      refine V_iload_n (pc := 71) C dX9_person_71 rfl 1 rfl ?_
      refine V_bipush (pc := 72) C dX9_person_72 rfl ?_
      refine V_iconst (pc := 74) C dX9_person_74 ?_
      refine cv_X9_183 (pc := 75) (rest := []) (wn := fun _ => [(o, .inr (9, fX9 q (up f 0 0))), (q 6, aI (d 0) 6 M6), (q 7, aI (d 0) 6 M7), (q 8, aI (d 0) 4 M8), (q 11, aI (d 0) 6 M11), (q 12, aI (d 1) 6 M12), (q 22, aI (d 0) 12 M22), (q 23, aI (d 0) 12 M23), (q 24, aI (d 0) 12 M24), (q 25, aI (d 0) 12 M25)]) (sn := fun _ => [.int (iI (sZ (fun j => if (p = -9 ∨ M22 j = p) ∧ ((-9) = -9 ∨ M23 j = (-9)) then (if 0 = 0 then M24 j * M8 (M23 j) else if 0 = 1 then M25 j else M24 j) else 0) ((f 21))))]) C dX9_person_75 (c_X9_sumOf l D d o q (up f 0 0) M8 M22 M23 M24 M25 p (-9) 0 hn hM8 hM22 hM23 hM24 hM25 hp (show -2147483648 ≤ (-9) ∧ (-9) ≤ 2147483647 by omega) (show -2147483648 ≤ 0 ∧ 0 ≤ 2147483647 by omega)) [0, 3, 6, 7, 8, 9] rfl rfl 0 rfl rfl rfl (Nat.le_of_ble_eq_true rfl) ⟨by omega, by omega⟩ ⟨Nat.zero_le _, Nat.zero_le _⟩ (fun _ => rfl) (fun _ => rfl) (fun _ => rfl) ?_
      intro _ _
      exact V_iret (pc := 78) C Z dX9_person_78 () trivial (ri (by unfold pPerson; rw [if_neg (by omega), if_neg (by omega), if_neg (by omega), if_pos (by omega)]; refine sZ_c (fun j _ _ => ?_); (try dsimp only); (repeat' split) <;> omega)) rfl
    by_cases k16_3 : w = 3
    · refine V_tswIn (pc := 16) (k := 3) 79 C dX9_person_16 k16_3 (sm_i (by omega)) (by decide) (by decide) rfl (by decide) ?_
      refine V_aload_n (pc := 79) C dX9_person_79 rfl 0 rfl ?_
      refine V_iload_n (pc := 80) C dX9_person_80 rfl 1 rfl ?_
      refine V_bipush (pc := 81) C dX9_person_81 rfl ?_
      refine V_iconst (pc := 83) C dX9_person_83 ?_
      refine cv_X9_183 (pc := 84) (rest := []) (wn := fun _ => [(o, .inr (9, fX9 q (up f 0 0))), (q 6, aI (d 0) 6 M6), (q 7, aI (d 0) 6 M7), (q 8, aI (d 0) 4 M8), (q 11, aI (d 0) 6 M11), (q 12, aI (d 1) 6 M12), (q 22, aI (d 0) 12 M22), (q 23, aI (d 0) 12 M23), (q 24, aI (d 0) 12 M24), (q 25, aI (d 0) 12 M25)]) (sn := fun _ => [.int (iI (sZ (fun j => if (p = -9 ∨ M22 j = p) ∧ ((-9) = -9 ∨ M23 j = (-9)) then (if 1 = 0 then M24 j * M8 (M23 j) else if 1 = 1 then M25 j else M24 j) else 0) ((f 21))))]) C dX9_person_84 (c_X9_sumOf l D d o q (up f 0 0) M8 M22 M23 M24 M25 p (-9) 1 hn hM8 hM22 hM23 hM24 hM25 hp (show -2147483648 ≤ (-9) ∧ (-9) ≤ 2147483647 by omega) (show -2147483648 ≤ 1 ∧ 1 ≤ 2147483647 by omega)) [0, 3, 6, 7, 8, 9] rfl rfl 0 rfl rfl rfl (Nat.le_of_ble_eq_true rfl) ⟨by omega, by omega⟩ ⟨Nat.zero_le _, Nat.zero_le _⟩ (fun _ => rfl) (fun _ => rfl) (fun _ => rfl) ?_
      intro _ _
      exact V_iret (pc := 87) C Z dX9_person_87 () trivial (ri (by unfold pPerson; rw [if_neg (by omega), if_neg (by omega), if_neg (by omega), if_neg (by omega), if_pos (by omega)]; refine sZ_c (fun j _ _ => ?_); (try dsimp only); (repeat' split) <;> omega)) rfl
    by_cases k16_4 : w = 4
    · refine V_tswIn (pc := 16) (k := 4) 88 C dX9_person_16 k16_4 (sm_i (by omega)) (by decide) (by decide) rfl (by decide) ?_
      refine V_aload_n (pc := 88) C dX9_person_88 rfl 0 rfl ?_
      refine gf_X9_29 (x := q 11) (pc := 89) C dX9_person_89 0 rfl rfl ?_
      refine V_iload_n (pc := 92) C dX9_person_92 rfl 1 rfl ?_
      refine V_iald (f := M11) (pc := 93) C dX9_person_93 4 rfl (by omega) (by omega) (Nat.le_of_ble_eq_true rfl) ?_
      have b93 := hM11 p
      exact V_iret (pc := 94) C Z dX9_person_94 () trivial (ri (by unfold pPerson; (try dsimp only); (repeat' split) <;> first | rfl | omega)) rfl
    by_cases k16_5 : w = 5
    · refine V_tswIn (pc := 16) (k := 5) 95 C dX9_person_16 k16_5 (sm_i (by omega)) (by decide) (by decide) rfl (by decide) ?_
      refine V_aload_n (pc := 95) C dX9_person_95 rfl 0 rfl ?_
      refine gf_X9_32 (x := q 12) (pc := 96) C dX9_person_96 0 rfl rfl ?_
      refine V_iload_n (pc := 99) C dX9_person_99 rfl 1 rfl ?_
      refine V_zald (f := M12) (pc := 100) C dX9_person_100 5 rfl (by omega) (by omega) (Nat.le_of_ble_eq_true rfl) ?_
      have b100 := hM12 p
      refine V_if_eq (pc := 101) 108 C dX9_person_101 (by decide) (sm_i (by omega)) (fun c101 => ?_) (fun c101 => ?_)
      · refine V_iconst (pc := 108) C dX9_person_108 ?_
        exact V_iret (pc := 109) C Z dX9_person_109 () trivial (ri (by unfold pPerson; (try dsimp only); (repeat' split) <;> first | rfl | omega)) rfl
      · refine V_iconst (pc := 104) C dX9_person_104 ?_
        refine V_goto (pc := 105) 109 C dX9_person_105 (by decide) ?_
        exact V_iret (pc := 109) C Z dX9_person_109 () trivial (ri (by unfold pPerson; (try dsimp only); (repeat' split) <;> first | rfl | omega)) rfl
    refine V_tswOut (pc := 16) 110 C dX9_person_16 (sm_i (by omega)) (by omega) (by decide) ?_
    refine V_bipush (pc := 110) C dX9_person_110 rfl ?_
    exact V_iret (pc := 112) C Z dX9_person_112 () trivial (ri (by unfold pPerson; (try dsimp only); (repeat' split) <;> first | rfl | omega)) rfl
  · refine V_iconst (pc := 13) C dX9_person_13 ?_
    exact V_iret (pc := 14) C Z dX9_person_14 () trivial (ri (by unfold pPerson; (try dsimp only); (repeat' split) <;> first | rfl | omega)) rfl
set_option maxRecDepth 100000 in
set_option maxHeartbeats 4000000 in
theorem c_X9_counter (l : Launch) (D : va_G) (d : Nat → ClassId) (o : Nat) (q : Nat → Nat) (f : Nat → Int) (M8 : Int → Int) (M9 : Int → Int) (M22 : Int → Int) (M23 : Int → Int) (M24 : Int → Int) (M25 : Int → Int) (p : Int) (w : Int) (hC : 0 ≤ f 5 ∧ f 5 ≤ 4) (hn : 0 ≤ f 21 ∧ f 21 ≤ 12) (hM8 : bd M8 0 99) (hM9 : bd M9 0 9999) (hM22 : bd M22 0 5) (hM23 : bd M23 0 3) (hM24 : bd M24 0 99) (hM25 : bd M25 0 9801) (hp : -2147483648 ≤ p ∧ p ≤ 2147483647) (hw : -2147483648 ≤ w ∧ w ≤ 2147483647) : CU l yX9_counter cX9_counter 3 (some .int) 2 46 D d [.ref o, .int (iI p), .int (iI w)] [(o, .inr (9, fX9 q f)), (q 8, aI (d 0) 4 M8), (q 9, aI (d 0) 4 M9), (q 22, aI (d 0) 12 M22), (q 23, aI (d 0) 12 M23), (q 24, aI (d 0) 12 M24), (q 25, aI (d 0) 12 M25)] (fun (_ : Unit) => True) (fun (_ : Unit) => some (.int (iI (pCounter (f 5) (f 21) (f 13) M8 M9 M23 M24 M25 p w)))) (fun (_ : Unit) => [(o, .inr (9, fX9 q (up f 0 0))), (q 8, aI (d 0) 4 M8), (q 9, aI (d 0) 4 M9), (q 22, aI (d 0) 12 M22), (q 23, aI (d 0) 12 M23), (q 24, aI (d 0) 12 M24), (q 25, aI (d 0) 12 M25)]) := by
  refine CU.mk (own := RX9) (lv := [(0, .ref o), (1, .int (iI p)), (2, .int (iI w))]) rfl (by decide) (Nat.le_of_ble_eq_true rfl) rfl ?_
  intro p9 e9 R9 s9 m9 args9 below9 meth9 c9 A9 Q9 hRf hRl C Z
  refine V_aload_n (pc := 0) C dX9_counter_0 rfl 0 rfl ?_
  refine V_iconst (pc := 1) C dX9_counter_1 ?_
  refine pf_X9_117 (ws' := [(o, .inr (9, fX9 q (up f 0 0))), (q 8, aI (d 0) 4 M8), (q 9, aI (d 0) 4 M9), (q 22, aI (d 0) 12 M22), (q 23, aI (d 0) 12 M23), (q 24, aI (d 0) 12 M24), (q 25, aI (d 0) 12 M25)]) (pc := 2) C dX9_counter_2 0 rfl rfl ?_
  refine V_aload_n (pc := 5) C dX9_counter_5 rfl 0 rfl ?_
  refine V_iload_n (pc := 6) C dX9_counter_6 rfl 1 rfl ?_
  refine cv_X9_187 (pc := 7) (rest := []) (wn := fun _ => [(o, .inr (9, fX9 q (up f 0 0))), (q 8, aI (d 0) 4 M8), (q 9, aI (d 0) 4 M9), (q 22, aI (d 0) 12 M22), (q 23, aI (d 0) 12 M23), (q 24, aI (d 0) 12 M24), (q 25, aI (d 0) 12 M25)]) (sn := fun _ => [.int (iI (bI (¬ (0 ≤ p ∧ p < (f 5)))))]) C dX9_counter_7 (c_X9_noCounter l D d o q (up f 0 0) p hp hC) [0] rfl rfl 0 rfl rfl rfl (Nat.le_of_ble_eq_true rfl) ⟨by omega, by omega⟩ ⟨Nat.zero_le _, Nat.zero_le _⟩ (fun _ => rfl) (fun _ => rfl) (fun _ => rfl) ?_
  intro _ _
  refine V_ifb_eq (pc := 10) 15 C dX9_counter_10 (by decide) (fun c10 => ?_) (fun c10 => ?_)
  · refine V_iload_n (pc := 15) C dX9_counter_15 rfl 2 rfl ?_
    by_cases k16_0 : w = 0
    · refine V_tswIn (pc := 16) (k := 0) 52 C dX9_counter_16 k16_0 (sm_i (by omega)) (by decide) (by decide) rfl (by decide) ?_
      refine V_aload_n (pc := 52) C dX9_counter_52 rfl 0 rfl ?_
      refine gf_X9_19 (x := q 8) (pc := 53) C dX9_counter_53 0 rfl rfl ?_
      refine V_iload_n (pc := 56) C dX9_counter_56 rfl 1 rfl ?_
      refine V_iald (f := M8) (pc := 57) C dX9_counter_57 1 rfl (by omega) (by omega) (Nat.le_of_ble_eq_true rfl) ?_
      have b57 := hM8 p
      exact V_iret (pc := 58) C Z dX9_counter_58 () trivial (ri (by unfold pCounter; (try dsimp only); (repeat' split) <;> first | rfl | omega)) rfl
    by_cases k16_1 : w = 1
    · refine V_tswIn (pc := 16) (k := 1) 59 C dX9_counter_16 k16_1 (sm_i (by omega)) (by decide) (by decide) rfl (by decide) ?_
      refine V_aload_n (pc := 59) C dX9_counter_59 rfl 0 rfl ?_
      refine gf_X9_22 (x := q 9) (pc := 60) C dX9_counter_60 0 rfl rfl ?_
      refine V_iload_n (pc := 63) C dX9_counter_63 rfl 1 rfl ?_
      refine V_iald (f := M9) (pc := 64) C dX9_counter_64 2 rfl (by omega) (by omega) (Nat.le_of_ble_eq_true rfl) ?_
      have b64 := hM9 p
      exact V_iret (pc := 65) C Z dX9_counter_65 () trivial (ri (by unfold pCounter; (try dsimp only); (repeat' split) <;> first | rfl | omega)) rfl
    by_cases k16_2 : w = 2
    · refine V_tswIn (pc := 16) (k := 2) 66 C dX9_counter_16 k16_2 (sm_i (by omega)) (by decide) (by decide) rfl (by decide) ?_
      refine V_aload_n (pc := 66) C dX9_counter_66 rfl 0 rfl ?_
      refine V_bipush (pc := 67) C dX9_counter_67 rfl ?_
      refine V_iload_n (pc := 69) C dX9_counter_69 rfl 1 rfl ?_
      refine V_iconst (pc := 70) C dX9_counter_70 ?_
      refine cv_X9_183 (pc := 71) (rest := []) (wn := fun _ => [(o, .inr (9, fX9 q (up f 0 0))), (q 8, aI (d 0) 4 M8), (q 9, aI (d 0) 4 M9), (q 22, aI (d 0) 12 M22), (q 23, aI (d 0) 12 M23), (q 24, aI (d 0) 12 M24), (q 25, aI (d 0) 12 M25)]) (sn := fun _ => [.int (iI (sZ (fun j => if ((-9) = -9 ∨ M22 j = (-9)) ∧ (p = -9 ∨ M23 j = p) then (if 0 = 0 then M24 j * M8 (M23 j) else if 0 = 1 then M25 j else M24 j) else 0) ((f 21))))]) C dX9_counter_71 (c_X9_sumOf l D d o q (up f 0 0) M8 M22 M23 M24 M25 (-9) p 0 hn hM8 hM22 hM23 hM24 hM25 (show -2147483648 ≤ (-9) ∧ (-9) ≤ 2147483647 by omega) hp (show -2147483648 ≤ 0 ∧ 0 ≤ 2147483647 by omega)) [0, 1, 3, 4, 5, 6] rfl rfl 0 rfl rfl rfl (Nat.le_of_ble_eq_true rfl) ⟨by omega, by omega⟩ ⟨Nat.zero_le _, Nat.zero_le _⟩ (fun _ => rfl) (fun _ => rfl) (fun _ => rfl) ?_
      intro _ _
      exact V_iret (pc := 74) C Z dX9_counter_74 () trivial (ri (by unfold pCounter; rw [if_neg (by omega), if_neg (by omega), if_neg (by omega), if_pos (by omega), ← sZ_mul]; refine sZ_c (fun j _ _ => ?_); (try dsimp only); (repeat' split) <;> first | omega | (rename_i h1 h2; rw [h1]) | (simp_all) )) rfl
    by_cases k16_3 : w = 3
    · refine V_tswIn (pc := 16) (k := 3) 75 C dX9_counter_16 k16_3 (sm_i (by omega)) (by decide) (by decide) rfl (by decide) ?_
      refine V_aload_n (pc := 75) C dX9_counter_75 rfl 0 rfl ?_
      refine V_bipush (pc := 76) C dX9_counter_76 rfl ?_
      refine V_iload_n (pc := 78) C dX9_counter_78 rfl 1 rfl ?_
      refine V_iconst (pc := 79) C dX9_counter_79 ?_
      refine cv_X9_183 (pc := 80) (rest := []) (wn := fun _ => [(o, .inr (9, fX9 q (up f 0 0))), (q 8, aI (d 0) 4 M8), (q 9, aI (d 0) 4 M9), (q 22, aI (d 0) 12 M22), (q 23, aI (d 0) 12 M23), (q 24, aI (d 0) 12 M24), (q 25, aI (d 0) 12 M25)]) (sn := fun _ => [.int (iI (sZ (fun j => if ((-9) = -9 ∨ M22 j = (-9)) ∧ (p = -9 ∨ M23 j = p) then (if 2 = 0 then M24 j * M8 (M23 j) else if 2 = 1 then M25 j else M24 j) else 0) ((f 21))))]) C dX9_counter_80 (c_X9_sumOf l D d o q (up f 0 0) M8 M22 M23 M24 M25 (-9) p 2 hn hM8 hM22 hM23 hM24 hM25 (show -2147483648 ≤ (-9) ∧ (-9) ≤ 2147483647 by omega) hp (show -2147483648 ≤ 2 ∧ 2 ≤ 2147483647 by omega)) [0, 1, 3, 4, 5, 6] rfl rfl 0 rfl rfl rfl (Nat.le_of_ble_eq_true rfl) ⟨by omega, by omega⟩ ⟨Nat.zero_le _, Nat.zero_le _⟩ (fun _ => rfl) (fun _ => rfl) (fun _ => rfl) ?_
      intro _ _
      exact V_iret (pc := 83) C Z dX9_counter_83 () trivial (ri (by unfold pCounter; rw [if_neg (by omega), if_neg (by omega), if_neg (by omega), if_neg (by omega), if_pos (by omega)]; refine sZ_c (fun j _ _ => ?_); (try dsimp only); (repeat' split) <;> omega)) rfl
    by_cases k16_4 : w = 4
    · refine V_tswIn (pc := 16) (k := 4) 84 C dX9_counter_16 k16_4 (sm_i (by omega)) (by decide) (by decide) rfl (by decide) ?_
      refine V_ldc (n := 1000000) (pc := 84) C dX9_counter_84 w4_161 rfl ?_
      refine V_aload_n (pc := 86) C dX9_counter_86 rfl 0 rfl ?_
      refine V_bipush (pc := 87) C dX9_counter_87 rfl ?_
      refine V_iload_n (pc := 89) C dX9_counter_89 rfl 1 rfl ?_
      refine V_iconst (pc := 90) C dX9_counter_90 ?_
      refine cv_X9_183 (pc := 91) (rest := [.int (iI 1000000)]) (wn := fun _ => [(o, .inr (9, fX9 q (up f 0 0))), (q 8, aI (d 0) 4 M8), (q 9, aI (d 0) 4 M9), (q 22, aI (d 0) 12 M22), (q 23, aI (d 0) 12 M23), (q 24, aI (d 0) 12 M24), (q 25, aI (d 0) 12 M25)]) (sn := fun _ => [.int (iI (sZ (fun j => if ((-9) = -9 ∨ M22 j = (-9)) ∧ (p = -9 ∨ M23 j = p) then (if 1 = 0 then M24 j * M8 (M23 j) else if 1 = 1 then M25 j else M24 j) else 0) ((f 21)))), .int (iI 1000000)]) C dX9_counter_91 (c_X9_sumOf l D d o q (up f 0 0) M8 M22 M23 M24 M25 (-9) p 1 hn hM8 hM22 hM23 hM24 hM25 (show -2147483648 ≤ (-9) ∧ (-9) ≤ 2147483647 by omega) hp (show -2147483648 ≤ 1 ∧ 1 ≤ 2147483647 by omega)) [0, 1, 3, 4, 5, 6] rfl rfl 0 rfl rfl rfl (Nat.le_of_ble_eq_true rfl) ⟨by omega, by omega⟩ ⟨Nat.zero_le _, Nat.zero_le _⟩ (fun _ => rfl) (fun _ => rfl) (fun _ => rfl) ?_
      intro _ _
      refine V_iadd (pc := 94) C dX9_counter_94 ?_
      refine V_aload_n (pc := 95) C dX9_counter_95 rfl 0 rfl ?_
      refine V_bipush (pc := 96) C dX9_counter_96 rfl ?_
      refine V_iload_n (pc := 98) C dX9_counter_98 rfl 1 rfl ?_
      refine V_iconst (pc := 99) C dX9_counter_99 ?_
      refine cv_X9_183 (pc := 100) (rest := [.int (iI (1000000 + (sZ (fun j => if ((-9) = -9 ∨ M22 j = (-9)) ∧ (p = -9 ∨ M23 j = p) then (if 1 = 0 then M24 j * M8 (M23 j) else if 1 = 1 then M25 j else M24 j) else 0) ((f 21)))))]) (wn := fun _ => [(o, .inr (9, fX9 q (up f 0 0))), (q 8, aI (d 0) 4 M8), (q 9, aI (d 0) 4 M9), (q 22, aI (d 0) 12 M22), (q 23, aI (d 0) 12 M23), (q 24, aI (d 0) 12 M24), (q 25, aI (d 0) 12 M25)]) (sn := fun _ => [.int (iI (sZ (fun j => if ((-9) = -9 ∨ M22 j = (-9)) ∧ (p = -9 ∨ M23 j = p) then (if 2 = 0 then M24 j * M8 (M23 j) else if 2 = 1 then M25 j else M24 j) else 0) ((f 21)))), .int (iI (1000000 + (sZ (fun j => if ((-9) = -9 ∨ M22 j = (-9)) ∧ (p = -9 ∨ M23 j = p) then (if 1 = 0 then M24 j * M8 (M23 j) else if 1 = 1 then M25 j else M24 j) else 0) ((f 21)))))]) C dX9_counter_100 (c_X9_sumOf l D d o q (up f 0 0) M8 M22 M23 M24 M25 (-9) p 2 hn hM8 hM22 hM23 hM24 hM25 (show -2147483648 ≤ (-9) ∧ (-9) ≤ 2147483647 by omega) hp (show -2147483648 ≤ 2 ∧ 2 ≤ 2147483647 by omega)) [0, 1, 3, 4, 5, 6] rfl rfl 0 rfl rfl rfl (Nat.le_of_ble_eq_true rfl) ⟨by omega, by omega⟩ ⟨Nat.zero_le _, Nat.zero_le _⟩ (fun _ => rfl) (fun _ => rfl) (fun _ => rfl) ?_
      intro _ _
      refine V_aload_n (pc := 103) C dX9_counter_103 rfl 0 rfl ?_
      refine gf_X9_35 (x := f 13) (pc := 104) C dX9_counter_104 0 rfl rfl ?_
      refine V_imul (pc := 107) C dX9_counter_107 ?_
      refine V_isub (pc := 108) C dX9_counter_108 ?_
      exact V_iret (pc := 109) C Z dX9_counter_109 () trivial (ri (by unfold pCounter; rw [if_neg (by omega), if_neg (by omega), if_neg (by omega), if_neg (by omega), if_neg (by omega), if_pos (by omega)]; congr 1 <;> (congr 1; refine sZ_c (fun j _ _ => ?_); (try dsimp only); (repeat' split) <;> omega))) rfl
    refine V_tswOut (pc := 16) 110 C dX9_counter_16 (sm_i (by omega)) (by omega) (by decide) ?_
    refine V_bipush (pc := 110) C dX9_counter_110 rfl ?_
    exact V_iret (pc := 112) C Z dX9_counter_112 () trivial (ri (by unfold pCounter; (try dsimp only); (repeat' split) <;> first | rfl | omega)) rfl
  · refine V_iconst (pc := 13) C dX9_counter_13 ?_
    exact V_iret (pc := 14) C Z dX9_counter_14 () trivial (ri (by unfold pCounter; (try dsimp only); (repeat' split) <;> first | rfl | omega)) rfl
set_option maxRecDepth 100000 in
set_option maxHeartbeats 4000000 in
theorem c_X9_barred (l : Launch) (D : va_G) (d : Nat → ClassId) (o : Nat) (q : Nat → Nat) (f : Nat → Int) (M10 : Int → Int) (p : Int) (k : Int) (hP : 0 ≤ f 4 ∧ f 4 ≤ 6) (hC : 0 ≤ f 5 ∧ f 5 ≤ 4) (hM10 : bd M10 0 1) (hp : -2147483648 ≤ p ∧ p ≤ 2147483647) (hk : -2147483648 ≤ k ∧ k ≤ 2147483647) : CU l yX9_barred cX9_barred 3 (some .int) 2 46 D d [.ref o, .int (iI p), .int (iI k)] [(o, .inr (9, fX9 q f)), (q 10, aI (d 1) 24 M10)] (fun (_ : Unit) => True) (fun (_ : Unit) => some (.int (iI (pBarred (f 4) (f 5) (fun i c => M10 (4 * i + c)) p k)))) (fun (_ : Unit) => [(o, .inr (9, fX9 q (up f 0 0))), (q 10, aI (d 1) 24 M10)]) := by
  refine CU.mk (own := RX9) (lv := [(0, .ref o), (1, .int (iI p)), (2, .int (iI k))]) rfl (by decide) (Nat.le_of_ble_eq_true rfl) rfl ?_
  intro p9 e9 R9 s9 m9 args9 below9 meth9 c9 A9 Q9 hRf hRl C Z
  refine V_aload_n (pc := 0) C dX9_barred_0 rfl 0 rfl ?_
  refine V_iconst (pc := 1) C dX9_barred_1 ?_
  refine pf_X9_117 (ws' := [(o, .inr (9, fX9 q (up f 0 0))), (q 10, aI (d 1) 24 M10)]) (pc := 2) C dX9_barred_2 0 rfl rfl ?_
  refine V_aload_n (pc := 5) C dX9_barred_5 rfl 0 rfl ?_
  refine V_iload_n (pc := 6) C dX9_barred_6 rfl 1 rfl ?_
  refine cv_X9_180 (pc := 7) (rest := []) (wn := fun _ => [(o, .inr (9, fX9 q (up f 0 0))), (q 10, aI (d 1) 24 M10)]) (sn := fun _ => [.int (iI (bI (¬ (0 ≤ p ∧ p < (f 4)))))]) C dX9_barred_7 (c_X9_noOne l D d o q (up f 0 0) p hp hP) [0] rfl rfl 0 rfl rfl rfl (Nat.le_of_ble_eq_true rfl) ⟨by omega, by omega⟩ ⟨Nat.zero_le _, Nat.zero_le _⟩ (fun _ => rfl) (fun _ => rfl) (fun _ => rfl) ?_
  intro _ _
  refine V_ifb_ne (pc := 10) 21 C dX9_barred_10 (by decide) (fun c10 => ?_) (fun c10 => ?_)
  · refine V_iconst (pc := 21) C dX9_barred_21 ?_
    exact V_iret (pc := 22) C Z dX9_barred_22 () trivial (ri (by unfold pBarred; (try dsimp only); (repeat' split) <;> first | rfl | omega)) rfl
  · refine V_aload_n (pc := 13) C dX9_barred_13 rfl 0 rfl ?_
    refine V_iload_n (pc := 14) C dX9_barred_14 rfl 2 rfl ?_
    refine cv_X9_187 (pc := 15) (rest := []) (wn := fun _ => [(o, .inr (9, fX9 q (up f 0 0))), (q 10, aI (d 1) 24 M10)]) (sn := fun _ => [.int (iI (bI (¬ (0 ≤ k ∧ k < (f 5)))))]) C dX9_barred_15 (c_X9_noCounter l D d o q (up f 0 0) k hk hC) [0] rfl rfl 0 rfl rfl rfl (Nat.le_of_ble_eq_true rfl) ⟨by omega, by omega⟩ ⟨Nat.zero_le _, Nat.zero_le _⟩ (fun _ => rfl) (fun _ => rfl) (fun _ => rfl) ?_
    intro _ _
    refine V_ifb_eq (pc := 18) 23 C dX9_barred_18 (by decide) (fun c18 => ?_) (fun c18 => ?_)
    · refine V_aload_n (pc := 23) C dX9_barred_23 rfl 0 rfl ?_
      refine gf_X9_25 (x := q 10) (pc := 24) C dX9_barred_24 0 rfl rfl ?_
      refine V_iconst (pc := 27) C dX9_barred_27 ?_
      refine V_iload_n (pc := 28) C dX9_barred_28 rfl 1 rfl ?_
      refine V_imul (pc := 29) C dX9_barred_29 ?_
      refine V_iload_n (pc := 30) C dX9_barred_30 rfl 2 rfl ?_
      refine V_iadd (pc := 31) C dX9_barred_31 ?_
      refine V_zald (f := M10) (pc := 32) C dX9_barred_32 1 rfl (by omega) (by omega) (Nat.le_of_ble_eq_true rfl) ?_
      have b32 := hM10 ((4 * p) + k)
      refine V_if_eq (pc := 33) 40 C dX9_barred_33 (by decide) (sm_i (by omega)) (fun c33 => ?_) (fun c33 => ?_)
      · refine V_iconst (pc := 40) C dX9_barred_40 ?_
        exact V_iret (pc := 41) C Z dX9_barred_41 () trivial (ri (by unfold pBarred; (try dsimp only); (repeat' split) <;> first | rfl | omega)) rfl
      · refine V_iconst (pc := 36) C dX9_barred_36 ?_
        refine V_goto (pc := 37) 41 C dX9_barred_37 (by decide) ?_
        exact V_iret (pc := 41) C Z dX9_barred_41 () trivial (ri (by unfold pBarred; (try dsimp only); (repeat' split) <;> first | rfl | omega)) rfl
    · refine V_iconst (pc := 21) C dX9_barred_21 ?_
      exact V_iret (pc := 22) C Z dX9_barred_22 () trivial (ri (by unfold pBarred; (try dsimp only); (repeat' split) <;> first | rfl | omega)) rfl
set_option maxRecDepth 100000 in
set_option maxHeartbeats 4000000 in
theorem c_X9_plaster (l : Launch) (D : va_G) (d : Nat → ClassId) (o : Nat) (q : Nat → Nat) (f : Nat → Int) (M6 : Int → Int) (p : Int) (x : Int) (hP : 0 ≤ f 4 ∧ f 4 ≤ 6) (hM6 : bd M6 0 99) (hp : -2147483648 ≤ p ∧ p ≤ 2147483647) (hx : -2147483648 ≤ x ∧ x ≤ 2147483647) : CU l yX9_plaster cX9_plaster 4 (some .int) 2 46 D d [.ref o, .int (iI p), .int (iI x)] [(o, .inr (9, fX9 q f)), (q 6, aI (d 0) 6 M6)] (fun (u : Int × (Int → Int)) => u = pPlaster (f 4) M6 p x) (fun (u : Int × (Int → Int)) => some (.int (iI (u.1)))) (fun (u : Int × (Int → Int)) => [(o, .inr (9, fX9 q (up f 0 0))), (q 6, aI (d 0) 6 u.2)]) := by
  refine CU.mk (own := RX9) (lv := [(0, .ref o), (1, .int (iI p)), (2, .int (iI x))]) rfl (by decide) (Nat.le_of_ble_eq_true rfl) rfl ?_
  intro p9 e9 R9 s9 m9 args9 below9 meth9 c9 A9 Q9 hRf hRl C Z
  refine V_aload_n (pc := 0) C dX9_plaster_0 rfl 0 rfl ?_
  refine V_iconst (pc := 1) C dX9_plaster_1 ?_
  refine pf_X9_117 (ws' := [(o, .inr (9, fX9 q (up f 0 0))), (q 6, aI (d 0) 6 M6)]) (pc := 2) C dX9_plaster_2 0 rfl rfl ?_
  refine V_aload_n (pc := 5) C dX9_plaster_5 rfl 0 rfl ?_
  refine V_iload_n (pc := 6) C dX9_plaster_6 rfl 1 rfl ?_
  refine cv_X9_180 (pc := 7) (rest := []) (wn := fun _ => [(o, .inr (9, fX9 q (up f 0 0))), (q 6, aI (d 0) 6 M6)]) (sn := fun _ => [.int (iI (bI (¬ (0 ≤ p ∧ p < (f 4)))))]) C dX9_plaster_7 (c_X9_noOne l D d o q (up f 0 0) p hp hP) [0] rfl rfl 0 rfl rfl rfl (Nat.le_of_ble_eq_true rfl) ⟨by omega, by omega⟩ ⟨Nat.zero_le _, Nat.zero_le _⟩ (fun _ => rfl) (fun _ => rfl) (fun _ => rfl) ?_
  intro _ _
  refine V_ifb_eq (pc := 10) 15 C dX9_plaster_10 (by decide) (fun c10 => ?_) (fun c10 => ?_)
  · refine V_iload_n (pc := 15) C dX9_plaster_15 rfl 2 rfl ?_
    refine V_i2l (pc := 16) C dX9_plaster_16 (sm_i (by omega)) ?_
    refine V_lconst (k := 1) (pc := 17) C dX9_plaster_17 rfl ?_
    refine V_ldc2 (n := 99) (pc := 18) C dX9_plaster_18 w4_170 rfl ?_
    refine cs_X9_123 (pc := 21) (rest := []) (wn := fun _ => [(o, .inr (9, fX9 q (up f 0 0))), (q 6, aI (d 0) 6 M6)]) (sn := fun _ => [.int (iI (bI (1 ≤ x ∧ x ≤ 99)))]) C dX9_plaster_21 (c_X9_in l D d x 1 99 (show -9223372036854775808 ≤ x ∧ x ≤ 9223372036854775807 by omega) (show -9223372036854775808 ≤ 1 ∧ 1 ≤ 9223372036854775807 by omega) (show -9223372036854775808 ≤ 99 ∧ 99 ≤ 9223372036854775807 by omega)) [] rfl rfl rfl rfl (Nat.le_of_ble_eq_true rfl) ⟨by omega, by omega⟩ ⟨Nat.zero_le _, Nat.zero_le _⟩ (fun _ => rfl) (fun _ => rfl) (fun _ => rfl) ?_
    intro _ _
    refine V_ifb_ne (pc := 24) 30 C dX9_plaster_24 (by decide) (fun c24 => ?_) (fun c24 => ?_)
    · refine V_aload_n (pc := 30) C dX9_plaster_30 rfl 0 rfl ?_
      refine gf_X9_13 (x := q 6) (pc := 31) C dX9_plaster_31 0 rfl rfl ?_
      refine V_iload_n (pc := 34) C dX9_plaster_34 rfl 1 rfl ?_
      refine V_iald (f := M6) (pc := 35) C dX9_plaster_35 1 rfl (by omega) (by omega) (Nat.le_of_ble_eq_true rfl) ?_
      have b35 := hM6 p
      refine V_istore_n (lv' := [(3, .int (iI (M6 p))), (0, .ref o), (1, .int (iI p)), (2, .int (iI x))]) (pc := 36) C dX9_plaster_36 rfl (by decide) rfl ?_
      refine V_aload_n (pc := 37) C dX9_plaster_37 rfl 1 rfl ?_
      refine gf_X9_13 (x := q 6) (pc := 38) C dX9_plaster_38 0 rfl rfl ?_
      refine V_iload_n (pc := 41) C dX9_plaster_41 rfl 2 rfl ?_
      refine V_iload_n (pc := 42) C dX9_plaster_42 rfl 3 rfl ?_
      refine V_iast (f := M6) (ws' := [(o, .inr (9, fX9 q (up f 0 0))), (q 6, aI (d 0) 6 (uI M6 p x))]) (pc := 43) C dX9_plaster_43 1 rfl (by omega) (by omega) (Nat.le_of_ble_eq_true rfl) rfl ?_
      refine V_iload_n (pc := 44) C dX9_plaster_44 rfl 0 rfl ?_
      exact V_iret (pc := 45) C Z dX9_plaster_45 (M6 p, uI M6 p x) (by unfold pPlaster; (try dsimp only); (repeat' split) <;> first | rfl | omega) (ri (by rfl)) rfl
    · refine V_bipush (pc := 27) C dX9_plaster_27 rfl ?_
      exact V_iret (pc := 29) C Z dX9_plaster_29 (-2, M6) (by unfold pPlaster; (try dsimp only); (repeat' split) <;> first | rfl | omega) (ri (by rfl)) rfl
  · refine V_iconst (pc := 13) C dX9_plaster_13 ?_
    exact V_iret (pc := 14) C Z dX9_plaster_14 (-1, M6) (by unfold pPlaster; (try dsimp only); (repeat' split) <;> first | rfl | omega) (ri (by rfl)) rfl
set_option maxRecDepth 100000 in
set_option maxHeartbeats 4000000 in
theorem c_X9_common (l : Launch) (D : va_G) (d : Nat → ClassId) (o : Nat) (q : Nat → Nat) (f : Nat → Int) (x : Int) (hx : -2147483648 ≤ x ∧ x ≤ 2147483647) : CU l yX9_common cX9_common 3 (some .int) 1 25 D d [.ref o, .int (iI x)] [(o, .inr (9, fX9 q f))] (fun (u : Int × Int) => u = pCommon (f 13) x) (fun (u : Int × Int) => some (.int (iI (u.1)))) (fun (u : Int × Int) => [(o, .inr (9, fX9 q (up (up f 0 0) 13 u.2)))]) := by
  refine CU.mk (own := RX9) (lv := [(0, .ref o), (1, .int (iI x))]) rfl (by decide) (Nat.le_of_ble_eq_true rfl) rfl ?_
  intro p9 e9 R9 s9 m9 args9 below9 meth9 c9 A9 Q9 hRf hRl C Z
  refine V_aload_n (pc := 0) C dX9_common_0 rfl 0 rfl ?_
  refine V_iconst (pc := 1) C dX9_common_1 ?_
  refine pf_X9_117 (ws' := [(o, .inr (9, fX9 q (up f 0 0)))]) (pc := 2) C dX9_common_2 0 rfl rfl ?_
  refine V_iload_n (pc := 5) C dX9_common_5 rfl 1 rfl ?_
  refine V_i2l (pc := 6) C dX9_common_6 (sm_i (by omega)) ?_
  refine V_lconst (k := 1) (pc := 7) C dX9_common_7 rfl ?_
  refine V_ldc2 (n := 99) (pc := 8) C dX9_common_8 w4_170 rfl ?_
  refine cs_X9_123 (pc := 11) (rest := []) (wn := fun _ => [(o, .inr (9, fX9 q (up f 0 0)))]) (sn := fun _ => [.int (iI (bI (1 ≤ x ∧ x ≤ 99)))]) C dX9_common_11 (c_X9_in l D d x 1 99 (show -9223372036854775808 ≤ x ∧ x ≤ 9223372036854775807 by omega) (show -9223372036854775808 ≤ 1 ∧ 1 ≤ 9223372036854775807 by omega) (show -9223372036854775808 ≤ 99 ∧ 99 ≤ 9223372036854775807 by omega)) [] rfl rfl rfl rfl (Nat.le_of_ble_eq_true rfl) ⟨by omega, by omega⟩ ⟨Nat.zero_le _, Nat.zero_le _⟩ (fun _ => rfl) (fun _ => rfl) (fun _ => rfl) ?_
  intro _ _
  refine V_ifb_ne (pc := 14) 20 C dX9_common_14 (by decide) (fun c14 => ?_) (fun c14 => ?_)
  · refine V_aload_n (pc := 20) C dX9_common_20 rfl 0 rfl ?_
    refine gf_X9_35 (x := f 13) (pc := 21) C dX9_common_21 0 rfl rfl ?_
    refine V_istore_n (lv' := [(2, .int (iI (f 13))), (0, .ref o), (1, .int (iI x))]) (pc := 24) C dX9_common_24 rfl (by decide) rfl ?_
    refine V_aload_n (pc := 25) C dX9_common_25 rfl 1 rfl ?_
    refine V_iload_n (pc := 26) C dX9_common_26 rfl 2 rfl ?_
    refine pf_X9_35 (ws' := [(o, .inr (9, fX9 q (up (up f 0 0) 13 x)))]) (pc := 27) C dX9_common_27 0 rfl rfl ?_
    refine V_iload_n (pc := 30) C dX9_common_30 rfl 0 rfl ?_
    exact V_iret (pc := 31) C Z dX9_common_31 (f 13, x) (by unfold pCommon; (try dsimp only); (repeat' split) <;> first | rfl | omega) (ri (by rfl)) (by first | rfl | rw [up_same rfl])
  · refine V_bipush (pc := 17) C dX9_common_17 rfl ?_
    exact V_iret (pc := 19) C Z dX9_common_19 (-2, f 13) (by unfold pCommon; (try dsimp only); (repeat' split) <;> first | rfl | omega) (ri (by rfl)) (by first | rfl | rw [up_same rfl])
set_option maxRecDepth 100000 in
set_option maxHeartbeats 4000000 in
theorem c_X9_buy (l : Launch) (D : va_G) (d : Nat → ClassId) (o : Nat) (q : Nat → Nat) (f : Nat → Int) (M6 : Int → Int) (M9 : Int → Int) (M10 : Int → Int) (M22 : Int → Int) (M23 : Int → Int) (M24 : Int → Int) (M25 : Int → Int) (p : Int) (k : Int) (n : Int) (hP : 0 ≤ f 4 ∧ f 4 ≤ 6) (hC : 0 ≤ f 5 ∧ f 5 ≤ 4) (hn : 0 ≤ f 21 ∧ f 21 ≤ 12) (hM6 : bd M6 0 99) (hM9 : bd M9 0 9999) (hM10 : bd M10 0 1) (hp : -2147483648 ≤ p ∧ p ≤ 2147483647) (hk : -2147483648 ≤ k ∧ k ≤ 2147483647) (hnn : -2147483648 ≤ n ∧ n ≤ 2147483647) : CU l yX9_buy cX9_buy 4 (some .int) 2 46 D d [.ref o, .int (iI p), .int (iI k), .int (iI n)] [(o, .inr (9, fX9 q f)), (q 6, aI (d 0) 6 M6), (q 9, aI (d 0) 4 M9), (q 10, aI (d 1) 24 M10), (q 22, aI (d 0) 12 M22), (q 23, aI (d 0) 12 M23), (q 24, aI (d 0) 12 M24), (q 25, aI (d 0) 12 M25)] (fun (u : Int × Int × (Int → Int) × (Int → Int) × (Int → Int) × (Int → Int) × (Int → Int)) => u = pBuy (f 4) (f 5) (f 21) (fun i c => M10 (4 * i + c)) M6 M9 M22 M23 M24 M25 p k n) (fun (u : Int × Int × (Int → Int) × (Int → Int) × (Int → Int) × (Int → Int) × (Int → Int)) => some (.int (iI (u.1)))) (fun (u : Int × Int × (Int → Int) × (Int → Int) × (Int → Int) × (Int → Int) × (Int → Int)) => [(o, .inr (9, fX9 q (up (up f 0 0) 21 u.2.1))), (q 6, aI (d 0) 6 M6), (q 9, aI (d 0) 4 u.2.2.1), (q 10, aI (d 1) 24 M10), (q 22, aI (d 0) 12 u.2.2.2.1), (q 23, aI (d 0) 12 u.2.2.2.2.1), (q 24, aI (d 0) 12 u.2.2.2.2.2.1), (q 25, aI (d 0) 12 u.2.2.2.2.2.2)]) := by
  refine CU.mk (own := RX9) (lv := [(0, .ref o), (1, .int (iI p)), (2, .int (iI k)), (3, .int (iI n))]) rfl (by decide) (Nat.le_of_ble_eq_true rfl) rfl ?_
  intro p9 e9 R9 s9 m9 args9 below9 meth9 c9 A9 Q9 hRf hRl C Z
  refine V_aload_n (pc := 0) C dX9_buy_0 rfl 0 rfl ?_
  refine V_iconst (pc := 1) C dX9_buy_1 ?_
  refine pf_X9_117 (ws' := [(o, .inr (9, fX9 q (up f 0 0))), (q 6, aI (d 0) 6 M6), (q 9, aI (d 0) 4 M9), (q 10, aI (d 1) 24 M10), (q 22, aI (d 0) 12 M22), (q 23, aI (d 0) 12 M23), (q 24, aI (d 0) 12 M24), (q 25, aI (d 0) 12 M25)]) (pc := 2) C dX9_buy_2 0 rfl rfl ?_
  refine V_aload_n (pc := 5) C dX9_buy_5 rfl 0 rfl ?_
  refine V_iload_n (pc := 6) C dX9_buy_6 rfl 1 rfl ?_
  refine cv_X9_180 (pc := 7) (rest := []) (wn := fun _ => [(o, .inr (9, fX9 q (up f 0 0))), (q 6, aI (d 0) 6 M6), (q 9, aI (d 0) 4 M9), (q 10, aI (d 1) 24 M10), (q 22, aI (d 0) 12 M22), (q 23, aI (d 0) 12 M23), (q 24, aI (d 0) 12 M24), (q 25, aI (d 0) 12 M25)]) (sn := fun _ => [.int (iI (bI (¬ (0 ≤ p ∧ p < (f 4)))))]) C dX9_buy_7 (c_X9_noOne l D d o q (up f 0 0) p hp hP) [0] rfl rfl 0 rfl rfl rfl (Nat.le_of_ble_eq_true rfl) ⟨by omega, by omega⟩ ⟨Nat.zero_le _, Nat.zero_le _⟩ (fun _ => rfl) (fun _ => rfl) (fun _ => rfl) ?_
  intro _ _
  refine V_ifb_ne (pc := 10) 21 C dX9_buy_10 (by decide) (fun c10 => ?_) (fun c10 => ?_)
  · refine V_iconst (pc := 21) C dX9_buy_21 ?_
    exact V_iret (pc := 22) C Z dX9_buy_22 (-1, f 21, M9, M22, M23, M24, M25) (by unfold pBuy; (try dsimp only); (repeat' split) <;> first | rfl | omega) (ri (by rfl)) (by first | rfl | rw [up_same rfl])
  · refine V_aload_n (pc := 13) C dX9_buy_13 rfl 0 rfl ?_
    refine V_iload_n (pc := 14) C dX9_buy_14 rfl 2 rfl ?_
    refine cv_X9_187 (pc := 15) (rest := []) (wn := fun _ => [(o, .inr (9, fX9 q (up f 0 0))), (q 6, aI (d 0) 6 M6), (q 9, aI (d 0) 4 M9), (q 10, aI (d 1) 24 M10), (q 22, aI (d 0) 12 M22), (q 23, aI (d 0) 12 M23), (q 24, aI (d 0) 12 M24), (q 25, aI (d 0) 12 M25)]) (sn := fun _ => [.int (iI (bI (¬ (0 ≤ k ∧ k < (f 5)))))]) C dX9_buy_15 (c_X9_noCounter l D d o q (up f 0 0) k hk hC) [0] rfl rfl 0 rfl rfl rfl (Nat.le_of_ble_eq_true rfl) ⟨by omega, by omega⟩ ⟨Nat.zero_le _, Nat.zero_le _⟩ (fun _ => rfl) (fun _ => rfl) (fun _ => rfl) ?_
    intro _ _
    refine V_ifb_eq (pc := 18) 23 C dX9_buy_18 (by decide) (fun c18 => ?_) (fun c18 => ?_)
    · refine V_iload_n (pc := 23) C dX9_buy_23 rfl 3 rfl ?_
      refine V_i2l (pc := 24) C dX9_buy_24 (sm_i (by omega)) ?_
      refine V_lconst (k := 1) (pc := 25) C dX9_buy_25 rfl ?_
      refine V_ldc2 (n := 99) (pc := 26) C dX9_buy_26 w4_170 rfl ?_
      refine cs_X9_123 (pc := 29) (rest := []) (wn := fun _ => [(o, .inr (9, fX9 q (up f 0 0))), (q 6, aI (d 0) 6 M6), (q 9, aI (d 0) 4 M9), (q 10, aI (d 1) 24 M10), (q 22, aI (d 0) 12 M22), (q 23, aI (d 0) 12 M23), (q 24, aI (d 0) 12 M24), (q 25, aI (d 0) 12 M25)]) (sn := fun _ => [.int (iI (bI (1 ≤ n ∧ n ≤ 99)))]) C dX9_buy_29 (c_X9_in l D d n 1 99 (show -9223372036854775808 ≤ n ∧ n ≤ 9223372036854775807 by omega) (show -9223372036854775808 ≤ 1 ∧ 1 ≤ 9223372036854775807 by omega) (show -9223372036854775808 ≤ 99 ∧ 99 ≤ 9223372036854775807 by omega)) [] rfl rfl rfl rfl (Nat.le_of_ble_eq_true rfl) ⟨by omega, by omega⟩ ⟨Nat.zero_le _, Nat.zero_le _⟩ (fun _ => rfl) (fun _ => rfl) (fun _ => rfl) ?_
      intro _ _
      refine V_ifb_ne (pc := 32) 38 C dX9_buy_32 (by decide) (fun c32 => ?_) (fun c32 => ?_)
      · refine V_aload_n (pc := 38) C dX9_buy_38 rfl 0 rfl ?_
        refine gf_X9_25 (x := q 10) (pc := 39) C dX9_buy_39 0 rfl rfl ?_
        refine V_iconst (pc := 42) C dX9_buy_42 ?_
        refine V_iload_n (pc := 43) C dX9_buy_43 rfl 1 rfl ?_
        refine V_imul (pc := 44) C dX9_buy_44 ?_
        refine V_iload_n (pc := 45) C dX9_buy_45 rfl 2 rfl ?_
        refine V_iadd (pc := 46) C dX9_buy_46 ?_
        refine V_zald (f := M10) (pc := 47) C dX9_buy_47 3 rfl (by omega) (by omega) (Nat.le_of_ble_eq_true rfl) ?_
        have b47 := hM10 ((4 * p) + k)
        refine V_if_ne (pc := 48) 68 C dX9_buy_48 (by decide) (sm_i (by omega)) (fun c48 => ?_) (fun c48 => ?_)
        · refine V_bipush (pc := 68) C dX9_buy_68 rfl ?_
          exact V_iret (pc := 70) C Z dX9_buy_70 (-3, f 21, M9, M22, M23, M24, M25) (by unfold pBuy; (try dsimp only); (repeat' split) <;> first | rfl | omega) (ri (by rfl)) (by first | rfl | rw [up_same rfl])
        · refine V_iload_n (pc := 51) C dX9_buy_51 rfl 3 rfl ?_
          refine V_aload_n (pc := 52) C dX9_buy_52 rfl 0 rfl ?_
          refine gf_X9_13 (x := q 6) (pc := 53) C dX9_buy_53 0 rfl rfl ?_
          refine V_iload_n (pc := 56) C dX9_buy_56 rfl 1 rfl ?_
          refine V_iald (f := M6) (pc := 57) C dX9_buy_57 1 rfl (by omega) (by omega) (Nat.le_of_ble_eq_true rfl) ?_
          have b57 := hM6 p
          refine V_imul (pc := 58) C dX9_buy_58 ?_
          have m48 := mulb (show 0 ≤ n ∧ n ≤ 99 by omega) b57
          refine V_aload_n (pc := 59) C dX9_buy_59 rfl 0 rfl ?_
          refine gf_X9_22 (x := q 9) (pc := 60) C dX9_buy_60 0 rfl rfl ?_
          refine V_iload_n (pc := 63) C dX9_buy_63 rfl 2 rfl ?_
          refine V_iald (f := M9) (pc := 64) C dX9_buy_64 2 rfl (by omega) (by omega) (Nat.le_of_ble_eq_true rfl) ?_
          have b64 := hM9 k
          refine V_icmp_le (pc := 65) 71 C dX9_buy_65 (by decide) (sm_i (by omega)) (sm_i (by omega)) (fun c65 => ?_) (fun c65 => ?_)
          · refine V_aload_n (pc := 71) C dX9_buy_71 rfl 0 rfl ?_
            refine gf_X9_177 (x := f 21) (pc := 72) C dX9_buy_72 0 rfl rfl ?_
            refine V_bipush (pc := 75) C dX9_buy_75 rfl ?_
            refine V_icmp_ne (pc := 77) 83 C dX9_buy_77 (by decide) (sm_i (by omega)) (sm_i (by decide)) (fun c77 => ?_) (fun c77 => ?_)
            · refine V_aload_n (pc := 83) C dX9_buy_83 rfl 0 rfl ?_
              refine gf_X9_54 (x := q 22) (pc := 84) C dX9_buy_84 0 rfl rfl ?_
              refine V_aload_n (pc := 87) C dX9_buy_87 rfl 0 rfl ?_
              refine gf_X9_177 (x := f 21) (pc := 88) C dX9_buy_88 0 rfl rfl ?_
              refine V_iload_n (pc := 91) C dX9_buy_91 rfl 1 rfl ?_
              refine V_iast (f := M22) (ws' := [(o, .inr (9, fX9 q (up f 0 0))), (q 6, aI (d 0) 6 M6), (q 9, aI (d 0) 4 M9), (q 10, aI (d 1) 24 M10), (q 22, aI (d 0) 12 (uI M22 (f 21) p)), (q 23, aI (d 0) 12 M23), (q 24, aI (d 0) 12 M24), (q 25, aI (d 0) 12 M25)]) (pc := 92) C dX9_buy_92 4 rfl (by omega) (by omega) (Nat.le_of_ble_eq_true rfl) rfl ?_
              refine V_aload_n (pc := 93) C dX9_buy_93 rfl 0 rfl ?_
              refine gf_X9_57 (x := q 23) (pc := 94) C dX9_buy_94 0 rfl rfl ?_
              refine V_aload_n (pc := 97) C dX9_buy_97 rfl 0 rfl ?_
              refine gf_X9_177 (x := f 21) (pc := 98) C dX9_buy_98 0 rfl rfl ?_
              refine V_iload_n (pc := 101) C dX9_buy_101 rfl 2 rfl ?_
              refine V_iast (f := M23) (ws' := [(o, .inr (9, fX9 q (up f 0 0))), (q 6, aI (d 0) 6 M6), (q 9, aI (d 0) 4 M9), (q 10, aI (d 1) 24 M10), (q 22, aI (d 0) 12 (uI M22 (f 21) p)), (q 23, aI (d 0) 12 (uI M23 (f 21) k)), (q 24, aI (d 0) 12 M24), (q 25, aI (d 0) 12 M25)]) (pc := 102) C dX9_buy_102 5 rfl (by omega) (by omega) (Nat.le_of_ble_eq_true rfl) rfl ?_
              refine V_aload_n (pc := 103) C dX9_buy_103 rfl 0 rfl ?_
              refine gf_X9_60 (x := q 24) (pc := 104) C dX9_buy_104 0 rfl rfl ?_
              refine V_aload_n (pc := 107) C dX9_buy_107 rfl 0 rfl ?_
              refine gf_X9_177 (x := f 21) (pc := 108) C dX9_buy_108 0 rfl rfl ?_
              refine V_iload_n (pc := 111) C dX9_buy_111 rfl 3 rfl ?_
              refine V_iast (f := M24) (ws' := [(o, .inr (9, fX9 q (up f 0 0))), (q 6, aI (d 0) 6 M6), (q 9, aI (d 0) 4 M9), (q 10, aI (d 1) 24 M10), (q 22, aI (d 0) 12 (uI M22 (f 21) p)), (q 23, aI (d 0) 12 (uI M23 (f 21) k)), (q 24, aI (d 0) 12 (uI M24 (f 21) n)), (q 25, aI (d 0) 12 M25)]) (pc := 112) C dX9_buy_112 6 rfl (by omega) (by omega) (Nat.le_of_ble_eq_true rfl) rfl ?_
              refine V_aload_n (pc := 113) C dX9_buy_113 rfl 0 rfl ?_
              refine gf_X9_63 (x := q 25) (pc := 114) C dX9_buy_114 0 rfl rfl ?_
              refine V_aload_n (pc := 117) C dX9_buy_117 rfl 0 rfl ?_
              refine gf_X9_177 (x := f 21) (pc := 118) C dX9_buy_118 0 rfl rfl ?_
              refine V_iload_n (pc := 121) C dX9_buy_121 rfl 3 rfl ?_
              refine V_aload_n (pc := 122) C dX9_buy_122 rfl 0 rfl ?_
              refine gf_X9_13 (x := q 6) (pc := 123) C dX9_buy_123 0 rfl rfl ?_
              refine V_iload_n (pc := 126) C dX9_buy_126 rfl 1 rfl ?_
              refine V_iald (f := M6) (pc := 127) C dX9_buy_127 1 rfl (by omega) (by omega) (Nat.le_of_ble_eq_true rfl) ?_
              have b127 := hM6 p
              refine V_imul (pc := 128) C dX9_buy_128 ?_
              refine V_iast (f := M25) (ws' := [(o, .inr (9, fX9 q (up f 0 0))), (q 6, aI (d 0) 6 M6), (q 9, aI (d 0) 4 M9), (q 10, aI (d 1) 24 M10), (q 22, aI (d 0) 12 (uI M22 (f 21) p)), (q 23, aI (d 0) 12 (uI M23 (f 21) k)), (q 24, aI (d 0) 12 (uI M24 (f 21) n)), (q 25, aI (d 0) 12 (uI M25 (f 21) (n * (M6 p))))]) (pc := 129) C dX9_buy_129 7 rfl (by omega) (by omega) (Nat.le_of_ble_eq_true rfl) rfl ?_
              refine V_aload_n (pc := 130) C dX9_buy_130 rfl 0 rfl ?_
              refine gf_X9_22 (x := q 9) (pc := 131) C dX9_buy_131 0 rfl rfl ?_
              refine V_iload_n (pc := 134) C dX9_buy_134 rfl 2 rfl ?_
              refine V_dup2 (pc := 135) C dX9_buy_135 rfl rfl ?_
              refine V_iald (f := M9) (pc := 136) C dX9_buy_136 2 rfl (by omega) (by omega) (Nat.le_of_ble_eq_true rfl) ?_
              have b136 := hM9 k
              refine V_iload_n (pc := 137) C dX9_buy_137 rfl 3 rfl ?_
              refine V_aload_n (pc := 138) C dX9_buy_138 rfl 0 rfl ?_
              refine gf_X9_13 (x := q 6) (pc := 139) C dX9_buy_139 0 rfl rfl ?_
              refine V_iload_n (pc := 142) C dX9_buy_142 rfl 1 rfl ?_
              refine V_iald (f := M6) (pc := 143) C dX9_buy_143 1 rfl (by omega) (by omega) (Nat.le_of_ble_eq_true rfl) ?_
              have b143 := hM6 p
              refine V_imul (pc := 144) C dX9_buy_144 ?_
              refine V_isub (pc := 145) C dX9_buy_145 ?_
              refine V_iast (f := M9) (ws' := [(o, .inr (9, fX9 q (up f 0 0))), (q 6, aI (d 0) 6 M6), (q 9, aI (d 0) 4 (uI M9 k ((M9 k) - (n * (M6 p))))), (q 10, aI (d 1) 24 M10), (q 22, aI (d 0) 12 (uI M22 (f 21) p)), (q 23, aI (d 0) 12 (uI M23 (f 21) k)), (q 24, aI (d 0) 12 (uI M24 (f 21) n)), (q 25, aI (d 0) 12 (uI M25 (f 21) (n * (M6 p))))]) (pc := 146) C dX9_buy_146 2 rfl (by omega) (by omega) (Nat.le_of_ble_eq_true rfl) rfl ?_
              refine V_aload_n (pc := 147) C dX9_buy_147 rfl 0 rfl ?_
              refine V_dup (pc := 148) C dX9_buy_148 rfl ?_
              refine gf_X9_177 (x := f 21) (pc := 149) C dX9_buy_149 0 rfl rfl ?_
              refine V_iconst (pc := 152) C dX9_buy_152 ?_
              refine V_iadd (pc := 153) C dX9_buy_153 ?_
              refine pf_X9_177 (ws' := [(o, .inr (9, fX9 q (up (up f 0 0) 21 ((f 21) + 1)))), (q 6, aI (d 0) 6 M6), (q 9, aI (d 0) 4 (uI M9 k ((M9 k) - (n * (M6 p))))), (q 10, aI (d 1) 24 M10), (q 22, aI (d 0) 12 (uI M22 (f 21) p)), (q 23, aI (d 0) 12 (uI M23 (f 21) k)), (q 24, aI (d 0) 12 (uI M24 (f 21) n)), (q 25, aI (d 0) 12 (uI M25 (f 21) (n * (M6 p))))]) (pc := 154) C dX9_buy_154 0 rfl rfl ?_
              refine V_iload_n (pc := 157) C dX9_buy_157 rfl 3 rfl ?_
              refine V_aload_n (pc := 158) C dX9_buy_158 rfl 0 rfl ?_
              refine gf_X9_13 (x := q 6) (pc := 159) C dX9_buy_159 0 rfl rfl ?_
              refine V_iload_n (pc := 162) C dX9_buy_162 rfl 1 rfl ?_
              refine V_iald (f := M6) (pc := 163) C dX9_buy_163 1 rfl (by omega) (by omega) (Nat.le_of_ble_eq_true rfl) ?_
              have b163 := hM6 p
              refine V_imul (pc := 164) C dX9_buy_164 ?_
              exact V_iret (pc := 165) C Z dX9_buy_165 (n * (M6 p), (f 21) + 1, uI M9 k ((M9 k) - (n * (M6 p))), uI M22 (f 21) p, uI M23 (f 21) k, uI M24 (f 21) n, uI M25 (f 21) (n * (M6 p))) (by unfold pBuy; (try dsimp only); (repeat' split) <;> first | rfl | omega) (ri (by rfl)) (by first | rfl | rw [up_same rfl])
            · refine V_bipush (pc := 80) C dX9_buy_80 rfl ?_
              exact V_iret (pc := 82) C Z dX9_buy_82 (-4, f 21, M9, M22, M23, M24, M25) (by unfold pBuy; (try dsimp only); (repeat' split) <;> first | rfl | omega) (ri (by rfl)) (by first | rfl | rw [up_same rfl])
          · refine V_bipush (pc := 68) C dX9_buy_68 rfl ?_
            exact V_iret (pc := 70) C Z dX9_buy_70 (-3, f 21, M9, M22, M23, M24, M25) (by unfold pBuy; (try dsimp only); (repeat' split) <;> first | rfl | omega) (ri (by rfl)) (by first | rfl | rw [up_same rfl])
      · refine V_bipush (pc := 35) C dX9_buy_35 rfl ?_
        exact V_iret (pc := 37) C Z dX9_buy_37 (-2, f 21, M9, M22, M23, M24, M25) (by unfold pBuy; (try dsimp only); (repeat' split) <;> first | rfl | omega) (ri (by rfl)) (by first | rfl | rw [up_same rfl])
    · refine V_iconst (pc := 21) C dX9_buy_21 ?_
      exact V_iret (pc := 22) C Z dX9_buy_22 (-1, f 21, M9, M22, M23, M24, M25) (by unfold pBuy; (try dsimp only); (repeat' split) <;> first | rfl | omega) (ri (by rfl)) (by first | rfl | rw [up_same rfl])
set_option maxRecDepth 100000 in
set_option maxHeartbeats 4000000 in
theorem c_X9_undo (l : Launch) (D : va_G) (d : Nat → ClassId) (o : Nat) (q : Nat → Nat) (f : Nat → Int) (M9 : Int → Int) (M23 : Int → Int) (M25 : Int → Int) (hn : 0 ≤ f 21 ∧ f 21 ≤ 12) (hM23 : bd M23 0 3) : CU l yX9_undo cX9_undo 1 (some .int) 0 0 D d [.ref o] [(o, .inr (9, fX9 q f)), (q 9, aI (d 0) 4 M9), (q 23, aI (d 0) 12 M23), (q 25, aI (d 0) 12 M25)] (fun (u : Int × Int × (Int → Int)) => u = pUndo (f 21) M9 M23 M25) (fun (u : Int × Int × (Int → Int)) => some (.int (iI (u.1)))) (fun (u : Int × Int × (Int → Int)) => [(o, .inr (9, fX9 q (up (up f 0 0) 21 u.2.1))), (q 9, aI (d 0) 4 u.2.2), (q 23, aI (d 0) 12 M23), (q 25, aI (d 0) 12 M25)]) := by
  refine CU.mk (own := RX9) (lv := [(0, .ref o)]) rfl (by decide) (Nat.le_of_ble_eq_true rfl) rfl ?_
  intro p9 e9 R9 s9 m9 args9 below9 meth9 c9 A9 Q9 hRf hRl C Z
  refine V_aload_n (pc := 0) C dX9_undo_0 rfl 0 rfl ?_
  refine V_iconst (pc := 1) C dX9_undo_1 ?_
  refine pf_X9_117 (ws' := [(o, .inr (9, fX9 q (up f 0 0))), (q 9, aI (d 0) 4 M9), (q 23, aI (d 0) 12 M23), (q 25, aI (d 0) 12 M25)]) (pc := 2) C dX9_undo_2 0 rfl rfl ?_
  refine V_aload_n (pc := 5) C dX9_undo_5 rfl 0 rfl ?_
  refine gf_X9_177 (x := f 21) (pc := 6) C dX9_undo_6 0 rfl rfl ?_
  refine V_if_ne (pc := 9) 15 C dX9_undo_9 (by decide) (sm_i (by omega)) (fun c9 => ?_) (fun c9 => ?_)
  · refine V_aload_n (pc := 15) C dX9_undo_15 rfl 0 rfl ?_
    refine V_dup (pc := 16) C dX9_undo_16 rfl ?_
    refine gf_X9_177 (x := f 21) (pc := 17) C dX9_undo_17 0 rfl rfl ?_
    refine V_iconst (pc := 20) C dX9_undo_20 ?_
    refine V_isub (pc := 21) C dX9_undo_21 ?_
    refine pf_X9_177 (ws' := [(o, .inr (9, fX9 q (up (up f 0 0) 21 ((f 21) - 1)))), (q 9, aI (d 0) 4 M9), (q 23, aI (d 0) 12 M23), (q 25, aI (d 0) 12 M25)]) (pc := 22) C dX9_undo_22 0 rfl rfl ?_
    refine V_aload_n (pc := 25) C dX9_undo_25 rfl 0 rfl ?_
    refine gf_X9_22 (x := q 9) (pc := 26) C dX9_undo_26 0 rfl rfl ?_
    refine V_aload_n (pc := 29) C dX9_undo_29 rfl 0 rfl ?_
    refine gf_X9_57 (x := q 23) (pc := 30) C dX9_undo_30 0 rfl rfl ?_
    refine V_aload_n (pc := 33) C dX9_undo_33 rfl 0 rfl ?_
    refine gf_X9_177 (x := ((f 21) - 1)) (pc := 34) C dX9_undo_34 0 rfl rfl ?_
    refine V_iald (f := M23) (pc := 37) C dX9_undo_37 2 rfl (by omega) (by omega) (Nat.le_of_ble_eq_true rfl) ?_
    have b37 := hM23 ((f 21) - 1)
    refine V_dup2 (pc := 38) C dX9_undo_38 rfl rfl ?_
    refine V_iald (f := M9) (pc := 39) C dX9_undo_39 1 rfl (by omega) (by omega) (Nat.le_of_ble_eq_true rfl) ?_
    refine V_aload_n (pc := 40) C dX9_undo_40 rfl 0 rfl ?_
    refine gf_X9_63 (x := q 25) (pc := 41) C dX9_undo_41 0 rfl rfl ?_
    refine V_aload_n (pc := 44) C dX9_undo_44 rfl 0 rfl ?_
    refine gf_X9_177 (x := ((f 21) - 1)) (pc := 45) C dX9_undo_45 0 rfl rfl ?_
    refine V_iald (f := M25) (pc := 48) C dX9_undo_48 3 rfl (by omega) (by omega) (Nat.le_of_ble_eq_true rfl) ?_
    refine V_iadd (pc := 49) C dX9_undo_49 ?_
    refine V_iast (f := M9) (ws' := [(o, .inr (9, fX9 q (up (up f 0 0) 21 ((f 21) - 1)))), (q 9, aI (d 0) 4 (uI M9 (M23 ((f 21) - 1)) ((M9 (M23 ((f 21) - 1))) + (M25 ((f 21) - 1))))), (q 23, aI (d 0) 12 M23), (q 25, aI (d 0) 12 M25)]) (pc := 50) C dX9_undo_50 1 rfl (by omega) (by omega) (Nat.le_of_ble_eq_true rfl) rfl ?_
    refine V_aload_n (pc := 51) C dX9_undo_51 rfl 0 rfl ?_
    refine gf_X9_177 (x := ((f 21) - 1)) (pc := 52) C dX9_undo_52 0 rfl rfl ?_
    exact V_iret (pc := 55) C Z dX9_undo_55 ((f 21) - 1, (f 21) - 1, uI M9 (M23 ((f 21) - 1)) ((M9 (M23 ((f 21) - 1))) + (M25 ((f 21) - 1)))) (by unfold pUndo; (try dsimp only); (repeat' split) <;> first | rfl | omega) (ri (by rfl)) (by first | rfl | rw [up_same rfl])
  · refine V_bipush (pc := 12) C dX9_undo_12 rfl ?_
    exact V_iret (pc := 14) C Z dX9_undo_14 (-3, f 21, M9) (by unfold pUndo; (try dsimp only); (repeat' split) <;> first | rfl | omega) (ri (by rfl)) (by first | rfl | rw [up_same rfl])
set_option maxRecDepth 100000 in
set_option maxHeartbeats 4000000 in
theorem c_X9_sale (l : Launch) (D : va_G) (d : Nat → ClassId) (o : Nat) (q : Nat → Nat) (f : Nat → Int) (M22 : Int → Int) (M23 : Int → Int) (M24 : Int → Int) (M25 : Int → Int) (x : Int) (w : Int) (hn : 0 ≤ f 21 ∧ f 21 ≤ 12) (hx : -2147483648 ≤ x ∧ x ≤ 2147483647) (hw : -2147483648 ≤ w ∧ w ≤ 2147483647) : CU l yX9_sale cX9_sale 3 (some .int) 1 25 D d [.ref o, .int (iI x), .int (iI w)] [(o, .inr (9, fX9 q f)), (q 22, aI (d 0) 12 M22), (q 23, aI (d 0) 12 M23), (q 24, aI (d 0) 12 M24), (q 25, aI (d 0) 12 M25)] (fun (_ : Unit) => True) (fun (_ : Unit) => some (.int (iI (pSale (f 21) M22 M23 M24 M25 x w)))) (fun (_ : Unit) => [(o, .inr (9, fX9 q (up f 0 0))), (q 22, aI (d 0) 12 M22), (q 23, aI (d 0) 12 M23), (q 24, aI (d 0) 12 M24), (q 25, aI (d 0) 12 M25)]) := by
  refine CU.mk (own := RX9) (lv := [(0, .ref o), (1, .int (iI x)), (2, .int (iI w))]) rfl (by decide) (Nat.le_of_ble_eq_true rfl) rfl ?_
  intro p9 e9 R9 s9 m9 args9 below9 meth9 c9 A9 Q9 hRf hRl C Z
  refine V_aload_n (pc := 0) C dX9_sale_0 rfl 0 rfl ?_
  refine V_iconst (pc := 1) C dX9_sale_1 ?_
  refine pf_X9_117 (ws' := [(o, .inr (9, fX9 q (up f 0 0))), (q 22, aI (d 0) 12 M22), (q 23, aI (d 0) 12 M23), (q 24, aI (d 0) 12 M24), (q 25, aI (d 0) 12 M25)]) (pc := 2) C dX9_sale_2 0 rfl rfl ?_
  refine V_iload_n (pc := 5) C dX9_sale_5 rfl 2 rfl ?_
  refine V_i2l (pc := 6) C dX9_sale_6 (sm_i (by omega)) ?_
  refine V_lconst (k := 0) (pc := 7) C dX9_sale_7 rfl ?_
  refine V_ldc2 (n := 3) (pc := 8) C dX9_sale_8 w4_187 rfl ?_
  refine cs_X9_123 (pc := 11) (rest := []) (wn := fun _ => [(o, .inr (9, fX9 q (up f 0 0))), (q 22, aI (d 0) 12 M22), (q 23, aI (d 0) 12 M23), (q 24, aI (d 0) 12 M24), (q 25, aI (d 0) 12 M25)]) (sn := fun _ => [.int (iI (bI (0 ≤ w ∧ w ≤ 3)))]) C dX9_sale_11 (c_X9_in l D d w 0 3 (show -9223372036854775808 ≤ w ∧ w ≤ 9223372036854775807 by omega) (show -9223372036854775808 ≤ 0 ∧ 0 ≤ 9223372036854775807 by omega) (show -9223372036854775808 ≤ 3 ∧ 3 ≤ 9223372036854775807 by omega)) [] rfl rfl rfl rfl (Nat.le_of_ble_eq_true rfl) ⟨by omega, by omega⟩ ⟨Nat.zero_le _, Nat.zero_le _⟩ (fun _ => rfl) (fun _ => rfl) (fun _ => rfl) ?_
  intro _ _
  refine V_ifb_ne (pc := 14) 20 C dX9_sale_14 (by decide) (fun c14 => ?_) (fun c14 => ?_)
  · refine V_iload_n (pc := 20) C dX9_sale_20 rfl 1 rfl ?_
    refine V_i2l (pc := 21) C dX9_sale_21 (sm_i (by omega)) ?_
    refine V_lconst (k := 0) (pc := 22) C dX9_sale_22 rfl ?_
    refine V_aload_n (pc := 23) C dX9_sale_23 rfl 0 rfl ?_
    refine gf_X9_177 (x := f 21) (pc := 24) C dX9_sale_24 0 rfl rfl ?_
    refine V_iconst (pc := 27) C dX9_sale_27 ?_
    refine V_isub (pc := 28) C dX9_sale_28 ?_
    refine V_i2l (pc := 29) C dX9_sale_29 (sm_i (by omega)) ?_
    refine cs_X9_123 (pc := 30) (rest := []) (wn := fun _ => [(o, .inr (9, fX9 q (up f 0 0))), (q 22, aI (d 0) 12 M22), (q 23, aI (d 0) 12 M23), (q 24, aI (d 0) 12 M24), (q 25, aI (d 0) 12 M25)]) (sn := fun _ => [.int (iI (bI (0 ≤ x ∧ x ≤ ((f 21) - 1))))]) C dX9_sale_30 (c_X9_in l D d x 0 ((f 21) - 1) (show -9223372036854775808 ≤ x ∧ x ≤ 9223372036854775807 by omega) (show -9223372036854775808 ≤ 0 ∧ 0 ≤ 9223372036854775807 by omega) (show -9223372036854775808 ≤ ((f 21) - 1) ∧ ((f 21) - 1) ≤ 9223372036854775807 by omega)) [] rfl rfl rfl rfl (Nat.le_of_ble_eq_true rfl) ⟨by omega, by omega⟩ ⟨Nat.zero_le _, Nat.zero_le _⟩ (fun _ => rfl) (fun _ => rfl) (fun _ => rfl) ?_
    intro _ _
    refine V_ifb_ne (pc := 33) 39 C dX9_sale_33 (by decide) (fun c33 => ?_) (fun c33 => ?_)
    · refine V_iload_n (pc := 39) C dX9_sale_39 rfl 2 rfl ?_
      refine V_if_ne (pc := 40) 52 C dX9_sale_40 (by decide) (sm_i (by omega)) (fun c40 => ?_) (fun c40 => ?_)
      · refine V_iload_n (pc := 52) C dX9_sale_52 rfl 2 rfl ?_
        refine V_iconst (pc := 53) C dX9_sale_53 ?_
        refine V_icmp_ne (pc := 54) 66 C dX9_sale_54 (by decide) (sm_i (by omega)) (sm_i (by decide)) (fun c54 => ?_) (fun c54 => ?_)
        · refine V_iload_n (pc := 66) C dX9_sale_66 rfl 2 rfl ?_
          refine V_iconst (pc := 67) C dX9_sale_67 ?_
          refine V_icmp_ne (pc := 68) 80 C dX9_sale_68 (by decide) (sm_i (by omega)) (sm_i (by decide)) (fun c68 => ?_) (fun c68 => ?_)
          · refine V_aload_n (pc := 80) C dX9_sale_80 rfl 0 rfl ?_
            refine gf_X9_63 (x := q 25) (pc := 81) C dX9_sale_81 0 rfl rfl ?_
            refine V_iload_n (pc := 84) C dX9_sale_84 rfl 1 rfl ?_
            refine V_iald (f := M25) (pc := 85) C dX9_sale_85 4 rfl (by omega) (by omega) (Nat.le_of_ble_eq_true rfl) ?_
            exact V_iret (pc := 86) C Z dX9_sale_86 () trivial (ri (by unfold pSale; (try dsimp only); (repeat' split) <;> first | rfl | omega)) rfl
          · refine V_aload_n (pc := 71) C dX9_sale_71 rfl 0 rfl ?_
            refine gf_X9_60 (x := q 24) (pc := 72) C dX9_sale_72 0 rfl rfl ?_
            refine V_iload_n (pc := 75) C dX9_sale_75 rfl 1 rfl ?_
            refine V_iald (f := M24) (pc := 76) C dX9_sale_76 3 rfl (by omega) (by omega) (Nat.le_of_ble_eq_true rfl) ?_
            refine V_goto (pc := 77) 86 C dX9_sale_77 (by decide) ?_
            exact V_iret (pc := 86) C Z dX9_sale_86 () trivial (ri (by unfold pSale; (try dsimp only); (repeat' split) <;> first | rfl | omega)) rfl
        · refine V_aload_n (pc := 57) C dX9_sale_57 rfl 0 rfl ?_
          refine gf_X9_57 (x := q 23) (pc := 58) C dX9_sale_58 0 rfl rfl ?_
          refine V_iload_n (pc := 61) C dX9_sale_61 rfl 1 rfl ?_
          refine V_iald (f := M23) (pc := 62) C dX9_sale_62 2 rfl (by omega) (by omega) (Nat.le_of_ble_eq_true rfl) ?_
          refine V_goto (pc := 63) 86 C dX9_sale_63 (by decide) ?_
          exact V_iret (pc := 86) C Z dX9_sale_86 () trivial (ri (by unfold pSale; (try dsimp only); (repeat' split) <;> first | rfl | omega)) rfl
      · refine V_aload_n (pc := 43) C dX9_sale_43 rfl 0 rfl ?_
        refine gf_X9_54 (x := q 22) (pc := 44) C dX9_sale_44 0 rfl rfl ?_
        refine V_iload_n (pc := 47) C dX9_sale_47 rfl 1 rfl ?_
        refine V_iald (f := M22) (pc := 48) C dX9_sale_48 1 rfl (by omega) (by omega) (Nat.le_of_ble_eq_true rfl) ?_
        refine V_goto (pc := 49) 86 C dX9_sale_49 (by decide) ?_
        exact V_iret (pc := 86) C Z dX9_sale_86 () trivial (ri (by unfold pSale; (try dsimp only); (repeat' split) <;> first | rfl | omega)) rfl
    · refine V_bipush (pc := 36) C dX9_sale_36 rfl ?_
      exact V_iret (pc := 38) C Z dX9_sale_38 () trivial (ri (by unfold pSale; (try dsimp only); (repeat' split) <;> first | rfl | omega)) rfl
  · refine V_bipush (pc := 17) C dX9_sale_17 rfl ?_
    exact V_iret (pc := 19) C Z dX9_sale_19 () trivial (ri (by unfold pSale; (try dsimp only); (repeat' split) <;> first | rfl | omega)) rfl
set_option maxRecDepth 100000 in
set_option maxHeartbeats 4000000 in
theorem c_X9_truly (l : Launch) (D : va_G) (d : Nat → ClassId) (o : Nat) (q : Nat → Nat) (f : Nat → Int) (M6 : Int → Int) (M8 : Int → Int) (p : Int) (k : Int) (w : Int) (hP : 0 ≤ f 4 ∧ f 4 ≤ 6) (hC : 0 ≤ f 5 ∧ f 5 ≤ 4) (hM6 : bd M6 0 99) (hM8 : bd M8 0 99) (hA1 : ∀ j : Int, 0 ≤ j ∧ j < f 4 → 1 ≤ M6 j) (hT41 : ∀ j : Int, 0 ≤ j ∧ j < f 5 → 1 ≤ M8 j) (hp : -2147483648 ≤ p ∧ p ≤ 2147483647) (hk : -2147483648 ≤ k ∧ k ≤ 2147483647) (hw : w = 0 ∨ w = 1) : CU l yX9_truly cX9_truly 5 (some .int) 2 46 D d [.ref o, .int (iI p), .int (iI k), .int (iI w)] [(o, .inr (9, fX9 q f)), (q 6, aI (d 0) 6 M6), (q 8, aI (d 0) 4 M8)] (fun (_ : Unit) => True) (fun (_ : Unit) => some (.int (iI (pTruly (f 4) (f 5) M6 M8 p k w)))) (fun (_ : Unit) => [(o, .inr (9, fX9 q (up f 0 0))), (q 6, aI (d 0) 6 M6), (q 8, aI (d 0) 4 M8)]) := by
  refine CU.mk (own := RX9) (lv := [(0, .ref o), (1, .int (iI p)), (2, .int (iI k)), (3, .int (iI w))]) rfl (by decide) (Nat.le_of_ble_eq_true rfl) rfl ?_
  intro p9 e9 R9 s9 m9 args9 below9 meth9 c9 A9 Q9 hRf hRl C Z
  refine V_aload_n (pc := 0) C dX9_truly_0 rfl 0 rfl ?_
  refine V_iconst (pc := 1) C dX9_truly_1 ?_
  refine pf_X9_117 (ws' := [(o, .inr (9, fX9 q (up f 0 0))), (q 6, aI (d 0) 6 M6), (q 8, aI (d 0) 4 M8)]) (pc := 2) C dX9_truly_2 0 rfl rfl ?_
  refine V_aload_n (pc := 5) C dX9_truly_5 rfl 0 rfl ?_
  refine V_iload_n (pc := 6) C dX9_truly_6 rfl 1 rfl ?_
  refine cv_X9_180 (pc := 7) (rest := []) (wn := fun _ => [(o, .inr (9, fX9 q (up f 0 0))), (q 6, aI (d 0) 6 M6), (q 8, aI (d 0) 4 M8)]) (sn := fun _ => [.int (iI (bI (¬ (0 ≤ p ∧ p < (f 4)))))]) C dX9_truly_7 (c_X9_noOne l D d o q (up f 0 0) p hp hP) [0] rfl rfl 0 rfl rfl rfl (Nat.le_of_ble_eq_true rfl) ⟨by omega, by omega⟩ ⟨Nat.zero_le _, Nat.zero_le _⟩ (fun _ => rfl) (fun _ => rfl) (fun _ => rfl) ?_
  intro _ _
  refine V_ifb_ne (pc := 10) 21 C dX9_truly_10 (by decide) (fun c10 => ?_) (fun c10 => ?_)
  · refine V_iconst (pc := 21) C dX9_truly_21 ?_
    exact V_iret (pc := 22) C Z dX9_truly_22 () trivial (ri (by unfold pTruly; (try dsimp only); (repeat' split) <;> first | rfl | omega)) rfl
  · refine V_aload_n (pc := 13) C dX9_truly_13 rfl 0 rfl ?_
    refine V_iload_n (pc := 14) C dX9_truly_14 rfl 2 rfl ?_
    refine cv_X9_187 (pc := 15) (rest := []) (wn := fun _ => [(o, .inr (9, fX9 q (up f 0 0))), (q 6, aI (d 0) 6 M6), (q 8, aI (d 0) 4 M8)]) (sn := fun _ => [.int (iI (bI (¬ (0 ≤ k ∧ k < (f 5)))))]) C dX9_truly_15 (c_X9_noCounter l D d o q (up f 0 0) k hk hC) [0] rfl rfl 0 rfl rfl rfl (Nat.le_of_ble_eq_true rfl) ⟨by omega, by omega⟩ ⟨Nat.zero_le _, Nat.zero_le _⟩ (fun _ => rfl) (fun _ => rfl) (fun _ => rfl) ?_
    intro _ _
    refine V_ifb_eq (pc := 18) 23 C dX9_truly_18 (by decide) (fun c18 => ?_) (fun c18 => ?_)
    · have hap := hA1 p (by omega)
      have htk := hT41 k (by omega)
      have g1 := gI_pos (x := M8 k) (y := M6 p) (by omega)
      have g2 := gI_le (x := M8 k) (y := M6 p) (by omega)
      have z6 := hM6 p
      have z8 := hM8 k
      refine V_aload_n (pc := 23) C dX9_truly_23 rfl 0 rfl ?_
      refine gf_X9_19 (x := q 8) (pc := 24) C dX9_truly_24 0 rfl rfl ?_
      refine V_iload_n (pc := 27) C dX9_truly_27 rfl 2 rfl ?_
      refine V_iald (f := M8) (pc := 28) C dX9_truly_28 2 rfl (by omega) (by omega) (Nat.le_of_ble_eq_true rfl) ?_
      have b28 := hM8 k
      refine V_i2l (pc := 29) C dX9_truly_29 (sm_i (by omega)) ?_
      refine V_aload_n (pc := 30) C dX9_truly_30 rfl 0 rfl ?_
      refine gf_X9_13 (x := q 6) (pc := 31) C dX9_truly_31 0 rfl rfl ?_
      refine V_iload_n (pc := 34) C dX9_truly_34 rfl 1 rfl ?_
      refine V_iald (f := M6) (pc := 35) C dX9_truly_35 1 rfl (by omega) (by omega) (Nat.le_of_ble_eq_true rfl) ?_
      have b35 := hM6 p
      refine V_i2l (pc := 36) C dX9_truly_36 (sm_i (by omega)) ?_
      refine cs_X9_195 (pc := 37) (rest := []) (wn := fun _ => [(o, .inr (9, fX9 q (up f 0 0))), (q 6, aI (d 0) 6 M6), (q 8, aI (d 0) 4 M8)]) (sn := fun _ => [.long (lI (gI (M8 k) (M6 p)))]) C dX9_truly_37 (c_X9_divisor l D d (M8 k) (M6 p) (show 0 < (M8 k) ∧ (M8 k) ≤ 1000000000 by omega) (show 0 < (M6 p) ∧ (M6 p) ≤ 1000000000 by omega)) [] rfl rfl rfl rfl (Nat.le_of_ble_eq_true rfl) ⟨by omega, by omega⟩ ⟨Nat.zero_le _, Nat.zero_le _⟩ (fun _ => rfl) (fun _ => rfl) (fun _ => rfl) ?_
      intro _ _
      refine V_l2i (pc := 40) C dX9_truly_40 ?_
      refine V_istore (lv' := [(4, .int (iI (gI (M8 k) (M6 p)))), (0, .ref o), (1, .int (iI p)), (2, .int (iI k)), (3, .int (iI w))]) (pc := 41) C dX9_truly_41 (by decide) rfl ?_
      refine V_iload_n (pc := 43) C dX9_truly_43 rfl 4 rfl ?_
      refine V_if_eq (pc := 44) 59 C dX9_truly_44 (by decide) (sm_i (by omega)) (fun c44 => ?_) (fun c44 => ?_)
      · refine V_aload_n (pc := 59) C dX9_truly_59 rfl 1 rfl ?_
        refine gf_X9_13 (x := q 6) (pc := 60) C dX9_truly_60 0 rfl rfl ?_
        refine V_iload_n (pc := 63) C dX9_truly_63 rfl 2 rfl ?_
        refine V_iald (f := M6) (pc := 64) C dX9_truly_64 1 rfl (by omega) (by omega) (Nat.le_of_ble_eq_true rfl) ?_
        have b64 := hM6 p
        refine V_iload (pc := 65) C dX9_truly_65 0 rfl ?_
        refine V_idiv (pc := 67) C dX9_truly_67 (by omega) ?_
        exact V_iret (pc := 68) C Z dX9_truly_68 () trivial (ri (by unfold pTruly; (try dsimp only); (repeat' split) <;> first | rfl | omega)) rfl
      · refine V_aload_n (pc := 47) C dX9_truly_47 rfl 1 rfl ?_
        refine gf_X9_19 (x := q 8) (pc := 48) C dX9_truly_48 0 rfl rfl ?_
        refine V_iload_n (pc := 51) C dX9_truly_51 rfl 3 rfl ?_
        refine V_iald (f := M8) (pc := 52) C dX9_truly_52 2 rfl (by omega) (by omega) (Nat.le_of_ble_eq_true rfl) ?_
        have b52 := hM8 k
        refine V_iload (pc := 53) C dX9_truly_53 0 rfl ?_
        refine V_idiv (pc := 55) C dX9_truly_55 (by omega) ?_
        refine V_goto (pc := 56) 68 C dX9_truly_56 (by decide) ?_
        exact V_iret (pc := 68) C Z dX9_truly_68 () trivial (ri (by unfold pTruly; (try dsimp only); (repeat' split) <;> first | rfl | omega)) rfl
    · refine V_iconst (pc := 21) C dX9_truly_21 ?_
      exact V_iret (pc := 22) C Z dX9_truly_22 () trivial (ri (by unfold pTruly; (try dsimp only); (repeat' split) <;> first | rfl | omega)) rfl
set_option maxRecDepth 100000 in
set_option maxHeartbeats 4000000 in
theorem c_X9_come (l : Launch) (D : va_G) (d : Nat → ClassId) (o : Nat) (q : Nat → Nat) (f : Nat → Int) (M11 : Int → Int) (p : Int) (x : Int) (hP : 0 ≤ f 4 ∧ f 4 ≤ 6) (hM11 : bd M11 0 9) (hp : -2147483648 ≤ p ∧ p ≤ 2147483647) (hx : -2147483648 ≤ x ∧ x ≤ 2147483647) : CU l yX9_come cX9_come 4 (some .int) 2 46 D d [.ref o, .int (iI p), .int (iI x)] [(o, .inr (9, fX9 q f)), (q 11, aI (d 0) 6 M11)] (fun (u : Int × (Int → Int)) => u = pCome (f 4) M11 p x) (fun (u : Int × (Int → Int)) => some (.int (iI (u.1)))) (fun (u : Int × (Int → Int)) => [(o, .inr (9, fX9 q (up f 0 0))), (q 11, aI (d 0) 6 u.2)]) := by
  refine CU.mk (own := RX9) (lv := [(0, .ref o), (1, .int (iI p)), (2, .int (iI x))]) rfl (by decide) (Nat.le_of_ble_eq_true rfl) rfl ?_
  intro p9 e9 R9 s9 m9 args9 below9 meth9 c9 A9 Q9 hRf hRl C Z
  refine V_aload_n (pc := 0) C dX9_come_0 rfl 0 rfl ?_
  refine V_iconst (pc := 1) C dX9_come_1 ?_
  refine pf_X9_117 (ws' := [(o, .inr (9, fX9 q (up f 0 0))), (q 11, aI (d 0) 6 M11)]) (pc := 2) C dX9_come_2 0 rfl rfl ?_
  refine V_aload_n (pc := 5) C dX9_come_5 rfl 0 rfl ?_
  refine V_iload_n (pc := 6) C dX9_come_6 rfl 1 rfl ?_
  refine cv_X9_180 (pc := 7) (rest := []) (wn := fun _ => [(o, .inr (9, fX9 q (up f 0 0))), (q 11, aI (d 0) 6 M11)]) (sn := fun _ => [.int (iI (bI (¬ (0 ≤ p ∧ p < (f 4)))))]) C dX9_come_7 (c_X9_noOne l D d o q (up f 0 0) p hp hP) [0] rfl rfl 0 rfl rfl rfl (Nat.le_of_ble_eq_true rfl) ⟨by omega, by omega⟩ ⟨Nat.zero_le _, Nat.zero_le _⟩ (fun _ => rfl) (fun _ => rfl) (fun _ => rfl) ?_
  intro _ _
  refine V_ifb_eq (pc := 10) 15 C dX9_come_10 (by decide) (fun c10 => ?_) (fun c10 => ?_)
  · refine V_iload_n (pc := 15) C dX9_come_15 rfl 2 rfl ?_
    refine V_i2l (pc := 16) C dX9_come_16 (sm_i (by omega)) ?_
    refine V_lconst (k := 0) (pc := 17) C dX9_come_17 rfl ?_
    refine V_ldc2 (n := 9) (pc := 18) C dX9_come_18 w4_120 rfl ?_
    refine cs_X9_123 (pc := 21) (rest := []) (wn := fun _ => [(o, .inr (9, fX9 q (up f 0 0))), (q 11, aI (d 0) 6 M11)]) (sn := fun _ => [.int (iI (bI (0 ≤ x ∧ x ≤ 9)))]) C dX9_come_21 (c_X9_in l D d x 0 9 (show -9223372036854775808 ≤ x ∧ x ≤ 9223372036854775807 by omega) (show -9223372036854775808 ≤ 0 ∧ 0 ≤ 9223372036854775807 by omega) (show -9223372036854775808 ≤ 9 ∧ 9 ≤ 9223372036854775807 by omega)) [] rfl rfl rfl rfl (Nat.le_of_ble_eq_true rfl) ⟨by omega, by omega⟩ ⟨Nat.zero_le _, Nat.zero_le _⟩ (fun _ => rfl) (fun _ => rfl) (fun _ => rfl) ?_
    intro _ _
    refine V_ifb_ne (pc := 24) 30 C dX9_come_24 (by decide) (fun c24 => ?_) (fun c24 => ?_)
    · refine V_aload_n (pc := 30) C dX9_come_30 rfl 0 rfl ?_
      refine gf_X9_29 (x := q 11) (pc := 31) C dX9_come_31 0 rfl rfl ?_
      refine V_iload_n (pc := 34) C dX9_come_34 rfl 1 rfl ?_
      refine V_iald (f := M11) (pc := 35) C dX9_come_35 1 rfl (by omega) (by omega) (Nat.le_of_ble_eq_true rfl) ?_
      have b35 := hM11 p
      refine V_istore_n (lv' := [(3, .int (iI (M11 p))), (0, .ref o), (1, .int (iI p)), (2, .int (iI x))]) (pc := 36) C dX9_come_36 rfl (by decide) rfl ?_
      refine V_aload_n (pc := 37) C dX9_come_37 rfl 1 rfl ?_
      refine gf_X9_29 (x := q 11) (pc := 38) C dX9_come_38 0 rfl rfl ?_
      refine V_iload_n (pc := 41) C dX9_come_41 rfl 2 rfl ?_
      refine V_iload_n (pc := 42) C dX9_come_42 rfl 3 rfl ?_
      refine V_iast (f := M11) (ws' := [(o, .inr (9, fX9 q (up f 0 0))), (q 11, aI (d 0) 6 (uI M11 p x))]) (pc := 43) C dX9_come_43 1 rfl (by omega) (by omega) (Nat.le_of_ble_eq_true rfl) rfl ?_
      refine V_iload_n (pc := 44) C dX9_come_44 rfl 0 rfl ?_
      exact V_iret (pc := 45) C Z dX9_come_45 (M11 p, uI M11 p x) (by unfold pCome; (try dsimp only); (repeat' split) <;> first | rfl | omega) (ri (by rfl)) rfl
    · refine V_bipush (pc := 27) C dX9_come_27 rfl ?_
      exact V_iret (pc := 29) C Z dX9_come_29 (-2, M11) (by unfold pCome; (try dsimp only); (repeat' split) <;> first | rfl | omega) (ri (by rfl)) rfl
  · refine V_iconst (pc := 13) C dX9_come_13 ?_
    exact V_iret (pc := 14) C Z dX9_come_14 (-1, M11) (by unfold pCome; (try dsimp only); (repeat' split) <;> first | rfl | omega) (ri (by rfl)) rfl
set_option maxRecDepth 100000 in
set_option maxHeartbeats 4000000 in
theorem c_X9_earned (l : Launch) (D : va_G) (d : Nat → ClassId) (o : Nat) (q : Nat → Nat) (f : Nat → Int) (M6 : Int → Int) (M11 : Int → Int) (p : Int) (v : Int) (k : Int) (hP : 0 ≤ f 4 ∧ f 4 ≤ 6) (hM6 : bd M6 0 99) (hM11 : bd M11 0 9) (hp : -2147483648 ≤ p ∧ p ≤ 2147483647) (hv : -2147483648 ≤ v ∧ v ≤ 2147483647) (hk : -2147483648 ≤ k ∧ k ≤ 2147483647) : CU l yX9_earned cX9_earned 4 (some .int) 1 25 D d [.ref o, .int (iI p), .int (iI v), .int (iI k)] [(o, .inr (9, fX9 q f)), (q 6, aI (d 0) 6 M6), (q 11, aI (d 0) 6 M11)] (fun (_ : Unit) => True) (fun (_ : Unit) => some (.int (iI (pEarned (f 4) M6 M11 p v k)))) (fun (_ : Unit) => [(o, .inr (9, fX9 q (up f 0 0))), (q 6, aI (d 0) 6 M6), (q 11, aI (d 0) 6 M11)]) := by
  refine CU.mk (own := RX9) (lv := [(0, .ref o), (1, .int (iI p)), (2, .int (iI v)), (3, .int (iI k))]) rfl (by decide) (Nat.le_of_ble_eq_true rfl) rfl ?_
  intro p9 e9 R9 s9 m9 args9 below9 meth9 c9 A9 Q9 hRf hRl C Z
  refine V_aload_n (pc := 0) C dX9_earned_0 rfl 0 rfl ?_
  refine V_iconst (pc := 1) C dX9_earned_1 ?_
  refine pf_X9_117 (ws' := [(o, .inr (9, fX9 q (up f 0 0))), (q 6, aI (d 0) 6 M6), (q 11, aI (d 0) 6 M11)]) (pc := 2) C dX9_earned_2 0 rfl rfl ?_
  refine V_iload_n (pc := 5) C dX9_earned_5 rfl 1 rfl ?_
  refine V_i2l (pc := 6) C dX9_earned_6 (sm_i (by omega)) ?_
  refine V_lconst (k := 1) (pc := 7) C dX9_earned_7 rfl ?_
  refine V_ldc2 (n := 999) (pc := 8) C dX9_earned_8 w4_199 rfl ?_
  refine cs_X9_123 (pc := 11) (rest := []) (wn := fun _ => [(o, .inr (9, fX9 q (up f 0 0))), (q 6, aI (d 0) 6 M6), (q 11, aI (d 0) 6 M11)]) (sn := fun _ => [.int (iI (bI (1 ≤ p ∧ p ≤ 999)))]) C dX9_earned_11 (c_X9_in l D d p 1 999 (show -9223372036854775808 ≤ p ∧ p ≤ 9223372036854775807 by omega) (show -9223372036854775808 ≤ 1 ∧ 1 ≤ 9223372036854775807 by omega) (show -9223372036854775808 ≤ 999 ∧ 999 ≤ 9223372036854775807 by omega)) [] rfl rfl rfl rfl (Nat.le_of_ble_eq_true rfl) ⟨by omega, by omega⟩ ⟨Nat.zero_le _, Nat.zero_le _⟩ (fun _ => rfl) (fun _ => rfl) (fun _ => rfl) ?_
  intro _ _
  refine V_ifb_eq (pc := 14) 41 C dX9_earned_14 (by decide) (fun c14 => ?_) (fun c14 => ?_)
  · refine V_bipush (pc := 41) C dX9_earned_41 rfl ?_
    exact V_iret (pc := 43) C Z dX9_earned_43 () trivial (ri (by unfold pEarned; (try dsimp only); (repeat' split) <;> first | rfl | omega)) rfl
  · refine V_iload_n (pc := 17) C dX9_earned_17 rfl 2 rfl ?_
    refine V_i2l (pc := 18) C dX9_earned_18 (sm_i (by omega)) ?_
    refine V_lconst (k := 1) (pc := 19) C dX9_earned_19 rfl ?_
    refine V_ldc2 (n := 99) (pc := 20) C dX9_earned_20 w4_170 rfl ?_
    refine cs_X9_123 (pc := 23) (rest := []) (wn := fun _ => [(o, .inr (9, fX9 q (up f 0 0))), (q 6, aI (d 0) 6 M6), (q 11, aI (d 0) 6 M11)]) (sn := fun _ => [.int (iI (bI (1 ≤ v ∧ v ≤ 99)))]) C dX9_earned_23 (c_X9_in l D d v 1 99 (show -9223372036854775808 ≤ v ∧ v ≤ 9223372036854775807 by omega) (show -9223372036854775808 ≤ 1 ∧ 1 ≤ 9223372036854775807 by omega) (show -9223372036854775808 ≤ 99 ∧ 99 ≤ 9223372036854775807 by omega)) [] rfl rfl rfl rfl (Nat.le_of_ble_eq_true rfl) ⟨by omega, by omega⟩ ⟨Nat.zero_le _, Nat.zero_le _⟩ (fun _ => rfl) (fun _ => rfl) (fun _ => rfl) ?_
    intro _ _
    refine V_ifb_eq (pc := 26) 41 C dX9_earned_26 (by decide) (fun c26 => ?_) (fun c26 => ?_)
    · refine V_bipush (pc := 41) C dX9_earned_41 rfl ?_
      exact V_iret (pc := 43) C Z dX9_earned_43 () trivial (ri (by unfold pEarned; (try dsimp only); (repeat' split) <;> first | rfl | omega)) rfl
    · refine V_iload_n (pc := 29) C dX9_earned_29 rfl 3 rfl ?_
      refine V_i2l (pc := 30) C dX9_earned_30 (sm_i (by omega)) ?_
      refine V_lconst (k := 0) (pc := 31) C dX9_earned_31 rfl ?_
      refine V_ldc2 (n := 9) (pc := 32) C dX9_earned_32 w4_120 rfl ?_
      refine cs_X9_123 (pc := 35) (rest := []) (wn := fun _ => [(o, .inr (9, fX9 q (up f 0 0))), (q 6, aI (d 0) 6 M6), (q 11, aI (d 0) 6 M11)]) (sn := fun _ => [.int (iI (bI (0 ≤ k ∧ k ≤ 9)))]) C dX9_earned_35 (c_X9_in l D d k 0 9 (show -9223372036854775808 ≤ k ∧ k ≤ 9223372036854775807 by omega) (show -9223372036854775808 ≤ 0 ∧ 0 ≤ 9223372036854775807 by omega) (show -9223372036854775808 ≤ 9 ∧ 9 ≤ 9223372036854775807 by omega)) [] rfl rfl rfl rfl (Nat.le_of_ble_eq_true rfl) ⟨by omega, by omega⟩ ⟨Nat.zero_le _, Nat.zero_le _⟩ (fun _ => rfl) (fun _ => rfl) (fun _ => rfl) ?_
      intro _ _
      refine V_ifb_ne (pc := 38) 44 C dX9_earned_38 (by decide) (fun c38 => ?_) (fun c38 => ?_)
      · refine V_ldc (n := 100000) (pc := 44) C dX9_earned_44 w5_19 rfl ?_
        refine V_aload_n (pc := 46) C dX9_earned_46 rfl 0 rfl ?_
        refine V_iload_n (pc := 47) C dX9_earned_47 rfl 1 rfl ?_
        refine V_iload_n (pc := 48) C dX9_earned_48 rfl 2 rfl ?_
        refine V_iload_n (pc := 49) C dX9_earned_49 rfl 3 rfl ?_
        refine cv_X9_248 (pc := 50) (rest := [.int (iI 100000)]) (wn := fun _ => [(o, .inr (9, fX9 q (up f 0 0))), (q 6, aI (d 0) 6 M6), (q 11, aI (d 0) 6 M11)]) (sn := fun _ => [.int (iI (brI ((f 4)) M6 M11 p v k)), .int (iI 100000)]) C dX9_earned_50 (c_X9_earnedBy l D d o q (up f 0 0) M6 M11 p v k hP hM6 hM11 (show 1 ≤ p ∧ p ≤ 999 by omega) (show 1 ≤ v ∧ v ≤ 99 by omega) (show 0 ≤ k ∧ k ≤ 9 by omega)) [0, 1, 2] rfl rfl 0 rfl rfl rfl (Nat.le_of_ble_eq_true rfl) ⟨by omega, by omega⟩ ⟨Nat.zero_le _, Nat.zero_le _⟩ (fun _ => rfl) (fun _ => rfl) (fun _ => rfl) ?_
        intro _ _
        refine V_iadd (pc := 53) C dX9_earned_53 ?_
        exact V_iret (pc := 54) C Z dX9_earned_54 () trivial (ri (by unfold pEarned; (try dsimp only); (repeat' split) <;> first | rfl | omega)) rfl
      · refine V_bipush (pc := 41) C dX9_earned_41 rfl ?_
        exact V_iret (pc := 43) C Z dX9_earned_43 () trivial (ri (by unfold pEarned; (try dsimp only); (repeat' split) <;> first | rfl | omega)) rfl
set_option maxRecDepth 100000 in
set_option maxHeartbeats 4000000 in
theorem c_X9_ask (l : Launch) (D : va_G) (d : Nat → ClassId) (o : Nat) (q : Nat → Nat) (f : Nat → Int) (M6 : Int → Int) (M11 : Int → Int) (v : Int) (k : Int) (hP : 0 ≤ f 4 ∧ f 4 ≤ 6) (hM6 : bd M6 0 99) (hM11 : bd M11 0 9) (hv : -2147483648 ≤ v ∧ v ≤ 2147483647) (hk : -2147483648 ≤ k ∧ k ≤ 2147483647) : CU l yX9_ask cX9_ask 5 (some .int) 1 25 D d [.ref o, .int (iI v), .int (iI k)] [(o, .inr (9, fX9 q f)), (q 6, aI (d 0) 6 M6), (q 11, aI (d 0) 6 M11)] (fun (_ : Unit) => True) (fun (_ : Unit) => some (.int (iI (pAsk (f 4) M6 M11 v k)))) (fun (_ : Unit) => [(o, .inr (9, fX9 q (up f 0 0))), (q 6, aI (d 0) 6 M6), (q 11, aI (d 0) 6 M11)]) := by
  refine CU.mk (own := RX9) (lv := [(0, .ref o), (1, .int (iI v)), (2, .int (iI k))]) rfl (by decide) (Nat.le_of_ble_eq_true rfl) rfl ?_
  intro p9 e9 R9 s9 m9 args9 below9 meth9 c9 A9 Q9 hRf hRl C Z
  refine V_aload_n (pc := 0) C dX9_ask_0 rfl 0 rfl ?_
  refine V_iconst (pc := 1) C dX9_ask_1 ?_
  refine pf_X9_117 (ws' := [(o, .inr (9, fX9 q (up f 0 0))), (q 6, aI (d 0) 6 M6), (q 11, aI (d 0) 6 M11)]) (pc := 2) C dX9_ask_2 0 rfl rfl ?_
  refine V_iload_n (pc := 5) C dX9_ask_5 rfl 1 rfl ?_
  refine V_i2l (pc := 6) C dX9_ask_6 (sm_i (by omega)) ?_
  refine V_lconst (k := 1) (pc := 7) C dX9_ask_7 rfl ?_
  refine V_ldc2 (n := 99) (pc := 8) C dX9_ask_8 w4_170 rfl ?_
  refine cs_X9_123 (pc := 11) (rest := []) (wn := fun _ => [(o, .inr (9, fX9 q (up f 0 0))), (q 6, aI (d 0) 6 M6), (q 11, aI (d 0) 6 M11)]) (sn := fun _ => [.int (iI (bI (1 ≤ v ∧ v ≤ 99)))]) C dX9_ask_11 (c_X9_in l D d v 1 99 (show -9223372036854775808 ≤ v ∧ v ≤ 9223372036854775807 by omega) (show -9223372036854775808 ≤ 1 ∧ 1 ≤ 9223372036854775807 by omega) (show -9223372036854775808 ≤ 99 ∧ 99 ≤ 9223372036854775807 by omega)) [] rfl rfl rfl rfl (Nat.le_of_ble_eq_true rfl) ⟨by omega, by omega⟩ ⟨Nat.zero_le _, Nat.zero_le _⟩ (fun _ => rfl) (fun _ => rfl) (fun _ => rfl) ?_
  intro _ _
  refine V_ifb_eq (pc := 14) 29 C dX9_ask_14 (by decide) (fun c14 => ?_) (fun c14 => ?_)
  · refine V_bipush (pc := 29) C dX9_ask_29 rfl ?_
    exact V_iret (pc := 31) C Z dX9_ask_31 () trivial (ri (by unfold pAsk; (try dsimp only); (repeat' split) <;> first | rfl | omega)) rfl
  · refine V_iload_n (pc := 17) C dX9_ask_17 rfl 2 rfl ?_
    refine V_i2l (pc := 18) C dX9_ask_18 (sm_i (by omega)) ?_
    refine V_lconst (k := 0) (pc := 19) C dX9_ask_19 rfl ?_
    refine V_ldc2 (n := 9) (pc := 20) C dX9_ask_20 w4_120 rfl ?_
    refine cs_X9_123 (pc := 23) (rest := []) (wn := fun _ => [(o, .inr (9, fX9 q (up f 0 0))), (q 6, aI (d 0) 6 M6), (q 11, aI (d 0) 6 M11)]) (sn := fun _ => [.int (iI (bI (0 ≤ k ∧ k ≤ 9)))]) C dX9_ask_23 (c_X9_in l D d k 0 9 (show -9223372036854775808 ≤ k ∧ k ≤ 9223372036854775807 by omega) (show -9223372036854775808 ≤ 0 ∧ 0 ≤ 9223372036854775807 by omega) (show -9223372036854775808 ≤ 9 ∧ 9 ≤ 9223372036854775807 by omega)) [] rfl rfl rfl rfl (Nat.le_of_ble_eq_true rfl) ⟨by omega, by omega⟩ ⟨Nat.zero_le _, Nat.zero_le _⟩ (fun _ => rfl) (fun _ => rfl) (fun _ => rfl) ?_
    intro _ _
    refine V_ifb_ne (pc := 26) 32 C dX9_ask_26 (by decide) (fun c26 => ?_) (fun c26 => ?_)
    · refine V_iconst (pc := 32) C dX9_ask_32 ?_
      refine V_istore_n (lv' := [(3, .int (iI 1)), (0, .ref o), (1, .int (iI v)), (2, .int (iI k))]) (pc := 33) C dX9_ask_33 rfl (by decide) rfl ?_
      refine V_iconst (pc := 34) C dX9_ask_34 ?_
      refine V_istore (lv' := [(4, .int (iI 2)), (3, .int (iI 1)), (0, .ref o), (1, .int (iI v)), (2, .int (iI k))]) (pc := 35) C dX9_ask_35 (by decide) rfl ?_
      have L37 : ∀ (nn9 : Nat) (b : Int) (z : Int), (2 ≤ z ∧ z ≤ 1000) → (b = aM (fun p => brI (f 4) M6 M11 p v k) (z - 2).toNat) → ((1000 : Int) - z).toNat < nn9 → V p9 l e9 R9 s9 m9 args9 below9 meth9 c9 A9 D Q9 5 0 0 [(o, .inr (9, fX9 q (up f 0 0))), (q 6, aI (d 0) 6 M6), (q 11, aI (d 0) 6 M11)] [(4, .int (iI z)), (3, .int (iI b)), (0, .ref o), (1, .int (iI v)), (2, .int (iI k))] 37 [] := by
        intro nn9
        induction nn9 with
        | zero => intro _ _ _ _ hm37; exact absurd hm37 (Nat.not_lt_zero _)
        | succ nn9 ih37 =>
          intro b z hz hb hm37
          have hbi := aM_in (fun p => brI (f 4) M6 M11 p v k) (z - 2).toNat
          rw [← hb] at hbi
          have hb1 := brI_b (v := v) hP hM6 hM11 (show 1 ≤ b ∧ b ≤ 999 by omega) (show 0 ≤ k ∧ k ≤ 9 by omega)
          refine V_iload (pc := 37) C dX9_ask_37 0 rfl ?_
          refine V_sipush (pc := 39) C dX9_ask_39 rfl ?_
          refine V_icmp_ge (pc := 42) 76 C dX9_ask_42 (by decide) (sm_i (by omega)) (sm_i (by decide)) (fun c42 => ?_) (fun c42 => ?_)
          · refine V_iload_n (pc := 76) C dX9_ask_76 rfl 1 rfl ?_
            exact V_iret (pc := 77) C Z dX9_ask_77 () trivial (ri (by unfold pAsk; rw [if_neg (by omega), hb, show (z - 2).toNat = 998 by omega])) rfl
          · refine V_aload_n (pc := 45) C dX9_ask_45 rfl 2 rfl ?_
            refine V_iload (pc := 46) C dX9_ask_46 0 rfl ?_
            refine V_iload_n (pc := 48) C dX9_ask_48 rfl 3 rfl ?_
            refine V_iload_n (pc := 49) C dX9_ask_49 rfl 4 rfl ?_
            refine cv_X9_248 (pc := 50) (rest := []) (wn := fun _ => [(o, .inr (9, fX9 q (up f 0 0))), (q 6, aI (d 0) 6 M6), (q 11, aI (d 0) 6 M11)]) (sn := fun _ => [.int (iI (brI ((f 4)) M6 M11 z v k))]) C dX9_ask_50 (c_X9_earnedBy l D d o q (up f 0 0) M6 M11 z v k hP hM6 hM11 (show 1 ≤ z ∧ z ≤ 999 by omega) (show 1 ≤ v ∧ v ≤ 99 by omega) (show 0 ≤ k ∧ k ≤ 9 by omega)) [0, 1, 2] rfl rfl 0 rfl rfl rfl (Nat.le_of_ble_eq_true rfl) ⟨by omega, by omega⟩ ⟨Nat.zero_le _, Nat.zero_le _⟩ (fun _ => rfl) (fun _ => rfl) (fun _ => rfl) ?_
            intro _ _
            refine V_aload_n (pc := 53) C dX9_ask_53 rfl 2 rfl ?_
            refine V_iload_n (pc := 54) C dX9_ask_54 rfl 1 rfl ?_
            refine V_iload_n (pc := 55) C dX9_ask_55 rfl 3 rfl ?_
            refine V_iload_n (pc := 56) C dX9_ask_56 rfl 4 rfl ?_
            refine cv_X9_248 (pc := 57) (rest := [.int (iI (brI ((f 4)) M6 M11 z v k))]) (wn := fun _ => [(o, .inr (9, fX9 q (up f 0 0))), (q 6, aI (d 0) 6 M6), (q 11, aI (d 0) 6 M11)]) (sn := fun _ => [.int (iI (brI ((f 4)) M6 M11 b v k)), .int (iI (brI ((f 4)) M6 M11 z v k))]) C dX9_ask_57 (c_X9_earnedBy l D d o q (up f 0 0) M6 M11 b v k hP hM6 hM11 (show 1 ≤ b ∧ b ≤ 999 by omega) (show 1 ≤ v ∧ v ≤ 99 by omega) (show 0 ≤ k ∧ k ≤ 9 by omega)) [0, 1, 2] rfl rfl 0 rfl rfl rfl (Nat.le_of_ble_eq_true rfl) ⟨by omega, by omega⟩ ⟨Nat.zero_le _, Nat.zero_le _⟩ (fun _ => rfl) (fun _ => rfl) (fun _ => rfl) ?_
            intro _ _
            have hb2 := brI_b (v := v) hP hM6 hM11 (show 1 ≤ z ∧ z ≤ 999 by omega) (show 0 ≤ k ∧ k ≤ 9 by omega)
            refine V_icmp_le (pc := 60) 68 C dX9_ask_60 (by decide) (sm_i (by omega)) (sm_i (by omega)) (fun c60 => ?_) (fun c60 => ?_)
            · refine V_iload_n (pc := 68) C dX9_ask_68 rfl 1 rfl ?_
              refine V_istore_n (lv' := [(3, .int (iI b)), (4, .int (iI z)), (0, .ref o), (1, .int (iI v)), (2, .int (iI k))]) (pc := 69) C dX9_ask_69 rfl (by decide) rfl ?_
              refine V_iinc (lv' := [(4, .int (iI (z + 1))), (3, .int (iI b)), (0, .ref o), (1, .int (iI v)), (2, .int (iI k))]) (pc := 70) C dX9_ask_70 1 rfl (by decide) rfl ?_
              refine V_goto (pc := 73) 37 C dX9_ask_73 (by decide) ?_
              exact V_sub [0, 1, 2, 3, 4] rfl (ih37 b (z + 1) (by omega) (by rw [aM_s hz.1 hb]; (try dsimp only); split <;> omega) (by omega))
            · refine V_iload (pc := 63) C dX9_ask_63 0 rfl ?_
              refine V_goto (pc := 65) 69 C dX9_ask_65 (by decide) ?_
              refine V_istore_n (lv' := [(3, .int (iI z)), (4, .int (iI z)), (0, .ref o), (1, .int (iI v)), (2, .int (iI k))]) (pc := 69) C dX9_ask_69 rfl (by decide) rfl ?_
              refine V_iinc (lv' := [(4, .int (iI (z + 1))), (3, .int (iI z)), (0, .ref o), (1, .int (iI v)), (2, .int (iI k))]) (pc := 70) C dX9_ask_70 1 rfl (by decide) rfl ?_
              refine V_goto (pc := 73) 37 C dX9_ask_73 (by decide) ?_
              exact V_sub [0, 1, 2, 3, 4] rfl (ih37 z (z + 1) (by omega) (by rw [aM_s hz.1 hb]; (try dsimp only); split <;> omega) (by omega))
      exact V_sub [0, 1, 2, 3, 4] rfl (L37 (((1000 : Int) - 2).toNat + 1) 1 2 (by omega) (rfl) (Nat.lt_succ_self _))
    · refine V_bipush (pc := 29) C dX9_ask_29 rfl ?_
      exact V_iret (pc := 31) C Z dX9_ask_31 () trivial (ri (by unfold pAsk; (try dsimp only); (repeat' split) <;> first | rfl | omega)) rfl
set_option maxRecDepth 100000 in
set_option maxHeartbeats 4000000 in
theorem c_X9_keeper (l : Launch) (D : va_G) (d : Nat → ClassId) (o : Nat) (q : Nat → Nat) (f : Nat → Int) (M12 : Int → Int) (p : Int) (w : Int) (hP : 0 ≤ f 4 ∧ f 4 ≤ 6) (hM12 : bd M12 0 1) (hp : -2147483648 ≤ p ∧ p ≤ 2147483647) (hw : w = 0 ∨ w = 1) : CU l yX9_keeper cX9_keeper 4 (some .int) 2 46 D d [.ref o, .int (iI p), .int (iI w)] [(o, .inr (9, fX9 q f)), (q 12, aI (d 1) 6 M12)] (fun (u : Int × (Int → Int)) => u.1 = pKeeper (f 4) M12 p w ∧ u.2 = if 0 ≤ p ∧ p < f 4 then uI M12 p w else M12) (fun (u : Int × (Int → Int)) => some (.int (iI (u.1)))) (fun (u : Int × (Int → Int)) => [(o, .inr (9, fX9 q (up f 0 0))), (q 12, aI (d 1) 6 u.2)]) := by
  refine CU.mk (own := RX9) (lv := [(0, .ref o), (1, .int (iI p)), (2, .int (iI w))]) rfl (by decide) (Nat.le_of_ble_eq_true rfl) rfl ?_
  intro p9 e9 R9 s9 m9 args9 below9 meth9 c9 A9 Q9 hRf hRl C Z
  refine V_aload_n (pc := 0) C dX9_keeper_0 rfl 0 rfl ?_
  refine V_iconst (pc := 1) C dX9_keeper_1 ?_
  refine pf_X9_117 (ws' := [(o, .inr (9, fX9 q (up f 0 0))), (q 12, aI (d 1) 6 M12)]) (pc := 2) C dX9_keeper_2 0 rfl rfl ?_
  refine V_aload_n (pc := 5) C dX9_keeper_5 rfl 0 rfl ?_
  refine V_iload_n (pc := 6) C dX9_keeper_6 rfl 1 rfl ?_
  refine cv_X9_180 (pc := 7) (rest := []) (wn := fun _ => [(o, .inr (9, fX9 q (up f 0 0))), (q 12, aI (d 1) 6 M12)]) (sn := fun _ => [.int (iI (bI (¬ (0 ≤ p ∧ p < (f 4)))))]) C dX9_keeper_7 (c_X9_noOne l D d o q (up f 0 0) p hp hP) [0] rfl rfl 0 rfl rfl rfl (Nat.le_of_ble_eq_true rfl) ⟨by omega, by omega⟩ ⟨Nat.zero_le _, Nat.zero_le _⟩ (fun _ => rfl) (fun _ => rfl) (fun _ => rfl) ?_
  intro _ _
  refine V_ifb_eq (pc := 10) 15 C dX9_keeper_10 (by decide) (fun c10 => ?_) (fun c10 => ?_)
  · refine V_aload_n (pc := 15) C dX9_keeper_15 rfl 0 rfl ?_
    refine gf_X9_32 (x := q 12) (pc := 16) C dX9_keeper_16 0 rfl rfl ?_
    refine V_iload_n (pc := 19) C dX9_keeper_19 rfl 1 rfl ?_
    refine V_zald (f := M12) (pc := 20) C dX9_keeper_20 1 rfl (by omega) (by omega) (Nat.le_of_ble_eq_true rfl) ?_
    have b20 := hM12 p
    refine V_istore_n (lv' := [(3, .int (iI (M12 p))), (0, .ref o), (1, .int (iI p)), (2, .int (iI w))]) (pc := 21) C dX9_keeper_21 rfl (by decide) rfl ?_
    refine V_aload_n (pc := 22) C dX9_keeper_22 rfl 1 rfl ?_
    refine gf_X9_32 (x := q 12) (pc := 23) C dX9_keeper_23 0 rfl rfl ?_
    refine V_iload_n (pc := 26) C dX9_keeper_26 rfl 2 rfl ?_
    refine V_iload_n (pc := 27) C dX9_keeper_27 rfl 3 rfl ?_
    refine V_zast (f := M12) (ws' := [(o, .inr (9, fX9 q (up f 0 0))), (q 12, aI (d 1) 6 (uI M12 p w))]) (pc := 28) C dX9_keeper_28 1 rfl (by omega) (by omega) (Nat.le_of_ble_eq_true rfl) (by omega) rfl ?_
    refine V_iload_n (pc := 29) C dX9_keeper_29 rfl 0 rfl ?_
    refine V_iload_n (pc := 30) C dX9_keeper_30 rfl 3 rfl ?_
    refine V_icmp_ne (pc := 31) 38 C dX9_keeper_31 (by decide) (sm_i (by omega)) (sm_i (by omega)) (fun c31 => ?_) (fun c31 => ?_)
    · refine V_iconst (pc := 38) C dX9_keeper_38 ?_
      exact V_iret (pc := 39) C Z dX9_keeper_39 (1, uI M12 p w) (⟨by unfold pKeeper; dsimp only; (repeat' split) <;> omega, by dsimp only; (repeat' split) <;> first | rfl | omega⟩) (ri (by rfl)) rfl
    · refine V_iconst (pc := 34) C dX9_keeper_34 ?_
      refine V_goto (pc := 35) 39 C dX9_keeper_35 (by decide) ?_
      exact V_iret (pc := 39) C Z dX9_keeper_39 (0, uI M12 p w) (⟨by unfold pKeeper; dsimp only; (repeat' split) <;> omega, by dsimp only; (repeat' split) <;> first | rfl | omega⟩) (ri (by rfl)) rfl
  · refine V_iconst (pc := 13) C dX9_keeper_13 ?_
    exact V_iret (pc := 14) C Z dX9_keeper_14 (-1, M12) (⟨by unfold pKeeper; dsimp only; (repeat' split) <;> omega, by dsimp only; (repeat' split) <;> first | rfl | omega⟩) (ri (by rfl)) rfl
set_option maxRecDepth 100000 in
set_option maxHeartbeats 4000000 in
theorem c_X9_losers (l : Launch) (D : va_G) (d : Nat → ClassId) (o : Nat) (q : Nat → Nat) (f : Nat → Int) (M6 : Int → Int) (M12 : Int → Int) (x : Int) (hP : 0 ≤ f 4 ∧ f 4 ≤ 6) (hM6 : bd M6 0 99) (hM12 : bd M12 0 1) (hx : -2147483648 ≤ x ∧ x ≤ 2147483647) : CU l yX9_losers cX9_losers 2 (some .int) 1 25 D d [.ref o, .int (iI x)] [(o, .inr (9, fX9 q f)), (q 6, aI (d 0) 6 M6), (q 12, aI (d 1) 6 M12)] (fun (_ : Unit) => True) (fun (_ : Unit) => some (.int (iI (pLosers (f 4) M6 M12 x)))) (fun (_ : Unit) => [(o, .inr (9, fX9 q (up f 0 0))), (q 6, aI (d 0) 6 M6), (q 12, aI (d 1) 6 M12)]) := by
  refine CU.mk (own := RX9) (lv := [(0, .ref o), (1, .int (iI x))]) rfl (by decide) (Nat.le_of_ble_eq_true rfl) rfl ?_
  intro p9 e9 R9 s9 m9 args9 below9 meth9 c9 A9 Q9 hRf hRl C Z
  refine V_aload_n (pc := 0) C dX9_losers_0 rfl 0 rfl ?_
  refine V_iconst (pc := 1) C dX9_losers_1 ?_
  refine pf_X9_117 (ws' := [(o, .inr (9, fX9 q (up f 0 0))), (q 6, aI (d 0) 6 M6), (q 12, aI (d 1) 6 M12)]) (pc := 2) C dX9_losers_2 0 rfl rfl ?_
  refine V_iload_n (pc := 5) C dX9_losers_5 rfl 1 rfl ?_
  refine V_i2l (pc := 6) C dX9_losers_6 (sm_i (by omega)) ?_
  refine V_lconst (k := 1) (pc := 7) C dX9_losers_7 rfl ?_
  refine V_ldc2 (n := 99) (pc := 8) C dX9_losers_8 w4_170 rfl ?_
  refine cs_X9_123 (pc := 11) (rest := []) (wn := fun _ => [(o, .inr (9, fX9 q (up f 0 0))), (q 6, aI (d 0) 6 M6), (q 12, aI (d 1) 6 M12)]) (sn := fun _ => [.int (iI (bI (1 ≤ x ∧ x ≤ 99)))]) C dX9_losers_11 (c_X9_in l D d x 1 99 (show -9223372036854775808 ≤ x ∧ x ≤ 9223372036854775807 by omega) (show -9223372036854775808 ≤ 1 ∧ 1 ≤ 9223372036854775807 by omega) (show -9223372036854775808 ≤ 99 ∧ 99 ≤ 9223372036854775807 by omega)) [] rfl rfl rfl rfl (Nat.le_of_ble_eq_true rfl) ⟨by omega, by omega⟩ ⟨Nat.zero_le _, Nat.zero_le _⟩ (fun _ => rfl) (fun _ => rfl) (fun _ => rfl) ?_
  intro _ _
  refine V_ifb_eq (pc := 14) 25 C dX9_losers_14 (by decide) (fun c14 => ?_) (fun c14 => ?_)
  · refine V_bipush (pc := 25) C dX9_losers_25 rfl ?_
    exact V_iret (pc := 27) C Z dX9_losers_27 () trivial (ri (by unfold pLosers; (try dsimp only); (repeat' split) <;> first | rfl | omega)) rfl
  · refine V_aload_n (pc := 17) C dX9_losers_17 rfl 0 rfl ?_
    refine V_iload_n (pc := 18) C dX9_losers_18 rfl 1 rfl ?_
    refine cv_X9_251 (pc := 19) (rest := []) (wn := fun _ => [(o, .inr (9, fX9 q (up f 0 0))), (q 6, aI (d 0) 6 M6), (q 12, aI (d 1) 6 M12)]) (sn := fun _ => [.int (iI (lsI ((f 4)) M6 M12 x))]) C dX9_losers_19 (c_X9_losersBy l D d o q (up f 0 0) M6 M12 x hP hM6 hM12 hx) [0, 1, 2] rfl rfl 0 rfl rfl rfl (Nat.le_of_ble_eq_true rfl) ⟨by omega, by omega⟩ ⟨Nat.zero_le _, Nat.zero_le _⟩ (fun _ => rfl) (fun _ => rfl) (fun _ => rfl) ?_
    intro _ _
    refine V_goto (pc := 22) 27 C dX9_losers_22 (by decide) ?_
    exact V_iret (pc := 27) C Z dX9_losers_27 () trivial (ri (by unfold pLosers; (try dsimp only); (repeat' split) <;> first | rfl | omega)) rfl
set_option maxRecDepth 100000 in
set_option maxHeartbeats 4000000 in
theorem c_X9_fairest (l : Launch) (D : va_G) (d : Nat → ClassId) (o : Nat) (q : Nat → Nat) (f : Nat → Int) (M6 : Int → Int) (M12 : Int → Int) (hP : 0 ≤ f 4 ∧ f 4 ≤ 6) (hM6 : bd M6 0 99) (hM12 : bd M12 0 1) : CU l yX9_fairest cX9_fairest 3 (some .int) 1 23 D d [.ref o] [(o, .inr (9, fX9 q f)), (q 6, aI (d 0) 6 M6), (q 12, aI (d 1) 6 M12)] (fun (_ : Unit) => True) (fun (_ : Unit) => some (.int (iI (pFairest (f 4) M6 M12)))) (fun (_ : Unit) => [(o, .inr (9, fX9 q (up f 0 0))), (q 6, aI (d 0) 6 M6), (q 12, aI (d 1) 6 M12)]) := by
  refine CU.mk (own := RX9) (lv := [(0, .ref o)]) rfl (by decide) (Nat.le_of_ble_eq_true rfl) rfl ?_
  intro p9 e9 R9 s9 m9 args9 below9 meth9 c9 A9 Q9 hRf hRl C Z
  refine V_aload_n (pc := 0) C dX9_fairest_0 rfl 0 rfl ?_
  refine V_iconst (pc := 1) C dX9_fairest_1 ?_
  refine pf_X9_117 (ws' := [(o, .inr (9, fX9 q (up f 0 0))), (q 6, aI (d 0) 6 M6), (q 12, aI (d 1) 6 M12)]) (pc := 2) C dX9_fairest_2 0 rfl rfl ?_
  refine V_iconst (pc := 5) C dX9_fairest_5 ?_
  refine V_istore_n (lv' := [(1, .int (iI 1)), (0, .ref o)]) (pc := 6) C dX9_fairest_6 rfl (by decide) rfl ?_
  refine V_iconst (pc := 7) C dX9_fairest_7 ?_
  refine V_istore_n (lv' := [(2, .int (iI 2)), (1, .int (iI 1)), (0, .ref o)]) (pc := 8) C dX9_fairest_8 rfl (by decide) rfl ?_
  have L9 : ∀ (nn9 : Nat) (b : Int) (z : Int), (2 ≤ z ∧ z ≤ 100) → (b = aM (fun e => - lsI (f 4) M6 M12 e) (z - 2).toNat) → ((100 : Int) - z).toNat < nn9 → V p9 l e9 R9 s9 m9 args9 below9 meth9 c9 A9 D Q9 3 0 0 [(o, .inr (9, fX9 q (up f 0 0))), (q 6, aI (d 0) 6 M6), (q 12, aI (d 1) 6 M12)] [(2, .int (iI z)), (1, .int (iI b)), (0, .ref o)] 9 [] := by
    intro nn9
    induction nn9 with
    | zero => intro _ _ _ _ hm9; exact absurd hm9 (Nat.not_lt_zero _)
    | succ nn9 ih9 =>
      intro b z hz hb hm9
      have hbi := aM_in (fun e => - lsI (f 4) M6 M12 e) (z - 2).toNat
      rw [← hb] at hbi
      have hb1 := lsI_b (e := b) (arm := M6) (kp := M12) hP
      refine V_iload_n (pc := 9) C dX9_fairest_9 rfl 0 rfl ?_
      refine V_bipush (pc := 10) C dX9_fairest_10 rfl ?_
      refine V_icmp_ge (pc := 12) 40 C dX9_fairest_12 (by decide) (sm_i (by omega)) (sm_i (by decide)) (fun c12 => ?_) (fun c12 => ?_)
      · refine V_iload_n (pc := 40) C dX9_fairest_40 rfl 1 rfl ?_
        exact V_iret (pc := 41) C Z dX9_fairest_41 () trivial (ri (by unfold pFairest; rw [hb, show (z - 2).toNat = 98 by omega])) rfl
      · refine V_aload_n (pc := 15) C dX9_fairest_15 rfl 2 rfl ?_
        refine V_iload_n (pc := 16) C dX9_fairest_16 rfl 0 rfl ?_
        refine cv_X9_251 (pc := 17) (rest := []) (wn := fun _ => [(o, .inr (9, fX9 q (up f 0 0))), (q 6, aI (d 0) 6 M6), (q 12, aI (d 1) 6 M12)]) (sn := fun _ => [.int (iI (lsI ((f 4)) M6 M12 z))]) C dX9_fairest_17 (c_X9_losersBy l D d o q (up f 0 0) M6 M12 z hP hM6 hM12 (show -2147483648 ≤ z ∧ z ≤ 2147483647 by omega)) [0, 1, 2] rfl rfl 0 rfl rfl rfl (Nat.le_of_ble_eq_true rfl) ⟨by omega, by omega⟩ ⟨Nat.zero_le _, Nat.zero_le _⟩ (fun _ => rfl) (fun _ => rfl) (fun _ => rfl) ?_
        intro _ _
        refine V_aload_n (pc := 20) C dX9_fairest_20 rfl 2 rfl ?_
        refine V_iload_n (pc := 21) C dX9_fairest_21 rfl 1 rfl ?_
        refine cv_X9_251 (pc := 22) (rest := [.int (iI (lsI ((f 4)) M6 M12 z))]) (wn := fun _ => [(o, .inr (9, fX9 q (up f 0 0))), (q 6, aI (d 0) 6 M6), (q 12, aI (d 1) 6 M12)]) (sn := fun _ => [.int (iI (lsI ((f 4)) M6 M12 b)), .int (iI (lsI ((f 4)) M6 M12 z))]) C dX9_fairest_22 (c_X9_losersBy l D d o q (up f 0 0) M6 M12 b hP hM6 hM12 (show -2147483648 ≤ b ∧ b ≤ 2147483647 by omega)) [0, 1, 2] rfl rfl 0 rfl rfl rfl (Nat.le_of_ble_eq_true rfl) ⟨by omega, by omega⟩ ⟨Nat.zero_le _, Nat.zero_le _⟩ (fun _ => rfl) (fun _ => rfl) (fun _ => rfl) ?_
        intro _ _
        have hb2 := lsI_b (e := z) (arm := M6) (kp := M12) hP
        refine V_icmp_ge (pc := 25) 32 C dX9_fairest_25 (by decide) (sm_i (by omega)) (sm_i (by omega)) (fun c25 => ?_) (fun c25 => ?_)
        · refine V_iload_n (pc := 32) C dX9_fairest_32 rfl 1 rfl ?_
          refine V_istore_n (lv' := [(1, .int (iI b)), (2, .int (iI z)), (0, .ref o)]) (pc := 33) C dX9_fairest_33 rfl (by decide) rfl ?_
          refine V_iinc (lv' := [(2, .int (iI (z + 1))), (1, .int (iI b)), (0, .ref o)]) (pc := 34) C dX9_fairest_34 1 rfl (by decide) rfl ?_
          refine V_goto (pc := 37) 9 C dX9_fairest_37 (by decide) ?_
          exact V_sub [0, 1, 2] rfl (ih9 b (z + 1) (by omega) (by rw [aM_s hz.1 hb]; (try dsimp only); split <;> omega) (by omega))
        · refine V_iload_n (pc := 28) C dX9_fairest_28 rfl 0 rfl ?_
          refine V_goto (pc := 29) 33 C dX9_fairest_29 (by decide) ?_
          refine V_istore_n (lv' := [(1, .int (iI z)), (2, .int (iI z)), (0, .ref o)]) (pc := 33) C dX9_fairest_33 rfl (by decide) rfl ?_
          refine V_iinc (lv' := [(2, .int (iI (z + 1))), (1, .int (iI z)), (0, .ref o)]) (pc := 34) C dX9_fairest_34 1 rfl (by decide) rfl ?_
          refine V_goto (pc := 37) 9 C dX9_fairest_37 (by decide) ?_
          exact V_sub [0, 1, 2] rfl (ih9 z (z + 1) (by omega) (by rw [aM_s hz.1 hb]; (try dsimp only); split <;> omega) (by omega))
  exact V_sub [0, 1, 2] rfl (L9 (((100 : Int) - 2).toNat + 1) 1 2 (by omega) (rfl) (Nat.lt_succ_self _))
set_option maxRecDepth 100000 in
set_option maxHeartbeats 4000000 in
theorem c_X9_when (l : Launch) (D : va_G) (d : Nat → ClassId) (o : Nat) (q : Nat → Nat) (f : Nat → Int) (M6 : Int → Int) (M8 : Int → Int) (p : Int) (k : Int) (g : Int) (y : Int) (hP : 0 ≤ f 4 ∧ f 4 ≤ 6) (hC : 0 ≤ f 5 ∧ f 5 ≤ 4) (hM6 : bd M6 0 99) (hM8 : bd M8 0 99) (hp : -2147483648 ≤ p ∧ p ≤ 2147483647) (hk : -2147483648 ≤ k ∧ k ≤ 2147483647) (hg : -2147483648 ≤ g ∧ g ≤ 2147483647) (hy : -2147483648 ≤ y ∧ y ≤ 2147483647) : CU l yX9_when cX9_when 11 (some .int) 2 46 D d [.ref o, .int (iI p), .int (iI k), .int (iI g), .int (iI y)] [(o, .inr (9, fX9 q f)), (q 6, aI (d 0) 6 M6), (q 8, aI (d 0) 4 M8)] (fun (_ : Unit) => True) (fun (_ : Unit) => some (.int (iI (pWhen (f 4) (f 5) M6 M8 p k g y)))) (fun (_ : Unit) => [(o, .inr (9, fX9 q (up f 0 0))), (q 6, aI (d 0) 6 M6), (q 8, aI (d 0) 4 M8)]) := by
  refine CU.mk (own := RX9) (lv := [(0, .ref o), (1, .int (iI p)), (2, .int (iI k)), (3, .int (iI g)), (4, .int (iI y))]) rfl (by decide) (Nat.le_of_ble_eq_true rfl) rfl ?_
  intro p9 e9 R9 s9 m9 args9 below9 meth9 c9 A9 Q9 hRf hRl C Z
  refine V_aload_n (pc := 0) C dX9_when_0 rfl 0 rfl ?_
  refine V_iconst (pc := 1) C dX9_when_1 ?_
  refine pf_X9_117 (ws' := [(o, .inr (9, fX9 q (up f 0 0))), (q 6, aI (d 0) 6 M6), (q 8, aI (d 0) 4 M8)]) (pc := 2) C dX9_when_2 0 rfl rfl ?_
  refine V_aload_n (pc := 5) C dX9_when_5 rfl 0 rfl ?_
  refine V_iload_n (pc := 6) C dX9_when_6 rfl 1 rfl ?_
  refine cv_X9_180 (pc := 7) (rest := []) (wn := fun _ => [(o, .inr (9, fX9 q (up f 0 0))), (q 6, aI (d 0) 6 M6), (q 8, aI (d 0) 4 M8)]) (sn := fun _ => [.int (iI (bI (¬ (0 ≤ p ∧ p < (f 4)))))]) C dX9_when_7 (c_X9_noOne l D d o q (up f 0 0) p hp hP) [0] rfl rfl 0 rfl rfl rfl (Nat.le_of_ble_eq_true rfl) ⟨by omega, by omega⟩ ⟨Nat.zero_le _, Nat.zero_le _⟩ (fun _ => rfl) (fun _ => rfl) (fun _ => rfl) ?_
  intro _ _
  refine V_ifb_ne (pc := 10) 21 C dX9_when_10 (by decide) (fun c10 => ?_) (fun c10 => ?_)
  · refine V_iconst (pc := 21) C dX9_when_21 ?_
    exact V_iret (pc := 22) C Z dX9_when_22 () trivial (ri (by unfold pWhen; (try dsimp only); (repeat' split) <;> first | rfl | omega)) rfl
  · refine V_aload_n (pc := 13) C dX9_when_13 rfl 0 rfl ?_
    refine V_iload_n (pc := 14) C dX9_when_14 rfl 2 rfl ?_
    refine cv_X9_187 (pc := 15) (rest := []) (wn := fun _ => [(o, .inr (9, fX9 q (up f 0 0))), (q 6, aI (d 0) 6 M6), (q 8, aI (d 0) 4 M8)]) (sn := fun _ => [.int (iI (bI (¬ (0 ≤ k ∧ k < (f 5)))))]) C dX9_when_15 (c_X9_noCounter l D d o q (up f 0 0) k hk hC) [0] rfl rfl 0 rfl rfl rfl (Nat.le_of_ble_eq_true rfl) ⟨by omega, by omega⟩ ⟨Nat.zero_le _, Nat.zero_le _⟩ (fun _ => rfl) (fun _ => rfl) (fun _ => rfl) ?_
    intro _ _
    refine V_ifb_eq (pc := 18) 23 C dX9_when_18 (by decide) (fun c18 => ?_) (fun c18 => ?_)
    · refine V_iload_n (pc := 23) C dX9_when_23 rfl 3 rfl ?_
      refine V_i2l (pc := 24) C dX9_when_24 (sm_i (by omega)) ?_
      refine V_lconst (k := 0) (pc := 25) C dX9_when_25 rfl ?_
      refine V_ldc2 (n := 9) (pc := 26) C dX9_when_26 w4_120 rfl ?_
      refine cs_X9_123 (pc := 29) (rest := []) (wn := fun _ => [(o, .inr (9, fX9 q (up f 0 0))), (q 6, aI (d 0) 6 M6), (q 8, aI (d 0) 4 M8)]) (sn := fun _ => [.int (iI (bI (0 ≤ g ∧ g ≤ 9)))]) C dX9_when_29 (c_X9_in l D d g 0 9 (show -9223372036854775808 ≤ g ∧ g ≤ 9223372036854775807 by omega) (show -9223372036854775808 ≤ 0 ∧ 0 ≤ 9223372036854775807 by omega) (show -9223372036854775808 ≤ 9 ∧ 9 ≤ 9223372036854775807 by omega)) [] rfl rfl rfl rfl (Nat.le_of_ble_eq_true rfl) ⟨by omega, by omega⟩ ⟨Nat.zero_le _, Nat.zero_le _⟩ (fun _ => rfl) (fun _ => rfl) (fun _ => rfl) ?_
      intro _ _
      refine V_ifb_eq (pc := 32) 48 C dX9_when_32 (by decide) (fun c32 => ?_) (fun c32 => ?_)
      · refine V_bipush (pc := 48) C dX9_when_48 rfl ?_
        exact V_iret (pc := 50) C Z dX9_when_50 () trivial (ri (by unfold pWhen; (try dsimp only); (repeat' split) <;> first | rfl | omega)) rfl
      · refine V_iload (pc := 35) C dX9_when_35 4 rfl ?_
        refine V_i2l (pc := 37) C dX9_when_37 (sm_i (by omega)) ?_
        refine V_lconst (k := 0) (pc := 38) C dX9_when_38 rfl ?_
        refine V_ldc2 (n := 9) (pc := 39) C dX9_when_39 w4_120 rfl ?_
        refine cs_X9_123 (pc := 42) (rest := []) (wn := fun _ => [(o, .inr (9, fX9 q (up f 0 0))), (q 6, aI (d 0) 6 M6), (q 8, aI (d 0) 4 M8)]) (sn := fun _ => [.int (iI (bI (0 ≤ y ∧ y ≤ 9)))]) C dX9_when_42 (c_X9_in l D d y 0 9 (show -9223372036854775808 ≤ y ∧ y ≤ 9223372036854775807 by omega) (show -9223372036854775808 ≤ 0 ∧ 0 ≤ 9223372036854775807 by omega) (show -9223372036854775808 ≤ 9 ∧ 9 ≤ 9223372036854775807 by omega)) [] rfl rfl rfl rfl (Nat.le_of_ble_eq_true rfl) ⟨by omega, by omega⟩ ⟨Nat.zero_le _, Nat.zero_le _⟩ (fun _ => rfl) (fun _ => rfl) (fun _ => rfl) ?_
        intro _ _
        refine V_ifb_ne (pc := 45) 51 C dX9_when_45 (by decide) (fun c45 => ?_) (fun c45 => ?_)
        · refine V_iconst (pc := 51) C dX9_when_51 ?_
          refine V_istore (lv' := [(5, .int (iI 0)), (0, .ref o), (1, .int (iI p)), (2, .int (iI k)), (3, .int (iI g)), (4, .int (iI y))]) (pc := 52) C dX9_when_52 (by decide) rfl ?_
          refine V_aload_n (pc := 54) C dX9_when_54 rfl 1 rfl ?_
          refine gf_X9_13 (x := q 6) (pc := 55) C dX9_when_55 0 rfl rfl ?_
          refine V_iload_n (pc := 58) C dX9_when_58 rfl 2 rfl ?_
          refine V_iald (f := M6) (pc := 59) C dX9_when_59 1 rfl (by omega) (by omega) (Nat.le_of_ble_eq_true rfl) ?_
          have b59 := hM6 p
          refine V_istore (lv' := [(6, .int (iI (M6 p))), (5, .int (iI 0)), (0, .ref o), (1, .int (iI p)), (2, .int (iI k)), (3, .int (iI g)), (4, .int (iI y))]) (pc := 60) C dX9_when_60 (by decide) rfl ?_
          refine V_aload_n (pc := 62) C dX9_when_62 rfl 2 rfl ?_
          refine gf_X9_19 (x := q 8) (pc := 63) C dX9_when_63 0 rfl rfl ?_
          refine V_iload_n (pc := 66) C dX9_when_66 rfl 4 rfl ?_
          refine V_iald (f := M8) (pc := 67) C dX9_when_67 2 rfl (by omega) (by omega) (Nat.le_of_ble_eq_true rfl) ?_
          have b67 := hM8 k
          refine V_istore (lv' := [(7, .int (iI (M8 k))), (6, .int (iI (M6 p))), (5, .int (iI 0)), (0, .ref o), (1, .int (iI p)), (2, .int (iI k)), (3, .int (iI g)), (4, .int (iI y))]) (pc := 68) C dX9_when_68 (by decide) rfl ?_
          refine V_iconst (pc := 70) C dX9_when_70 ?_
          refine V_istore (lv' := [(8, .int (iI 1)), (7, .int (iI (M8 k))), (6, .int (iI (M6 p))), (5, .int (iI 0)), (0, .ref o), (1, .int (iI p)), (2, .int (iI k)), (3, .int (iI g)), (4, .int (iI y))]) (pc := 71) C dX9_when_71 (by decide) rfl ?_
          have L73 : ∀ (nn9 : Nat) (b : Int) (x : Int) (z : Int) (t : Int), (1 ≤ t ∧ t ≤ 31) → (0 ≤ x ∧ x ≤ 99) → (0 ≤ z ∧ z ≤ 369) → ((b, x, z) = whN (M6 p) (M8 k) g y (t - 1).toNat) → ((31 : Int) - t).toNat < nn9 → V p9 l e9 R9 s9 m9 args9 below9 meth9 c9 A9 D Q9 11 0 0 [(o, .inr (9, fX9 q (up f 0 0))), (q 6, aI (d 0) 6 M6), (q 8, aI (d 0) 4 M8)] [(8, .int (iI t)), (7, .int (iI z)), (6, .int (iI x)), (5, .int (iI b)), (0, .ref o), (1, .int (iI p)), (2, .int (iI k)), (3, .int (iI g)), (4, .int (iI y))] 73 [] := by
            intro nn9
            induction nn9 with
            | zero => intro _ _ _ _ _ _ _ _ hm73; exact absurd hm73 (Nat.not_lt_zero _)
            | succ nn9 ih73 =>
              intro b x z t ht hx hz hw hm73
              have a0 := hM6 p
              have t0 := hM8 k
              have m1 := mulb (show 0 ≤ t ∧ t ≤ 31 by omega) (show 0 ≤ g ∧ g ≤ 9 by omega)
              have m2 := mulb (show 0 ≤ t ∧ t ≤ 31 by omega) (show 0 ≤ y ∧ y ≤ 9 by omega)
              refine V_iload (pc := 73) C dX9_when_73 0 rfl ?_
              refine V_bipush (pc := 75) C dX9_when_75 rfl ?_
              refine V_icmp_ge (pc := 77) 159 C dX9_when_77 (by decide) (sm_i (by omega)) (sm_i (by decide)) (fun c77 => ?_) (fun c77 => ?_)
              · refine V_iload (pc := 159) C dX9_when_159 3 rfl ?_
                exact V_iret (pc := 161) C Z dX9_when_161 () trivial (ri (by unfold pWhen; rw [if_neg (by omega), if_neg (by omega)]; rw [show (t - 1).toNat = 30 by omega] at hw; rw [← hw])) rfl
              · have m5 := mulb (show 0 ≤ t ∧ t ≤ 30 by omega) (show 0 ≤ y ∧ y ≤ 9 by omega)
                refine V_aload_n (pc := 80) C dX9_when_80 rfl 4 rfl ?_
                refine gf_X9_13 (x := q 6) (pc := 81) C dX9_when_81 0 rfl rfl ?_
                refine V_iload_n (pc := 84) C dX9_when_84 rfl 5 rfl ?_
                refine V_iald (f := M6) (pc := 85) C dX9_when_85 1 rfl (by omega) (by omega) (Nat.le_of_ble_eq_true rfl) ?_
                have b85 := hM6 p
                refine V_iload (pc := 86) C dX9_when_86 0 rfl ?_
                refine V_iload_n (pc := 88) C dX9_when_88 rfl 7 rfl ?_
                refine V_imul (pc := 89) C dX9_when_89 ?_
                refine V_iadd (pc := 90) C dX9_when_90 ?_
                refine V_bipush (pc := 91) C dX9_when_91 rfl ?_
                refine V_icmp_ge (pc := 93) 110 C dX9_when_93 (by decide) (sm_i (by omega)) (sm_i (by decide)) (fun c93 => ?_) (fun c93 => ?_)
                · refine V_bipush (pc := 110) C dX9_when_110 rfl ?_
                  refine V_istore (lv' := [(9, .int (iI 99)), (8, .int (iI t)), (7, .int (iI z)), (6, .int (iI x)), (5, .int (iI b)), (0, .ref o), (1, .int (iI p)), (2, .int (iI k)), (3, .int (iI g)), (4, .int (iI y))]) (pc := 112) C dX9_when_112 (by decide) rfl ?_
                  have gm : min 99 (M6 p + t * g) = 99 := by omega
                  refine V_aload_n (pc := 114) C dX9_when_114 rfl 5 rfl ?_
                  refine gf_X9_19 (x := q 8) (pc := 115) C dX9_when_115 0 rfl rfl ?_
                  refine V_iload_n (pc := 118) C dX9_when_118 rfl 7 rfl ?_
                  refine V_iald (f := M8) (pc := 119) C dX9_when_119 2 rfl (by omega) (by omega) (Nat.le_of_ble_eq_true rfl) ?_
                  have b119 := hM8 k
                  refine V_iload (pc := 120) C dX9_when_120 1 rfl ?_
                  refine V_iload (pc := 122) C dX9_when_122 9 rfl ?_
                  refine V_imul (pc := 124) C dX9_when_124 ?_
                  refine V_iadd (pc := 125) C dX9_when_125 ?_
                  refine V_istore (lv' := [(10, .int (iI ((M8 k) + (t * y)))), (9, .int (iI 99)), (8, .int (iI t)), (7, .int (iI z)), (6, .int (iI x)), (5, .int (iI b)), (0, .ref o), (1, .int (iI p)), (2, .int (iI k)), (3, .int (iI g)), (4, .int (iI y))]) (pc := 126) C dX9_when_126 (by decide) rfl ?_
                  refine V_iload (pc := 128) C dX9_when_128 1 rfl ?_
                  refine V_iload (pc := 130) C dX9_when_130 3 rfl ?_
                  refine V_imul (pc := 132) C dX9_when_132 ?_
                  refine V_iload (pc := 133) C dX9_when_133 4 rfl ?_
                  refine V_iload (pc := 135) C dX9_when_135 0 rfl ?_
                  refine V_imul (pc := 137) C dX9_when_137 ?_
                  have m3 := mulb (show 0 ≤ 99 ∧ 99 ≤ 99 by omega) (show 0 ≤ z ∧ z ≤ 369 by omega)
                  have m4 := mulb (show 0 ≤ x ∧ x ≤ 99 by omega) (show 0 ≤ M8 k + t * y ∧ M8 k + t * y ≤ 378 by omega)
                  refine V_icmp_le (pc := 138) 153 C dX9_when_138 (by decide) (sm_i (by omega)) (sm_i (by omega)) (fun c138 => ?_) (fun c138 => ?_)
                  · refine V_iinc (lv' := [(8, .int (iI (t + 1))), (10, .int (iI ((M8 k) + (t * y)))), (9, .int (iI 99)), (7, .int (iI z)), (6, .int (iI x)), (5, .int (iI b)), (0, .ref o), (1, .int (iI p)), (2, .int (iI k)), (3, .int (iI g)), (4, .int (iI y))]) (pc := 153) C dX9_when_153 2 rfl (by decide) rfl ?_
                    refine V_goto (pc := 156) 73 C dX9_when_156 (by decide) ?_
                    exact V_sub [0, 3, 4, 5, 6, 7, 8, 9, 10] rfl (ih73 b x z (t + 1) (by omega) (by omega) (by omega) (by rw [whN_s ht.1 hw]; rw [gm]; (repeat' split) <;> first | rfl | omega) (by omega))
                  · refine V_iload (pc := 141) C dX9_when_141 2 rfl ?_
                    refine V_istore (lv' := [(5, .int (iI t)), (10, .int (iI ((M8 k) + (t * y)))), (9, .int (iI 99)), (8, .int (iI t)), (7, .int (iI z)), (6, .int (iI x)), (0, .ref o), (1, .int (iI p)), (2, .int (iI k)), (3, .int (iI g)), (4, .int (iI y))]) (pc := 143) C dX9_when_143 (by decide) rfl ?_
                    refine V_iload (pc := 145) C dX9_when_145 2 rfl ?_
                    refine V_istore (lv' := [(6, .int (iI 99)), (5, .int (iI t)), (10, .int (iI ((M8 k) + (t * y)))), (9, .int (iI 99)), (8, .int (iI t)), (7, .int (iI z)), (0, .ref o), (1, .int (iI p)), (2, .int (iI k)), (3, .int (iI g)), (4, .int (iI y))]) (pc := 147) C dX9_when_147 (by decide) rfl ?_
                    refine V_iload (pc := 149) C dX9_when_149 2 rfl ?_
                    refine V_istore (lv' := [(7, .int (iI ((M8 k) + (t * y)))), (6, .int (iI 99)), (5, .int (iI t)), (10, .int (iI ((M8 k) + (t * y)))), (9, .int (iI 99)), (8, .int (iI t)), (0, .ref o), (1, .int (iI p)), (2, .int (iI k)), (3, .int (iI g)), (4, .int (iI y))]) (pc := 151) C dX9_when_151 (by decide) rfl ?_
                    refine V_iinc (lv' := [(8, .int (iI (t + 1))), (7, .int (iI ((M8 k) + (t * y)))), (6, .int (iI 99)), (5, .int (iI t)), (10, .int (iI ((M8 k) + (t * y)))), (9, .int (iI 99)), (0, .ref o), (1, .int (iI p)), (2, .int (iI k)), (3, .int (iI g)), (4, .int (iI y))]) (pc := 153) C dX9_when_153 5 rfl (by decide) rfl ?_
                    refine V_goto (pc := 156) 73 C dX9_when_156 (by decide) ?_
                    exact V_sub [0, 1, 2, 3, 6, 7, 8, 9, 10] rfl (ih73 t 99 ((M8 k) + (t * y)) (t + 1) (by omega) (by omega) (by omega) (by rw [whN_s ht.1 hw]; rw [gm]; (repeat' split) <;> first | rfl | omega) (by omega))
                · refine V_aload_n (pc := 96) C dX9_when_96 rfl 4 rfl ?_
                  refine gf_X9_13 (x := q 6) (pc := 97) C dX9_when_97 0 rfl rfl ?_
                  refine V_iload_n (pc := 100) C dX9_when_100 rfl 5 rfl ?_
                  refine V_iald (f := M6) (pc := 101) C dX9_when_101 1 rfl (by omega) (by omega) (Nat.le_of_ble_eq_true rfl) ?_
                  have b101 := hM6 p
                  refine V_iload (pc := 102) C dX9_when_102 0 rfl ?_
                  refine V_iload_n (pc := 104) C dX9_when_104 rfl 7 rfl ?_
                  refine V_imul (pc := 105) C dX9_when_105 ?_
                  refine V_iadd (pc := 106) C dX9_when_106 ?_
                  refine V_goto (pc := 107) 112 C dX9_when_107 (by decide) ?_
                  refine V_istore (lv' := [(9, .int (iI ((M6 p) + (t * g)))), (8, .int (iI t)), (7, .int (iI z)), (6, .int (iI x)), (5, .int (iI b)), (0, .ref o), (1, .int (iI p)), (2, .int (iI k)), (3, .int (iI g)), (4, .int (iI y))]) (pc := 112) C dX9_when_112 (by decide) rfl ?_
                  have gm : min 99 (M6 p + t * g) = ((M6 p) + (t * g)) := by omega
                  refine V_aload_n (pc := 114) C dX9_when_114 rfl 5 rfl ?_
                  refine gf_X9_19 (x := q 8) (pc := 115) C dX9_when_115 0 rfl rfl ?_
                  refine V_iload_n (pc := 118) C dX9_when_118 rfl 7 rfl ?_
                  refine V_iald (f := M8) (pc := 119) C dX9_when_119 2 rfl (by omega) (by omega) (Nat.le_of_ble_eq_true rfl) ?_
                  have b119 := hM8 k
                  refine V_iload (pc := 120) C dX9_when_120 1 rfl ?_
                  refine V_iload (pc := 122) C dX9_when_122 9 rfl ?_
                  refine V_imul (pc := 124) C dX9_when_124 ?_
                  refine V_iadd (pc := 125) C dX9_when_125 ?_
                  refine V_istore (lv' := [(10, .int (iI ((M8 k) + (t * y)))), (9, .int (iI ((M6 p) + (t * g)))), (8, .int (iI t)), (7, .int (iI z)), (6, .int (iI x)), (5, .int (iI b)), (0, .ref o), (1, .int (iI p)), (2, .int (iI k)), (3, .int (iI g)), (4, .int (iI y))]) (pc := 126) C dX9_when_126 (by decide) rfl ?_
                  refine V_iload (pc := 128) C dX9_when_128 1 rfl ?_
                  refine V_iload (pc := 130) C dX9_when_130 3 rfl ?_
                  refine V_imul (pc := 132) C dX9_when_132 ?_
                  refine V_iload (pc := 133) C dX9_when_133 4 rfl ?_
                  refine V_iload (pc := 135) C dX9_when_135 0 rfl ?_
                  refine V_imul (pc := 137) C dX9_when_137 ?_
                  have m3 := mulb (show 0 ≤ ((M6 p) + (t * g)) ∧ ((M6 p) + (t * g)) ≤ 99 by omega) (show 0 ≤ z ∧ z ≤ 369 by omega)
                  have m4 := mulb (show 0 ≤ x ∧ x ≤ 99 by omega) (show 0 ≤ M8 k + t * y ∧ M8 k + t * y ≤ 378 by omega)
                  refine V_icmp_le (pc := 138) 153 C dX9_when_138 (by decide) (sm_i (by omega)) (sm_i (by omega)) (fun c138 => ?_) (fun c138 => ?_)
                  · refine V_iinc (lv' := [(8, .int (iI (t + 1))), (10, .int (iI ((M8 k) + (t * y)))), (9, .int (iI ((M6 p) + (t * g)))), (7, .int (iI z)), (6, .int (iI x)), (5, .int (iI b)), (0, .ref o), (1, .int (iI p)), (2, .int (iI k)), (3, .int (iI g)), (4, .int (iI y))]) (pc := 153) C dX9_when_153 2 rfl (by decide) rfl ?_
                    refine V_goto (pc := 156) 73 C dX9_when_156 (by decide) ?_
                    exact V_sub [0, 3, 4, 5, 6, 7, 8, 9, 10] rfl (ih73 b x z (t + 1) (by omega) (by omega) (by omega) (by rw [whN_s ht.1 hw]; rw [gm]; (repeat' split) <;> first | rfl | omega) (by omega))
                  · refine V_iload (pc := 141) C dX9_when_141 2 rfl ?_
                    refine V_istore (lv' := [(5, .int (iI t)), (10, .int (iI ((M8 k) + (t * y)))), (9, .int (iI ((M6 p) + (t * g)))), (8, .int (iI t)), (7, .int (iI z)), (6, .int (iI x)), (0, .ref o), (1, .int (iI p)), (2, .int (iI k)), (3, .int (iI g)), (4, .int (iI y))]) (pc := 143) C dX9_when_143 (by decide) rfl ?_
                    refine V_iload (pc := 145) C dX9_when_145 2 rfl ?_
                    refine V_istore (lv' := [(6, .int (iI ((M6 p) + (t * g)))), (5, .int (iI t)), (10, .int (iI ((M8 k) + (t * y)))), (9, .int (iI ((M6 p) + (t * g)))), (8, .int (iI t)), (7, .int (iI z)), (0, .ref o), (1, .int (iI p)), (2, .int (iI k)), (3, .int (iI g)), (4, .int (iI y))]) (pc := 147) C dX9_when_147 (by decide) rfl ?_
                    refine V_iload (pc := 149) C dX9_when_149 2 rfl ?_
                    refine V_istore (lv' := [(7, .int (iI ((M8 k) + (t * y)))), (6, .int (iI ((M6 p) + (t * g)))), (5, .int (iI t)), (10, .int (iI ((M8 k) + (t * y)))), (9, .int (iI ((M6 p) + (t * g)))), (8, .int (iI t)), (0, .ref o), (1, .int (iI p)), (2, .int (iI k)), (3, .int (iI g)), (4, .int (iI y))]) (pc := 151) C dX9_when_151 (by decide) rfl ?_
                    refine V_iinc (lv' := [(8, .int (iI (t + 1))), (7, .int (iI ((M8 k) + (t * y)))), (6, .int (iI ((M6 p) + (t * g)))), (5, .int (iI t)), (10, .int (iI ((M8 k) + (t * y)))), (9, .int (iI ((M6 p) + (t * g)))), (0, .ref o), (1, .int (iI p)), (2, .int (iI k)), (3, .int (iI g)), (4, .int (iI y))]) (pc := 153) C dX9_when_153 5 rfl (by decide) rfl ?_
                    refine V_goto (pc := 156) 73 C dX9_when_156 (by decide) ?_
                    exact V_sub [0, 1, 2, 3, 6, 7, 8, 9, 10] rfl (ih73 t ((M6 p) + (t * g)) ((M8 k) + (t * y)) (t + 1) (by omega) (by omega) (by omega) (by rw [whN_s ht.1 hw]; rw [gm]; (repeat' split) <;> first | rfl | omega) (by omega))
          exact V_sub [0, 1, 2, 3, 4, 5, 6, 7, 8] rfl (L73 (((31 : Int) - 1).toNat + 1) 0 (M6 p) (M8 k) 1 (by omega) (by omega) (by omega) (rfl) (Nat.lt_succ_self _))
        · refine V_bipush (pc := 48) C dX9_when_48 rfl ?_
          exact V_iret (pc := 50) C Z dX9_when_50 () trivial (ri (by unfold pWhen; (try dsimp only); (repeat' split) <;> first | rfl | omega)) rfl
    · refine V_iconst (pc := 21) C dX9_when_21 ?_
      exact V_iret (pc := 22) C Z dX9_when_22 () trivial (ri (by unfold pWhen; (try dsimp only); (repeat' split) <;> first | rfl | omega)) rfl
set_option maxRecDepth 100000 in
set_option maxHeartbeats 4000000 in
theorem c_X9_write (l : Launch) (D : va_G) (d : Nat → ClassId) (o : Nat) (q : Nat → Nat) (f : Nat → Int) (M1 : Int → Int) (n : Int) (v : Int) (hs : 0 ≤ f 2 ∧ f 2 ≤ 72) (hnn : -2147483648 ≤ n ∧ n ≤ 2147483647) (hv : -9223372036854775808 ≤ v ∧ v ≤ 9223372036854775807) : CU l yX9_write cX9_write 5 (some .int) 1 25 D d [.ref o, .int (iI n), .long (lI v)] [(o, .inr (9, fX9 q f)), (q 1, aI (d 0) 72 M1)] (fun (u : Int × Int × (Int → Int)) => u = pWrite (f 2) M1 n v) (fun (u : Int × Int × (Int → Int)) => some (.int (iI (u.1)))) (fun (u : Int × Int × (Int → Int)) => [(o, .inr (9, fX9 q (up (up f 0 0) 2 u.2.1))), (q 1, aI (d 0) 72 u.2.2)]) := by
  refine CU.mk (own := RX9) (lv := [(0, .ref o), (1, .int (iI n)), (2, .long (lI v))]) rfl (by decide) (Nat.le_of_ble_eq_true rfl) rfl ?_
  intro p9 e9 R9 s9 m9 args9 below9 meth9 c9 A9 Q9 hRf hRl C Z
  refine V_aload_n (pc := 0) C dX9_write_0 rfl 0 rfl ?_
  refine V_iconst (pc := 1) C dX9_write_1 ?_
  refine pf_X9_117 (ws' := [(o, .inr (9, fX9 q (up f 0 0))), (q 1, aI (d 0) 72 M1)]) (pc := 2) C dX9_write_2 0 rfl rfl ?_
  refine V_iload_n (pc := 5) C dX9_write_5 rfl 1 rfl ?_
  refine V_i2l (pc := 6) C dX9_write_6 (sm_i (by omega)) ?_
  refine V_lconst (k := 1) (pc := 7) C dX9_write_7 rfl ?_
  refine V_ldc2 (n := 8) (pc := 8) C dX9_write_8 w4_88 rfl ?_
  refine cs_X9_123 (pc := 11) (rest := []) (wn := fun _ => [(o, .inr (9, fX9 q (up f 0 0))), (q 1, aI (d 0) 72 M1)]) (sn := fun _ => [.int (iI (bI (1 ≤ n ∧ n ≤ 8)))]) C dX9_write_11 (c_X9_in l D d n 1 8 (show -9223372036854775808 ≤ n ∧ n ≤ 9223372036854775807 by omega) (show -9223372036854775808 ≤ 1 ∧ 1 ≤ 9223372036854775807 by omega) (show -9223372036854775808 ≤ 8 ∧ 8 ≤ 9223372036854775807 by omega)) [] rfl rfl rfl rfl (Nat.le_of_ble_eq_true rfl) ⟨by omega, by omega⟩ ⟨Nat.zero_le _, Nat.zero_le _⟩ (fun _ => rfl) (fun _ => rfl) (fun _ => rfl) ?_
  intro _ _
  refine V_ifb_ne (pc := 14) 20 C dX9_write_14 (by decide) (fun c14 => ?_) (fun c14 => ?_)
  · refine V_aload_n (pc := 20) C dX9_write_20 rfl 0 rfl ?_
    refine gf_X9_132 (x := f 2) (pc := 21) C dX9_write_21 0 rfl rfl ?_
    refine V_iload_n (pc := 24) C dX9_write_24 rfl 1 rfl ?_
    refine V_iadd (pc := 25) C dX9_write_25 ?_
    refine V_bipush (pc := 26) C dX9_write_26 rfl ?_
    refine V_icmp_le (pc := 28) 34 C dX9_write_28 (by decide) (sm_i (by omega)) (sm_i (by decide)) (fun c28 => ?_) (fun c28 => ?_)
    · refine V_iload_n (pc := 34) C dX9_write_34 rfl 1 rfl ?_
      refine V_iconst (pc := 35) C dX9_write_35 ?_
      refine V_isub (pc := 36) C dX9_write_36 ?_
      refine V_istore (lv' := [(4, .int (iI (n - 1))), (0, .ref o), (1, .int (iI n)), (2, .long (lI v))]) (pc := 37) C dX9_write_37 (by decide) rfl ?_
      have L39 : ∀ (nn9 : Nat) (k : Int) (G : Int → Int) (g : Nat → Int), (-1 ≤ k ∧ k ≤ n - 1) → (g = up (up f 0 0) 2 (f 2 + (n - 1 - k))) → (G = apS M1 (f 2) n v (n - 1 - k)) → (k + 1).toNat < nn9 → V p9 l e9 R9 s9 m9 args9 below9 meth9 c9 A9 D Q9 5 0 0 [(o, .inr (9, fX9 q g)), (q 1, aI (d 0) 72 G)] [(4, .int (iI k)), (0, .ref o), (1, .int (iI n)), (2, .long (lI v))] 39 [] := by
        intro nn9
        induction nn9 with
        | zero => intro _ _ _ _ _ _ hm39; exact absurd hm39 (Nat.not_lt_zero _)
        | succ nn9 ih39 =>
          intro k G g hk hg hG hm39
          have hl : g 2 = f 2 + (n - 1 - k) := by rw [hg]; rfl
          refine V_iload (pc := 39) C dX9_write_39 0 rfl ?_
          refine V_if_lt (pc := 41) 81 C dX9_write_41 (by decide) (sm_i (by omega)) (fun c41 => ?_) (fun c41 => ?_)
          · refine V_aload_n (pc := 81) C dX9_write_81 rfl 1 rfl ?_
            refine gf_X9_132 (x := g 2) (pc := 82) C dX9_write_82 0 rfl rfl ?_
            refine V_eqt (show g 2 = f 2 + n from by omega) ?_
            have e9 : g 2 = f 2 + n := by omega
            exact V_iret (pc := 85) C Z dX9_write_85 (f 2 + n, f 2 + n, apS M1 (f 2) n v n) (by unfold pWrite; (try dsimp only); (repeat' split) <;> first | rfl | omega) (ri (by rfl)) (by rw [hG, hg, show f 2 + (n - 1 - k) = f 2 + n by omega, show n - 1 - k = n by omega])
          · refine V_aload_n (pc := 44) C dX9_write_44 rfl 1 rfl ?_
            refine gf_X9_7 (x := q 1) (pc := 45) C dX9_write_45 0 rfl rfl ?_
            refine V_aload_n (pc := 48) C dX9_write_48 rfl 1 rfl ?_
            refine gf_X9_132 (x := g 2) (pc := 49) C dX9_write_49 0 rfl rfl ?_
            refine V_lload_n (pc := 52) C dX9_write_52 rfl 3 rfl ?_
            refine V_bipush (pc := 53) C dX9_write_53 rfl ?_
            refine V_iload (pc := 55) C dX9_write_55 0 rfl ?_
            refine V_imul (pc := 57) C dX9_write_57 ?_
            refine V_lshr (z := (v / 2 ^ (8 * k).toNat)) (pc := 58) C dX9_write_58 (lI_shr hv (by omega) (by omega)) ?_
            refine V_l2i (pc := 59) C dX9_write_59 ?_
            refine V_sipush (pc := 60) C dX9_write_60 rfl ?_
            refine V_iand (z := ((v / 2 ^ (8 * k).toNat) % 256)) (pc := 63) C dX9_write_63 (and255_i (v / 2 ^ (8 * k).toNat)) ?_
            refine V_iast (f := G) (ws' := [(o, .inr (9, fX9 q g)), (q 1, aI (d 0) 72 (uI G (g 2) ((v / 2 ^ (8 * k).toNat) % 256)))]) (pc := 64) C dX9_write_64 1 rfl (by omega) (by omega) (Nat.le_of_ble_eq_true rfl) rfl ?_
            refine V_aload_n (pc := 65) C dX9_write_65 rfl 1 rfl ?_
            refine V_dup (pc := 66) C dX9_write_66 rfl ?_
            refine gf_X9_132 (x := g 2) (pc := 67) C dX9_write_67 0 rfl rfl ?_
            refine V_iconst (pc := 70) C dX9_write_70 ?_
            refine V_iadd (pc := 71) C dX9_write_71 ?_
            refine pf_X9_132 (ws' := [(o, .inr (9, fX9 q (up g 2 ((g 2) + 1)))), (q 1, aI (d 0) 72 (uI G (g 2) ((v / 2 ^ (8 * k).toNat) % 256)))]) (pc := 72) C dX9_write_72 0 rfl rfl ?_
            refine V_iinc (lv' := [(4, .int (iI (k + (-1)))), (0, .ref o), (1, .int (iI n)), (2, .long (lI v))]) (pc := 75) C dX9_write_75 0 rfl (by decide) rfl ?_
            refine V_goto (pc := 78) 39 C dX9_write_78 (by decide) ?_
            exact V_sub [0, 1, 2, 3] rfl (ih39 (k + (-1)) (uI G (g 2) ((v / 2 ^ (8 * k).toNat) % 256)) (up g 2 ((g 2) + 1)) (by omega) (by rw [hg, up_up]; congr 1; show f 2 + (n - 1 - k) + 1 = _; omega) (by rw [hG, hl, apS_s (by omega) (by rw [show n - 1 - (n - 1 - k) = k by omega])]; congr 1; omega) (by omega))
      exact V_sub [0, 1, 2, 3] rfl (L39 (((n - 1) + 1).toNat + 1) (n - 1) M1 (up f 0 0) (by omega) ((up_same (f := up f 0 0) (show f 2 + (n - 1 - (n - 1)) = f 2 by omega)).symm) (by rw [show n - 1 - (n - 1) = 0 by omega, apS_0]) (Nat.lt_succ_self _))
    · refine V_bipush (pc := 31) C dX9_write_31 rfl ?_
      exact V_iret (pc := 33) C Z dX9_write_33 (-4, f 2, M1) (by unfold pWrite; (try dsimp only); (repeat' split) <;> first | rfl | omega) (ri (by rfl)) (by first | rfl | rw [up_same rfl])
  · refine V_bipush (pc := 17) C dX9_write_17 rfl ?_
    exact V_iret (pc := 19) C Z dX9_write_19 (-2, f 2, M1) (by unfold pWrite; (try dsimp only); (repeat' split) <;> first | rfl | omega) (ri (by rfl)) (by first | rfl | rw [up_same rfl])
set_option maxRecDepth 100000 in
set_option maxHeartbeats 4000000 in
theorem c_X9_wipe (l : Launch) (D : va_G) (d : Nat → ClassId) (o : Nat) (q : Nat → Nat) (f : Nat → Int) : CU l yX9_wipe cX9_wipe 2 (some .int) 0 0 D d [.ref o] [(o, .inr (9, fX9 q f))] (fun (_ : Unit) => True) (fun (_ : Unit) => some (.int (iI (f 2)))) (fun (_ : Unit) => [(o, .inr (9, fX9 q (up (up f 0 0) 2 0)))]) := by
  refine CU.mk (own := RX9) (lv := [(0, .ref o)]) rfl (by decide) (Nat.le_of_ble_eq_true rfl) rfl ?_
  intro p9 e9 R9 s9 m9 args9 below9 meth9 c9 A9 Q9 hRf hRl C Z
  refine V_aload_n (pc := 0) C dX9_wipe_0 rfl 0 rfl ?_
  refine V_iconst (pc := 1) C dX9_wipe_1 ?_
  refine pf_X9_117 (ws' := [(o, .inr (9, fX9 q (up f 0 0)))]) (pc := 2) C dX9_wipe_2 0 rfl rfl ?_
  refine V_aload_n (pc := 5) C dX9_wipe_5 rfl 0 rfl ?_
  refine gf_X9_132 (x := f 2) (pc := 6) C dX9_wipe_6 0 rfl rfl ?_
  refine V_istore_n (lv' := [(1, .int (iI (f 2))), (0, .ref o)]) (pc := 9) C dX9_wipe_9 rfl (by decide) rfl ?_
  refine V_aload_n (pc := 10) C dX9_wipe_10 rfl 1 rfl ?_
  refine V_iconst (pc := 11) C dX9_wipe_11 ?_
  refine pf_X9_132 (ws' := [(o, .inr (9, fX9 q (up (up f 0 0) 2 0)))]) (pc := 12) C dX9_wipe_12 0 rfl rfl ?_
  refine V_iload_n (pc := 15) C dX9_wipe_15 rfl 0 rfl ?_
  exact V_iret (pc := 16) C Z dX9_wipe_16 () trivial (ri (by first | rfl | omega | exact bI_t (by omega) | exact bI_f (by omega))) rfl
set_option maxRecDepth 100000 in
set_option maxHeartbeats 4000000 in
theorem c_X9_count (l : Launch) (D : va_G) (d : Nat → ClassId) (o : Nat) (q : Nat → Nat) (f : Nat → Int) (w : Int) (hw : -2147483648 ≤ w ∧ w ≤ 2147483647) : CU l yX9_count cX9_count 2 (some .int) 0 0 D d [.ref o, .int (iI w)] [(o, .inr (9, fX9 q f))] (fun (_ : Unit) => True) (fun (_ : Unit) => some (.int (iI (pCount (f 4) (f 5) (f 21) (f 26) (f 32) (f 13) (f 2) w)))) (fun (_ : Unit) => [(o, .inr (9, fX9 q (up f 0 0)))]) := by
  refine CU.mk (own := RX9) (lv := [(0, .ref o), (1, .int (iI w))]) rfl (by decide) (Nat.le_of_ble_eq_true rfl) rfl ?_
  intro p9 e9 R9 s9 m9 args9 below9 meth9 c9 A9 Q9 hRf hRl C Z
  refine V_aload_n (pc := 0) C dX9_count_0 rfl 0 rfl ?_
  refine V_iconst (pc := 1) C dX9_count_1 ?_
  refine pf_X9_117 (ws' := [(o, .inr (9, fX9 q (up f 0 0)))]) (pc := 2) C dX9_count_2 0 rfl rfl ?_
  refine V_iload_n (pc := 5) C dX9_count_5 rfl 1 rfl ?_
  by_cases k6_0 : w = 0
  · refine V_tswIn (pc := 6) (k := 0) 48 C dX9_count_6 k6_0 (sm_i (by omega)) (by decide) (by decide) rfl (by decide) ?_
    refine V_aload_n (pc := 48) C dX9_count_48 rfl 0 rfl ?_
    refine gf_X9_120 (x := f 4) (pc := 49) C dX9_count_49 0 rfl rfl ?_
    exact V_iret (pc := 52) C Z dX9_count_52 () trivial (ri (by unfold pCount; (try dsimp only); (repeat' split) <;> first | rfl | omega)) rfl
  by_cases k6_1 : w = 1
  · refine V_tswIn (pc := 6) (k := 1) 53 C dX9_count_6 k6_1 (sm_i (by omega)) (by decide) (by decide) rfl (by decide) ?_
    refine V_aload_n (pc := 53) C dX9_count_53 rfl 0 rfl ?_
    refine gf_X9_127 (x := f 5) (pc := 54) C dX9_count_54 0 rfl rfl ?_
    exact V_iret (pc := 57) C Z dX9_count_57 () trivial (ri (by unfold pCount; (try dsimp only); (repeat' split) <;> first | rfl | omega)) rfl
  by_cases k6_2 : w = 2
  · refine V_tswIn (pc := 6) (k := 2) 58 C dX9_count_6 k6_2 (sm_i (by omega)) (by decide) (by decide) rfl (by decide) ?_
    refine V_aload_n (pc := 58) C dX9_count_58 rfl 0 rfl ?_
    refine gf_X9_177 (x := f 21) (pc := 59) C dX9_count_59 0 rfl rfl ?_
    exact V_iret (pc := 62) C Z dX9_count_62 () trivial (ri (by unfold pCount; (try dsimp only); (repeat' split) <;> first | rfl | omega)) rfl
  by_cases k6_3 : w = 3
  · refine V_tswIn (pc := 6) (k := 3) 63 C dX9_count_6 k6_3 (sm_i (by omega)) (by decide) (by decide) rfl (by decide) ?_
    refine V_aload_n (pc := 63) C dX9_count_63 rfl 0 rfl ?_
    refine gf_X9_224 (x := f 26) (pc := 64) C dX9_count_64 0 rfl rfl ?_
    exact V_iret (pc := 67) C Z dX9_count_67 () trivial (ri (by unfold pCount; (try dsimp only); (repeat' split) <;> first | rfl | omega)) rfl
  by_cases k6_4 : w = 4
  · refine V_tswIn (pc := 6) (k := 4) 68 C dX9_count_6 k6_4 (sm_i (by omega)) (by decide) (by decide) rfl (by decide) ?_
    refine V_aload_n (pc := 68) C dX9_count_68 rfl 0 rfl ?_
    refine gf_X9_254 (x := f 32) (pc := 69) C dX9_count_69 0 rfl rfl ?_
    exact V_iret (pc := 72) C Z dX9_count_72 () trivial (ri (by unfold pCount; (try dsimp only); (repeat' split) <;> first | rfl | omega)) rfl
  by_cases k6_5 : w = 5
  · refine V_tswIn (pc := 6) (k := 5) 73 C dX9_count_6 k6_5 (sm_i (by omega)) (by decide) (by decide) rfl (by decide) ?_
    refine V_aload_n (pc := 73) C dX9_count_73 rfl 0 rfl ?_
    refine gf_X9_35 (x := f 13) (pc := 74) C dX9_count_74 0 rfl rfl ?_
    exact V_iret (pc := 77) C Z dX9_count_77 () trivial (ri (by unfold pCount; (try dsimp only); (repeat' split) <;> first | rfl | omega)) rfl
  by_cases k6_6 : w = 6
  · refine V_tswIn (pc := 6) (k := 6) 78 C dX9_count_6 k6_6 (sm_i (by omega)) (by decide) (by decide) rfl (by decide) ?_
    refine V_aload_n (pc := 78) C dX9_count_78 rfl 0 rfl ?_
    refine gf_X9_132 (x := f 2) (pc := 79) C dX9_count_79 0 rfl rfl ?_
    exact V_iret (pc := 82) C Z dX9_count_82 () trivial (ri (by unfold pCount; (try dsimp only); (repeat' split) <;> first | rfl | omega)) rfl
  refine V_tswOut (pc := 6) 83 C dX9_count_6 (sm_i (by omega)) (by omega) (by decide) ?_
  refine V_bipush (pc := 83) C dX9_count_83 rfl ?_
  exact V_iret (pc := 85) C Z dX9_count_85 () trivial (ri (by unfold pCount; (try dsimp only); (repeat' split) <;> first | rfl | omega)) rfl
set_option maxRecDepth 100000 in
set_option maxHeartbeats 4000000 in
theorem c_X9_exchange (l : Launch) (D : va_G) (d : Nat → ClassId) (o : Nat) (q : Nat → Nat) (f : Nat → Int) (M27 : Int → Int) (M28 : Int → Int) (M29 : Int → Int) (M30 : Int → Int) (M31 : Int → Int) (a : Int) (b : Int) (x : Int) (y : Int) (z : Int) (h5 : 0 ≤ f 26 ∧ f 26 ≤ 8) (sa : -2147483648 ≤ a ∧ a ≤ 2147483647) (sb : -2147483648 ≤ b ∧ b ≤ 2147483647) (sx : -2147483648 ≤ x ∧ x ≤ 2147483647) (sy : -2147483648 ≤ y ∧ y ≤ 2147483647) (sz : -2147483648 ≤ z ∧ z ≤ 2147483647) : CU l yX9_exchange cX9_exchange 6 (some .int) 1 25 D d [.ref o, .int (iI a), .int (iI b), .int (iI x), .int (iI y), .int (iI z)] [(o, .inr (9, fX9 q f)), (q 27, aI (d 0) 8 M27), (q 28, aI (d 0) 8 M28), (q 29, aI (d 0) 8 M29), (q 30, aI (d 0) 8 M30), (q 31, aI (d 0) 8 M31)] (fun (u : Int × Int × (Int → Int) × (Int → Int) × (Int → Int) × (Int → Int) × (Int → Int)) => u = pExchange (f 26) M27 M28 M29 M30 M31 a b x y z) (fun (u : Int × Int × (Int → Int) × (Int → Int) × (Int → Int) × (Int → Int) × (Int → Int)) => some (.int (iI (u.1)))) (fun (u : Int × Int × (Int → Int) × (Int → Int) × (Int → Int) × (Int → Int) × (Int → Int)) => [(o, .inr (9, fX9 q (up (up f 0 0) 26 u.2.1))), (q 27, aI (d 0) 8 u.2.2.1), (q 28, aI (d 0) 8 u.2.2.2.1), (q 29, aI (d 0) 8 u.2.2.2.2.1), (q 30, aI (d 0) 8 u.2.2.2.2.2.1), (q 31, aI (d 0) 8 u.2.2.2.2.2.2)]) := by
  refine CU.mk (own := RX9) (lv := [(0, .ref o), (1, .int (iI a)), (2, .int (iI b)), (3, .int (iI x)), (4, .int (iI y)), (5, .int (iI z))]) rfl (by decide) (Nat.le_of_ble_eq_true rfl) rfl ?_
  intro p9 e9 R9 s9 m9 args9 below9 meth9 c9 A9 Q9 hRf hRl C Z
  refine V_aload_n (pc := 0) C dX9_exchange_0 rfl 0 rfl ?_
  refine V_iconst (pc := 1) C dX9_exchange_1 ?_
  refine pf_X9_117 (ws' := [(o, .inr (9, fX9 q (up f 0 0))), (q 27, aI (d 0) 8 M27), (q 28, aI (d 0) 8 M28), (q 29, aI (d 0) 8 M29), (q 30, aI (d 0) 8 M30), (q 31, aI (d 0) 8 M31)]) (pc := 2) C dX9_exchange_2 0 rfl rfl ?_
  refine V_iload_n (pc := 5) C dX9_exchange_5 rfl 1 rfl ?_
  refine V_i2l (pc := 6) C dX9_exchange_6 (sm_i (by omega)) ?_
  refine V_lconst (k := 0) (pc := 7) C dX9_exchange_7 rfl ?_
  refine V_ldc2 (n := 2) (pc := 8) C dX9_exchange_8 w4_228 rfl ?_
  refine cs_X9_123 (pc := 11) (rest := []) (wn := fun _ => [(o, .inr (9, fX9 q (up f 0 0))), (q 27, aI (d 0) 8 M27), (q 28, aI (d 0) 8 M28), (q 29, aI (d 0) 8 M29), (q 30, aI (d 0) 8 M30), (q 31, aI (d 0) 8 M31)]) (sn := fun _ => [.int (iI (bI (0 ≤ a ∧ a ≤ 2)))]) C dX9_exchange_11 (c_X9_in l D d a 0 2 (show -9223372036854775808 ≤ a ∧ a ≤ 9223372036854775807 by omega) (show -9223372036854775808 ≤ 0 ∧ 0 ≤ 9223372036854775807 by omega) (show -9223372036854775808 ≤ 2 ∧ 2 ≤ 9223372036854775807 by omega)) [] rfl rfl rfl rfl (Nat.le_of_ble_eq_true rfl) ⟨by omega, by omega⟩ ⟨Nat.zero_le _, Nat.zero_le _⟩ (fun _ => rfl) (fun _ => rfl) (fun _ => rfl) ?_
  intro _ _
  refine V_ifb_eq (pc := 14) 29 C dX9_exchange_14 (by decide) (fun c14 => ?_) (fun c14 => ?_)
  · refine V_iconst (pc := 29) C dX9_exchange_29 ?_
    exact V_iret (pc := 30) C Z dX9_exchange_30 (-1, f 26, M27, M28, M29, M30, M31) (by unfold pExchange; (try dsimp only); (repeat' split) <;> first | rfl | omega) (ri (by rfl)) (by first | rfl | rw [up_same rfl])
  · refine V_iload_n (pc := 17) C dX9_exchange_17 rfl 2 rfl ?_
    refine V_i2l (pc := 18) C dX9_exchange_18 (sm_i (by omega)) ?_
    refine V_lconst (k := 0) (pc := 19) C dX9_exchange_19 rfl ?_
    refine V_ldc2 (n := 2) (pc := 20) C dX9_exchange_20 w4_228 rfl ?_
    refine cs_X9_123 (pc := 23) (rest := []) (wn := fun _ => [(o, .inr (9, fX9 q (up f 0 0))), (q 27, aI (d 0) 8 M27), (q 28, aI (d 0) 8 M28), (q 29, aI (d 0) 8 M29), (q 30, aI (d 0) 8 M30), (q 31, aI (d 0) 8 M31)]) (sn := fun _ => [.int (iI (bI (0 ≤ b ∧ b ≤ 2)))]) C dX9_exchange_23 (c_X9_in l D d b 0 2 (show -9223372036854775808 ≤ b ∧ b ≤ 9223372036854775807 by omega) (show -9223372036854775808 ≤ 0 ∧ 0 ≤ 9223372036854775807 by omega) (show -9223372036854775808 ≤ 2 ∧ 2 ≤ 9223372036854775807 by omega)) [] rfl rfl rfl rfl (Nat.le_of_ble_eq_true rfl) ⟨by omega, by omega⟩ ⟨Nat.zero_le _, Nat.zero_le _⟩ (fun _ => rfl) (fun _ => rfl) (fun _ => rfl) ?_
    intro _ _
    refine V_ifb_ne (pc := 26) 31 C dX9_exchange_26 (by decide) (fun c26 => ?_) (fun c26 => ?_)
    · refine V_iload_n (pc := 31) C dX9_exchange_31 rfl 1 rfl ?_
      refine V_iload_n (pc := 32) C dX9_exchange_32 rfl 2 rfl ?_
      refine V_icmp_eq (pc := 33) 74 C dX9_exchange_33 (by decide) (sm_i (by omega)) (sm_i (by omega)) (fun c33 => ?_) (fun c33 => ?_)
      · refine V_bipush (pc := 74) C dX9_exchange_74 rfl ?_
        exact V_iret (pc := 76) C Z dX9_exchange_76 (-2, f 26, M27, M28, M29, M30, M31) (by unfold pExchange; (try dsimp only); (repeat' split) <;> first | rfl | omega) (ri (by rfl)) (by first | rfl | rw [up_same rfl])
      · refine V_iload_n (pc := 36) C dX9_exchange_36 rfl 3 rfl ?_
        refine V_i2l (pc := 37) C dX9_exchange_37 (sm_i (by omega)) ?_
        refine V_lconst (k := 1) (pc := 38) C dX9_exchange_38 rfl ?_
        refine V_ldc2 (n := 9) (pc := 39) C dX9_exchange_39 w4_120 rfl ?_
        refine cs_X9_123 (pc := 42) (rest := []) (wn := fun _ => [(o, .inr (9, fX9 q (up f 0 0))), (q 27, aI (d 0) 8 M27), (q 28, aI (d 0) 8 M28), (q 29, aI (d 0) 8 M29), (q 30, aI (d 0) 8 M30), (q 31, aI (d 0) 8 M31)]) (sn := fun _ => [.int (iI (bI (1 ≤ x ∧ x ≤ 9)))]) C dX9_exchange_42 (c_X9_in l D d x 1 9 (show -9223372036854775808 ≤ x ∧ x ≤ 9223372036854775807 by omega) (show -9223372036854775808 ≤ 1 ∧ 1 ≤ 9223372036854775807 by omega) (show -9223372036854775808 ≤ 9 ∧ 9 ≤ 9223372036854775807 by omega)) [] rfl rfl rfl rfl (Nat.le_of_ble_eq_true rfl) ⟨by omega, by omega⟩ ⟨Nat.zero_le _, Nat.zero_le _⟩ (fun _ => rfl) (fun _ => rfl) (fun _ => rfl) ?_
        intro _ _
        refine V_ifb_eq (pc := 45) 74 C dX9_exchange_45 (by decide) (fun c45 => ?_) (fun c45 => ?_)
        · refine V_bipush (pc := 74) C dX9_exchange_74 rfl ?_
          exact V_iret (pc := 76) C Z dX9_exchange_76 (-2, f 26, M27, M28, M29, M30, M31) (by unfold pExchange; (try dsimp only); (repeat' split) <;> first | rfl | omega) (ri (by rfl)) (by first | rfl | rw [up_same rfl])
        · refine V_iload (pc := 48) C dX9_exchange_48 4 rfl ?_
          refine V_i2l (pc := 50) C dX9_exchange_50 (sm_i (by omega)) ?_
          refine V_lconst (k := 1) (pc := 51) C dX9_exchange_51 rfl ?_
          refine V_ldc2 (n := 9) (pc := 52) C dX9_exchange_52 w4_120 rfl ?_
          refine cs_X9_123 (pc := 55) (rest := []) (wn := fun _ => [(o, .inr (9, fX9 q (up f 0 0))), (q 27, aI (d 0) 8 M27), (q 28, aI (d 0) 8 M28), (q 29, aI (d 0) 8 M29), (q 30, aI (d 0) 8 M30), (q 31, aI (d 0) 8 M31)]) (sn := fun _ => [.int (iI (bI (1 ≤ y ∧ y ≤ 9)))]) C dX9_exchange_55 (c_X9_in l D d y 1 9 (show -9223372036854775808 ≤ y ∧ y ≤ 9223372036854775807 by omega) (show -9223372036854775808 ≤ 1 ∧ 1 ≤ 9223372036854775807 by omega) (show -9223372036854775808 ≤ 9 ∧ 9 ≤ 9223372036854775807 by omega)) [] rfl rfl rfl rfl (Nat.le_of_ble_eq_true rfl) ⟨by omega, by omega⟩ ⟨Nat.zero_le _, Nat.zero_le _⟩ (fun _ => rfl) (fun _ => rfl) (fun _ => rfl) ?_
          intro _ _
          refine V_ifb_eq (pc := 58) 74 C dX9_exchange_58 (by decide) (fun c58 => ?_) (fun c58 => ?_)
          · refine V_bipush (pc := 74) C dX9_exchange_74 rfl ?_
            exact V_iret (pc := 76) C Z dX9_exchange_76 (-2, f 26, M27, M28, M29, M30, M31) (by unfold pExchange; (try dsimp only); (repeat' split) <;> first | rfl | omega) (ri (by rfl)) (by first | rfl | rw [up_same rfl])
          · refine V_iload (pc := 61) C dX9_exchange_61 5 rfl ?_
            refine V_i2l (pc := 63) C dX9_exchange_63 (sm_i (by omega)) ?_
            refine V_lconst (k := 1) (pc := 64) C dX9_exchange_64 rfl ?_
            refine V_ldc2 (n := 99) (pc := 65) C dX9_exchange_65 w4_170 rfl ?_
            refine cs_X9_123 (pc := 68) (rest := []) (wn := fun _ => [(o, .inr (9, fX9 q (up f 0 0))), (q 27, aI (d 0) 8 M27), (q 28, aI (d 0) 8 M28), (q 29, aI (d 0) 8 M29), (q 30, aI (d 0) 8 M30), (q 31, aI (d 0) 8 M31)]) (sn := fun _ => [.int (iI (bI (1 ≤ z ∧ z ≤ 99)))]) C dX9_exchange_68 (c_X9_in l D d z 1 99 (show -9223372036854775808 ≤ z ∧ z ≤ 9223372036854775807 by omega) (show -9223372036854775808 ≤ 1 ∧ 1 ≤ 9223372036854775807 by omega) (show -9223372036854775808 ≤ 99 ∧ 99 ≤ 9223372036854775807 by omega)) [] rfl rfl rfl rfl (Nat.le_of_ble_eq_true rfl) ⟨by omega, by omega⟩ ⟨Nat.zero_le _, Nat.zero_le _⟩ (fun _ => rfl) (fun _ => rfl) (fun _ => rfl) ?_
            intro _ _
            refine V_ifb_ne (pc := 71) 77 C dX9_exchange_71 (by decide) (fun c71 => ?_) (fun c71 => ?_)
            · refine V_aload_n (pc := 77) C dX9_exchange_77 rfl 0 rfl ?_
              refine gf_X9_224 (x := f 26) (pc := 78) C dX9_exchange_78 0 rfl rfl ?_
              refine V_bipush (pc := 81) C dX9_exchange_81 rfl ?_
              refine V_icmp_ne (pc := 83) 89 C dX9_exchange_83 (by decide) (sm_i (by omega)) (sm_i (by decide)) (fun c83 => ?_) (fun c83 => ?_)
              · refine V_aload_n (pc := 89) C dX9_exchange_89 rfl 0 rfl ?_
                refine gf_X9_66 (x := q 27) (pc := 90) C dX9_exchange_90 0 rfl rfl ?_
                refine V_aload_n (pc := 93) C dX9_exchange_93 rfl 0 rfl ?_
                refine gf_X9_224 (x := f 26) (pc := 94) C dX9_exchange_94 0 rfl rfl ?_
                refine V_iload_n (pc := 97) C dX9_exchange_97 rfl 1 rfl ?_
                refine V_iast (f := M27) (ws' := [(o, .inr (9, fX9 q (up f 0 0))), (q 27, aI (d 0) 8 (uI M27 (f 26) a)), (q 28, aI (d 0) 8 M28), (q 29, aI (d 0) 8 M29), (q 30, aI (d 0) 8 M30), (q 31, aI (d 0) 8 M31)]) (pc := 98) C dX9_exchange_98 1 rfl (by omega) (by omega) (Nat.le_of_ble_eq_true rfl) rfl ?_
                refine V_aload_n (pc := 99) C dX9_exchange_99 rfl 0 rfl ?_
                refine gf_X9_69 (x := q 28) (pc := 100) C dX9_exchange_100 0 rfl rfl ?_
                refine V_aload_n (pc := 103) C dX9_exchange_103 rfl 0 rfl ?_
                refine gf_X9_224 (x := f 26) (pc := 104) C dX9_exchange_104 0 rfl rfl ?_
                refine V_iload_n (pc := 107) C dX9_exchange_107 rfl 2 rfl ?_
                refine V_iast (f := M28) (ws' := [(o, .inr (9, fX9 q (up f 0 0))), (q 27, aI (d 0) 8 (uI M27 (f 26) a)), (q 28, aI (d 0) 8 (uI M28 (f 26) b)), (q 29, aI (d 0) 8 M29), (q 30, aI (d 0) 8 M30), (q 31, aI (d 0) 8 M31)]) (pc := 108) C dX9_exchange_108 2 rfl (by omega) (by omega) (Nat.le_of_ble_eq_true rfl) rfl ?_
                refine V_aload_n (pc := 109) C dX9_exchange_109 rfl 0 rfl ?_
                refine gf_X9_72 (x := q 29) (pc := 110) C dX9_exchange_110 0 rfl rfl ?_
                refine V_aload_n (pc := 113) C dX9_exchange_113 rfl 0 rfl ?_
                refine gf_X9_224 (x := f 26) (pc := 114) C dX9_exchange_114 0 rfl rfl ?_
                refine V_iload_n (pc := 117) C dX9_exchange_117 rfl 3 rfl ?_
                refine V_iast (f := M29) (ws' := [(o, .inr (9, fX9 q (up f 0 0))), (q 27, aI (d 0) 8 (uI M27 (f 26) a)), (q 28, aI (d 0) 8 (uI M28 (f 26) b)), (q 29, aI (d 0) 8 (uI M29 (f 26) x)), (q 30, aI (d 0) 8 M30), (q 31, aI (d 0) 8 M31)]) (pc := 118) C dX9_exchange_118 3 rfl (by omega) (by omega) (Nat.le_of_ble_eq_true rfl) rfl ?_
                refine V_aload_n (pc := 119) C dX9_exchange_119 rfl 0 rfl ?_
                refine gf_X9_75 (x := q 30) (pc := 120) C dX9_exchange_120 0 rfl rfl ?_
                refine V_aload_n (pc := 123) C dX9_exchange_123 rfl 0 rfl ?_
                refine gf_X9_224 (x := f 26) (pc := 124) C dX9_exchange_124 0 rfl rfl ?_
                refine V_iload (pc := 127) C dX9_exchange_127 4 rfl ?_
                refine V_iast (f := M30) (ws' := [(o, .inr (9, fX9 q (up f 0 0))), (q 27, aI (d 0) 8 (uI M27 (f 26) a)), (q 28, aI (d 0) 8 (uI M28 (f 26) b)), (q 29, aI (d 0) 8 (uI M29 (f 26) x)), (q 30, aI (d 0) 8 (uI M30 (f 26) y)), (q 31, aI (d 0) 8 M31)]) (pc := 129) C dX9_exchange_129 4 rfl (by omega) (by omega) (Nat.le_of_ble_eq_true rfl) rfl ?_
                refine V_aload_n (pc := 130) C dX9_exchange_130 rfl 0 rfl ?_
                refine gf_X9_78 (x := q 31) (pc := 131) C dX9_exchange_131 0 rfl rfl ?_
                refine V_aload_n (pc := 134) C dX9_exchange_134 rfl 0 rfl ?_
                refine gf_X9_224 (x := f 26) (pc := 135) C dX9_exchange_135 0 rfl rfl ?_
                refine V_iload (pc := 138) C dX9_exchange_138 5 rfl ?_
                refine V_iast (f := M31) (ws' := [(o, .inr (9, fX9 q (up f 0 0))), (q 27, aI (d 0) 8 (uI M27 (f 26) a)), (q 28, aI (d 0) 8 (uI M28 (f 26) b)), (q 29, aI (d 0) 8 (uI M29 (f 26) x)), (q 30, aI (d 0) 8 (uI M30 (f 26) y)), (q 31, aI (d 0) 8 (uI M31 (f 26) z))]) (pc := 140) C dX9_exchange_140 5 rfl (by omega) (by omega) (Nat.le_of_ble_eq_true rfl) rfl ?_
                refine V_aload_n (pc := 141) C dX9_exchange_141 rfl 0 rfl ?_
                refine V_dup (pc := 142) C dX9_exchange_142 rfl ?_
                refine gf_X9_224 (x := f 26) (pc := 143) C dX9_exchange_143 0 rfl rfl ?_
                refine V_iconst (pc := 146) C dX9_exchange_146 ?_
                refine V_iadd (pc := 147) C dX9_exchange_147 ?_
                refine pf_X9_224 (ws' := [(o, .inr (9, fX9 q (up (up f 0 0) 26 ((f 26) + 1)))), (q 27, aI (d 0) 8 (uI M27 (f 26) a)), (q 28, aI (d 0) 8 (uI M28 (f 26) b)), (q 29, aI (d 0) 8 (uI M29 (f 26) x)), (q 30, aI (d 0) 8 (uI M30 (f 26) y)), (q 31, aI (d 0) 8 (uI M31 (f 26) z))]) (pc := 148) C dX9_exchange_148 0 rfl rfl ?_
                refine V_aload_n (pc := 151) C dX9_exchange_151 rfl 0 rfl ?_
                refine gf_X9_224 (x := ((f 26) + 1)) (pc := 152) C dX9_exchange_152 0 rfl rfl ?_
                exact V_iret (pc := 155) C Z dX9_exchange_155 ((f 26) + 1, (f 26) + 1, uI M27 (f 26) a, uI M28 (f 26) b, uI M29 (f 26) x, uI M30 (f 26) y, uI M31 (f 26) z) (by unfold pExchange; (try dsimp only); (repeat' split) <;> first | rfl | omega) (ri (by rfl)) (by first | rfl | rw [up_same rfl])
              · refine V_bipush (pc := 86) C dX9_exchange_86 rfl ?_
                exact V_iret (pc := 88) C Z dX9_exchange_88 (-4, f 26, M27, M28, M29, M30, M31) (by unfold pExchange; (try dsimp only); (repeat' split) <;> first | rfl | omega) (ri (by rfl)) (by first | rfl | rw [up_same rfl])
            · refine V_bipush (pc := 74) C dX9_exchange_74 rfl ?_
              exact V_iret (pc := 76) C Z dX9_exchange_76 (-2, f 26, M27, M28, M29, M30, M31) (by unfold pExchange; (try dsimp only); (repeat' split) <;> first | rfl | omega) (ri (by rfl)) (by first | rfl | rw [up_same rfl])
    · refine V_iconst (pc := 29) C dX9_exchange_29 ?_
      exact V_iret (pc := 30) C Z dX9_exchange_30 (-1, f 26, M27, M28, M29, M30, M31) (by unfold pExchange; (try dsimp only); (repeat' split) <;> first | rfl | omega) (ri (by rfl)) (by first | rfl | rw [up_same rfl])
set_option maxRecDepth 100000 in
set_option maxHeartbeats 4000000 in
theorem c_X9_unchange (l : Launch) (D : va_G) (d : Nat → ClassId) (o : Nat) (q : Nat → Nat) (f : Nat → Int) : CU l yX9_unchange cX9_unchange 2 (some .int) 0 0 D d [.ref o] [(o, .inr (9, fX9 q f))] (fun (_ : Unit) => True) (fun (_ : Unit) => some (.int (iI (f 26)))) (fun (_ : Unit) => [(o, .inr (9, fX9 q (up (up f 0 0) 26 0)))]) := by
  refine CU.mk (own := RX9) (lv := [(0, .ref o)]) rfl (by decide) (Nat.le_of_ble_eq_true rfl) rfl ?_
  intro p9 e9 R9 s9 m9 args9 below9 meth9 c9 A9 Q9 hRf hRl C Z
  refine V_aload_n (pc := 0) C dX9_unchange_0 rfl 0 rfl ?_
  refine V_iconst (pc := 1) C dX9_unchange_1 ?_
  refine pf_X9_117 (ws' := [(o, .inr (9, fX9 q (up f 0 0)))]) (pc := 2) C dX9_unchange_2 0 rfl rfl ?_
  refine V_aload_n (pc := 5) C dX9_unchange_5 rfl 0 rfl ?_
  refine gf_X9_224 (x := f 26) (pc := 6) C dX9_unchange_6 0 rfl rfl ?_
  refine V_istore_n (lv' := [(1, .int (iI (f 26))), (0, .ref o)]) (pc := 9) C dX9_unchange_9 rfl (by decide) rfl ?_
  refine V_aload_n (pc := 10) C dX9_unchange_10 rfl 1 rfl ?_
  refine V_iconst (pc := 11) C dX9_unchange_11 ?_
  refine pf_X9_224 (ws' := [(o, .inr (9, fX9 q (up (up f 0 0) 26 0)))]) (pc := 12) C dX9_unchange_12 0 rfl rfl ?_
  refine V_iload_n (pc := 15) C dX9_unchange_15 rfl 0 rfl ?_
  exact V_iret (pc := 16) C Z dX9_unchange_16 () trivial (ri (by first | rfl | omega | exact bI_t (by omega) | exact bI_f (by omega))) rfl
set_option maxRecDepth 100000 in
set_option maxHeartbeats 4000000 in
theorem c_X9_unheld (l : Launch) (D : va_G) (d : Nat → ClassId) (o : Nat) (q : Nat → Nat) (f : Nat → Int) : CU l yX9_unheld cX9_unheld 2 (some .int) 0 0 D d [.ref o] [(o, .inr (9, fX9 q f))] (fun (_ : Unit) => True) (fun (_ : Unit) => some (.int (iI (f 32)))) (fun (_ : Unit) => [(o, .inr (9, fX9 q (up (up f 0 0) 32 0)))]) := by
  refine CU.mk (own := RX9) (lv := [(0, .ref o)]) rfl (by decide) (Nat.le_of_ble_eq_true rfl) rfl ?_
  intro p9 e9 R9 s9 m9 args9 below9 meth9 c9 A9 Q9 hRf hRl C Z
  refine V_aload_n (pc := 0) C dX9_unheld_0 rfl 0 rfl ?_
  refine V_iconst (pc := 1) C dX9_unheld_1 ?_
  refine pf_X9_117 (ws' := [(o, .inr (9, fX9 q (up f 0 0)))]) (pc := 2) C dX9_unheld_2 0 rfl rfl ?_
  refine V_aload_n (pc := 5) C dX9_unheld_5 rfl 0 rfl ?_
  refine gf_X9_254 (x := f 32) (pc := 6) C dX9_unheld_6 0 rfl rfl ?_
  refine V_istore_n (lv' := [(1, .int (iI (f 32))), (0, .ref o)]) (pc := 9) C dX9_unheld_9 rfl (by decide) rfl ?_
  refine V_aload_n (pc := 10) C dX9_unheld_10 rfl 1 rfl ?_
  refine V_iconst (pc := 11) C dX9_unheld_11 ?_
  refine pf_X9_254 (ws' := [(o, .inr (9, fX9 q (up (up f 0 0) 32 0)))]) (pc := 12) C dX9_unheld_12 0 rfl rfl ?_
  refine V_iload_n (pc := 15) C dX9_unheld_15 rfl 0 rfl ?_
  exact V_iret (pc := 16) C Z dX9_unheld_16 () trivial (ri (by first | rfl | omega | exact bI_t (by omega) | exact bI_f (by omega))) rfl
