set_option maxRecDepth 100000 in
set_option maxHeartbeats 4000000 in
theorem c_X9_isRing_2 (l : Launch) (D : va_G) (d : Nat → ClassId) (o : Nat) (q : Nat → Nat) (f : Nat → Int) (M27 : Int → Int) (M28 : Int → Int) (M42 : Int → Int) (hM27 : bd M27 0 2) (hM28 : bd M28 0 2) (hM42 : bd M42 0 7) : CU l yX9_isRing cX9_isRing 5 (some .boolean) 0 0 D d [.ref o, .int (iI 2)] [(o, .inr (9, fX9 q f)), (q 27, aI (d 0) 8 M27), (q 28, aI (d 0) 8 M28), (q 42, aI (d 0) 6 M42)] (fun (_ : Unit) => True) (fun (_ : Unit) => some (.int (iI (bI (M28 (M42 0) = M27 (M42 1) ∧ M28 (M42 1) = M27 (M42 0) ∧ ¬ M27 (M42 1) = M27 (M42 0)))))) (fun (_ : Unit) => [(o, .inr (9, fX9 q f)), (q 27, aI (d 0) 8 M27), (q 28, aI (d 0) 8 M28), (q 42, aI (d 0) 6 M42)]) := by
  refine CU.mk (own := RX9) (lv := [(0, .ref o), (1, .int (iI 2))]) rfl (by decide) (Nat.le_of_ble_eq_true rfl) rfl ?_
  intro p9 e9 R9 s9 m9 args9 below9 meth9 c9 A9 Q9 hRf hRl C Z
  refine V_iconst (pc := 0) C dX9_isRing_0 ?_
  refine V_istore_n (lv' := [(2, .int (iI 1)), (0, .ref o), (1, .int (iI 2))]) (pc := 1) C dX9_isRing_1 rfl (by decide) rfl ?_
  refine V_iconst (pc := 2) C dX9_isRing_2 ?_
  refine V_istore_n (lv' := [(3, .int (iI 0)), (2, .int (iI 1)), (0, .ref o), (1, .int (iI 2))]) (pc := 3) C dX9_isRing_3 rfl (by decide) rfl ?_
  refine V_iload_n (pc := 4) C dX9_isRing_4 rfl 0 rfl ?_
  refine V_iload_n (pc := 5) C dX9_isRing_5 rfl 3 rfl ?_
  refine V_icmp_ge (pc := 6) 105 C dX9_isRing_6 (by decide) (sm_i (by decide)) (sm_i (by decide)) (fun c6 => ?_) (fun c6 => ?_)
  · exact absurd c6 (by decide)
  · refine V_iload_n (pc := 9) C dX9_isRing_9 rfl 1 rfl ?_
    refine V_if_eq (pc := 10) 46 C dX9_isRing_10 (by decide) (sm_i (by decide)) (fun c10 => ?_) (fun c10 => ?_)
    · exact absurd c10 (by decide)
    · refine V_aload_n (pc := 13) C dX9_isRing_13 rfl 2 rfl ?_
      refine gf_X9_69 (x := q 28) (pc := 14) C dX9_isRing_14 0 rfl rfl ?_
      refine V_aload_n (pc := 17) C dX9_isRing_17 rfl 2 rfl ?_
      refine gf_X9_108 (x := q 42) (pc := 18) C dX9_isRing_18 0 rfl rfl ?_
      refine V_iload_n (pc := 21) C dX9_isRing_21 rfl 0 rfl ?_
      refine V_iald (f := M42) (pc := 22) C dX9_isRing_22 3 rfl (by omega) (by omega) (Nat.le_of_ble_eq_true rfl) ?_
      have b22 := hM42 0
      refine V_iald (f := M28) (pc := 23) C dX9_isRing_23 2 rfl (by omega) (by omega) (Nat.le_of_ble_eq_true rfl) ?_
      have b23 := hM28 (M42 0)
      refine V_aload_n (pc := 24) C dX9_isRing_24 rfl 2 rfl ?_
      refine gf_X9_66 (x := q 27) (pc := 25) C dX9_isRing_25 0 rfl rfl ?_
      refine V_aload_n (pc := 28) C dX9_isRing_28 rfl 2 rfl ?_
      refine gf_X9_108 (x := q 42) (pc := 29) C dX9_isRing_29 0 rfl rfl ?_
      refine V_iload_n (pc := 32) C dX9_isRing_32 rfl 0 rfl ?_
      refine V_iconst (pc := 33) C dX9_isRing_33 ?_
      refine V_iadd (pc := 34) C dX9_isRing_34 ?_
      refine V_eqt (y := 1) (by decide) ?_
      refine V_iload_n (pc := 35) C dX9_isRing_35 rfl 3 rfl ?_
      refine V_irem (pc := 36) C dX9_isRing_36 (by omega) ?_
      refine V_eqt (y := 1) (by decide) ?_
      refine V_iald (f := M42) (pc := 37) C dX9_isRing_37 3 rfl (by omega) (by omega) (Nat.le_of_ble_eq_true rfl) ?_
      have b37 := hM42 1
      refine V_iald (f := M27) (pc := 38) C dX9_isRing_38 1 rfl (by omega) (by omega) (Nat.le_of_ble_eq_true rfl) ?_
      have b38 := hM27 (M42 1)
      refine V_icmp_ne (pc := 39) 46 C dX9_isRing_39 (by decide) (sm_i (by omega)) (sm_i (by omega)) (fun c39 => ?_) (fun c39 => ?_)
      · refine V_iconst (pc := 46) C dX9_isRing_46 ?_
        refine V_istore_n (lv' := [(2, .int (iI 0)), (3, .int (iI 0)), (0, .ref o), (1, .int (iI 2))]) (pc := 47) C dX9_isRing_47 rfl (by decide) rfl ?_
        refine V_iconst (pc := 48) C dX9_isRing_48 ?_
        refine V_istore (lv' := [(4, .int (iI 0)), (2, .int (iI 0)), (3, .int (iI 0)), (0, .ref o), (1, .int (iI 2))]) (pc := 49) C dX9_isRing_49 (by decide) rfl ?_
        refine V_iload (pc := 51) C dX9_isRing_51 0 rfl ?_
        refine V_iload_n (pc := 53) C dX9_isRing_53 rfl 2 rfl ?_
        refine V_icmp_ge (pc := 54) 99 C dX9_isRing_54 (by decide) (sm_i (by decide)) (sm_i (by decide)) (fun c54 => ?_) (fun c54 => ?_)
        · refine V_iinc (lv' := [(3, .int (iI 1)), (4, .int (iI 0)), (2, .int (iI 0)), (0, .ref o), (1, .int (iI 2))]) (pc := 99) C dX9_isRing_99 2 rfl (by decide) rfl ?_
          refine V_goto (pc := 102) 4 C dX9_isRing_102 (by decide) ?_
          refine V_iload_n (pc := 4) C dX9_isRing_4 rfl 0 rfl ?_
          refine V_iload_n (pc := 5) C dX9_isRing_5 rfl 4 rfl ?_
          refine V_icmp_ge (pc := 6) 105 C dX9_isRing_6 (by decide) (sm_i (by decide)) (sm_i (by decide)) (fun c6 => ?_) (fun c6 => ?_)
          · exact absurd c6 (by decide)
          · refine V_iload_n (pc := 9) C dX9_isRing_9 rfl 2 rfl ?_
            refine V_if_eq (pc := 10) 46 C dX9_isRing_10 (by decide) (sm_i (by decide)) (fun c10 => ?_) (fun c10 => ?_)
            · refine V_iconst (pc := 46) C dX9_isRing_46 ?_
              refine V_istore_n (lv' := [(2, .int (iI 0)), (3, .int (iI 1)), (4, .int (iI 0)), (0, .ref o), (1, .int (iI 2))]) (pc := 47) C dX9_isRing_47 rfl (by decide) rfl ?_
              refine V_iconst (pc := 48) C dX9_isRing_48 ?_
              refine V_istore (lv' := [(4, .int (iI 0)), (2, .int (iI 0)), (3, .int (iI 1)), (0, .ref o), (1, .int (iI 2))]) (pc := 49) C dX9_isRing_49 (by decide) rfl ?_
              refine V_iload (pc := 51) C dX9_isRing_51 0 rfl ?_
              refine V_iload_n (pc := 53) C dX9_isRing_53 rfl 2 rfl ?_
              refine V_icmp_ge (pc := 54) 99 C dX9_isRing_54 (by decide) (sm_i (by decide)) (sm_i (by decide)) (fun c54 => ?_) (fun c54 => ?_)
              · exact absurd c54 (by decide)
              · refine V_iload_n (pc := 57) C dX9_isRing_57 rfl 1 rfl ?_
                refine V_if_eq (pc := 58) 91 C dX9_isRing_58 (by decide) (sm_i (by decide)) (fun c58 => ?_) (fun c58 => ?_)
                · refine V_iconst (pc := 91) C dX9_isRing_91 ?_
                  refine V_istore_n (lv' := [(2, .int (iI 0)), (4, .int (iI 0)), (3, .int (iI 1)), (0, .ref o), (1, .int (iI 2))]) (pc := 92) C dX9_isRing_92 rfl (by decide) rfl ?_
                  refine V_iinc (lv' := [(4, .int (iI 1)), (2, .int (iI 0)), (3, .int (iI 1)), (0, .ref o), (1, .int (iI 2))]) (pc := 93) C dX9_isRing_93 1 rfl (by decide) rfl ?_
                  refine V_goto (pc := 96) 51 C dX9_isRing_96 (by decide) ?_
                  refine V_iload (pc := 51) C dX9_isRing_51 0 rfl ?_
                  refine V_iload_n (pc := 53) C dX9_isRing_53 rfl 2 rfl ?_
                  refine V_icmp_ge (pc := 54) 99 C dX9_isRing_54 (by decide) (sm_i (by decide)) (sm_i (by decide)) (fun c54 => ?_) (fun c54 => ?_)
                  · refine V_iinc (lv' := [(3, .int (iI 2)), (4, .int (iI 1)), (2, .int (iI 0)), (0, .ref o), (1, .int (iI 2))]) (pc := 99) C dX9_isRing_99 2 rfl (by decide) rfl ?_
                    refine V_goto (pc := 102) 4 C dX9_isRing_102 (by decide) ?_
                    refine V_iload_n (pc := 4) C dX9_isRing_4 rfl 0 rfl ?_
                    refine V_iload_n (pc := 5) C dX9_isRing_5 rfl 4 rfl ?_
                    refine V_icmp_ge (pc := 6) 105 C dX9_isRing_6 (by decide) (sm_i (by decide)) (sm_i (by decide)) (fun c6 => ?_) (fun c6 => ?_)
                    · refine V_iload_n (pc := 105) C dX9_isRing_105 rfl 2 rfl ?_
                      exact V_zret (pc := 106) C Z dX9_isRing_106 (Or.inl rfl) () trivial (ri (by first | rfl | omega | exact bI_t (by omega) | exact bI_f (by omega))) rfl
                    · exact absurd c6 (by decide)
                  · exact absurd c54 (by decide)
                · exact absurd c58 (by decide)
            · exact absurd c10 (by decide)
        · exact absurd c54 (by decide)
      · refine V_iconst (pc := 42) C dX9_isRing_42 ?_
        refine V_goto (pc := 43) 47 C dX9_isRing_43 (by decide) ?_
        refine V_istore_n (lv' := [(2, .int (iI 1)), (3, .int (iI 0)), (0, .ref o), (1, .int (iI 2))]) (pc := 47) C dX9_isRing_47 rfl (by decide) rfl ?_
        refine V_iconst (pc := 48) C dX9_isRing_48 ?_
        refine V_istore (lv' := [(4, .int (iI 0)), (2, .int (iI 1)), (3, .int (iI 0)), (0, .ref o), (1, .int (iI 2))]) (pc := 49) C dX9_isRing_49 (by decide) rfl ?_
        refine V_iload (pc := 51) C dX9_isRing_51 0 rfl ?_
        refine V_iload_n (pc := 53) C dX9_isRing_53 rfl 2 rfl ?_
        refine V_icmp_ge (pc := 54) 99 C dX9_isRing_54 (by decide) (sm_i (by decide)) (sm_i (by decide)) (fun c54 => ?_) (fun c54 => ?_)
        · refine V_iinc (lv' := [(3, .int (iI 1)), (4, .int (iI 0)), (2, .int (iI 1)), (0, .ref o), (1, .int (iI 2))]) (pc := 99) C dX9_isRing_99 2 rfl (by decide) rfl ?_
          refine V_goto (pc := 102) 4 C dX9_isRing_102 (by decide) ?_
          refine V_iload_n (pc := 4) C dX9_isRing_4 rfl 0 rfl ?_
          refine V_iload_n (pc := 5) C dX9_isRing_5 rfl 4 rfl ?_
          refine V_icmp_ge (pc := 6) 105 C dX9_isRing_6 (by decide) (sm_i (by decide)) (sm_i (by decide)) (fun c6 => ?_) (fun c6 => ?_)
          · exact absurd c6 (by decide)
          · refine V_iload_n (pc := 9) C dX9_isRing_9 rfl 2 rfl ?_
            refine V_if_eq (pc := 10) 46 C dX9_isRing_10 (by decide) (sm_i (by decide)) (fun c10 => ?_) (fun c10 => ?_)
            · exact absurd c10 (by decide)
            · refine V_aload_n (pc := 13) C dX9_isRing_13 rfl 3 rfl ?_
              refine gf_X9_69 (x := q 28) (pc := 14) C dX9_isRing_14 0 rfl rfl ?_
              refine V_aload_n (pc := 17) C dX9_isRing_17 rfl 3 rfl ?_
              refine gf_X9_108 (x := q 42) (pc := 18) C dX9_isRing_18 0 rfl rfl ?_
              refine V_iload_n (pc := 21) C dX9_isRing_21 rfl 0 rfl ?_
              refine V_iald (f := M42) (pc := 22) C dX9_isRing_22 3 rfl (by omega) (by omega) (Nat.le_of_ble_eq_true rfl) ?_
              have b22 := hM42 1
              refine V_iald (f := M28) (pc := 23) C dX9_isRing_23 2 rfl (by omega) (by omega) (Nat.le_of_ble_eq_true rfl) ?_
              have b23 := hM28 (M42 1)
              refine V_aload_n (pc := 24) C dX9_isRing_24 rfl 3 rfl ?_
              refine gf_X9_66 (x := q 27) (pc := 25) C dX9_isRing_25 0 rfl rfl ?_
              refine V_aload_n (pc := 28) C dX9_isRing_28 rfl 3 rfl ?_
              refine gf_X9_108 (x := q 42) (pc := 29) C dX9_isRing_29 0 rfl rfl ?_
              refine V_iload_n (pc := 32) C dX9_isRing_32 rfl 0 rfl ?_
              refine V_iconst (pc := 33) C dX9_isRing_33 ?_
              refine V_iadd (pc := 34) C dX9_isRing_34 ?_
              refine V_eqt (y := 2) (by decide) ?_
              refine V_iload_n (pc := 35) C dX9_isRing_35 rfl 4 rfl ?_
              refine V_irem (pc := 36) C dX9_isRing_36 (by omega) ?_
              refine V_eqt (y := 0) (by decide) ?_
              refine V_iald (f := M42) (pc := 37) C dX9_isRing_37 3 rfl (by omega) (by omega) (Nat.le_of_ble_eq_true rfl) ?_
              have b37 := hM42 0
              refine V_iald (f := M27) (pc := 38) C dX9_isRing_38 1 rfl (by omega) (by omega) (Nat.le_of_ble_eq_true rfl) ?_
              have b38 := hM27 (M42 0)
              refine V_icmp_ne (pc := 39) 46 C dX9_isRing_39 (by decide) (sm_i (by omega)) (sm_i (by omega)) (fun c39 => ?_) (fun c39 => ?_)
              · refine V_iconst (pc := 46) C dX9_isRing_46 ?_
                refine V_istore_n (lv' := [(2, .int (iI 0)), (3, .int (iI 1)), (4, .int (iI 0)), (0, .ref o), (1, .int (iI 2))]) (pc := 47) C dX9_isRing_47 rfl (by decide) rfl ?_
                refine V_iconst (pc := 48) C dX9_isRing_48 ?_
                refine V_istore (lv' := [(4, .int (iI 0)), (2, .int (iI 0)), (3, .int (iI 1)), (0, .ref o), (1, .int (iI 2))]) (pc := 49) C dX9_isRing_49 (by decide) rfl ?_
                refine V_iload (pc := 51) C dX9_isRing_51 0 rfl ?_
                refine V_iload_n (pc := 53) C dX9_isRing_53 rfl 2 rfl ?_
                refine V_icmp_ge (pc := 54) 99 C dX9_isRing_54 (by decide) (sm_i (by decide)) (sm_i (by decide)) (fun c54 => ?_) (fun c54 => ?_)
                · exact absurd c54 (by decide)
                · refine V_iload_n (pc := 57) C dX9_isRing_57 rfl 1 rfl ?_
                  refine V_if_eq (pc := 58) 91 C dX9_isRing_58 (by decide) (sm_i (by decide)) (fun c58 => ?_) (fun c58 => ?_)
                  · refine V_iconst (pc := 91) C dX9_isRing_91 ?_
                    refine V_istore_n (lv' := [(2, .int (iI 0)), (4, .int (iI 0)), (3, .int (iI 1)), (0, .ref o), (1, .int (iI 2))]) (pc := 92) C dX9_isRing_92 rfl (by decide) rfl ?_
                    refine V_iinc (lv' := [(4, .int (iI 1)), (2, .int (iI 0)), (3, .int (iI 1)), (0, .ref o), (1, .int (iI 2))]) (pc := 93) C dX9_isRing_93 1 rfl (by decide) rfl ?_
                    refine V_goto (pc := 96) 51 C dX9_isRing_96 (by decide) ?_
                    refine V_iload (pc := 51) C dX9_isRing_51 0 rfl ?_
                    refine V_iload_n (pc := 53) C dX9_isRing_53 rfl 2 rfl ?_
                    refine V_icmp_ge (pc := 54) 99 C dX9_isRing_54 (by decide) (sm_i (by decide)) (sm_i (by decide)) (fun c54 => ?_) (fun c54 => ?_)
                    · refine V_iinc (lv' := [(3, .int (iI 2)), (4, .int (iI 1)), (2, .int (iI 0)), (0, .ref o), (1, .int (iI 2))]) (pc := 99) C dX9_isRing_99 2 rfl (by decide) rfl ?_
                      refine V_goto (pc := 102) 4 C dX9_isRing_102 (by decide) ?_
                      refine V_iload_n (pc := 4) C dX9_isRing_4 rfl 0 rfl ?_
                      refine V_iload_n (pc := 5) C dX9_isRing_5 rfl 4 rfl ?_
                      refine V_icmp_ge (pc := 6) 105 C dX9_isRing_6 (by decide) (sm_i (by decide)) (sm_i (by decide)) (fun c6 => ?_) (fun c6 => ?_)
                      · refine V_iload_n (pc := 105) C dX9_isRing_105 rfl 2 rfl ?_
                        exact V_zret (pc := 106) C Z dX9_isRing_106 (Or.inl rfl) () trivial (ri (by first | rfl | omega | exact bI_t (by omega) | exact bI_f (by omega))) rfl
                      · exact absurd c6 (by decide)
                    · exact absurd c54 (by decide)
                  · exact absurd c58 (by decide)
              · refine V_iconst (pc := 42) C dX9_isRing_42 ?_
                refine V_goto (pc := 43) 47 C dX9_isRing_43 (by decide) ?_
                refine V_istore_n (lv' := [(2, .int (iI 1)), (3, .int (iI 1)), (4, .int (iI 0)), (0, .ref o), (1, .int (iI 2))]) (pc := 47) C dX9_isRing_47 rfl (by decide) rfl ?_
                refine V_iconst (pc := 48) C dX9_isRing_48 ?_
                refine V_istore (lv' := [(4, .int (iI 0)), (2, .int (iI 1)), (3, .int (iI 1)), (0, .ref o), (1, .int (iI 2))]) (pc := 49) C dX9_isRing_49 (by decide) rfl ?_
                refine V_iload (pc := 51) C dX9_isRing_51 0 rfl ?_
                refine V_iload_n (pc := 53) C dX9_isRing_53 rfl 2 rfl ?_
                refine V_icmp_ge (pc := 54) 99 C dX9_isRing_54 (by decide) (sm_i (by decide)) (sm_i (by decide)) (fun c54 => ?_) (fun c54 => ?_)
                · exact absurd c54 (by decide)
                · refine V_iload_n (pc := 57) C dX9_isRing_57 rfl 1 rfl ?_
                  refine V_if_eq (pc := 58) 91 C dX9_isRing_58 (by decide) (sm_i (by decide)) (fun c58 => ?_) (fun c58 => ?_)
                  · exact absurd c58 (by decide)
                  · refine V_aload_n (pc := 61) C dX9_isRing_61 rfl 3 rfl ?_
                    refine gf_X9_66 (x := q 27) (pc := 62) C dX9_isRing_62 0 rfl rfl ?_
                    refine V_aload_n (pc := 65) C dX9_isRing_65 rfl 3 rfl ?_
                    refine gf_X9_108 (x := q 42) (pc := 66) C dX9_isRing_66 0 rfl rfl ?_
                    refine V_iload_n (pc := 69) C dX9_isRing_69 rfl 2 rfl ?_
                    refine V_iald (f := M42) (pc := 70) C dX9_isRing_70 3 rfl (by omega) (by omega) (Nat.le_of_ble_eq_true rfl) ?_
                    have b70 := hM42 1
                    refine V_iald (f := M27) (pc := 71) C dX9_isRing_71 1 rfl (by omega) (by omega) (Nat.le_of_ble_eq_true rfl) ?_
                    have b71 := hM27 (M42 1)
                    refine V_aload_n (pc := 72) C dX9_isRing_72 rfl 3 rfl ?_
                    refine gf_X9_66 (x := q 27) (pc := 73) C dX9_isRing_73 0 rfl rfl ?_
                    refine V_aload_n (pc := 76) C dX9_isRing_76 rfl 3 rfl ?_
                    refine gf_X9_108 (x := q 42) (pc := 77) C dX9_isRing_77 0 rfl rfl ?_
                    refine V_iload (pc := 80) C dX9_isRing_80 0 rfl ?_
                    refine V_iald (f := M42) (pc := 82) C dX9_isRing_82 3 rfl (by omega) (by omega) (Nat.le_of_ble_eq_true rfl) ?_
                    have b82 := hM42 0
                    refine V_iald (f := M27) (pc := 83) C dX9_isRing_83 1 rfl (by omega) (by omega) (Nat.le_of_ble_eq_true rfl) ?_
                    have b83 := hM27 (M42 0)
                    refine V_icmp_eq (pc := 84) 91 C dX9_isRing_84 (by decide) (sm_i (by omega)) (sm_i (by omega)) (fun c84 => ?_) (fun c84 => ?_)
                    · refine V_iconst (pc := 91) C dX9_isRing_91 ?_
                      refine V_istore_n (lv' := [(2, .int (iI 0)), (4, .int (iI 0)), (3, .int (iI 1)), (0, .ref o), (1, .int (iI 2))]) (pc := 92) C dX9_isRing_92 rfl (by decide) rfl ?_
                      refine V_iinc (lv' := [(4, .int (iI 1)), (2, .int (iI 0)), (3, .int (iI 1)), (0, .ref o), (1, .int (iI 2))]) (pc := 93) C dX9_isRing_93 1 rfl (by decide) rfl ?_
                      refine V_goto (pc := 96) 51 C dX9_isRing_96 (by decide) ?_
                      refine V_iload (pc := 51) C dX9_isRing_51 0 rfl ?_
                      refine V_iload_n (pc := 53) C dX9_isRing_53 rfl 2 rfl ?_
                      refine V_icmp_ge (pc := 54) 99 C dX9_isRing_54 (by decide) (sm_i (by decide)) (sm_i (by decide)) (fun c54 => ?_) (fun c54 => ?_)
                      · refine V_iinc (lv' := [(3, .int (iI 2)), (4, .int (iI 1)), (2, .int (iI 0)), (0, .ref o), (1, .int (iI 2))]) (pc := 99) C dX9_isRing_99 2 rfl (by decide) rfl ?_
                        refine V_goto (pc := 102) 4 C dX9_isRing_102 (by decide) ?_
                        refine V_iload_n (pc := 4) C dX9_isRing_4 rfl 0 rfl ?_
                        refine V_iload_n (pc := 5) C dX9_isRing_5 rfl 4 rfl ?_
                        refine V_icmp_ge (pc := 6) 105 C dX9_isRing_6 (by decide) (sm_i (by decide)) (sm_i (by decide)) (fun c6 => ?_) (fun c6 => ?_)
                        · refine V_iload_n (pc := 105) C dX9_isRing_105 rfl 2 rfl ?_
                          exact V_zret (pc := 106) C Z dX9_isRing_106 (Or.inl rfl) () trivial (ri (by first | rfl | omega | exact bI_t (by omega) | exact bI_f (by omega))) rfl
                        · exact absurd c6 (by decide)
                      · exact absurd c54 (by decide)
                    · refine V_iconst (pc := 87) C dX9_isRing_87 ?_
                      refine V_goto (pc := 88) 92 C dX9_isRing_88 (by decide) ?_
                      refine V_istore_n (lv' := [(2, .int (iI 1)), (4, .int (iI 0)), (3, .int (iI 1)), (0, .ref o), (1, .int (iI 2))]) (pc := 92) C dX9_isRing_92 rfl (by decide) rfl ?_
                      refine V_iinc (lv' := [(4, .int (iI 1)), (2, .int (iI 1)), (3, .int (iI 1)), (0, .ref o), (1, .int (iI 2))]) (pc := 93) C dX9_isRing_93 1 rfl (by decide) rfl ?_
                      refine V_goto (pc := 96) 51 C dX9_isRing_96 (by decide) ?_
                      refine V_iload (pc := 51) C dX9_isRing_51 0 rfl ?_
                      refine V_iload_n (pc := 53) C dX9_isRing_53 rfl 2 rfl ?_
                      refine V_icmp_ge (pc := 54) 99 C dX9_isRing_54 (by decide) (sm_i (by decide)) (sm_i (by decide)) (fun c54 => ?_) (fun c54 => ?_)
                      · refine V_iinc (lv' := [(3, .int (iI 2)), (4, .int (iI 1)), (2, .int (iI 1)), (0, .ref o), (1, .int (iI 2))]) (pc := 99) C dX9_isRing_99 2 rfl (by decide) rfl ?_
                        refine V_goto (pc := 102) 4 C dX9_isRing_102 (by decide) ?_
                        refine V_iload_n (pc := 4) C dX9_isRing_4 rfl 0 rfl ?_
                        refine V_iload_n (pc := 5) C dX9_isRing_5 rfl 4 rfl ?_
                        refine V_icmp_ge (pc := 6) 105 C dX9_isRing_6 (by decide) (sm_i (by decide)) (sm_i (by decide)) (fun c6 => ?_) (fun c6 => ?_)
                        · refine V_iload_n (pc := 105) C dX9_isRing_105 rfl 2 rfl ?_
                          exact V_zret (pc := 106) C Z dX9_isRing_106 (Or.inr rfl) () trivial (ri (by first | rfl | omega | exact bI_t (by omega) | exact bI_f (by omega))) rfl
                        · exact absurd c6 (by decide)
                      · exact absurd c54 (by decide)
        · exact absurd c54 (by decide)
set_option maxRecDepth 100000 in
set_option maxHeartbeats 4000000 in
theorem c_X9_isRing_3 (l : Launch) (D : va_G) (d : Nat → ClassId) (o : Nat) (q : Nat → Nat) (f : Nat → Int) (M27 : Int → Int) (M28 : Int → Int) (M42 : Int → Int) (hM27 : bd M27 0 2) (hM28 : bd M28 0 2) (hM42 : bd M42 0 7) : CU l yX9_isRing cX9_isRing 5 (some .boolean) 0 0 D d [.ref o, .int (iI 3)] [(o, .inr (9, fX9 q f)), (q 27, aI (d 0) 8 M27), (q 28, aI (d 0) 8 M28), (q 42, aI (d 0) 6 M42)] (fun (_ : Unit) => True) (fun (_ : Unit) => some (.int (iI (bI (M28 (M42 0) = M27 (M42 1) ∧ (M28 (M42 1) = M27 (M42 2) ∧ ¬ M27 (M42 1) = M27 (M42 0)) ∧ M28 (M42 2) = M27 (M42 0) ∧ ¬ M27 (M42 2) = M27 (M42 0) ∧ ¬ M27 (M42 2) = M27 (M42 1)))))) (fun (_ : Unit) => [(o, .inr (9, fX9 q f)), (q 27, aI (d 0) 8 M27), (q 28, aI (d 0) 8 M28), (q 42, aI (d 0) 6 M42)]) := by
  refine CU.mk (own := RX9) (lv := [(0, .ref o), (1, .int (iI 3))]) rfl (by decide) (Nat.le_of_ble_eq_true rfl) rfl ?_
  intro p9 e9 R9 s9 m9 args9 below9 meth9 c9 A9 Q9 hRf hRl C Z
  refine V_iconst (pc := 0) C dX9_isRing_0 ?_
  refine V_istore_n (lv' := [(2, .int (iI 1)), (0, .ref o), (1, .int (iI 3))]) (pc := 1) C dX9_isRing_1 rfl (by decide) rfl ?_
  refine V_iconst (pc := 2) C dX9_isRing_2 ?_
  refine V_istore_n (lv' := [(3, .int (iI 0)), (2, .int (iI 1)), (0, .ref o), (1, .int (iI 3))]) (pc := 3) C dX9_isRing_3 rfl (by decide) rfl ?_
  refine V_iload_n (pc := 4) C dX9_isRing_4 rfl 0 rfl ?_
  refine V_iload_n (pc := 5) C dX9_isRing_5 rfl 3 rfl ?_
  refine V_icmp_ge (pc := 6) 105 C dX9_isRing_6 (by decide) (sm_i (by decide)) (sm_i (by decide)) (fun c6 => ?_) (fun c6 => ?_)
  · exact absurd c6 (by decide)
  · refine V_iload_n (pc := 9) C dX9_isRing_9 rfl 1 rfl ?_
    refine V_if_eq (pc := 10) 46 C dX9_isRing_10 (by decide) (sm_i (by decide)) (fun c10 => ?_) (fun c10 => ?_)
    · exact absurd c10 (by decide)
    · refine V_aload_n (pc := 13) C dX9_isRing_13 rfl 2 rfl ?_
      refine gf_X9_69 (x := q 28) (pc := 14) C dX9_isRing_14 0 rfl rfl ?_
      refine V_aload_n (pc := 17) C dX9_isRing_17 rfl 2 rfl ?_
      refine gf_X9_108 (x := q 42) (pc := 18) C dX9_isRing_18 0 rfl rfl ?_
      refine V_iload_n (pc := 21) C dX9_isRing_21 rfl 0 rfl ?_
      refine V_iald (f := M42) (pc := 22) C dX9_isRing_22 3 rfl (by omega) (by omega) (Nat.le_of_ble_eq_true rfl) ?_
      have b22 := hM42 0
      refine V_iald (f := M28) (pc := 23) C dX9_isRing_23 2 rfl (by omega) (by omega) (Nat.le_of_ble_eq_true rfl) ?_
      have b23 := hM28 (M42 0)
      refine V_aload_n (pc := 24) C dX9_isRing_24 rfl 2 rfl ?_
      refine gf_X9_66 (x := q 27) (pc := 25) C dX9_isRing_25 0 rfl rfl ?_
      refine V_aload_n (pc := 28) C dX9_isRing_28 rfl 2 rfl ?_
      refine gf_X9_108 (x := q 42) (pc := 29) C dX9_isRing_29 0 rfl rfl ?_
      refine V_iload_n (pc := 32) C dX9_isRing_32 rfl 0 rfl ?_
      refine V_iconst (pc := 33) C dX9_isRing_33 ?_
      refine V_iadd (pc := 34) C dX9_isRing_34 ?_
      refine V_eqt (y := 1) (by decide) ?_
      refine V_iload_n (pc := 35) C dX9_isRing_35 rfl 3 rfl ?_
      refine V_irem (pc := 36) C dX9_isRing_36 (by omega) ?_
      refine V_eqt (y := 1) (by decide) ?_
      refine V_iald (f := M42) (pc := 37) C dX9_isRing_37 3 rfl (by omega) (by omega) (Nat.le_of_ble_eq_true rfl) ?_
      have b37 := hM42 1
      refine V_iald (f := M27) (pc := 38) C dX9_isRing_38 1 rfl (by omega) (by omega) (Nat.le_of_ble_eq_true rfl) ?_
      have b38 := hM27 (M42 1)
      refine V_icmp_ne (pc := 39) 46 C dX9_isRing_39 (by decide) (sm_i (by omega)) (sm_i (by omega)) (fun c39 => ?_) (fun c39 => ?_)
      · refine V_iconst (pc := 46) C dX9_isRing_46 ?_
        refine V_istore_n (lv' := [(2, .int (iI 0)), (3, .int (iI 0)), (0, .ref o), (1, .int (iI 3))]) (pc := 47) C dX9_isRing_47 rfl (by decide) rfl ?_
        refine V_iconst (pc := 48) C dX9_isRing_48 ?_
        refine V_istore (lv' := [(4, .int (iI 0)), (2, .int (iI 0)), (3, .int (iI 0)), (0, .ref o), (1, .int (iI 3))]) (pc := 49) C dX9_isRing_49 (by decide) rfl ?_
        refine V_iload (pc := 51) C dX9_isRing_51 0 rfl ?_
        refine V_iload_n (pc := 53) C dX9_isRing_53 rfl 2 rfl ?_
        refine V_icmp_ge (pc := 54) 99 C dX9_isRing_54 (by decide) (sm_i (by decide)) (sm_i (by decide)) (fun c54 => ?_) (fun c54 => ?_)
        · refine V_iinc (lv' := [(3, .int (iI 1)), (4, .int (iI 0)), (2, .int (iI 0)), (0, .ref o), (1, .int (iI 3))]) (pc := 99) C dX9_isRing_99 2 rfl (by decide) rfl ?_
          refine V_goto (pc := 102) 4 C dX9_isRing_102 (by decide) ?_
          refine V_iload_n (pc := 4) C dX9_isRing_4 rfl 0 rfl ?_
          refine V_iload_n (pc := 5) C dX9_isRing_5 rfl 4 rfl ?_
          refine V_icmp_ge (pc := 6) 105 C dX9_isRing_6 (by decide) (sm_i (by decide)) (sm_i (by decide)) (fun c6 => ?_) (fun c6 => ?_)
          · exact absurd c6 (by decide)
          · refine V_iload_n (pc := 9) C dX9_isRing_9 rfl 2 rfl ?_
            refine V_if_eq (pc := 10) 46 C dX9_isRing_10 (by decide) (sm_i (by decide)) (fun c10 => ?_) (fun c10 => ?_)
            · refine V_iconst (pc := 46) C dX9_isRing_46 ?_
              refine V_istore_n (lv' := [(2, .int (iI 0)), (3, .int (iI 1)), (4, .int (iI 0)), (0, .ref o), (1, .int (iI 3))]) (pc := 47) C dX9_isRing_47 rfl (by decide) rfl ?_
              refine V_iconst (pc := 48) C dX9_isRing_48 ?_
              refine V_istore (lv' := [(4, .int (iI 0)), (2, .int (iI 0)), (3, .int (iI 1)), (0, .ref o), (1, .int (iI 3))]) (pc := 49) C dX9_isRing_49 (by decide) rfl ?_
              refine V_iload (pc := 51) C dX9_isRing_51 0 rfl ?_
              refine V_iload_n (pc := 53) C dX9_isRing_53 rfl 2 rfl ?_
              refine V_icmp_ge (pc := 54) 99 C dX9_isRing_54 (by decide) (sm_i (by decide)) (sm_i (by decide)) (fun c54 => ?_) (fun c54 => ?_)
              · exact absurd c54 (by decide)
              · refine V_iload_n (pc := 57) C dX9_isRing_57 rfl 1 rfl ?_
                refine V_if_eq (pc := 58) 91 C dX9_isRing_58 (by decide) (sm_i (by decide)) (fun c58 => ?_) (fun c58 => ?_)
                · refine V_iconst (pc := 91) C dX9_isRing_91 ?_
                  refine V_istore_n (lv' := [(2, .int (iI 0)), (4, .int (iI 0)), (3, .int (iI 1)), (0, .ref o), (1, .int (iI 3))]) (pc := 92) C dX9_isRing_92 rfl (by decide) rfl ?_
                  refine V_iinc (lv' := [(4, .int (iI 1)), (2, .int (iI 0)), (3, .int (iI 1)), (0, .ref o), (1, .int (iI 3))]) (pc := 93) C dX9_isRing_93 1 rfl (by decide) rfl ?_
                  refine V_goto (pc := 96) 51 C dX9_isRing_96 (by decide) ?_
                  refine V_iload (pc := 51) C dX9_isRing_51 0 rfl ?_
                  refine V_iload_n (pc := 53) C dX9_isRing_53 rfl 2 rfl ?_
                  refine V_icmp_ge (pc := 54) 99 C dX9_isRing_54 (by decide) (sm_i (by decide)) (sm_i (by decide)) (fun c54 => ?_) (fun c54 => ?_)
                  · refine V_iinc (lv' := [(3, .int (iI 2)), (4, .int (iI 1)), (2, .int (iI 0)), (0, .ref o), (1, .int (iI 3))]) (pc := 99) C dX9_isRing_99 2 rfl (by decide) rfl ?_
                    refine V_goto (pc := 102) 4 C dX9_isRing_102 (by decide) ?_
                    refine V_iload_n (pc := 4) C dX9_isRing_4 rfl 0 rfl ?_
                    refine V_iload_n (pc := 5) C dX9_isRing_5 rfl 4 rfl ?_
                    refine V_icmp_ge (pc := 6) 105 C dX9_isRing_6 (by decide) (sm_i (by decide)) (sm_i (by decide)) (fun c6 => ?_) (fun c6 => ?_)
                    · exact absurd c6 (by decide)
                    · refine V_iload_n (pc := 9) C dX9_isRing_9 rfl 2 rfl ?_
                      refine V_if_eq (pc := 10) 46 C dX9_isRing_10 (by decide) (sm_i (by decide)) (fun c10 => ?_) (fun c10 => ?_)
                      · refine V_iconst (pc := 46) C dX9_isRing_46 ?_
                        refine V_istore_n (lv' := [(2, .int (iI 0)), (3, .int (iI 2)), (4, .int (iI 1)), (0, .ref o), (1, .int (iI 3))]) (pc := 47) C dX9_isRing_47 rfl (by decide) rfl ?_
                        refine V_iconst (pc := 48) C dX9_isRing_48 ?_
                        refine V_istore (lv' := [(4, .int (iI 0)), (2, .int (iI 0)), (3, .int (iI 2)), (0, .ref o), (1, .int (iI 3))]) (pc := 49) C dX9_isRing_49 (by decide) rfl ?_
                        refine V_iload (pc := 51) C dX9_isRing_51 0 rfl ?_
                        refine V_iload_n (pc := 53) C dX9_isRing_53 rfl 2 rfl ?_
                        refine V_icmp_ge (pc := 54) 99 C dX9_isRing_54 (by decide) (sm_i (by decide)) (sm_i (by decide)) (fun c54 => ?_) (fun c54 => ?_)
                        · exact absurd c54 (by decide)
                        · refine V_iload_n (pc := 57) C dX9_isRing_57 rfl 1 rfl ?_
                          refine V_if_eq (pc := 58) 91 C dX9_isRing_58 (by decide) (sm_i (by decide)) (fun c58 => ?_) (fun c58 => ?_)
                          · refine V_iconst (pc := 91) C dX9_isRing_91 ?_
                            refine V_istore_n (lv' := [(2, .int (iI 0)), (4, .int (iI 0)), (3, .int (iI 2)), (0, .ref o), (1, .int (iI 3))]) (pc := 92) C dX9_isRing_92 rfl (by decide) rfl ?_
                            refine V_iinc (lv' := [(4, .int (iI 1)), (2, .int (iI 0)), (3, .int (iI 2)), (0, .ref o), (1, .int (iI 3))]) (pc := 93) C dX9_isRing_93 1 rfl (by decide) rfl ?_
                            refine V_goto (pc := 96) 51 C dX9_isRing_96 (by decide) ?_
                            refine V_iload (pc := 51) C dX9_isRing_51 0 rfl ?_
                            refine V_iload_n (pc := 53) C dX9_isRing_53 rfl 2 rfl ?_
                            refine V_icmp_ge (pc := 54) 99 C dX9_isRing_54 (by decide) (sm_i (by decide)) (sm_i (by decide)) (fun c54 => ?_) (fun c54 => ?_)
                            · exact absurd c54 (by decide)
                            · refine V_iload_n (pc := 57) C dX9_isRing_57 rfl 1 rfl ?_
                              refine V_if_eq (pc := 58) 91 C dX9_isRing_58 (by decide) (sm_i (by decide)) (fun c58 => ?_) (fun c58 => ?_)
                              · refine V_iconst (pc := 91) C dX9_isRing_91 ?_
                                refine V_istore_n (lv' := [(2, .int (iI 0)), (4, .int (iI 1)), (3, .int (iI 2)), (0, .ref o), (1, .int (iI 3))]) (pc := 92) C dX9_isRing_92 rfl (by decide) rfl ?_
                                refine V_iinc (lv' := [(4, .int (iI 2)), (2, .int (iI 0)), (3, .int (iI 2)), (0, .ref o), (1, .int (iI 3))]) (pc := 93) C dX9_isRing_93 1 rfl (by decide) rfl ?_
                                refine V_goto (pc := 96) 51 C dX9_isRing_96 (by decide) ?_
                                refine V_iload (pc := 51) C dX9_isRing_51 0 rfl ?_
                                refine V_iload_n (pc := 53) C dX9_isRing_53 rfl 2 rfl ?_
                                refine V_icmp_ge (pc := 54) 99 C dX9_isRing_54 (by decide) (sm_i (by decide)) (sm_i (by decide)) (fun c54 => ?_) (fun c54 => ?_)
                                · refine V_iinc (lv' := [(3, .int (iI 3)), (4, .int (iI 2)), (2, .int (iI 0)), (0, .ref o), (1, .int (iI 3))]) (pc := 99) C dX9_isRing_99 2 rfl (by decide) rfl ?_
                                  refine V_goto (pc := 102) 4 C dX9_isRing_102 (by decide) ?_
                                  refine V_iload_n (pc := 4) C dX9_isRing_4 rfl 0 rfl ?_
                                  refine V_iload_n (pc := 5) C dX9_isRing_5 rfl 4 rfl ?_
                                  refine V_icmp_ge (pc := 6) 105 C dX9_isRing_6 (by decide) (sm_i (by decide)) (sm_i (by decide)) (fun c6 => ?_) (fun c6 => ?_)
                                  · refine V_iload_n (pc := 105) C dX9_isRing_105 rfl 2 rfl ?_
                                    exact V_zret (pc := 106) C Z dX9_isRing_106 (Or.inl rfl) () trivial (ri (by first | rfl | omega | exact bI_t (by omega) | exact bI_f (by omega))) rfl
                                  · exact absurd c6 (by decide)
                                · exact absurd c54 (by decide)
                              · exact absurd c58 (by decide)
                          · exact absurd c58 (by decide)
                      · exact absurd c10 (by decide)
                  · exact absurd c54 (by decide)
                · exact absurd c58 (by decide)
            · exact absurd c10 (by decide)
        · exact absurd c54 (by decide)
      · refine V_iconst (pc := 42) C dX9_isRing_42 ?_
        refine V_goto (pc := 43) 47 C dX9_isRing_43 (by decide) ?_
        refine V_istore_n (lv' := [(2, .int (iI 1)), (3, .int (iI 0)), (0, .ref o), (1, .int (iI 3))]) (pc := 47) C dX9_isRing_47 rfl (by decide) rfl ?_
        refine V_iconst (pc := 48) C dX9_isRing_48 ?_
        refine V_istore (lv' := [(4, .int (iI 0)), (2, .int (iI 1)), (3, .int (iI 0)), (0, .ref o), (1, .int (iI 3))]) (pc := 49) C dX9_isRing_49 (by decide) rfl ?_
        refine V_iload (pc := 51) C dX9_isRing_51 0 rfl ?_
        refine V_iload_n (pc := 53) C dX9_isRing_53 rfl 2 rfl ?_
        refine V_icmp_ge (pc := 54) 99 C dX9_isRing_54 (by decide) (sm_i (by decide)) (sm_i (by decide)) (fun c54 => ?_) (fun c54 => ?_)
        · refine V_iinc (lv' := [(3, .int (iI 1)), (4, .int (iI 0)), (2, .int (iI 1)), (0, .ref o), (1, .int (iI 3))]) (pc := 99) C dX9_isRing_99 2 rfl (by decide) rfl ?_
          refine V_goto (pc := 102) 4 C dX9_isRing_102 (by decide) ?_
          refine V_iload_n (pc := 4) C dX9_isRing_4 rfl 0 rfl ?_
          refine V_iload_n (pc := 5) C dX9_isRing_5 rfl 4 rfl ?_
          refine V_icmp_ge (pc := 6) 105 C dX9_isRing_6 (by decide) (sm_i (by decide)) (sm_i (by decide)) (fun c6 => ?_) (fun c6 => ?_)
          · exact absurd c6 (by decide)
          · refine V_iload_n (pc := 9) C dX9_isRing_9 rfl 2 rfl ?_
            refine V_if_eq (pc := 10) 46 C dX9_isRing_10 (by decide) (sm_i (by decide)) (fun c10 => ?_) (fun c10 => ?_)
            · exact absurd c10 (by decide)
            · refine V_aload_n (pc := 13) C dX9_isRing_13 rfl 3 rfl ?_
              refine gf_X9_69 (x := q 28) (pc := 14) C dX9_isRing_14 0 rfl rfl ?_
              refine V_aload_n (pc := 17) C dX9_isRing_17 rfl 3 rfl ?_
              refine gf_X9_108 (x := q 42) (pc := 18) C dX9_isRing_18 0 rfl rfl ?_
              refine V_iload_n (pc := 21) C dX9_isRing_21 rfl 0 rfl ?_
              refine V_iald (f := M42) (pc := 22) C dX9_isRing_22 3 rfl (by omega) (by omega) (Nat.le_of_ble_eq_true rfl) ?_
              have b22 := hM42 1
              refine V_iald (f := M28) (pc := 23) C dX9_isRing_23 2 rfl (by omega) (by omega) (Nat.le_of_ble_eq_true rfl) ?_
              have b23 := hM28 (M42 1)
              refine V_aload_n (pc := 24) C dX9_isRing_24 rfl 3 rfl ?_
              refine gf_X9_66 (x := q 27) (pc := 25) C dX9_isRing_25 0 rfl rfl ?_
              refine V_aload_n (pc := 28) C dX9_isRing_28 rfl 3 rfl ?_
              refine gf_X9_108 (x := q 42) (pc := 29) C dX9_isRing_29 0 rfl rfl ?_
              refine V_iload_n (pc := 32) C dX9_isRing_32 rfl 0 rfl ?_
              refine V_iconst (pc := 33) C dX9_isRing_33 ?_
              refine V_iadd (pc := 34) C dX9_isRing_34 ?_
              refine V_eqt (y := 2) (by decide) ?_
              refine V_iload_n (pc := 35) C dX9_isRing_35 rfl 4 rfl ?_
              refine V_irem (pc := 36) C dX9_isRing_36 (by omega) ?_
              refine V_eqt (y := 2) (by decide) ?_
              refine V_iald (f := M42) (pc := 37) C dX9_isRing_37 3 rfl (by omega) (by omega) (Nat.le_of_ble_eq_true rfl) ?_
              have b37 := hM42 2
              refine V_iald (f := M27) (pc := 38) C dX9_isRing_38 1 rfl (by omega) (by omega) (Nat.le_of_ble_eq_true rfl) ?_
              have b38 := hM27 (M42 2)
              refine V_icmp_ne (pc := 39) 46 C dX9_isRing_39 (by decide) (sm_i (by omega)) (sm_i (by omega)) (fun c39 => ?_) (fun c39 => ?_)
              · refine V_iconst (pc := 46) C dX9_isRing_46 ?_
                refine V_istore_n (lv' := [(2, .int (iI 0)), (3, .int (iI 1)), (4, .int (iI 0)), (0, .ref o), (1, .int (iI 3))]) (pc := 47) C dX9_isRing_47 rfl (by decide) rfl ?_
                refine V_iconst (pc := 48) C dX9_isRing_48 ?_
                refine V_istore (lv' := [(4, .int (iI 0)), (2, .int (iI 0)), (3, .int (iI 1)), (0, .ref o), (1, .int (iI 3))]) (pc := 49) C dX9_isRing_49 (by decide) rfl ?_
                refine V_iload (pc := 51) C dX9_isRing_51 0 rfl ?_
                refine V_iload_n (pc := 53) C dX9_isRing_53 rfl 2 rfl ?_
                refine V_icmp_ge (pc := 54) 99 C dX9_isRing_54 (by decide) (sm_i (by decide)) (sm_i (by decide)) (fun c54 => ?_) (fun c54 => ?_)
                · exact absurd c54 (by decide)
                · refine V_iload_n (pc := 57) C dX9_isRing_57 rfl 1 rfl ?_
                  refine V_if_eq (pc := 58) 91 C dX9_isRing_58 (by decide) (sm_i (by decide)) (fun c58 => ?_) (fun c58 => ?_)
                  · refine V_iconst (pc := 91) C dX9_isRing_91 ?_
                    refine V_istore_n (lv' := [(2, .int (iI 0)), (4, .int (iI 0)), (3, .int (iI 1)), (0, .ref o), (1, .int (iI 3))]) (pc := 92) C dX9_isRing_92 rfl (by decide) rfl ?_
                    refine V_iinc (lv' := [(4, .int (iI 1)), (2, .int (iI 0)), (3, .int (iI 1)), (0, .ref o), (1, .int (iI 3))]) (pc := 93) C dX9_isRing_93 1 rfl (by decide) rfl ?_
                    refine V_goto (pc := 96) 51 C dX9_isRing_96 (by decide) ?_
                    refine V_iload (pc := 51) C dX9_isRing_51 0 rfl ?_
                    refine V_iload_n (pc := 53) C dX9_isRing_53 rfl 2 rfl ?_
                    refine V_icmp_ge (pc := 54) 99 C dX9_isRing_54 (by decide) (sm_i (by decide)) (sm_i (by decide)) (fun c54 => ?_) (fun c54 => ?_)
                    · refine V_iinc (lv' := [(3, .int (iI 2)), (4, .int (iI 1)), (2, .int (iI 0)), (0, .ref o), (1, .int (iI 3))]) (pc := 99) C dX9_isRing_99 2 rfl (by decide) rfl ?_
                      refine V_goto (pc := 102) 4 C dX9_isRing_102 (by decide) ?_
                      refine V_iload_n (pc := 4) C dX9_isRing_4 rfl 0 rfl ?_
                      refine V_iload_n (pc := 5) C dX9_isRing_5 rfl 4 rfl ?_
                      refine V_icmp_ge (pc := 6) 105 C dX9_isRing_6 (by decide) (sm_i (by decide)) (sm_i (by decide)) (fun c6 => ?_) (fun c6 => ?_)
                      · exact absurd c6 (by decide)
                      · refine V_iload_n (pc := 9) C dX9_isRing_9 rfl 2 rfl ?_
                        refine V_if_eq (pc := 10) 46 C dX9_isRing_10 (by decide) (sm_i (by decide)) (fun c10 => ?_) (fun c10 => ?_)
                        · refine V_iconst (pc := 46) C dX9_isRing_46 ?_
                          refine V_istore_n (lv' := [(2, .int (iI 0)), (3, .int (iI 2)), (4, .int (iI 1)), (0, .ref o), (1, .int (iI 3))]) (pc := 47) C dX9_isRing_47 rfl (by decide) rfl ?_
                          refine V_iconst (pc := 48) C dX9_isRing_48 ?_
                          refine V_istore (lv' := [(4, .int (iI 0)), (2, .int (iI 0)), (3, .int (iI 2)), (0, .ref o), (1, .int (iI 3))]) (pc := 49) C dX9_isRing_49 (by decide) rfl ?_
                          refine V_iload (pc := 51) C dX9_isRing_51 0 rfl ?_
                          refine V_iload_n (pc := 53) C dX9_isRing_53 rfl 2 rfl ?_
                          refine V_icmp_ge (pc := 54) 99 C dX9_isRing_54 (by decide) (sm_i (by decide)) (sm_i (by decide)) (fun c54 => ?_) (fun c54 => ?_)
                          · exact absurd c54 (by decide)
                          · refine V_iload_n (pc := 57) C dX9_isRing_57 rfl 1 rfl ?_
                            refine V_if_eq (pc := 58) 91 C dX9_isRing_58 (by decide) (sm_i (by decide)) (fun c58 => ?_) (fun c58 => ?_)
                            · refine V_iconst (pc := 91) C dX9_isRing_91 ?_
                              refine V_istore_n (lv' := [(2, .int (iI 0)), (4, .int (iI 0)), (3, .int (iI 2)), (0, .ref o), (1, .int (iI 3))]) (pc := 92) C dX9_isRing_92 rfl (by decide) rfl ?_
                              refine V_iinc (lv' := [(4, .int (iI 1)), (2, .int (iI 0)), (3, .int (iI 2)), (0, .ref o), (1, .int (iI 3))]) (pc := 93) C dX9_isRing_93 1 rfl (by decide) rfl ?_
                              refine V_goto (pc := 96) 51 C dX9_isRing_96 (by decide) ?_
                              refine V_iload (pc := 51) C dX9_isRing_51 0 rfl ?_
                              refine V_iload_n (pc := 53) C dX9_isRing_53 rfl 2 rfl ?_
                              refine V_icmp_ge (pc := 54) 99 C dX9_isRing_54 (by decide) (sm_i (by decide)) (sm_i (by decide)) (fun c54 => ?_) (fun c54 => ?_)
                              · exact absurd c54 (by decide)
                              · refine V_iload_n (pc := 57) C dX9_isRing_57 rfl 1 rfl ?_
                                refine V_if_eq (pc := 58) 91 C dX9_isRing_58 (by decide) (sm_i (by decide)) (fun c58 => ?_) (fun c58 => ?_)
                                · refine V_iconst (pc := 91) C dX9_isRing_91 ?_
                                  refine V_istore_n (lv' := [(2, .int (iI 0)), (4, .int (iI 1)), (3, .int (iI 2)), (0, .ref o), (1, .int (iI 3))]) (pc := 92) C dX9_isRing_92 rfl (by decide) rfl ?_
                                  refine V_iinc (lv' := [(4, .int (iI 2)), (2, .int (iI 0)), (3, .int (iI 2)), (0, .ref o), (1, .int (iI 3))]) (pc := 93) C dX9_isRing_93 1 rfl (by decide) rfl ?_
                                  refine V_goto (pc := 96) 51 C dX9_isRing_96 (by decide) ?_
                                  refine V_iload (pc := 51) C dX9_isRing_51 0 rfl ?_
                                  refine V_iload_n (pc := 53) C dX9_isRing_53 rfl 2 rfl ?_
                                  refine V_icmp_ge (pc := 54) 99 C dX9_isRing_54 (by decide) (sm_i (by decide)) (sm_i (by decide)) (fun c54 => ?_) (fun c54 => ?_)
                                  · refine V_iinc (lv' := [(3, .int (iI 3)), (4, .int (iI 2)), (2, .int (iI 0)), (0, .ref o), (1, .int (iI 3))]) (pc := 99) C dX9_isRing_99 2 rfl (by decide) rfl ?_
                                    refine V_goto (pc := 102) 4 C dX9_isRing_102 (by decide) ?_
                                    refine V_iload_n (pc := 4) C dX9_isRing_4 rfl 0 rfl ?_
                                    refine V_iload_n (pc := 5) C dX9_isRing_5 rfl 4 rfl ?_
                                    refine V_icmp_ge (pc := 6) 105 C dX9_isRing_6 (by decide) (sm_i (by decide)) (sm_i (by decide)) (fun c6 => ?_) (fun c6 => ?_)
                                    · refine V_iload_n (pc := 105) C dX9_isRing_105 rfl 2 rfl ?_
                                      exact V_zret (pc := 106) C Z dX9_isRing_106 (Or.inl rfl) () trivial (ri (by first | rfl | omega | exact bI_t (by omega) | exact bI_f (by omega))) rfl
                                    · exact absurd c6 (by decide)
                                  · exact absurd c54 (by decide)
                                · exact absurd c58 (by decide)
                            · exact absurd c58 (by decide)
                        · exact absurd c10 (by decide)
                    · exact absurd c54 (by decide)
                  · exact absurd c58 (by decide)
              · refine V_iconst (pc := 42) C dX9_isRing_42 ?_
                refine V_goto (pc := 43) 47 C dX9_isRing_43 (by decide) ?_
                refine V_istore_n (lv' := [(2, .int (iI 1)), (3, .int (iI 1)), (4, .int (iI 0)), (0, .ref o), (1, .int (iI 3))]) (pc := 47) C dX9_isRing_47 rfl (by decide) rfl ?_
                refine V_iconst (pc := 48) C dX9_isRing_48 ?_
                refine V_istore (lv' := [(4, .int (iI 0)), (2, .int (iI 1)), (3, .int (iI 1)), (0, .ref o), (1, .int (iI 3))]) (pc := 49) C dX9_isRing_49 (by decide) rfl ?_
                refine V_iload (pc := 51) C dX9_isRing_51 0 rfl ?_
                refine V_iload_n (pc := 53) C dX9_isRing_53 rfl 2 rfl ?_
                refine V_icmp_ge (pc := 54) 99 C dX9_isRing_54 (by decide) (sm_i (by decide)) (sm_i (by decide)) (fun c54 => ?_) (fun c54 => ?_)
                · exact absurd c54 (by decide)
                · refine V_iload_n (pc := 57) C dX9_isRing_57 rfl 1 rfl ?_
                  refine V_if_eq (pc := 58) 91 C dX9_isRing_58 (by decide) (sm_i (by decide)) (fun c58 => ?_) (fun c58 => ?_)
                  · exact absurd c58 (by decide)
                  · refine V_aload_n (pc := 61) C dX9_isRing_61 rfl 3 rfl ?_
                    refine gf_X9_66 (x := q 27) (pc := 62) C dX9_isRing_62 0 rfl rfl ?_
                    refine V_aload_n (pc := 65) C dX9_isRing_65 rfl 3 rfl ?_
                    refine gf_X9_108 (x := q 42) (pc := 66) C dX9_isRing_66 0 rfl rfl ?_
                    refine V_iload_n (pc := 69) C dX9_isRing_69 rfl 2 rfl ?_
                    refine V_iald (f := M42) (pc := 70) C dX9_isRing_70 3 rfl (by omega) (by omega) (Nat.le_of_ble_eq_true rfl) ?_
                    have b70 := hM42 1
                    refine V_iald (f := M27) (pc := 71) C dX9_isRing_71 1 rfl (by omega) (by omega) (Nat.le_of_ble_eq_true rfl) ?_
                    have b71 := hM27 (M42 1)
                    refine V_aload_n (pc := 72) C dX9_isRing_72 rfl 3 rfl ?_
                    refine gf_X9_66 (x := q 27) (pc := 73) C dX9_isRing_73 0 rfl rfl ?_
                    refine V_aload_n (pc := 76) C dX9_isRing_76 rfl 3 rfl ?_
                    refine gf_X9_108 (x := q 42) (pc := 77) C dX9_isRing_77 0 rfl rfl ?_
                    refine V_iload (pc := 80) C dX9_isRing_80 0 rfl ?_
                    refine V_iald (f := M42) (pc := 82) C dX9_isRing_82 3 rfl (by omega) (by omega) (Nat.le_of_ble_eq_true rfl) ?_
                    have b82 := hM42 0
                    refine V_iald (f := M27) (pc := 83) C dX9_isRing_83 1 rfl (by omega) (by omega) (Nat.le_of_ble_eq_true rfl) ?_
                    have b83 := hM27 (M42 0)
                    refine V_icmp_eq (pc := 84) 91 C dX9_isRing_84 (by decide) (sm_i (by omega)) (sm_i (by omega)) (fun c84 => ?_) (fun c84 => ?_)
                    · refine V_iconst (pc := 91) C dX9_isRing_91 ?_
                      refine V_istore_n (lv' := [(2, .int (iI 0)), (4, .int (iI 0)), (3, .int (iI 1)), (0, .ref o), (1, .int (iI 3))]) (pc := 92) C dX9_isRing_92 rfl (by decide) rfl ?_
                      refine V_iinc (lv' := [(4, .int (iI 1)), (2, .int (iI 0)), (3, .int (iI 1)), (0, .ref o), (1, .int (iI 3))]) (pc := 93) C dX9_isRing_93 1 rfl (by decide) rfl ?_
                      refine V_goto (pc := 96) 51 C dX9_isRing_96 (by decide) ?_
                      refine V_iload (pc := 51) C dX9_isRing_51 0 rfl ?_
                      refine V_iload_n (pc := 53) C dX9_isRing_53 rfl 2 rfl ?_
                      refine V_icmp_ge (pc := 54) 99 C dX9_isRing_54 (by decide) (sm_i (by decide)) (sm_i (by decide)) (fun c54 => ?_) (fun c54 => ?_)
                      · refine V_iinc (lv' := [(3, .int (iI 2)), (4, .int (iI 1)), (2, .int (iI 0)), (0, .ref o), (1, .int (iI 3))]) (pc := 99) C dX9_isRing_99 2 rfl (by decide) rfl ?_
                        refine V_goto (pc := 102) 4 C dX9_isRing_102 (by decide) ?_
                        refine V_iload_n (pc := 4) C dX9_isRing_4 rfl 0 rfl ?_
                        refine V_iload_n (pc := 5) C dX9_isRing_5 rfl 4 rfl ?_
                        refine V_icmp_ge (pc := 6) 105 C dX9_isRing_6 (by decide) (sm_i (by decide)) (sm_i (by decide)) (fun c6 => ?_) (fun c6 => ?_)
                        · exact absurd c6 (by decide)
                        · refine V_iload_n (pc := 9) C dX9_isRing_9 rfl 2 rfl ?_
                          refine V_if_eq (pc := 10) 46 C dX9_isRing_10 (by decide) (sm_i (by decide)) (fun c10 => ?_) (fun c10 => ?_)
                          · refine V_iconst (pc := 46) C dX9_isRing_46 ?_
                            refine V_istore_n (lv' := [(2, .int (iI 0)), (3, .int (iI 2)), (4, .int (iI 1)), (0, .ref o), (1, .int (iI 3))]) (pc := 47) C dX9_isRing_47 rfl (by decide) rfl ?_
                            refine V_iconst (pc := 48) C dX9_isRing_48 ?_
                            refine V_istore (lv' := [(4, .int (iI 0)), (2, .int (iI 0)), (3, .int (iI 2)), (0, .ref o), (1, .int (iI 3))]) (pc := 49) C dX9_isRing_49 (by decide) rfl ?_
                            refine V_iload (pc := 51) C dX9_isRing_51 0 rfl ?_
                            refine V_iload_n (pc := 53) C dX9_isRing_53 rfl 2 rfl ?_
                            refine V_icmp_ge (pc := 54) 99 C dX9_isRing_54 (by decide) (sm_i (by decide)) (sm_i (by decide)) (fun c54 => ?_) (fun c54 => ?_)
                            · exact absurd c54 (by decide)
                            · refine V_iload_n (pc := 57) C dX9_isRing_57 rfl 1 rfl ?_
                              refine V_if_eq (pc := 58) 91 C dX9_isRing_58 (by decide) (sm_i (by decide)) (fun c58 => ?_) (fun c58 => ?_)
                              · refine V_iconst (pc := 91) C dX9_isRing_91 ?_
                                refine V_istore_n (lv' := [(2, .int (iI 0)), (4, .int (iI 0)), (3, .int (iI 2)), (0, .ref o), (1, .int (iI 3))]) (pc := 92) C dX9_isRing_92 rfl (by decide) rfl ?_
                                refine V_iinc (lv' := [(4, .int (iI 1)), (2, .int (iI 0)), (3, .int (iI 2)), (0, .ref o), (1, .int (iI 3))]) (pc := 93) C dX9_isRing_93 1 rfl (by decide) rfl ?_
                                refine V_goto (pc := 96) 51 C dX9_isRing_96 (by decide) ?_
                                refine V_iload (pc := 51) C dX9_isRing_51 0 rfl ?_
                                refine V_iload_n (pc := 53) C dX9_isRing_53 rfl 2 rfl ?_
                                refine V_icmp_ge (pc := 54) 99 C dX9_isRing_54 (by decide) (sm_i (by decide)) (sm_i (by decide)) (fun c54 => ?_) (fun c54 => ?_)
                                · exact absurd c54 (by decide)
                                · refine V_iload_n (pc := 57) C dX9_isRing_57 rfl 1 rfl ?_
                                  refine V_if_eq (pc := 58) 91 C dX9_isRing_58 (by decide) (sm_i (by decide)) (fun c58 => ?_) (fun c58 => ?_)
                                  · refine V_iconst (pc := 91) C dX9_isRing_91 ?_
                                    refine V_istore_n (lv' := [(2, .int (iI 0)), (4, .int (iI 1)), (3, .int (iI 2)), (0, .ref o), (1, .int (iI 3))]) (pc := 92) C dX9_isRing_92 rfl (by decide) rfl ?_
                                    refine V_iinc (lv' := [(4, .int (iI 2)), (2, .int (iI 0)), (3, .int (iI 2)), (0, .ref o), (1, .int (iI 3))]) (pc := 93) C dX9_isRing_93 1 rfl (by decide) rfl ?_
                                    refine V_goto (pc := 96) 51 C dX9_isRing_96 (by decide) ?_
                                    refine V_iload (pc := 51) C dX9_isRing_51 0 rfl ?_
                                    refine V_iload_n (pc := 53) C dX9_isRing_53 rfl 2 rfl ?_
                                    refine V_icmp_ge (pc := 54) 99 C dX9_isRing_54 (by decide) (sm_i (by decide)) (sm_i (by decide)) (fun c54 => ?_) (fun c54 => ?_)
                                    · refine V_iinc (lv' := [(3, .int (iI 3)), (4, .int (iI 2)), (2, .int (iI 0)), (0, .ref o), (1, .int (iI 3))]) (pc := 99) C dX9_isRing_99 2 rfl (by decide) rfl ?_
                                      refine V_goto (pc := 102) 4 C dX9_isRing_102 (by decide) ?_
                                      refine V_iload_n (pc := 4) C dX9_isRing_4 rfl 0 rfl ?_
                                      refine V_iload_n (pc := 5) C dX9_isRing_5 rfl 4 rfl ?_
                                      refine V_icmp_ge (pc := 6) 105 C dX9_isRing_6 (by decide) (sm_i (by decide)) (sm_i (by decide)) (fun c6 => ?_) (fun c6 => ?_)
                                      · refine V_iload_n (pc := 105) C dX9_isRing_105 rfl 2 rfl ?_
                                        exact V_zret (pc := 106) C Z dX9_isRing_106 (Or.inl rfl) () trivial (ri (by first | rfl | omega | exact bI_t (by omega) | exact bI_f (by omega))) rfl
                                      · exact absurd c6 (by decide)
                                    · exact absurd c54 (by decide)
                                  · exact absurd c58 (by decide)
                              · exact absurd c58 (by decide)
                          · exact absurd c10 (by decide)
                      · exact absurd c54 (by decide)
                    · refine V_iconst (pc := 87) C dX9_isRing_87 ?_
                      refine V_goto (pc := 88) 92 C dX9_isRing_88 (by decide) ?_
                      refine V_istore_n (lv' := [(2, .int (iI 1)), (4, .int (iI 0)), (3, .int (iI 1)), (0, .ref o), (1, .int (iI 3))]) (pc := 92) C dX9_isRing_92 rfl (by decide) rfl ?_
                      refine V_iinc (lv' := [(4, .int (iI 1)), (2, .int (iI 1)), (3, .int (iI 1)), (0, .ref o), (1, .int (iI 3))]) (pc := 93) C dX9_isRing_93 1 rfl (by decide) rfl ?_
                      refine V_goto (pc := 96) 51 C dX9_isRing_96 (by decide) ?_
                      refine V_iload (pc := 51) C dX9_isRing_51 0 rfl ?_
                      refine V_iload_n (pc := 53) C dX9_isRing_53 rfl 2 rfl ?_
                      refine V_icmp_ge (pc := 54) 99 C dX9_isRing_54 (by decide) (sm_i (by decide)) (sm_i (by decide)) (fun c54 => ?_) (fun c54 => ?_)
                      · refine V_iinc (lv' := [(3, .int (iI 2)), (4, .int (iI 1)), (2, .int (iI 1)), (0, .ref o), (1, .int (iI 3))]) (pc := 99) C dX9_isRing_99 2 rfl (by decide) rfl ?_
                        refine V_goto (pc := 102) 4 C dX9_isRing_102 (by decide) ?_
                        refine V_iload_n (pc := 4) C dX9_isRing_4 rfl 0 rfl ?_
                        refine V_iload_n (pc := 5) C dX9_isRing_5 rfl 4 rfl ?_
                        refine V_icmp_ge (pc := 6) 105 C dX9_isRing_6 (by decide) (sm_i (by decide)) (sm_i (by decide)) (fun c6 => ?_) (fun c6 => ?_)
                        · exact absurd c6 (by decide)
                        · refine V_iload_n (pc := 9) C dX9_isRing_9 rfl 2 rfl ?_
                          refine V_if_eq (pc := 10) 46 C dX9_isRing_10 (by decide) (sm_i (by decide)) (fun c10 => ?_) (fun c10 => ?_)
                          · exact absurd c10 (by decide)
                          · refine V_aload_n (pc := 13) C dX9_isRing_13 rfl 3 rfl ?_
                            refine gf_X9_69 (x := q 28) (pc := 14) C dX9_isRing_14 0 rfl rfl ?_
                            refine V_aload_n (pc := 17) C dX9_isRing_17 rfl 3 rfl ?_
                            refine gf_X9_108 (x := q 42) (pc := 18) C dX9_isRing_18 0 rfl rfl ?_
                            refine V_iload_n (pc := 21) C dX9_isRing_21 rfl 0 rfl ?_
                            refine V_iald (f := M42) (pc := 22) C dX9_isRing_22 3 rfl (by omega) (by omega) (Nat.le_of_ble_eq_true rfl) ?_
                            have b22 := hM42 2
                            refine V_iald (f := M28) (pc := 23) C dX9_isRing_23 2 rfl (by omega) (by omega) (Nat.le_of_ble_eq_true rfl) ?_
                            have b23 := hM28 (M42 2)
                            refine V_aload_n (pc := 24) C dX9_isRing_24 rfl 3 rfl ?_
                            refine gf_X9_66 (x := q 27) (pc := 25) C dX9_isRing_25 0 rfl rfl ?_
                            refine V_aload_n (pc := 28) C dX9_isRing_28 rfl 3 rfl ?_
                            refine gf_X9_108 (x := q 42) (pc := 29) C dX9_isRing_29 0 rfl rfl ?_
                            refine V_iload_n (pc := 32) C dX9_isRing_32 rfl 0 rfl ?_
                            refine V_iconst (pc := 33) C dX9_isRing_33 ?_
                            refine V_iadd (pc := 34) C dX9_isRing_34 ?_
                            refine V_eqt (y := 3) (by decide) ?_
                            refine V_iload_n (pc := 35) C dX9_isRing_35 rfl 4 rfl ?_
                            refine V_irem (pc := 36) C dX9_isRing_36 (by omega) ?_
                            refine V_eqt (y := 0) (by decide) ?_
                            refine V_iald (f := M42) (pc := 37) C dX9_isRing_37 3 rfl (by omega) (by omega) (Nat.le_of_ble_eq_true rfl) ?_
                            have b37 := hM42 0
                            refine V_iald (f := M27) (pc := 38) C dX9_isRing_38 1 rfl (by omega) (by omega) (Nat.le_of_ble_eq_true rfl) ?_
                            have b38 := hM27 (M42 0)
                            refine V_icmp_ne (pc := 39) 46 C dX9_isRing_39 (by decide) (sm_i (by omega)) (sm_i (by omega)) (fun c39 => ?_) (fun c39 => ?_)
                            · refine V_iconst (pc := 46) C dX9_isRing_46 ?_
                              refine V_istore_n (lv' := [(2, .int (iI 0)), (3, .int (iI 2)), (4, .int (iI 1)), (0, .ref o), (1, .int (iI 3))]) (pc := 47) C dX9_isRing_47 rfl (by decide) rfl ?_
                              refine V_iconst (pc := 48) C dX9_isRing_48 ?_
                              refine V_istore (lv' := [(4, .int (iI 0)), (2, .int (iI 0)), (3, .int (iI 2)), (0, .ref o), (1, .int (iI 3))]) (pc := 49) C dX9_isRing_49 (by decide) rfl ?_
                              refine V_iload (pc := 51) C dX9_isRing_51 0 rfl ?_
                              refine V_iload_n (pc := 53) C dX9_isRing_53 rfl 2 rfl ?_
                              refine V_icmp_ge (pc := 54) 99 C dX9_isRing_54 (by decide) (sm_i (by decide)) (sm_i (by decide)) (fun c54 => ?_) (fun c54 => ?_)
                              · exact absurd c54 (by decide)
                              · refine V_iload_n (pc := 57) C dX9_isRing_57 rfl 1 rfl ?_
                                refine V_if_eq (pc := 58) 91 C dX9_isRing_58 (by decide) (sm_i (by decide)) (fun c58 => ?_) (fun c58 => ?_)
                                · refine V_iconst (pc := 91) C dX9_isRing_91 ?_
                                  refine V_istore_n (lv' := [(2, .int (iI 0)), (4, .int (iI 0)), (3, .int (iI 2)), (0, .ref o), (1, .int (iI 3))]) (pc := 92) C dX9_isRing_92 rfl (by decide) rfl ?_
                                  refine V_iinc (lv' := [(4, .int (iI 1)), (2, .int (iI 0)), (3, .int (iI 2)), (0, .ref o), (1, .int (iI 3))]) (pc := 93) C dX9_isRing_93 1 rfl (by decide) rfl ?_
                                  refine V_goto (pc := 96) 51 C dX9_isRing_96 (by decide) ?_
                                  refine V_iload (pc := 51) C dX9_isRing_51 0 rfl ?_
                                  refine V_iload_n (pc := 53) C dX9_isRing_53 rfl 2 rfl ?_
                                  refine V_icmp_ge (pc := 54) 99 C dX9_isRing_54 (by decide) (sm_i (by decide)) (sm_i (by decide)) (fun c54 => ?_) (fun c54 => ?_)
                                  · exact absurd c54 (by decide)
                                  · refine V_iload_n (pc := 57) C dX9_isRing_57 rfl 1 rfl ?_
                                    refine V_if_eq (pc := 58) 91 C dX9_isRing_58 (by decide) (sm_i (by decide)) (fun c58 => ?_) (fun c58 => ?_)
                                    · refine V_iconst (pc := 91) C dX9_isRing_91 ?_
                                      refine V_istore_n (lv' := [(2, .int (iI 0)), (4, .int (iI 1)), (3, .int (iI 2)), (0, .ref o), (1, .int (iI 3))]) (pc := 92) C dX9_isRing_92 rfl (by decide) rfl ?_
                                      refine V_iinc (lv' := [(4, .int (iI 2)), (2, .int (iI 0)), (3, .int (iI 2)), (0, .ref o), (1, .int (iI 3))]) (pc := 93) C dX9_isRing_93 1 rfl (by decide) rfl ?_
                                      refine V_goto (pc := 96) 51 C dX9_isRing_96 (by decide) ?_
                                      refine V_iload (pc := 51) C dX9_isRing_51 0 rfl ?_
                                      refine V_iload_n (pc := 53) C dX9_isRing_53 rfl 2 rfl ?_
                                      refine V_icmp_ge (pc := 54) 99 C dX9_isRing_54 (by decide) (sm_i (by decide)) (sm_i (by decide)) (fun c54 => ?_) (fun c54 => ?_)
                                      · refine V_iinc (lv' := [(3, .int (iI 3)), (4, .int (iI 2)), (2, .int (iI 0)), (0, .ref o), (1, .int (iI 3))]) (pc := 99) C dX9_isRing_99 2 rfl (by decide) rfl ?_
                                        refine V_goto (pc := 102) 4 C dX9_isRing_102 (by decide) ?_
                                        refine V_iload_n (pc := 4) C dX9_isRing_4 rfl 0 rfl ?_
                                        refine V_iload_n (pc := 5) C dX9_isRing_5 rfl 4 rfl ?_
                                        refine V_icmp_ge (pc := 6) 105 C dX9_isRing_6 (by decide) (sm_i (by decide)) (sm_i (by decide)) (fun c6 => ?_) (fun c6 => ?_)
                                        · refine V_iload_n (pc := 105) C dX9_isRing_105 rfl 2 rfl ?_
                                          exact V_zret (pc := 106) C Z dX9_isRing_106 (Or.inl rfl) () trivial (ri (by first | rfl | omega | exact bI_t (by omega) | exact bI_f (by omega))) rfl
                                        · exact absurd c6 (by decide)
                                      · exact absurd c54 (by decide)
                                    · exact absurd c58 (by decide)
                                · exact absurd c58 (by decide)
                            · refine V_iconst (pc := 42) C dX9_isRing_42 ?_
                              refine V_goto (pc := 43) 47 C dX9_isRing_43 (by decide) ?_
                              refine V_istore_n (lv' := [(2, .int (iI 1)), (3, .int (iI 2)), (4, .int (iI 1)), (0, .ref o), (1, .int (iI 3))]) (pc := 47) C dX9_isRing_47 rfl (by decide) rfl ?_
                              refine V_iconst (pc := 48) C dX9_isRing_48 ?_
                              refine V_istore (lv' := [(4, .int (iI 0)), (2, .int (iI 1)), (3, .int (iI 2)), (0, .ref o), (1, .int (iI 3))]) (pc := 49) C dX9_isRing_49 (by decide) rfl ?_
                              refine V_iload (pc := 51) C dX9_isRing_51 0 rfl ?_
                              refine V_iload_n (pc := 53) C dX9_isRing_53 rfl 2 rfl ?_
                              refine V_icmp_ge (pc := 54) 99 C dX9_isRing_54 (by decide) (sm_i (by decide)) (sm_i (by decide)) (fun c54 => ?_) (fun c54 => ?_)
                              · exact absurd c54 (by decide)
                              · refine V_iload_n (pc := 57) C dX9_isRing_57 rfl 1 rfl ?_
                                refine V_if_eq (pc := 58) 91 C dX9_isRing_58 (by decide) (sm_i (by decide)) (fun c58 => ?_) (fun c58 => ?_)
                                · exact absurd c58 (by decide)
                                · refine V_aload_n (pc := 61) C dX9_isRing_61 rfl 3 rfl ?_
                                  refine gf_X9_66 (x := q 27) (pc := 62) C dX9_isRing_62 0 rfl rfl ?_
                                  refine V_aload_n (pc := 65) C dX9_isRing_65 rfl 3 rfl ?_
                                  refine gf_X9_108 (x := q 42) (pc := 66) C dX9_isRing_66 0 rfl rfl ?_
                                  refine V_iload_n (pc := 69) C dX9_isRing_69 rfl 2 rfl ?_
                                  refine V_iald (f := M42) (pc := 70) C dX9_isRing_70 3 rfl (by omega) (by omega) (Nat.le_of_ble_eq_true rfl) ?_
                                  have b70 := hM42 2
                                  refine V_iald (f := M27) (pc := 71) C dX9_isRing_71 1 rfl (by omega) (by omega) (Nat.le_of_ble_eq_true rfl) ?_
                                  have b71 := hM27 (M42 2)
                                  refine V_aload_n (pc := 72) C dX9_isRing_72 rfl 3 rfl ?_
                                  refine gf_X9_66 (x := q 27) (pc := 73) C dX9_isRing_73 0 rfl rfl ?_
                                  refine V_aload_n (pc := 76) C dX9_isRing_76 rfl 3 rfl ?_
                                  refine gf_X9_108 (x := q 42) (pc := 77) C dX9_isRing_77 0 rfl rfl ?_
                                  refine V_iload (pc := 80) C dX9_isRing_80 0 rfl ?_
                                  refine V_iald (f := M42) (pc := 82) C dX9_isRing_82 3 rfl (by omega) (by omega) (Nat.le_of_ble_eq_true rfl) ?_
                                  have b82 := hM42 0
                                  refine V_iald (f := M27) (pc := 83) C dX9_isRing_83 1 rfl (by omega) (by omega) (Nat.le_of_ble_eq_true rfl) ?_
                                  have b83 := hM27 (M42 0)
                                  refine V_icmp_eq (pc := 84) 91 C dX9_isRing_84 (by decide) (sm_i (by omega)) (sm_i (by omega)) (fun c84 => ?_) (fun c84 => ?_)
                                  · refine V_iconst (pc := 91) C dX9_isRing_91 ?_
                                    refine V_istore_n (lv' := [(2, .int (iI 0)), (4, .int (iI 0)), (3, .int (iI 2)), (0, .ref o), (1, .int (iI 3))]) (pc := 92) C dX9_isRing_92 rfl (by decide) rfl ?_
                                    refine V_iinc (lv' := [(4, .int (iI 1)), (2, .int (iI 0)), (3, .int (iI 2)), (0, .ref o), (1, .int (iI 3))]) (pc := 93) C dX9_isRing_93 1 rfl (by decide) rfl ?_
                                    refine V_goto (pc := 96) 51 C dX9_isRing_96 (by decide) ?_
                                    refine V_iload (pc := 51) C dX9_isRing_51 0 rfl ?_
                                    refine V_iload_n (pc := 53) C dX9_isRing_53 rfl 2 rfl ?_
                                    refine V_icmp_ge (pc := 54) 99 C dX9_isRing_54 (by decide) (sm_i (by decide)) (sm_i (by decide)) (fun c54 => ?_) (fun c54 => ?_)
                                    · exact absurd c54 (by decide)
                                    · refine V_iload_n (pc := 57) C dX9_isRing_57 rfl 1 rfl ?_
                                      refine V_if_eq (pc := 58) 91 C dX9_isRing_58 (by decide) (sm_i (by decide)) (fun c58 => ?_) (fun c58 => ?_)
                                      · refine V_iconst (pc := 91) C dX9_isRing_91 ?_
                                        refine V_istore_n (lv' := [(2, .int (iI 0)), (4, .int (iI 1)), (3, .int (iI 2)), (0, .ref o), (1, .int (iI 3))]) (pc := 92) C dX9_isRing_92 rfl (by decide) rfl ?_
                                        refine V_iinc (lv' := [(4, .int (iI 2)), (2, .int (iI 0)), (3, .int (iI 2)), (0, .ref o), (1, .int (iI 3))]) (pc := 93) C dX9_isRing_93 1 rfl (by decide) rfl ?_
                                        refine V_goto (pc := 96) 51 C dX9_isRing_96 (by decide) ?_
                                        refine V_iload (pc := 51) C dX9_isRing_51 0 rfl ?_
                                        refine V_iload_n (pc := 53) C dX9_isRing_53 rfl 2 rfl ?_
                                        refine V_icmp_ge (pc := 54) 99 C dX9_isRing_54 (by decide) (sm_i (by decide)) (sm_i (by decide)) (fun c54 => ?_) (fun c54 => ?_)
                                        · refine V_iinc (lv' := [(3, .int (iI 3)), (4, .int (iI 2)), (2, .int (iI 0)), (0, .ref o), (1, .int (iI 3))]) (pc := 99) C dX9_isRing_99 2 rfl (by decide) rfl ?_
                                          refine V_goto (pc := 102) 4 C dX9_isRing_102 (by decide) ?_
                                          refine V_iload_n (pc := 4) C dX9_isRing_4 rfl 0 rfl ?_
                                          refine V_iload_n (pc := 5) C dX9_isRing_5 rfl 4 rfl ?_
                                          refine V_icmp_ge (pc := 6) 105 C dX9_isRing_6 (by decide) (sm_i (by decide)) (sm_i (by decide)) (fun c6 => ?_) (fun c6 => ?_)
                                          · refine V_iload_n (pc := 105) C dX9_isRing_105 rfl 2 rfl ?_
                                            exact V_zret (pc := 106) C Z dX9_isRing_106 (Or.inl rfl) () trivial (ri (by first | rfl | omega | exact bI_t (by omega) | exact bI_f (by omega))) rfl
                                          · exact absurd c6 (by decide)
                                        · exact absurd c54 (by decide)
                                      · exact absurd c58 (by decide)
                                  · refine V_iconst (pc := 87) C dX9_isRing_87 ?_
                                    refine V_goto (pc := 88) 92 C dX9_isRing_88 (by decide) ?_
                                    refine V_istore_n (lv' := [(2, .int (iI 1)), (4, .int (iI 0)), (3, .int (iI 2)), (0, .ref o), (1, .int (iI 3))]) (pc := 92) C dX9_isRing_92 rfl (by decide) rfl ?_
                                    refine V_iinc (lv' := [(4, .int (iI 1)), (2, .int (iI 1)), (3, .int (iI 2)), (0, .ref o), (1, .int (iI 3))]) (pc := 93) C dX9_isRing_93 1 rfl (by decide) rfl ?_
                                    refine V_goto (pc := 96) 51 C dX9_isRing_96 (by decide) ?_
                                    refine V_iload (pc := 51) C dX9_isRing_51 0 rfl ?_
                                    refine V_iload_n (pc := 53) C dX9_isRing_53 rfl 2 rfl ?_
                                    refine V_icmp_ge (pc := 54) 99 C dX9_isRing_54 (by decide) (sm_i (by decide)) (sm_i (by decide)) (fun c54 => ?_) (fun c54 => ?_)
                                    · exact absurd c54 (by decide)
                                    · refine V_iload_n (pc := 57) C dX9_isRing_57 rfl 1 rfl ?_
                                      refine V_if_eq (pc := 58) 91 C dX9_isRing_58 (by decide) (sm_i (by decide)) (fun c58 => ?_) (fun c58 => ?_)
                                      · exact absurd c58 (by decide)
                                      · refine V_aload_n (pc := 61) C dX9_isRing_61 rfl 3 rfl ?_
                                        refine gf_X9_66 (x := q 27) (pc := 62) C dX9_isRing_62 0 rfl rfl ?_
                                        refine V_aload_n (pc := 65) C dX9_isRing_65 rfl 3 rfl ?_
                                        refine gf_X9_108 (x := q 42) (pc := 66) C dX9_isRing_66 0 rfl rfl ?_
                                        refine V_iload_n (pc := 69) C dX9_isRing_69 rfl 2 rfl ?_
                                        refine V_iald (f := M42) (pc := 70) C dX9_isRing_70 3 rfl (by omega) (by omega) (Nat.le_of_ble_eq_true rfl) ?_
                                        have b70 := hM42 2
                                        refine V_iald (f := M27) (pc := 71) C dX9_isRing_71 1 rfl (by omega) (by omega) (Nat.le_of_ble_eq_true rfl) ?_
                                        have b71 := hM27 (M42 2)
                                        refine V_aload_n (pc := 72) C dX9_isRing_72 rfl 3 rfl ?_
                                        refine gf_X9_66 (x := q 27) (pc := 73) C dX9_isRing_73 0 rfl rfl ?_
                                        refine V_aload_n (pc := 76) C dX9_isRing_76 rfl 3 rfl ?_
                                        refine gf_X9_108 (x := q 42) (pc := 77) C dX9_isRing_77 0 rfl rfl ?_
                                        refine V_iload (pc := 80) C dX9_isRing_80 0 rfl ?_
                                        refine V_iald (f := M42) (pc := 82) C dX9_isRing_82 3 rfl (by omega) (by omega) (Nat.le_of_ble_eq_true rfl) ?_
                                        have b82 := hM42 1
                                        refine V_iald (f := M27) (pc := 83) C dX9_isRing_83 1 rfl (by omega) (by omega) (Nat.le_of_ble_eq_true rfl) ?_
                                        have b83 := hM27 (M42 1)
                                        refine V_icmp_eq (pc := 84) 91 C dX9_isRing_84 (by decide) (sm_i (by omega)) (sm_i (by omega)) (fun c84 => ?_) (fun c84 => ?_)
                                        · refine V_iconst (pc := 91) C dX9_isRing_91 ?_
                                          refine V_istore_n (lv' := [(2, .int (iI 0)), (4, .int (iI 1)), (3, .int (iI 2)), (0, .ref o), (1, .int (iI 3))]) (pc := 92) C dX9_isRing_92 rfl (by decide) rfl ?_
                                          refine V_iinc (lv' := [(4, .int (iI 2)), (2, .int (iI 0)), (3, .int (iI 2)), (0, .ref o), (1, .int (iI 3))]) (pc := 93) C dX9_isRing_93 1 rfl (by decide) rfl ?_
                                          refine V_goto (pc := 96) 51 C dX9_isRing_96 (by decide) ?_
                                          refine V_iload (pc := 51) C dX9_isRing_51 0 rfl ?_
                                          refine V_iload_n (pc := 53) C dX9_isRing_53 rfl 2 rfl ?_
                                          refine V_icmp_ge (pc := 54) 99 C dX9_isRing_54 (by decide) (sm_i (by decide)) (sm_i (by decide)) (fun c54 => ?_) (fun c54 => ?_)
                                          · refine V_iinc (lv' := [(3, .int (iI 3)), (4, .int (iI 2)), (2, .int (iI 0)), (0, .ref o), (1, .int (iI 3))]) (pc := 99) C dX9_isRing_99 2 rfl (by decide) rfl ?_
                                            refine V_goto (pc := 102) 4 C dX9_isRing_102 (by decide) ?_
                                            refine V_iload_n (pc := 4) C dX9_isRing_4 rfl 0 rfl ?_
                                            refine V_iload_n (pc := 5) C dX9_isRing_5 rfl 4 rfl ?_
                                            refine V_icmp_ge (pc := 6) 105 C dX9_isRing_6 (by decide) (sm_i (by decide)) (sm_i (by decide)) (fun c6 => ?_) (fun c6 => ?_)
                                            · refine V_iload_n (pc := 105) C dX9_isRing_105 rfl 2 rfl ?_
                                              exact V_zret (pc := 106) C Z dX9_isRing_106 (Or.inl rfl) () trivial (ri (by first | rfl | omega | exact bI_t (by omega) | exact bI_f (by omega))) rfl
                                            · exact absurd c6 (by decide)
                                          · exact absurd c54 (by decide)
                                        · refine V_iconst (pc := 87) C dX9_isRing_87 ?_
                                          refine V_goto (pc := 88) 92 C dX9_isRing_88 (by decide) ?_
                                          refine V_istore_n (lv' := [(2, .int (iI 1)), (4, .int (iI 1)), (3, .int (iI 2)), (0, .ref o), (1, .int (iI 3))]) (pc := 92) C dX9_isRing_92 rfl (by decide) rfl ?_
                                          refine V_iinc (lv' := [(4, .int (iI 2)), (2, .int (iI 1)), (3, .int (iI 2)), (0, .ref o), (1, .int (iI 3))]) (pc := 93) C dX9_isRing_93 1 rfl (by decide) rfl ?_
                                          refine V_goto (pc := 96) 51 C dX9_isRing_96 (by decide) ?_
                                          refine V_iload (pc := 51) C dX9_isRing_51 0 rfl ?_
                                          refine V_iload_n (pc := 53) C dX9_isRing_53 rfl 2 rfl ?_
                                          refine V_icmp_ge (pc := 54) 99 C dX9_isRing_54 (by decide) (sm_i (by decide)) (sm_i (by decide)) (fun c54 => ?_) (fun c54 => ?_)
                                          · refine V_iinc (lv' := [(3, .int (iI 3)), (4, .int (iI 2)), (2, .int (iI 1)), (0, .ref o), (1, .int (iI 3))]) (pc := 99) C dX9_isRing_99 2 rfl (by decide) rfl ?_
                                            refine V_goto (pc := 102) 4 C dX9_isRing_102 (by decide) ?_
                                            refine V_iload_n (pc := 4) C dX9_isRing_4 rfl 0 rfl ?_
                                            refine V_iload_n (pc := 5) C dX9_isRing_5 rfl 4 rfl ?_
                                            refine V_icmp_ge (pc := 6) 105 C dX9_isRing_6 (by decide) (sm_i (by decide)) (sm_i (by decide)) (fun c6 => ?_) (fun c6 => ?_)
                                            · refine V_iload_n (pc := 105) C dX9_isRing_105 rfl 2 rfl ?_
                                              exact V_zret (pc := 106) C Z dX9_isRing_106 (Or.inr rfl) () trivial (ri (by first | rfl | omega | exact bI_t (by omega) | exact bI_f (by omega))) rfl
                                            · exact absurd c6 (by decide)
                                          · exact absurd c54 (by decide)
                      · exact absurd c54 (by decide)
        · exact absurd c54 (by decide)
set_option maxRecDepth 100000 in
set_option maxHeartbeats 4000000 in
theorem c_X9_findRing (l : Launch) (D : va_G) (d : Nat → ClassId) (o : Nat) (q : Nat → Nat) (f : Nat → Int) (M27 : Int → Int) (M28 : Int → Int) (M29 : Int → Int) (M30 : Int → Int) (M31 : Int → Int) (M42 : Int → Int) (M43 : Int → Int) (w : Int) (hM27 : bd M27 0 2) (hM28 : bd M28 0 2) (hM29 : bd M29 0 9) (hM30 : bd M30 0 9) (hM31 : bd M31 0 99) (hM42 : bd M42 0 7) (hm0 : 0 ≤ f 26 ∧ f 26 ≤ 8) (hp1 : ∀ j : Int, 0 ≤ j ∧ j < f 26 → 1 ≤ paidE M27 M29 M31 j) (hFT : ∀ j : Int, 0 ≤ j ∧ j < f 26 → ¬ M27 j = M28 j) (hw : 0 ≤ w ∧ w ≤ 99) : CU l yX9_findRing cX9_findRing 12 (some .boolean) 1 24 D d [.ref o, .int (iI w)] [(o, .inr (9, fX9 q f)), (q 27, aI (d 0) 8 M27), (q 28, aI (d 0) 8 M28), (q 29, aI (d 0) 8 M29), (q 30, aI (d 0) 8 M30), (q 31, aI (d 0) 8 M31), (q 42, aI (d 0) 6 M42), (q 43, aI (d 0) 3 M43)] (fun (u : Int × Int × Int × (Int → Int) × (Int → Int)) => stI (rgB M28 M27 (gotE M28 M30 w) (paidE M27 M29 M31) (f 26).toNat) u.1 u.2.1 u.2.2.1 u.2.2.2.2 ∧ bd u.2.2.2.1 0 7) (fun (u : Int × Int × Int × (Int → Int) × (Int → Int)) => some (.int (iI (bI (0 < u.1))))) (fun (u : Int × Int × Int × (Int → Int) × (Int → Int)) => [(o, .inr (9, fX9 q (up (up (up f 44 u.1) 45 u.2.1) 46 u.2.2.1))), (q 27, aI (d 0) 8 M27), (q 28, aI (d 0) 8 M28), (q 29, aI (d 0) 8 M29), (q 30, aI (d 0) 8 M30), (q 31, aI (d 0) 8 M31), (q 42, aI (d 0) 6 u.2.2.2.1), (q 43, aI (d 0) 3 u.2.2.2.2)]) := by
  refine CU.mk (own := RX9) (lv := [(0, .ref o), (1, .int (iI w))]) rfl (by decide) (Nat.le_of_ble_eq_true rfl) rfl ?_
  intro p9 e9 R9 s9 m9 args9 below9 meth9 c9 A9 Q9 hRf hRl C Z
  have gb := gotE_b (T := M28) hM30 hw
  have pb := paidE_b (F := M27) hM29 hM31
  have sq := mulb hm0 hm0
  have cu := mulb sq hm0
  refine V_aload_n (pc := 0) C dX9_findRing_0 rfl 0 rfl ?_
  refine V_iconst (pc := 1) C dX9_findRing_1 ?_
  refine pf_X9_227 (ws' := [(o, .inr (9, fX9 q (up f 44 0))), (q 27, aI (d 0) 8 M27), (q 28, aI (d 0) 8 M28), (q 29, aI (d 0) 8 M29), (q 30, aI (d 0) 8 M30), (q 31, aI (d 0) 8 M31), (q 42, aI (d 0) 6 M42), (q 43, aI (d 0) 3 M43)]) (pc := 2) C dX9_findRing_2 0 rfl rfl ?_
  refine V_aload_n (pc := 5) C dX9_findRing_5 rfl 0 rfl ?_
  refine V_lconst (k := 0) (pc := 6) C dX9_findRing_6 rfl ?_
  refine pf_X9_230 (ws' := [(o, .inr (9, fX9 q (up (up f 44 0) 45 0))), (q 27, aI (d 0) 8 M27), (q 28, aI (d 0) 8 M28), (q 29, aI (d 0) 8 M29), (q 30, aI (d 0) 8 M30), (q 31, aI (d 0) 8 M31), (q 42, aI (d 0) 6 M42), (q 43, aI (d 0) 3 M43)]) (pc := 7) C dX9_findRing_7 0 rfl rfl ?_
  refine V_aload_n (pc := 10) C dX9_findRing_10 rfl 0 rfl ?_
  refine V_lconst (k := 1) (pc := 11) C dX9_findRing_11 rfl ?_
  refine pf_X9_234 (ws' := [(o, .inr (9, fX9 q (up (up (up f 44 0) 45 0) 46 1))), (q 27, aI (d 0) 8 M27), (q 28, aI (d 0) 8 M28), (q 29, aI (d 0) 8 M29), (q 30, aI (d 0) 8 M30), (q 31, aI (d 0) 8 M31), (q 42, aI (d 0) 6 M42), (q 43, aI (d 0) 3 M43)]) (pc := 12) C dX9_findRing_12 0 rfl rfl ?_
  refine V_iconst (pc := 15) C dX9_findRing_15 ?_
  refine V_istore_n (lv' := [(2, .int (iI 2)), (0, .ref o), (1, .int (iI w))]) (pc := 16) C dX9_findRing_16 rfl (by decide) rfl ?_
  have L17 : ∀ (nn9 : Nat) (n : Int) (n9 : Int) (U9 : Int) (W9 : Int) (T9 : Int → Int) (R : Int → Int), (2 ≤ n ∧ n ≤ 4) → (0 ≤ n9 ∧ n9 ≤ 3) → (0 ≤ U9 ∧ U9 ≤ 1000000000) → (1 ≤ W9 ∧ W9 ≤ 1000000000) → (bd T9 0 7) → (stI (rgN M28 M27 (gotE M28 M30 w) (paidE M27 M29 M31) (f 26).toNat n) n9 U9 W9 R) → ((4 : Int) - n).toNat < nn9 → V p9 l e9 R9 s9 m9 args9 below9 meth9 c9 A9 D Q9 12 0 0 [(o, .inr (9, fX9 q (up (up (up f 44 n9) 45 U9) 46 W9))), (q 27, aI (d 0) 8 M27), (q 28, aI (d 0) 8 M28), (q 29, aI (d 0) 8 M29), (q 30, aI (d 0) 8 M30), (q 31, aI (d 0) 8 M31), (q 42, aI (d 0) 6 T9), (q 43, aI (d 0) 3 R)] [(2, .int (iI n)), (0, .ref o), (1, .int (iI w))] 17 [] := by
    intro nn9
    induction nn9 with
    | zero => intro _ _ _ _ _ _ _ _ _ _ _ _ hm17; exact absurd hm17 (Nat.not_lt_zero _)
    | succ nn9 ih17 =>
      intro n n9 U9 W9 T9 R hn bn9 bU bW hT hR hm17
      refine V_iload_n (pc := 17) C dX9_findRing_17 rfl 0 rfl ?_
      refine V_iconst (pc := 18) C dX9_findRing_18 ?_
      refine V_icmp_ge (pc := 19) 298 C dX9_findRing_19 (by decide) (sm_i (by omega)) (sm_i (by decide)) (fun c19 => ?_) (fun c19 => ?_)
      · refine V_aload_n (pc := 298) C dX9_findRing_298 rfl 1 rfl ?_
        refine gf_X9_227 (x := n9) (pc := 299) C dX9_findRing_299 0 rfl rfl ?_
        refine V_if_le (pc := 302) 309 C dX9_findRing_302 (by decide) (sm_i (by omega)) (fun c302 => ?_) (fun c302 => ?_)
        · refine V_iconst (pc := 309) C dX9_findRing_309 ?_
          exact V_zret (pc := 310) C Z dX9_findRing_310 (Or.inl rfl) (n9, U9, W9, T9, R) (⟨by have h := hR; rw [show n = 4 by omega] at h; exact h, hT⟩) (ri (by first | rfl | omega | exact bI_t (by omega) | exact bI_f (by omega))) rfl
        · refine V_iconst (pc := 305) C dX9_findRing_305 ?_
          refine V_goto (pc := 306) 310 C dX9_findRing_306 (by decide) ?_
          exact V_zret (pc := 310) C Z dX9_findRing_310 (Or.inr rfl) (n9, U9, W9, T9, R) (⟨by have h := hR; rw [show n = 4 by omega] at h; exact h, hT⟩) (ri (by first | rfl | omega | exact bI_t (by omega) | exact bI_f (by omega))) rfl
      · refine V_iload_n (pc := 22) C dX9_findRing_22 rfl 0 rfl ?_
        refine V_iconst (pc := 23) C dX9_findRing_23 ?_
        refine V_icmp_ne (pc := 24) 39 C dX9_findRing_24 (by decide) (sm_i (by omega)) (sm_i (by decide)) (fun c24 => ?_) (fun c24 => ?_)
        · obtain rfl : n = 3 := by omega
          refine V_aload_n (pc := 39) C dX9_findRing_39 rfl 1 rfl ?_
          refine gf_X9_224 (x := f 26) (pc := 40) C dX9_findRing_40 0 rfl rfl ?_
          refine V_aload_n (pc := 43) C dX9_findRing_43 rfl 1 rfl ?_
          refine gf_X9_224 (x := f 26) (pc := 44) C dX9_findRing_44 0 rfl rfl ?_
          refine V_imul (pc := 47) C dX9_findRing_47 ?_
          refine V_aload_n (pc := 48) C dX9_findRing_48 rfl 1 rfl ?_
          refine gf_X9_224 (x := f 26) (pc := 49) C dX9_findRing_49 0 rfl rfl ?_
          refine V_imul (pc := 52) C dX9_findRing_52 ?_
          refine V_istore_n (lv' := [(3, .int (iI (((f 26) * (f 26)) * (f 26)))), (2, .int (iI 3)), (0, .ref o), (1, .int (iI w))]) (pc := 53) C dX9_findRing_53 rfl (by decide) rfl ?_
          refine V_iconst (pc := 54) C dX9_findRing_54 ?_
          refine V_istore (lv' := [(4, .int (iI 0)), (3, .int (iI (((f 26) * (f 26)) * (f 26)))), (2, .int (iI 3)), (0, .ref o), (1, .int (iI w))]) (pc := 55) C dX9_findRing_55 (by decide) rfl ?_
          have L57 : ∀ (nn9 : Nat) (r : Int) (n8 : Int) (U8 : Int) (W8 : Int) (T7 : Int → Int) (R8 : Int → Int), (0 ≤ r ∧ r ≤ ((f 26) * (f 26)) * (f 26)) → (0 ≤ n8 ∧ n8 ≤ 3) → (0 ≤ U8 ∧ U8 ≤ 1000000000) → (1 ≤ W8 ∧ W8 ≤ 1000000000) → (bd T7 0 7) → (stI (foldI (fun r s => st3 M28 M27 (gotE M28 M30 w) (paidE M27 M29 M31) (r / f 26 / f 26) (r / f 26 % f 26) (r % f 26) s) r.toNat (rg2 M28 M27 (gotE M28 M30 w) (paidE M27 M29 M31) (f 26).toNat ((0, 0, 1, 0, 0, 0) : RS))) n8 U8 W8 R8) → (((f 26) * (f 26)) * (f 26) - r).toNat < nn9 → V p9 l e9 R9 s9 m9 args9 below9 meth9 c9 A9 D Q9 12 0 0 [(o, .inr (9, fX9 q (up (up (up f 44 n8) 45 U8) 46 W8))), (q 27, aI (d 0) 8 M27), (q 28, aI (d 0) 8 M28), (q 29, aI (d 0) 8 M29), (q 30, aI (d 0) 8 M30), (q 31, aI (d 0) 8 M31), (q 42, aI (d 0) 6 T7), (q 43, aI (d 0) 3 R8)] [(4, .int (iI r)), (3, .int (iI (((f 26) * (f 26)) * (f 26)))), (2, .int (iI 3)), (0, .ref o), (1, .int (iI w))] 57 [] := by
            intro nn9
            induction nn9 with
            | zero => intro _ _ _ _ _ _ _ _ _ _ _ _ hm57; exact absurd hm57 (Nat.not_lt_zero _)
            | succ nn9 ih57 =>
              intro r n8 U8 W8 T7 R8 hr bn8 bU8 bW8 hT7 hR8 hm57
              refine V_iload (pc := 57) C dX9_findRing_57 0 rfl ?_
              refine V_iload_n (pc := 59) C dX9_findRing_59 rfl 1 rfl ?_
              refine V_icmp_ge (pc := 60) 292 C dX9_findRing_60 (by decide) (sm_i (by omega)) (sm_i (by omega)) (fun c60 => ?_) (fun c60 => ?_)
              · refine V_iinc (lv' := [(2, .int (iI 4)), (4, .int (iI r)), (3, .int (iI (((f 26) * (f 26)) * (f 26)))), (0, .ref o), (1, .int (iI w))]) (pc := 292) C dX9_findRing_292 2 rfl (by decide) rfl ?_
                refine V_goto (pc := 295) 17 C dX9_findRing_295 (by decide) ?_
                exact V_sub [0, 3, 4] rfl (ih17 4 n8 U8 W8 T7 R8 (by omega) (by omega) (by omega) (by omega) (hT7) (by first | (have h := hR8; rw [show r = f 26 * f 26 by omega, rg2_rows hm0.1] at h; exact h) | (have h := hR8; rw [show r = f 26 * f 26 * f 26 by omega, rg3_rows hm0.1] at h; exact h)) (by omega))
              · have hm1 := cu_pos hm0.1 hr.1 c60
                have dm := dm3 hm1 hr.1 c60
                have d1 := Int.ediv_le_self (f 26) hr.1
                have d0 := Int.ediv_nonneg hr.1 hm0.1
                have d2 := Int.ediv_le_self (f 26) d0
                have d3 := Int.ediv_nonneg d0 hm0.1
                refine V_iload (pc := 63) C dX9_findRing_63 0 rfl ?_
                refine V_istore (lv' := [(5, .int (iI r)), (4, .int (iI r)), (3, .int (iI (((f 26) * (f 26)) * (f 26)))), (2, .int (iI 3)), (0, .ref o), (1, .int (iI w))]) (pc := 65) C dX9_findRing_65 (by decide) rfl ?_
                refine V_iload_n (pc := 67) C dX9_findRing_67 rfl 3 rfl ?_
                refine V_iconst (pc := 68) C dX9_findRing_68 ?_
                refine V_isub (pc := 69) C dX9_findRing_69 ?_
                refine V_eqt (y := 2) (by decide) ?_
                refine V_istore (lv' := [(6, .int (iI 2)), (5, .int (iI r)), (4, .int (iI r)), (3, .int (iI (((f 26) * (f 26)) * (f 26)))), (2, .int (iI 3)), (0, .ref o), (1, .int (iI w))]) (pc := 70) C dX9_findRing_70 (by decide) rfl ?_
                refine V_iload (pc := 72) C dX9_findRing_72 0 rfl ?_
                refine V_if_lt (pc := 74) 106 C dX9_findRing_74 (by decide) (sm_i (by decide)) (fun c74 => ?_) (fun c74 => ?_)
                · exact absurd c74 (by decide)
                · refine V_aload_n (pc := 77) C dX9_findRing_77 rfl 5 rfl ?_
                  refine gf_X9_108 (x := q 42) (pc := 78) C dX9_findRing_78 0 rfl rfl ?_
                  refine V_iload (pc := 81) C dX9_findRing_81 0 rfl ?_
                  refine V_iload (pc := 83) C dX9_findRing_83 1 rfl ?_
                  refine V_aload_n (pc := 85) C dX9_findRing_85 rfl 5 rfl ?_
                  refine gf_X9_224 (x := f 26) (pc := 86) C dX9_findRing_86 0 rfl rfl ?_
                  refine V_irem (pc := 89) C dX9_findRing_89 (by omega) ?_
                  refine V_iast (f := T7) (ws' := [(o, .inr (9, fX9 q (up (up (up f 44 n8) 45 U8) 46 W8))), (q 27, aI (d 0) 8 M27), (q 28, aI (d 0) 8 M28), (q 29, aI (d 0) 8 M29), (q 30, aI (d 0) 8 M30), (q 31, aI (d 0) 8 M31), (q 42, aI (d 0) 6 (uI T7 2 (r % (f 26)))), (q 43, aI (d 0) 3 R8)]) (pc := 90) C dX9_findRing_90 6 rfl (by omega) (by omega) (Nat.le_of_ble_eq_true rfl) rfl ?_
                  refine V_iload (pc := 91) C dX9_findRing_91 1 rfl ?_
                  refine V_aload_n (pc := 93) C dX9_findRing_93 rfl 5 rfl ?_
                  refine gf_X9_224 (x := f 26) (pc := 94) C dX9_findRing_94 0 rfl rfl ?_
                  refine V_idiv (pc := 97) C dX9_findRing_97 (by omega) ?_
                  refine V_istore (lv' := [(5, .int (iI (r / (f 26)))), (6, .int (iI 2)), (4, .int (iI r)), (3, .int (iI (((f 26) * (f 26)) * (f 26)))), (2, .int (iI 3)), (0, .ref o), (1, .int (iI w))]) (pc := 98) C dX9_findRing_98 (by decide) rfl ?_
                  refine V_iinc (lv' := [(6, .int (iI 1)), (5, .int (iI (r / (f 26)))), (4, .int (iI r)), (3, .int (iI (((f 26) * (f 26)) * (f 26)))), (2, .int (iI 3)), (0, .ref o), (1, .int (iI w))]) (pc := 100) C dX9_findRing_100 1 rfl (by decide) rfl ?_
                  refine V_goto (pc := 103) 72 C dX9_findRing_103 (by decide) ?_
                  refine V_iload (pc := 72) C dX9_findRing_72 0 rfl ?_
                  refine V_if_lt (pc := 74) 106 C dX9_findRing_74 (by decide) (sm_i (by decide)) (fun c74 => ?_) (fun c74 => ?_)
                  · exact absurd c74 (by decide)
                  · refine V_aload_n (pc := 77) C dX9_findRing_77 rfl 5 rfl ?_
                    refine gf_X9_108 (x := q 42) (pc := 78) C dX9_findRing_78 0 rfl rfl ?_
                    refine V_iload (pc := 81) C dX9_findRing_81 0 rfl ?_
                    refine V_iload (pc := 83) C dX9_findRing_83 1 rfl ?_
                    refine V_aload_n (pc := 85) C dX9_findRing_85 rfl 5 rfl ?_
                    refine gf_X9_224 (x := f 26) (pc := 86) C dX9_findRing_86 0 rfl rfl ?_
                    refine V_irem (pc := 89) C dX9_findRing_89 (by omega) ?_
                    refine V_iast (f := uI T7 2 (r % (f 26))) (ws' := [(o, .inr (9, fX9 q (up (up (up f 44 n8) 45 U8) 46 W8))), (q 27, aI (d 0) 8 M27), (q 28, aI (d 0) 8 M28), (q 29, aI (d 0) 8 M29), (q 30, aI (d 0) 8 M30), (q 31, aI (d 0) 8 M31), (q 42, aI (d 0) 6 (uI (uI T7 2 (r % (f 26))) 1 ((r / (f 26)) % (f 26)))), (q 43, aI (d 0) 3 R8)]) (pc := 90) C dX9_findRing_90 6 rfl (by omega) (by omega) (Nat.le_of_ble_eq_true rfl) rfl ?_
                    refine V_iload (pc := 91) C dX9_findRing_91 1 rfl ?_
                    refine V_aload_n (pc := 93) C dX9_findRing_93 rfl 5 rfl ?_
                    refine gf_X9_224 (x := f 26) (pc := 94) C dX9_findRing_94 0 rfl rfl ?_
                    refine V_idiv (pc := 97) C dX9_findRing_97 (by omega) ?_
                    refine V_istore (lv' := [(5, .int (iI ((r / (f 26)) / (f 26)))), (6, .int (iI 1)), (4, .int (iI r)), (3, .int (iI (((f 26) * (f 26)) * (f 26)))), (2, .int (iI 3)), (0, .ref o), (1, .int (iI w))]) (pc := 98) C dX9_findRing_98 (by decide) rfl ?_
                    refine V_iinc (lv' := [(6, .int (iI 0)), (5, .int (iI ((r / (f 26)) / (f 26)))), (4, .int (iI r)), (3, .int (iI (((f 26) * (f 26)) * (f 26)))), (2, .int (iI 3)), (0, .ref o), (1, .int (iI w))]) (pc := 100) C dX9_findRing_100 1 rfl (by decide) rfl ?_
                    refine V_goto (pc := 103) 72 C dX9_findRing_103 (by decide) ?_
                    refine V_iload (pc := 72) C dX9_findRing_72 0 rfl ?_
                    refine V_if_lt (pc := 74) 106 C dX9_findRing_74 (by decide) (sm_i (by decide)) (fun c74 => ?_) (fun c74 => ?_)
                    · exact absurd c74 (by decide)
                    · refine V_aload_n (pc := 77) C dX9_findRing_77 rfl 5 rfl ?_
                      refine gf_X9_108 (x := q 42) (pc := 78) C dX9_findRing_78 0 rfl rfl ?_
                      refine V_iload (pc := 81) C dX9_findRing_81 0 rfl ?_
                      refine V_iload (pc := 83) C dX9_findRing_83 1 rfl ?_
                      refine V_aload_n (pc := 85) C dX9_findRing_85 rfl 5 rfl ?_
                      refine gf_X9_224 (x := f 26) (pc := 86) C dX9_findRing_86 0 rfl rfl ?_
                      refine V_irem (pc := 89) C dX9_findRing_89 (by omega) ?_
                      refine V_iast (f := uI (uI T7 2 (r % (f 26))) 1 ((r / (f 26)) % (f 26))) (ws' := [(o, .inr (9, fX9 q (up (up (up f 44 n8) 45 U8) 46 W8))), (q 27, aI (d 0) 8 M27), (q 28, aI (d 0) 8 M28), (q 29, aI (d 0) 8 M29), (q 30, aI (d 0) 8 M30), (q 31, aI (d 0) 8 M31), (q 42, aI (d 0) 6 (uI (uI (uI T7 2 (r % (f 26))) 1 ((r / (f 26)) % (f 26))) 0 (((r / (f 26)) / (f 26)) % (f 26)))), (q 43, aI (d 0) 3 R8)]) (pc := 90) C dX9_findRing_90 6 rfl (by omega) (by omega) (Nat.le_of_ble_eq_true rfl) rfl ?_
                      refine V_iload (pc := 91) C dX9_findRing_91 1 rfl ?_
                      refine V_aload_n (pc := 93) C dX9_findRing_93 rfl 5 rfl ?_
                      refine gf_X9_224 (x := f 26) (pc := 94) C dX9_findRing_94 0 rfl rfl ?_
                      refine V_idiv (pc := 97) C dX9_findRing_97 (by omega) ?_
                      refine V_istore (lv' := [(5, .int (iI (((r / (f 26)) / (f 26)) / (f 26)))), (6, .int (iI 0)), (4, .int (iI r)), (3, .int (iI (((f 26) * (f 26)) * (f 26)))), (2, .int (iI 3)), (0, .ref o), (1, .int (iI w))]) (pc := 98) C dX9_findRing_98 (by decide) rfl ?_
                      refine V_iinc (lv' := [(6, .int (iI (-1))), (5, .int (iI (((r / (f 26)) / (f 26)) / (f 26)))), (4, .int (iI r)), (3, .int (iI (((f 26) * (f 26)) * (f 26)))), (2, .int (iI 3)), (0, .ref o), (1, .int (iI w))]) (pc := 100) C dX9_findRing_100 1 rfl (by decide) rfl ?_
                      refine V_goto (pc := 103) 72 C dX9_findRing_103 (by decide) ?_
                      refine V_iload (pc := 72) C dX9_findRing_72 0 rfl ?_
                      refine V_if_lt (pc := 74) 106 C dX9_findRing_74 (by decide) (sm_i (by decide)) (fun c74 => ?_) (fun c74 => ?_)
                      · obtain ⟨T8, hT8⟩ : ∃ T : Int → Int, T = uI (uI (uI T7 2 (r % (f 26))) 1 ((r / (f 26)) % (f 26))) 0 (((r / (f 26)) / (f 26)) % (f 26)) := ⟨_, rfl⟩
                        refine V_eqw (w' := [(o, .inr (9, fX9 q (up (up (up f 44 n8) 45 U8) 46 W8))), (q 27, aI (d 0) 8 M27), (q 28, aI (d 0) 8 M28), (q 29, aI (d 0) 8 M29), (q 30, aI (d 0) 8 M30), (q 31, aI (d 0) 8 M31), (q 42, aI (d 0) 6 T8), (q 43, aI (d 0) 3 R8)]) (by rw [hT8]) ?_
                        have t0 : T8 0 = r / f 26 / f 26 := by rw [hT8]; exact dm.2.2.2
                        have t1 : T8 1 = r / f 26 % f 26 := by rw [hT8]; rfl
                        have t2 : T8 2 = r % f 26 := by rw [hT8]; rfl
                        have bT8 : bd T8 0 7 := by rw [hT8]; exact bd_u (bd_u (bd_u hT7 (by omega)) (by omega)) (by omega)
                        have hc : (M28 (T8 0) = M27 (T8 1) ∧ (M28 (T8 1) = M27 (T8 2) ∧ ¬ M27 (T8 1) = M27 (T8 0)) ∧ M28 (T8 2) = M27 (T8 0) ∧ ¬ M27 (T8 2) = M27 (T8 0) ∧ ¬ M27 (T8 2) = M27 (T8 1)) ↔ (M28 (r / f 26 / f 26) = M27 (r / f 26 % f 26) ∧ M28 (r / f 26 % f 26) = M27 (r % f 26) ∧ M28 (r % f 26) = M27 (r / f 26 / f 26)) := by rw [t0, t1, t2]; have z1 := hFT (r / f 26 / f 26) dm.1; have z2 := hFT (r / f 26 % f 26) dm.2.1; have z3 := hFT (r % f 26) dm.2.2.1; omega
                        refine V_aload_n (pc := 106) C dX9_findRing_106 rfl 5 rfl ?_
                        refine V_iload_n (pc := 107) C dX9_findRing_107 rfl 4 rfl ?_
                        refine cv_X9_237 (pc := 108) (rest := []) (wn := fun _ => [(o, .inr (9, fX9 q (up (up (up f 44 n8) 45 U8) 46 W8))), (q 27, aI (d 0) 8 M27), (q 28, aI (d 0) 8 M28), (q 29, aI (d 0) 8 M29), (q 30, aI (d 0) 8 M30), (q 31, aI (d 0) 8 M31), (q 42, aI (d 0) 6 T8), (q 43, aI (d 0) 3 R8)]) (sn := fun _ => [.int (iI (bI (M28 (T8 0) = M27 (T8 1) ∧ (M28 (T8 1) = M27 (T8 2) ∧ ¬ M27 (T8 1) = M27 (T8 0)) ∧ M28 (T8 2) = M27 (T8 0) ∧ ¬ M27 (T8 2) = M27 (T8 0) ∧ ¬ M27 (T8 2) = M27 (T8 1))))]) C dX9_findRing_108 (c_X9_isRing_3 l D d o q (up (up (up f 44 n8) 45 U8) 46 W8) M27 M28 T8 hM27 hM28 bT8) [0, 1, 2, 6] rfl rfl 0 rfl rfl rfl (Nat.le_of_ble_eq_true rfl) ⟨by omega, by omega⟩ ⟨Nat.zero_le _, Nat.zero_le _⟩ (fun _ => rfl) (fun _ => rfl) (fun _ => rfl) ?_
                        intro _ _
                        refine V_ifb_eq (pc := 111) 286 C dX9_findRing_111 (by decide) (fun c111 => ?_) (fun c111 => ?_)
                        · refine V_iinc (lv' := [(4, .int (iI (r + 1))), (6, .int (iI (-1))), (5, .int (iI (((r / (f 26)) / (f 26)) / (f 26)))), (3, .int (iI (((f 26) * (f 26)) * (f 26)))), (2, .int (iI 3)), (0, .ref o), (1, .int (iI w))]) (pc := 286) C dX9_findRing_286 2 rfl (by decide) rfl ?_
                          refine V_goto (pc := 289) 57 C dX9_findRing_289 (by decide) ?_
                          exact V_sub [0, 3, 4, 5, 6] rfl (ih57 (r + 1) n8 U8 W8 T8 R8 (by omega) (by omega) (by omega) (by omega) (by assumption) (by rw [foldI_s _ hr.1]; show stI (st3 M28 M27 _ _ (r / f 26 / f 26) (r / f 26 % f 26) (r % f 26) _) _ _ _ _; first | exact (mr3 hR8).1 (fun q => c111 (hc.mpr q)) | exact (mr3 hR8).2.1 (hc.mp c111) (by rw [← eU, ← eW]; exact c237) | (rw [t0, t1, t2, eU, eW]; exact (mr3 hR8).2.2 (hc.mp c111) (by rw [← eU, ← eW]; exact c237))) (by omega))
                        · refine V_lconst (k := 1) (pc := 114) C dX9_findRing_114 rfl ?_
                          refine V_lstore (lv' := [(6, .long (lI 1)), (5, .int (iI (((r / (f 26)) / (f 26)) / (f 26)))), (4, .int (iI r)), (3, .int (iI (((f 26) * (f 26)) * (f 26)))), (2, .int (iI 3)), (0, .ref o), (1, .int (iI w))]) (pc := 115) C dX9_findRing_115 (by decide) rfl ?_
                          refine V_lconst (k := 1) (pc := 117) C dX9_findRing_117 rfl ?_
                          refine V_lstore (lv' := [(8, .long (lI 1)), (6, .long (lI 1)), (5, .int (iI (((r / (f 26)) / (f 26)) / (f 26)))), (4, .int (iI r)), (3, .int (iI (((f 26) * (f 26)) * (f 26)))), (2, .int (iI 3)), (0, .ref o), (1, .int (iI w))]) (pc := 118) C dX9_findRing_118 (by decide) rfl ?_
                          refine V_iconst (pc := 120) C dX9_findRing_120 ?_
                          refine V_istore (lv' := [(10, .int (iI 0)), (8, .long (lI 1)), (6, .long (lI 1)), (5, .int (iI (((r / (f 26)) / (f 26)) / (f 26)))), (4, .int (iI r)), (3, .int (iI (((f 26) * (f 26)) * (f 26)))), (2, .int (iI 3)), (0, .ref o), (1, .int (iI w))]) (pc := 121) C dX9_findRing_121 (by decide) rfl ?_
                          have L123 : ∀ (nn9 : Nat) (k : Int) (U : Int) (W : Int), (0 ≤ k ∧ k ≤ 3) → (U = prN (fun z => (gotE M28 M30 w) (T8 z)) k.toNat) → (W = prN (fun z => (paidE M27 M29 M31) (T8 z)) k.toNat) → ((3 : Int) - k).toNat < nn9 → V p9 l e9 R9 s9 m9 args9 below9 meth9 c9 A9 D Q9 12 0 0 [(o, .inr (9, fX9 q (up (up (up f 44 n8) 45 U8) 46 W8))), (q 27, aI (d 0) 8 M27), (q 28, aI (d 0) 8 M28), (q 29, aI (d 0) 8 M29), (q 30, aI (d 0) 8 M30), (q 31, aI (d 0) 8 M31), (q 42, aI (d 0) 6 T8), (q 43, aI (d 0) 3 R8)] [(10, .int (iI k)), (8, .long (lI W)), (6, .long (lI U)), (4, .int (iI r)), (3, .int (iI (((f 26) * (f 26)) * (f 26)))), (2, .int (iI 3)), (0, .ref o), (1, .int (iI w))] 123 [] := by
                            intro nn9
                            induction nn9 with
                            | zero => intro _ _ _ _ _ _ hm123; exact absurd hm123 (Nat.not_lt_zero _)
                            | succ nn9 ih123 =>
                              intro k U W hk hU hW hm123
                              have pU := prN_b (g := fun z => (gotE M28 M30 w) (T8 z)) (fun z => gb (T8 z)) (show 0 ≤ k ∧ k ≤ 3 by omega)
                              have pW := prN_b (g := fun z => (paidE M27 M29 M31) (T8 z)) (fun z => pb (T8 z)) (show 0 ≤ k ∧ k ≤ 3 by omega)
                              rw [← hU] at pU
                              rw [← hW] at pW
                              have t8k := bT8 k
                              refine V_iload (pc := 123) C dX9_findRing_123 0 rfl ?_
                              refine V_iload_n (pc := 125) C dX9_findRing_125 rfl 5 rfl ?_
                              refine V_icmp_ge (pc := 126) 222 C dX9_findRing_126 (by decide) (sm_i (by omega)) (sm_i (by decide)) (fun c126 => ?_) (fun c126 => ?_)
                              · have eU : U = (gotE M28 M30 w) (r / f 26 / f 26) * (gotE M28 M30 w) (r / f 26 % f 26) * (gotE M28 M30 w) (r % f 26) := by rw [hU, show k.toNat = 3 by omega]; show 1 * (gotE M28 M30 w) (T8 0) * (gotE M28 M30 w) (T8 1) * (gotE M28 M30 w) (T8 2) = _; rw [Int.one_mul, t0, t1, t2]
                                have eW : W = (paidE M27 M29 M31) (r / f 26 / f 26) * (paidE M27 M29 M31) (r / f 26 % f 26) * (paidE M27 M29 M31) (r % f 26) := by rw [hW, show k.toNat = 3 by omega]; show 1 * (paidE M27 M29 M31) (T8 0) * (paidE M27 M29 M31) (T8 1) * (paidE M27 M29 M31) (T8 2) = _; rw [Int.one_mul, t0, t1, t2]
                                have w1 := Int.mul_pos (Int.mul_pos (show 0 < (paidE M27 M29 M31) (r / f 26 / f 26) by have := hp1 _ dm.1; omega) (show 0 < (paidE M27 M29 M31) (r / f 26 % f 26) by have := hp1 _ dm.2.1; omega)) (show 0 < (paidE M27 M29 M31) (r % f 26) by have := hp1 _ dm.2.2.1; omega)
                                rw [← eW] at w1
                                have m1 := mulb (show 0 ≤ U ∧ U ≤ 707347971 by omega) (show 0 ≤ W8 ∧ W8 ≤ 1000000000 by omega)
                                have m2 := mulb bU8 (show 0 ≤ W ∧ W ≤ 707347971 by omega)
                                refine V_lload (pc := 222) C dX9_findRing_222 2 rfl ?_
                                refine V_aload_n (pc := 224) C dX9_findRing_224 rfl 6 rfl ?_
                                refine gf_X9_234 (x := W8) (pc := 225) C dX9_findRing_225 0 rfl rfl ?_
                                refine V_lmul (pc := 228) C dX9_findRing_228 ?_
                                refine V_aload_n (pc := 229) C dX9_findRing_229 rfl 6 rfl ?_
                                refine gf_X9_230 (x := U8) (pc := 230) C dX9_findRing_230 0 rfl rfl ?_
                                refine V_lload (pc := 233) C dX9_findRing_233 1 rfl ?_
                                refine V_lmul (pc := 235) C dX9_findRing_235 ?_
                                refine V_lcmp (pc := 236) C dX9_findRing_236 (sL_i (by omega)) (sL_i (by omega)) ?_
                                refine V_ifc_le (pc := 237) 286 C dX9_findRing_237 (by decide) (fun c237 => ?_) (fun c237 => ?_)
                                · refine V_iinc (lv' := [(4, .int (iI (r + 1))), (10, .int (iI k)), (8, .long (lI W)), (6, .long (lI U)), (3, .int (iI (((f 26) * (f 26)) * (f 26)))), (2, .int (iI 3)), (0, .ref o), (1, .int (iI w))]) (pc := 286) C dX9_findRing_286 3 rfl (by decide) rfl ?_
                                  refine V_goto (pc := 289) 57 C dX9_findRing_289 (by decide) ?_
                                  exact V_sub [0, 4, 5, 6, 7] rfl (ih57 (r + 1) n8 U8 W8 T8 R8 (by omega) (by omega) (by omega) (by omega) (by assumption) (by rw [foldI_s _ hr.1]; show stI (st3 M28 M27 _ _ (r / f 26 / f 26) (r / f 26 % f 26) (r % f 26) _) _ _ _ _; first | exact (mr3 hR8).1 (fun q => c111 (hc.mpr q)) | exact (mr3 hR8).2.1 (hc.mp c111) (by rw [← eU, ← eW]; exact c237) | (rw [t0, t1, t2, eU, eW]; exact (mr3 hR8).2.2 (hc.mp c111) (by rw [← eU, ← eW]; exact c237))) (by omega))
                                · refine V_aload_n (pc := 240) C dX9_findRing_240 rfl 6 rfl ?_
                                  refine V_lload (pc := 241) C dX9_findRing_241 2 rfl ?_
                                  refine pf_X9_230 (ws' := [(o, .inr (9, fX9 q (up (up (up (up f 44 n8) 45 U8) 46 W8) 45 U))), (q 27, aI (d 0) 8 M27), (q 28, aI (d 0) 8 M28), (q 29, aI (d 0) 8 M29), (q 30, aI (d 0) 8 M30), (q 31, aI (d 0) 8 M31), (q 42, aI (d 0) 6 T8), (q 43, aI (d 0) 3 R8)]) (pc := 243) C dX9_findRing_243 0 rfl rfl ?_
                                  refine V_aload_n (pc := 246) C dX9_findRing_246 rfl 6 rfl ?_
                                  refine V_lload (pc := 247) C dX9_findRing_247 1 rfl ?_
                                  refine pf_X9_234 (ws' := [(o, .inr (9, fX9 q (up (up (up (up (up f 44 n8) 45 U8) 46 W8) 45 U) 46 W))), (q 27, aI (d 0) 8 M27), (q 28, aI (d 0) 8 M28), (q 29, aI (d 0) 8 M29), (q 30, aI (d 0) 8 M30), (q 31, aI (d 0) 8 M31), (q 42, aI (d 0) 6 T8), (q 43, aI (d 0) 3 R8)]) (pc := 249) C dX9_findRing_249 0 rfl rfl ?_
                                  refine V_aload_n (pc := 252) C dX9_findRing_252 rfl 6 rfl ?_
                                  refine V_iload_n (pc := 253) C dX9_findRing_253 rfl 5 rfl ?_
                                  refine pf_X9_227 (ws' := [(o, .inr (9, fX9 q (up (up (up (up (up (up f 44 n8) 45 U8) 46 W8) 45 U) 46 W) 44 3))), (q 27, aI (d 0) 8 M27), (q 28, aI (d 0) 8 M28), (q 29, aI (d 0) 8 M29), (q 30, aI (d 0) 8 M30), (q 31, aI (d 0) 8 M31), (q 42, aI (d 0) 6 T8), (q 43, aI (d 0) 3 R8)]) (pc := 254) C dX9_findRing_254 0 rfl rfl ?_
                                  refine V_iconst (pc := 257) C dX9_findRing_257 ?_
                                  refine V_istore (lv' := [(10, .int (iI 0)), (8, .long (lI W)), (6, .long (lI U)), (4, .int (iI r)), (3, .int (iI (((f 26) * (f 26)) * (f 26)))), (2, .int (iI 3)), (0, .ref o), (1, .int (iI w))]) (pc := 258) C dX9_findRing_258 (by decide) rfl ?_
                                  refine V_iload (pc := 260) C dX9_findRing_260 0 rfl ?_
                                  refine V_iload_n (pc := 262) C dX9_findRing_262 rfl 5 rfl ?_
                                  refine V_icmp_ge (pc := 263) 286 C dX9_findRing_263 (by decide) (sm_i (by decide)) (sm_i (by decide)) (fun c263 => ?_) (fun c263 => ?_)
                                  · exact absurd c263 (by decide)
                                  · refine V_aload_n (pc := 266) C dX9_findRing_266 rfl 6 rfl ?_
                                    refine gf_X9_111 (x := q 43) (pc := 267) C dX9_findRing_267 0 rfl rfl ?_
                                    refine V_iload (pc := 270) C dX9_findRing_270 0 rfl ?_
                                    refine V_aload_n (pc := 272) C dX9_findRing_272 rfl 6 rfl ?_
                                    refine gf_X9_108 (x := q 42) (pc := 273) C dX9_findRing_273 0 rfl rfl ?_
                                    refine V_iload (pc := 276) C dX9_findRing_276 0 rfl ?_
                                    refine V_iald (f := T8) (pc := 278) C dX9_findRing_278 6 rfl (by omega) (by omega) (Nat.le_of_ble_eq_true rfl) ?_
                                    refine V_iast (f := R8) (ws' := [(o, .inr (9, fX9 q (up (up (up (up (up (up f 44 n8) 45 U8) 46 W8) 45 U) 46 W) 44 3))), (q 27, aI (d 0) 8 M27), (q 28, aI (d 0) 8 M28), (q 29, aI (d 0) 8 M29), (q 30, aI (d 0) 8 M30), (q 31, aI (d 0) 8 M31), (q 42, aI (d 0) 6 T8), (q 43, aI (d 0) 3 (uI R8 0 (T8 0)))]) (pc := 279) C dX9_findRing_279 7 rfl (by omega) (by omega) (Nat.le_of_ble_eq_true rfl) rfl ?_
                                    refine V_iinc (lv' := [(10, .int (iI 1)), (8, .long (lI W)), (6, .long (lI U)), (4, .int (iI r)), (3, .int (iI (((f 26) * (f 26)) * (f 26)))), (2, .int (iI 3)), (0, .ref o), (1, .int (iI w))]) (pc := 280) C dX9_findRing_280 0 rfl (by decide) rfl ?_
                                    refine V_goto (pc := 283) 260 C dX9_findRing_283 (by decide) ?_
                                    refine V_iload (pc := 260) C dX9_findRing_260 0 rfl ?_
                                    refine V_iload_n (pc := 262) C dX9_findRing_262 rfl 5 rfl ?_
                                    refine V_icmp_ge (pc := 263) 286 C dX9_findRing_263 (by decide) (sm_i (by decide)) (sm_i (by decide)) (fun c263 => ?_) (fun c263 => ?_)
                                    · exact absurd c263 (by decide)
                                    · refine V_aload_n (pc := 266) C dX9_findRing_266 rfl 6 rfl ?_
                                      refine gf_X9_111 (x := q 43) (pc := 267) C dX9_findRing_267 0 rfl rfl ?_
                                      refine V_iload (pc := 270) C dX9_findRing_270 0 rfl ?_
                                      refine V_aload_n (pc := 272) C dX9_findRing_272 rfl 6 rfl ?_
                                      refine gf_X9_108 (x := q 42) (pc := 273) C dX9_findRing_273 0 rfl rfl ?_
                                      refine V_iload (pc := 276) C dX9_findRing_276 0 rfl ?_
                                      refine V_iald (f := T8) (pc := 278) C dX9_findRing_278 6 rfl (by omega) (by omega) (Nat.le_of_ble_eq_true rfl) ?_
                                      refine V_iast (f := uI R8 0 (T8 0)) (ws' := [(o, .inr (9, fX9 q (up (up (up (up (up (up f 44 n8) 45 U8) 46 W8) 45 U) 46 W) 44 3))), (q 27, aI (d 0) 8 M27), (q 28, aI (d 0) 8 M28), (q 29, aI (d 0) 8 M29), (q 30, aI (d 0) 8 M30), (q 31, aI (d 0) 8 M31), (q 42, aI (d 0) 6 T8), (q 43, aI (d 0) 3 (uI (uI R8 0 (T8 0)) 1 (T8 1)))]) (pc := 279) C dX9_findRing_279 7 rfl (by omega) (by omega) (Nat.le_of_ble_eq_true rfl) rfl ?_
                                      refine V_iinc (lv' := [(10, .int (iI 2)), (8, .long (lI W)), (6, .long (lI U)), (4, .int (iI r)), (3, .int (iI (((f 26) * (f 26)) * (f 26)))), (2, .int (iI 3)), (0, .ref o), (1, .int (iI w))]) (pc := 280) C dX9_findRing_280 0 rfl (by decide) rfl ?_
                                      refine V_goto (pc := 283) 260 C dX9_findRing_283 (by decide) ?_
                                      refine V_iload (pc := 260) C dX9_findRing_260 0 rfl ?_
                                      refine V_iload_n (pc := 262) C dX9_findRing_262 rfl 5 rfl ?_
                                      refine V_icmp_ge (pc := 263) 286 C dX9_findRing_263 (by decide) (sm_i (by decide)) (sm_i (by decide)) (fun c263 => ?_) (fun c263 => ?_)
                                      · exact absurd c263 (by decide)
                                      · refine V_aload_n (pc := 266) C dX9_findRing_266 rfl 6 rfl ?_
                                        refine gf_X9_111 (x := q 43) (pc := 267) C dX9_findRing_267 0 rfl rfl ?_
                                        refine V_iload (pc := 270) C dX9_findRing_270 0 rfl ?_
                                        refine V_aload_n (pc := 272) C dX9_findRing_272 rfl 6 rfl ?_
                                        refine gf_X9_108 (x := q 42) (pc := 273) C dX9_findRing_273 0 rfl rfl ?_
                                        refine V_iload (pc := 276) C dX9_findRing_276 0 rfl ?_
                                        refine V_iald (f := T8) (pc := 278) C dX9_findRing_278 6 rfl (by omega) (by omega) (Nat.le_of_ble_eq_true rfl) ?_
                                        refine V_iast (f := uI (uI R8 0 (T8 0)) 1 (T8 1)) (ws' := [(o, .inr (9, fX9 q (up (up (up (up (up (up f 44 n8) 45 U8) 46 W8) 45 U) 46 W) 44 3))), (q 27, aI (d 0) 8 M27), (q 28, aI (d 0) 8 M28), (q 29, aI (d 0) 8 M29), (q 30, aI (d 0) 8 M30), (q 31, aI (d 0) 8 M31), (q 42, aI (d 0) 6 T8), (q 43, aI (d 0) 3 (uI (uI (uI R8 0 (T8 0)) 1 (T8 1)) 2 (T8 2)))]) (pc := 279) C dX9_findRing_279 7 rfl (by omega) (by omega) (Nat.le_of_ble_eq_true rfl) rfl ?_
                                        refine V_iinc (lv' := [(10, .int (iI 3)), (8, .long (lI W)), (6, .long (lI U)), (4, .int (iI r)), (3, .int (iI (((f 26) * (f 26)) * (f 26)))), (2, .int (iI 3)), (0, .ref o), (1, .int (iI w))]) (pc := 280) C dX9_findRing_280 0 rfl (by decide) rfl ?_
                                        refine V_goto (pc := 283) 260 C dX9_findRing_283 (by decide) ?_
                                        refine V_iload (pc := 260) C dX9_findRing_260 0 rfl ?_
                                        refine V_iload_n (pc := 262) C dX9_findRing_262 rfl 5 rfl ?_
                                        refine V_icmp_ge (pc := 263) 286 C dX9_findRing_263 (by decide) (sm_i (by decide)) (sm_i (by decide)) (fun c263 => ?_) (fun c263 => ?_)
                                        · refine V_iinc (lv' := [(4, .int (iI (r + 1))), (10, .int (iI 3)), (8, .long (lI W)), (6, .long (lI U)), (3, .int (iI (((f 26) * (f 26)) * (f 26)))), (2, .int (iI 3)), (0, .ref o), (1, .int (iI w))]) (pc := 286) C dX9_findRing_286 3 rfl (by decide) rfl ?_
                                          refine V_goto (pc := 289) 57 C dX9_findRing_289 (by decide) ?_
                                          exact V_sub [0, 4, 5, 6, 7] rfl (ih57 (r + 1) 3 U W T8 (uI (uI (uI R8 0 (T8 0)) 1 (T8 1)) 2 (T8 2)) (by omega) (by omega) (by omega) (by omega) (by assumption) (by rw [foldI_s _ hr.1]; show stI (st3 M28 M27 _ _ (r / f 26 / f 26) (r / f 26 % f 26) (r % f 26) _) _ _ _ _; first | exact (mr3 hR8).1 (fun q => c111 (hc.mpr q)) | exact (mr3 hR8).2.1 (hc.mp c111) (by rw [← eU, ← eW]; exact c237) | (rw [t0, t1, t2, eU, eW]; exact (mr3 hR8).2.2 (hc.mp c111) (by rw [← eU, ← eW]; exact c237))) (by omega))
                                        · exact absurd c263 (by decide)
                              · refine V_aload_n (pc := 129) C dX9_findRing_129 rfl 6 rfl ?_
                                refine gf_X9_108 (x := q 42) (pc := 130) C dX9_findRing_130 0 rfl rfl ?_
                                refine V_iload (pc := 133) C dX9_findRing_133 0 rfl ?_
                                refine V_iald (f := T8) (pc := 135) C dX9_findRing_135 6 rfl (by omega) (by omega) (Nat.le_of_ble_eq_true rfl) ?_
                                refine V_istore (lv' := [(11, .int (iI (T8 k))), (10, .int (iI k)), (8, .long (lI W)), (6, .long (lI U)), (4, .int (iI r)), (3, .int (iI (((f 26) * (f 26)) * (f 26)))), (2, .int (iI 3)), (0, .ref o), (1, .int (iI w))]) (pc := 136) C dX9_findRing_136 (by decide) rfl ?_
                                refine V_lload (pc := 138) C dX9_findRing_138 3 rfl ?_
                                refine V_aload_n (pc := 140) C dX9_findRing_140 rfl 7 rfl ?_
                                refine gf_X9_69 (x := q 28) (pc := 141) C dX9_findRing_141 0 rfl rfl ?_
                                refine V_iload (pc := 144) C dX9_findRing_144 0 rfl ?_
                                refine V_iald (f := M28) (pc := 146) C dX9_findRing_146 2 rfl (by omega) (by omega) (Nat.le_of_ble_eq_true rfl) ?_
                                have b146 := hM28 (T8 k)
                                refine V_if_ne (pc := 147) 161 C dX9_findRing_147 (by decide) (sm_i (by omega)) (fun c147 => ?_) (fun c147 => ?_)
                                · refine V_aload_n (pc := 161) C dX9_findRing_161 rfl 7 rfl ?_
                                  refine gf_X9_75 (x := q 30) (pc := 162) C dX9_findRing_162 0 rfl rfl ?_
                                  refine V_iload (pc := 165) C dX9_findRing_165 0 rfl ?_
                                  refine V_iald (f := M30) (pc := 167) C dX9_findRing_167 4 rfl (by omega) (by omega) (Nat.le_of_ble_eq_true rfl) ?_
                                  have b167 := hM30 (T8 k)
                                  refine V_iload_n (pc := 168) C dX9_findRing_168 rfl 8 rfl ?_
                                  refine V_imul (pc := 169) C dX9_findRing_169 ?_
                                  have m27 := mulb b167 hw
                                  refine V_i2l (pc := 170) C dX9_findRing_170 (sm_i (by omega)) ?_
                                  refine V_lmul (pc := 171) C dX9_findRing_171 ?_
                                  refine V_lstore (lv' := [(6, .long (lI (U * ((M30 (T8 k)) * w)))), (11, .int (iI (T8 k))), (10, .int (iI k)), (8, .long (lI W)), (4, .int (iI r)), (3, .int (iI (((f 26) * (f 26)) * (f 26)))), (2, .int (iI 3)), (0, .ref o), (1, .int (iI w))]) (pc := 172) C dX9_findRing_172 (by decide) rfl ?_
                                  refine V_lload (pc := 174) C dX9_findRing_174 3 rfl ?_
                                  refine V_aload_n (pc := 176) C dX9_findRing_176 rfl 7 rfl ?_
                                  refine gf_X9_66 (x := q 27) (pc := 177) C dX9_findRing_177 0 rfl rfl ?_
                                  refine V_iload (pc := 180) C dX9_findRing_180 1 rfl ?_
                                  refine V_iald (f := M27) (pc := 182) C dX9_findRing_182 1 rfl (by omega) (by omega) (Nat.le_of_ble_eq_true rfl) ?_
                                  have b182 := hM27 (T8 k)
                                  refine V_if_ne (pc := 183) 197 C dX9_findRing_183 (by decide) (sm_i (by omega)) (fun c183 => ?_) (fun c183 => ?_)
                                  · refine V_aload_n (pc := 197) C dX9_findRing_197 rfl 7 rfl ?_
                                    refine gf_X9_72 (x := q 29) (pc := 198) C dX9_findRing_198 0 rfl rfl ?_
                                    refine V_iload (pc := 201) C dX9_findRing_201 1 rfl ?_
                                    refine V_iald (f := M29) (pc := 203) C dX9_findRing_203 3 rfl (by omega) (by omega) (Nat.le_of_ble_eq_true rfl) ?_
                                    have b203 := hM29 (T8 k)
                                    refine V_aload_n (pc := 204) C dX9_findRing_204 rfl 7 rfl ?_
                                    refine gf_X9_78 (x := q 31) (pc := 205) C dX9_findRing_205 0 rfl rfl ?_
                                    refine V_iload (pc := 208) C dX9_findRing_208 1 rfl ?_
                                    refine V_iald (f := M31) (pc := 210) C dX9_findRing_210 5 rfl (by omega) (by omega) (Nat.le_of_ble_eq_true rfl) ?_
                                    have b210 := hM31 (T8 k)
                                    refine V_imul (pc := 211) C dX9_findRing_211 ?_
                                    have m28 := mulb b203 b210
                                    refine V_i2l (pc := 212) C dX9_findRing_212 (sm_i (by omega)) ?_
                                    refine V_lmul (pc := 213) C dX9_findRing_213 ?_
                                    refine V_lstore (lv' := [(8, .long (lI (W * ((M29 (T8 k)) * (M31 (T8 k)))))), (6, .long (lI (U * ((M30 (T8 k)) * w)))), (11, .int (iI (T8 k))), (10, .int (iI k)), (4, .int (iI r)), (3, .int (iI (((f 26) * (f 26)) * (f 26)))), (2, .int (iI 3)), (0, .ref o), (1, .int (iI w))]) (pc := 214) C dX9_findRing_214 (by decide) rfl ?_
                                    refine V_iinc (lv' := [(10, .int (iI (k + 1))), (8, .long (lI (W * ((M29 (T8 k)) * (M31 (T8 k)))))), (6, .long (lI (U * ((M30 (T8 k)) * w)))), (11, .int (iI (T8 k))), (4, .int (iI r)), (3, .int (iI (((f 26) * (f 26)) * (f 26)))), (2, .int (iI 3)), (0, .ref o), (1, .int (iI w))]) (pc := 216) C dX9_findRing_216 3 rfl (by decide) rfl ?_
                                    refine V_goto (pc := 219) 123 C dX9_findRing_219 (by decide) ?_
                                    exact V_sub [0, 1, 2, 4, 5, 6, 7, 8] rfl (ih123 (k + 1) (U * ((M30 (T8 k)) * w)) (W * ((M29 (T8 k)) * (M31 (T8 k)))) (by omega) (by rw [prN_s _ hk.1, ← hU]; show _ = U * (if M28 (T8 k) = 0 then _ else _); first | rw [if_pos c147] | rw [if_neg c147]) (by rw [prN_s _ hk.1, ← hW]; show _ = W * (if M27 (T8 k) = 0 then _ else _); first | rw [if_pos c183] | rw [if_neg c183]) (by omega))
                                  · refine V_aload_n (pc := 186) C dX9_findRing_186 rfl 7 rfl ?_
                                    refine gf_X9_72 (x := q 29) (pc := 187) C dX9_findRing_187 0 rfl rfl ?_
                                    refine V_iload (pc := 190) C dX9_findRing_190 1 rfl ?_
                                    refine V_iald (f := M29) (pc := 192) C dX9_findRing_192 3 rfl (by omega) (by omega) (Nat.le_of_ble_eq_true rfl) ?_
                                    have b192 := hM29 (T8 k)
                                    refine V_i2l (pc := 193) C dX9_findRing_193 (sm_i (by omega)) ?_
                                    refine V_goto (pc := 194) 213 C dX9_findRing_194 (by decide) ?_
                                    refine V_lmul (pc := 213) C dX9_findRing_213 ?_
                                    refine V_lstore (lv' := [(8, .long (lI (W * (M29 (T8 k))))), (6, .long (lI (U * ((M30 (T8 k)) * w)))), (11, .int (iI (T8 k))), (10, .int (iI k)), (4, .int (iI r)), (3, .int (iI (((f 26) * (f 26)) * (f 26)))), (2, .int (iI 3)), (0, .ref o), (1, .int (iI w))]) (pc := 214) C dX9_findRing_214 (by decide) rfl ?_
                                    refine V_iinc (lv' := [(10, .int (iI (k + 1))), (8, .long (lI (W * (M29 (T8 k))))), (6, .long (lI (U * ((M30 (T8 k)) * w)))), (11, .int (iI (T8 k))), (4, .int (iI r)), (3, .int (iI (((f 26) * (f 26)) * (f 26)))), (2, .int (iI 3)), (0, .ref o), (1, .int (iI w))]) (pc := 216) C dX9_findRing_216 3 rfl (by decide) rfl ?_
                                    refine V_goto (pc := 219) 123 C dX9_findRing_219 (by decide) ?_
                                    exact V_sub [0, 1, 2, 4, 5, 6, 7, 8] rfl (ih123 (k + 1) (U * ((M30 (T8 k)) * w)) (W * (M29 (T8 k))) (by omega) (by rw [prN_s _ hk.1, ← hU]; show _ = U * (if M28 (T8 k) = 0 then _ else _); first | rw [if_pos c147] | rw [if_neg c147]) (by rw [prN_s _ hk.1, ← hW]; show _ = W * (if M27 (T8 k) = 0 then _ else _); first | rw [if_pos c183] | rw [if_neg c183]) (by omega))
                                · refine V_aload_n (pc := 150) C dX9_findRing_150 rfl 7 rfl ?_
                                  refine gf_X9_75 (x := q 30) (pc := 151) C dX9_findRing_151 0 rfl rfl ?_
                                  refine V_iload (pc := 154) C dX9_findRing_154 0 rfl ?_
                                  refine V_iald (f := M30) (pc := 156) C dX9_findRing_156 4 rfl (by omega) (by omega) (Nat.le_of_ble_eq_true rfl) ?_
                                  have b156 := hM30 (T8 k)
                                  refine V_i2l (pc := 157) C dX9_findRing_157 (sm_i (by omega)) ?_
                                  refine V_goto (pc := 158) 171 C dX9_findRing_158 (by decide) ?_
                                  refine V_lmul (pc := 171) C dX9_findRing_171 ?_
                                  refine V_lstore (lv' := [(6, .long (lI (U * (M30 (T8 k))))), (11, .int (iI (T8 k))), (10, .int (iI k)), (8, .long (lI W)), (4, .int (iI r)), (3, .int (iI (((f 26) * (f 26)) * (f 26)))), (2, .int (iI 3)), (0, .ref o), (1, .int (iI w))]) (pc := 172) C dX9_findRing_172 (by decide) rfl ?_
                                  refine V_lload (pc := 174) C dX9_findRing_174 3 rfl ?_
                                  refine V_aload_n (pc := 176) C dX9_findRing_176 rfl 7 rfl ?_
                                  refine gf_X9_66 (x := q 27) (pc := 177) C dX9_findRing_177 0 rfl rfl ?_
                                  refine V_iload (pc := 180) C dX9_findRing_180 1 rfl ?_
                                  refine V_iald (f := M27) (pc := 182) C dX9_findRing_182 1 rfl (by omega) (by omega) (Nat.le_of_ble_eq_true rfl) ?_
                                  have b182 := hM27 (T8 k)
                                  refine V_if_ne (pc := 183) 197 C dX9_findRing_183 (by decide) (sm_i (by omega)) (fun c183 => ?_) (fun c183 => ?_)
                                  · refine V_aload_n (pc := 197) C dX9_findRing_197 rfl 7 rfl ?_
                                    refine gf_X9_72 (x := q 29) (pc := 198) C dX9_findRing_198 0 rfl rfl ?_
                                    refine V_iload (pc := 201) C dX9_findRing_201 1 rfl ?_
                                    refine V_iald (f := M29) (pc := 203) C dX9_findRing_203 3 rfl (by omega) (by omega) (Nat.le_of_ble_eq_true rfl) ?_
                                    have b203 := hM29 (T8 k)
                                    refine V_aload_n (pc := 204) C dX9_findRing_204 rfl 7 rfl ?_
                                    refine gf_X9_78 (x := q 31) (pc := 205) C dX9_findRing_205 0 rfl rfl ?_
                                    refine V_iload (pc := 208) C dX9_findRing_208 1 rfl ?_
                                    refine V_iald (f := M31) (pc := 210) C dX9_findRing_210 5 rfl (by omega) (by omega) (Nat.le_of_ble_eq_true rfl) ?_
                                    have b210 := hM31 (T8 k)
                                    refine V_imul (pc := 211) C dX9_findRing_211 ?_
                                    have m28 := mulb b203 b210
                                    refine V_i2l (pc := 212) C dX9_findRing_212 (sm_i (by omega)) ?_
                                    refine V_lmul (pc := 213) C dX9_findRing_213 ?_
                                    refine V_lstore (lv' := [(8, .long (lI (W * ((M29 (T8 k)) * (M31 (T8 k)))))), (6, .long (lI (U * (M30 (T8 k))))), (11, .int (iI (T8 k))), (10, .int (iI k)), (4, .int (iI r)), (3, .int (iI (((f 26) * (f 26)) * (f 26)))), (2, .int (iI 3)), (0, .ref o), (1, .int (iI w))]) (pc := 214) C dX9_findRing_214 (by decide) rfl ?_
                                    refine V_iinc (lv' := [(10, .int (iI (k + 1))), (8, .long (lI (W * ((M29 (T8 k)) * (M31 (T8 k)))))), (6, .long (lI (U * (M30 (T8 k))))), (11, .int (iI (T8 k))), (4, .int (iI r)), (3, .int (iI (((f 26) * (f 26)) * (f 26)))), (2, .int (iI 3)), (0, .ref o), (1, .int (iI w))]) (pc := 216) C dX9_findRing_216 3 rfl (by decide) rfl ?_
                                    refine V_goto (pc := 219) 123 C dX9_findRing_219 (by decide) ?_
                                    exact V_sub [0, 1, 2, 4, 5, 6, 7, 8] rfl (ih123 (k + 1) (U * (M30 (T8 k))) (W * ((M29 (T8 k)) * (M31 (T8 k)))) (by omega) (by rw [prN_s _ hk.1, ← hU]; show _ = U * (if M28 (T8 k) = 0 then _ else _); first | rw [if_pos c147] | rw [if_neg c147]) (by rw [prN_s _ hk.1, ← hW]; show _ = W * (if M27 (T8 k) = 0 then _ else _); first | rw [if_pos c183] | rw [if_neg c183]) (by omega))
                                  · refine V_aload_n (pc := 186) C dX9_findRing_186 rfl 7 rfl ?_
                                    refine gf_X9_72 (x := q 29) (pc := 187) C dX9_findRing_187 0 rfl rfl ?_
                                    refine V_iload (pc := 190) C dX9_findRing_190 1 rfl ?_
                                    refine V_iald (f := M29) (pc := 192) C dX9_findRing_192 3 rfl (by omega) (by omega) (Nat.le_of_ble_eq_true rfl) ?_
                                    have b192 := hM29 (T8 k)
                                    refine V_i2l (pc := 193) C dX9_findRing_193 (sm_i (by omega)) ?_
                                    refine V_goto (pc := 194) 213 C dX9_findRing_194 (by decide) ?_
                                    refine V_lmul (pc := 213) C dX9_findRing_213 ?_
                                    refine V_lstore (lv' := [(8, .long (lI (W * (M29 (T8 k))))), (6, .long (lI (U * (M30 (T8 k))))), (11, .int (iI (T8 k))), (10, .int (iI k)), (4, .int (iI r)), (3, .int (iI (((f 26) * (f 26)) * (f 26)))), (2, .int (iI 3)), (0, .ref o), (1, .int (iI w))]) (pc := 214) C dX9_findRing_214 (by decide) rfl ?_
                                    refine V_iinc (lv' := [(10, .int (iI (k + 1))), (8, .long (lI (W * (M29 (T8 k))))), (6, .long (lI (U * (M30 (T8 k))))), (11, .int (iI (T8 k))), (4, .int (iI r)), (3, .int (iI (((f 26) * (f 26)) * (f 26)))), (2, .int (iI 3)), (0, .ref o), (1, .int (iI w))]) (pc := 216) C dX9_findRing_216 3 rfl (by decide) rfl ?_
                                    refine V_goto (pc := 219) 123 C dX9_findRing_219 (by decide) ?_
                                    exact V_sub [0, 1, 2, 4, 5, 6, 7, 8] rfl (ih123 (k + 1) (U * (M30 (T8 k))) (W * (M29 (T8 k))) (by omega) (by rw [prN_s _ hk.1, ← hU]; show _ = U * (if M28 (T8 k) = 0 then _ else _); first | rw [if_pos c147] | rw [if_neg c147]) (by rw [prN_s _ hk.1, ← hW]; show _ = W * (if M27 (T8 k) = 0 then _ else _); first | rw [if_pos c183] | rw [if_neg c183]) (by omega))
                          exact V_sub [0, 1, 2, 4, 5, 6, 7, 8] rfl (L123 (((3 : Int) - 0).toNat + 1) 0 1 1 (by omega) (rfl) (rfl) (Nat.lt_succ_self _))
                      · exact absurd c74 (by decide)
          exact V_sub [0, 1, 2, 3, 4] rfl (L57 ((((f 26) * (f 26)) * (f 26) - 0).toNat + 1) 0 n9 U9 W9 T9 R (by omega) (by omega) (by omega) (by omega) (by assumption) (hR) (Nat.lt_succ_self _))
        · obtain rfl : n = 2 := by omega
          refine V_aload_n (pc := 27) C dX9_findRing_27 rfl 1 rfl ?_
          refine gf_X9_224 (x := f 26) (pc := 28) C dX9_findRing_28 0 rfl rfl ?_
          refine V_aload_n (pc := 31) C dX9_findRing_31 rfl 1 rfl ?_
          refine gf_X9_224 (x := f 26) (pc := 32) C dX9_findRing_32 0 rfl rfl ?_
          refine V_imul (pc := 35) C dX9_findRing_35 ?_
          refine V_goto (pc := 36) 53 C dX9_findRing_36 (by decide) ?_
          refine V_istore_n (lv' := [(3, .int (iI ((f 26) * (f 26)))), (2, .int (iI 2)), (0, .ref o), (1, .int (iI w))]) (pc := 53) C dX9_findRing_53 rfl (by decide) rfl ?_
          refine V_iconst (pc := 54) C dX9_findRing_54 ?_
          refine V_istore (lv' := [(4, .int (iI 0)), (3, .int (iI ((f 26) * (f 26)))), (2, .int (iI 2)), (0, .ref o), (1, .int (iI w))]) (pc := 55) C dX9_findRing_55 (by decide) rfl ?_
          have L57 : ∀ (nn9 : Nat) (r : Int) (n8 : Int) (U8 : Int) (W8 : Int) (T7 : Int → Int) (R8 : Int → Int), (0 ≤ r ∧ r ≤ (f 26) * (f 26)) → (0 ≤ n8 ∧ n8 ≤ 3) → (0 ≤ U8 ∧ U8 ≤ 1000000000) → (1 ≤ W8 ∧ W8 ≤ 1000000000) → (bd T7 0 7) → (stI (foldI (fun r s => st2 M28 M27 (gotE M28 M30 w) (paidE M27 M29 M31) (r / f 26) (r % f 26) s) r.toNat ((0, 0, 1, 0, 0, 0) : RS)) n8 U8 W8 R8) → ((f 26) * (f 26) - r).toNat < nn9 → V p9 l e9 R9 s9 m9 args9 below9 meth9 c9 A9 D Q9 12 0 0 [(o, .inr (9, fX9 q (up (up (up f 44 n8) 45 U8) 46 W8))), (q 27, aI (d 0) 8 M27), (q 28, aI (d 0) 8 M28), (q 29, aI (d 0) 8 M29), (q 30, aI (d 0) 8 M30), (q 31, aI (d 0) 8 M31), (q 42, aI (d 0) 6 T7), (q 43, aI (d 0) 3 R8)] [(4, .int (iI r)), (3, .int (iI ((f 26) * (f 26)))), (2, .int (iI 2)), (0, .ref o), (1, .int (iI w))] 57 [] := by
            intro nn9
            induction nn9 with
            | zero => intro _ _ _ _ _ _ _ _ _ _ _ _ hm57; exact absurd hm57 (Nat.not_lt_zero _)
            | succ nn9 ih57 =>
              intro r n8 U8 W8 T7 R8 hr bn8 bU8 bW8 hT7 hR8 hm57
              refine V_iload (pc := 57) C dX9_findRing_57 0 rfl ?_
              refine V_iload_n (pc := 59) C dX9_findRing_59 rfl 1 rfl ?_
              refine V_icmp_ge (pc := 60) 292 C dX9_findRing_60 (by decide) (sm_i (by omega)) (sm_i (by omega)) (fun c60 => ?_) (fun c60 => ?_)
              · refine V_iinc (lv' := [(2, .int (iI 3)), (4, .int (iI r)), (3, .int (iI ((f 26) * (f 26)))), (0, .ref o), (1, .int (iI w))]) (pc := 292) C dX9_findRing_292 2 rfl (by decide) rfl ?_
                refine V_goto (pc := 295) 17 C dX9_findRing_295 (by decide) ?_
                exact V_sub [0, 3, 4] rfl (ih17 3 n8 U8 W8 T7 R8 (by omega) (by omega) (by omega) (by omega) (hT7) (by first | (have h := hR8; rw [show r = f 26 * f 26 by omega, rg2_rows hm0.1] at h; exact h) | (have h := hR8; rw [show r = f 26 * f 26 * f 26 by omega, rg3_rows hm0.1] at h; exact h)) (by omega))
              · have hm1 := sq_pos hm0.1 hr.1 c60
                have dm := dm2 hm1 hr.1 c60
                refine V_iload (pc := 63) C dX9_findRing_63 0 rfl ?_
                refine V_istore (lv' := [(5, .int (iI r)), (4, .int (iI r)), (3, .int (iI ((f 26) * (f 26)))), (2, .int (iI 2)), (0, .ref o), (1, .int (iI w))]) (pc := 65) C dX9_findRing_65 (by decide) rfl ?_
                refine V_iload_n (pc := 67) C dX9_findRing_67 rfl 3 rfl ?_
                refine V_iconst (pc := 68) C dX9_findRing_68 ?_
                refine V_isub (pc := 69) C dX9_findRing_69 ?_
                refine V_eqt (y := 1) (by decide) ?_
                refine V_istore (lv' := [(6, .int (iI 1)), (5, .int (iI r)), (4, .int (iI r)), (3, .int (iI ((f 26) * (f 26)))), (2, .int (iI 2)), (0, .ref o), (1, .int (iI w))]) (pc := 70) C dX9_findRing_70 (by decide) rfl ?_
                refine V_iload (pc := 72) C dX9_findRing_72 0 rfl ?_
                refine V_if_lt (pc := 74) 106 C dX9_findRing_74 (by decide) (sm_i (by decide)) (fun c74 => ?_) (fun c74 => ?_)
                · exact absurd c74 (by decide)
                · refine V_aload_n (pc := 77) C dX9_findRing_77 rfl 5 rfl ?_
                  refine gf_X9_108 (x := q 42) (pc := 78) C dX9_findRing_78 0 rfl rfl ?_
                  refine V_iload (pc := 81) C dX9_findRing_81 0 rfl ?_
                  refine V_iload (pc := 83) C dX9_findRing_83 1 rfl ?_
                  refine V_aload_n (pc := 85) C dX9_findRing_85 rfl 5 rfl ?_
                  refine gf_X9_224 (x := f 26) (pc := 86) C dX9_findRing_86 0 rfl rfl ?_
                  refine V_irem (pc := 89) C dX9_findRing_89 (by omega) ?_
                  refine V_iast (f := T7) (ws' := [(o, .inr (9, fX9 q (up (up (up f 44 n8) 45 U8) 46 W8))), (q 27, aI (d 0) 8 M27), (q 28, aI (d 0) 8 M28), (q 29, aI (d 0) 8 M29), (q 30, aI (d 0) 8 M30), (q 31, aI (d 0) 8 M31), (q 42, aI (d 0) 6 (uI T7 1 (r % (f 26)))), (q 43, aI (d 0) 3 R8)]) (pc := 90) C dX9_findRing_90 6 rfl (by omega) (by omega) (Nat.le_of_ble_eq_true rfl) rfl ?_
                  refine V_iload (pc := 91) C dX9_findRing_91 1 rfl ?_
                  refine V_aload_n (pc := 93) C dX9_findRing_93 rfl 5 rfl ?_
                  refine gf_X9_224 (x := f 26) (pc := 94) C dX9_findRing_94 0 rfl rfl ?_
                  refine V_idiv (pc := 97) C dX9_findRing_97 (by omega) ?_
                  refine V_istore (lv' := [(5, .int (iI (r / (f 26)))), (6, .int (iI 1)), (4, .int (iI r)), (3, .int (iI ((f 26) * (f 26)))), (2, .int (iI 2)), (0, .ref o), (1, .int (iI w))]) (pc := 98) C dX9_findRing_98 (by decide) rfl ?_
                  refine V_iinc (lv' := [(6, .int (iI 0)), (5, .int (iI (r / (f 26)))), (4, .int (iI r)), (3, .int (iI ((f 26) * (f 26)))), (2, .int (iI 2)), (0, .ref o), (1, .int (iI w))]) (pc := 100) C dX9_findRing_100 1 rfl (by decide) rfl ?_
                  refine V_goto (pc := 103) 72 C dX9_findRing_103 (by decide) ?_
                  refine V_iload (pc := 72) C dX9_findRing_72 0 rfl ?_
                  refine V_if_lt (pc := 74) 106 C dX9_findRing_74 (by decide) (sm_i (by decide)) (fun c74 => ?_) (fun c74 => ?_)
                  · exact absurd c74 (by decide)
                  · refine V_aload_n (pc := 77) C dX9_findRing_77 rfl 5 rfl ?_
                    refine gf_X9_108 (x := q 42) (pc := 78) C dX9_findRing_78 0 rfl rfl ?_
                    refine V_iload (pc := 81) C dX9_findRing_81 0 rfl ?_
                    refine V_iload (pc := 83) C dX9_findRing_83 1 rfl ?_
                    refine V_aload_n (pc := 85) C dX9_findRing_85 rfl 5 rfl ?_
                    refine gf_X9_224 (x := f 26) (pc := 86) C dX9_findRing_86 0 rfl rfl ?_
                    refine V_irem (pc := 89) C dX9_findRing_89 (by omega) ?_
                    refine V_iast (f := uI T7 1 (r % (f 26))) (ws' := [(o, .inr (9, fX9 q (up (up (up f 44 n8) 45 U8) 46 W8))), (q 27, aI (d 0) 8 M27), (q 28, aI (d 0) 8 M28), (q 29, aI (d 0) 8 M29), (q 30, aI (d 0) 8 M30), (q 31, aI (d 0) 8 M31), (q 42, aI (d 0) 6 (uI (uI T7 1 (r % (f 26))) 0 ((r / (f 26)) % (f 26)))), (q 43, aI (d 0) 3 R8)]) (pc := 90) C dX9_findRing_90 6 rfl (by omega) (by omega) (Nat.le_of_ble_eq_true rfl) rfl ?_
                    refine V_iload (pc := 91) C dX9_findRing_91 1 rfl ?_
                    refine V_aload_n (pc := 93) C dX9_findRing_93 rfl 5 rfl ?_
                    refine gf_X9_224 (x := f 26) (pc := 94) C dX9_findRing_94 0 rfl rfl ?_
                    refine V_idiv (pc := 97) C dX9_findRing_97 (by omega) ?_
                    refine V_istore (lv' := [(5, .int (iI ((r / (f 26)) / (f 26)))), (6, .int (iI 0)), (4, .int (iI r)), (3, .int (iI ((f 26) * (f 26)))), (2, .int (iI 2)), (0, .ref o), (1, .int (iI w))]) (pc := 98) C dX9_findRing_98 (by decide) rfl ?_
                    refine V_iinc (lv' := [(6, .int (iI (-1))), (5, .int (iI ((r / (f 26)) / (f 26)))), (4, .int (iI r)), (3, .int (iI ((f 26) * (f 26)))), (2, .int (iI 2)), (0, .ref o), (1, .int (iI w))]) (pc := 100) C dX9_findRing_100 1 rfl (by decide) rfl ?_
                    refine V_goto (pc := 103) 72 C dX9_findRing_103 (by decide) ?_
                    refine V_iload (pc := 72) C dX9_findRing_72 0 rfl ?_
                    refine V_if_lt (pc := 74) 106 C dX9_findRing_74 (by decide) (sm_i (by decide)) (fun c74 => ?_) (fun c74 => ?_)
                    · obtain ⟨T8, hT8⟩ : ∃ T : Int → Int, T = uI (uI T7 1 (r % (f 26))) 0 ((r / (f 26)) % (f 26)) := ⟨_, rfl⟩
                      refine V_eqw (w' := [(o, .inr (9, fX9 q (up (up (up f 44 n8) 45 U8) 46 W8))), (q 27, aI (d 0) 8 M27), (q 28, aI (d 0) 8 M28), (q 29, aI (d 0) 8 M29), (q 30, aI (d 0) 8 M30), (q 31, aI (d 0) 8 M31), (q 42, aI (d 0) 6 T8), (q 43, aI (d 0) 3 R8)]) (by rw [hT8]) ?_
                      have t0 : T8 0 = r / f 26 := by rw [hT8]; exact dm.2.2
                      have t1 : T8 1 = r % f 26 := by rw [hT8]; rfl
                      have bT8 : bd T8 0 7 := by rw [hT8]; exact bd_u (bd_u hT7 (by omega)) (by omega)
                      have hc : (M28 (T8 0) = M27 (T8 1) ∧ M28 (T8 1) = M27 (T8 0) ∧ ¬ M27 (T8 1) = M27 (T8 0)) ↔ (M28 (r / f 26) = M27 (r % f 26) ∧ M28 (r % f 26) = M27 (r / f 26)) := by rw [t0, t1]; have z := hFT (r % f 26) dm.2.1; omega
                      refine V_aload_n (pc := 106) C dX9_findRing_106 rfl 5 rfl ?_
                      refine V_iload_n (pc := 107) C dX9_findRing_107 rfl 4 rfl ?_
                      refine cv_X9_237 (pc := 108) (rest := []) (wn := fun _ => [(o, .inr (9, fX9 q (up (up (up f 44 n8) 45 U8) 46 W8))), (q 27, aI (d 0) 8 M27), (q 28, aI (d 0) 8 M28), (q 29, aI (d 0) 8 M29), (q 30, aI (d 0) 8 M30), (q 31, aI (d 0) 8 M31), (q 42, aI (d 0) 6 T8), (q 43, aI (d 0) 3 R8)]) (sn := fun _ => [.int (iI (bI (M28 (T8 0) = M27 (T8 1) ∧ M28 (T8 1) = M27 (T8 0) ∧ ¬ M27 (T8 1) = M27 (T8 0))))]) C dX9_findRing_108 (c_X9_isRing_2 l D d o q (up (up (up f 44 n8) 45 U8) 46 W8) M27 M28 T8 hM27 hM28 bT8) [0, 1, 2, 6] rfl rfl 0 rfl rfl rfl (Nat.le_of_ble_eq_true rfl) ⟨by omega, by omega⟩ ⟨Nat.zero_le _, Nat.zero_le _⟩ (fun _ => rfl) (fun _ => rfl) (fun _ => rfl) ?_
                      intro _ _
                      refine V_ifb_eq (pc := 111) 286 C dX9_findRing_111 (by decide) (fun c111 => ?_) (fun c111 => ?_)
                      · refine V_iinc (lv' := [(4, .int (iI (r + 1))), (6, .int (iI (-1))), (5, .int (iI ((r / (f 26)) / (f 26)))), (3, .int (iI ((f 26) * (f 26)))), (2, .int (iI 2)), (0, .ref o), (1, .int (iI w))]) (pc := 286) C dX9_findRing_286 2 rfl (by decide) rfl ?_
                        refine V_goto (pc := 289) 57 C dX9_findRing_289 (by decide) ?_
                        exact V_sub [0, 3, 4, 5, 6] rfl (ih57 (r + 1) n8 U8 W8 T8 R8 (by omega) (by omega) (by omega) (by omega) (by assumption) (by rw [foldI_s _ hr.1]; show stI (st2 M28 M27 _ _ (r / f 26) (r % f 26) _) _ _ _ _; first | exact (mr2 hR8).1 (fun q => c111 (hc.mpr q)) | exact (mr2 hR8).2.1 (hc.mp c111) (by rw [← eU, ← eW]; exact c237) | (rw [t0, t1, eU, eW]; exact (mr2 hR8).2.2 (hc.mp c111) (by rw [← eU, ← eW]; exact c237))) (by omega))
                      · refine V_lconst (k := 1) (pc := 114) C dX9_findRing_114 rfl ?_
                        refine V_lstore (lv' := [(6, .long (lI 1)), (5, .int (iI ((r / (f 26)) / (f 26)))), (4, .int (iI r)), (3, .int (iI ((f 26) * (f 26)))), (2, .int (iI 2)), (0, .ref o), (1, .int (iI w))]) (pc := 115) C dX9_findRing_115 (by decide) rfl ?_
                        refine V_lconst (k := 1) (pc := 117) C dX9_findRing_117 rfl ?_
                        refine V_lstore (lv' := [(8, .long (lI 1)), (6, .long (lI 1)), (5, .int (iI ((r / (f 26)) / (f 26)))), (4, .int (iI r)), (3, .int (iI ((f 26) * (f 26)))), (2, .int (iI 2)), (0, .ref o), (1, .int (iI w))]) (pc := 118) C dX9_findRing_118 (by decide) rfl ?_
                        refine V_iconst (pc := 120) C dX9_findRing_120 ?_
                        refine V_istore (lv' := [(10, .int (iI 0)), (8, .long (lI 1)), (6, .long (lI 1)), (5, .int (iI ((r / (f 26)) / (f 26)))), (4, .int (iI r)), (3, .int (iI ((f 26) * (f 26)))), (2, .int (iI 2)), (0, .ref o), (1, .int (iI w))]) (pc := 121) C dX9_findRing_121 (by decide) rfl ?_
                        have L123 : ∀ (nn9 : Nat) (k : Int) (U : Int) (W : Int), (0 ≤ k ∧ k ≤ 2) → (U = prN (fun z => (gotE M28 M30 w) (T8 z)) k.toNat) → (W = prN (fun z => (paidE M27 M29 M31) (T8 z)) k.toNat) → ((2 : Int) - k).toNat < nn9 → V p9 l e9 R9 s9 m9 args9 below9 meth9 c9 A9 D Q9 12 0 0 [(o, .inr (9, fX9 q (up (up (up f 44 n8) 45 U8) 46 W8))), (q 27, aI (d 0) 8 M27), (q 28, aI (d 0) 8 M28), (q 29, aI (d 0) 8 M29), (q 30, aI (d 0) 8 M30), (q 31, aI (d 0) 8 M31), (q 42, aI (d 0) 6 T8), (q 43, aI (d 0) 3 R8)] [(10, .int (iI k)), (8, .long (lI W)), (6, .long (lI U)), (4, .int (iI r)), (3, .int (iI ((f 26) * (f 26)))), (2, .int (iI 2)), (0, .ref o), (1, .int (iI w))] 123 [] := by
                          intro nn9
                          induction nn9 with
                          | zero => intro _ _ _ _ _ _ hm123; exact absurd hm123 (Nat.not_lt_zero _)
                          | succ nn9 ih123 =>
                            intro k U W hk hU hW hm123
                            have pU := prN_b (g := fun z => (gotE M28 M30 w) (T8 z)) (fun z => gb (T8 z)) (show 0 ≤ k ∧ k ≤ 3 by omega)
                            have pW := prN_b (g := fun z => (paidE M27 M29 M31) (T8 z)) (fun z => pb (T8 z)) (show 0 ≤ k ∧ k ≤ 3 by omega)
                            rw [← hU] at pU
                            rw [← hW] at pW
                            have t8k := bT8 k
                            refine V_iload (pc := 123) C dX9_findRing_123 0 rfl ?_
                            refine V_iload_n (pc := 125) C dX9_findRing_125 rfl 5 rfl ?_
                            refine V_icmp_ge (pc := 126) 222 C dX9_findRing_126 (by decide) (sm_i (by omega)) (sm_i (by decide)) (fun c126 => ?_) (fun c126 => ?_)
                            · have eU : U = (gotE M28 M30 w) (r / f 26) * (gotE M28 M30 w) (r % f 26) := by rw [hU, show k.toNat = 2 by omega]; show 1 * (gotE M28 M30 w) (T8 0) * (gotE M28 M30 w) (T8 1) = _; rw [Int.one_mul, t0, t1]
                              have eW : W = (paidE M27 M29 M31) (r / f 26) * (paidE M27 M29 M31) (r % f 26) := by rw [hW, show k.toNat = 2 by omega]; show 1 * (paidE M27 M29 M31) (T8 0) * (paidE M27 M29 M31) (T8 1) = _; rw [Int.one_mul, t0, t1]
                              have w1 := Int.mul_pos (show 0 < (paidE M27 M29 M31) (r / f 26) by have := hp1 _ dm.1; omega) (show 0 < (paidE M27 M29 M31) (r % f 26) by have := hp1 _ dm.2.1; omega)
                              rw [← eW] at w1
                              have m1 := mulb (show 0 ≤ U ∧ U ≤ 707347971 by omega) (show 0 ≤ W8 ∧ W8 ≤ 1000000000 by omega)
                              have m2 := mulb bU8 (show 0 ≤ W ∧ W ≤ 707347971 by omega)
                              refine V_lload (pc := 222) C dX9_findRing_222 2 rfl ?_
                              refine V_aload_n (pc := 224) C dX9_findRing_224 rfl 6 rfl ?_
                              refine gf_X9_234 (x := W8) (pc := 225) C dX9_findRing_225 0 rfl rfl ?_
                              refine V_lmul (pc := 228) C dX9_findRing_228 ?_
                              refine V_aload_n (pc := 229) C dX9_findRing_229 rfl 6 rfl ?_
                              refine gf_X9_230 (x := U8) (pc := 230) C dX9_findRing_230 0 rfl rfl ?_
                              refine V_lload (pc := 233) C dX9_findRing_233 1 rfl ?_
                              refine V_lmul (pc := 235) C dX9_findRing_235 ?_
                              refine V_lcmp (pc := 236) C dX9_findRing_236 (sL_i (by omega)) (sL_i (by omega)) ?_
                              refine V_ifc_le (pc := 237) 286 C dX9_findRing_237 (by decide) (fun c237 => ?_) (fun c237 => ?_)
                              · refine V_iinc (lv' := [(4, .int (iI (r + 1))), (10, .int (iI k)), (8, .long (lI W)), (6, .long (lI U)), (3, .int (iI ((f 26) * (f 26)))), (2, .int (iI 2)), (0, .ref o), (1, .int (iI w))]) (pc := 286) C dX9_findRing_286 3 rfl (by decide) rfl ?_
                                refine V_goto (pc := 289) 57 C dX9_findRing_289 (by decide) ?_
                                exact V_sub [0, 4, 5, 6, 7] rfl (ih57 (r + 1) n8 U8 W8 T8 R8 (by omega) (by omega) (by omega) (by omega) (by assumption) (by rw [foldI_s _ hr.1]; show stI (st2 M28 M27 _ _ (r / f 26) (r % f 26) _) _ _ _ _; first | exact (mr2 hR8).1 (fun q => c111 (hc.mpr q)) | exact (mr2 hR8).2.1 (hc.mp c111) (by rw [← eU, ← eW]; exact c237) | (rw [t0, t1, eU, eW]; exact (mr2 hR8).2.2 (hc.mp c111) (by rw [← eU, ← eW]; exact c237))) (by omega))
                              · refine V_aload_n (pc := 240) C dX9_findRing_240 rfl 6 rfl ?_
                                refine V_lload (pc := 241) C dX9_findRing_241 2 rfl ?_
                                refine pf_X9_230 (ws' := [(o, .inr (9, fX9 q (up (up (up (up f 44 n8) 45 U8) 46 W8) 45 U))), (q 27, aI (d 0) 8 M27), (q 28, aI (d 0) 8 M28), (q 29, aI (d 0) 8 M29), (q 30, aI (d 0) 8 M30), (q 31, aI (d 0) 8 M31), (q 42, aI (d 0) 6 T8), (q 43, aI (d 0) 3 R8)]) (pc := 243) C dX9_findRing_243 0 rfl rfl ?_
                                refine V_aload_n (pc := 246) C dX9_findRing_246 rfl 6 rfl ?_
                                refine V_lload (pc := 247) C dX9_findRing_247 1 rfl ?_
                                refine pf_X9_234 (ws' := [(o, .inr (9, fX9 q (up (up (up (up (up f 44 n8) 45 U8) 46 W8) 45 U) 46 W))), (q 27, aI (d 0) 8 M27), (q 28, aI (d 0) 8 M28), (q 29, aI (d 0) 8 M29), (q 30, aI (d 0) 8 M30), (q 31, aI (d 0) 8 M31), (q 42, aI (d 0) 6 T8), (q 43, aI (d 0) 3 R8)]) (pc := 249) C dX9_findRing_249 0 rfl rfl ?_
                                refine V_aload_n (pc := 252) C dX9_findRing_252 rfl 6 rfl ?_
                                refine V_iload_n (pc := 253) C dX9_findRing_253 rfl 5 rfl ?_
                                refine pf_X9_227 (ws' := [(o, .inr (9, fX9 q (up (up (up (up (up (up f 44 n8) 45 U8) 46 W8) 45 U) 46 W) 44 2))), (q 27, aI (d 0) 8 M27), (q 28, aI (d 0) 8 M28), (q 29, aI (d 0) 8 M29), (q 30, aI (d 0) 8 M30), (q 31, aI (d 0) 8 M31), (q 42, aI (d 0) 6 T8), (q 43, aI (d 0) 3 R8)]) (pc := 254) C dX9_findRing_254 0 rfl rfl ?_
                                refine V_iconst (pc := 257) C dX9_findRing_257 ?_
                                refine V_istore (lv' := [(10, .int (iI 0)), (8, .long (lI W)), (6, .long (lI U)), (4, .int (iI r)), (3, .int (iI ((f 26) * (f 26)))), (2, .int (iI 2)), (0, .ref o), (1, .int (iI w))]) (pc := 258) C dX9_findRing_258 (by decide) rfl ?_
                                refine V_iload (pc := 260) C dX9_findRing_260 0 rfl ?_
                                refine V_iload_n (pc := 262) C dX9_findRing_262 rfl 5 rfl ?_
                                refine V_icmp_ge (pc := 263) 286 C dX9_findRing_263 (by decide) (sm_i (by decide)) (sm_i (by decide)) (fun c263 => ?_) (fun c263 => ?_)
                                · exact absurd c263 (by decide)
                                · refine V_aload_n (pc := 266) C dX9_findRing_266 rfl 6 rfl ?_
                                  refine gf_X9_111 (x := q 43) (pc := 267) C dX9_findRing_267 0 rfl rfl ?_
                                  refine V_iload (pc := 270) C dX9_findRing_270 0 rfl ?_
                                  refine V_aload_n (pc := 272) C dX9_findRing_272 rfl 6 rfl ?_
                                  refine gf_X9_108 (x := q 42) (pc := 273) C dX9_findRing_273 0 rfl rfl ?_
                                  refine V_iload (pc := 276) C dX9_findRing_276 0 rfl ?_
                                  refine V_iald (f := T8) (pc := 278) C dX9_findRing_278 6 rfl (by omega) (by omega) (Nat.le_of_ble_eq_true rfl) ?_
                                  refine V_iast (f := R8) (ws' := [(o, .inr (9, fX9 q (up (up (up (up (up (up f 44 n8) 45 U8) 46 W8) 45 U) 46 W) 44 2))), (q 27, aI (d 0) 8 M27), (q 28, aI (d 0) 8 M28), (q 29, aI (d 0) 8 M29), (q 30, aI (d 0) 8 M30), (q 31, aI (d 0) 8 M31), (q 42, aI (d 0) 6 T8), (q 43, aI (d 0) 3 (uI R8 0 (T8 0)))]) (pc := 279) C dX9_findRing_279 7 rfl (by omega) (by omega) (Nat.le_of_ble_eq_true rfl) rfl ?_
                                  refine V_iinc (lv' := [(10, .int (iI 1)), (8, .long (lI W)), (6, .long (lI U)), (4, .int (iI r)), (3, .int (iI ((f 26) * (f 26)))), (2, .int (iI 2)), (0, .ref o), (1, .int (iI w))]) (pc := 280) C dX9_findRing_280 0 rfl (by decide) rfl ?_
                                  refine V_goto (pc := 283) 260 C dX9_findRing_283 (by decide) ?_
                                  refine V_iload (pc := 260) C dX9_findRing_260 0 rfl ?_
                                  refine V_iload_n (pc := 262) C dX9_findRing_262 rfl 5 rfl ?_
                                  refine V_icmp_ge (pc := 263) 286 C dX9_findRing_263 (by decide) (sm_i (by decide)) (sm_i (by decide)) (fun c263 => ?_) (fun c263 => ?_)
                                  · exact absurd c263 (by decide)
                                  · refine V_aload_n (pc := 266) C dX9_findRing_266 rfl 6 rfl ?_
                                    refine gf_X9_111 (x := q 43) (pc := 267) C dX9_findRing_267 0 rfl rfl ?_
                                    refine V_iload (pc := 270) C dX9_findRing_270 0 rfl ?_
                                    refine V_aload_n (pc := 272) C dX9_findRing_272 rfl 6 rfl ?_
                                    refine gf_X9_108 (x := q 42) (pc := 273) C dX9_findRing_273 0 rfl rfl ?_
                                    refine V_iload (pc := 276) C dX9_findRing_276 0 rfl ?_
                                    refine V_iald (f := T8) (pc := 278) C dX9_findRing_278 6 rfl (by omega) (by omega) (Nat.le_of_ble_eq_true rfl) ?_
                                    refine V_iast (f := uI R8 0 (T8 0)) (ws' := [(o, .inr (9, fX9 q (up (up (up (up (up (up f 44 n8) 45 U8) 46 W8) 45 U) 46 W) 44 2))), (q 27, aI (d 0) 8 M27), (q 28, aI (d 0) 8 M28), (q 29, aI (d 0) 8 M29), (q 30, aI (d 0) 8 M30), (q 31, aI (d 0) 8 M31), (q 42, aI (d 0) 6 T8), (q 43, aI (d 0) 3 (uI (uI R8 0 (T8 0)) 1 (T8 1)))]) (pc := 279) C dX9_findRing_279 7 rfl (by omega) (by omega) (Nat.le_of_ble_eq_true rfl) rfl ?_
                                    refine V_iinc (lv' := [(10, .int (iI 2)), (8, .long (lI W)), (6, .long (lI U)), (4, .int (iI r)), (3, .int (iI ((f 26) * (f 26)))), (2, .int (iI 2)), (0, .ref o), (1, .int (iI w))]) (pc := 280) C dX9_findRing_280 0 rfl (by decide) rfl ?_
                                    refine V_goto (pc := 283) 260 C dX9_findRing_283 (by decide) ?_
                                    refine V_iload (pc := 260) C dX9_findRing_260 0 rfl ?_
                                    refine V_iload_n (pc := 262) C dX9_findRing_262 rfl 5 rfl ?_
                                    refine V_icmp_ge (pc := 263) 286 C dX9_findRing_263 (by decide) (sm_i (by decide)) (sm_i (by decide)) (fun c263 => ?_) (fun c263 => ?_)
                                    · refine V_iinc (lv' := [(4, .int (iI (r + 1))), (10, .int (iI 2)), (8, .long (lI W)), (6, .long (lI U)), (3, .int (iI ((f 26) * (f 26)))), (2, .int (iI 2)), (0, .ref o), (1, .int (iI w))]) (pc := 286) C dX9_findRing_286 3 rfl (by decide) rfl ?_
                                      refine V_goto (pc := 289) 57 C dX9_findRing_289 (by decide) ?_
                                      exact V_sub [0, 4, 5, 6, 7] rfl (ih57 (r + 1) 2 U W T8 (uI (uI R8 0 (T8 0)) 1 (T8 1)) (by omega) (by omega) (by omega) (by omega) (by assumption) (by rw [foldI_s _ hr.1]; show stI (st2 M28 M27 _ _ (r / f 26) (r % f 26) _) _ _ _ _; first | exact (mr2 hR8).1 (fun q => c111 (hc.mpr q)) | exact (mr2 hR8).2.1 (hc.mp c111) (by rw [← eU, ← eW]; exact c237) | (rw [t0, t1, eU, eW]; exact (mr2 hR8).2.2 (hc.mp c111) (by rw [← eU, ← eW]; exact c237))) (by omega))
                                    · exact absurd c263 (by decide)
                            · refine V_aload_n (pc := 129) C dX9_findRing_129 rfl 6 rfl ?_
                              refine gf_X9_108 (x := q 42) (pc := 130) C dX9_findRing_130 0 rfl rfl ?_
                              refine V_iload (pc := 133) C dX9_findRing_133 0 rfl ?_
                              refine V_iald (f := T8) (pc := 135) C dX9_findRing_135 6 rfl (by omega) (by omega) (Nat.le_of_ble_eq_true rfl) ?_
                              refine V_istore (lv' := [(11, .int (iI (T8 k))), (10, .int (iI k)), (8, .long (lI W)), (6, .long (lI U)), (4, .int (iI r)), (3, .int (iI ((f 26) * (f 26)))), (2, .int (iI 2)), (0, .ref o), (1, .int (iI w))]) (pc := 136) C dX9_findRing_136 (by decide) rfl ?_
                              refine V_lload (pc := 138) C dX9_findRing_138 3 rfl ?_
                              refine V_aload_n (pc := 140) C dX9_findRing_140 rfl 7 rfl ?_
                              refine gf_X9_69 (x := q 28) (pc := 141) C dX9_findRing_141 0 rfl rfl ?_
                              refine V_iload (pc := 144) C dX9_findRing_144 0 rfl ?_
                              refine V_iald (f := M28) (pc := 146) C dX9_findRing_146 2 rfl (by omega) (by omega) (Nat.le_of_ble_eq_true rfl) ?_
                              have b146 := hM28 (T8 k)
                              refine V_if_ne (pc := 147) 161 C dX9_findRing_147 (by decide) (sm_i (by omega)) (fun c147 => ?_) (fun c147 => ?_)
                              · refine V_aload_n (pc := 161) C dX9_findRing_161 rfl 7 rfl ?_
                                refine gf_X9_75 (x := q 30) (pc := 162) C dX9_findRing_162 0 rfl rfl ?_
                                refine V_iload (pc := 165) C dX9_findRing_165 0 rfl ?_
                                refine V_iald (f := M30) (pc := 167) C dX9_findRing_167 4 rfl (by omega) (by omega) (Nat.le_of_ble_eq_true rfl) ?_
                                have b167 := hM30 (T8 k)
                                refine V_iload_n (pc := 168) C dX9_findRing_168 rfl 8 rfl ?_
                                refine V_imul (pc := 169) C dX9_findRing_169 ?_
                                have m27 := mulb b167 hw
                                refine V_i2l (pc := 170) C dX9_findRing_170 (sm_i (by omega)) ?_
                                refine V_lmul (pc := 171) C dX9_findRing_171 ?_
                                refine V_lstore (lv' := [(6, .long (lI (U * ((M30 (T8 k)) * w)))), (11, .int (iI (T8 k))), (10, .int (iI k)), (8, .long (lI W)), (4, .int (iI r)), (3, .int (iI ((f 26) * (f 26)))), (2, .int (iI 2)), (0, .ref o), (1, .int (iI w))]) (pc := 172) C dX9_findRing_172 (by decide) rfl ?_
                                refine V_lload (pc := 174) C dX9_findRing_174 3 rfl ?_
                                refine V_aload_n (pc := 176) C dX9_findRing_176 rfl 7 rfl ?_
                                refine gf_X9_66 (x := q 27) (pc := 177) C dX9_findRing_177 0 rfl rfl ?_
                                refine V_iload (pc := 180) C dX9_findRing_180 1 rfl ?_
                                refine V_iald (f := M27) (pc := 182) C dX9_findRing_182 1 rfl (by omega) (by omega) (Nat.le_of_ble_eq_true rfl) ?_
                                have b182 := hM27 (T8 k)
                                refine V_if_ne (pc := 183) 197 C dX9_findRing_183 (by decide) (sm_i (by omega)) (fun c183 => ?_) (fun c183 => ?_)
                                · refine V_aload_n (pc := 197) C dX9_findRing_197 rfl 7 rfl ?_
                                  refine gf_X9_72 (x := q 29) (pc := 198) C dX9_findRing_198 0 rfl rfl ?_
                                  refine V_iload (pc := 201) C dX9_findRing_201 1 rfl ?_
                                  refine V_iald (f := M29) (pc := 203) C dX9_findRing_203 3 rfl (by omega) (by omega) (Nat.le_of_ble_eq_true rfl) ?_
                                  have b203 := hM29 (T8 k)
                                  refine V_aload_n (pc := 204) C dX9_findRing_204 rfl 7 rfl ?_
                                  refine gf_X9_78 (x := q 31) (pc := 205) C dX9_findRing_205 0 rfl rfl ?_
                                  refine V_iload (pc := 208) C dX9_findRing_208 1 rfl ?_
                                  refine V_iald (f := M31) (pc := 210) C dX9_findRing_210 5 rfl (by omega) (by omega) (Nat.le_of_ble_eq_true rfl) ?_
                                  have b210 := hM31 (T8 k)
                                  refine V_imul (pc := 211) C dX9_findRing_211 ?_
                                  have m28 := mulb b203 b210
                                  refine V_i2l (pc := 212) C dX9_findRing_212 (sm_i (by omega)) ?_
                                  refine V_lmul (pc := 213) C dX9_findRing_213 ?_
                                  refine V_lstore (lv' := [(8, .long (lI (W * ((M29 (T8 k)) * (M31 (T8 k)))))), (6, .long (lI (U * ((M30 (T8 k)) * w)))), (11, .int (iI (T8 k))), (10, .int (iI k)), (4, .int (iI r)), (3, .int (iI ((f 26) * (f 26)))), (2, .int (iI 2)), (0, .ref o), (1, .int (iI w))]) (pc := 214) C dX9_findRing_214 (by decide) rfl ?_
                                  refine V_iinc (lv' := [(10, .int (iI (k + 1))), (8, .long (lI (W * ((M29 (T8 k)) * (M31 (T8 k)))))), (6, .long (lI (U * ((M30 (T8 k)) * w)))), (11, .int (iI (T8 k))), (4, .int (iI r)), (3, .int (iI ((f 26) * (f 26)))), (2, .int (iI 2)), (0, .ref o), (1, .int (iI w))]) (pc := 216) C dX9_findRing_216 3 rfl (by decide) rfl ?_
                                  refine V_goto (pc := 219) 123 C dX9_findRing_219 (by decide) ?_
                                  exact V_sub [0, 1, 2, 4, 5, 6, 7, 8] rfl (ih123 (k + 1) (U * ((M30 (T8 k)) * w)) (W * ((M29 (T8 k)) * (M31 (T8 k)))) (by omega) (by rw [prN_s _ hk.1, ← hU]; show _ = U * (if M28 (T8 k) = 0 then _ else _); first | rw [if_pos c147] | rw [if_neg c147]) (by rw [prN_s _ hk.1, ← hW]; show _ = W * (if M27 (T8 k) = 0 then _ else _); first | rw [if_pos c183] | rw [if_neg c183]) (by omega))
                                · refine V_aload_n (pc := 186) C dX9_findRing_186 rfl 7 rfl ?_
                                  refine gf_X9_72 (x := q 29) (pc := 187) C dX9_findRing_187 0 rfl rfl ?_
                                  refine V_iload (pc := 190) C dX9_findRing_190 1 rfl ?_
                                  refine V_iald (f := M29) (pc := 192) C dX9_findRing_192 3 rfl (by omega) (by omega) (Nat.le_of_ble_eq_true rfl) ?_
                                  have b192 := hM29 (T8 k)
                                  refine V_i2l (pc := 193) C dX9_findRing_193 (sm_i (by omega)) ?_
                                  refine V_goto (pc := 194) 213 C dX9_findRing_194 (by decide) ?_
                                  refine V_lmul (pc := 213) C dX9_findRing_213 ?_
                                  refine V_lstore (lv' := [(8, .long (lI (W * (M29 (T8 k))))), (6, .long (lI (U * ((M30 (T8 k)) * w)))), (11, .int (iI (T8 k))), (10, .int (iI k)), (4, .int (iI r)), (3, .int (iI ((f 26) * (f 26)))), (2, .int (iI 2)), (0, .ref o), (1, .int (iI w))]) (pc := 214) C dX9_findRing_214 (by decide) rfl ?_
                                  refine V_iinc (lv' := [(10, .int (iI (k + 1))), (8, .long (lI (W * (M29 (T8 k))))), (6, .long (lI (U * ((M30 (T8 k)) * w)))), (11, .int (iI (T8 k))), (4, .int (iI r)), (3, .int (iI ((f 26) * (f 26)))), (2, .int (iI 2)), (0, .ref o), (1, .int (iI w))]) (pc := 216) C dX9_findRing_216 3 rfl (by decide) rfl ?_
                                  refine V_goto (pc := 219) 123 C dX9_findRing_219 (by decide) ?_
                                  exact V_sub [0, 1, 2, 4, 5, 6, 7, 8] rfl (ih123 (k + 1) (U * ((M30 (T8 k)) * w)) (W * (M29 (T8 k))) (by omega) (by rw [prN_s _ hk.1, ← hU]; show _ = U * (if M28 (T8 k) = 0 then _ else _); first | rw [if_pos c147] | rw [if_neg c147]) (by rw [prN_s _ hk.1, ← hW]; show _ = W * (if M27 (T8 k) = 0 then _ else _); first | rw [if_pos c183] | rw [if_neg c183]) (by omega))
                              · refine V_aload_n (pc := 150) C dX9_findRing_150 rfl 7 rfl ?_
                                refine gf_X9_75 (x := q 30) (pc := 151) C dX9_findRing_151 0 rfl rfl ?_
                                refine V_iload (pc := 154) C dX9_findRing_154 0 rfl ?_
                                refine V_iald (f := M30) (pc := 156) C dX9_findRing_156 4 rfl (by omega) (by omega) (Nat.le_of_ble_eq_true rfl) ?_
                                have b156 := hM30 (T8 k)
                                refine V_i2l (pc := 157) C dX9_findRing_157 (sm_i (by omega)) ?_
                                refine V_goto (pc := 158) 171 C dX9_findRing_158 (by decide) ?_
                                refine V_lmul (pc := 171) C dX9_findRing_171 ?_
                                refine V_lstore (lv' := [(6, .long (lI (U * (M30 (T8 k))))), (11, .int (iI (T8 k))), (10, .int (iI k)), (8, .long (lI W)), (4, .int (iI r)), (3, .int (iI ((f 26) * (f 26)))), (2, .int (iI 2)), (0, .ref o), (1, .int (iI w))]) (pc := 172) C dX9_findRing_172 (by decide) rfl ?_
                                refine V_lload (pc := 174) C dX9_findRing_174 3 rfl ?_
                                refine V_aload_n (pc := 176) C dX9_findRing_176 rfl 7 rfl ?_
                                refine gf_X9_66 (x := q 27) (pc := 177) C dX9_findRing_177 0 rfl rfl ?_
                                refine V_iload (pc := 180) C dX9_findRing_180 1 rfl ?_
                                refine V_iald (f := M27) (pc := 182) C dX9_findRing_182 1 rfl (by omega) (by omega) (Nat.le_of_ble_eq_true rfl) ?_
                                have b182 := hM27 (T8 k)
                                refine V_if_ne (pc := 183) 197 C dX9_findRing_183 (by decide) (sm_i (by omega)) (fun c183 => ?_) (fun c183 => ?_)
                                · refine V_aload_n (pc := 197) C dX9_findRing_197 rfl 7 rfl ?_
                                  refine gf_X9_72 (x := q 29) (pc := 198) C dX9_findRing_198 0 rfl rfl ?_
                                  refine V_iload (pc := 201) C dX9_findRing_201 1 rfl ?_
                                  refine V_iald (f := M29) (pc := 203) C dX9_findRing_203 3 rfl (by omega) (by omega) (Nat.le_of_ble_eq_true rfl) ?_
                                  have b203 := hM29 (T8 k)
                                  refine V_aload_n (pc := 204) C dX9_findRing_204 rfl 7 rfl ?_
                                  refine gf_X9_78 (x := q 31) (pc := 205) C dX9_findRing_205 0 rfl rfl ?_
                                  refine V_iload (pc := 208) C dX9_findRing_208 1 rfl ?_
                                  refine V_iald (f := M31) (pc := 210) C dX9_findRing_210 5 rfl (by omega) (by omega) (Nat.le_of_ble_eq_true rfl) ?_
                                  have b210 := hM31 (T8 k)
                                  refine V_imul (pc := 211) C dX9_findRing_211 ?_
                                  have m28 := mulb b203 b210
                                  refine V_i2l (pc := 212) C dX9_findRing_212 (sm_i (by omega)) ?_
                                  refine V_lmul (pc := 213) C dX9_findRing_213 ?_
                                  refine V_lstore (lv' := [(8, .long (lI (W * ((M29 (T8 k)) * (M31 (T8 k)))))), (6, .long (lI (U * (M30 (T8 k))))), (11, .int (iI (T8 k))), (10, .int (iI k)), (4, .int (iI r)), (3, .int (iI ((f 26) * (f 26)))), (2, .int (iI 2)), (0, .ref o), (1, .int (iI w))]) (pc := 214) C dX9_findRing_214 (by decide) rfl ?_
                                  refine V_iinc (lv' := [(10, .int (iI (k + 1))), (8, .long (lI (W * ((M29 (T8 k)) * (M31 (T8 k)))))), (6, .long (lI (U * (M30 (T8 k))))), (11, .int (iI (T8 k))), (4, .int (iI r)), (3, .int (iI ((f 26) * (f 26)))), (2, .int (iI 2)), (0, .ref o), (1, .int (iI w))]) (pc := 216) C dX9_findRing_216 3 rfl (by decide) rfl ?_
                                  refine V_goto (pc := 219) 123 C dX9_findRing_219 (by decide) ?_
                                  exact V_sub [0, 1, 2, 4, 5, 6, 7, 8] rfl (ih123 (k + 1) (U * (M30 (T8 k))) (W * ((M29 (T8 k)) * (M31 (T8 k)))) (by omega) (by rw [prN_s _ hk.1, ← hU]; show _ = U * (if M28 (T8 k) = 0 then _ else _); first | rw [if_pos c147] | rw [if_neg c147]) (by rw [prN_s _ hk.1, ← hW]; show _ = W * (if M27 (T8 k) = 0 then _ else _); first | rw [if_pos c183] | rw [if_neg c183]) (by omega))
                                · refine V_aload_n (pc := 186) C dX9_findRing_186 rfl 7 rfl ?_
                                  refine gf_X9_72 (x := q 29) (pc := 187) C dX9_findRing_187 0 rfl rfl ?_
                                  refine V_iload (pc := 190) C dX9_findRing_190 1 rfl ?_
                                  refine V_iald (f := M29) (pc := 192) C dX9_findRing_192 3 rfl (by omega) (by omega) (Nat.le_of_ble_eq_true rfl) ?_
                                  have b192 := hM29 (T8 k)
                                  refine V_i2l (pc := 193) C dX9_findRing_193 (sm_i (by omega)) ?_
                                  refine V_goto (pc := 194) 213 C dX9_findRing_194 (by decide) ?_
                                  refine V_lmul (pc := 213) C dX9_findRing_213 ?_
                                  refine V_lstore (lv' := [(8, .long (lI (W * (M29 (T8 k))))), (6, .long (lI (U * (M30 (T8 k))))), (11, .int (iI (T8 k))), (10, .int (iI k)), (4, .int (iI r)), (3, .int (iI ((f 26) * (f 26)))), (2, .int (iI 2)), (0, .ref o), (1, .int (iI w))]) (pc := 214) C dX9_findRing_214 (by decide) rfl ?_
                                  refine V_iinc (lv' := [(10, .int (iI (k + 1))), (8, .long (lI (W * (M29 (T8 k))))), (6, .long (lI (U * (M30 (T8 k))))), (11, .int (iI (T8 k))), (4, .int (iI r)), (3, .int (iI ((f 26) * (f 26)))), (2, .int (iI 2)), (0, .ref o), (1, .int (iI w))]) (pc := 216) C dX9_findRing_216 3 rfl (by decide) rfl ?_
                                  refine V_goto (pc := 219) 123 C dX9_findRing_219 (by decide) ?_
                                  exact V_sub [0, 1, 2, 4, 5, 6, 7, 8] rfl (ih123 (k + 1) (U * (M30 (T8 k))) (W * (M29 (T8 k))) (by omega) (by rw [prN_s _ hk.1, ← hU]; show _ = U * (if M28 (T8 k) = 0 then _ else _); first | rw [if_pos c147] | rw [if_neg c147]) (by rw [prN_s _ hk.1, ← hW]; show _ = W * (if M27 (T8 k) = 0 then _ else _); first | rw [if_pos c183] | rw [if_neg c183]) (by omega))
                        exact V_sub [0, 1, 2, 4, 5, 6, 7, 8] rfl (L123 (((2 : Int) - 0).toNat + 1) 0 1 1 (by omega) (rfl) (rfl) (Nat.lt_succ_self _))
                    · exact absurd c74 (by decide)
          exact V_sub [0, 1, 2, 3, 4] rfl (L57 (((f 26) * (f 26) - 0).toNat + 1) 0 n9 U9 W9 T9 R (by omega) (by omega) (by omega) (by omega) (by assumption) (hR) (Nat.lt_succ_self _))
  exact V_sub [0, 1, 2] rfl (L17 (((4 : Int) - 2).toNat + 1) 2 0 0 1 M42 M43 (by omega) (by omega) (by omega) (by omega) (hM42) (⟨rfl, rfl, rfl, Or.inl rfl⟩) (Nat.lt_succ_self _))
