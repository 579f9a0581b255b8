set_option maxRecDepth 100000 in
set_option maxHeartbeats 4000000 in
theorem c_X9_layFew (l : Launch) (D : va_G) (d : Nat → ClassId) (o : Nat) (q : Nat → Nat) (f : Nat → Int) (M6 : Int → Int) (M40 : Int → Int) (m : Int) (T : Int) (hM6 : bd M6 0 99) (hM40 : bd M40 0 100005) (hm : 0 ≤ m ∧ m ≤ 63) (hT : 0 ≤ T ∧ T ≤ 1100) (hU : ∀ j : Int, 0 ≤ j ∧ j < 6 → m / 2 ^ j.toNat % 2 = 1 → 1 ≤ M6 j) : CU l yX9_layFew cX9_layFew 8 none 1 21 D d [.ref o, .int (iI m), .int (iI T)] [(o, .inr (9, fX9 q f)), (q 6, aI (d 0) 6 M6), (q 40, aI (d 0) 7707 M40)] (fun (u : Int → Int) => bd u 0 100005 ∧ ∀ j : Int, 0 ≤ j ∧ j ≤ 6 → rwM M6 m T u j) (fun (u : Int → Int) => none) (fun (u : Int → Int) => [(o, .inr (9, fX9 q f)), (q 6, aI (d 0) 6 M6), (q 40, aI (d 0) 7707 u)]) := by
  refine CU.mk (own := RX9) (lv := [(0, .ref o), (1, .int (iI m)), (2, .int (iI T))]) rfl (by decide) (Nat.le_of_ble_eq_true rfl) rfl ?_
  intro p9 e9 R9 s9 m9 args9 below9 meth9 c9 A9 Q9 hRf hRl C Z
  refine V_iconst (pc := 0) C dX9_layFew_0 ?_
  refine V_istore_n (lv' := [(3, .int (iI 0)), (0, .ref o), (1, .int (iI m)), (2, .int (iI T))]) (pc := 1) C dX9_layFew_1 rfl (by decide) rfl ?_
  have L2 : ∀ (nn9 : Nat) (t : Int) (G : Int → Int), (0 ≤ t ∧ t ≤ T + 1) → (∀ s : Int, 0 ≤ s ∧ s < t → G (6606 + s) = if s = 0 then 0 else 99999) → (bd G 0 100005) → (T + 1 - t).toNat < nn9 → V p9 l e9 R9 s9 m9 args9 below9 meth9 c9 A9 D Q9 8 0 0 [(o, .inr (9, fX9 q f)), (q 6, aI (d 0) 6 M6), (q 40, aI (d 0) 7707 G)] [(3, .int (iI t)), (0, .ref o), (1, .int (iI m)), (2, .int (iI T))] 2 [] := by
    intro nn9
    induction nn9 with
    | zero => intro _ _ _ _ _ hm2; exact absurd hm2 (Nat.not_lt_zero _)
    | succ nn9 ih2 =>
      intro t G ht hG hb hm2
      refine V_iload_n (pc := 2) C dX9_layFew_2 rfl 0 rfl ?_
      refine V_iload_n (pc := 3) C dX9_layFew_3 rfl 3 rfl ?_
      refine V_icmp_gt (pc := 4) 33 C dX9_layFew_4 (by decide) (sm_i (by omega)) (sm_i (by omega)) (fun c4 => ?_) (fun c4 => ?_)
      · refine V_iconst (pc := 33) C dX9_layFew_33 ?_
        refine V_istore_n (lv' := [(3, .int (iI 5)), (0, .ref o), (1, .int (iI m)), (2, .int (iI T))]) (pc := 34) C dX9_layFew_34 rfl (by decide) rfl ?_
        have L35 : ∀ (nn9 : Nat) (i : Int) (G : Int → Int), (-1 ≤ i ∧ i ≤ 5) → (∀ j : Int, i < j ∧ j ≤ 6 → rwM M6 m T G j) → (bd G 0 100005) → Int.toNat (i + 1) < nn9 → V p9 l e9 R9 s9 m9 args9 below9 meth9 c9 A9 D Q9 8 0 0 [(o, .inr (9, fX9 q f)), (q 6, aI (d 0) 6 M6), (q 40, aI (d 0) 7707 G)] [(3, .int (iI i)), (0, .ref o), (1, .int (iI m)), (2, .int (iI T))] 35 [] := by
          intro nn9
          induction nn9 with
          | zero => intro _ _ _ _ _ hm35; exact absurd hm35 (Nat.not_lt_zero _)
          | succ nn9 ih35 =>
            intro i G hi hr hb hm35
            have a6 := hM6 i
            refine V_iload_n (pc := 35) C dX9_layFew_35 rfl 0 rfl ?_
            refine V_if_lt (pc := 36) 196 C dX9_layFew_36 (by decide) (sm_i (by omega)) (fun c36 => ?_) (fun c36 => ?_)
            · exact V_vret (pc := 196) C Z dX9_layFew_196 G (⟨hb, fun j hj => hr j (by omega)⟩) rfl rfl
            · refine V_sipush (pc := 39) C dX9_layFew_39 rfl ?_
              refine V_iload_n (pc := 42) C dX9_layFew_42 rfl 0 rfl ?_
              refine V_imul (pc := 43) C dX9_layFew_43 ?_
              refine V_istore (lv' := [(4, .int (iI (1101 * i))), (3, .int (iI i)), (0, .ref o), (1, .int (iI m)), (2, .int (iI T))]) (pc := 44) C dX9_layFew_44 (by decide) rfl ?_
              refine V_iconst (pc := 46) C dX9_layFew_46 ?_
              refine V_istore (lv' := [(5, .int (iI 0)), (4, .int (iI (1101 * i))), (3, .int (iI i)), (0, .ref o), (1, .int (iI m)), (2, .int (iI T))]) (pc := 47) C dX9_layFew_47 (by decide) rfl ?_
              have L49 : ∀ (nn9 : Nat) (t : Int) (G : Int → Int), (0 ≤ t ∧ t ≤ T + 1) → (∀ j : Int, i < j ∧ j ≤ 6 → rwM M6 m T G j) → (clM M6 m G i t) → (bd G 0 100005) → (T + 1 - t).toNat < nn9 → V p9 l e9 R9 s9 m9 args9 below9 meth9 c9 A9 D Q9 8 0 0 [(o, .inr (9, fX9 q f)), (q 6, aI (d 0) 6 M6), (q 40, aI (d 0) 7707 G)] [(5, .int (iI t)), (4, .int (iI (1101 * i))), (3, .int (iI i)), (0, .ref o), (1, .int (iI m)), (2, .int (iI T))] 49 [] := by
                intro nn9
                induction nn9 with
                | zero => intro _ _ _ _ _ _ hm49; exact absurd hm49 (Nat.not_lt_zero _)
                | succ nn9 ih49 =>
                  intro t G ht hq hc hb hm49
                  refine V_iload (pc := 49) C dX9_layFew_49 0 rfl ?_
                  refine V_iload_n (pc := 51) C dX9_layFew_51 rfl 5 rfl ?_
                  refine V_icmp_gt (pc := 52) 190 C dX9_layFew_52 (by decide) (sm_i (by omega)) (sm_i (by omega)) (fun c52 => ?_) (fun c52 => ?_)
                  · refine V_iinc (lv' := [(3, .int (iI (i + (-1)))), (5, .int (iI t)), (4, .int (iI (1101 * i))), (0, .ref o), (1, .int (iI m)), (2, .int (iI T))]) (pc := 190) C dX9_layFew_190 2 rfl (by decide) rfl ?_
                    refine V_goto (pc := 193) 35 C dX9_layFew_193 (by decide) ?_
                    exact V_sub [0, 3, 4, 5] rfl (ih35 (i + (-1)) G (by omega) (fun j hj => by by_cases q : j = i; (rw [q]; exact fun s hs => hc s (by omega)); exact hq j (by omega)) (hb) (by omega))
                  · refine V_iload_n (pc := 55) C dX9_layFew_55 rfl 4 rfl ?_
                    refine V_iload_n (pc := 56) C dX9_layFew_56 rfl 2 rfl ?_
                    refine cs_X9_200 (pc := 57) (rest := []) (wn := fun _ => [(o, .inr (9, fX9 q f)), (q 6, aI (d 0) 6 M6), (q 40, aI (d 0) 7707 G)]) (sn := fun _ => [.int (iI (bI (m / 2 ^ i.toNat % 2 = 1)))]) C dX9_layFew_57 (c_X9_has l D d m i (show 0 ≤ m ∧ m ≤ 2147483647 by omega) (show 0 ≤ i ∧ i ≤ 31 by omega)) [] rfl rfl rfl rfl (Nat.le_of_ble_eq_true rfl) ⟨by omega, by omega⟩ ⟨Nat.zero_le _, Nat.zero_le _⟩ (fun _ => rfl) (fun _ => rfl) (fun _ => rfl) ?_
                    intro _ _
                    refine V_ifb_ne (pc := 60) 90 C dX9_layFew_60 (by decide) (fun c60 => ?_) (fun c60 => ?_)
                    · refine V_iload (pc := 90) C dX9_layFew_90 0 rfl ?_
                      refine V_aload_n (pc := 92) C dX9_layFew_92 rfl 3 rfl ?_
                      refine gf_X9_13 (x := q 6) (pc := 93) C dX9_layFew_93 0 rfl rfl ?_
                      refine V_iload_n (pc := 96) C dX9_layFew_96 rfl 2 rfl ?_
                      refine V_iald (f := M6) (pc := 97) C dX9_layFew_97 1 rfl (by omega) (by omega) (Nat.le_of_ble_eq_true rfl) ?_
                      have b97 := hM6 i
                      refine V_icmp_ge (pc := 98) 116 C dX9_layFew_98 (by decide) (sm_i (by omega)) (sm_i (by omega)) (fun c98 => ?_) (fun c98 => ?_)
                      · have u1 := hU i (by omega) c60
                        have hq1 := (hq (i + 1) (by omega) (t - M6 i) (by omega)).2
                        have hq2 := (hc (t - M6 i) (by omega)).2
                        rw [show 1101 * (i + 1) + (t - M6 i) = 1101 * i + 1101 + t - M6 i by omega] at hq1
                        rw [show 1101 * i + (t - M6 i) = 1101 * i + t - M6 i by omega] at hq2
                        have vb1 := hb (1101 * i + 1101 + t - M6 i)
                        have vb2 := hb (1101 * i + t - M6 i)
                        have vb9 : True := trivial
                        refine V_aload_n (pc := 116) C dX9_layFew_116 rfl 3 rfl ?_
                        refine gf_X9_102 (x := q 40) (pc := 117) C dX9_layFew_117 0 rfl rfl ?_
                        refine V_iload (pc := 120) C dX9_layFew_120 1 rfl ?_
                        refine V_sipush (pc := 122) C dX9_layFew_122 rfl ?_
                        refine V_iadd (pc := 125) C dX9_layFew_125 ?_
                        refine V_iload (pc := 126) C dX9_layFew_126 0 rfl ?_
                        refine V_iadd (pc := 128) C dX9_layFew_128 ?_
                        refine V_aload_n (pc := 129) C dX9_layFew_129 rfl 3 rfl ?_
                        refine gf_X9_13 (x := q 6) (pc := 130) C dX9_layFew_130 0 rfl rfl ?_
                        refine V_iload_n (pc := 133) C dX9_layFew_133 rfl 2 rfl ?_
                        refine V_iald (f := M6) (pc := 134) C dX9_layFew_134 1 rfl (by omega) (by omega) (Nat.le_of_ble_eq_true rfl) ?_
                        have b134 := hM6 i
                        refine V_isub (pc := 135) C dX9_layFew_135 ?_
                        refine V_iald (f := G) (pc := 136) C dX9_layFew_136 2 rfl (by omega) (by omega) (Nat.le_of_ble_eq_true rfl) ?_
                        have b136 := hb ((((1101 * i) + 1101) + t) - (M6 i))
                        refine V_istore (lv' := [(6, .int (iI (G ((((1101 * i) + 1101) + t) - (M6 i))))), (5, .int (iI t)), (4, .int (iI (1101 * i))), (3, .int (iI i)), (0, .ref o), (1, .int (iI m)), (2, .int (iI T))]) (pc := 137) C dX9_layFew_137 (by decide) rfl ?_
                        refine V_aload_n (pc := 139) C dX9_layFew_139 rfl 4 rfl ?_
                        refine gf_X9_102 (x := q 40) (pc := 140) C dX9_layFew_140 0 rfl rfl ?_
                        refine V_iload (pc := 143) C dX9_layFew_143 2 rfl ?_
                        refine V_iload (pc := 145) C dX9_layFew_145 1 rfl ?_
                        refine V_iadd (pc := 147) C dX9_layFew_147 ?_
                        refine V_aload_n (pc := 148) C dX9_layFew_148 rfl 4 rfl ?_
                        refine gf_X9_13 (x := q 6) (pc := 149) C dX9_layFew_149 0 rfl rfl ?_
                        refine V_iload_n (pc := 152) C dX9_layFew_152 rfl 3 rfl ?_
                        refine V_iald (f := M6) (pc := 153) C dX9_layFew_153 1 rfl (by omega) (by omega) (Nat.le_of_ble_eq_true rfl) ?_
                        have b153 := hM6 i
                        refine V_isub (pc := 154) C dX9_layFew_154 ?_
                        refine V_iald (f := G) (pc := 155) C dX9_layFew_155 2 rfl (by omega) (by omega) (Nat.le_of_ble_eq_true rfl) ?_
                        have b155 := hb (((1101 * i) + t) - (M6 i))
                        refine V_istore (lv' := [(7, .int (iI (G (((1101 * i) + t) - (M6 i))))), (6, .int (iI (G ((((1101 * i) + 1101) + t) - (M6 i))))), (5, .int (iI t)), (4, .int (iI (1101 * i))), (3, .int (iI i)), (0, .ref o), (1, .int (iI m)), (2, .int (iI T))]) (pc := 156) C dX9_layFew_156 (by decide) rfl ?_
                        refine V_aload_n (pc := 158) C dX9_layFew_158 rfl 5 rfl ?_
                        refine gf_X9_102 (x := q 40) (pc := 159) C dX9_layFew_159 0 rfl rfl ?_
                        refine V_iload (pc := 162) C dX9_layFew_162 3 rfl ?_
                        refine V_iload (pc := 164) C dX9_layFew_164 2 rfl ?_
                        refine V_iadd (pc := 166) C dX9_layFew_166 ?_
                        refine V_iload (pc := 167) C dX9_layFew_167 1 rfl ?_
                        refine V_iload (pc := 169) C dX9_layFew_169 0 rfl ?_
                        refine V_icmp_ge (pc := 171) 179 C dX9_layFew_171 (by decide) (sm_i (by omega)) (sm_i (by omega)) (fun c171 => ?_) (fun c171 => ?_)
                        · refine V_iload (pc := 179) C dX9_layFew_179 0 rfl ?_
                          refine V_iconst (pc := 181) C dX9_layFew_181 ?_
                          refine V_iadd (pc := 182) C dX9_layFew_182 ?_
                          refine V_iast (f := G) (ws' := [(o, .inr (9, fX9 q f)), (q 6, aI (d 0) 6 M6), (q 40, aI (d 0) 7707 (uI G ((1101 * i) + t) ((G (((1101 * i) + t) - (M6 i))) + 1)))]) (pc := 183) C dX9_layFew_183 2 rfl (by omega) (by omega) (Nat.le_of_ble_eq_true rfl) rfl ?_
                          refine V_iinc (lv' := [(5, .int (iI (t + 1))), (7, .int (iI (G (((1101 * i) + t) - (M6 i))))), (6, .int (iI (G ((((1101 * i) + 1101) + t) - (M6 i))))), (4, .int (iI (1101 * i))), (3, .int (iI i)), (0, .ref o), (1, .int (iI m)), (2, .int (iI T))]) (pc := 184) C dX9_layFew_184 2 rfl (by decide) rfl ?_
                          refine V_goto (pc := 187) 49 C dX9_layFew_187 (by decide) ?_
                          exact V_sub [0, 3, 4, 5, 6, 7] rfl (ih49 (t + 1) (uI G ((1101 * i) + t) ((G (((1101 * i) + t) - (M6 i))) + 1)) (by omega) (fun j hj => rwM_u (hq j hj) hj.1 hT.2 (by omega)) (clM_s hc (by first | exact cl_no (by omega) (hq (i + 1) (by omega)) (by omega) c60 (by omega) | exact cl_lt (by omega) (fun j => (hM6 j).1) c60 (by omega) | exact cl_ge (by omega) (hq (i + 1) (by omega)) hc (hU i (by omega) c60) (by omega) c60 (x := 1101 * i + 1101 + t - M6 i) (y := 1101 * i + t - M6 i) (by omega) (by omega) (by split <;> omega))) (bd_u hb (by first | exact hb _ | decide | (have z := vb9; omega))) (by omega))
                        · refine V_iload (pc := 174) C dX9_layFew_174 1 rfl ?_
                          refine V_goto (pc := 176) 181 C dX9_layFew_176 (by decide) ?_
                          refine V_iconst (pc := 181) C dX9_layFew_181 ?_
                          refine V_iadd (pc := 182) C dX9_layFew_182 ?_
                          refine V_iast (f := G) (ws' := [(o, .inr (9, fX9 q f)), (q 6, aI (d 0) 6 M6), (q 40, aI (d 0) 7707 (uI G ((1101 * i) + t) ((G ((((1101 * i) + 1101) + t) - (M6 i))) + 1)))]) (pc := 183) C dX9_layFew_183 2 rfl (by omega) (by omega) (Nat.le_of_ble_eq_true rfl) rfl ?_
                          refine V_iinc (lv' := [(5, .int (iI (t + 1))), (7, .int (iI (G (((1101 * i) + t) - (M6 i))))), (6, .int (iI (G ((((1101 * i) + 1101) + t) - (M6 i))))), (4, .int (iI (1101 * i))), (3, .int (iI i)), (0, .ref o), (1, .int (iI m)), (2, .int (iI T))]) (pc := 184) C dX9_layFew_184 2 rfl (by decide) rfl ?_
                          refine V_goto (pc := 187) 49 C dX9_layFew_187 (by decide) ?_
                          exact V_sub [0, 3, 4, 5, 6, 7] rfl (ih49 (t + 1) (uI G ((1101 * i) + t) ((G ((((1101 * i) + 1101) + t) - (M6 i))) + 1)) (by omega) (fun j hj => rwM_u (hq j hj) hj.1 hT.2 (by omega)) (clM_s hc (by first | exact cl_no (by omega) (hq (i + 1) (by omega)) (by omega) c60 (by omega) | exact cl_lt (by omega) (fun j => (hM6 j).1) c60 (by omega) | exact cl_ge (by omega) (hq (i + 1) (by omega)) hc (hU i (by omega) c60) (by omega) c60 (x := 1101 * i + 1101 + t - M6 i) (y := 1101 * i + t - M6 i) (by omega) (by omega) (by split <;> omega))) (bd_u hb (by first | exact hb _ | decide | (have z := vb9; omega))) (by omega))
                      · refine V_aload_n (pc := 101) C dX9_layFew_101 rfl 3 rfl ?_
                        refine gf_X9_102 (x := q 40) (pc := 102) C dX9_layFew_102 0 rfl rfl ?_
                        refine V_iload (pc := 105) C dX9_layFew_105 1 rfl ?_
                        refine V_iload (pc := 107) C dX9_layFew_107 0 rfl ?_
                        refine V_iadd (pc := 109) C dX9_layFew_109 ?_
                        refine V_ldc (n := 99999) (pc := 110) C dX9_layFew_110 w4_211 rfl ?_
                        refine V_iast (f := G) (ws' := [(o, .inr (9, fX9 q f)), (q 6, aI (d 0) 6 M6), (q 40, aI (d 0) 7707 (uI G ((1101 * i) + t) 99999))]) (pc := 112) C dX9_layFew_112 2 rfl (by omega) (by omega) (Nat.le_of_ble_eq_true rfl) rfl ?_
                        refine V_goto (pc := 113) 184 C dX9_layFew_113 (by decide) ?_
                        refine V_iinc (lv' := [(5, .int (iI (t + 1))), (4, .int (iI (1101 * i))), (3, .int (iI i)), (0, .ref o), (1, .int (iI m)), (2, .int (iI T))]) (pc := 184) C dX9_layFew_184 0 rfl (by decide) rfl ?_
                        refine V_goto (pc := 187) 49 C dX9_layFew_187 (by decide) ?_
                        exact V_sub [0, 1, 2, 3, 4, 5] rfl (ih49 (t + 1) (uI G ((1101 * i) + t) 99999) (by omega) (fun j hj => rwM_u (hq j hj) hj.1 hT.2 (by omega)) (clM_s hc (by first | exact cl_no (by omega) (hq (i + 1) (by omega)) (by omega) c60 (by omega) | exact cl_lt (by omega) (fun j => (hM6 j).1) c60 (by omega) | exact cl_ge (by omega) (hq (i + 1) (by omega)) hc (hU i (by omega) c60) (by omega) c60 (x := 1101 * i + 1101 + t - M6 i) (y := 1101 * i + t - M6 i) (by omega) (by omega) (by split <;> omega))) (bd_u hb (by first | exact hb _ | decide | (have z := vb9; omega))) (by omega))
                    · refine V_aload_n (pc := 63) C dX9_layFew_63 rfl 3 rfl ?_
                      refine gf_X9_102 (x := q 40) (pc := 64) C dX9_layFew_64 0 rfl rfl ?_
                      refine V_iload (pc := 67) C dX9_layFew_67 1 rfl ?_
                      refine V_iload (pc := 69) C dX9_layFew_69 0 rfl ?_
                      refine V_iadd (pc := 71) C dX9_layFew_71 ?_
                      refine V_aload_n (pc := 72) C dX9_layFew_72 rfl 3 rfl ?_
                      refine gf_X9_102 (x := q 40) (pc := 73) C dX9_layFew_73 0 rfl rfl ?_
                      refine V_iload (pc := 76) C dX9_layFew_76 1 rfl ?_
                      refine V_sipush (pc := 78) C dX9_layFew_78 rfl ?_
                      refine V_iadd (pc := 81) C dX9_layFew_81 ?_
                      refine V_iload (pc := 82) C dX9_layFew_82 0 rfl ?_
                      refine V_iadd (pc := 84) C dX9_layFew_84 ?_
                      refine V_iald (f := G) (pc := 85) C dX9_layFew_85 2 rfl (by omega) (by omega) (Nat.le_of_ble_eq_true rfl) ?_
                      have b85 := hb (((1101 * i) + 1101) + t)
                      refine V_iast (f := G) (ws' := [(o, .inr (9, fX9 q f)), (q 6, aI (d 0) 6 M6), (q 40, aI (d 0) 7707 (uI G ((1101 * i) + t) (G (((1101 * i) + 1101) + t))))]) (pc := 86) C dX9_layFew_86 2 rfl (by omega) (by omega) (Nat.le_of_ble_eq_true rfl) rfl ?_
                      refine V_goto (pc := 87) 184 C dX9_layFew_87 (by decide) ?_
                      refine V_iinc (lv' := [(5, .int (iI (t + 1))), (4, .int (iI (1101 * i))), (3, .int (iI i)), (0, .ref o), (1, .int (iI m)), (2, .int (iI T))]) (pc := 184) C dX9_layFew_184 0 rfl (by decide) rfl ?_
                      refine V_goto (pc := 187) 49 C dX9_layFew_187 (by decide) ?_
                      exact V_sub [0, 1, 2, 3, 4, 5] rfl (ih49 (t + 1) (uI G ((1101 * i) + t) (G (((1101 * i) + 1101) + t))) (by omega) (fun j hj => rwM_u (hq j hj) hj.1 hT.2 (by omega)) (clM_s hc (by first | exact cl_no (by omega) (hq (i + 1) (by omega)) (by omega) c60 (by omega) | exact cl_lt (by omega) (fun j => (hM6 j).1) c60 (by omega) | exact cl_ge (by omega) (hq (i + 1) (by omega)) hc (hU i (by omega) c60) (by omega) c60 (x := 1101 * i + 1101 + t - M6 i) (y := 1101 * i + t - M6 i) (by omega) (by omega) (by split <;> omega))) (bd_u hb (by first | exact hb _ | decide | (have z := vb9; omega))) (by omega))
              exact V_sub [0, 1, 2, 3, 4, 5] rfl (L49 ((T + 1 - 0).toNat + 1) 0 G (by omega) (hr) (fun s hs => by omega) (hb) (Nat.lt_succ_self _))
        exact V_sub [0, 1, 2, 3] rfl (L35 (Int.toNat (5 + 1) + 1) 5 G (by omega) (fun j hj => by have e : j = 6 := (by omega); rw [e]; exact rwM_6 (fun s hs => hG s (by omega))) (hb) (Nat.lt_succ_self _))
      · refine V_aload_n (pc := 7) C dX9_layFew_7 rfl 1 rfl ?_
        refine gf_X9_102 (x := q 40) (pc := 8) C dX9_layFew_8 0 rfl rfl ?_
        refine V_sipush (pc := 11) C dX9_layFew_11 rfl ?_
        refine V_iload_n (pc := 14) C dX9_layFew_14 rfl 0 rfl ?_
        refine V_iadd (pc := 15) C dX9_layFew_15 ?_
        refine V_iload_n (pc := 16) C dX9_layFew_16 rfl 0 rfl ?_
        refine V_if_ne (pc := 17) 24 C dX9_layFew_17 (by decide) (sm_i (by omega)) (fun c17 => ?_) (fun c17 => ?_)
        · refine V_ldc (n := 99999) (pc := 24) C dX9_layFew_24 w4_211 rfl ?_
          refine V_iast (f := G) (ws' := [(o, .inr (9, fX9 q f)), (q 6, aI (d 0) 6 M6), (q 40, aI (d 0) 7707 (uI G (6606 + t) 99999))]) (pc := 26) C dX9_layFew_26 2 rfl (by omega) (by omega) (Nat.le_of_ble_eq_true rfl) rfl ?_
          refine V_iinc (lv' := [(3, .int (iI (t + 1))), (0, .ref o), (1, .int (iI m)), (2, .int (iI T))]) (pc := 27) C dX9_layFew_27 0 rfl (by decide) rfl ?_
          refine V_goto (pc := 30) 2 C dX9_layFew_30 (by decide) ?_
          exact V_sub [0, 1, 2, 3] rfl (ih2 (t + 1) (uI G (6606 + t) 99999) (by omega) (fun s hs => by by_cases q : s = t; (rw [q, uI_s]; split <;> first | rfl | omega); (rw [uI_n _ _ (by omega)]; exact hG s (by omega))) (bd_u hb (by decide)) (by omega))
        · refine V_iconst (pc := 20) C dX9_layFew_20 ?_
          refine V_goto (pc := 21) 26 C dX9_layFew_21 (by decide) ?_
          refine V_iast (f := G) (ws' := [(o, .inr (9, fX9 q f)), (q 6, aI (d 0) 6 M6), (q 40, aI (d 0) 7707 (uI G (6606 + t) 0))]) (pc := 26) C dX9_layFew_26 2 rfl (by omega) (by omega) (Nat.le_of_ble_eq_true rfl) rfl ?_
          refine V_iinc (lv' := [(3, .int (iI (t + 1))), (0, .ref o), (1, .int (iI m)), (2, .int (iI T))]) (pc := 27) C dX9_layFew_27 0 rfl (by decide) rfl ?_
          refine V_goto (pc := 30) 2 C dX9_layFew_30 (by decide) ?_
          exact V_sub [0, 1, 2, 3] rfl (ih2 (t + 1) (uI G (6606 + t) 0) (by omega) (fun s hs => by by_cases q : s = t; (rw [q, uI_s]; split <;> first | rfl | omega); (rw [uI_n _ _ (by omega)]; exact hG s (by omega))) (bd_u hb (by decide)) (by omega))
  exact V_sub [0, 1, 2, 3] rfl (L2 ((T + 1 - 0).toNat + 1) 0 M40 (by omega) (fun s hs => by omega) (hM40) (Nat.lt_succ_self _))
set_option maxRecDepth 100000 in
set_option maxHeartbeats 4000000 in
theorem c_X9_can (l : Launch) (D : va_G) (d : Nat → ClassId) (o : Nat) (q : Nat → Nat) (f : Nat → Int) (M40 : Int → Int) (k : Int) (p : Int) (n : Int) (lo : Int) (hi : Int) (hM40 : bd M40 0 100005) (hk : 0 ≤ k ∧ k ≤ 6) (hp : 0 ≤ p ∧ p ≤ 20000000) (hn : -2147483648 ≤ n ∧ n ≤ 2147483647) (hlo : 1 ≤ lo ∧ lo ≤ 999) (hhi : 0 ≤ hi ∧ hi ≤ 1100) : CU l yX9_can cX9_can 8 (some .boolean) 0 0 D d [.ref o, .int (iI k), .int (iI p), .int (iI n), .int (iI lo), .int (iI hi)] [(o, .inr (9, fX9 q f)), (q 40, aI (d 0) 7707 M40)] (fun (u : Int) => (u = 1 ∧ ∃ x : Int, (lo ≤ x ∧ x ≤ hi) ∧ p ≤ x ∧ M40 (1101 * k + x - p) = n) ∨ (u = 0 ∧ ∀ x : Int, lo ≤ x ∧ x ≤ hi → ¬ (p ≤ x ∧ M40 (1101 * k + x - p) = n))) (fun (u : Int) => some (.int (iI (u)))) (fun (u : Int) => [(o, .inr (9, fX9 q f)), (q 40, aI (d 0) 7707 M40)]) := by
  refine CU.mk (own := RX9) (lv := [(0, .ref o), (1, .int (iI k)), (2, .int (iI p)), (3, .int (iI n)), (4, .int (iI lo)), (5, .int (iI hi))]) rfl (by decide) (Nat.le_of_ble_eq_true rfl) rfl ?_
  intro p9 e9 R9 s9 m9 args9 below9 meth9 c9 A9 Q9 hRf hRl C Z
  refine V_iconst (pc := 0) C dX9_can_0 ?_
  refine V_istore (lv' := [(6, .int (iI 0)), (0, .ref o), (1, .int (iI k)), (2, .int (iI p)), (3, .int (iI n)), (4, .int (iI lo)), (5, .int (iI hi))]) (pc := 1) C dX9_can_1 (by decide) rfl ?_
  refine V_iload (pc := 3) C dX9_can_3 5 rfl ?_
  refine V_istore (lv' := [(7, .int (iI lo)), (6, .int (iI 0)), (0, .ref o), (1, .int (iI k)), (2, .int (iI p)), (3, .int (iI n)), (4, .int (iI lo)), (5, .int (iI hi))]) (pc := 5) C dX9_can_5 (by decide) rfl ?_
  have L7 : ∀ (nn9 : Nat) (s : Int) (t : Int), (lo ≤ s ∧ s ≤ 1101) → ((t = 1 ∧ ∃ x : Int, (lo ≤ x ∧ x ≤ hi) ∧ p ≤ x ∧ M40 (1101 * k + x - p) = n) ∨ (t = 0 ∧ ∀ x : Int, lo ≤ x ∧ x < s → ¬ (p ≤ x ∧ M40 (1101 * k + x - p) = n))) → (t = 0 ∨ t = 1) → ((1101 : Int) - s).toNat < nn9 → V p9 l e9 R9 s9 m9 args9 below9 meth9 c9 A9 D Q9 8 0 0 [(o, .inr (9, fX9 q f)), (q 40, aI (d 0) 7707 M40)] [(7, .int (iI s)), (6, .int (iI t)), (0, .ref o), (1, .int (iI k)), (2, .int (iI p)), (3, .int (iI n)), (4, .int (iI lo)), (5, .int (iI hi))] 7 [] := by
    intro nn9
    induction nn9 with
    | zero => intro _ _ _ _ _ hm7; exact absurd hm7 (Nat.not_lt_zero _)
    | succ nn9 ih7 =>
      intro s t hs ht ht1 hm7
      refine V_iload (pc := 7) C dX9_can_7 0 rfl ?_
      refine V_iload (pc := 9) C dX9_can_9 7 rfl ?_
      refine V_icmp_gt (pc := 11) 57 C dX9_can_11 (by decide) (sm_i (by omega)) (sm_i (by omega)) (fun c11 => ?_) (fun c11 => ?_)
      · refine V_iload (pc := 57) C dX9_can_57 1 rfl ?_
        exact V_zret (pc := 59) C Z dX9_can_59 (by omega) t (by rcases ht with h | h; exact Or.inl h; exact Or.inr ⟨h.1, fun x hx => h.2 x (by omega)⟩) (ri (by rfl)) rfl
      · refine V_iload (pc := 14) C dX9_can_14 1 rfl ?_
        refine V_if_ne (pc := 16) 57 C dX9_can_16 (by decide) (sm_i (by omega)) (fun c16 => ?_) (fun c16 => ?_)
        · refine V_iload (pc := 57) C dX9_can_57 1 rfl ?_
          exact V_zret (pc := 59) C Z dX9_can_59 (by omega) t (by rcases ht with h | h; exact Or.inl h; exact Or.inr ⟨h.1, fun x hx => h.2 x (by omega)⟩) (ri (by rfl)) rfl
        · refine V_iload (pc := 19) C dX9_can_19 0 rfl ?_
          refine V_iload_n (pc := 21) C dX9_can_21 rfl 4 rfl ?_
          refine V_icmp_lt (pc := 22) 48 C dX9_can_22 (by decide) (sm_i (by omega)) (sm_i (by omega)) (fun c22 => ?_) (fun c22 => ?_)
          · refine V_iconst (pc := 48) C dX9_can_48 ?_
            refine V_istore (lv' := [(6, .int (iI 0)), (7, .int (iI s)), (0, .ref o), (1, .int (iI k)), (2, .int (iI p)), (3, .int (iI n)), (4, .int (iI lo)), (5, .int (iI hi))]) (pc := 49) C dX9_can_49 (by decide) rfl ?_
            refine V_iinc (lv' := [(7, .int (iI (s + 1))), (6, .int (iI 0)), (0, .ref o), (1, .int (iI k)), (2, .int (iI p)), (3, .int (iI n)), (4, .int (iI lo)), (5, .int (iI hi))]) (pc := 51) C dX9_can_51 1 rfl (by decide) rfl ?_
            refine V_goto (pc := 54) 7 C dX9_can_54 (by decide) ?_
            exact V_sub [0, 1, 2, 3, 4, 5, 6, 7] rfl (ih7 (s + 1) 0 (by omega) (by first | exact Or.inl ⟨rfl, s, by omega, by omega, c41⟩ | exact Or.inr ⟨rfl, fun x hx hz => by by_cases q : x = s; (rw [q] at hz; omega); exact (cn_0 ht c16) x (by omega) hz⟩) (by omega) (by omega))
          · refine V_aload_n (pc := 25) C dX9_can_25 rfl 2 rfl ?_
            refine gf_X9_102 (x := q 40) (pc := 26) C dX9_can_26 0 rfl rfl ?_
            refine V_sipush (pc := 29) C dX9_can_29 rfl ?_
            refine V_iload_n (pc := 32) C dX9_can_32 rfl 3 rfl ?_
            refine V_imul (pc := 33) C dX9_can_33 ?_
            refine V_iload (pc := 34) C dX9_can_34 0 rfl ?_
            refine V_iadd (pc := 36) C dX9_can_36 ?_
            refine V_iload_n (pc := 37) C dX9_can_37 rfl 4 rfl ?_
            refine V_isub (pc := 38) C dX9_can_38 ?_
            refine V_iald (f := M40) (pc := 39) C dX9_can_39 1 rfl (by omega) (by omega) (Nat.le_of_ble_eq_true rfl) ?_
            have b39 := hM40 (((1101 * k) + s) - p)
            refine V_iload_n (pc := 40) C dX9_can_40 rfl 5 rfl ?_
            refine V_icmp_ne (pc := 41) 48 C dX9_can_41 (by decide) (sm_i (by omega)) (sm_i (by omega)) (fun c41 => ?_) (fun c41 => ?_)
            · refine V_iconst (pc := 48) C dX9_can_48 ?_
              refine V_istore (lv' := [(6, .int (iI 0)), (7, .int (iI s)), (0, .ref o), (1, .int (iI k)), (2, .int (iI p)), (3, .int (iI n)), (4, .int (iI lo)), (5, .int (iI hi))]) (pc := 49) C dX9_can_49 (by decide) rfl ?_
              refine V_iinc (lv' := [(7, .int (iI (s + 1))), (6, .int (iI 0)), (0, .ref o), (1, .int (iI k)), (2, .int (iI p)), (3, .int (iI n)), (4, .int (iI lo)), (5, .int (iI hi))]) (pc := 51) C dX9_can_51 1 rfl (by decide) rfl ?_
              refine V_goto (pc := 54) 7 C dX9_can_54 (by decide) ?_
              exact V_sub [0, 1, 2, 3, 4, 5, 6, 7] rfl (ih7 (s + 1) 0 (by omega) (by first | exact Or.inl ⟨rfl, s, by omega, by omega, c41⟩ | exact Or.inr ⟨rfl, fun x hx hz => by by_cases q : x = s; (rw [q] at hz; omega); exact (cn_0 ht c16) x (by omega) hz⟩) (by omega) (by omega))
            · refine V_iconst (pc := 44) C dX9_can_44 ?_
              refine V_goto (pc := 45) 49 C dX9_can_45 (by decide) ?_
              refine V_istore (lv' := [(6, .int (iI 1)), (7, .int (iI s)), (0, .ref o), (1, .int (iI k)), (2, .int (iI p)), (3, .int (iI n)), (4, .int (iI lo)), (5, .int (iI hi))]) (pc := 49) C dX9_can_49 (by decide) rfl ?_
              refine V_iinc (lv' := [(7, .int (iI (s + 1))), (6, .int (iI 1)), (0, .ref o), (1, .int (iI k)), (2, .int (iI p)), (3, .int (iI n)), (4, .int (iI lo)), (5, .int (iI hi))]) (pc := 51) C dX9_can_51 1 rfl (by decide) rfl ?_
              refine V_goto (pc := 54) 7 C dX9_can_54 (by decide) ?_
              exact V_sub [0, 1, 2, 3, 4, 5, 6, 7] rfl (ih7 (s + 1) 1 (by omega) (by first | exact Or.inl ⟨rfl, s, by omega, by omega, c41⟩ | exact Or.inr ⟨rfl, fun x hx hz => by by_cases q : x = s; (rw [q] at hz; omega); exact (cn_0 ht c16) x (by omega) hz⟩) (by omega) (by omega))
  exact V_sub [0, 1, 2, 3, 4, 5, 6, 7] rfl (L7 (((1101 : Int) - lo).toNat + 1) lo 0 (by omega) (Or.inr ⟨rfl, fun x hx => by omega⟩) (by omega) (Nat.lt_succ_self _))
