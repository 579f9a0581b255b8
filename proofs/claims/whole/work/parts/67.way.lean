set_option maxRecDepth 100000 in
set_option maxHeartbeats 4000000 in
theorem c_X9_layWay (l : Launch) (D : va_G) (d : Nat → ClassId) (o : Nat) (q : Nat → Nat) (f : Nat → Int) (M6 : Int → Int) (M40 : Int → Int) (M41 : Int → Int) (m : Int) (w : Int) (L : Int) (T : Int) (hM6 : bd M6 0 99) (hM40 : bd M40 0 100005) (hm : 0 ≤ m ∧ m ≤ 63) (hw : 0 ≤ w ∧ w < 99999) (hL : 1 ≤ L ∧ L ≤ 999) (hT : 0 ≤ T ∧ T ≤ 1100) (hR : ∀ j : Int, 0 ≤ j ∧ j ≤ 6 → rwM M6 m T M40 j) (ho : ∃ e, optM M6 m 6 L T w e) (hl : lstM M6 m 6 L T w) : CU l yX9_layWay cX9_layWay 9 none 1 27 D d [.ref o, .int (iI m), .int (iI w), .int (iI L), .int (iI T)] [(o, .inr (9, fX9 q f)), (q 6, aI (d 0) 6 M6), (q 40, aI (d 0) 7707 M40), (q 41, aI (d 0) 6 M41)] (fun (u : Int → Int) => (∃ e, optM M6 m 6 L T w e ∧ agr e u 6) ∧ ∀ x : Int, 0 ≤ x ∧ x < 6 → ∀ e, optM M6 m 6 L T w e → agr e u x → u x ≤ e x) (fun (u : Int → Int) => none) (fun (u : Int → Int) => [(o, .inr (9, fX9 q f)), (q 6, aI (d 0) 6 M6), (q 40, aI (d 0) 7707 M40), (q 41, aI (d 0) 6 u)]) := by
  refine CU.mk (own := RX9) (lv := [(0, .ref o), (1, .int (iI m)), (2, .int (iI w)), (3, .int (iI L)), (4, .int (iI T))]) rfl (by decide) (Nat.le_of_ble_eq_true rfl) rfl ?_
  intro p9 e9 R9 s9 m9 args9 below9 meth9 c9 A9 Q9 hRf hRl C Z
  refine V_iconst (pc := 0) C dX9_layWay_0 ?_
  refine V_istore (lv' := [(5, .int (iI 0)), (0, .ref o), (1, .int (iI m)), (2, .int (iI w)), (3, .int (iI L)), (4, .int (iI T))]) (pc := 1) C dX9_layWay_1 (by decide) rfl ?_
  refine V_iload_n (pc := 3) C dX9_layWay_3 rfl 3 rfl ?_
  refine V_istore (lv' := [(6, .int (iI w)), (5, .int (iI 0)), (0, .ref o), (1, .int (iI m)), (2, .int (iI w)), (3, .int (iI L)), (4, .int (iI T))]) (pc := 4) C dX9_layWay_4 (by decide) rfl ?_
  refine V_iconst (pc := 6) C dX9_layWay_6 ?_
  refine V_istore (lv' := [(7, .int (iI 0)), (6, .int (iI w)), (5, .int (iI 0)), (0, .ref o), (1, .int (iI m)), (2, .int (iI w)), (3, .int (iI L)), (4, .int (iI T))]) (pc := 7) C dX9_layWay_7 (by decide) rfl ?_
  have L9 : ∀ (nn9 : Nat) (i : Int) (p : Int) (n : Int) (E : Int → Int), (0 ≤ i ∧ i ≤ 6) → (shM M6 m 6 L T w E i p n) → ((6 : Int) - i).toNat < nn9 → V p9 l e9 R9 s9 m9 args9 below9 meth9 c9 A9 D Q9 9 0 0 [(o, .inr (9, fX9 q f)), (q 6, aI (d 0) 6 M6), (q 40, aI (d 0) 7707 M40), (q 41, aI (d 0) 6 E)] [(7, .int (iI i)), (5, .int (iI p)), (6, .int (iI n)), (0, .ref o), (1, .int (iI m)), (2, .int (iI w)), (3, .int (iI L)), (4, .int (iI T))] 9 [] := by
    intro nn9
    induction nn9 with
    | zero => intro _ _ _ _ _ _ hm9; exact absurd hm9 (Nat.not_lt_zero _)
    | succ nn9 ih9 =>
      intro i p n E hi hsh hm9
      have sb := shM_b (fun j => (hM6 j).1) hi hsh
      have a6 := hM6 i
      refine V_iload (pc := 9) C dX9_layWay_9 0 rfl ?_
      refine V_bipush (pc := 11) C dX9_layWay_11 rfl ?_
      refine V_icmp_ge (pc := 13) 106 C dX9_layWay_13 (by decide) (sm_i (by omega)) (sm_i (by decide)) (fun c13 => ?_) (fun c13 => ?_)
      · exact V_vret (pc := 106) C Z dX9_layWay_106 E (by have e8 : i = 6 := (by omega); rw [e8] at hsh; exact ⟨hsh.1, hsh.2.1⟩) rfl rfl
      · refine V_iconst (pc := 16) C dX9_layWay_16 ?_
        refine V_istore (lv' := [(8, .int (iI 0)), (7, .int (iI i)), (5, .int (iI p)), (6, .int (iI n)), (0, .ref o), (1, .int (iI m)), (2, .int (iI w)), (3, .int (iI L)), (4, .int (iI T))]) (pc := 17) C dX9_layWay_17 (by decide) rfl ?_
        refine V_iload_n (pc := 19) C dX9_layWay_19 rfl 5 rfl ?_
        refine V_iload (pc := 20) C dX9_layWay_20 1 rfl ?_
        refine cs_X9_200 (pc := 22) (rest := []) (wn := fun _ => [(o, .inr (9, fX9 q f)), (q 6, aI (d 0) 6 M6), (q 40, aI (d 0) 7707 M40), (q 41, aI (d 0) 6 E)]) (sn := fun _ => [.int (iI (bI (m / 2 ^ i.toNat % 2 = 1)))]) C dX9_layWay_22 (c_X9_has l D d m i (show 0 ≤ m ∧ m ≤ 2147483647 by omega) (show 0 ≤ i ∧ i ≤ 31 by omega)) [] rfl rfl rfl rfl (Nat.le_of_ble_eq_true rfl) ⟨by omega, by omega⟩ ⟨Nat.zero_le _, Nat.zero_le _⟩ (fun _ => rfl) (fun _ => rfl) (fun _ => rfl) ?_
        intro _ _
        refine V_ifb_eq (pc := 25) 69 C dX9_layWay_25 (by decide) (fun c25 => ?_) (fun c25 => ?_)
        · refine V_aload_n (pc := 69) C dX9_layWay_69 rfl 4 rfl ?_
          refine gf_X9_105 (x := q 41) (pc := 70) C dX9_layWay_70 0 rfl rfl ?_
          refine V_iload (pc := 73) C dX9_layWay_73 1 rfl ?_
          refine V_iload (pc := 75) C dX9_layWay_75 0 rfl ?_
          refine V_iast (f := E) (ws' := [(o, .inr (9, fX9 q f)), (q 6, aI (d 0) 6 M6), (q 40, aI (d 0) 7707 M40), (q 41, aI (d 0) 6 (uI E i 0))]) (pc := 77) C dX9_layWay_77 3 rfl (by omega) (by omega) (Nat.le_of_ble_eq_true rfl) rfl ?_
          refine V_iload (pc := 78) C dX9_layWay_78 2 rfl ?_
          refine V_iload (pc := 80) C dX9_layWay_80 0 rfl ?_
          refine V_aload_n (pc := 82) C dX9_layWay_82 rfl 4 rfl ?_
          refine gf_X9_13 (x := q 6) (pc := 83) C dX9_layWay_83 0 rfl rfl ?_
          refine V_iload (pc := 86) C dX9_layWay_86 1 rfl ?_
          refine V_iald (f := M6) (pc := 88) C dX9_layWay_88 1 rfl (by omega) (by omega) (Nat.le_of_ble_eq_true rfl) ?_
          have b88 := hM6 i
          refine V_imul (pc := 89) C dX9_layWay_89 ?_
          refine V_iadd (pc := 90) C dX9_layWay_90 ?_
          refine V_istore (lv' := [(5, .int (iI (p + (0 * (M6 i))))), (8, .int (iI 0)), (7, .int (iI i)), (6, .int (iI n)), (0, .ref o), (1, .int (iI m)), (2, .int (iI w)), (3, .int (iI L)), (4, .int (iI T))]) (pc := 91) C dX9_layWay_91 (by decide) rfl ?_
          refine V_iload (pc := 93) C dX9_layWay_93 3 rfl ?_
          refine V_iload (pc := 95) C dX9_layWay_95 1 rfl ?_
          refine V_isub (pc := 97) C dX9_layWay_97 ?_
          refine V_istore (lv' := [(6, .int (iI (n - 0))), (5, .int (iI (p + (0 * (M6 i))))), (8, .int (iI 0)), (7, .int (iI i)), (0, .ref o), (1, .int (iI m)), (2, .int (iI w)), (3, .int (iI L)), (4, .int (iI T))]) (pc := 98) C dX9_layWay_98 (by decide) rfl ?_
          refine V_iinc (lv' := [(7, .int (iI (i + 1))), (6, .int (iI (n - 0))), (5, .int (iI (p + (0 * (M6 i))))), (8, .int (iI 0)), (0, .ref o), (1, .int (iI m)), (2, .int (iI w)), (3, .int (iI L)), (4, .int (iI T))]) (pc := 100) C dX9_layWay_100 3 rfl (by decide) rfl ?_
          refine V_goto (pc := 103) 9 C dX9_layWay_103 (by decide) ?_
          exact V_sub [0, 2, 1, 4, 5, 6, 7, 8] rfl (ih9 (i + 1) (p + (0 * (M6 i))) (n - 0) (uI E i 0) (by omega) (by first | exact shM_no (by omega) hsh c25 | exact shM_yes (i := i) (G := M40) (c := c) (by omega) (fun j => (hM6 j).1) sb.1.1 (by omega) (hR (i + 1) (by omega)) hl hsh c25 hc.1 hcan hz) (by omega))
        · obtain ⟨ew, he9, ha9⟩ := hsh.1
          refine V_iconst (pc := 28) C dX9_layWay_28 ?_
          refine V_istore (lv' := [(8, .int (iI 1)), (7, .int (iI i)), (5, .int (iI p)), (6, .int (iI n)), (0, .ref o), (1, .int (iI m)), (2, .int (iI w)), (3, .int (iI L)), (4, .int (iI T))]) (pc := 29) C dX9_layWay_29 (by decide) rfl ?_
          have L31 : ∀ (nn9 : Nat) (c : Int) (b : Int), (1 ≤ c ∧ c ≤ b) → (1 ≤ b ∧ b ≤ 99999) → (canP M6 M40 i p n L T b) → (∀ z : Int, 1 ≤ z ∧ z < c → ¬ canP M6 M40 i p n L T z) → (b - c).toNat < nn9 → V p9 l e9 R9 s9 m9 args9 below9 meth9 c9 A9 D Q9 9 0 0 [(o, .inr (9, fX9 q f)), (q 6, aI (d 0) 6 M6), (q 40, aI (d 0) 7707 M40), (q 41, aI (d 0) 6 E)] [(8, .int (iI c)), (7, .int (iI i)), (5, .int (iI p)), (6, .int (iI n)), (0, .ref o), (1, .int (iI m)), (2, .int (iI w)), (3, .int (iI L)), (4, .int (iI T))] 31 [] := by
            intro nn9
            induction nn9 with
            | zero => intro _ _ _ _ _ _ hm31; exact absurd hm31 (Nat.not_lt_zero _)
            | succ nn9 ih31 =>
              intro c b hc hb1 hb2 hz hm31
              have m9 := mulb (show 0 ≤ c ∧ c ≤ 99999 by omega) a6
              refine V_aload_n (pc := 31) C dX9_layWay_31 rfl 4 rfl ?_
              refine V_iload (pc := 32) C dX9_layWay_32 1 rfl ?_
              refine V_iconst (pc := 34) C dX9_layWay_34 ?_
              refine V_iadd (pc := 35) C dX9_layWay_35 ?_
              refine V_iload (pc := 36) C dX9_layWay_36 2 rfl ?_
              refine V_iload (pc := 38) C dX9_layWay_38 0 rfl ?_
              refine V_aload_n (pc := 40) C dX9_layWay_40 rfl 4 rfl ?_
              refine gf_X9_13 (x := q 6) (pc := 41) C dX9_layWay_41 0 rfl rfl ?_
              refine V_iload (pc := 44) C dX9_layWay_44 1 rfl ?_
              refine V_iald (f := M6) (pc := 46) C dX9_layWay_46 1 rfl (by omega) (by omega) (Nat.le_of_ble_eq_true rfl) ?_
              have b46 := hM6 i
              refine V_imul (pc := 47) C dX9_layWay_47 ?_
              refine V_iadd (pc := 48) C dX9_layWay_48 ?_
              refine V_iload (pc := 49) C dX9_layWay_49 3 rfl ?_
              refine V_iload (pc := 51) C dX9_layWay_51 0 rfl ?_
              refine V_isub (pc := 53) C dX9_layWay_53 ?_
              refine V_iload_n (pc := 54) C dX9_layWay_54 rfl 7 rfl ?_
              refine V_iload (pc := 55) C dX9_layWay_55 8 rfl ?_
              refine cv_X9_204 (pc := 57) (rest := []) (wn := fun u => [(o, .inr (9, fX9 q f)), (q 6, aI (d 0) 6 M6), (q 40, aI (d 0) 7707 M40), (q 41, aI (d 0) 6 E)]) (sn := fun u => [.int (iI u)]) C dX9_layWay_57 (c_X9_can l D d o q f M40 (i + 1) (p + (c * (M6 i))) (n - c) L T hM40 (show 0 ≤ (i + 1) ∧ (i + 1) ≤ 6 by omega) (by omega) (by omega) hL hT) [0, 2] rfl rfl 0 rfl rfl rfl (Nat.le_of_ble_eq_true rfl) ⟨by omega, by omega⟩ ⟨Nat.zero_le _, Nat.zero_le _⟩ (fun u => rfl) (fun u => rfl) (fun u => rfl) ?_
              rintro u hcn
              have u01 : u = 0 ∨ u = 1 := by rcases hcn with h | h; exact Or.inr h.1; exact Or.inl h.1
              refine V_if_ne (pc := 60) 69 C dX9_layWay_60 (by decide) (sm_i (by omega)) (fun c60 => ?_) (fun c60 => ?_)
              · have hcan : canP M6 M40 i p n L T c := by
                  rcases hcn with h | h
                  · exact h.2
                  · exact absurd h.1 c60
                clear hcn
                refine V_aload_n (pc := 69) C dX9_layWay_69 rfl 4 rfl ?_
                refine gf_X9_105 (x := q 41) (pc := 70) C dX9_layWay_70 0 rfl rfl ?_
                refine V_iload (pc := 73) C dX9_layWay_73 1 rfl ?_
                refine V_iload (pc := 75) C dX9_layWay_75 0 rfl ?_
                refine V_iast (f := E) (ws' := [(o, .inr (9, fX9 q f)), (q 6, aI (d 0) 6 M6), (q 40, aI (d 0) 7707 M40), (q 41, aI (d 0) 6 (uI E i c))]) (pc := 77) C dX9_layWay_77 3 rfl (by omega) (by omega) (Nat.le_of_ble_eq_true rfl) rfl ?_
                refine V_iload (pc := 78) C dX9_layWay_78 2 rfl ?_
                refine V_iload (pc := 80) C dX9_layWay_80 0 rfl ?_
                refine V_aload_n (pc := 82) C dX9_layWay_82 rfl 4 rfl ?_
                refine gf_X9_13 (x := q 6) (pc := 83) C dX9_layWay_83 0 rfl rfl ?_
                refine V_iload (pc := 86) C dX9_layWay_86 1 rfl ?_
                refine V_iald (f := M6) (pc := 88) C dX9_layWay_88 1 rfl (by omega) (by omega) (Nat.le_of_ble_eq_true rfl) ?_
                have b88 := hM6 i
                refine V_imul (pc := 89) C dX9_layWay_89 ?_
                refine V_iadd (pc := 90) C dX9_layWay_90 ?_
                refine V_istore (lv' := [(5, .int (iI (p + (c * (M6 i))))), (8, .int (iI c)), (7, .int (iI i)), (6, .int (iI n)), (0, .ref o), (1, .int (iI m)), (2, .int (iI w)), (3, .int (iI L)), (4, .int (iI T))]) (pc := 91) C dX9_layWay_91 (by decide) rfl ?_
                refine V_iload (pc := 93) C dX9_layWay_93 3 rfl ?_
                refine V_iload (pc := 95) C dX9_layWay_95 1 rfl ?_
                refine V_isub (pc := 97) C dX9_layWay_97 ?_
                refine V_istore (lv' := [(6, .int (iI (n - c))), (5, .int (iI (p + (c * (M6 i))))), (8, .int (iI c)), (7, .int (iI i)), (0, .ref o), (1, .int (iI m)), (2, .int (iI w)), (3, .int (iI L)), (4, .int (iI T))]) (pc := 98) C dX9_layWay_98 (by decide) rfl ?_
                refine V_iinc (lv' := [(7, .int (iI (i + 1))), (6, .int (iI (n - c))), (5, .int (iI (p + (c * (M6 i))))), (8, .int (iI c)), (0, .ref o), (1, .int (iI m)), (2, .int (iI w)), (3, .int (iI L)), (4, .int (iI T))]) (pc := 100) C dX9_layWay_100 3 rfl (by decide) rfl ?_
                refine V_goto (pc := 103) 9 C dX9_layWay_103 (by decide) ?_
                exact V_sub [0, 2, 1, 4, 5, 6, 7, 8] rfl (ih9 (i + 1) (p + (c * (M6 i))) (n - c) (uI E i c) (by omega) (by first | exact shM_no (by omega) hsh c25 | exact shM_yes (i := i) (G := M40) (c := c) (by omega) (fun j => (hM6 j).1) sb.1.1 (by omega) (hR (i + 1) (by omega)) hl hsh c25 hc.1 hcan hz) (by omega))
              · have hno : ¬ canP M6 M40 i p n L T c := by
                  rcases hcn with h | h
                  · exact absurd (h.1.symm.trans c60) (by decide)
                  · rintro ⟨x, x1, x2, x3⟩; exact h.2 x x1 ⟨x2, x3⟩
                clear hcn
                refine V_iinc (lv' := [(8, .int (iI (c + 1))), (7, .int (iI i)), (5, .int (iI p)), (6, .int (iI n)), (0, .ref o), (1, .int (iI m)), (2, .int (iI w)), (3, .int (iI L)), (4, .int (iI T))]) (pc := 63) C dX9_layWay_63 0 rfl (by decide) rfl ?_
                refine V_goto (pc := 66) 31 C dX9_layWay_66 (by decide) ?_
                exact V_sub [0, 1, 2, 3, 4, 5, 6, 7, 8] rfl (ih31 (c + 1) b (⟨by omega, by by_cases q : c = b; exact absurd hb2 (q ▸ hno); omega⟩) (hb1) (hb2) (fun z hq => by by_cases q : z = c; exact q ▸ hno; exact hz z (by omega)) (by have q9 : ¬ c = b := (fun q => absurd hb2 (q ▸ hno)); omega))
          exact V_sub [0, 1, 2, 3, 4, 5, 6, 7, 8] rfl (L31 (((ew i) - 1).toNat + 1) 1 (ew i) (by have q := (can_of (by omega) (fun j => (hM6 j).1) sb.1.1 (by omega) (hR (i + 1) (by omega)) hl hsh c25 he9 ha9).1; omega) (by have q := can_of (by omega) (fun j => (hM6 j).1) sb.1.1 (by omega) (hR (i + 1) (by omega)) hl hsh c25 he9 ha9; have q2 := shM_eb (fun j => (hM6 j).1) (by omega) hsh he9 ha9; omega) ((can_of (by omega) (fun j => (hM6 j).1) sb.1.1 (by omega) (hR (i + 1) (by omega)) hl hsh c25 he9 ha9).2) (fun z hz => by omega) (Nat.lt_succ_self _))
  exact V_sub [0, 2, 1, 3, 4, 5, 6, 7] rfl (L9 (((6 : Int) - 0).toNat + 1) 0 0 w M41 (by omega) (shM_0 ho) (Nat.lt_succ_self _))
