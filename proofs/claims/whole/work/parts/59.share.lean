set_option maxRecDepth 100000 in
set_option maxHeartbeats 4000000 in
theorem c_X7_coins (l : Launch) (D : va_G) (d : Nat → ClassId) (o : Nat) (q : Nat → Nat) (f : Nat → Int) (h4 : 0 ≤ f 4 ∧ f 4 ≤ 1000000000) : CU l yX7_coins cX7_coins 1 (some .int) 0 0 D d [.ref o] [(o, .inr (7, fX7 q f))] (fun (_ : Unit) => True) (fun (_ : Unit) => some (.int (iI (f 4 / 64)))) (fun (_ : Unit) => [(o, .inr (7, fX7 q f))]) := by
  refine CU.mk (own := RX7) (lv := [(0, .ref o)]) rfl (by decide) (Nat.le_of_ble_eq_true rfl) rfl ?_
  intro p9 e9 R9 s9 m9 args9 below9 meth9 c9 A9 Q9 hRf hRl C Z
  refine V_aload_n (pc := 0) C dX7_coins_0 rfl 0 rfl ?_
  refine gf_X7_73 (x := f 4) (pc := 1) C dX7_coins_1 0 rfl rfl ?_
  refine V_bipush (pc := 4) C dX7_coins_4 rfl ?_
  refine V_idiv (pc := 6) C dX7_coins_6 (by omega) ?_
  exact V_iret (pc := 7) C Z dX7_coins_7 () trivial (ri (by first | rfl | omega | exact bI_t (by omega) | exact bI_f (by omega))) rfl
set_option maxRecDepth 100000 in
set_option maxHeartbeats 4000000 in
theorem c_X7_shareOut (l : Launch) (D : va_G) (d : Nat → ClassId) (o : Nat) (t : Nat) (z : Nat) (q : Nat → Nat) (qt : Nat → Nat) (qz : Nat → Nat) (f : Nat → Int) (ft : Nat → Int) (fz : Nat → Int) (rw : Nat → Option Nat) (ra : Nat → Nat) (L0 : Int → Int) (L1 : Int → Int) (L2 : Int → Int) (L3 : Int → Int) (L4 : Int → Int) (L5 : Int → Int) (L6 : Int → Int) (E : Int → Int) (T1 : Int → Int) (T3 : Int → Int) (T4 : Int → Int) (A0 : Int → Int) (c : Int) (g : Int) (hP : 0 ≤ ft 6 ∧ ft 6 ≤ 6) (hC : 0 ≤ c ∧ c < 4) (hg : 1 ≤ g ∧ g ≤ 999) (h3 : 0 ≤ f 3 ∧ f 3 ≤ 1097) (h4 : 0 ≤ f 4 ∧ f 4 < 1000000000) (hT1 : bd T1 0 99) (hT4 : bd T4 0 99) (hA0 : bd A0 0 99) (hc1 : 1 ≤ T4 c) (hU : ∀ j : Int, 0 ≤ j ∧ j < ft 6 → 1 ≤ A0 j) (hr : ∀ j : Nat, j < 7 → rw j = some (ra j)) (r1 : 1 ≤ ft 6 → rwT A0 (hrI T1) (fun x => bitI (T3 x) c) (T4 c * 64) (ft 6) (ft 6 - 1).toNat (f 3) L1) (r2 : 2 ≤ ft 6 → rwT A0 (hrI T1) (fun x => bitI (T3 x) c) (T4 c * 64) (ft 6) (ft 6 - 2).toNat (f 3) L2) (r3 : 3 ≤ ft 6 → rwT A0 (hrI T1) (fun x => bitI (T3 x) c) (T4 c * 64) (ft 6) (ft 6 - 3).toNat (f 3) L3) (r4 : 4 ≤ ft 6 → rwT A0 (hrI T1) (fun x => bitI (T3 x) c) (T4 c * 64) (ft 6) (ft 6 - 4).toNat (f 3) L4) (r5 : 5 ≤ ft 6 → rwT A0 (hrI T1) (fun x => bitI (T3 x) c) (T4 c * 64) (ft 6) (ft 6 - 5).toNat (f 3) L5) (r6 : 6 ≤ ft 6 → rwT A0 (hrI T1) (fun x => bitI (T3 x) c) (T4 c * 64) (ft 6) (ft 6 - 6).toNat (f 3) L6) (ho : ∃ e, opt A0 (hrI T1) (fun x => bitI (T3 x) c) (T4 c * 64) (ft 6) g (f 3) (f 4) e) (hl : lst A0 (hrI T1) (fun x => bitI (T3 x) c) (T4 c * 64) (ft 6) g (f 3) (f 4)) : CU l yX7_shareOut cX7_shareOut 10 none 2 53 D d [.ref o, .ref t, .ref z, .int (iI c), .int (iI g)] [(o, .inr (7, fX7 q f)), (q 0, aR (d 3) 7 rw), (ra 0, aI (d 0) 1098 L0), (ra 1, aI (d 0) 1098 L1), (ra 2, aI (d 0) 1098 L2), (ra 3, aI (d 0) 1098 L3), (ra 4, aI (d 0) 1098 L4), (ra 5, aI (d 0) 1098 L5), (ra 6, aI (d 0) 1098 L6), (q 2, aI (d 0) 6 E), (t, .inr (6, fX6 qt ft)), (qt 1, aI (d 0) 6 T1), (qt 4, aI (d 0) 4 T4), (z, .inr (5, fX5 qz fz)), (qz 0, aI (d 0) 6 A0)] (fun (u : Int → Int) => lxO A0 (hrI T1) (fun x => bitI (T3 x) c) (T4 c * 64) (ft 6) g (f 3) (f 4) u) (fun (u : Int → Int) => none) (fun (u : Int → Int) => [(o, .inr (7, fX7 q f)), (q 0, aR (d 3) 7 rw), (ra 0, aI (d 0) 1098 L0), (ra 1, aI (d 0) 1098 L1), (ra 2, aI (d 0) 1098 L2), (ra 3, aI (d 0) 1098 L3), (ra 4, aI (d 0) 1098 L4), (ra 5, aI (d 0) 1098 L5), (ra 6, aI (d 0) 1098 L6), (q 2, aI (d 0) 6 u), (t, .inr (6, fX6 qt ft)), (qt 1, aI (d 0) 6 T1), (qt 4, aI (d 0) 4 T4), (z, .inr (5, fX5 qz fz)), (qz 0, aI (d 0) 6 A0)]) := by
  refine CU.mk (own := RX7) (lv := [(0, .ref o), (1, .ref t), (2, .ref z), (3, .int (iI c)), (4, .int (iI g))]) rfl (by decide) (Nat.le_of_ble_eq_true rfl) rfl ?_
  intro p9 e9 R9 s9 m9 args9 below9 meth9 c9 A9 Q9 hRf hRl C Z
  refine V_aload_n (pc := 0) C dX7_shareOut_0 rfl 0 rfl ?_
  refine gf_X7_73 (x := f 4) (pc := 1) C dX7_shareOut_1 0 rfl rfl ?_
  refine V_istore (lv' := [(5, .int (iI (f 4))), (0, .ref o), (1, .ref t), (2, .ref z), (3, .int (iI c)), (4, .int (iI g))]) (pc := 4) C dX7_shareOut_4 (by decide) rfl ?_
  refine V_iload (pc := 6) C dX7_shareOut_6 5 rfl ?_
  refine V_istore (lv' := [(6, .int (iI g)), (5, .int (iI (f 4))), (0, .ref o), (1, .ref t), (2, .ref z), (3, .int (iI c)), (4, .int (iI g))]) (pc := 8) C dX7_shareOut_8 (by decide) rfl ?_
  refine V_aload_n (pc := 10) C dX7_shareOut_10 rfl 2 rfl ?_
  refine gf_X7_34 (x := f 3) (pc := 11) C dX7_shareOut_11 0 rfl rfl ?_
  refine V_istore (lv' := [(7, .int (iI (f 3))), (6, .int (iI g)), (5, .int (iI (f 4))), (0, .ref o), (1, .ref t), (2, .ref z), (3, .int (iI c)), (4, .int (iI g))]) (pc := 14) C dX7_shareOut_14 (by decide) rfl ?_
  refine V_aload_n (pc := 16) C dX7_shareOut_16 rfl 4 rfl ?_
  refine gf_X7_67 (x := qt 4) (pc := 17) C dX7_shareOut_17 10 rfl rfl ?_
  refine V_iload_n (pc := 20) C dX7_shareOut_20 rfl 6 rfl ?_
  refine V_iald (f := T4) (pc := 21) C dX7_shareOut_21 12 rfl (by omega) (by omega) (Nat.le_of_ble_eq_true rfl) ?_
  have b21 := hT4 c
  refine V_bipush (pc := 22) C dX7_shareOut_22 rfl ?_
  refine V_imul (pc := 24) C dX7_shareOut_24 ?_
  refine V_istore (lv' := [(8, .int (iI ((T4 c) * 64))), (7, .int (iI (f 3))), (6, .int (iI g)), (5, .int (iI (f 4))), (0, .ref o), (1, .ref t), (2, .ref z), (3, .int (iI c)), (4, .int (iI g))]) (pc := 25) C dX7_shareOut_25 (by decide) rfl ?_
  refine V_iconst (pc := 27) C dX7_shareOut_27 ?_
  refine V_istore (lv' := [(9, .int (iI 0)), (8, .int (iI ((T4 c) * 64))), (7, .int (iI (f 3))), (6, .int (iI g)), (5, .int (iI (f 4))), (0, .ref o), (1, .ref t), (2, .ref z), (3, .int (iI c)), (4, .int (iI g))]) (pc := 28) C dX7_shareOut_28 (by decide) rfl ?_
  have L30 : ∀ (nn9 : Nat) (i : Int) (rest : Int) (low : Int) (high : Int) (E : Int → Int), (0 ≤ i ∧ i ≤ ft 6) → (shI A0 (hrI T1) (fun x => bitI (T3 x) c) (T4 c * 64) (ft 6) g (f 3) (f 4) E i rest low high) → (ft 6 - i).toNat < nn9 → V p9 l e9 R9 s9 m9 args9 below9 meth9 c9 A9 D Q9 10 0 0 [(o, .inr (7, fX7 q f)), (q 0, aR (d 3) 7 rw), (ra 0, aI (d 0) 1098 L0), (ra 1, aI (d 0) 1098 L1), (ra 2, aI (d 0) 1098 L2), (ra 3, aI (d 0) 1098 L3), (ra 4, aI (d 0) 1098 L4), (ra 5, aI (d 0) 1098 L5), (ra 6, aI (d 0) 1098 L6), (q 2, aI (d 0) 6 E), (t, .inr (6, fX6 qt ft)), (qt 1, aI (d 0) 6 T1), (qt 4, aI (d 0) 4 T4), (z, .inr (5, fX5 qz fz)), (qz 0, aI (d 0) 6 A0)] [(9, .int (iI i)), (5, .int (iI rest)), (6, .int (iI low)), (7, .int (iI high)), (8, .int (iI (T4 c * 64))), (0, .ref o), (1, .ref t), (2, .ref z), (3, .int (iI c)), (4, .int (iI g))] 30 [] := by
    intro nn9
    induction nn9 with
    | zero => intro _ _ _ _ _ _ _ hm30; exact absurd hm30 (Nat.not_lt_zero _)
    | succ nn9 ih30 =>
      intro i rest low high E hi hsh hm30
      have t49 := hT4 c
      have sb := sh_bd hP (fun j => (hA0 j).1) (fun j => (hrI_b hT1 j).1) (by omega) hi hsh
      refine V_iload (pc := 30) C dX7_shareOut_30 0 rfl ?_
      refine V_aload_n (pc := 32) C dX7_shareOut_32 rfl 6 rfl ?_
      refine gf_X7_38 (x := ft 6) (pc := 33) C dX7_shareOut_33 10 rfl rfl ?_
      refine V_icmp_ge (pc := 36) 164 C dX7_shareOut_36 (by decide) (sm_i (by omega)) (sm_i (by omega)) (fun c36 => ?_) (fun c36 => ?_)
      · exact V_vret (pc := 164) C Z dX7_shareOut_164 E (by have e9 : i = ft 6 := (by omega); rw [e9] at hsh; exact ⟨hsh.1, hsh.2.1⟩) rfl rfl
      · rcases (show i = 0 ∨ i = 1 ∨ i = 2 ∨ i = 3 ∨ i = 4 ∨ i = 5 by omega) with rfl | rfl | rfl | rfl | rfl | rfl
        · refine V_aload_n (pc := 39) C dX7_shareOut_39 rfl 5 rfl ?_
          refine gf_X7_20 (x := q 2) (pc := 40) C dX7_shareOut_40 0 rfl rfl ?_
          refine V_iload (pc := 43) C dX7_shareOut_43 0 rfl ?_
          refine V_iconst (pc := 45) C dX7_shareOut_45 ?_
          refine V_iast (f := E) (ws' := [(o, .inr (7, fX7 q f)), (q 0, aR (d 3) 7 rw), (ra 0, aI (d 0) 1098 L0), (ra 1, aI (d 0) 1098 L1), (ra 2, aI (d 0) 1098 L2), (ra 3, aI (d 0) 1098 L3), (ra 4, aI (d 0) 1098 L4), (ra 5, aI (d 0) 1098 L5), (ra 6, aI (d 0) 1098 L6), (q 2, aI (d 0) 6 (uI E 0 0)), (t, .inr (6, fX6 qt ft)), (qt 1, aI (d 0) 6 T1), (qt 4, aI (d 0) 4 T4), (z, .inr (5, fX5 qz fz)), (qz 0, aI (d 0) 6 A0)]) (pc := 46) C dX7_shareOut_46 9 rfl (by omega) (by omega) (Nat.le_of_ble_eq_true rfl) rfl ?_
          refine V_iload (pc := 47) C dX7_shareOut_47 1 rfl ?_
          refine V_iload (pc := 49) C dX7_shareOut_49 0 rfl ?_
          refine V_ishr (z := (rest / 1)) (pc := 51) C dX7_shareOut_51 (shr_i (k := 0) (by omega) (by omega) (by decide) (by decide)) ?_
          refine V_iconst (pc := 52) C dX7_shareOut_52 ?_
          refine V_iand (z := ((rest / 1) % 2)) (pc := 53) C dX7_shareOut_53 (and1_i (rest / 1)) ?_
          refine V_iconst (pc := 54) C dX7_shareOut_54 ?_
          refine V_icmp_ne (pc := 55) 158 C dX7_shareOut_55 (by decide) (sm_i (by omega)) (sm_i (by decide)) (fun c55 => ?_) (fun c55 => ?_)
          · refine V_iinc (lv' := [(9, .int (iI 1)), (5, .int (iI rest)), (6, .int (iI low)), (7, .int (iI high)), (8, .int (iI (T4 c * 64))), (0, .ref o), (1, .ref t), (2, .ref z), (3, .int (iI c)), (4, .int (iI g))]) (pc := 158) C dX7_shareOut_158 0 rfl (by decide) rfl ?_
            refine V_goto (pc := 161) 30 C dX7_shareOut_161 (by decide) ?_
            exact V_sub [0, 1, 2, 3, 4, 5, 6, 7, 8, 9] rfl (ih30 1 rest low high (uI E 0 0) (by omega) (by first | exact sh_no (i := 0) hP (by omega) hsh (show ¬ bitI rest 0 = 1 from c55) | (rw [uI_uu]; exact hy.2)) (by omega))
          · refine V_iload (pc := 58) C dX7_shareOut_58 1 rfl ?_
            refine V_aload_n (pc := 60) C dX7_shareOut_60 rfl 6 rfl ?_
            refine V_iload (pc := 61) C dX7_shareOut_61 0 rfl ?_
            refine cs_X7_63 (pc := 63) (rest := [.int (iI rest)]) (wn := fun _ => [(o, .inr (7, fX7 q f)), (q 0, aR (d 3) 7 rw), (ra 0, aI (d 0) 1098 L0), (ra 1, aI (d 0) 1098 L1), (ra 2, aI (d 0) 1098 L2), (ra 3, aI (d 0) 1098 L3), (ra 4, aI (d 0) 1098 L4), (ra 5, aI (d 0) 1098 L5), (ra 6, aI (d 0) 1098 L6), (q 2, aI (d 0) 6 (uI E 0 0)), (t, .inr (6, fX6 qt ft)), (qt 1, aI (d 0) 6 T1), (qt 4, aI (d 0) 4 T4), (z, .inr (5, fX5 qz fz)), (qz 0, aI (d 0) 6 A0)]) (sn := fun _ => [.int (iI (T1 0 * 64 + 2 ^ Int.toNat 0)), .int (iI rest)]) C dX7_shareOut_63 (c_X7_hire l D d t qt ft T1 0 (show 0 ≤ 0 ∧ 0 < 6 by omega)) [10, 11] rfl rfl rfl rfl (Nat.le_of_ble_eq_true rfl) ⟨by omega, by omega⟩ ⟨Nat.zero_le _, Nat.zero_le _⟩ (fun _ => rfl) (fun _ => rfl) (fun _ => rfl) ?_
            intro _ _
            refine V_eqt (show T1 0 * 64 + 2 ^ Int.toNat 0 = hrI T1 0 from hrI_in (by decide)) ?_
            refine V_isub (pc := 66) C dX7_shareOut_66 ?_
            refine V_istore (lv' := [(5, .int (iI (rest - (hrI T1 0)))), (9, .int (iI 0)), (6, .int (iI low)), (7, .int (iI high)), (8, .int (iI (T4 c * 64))), (0, .ref o), (1, .ref t), (2, .ref z), (3, .int (iI c)), (4, .int (iI g))]) (pc := 67) C dX7_shareOut_67 (by decide) rfl ?_
            refine V_aload_n (pc := 69) C dX7_shareOut_69 rfl 5 rfl ?_
            refine gf_X7_20 (x := q 2) (pc := 70) C dX7_shareOut_70 0 rfl rfl ?_
            refine V_iload (pc := 73) C dX7_shareOut_73 1 rfl ?_
            refine V_aload_n (pc := 75) C dX7_shareOut_75 rfl 5 rfl ?_
            refine gf_X7_13 (x := q 0) (pc := 76) C dX7_shareOut_76 0 rfl rfl ?_
            refine V_iload (pc := 79) C dX7_shareOut_79 1 rfl ?_
            refine V_iconst (pc := 81) C dX7_shareOut_81 ?_
            refine V_iadd (pc := 82) C dX7_shareOut_82 ?_
            refine V_eqt (y := 1) (by decide) ?_
            refine V_aald (k := 3) (x := ra 1) (f := rw) (Or.inr rfl) (pc := 83) C dX7_shareOut_83 1 rfl (by decide) (by decide) (hr 1 (by decide)) (Nat.le_of_ble_eq_true rfl) ?_
            refine V_aload_n (pc := 84) C dX7_shareOut_84 rfl 7 rfl ?_
            refine gf_X7_60 (x := qz 0) (pc := 85) C dX7_shareOut_85 13 rfl rfl ?_
            refine V_iload (pc := 88) C dX7_shareOut_88 1 rfl ?_
            refine V_iald (f := A0) (pc := 90) C dX7_shareOut_90 14 rfl (by omega) (by omega) (Nat.le_of_ble_eq_true rfl) ?_
            have b90 := hA0 0
            refine V_iload (pc := 91) C dX7_shareOut_91 0 rfl ?_
            refine V_iload (pc := 93) C dX7_shareOut_93 4 rfl ?_
            refine V_iload (pc := 95) C dX7_shareOut_95 2 rfl ?_
            refine V_iload (pc := 97) C dX7_shareOut_97 3 rfl ?_
            refine cs_X7_76 (pc := 99) (rest := [.int (iI 0), .ref (q 2)]) (wn := fun u => [(o, .inr (7, fX7 q f)), (q 0, aR (d 3) 7 rw), (ra 0, aI (d 0) 1098 L0), (ra 1, aI (d 0) 1098 L1), (ra 2, aI (d 0) 1098 L2), (ra 3, aI (d 0) 1098 L3), (ra 4, aI (d 0) 1098 L4), (ra 5, aI (d 0) 1098 L5), (ra 6, aI (d 0) 1098 L6), (q 2, aI (d 0) 6 (uI E 0 0)), (t, .inr (6, fX6 qt ft)), (qt 1, aI (d 0) 6 T1), (qt 4, aI (d 0) 4 T4), (z, .inr (5, fX5 qz fz)), (qz 0, aI (d 0) 6 A0)]) (sn := fun u => [.int (iI u), .int (iI 0), .ref (q 2)]) C dX7_shareOut_99 (c_X7_fewestOf l D d (ra 1) L1 (A0 0) (rest - (hrI T1 0)) (T4 c * 64) low high (by have q1 := hU 0 (by omega); have q2 := hA0 0; omega) (by have q1 := sh_w hP (by omega) (fun j => (hrI_b hT1 j).1) (by omega) hsh (show bitI rest 0 = 1 from c55); have q2 := (hrI_b hT1 0).1; omega) (by omega) (by omega) (by omega) (fun s hs => by have q1 := r1 (by omega) s (by omega); exact ⟨mnT_ge0 (fun j => (hrI_b hT1 j).1) (by omega) q1, q1.1⟩)) [3] rfl rfl rfl rfl (Nat.le_of_ble_eq_true rfl) ⟨by omega, by omega⟩ ⟨Nat.zero_le _, Nat.zero_le _⟩ (fun u => rfl) (fun u => rfl) (fun u => rfl) ?_
            rintro u hf
            have hy := sh_yes (R := L1) (i := 0) (r := u) hP (by omega) (fun j => (hA0 j).1) (fun j => (hrI_b hT1 j).1) hc1 (hU 0 (by omega)) h3.2 h4.2 hl hsh (show bitI rest 0 = 1 from c55) (r1 (by omega)) hf
            refine V_iast (f := uI E 0 0) (ws' := [(o, .inr (7, fX7 q f)), (q 0, aR (d 3) 7 rw), (ra 0, aI (d 0) 1098 L0), (ra 1, aI (d 0) 1098 L1), (ra 2, aI (d 0) 1098 L2), (ra 3, aI (d 0) 1098 L3), (ra 4, aI (d 0) 1098 L4), (ra 5, aI (d 0) 1098 L5), (ra 6, aI (d 0) 1098 L6), (q 2, aI (d 0) 6 (uI (uI E 0 0) 0 u)), (t, .inr (6, fX6 qt ft)), (qt 1, aI (d 0) 6 T1), (qt 4, aI (d 0) 4 T4), (z, .inr (5, fX5 qz fz)), (qz 0, aI (d 0) 6 A0)]) (pc := 102) C dX7_shareOut_102 9 rfl (by omega) (by omega) (Nat.le_of_ble_eq_true rfl) rfl ?_
            refine V_iload (pc := 103) C dX7_shareOut_103 0 rfl ?_
            refine V_aload_n (pc := 105) C dX7_shareOut_105 rfl 5 rfl ?_
            refine gf_X7_20 (x := q 2) (pc := 106) C dX7_shareOut_106 0 rfl rfl ?_
            refine V_iload (pc := 109) C dX7_shareOut_109 1 rfl ?_
            refine V_iald (f := uI (uI E 0 0) 0 u) (pc := 111) C dX7_shareOut_111 9 rfl (by omega) (by omega) (Nat.le_of_ble_eq_true rfl) ?_
            refine V_eqt (show (uI (uI E 0 0) 0 u) 0 = u from uI_s _ _ _) ?_
            refine V_iload (pc := 112) C dX7_shareOut_112 4 rfl ?_
            refine V_imul (pc := 114) C dX7_shareOut_114 ?_
            refine V_isub (pc := 115) C dX7_shareOut_115 ?_
            refine V_istore (lv' := [(5, .int (iI ((rest - (hrI T1 0)) - (u * (T4 c * 64))))), (9, .int (iI 0)), (6, .int (iI low)), (7, .int (iI high)), (8, .int (iI (T4 c * 64))), (0, .ref o), (1, .ref t), (2, .ref z), (3, .int (iI c)), (4, .int (iI g))]) (pc := 116) C dX7_shareOut_116 (by decide) rfl ?_
            refine V_iload (pc := 118) C dX7_shareOut_118 2 rfl ?_
            refine V_aload_n (pc := 120) C dX7_shareOut_120 rfl 5 rfl ?_
            refine gf_X7_20 (x := q 2) (pc := 121) C dX7_shareOut_121 0 rfl rfl ?_
            refine V_iload (pc := 124) C dX7_shareOut_124 1 rfl ?_
            refine V_iald (f := uI (uI E 0 0) 0 u) (pc := 126) C dX7_shareOut_126 9 rfl (by omega) (by omega) (Nat.le_of_ble_eq_true rfl) ?_
            refine V_eqt (show (uI (uI E 0 0) 0 u) 0 = u from uI_s _ _ _) ?_
            refine V_aload_n (pc := 127) C dX7_shareOut_127 rfl 7 rfl ?_
            refine gf_X7_60 (x := qz 0) (pc := 128) C dX7_shareOut_128 13 rfl rfl ?_
            refine V_iload (pc := 131) C dX7_shareOut_131 1 rfl ?_
            refine V_iald (f := A0) (pc := 133) C dX7_shareOut_133 14 rfl (by omega) (by omega) (Nat.le_of_ble_eq_true rfl) ?_
            have b133 := hA0 0
            refine V_imul (pc := 134) C dX7_shareOut_134 ?_
            refine V_isub (pc := 135) C dX7_shareOut_135 ?_
            refine V_istore (lv' := [(6, .int (iI (low - (u * (A0 0))))), (5, .int (iI ((rest - (hrI T1 0)) - (u * (T4 c * 64))))), (9, .int (iI 0)), (7, .int (iI high)), (8, .int (iI (T4 c * 64))), (0, .ref o), (1, .ref t), (2, .ref z), (3, .int (iI c)), (4, .int (iI g))]) (pc := 136) C dX7_shareOut_136 (by decide) rfl ?_
            refine V_iload (pc := 138) C dX7_shareOut_138 3 rfl ?_
            refine V_aload_n (pc := 140) C dX7_shareOut_140 rfl 5 rfl ?_
            refine gf_X7_20 (x := q 2) (pc := 141) C dX7_shareOut_141 0 rfl rfl ?_
            refine V_iload (pc := 144) C dX7_shareOut_144 2 rfl ?_
            refine V_iald (f := uI (uI E 0 0) 0 u) (pc := 146) C dX7_shareOut_146 9 rfl (by omega) (by omega) (Nat.le_of_ble_eq_true rfl) ?_
            refine V_eqt (show (uI (uI E 0 0) 0 u) 0 = u from uI_s _ _ _) ?_
            refine V_aload_n (pc := 147) C dX7_shareOut_147 rfl 7 rfl ?_
            refine gf_X7_60 (x := qz 0) (pc := 148) C dX7_shareOut_148 13 rfl rfl ?_
            refine V_iload (pc := 151) C dX7_shareOut_151 2 rfl ?_
            refine V_iald (f := A0) (pc := 153) C dX7_shareOut_153 14 rfl (by omega) (by omega) (Nat.le_of_ble_eq_true rfl) ?_
            have b153 := hA0 0
            refine V_imul (pc := 154) C dX7_shareOut_154 ?_
            refine V_isub (pc := 155) C dX7_shareOut_155 ?_
            refine V_istore (lv' := [(7, .int (iI (high - (u * (A0 0))))), (6, .int (iI (low - (u * (A0 0))))), (5, .int (iI ((rest - (hrI T1 0)) - (u * (T4 c * 64))))), (9, .int (iI 0)), (8, .int (iI (T4 c * 64))), (0, .ref o), (1, .ref t), (2, .ref z), (3, .int (iI c)), (4, .int (iI g))]) (pc := 156) C dX7_shareOut_156 (by decide) rfl ?_
            refine V_iinc (lv' := [(9, .int (iI 1)), (7, .int (iI (high - (u * (A0 0))))), (6, .int (iI (low - (u * (A0 0))))), (5, .int (iI ((rest - (hrI T1 0)) - (u * (T4 c * 64))))), (8, .int (iI (T4 c * 64))), (0, .ref o), (1, .ref t), (2, .ref z), (3, .int (iI c)), (4, .int (iI g))]) (pc := 158) C dX7_shareOut_158 3 rfl (by decide) rfl ?_
            refine V_goto (pc := 161) 30 C dX7_shareOut_161 (by decide) ?_
            exact V_sub [0, 3, 2, 1, 4, 5, 6, 7, 8, 9] rfl (ih30 1 ((rest - (hrI T1 0)) - (u * (T4 c * 64))) (low - (u * (A0 0))) (high - (u * (A0 0))) (uI (uI E 0 0) 0 u) (by omega) (by first | exact sh_no (i := 0) hP (by omega) hsh (show ¬ bitI rest 0 = 1 from c55) | (rw [uI_uu]; exact hy.2)) (by omega))
        · refine V_aload_n (pc := 39) C dX7_shareOut_39 rfl 5 rfl ?_
          refine gf_X7_20 (x := q 2) (pc := 40) C dX7_shareOut_40 0 rfl rfl ?_
          refine V_iload (pc := 43) C dX7_shareOut_43 0 rfl ?_
          refine V_iconst (pc := 45) C dX7_shareOut_45 ?_
          refine V_iast (f := E) (ws' := [(o, .inr (7, fX7 q f)), (q 0, aR (d 3) 7 rw), (ra 0, aI (d 0) 1098 L0), (ra 1, aI (d 0) 1098 L1), (ra 2, aI (d 0) 1098 L2), (ra 3, aI (d 0) 1098 L3), (ra 4, aI (d 0) 1098 L4), (ra 5, aI (d 0) 1098 L5), (ra 6, aI (d 0) 1098 L6), (q 2, aI (d 0) 6 (uI E 1 0)), (t, .inr (6, fX6 qt ft)), (qt 1, aI (d 0) 6 T1), (qt 4, aI (d 0) 4 T4), (z, .inr (5, fX5 qz fz)), (qz 0, aI (d 0) 6 A0)]) (pc := 46) C dX7_shareOut_46 9 rfl (by omega) (by omega) (Nat.le_of_ble_eq_true rfl) rfl ?_
          refine V_iload (pc := 47) C dX7_shareOut_47 1 rfl ?_
          refine V_iload (pc := 49) C dX7_shareOut_49 0 rfl ?_
          refine V_ishr (z := (rest / 2)) (pc := 51) C dX7_shareOut_51 (shr_i (k := 1) (by omega) (by omega) (by decide) (by decide)) ?_
          refine V_iconst (pc := 52) C dX7_shareOut_52 ?_
          refine V_iand (z := ((rest / 2) % 2)) (pc := 53) C dX7_shareOut_53 (and1_i (rest / 2)) ?_
          refine V_iconst (pc := 54) C dX7_shareOut_54 ?_
          refine V_icmp_ne (pc := 55) 158 C dX7_shareOut_55 (by decide) (sm_i (by omega)) (sm_i (by decide)) (fun c55 => ?_) (fun c55 => ?_)
          · refine V_iinc (lv' := [(9, .int (iI 2)), (5, .int (iI rest)), (6, .int (iI low)), (7, .int (iI high)), (8, .int (iI (T4 c * 64))), (0, .ref o), (1, .ref t), (2, .ref z), (3, .int (iI c)), (4, .int (iI g))]) (pc := 158) C dX7_shareOut_158 0 rfl (by decide) rfl ?_
            refine V_goto (pc := 161) 30 C dX7_shareOut_161 (by decide) ?_
            exact V_sub [0, 1, 2, 3, 4, 5, 6, 7, 8, 9] rfl (ih30 2 rest low high (uI E 1 0) (by omega) (by first | exact sh_no (i := 1) hP (by omega) hsh (show ¬ bitI rest 1 = 1 from c55) | (rw [uI_uu]; exact hy.2)) (by omega))
          · refine V_iload (pc := 58) C dX7_shareOut_58 1 rfl ?_
            refine V_aload_n (pc := 60) C dX7_shareOut_60 rfl 6 rfl ?_
            refine V_iload (pc := 61) C dX7_shareOut_61 0 rfl ?_
            refine cs_X7_63 (pc := 63) (rest := [.int (iI rest)]) (wn := fun _ => [(o, .inr (7, fX7 q f)), (q 0, aR (d 3) 7 rw), (ra 0, aI (d 0) 1098 L0), (ra 1, aI (d 0) 1098 L1), (ra 2, aI (d 0) 1098 L2), (ra 3, aI (d 0) 1098 L3), (ra 4, aI (d 0) 1098 L4), (ra 5, aI (d 0) 1098 L5), (ra 6, aI (d 0) 1098 L6), (q 2, aI (d 0) 6 (uI E 1 0)), (t, .inr (6, fX6 qt ft)), (qt 1, aI (d 0) 6 T1), (qt 4, aI (d 0) 4 T4), (z, .inr (5, fX5 qz fz)), (qz 0, aI (d 0) 6 A0)]) (sn := fun _ => [.int (iI (T1 1 * 64 + 2 ^ Int.toNat 1)), .int (iI rest)]) C dX7_shareOut_63 (c_X7_hire l D d t qt ft T1 1 (show 0 ≤ 1 ∧ 1 < 6 by omega)) [10, 11] rfl rfl rfl rfl (Nat.le_of_ble_eq_true rfl) ⟨by omega, by omega⟩ ⟨Nat.zero_le _, Nat.zero_le _⟩ (fun _ => rfl) (fun _ => rfl) (fun _ => rfl) ?_
            intro _ _
            refine V_eqt (show T1 1 * 64 + 2 ^ Int.toNat 1 = hrI T1 1 from hrI_in (by decide)) ?_
            refine V_isub (pc := 66) C dX7_shareOut_66 ?_
            refine V_istore (lv' := [(5, .int (iI (rest - (hrI T1 1)))), (9, .int (iI 1)), (6, .int (iI low)), (7, .int (iI high)), (8, .int (iI (T4 c * 64))), (0, .ref o), (1, .ref t), (2, .ref z), (3, .int (iI c)), (4, .int (iI g))]) (pc := 67) C dX7_shareOut_67 (by decide) rfl ?_
            refine V_aload_n (pc := 69) C dX7_shareOut_69 rfl 5 rfl ?_
            refine gf_X7_20 (x := q 2) (pc := 70) C dX7_shareOut_70 0 rfl rfl ?_
            refine V_iload (pc := 73) C dX7_shareOut_73 1 rfl ?_
            refine V_aload_n (pc := 75) C dX7_shareOut_75 rfl 5 rfl ?_
            refine gf_X7_13 (x := q 0) (pc := 76) C dX7_shareOut_76 0 rfl rfl ?_
            refine V_iload (pc := 79) C dX7_shareOut_79 1 rfl ?_
            refine V_iconst (pc := 81) C dX7_shareOut_81 ?_
            refine V_iadd (pc := 82) C dX7_shareOut_82 ?_
            refine V_eqt (y := 2) (by decide) ?_
            refine V_aald (k := 3) (x := ra 2) (f := rw) (Or.inr rfl) (pc := 83) C dX7_shareOut_83 1 rfl (by decide) (by decide) (hr 2 (by decide)) (Nat.le_of_ble_eq_true rfl) ?_
            refine V_aload_n (pc := 84) C dX7_shareOut_84 rfl 7 rfl ?_
            refine gf_X7_60 (x := qz 0) (pc := 85) C dX7_shareOut_85 13 rfl rfl ?_
            refine V_iload (pc := 88) C dX7_shareOut_88 1 rfl ?_
            refine V_iald (f := A0) (pc := 90) C dX7_shareOut_90 14 rfl (by omega) (by omega) (Nat.le_of_ble_eq_true rfl) ?_
            have b90 := hA0 1
            refine V_iload (pc := 91) C dX7_shareOut_91 0 rfl ?_
            refine V_iload (pc := 93) C dX7_shareOut_93 4 rfl ?_
            refine V_iload (pc := 95) C dX7_shareOut_95 2 rfl ?_
            refine V_iload (pc := 97) C dX7_shareOut_97 3 rfl ?_
            refine cs_X7_76 (pc := 99) (rest := [.int (iI 1), .ref (q 2)]) (wn := fun u => [(o, .inr (7, fX7 q f)), (q 0, aR (d 3) 7 rw), (ra 0, aI (d 0) 1098 L0), (ra 1, aI (d 0) 1098 L1), (ra 2, aI (d 0) 1098 L2), (ra 3, aI (d 0) 1098 L3), (ra 4, aI (d 0) 1098 L4), (ra 5, aI (d 0) 1098 L5), (ra 6, aI (d 0) 1098 L6), (q 2, aI (d 0) 6 (uI E 1 0)), (t, .inr (6, fX6 qt ft)), (qt 1, aI (d 0) 6 T1), (qt 4, aI (d 0) 4 T4), (z, .inr (5, fX5 qz fz)), (qz 0, aI (d 0) 6 A0)]) (sn := fun u => [.int (iI u), .int (iI 1), .ref (q 2)]) C dX7_shareOut_99 (c_X7_fewestOf l D d (ra 2) L2 (A0 1) (rest - (hrI T1 1)) (T4 c * 64) low high (by have q1 := hU 1 (by omega); have q2 := hA0 1; omega) (by have q1 := sh_w hP (by omega) (fun j => (hrI_b hT1 j).1) (by omega) hsh (show bitI rest 1 = 1 from c55); have q2 := (hrI_b hT1 1).1; omega) (by omega) (by omega) (by omega) (fun s hs => by have q1 := r2 (by omega) s (by omega); exact ⟨mnT_ge0 (fun j => (hrI_b hT1 j).1) (by omega) q1, q1.1⟩)) [4] rfl rfl rfl rfl (Nat.le_of_ble_eq_true rfl) ⟨by omega, by omega⟩ ⟨Nat.zero_le _, Nat.zero_le _⟩ (fun u => rfl) (fun u => rfl) (fun u => rfl) ?_
            rintro u hf
            have hy := sh_yes (R := L2) (i := 1) (r := u) hP (by omega) (fun j => (hA0 j).1) (fun j => (hrI_b hT1 j).1) hc1 (hU 1 (by omega)) h3.2 h4.2 hl hsh (show bitI rest 1 = 1 from c55) (r2 (by omega)) hf
            refine V_iast (f := uI E 1 0) (ws' := [(o, .inr (7, fX7 q f)), (q 0, aR (d 3) 7 rw), (ra 0, aI (d 0) 1098 L0), (ra 1, aI (d 0) 1098 L1), (ra 2, aI (d 0) 1098 L2), (ra 3, aI (d 0) 1098 L3), (ra 4, aI (d 0) 1098 L4), (ra 5, aI (d 0) 1098 L5), (ra 6, aI (d 0) 1098 L6), (q 2, aI (d 0) 6 (uI (uI E 1 0) 1 u)), (t, .inr (6, fX6 qt ft)), (qt 1, aI (d 0) 6 T1), (qt 4, aI (d 0) 4 T4), (z, .inr (5, fX5 qz fz)), (qz 0, aI (d 0) 6 A0)]) (pc := 102) C dX7_shareOut_102 9 rfl (by omega) (by omega) (Nat.le_of_ble_eq_true rfl) rfl ?_
            refine V_iload (pc := 103) C dX7_shareOut_103 0 rfl ?_
            refine V_aload_n (pc := 105) C dX7_shareOut_105 rfl 5 rfl ?_
            refine gf_X7_20 (x := q 2) (pc := 106) C dX7_shareOut_106 0 rfl rfl ?_
            refine V_iload (pc := 109) C dX7_shareOut_109 1 rfl ?_
            refine V_iald (f := uI (uI E 1 0) 1 u) (pc := 111) C dX7_shareOut_111 9 rfl (by omega) (by omega) (Nat.le_of_ble_eq_true rfl) ?_
            refine V_eqt (show (uI (uI E 1 0) 1 u) 1 = u from uI_s _ _ _) ?_
            refine V_iload (pc := 112) C dX7_shareOut_112 4 rfl ?_
            refine V_imul (pc := 114) C dX7_shareOut_114 ?_
            refine V_isub (pc := 115) C dX7_shareOut_115 ?_
            refine V_istore (lv' := [(5, .int (iI ((rest - (hrI T1 1)) - (u * (T4 c * 64))))), (9, .int (iI 1)), (6, .int (iI low)), (7, .int (iI high)), (8, .int (iI (T4 c * 64))), (0, .ref o), (1, .ref t), (2, .ref z), (3, .int (iI c)), (4, .int (iI g))]) (pc := 116) C dX7_shareOut_116 (by decide) rfl ?_
            refine V_iload (pc := 118) C dX7_shareOut_118 2 rfl ?_
            refine V_aload_n (pc := 120) C dX7_shareOut_120 rfl 5 rfl ?_
            refine gf_X7_20 (x := q 2) (pc := 121) C dX7_shareOut_121 0 rfl rfl ?_
            refine V_iload (pc := 124) C dX7_shareOut_124 1 rfl ?_
            refine V_iald (f := uI (uI E 1 0) 1 u) (pc := 126) C dX7_shareOut_126 9 rfl (by omega) (by omega) (Nat.le_of_ble_eq_true rfl) ?_
            refine V_eqt (show (uI (uI E 1 0) 1 u) 1 = u from uI_s _ _ _) ?_
            refine V_aload_n (pc := 127) C dX7_shareOut_127 rfl 7 rfl ?_
            refine gf_X7_60 (x := qz 0) (pc := 128) C dX7_shareOut_128 13 rfl rfl ?_
            refine V_iload (pc := 131) C dX7_shareOut_131 1 rfl ?_
            refine V_iald (f := A0) (pc := 133) C dX7_shareOut_133 14 rfl (by omega) (by omega) (Nat.le_of_ble_eq_true rfl) ?_
            have b133 := hA0 1
            refine V_imul (pc := 134) C dX7_shareOut_134 ?_
            refine V_isub (pc := 135) C dX7_shareOut_135 ?_
            refine V_istore (lv' := [(6, .int (iI (low - (u * (A0 1))))), (5, .int (iI ((rest - (hrI T1 1)) - (u * (T4 c * 64))))), (9, .int (iI 1)), (7, .int (iI high)), (8, .int (iI (T4 c * 64))), (0, .ref o), (1, .ref t), (2, .ref z), (3, .int (iI c)), (4, .int (iI g))]) (pc := 136) C dX7_shareOut_136 (by decide) rfl ?_
            refine V_iload (pc := 138) C dX7_shareOut_138 3 rfl ?_
            refine V_aload_n (pc := 140) C dX7_shareOut_140 rfl 5 rfl ?_
            refine gf_X7_20 (x := q 2) (pc := 141) C dX7_shareOut_141 0 rfl rfl ?_
            refine V_iload (pc := 144) C dX7_shareOut_144 2 rfl ?_
            refine V_iald (f := uI (uI E 1 0) 1 u) (pc := 146) C dX7_shareOut_146 9 rfl (by omega) (by omega) (Nat.le_of_ble_eq_true rfl) ?_
            refine V_eqt (show (uI (uI E 1 0) 1 u) 1 = u from uI_s _ _ _) ?_
            refine V_aload_n (pc := 147) C dX7_shareOut_147 rfl 7 rfl ?_
            refine gf_X7_60 (x := qz 0) (pc := 148) C dX7_shareOut_148 13 rfl rfl ?_
            refine V_iload (pc := 151) C dX7_shareOut_151 2 rfl ?_
            refine V_iald (f := A0) (pc := 153) C dX7_shareOut_153 14 rfl (by omega) (by omega) (Nat.le_of_ble_eq_true rfl) ?_
            have b153 := hA0 1
            refine V_imul (pc := 154) C dX7_shareOut_154 ?_
            refine V_isub (pc := 155) C dX7_shareOut_155 ?_
            refine V_istore (lv' := [(7, .int (iI (high - (u * (A0 1))))), (6, .int (iI (low - (u * (A0 1))))), (5, .int (iI ((rest - (hrI T1 1)) - (u * (T4 c * 64))))), (9, .int (iI 1)), (8, .int (iI (T4 c * 64))), (0, .ref o), (1, .ref t), (2, .ref z), (3, .int (iI c)), (4, .int (iI g))]) (pc := 156) C dX7_shareOut_156 (by decide) rfl ?_
            refine V_iinc (lv' := [(9, .int (iI 2)), (7, .int (iI (high - (u * (A0 1))))), (6, .int (iI (low - (u * (A0 1))))), (5, .int (iI ((rest - (hrI T1 1)) - (u * (T4 c * 64))))), (8, .int (iI (T4 c * 64))), (0, .ref o), (1, .ref t), (2, .ref z), (3, .int (iI c)), (4, .int (iI g))]) (pc := 158) C dX7_shareOut_158 3 rfl (by decide) rfl ?_
            refine V_goto (pc := 161) 30 C dX7_shareOut_161 (by decide) ?_
            exact V_sub [0, 3, 2, 1, 4, 5, 6, 7, 8, 9] rfl (ih30 2 ((rest - (hrI T1 1)) - (u * (T4 c * 64))) (low - (u * (A0 1))) (high - (u * (A0 1))) (uI (uI E 1 0) 1 u) (by omega) (by first | exact sh_no (i := 1) hP (by omega) hsh (show ¬ bitI rest 1 = 1 from c55) | (rw [uI_uu]; exact hy.2)) (by omega))
        · refine V_aload_n (pc := 39) C dX7_shareOut_39 rfl 5 rfl ?_
          refine gf_X7_20 (x := q 2) (pc := 40) C dX7_shareOut_40 0 rfl rfl ?_
          refine V_iload (pc := 43) C dX7_shareOut_43 0 rfl ?_
          refine V_iconst (pc := 45) C dX7_shareOut_45 ?_
          refine V_iast (f := E) (ws' := [(o, .inr (7, fX7 q f)), (q 0, aR (d 3) 7 rw), (ra 0, aI (d 0) 1098 L0), (ra 1, aI (d 0) 1098 L1), (ra 2, aI (d 0) 1098 L2), (ra 3, aI (d 0) 1098 L3), (ra 4, aI (d 0) 1098 L4), (ra 5, aI (d 0) 1098 L5), (ra 6, aI (d 0) 1098 L6), (q 2, aI (d 0) 6 (uI E 2 0)), (t, .inr (6, fX6 qt ft)), (qt 1, aI (d 0) 6 T1), (qt 4, aI (d 0) 4 T4), (z, .inr (5, fX5 qz fz)), (qz 0, aI (d 0) 6 A0)]) (pc := 46) C dX7_shareOut_46 9 rfl (by omega) (by omega) (Nat.le_of_ble_eq_true rfl) rfl ?_
          refine V_iload (pc := 47) C dX7_shareOut_47 1 rfl ?_
          refine V_iload (pc := 49) C dX7_shareOut_49 0 rfl ?_
          refine V_ishr (z := (rest / 4)) (pc := 51) C dX7_shareOut_51 (shr_i (k := 2) (by omega) (by omega) (by decide) (by decide)) ?_
          refine V_iconst (pc := 52) C dX7_shareOut_52 ?_
          refine V_iand (z := ((rest / 4) % 2)) (pc := 53) C dX7_shareOut_53 (and1_i (rest / 4)) ?_
          refine V_iconst (pc := 54) C dX7_shareOut_54 ?_
          refine V_icmp_ne (pc := 55) 158 C dX7_shareOut_55 (by decide) (sm_i (by omega)) (sm_i (by decide)) (fun c55 => ?_) (fun c55 => ?_)
          · refine V_iinc (lv' := [(9, .int (iI 3)), (5, .int (iI rest)), (6, .int (iI low)), (7, .int (iI high)), (8, .int (iI (T4 c * 64))), (0, .ref o), (1, .ref t), (2, .ref z), (3, .int (iI c)), (4, .int (iI g))]) (pc := 158) C dX7_shareOut_158 0 rfl (by decide) rfl ?_
            refine V_goto (pc := 161) 30 C dX7_shareOut_161 (by decide) ?_
            exact V_sub [0, 1, 2, 3, 4, 5, 6, 7, 8, 9] rfl (ih30 3 rest low high (uI E 2 0) (by omega) (by first | exact sh_no (i := 2) hP (by omega) hsh (show ¬ bitI rest 2 = 1 from c55) | (rw [uI_uu]; exact hy.2)) (by omega))
          · refine V_iload (pc := 58) C dX7_shareOut_58 1 rfl ?_
            refine V_aload_n (pc := 60) C dX7_shareOut_60 rfl 6 rfl ?_
            refine V_iload (pc := 61) C dX7_shareOut_61 0 rfl ?_
            refine cs_X7_63 (pc := 63) (rest := [.int (iI rest)]) (wn := fun _ => [(o, .inr (7, fX7 q f)), (q 0, aR (d 3) 7 rw), (ra 0, aI (d 0) 1098 L0), (ra 1, aI (d 0) 1098 L1), (ra 2, aI (d 0) 1098 L2), (ra 3, aI (d 0) 1098 L3), (ra 4, aI (d 0) 1098 L4), (ra 5, aI (d 0) 1098 L5), (ra 6, aI (d 0) 1098 L6), (q 2, aI (d 0) 6 (uI E 2 0)), (t, .inr (6, fX6 qt ft)), (qt 1, aI (d 0) 6 T1), (qt 4, aI (d 0) 4 T4), (z, .inr (5, fX5 qz fz)), (qz 0, aI (d 0) 6 A0)]) (sn := fun _ => [.int (iI (T1 2 * 64 + 2 ^ Int.toNat 2)), .int (iI rest)]) C dX7_shareOut_63 (c_X7_hire l D d t qt ft T1 2 (show 0 ≤ 2 ∧ 2 < 6 by omega)) [10, 11] rfl rfl rfl rfl (Nat.le_of_ble_eq_true rfl) ⟨by omega, by omega⟩ ⟨Nat.zero_le _, Nat.zero_le _⟩ (fun _ => rfl) (fun _ => rfl) (fun _ => rfl) ?_
            intro _ _
            refine V_eqt (show T1 2 * 64 + 2 ^ Int.toNat 2 = hrI T1 2 from hrI_in (by decide)) ?_
            refine V_isub (pc := 66) C dX7_shareOut_66 ?_
            refine V_istore (lv' := [(5, .int (iI (rest - (hrI T1 2)))), (9, .int (iI 2)), (6, .int (iI low)), (7, .int (iI high)), (8, .int (iI (T4 c * 64))), (0, .ref o), (1, .ref t), (2, .ref z), (3, .int (iI c)), (4, .int (iI g))]) (pc := 67) C dX7_shareOut_67 (by decide) rfl ?_
            refine V_aload_n (pc := 69) C dX7_shareOut_69 rfl 5 rfl ?_
            refine gf_X7_20 (x := q 2) (pc := 70) C dX7_shareOut_70 0 rfl rfl ?_
            refine V_iload (pc := 73) C dX7_shareOut_73 1 rfl ?_
            refine V_aload_n (pc := 75) C dX7_shareOut_75 rfl 5 rfl ?_
            refine gf_X7_13 (x := q 0) (pc := 76) C dX7_shareOut_76 0 rfl rfl ?_
            refine V_iload (pc := 79) C dX7_shareOut_79 1 rfl ?_
            refine V_iconst (pc := 81) C dX7_shareOut_81 ?_
            refine V_iadd (pc := 82) C dX7_shareOut_82 ?_
            refine V_eqt (y := 3) (by decide) ?_
            refine V_aald (k := 3) (x := ra 3) (f := rw) (Or.inr rfl) (pc := 83) C dX7_shareOut_83 1 rfl (by decide) (by decide) (hr 3 (by decide)) (Nat.le_of_ble_eq_true rfl) ?_
            refine V_aload_n (pc := 84) C dX7_shareOut_84 rfl 7 rfl ?_
            refine gf_X7_60 (x := qz 0) (pc := 85) C dX7_shareOut_85 13 rfl rfl ?_
            refine V_iload (pc := 88) C dX7_shareOut_88 1 rfl ?_
            refine V_iald (f := A0) (pc := 90) C dX7_shareOut_90 14 rfl (by omega) (by omega) (Nat.le_of_ble_eq_true rfl) ?_
            have b90 := hA0 2
            refine V_iload (pc := 91) C dX7_shareOut_91 0 rfl ?_
            refine V_iload (pc := 93) C dX7_shareOut_93 4 rfl ?_
            refine V_iload (pc := 95) C dX7_shareOut_95 2 rfl ?_
            refine V_iload (pc := 97) C dX7_shareOut_97 3 rfl ?_
            refine cs_X7_76 (pc := 99) (rest := [.int (iI 2), .ref (q 2)]) (wn := fun u => [(o, .inr (7, fX7 q f)), (q 0, aR (d 3) 7 rw), (ra 0, aI (d 0) 1098 L0), (ra 1, aI (d 0) 1098 L1), (ra 2, aI (d 0) 1098 L2), (ra 3, aI (d 0) 1098 L3), (ra 4, aI (d 0) 1098 L4), (ra 5, aI (d 0) 1098 L5), (ra 6, aI (d 0) 1098 L6), (q 2, aI (d 0) 6 (uI E 2 0)), (t, .inr (6, fX6 qt ft)), (qt 1, aI (d 0) 6 T1), (qt 4, aI (d 0) 4 T4), (z, .inr (5, fX5 qz fz)), (qz 0, aI (d 0) 6 A0)]) (sn := fun u => [.int (iI u), .int (iI 2), .ref (q 2)]) C dX7_shareOut_99 (c_X7_fewestOf l D d (ra 3) L3 (A0 2) (rest - (hrI T1 2)) (T4 c * 64) low high (by have q1 := hU 2 (by omega); have q2 := hA0 2; omega) (by have q1 := sh_w hP (by omega) (fun j => (hrI_b hT1 j).1) (by omega) hsh (show bitI rest 2 = 1 from c55); have q2 := (hrI_b hT1 2).1; omega) (by omega) (by omega) (by omega) (fun s hs => by have q1 := r3 (by omega) s (by omega); exact ⟨mnT_ge0 (fun j => (hrI_b hT1 j).1) (by omega) q1, q1.1⟩)) [5] rfl rfl rfl rfl (Nat.le_of_ble_eq_true rfl) ⟨by omega, by omega⟩ ⟨Nat.zero_le _, Nat.zero_le _⟩ (fun u => rfl) (fun u => rfl) (fun u => rfl) ?_
            rintro u hf
            have hy := sh_yes (R := L3) (i := 2) (r := u) hP (by omega) (fun j => (hA0 j).1) (fun j => (hrI_b hT1 j).1) hc1 (hU 2 (by omega)) h3.2 h4.2 hl hsh (show bitI rest 2 = 1 from c55) (r3 (by omega)) hf
            refine V_iast (f := uI E 2 0) (ws' := [(o, .inr (7, fX7 q f)), (q 0, aR (d 3) 7 rw), (ra 0, aI (d 0) 1098 L0), (ra 1, aI (d 0) 1098 L1), (ra 2, aI (d 0) 1098 L2), (ra 3, aI (d 0) 1098 L3), (ra 4, aI (d 0) 1098 L4), (ra 5, aI (d 0) 1098 L5), (ra 6, aI (d 0) 1098 L6), (q 2, aI (d 0) 6 (uI (uI E 2 0) 2 u)), (t, .inr (6, fX6 qt ft)), (qt 1, aI (d 0) 6 T1), (qt 4, aI (d 0) 4 T4), (z, .inr (5, fX5 qz fz)), (qz 0, aI (d 0) 6 A0)]) (pc := 102) C dX7_shareOut_102 9 rfl (by omega) (by omega) (Nat.le_of_ble_eq_true rfl) rfl ?_
            refine V_iload (pc := 103) C dX7_shareOut_103 0 rfl ?_
            refine V_aload_n (pc := 105) C dX7_shareOut_105 rfl 5 rfl ?_
            refine gf_X7_20 (x := q 2) (pc := 106) C dX7_shareOut_106 0 rfl rfl ?_
            refine V_iload (pc := 109) C dX7_shareOut_109 1 rfl ?_
            refine V_iald (f := uI (uI E 2 0) 2 u) (pc := 111) C dX7_shareOut_111 9 rfl (by omega) (by omega) (Nat.le_of_ble_eq_true rfl) ?_
            refine V_eqt (show (uI (uI E 2 0) 2 u) 2 = u from uI_s _ _ _) ?_
            refine V_iload (pc := 112) C dX7_shareOut_112 4 rfl ?_
            refine V_imul (pc := 114) C dX7_shareOut_114 ?_
            refine V_isub (pc := 115) C dX7_shareOut_115 ?_
            refine V_istore (lv' := [(5, .int (iI ((rest - (hrI T1 2)) - (u * (T4 c * 64))))), (9, .int (iI 2)), (6, .int (iI low)), (7, .int (iI high)), (8, .int (iI (T4 c * 64))), (0, .ref o), (1, .ref t), (2, .ref z), (3, .int (iI c)), (4, .int (iI g))]) (pc := 116) C dX7_shareOut_116 (by decide) rfl ?_
            refine V_iload (pc := 118) C dX7_shareOut_118 2 rfl ?_
            refine V_aload_n (pc := 120) C dX7_shareOut_120 rfl 5 rfl ?_
            refine gf_X7_20 (x := q 2) (pc := 121) C dX7_shareOut_121 0 rfl rfl ?_
            refine V_iload (pc := 124) C dX7_shareOut_124 1 rfl ?_
            refine V_iald (f := uI (uI E 2 0) 2 u) (pc := 126) C dX7_shareOut_126 9 rfl (by omega) (by omega) (Nat.le_of_ble_eq_true rfl) ?_
            refine V_eqt (show (uI (uI E 2 0) 2 u) 2 = u from uI_s _ _ _) ?_
            refine V_aload_n (pc := 127) C dX7_shareOut_127 rfl 7 rfl ?_
            refine gf_X7_60 (x := qz 0) (pc := 128) C dX7_shareOut_128 13 rfl rfl ?_
            refine V_iload (pc := 131) C dX7_shareOut_131 1 rfl ?_
            refine V_iald (f := A0) (pc := 133) C dX7_shareOut_133 14 rfl (by omega) (by omega) (Nat.le_of_ble_eq_true rfl) ?_
            have b133 := hA0 2
            refine V_imul (pc := 134) C dX7_shareOut_134 ?_
            refine V_isub (pc := 135) C dX7_shareOut_135 ?_
            refine V_istore (lv' := [(6, .int (iI (low - (u * (A0 2))))), (5, .int (iI ((rest - (hrI T1 2)) - (u * (T4 c * 64))))), (9, .int (iI 2)), (7, .int (iI high)), (8, .int (iI (T4 c * 64))), (0, .ref o), (1, .ref t), (2, .ref z), (3, .int (iI c)), (4, .int (iI g))]) (pc := 136) C dX7_shareOut_136 (by decide) rfl ?_
            refine V_iload (pc := 138) C dX7_shareOut_138 3 rfl ?_
            refine V_aload_n (pc := 140) C dX7_shareOut_140 rfl 5 rfl ?_
            refine gf_X7_20 (x := q 2) (pc := 141) C dX7_shareOut_141 0 rfl rfl ?_
            refine V_iload (pc := 144) C dX7_shareOut_144 2 rfl ?_
            refine V_iald (f := uI (uI E 2 0) 2 u) (pc := 146) C dX7_shareOut_146 9 rfl (by omega) (by omega) (Nat.le_of_ble_eq_true rfl) ?_
            refine V_eqt (show (uI (uI E 2 0) 2 u) 2 = u from uI_s _ _ _) ?_
            refine V_aload_n (pc := 147) C dX7_shareOut_147 rfl 7 rfl ?_
            refine gf_X7_60 (x := qz 0) (pc := 148) C dX7_shareOut_148 13 rfl rfl ?_
            refine V_iload (pc := 151) C dX7_shareOut_151 2 rfl ?_
            refine V_iald (f := A0) (pc := 153) C dX7_shareOut_153 14 rfl (by omega) (by omega) (Nat.le_of_ble_eq_true rfl) ?_
            have b153 := hA0 2
            refine V_imul (pc := 154) C dX7_shareOut_154 ?_
            refine V_isub (pc := 155) C dX7_shareOut_155 ?_
            refine V_istore (lv' := [(7, .int (iI (high - (u * (A0 2))))), (6, .int (iI (low - (u * (A0 2))))), (5, .int (iI ((rest - (hrI T1 2)) - (u * (T4 c * 64))))), (9, .int (iI 2)), (8, .int (iI (T4 c * 64))), (0, .ref o), (1, .ref t), (2, .ref z), (3, .int (iI c)), (4, .int (iI g))]) (pc := 156) C dX7_shareOut_156 (by decide) rfl ?_
            refine V_iinc (lv' := [(9, .int (iI 3)), (7, .int (iI (high - (u * (A0 2))))), (6, .int (iI (low - (u * (A0 2))))), (5, .int (iI ((rest - (hrI T1 2)) - (u * (T4 c * 64))))), (8, .int (iI (T4 c * 64))), (0, .ref o), (1, .ref t), (2, .ref z), (3, .int (iI c)), (4, .int (iI g))]) (pc := 158) C dX7_shareOut_158 3 rfl (by decide) rfl ?_
            refine V_goto (pc := 161) 30 C dX7_shareOut_161 (by decide) ?_
            exact V_sub [0, 3, 2, 1, 4, 5, 6, 7, 8, 9] rfl (ih30 3 ((rest - (hrI T1 2)) - (u * (T4 c * 64))) (low - (u * (A0 2))) (high - (u * (A0 2))) (uI (uI E 2 0) 2 u) (by omega) (by first | exact sh_no (i := 2) hP (by omega) hsh (show ¬ bitI rest 2 = 1 from c55) | (rw [uI_uu]; exact hy.2)) (by omega))
        · refine V_aload_n (pc := 39) C dX7_shareOut_39 rfl 5 rfl ?_
          refine gf_X7_20 (x := q 2) (pc := 40) C dX7_shareOut_40 0 rfl rfl ?_
          refine V_iload (pc := 43) C dX7_shareOut_43 0 rfl ?_
          refine V_iconst (pc := 45) C dX7_shareOut_45 ?_
          refine V_iast (f := E) (ws' := [(o, .inr (7, fX7 q f)), (q 0, aR (d 3) 7 rw), (ra 0, aI (d 0) 1098 L0), (ra 1, aI (d 0) 1098 L1), (ra 2, aI (d 0) 1098 L2), (ra 3, aI (d 0) 1098 L3), (ra 4, aI (d 0) 1098 L4), (ra 5, aI (d 0) 1098 L5), (ra 6, aI (d 0) 1098 L6), (q 2, aI (d 0) 6 (uI E 3 0)), (t, .inr (6, fX6 qt ft)), (qt 1, aI (d 0) 6 T1), (qt 4, aI (d 0) 4 T4), (z, .inr (5, fX5 qz fz)), (qz 0, aI (d 0) 6 A0)]) (pc := 46) C dX7_shareOut_46 9 rfl (by omega) (by omega) (Nat.le_of_ble_eq_true rfl) rfl ?_
          refine V_iload (pc := 47) C dX7_shareOut_47 1 rfl ?_
          refine V_iload (pc := 49) C dX7_shareOut_49 0 rfl ?_
          refine V_ishr (z := (rest / 8)) (pc := 51) C dX7_shareOut_51 (shr_i (k := 3) (by omega) (by omega) (by decide) (by decide)) ?_
          refine V_iconst (pc := 52) C dX7_shareOut_52 ?_
          refine V_iand (z := ((rest / 8) % 2)) (pc := 53) C dX7_shareOut_53 (and1_i (rest / 8)) ?_
          refine V_iconst (pc := 54) C dX7_shareOut_54 ?_
          refine V_icmp_ne (pc := 55) 158 C dX7_shareOut_55 (by decide) (sm_i (by omega)) (sm_i (by decide)) (fun c55 => ?_) (fun c55 => ?_)
          · refine V_iinc (lv' := [(9, .int (iI 4)), (5, .int (iI rest)), (6, .int (iI low)), (7, .int (iI high)), (8, .int (iI (T4 c * 64))), (0, .ref o), (1, .ref t), (2, .ref z), (3, .int (iI c)), (4, .int (iI g))]) (pc := 158) C dX7_shareOut_158 0 rfl (by decide) rfl ?_
            refine V_goto (pc := 161) 30 C dX7_shareOut_161 (by decide) ?_
            exact V_sub [0, 1, 2, 3, 4, 5, 6, 7, 8, 9] rfl (ih30 4 rest low high (uI E 3 0) (by omega) (by first | exact sh_no (i := 3) hP (by omega) hsh (show ¬ bitI rest 3 = 1 from c55) | (rw [uI_uu]; exact hy.2)) (by omega))
          · refine V_iload (pc := 58) C dX7_shareOut_58 1 rfl ?_
            refine V_aload_n (pc := 60) C dX7_shareOut_60 rfl 6 rfl ?_
            refine V_iload (pc := 61) C dX7_shareOut_61 0 rfl ?_
            refine cs_X7_63 (pc := 63) (rest := [.int (iI rest)]) (wn := fun _ => [(o, .inr (7, fX7 q f)), (q 0, aR (d 3) 7 rw), (ra 0, aI (d 0) 1098 L0), (ra 1, aI (d 0) 1098 L1), (ra 2, aI (d 0) 1098 L2), (ra 3, aI (d 0) 1098 L3), (ra 4, aI (d 0) 1098 L4), (ra 5, aI (d 0) 1098 L5), (ra 6, aI (d 0) 1098 L6), (q 2, aI (d 0) 6 (uI E 3 0)), (t, .inr (6, fX6 qt ft)), (qt 1, aI (d 0) 6 T1), (qt 4, aI (d 0) 4 T4), (z, .inr (5, fX5 qz fz)), (qz 0, aI (d 0) 6 A0)]) (sn := fun _ => [.int (iI (T1 3 * 64 + 2 ^ Int.toNat 3)), .int (iI rest)]) C dX7_shareOut_63 (c_X7_hire l D d t qt ft T1 3 (show 0 ≤ 3 ∧ 3 < 6 by omega)) [10, 11] rfl rfl rfl rfl (Nat.le_of_ble_eq_true rfl) ⟨by omega, by omega⟩ ⟨Nat.zero_le _, Nat.zero_le _⟩ (fun _ => rfl) (fun _ => rfl) (fun _ => rfl) ?_
            intro _ _
            refine V_eqt (show T1 3 * 64 + 2 ^ Int.toNat 3 = hrI T1 3 from hrI_in (by decide)) ?_
            refine V_isub (pc := 66) C dX7_shareOut_66 ?_
            refine V_istore (lv' := [(5, .int (iI (rest - (hrI T1 3)))), (9, .int (iI 3)), (6, .int (iI low)), (7, .int (iI high)), (8, .int (iI (T4 c * 64))), (0, .ref o), (1, .ref t), (2, .ref z), (3, .int (iI c)), (4, .int (iI g))]) (pc := 67) C dX7_shareOut_67 (by decide) rfl ?_
            refine V_aload_n (pc := 69) C dX7_shareOut_69 rfl 5 rfl ?_
            refine gf_X7_20 (x := q 2) (pc := 70) C dX7_shareOut_70 0 rfl rfl ?_
            refine V_iload (pc := 73) C dX7_shareOut_73 1 rfl ?_
            refine V_aload_n (pc := 75) C dX7_shareOut_75 rfl 5 rfl ?_
            refine gf_X7_13 (x := q 0) (pc := 76) C dX7_shareOut_76 0 rfl rfl ?_
            refine V_iload (pc := 79) C dX7_shareOut_79 1 rfl ?_
            refine V_iconst (pc := 81) C dX7_shareOut_81 ?_
            refine V_iadd (pc := 82) C dX7_shareOut_82 ?_
            refine V_eqt (y := 4) (by decide) ?_
            refine V_aald (k := 3) (x := ra 4) (f := rw) (Or.inr rfl) (pc := 83) C dX7_shareOut_83 1 rfl (by decide) (by decide) (hr 4 (by decide)) (Nat.le_of_ble_eq_true rfl) ?_
            refine V_aload_n (pc := 84) C dX7_shareOut_84 rfl 7 rfl ?_
            refine gf_X7_60 (x := qz 0) (pc := 85) C dX7_shareOut_85 13 rfl rfl ?_
            refine V_iload (pc := 88) C dX7_shareOut_88 1 rfl ?_
            refine V_iald (f := A0) (pc := 90) C dX7_shareOut_90 14 rfl (by omega) (by omega) (Nat.le_of_ble_eq_true rfl) ?_
            have b90 := hA0 3
            refine V_iload (pc := 91) C dX7_shareOut_91 0 rfl ?_
            refine V_iload (pc := 93) C dX7_shareOut_93 4 rfl ?_
            refine V_iload (pc := 95) C dX7_shareOut_95 2 rfl ?_
            refine V_iload (pc := 97) C dX7_shareOut_97 3 rfl ?_
            refine cs_X7_76 (pc := 99) (rest := [.int (iI 3), .ref (q 2)]) (wn := fun u => [(o, .inr (7, fX7 q f)), (q 0, aR (d 3) 7 rw), (ra 0, aI (d 0) 1098 L0), (ra 1, aI (d 0) 1098 L1), (ra 2, aI (d 0) 1098 L2), (ra 3, aI (d 0) 1098 L3), (ra 4, aI (d 0) 1098 L4), (ra 5, aI (d 0) 1098 L5), (ra 6, aI (d 0) 1098 L6), (q 2, aI (d 0) 6 (uI E 3 0)), (t, .inr (6, fX6 qt ft)), (qt 1, aI (d 0) 6 T1), (qt 4, aI (d 0) 4 T4), (z, .inr (5, fX5 qz fz)), (qz 0, aI (d 0) 6 A0)]) (sn := fun u => [.int (iI u), .int (iI 3), .ref (q 2)]) C dX7_shareOut_99 (c_X7_fewestOf l D d (ra 4) L4 (A0 3) (rest - (hrI T1 3)) (T4 c * 64) low high (by have q1 := hU 3 (by omega); have q2 := hA0 3; omega) (by have q1 := sh_w hP (by omega) (fun j => (hrI_b hT1 j).1) (by omega) hsh (show bitI rest 3 = 1 from c55); have q2 := (hrI_b hT1 3).1; omega) (by omega) (by omega) (by omega) (fun s hs => by have q1 := r4 (by omega) s (by omega); exact ⟨mnT_ge0 (fun j => (hrI_b hT1 j).1) (by omega) q1, q1.1⟩)) [6] rfl rfl rfl rfl (Nat.le_of_ble_eq_true rfl) ⟨by omega, by omega⟩ ⟨Nat.zero_le _, Nat.zero_le _⟩ (fun u => rfl) (fun u => rfl) (fun u => rfl) ?_
            rintro u hf
            have hy := sh_yes (R := L4) (i := 3) (r := u) hP (by omega) (fun j => (hA0 j).1) (fun j => (hrI_b hT1 j).1) hc1 (hU 3 (by omega)) h3.2 h4.2 hl hsh (show bitI rest 3 = 1 from c55) (r4 (by omega)) hf
            refine V_iast (f := uI E 3 0) (ws' := [(o, .inr (7, fX7 q f)), (q 0, aR (d 3) 7 rw), (ra 0, aI (d 0) 1098 L0), (ra 1, aI (d 0) 1098 L1), (ra 2, aI (d 0) 1098 L2), (ra 3, aI (d 0) 1098 L3), (ra 4, aI (d 0) 1098 L4), (ra 5, aI (d 0) 1098 L5), (ra 6, aI (d 0) 1098 L6), (q 2, aI (d 0) 6 (uI (uI E 3 0) 3 u)), (t, .inr (6, fX6 qt ft)), (qt 1, aI (d 0) 6 T1), (qt 4, aI (d 0) 4 T4), (z, .inr (5, fX5 qz fz)), (qz 0, aI (d 0) 6 A0)]) (pc := 102) C dX7_shareOut_102 9 rfl (by omega) (by omega) (Nat.le_of_ble_eq_true rfl) rfl ?_
            refine V_iload (pc := 103) C dX7_shareOut_103 0 rfl ?_
            refine V_aload_n (pc := 105) C dX7_shareOut_105 rfl 5 rfl ?_
            refine gf_X7_20 (x := q 2) (pc := 106) C dX7_shareOut_106 0 rfl rfl ?_
            refine V_iload (pc := 109) C dX7_shareOut_109 1 rfl ?_
            refine V_iald (f := uI (uI E 3 0) 3 u) (pc := 111) C dX7_shareOut_111 9 rfl (by omega) (by omega) (Nat.le_of_ble_eq_true rfl) ?_
            refine V_eqt (show (uI (uI E 3 0) 3 u) 3 = u from uI_s _ _ _) ?_
            refine V_iload (pc := 112) C dX7_shareOut_112 4 rfl ?_
            refine V_imul (pc := 114) C dX7_shareOut_114 ?_
            refine V_isub (pc := 115) C dX7_shareOut_115 ?_
            refine V_istore (lv' := [(5, .int (iI ((rest - (hrI T1 3)) - (u * (T4 c * 64))))), (9, .int (iI 3)), (6, .int (iI low)), (7, .int (iI high)), (8, .int (iI (T4 c * 64))), (0, .ref o), (1, .ref t), (2, .ref z), (3, .int (iI c)), (4, .int (iI g))]) (pc := 116) C dX7_shareOut_116 (by decide) rfl ?_
            refine V_iload (pc := 118) C dX7_shareOut_118 2 rfl ?_
            refine V_aload_n (pc := 120) C dX7_shareOut_120 rfl 5 rfl ?_
            refine gf_X7_20 (x := q 2) (pc := 121) C dX7_shareOut_121 0 rfl rfl ?_
            refine V_iload (pc := 124) C dX7_shareOut_124 1 rfl ?_
            refine V_iald (f := uI (uI E 3 0) 3 u) (pc := 126) C dX7_shareOut_126 9 rfl (by omega) (by omega) (Nat.le_of_ble_eq_true rfl) ?_
            refine V_eqt (show (uI (uI E 3 0) 3 u) 3 = u from uI_s _ _ _) ?_
            refine V_aload_n (pc := 127) C dX7_shareOut_127 rfl 7 rfl ?_
            refine gf_X7_60 (x := qz 0) (pc := 128) C dX7_shareOut_128 13 rfl rfl ?_
            refine V_iload (pc := 131) C dX7_shareOut_131 1 rfl ?_
            refine V_iald (f := A0) (pc := 133) C dX7_shareOut_133 14 rfl (by omega) (by omega) (Nat.le_of_ble_eq_true rfl) ?_
            have b133 := hA0 3
            refine V_imul (pc := 134) C dX7_shareOut_134 ?_
            refine V_isub (pc := 135) C dX7_shareOut_135 ?_
            refine V_istore (lv' := [(6, .int (iI (low - (u * (A0 3))))), (5, .int (iI ((rest - (hrI T1 3)) - (u * (T4 c * 64))))), (9, .int (iI 3)), (7, .int (iI high)), (8, .int (iI (T4 c * 64))), (0, .ref o), (1, .ref t), (2, .ref z), (3, .int (iI c)), (4, .int (iI g))]) (pc := 136) C dX7_shareOut_136 (by decide) rfl ?_
            refine V_iload (pc := 138) C dX7_shareOut_138 3 rfl ?_
            refine V_aload_n (pc := 140) C dX7_shareOut_140 rfl 5 rfl ?_
            refine gf_X7_20 (x := q 2) (pc := 141) C dX7_shareOut_141 0 rfl rfl ?_
            refine V_iload (pc := 144) C dX7_shareOut_144 2 rfl ?_
            refine V_iald (f := uI (uI E 3 0) 3 u) (pc := 146) C dX7_shareOut_146 9 rfl (by omega) (by omega) (Nat.le_of_ble_eq_true rfl) ?_
            refine V_eqt (show (uI (uI E 3 0) 3 u) 3 = u from uI_s _ _ _) ?_
            refine V_aload_n (pc := 147) C dX7_shareOut_147 rfl 7 rfl ?_
            refine gf_X7_60 (x := qz 0) (pc := 148) C dX7_shareOut_148 13 rfl rfl ?_
            refine V_iload (pc := 151) C dX7_shareOut_151 2 rfl ?_
            refine V_iald (f := A0) (pc := 153) C dX7_shareOut_153 14 rfl (by omega) (by omega) (Nat.le_of_ble_eq_true rfl) ?_
            have b153 := hA0 3
            refine V_imul (pc := 154) C dX7_shareOut_154 ?_
            refine V_isub (pc := 155) C dX7_shareOut_155 ?_
            refine V_istore (lv' := [(7, .int (iI (high - (u * (A0 3))))), (6, .int (iI (low - (u * (A0 3))))), (5, .int (iI ((rest - (hrI T1 3)) - (u * (T4 c * 64))))), (9, .int (iI 3)), (8, .int (iI (T4 c * 64))), (0, .ref o), (1, .ref t), (2, .ref z), (3, .int (iI c)), (4, .int (iI g))]) (pc := 156) C dX7_shareOut_156 (by decide) rfl ?_
            refine V_iinc (lv' := [(9, .int (iI 4)), (7, .int (iI (high - (u * (A0 3))))), (6, .int (iI (low - (u * (A0 3))))), (5, .int (iI ((rest - (hrI T1 3)) - (u * (T4 c * 64))))), (8, .int (iI (T4 c * 64))), (0, .ref o), (1, .ref t), (2, .ref z), (3, .int (iI c)), (4, .int (iI g))]) (pc := 158) C dX7_shareOut_158 3 rfl (by decide) rfl ?_
            refine V_goto (pc := 161) 30 C dX7_shareOut_161 (by decide) ?_
            exact V_sub [0, 3, 2, 1, 4, 5, 6, 7, 8, 9] rfl (ih30 4 ((rest - (hrI T1 3)) - (u * (T4 c * 64))) (low - (u * (A0 3))) (high - (u * (A0 3))) (uI (uI E 3 0) 3 u) (by omega) (by first | exact sh_no (i := 3) hP (by omega) hsh (show ¬ bitI rest 3 = 1 from c55) | (rw [uI_uu]; exact hy.2)) (by omega))
        · refine V_aload_n (pc := 39) C dX7_shareOut_39 rfl 5 rfl ?_
          refine gf_X7_20 (x := q 2) (pc := 40) C dX7_shareOut_40 0 rfl rfl ?_
          refine V_iload (pc := 43) C dX7_shareOut_43 0 rfl ?_
          refine V_iconst (pc := 45) C dX7_shareOut_45 ?_
          refine V_iast (f := E) (ws' := [(o, .inr (7, fX7 q f)), (q 0, aR (d 3) 7 rw), (ra 0, aI (d 0) 1098 L0), (ra 1, aI (d 0) 1098 L1), (ra 2, aI (d 0) 1098 L2), (ra 3, aI (d 0) 1098 L3), (ra 4, aI (d 0) 1098 L4), (ra 5, aI (d 0) 1098 L5), (ra 6, aI (d 0) 1098 L6), (q 2, aI (d 0) 6 (uI E 4 0)), (t, .inr (6, fX6 qt ft)), (qt 1, aI (d 0) 6 T1), (qt 4, aI (d 0) 4 T4), (z, .inr (5, fX5 qz fz)), (qz 0, aI (d 0) 6 A0)]) (pc := 46) C dX7_shareOut_46 9 rfl (by omega) (by omega) (Nat.le_of_ble_eq_true rfl) rfl ?_
          refine V_iload (pc := 47) C dX7_shareOut_47 1 rfl ?_
          refine V_iload (pc := 49) C dX7_shareOut_49 0 rfl ?_
          refine V_ishr (z := (rest / 16)) (pc := 51) C dX7_shareOut_51 (shr_i (k := 4) (by omega) (by omega) (by decide) (by decide)) ?_
          refine V_iconst (pc := 52) C dX7_shareOut_52 ?_
          refine V_iand (z := ((rest / 16) % 2)) (pc := 53) C dX7_shareOut_53 (and1_i (rest / 16)) ?_
          refine V_iconst (pc := 54) C dX7_shareOut_54 ?_
          refine V_icmp_ne (pc := 55) 158 C dX7_shareOut_55 (by decide) (sm_i (by omega)) (sm_i (by decide)) (fun c55 => ?_) (fun c55 => ?_)
          · refine V_iinc (lv' := [(9, .int (iI 5)), (5, .int (iI rest)), (6, .int (iI low)), (7, .int (iI high)), (8, .int (iI (T4 c * 64))), (0, .ref o), (1, .ref t), (2, .ref z), (3, .int (iI c)), (4, .int (iI g))]) (pc := 158) C dX7_shareOut_158 0 rfl (by decide) rfl ?_
            refine V_goto (pc := 161) 30 C dX7_shareOut_161 (by decide) ?_
            exact V_sub [0, 1, 2, 3, 4, 5, 6, 7, 8, 9] rfl (ih30 5 rest low high (uI E 4 0) (by omega) (by first | exact sh_no (i := 4) hP (by omega) hsh (show ¬ bitI rest 4 = 1 from c55) | (rw [uI_uu]; exact hy.2)) (by omega))
          · refine V_iload (pc := 58) C dX7_shareOut_58 1 rfl ?_
            refine V_aload_n (pc := 60) C dX7_shareOut_60 rfl 6 rfl ?_
            refine V_iload (pc := 61) C dX7_shareOut_61 0 rfl ?_
            refine cs_X7_63 (pc := 63) (rest := [.int (iI rest)]) (wn := fun _ => [(o, .inr (7, fX7 q f)), (q 0, aR (d 3) 7 rw), (ra 0, aI (d 0) 1098 L0), (ra 1, aI (d 0) 1098 L1), (ra 2, aI (d 0) 1098 L2), (ra 3, aI (d 0) 1098 L3), (ra 4, aI (d 0) 1098 L4), (ra 5, aI (d 0) 1098 L5), (ra 6, aI (d 0) 1098 L6), (q 2, aI (d 0) 6 (uI E 4 0)), (t, .inr (6, fX6 qt ft)), (qt 1, aI (d 0) 6 T1), (qt 4, aI (d 0) 4 T4), (z, .inr (5, fX5 qz fz)), (qz 0, aI (d 0) 6 A0)]) (sn := fun _ => [.int (iI (T1 4 * 64 + 2 ^ Int.toNat 4)), .int (iI rest)]) C dX7_shareOut_63 (c_X7_hire l D d t qt ft T1 4 (show 0 ≤ 4 ∧ 4 < 6 by omega)) [10, 11] rfl rfl rfl rfl (Nat.le_of_ble_eq_true rfl) ⟨by omega, by omega⟩ ⟨Nat.zero_le _, Nat.zero_le _⟩ (fun _ => rfl) (fun _ => rfl) (fun _ => rfl) ?_
            intro _ _
            refine V_eqt (show T1 4 * 64 + 2 ^ Int.toNat 4 = hrI T1 4 from hrI_in (by decide)) ?_
            refine V_isub (pc := 66) C dX7_shareOut_66 ?_
            refine V_istore (lv' := [(5, .int (iI (rest - (hrI T1 4)))), (9, .int (iI 4)), (6, .int (iI low)), (7, .int (iI high)), (8, .int (iI (T4 c * 64))), (0, .ref o), (1, .ref t), (2, .ref z), (3, .int (iI c)), (4, .int (iI g))]) (pc := 67) C dX7_shareOut_67 (by decide) rfl ?_
            refine V_aload_n (pc := 69) C dX7_shareOut_69 rfl 5 rfl ?_
            refine gf_X7_20 (x := q 2) (pc := 70) C dX7_shareOut_70 0 rfl rfl ?_
            refine V_iload (pc := 73) C dX7_shareOut_73 1 rfl ?_
            refine V_aload_n (pc := 75) C dX7_shareOut_75 rfl 5 rfl ?_
            refine gf_X7_13 (x := q 0) (pc := 76) C dX7_shareOut_76 0 rfl rfl ?_
            refine V_iload (pc := 79) C dX7_shareOut_79 1 rfl ?_
            refine V_iconst (pc := 81) C dX7_shareOut_81 ?_
            refine V_iadd (pc := 82) C dX7_shareOut_82 ?_
            refine V_eqt (y := 5) (by decide) ?_
            refine V_aald (k := 3) (x := ra 5) (f := rw) (Or.inr rfl) (pc := 83) C dX7_shareOut_83 1 rfl (by decide) (by decide) (hr 5 (by decide)) (Nat.le_of_ble_eq_true rfl) ?_
            refine V_aload_n (pc := 84) C dX7_shareOut_84 rfl 7 rfl ?_
            refine gf_X7_60 (x := qz 0) (pc := 85) C dX7_shareOut_85 13 rfl rfl ?_
            refine V_iload (pc := 88) C dX7_shareOut_88 1 rfl ?_
            refine V_iald (f := A0) (pc := 90) C dX7_shareOut_90 14 rfl (by omega) (by omega) (Nat.le_of_ble_eq_true rfl) ?_
            have b90 := hA0 4
            refine V_iload (pc := 91) C dX7_shareOut_91 0 rfl ?_
            refine V_iload (pc := 93) C dX7_shareOut_93 4 rfl ?_
            refine V_iload (pc := 95) C dX7_shareOut_95 2 rfl ?_
            refine V_iload (pc := 97) C dX7_shareOut_97 3 rfl ?_
            refine cs_X7_76 (pc := 99) (rest := [.int (iI 4), .ref (q 2)]) (wn := fun u => [(o, .inr (7, fX7 q f)), (q 0, aR (d 3) 7 rw), (ra 0, aI (d 0) 1098 L0), (ra 1, aI (d 0) 1098 L1), (ra 2, aI (d 0) 1098 L2), (ra 3, aI (d 0) 1098 L3), (ra 4, aI (d 0) 1098 L4), (ra 5, aI (d 0) 1098 L5), (ra 6, aI (d 0) 1098 L6), (q 2, aI (d 0) 6 (uI E 4 0)), (t, .inr (6, fX6 qt ft)), (qt 1, aI (d 0) 6 T1), (qt 4, aI (d 0) 4 T4), (z, .inr (5, fX5 qz fz)), (qz 0, aI (d 0) 6 A0)]) (sn := fun u => [.int (iI u), .int (iI 4), .ref (q 2)]) C dX7_shareOut_99 (c_X7_fewestOf l D d (ra 5) L5 (A0 4) (rest - (hrI T1 4)) (T4 c * 64) low high (by have q1 := hU 4 (by omega); have q2 := hA0 4; omega) (by have q1 := sh_w hP (by omega) (fun j => (hrI_b hT1 j).1) (by omega) hsh (show bitI rest 4 = 1 from c55); have q2 := (hrI_b hT1 4).1; omega) (by omega) (by omega) (by omega) (fun s hs => by have q1 := r5 (by omega) s (by omega); exact ⟨mnT_ge0 (fun j => (hrI_b hT1 j).1) (by omega) q1, q1.1⟩)) [7] rfl rfl rfl rfl (Nat.le_of_ble_eq_true rfl) ⟨by omega, by omega⟩ ⟨Nat.zero_le _, Nat.zero_le _⟩ (fun u => rfl) (fun u => rfl) (fun u => rfl) ?_
            rintro u hf
            have hy := sh_yes (R := L5) (i := 4) (r := u) hP (by omega) (fun j => (hA0 j).1) (fun j => (hrI_b hT1 j).1) hc1 (hU 4 (by omega)) h3.2 h4.2 hl hsh (show bitI rest 4 = 1 from c55) (r5 (by omega)) hf
            refine V_iast (f := uI E 4 0) (ws' := [(o, .inr (7, fX7 q f)), (q 0, aR (d 3) 7 rw), (ra 0, aI (d 0) 1098 L0), (ra 1, aI (d 0) 1098 L1), (ra 2, aI (d 0) 1098 L2), (ra 3, aI (d 0) 1098 L3), (ra 4, aI (d 0) 1098 L4), (ra 5, aI (d 0) 1098 L5), (ra 6, aI (d 0) 1098 L6), (q 2, aI (d 0) 6 (uI (uI E 4 0) 4 u)), (t, .inr (6, fX6 qt ft)), (qt 1, aI (d 0) 6 T1), (qt 4, aI (d 0) 4 T4), (z, .inr (5, fX5 qz fz)), (qz 0, aI (d 0) 6 A0)]) (pc := 102) C dX7_shareOut_102 9 rfl (by omega) (by omega) (Nat.le_of_ble_eq_true rfl) rfl ?_
            refine V_iload (pc := 103) C dX7_shareOut_103 0 rfl ?_
            refine V_aload_n (pc := 105) C dX7_shareOut_105 rfl 5 rfl ?_
            refine gf_X7_20 (x := q 2) (pc := 106) C dX7_shareOut_106 0 rfl rfl ?_
            refine V_iload (pc := 109) C dX7_shareOut_109 1 rfl ?_
            refine V_iald (f := uI (uI E 4 0) 4 u) (pc := 111) C dX7_shareOut_111 9 rfl (by omega) (by omega) (Nat.le_of_ble_eq_true rfl) ?_
            refine V_eqt (show (uI (uI E 4 0) 4 u) 4 = u from uI_s _ _ _) ?_
            refine V_iload (pc := 112) C dX7_shareOut_112 4 rfl ?_
            refine V_imul (pc := 114) C dX7_shareOut_114 ?_
            refine V_isub (pc := 115) C dX7_shareOut_115 ?_
            refine V_istore (lv' := [(5, .int (iI ((rest - (hrI T1 4)) - (u * (T4 c * 64))))), (9, .int (iI 4)), (6, .int (iI low)), (7, .int (iI high)), (8, .int (iI (T4 c * 64))), (0, .ref o), (1, .ref t), (2, .ref z), (3, .int (iI c)), (4, .int (iI g))]) (pc := 116) C dX7_shareOut_116 (by decide) rfl ?_
            refine V_iload (pc := 118) C dX7_shareOut_118 2 rfl ?_
            refine V_aload_n (pc := 120) C dX7_shareOut_120 rfl 5 rfl ?_
            refine gf_X7_20 (x := q 2) (pc := 121) C dX7_shareOut_121 0 rfl rfl ?_
            refine V_iload (pc := 124) C dX7_shareOut_124 1 rfl ?_
            refine V_iald (f := uI (uI E 4 0) 4 u) (pc := 126) C dX7_shareOut_126 9 rfl (by omega) (by omega) (Nat.le_of_ble_eq_true rfl) ?_
            refine V_eqt (show (uI (uI E 4 0) 4 u) 4 = u from uI_s _ _ _) ?_
            refine V_aload_n (pc := 127) C dX7_shareOut_127 rfl 7 rfl ?_
            refine gf_X7_60 (x := qz 0) (pc := 128) C dX7_shareOut_128 13 rfl rfl ?_
            refine V_iload (pc := 131) C dX7_shareOut_131 1 rfl ?_
            refine V_iald (f := A0) (pc := 133) C dX7_shareOut_133 14 rfl (by omega) (by omega) (Nat.le_of_ble_eq_true rfl) ?_
            have b133 := hA0 4
            refine V_imul (pc := 134) C dX7_shareOut_134 ?_
            refine V_isub (pc := 135) C dX7_shareOut_135 ?_
            refine V_istore (lv' := [(6, .int (iI (low - (u * (A0 4))))), (5, .int (iI ((rest - (hrI T1 4)) - (u * (T4 c * 64))))), (9, .int (iI 4)), (7, .int (iI high)), (8, .int (iI (T4 c * 64))), (0, .ref o), (1, .ref t), (2, .ref z), (3, .int (iI c)), (4, .int (iI g))]) (pc := 136) C dX7_shareOut_136 (by decide) rfl ?_
            refine V_iload (pc := 138) C dX7_shareOut_138 3 rfl ?_
            refine V_aload_n (pc := 140) C dX7_shareOut_140 rfl 5 rfl ?_
            refine gf_X7_20 (x := q 2) (pc := 141) C dX7_shareOut_141 0 rfl rfl ?_
            refine V_iload (pc := 144) C dX7_shareOut_144 2 rfl ?_
            refine V_iald (f := uI (uI E 4 0) 4 u) (pc := 146) C dX7_shareOut_146 9 rfl (by omega) (by omega) (Nat.le_of_ble_eq_true rfl) ?_
            refine V_eqt (show (uI (uI E 4 0) 4 u) 4 = u from uI_s _ _ _) ?_
            refine V_aload_n (pc := 147) C dX7_shareOut_147 rfl 7 rfl ?_
            refine gf_X7_60 (x := qz 0) (pc := 148) C dX7_shareOut_148 13 rfl rfl ?_
            refine V_iload (pc := 151) C dX7_shareOut_151 2 rfl ?_
            refine V_iald (f := A0) (pc := 153) C dX7_shareOut_153 14 rfl (by omega) (by omega) (Nat.le_of_ble_eq_true rfl) ?_
            have b153 := hA0 4
            refine V_imul (pc := 154) C dX7_shareOut_154 ?_
            refine V_isub (pc := 155) C dX7_shareOut_155 ?_
            refine V_istore (lv' := [(7, .int (iI (high - (u * (A0 4))))), (6, .int (iI (low - (u * (A0 4))))), (5, .int (iI ((rest - (hrI T1 4)) - (u * (T4 c * 64))))), (9, .int (iI 4)), (8, .int (iI (T4 c * 64))), (0, .ref o), (1, .ref t), (2, .ref z), (3, .int (iI c)), (4, .int (iI g))]) (pc := 156) C dX7_shareOut_156 (by decide) rfl ?_
            refine V_iinc (lv' := [(9, .int (iI 5)), (7, .int (iI (high - (u * (A0 4))))), (6, .int (iI (low - (u * (A0 4))))), (5, .int (iI ((rest - (hrI T1 4)) - (u * (T4 c * 64))))), (8, .int (iI (T4 c * 64))), (0, .ref o), (1, .ref t), (2, .ref z), (3, .int (iI c)), (4, .int (iI g))]) (pc := 158) C dX7_shareOut_158 3 rfl (by decide) rfl ?_
            refine V_goto (pc := 161) 30 C dX7_shareOut_161 (by decide) ?_
            exact V_sub [0, 3, 2, 1, 4, 5, 6, 7, 8, 9] rfl (ih30 5 ((rest - (hrI T1 4)) - (u * (T4 c * 64))) (low - (u * (A0 4))) (high - (u * (A0 4))) (uI (uI E 4 0) 4 u) (by omega) (by first | exact sh_no (i := 4) hP (by omega) hsh (show ¬ bitI rest 4 = 1 from c55) | (rw [uI_uu]; exact hy.2)) (by omega))
        · refine V_aload_n (pc := 39) C dX7_shareOut_39 rfl 5 rfl ?_
          refine gf_X7_20 (x := q 2) (pc := 40) C dX7_shareOut_40 0 rfl rfl ?_
          refine V_iload (pc := 43) C dX7_shareOut_43 0 rfl ?_
          refine V_iconst (pc := 45) C dX7_shareOut_45 ?_
          refine V_iast (f := E) (ws' := [(o, .inr (7, fX7 q f)), (q 0, aR (d 3) 7 rw), (ra 0, aI (d 0) 1098 L0), (ra 1, aI (d 0) 1098 L1), (ra 2, aI (d 0) 1098 L2), (ra 3, aI (d 0) 1098 L3), (ra 4, aI (d 0) 1098 L4), (ra 5, aI (d 0) 1098 L5), (ra 6, aI (d 0) 1098 L6), (q 2, aI (d 0) 6 (uI E 5 0)), (t, .inr (6, fX6 qt ft)), (qt 1, aI (d 0) 6 T1), (qt 4, aI (d 0) 4 T4), (z, .inr (5, fX5 qz fz)), (qz 0, aI (d 0) 6 A0)]) (pc := 46) C dX7_shareOut_46 9 rfl (by omega) (by omega) (Nat.le_of_ble_eq_true rfl) rfl ?_
          refine V_iload (pc := 47) C dX7_shareOut_47 1 rfl ?_
          refine V_iload (pc := 49) C dX7_shareOut_49 0 rfl ?_
          refine V_ishr (z := (rest / 32)) (pc := 51) C dX7_shareOut_51 (shr_i (k := 5) (by omega) (by omega) (by decide) (by decide)) ?_
          refine V_iconst (pc := 52) C dX7_shareOut_52 ?_
          refine V_iand (z := ((rest / 32) % 2)) (pc := 53) C dX7_shareOut_53 (and1_i (rest / 32)) ?_
          refine V_iconst (pc := 54) C dX7_shareOut_54 ?_
          refine V_icmp_ne (pc := 55) 158 C dX7_shareOut_55 (by decide) (sm_i (by omega)) (sm_i (by decide)) (fun c55 => ?_) (fun c55 => ?_)
          · refine V_iinc (lv' := [(9, .int (iI 6)), (5, .int (iI rest)), (6, .int (iI low)), (7, .int (iI high)), (8, .int (iI (T4 c * 64))), (0, .ref o), (1, .ref t), (2, .ref z), (3, .int (iI c)), (4, .int (iI g))]) (pc := 158) C dX7_shareOut_158 0 rfl (by decide) rfl ?_
            refine V_goto (pc := 161) 30 C dX7_shareOut_161 (by decide) ?_
            exact V_sub [0, 1, 2, 3, 4, 5, 6, 7, 8, 9] rfl (ih30 6 rest low high (uI E 5 0) (by omega) (by first | exact sh_no (i := 5) hP (by omega) hsh (show ¬ bitI rest 5 = 1 from c55) | (rw [uI_uu]; exact hy.2)) (by omega))
          · refine V_iload (pc := 58) C dX7_shareOut_58 1 rfl ?_
            refine V_aload_n (pc := 60) C dX7_shareOut_60 rfl 6 rfl ?_
            refine V_iload (pc := 61) C dX7_shareOut_61 0 rfl ?_
            refine cs_X7_63 (pc := 63) (rest := [.int (iI rest)]) (wn := fun _ => [(o, .inr (7, fX7 q f)), (q 0, aR (d 3) 7 rw), (ra 0, aI (d 0) 1098 L0), (ra 1, aI (d 0) 1098 L1), (ra 2, aI (d 0) 1098 L2), (ra 3, aI (d 0) 1098 L3), (ra 4, aI (d 0) 1098 L4), (ra 5, aI (d 0) 1098 L5), (ra 6, aI (d 0) 1098 L6), (q 2, aI (d 0) 6 (uI E 5 0)), (t, .inr (6, fX6 qt ft)), (qt 1, aI (d 0) 6 T1), (qt 4, aI (d 0) 4 T4), (z, .inr (5, fX5 qz fz)), (qz 0, aI (d 0) 6 A0)]) (sn := fun _ => [.int (iI (T1 5 * 64 + 2 ^ Int.toNat 5)), .int (iI rest)]) C dX7_shareOut_63 (c_X7_hire l D d t qt ft T1 5 (show 0 ≤ 5 ∧ 5 < 6 by omega)) [10, 11] rfl rfl rfl rfl (Nat.le_of_ble_eq_true rfl) ⟨by omega, by omega⟩ ⟨Nat.zero_le _, Nat.zero_le _⟩ (fun _ => rfl) (fun _ => rfl) (fun _ => rfl) ?_
            intro _ _
            refine V_eqt (show T1 5 * 64 + 2 ^ Int.toNat 5 = hrI T1 5 from hrI_in (by decide)) ?_
            refine V_isub (pc := 66) C dX7_shareOut_66 ?_
            refine V_istore (lv' := [(5, .int (iI (rest - (hrI T1 5)))), (9, .int (iI 5)), (6, .int (iI low)), (7, .int (iI high)), (8, .int (iI (T4 c * 64))), (0, .ref o), (1, .ref t), (2, .ref z), (3, .int (iI c)), (4, .int (iI g))]) (pc := 67) C dX7_shareOut_67 (by decide) rfl ?_
            refine V_aload_n (pc := 69) C dX7_shareOut_69 rfl 5 rfl ?_
            refine gf_X7_20 (x := q 2) (pc := 70) C dX7_shareOut_70 0 rfl rfl ?_
            refine V_iload (pc := 73) C dX7_shareOut_73 1 rfl ?_
            refine V_aload_n (pc := 75) C dX7_shareOut_75 rfl 5 rfl ?_
            refine gf_X7_13 (x := q 0) (pc := 76) C dX7_shareOut_76 0 rfl rfl ?_
            refine V_iload (pc := 79) C dX7_shareOut_79 1 rfl ?_
            refine V_iconst (pc := 81) C dX7_shareOut_81 ?_
            refine V_iadd (pc := 82) C dX7_shareOut_82 ?_
            refine V_eqt (y := 6) (by decide) ?_
            refine V_aald (k := 3) (x := ra 6) (f := rw) (Or.inr rfl) (pc := 83) C dX7_shareOut_83 1 rfl (by decide) (by decide) (hr 6 (by decide)) (Nat.le_of_ble_eq_true rfl) ?_
            refine V_aload_n (pc := 84) C dX7_shareOut_84 rfl 7 rfl ?_
            refine gf_X7_60 (x := qz 0) (pc := 85) C dX7_shareOut_85 13 rfl rfl ?_
            refine V_iload (pc := 88) C dX7_shareOut_88 1 rfl ?_
            refine V_iald (f := A0) (pc := 90) C dX7_shareOut_90 14 rfl (by omega) (by omega) (Nat.le_of_ble_eq_true rfl) ?_
            have b90 := hA0 5
            refine V_iload (pc := 91) C dX7_shareOut_91 0 rfl ?_
            refine V_iload (pc := 93) C dX7_shareOut_93 4 rfl ?_
            refine V_iload (pc := 95) C dX7_shareOut_95 2 rfl ?_
            refine V_iload (pc := 97) C dX7_shareOut_97 3 rfl ?_
            refine cs_X7_76 (pc := 99) (rest := [.int (iI 5), .ref (q 2)]) (wn := fun u => [(o, .inr (7, fX7 q f)), (q 0, aR (d 3) 7 rw), (ra 0, aI (d 0) 1098 L0), (ra 1, aI (d 0) 1098 L1), (ra 2, aI (d 0) 1098 L2), (ra 3, aI (d 0) 1098 L3), (ra 4, aI (d 0) 1098 L4), (ra 5, aI (d 0) 1098 L5), (ra 6, aI (d 0) 1098 L6), (q 2, aI (d 0) 6 (uI E 5 0)), (t, .inr (6, fX6 qt ft)), (qt 1, aI (d 0) 6 T1), (qt 4, aI (d 0) 4 T4), (z, .inr (5, fX5 qz fz)), (qz 0, aI (d 0) 6 A0)]) (sn := fun u => [.int (iI u), .int (iI 5), .ref (q 2)]) C dX7_shareOut_99 (c_X7_fewestOf l D d (ra 6) L6 (A0 5) (rest - (hrI T1 5)) (T4 c * 64) low high (by have q1 := hU 5 (by omega); have q2 := hA0 5; omega) (by have q1 := sh_w hP (by omega) (fun j => (hrI_b hT1 j).1) (by omega) hsh (show bitI rest 5 = 1 from c55); have q2 := (hrI_b hT1 5).1; omega) (by omega) (by omega) (by omega) (fun s hs => by have q1 := r6 (by omega) s (by omega); exact ⟨mnT_ge0 (fun j => (hrI_b hT1 j).1) (by omega) q1, q1.1⟩)) [8] rfl rfl rfl rfl (Nat.le_of_ble_eq_true rfl) ⟨by omega, by omega⟩ ⟨Nat.zero_le _, Nat.zero_le _⟩ (fun u => rfl) (fun u => rfl) (fun u => rfl) ?_
            rintro u hf
            have hy := sh_yes (R := L6) (i := 5) (r := u) hP (by omega) (fun j => (hA0 j).1) (fun j => (hrI_b hT1 j).1) hc1 (hU 5 (by omega)) h3.2 h4.2 hl hsh (show bitI rest 5 = 1 from c55) (r6 (by omega)) hf
            refine V_iast (f := uI E 5 0) (ws' := [(o, .inr (7, fX7 q f)), (q 0, aR (d 3) 7 rw), (ra 0, aI (d 0) 1098 L0), (ra 1, aI (d 0) 1098 L1), (ra 2, aI (d 0) 1098 L2), (ra 3, aI (d 0) 1098 L3), (ra 4, aI (d 0) 1098 L4), (ra 5, aI (d 0) 1098 L5), (ra 6, aI (d 0) 1098 L6), (q 2, aI (d 0) 6 (uI (uI E 5 0) 5 u)), (t, .inr (6, fX6 qt ft)), (qt 1, aI (d 0) 6 T1), (qt 4, aI (d 0) 4 T4), (z, .inr (5, fX5 qz fz)), (qz 0, aI (d 0) 6 A0)]) (pc := 102) C dX7_shareOut_102 9 rfl (by omega) (by omega) (Nat.le_of_ble_eq_true rfl) rfl ?_
            refine V_iload (pc := 103) C dX7_shareOut_103 0 rfl ?_
            refine V_aload_n (pc := 105) C dX7_shareOut_105 rfl 5 rfl ?_
            refine gf_X7_20 (x := q 2) (pc := 106) C dX7_shareOut_106 0 rfl rfl ?_
            refine V_iload (pc := 109) C dX7_shareOut_109 1 rfl ?_
            refine V_iald (f := uI (uI E 5 0) 5 u) (pc := 111) C dX7_shareOut_111 9 rfl (by omega) (by omega) (Nat.le_of_ble_eq_true rfl) ?_
            refine V_eqt (show (uI (uI E 5 0) 5 u) 5 = u from uI_s _ _ _) ?_
            refine V_iload (pc := 112) C dX7_shareOut_112 4 rfl ?_
            refine V_imul (pc := 114) C dX7_shareOut_114 ?_
            refine V_isub (pc := 115) C dX7_shareOut_115 ?_
            refine V_istore (lv' := [(5, .int (iI ((rest - (hrI T1 5)) - (u * (T4 c * 64))))), (9, .int (iI 5)), (6, .int (iI low)), (7, .int (iI high)), (8, .int (iI (T4 c * 64))), (0, .ref o), (1, .ref t), (2, .ref z), (3, .int (iI c)), (4, .int (iI g))]) (pc := 116) C dX7_shareOut_116 (by decide) rfl ?_
            refine V_iload (pc := 118) C dX7_shareOut_118 2 rfl ?_
            refine V_aload_n (pc := 120) C dX7_shareOut_120 rfl 5 rfl ?_
            refine gf_X7_20 (x := q 2) (pc := 121) C dX7_shareOut_121 0 rfl rfl ?_
            refine V_iload (pc := 124) C dX7_shareOut_124 1 rfl ?_
            refine V_iald (f := uI (uI E 5 0) 5 u) (pc := 126) C dX7_shareOut_126 9 rfl (by omega) (by omega) (Nat.le_of_ble_eq_true rfl) ?_
            refine V_eqt (show (uI (uI E 5 0) 5 u) 5 = u from uI_s _ _ _) ?_
            refine V_aload_n (pc := 127) C dX7_shareOut_127 rfl 7 rfl ?_
            refine gf_X7_60 (x := qz 0) (pc := 128) C dX7_shareOut_128 13 rfl rfl ?_
            refine V_iload (pc := 131) C dX7_shareOut_131 1 rfl ?_
            refine V_iald (f := A0) (pc := 133) C dX7_shareOut_133 14 rfl (by omega) (by omega) (Nat.le_of_ble_eq_true rfl) ?_
            have b133 := hA0 5
            refine V_imul (pc := 134) C dX7_shareOut_134 ?_
            refine V_isub (pc := 135) C dX7_shareOut_135 ?_
            refine V_istore (lv' := [(6, .int (iI (low - (u * (A0 5))))), (5, .int (iI ((rest - (hrI T1 5)) - (u * (T4 c * 64))))), (9, .int (iI 5)), (7, .int (iI high)), (8, .int (iI (T4 c * 64))), (0, .ref o), (1, .ref t), (2, .ref z), (3, .int (iI c)), (4, .int (iI g))]) (pc := 136) C dX7_shareOut_136 (by decide) rfl ?_
            refine V_iload (pc := 138) C dX7_shareOut_138 3 rfl ?_
            refine V_aload_n (pc := 140) C dX7_shareOut_140 rfl 5 rfl ?_
            refine gf_X7_20 (x := q 2) (pc := 141) C dX7_shareOut_141 0 rfl rfl ?_
            refine V_iload (pc := 144) C dX7_shareOut_144 2 rfl ?_
            refine V_iald (f := uI (uI E 5 0) 5 u) (pc := 146) C dX7_shareOut_146 9 rfl (by omega) (by omega) (Nat.le_of_ble_eq_true rfl) ?_
            refine V_eqt (show (uI (uI E 5 0) 5 u) 5 = u from uI_s _ _ _) ?_
            refine V_aload_n (pc := 147) C dX7_shareOut_147 rfl 7 rfl ?_
            refine gf_X7_60 (x := qz 0) (pc := 148) C dX7_shareOut_148 13 rfl rfl ?_
            refine V_iload (pc := 151) C dX7_shareOut_151 2 rfl ?_
            refine V_iald (f := A0) (pc := 153) C dX7_shareOut_153 14 rfl (by omega) (by omega) (Nat.le_of_ble_eq_true rfl) ?_
            have b153 := hA0 5
            refine V_imul (pc := 154) C dX7_shareOut_154 ?_
            refine V_isub (pc := 155) C dX7_shareOut_155 ?_
            refine V_istore (lv' := [(7, .int (iI (high - (u * (A0 5))))), (6, .int (iI (low - (u * (A0 5))))), (5, .int (iI ((rest - (hrI T1 5)) - (u * (T4 c * 64))))), (9, .int (iI 5)), (8, .int (iI (T4 c * 64))), (0, .ref o), (1, .ref t), (2, .ref z), (3, .int (iI c)), (4, .int (iI g))]) (pc := 156) C dX7_shareOut_156 (by decide) rfl ?_
            refine V_iinc (lv' := [(9, .int (iI 6)), (7, .int (iI (high - (u * (A0 5))))), (6, .int (iI (low - (u * (A0 5))))), (5, .int (iI ((rest - (hrI T1 5)) - (u * (T4 c * 64))))), (8, .int (iI (T4 c * 64))), (0, .ref o), (1, .ref t), (2, .ref z), (3, .int (iI c)), (4, .int (iI g))]) (pc := 158) C dX7_shareOut_158 3 rfl (by decide) rfl ?_
            refine V_goto (pc := 161) 30 C dX7_shareOut_161 (by decide) ?_
            exact V_sub [0, 3, 2, 1, 4, 5, 6, 7, 8, 9] rfl (ih30 6 ((rest - (hrI T1 5)) - (u * (T4 c * 64))) (low - (u * (A0 5))) (high - (u * (A0 5))) (uI (uI E 5 0) 5 u) (by omega) (by first | exact sh_no (i := 5) hP (by omega) hsh (show ¬ bitI rest 5 = 1 from c55) | (rw [uI_uu]; exact hy.2)) (by omega))
  exact V_sub [0, 4, 3, 2, 1, 5, 6, 7, 8, 9] rfl (L30 ((ft 6 - 0).toNat + 1) 0 (f 4) g (f 3) E (by omega) (sh_0 ho) (Nat.lt_succ_self _))
