theorem lost_i {wh el pa : Int → Int} {c cm n : Int} : sZ (fun j => if wh j = c then pa j - el j * cm else 0) n = sZ (fun j => if wh j = c then pa j else 0) n - sZ (fun j => if wh j = c then el j else 0) n * cm := by
  rw [← sZ_mul, ← sZ_sub]
  refine sZ_c (fun j _ _ => ?_)
  try dsimp only
  split <;> omega
set_option maxRecDepth 100000 in
set_option maxHeartbeats 4000000 in
theorem c_X8_spentBy (l : Launch) (D : va_G) (d : Nat → ClassId) (o : Nat) (q : Nat → Nat) (f : Nat → Int) (qt : Nat → Nat) (ft : Nat → Int) (qa : Nat → Nat) (fa : Nat → Int) (T4 : Int → Int) (A2 : Int → Int) (A3 : Int → Int) (A4 : Int → Int) (p : Int) (hn : 0 ≤ fa 6 ∧ fa 6 ≤ 12) (hT4 : bd T4 0 99) (hA2 : bd A2 0 5) (hA3 : bd A3 0 3) (hA4 : bd A4 0 99) (hp : -2147483648 ≤ p ∧ p ≤ 2147483647) : CU l yX8_spentBy cX8_spentBy 4 (some .int) 0 0 D d [.ref o, .int (iI p)] [(o, .inr (8, fX8 q f)), (q 2, .inr (6, fX6 qt ft)), (qt 4, aI (d 0) 4 T4), (q 4, .inr (5, fX5 qa fa)), (qa 2, aI (d 0) 12 A2), (qa 3, aI (d 0) 12 A3), (qa 4, aI (d 0) 12 A4)] (fun (_ : Unit) => True) (fun (_ : Unit) => some (.int (iI (sZ (fun j => if A2 j = p then A4 j * T4 (A3 j) else 0) (fa 6))))) (fun (_ : Unit) => [(o, .inr (8, fX8 q f)), (q 2, .inr (6, fX6 qt ft)), (qt 4, aI (d 0) 4 T4), (q 4, .inr (5, fX5 qa fa)), (qa 2, aI (d 0) 12 A2), (qa 3, aI (d 0) 12 A3), (qa 4, aI (d 0) 12 A4)]) := by
  refine CU.mk (own := RX8) (lv := [(0, .ref o), (1, .int (iI p))]) rfl (by decide) (Nat.le_of_ble_eq_true rfl) rfl ?_
  intro p9 e9 R9 s9 m9 args9 below9 meth9 c9 A9 Q9 hRf hRl C Z
  refine V_iconst (pc := 0) C dX8_spentBy_0 ?_
  refine V_istore_n (lv' := [(2, .int (iI 0)), (0, .ref o), (1, .int (iI p))]) (pc := 1) C dX8_spentBy_1 rfl (by decide) rfl ?_
  refine V_iconst (pc := 2) C dX8_spentBy_2 ?_
  refine V_istore_n (lv' := [(3, .int (iI 0)), (2, .int (iI 0)), (0, .ref o), (1, .int (iI p))]) (pc := 3) C dX8_spentBy_3 rfl (by decide) rfl ?_
  have L4 : ∀ (nn9 : Nat) (i : Int) (t : Int), (0 ≤ i ∧ i ≤ fa 6) → (t = sZ (fun j => if A2 j = p then A4 j * T4 (A3 j) else 0) i) → (fa 6 - i).toNat < nn9 → V p9 l e9 R9 s9 m9 args9 below9 meth9 c9 A9 D Q9 4 0 0 [(o, .inr (8, fX8 q f)), (q 2, .inr (6, fX6 qt ft)), (qt 4, aI (d 0) 4 T4), (q 4, .inr (5, fX5 qa fa)), (qa 2, aI (d 0) 12 A2), (qa 3, aI (d 0) 12 A3), (qa 4, aI (d 0) 12 A4)] [(3, .int (iI i)), (2, .int (iI t)), (0, .ref o), (1, .int (iI p))] 4 [] := by
    intro nn9
    induction nn9 with
    | zero => intro _ _ _ _ hm4; exact absurd hm4 (Nat.not_lt_zero _)
    | succ nn9 ih4 =>
      intro i t hi ht hm4
      refine V_iload_n (pc := 4) C dX8_spentBy_4 rfl 0 rfl ?_
      refine V_aload_n (pc := 5) C dX8_spentBy_5 rfl 2 rfl ?_
      refine gf_X8_36 (x := q 4) (pc := 6) C dX8_spentBy_6 0 rfl rfl ?_
      refine gf_X8_146 (x := fa 6) (pc := 9) C dX8_spentBy_9 3 rfl rfl ?_
      refine V_icmp_ge (pc := 12) 64 C dX8_spentBy_12 (by decide) (sm_i (by omega)) (sm_i (by omega)) (fun c12 => ?_) (fun c12 => ?_)
      · refine V_iload_n (pc := 64) C dX8_spentBy_64 rfl 1 rfl ?_
        exact V_iret (pc := 65) C Z dX8_spentBy_65 () trivial (ri (by rw [ht]; congr 1; omega)) rfl
      · refine V_aload_n (pc := 15) C dX8_spentBy_15 rfl 2 rfl ?_
        refine gf_X8_36 (x := q 4) (pc := 16) C dX8_spentBy_16 0 rfl rfl ?_
        refine gf_X8_156 (x := qa 2) (pc := 19) C dX8_spentBy_19 3 rfl rfl ?_
        refine V_iload_n (pc := 22) C dX8_spentBy_22 rfl 0 rfl ?_
        refine V_iald (f := A2) (pc := 23) C dX8_spentBy_23 4 rfl (by omega) (by omega) (Nat.le_of_ble_eq_true rfl) ?_
        have b23 := hA2 i
        refine V_iload_n (pc := 24) C dX8_spentBy_24 rfl 3 rfl ?_
        refine V_icmp_ne (pc := 25) 58 C dX8_spentBy_25 (by decide) (sm_i (by omega)) (sm_i (by omega)) (fun c25 => ?_) (fun c25 => ?_)
        · refine V_iinc (lv' := [(3, .int (iI (i + 1))), (2, .int (iI t)), (0, .ref o), (1, .int (iI p))]) (pc := 58) C dX8_spentBy_58 0 rfl (by decide) rfl ?_
          refine V_goto (pc := 61) 4 C dX8_spentBy_61 (by decide) ?_
          exact V_sub [0, 1, 2, 3] rfl (ih4 (i + 1) t (by omega) (by rw [ht, sZ_s _ (by omega)]; (repeat' split) <;> omega) (by omega))
        · refine V_iload_n (pc := 28) C dX8_spentBy_28 rfl 1 rfl ?_
          refine V_aload_n (pc := 29) C dX8_spentBy_29 rfl 2 rfl ?_
          refine gf_X8_36 (x := q 4) (pc := 30) C dX8_spentBy_30 0 rfl rfl ?_
          refine gf_X8_162 (x := qa 4) (pc := 33) C dX8_spentBy_33 3 rfl rfl ?_
          refine V_iload_n (pc := 36) C dX8_spentBy_36 rfl 0 rfl ?_
          refine V_iald (f := A4) (pc := 37) C dX8_spentBy_37 6 rfl (by omega) (by omega) (Nat.le_of_ble_eq_true rfl) ?_
          have b37 := hA4 i
          refine V_aload_n (pc := 38) C dX8_spentBy_38 rfl 2 rfl ?_
          refine gf_X8_26 (x := q 2) (pc := 39) C dX8_spentBy_39 0 rfl rfl ?_
          refine gf_X8_126 (x := qt 4) (pc := 42) C dX8_spentBy_42 1 rfl rfl ?_
          refine V_aload_n (pc := 45) C dX8_spentBy_45 rfl 2 rfl ?_
          refine gf_X8_36 (x := q 4) (pc := 46) C dX8_spentBy_46 0 rfl rfl ?_
          refine gf_X8_159 (x := qa 3) (pc := 49) C dX8_spentBy_49 3 rfl rfl ?_
          refine V_iload_n (pc := 52) C dX8_spentBy_52 rfl 0 rfl ?_
          refine V_iald (f := A3) (pc := 53) C dX8_spentBy_53 5 rfl (by omega) (by omega) (Nat.le_of_ble_eq_true rfl) ?_
          have b53 := hA3 i
          refine V_iald (f := T4) (pc := 54) C dX8_spentBy_54 2 rfl (by omega) (by omega) (Nat.le_of_ble_eq_true rfl) ?_
          have b54 := hT4 (A3 i)
          refine V_imul (pc := 55) C dX8_spentBy_55 ?_
          refine V_iadd (pc := 56) C dX8_spentBy_56 ?_
          refine V_istore_n (lv' := [(2, .int (iI (t + ((A4 i) * (T4 (A3 i)))))), (3, .int (iI i)), (0, .ref o), (1, .int (iI p))]) (pc := 57) C dX8_spentBy_57 rfl (by decide) rfl ?_
          refine V_iinc (lv' := [(3, .int (iI (i + 1))), (2, .int (iI (t + ((A4 i) * (T4 (A3 i)))))), (0, .ref o), (1, .int (iI p))]) (pc := 58) C dX8_spentBy_58 1 rfl (by decide) rfl ?_
          refine V_goto (pc := 61) 4 C dX8_spentBy_61 (by decide) ?_
          exact V_sub [0, 1, 2, 3] rfl (ih4 (i + 1) (t + ((A4 i) * (T4 (A3 i)))) (by omega) (by rw [ht, sZ_s _ (by omega)]; (repeat' split) <;> omega) (by omega))
  exact V_sub [0, 1, 2, 3] rfl (L4 ((fa 6 - 0).toNat + 1) 0 0 (by omega) (rfl) (Nat.lt_succ_self _))
set_option maxRecDepth 100000 in
set_option maxHeartbeats 4000000 in
theorem c_X8_gotBy (l : Launch) (D : va_G) (d : Nat → ClassId) (o : Nat) (q : Nat → Nat) (f : Nat → Int) (qa : Nat → Nat) (fa : Nat → Int) (A2 : Int → Int) (A5 : Int → Int) (p : Int) (hn : 0 ≤ fa 6 ∧ fa 6 ≤ 12) (hA2 : bd A2 0 5) (hA5 : bd A5 0 9801) (hp : -2147483648 ≤ p ∧ p ≤ 2147483647) : CU l yX8_gotBy cX8_gotBy 4 (some .int) 0 0 D d [.ref o, .int (iI p)] [(o, .inr (8, fX8 q f)), (q 4, .inr (5, fX5 qa fa)), (qa 2, aI (d 0) 12 A2), (qa 5, aI (d 0) 12 A5)] (fun (_ : Unit) => True) (fun (_ : Unit) => some (.int (iI (sZ (fun j => if A2 j = p then A5 j else 0) (fa 6))))) (fun (_ : Unit) => [(o, .inr (8, fX8 q f)), (q 4, .inr (5, fX5 qa fa)), (qa 2, aI (d 0) 12 A2), (qa 5, aI (d 0) 12 A5)]) := by
  refine CU.mk (own := RX8) (lv := [(0, .ref o), (1, .int (iI p))]) rfl (by decide) (Nat.le_of_ble_eq_true rfl) rfl ?_
  intro p9 e9 R9 s9 m9 args9 below9 meth9 c9 A9 Q9 hRf hRl C Z
  refine V_iconst (pc := 0) C dX8_gotBy_0 ?_
  refine V_istore_n (lv' := [(2, .int (iI 0)), (0, .ref o), (1, .int (iI p))]) (pc := 1) C dX8_gotBy_1 rfl (by decide) rfl ?_
  refine V_iconst (pc := 2) C dX8_gotBy_2 ?_
  refine V_istore_n (lv' := [(3, .int (iI 0)), (2, .int (iI 0)), (0, .ref o), (1, .int (iI p))]) (pc := 3) C dX8_gotBy_3 rfl (by decide) rfl ?_
  have L4 : ∀ (nn9 : Nat) (i : Int) (t : Int), (0 ≤ i ∧ i ≤ fa 6) → (t = sZ (fun j => if A2 j = p then A5 j else 0) i) → (fa 6 - i).toNat < nn9 → V p9 l e9 R9 s9 m9 args9 below9 meth9 c9 A9 D Q9 4 0 0 [(o, .inr (8, fX8 q f)), (q 4, .inr (5, fX5 qa fa)), (qa 2, aI (d 0) 12 A2), (qa 5, aI (d 0) 12 A5)] [(3, .int (iI i)), (2, .int (iI t)), (0, .ref o), (1, .int (iI p))] 4 [] := by
    intro nn9
    induction nn9 with
    | zero => intro _ _ _ _ hm4; exact absurd hm4 (Nat.not_lt_zero _)
    | succ nn9 ih4 =>
      intro i t hi ht hm4
      refine V_iload_n (pc := 4) C dX8_gotBy_4 rfl 0 rfl ?_
      refine V_aload_n (pc := 5) C dX8_gotBy_5 rfl 2 rfl ?_
      refine gf_X8_36 (x := q 4) (pc := 6) C dX8_gotBy_6 0 rfl rfl ?_
      refine gf_X8_146 (x := fa 6) (pc := 9) C dX8_gotBy_9 1 rfl rfl ?_
      refine V_icmp_ge (pc := 12) 46 C dX8_gotBy_12 (by decide) (sm_i (by omega)) (sm_i (by omega)) (fun c12 => ?_) (fun c12 => ?_)
      · refine V_iload_n (pc := 46) C dX8_gotBy_46 rfl 1 rfl ?_
        exact V_iret (pc := 47) C Z dX8_gotBy_47 () trivial (ri (by rw [ht]; congr 1; omega)) rfl
      · refine V_aload_n (pc := 15) C dX8_gotBy_15 rfl 2 rfl ?_
        refine gf_X8_36 (x := q 4) (pc := 16) C dX8_gotBy_16 0 rfl rfl ?_
        refine gf_X8_156 (x := qa 2) (pc := 19) C dX8_gotBy_19 1 rfl rfl ?_
        refine V_iload_n (pc := 22) C dX8_gotBy_22 rfl 0 rfl ?_
        refine V_iald (f := A2) (pc := 23) C dX8_gotBy_23 2 rfl (by omega) (by omega) (Nat.le_of_ble_eq_true rfl) ?_
        have b23 := hA2 i
        refine V_iload_n (pc := 24) C dX8_gotBy_24 rfl 3 rfl ?_
        refine V_icmp_ne (pc := 25) 40 C dX8_gotBy_25 (by decide) (sm_i (by omega)) (sm_i (by omega)) (fun c25 => ?_) (fun c25 => ?_)
        · refine V_iinc (lv' := [(3, .int (iI (i + 1))), (2, .int (iI t)), (0, .ref o), (1, .int (iI p))]) (pc := 40) C dX8_gotBy_40 0 rfl (by decide) rfl ?_
          refine V_goto (pc := 43) 4 C dX8_gotBy_43 (by decide) ?_
          exact V_sub [0, 1, 2, 3] rfl (ih4 (i + 1) t (by omega) (by rw [ht, sZ_s _ (by omega)]; (repeat' split) <;> omega) (by omega))
        · refine V_iload_n (pc := 28) C dX8_gotBy_28 rfl 1 rfl ?_
          refine V_aload_n (pc := 29) C dX8_gotBy_29 rfl 2 rfl ?_
          refine gf_X8_36 (x := q 4) (pc := 30) C dX8_gotBy_30 0 rfl rfl ?_
          refine gf_X8_165 (x := qa 5) (pc := 33) C dX8_gotBy_33 1 rfl rfl ?_
          refine V_iload_n (pc := 36) C dX8_gotBy_36 rfl 0 rfl ?_
          refine V_iald (f := A5) (pc := 37) C dX8_gotBy_37 3 rfl (by omega) (by omega) (Nat.le_of_ble_eq_true rfl) ?_
          have b37 := hA5 i
          refine V_iadd (pc := 38) C dX8_gotBy_38 ?_
          refine V_istore_n (lv' := [(2, .int (iI (t + (A5 i)))), (3, .int (iI i)), (0, .ref o), (1, .int (iI p))]) (pc := 39) C dX8_gotBy_39 rfl (by decide) rfl ?_
          refine V_iinc (lv' := [(3, .int (iI (i + 1))), (2, .int (iI (t + (A5 i)))), (0, .ref o), (1, .int (iI p))]) (pc := 40) C dX8_gotBy_40 1 rfl (by decide) rfl ?_
          refine V_goto (pc := 43) 4 C dX8_gotBy_43 (by decide) ?_
          exact V_sub [0, 1, 2, 3] rfl (ih4 (i + 1) (t + (A5 i)) (by omega) (by rw [ht, sZ_s _ (by omega)]; (repeat' split) <;> omega) (by omega))
  exact V_sub [0, 1, 2, 3] rfl (L4 ((fa 6 - 0).toNat + 1) 0 0 (by omega) (rfl) (Nat.lt_succ_self _))
set_option maxRecDepth 100000 in
set_option maxHeartbeats 4000000 in
theorem c_X8_broughtBy (l : Launch) (D : va_G) (d : Nat → ClassId) (o : Nat) (q : Nat → Nat) (f : Nat → Int) (qt : Nat → Nat) (ft : Nat → Int) (qa : Nat → Nat) (fa : Nat → Int) (T2 : Int → Int) (A0 : Int → Int) (p : Int) (v : Int) (k : Int) (hP : 0 ≤ ft 6 ∧ ft 6 ≤ 6) (hT2 : bd T2 0 9) (hA0 : bd A0 0 99) (hp : 1 ≤ p ∧ p ≤ 999) (hv : 1 ≤ v ∧ v ≤ 99) (hk : 0 ≤ k ∧ k ≤ 9) : CU l yX8_broughtBy cX8_broughtBy 6 (some .int) 0 0 D d [.ref o, .int (iI p), .int (iI v), .int (iI k)] [(o, .inr (8, fX8 q f)), (q 2, .inr (6, fX6 qt ft)), (qt 2, aI (d 0) 6 T2), (q 4, .inr (5, fX5 qa fa)), (qa 0, aI (d 0) 6 A0)] (fun (_ : Unit) => True) (fun (_ : Unit) => some (.int (iI (brI (ft 6) A0 T2 p v k)))) (fun (_ : Unit) => [(o, .inr (8, fX8 q f)), (q 2, .inr (6, fX6 qt ft)), (qt 2, aI (d 0) 6 T2), (q 4, .inr (5, fX5 qa fa)), (qa 0, aI (d 0) 6 A0)]) := by
  refine CU.mk (own := RX8) (lv := [(0, .ref o), (1, .int (iI p)), (2, .int (iI v)), (3, .int (iI k))]) rfl (by decide) (Nat.le_of_ble_eq_true rfl) rfl ?_
  intro p9 e9 R9 s9 m9 args9 below9 meth9 c9 A9 Q9 hRf hRl C Z
  refine V_iconst (pc := 0) C dX8_broughtBy_0 ?_
  refine V_istore (lv' := [(4, .int (iI 0)), (0, .ref o), (1, .int (iI p)), (2, .int (iI v)), (3, .int (iI k))]) (pc := 1) C dX8_broughtBy_1 (by decide) rfl ?_
  refine V_iconst (pc := 3) C dX8_broughtBy_3 ?_
  refine V_istore (lv' := [(5, .int (iI 0)), (4, .int (iI 0)), (0, .ref o), (1, .int (iI p)), (2, .int (iI v)), (3, .int (iI k))]) (pc := 4) C dX8_broughtBy_4 (by decide) rfl ?_
  have L6 : ∀ (nn9 : Nat) (i : Int) (t : Int), (0 ≤ i ∧ i ≤ ft 6) → (t = sZ (fun i => if p ≤ v * A0 i then T2 i * (p - k * A0 i) else 0) i) → (ft 6 - i).toNat < nn9 → V p9 l e9 R9 s9 m9 args9 below9 meth9 c9 A9 D Q9 6 0 0 [(o, .inr (8, fX8 q f)), (q 2, .inr (6, fX6 qt ft)), (qt 2, aI (d 0) 6 T2), (q 4, .inr (5, fX5 qa fa)), (qa 0, aI (d 0) 6 A0)] [(5, .int (iI i)), (4, .int (iI t)), (0, .ref o), (1, .int (iI p)), (2, .int (iI v)), (3, .int (iI k))] 6 [] := by
    intro nn9
    induction nn9 with
    | zero => intro _ _ _ _ hm6; exact absurd hm6 (Nat.not_lt_zero _)
    | succ nn9 ih6 =>
      intro i t hi ht hm6
      refine V_iload (pc := 6) C dX8_broughtBy_6 0 rfl ?_
      refine V_aload_n (pc := 8) C dX8_broughtBy_8 rfl 2 rfl ?_
      refine gf_X8_26 (x := q 2) (pc := 9) C dX8_broughtBy_9 0 rfl rfl ?_
      refine gf_X8_96 (x := ft 6) (pc := 12) C dX8_broughtBy_12 1 rfl rfl ?_
      refine V_icmp_ge (pc := 15) 70 C dX8_broughtBy_15 (by decide) (sm_i (by omega)) (sm_i (by omega)) (fun c15 => ?_) (fun c15 => ?_)
      · refine V_iload (pc := 70) C dX8_broughtBy_70 1 rfl ?_
        exact V_iret (pc := 72) C Z dX8_broughtBy_72 () trivial (ri (by rw [ht]; unfold brI; congr 1; omega)) rfl
      · refine V_iload_n (pc := 18) C dX8_broughtBy_18 rfl 3 rfl ?_
        refine V_iload_n (pc := 19) C dX8_broughtBy_19 rfl 4 rfl ?_
        refine V_aload_n (pc := 20) C dX8_broughtBy_20 rfl 2 rfl ?_
        refine gf_X8_36 (x := q 4) (pc := 21) C dX8_broughtBy_21 0 rfl rfl ?_
        refine gf_X8_103 (x := qa 0) (pc := 24) C dX8_broughtBy_24 3 rfl rfl ?_
        refine V_iload (pc := 27) C dX8_broughtBy_27 0 rfl ?_
        refine V_iald (f := A0) (pc := 29) C dX8_broughtBy_29 4 rfl (by omega) (by omega) (Nat.le_of_ble_eq_true rfl) ?_
        have b29 := hA0 i
        refine V_imul (pc := 30) C dX8_broughtBy_30 ?_
        have m31 := mulb (show 0 ≤ v ∧ v ≤ 99 by omega) b29
        refine V_icmp_gt (pc := 31) 64 C dX8_broughtBy_31 (by decide) (sm_i (by omega)) (sm_i (by omega)) (fun c31 => ?_) (fun c31 => ?_)
        · refine V_iinc (lv' := [(5, .int (iI (i + 1))), (4, .int (iI t)), (0, .ref o), (1, .int (iI p)), (2, .int (iI v)), (3, .int (iI k))]) (pc := 64) C dX8_broughtBy_64 0 rfl (by decide) rfl ?_
          refine V_goto (pc := 67) 6 C dX8_broughtBy_67 (by decide) ?_
          exact V_sub [0, 1, 2, 3, 4, 5] rfl (ih6 (i + 1) t (by omega) (by rw [ht, sZ_s _ (by omega)]; (repeat' split) <;> omega) (by omega))
        · refine V_iload (pc := 34) C dX8_broughtBy_34 1 rfl ?_
          refine V_aload_n (pc := 36) C dX8_broughtBy_36 rfl 2 rfl ?_
          refine gf_X8_26 (x := q 2) (pc := 37) C dX8_broughtBy_37 0 rfl rfl ?_
          refine gf_X8_117 (x := qt 2) (pc := 40) C dX8_broughtBy_40 1 rfl rfl ?_
          refine V_iload (pc := 43) C dX8_broughtBy_43 0 rfl ?_
          refine V_iald (f := T2) (pc := 45) C dX8_broughtBy_45 2 rfl (by omega) (by omega) (Nat.le_of_ble_eq_true rfl) ?_
          have b45 := hT2 i
          refine V_iload_n (pc := 46) C dX8_broughtBy_46 rfl 3 rfl ?_
          refine V_iload_n (pc := 47) C dX8_broughtBy_47 rfl 5 rfl ?_
          refine V_aload_n (pc := 48) C dX8_broughtBy_48 rfl 2 rfl ?_
          refine gf_X8_36 (x := q 4) (pc := 49) C dX8_broughtBy_49 0 rfl rfl ?_
          refine gf_X8_103 (x := qa 0) (pc := 52) C dX8_broughtBy_52 3 rfl rfl ?_
          refine V_iload (pc := 55) C dX8_broughtBy_55 0 rfl ?_
          refine V_iald (f := A0) (pc := 57) C dX8_broughtBy_57 4 rfl (by omega) (by omega) (Nat.le_of_ble_eq_true rfl) ?_
          have b57 := hA0 i
          refine V_imul (pc := 58) C dX8_broughtBy_58 ?_
          refine V_isub (pc := 59) C dX8_broughtBy_59 ?_
          refine V_imul (pc := 60) C dX8_broughtBy_60 ?_
          refine V_iadd (pc := 61) C dX8_broughtBy_61 ?_
          refine V_istore (lv' := [(4, .int (iI (t + ((T2 i) * (p - (k * (A0 i))))))), (5, .int (iI i)), (0, .ref o), (1, .int (iI p)), (2, .int (iI v)), (3, .int (iI k))]) (pc := 62) C dX8_broughtBy_62 (by decide) rfl ?_
          refine V_iinc (lv' := [(5, .int (iI (i + 1))), (4, .int (iI (t + ((T2 i) * (p - (k * (A0 i))))))), (0, .ref o), (1, .int (iI p)), (2, .int (iI v)), (3, .int (iI k))]) (pc := 64) C dX8_broughtBy_64 1 rfl (by decide) rfl ?_
          refine V_goto (pc := 67) 6 C dX8_broughtBy_67 (by decide) ?_
          exact V_sub [0, 1, 2, 3, 4, 5] rfl (ih6 (i + 1) (t + ((T2 i) * (p - (k * (A0 i))))) (by omega) (by rw [ht, sZ_s _ (by omega)]; (repeat' split) <;> omega) (by omega))
  exact V_sub [0, 1, 2, 3, 4, 5] rfl (L6 ((ft 6 - 0).toNat + 1) 0 0 (by omega) (rfl) (Nat.lt_succ_self _))
set_option maxRecDepth 100000 in
set_option maxHeartbeats 4000000 in
theorem c_X8_losersBy (l : Launch) (D : va_G) (d : Nat → ClassId) (o : Nat) (q : Nat → Nat) (f : Nat → Int) (qt : Nat → Nat) (ft : Nat → Int) (qa : Nat → Nat) (fa : Nat → Int) (A0 : Int → Int) (p : Int) (hP : 0 ≤ ft 6 ∧ ft 6 ≤ 6) (hK : 0 ≤ ft 9 ∧ ft 9 ≤ 63) (hA0 : bd A0 0 99) (hp : -2147483648 ≤ p ∧ p ≤ 2147483647) : CU l yX8_losersBy cX8_losersBy 5 (some .int) 1 21 D d [.ref o, .int (iI p)] [(o, .inr (8, fX8 q f)), (q 2, .inr (6, fX6 qt ft)), (q 4, .inr (5, fX5 qa fa)), (qa 0, aI (d 0) 6 A0)] (fun (_ : Unit) => True) (fun (_ : Unit) => some (.int (iI (lsI (ft 6) A0 (fun j => bitI (ft 9) j) p)))) (fun (_ : Unit) => [(o, .inr (8, fX8 q f)), (q 2, .inr (6, fX6 qt ft)), (q 4, .inr (5, fX5 qa fa)), (qa 0, aI (d 0) 6 A0)]) := by
  refine CU.mk (own := RX8) (lv := [(0, .ref o), (1, .int (iI p))]) rfl (by decide) (Nat.le_of_ble_eq_true rfl) rfl ?_
  intro p9 e9 R9 s9 m9 args9 below9 meth9 c9 A9 Q9 hRf hRl C Z
  refine V_iconst (pc := 0) C dX8_losersBy_0 ?_
  refine V_istore_n (lv' := [(2, .int (iI 0)), (0, .ref o), (1, .int (iI p))]) (pc := 1) C dX8_losersBy_1 rfl (by decide) rfl ?_
  refine V_iconst (pc := 2) C dX8_losersBy_2 ?_
  refine V_istore_n (lv' := [(3, .int (iI 0)), (2, .int (iI 0)), (0, .ref o), (1, .int (iI p))]) (pc := 3) C dX8_losersBy_3 rfl (by decide) rfl ?_
  have L4 : ∀ (nn9 : Nat) (i : Int) (t : Int), (0 ≤ i ∧ i ≤ ft 6) → (t = lsI i A0 (fun j => bitI (ft 9) j) p) → (ft 6 - i).toNat < nn9 → V p9 l e9 R9 s9 m9 args9 below9 meth9 c9 A9 D Q9 5 0 0 [(o, .inr (8, fX8 q f)), (q 2, .inr (6, fX6 qt ft)), (q 4, .inr (5, fX5 qa fa)), (qa 0, aI (d 0) 6 A0)] [(3, .int (iI i)), (2, .int (iI t)), (0, .ref o), (1, .int (iI p))] 4 [] := by
    intro nn9
    induction nn9 with
    | zero => intro _ _ _ _ hm4; exact absurd hm4 (Nat.not_lt_zero _)
    | succ nn9 ih4 =>
      intro i t hi ht hm4
      refine V_iload_n (pc := 4) C dX8_losersBy_4 rfl 0 rfl ?_
      refine V_aload_n (pc := 5) C dX8_losersBy_5 rfl 2 rfl ?_
      refine gf_X8_26 (x := q 2) (pc := 6) C dX8_losersBy_6 0 rfl rfl ?_
      refine gf_X8_96 (x := ft 6) (pc := 9) C dX8_losersBy_9 1 rfl rfl ?_
      refine V_icmp_ge (pc := 12) 81 C dX8_losersBy_12 (by decide) (sm_i (by omega)) (sm_i (by omega)) (fun c12 => ?_) (fun c12 => ?_)
      · refine V_iload_n (pc := 81) C dX8_losersBy_81 rfl 1 rfl ?_
        exact V_iret (pc := 82) C Z dX8_losersBy_82 () trivial (ri (by rw [ht]; congr 1; omega)) rfl
      · refine V_aload_n (pc := 15) C dX8_losersBy_15 rfl 2 rfl ?_
        refine gf_X8_26 (x := q 2) (pc := 16) C dX8_losersBy_16 0 rfl rfl ?_
        refine V_iload_n (pc := 19) C dX8_losersBy_19 rfl 0 rfl ?_
        refine cv_X8_120 (pc := 20) (rest := []) (wn := fun _ => [(o, .inr (8, fX8 q f)), (q 2, .inr (6, fX6 qt ft)), (q 4, .inr (5, fX5 qa fa)), (qa 0, aI (d 0) 6 A0)]) (sn := fun _ => [.int (iI (bI ((ft 9) / 2 ^ i.toNat % 2 = 1)))]) C dX8_losersBy_20 (c_X6_isKeeper l D d (q 2) qt ft i (by omega) (by omega)) [1] rfl rfl 1 rfl rfl rfl (Nat.le_of_ble_eq_true rfl) ⟨by omega, by omega⟩ ⟨Nat.zero_le _, Nat.zero_le _⟩ (fun _ => rfl) (fun _ => rfl) (fun _ => rfl) ?_
        intro _ _
        refine V_ifb_eq (pc := 23) 47 C dX8_losersBy_23 (by decide) (fun c23 => ?_) (fun c23 => ?_)
        · refine V_iload_n (pc := 47) C dX8_losersBy_47 rfl 3 rfl ?_
          refine V_aload_n (pc := 48) C dX8_losersBy_48 rfl 2 rfl ?_
          refine gf_X8_36 (x := q 4) (pc := 49) C dX8_losersBy_49 0 rfl rfl ?_
          refine gf_X8_103 (x := qa 0) (pc := 52) C dX8_losersBy_52 2 rfl rfl ?_
          refine V_iload_n (pc := 55) C dX8_losersBy_55 rfl 0 rfl ?_
          refine V_iald (f := A0) (pc := 56) C dX8_losersBy_56 3 rfl (by omega) (by omega) (Nat.le_of_ble_eq_true rfl) ?_
          have b56 := hA0 i
          refine V_icmp_ge (pc := 57) 64 C dX8_losersBy_57 (by decide) (sm_i (by omega)) (sm_i (by omega)) (fun c57 => ?_) (fun c57 => ?_)
          · refine V_iconst (pc := 64) C dX8_losersBy_64 ?_
            refine V_istore (lv' := [(4, .int (iI 0)), (3, .int (iI i)), (2, .int (iI t)), (0, .ref o), (1, .int (iI p))]) (pc := 65) C dX8_losersBy_65 (by decide) rfl ?_
            refine V_iload (pc := 67) C dX8_losersBy_67 0 rfl ?_
            refine V_if_eq (pc := 69) 75 C dX8_losersBy_69 (by decide) (sm_i (by decide)) (fun c69 => ?_) (fun c69 => ?_)
            · refine V_iinc (lv' := [(3, .int (iI (i + 1))), (4, .int (iI 0)), (2, .int (iI t)), (0, .ref o), (1, .int (iI p))]) (pc := 75) C dX8_losersBy_75 1 rfl (by decide) rfl ?_
              refine V_goto (pc := 78) 4 C dX8_losersBy_78 (by decide) ?_
              exact V_sub [0, 2, 3, 4] rfl (ih4 (i + 1) t (by omega) (by rw [ht]; unfold lsI; rw [sZ_s _ (by omega)]; show _ = _ + (if bitI (ft 9) i = 1 then _ else _); unfold bitI; (repeat' split) <;> omega) (by omega))
            · exact absurd c69 (by decide)
          · refine V_iconst (pc := 60) C dX8_losersBy_60 ?_
            refine V_goto (pc := 61) 65 C dX8_losersBy_61 (by decide) ?_
            refine V_istore (lv' := [(4, .int (iI 1)), (3, .int (iI i)), (2, .int (iI t)), (0, .ref o), (1, .int (iI p))]) (pc := 65) C dX8_losersBy_65 (by decide) rfl ?_
            refine V_iload (pc := 67) C dX8_losersBy_67 0 rfl ?_
            refine V_if_eq (pc := 69) 75 C dX8_losersBy_69 (by decide) (sm_i (by decide)) (fun c69 => ?_) (fun c69 => ?_)
            · exact absurd c69 (by decide)
            · refine V_iinc (lv' := [(2, .int (iI (t + 1))), (4, .int (iI 1)), (3, .int (iI i)), (0, .ref o), (1, .int (iI p))]) (pc := 72) C dX8_losersBy_72 2 rfl (by decide) rfl ?_
              refine V_iinc (lv' := [(3, .int (iI (i + 1))), (2, .int (iI (t + 1))), (4, .int (iI 1)), (0, .ref o), (1, .int (iI p))]) (pc := 75) C dX8_losersBy_75 2 rfl (by decide) rfl ?_
              refine V_goto (pc := 78) 4 C dX8_losersBy_78 (by decide) ?_
              exact V_sub [0, 1, 3, 4] rfl (ih4 (i + 1) (t + 1) (by omega) (by rw [ht]; unfold lsI; rw [sZ_s _ (by omega)]; show _ = _ + (if bitI (ft 9) i = 1 then _ else _); unfold bitI; (repeat' split) <;> omega) (by omega))
        · refine V_iload_n (pc := 26) C dX8_losersBy_26 rfl 3 rfl ?_
          refine V_aload_n (pc := 27) C dX8_losersBy_27 rfl 2 rfl ?_
          refine gf_X8_36 (x := q 4) (pc := 28) C dX8_losersBy_28 0 rfl rfl ?_
          refine gf_X8_103 (x := qa 0) (pc := 31) C dX8_losersBy_31 2 rfl rfl ?_
          refine V_iload_n (pc := 34) C dX8_losersBy_34 rfl 0 rfl ?_
          refine V_iald (f := A0) (pc := 35) C dX8_losersBy_35 3 rfl (by omega) (by omega) (Nat.le_of_ble_eq_true rfl) ?_
          have b35 := hA0 i
          refine V_icmp_le (pc := 36) 43 C dX8_losersBy_36 (by decide) (sm_i (by omega)) (sm_i (by omega)) (fun c36 => ?_) (fun c36 => ?_)
          · refine V_iconst (pc := 43) C dX8_losersBy_43 ?_
            refine V_goto (pc := 44) 65 C dX8_losersBy_44 (by decide) ?_
            refine V_istore (lv' := [(4, .int (iI 0)), (3, .int (iI i)), (2, .int (iI t)), (0, .ref o), (1, .int (iI p))]) (pc := 65) C dX8_losersBy_65 (by decide) rfl ?_
            refine V_iload (pc := 67) C dX8_losersBy_67 0 rfl ?_
            refine V_if_eq (pc := 69) 75 C dX8_losersBy_69 (by decide) (sm_i (by decide)) (fun c69 => ?_) (fun c69 => ?_)
            · refine V_iinc (lv' := [(3, .int (iI (i + 1))), (4, .int (iI 0)), (2, .int (iI t)), (0, .ref o), (1, .int (iI p))]) (pc := 75) C dX8_losersBy_75 1 rfl (by decide) rfl ?_
              refine V_goto (pc := 78) 4 C dX8_losersBy_78 (by decide) ?_
              exact V_sub [0, 2, 3, 4] rfl (ih4 (i + 1) t (by omega) (by rw [ht]; unfold lsI; rw [sZ_s _ (by omega)]; show _ = _ + (if bitI (ft 9) i = 1 then _ else _); unfold bitI; (repeat' split) <;> omega) (by omega))
            · exact absurd c69 (by decide)
          · refine V_iconst (pc := 39) C dX8_losersBy_39 ?_
            refine V_goto (pc := 40) 65 C dX8_losersBy_40 (by decide) ?_
            refine V_istore (lv' := [(4, .int (iI 1)), (3, .int (iI i)), (2, .int (iI t)), (0, .ref o), (1, .int (iI p))]) (pc := 65) C dX8_losersBy_65 (by decide) rfl ?_
            refine V_iload (pc := 67) C dX8_losersBy_67 0 rfl ?_
            refine V_if_eq (pc := 69) 75 C dX8_losersBy_69 (by decide) (sm_i (by decide)) (fun c69 => ?_) (fun c69 => ?_)
            · exact absurd c69 (by decide)
            · refine V_iinc (lv' := [(2, .int (iI (t + 1))), (4, .int (iI 1)), (3, .int (iI i)), (0, .ref o), (1, .int (iI p))]) (pc := 72) C dX8_losersBy_72 2 rfl (by decide) rfl ?_
              refine V_iinc (lv' := [(3, .int (iI (i + 1))), (2, .int (iI (t + 1))), (4, .int (iI 1)), (0, .ref o), (1, .int (iI p))]) (pc := 75) C dX8_losersBy_75 2 rfl (by decide) rfl ?_
              refine V_goto (pc := 78) 4 C dX8_losersBy_78 (by decide) ?_
              exact V_sub [0, 1, 3, 4] rfl (ih4 (i + 1) (t + 1) (by omega) (by rw [ht]; unfold lsI; rw [sZ_s _ (by omega)]; show _ = _ + (if bitI (ft 9) i = 1 then _ else _); unfold bitI; (repeat' split) <;> omega) (by omega))
  exact V_sub [0, 1, 2, 3] rfl (L4 ((ft 6 - 0).toNat + 1) 0 0 (by omega) (rfl) (Nat.lt_succ_self _))
set_option maxRecDepth 100000 in
set_option maxHeartbeats 4000000 in
theorem c_X8_person (l : Launch) (D : va_G) (d : Nat → ClassId) (o : Nat) (q : Nat → Nat) (f : Nat → Int) (qt : Nat → Nat) (ft : Nat → Int) (qa : Nat → Nat) (fa : Nat → Int) (T1 : Int → Int) (T2 : Int → Int) (T4 : Int → Int) (A0 : Int → Int) (A2 : Int → Int) (A3 : Int → Int) (A4 : Int → Int) (A5 : Int → Int) (p : Int) (w : Int) (hP : 0 ≤ ft 6 ∧ ft 6 ≤ 6) (hK : 0 ≤ ft 9 ∧ ft 9 ≤ 63) (hn : 0 ≤ fa 6 ∧ fa 6 ≤ 12) (hT1 : bd T1 0 99) (hT2 : bd T2 0 9) (hT4 : bd T4 0 99) (hA0 : bd A0 0 99) (hA2 : bd A2 0 5) (hA3 : bd A3 0 3) (hA4 : bd A4 0 99) (hA5 : bd A5 0 9801) (hp : -2147483648 ≤ p ∧ p ≤ 2147483647) (hw : -2147483648 ≤ w ∧ w ≤ 2147483647) : CU l yX8_person cX8_person 3 (some .int) 1 23 D d [.ref o, .int (iI p), .int (iI w)] [(o, .inr (8, fX8 q f)), (q 2, .inr (6, fX6 qt ft)), (qt 1, aI (d 0) 6 T1), (qt 2, aI (d 0) 6 T2), (qt 4, aI (d 0) 4 T4), (q 4, .inr (5, fX5 qa fa)), (qa 0, aI (d 0) 6 A0), (qa 2, aI (d 0) 12 A2), (qa 3, aI (d 0) 12 A3), (qa 4, aI (d 0) 12 A4), (qa 5, aI (d 0) 12 A5)] (fun (_ : Unit) => True) (fun (_ : Unit) => some (.int (iI (pPerson (ft 6) (fa 6) A0 T1 T2 (fun j => bitI (ft 9) j) A2 A3 A4 A5 T4 p w)))) (fun (_ : Unit) => [(o, .inr (8, fX8 q f)), (q 2, .inr (6, fX6 qt ft)), (qt 1, aI (d 0) 6 T1), (qt 2, aI (d 0) 6 T2), (qt 4, aI (d 0) 4 T4), (q 4, .inr (5, fX5 qa fa)), (qa 0, aI (d 0) 6 A0), (qa 2, aI (d 0) 12 A2), (qa 3, aI (d 0) 12 A3), (qa 4, aI (d 0) 12 A4), (qa 5, aI (d 0) 12 A5)]) := by
  refine CU.mk (own := RX8) (lv := [(0, .ref o), (1, .int (iI p)), (2, .int (iI w))]) rfl (by decide) (Nat.le_of_ble_eq_true rfl) rfl ?_
  intro p9 e9 R9 s9 m9 args9 below9 meth9 c9 A9 Q9 hRf hRl C Z
  refine V_aload_n (pc := 0) C dX8_person_0 rfl 0 rfl ?_
  refine gf_X8_26 (x := q 2) (pc := 1) C dX8_person_1 0 rfl rfl ?_
  refine V_iload_n (pc := 4) C dX8_person_4 rfl 1 rfl ?_
  refine cv_X8_99 (pc := 5) (rest := []) (wn := fun _ => [(o, .inr (8, fX8 q f)), (q 2, .inr (6, fX6 qt ft)), (qt 1, aI (d 0) 6 T1), (qt 2, aI (d 0) 6 T2), (qt 4, aI (d 0) 4 T4), (q 4, .inr (5, fX5 qa fa)), (qa 0, aI (d 0) 6 A0), (qa 2, aI (d 0) 12 A2), (qa 3, aI (d 0) 12 A3), (qa 4, aI (d 0) 12 A4), (qa 5, aI (d 0) 12 A5)]) (sn := fun _ => [.int (iI (bI (0 ≤ p ∧ p < (ft 6))))]) C dX8_person_5 (c_X6_hasPerson l D d (q 2) qt ft p hp (by omega)) [1] rfl rfl 1 rfl rfl rfl (Nat.le_of_ble_eq_true rfl) ⟨by omega, by omega⟩ ⟨Nat.zero_le _, Nat.zero_le _⟩ (fun _ => rfl) (fun _ => rfl) (fun _ => rfl) ?_
  intro _ _
  refine V_ifb_ne (pc := 8) 13 C dX8_person_8 (by decide) (fun c8 => ?_) (fun c8 => ?_)
  · refine V_iload_n (pc := 13) C dX8_person_13 rfl 2 rfl ?_
    by_cases k14_0 : w = 0
    · refine V_tswIn (pc := 14) (k := 0) 52 C dX8_person_14 k14_0 (sm_i (by omega)) (by decide) (by decide) rfl (by decide) ?_
      refine V_aload_n (pc := 52) C dX8_person_52 rfl 0 rfl ?_
      refine gf_X8_36 (x := q 4) (pc := 53) C dX8_person_53 0 rfl rfl ?_
      refine gf_X8_103 (x := qa 0) (pc := 56) C dX8_person_56 5 rfl rfl ?_
      refine V_iload_n (pc := 59) C dX8_person_59 rfl 1 rfl ?_
      refine V_iald (f := A0) (pc := 60) C dX8_person_60 6 rfl (by omega) (by omega) (Nat.le_of_ble_eq_true rfl) ?_
      have b60 := hA0 p
      exact V_iret (pc := 61) C Z dX8_person_61 () trivial (ri (by unfold pPerson bitI; (try dsimp only); (repeat' split) <;> first | rfl | omega)) rfl
    by_cases k14_1 : w = 1
    · refine V_tswIn (pc := 14) (k := 1) 62 C dX8_person_14 k14_1 (sm_i (by omega)) (by decide) (by decide) rfl (by decide) ?_
      refine V_aload_n (pc := 62) C dX8_person_62 rfl 0 rfl ?_
      refine gf_X8_26 (x := q 2) (pc := 63) C dX8_person_63 0 rfl rfl ?_
      refine gf_X8_107 (x := qt 1) (pc := 66) C dX8_person_66 1 rfl rfl ?_
      refine V_iload_n (pc := 69) C dX8_person_69 rfl 1 rfl ?_
      refine V_iald (f := T1) (pc := 70) C dX8_person_70 2 rfl (by omega) (by omega) (Nat.le_of_ble_eq_true rfl) ?_
      have b70 := hT1 p
      exact V_iret (pc := 71) C Z dX8_person_71 () trivial (ri (by unfold pPerson bitI; (try dsimp only); (repeat' split) <;> first | rfl | omega)) rfl
    by_cases k14_2 : w = 2
    · refine V_tswIn (pc := 14) (k := 2) 72 C dX8_person_14 k14_2 (sm_i (by omega)) (by decide) (by decide) rfl (by decide) ?_
      refine V_aload_n (pc := 72) C dX8_person_72 rfl 0 rfl ?_
      refine V_iload_n (pc := 73) C dX8_person_73 rfl 1 rfl ?_
      refine cv_X8_110 (pc := 74) (rest := []) (wn := fun _ => [(o, .inr (8, fX8 q f)), (q 2, .inr (6, fX6 qt ft)), (qt 1, aI (d 0) 6 T1), (qt 2, aI (d 0) 6 T2), (qt 4, aI (d 0) 4 T4), (q 4, .inr (5, fX5 qa fa)), (qa 0, aI (d 0) 6 A0), (qa 2, aI (d 0) 12 A2), (qa 3, aI (d 0) 12 A3), (qa 4, aI (d 0) 12 A4), (qa 5, aI (d 0) 12 A5)]) (sn := fun _ => [.int (iI (sZ (fun j => if A2 j = p then A4 j * T4 (A3 j) else 0) ((fa 6))))]) C dX8_person_74 (c_X8_spentBy l D d o q f qt ft qa fa T4 A2 A3 A4 p (by omega) hT4 hA2 hA3 hA4 hp) [0, 1, 4, 5, 7, 8, 9] rfl rfl 0 rfl rfl rfl (Nat.le_of_ble_eq_true rfl) ⟨by omega, by omega⟩ ⟨Nat.zero_le _, Nat.zero_le _⟩ (fun _ => rfl) (fun _ => rfl) (fun _ => rfl) ?_
      intro _ _
      exact V_iret (pc := 77) C Z dX8_person_77 () trivial (ri (by unfold pPerson bitI; (try dsimp only); (repeat' split) <;> first | rfl | omega)) rfl
    by_cases k14_3 : w = 3
    · refine V_tswIn (pc := 14) (k := 3) 78 C dX8_person_14 k14_3 (sm_i (by omega)) (by decide) (by decide) rfl (by decide) ?_
      refine V_aload_n (pc := 78) C dX8_person_78 rfl 0 rfl ?_
      refine V_iload_n (pc := 79) C dX8_person_79 rfl 1 rfl ?_
      refine cv_X8_114 (pc := 80) (rest := []) (wn := fun _ => [(o, .inr (8, fX8 q f)), (q 2, .inr (6, fX6 qt ft)), (qt 1, aI (d 0) 6 T1), (qt 2, aI (d 0) 6 T2), (qt 4, aI (d 0) 4 T4), (q 4, .inr (5, fX5 qa fa)), (qa 0, aI (d 0) 6 A0), (qa 2, aI (d 0) 12 A2), (qa 3, aI (d 0) 12 A3), (qa 4, aI (d 0) 12 A4), (qa 5, aI (d 0) 12 A5)]) (sn := fun _ => [.int (iI (sZ (fun j => if A2 j = p then A5 j else 0) ((fa 6))))]) C dX8_person_80 (c_X8_gotBy l D d o q f qa fa A2 A5 p (by omega) hA2 hA5 hp) [0, 5, 7, 10] rfl rfl 0 rfl rfl rfl (Nat.le_of_ble_eq_true rfl) ⟨by omega, by omega⟩ ⟨Nat.zero_le _, Nat.zero_le _⟩ (fun _ => rfl) (fun _ => rfl) (fun _ => rfl) ?_
      intro _ _
      exact V_iret (pc := 83) C Z dX8_person_83 () trivial (ri (by unfold pPerson bitI; (try dsimp only); (repeat' split) <;> first | rfl | omega)) rfl
    by_cases k14_4 : w = 4
    · refine V_tswIn (pc := 14) (k := 4) 84 C dX8_person_14 k14_4 (sm_i (by omega)) (by decide) (by decide) rfl (by decide) ?_
      refine V_aload_n (pc := 84) C dX8_person_84 rfl 0 rfl ?_
      refine gf_X8_26 (x := q 2) (pc := 85) C dX8_person_85 0 rfl rfl ?_
      refine gf_X8_117 (x := qt 2) (pc := 88) C dX8_person_88 1 rfl rfl ?_
      refine V_iload_n (pc := 91) C dX8_person_91 rfl 1 rfl ?_
      refine V_iald (f := T2) (pc := 92) C dX8_person_92 3 rfl (by omega) (by omega) (Nat.le_of_ble_eq_true rfl) ?_
      have b92 := hT2 p
      exact V_iret (pc := 93) C Z dX8_person_93 () trivial (ri (by unfold pPerson bitI; (try dsimp only); (repeat' split) <;> first | rfl | omega)) rfl
    by_cases k14_5 : w = 5
    · refine V_tswIn (pc := 14) (k := 5) 94 C dX8_person_14 k14_5 (sm_i (by omega)) (by decide) (by decide) rfl (by decide) ?_
      refine V_aload_n (pc := 94) C dX8_person_94 rfl 0 rfl ?_
      refine gf_X8_26 (x := q 2) (pc := 95) C dX8_person_95 0 rfl rfl ?_
      refine V_iload_n (pc := 98) C dX8_person_98 rfl 1 rfl ?_
      refine cv_X8_120 (pc := 99) (rest := []) (wn := fun _ => [(o, .inr (8, fX8 q f)), (q 2, .inr (6, fX6 qt ft)), (qt 1, aI (d 0) 6 T1), (qt 2, aI (d 0) 6 T2), (qt 4, aI (d 0) 4 T4), (q 4, .inr (5, fX5 qa fa)), (qa 0, aI (d 0) 6 A0), (qa 2, aI (d 0) 12 A2), (qa 3, aI (d 0) 12 A3), (qa 4, aI (d 0) 12 A4), (qa 5, aI (d 0) 12 A5)]) (sn := fun _ => [.int (iI (bI ((ft 9) / 2 ^ p.toNat % 2 = 1)))]) C dX8_person_99 (c_X6_isKeeper l D d (q 2) qt ft p (by omega) (by omega)) [1] rfl rfl 1 rfl rfl rfl (Nat.le_of_ble_eq_true rfl) ⟨by omega, by omega⟩ ⟨Nat.zero_le _, Nat.zero_le _⟩ (fun _ => rfl) (fun _ => rfl) (fun _ => rfl) ?_
      intro _ _
      refine V_ifb_eq (pc := 102) 109 C dX8_person_102 (by decide) (fun c102 => ?_) (fun c102 => ?_)
      · refine V_iconst (pc := 109) C dX8_person_109 ?_
        exact V_iret (pc := 110) C Z dX8_person_110 () trivial (ri (by unfold pPerson bitI; (try dsimp only); (repeat' split) <;> first | rfl | omega)) rfl
      · refine V_iconst (pc := 105) C dX8_person_105 ?_
        refine V_goto (pc := 106) 110 C dX8_person_106 (by decide) ?_
        exact V_iret (pc := 110) C Z dX8_person_110 () trivial (ri (by unfold pPerson bitI; (try dsimp only); (repeat' split) <;> first | rfl | omega)) rfl
    refine V_tswOut (pc := 14) 111 C dX8_person_14 (sm_i (by omega)) (by omega) (by decide) ?_
    refine V_bipush (pc := 111) C dX8_person_111 rfl ?_
    exact V_iret (pc := 113) C Z dX8_person_113 () trivial (ri (by unfold pPerson bitI; (try dsimp only); (repeat' split) <;> first | rfl | omega)) rfl
  · refine V_iconst (pc := 11) C dX8_person_11 ?_
    exact V_iret (pc := 12) C Z dX8_person_12 () trivial (ri (by unfold pPerson bitI; (try dsimp only); (repeat' split) <;> first | rfl | omega)) rfl
set_option maxRecDepth 100000 in
set_option maxHeartbeats 4000000 in
theorem c_X8_counter (l : Launch) (D : va_G) (d : Nat → ClassId) (o : Nat) (q : Nat → Nat) (f : Nat → Int) (qt : Nat → Nat) (ft : Nat → Int) (qa : Nat → Nat) (fa : Nat → Int) (T4 : Int → Int) (A1 : Int → Int) (A3 : Int → Int) (A4 : Int → Int) (A5 : Int → Int) (p : Int) (w : Int) (hC : 0 ≤ ft 7 ∧ ft 7 ≤ 4) (hn : 0 ≤ fa 6 ∧ fa 6 ≤ 12) (hT4 : bd T4 0 99) (hA1 : bd A1 0 9999) (hA3 : bd A3 0 3) (hA4 : bd A4 0 99) (hA5 : bd A5 0 9801) (hp : -2147483648 ≤ p ∧ p ≤ 2147483647) (hw : -2147483648 ≤ w ∧ w ≤ 2147483647) : CU l yX8_counter cX8_counter 3 (some .int) 1 23 D d [.ref o, .int (iI p), .int (iI w)] [(o, .inr (8, fX8 q f)), (q 2, .inr (6, fX6 qt ft)), (qt 4, aI (d 0) 4 T4), (q 4, .inr (5, fX5 qa fa)), (qa 1, aI (d 0) 4 A1), (qa 3, aI (d 0) 12 A3), (qa 4, aI (d 0) 12 A4), (qa 5, aI (d 0) 12 A5)] (fun (_ : Unit) => True) (fun (_ : Unit) => some (.int (iI (pCounter (ft 7) (fa 6) (fa 7) T4 A1 A3 A4 A5 p w)))) (fun (_ : Unit) => [(o, .inr (8, fX8 q f)), (q 2, .inr (6, fX6 qt ft)), (qt 4, aI (d 0) 4 T4), (q 4, .inr (5, fX5 qa fa)), (qa 1, aI (d 0) 4 A1), (qa 3, aI (d 0) 12 A3), (qa 4, aI (d 0) 12 A4), (qa 5, aI (d 0) 12 A5)]) := by
  refine CU.mk (own := RX8) (lv := [(0, .ref o), (1, .int (iI p)), (2, .int (iI w))]) rfl (by decide) (Nat.le_of_ble_eq_true rfl) rfl ?_
  intro p9 e9 R9 s9 m9 args9 below9 meth9 c9 A9 Q9 hRf hRl C Z
  refine V_aload_n (pc := 0) C dX8_counter_0 rfl 0 rfl ?_
  refine gf_X8_26 (x := q 2) (pc := 1) C dX8_counter_1 0 rfl rfl ?_
  refine V_iload_n (pc := 4) C dX8_counter_4 rfl 1 rfl ?_
  refine cv_X8_123 (pc := 5) (rest := []) (wn := fun _ => [(o, .inr (8, fX8 q f)), (q 2, .inr (6, fX6 qt ft)), (qt 4, aI (d 0) 4 T4), (q 4, .inr (5, fX5 qa fa)), (qa 1, aI (d 0) 4 A1), (qa 3, aI (d 0) 12 A3), (qa 4, aI (d 0) 12 A4), (qa 5, aI (d 0) 12 A5)]) (sn := fun _ => [.int (iI (bI (0 ≤ p ∧ p < (ft 7))))]) C dX8_counter_5 (c_X6_hasCounter l D d (q 2) qt ft p hp (by omega)) [1] rfl rfl 1 rfl rfl rfl (Nat.le_of_ble_eq_true rfl) ⟨by omega, by omega⟩ ⟨Nat.zero_le _, Nat.zero_le _⟩ (fun _ => rfl) (fun _ => rfl) (fun _ => rfl) ?_
  intro _ _
  refine V_ifb_ne (pc := 8) 13 C dX8_counter_8 (by decide) (fun c8 => ?_) (fun c8 => ?_)
  · refine V_iload_n (pc := 13) C dX8_counter_13 rfl 2 rfl ?_
    by_cases k14_0 : w = 0
    · refine V_tswIn (pc := 14) (k := 0) 48 C dX8_counter_14 k14_0 (sm_i (by omega)) (by decide) (by decide) rfl (by decide) ?_
      refine V_aload_n (pc := 48) C dX8_counter_48 rfl 0 rfl ?_
      refine gf_X8_26 (x := q 2) (pc := 49) C dX8_counter_49 0 rfl rfl ?_
      refine gf_X8_126 (x := qt 4) (pc := 52) C dX8_counter_52 1 rfl rfl ?_
      refine V_iload_n (pc := 55) C dX8_counter_55 rfl 1 rfl ?_
      refine V_iald (f := T4) (pc := 56) C dX8_counter_56 2 rfl (by omega) (by omega) (Nat.le_of_ble_eq_true rfl) ?_
      have b56 := hT4 p
      exact V_iret (pc := 57) C Z dX8_counter_57 () trivial (ri (by unfold pCounter; (try dsimp only); (repeat' split) <;> first | rfl | omega)) rfl
    by_cases k14_1 : w = 1
    · refine V_tswIn (pc := 14) (k := 1) 58 C dX8_counter_14 k14_1 (sm_i (by omega)) (by decide) (by decide) rfl (by decide) ?_
      refine V_aload_n (pc := 58) C dX8_counter_58 rfl 0 rfl ?_
      refine gf_X8_36 (x := q 4) (pc := 59) C dX8_counter_59 0 rfl rfl ?_
      refine gf_X8_129 (x := qa 1) (pc := 62) C dX8_counter_62 3 rfl rfl ?_
      refine V_iload_n (pc := 65) C dX8_counter_65 rfl 1 rfl ?_
      refine V_iald (f := A1) (pc := 66) C dX8_counter_66 4 rfl (by omega) (by omega) (Nat.le_of_ble_eq_true rfl) ?_
      have b66 := hA1 p
      exact V_iret (pc := 67) C Z dX8_counter_67 () trivial (ri (by unfold pCounter; (try dsimp only); (repeat' split) <;> first | rfl | omega)) rfl
    by_cases k14_2 : w = 2
    · refine V_tswIn (pc := 14) (k := 2) 68 C dX8_counter_14 k14_2 (sm_i (by omega)) (by decide) (by decide) rfl (by decide) ?_
      refine V_aload_n (pc := 68) C dX8_counter_68 rfl 0 rfl ?_
      refine gf_X8_36 (x := q 4) (pc := 69) C dX8_counter_69 0 rfl rfl ?_
      refine V_iload_n (pc := 72) C dX8_counter_72 rfl 1 rfl ?_
      refine cv_X8_132 (pc := 73) (rest := []) (wn := fun _ => [(o, .inr (8, fX8 q f)), (q 2, .inr (6, fX6 qt ft)), (qt 4, aI (d 0) 4 T4), (q 4, .inr (5, fX5 qa fa)), (qa 1, aI (d 0) 4 A1), (qa 3, aI (d 0) 12 A3), (qa 4, aI (d 0) 12 A4), (qa 5, aI (d 0) 12 A5)]) (sn := fun _ => [.int (iI (sZ (fun j => if A3 j = p then A4 j else 0) ((fa 6))))]) C dX8_counter_73 (c_X5_ellsSoldAt l D d (q 4) qa fa A3 A4 p (by omega) hA3 hp) [3, 5, 6] rfl rfl 3 rfl rfl rfl (Nat.le_of_ble_eq_true rfl) ⟨by omega, by omega⟩ ⟨Nat.zero_le _, Nat.zero_le _⟩ (fun _ => rfl) (fun _ => rfl) (fun _ => rfl) ?_
      intro _ _
      refine V_aload_n (pc := 76) C dX8_counter_76 rfl 0 rfl ?_
      refine gf_X8_26 (x := q 2) (pc := 77) C dX8_counter_77 0 rfl rfl ?_
      refine gf_X8_126 (x := qt 4) (pc := 80) C dX8_counter_80 1 rfl rfl ?_
      refine V_iload_n (pc := 83) C dX8_counter_83 rfl 1 rfl ?_
      refine V_iald (f := T4) (pc := 84) C dX8_counter_84 2 rfl (by omega) (by omega) (Nat.le_of_ble_eq_true rfl) ?_
      have b84 := hT4 p
      refine V_imul (pc := 85) C dX8_counter_85 ?_
      exact V_iret (pc := 86) C Z dX8_counter_86 () trivial (ri (by unfold pCounter; (try dsimp only); (repeat' split) <;> first | rfl | omega)) rfl
    by_cases k14_3 : w = 3
    · refine V_tswIn (pc := 14) (k := 3) 87 C dX8_counter_14 k14_3 (sm_i (by omega)) (by decide) (by decide) rfl (by decide) ?_
      refine V_aload_n (pc := 87) C dX8_counter_87 rfl 0 rfl ?_
      refine gf_X8_36 (x := q 4) (pc := 88) C dX8_counter_88 0 rfl rfl ?_
      refine V_iload_n (pc := 91) C dX8_counter_91 rfl 1 rfl ?_
      refine cv_X8_132 (pc := 92) (rest := []) (wn := fun _ => [(o, .inr (8, fX8 q f)), (q 2, .inr (6, fX6 qt ft)), (qt 4, aI (d 0) 4 T4), (q 4, .inr (5, fX5 qa fa)), (qa 1, aI (d 0) 4 A1), (qa 3, aI (d 0) 12 A3), (qa 4, aI (d 0) 12 A4), (qa 5, aI (d 0) 12 A5)]) (sn := fun _ => [.int (iI (sZ (fun j => if A3 j = p then A4 j else 0) ((fa 6))))]) C dX8_counter_92 (c_X5_ellsSoldAt l D d (q 4) qa fa A3 A4 p (by omega) hA3 hp) [3, 5, 6] rfl rfl 3 rfl rfl rfl (Nat.le_of_ble_eq_true rfl) ⟨by omega, by omega⟩ ⟨Nat.zero_le _, Nat.zero_le _⟩ (fun _ => rfl) (fun _ => rfl) (fun _ => rfl) ?_
      intro _ _
      exact V_iret (pc := 95) C Z dX8_counter_95 () trivial (ri (by unfold pCounter; (try dsimp only); (repeat' split) <;> first | rfl | omega)) rfl
    by_cases k14_4 : w = 4
    · refine V_tswIn (pc := 14) (k := 4) 96 C dX8_counter_14 k14_4 (sm_i (by omega)) (by decide) (by decide) rfl (by decide) ?_
      refine V_aload_n (pc := 96) C dX8_counter_96 rfl 0 rfl ?_
      refine gf_X8_36 (x := q 4) (pc := 97) C dX8_counter_97 0 rfl rfl ?_
      refine V_iload_n (pc := 100) C dX8_counter_100 rfl 1 rfl ?_
      refine cv_X8_135 (pc := 101) (rest := []) (wn := fun _ => [(o, .inr (8, fX8 q f)), (q 2, .inr (6, fX6 qt ft)), (qt 4, aI (d 0) 4 T4), (q 4, .inr (5, fX5 qa fa)), (qa 1, aI (d 0) 4 A1), (qa 3, aI (d 0) 12 A3), (qa 4, aI (d 0) 12 A4), (qa 5, aI (d 0) 12 A5)]) (sn := fun _ => [.int (iI (sZ (fun j => if A3 j = p then A5 j - A4 j * (fa 7) else 0) ((fa 6))))]) C dX8_counter_101 (c_X5_lostAt l D d (q 4) qa fa A3 A4 A5 p (by omega) hA3 hp) [3, 5, 6, 7] rfl rfl 3 rfl rfl rfl (Nat.le_of_ble_eq_true rfl) ⟨by omega, by omega⟩ ⟨Nat.zero_le _, Nat.zero_le _⟩ (fun _ => rfl) (fun _ => rfl) (fun _ => rfl) ?_
      intro _ _
      refine V_ldc (n := 1000000) (pc := 104) C dX8_counter_104 w2_166 rfl ?_
      refine V_iadd (pc := 106) C dX8_counter_106 ?_
      exact V_iret (pc := 107) C Z dX8_counter_107 () trivial (ri (by unfold pCounter; rw [if_neg (by omega), if_neg (by omega), if_neg (by omega), if_neg (by omega), if_neg (by omega), if_pos (by omega), lost_i]; omega)) rfl
    refine V_tswOut (pc := 14) 108 C dX8_counter_14 (sm_i (by omega)) (by omega) (by decide) ?_
    refine V_bipush (pc := 108) C dX8_counter_108 rfl ?_
    exact V_iret (pc := 110) C Z dX8_counter_110 () trivial (ri (by unfold pCounter; (try dsimp only); (repeat' split) <;> first | rfl | omega)) rfl
  · refine V_iconst (pc := 11) C dX8_counter_11 ?_
    exact V_iret (pc := 12) C Z dX8_counter_12 () trivial (ri (by unfold pCounter; (try dsimp only); (repeat' split) <;> first | rfl | omega)) rfl
set_option maxRecDepth 100000 in
set_option maxHeartbeats 4000000 in
theorem c_X8_barred (l : Launch) (D : va_G) (d : Nat → ClassId) (o : Nat) (q : Nat → Nat) (f : Nat → Int) (qt : Nat → Nat) (ft : Nat → Int) (T3 : Int → Int) (p : Int) (k : Int) (hP : 0 ≤ ft 6 ∧ ft 6 ≤ 6) (hC : 0 ≤ ft 7 ∧ ft 7 ≤ 4) (hT3 : bd T3 0 15) (hp : -2147483648 ≤ p ∧ p ≤ 2147483647) (hk : -2147483648 ≤ k ∧ k ≤ 2147483647) : CU l yX8_barred cX8_barred 3 (some .int) 1 22 D d [.ref o, .int (iI p), .int (iI k)] [(o, .inr (8, fX8 q f)), (q 2, .inr (6, fX6 qt ft)), (qt 3, aI (d 0) 6 T3)] (fun (_ : Unit) => True) (fun (_ : Unit) => some (.int (iI (pBarred (ft 6) (ft 7) (fun i c => bitI (T3 i) c) p k)))) (fun (_ : Unit) => [(o, .inr (8, fX8 q f)), (q 2, .inr (6, fX6 qt ft)), (qt 3, aI (d 0) 6 T3)]) := by
  refine CU.mk (own := RX8) (lv := [(0, .ref o), (1, .int (iI p)), (2, .int (iI k))]) rfl (by decide) (Nat.le_of_ble_eq_true rfl) rfl ?_
  intro p9 e9 R9 s9 m9 args9 below9 meth9 c9 A9 Q9 hRf hRl C Z
  refine V_aload_n (pc := 0) C dX8_barred_0 rfl 0 rfl ?_
  refine gf_X8_26 (x := q 2) (pc := 1) C dX8_barred_1 0 rfl rfl ?_
  refine V_iload_n (pc := 4) C dX8_barred_4 rfl 1 rfl ?_
  refine cv_X8_99 (pc := 5) (rest := []) (wn := fun _ => [(o, .inr (8, fX8 q f)), (q 2, .inr (6, fX6 qt ft)), (qt 3, aI (d 0) 6 T3)]) (sn := fun _ => [.int (iI (bI (0 ≤ p ∧ p < (ft 6))))]) C dX8_barred_5 (c_X6_hasPerson l D d (q 2) qt ft p hp (by omega)) [1] rfl rfl 1 rfl rfl rfl (Nat.le_of_ble_eq_true rfl) ⟨by omega, by omega⟩ ⟨Nat.zero_le _, Nat.zero_le _⟩ (fun _ => rfl) (fun _ => rfl) (fun _ => rfl) ?_
  intro _ _
  refine V_ifb_eq (pc := 8) 22 C dX8_barred_8 (by decide) (fun c8 => ?_) (fun c8 => ?_)
  · refine V_iconst (pc := 22) C dX8_barred_22 ?_
    exact V_iret (pc := 23) C Z dX8_barred_23 () trivial (ri (by unfold pBarred bitI; (try dsimp only); (repeat' split) <;> first | rfl | omega)) rfl
  · refine V_aload_n (pc := 11) C dX8_barred_11 rfl 0 rfl ?_
    refine gf_X8_26 (x := q 2) (pc := 12) C dX8_barred_12 0 rfl rfl ?_
    refine V_iload_n (pc := 15) C dX8_barred_15 rfl 2 rfl ?_
    refine cv_X8_123 (pc := 16) (rest := []) (wn := fun _ => [(o, .inr (8, fX8 q f)), (q 2, .inr (6, fX6 qt ft)), (qt 3, aI (d 0) 6 T3)]) (sn := fun _ => [.int (iI (bI (0 ≤ k ∧ k < (ft 7))))]) C dX8_barred_16 (c_X6_hasCounter l D d (q 2) qt ft k hk (by omega)) [1] rfl rfl 1 rfl rfl rfl (Nat.le_of_ble_eq_true rfl) ⟨by omega, by omega⟩ ⟨Nat.zero_le _, Nat.zero_le _⟩ (fun _ => rfl) (fun _ => rfl) (fun _ => rfl) ?_
    intro _ _
    refine V_ifb_ne (pc := 19) 24 C dX8_barred_19 (by decide) (fun c19 => ?_) (fun c19 => ?_)
    · refine V_aload_n (pc := 24) C dX8_barred_24 rfl 0 rfl ?_
      refine gf_X8_26 (x := q 2) (pc := 25) C dX8_barred_25 0 rfl rfl ?_
      refine V_iload_n (pc := 28) C dX8_barred_28 rfl 1 rfl ?_
      refine V_iload_n (pc := 29) C dX8_barred_29 rfl 2 rfl ?_
      refine cv_X8_139 (pc := 30) (rest := []) (wn := fun _ => [(o, .inr (8, fX8 q f)), (q 2, .inr (6, fX6 qt ft)), (qt 3, aI (d 0) 6 T3)]) (sn := fun _ => [.int (iI (bI (T3 p / 2 ^ k.toNat % 2 = 1)))]) C dX8_barred_30 (c_X6_bars l D d (q 2) qt ft p k T3 (by omega) (by omega) hT3) [1, 2] rfl rfl 1 rfl rfl rfl (Nat.le_of_ble_eq_true rfl) ⟨by omega, by omega⟩ ⟨Nat.zero_le _, Nat.zero_le _⟩ (fun _ => rfl) (fun _ => rfl) (fun _ => rfl) ?_
      intro _ _
      refine V_ifb_eq (pc := 33) 40 C dX8_barred_33 (by decide) (fun c33 => ?_) (fun c33 => ?_)
      · refine V_iconst (pc := 40) C dX8_barred_40 ?_
        exact V_iret (pc := 41) C Z dX8_barred_41 () trivial (ri (by unfold pBarred bitI; (try dsimp only); (repeat' split) <;> first | rfl | omega)) rfl
      · refine V_iconst (pc := 36) C dX8_barred_36 ?_
        refine V_goto (pc := 37) 41 C dX8_barred_37 (by decide) ?_
        exact V_iret (pc := 41) C Z dX8_barred_41 () trivial (ri (by unfold pBarred bitI; (try dsimp only); (repeat' split) <;> first | rfl | omega)) rfl
    · refine V_iconst (pc := 22) C dX8_barred_22 ?_
      exact V_iret (pc := 23) C Z dX8_barred_23 () trivial (ri (by unfold pBarred bitI; (try dsimp only); (repeat' split) <;> first | rfl | omega)) rfl
set_option maxRecDepth 100000 in
set_option maxHeartbeats 4000000 in
theorem c_X8_plaster (l : Launch) (D : va_G) (d : Nat → ClassId) (o : Nat) (q : Nat → Nat) (f : Nat → Int) (qt : Nat → Nat) (ft : Nat → Int) (qa : Nat → Nat) (fa : Nat → Int) (A0 : Int → Int) (p : Int) (x : Int) (hP : 0 ≤ ft 6 ∧ ft 6 ≤ 6) (hA0 : bd A0 0 99) (hp : -2147483648 ≤ p ∧ p ≤ 2147483647) (hx : -2147483648 ≤ x ∧ x ≤ 2147483647) : CU l yX8_plaster cX8_plaster 4 (some .int) 1 22 D d [.ref o, .int (iI p), .int (iI x)] [(o, .inr (8, fX8 q f)), (q 2, .inr (6, fX6 qt ft)), (q 4, .inr (5, fX5 qa fa)), (qa 0, aI (d 0) 6 A0)] (fun (u : Int × (Int → Int)) => u = pPlaster (ft 6) A0 p x) (fun (u : Int × (Int → Int)) => some (.int (iI (u.1)))) (fun (u : Int × (Int → Int)) => [(o, .inr (8, fX8 q f)), (q 2, .inr (6, fX6 qt ft)), (q 4, .inr (5, fX5 qa fa)), (qa 0, aI (d 0) 6 u.2)]) := by
  refine CU.mk (own := RX8) (lv := [(0, .ref o), (1, .int (iI p)), (2, .int (iI x))]) rfl (by decide) (Nat.le_of_ble_eq_true rfl) rfl ?_
  intro p9 e9 R9 s9 m9 args9 below9 meth9 c9 A9 Q9 hRf hRl C Z
  refine V_aload_n (pc := 0) C dX8_plaster_0 rfl 0 rfl ?_
  refine gf_X8_26 (x := q 2) (pc := 1) C dX8_plaster_1 0 rfl rfl ?_
  refine V_iload_n (pc := 4) C dX8_plaster_4 rfl 1 rfl ?_
  refine cv_X8_99 (pc := 5) (rest := []) (wn := fun _ => [(o, .inr (8, fX8 q f)), (q 2, .inr (6, fX6 qt ft)), (q 4, .inr (5, fX5 qa fa)), (qa 0, aI (d 0) 6 A0)]) (sn := fun _ => [.int (iI (bI (0 ≤ p ∧ p < (ft 6))))]) C dX8_plaster_5 (c_X6_hasPerson l D d (q 2) qt ft p hp (by omega)) [1] rfl rfl 1 rfl rfl rfl (Nat.le_of_ble_eq_true rfl) ⟨by omega, by omega⟩ ⟨Nat.zero_le _, Nat.zero_le _⟩ (fun _ => rfl) (fun _ => rfl) (fun _ => rfl) ?_
  intro _ _
  refine V_ifb_ne (pc := 8) 13 C dX8_plaster_8 (by decide) (fun c8 => ?_) (fun c8 => ?_)
  · refine V_iload_n (pc := 13) C dX8_plaster_13 rfl 2 rfl ?_
    refine V_iconst (pc := 14) C dX8_plaster_14 ?_
    refine V_bipush (pc := 15) C dX8_plaster_15 rfl ?_
    refine cs_X8_72 (pc := 17) (rest := []) (wn := fun _ => [(o, .inr (8, fX8 q f)), (q 2, .inr (6, fX6 qt ft)), (q 4, .inr (5, fX5 qa fa)), (qa 0, aI (d 0) 6 A0)]) (sn := fun _ => [.int (iI (bI (1 ≤ x ∧ x ≤ 99)))]) C dX8_plaster_17 (c_X8_within l D d x 1 99 hx (by omega) (by omega)) [] rfl rfl rfl rfl (Nat.le_of_ble_eq_true rfl) ⟨by omega, by omega⟩ ⟨Nat.zero_le _, Nat.zero_le _⟩ (fun _ => rfl) (fun _ => rfl) (fun _ => rfl) ?_
    intro _ _
    refine V_ifb_ne (pc := 20) 26 C dX8_plaster_20 (by decide) (fun c20 => ?_) (fun c20 => ?_)
    · refine V_aload_n (pc := 26) C dX8_plaster_26 rfl 0 rfl ?_
      refine gf_X8_36 (x := q 4) (pc := 27) C dX8_plaster_27 0 rfl rfl ?_
      refine gf_X8_103 (x := qa 0) (pc := 30) C dX8_plaster_30 2 rfl rfl ?_
      refine V_iload_n (pc := 33) C dX8_plaster_33 rfl 1 rfl ?_
      refine V_iald (f := A0) (pc := 34) C dX8_plaster_34 3 rfl (by omega) (by omega) (Nat.le_of_ble_eq_true rfl) ?_
      have b34 := hA0 p
      refine V_istore_n (lv' := [(3, .int (iI (A0 p))), (0, .ref o), (1, .int (iI p)), (2, .int (iI x))]) (pc := 35) C dX8_plaster_35 rfl (by decide) rfl ?_
      refine V_aload_n (pc := 36) C dX8_plaster_36 rfl 1 rfl ?_
      refine gf_X8_36 (x := q 4) (pc := 37) C dX8_plaster_37 0 rfl rfl ?_
      refine gf_X8_103 (x := qa 0) (pc := 40) C dX8_plaster_40 2 rfl rfl ?_
      refine V_iload_n (pc := 43) C dX8_plaster_43 rfl 2 rfl ?_
      refine V_iload_n (pc := 44) C dX8_plaster_44 rfl 3 rfl ?_
      refine V_iast (f := A0) (ws' := [(o, .inr (8, fX8 q f)), (q 2, .inr (6, fX6 qt ft)), (q 4, .inr (5, fX5 qa fa)), (qa 0, aI (d 0) 6 (uI A0 p x))]) (pc := 45) C dX8_plaster_45 3 rfl (by omega) (by omega) (Nat.le_of_ble_eq_true rfl) rfl ?_
      refine V_iload_n (pc := 46) C dX8_plaster_46 rfl 0 rfl ?_
      exact V_iret (pc := 47) C Z dX8_plaster_47 (A0 p, uI A0 p x) (by unfold pPlaster; (try dsimp only); (repeat' split) <;> first | rfl | omega) (ri (by rfl)) rfl
    · refine V_bipush (pc := 23) C dX8_plaster_23 rfl ?_
      exact V_iret (pc := 25) C Z dX8_plaster_25 (-2, A0) (by unfold pPlaster; (try dsimp only); (repeat' split) <;> first | rfl | omega) (ri (by rfl)) rfl
  · refine V_iconst (pc := 11) C dX8_plaster_11 ?_
    exact V_iret (pc := 12) C Z dX8_plaster_12 (-1, A0) (by unfold pPlaster; (try dsimp only); (repeat' split) <;> first | rfl | omega) (ri (by rfl)) rfl
set_option maxRecDepth 100000 in
set_option maxHeartbeats 4000000 in
theorem c_X8_common (l : Launch) (D : va_G) (d : Nat → ClassId) (o : Nat) (q : Nat → Nat) (f : Nat → Int) (qa : Nat → Nat) (fa : Nat → Int) (x : Int) (hx : -2147483648 ≤ x ∧ x ≤ 2147483647) : CU l yX8_common cX8_common 3 (some .int) 1 22 D d [.ref o, .int (iI x)] [(o, .inr (8, fX8 q f)), (q 4, .inr (5, fX5 qa fa))] (fun (u : Int × Int) => u = pCommon (fa 7) x) (fun (u : Int × Int) => some (.int (iI (u.1)))) (fun (u : Int × Int) => [(o, .inr (8, fX8 q f)), (q 4, .inr (5, fX5 qa (up fa 7 u.2)))]) := by
  refine CU.mk (own := RX8) (lv := [(0, .ref o), (1, .int (iI x))]) rfl (by decide) (Nat.le_of_ble_eq_true rfl) rfl ?_
  intro p9 e9 R9 s9 m9 args9 below9 meth9 c9 A9 Q9 hRf hRl C Z
  refine V_iload_n (pc := 0) C dX8_common_0 rfl 1 rfl ?_
  refine V_iconst (pc := 1) C dX8_common_1 ?_
  refine V_bipush (pc := 2) C dX8_common_2 rfl ?_
  refine cs_X8_72 (pc := 4) (rest := []) (wn := fun _ => [(o, .inr (8, fX8 q f)), (q 4, .inr (5, fX5 qa fa))]) (sn := fun _ => [.int (iI (bI (1 ≤ x ∧ x ≤ 99)))]) C dX8_common_4 (c_X8_within l D d x 1 99 hx (by omega) (by omega)) [] rfl rfl rfl rfl (Nat.le_of_ble_eq_true rfl) ⟨by omega, by omega⟩ ⟨Nat.zero_le _, Nat.zero_le _⟩ (fun _ => rfl) (fun _ => rfl) (fun _ => rfl) ?_
  intro _ _
  refine V_ifb_ne (pc := 7) 13 C dX8_common_7 (by decide) (fun c7 => ?_) (fun c7 => ?_)
  · refine V_aload_n (pc := 13) C dX8_common_13 rfl 0 rfl ?_
    refine gf_X8_36 (x := q 4) (pc := 14) C dX8_common_14 0 rfl rfl ?_
    refine gf_X8_143 (x := fa 7) (pc := 17) C dX8_common_17 1 rfl rfl ?_
    refine V_istore_n (lv' := [(2, .int (iI (fa 7))), (0, .ref o), (1, .int (iI x))]) (pc := 20) C dX8_common_20 rfl (by decide) rfl ?_
    refine V_aload_n (pc := 21) C dX8_common_21 rfl 1 rfl ?_
    refine gf_X8_36 (x := q 4) (pc := 22) C dX8_common_22 0 rfl rfl ?_
    refine V_iload_n (pc := 25) C dX8_common_25 rfl 2 rfl ?_
    refine pf_X8_143 (ws' := [(o, .inr (8, fX8 q f)), (q 4, .inr (5, fX5 qa (up fa 7 x)))]) (pc := 26) C dX8_common_26 1 rfl rfl ?_
    refine V_iload_n (pc := 29) C dX8_common_29 rfl 0 rfl ?_
    exact V_iret (pc := 30) C Z dX8_common_30 (fa 7, x) (by unfold pCommon; (try dsimp only); (repeat' split) <;> first | rfl | omega) (ri (by rfl)) (by first | rfl | rw [up_same rfl])
  · refine V_bipush (pc := 10) C dX8_common_10 rfl ?_
    exact V_iret (pc := 12) C Z dX8_common_12 (-2, fa 7) (by unfold pCommon; (try dsimp only); (repeat' split) <;> first | rfl | omega) (ri (by rfl)) (by first | rfl | rw [up_same rfl])
set_option maxRecDepth 100000 in
set_option maxHeartbeats 4000000 in
theorem c_X8_buy (l : Launch) (D : va_G) (d : Nat → ClassId) (o : Nat) (q : Nat → Nat) (f : Nat → Int) (qt : Nat → Nat) (ft : Nat → Int) (qa : Nat → Nat) (fa : Nat → Int) (T3 : Int → Int) (A0 : Int → Int) (A1 : Int → Int) (A2 : Int → Int) (A3 : Int → Int) (A4 : Int → Int) (A5 : Int → Int) (p : Int) (k : Int) (n : Int) (hP : 0 ≤ ft 6 ∧ ft 6 ≤ 6) (hC : 0 ≤ ft 7 ∧ ft 7 ≤ 4) (hn : 0 ≤ fa 6 ∧ fa 6 ≤ 12) (hT3 : bd T3 0 15) (hA0 : bd A0 0 99) (hA1 : bd A1 0 9999) (hp : -2147483648 ≤ p ∧ p ≤ 2147483647) (hk : -2147483648 ≤ k ∧ k ≤ 2147483647) (hnn : -2147483648 ≤ n ∧ n ≤ 2147483647) : CU l yX8_buy cX8_buy 5 (some .int) 1 23 D d [.ref o, .int (iI p), .int (iI k), .int (iI n)] [(o, .inr (8, fX8 q f)), (q 2, .inr (6, fX6 qt ft)), (qt 3, aI (d 0) 6 T3), (q 4, .inr (5, fX5 qa fa)), (qa 0, aI (d 0) 6 A0), (qa 1, aI (d 0) 4 A1), (qa 2, aI (d 0) 12 A2), (qa 3, aI (d 0) 12 A3), (qa 4, aI (d 0) 12 A4), (qa 5, aI (d 0) 12 A5)] (fun (u : Int × Int × (Int → Int) × (Int → Int) × (Int → Int) × (Int → Int) × (Int → Int)) => u = pBuy (ft 6) (ft 7) (fa 6) (fun i c => bitI (T3 i) c) A0 A1 A2 A3 A4 A5 p k n) (fun (u : Int × Int × (Int → Int) × (Int → Int) × (Int → Int) × (Int → Int) × (Int → Int)) => some (.int (iI (u.1)))) (fun (u : Int × Int × (Int → Int) × (Int → Int) × (Int → Int) × (Int → Int) × (Int → Int)) => [(o, .inr (8, fX8 q f)), (q 2, .inr (6, fX6 qt ft)), (qt 3, aI (d 0) 6 T3), (q 4, .inr (5, fX5 qa (up fa 6 u.2.1))), (qa 0, aI (d 0) 6 A0), (qa 1, aI (d 0) 4 u.2.2.1), (qa 2, aI (d 0) 12 u.2.2.2.1), (qa 3, aI (d 0) 12 u.2.2.2.2.1), (qa 4, aI (d 0) 12 u.2.2.2.2.2.1), (qa 5, aI (d 0) 12 u.2.2.2.2.2.2)]) := by
  refine CU.mk (own := RX8) (lv := [(0, .ref o), (1, .int (iI p)), (2, .int (iI k)), (3, .int (iI n))]) rfl (by decide) (Nat.le_of_ble_eq_true rfl) rfl ?_
  intro p9 e9 R9 s9 m9 args9 below9 meth9 c9 A9 Q9 hRf hRl C Z
  refine V_aload_n (pc := 0) C dX8_buy_0 rfl 0 rfl ?_
  refine gf_X8_26 (x := q 2) (pc := 1) C dX8_buy_1 0 rfl rfl ?_
  refine V_iload_n (pc := 4) C dX8_buy_4 rfl 1 rfl ?_
  refine cv_X8_99 (pc := 5) (rest := []) (wn := fun _ => [(o, .inr (8, fX8 q f)), (q 2, .inr (6, fX6 qt ft)), (qt 3, aI (d 0) 6 T3), (q 4, .inr (5, fX5 qa fa)), (qa 0, aI (d 0) 6 A0), (qa 1, aI (d 0) 4 A1), (qa 2, aI (d 0) 12 A2), (qa 3, aI (d 0) 12 A3), (qa 4, aI (d 0) 12 A4), (qa 5, aI (d 0) 12 A5)]) (sn := fun _ => [.int (iI (bI (0 ≤ p ∧ p < (ft 6))))]) C dX8_buy_5 (c_X6_hasPerson l D d (q 2) qt ft p hp (by omega)) [1] rfl rfl 1 rfl rfl rfl (Nat.le_of_ble_eq_true rfl) ⟨by omega, by omega⟩ ⟨Nat.zero_le _, Nat.zero_le _⟩ (fun _ => rfl) (fun _ => rfl) (fun _ => rfl) ?_
  intro _ _
  refine V_ifb_eq (pc := 8) 22 C dX8_buy_8 (by decide) (fun c8 => ?_) (fun c8 => ?_)
  · refine V_iconst (pc := 22) C dX8_buy_22 ?_
    exact V_iret (pc := 23) C Z dX8_buy_23 (-1, fa 6, A1, A2, A3, A4, A5) (by unfold pBuy bitI; (try dsimp only); (repeat' split) <;> first | rfl | omega) (ri (by rfl)) (by first | rfl | rw [up_same rfl])
  · refine V_aload_n (pc := 11) C dX8_buy_11 rfl 0 rfl ?_
    refine gf_X8_26 (x := q 2) (pc := 12) C dX8_buy_12 0 rfl rfl ?_
    refine V_iload_n (pc := 15) C dX8_buy_15 rfl 2 rfl ?_
    refine cv_X8_123 (pc := 16) (rest := []) (wn := fun _ => [(o, .inr (8, fX8 q f)), (q 2, .inr (6, fX6 qt ft)), (qt 3, aI (d 0) 6 T3), (q 4, .inr (5, fX5 qa fa)), (qa 0, aI (d 0) 6 A0), (qa 1, aI (d 0) 4 A1), (qa 2, aI (d 0) 12 A2), (qa 3, aI (d 0) 12 A3), (qa 4, aI (d 0) 12 A4), (qa 5, aI (d 0) 12 A5)]) (sn := fun _ => [.int (iI (bI (0 ≤ k ∧ k < (ft 7))))]) C dX8_buy_16 (c_X6_hasCounter l D d (q 2) qt ft k hk (by omega)) [1] rfl rfl 1 rfl rfl rfl (Nat.le_of_ble_eq_true rfl) ⟨by omega, by omega⟩ ⟨Nat.zero_le _, Nat.zero_le _⟩ (fun _ => rfl) (fun _ => rfl) (fun _ => rfl) ?_
    intro _ _
    refine V_ifb_ne (pc := 19) 24 C dX8_buy_19 (by decide) (fun c19 => ?_) (fun c19 => ?_)
    · refine V_iload_n (pc := 24) C dX8_buy_24 rfl 3 rfl ?_
      refine V_iconst (pc := 25) C dX8_buy_25 ?_
      refine V_bipush (pc := 26) C dX8_buy_26 rfl ?_
      refine cs_X8_72 (pc := 28) (rest := []) (wn := fun _ => [(o, .inr (8, fX8 q f)), (q 2, .inr (6, fX6 qt ft)), (qt 3, aI (d 0) 6 T3), (q 4, .inr (5, fX5 qa fa)), (qa 0, aI (d 0) 6 A0), (qa 1, aI (d 0) 4 A1), (qa 2, aI (d 0) 12 A2), (qa 3, aI (d 0) 12 A3), (qa 4, aI (d 0) 12 A4), (qa 5, aI (d 0) 12 A5)]) (sn := fun _ => [.int (iI (bI (1 ≤ n ∧ n ≤ 99)))]) C dX8_buy_28 (c_X8_within l D d n 1 99 hnn (by omega) (by omega)) [] rfl rfl rfl rfl (Nat.le_of_ble_eq_true rfl) ⟨by omega, by omega⟩ ⟨Nat.zero_le _, Nat.zero_le _⟩ (fun _ => rfl) (fun _ => rfl) (fun _ => rfl) ?_
      intro _ _
      refine V_ifb_ne (pc := 31) 37 C dX8_buy_31 (by decide) (fun c31 => ?_) (fun c31 => ?_)
      · refine V_iload_n (pc := 37) C dX8_buy_37 rfl 3 rfl ?_
        refine V_aload_n (pc := 38) C dX8_buy_38 rfl 0 rfl ?_
        refine gf_X8_36 (x := q 4) (pc := 39) C dX8_buy_39 0 rfl rfl ?_
        refine gf_X8_103 (x := qa 0) (pc := 42) C dX8_buy_42 3 rfl rfl ?_
        refine V_iload_n (pc := 45) C dX8_buy_45 rfl 1 rfl ?_
        refine V_iald (f := A0) (pc := 46) C dX8_buy_46 4 rfl (by omega) (by omega) (Nat.le_of_ble_eq_true rfl) ?_
        have b46 := hA0 p
        refine V_imul (pc := 47) C dX8_buy_47 ?_
        have m48 := mulb (show 0 ≤ n ∧ n ≤ 99 by omega) b46
        refine V_istore (lv' := [(4, .int (iI (n * (A0 p)))), (0, .ref o), (1, .int (iI p)), (2, .int (iI k)), (3, .int (iI n))]) (pc := 48) C dX8_buy_48 (by decide) rfl ?_
        refine V_aload_n (pc := 50) C dX8_buy_50 rfl 1 rfl ?_
        refine gf_X8_26 (x := q 2) (pc := 51) C dX8_buy_51 0 rfl rfl ?_
        refine V_iload_n (pc := 54) C dX8_buy_54 rfl 2 rfl ?_
        refine V_iload_n (pc := 55) C dX8_buy_55 rfl 3 rfl ?_
        refine cv_X8_139 (pc := 56) (rest := []) (wn := fun _ => [(o, .inr (8, fX8 q f)), (q 2, .inr (6, fX6 qt ft)), (qt 3, aI (d 0) 6 T3), (q 4, .inr (5, fX5 qa fa)), (qa 0, aI (d 0) 6 A0), (qa 1, aI (d 0) 4 A1), (qa 2, aI (d 0) 12 A2), (qa 3, aI (d 0) 12 A3), (qa 4, aI (d 0) 12 A4), (qa 5, aI (d 0) 12 A5)]) (sn := fun _ => [.int (iI (bI (T3 p / 2 ^ k.toNat % 2 = 1)))]) C dX8_buy_56 (c_X6_bars l D d (q 2) qt ft p k T3 (by omega) (by omega) hT3) [1, 2] rfl rfl 1 rfl rfl rfl (Nat.le_of_ble_eq_true rfl) ⟨by omega, by omega⟩ ⟨Nat.zero_le _, Nat.zero_le _⟩ (fun _ => rfl) (fun _ => rfl) (fun _ => rfl) ?_
        intro _ _
        refine V_ifb_ne (pc := 59) 76 C dX8_buy_59 (by decide) (fun c59 => ?_) (fun c59 => ?_)
        · refine V_bipush (pc := 76) C dX8_buy_76 rfl ?_
          exact V_iret (pc := 78) C Z dX8_buy_78 (-3, fa 6, A1, A2, A3, A4, A5) (by unfold pBuy bitI; (try dsimp only); (repeat' split) <;> first | rfl | omega) (ri (by rfl)) (by first | rfl | rw [up_same rfl])
        · refine V_iload (pc := 62) C dX8_buy_62 0 rfl ?_
          refine V_aload_n (pc := 64) C dX8_buy_64 rfl 1 rfl ?_
          refine gf_X8_36 (x := q 4) (pc := 65) C dX8_buy_65 0 rfl rfl ?_
          refine gf_X8_129 (x := qa 1) (pc := 68) C dX8_buy_68 3 rfl rfl ?_
          refine V_iload_n (pc := 71) C dX8_buy_71 rfl 3 rfl ?_
          refine V_iald (f := A1) (pc := 72) C dX8_buy_72 5 rfl (by omega) (by omega) (Nat.le_of_ble_eq_true rfl) ?_
          have b72 := hA1 k
          refine V_icmp_le (pc := 73) 79 C dX8_buy_73 (by decide) (sm_i (by omega)) (sm_i (by omega)) (fun c73 => ?_) (fun c73 => ?_)
          · refine V_aload_n (pc := 79) C dX8_buy_79 rfl 1 rfl ?_
            refine gf_X8_36 (x := q 4) (pc := 80) C dX8_buy_80 0 rfl rfl ?_
            refine gf_X8_146 (x := fa 6) (pc := 83) C dX8_buy_83 3 rfl rfl ?_
            refine V_bipush (pc := 86) C dX8_buy_86 rfl ?_
            refine V_icmp_lt (pc := 88) 94 C dX8_buy_88 (by decide) (sm_i (by omega)) (sm_i (by decide)) (fun c88 => ?_) (fun c88 => ?_)
            · refine V_aload_n (pc := 94) C dX8_buy_94 rfl 1 rfl ?_
              refine gf_X8_36 (x := q 4) (pc := 95) C dX8_buy_95 0 rfl rfl ?_
              refine V_iload_n (pc := 98) C dX8_buy_98 rfl 2 rfl ?_
              refine V_iload_n (pc := 99) C dX8_buy_99 rfl 3 rfl ?_
              refine V_iload_n (pc := 100) C dX8_buy_100 rfl 4 rfl ?_
              refine cv_X8_149 (pc := 101) (rest := []) (wn := fun _ => [(o, .inr (8, fX8 q f)), (q 2, .inr (6, fX6 qt ft)), (qt 3, aI (d 0) 6 T3), (q 4, .inr (5, fX5 qa (up fa 6 ((fa 6) + 1)))), (qa 0, aI (d 0) 6 A0), (qa 1, aI (d 0) 4 (uI A1 k (A1 k - n * A0 p))), (qa 2, aI (d 0) 12 (uI A2 ((fa 6)) p)), (qa 3, aI (d 0) 12 (uI A3 ((fa 6)) k)), (qa 4, aI (d 0) 12 (uI A4 ((fa 6)) n)), (qa 5, aI (d 0) 12 (uI A5 ((fa 6)) (n * A0 p)))]) (sn := fun _ => []) C dX8_buy_101 (c_X5_sell l D d (q 4) qa fa A0 A1 A2 A3 A4 A5 p k n (by omega) (by omega) (by omega)) [3, 4, 5, 6, 7, 8, 9] rfl rfl 3 rfl rfl rfl (Nat.le_of_ble_eq_true rfl) ⟨by omega, by omega⟩ ⟨Nat.zero_le _, Nat.zero_le _⟩ (fun _ => rfl) (fun _ => rfl) (fun _ => rfl) ?_
              intro _ _
              refine V_iload (pc := 104) C dX8_buy_104 0 rfl ?_
              exact V_iret (pc := 106) C Z dX8_buy_106 (n * (A0 p), (fa 6) + 1, uI A1 k (A1 k - n * A0 p), uI A2 ((fa 6)) p, uI A3 ((fa 6)) k, uI A4 ((fa 6)) n, uI A5 ((fa 6)) (n * A0 p)) (by unfold pBuy bitI; (try dsimp only); (repeat' split) <;> first | rfl | omega) (ri (by rfl)) (by first | rfl | rw [up_same rfl])
            · refine V_bipush (pc := 91) C dX8_buy_91 rfl ?_
              exact V_iret (pc := 93) C Z dX8_buy_93 (-4, fa 6, A1, A2, A3, A4, A5) (by unfold pBuy bitI; (try dsimp only); (repeat' split) <;> first | rfl | omega) (ri (by rfl)) (by first | rfl | rw [up_same rfl])
          · refine V_bipush (pc := 76) C dX8_buy_76 rfl ?_
            exact V_iret (pc := 78) C Z dX8_buy_78 (-3, fa 6, A1, A2, A3, A4, A5) (by unfold pBuy bitI; (try dsimp only); (repeat' split) <;> first | rfl | omega) (ri (by rfl)) (by first | rfl | rw [up_same rfl])
      · refine V_bipush (pc := 34) C dX8_buy_34 rfl ?_
        exact V_iret (pc := 36) C Z dX8_buy_36 (-2, fa 6, A1, A2, A3, A4, A5) (by unfold pBuy bitI; (try dsimp only); (repeat' split) <;> first | rfl | omega) (ri (by rfl)) (by first | rfl | rw [up_same rfl])
    · refine V_iconst (pc := 22) C dX8_buy_22 ?_
      exact V_iret (pc := 23) C Z dX8_buy_23 (-1, fa 6, A1, A2, A3, A4, A5) (by unfold pBuy bitI; (try dsimp only); (repeat' split) <;> first | rfl | omega) (ri (by rfl)) (by first | rfl | rw [up_same rfl])
set_option maxRecDepth 100000 in
set_option maxHeartbeats 4000000 in
theorem c_X8_undo (l : Launch) (D : va_G) (d : Nat → ClassId) (o : Nat) (q : Nat → Nat) (f : Nat → Int) (qa : Nat → Nat) (fa : Nat → Int) (A1 : Int → Int) (A3 : Int → Int) (A5 : Int → Int) (hn : 0 ≤ fa 6 ∧ fa 6 ≤ 12) (hA3 : bd A3 0 3) : CU l yX8_undo cX8_undo 1 (some .int) 1 20 D d [.ref o] [(o, .inr (8, fX8 q f)), (q 4, .inr (5, fX5 qa fa)), (qa 1, aI (d 0) 4 A1), (qa 3, aI (d 0) 12 A3), (qa 5, aI (d 0) 12 A5)] (fun (u : Int × Int × (Int → Int)) => u = pUndo (fa 6) A1 A3 A5) (fun (u : Int × Int × (Int → Int)) => some (.int (iI (u.1)))) (fun (u : Int × Int × (Int → Int)) => [(o, .inr (8, fX8 q f)), (q 4, .inr (5, fX5 qa (up fa 6 u.2.1))), (qa 1, aI (d 0) 4 u.2.2), (qa 3, aI (d 0) 12 A3), (qa 5, aI (d 0) 12 A5)]) := by
  refine CU.mk (own := RX8) (lv := [(0, .ref o)]) rfl (by decide) (Nat.le_of_ble_eq_true rfl) rfl ?_
  intro p9 e9 R9 s9 m9 args9 below9 meth9 c9 A9 Q9 hRf hRl C Z
  refine V_aload_n (pc := 0) C dX8_undo_0 rfl 0 rfl ?_
  refine gf_X8_36 (x := q 4) (pc := 1) C dX8_undo_1 0 rfl rfl ?_
  refine gf_X8_146 (x := fa 6) (pc := 4) C dX8_undo_4 1 rfl rfl ?_
  refine V_if_gt (pc := 7) 13 C dX8_undo_7 (by decide) (sm_i (by omega)) (fun c7 => ?_) (fun c7 => ?_)
  · refine V_aload_n (pc := 13) C dX8_undo_13 rfl 0 rfl ?_
    refine gf_X8_36 (x := q 4) (pc := 14) C dX8_undo_14 0 rfl rfl ?_
    refine cv_X8_153 (pc := 17) (rest := []) (wn := fun _ => [(o, .inr (8, fX8 q f)), (q 4, .inr (5, fX5 qa (up fa 6 ((fa 6) - 1)))), (qa 1, aI (d 0) 4 (uI A1 (A3 ((fa 6) - 1)) (A1 (A3 ((fa 6) - 1)) + A5 ((fa 6) - 1)))), (qa 3, aI (d 0) 12 A3), (qa 5, aI (d 0) 12 A5)]) (sn := fun _ => []) C dX8_undo_17 (c_X5_takeBack l D d (q 4) qa fa A1 A3 A5 (by omega) hA3) [1, 2, 3, 4] rfl rfl 1 rfl rfl rfl (Nat.le_of_ble_eq_true rfl) ⟨by omega, by omega⟩ ⟨Nat.zero_le _, Nat.zero_le _⟩ (fun _ => rfl) (fun _ => rfl) (fun _ => rfl) ?_
    intro _ _
    refine V_aload_n (pc := 20) C dX8_undo_20 rfl 0 rfl ?_
    refine gf_X8_36 (x := q 4) (pc := 21) C dX8_undo_21 0 rfl rfl ?_
    refine gf_X8_146 (x := (fa 6) - 1) (pc := 24) C dX8_undo_24 1 rfl rfl ?_
    exact V_iret (pc := 27) C Z dX8_undo_27 ((fa 6) - 1, (fa 6) - 1, uI A1 (A3 ((fa 6) - 1)) (A1 (A3 ((fa 6) - 1)) + A5 ((fa 6) - 1))) (by unfold pUndo; (try dsimp only); (repeat' split) <;> first | rfl | omega) (ri (by rfl)) (by first | rfl | rw [up_same rfl])
  · refine V_bipush (pc := 10) C dX8_undo_10 rfl ?_
    exact V_iret (pc := 12) C Z dX8_undo_12 (-3, fa 6, A1) (by unfold pUndo; (try dsimp only); (repeat' split) <;> first | rfl | omega) (ri (by rfl)) (by first | rfl | rw [up_same rfl])
set_option maxRecDepth 100000 in
set_option maxHeartbeats 4000000 in
theorem c_X8_sale (l : Launch) (D : va_G) (d : Nat → ClassId) (o : Nat) (q : Nat → Nat) (f : Nat → Int) (qa : Nat → Nat) (fa : Nat → Int) (A2 : Int → Int) (A3 : Int → Int) (A4 : Int → Int) (A5 : Int → Int) (x : Int) (w : Int) (hn : 0 ≤ fa 6 ∧ fa 6 ≤ 12) (hx : -2147483648 ≤ x ∧ x ≤ 2147483647) (hw : -2147483648 ≤ w ∧ w ≤ 2147483647) : CU l yX8_sale cX8_sale 3 (some .int) 1 22 D d [.ref o, .int (iI x), .int (iI w)] [(o, .inr (8, fX8 q f)), (q 4, .inr (5, fX5 qa fa)), (qa 2, aI (d 0) 12 A2), (qa 3, aI (d 0) 12 A3), (qa 4, aI (d 0) 12 A4), (qa 5, aI (d 0) 12 A5)] (fun (_ : Unit) => True) (fun (_ : Unit) => some (.int (iI (pSale (fa 6) A2 A3 A4 A5 x w)))) (fun (_ : Unit) => [(o, .inr (8, fX8 q f)), (q 4, .inr (5, fX5 qa fa)), (qa 2, aI (d 0) 12 A2), (qa 3, aI (d 0) 12 A3), (qa 4, aI (d 0) 12 A4), (qa 5, aI (d 0) 12 A5)]) := by
  refine CU.mk (own := RX8) (lv := [(0, .ref o), (1, .int (iI x)), (2, .int (iI w))]) rfl (by decide) (Nat.le_of_ble_eq_true rfl) rfl ?_
  intro p9 e9 R9 s9 m9 args9 below9 meth9 c9 A9 Q9 hRf hRl C Z
  refine V_iload_n (pc := 0) C dX8_sale_0 rfl 2 rfl ?_
  refine V_iconst (pc := 1) C dX8_sale_1 ?_
  refine V_iconst (pc := 2) C dX8_sale_2 ?_
  refine cs_X8_72 (pc := 3) (rest := []) (wn := fun _ => [(o, .inr (8, fX8 q f)), (q 4, .inr (5, fX5 qa fa)), (qa 2, aI (d 0) 12 A2), (qa 3, aI (d 0) 12 A3), (qa 4, aI (d 0) 12 A4), (qa 5, aI (d 0) 12 A5)]) (sn := fun _ => [.int (iI (bI (0 ≤ w ∧ w ≤ 3)))]) C dX8_sale_3 (c_X8_within l D d w 0 3 hw (by omega) (by omega)) [] rfl rfl rfl rfl (Nat.le_of_ble_eq_true rfl) ⟨by omega, by omega⟩ ⟨Nat.zero_le _, Nat.zero_le _⟩ (fun _ => rfl) (fun _ => rfl) (fun _ => rfl) ?_
  intro _ _
  refine V_ifb_ne (pc := 6) 12 C dX8_sale_6 (by decide) (fun c6 => ?_) (fun c6 => ?_)
  · refine V_iload_n (pc := 12) C dX8_sale_12 rfl 1 rfl ?_
    refine V_if_lt (pc := 13) 27 C dX8_sale_13 (by decide) (sm_i (by omega)) (fun c13 => ?_) (fun c13 => ?_)
    · refine V_bipush (pc := 27) C dX8_sale_27 rfl ?_
      exact V_iret (pc := 29) C Z dX8_sale_29 () trivial (ri (by unfold pSale; (try dsimp only); (repeat' split) <;> first | rfl | omega)) rfl
    · refine V_iload_n (pc := 16) C dX8_sale_16 rfl 1 rfl ?_
      refine V_aload_n (pc := 17) C dX8_sale_17 rfl 0 rfl ?_
      refine gf_X8_36 (x := q 4) (pc := 18) C dX8_sale_18 0 rfl rfl ?_
      refine gf_X8_146 (x := fa 6) (pc := 21) C dX8_sale_21 1 rfl rfl ?_
      refine V_icmp_lt (pc := 24) 30 C dX8_sale_24 (by decide) (sm_i (by omega)) (sm_i (by omega)) (fun c24 => ?_) (fun c24 => ?_)
      · refine V_iload_n (pc := 30) C dX8_sale_30 rfl 2 rfl ?_
        by_cases k31_0 : w = 0
        · refine V_tswIn (pc := 31) (k := 0) 56 C dX8_sale_31 k31_0 (sm_i (by omega)) (by decide) (by decide) rfl (by decide) ?_
          refine V_aload_n (pc := 56) C dX8_sale_56 rfl 0 rfl ?_
          refine gf_X8_36 (x := q 4) (pc := 57) C dX8_sale_57 0 rfl rfl ?_
          refine gf_X8_156 (x := qa 2) (pc := 60) C dX8_sale_60 1 rfl rfl ?_
          refine V_iload_n (pc := 63) C dX8_sale_63 rfl 1 rfl ?_
          refine V_iald (f := A2) (pc := 64) C dX8_sale_64 2 rfl (by omega) (by omega) (Nat.le_of_ble_eq_true rfl) ?_
          exact V_iret (pc := 65) C Z dX8_sale_65 () trivial (ri (by unfold pSale; (try dsimp only); (repeat' split) <;> first | rfl | omega)) rfl
        by_cases k31_1 : w = 1
        · refine V_tswIn (pc := 31) (k := 1) 66 C dX8_sale_31 k31_1 (sm_i (by omega)) (by decide) (by decide) rfl (by decide) ?_
          refine V_aload_n (pc := 66) C dX8_sale_66 rfl 0 rfl ?_
          refine gf_X8_36 (x := q 4) (pc := 67) C dX8_sale_67 0 rfl rfl ?_
          refine gf_X8_159 (x := qa 3) (pc := 70) C dX8_sale_70 1 rfl rfl ?_
          refine V_iload_n (pc := 73) C dX8_sale_73 rfl 1 rfl ?_
          refine V_iald (f := A3) (pc := 74) C dX8_sale_74 3 rfl (by omega) (by omega) (Nat.le_of_ble_eq_true rfl) ?_
          exact V_iret (pc := 75) C Z dX8_sale_75 () trivial (ri (by unfold pSale; (try dsimp only); (repeat' split) <;> first | rfl | omega)) rfl
        by_cases k31_2 : w = 2
        · refine V_tswIn (pc := 31) (k := 2) 76 C dX8_sale_31 k31_2 (sm_i (by omega)) (by decide) (by decide) rfl (by decide) ?_
          refine V_aload_n (pc := 76) C dX8_sale_76 rfl 0 rfl ?_
          refine gf_X8_36 (x := q 4) (pc := 77) C dX8_sale_77 0 rfl rfl ?_
          refine gf_X8_162 (x := qa 4) (pc := 80) C dX8_sale_80 1 rfl rfl ?_
          refine V_iload_n (pc := 83) C dX8_sale_83 rfl 1 rfl ?_
          refine V_iald (f := A4) (pc := 84) C dX8_sale_84 4 rfl (by omega) (by omega) (Nat.le_of_ble_eq_true rfl) ?_
          exact V_iret (pc := 85) C Z dX8_sale_85 () trivial (ri (by unfold pSale; (try dsimp only); (repeat' split) <;> first | rfl | omega)) rfl
        refine V_tswOut (pc := 31) 86 C dX8_sale_31 (sm_i (by omega)) (by omega) (by decide) ?_
        refine V_aload_n (pc := 86) C dX8_sale_86 rfl 0 rfl ?_
        refine gf_X8_36 (x := q 4) (pc := 87) C dX8_sale_87 0 rfl rfl ?_
        refine gf_X8_165 (x := qa 5) (pc := 90) C dX8_sale_90 1 rfl rfl ?_
        refine V_iload_n (pc := 93) C dX8_sale_93 rfl 1 rfl ?_
        refine V_iald (f := A5) (pc := 94) C dX8_sale_94 5 rfl (by omega) (by omega) (Nat.le_of_ble_eq_true rfl) ?_
        exact V_iret (pc := 95) C Z dX8_sale_95 () trivial (ri (by unfold pSale; (try dsimp only); (repeat' split) <;> first | rfl | omega)) rfl
      · refine V_bipush (pc := 27) C dX8_sale_27 rfl ?_
        exact V_iret (pc := 29) C Z dX8_sale_29 () trivial (ri (by unfold pSale; (try dsimp only); (repeat' split) <;> first | rfl | omega)) rfl
  · refine V_bipush (pc := 9) C dX8_sale_9 rfl ?_
    exact V_iret (pc := 11) C Z dX8_sale_11 () trivial (ri (by unfold pSale; (try dsimp only); (repeat' split) <;> first | rfl | omega)) rfl
set_option maxRecDepth 100000 in
set_option maxHeartbeats 4000000 in
theorem c_X8_truly (l : Launch) (D : va_G) (d : Nat → ClassId) (o : Nat) (q : Nat → Nat) (f : Nat → Int) (qt : Nat → Nat) (ft : Nat → Int) (qa : Nat → Nat) (fa : Nat → Int) (T4 : Int → Int) (A0 : Int → Int) (p : Int) (k : Int) (w : Int) (hP : 0 ≤ ft 6 ∧ ft 6 ≤ 6) (hC : 0 ≤ ft 7 ∧ ft 7 ≤ 4) (hT4 : bd T4 0 99) (hA0 : bd A0 0 99) (hA1 : ∀ j : Int, 0 ≤ j ∧ j < ft 6 → 1 ≤ A0 j) (hT41 : ∀ j : Int, 0 ≤ j ∧ j < ft 7 → 1 ≤ T4 j) (hp : -2147483648 ≤ p ∧ p ≤ 2147483647) (hk : -2147483648 ≤ k ∧ k ≤ 2147483647) (hw : w = 0 ∨ w = 1) : CU l yX8_truly cX8_truly 4 (some .int) 1 31 D d [.ref o, .int (iI p), .int (iI k), .int (iI w)] [(o, .inr (8, fX8 q f)), (q 2, .inr (6, fX6 qt ft)), (qt 4, aI (d 0) 4 T4), (q 4, .inr (5, fX5 qa fa)), (qa 0, aI (d 0) 6 A0)] (fun (_ : Unit) => True) (fun (_ : Unit) => some (.int (iI (pTruly (ft 6) (ft 7) A0 T4 p k w)))) (fun (_ : Unit) => [(o, .inr (8, fX8 q f)), (q 2, .inr (6, fX6 qt ft)), (qt 4, aI (d 0) 4 T4), (q 4, .inr (5, fX5 qa fa)), (qa 0, aI (d 0) 6 A0)]) := by
  refine CU.mk (own := RX8) (lv := [(0, .ref o), (1, .int (iI p)), (2, .int (iI k)), (3, .int (iI w))]) rfl (by decide) (Nat.le_of_ble_eq_true rfl) rfl ?_
  intro p9 e9 R9 s9 m9 args9 below9 meth9 c9 A9 Q9 hRf hRl C Z
  refine V_aload_n (pc := 0) C dX8_truly_0 rfl 0 rfl ?_
  refine gf_X8_26 (x := q 2) (pc := 1) C dX8_truly_1 0 rfl rfl ?_
  refine V_iload_n (pc := 4) C dX8_truly_4 rfl 1 rfl ?_
  refine cv_X8_99 (pc := 5) (rest := []) (wn := fun _ => [(o, .inr (8, fX8 q f)), (q 2, .inr (6, fX6 qt ft)), (qt 4, aI (d 0) 4 T4), (q 4, .inr (5, fX5 qa fa)), (qa 0, aI (d 0) 6 A0)]) (sn := fun _ => [.int (iI (bI (0 ≤ p ∧ p < (ft 6))))]) C dX8_truly_5 (c_X6_hasPerson l D d (q 2) qt ft p hp (by omega)) [1] rfl rfl 1 rfl rfl rfl (Nat.le_of_ble_eq_true rfl) ⟨by omega, by omega⟩ ⟨Nat.zero_le _, Nat.zero_le _⟩ (fun _ => rfl) (fun _ => rfl) (fun _ => rfl) ?_
  intro _ _
  refine V_ifb_eq (pc := 8) 22 C dX8_truly_8 (by decide) (fun c8 => ?_) (fun c8 => ?_)
  · refine V_iconst (pc := 22) C dX8_truly_22 ?_
    exact V_iret (pc := 23) C Z dX8_truly_23 () trivial (ri (by unfold pTruly; (try dsimp only); (repeat' split) <;> first | rfl | omega)) rfl
  · refine V_aload_n (pc := 11) C dX8_truly_11 rfl 0 rfl ?_
    refine gf_X8_26 (x := q 2) (pc := 12) C dX8_truly_12 0 rfl rfl ?_
    refine V_iload_n (pc := 15) C dX8_truly_15 rfl 2 rfl ?_
    refine cv_X8_123 (pc := 16) (rest := []) (wn := fun _ => [(o, .inr (8, fX8 q f)), (q 2, .inr (6, fX6 qt ft)), (qt 4, aI (d 0) 4 T4), (q 4, .inr (5, fX5 qa fa)), (qa 0, aI (d 0) 6 A0)]) (sn := fun _ => [.int (iI (bI (0 ≤ k ∧ k < (ft 7))))]) C dX8_truly_16 (c_X6_hasCounter l D d (q 2) qt ft k hk (by omega)) [1] rfl rfl 1 rfl rfl rfl (Nat.le_of_ble_eq_true rfl) ⟨by omega, by omega⟩ ⟨Nat.zero_le _, Nat.zero_le _⟩ (fun _ => rfl) (fun _ => rfl) (fun _ => rfl) ?_
    intro _ _
    refine V_ifb_ne (pc := 19) 24 C dX8_truly_19 (by decide) (fun c19 => ?_) (fun c19 => ?_)
    · have hap := hA1 p (by omega)
      have htk := hT41 k (by omega)
      refine V_aload_n (pc := 24) C dX8_truly_24 rfl 0 rfl ?_
      refine gf_X8_26 (x := q 2) (pc := 25) C dX8_truly_25 0 rfl rfl ?_
      refine gf_X8_126 (x := qt 4) (pc := 28) C dX8_truly_28 1 rfl rfl ?_
      refine V_iload_n (pc := 31) C dX8_truly_31 rfl 2 rfl ?_
      refine V_iald (f := T4) (pc := 32) C dX8_truly_32 2 rfl (by omega) (by omega) (Nat.le_of_ble_eq_true rfl) ?_
      have b32 := hT4 k
      refine V_i2l (pc := 33) C dX8_truly_33 (sm_i (by omega)) ?_
      refine V_aload_n (pc := 34) C dX8_truly_34 rfl 0 rfl ?_
      refine gf_X8_36 (x := q 4) (pc := 35) C dX8_truly_35 0 rfl rfl ?_
      refine gf_X8_103 (x := qa 0) (pc := 38) C dX8_truly_38 3 rfl rfl ?_
      refine V_iload_n (pc := 41) C dX8_truly_41 rfl 1 rfl ?_
      refine V_iald (f := A0) (pc := 42) C dX8_truly_42 4 rfl (by omega) (by omega) (Nat.le_of_ble_eq_true rfl) ?_
      have b42 := hA0 p
      refine V_i2l (pc := 43) C dX8_truly_43 (sm_i (by omega)) ?_
      refine V_iload_n (pc := 44) C dX8_truly_44 rfl 3 rfl ?_
      refine cs_X8_168 (pc := 45) (rest := []) (wn := fun _ => [(o, .inr (8, fX8 q f)), (q 2, .inr (6, fX6 qt ft)), (qt 4, aI (d 0) 4 T4), (q 4, .inr (5, fX5 qa fa)), (qa 0, aI (d 0) 6 A0)]) (sn := fun _ => [.long (lI ((if w = 0 then (A0 p) else (T4 k)) / gI (T4 k) (A0 p)))]) C dX8_truly_45 (c_X8_inLeastTerms l D d (T4 k) (A0 p) w (by omega) (by omega) hw) [] rfl rfl rfl rfl (Nat.le_of_ble_eq_true rfl) ⟨by omega, by omega⟩ ⟨Nat.zero_le _, Nat.zero_le _⟩ (fun _ => rfl) (fun _ => rfl) (fun _ => rfl) ?_
      intro _ _
      refine V_l2i (pc := 48) C dX8_truly_48 ?_
      exact V_iret (pc := 49) C Z dX8_truly_49 () trivial (ri (by unfold pTruly; (try dsimp only); (repeat' split) <;> first | rfl | omega)) rfl
    · refine V_iconst (pc := 22) C dX8_truly_22 ?_
      exact V_iret (pc := 23) C Z dX8_truly_23 () trivial (ri (by unfold pTruly; (try dsimp only); (repeat' split) <;> first | rfl | omega)) rfl
set_option maxRecDepth 100000 in
set_option maxHeartbeats 4000000 in
theorem c_X8_come (l : Launch) (D : va_G) (d : Nat → ClassId) (o : Nat) (q : Nat → Nat) (f : Nat → Int) (qt : Nat → Nat) (ft : Nat → Int) (T2 : Int → Int) (p : Int) (x : Int) (hP : 0 ≤ ft 6 ∧ ft 6 ≤ 6) (hT2 : bd T2 0 9) (hp : -2147483648 ≤ p ∧ p ≤ 2147483647) (hx : -2147483648 ≤ x ∧ x ≤ 2147483647) : CU l yX8_come cX8_come 4 (some .int) 1 22 D d [.ref o, .int (iI p), .int (iI x)] [(o, .inr (8, fX8 q f)), (q 2, .inr (6, fX6 qt ft)), (qt 2, aI (d 0) 6 T2)] (fun (u : Int × (Int → Int)) => u = pCome (ft 6) T2 p x) (fun (u : Int × (Int → Int)) => some (.int (iI (u.1)))) (fun (u : Int × (Int → Int)) => [(o, .inr (8, fX8 q f)), (q 2, .inr (6, fX6 qt ft)), (qt 2, aI (d 0) 6 u.2)]) := by
  refine CU.mk (own := RX8) (lv := [(0, .ref o), (1, .int (iI p)), (2, .int (iI x))]) rfl (by decide) (Nat.le_of_ble_eq_true rfl) rfl ?_
  intro p9 e9 R9 s9 m9 args9 below9 meth9 c9 A9 Q9 hRf hRl C Z
  refine V_aload_n (pc := 0) C dX8_come_0 rfl 0 rfl ?_
  refine gf_X8_26 (x := q 2) (pc := 1) C dX8_come_1 0 rfl rfl ?_
  refine V_iload_n (pc := 4) C dX8_come_4 rfl 1 rfl ?_
  refine cv_X8_99 (pc := 5) (rest := []) (wn := fun _ => [(o, .inr (8, fX8 q f)), (q 2, .inr (6, fX6 qt ft)), (qt 2, aI (d 0) 6 T2)]) (sn := fun _ => [.int (iI (bI (0 ≤ p ∧ p < (ft 6))))]) C dX8_come_5 (c_X6_hasPerson l D d (q 2) qt ft p hp (by omega)) [1] rfl rfl 1 rfl rfl rfl (Nat.le_of_ble_eq_true rfl) ⟨by omega, by omega⟩ ⟨Nat.zero_le _, Nat.zero_le _⟩ (fun _ => rfl) (fun _ => rfl) (fun _ => rfl) ?_
  intro _ _
  refine V_ifb_ne (pc := 8) 13 C dX8_come_8 (by decide) (fun c8 => ?_) (fun c8 => ?_)
  · refine V_iload_n (pc := 13) C dX8_come_13 rfl 2 rfl ?_
    refine V_iconst (pc := 14) C dX8_come_14 ?_
    refine V_bipush (pc := 15) C dX8_come_15 rfl ?_
    refine cs_X8_72 (pc := 17) (rest := []) (wn := fun _ => [(o, .inr (8, fX8 q f)), (q 2, .inr (6, fX6 qt ft)), (qt 2, aI (d 0) 6 T2)]) (sn := fun _ => [.int (iI (bI (0 ≤ x ∧ x ≤ 9)))]) C dX8_come_17 (c_X8_within l D d x 0 9 hx (by omega) (by omega)) [] rfl rfl rfl rfl (Nat.le_of_ble_eq_true rfl) ⟨by omega, by omega⟩ ⟨Nat.zero_le _, Nat.zero_le _⟩ (fun _ => rfl) (fun _ => rfl) (fun _ => rfl) ?_
    intro _ _
    refine V_ifb_ne (pc := 20) 26 C dX8_come_20 (by decide) (fun c20 => ?_) (fun c20 => ?_)
    · refine V_aload_n (pc := 26) C dX8_come_26 rfl 0 rfl ?_
      refine gf_X8_26 (x := q 2) (pc := 27) C dX8_come_27 0 rfl rfl ?_
      refine gf_X8_117 (x := qt 2) (pc := 30) C dX8_come_30 1 rfl rfl ?_
      refine V_iload_n (pc := 33) C dX8_come_33 rfl 1 rfl ?_
      refine V_iald (f := T2) (pc := 34) C dX8_come_34 2 rfl (by omega) (by omega) (Nat.le_of_ble_eq_true rfl) ?_
      have b34 := hT2 p
      refine V_istore_n (lv' := [(3, .int (iI (T2 p))), (0, .ref o), (1, .int (iI p)), (2, .int (iI x))]) (pc := 35) C dX8_come_35 rfl (by decide) rfl ?_
      refine V_aload_n (pc := 36) C dX8_come_36 rfl 1 rfl ?_
      refine gf_X8_26 (x := q 2) (pc := 37) C dX8_come_37 0 rfl rfl ?_
      refine gf_X8_117 (x := qt 2) (pc := 40) C dX8_come_40 1 rfl rfl ?_
      refine V_iload_n (pc := 43) C dX8_come_43 rfl 2 rfl ?_
      refine V_iload_n (pc := 44) C dX8_come_44 rfl 3 rfl ?_
      refine V_iast (f := T2) (ws' := [(o, .inr (8, fX8 q f)), (q 2, .inr (6, fX6 qt ft)), (qt 2, aI (d 0) 6 (uI T2 p x))]) (pc := 45) C dX8_come_45 2 rfl (by omega) (by omega) (Nat.le_of_ble_eq_true rfl) rfl ?_
      refine V_iload_n (pc := 46) C dX8_come_46 rfl 0 rfl ?_
      exact V_iret (pc := 47) C Z dX8_come_47 (T2 p, uI T2 p x) (by unfold pCome; (try dsimp only); (repeat' split) <;> first | rfl | omega) (ri (by rfl)) rfl
    · refine V_bipush (pc := 23) C dX8_come_23 rfl ?_
      exact V_iret (pc := 25) C Z dX8_come_25 (-2, T2) (by unfold pCome; (try dsimp only); (repeat' split) <;> first | rfl | omega) (ri (by rfl)) rfl
  · refine V_iconst (pc := 11) C dX8_come_11 ?_
    exact V_iret (pc := 12) C Z dX8_come_12 (-1, T2) (by unfold pCome; (try dsimp only); (repeat' split) <;> first | rfl | omega) (ri (by rfl)) rfl
set_option maxRecDepth 100000 in
set_option maxHeartbeats 4000000 in
theorem c_X8_earned (l : Launch) (D : va_G) (d : Nat → ClassId) (o : Nat) (q : Nat → Nat) (f : Nat → Int) (qt : Nat → Nat) (ft : Nat → Int) (qa : Nat → Nat) (fa : Nat → Int) (T2 : Int → Int) (A0 : Int → Int) (p : Int) (v : Int) (k : Int) (hP : 0 ≤ ft 6 ∧ ft 6 ≤ 6) (hT2 : bd T2 0 9) (hA0 : bd A0 0 99) (hp : -2147483648 ≤ p ∧ p ≤ 2147483647) (hv : -2147483648 ≤ v ∧ v ≤ 2147483647) (hk : -2147483648 ≤ k ∧ k ≤ 2147483647) : CU l yX8_earned cX8_earned 4 (some .int) 2 43 D d [.ref o, .int (iI p), .int (iI v), .int (iI k)] [(o, .inr (8, fX8 q f)), (q 2, .inr (6, fX6 qt ft)), (qt 2, aI (d 0) 6 T2), (q 4, .inr (5, fX5 qa fa)), (qa 0, aI (d 0) 6 A0)] (fun (_ : Unit) => True) (fun (_ : Unit) => some (.int (iI (pEarned (ft 6) A0 T2 p v k)))) (fun (_ : Unit) => [(o, .inr (8, fX8 q f)), (q 2, .inr (6, fX6 qt ft)), (qt 2, aI (d 0) 6 T2), (q 4, .inr (5, fX5 qa fa)), (qa 0, aI (d 0) 6 A0)]) := by
  refine CU.mk (own := RX8) (lv := [(0, .ref o), (1, .int (iI p)), (2, .int (iI v)), (3, .int (iI k))]) rfl (by decide) (Nat.le_of_ble_eq_true rfl) rfl ?_
  intro p9 e9 R9 s9 m9 args9 below9 meth9 c9 A9 Q9 hRf hRl C Z
  refine V_iload_n (pc := 0) C dX8_earned_0 rfl 1 rfl ?_
  refine V_iconst (pc := 1) C dX8_earned_1 ?_
  refine V_sipush (pc := 2) C dX8_earned_2 rfl ?_
  refine cs_X8_72 (pc := 5) (rest := []) (wn := fun _ => [(o, .inr (8, fX8 q f)), (q 2, .inr (6, fX6 qt ft)), (qt 2, aI (d 0) 6 T2), (q 4, .inr (5, fX5 qa fa)), (qa 0, aI (d 0) 6 A0)]) (sn := fun _ => [.int (iI (bI (1 ≤ p ∧ p ≤ 999)))]) C dX8_earned_5 (c_X8_within l D d p 1 999 hp (by omega) (by omega)) [] rfl rfl rfl rfl (Nat.le_of_ble_eq_true rfl) ⟨by omega, by omega⟩ ⟨Nat.zero_le _, Nat.zero_le _⟩ (fun _ => rfl) (fun _ => rfl) (fun _ => rfl) ?_
  intro _ _
  refine V_ifb_eq (pc := 8) 19 C dX8_earned_8 (by decide) (fun c8 => ?_) (fun c8 => ?_)
  · refine V_bipush (pc := 19) C dX8_earned_19 rfl ?_
    exact V_iret (pc := 21) C Z dX8_earned_21 () trivial (ri (by unfold pEarned; (try dsimp only); (repeat' split) <;> first | rfl | omega)) rfl
  · refine V_iload_n (pc := 11) C dX8_earned_11 rfl 2 rfl ?_
    refine V_iload_n (pc := 12) C dX8_earned_12 rfl 3 rfl ?_
    refine cs_X8_213 (pc := 13) (rest := []) (wn := fun _ => [(o, .inr (8, fX8 q f)), (q 2, .inr (6, fX6 qt ft)), (qt 2, aI (d 0) 6 T2), (q 4, .inr (5, fX5 qa fa)), (qa 0, aI (d 0) 6 A0)]) (sn := fun _ => [.int (iI (bI ((1 ≤ v ∧ v ≤ 99) ∧ 0 ≤ k ∧ k ≤ 9)))]) C dX8_earned_13 (c_X8_mayValue l D d v k hv hk) [] rfl rfl rfl rfl (Nat.le_of_ble_eq_true rfl) ⟨by omega, by omega⟩ ⟨Nat.zero_le _, Nat.zero_le _⟩ (fun _ => rfl) (fun _ => rfl) (fun _ => rfl) ?_
    intro _ _
    refine V_ifb_ne (pc := 16) 22 C dX8_earned_16 (by decide) (fun c16 => ?_) (fun c16 => ?_)
    · refine V_aload_n (pc := 22) C dX8_earned_22 rfl 0 rfl ?_
      refine V_iload_n (pc := 23) C dX8_earned_23 rfl 1 rfl ?_
      refine V_iload_n (pc := 24) C dX8_earned_24 rfl 2 rfl ?_
      refine V_iload_n (pc := 25) C dX8_earned_25 rfl 3 rfl ?_
      refine cv_X8_216 (pc := 26) (rest := []) (wn := fun _ => [(o, .inr (8, fX8 q f)), (q 2, .inr (6, fX6 qt ft)), (qt 2, aI (d 0) 6 T2), (q 4, .inr (5, fX5 qa fa)), (qa 0, aI (d 0) 6 A0)]) (sn := fun _ => [.int (iI (brI ((ft 6)) A0 T2 p v k))]) C dX8_earned_26 (c_X8_broughtBy l D d o q f qt ft qa fa T2 A0 p v k (by omega) hT2 hA0 (by omega) (by omega) (by omega)) [0, 1, 2, 3, 4] rfl rfl 0 rfl rfl rfl (Nat.le_of_ble_eq_true rfl) ⟨by omega, by omega⟩ ⟨Nat.zero_le _, Nat.zero_le _⟩ (fun _ => rfl) (fun _ => rfl) (fun _ => rfl) ?_
      intro _ _
      refine V_ldc (n := 100000) (pc := 29) C dX8_earned_29 w3_68 rfl ?_
      refine V_iadd (pc := 31) C dX8_earned_31 ?_
      exact V_iret (pc := 32) C Z dX8_earned_32 () trivial (ri (by unfold pEarned; (try dsimp only); (repeat' split) <;> first | rfl | omega)) rfl
    · refine V_bipush (pc := 19) C dX8_earned_19 rfl ?_
      exact V_iret (pc := 21) C Z dX8_earned_21 () trivial (ri (by unfold pEarned; (try dsimp only); (repeat' split) <;> first | rfl | omega)) rfl
set_option maxRecDepth 100000 in
set_option maxHeartbeats 4000000 in
theorem c_X8_ask (l : Launch) (D : va_G) (d : Nat → ClassId) (o : Nat) (q : Nat → Nat) (f : Nat → Int) (qt : Nat → Nat) (ft : Nat → Int) (qa : Nat → Nat) (fa : Nat → Int) (T2 : Int → Int) (A0 : Int → Int) (v : Int) (k : Int) (hP : 0 ≤ ft 6 ∧ ft 6 ≤ 6) (hT2 : bd T2 0 9) (hA0 : bd A0 0 99) (hv : -2147483648 ≤ v ∧ v ≤ 2147483647) (hk : -2147483648 ≤ k ∧ k ≤ 2147483647) : CU l yX8_ask cX8_ask 7 (some .int) 2 43 D d [.ref o, .int (iI v), .int (iI k)] [(o, .inr (8, fX8 q f)), (q 2, .inr (6, fX6 qt ft)), (qt 2, aI (d 0) 6 T2), (q 4, .inr (5, fX5 qa fa)), (qa 0, aI (d 0) 6 A0)] (fun (_ : Unit) => True) (fun (_ : Unit) => some (.int (iI (pAsk (ft 6) A0 T2 v k)))) (fun (_ : Unit) => [(o, .inr (8, fX8 q f)), (q 2, .inr (6, fX6 qt ft)), (qt 2, aI (d 0) 6 T2), (q 4, .inr (5, fX5 qa fa)), (qa 0, aI (d 0) 6 A0)]) := by
  refine CU.mk (own := RX8) (lv := [(0, .ref o), (1, .int (iI v)), (2, .int (iI k))]) rfl (by decide) (Nat.le_of_ble_eq_true rfl) rfl ?_
  intro p9 e9 R9 s9 m9 args9 below9 meth9 c9 A9 Q9 hRf hRl C Z
  refine V_iload_n (pc := 0) C dX8_ask_0 rfl 1 rfl ?_
  refine V_iload_n (pc := 1) C dX8_ask_1 rfl 2 rfl ?_
  refine cs_X8_213 (pc := 2) (rest := []) (wn := fun _ => [(o, .inr (8, fX8 q f)), (q 2, .inr (6, fX6 qt ft)), (qt 2, aI (d 0) 6 T2), (q 4, .inr (5, fX5 qa fa)), (qa 0, aI (d 0) 6 A0)]) (sn := fun _ => [.int (iI (bI ((1 ≤ v ∧ v ≤ 99) ∧ 0 ≤ k ∧ k ≤ 9)))]) C dX8_ask_2 (c_X8_mayValue l D d v k hv hk) [] rfl rfl rfl rfl (Nat.le_of_ble_eq_true rfl) ⟨by omega, by omega⟩ ⟨Nat.zero_le _, Nat.zero_le _⟩ (fun _ => rfl) (fun _ => rfl) (fun _ => rfl) ?_
  intro _ _
  refine V_ifb_ne (pc := 5) 11 C dX8_ask_5 (by decide) (fun c5 => ?_) (fun c5 => ?_)
  · refine V_iconst (pc := 11) C dX8_ask_11 ?_
    refine V_istore_n (lv' := [(3, .int (iI 1)), (0, .ref o), (1, .int (iI v)), (2, .int (iI k))]) (pc := 12) C dX8_ask_12 rfl (by decide) rfl ?_
    refine V_aload_n (pc := 13) C dX8_ask_13 rfl 1 rfl ?_
    refine V_iconst (pc := 14) C dX8_ask_14 ?_
    refine V_iload_n (pc := 15) C dX8_ask_15 rfl 2 rfl ?_
    refine V_iload_n (pc := 16) C dX8_ask_16 rfl 3 rfl ?_
    refine cv_X8_216 (pc := 17) (rest := []) (wn := fun _ => [(o, .inr (8, fX8 q f)), (q 2, .inr (6, fX6 qt ft)), (qt 2, aI (d 0) 6 T2), (q 4, .inr (5, fX5 qa fa)), (qa 0, aI (d 0) 6 A0)]) (sn := fun _ => [.int (iI (brI ((ft 6)) A0 T2 1 v k))]) C dX8_ask_17 (c_X8_broughtBy l D d o q f qt ft qa fa T2 A0 1 v k (by omega) hT2 hA0 (by omega) (by omega) (by omega)) [0, 1, 2, 3, 4] rfl rfl 0 rfl rfl rfl (Nat.le_of_ble_eq_true rfl) ⟨by omega, by omega⟩ ⟨Nat.zero_le _, Nat.zero_le _⟩ (fun _ => rfl) (fun _ => rfl) (fun _ => rfl) ?_
    intro _ _
    refine V_istore (lv' := [(4, .int (iI (brI ((ft 6)) A0 T2 1 v k))), (3, .int (iI 1)), (0, .ref o), (1, .int (iI v)), (2, .int (iI k))]) (pc := 20) C dX8_ask_20 (by decide) rfl ?_
    refine V_iconst (pc := 22) C dX8_ask_22 ?_
    refine V_istore (lv' := [(5, .int (iI 2)), (4, .int (iI (brI ((ft 6)) A0 T2 1 v k))), (3, .int (iI 1)), (0, .ref o), (1, .int (iI v)), (2, .int (iI k))]) (pc := 23) C dX8_ask_23 (by decide) rfl ?_
    have L25 : ∀ (nn9 : Nat) (b : Int) (t : Int) (z : Int), (2 ≤ z ∧ z ≤ 1000) → (b = aM (fun p => brI (ft 6) A0 T2 p v k) (z - 2).toNat) → (t = brI (ft 6) A0 T2 b v k) → ((1000 : Int) - z).toNat < nn9 → V p9 l e9 R9 s9 m9 args9 below9 meth9 c9 A9 D Q9 7 0 0 [(o, .inr (8, fX8 q f)), (q 2, .inr (6, fX6 qt ft)), (qt 2, aI (d 0) 6 T2), (q 4, .inr (5, fX5 qa fa)), (qa 0, aI (d 0) 6 A0)] [(5, .int (iI z)), (4, .int (iI t)), (3, .int (iI b)), (0, .ref o), (1, .int (iI v)), (2, .int (iI k))] 25 [] := by
      intro nn9
      induction nn9 with
      | zero => intro _ _ _ _ _ _ hm25; exact absurd hm25 (Nat.not_lt_zero _)
      | succ nn9 ih25 =>
        intro b t z hz hb ht hm25
        have hbi := aM_in (fun p => brI (ft 6) A0 T2 p v k) (z - 2).toNat
        rw [← hb] at hbi
        have hb1 := brI_b (v := v) hP hA0 hT2 (show 1 ≤ b ∧ b ≤ 999 by omega) (show 0 ≤ k ∧ k ≤ 9 by omega)
        refine V_iload (pc := 25) C dX8_ask_25 0 rfl ?_
        refine V_sipush (pc := 27) C dX8_ask_27 rfl ?_
        refine V_icmp_gt (pc := 30) 63 C dX8_ask_30 (by decide) (sm_i (by omega)) (sm_i (by decide)) (fun c30 => ?_) (fun c30 => ?_)
        · refine V_iload_n (pc := 63) C dX8_ask_63 rfl 2 rfl ?_
          exact V_iret (pc := 64) C Z dX8_ask_64 () trivial (ri (by unfold pAsk; rw [if_neg (by omega), hb, show (z - 2).toNat = 998 by omega])) rfl
        · refine V_aload_n (pc := 33) C dX8_ask_33 rfl 3 rfl ?_
          refine V_iload (pc := 34) C dX8_ask_34 0 rfl ?_
          refine V_iload_n (pc := 36) C dX8_ask_36 rfl 4 rfl ?_
          refine V_iload_n (pc := 37) C dX8_ask_37 rfl 5 rfl ?_
          refine cv_X8_216 (pc := 38) (rest := []) (wn := fun _ => [(o, .inr (8, fX8 q f)), (q 2, .inr (6, fX6 qt ft)), (qt 2, aI (d 0) 6 T2), (q 4, .inr (5, fX5 qa fa)), (qa 0, aI (d 0) 6 A0)]) (sn := fun _ => [.int (iI (brI ((ft 6)) A0 T2 z v k))]) C dX8_ask_38 (c_X8_broughtBy l D d o q f qt ft qa fa T2 A0 z v k (by omega) hT2 hA0 (by omega) (by omega) (by omega)) [0, 1, 2, 3, 4] rfl rfl 0 rfl rfl rfl (Nat.le_of_ble_eq_true rfl) ⟨by omega, by omega⟩ ⟨Nat.zero_le _, Nat.zero_le _⟩ (fun _ => rfl) (fun _ => rfl) (fun _ => rfl) ?_
          intro _ _
          refine V_istore (lv' := [(6, .int (iI (brI ((ft 6)) A0 T2 z v k))), (5, .int (iI z)), (4, .int (iI t)), (3, .int (iI b)), (0, .ref o), (1, .int (iI v)), (2, .int (iI k))]) (pc := 41) C dX8_ask_41 (by decide) rfl ?_
          have hb2 := brI_b (v := v) hP hA0 hT2 (show 1 ≤ z ∧ z ≤ 999 by omega) (show 0 ≤ k ∧ k ≤ 9 by omega)
          refine V_iload (pc := 43) C dX8_ask_43 0 rfl ?_
          refine V_iload (pc := 45) C dX8_ask_45 2 rfl ?_
          refine V_icmp_le (pc := 47) 57 C dX8_ask_47 (by decide) (sm_i (by omega)) (sm_i (by omega)) (fun c47 => ?_) (fun c47 => ?_)
          · refine V_iinc (lv' := [(5, .int (iI (z + 1))), (6, .int (iI (brI ((ft 6)) A0 T2 z v k))), (4, .int (iI t)), (3, .int (iI b)), (0, .ref o), (1, .int (iI v)), (2, .int (iI k))]) (pc := 57) C dX8_ask_57 1 rfl (by decide) rfl ?_
            refine V_goto (pc := 60) 25 C dX8_ask_60 (by decide) ?_
            exact V_sub [0, 2, 3, 4, 5, 6] rfl (ih25 b t (z + 1) (by omega) (by rw [aM_s hz.1 hb]; (try dsimp only); rw [← ht]; split <;> omega) (by first | rfl | exact ht) (by omega))
          · refine V_iload (pc := 50) C dX8_ask_50 0 rfl ?_
            refine V_istore (lv' := [(4, .int (iI (brI ((ft 6)) A0 T2 z v k))), (6, .int (iI (brI ((ft 6)) A0 T2 z v k))), (5, .int (iI z)), (3, .int (iI b)), (0, .ref o), (1, .int (iI v)), (2, .int (iI k))]) (pc := 52) C dX8_ask_52 (by decide) rfl ?_
            refine V_iload (pc := 54) C dX8_ask_54 2 rfl ?_
            refine V_istore_n (lv' := [(3, .int (iI z)), (4, .int (iI (brI ((ft 6)) A0 T2 z v k))), (6, .int (iI (brI ((ft 6)) A0 T2 z v k))), (5, .int (iI z)), (0, .ref o), (1, .int (iI v)), (2, .int (iI k))]) (pc := 56) C dX8_ask_56 rfl (by decide) rfl ?_
            refine V_iinc (lv' := [(5, .int (iI (z + 1))), (3, .int (iI z)), (4, .int (iI (brI ((ft 6)) A0 T2 z v k))), (6, .int (iI (brI ((ft 6)) A0 T2 z v k))), (0, .ref o), (1, .int (iI v)), (2, .int (iI k))]) (pc := 57) C dX8_ask_57 3 rfl (by decide) rfl ?_
            refine V_goto (pc := 60) 25 C dX8_ask_60 (by decide) ?_
            exact V_sub [0, 2, 1, 4, 5, 6] rfl (ih25 z (brI ((ft 6)) A0 T2 z v k) (z + 1) (by omega) (by rw [aM_s hz.1 hb]; (try dsimp only); rw [← ht]; split <;> omega) (by first | rfl | exact ht) (by omega))
    exact V_sub [0, 1, 2, 3, 4, 5] rfl (L25 (((1000 : Int) - 2).toNat + 1) 1 (brI ((ft 6)) A0 T2 1 v k) 2 (by omega) (rfl) (rfl) (Nat.lt_succ_self _))
  · refine V_bipush (pc := 8) C dX8_ask_8 rfl ?_
    exact V_iret (pc := 10) C Z dX8_ask_10 () trivial (ri (by unfold pAsk; (try dsimp only); (repeat' split) <;> first | rfl | omega)) rfl
set_option maxRecDepth 100000 in
set_option maxHeartbeats 4000000 in
theorem c_X8_keeper (l : Launch) (D : va_G) (d : Nat → ClassId) (o : Nat) (q : Nat → Nat) (f : Nat → Int) (qt : Nat → Nat) (ft : Nat → Int) (p : Int) (w : Int) (hP : 0 ≤ ft 6 ∧ ft 6 ≤ 6) (hK : 0 ≤ ft 9 ∧ ft 9 ≤ 63) (hp : -2147483648 ≤ p ∧ p ≤ 2147483647) (hw : w = 0 ∨ w = 1) : CU l yX8_keeper cX8_keeper 3 (some .int) 1 21 D d [.ref o, .int (iI p), .int (iI w)] [(o, .inr (8, fX8 q f)), (q 2, .inr (6, fX6 qt ft))] (fun (u : Int × Int) => u.1 = pKeeper (ft 6) (fun j => bitI (ft 9) j) p w ∧ u.2 = if 0 ≤ p ∧ p < ft 6 ∧ ¬ bitI (ft 9) p = w then iXor (ft 9) (2 ^ p.toNat) else ft 9) (fun (u : Int × Int) => some (.int (iI (u.1)))) (fun (u : Int × Int) => [(o, .inr (8, fX8 q f)), (q 2, .inr (6, fX6 qt (up ft 9 u.2)))]) := by
  refine CU.mk (own := RX8) (lv := [(0, .ref o), (1, .int (iI p)), (2, .int (iI w))]) rfl (by decide) (Nat.le_of_ble_eq_true rfl) rfl ?_
  intro p9 e9 R9 s9 m9 args9 below9 meth9 c9 A9 Q9 hRf hRl C Z
  refine V_aload_n (pc := 0) C dX8_keeper_0 rfl 0 rfl ?_
  refine gf_X8_26 (x := q 2) (pc := 1) C dX8_keeper_1 0 rfl rfl ?_
  refine V_iload_n (pc := 4) C dX8_keeper_4 rfl 1 rfl ?_
  refine cv_X8_99 (pc := 5) (rest := []) (wn := fun _ => [(o, .inr (8, fX8 q f)), (q 2, .inr (6, fX6 qt ft))]) (sn := fun _ => [.int (iI (bI (0 ≤ p ∧ p < (ft 6))))]) C dX8_keeper_5 (c_X6_hasPerson l D d (q 2) qt ft p hp (by omega)) [1] rfl rfl 1 rfl rfl rfl (Nat.le_of_ble_eq_true rfl) ⟨by omega, by omega⟩ ⟨Nat.zero_le _, Nat.zero_le _⟩ (fun _ => rfl) (fun _ => rfl) (fun _ => rfl) ?_
  intro _ _
  refine V_ifb_ne (pc := 8) 13 C dX8_keeper_8 (by decide) (fun c8 => ?_) (fun c8 => ?_)
  · refine V_aload_n (pc := 13) C dX8_keeper_13 rfl 0 rfl ?_
    refine gf_X8_26 (x := q 2) (pc := 14) C dX8_keeper_14 0 rfl rfl ?_
    refine V_iload_n (pc := 17) C dX8_keeper_17 rfl 1 rfl ?_
    refine cv_X8_120 (pc := 18) (rest := []) (wn := fun _ => [(o, .inr (8, fX8 q f)), (q 2, .inr (6, fX6 qt ft))]) (sn := fun _ => [.int (iI (bI ((ft 9) / 2 ^ p.toNat % 2 = 1)))]) C dX8_keeper_18 (c_X6_isKeeper l D d (q 2) qt ft p (by omega) (by omega)) [1] rfl rfl 1 rfl rfl rfl (Nat.le_of_ble_eq_true rfl) ⟨by omega, by omega⟩ ⟨Nat.zero_le _, Nat.zero_le _⟩ (fun _ => rfl) (fun _ => rfl) (fun _ => rfl) ?_
    intro _ _
    refine V_iload_n (pc := 21) C dX8_keeper_21 rfl 2 rfl ?_
    have kb : bI (ft 9 / 2 ^ p.toNat % 2 = 1) = bitI (ft 9) p := by unfold bI bitI; split <;> omega
    have kb1 := bitI_01 (ft 9) p
    refine V_icmp_ne (pc := 22) 27 C dX8_keeper_22 (by decide) (sm_i (by omega)) (sm_i (by omega)) (fun c22 => ?_) (fun c22 => ?_)
    · refine V_aload_n (pc := 27) C dX8_keeper_27 rfl 0 rfl ?_
      refine gf_X8_26 (x := q 2) (pc := 28) C dX8_keeper_28 0 rfl rfl ?_
      refine V_dup (pc := 31) C dX8_keeper_31 rfl ?_
      refine gf_X8_221 (x := ft 9) (pc := 32) C dX8_keeper_32 1 rfl rfl ?_
      refine V_iconst (pc := 35) C dX8_keeper_35 ?_
      refine V_iload_n (pc := 36) C dX8_keeper_36 rfl 1 rfl ?_
      refine V_ishl (z := (2 ^ p.toNat)) (pc := 37) C dX8_keeper_37 (shl1_i (by omega) (by omega)) ?_
      refine V_ixor (z := (iXor (ft 9) (2 ^ p.toNat))) (pc := 38) C dX8_keeper_38 (xor_i (by omega) (Int.le_of_lt (p2_pos _))) ?_
      refine pf_X8_221 (ws' := [(o, .inr (8, fX8 q f)), (q 2, .inr (6, fX6 qt (up ft 9 (iXor (ft 9) (2 ^ p.toNat)))))]) (pc := 39) C dX8_keeper_39 1 rfl rfl ?_
      refine V_iconst (pc := 42) C dX8_keeper_42 ?_
      exact V_iret (pc := 43) C Z dX8_keeper_43 (1, iXor (ft 9) (2 ^ p.toNat)) (⟨by unfold pKeeper; dsimp only; (repeat' split) <;> omega, by dsimp only; (repeat' split) <;> first | rfl | omega⟩) (ri (by rfl)) (by first | rfl | rw [up_same rfl])
    · refine V_iconst (pc := 25) C dX8_keeper_25 ?_
      exact V_iret (pc := 26) C Z dX8_keeper_26 (0, ft 9) (⟨by unfold pKeeper; dsimp only; (repeat' split) <;> omega, by dsimp only; (repeat' split) <;> first | rfl | omega⟩) (ri (by rfl)) (by first | rfl | rw [up_same rfl])
  · refine V_iconst (pc := 11) C dX8_keeper_11 ?_
    exact V_iret (pc := 12) C Z dX8_keeper_12 (-1, ft 9) (⟨by unfold pKeeper; dsimp only; (repeat' split) <;> omega, by dsimp only; (repeat' split) <;> first | rfl | omega⟩) (ri (by rfl)) (by first | rfl | rw [up_same rfl])
set_option maxRecDepth 100000 in
set_option maxHeartbeats 4000000 in
theorem c_X8_losers (l : Launch) (D : va_G) (d : Nat → ClassId) (o : Nat) (q : Nat → Nat) (f : Nat → Int) (qt : Nat → Nat) (ft : Nat → Int) (qa : Nat → Nat) (fa : Nat → Int) (A0 : Int → Int) (x : Int) (hP : 0 ≤ ft 6 ∧ ft 6 ≤ 6) (hK : 0 ≤ ft 9 ∧ ft 9 ≤ 63) (hA0 : bd A0 0 99) (hx : -2147483648 ≤ x ∧ x ≤ 2147483647) : CU l yX8_losers cX8_losers 2 (some .int) 2 45 D d [.ref o, .int (iI x)] [(o, .inr (8, fX8 q f)), (q 2, .inr (6, fX6 qt ft)), (q 4, .inr (5, fX5 qa fa)), (qa 0, aI (d 0) 6 A0)] (fun (_ : Unit) => True) (fun (_ : Unit) => some (.int (iI (pLosers (ft 6) A0 (fun j => bitI (ft 9) j) x)))) (fun (_ : Unit) => [(o, .inr (8, fX8 q f)), (q 2, .inr (6, fX6 qt ft)), (q 4, .inr (5, fX5 qa fa)), (qa 0, aI (d 0) 6 A0)]) := by
  refine CU.mk (own := RX8) (lv := [(0, .ref o), (1, .int (iI x))]) rfl (by decide) (Nat.le_of_ble_eq_true rfl) rfl ?_
  intro p9 e9 R9 s9 m9 args9 below9 meth9 c9 A9 Q9 hRf hRl C Z
  refine V_iload_n (pc := 0) C dX8_losers_0 rfl 1 rfl ?_
  refine V_iconst (pc := 1) C dX8_losers_1 ?_
  refine V_bipush (pc := 2) C dX8_losers_2 rfl ?_
  refine cs_X8_72 (pc := 4) (rest := []) (wn := fun _ => [(o, .inr (8, fX8 q f)), (q 2, .inr (6, fX6 qt ft)), (q 4, .inr (5, fX5 qa fa)), (qa 0, aI (d 0) 6 A0)]) (sn := fun _ => [.int (iI (bI (1 ≤ x ∧ x ≤ 99)))]) C dX8_losers_4 (c_X8_within l D d x 1 99 hx (by omega) (by omega)) [] rfl rfl rfl rfl (Nat.le_of_ble_eq_true rfl) ⟨by omega, by omega⟩ ⟨Nat.zero_le _, Nat.zero_le _⟩ (fun _ => rfl) (fun _ => rfl) (fun _ => rfl) ?_
  intro _ _
  refine V_ifb_eq (pc := 7) 18 C dX8_losers_7 (by decide) (fun c7 => ?_) (fun c7 => ?_)
  · refine V_bipush (pc := 18) C dX8_losers_18 rfl ?_
    exact V_iret (pc := 20) C Z dX8_losers_20 () trivial (ri (by unfold pLosers; (try dsimp only); (repeat' split) <;> first | rfl | omega)) rfl
  · refine V_aload_n (pc := 10) C dX8_losers_10 rfl 0 rfl ?_
    refine V_iload_n (pc := 11) C dX8_losers_11 rfl 1 rfl ?_
    refine cv_X8_224 (pc := 12) (rest := []) (wn := fun _ => [(o, .inr (8, fX8 q f)), (q 2, .inr (6, fX6 qt ft)), (q 4, .inr (5, fX5 qa fa)), (qa 0, aI (d 0) 6 A0)]) (sn := fun _ => [.int (iI (lsI ((ft 6)) A0 (fun j => bitI ((ft 9)) j) x))]) C dX8_losers_12 (c_X8_losersBy l D d o q f qt ft qa fa A0 x (by omega) (by omega) hA0 hx) [0, 1, 2, 3] rfl rfl 0 rfl rfl rfl (Nat.le_of_ble_eq_true rfl) ⟨by omega, by omega⟩ ⟨Nat.zero_le _, Nat.zero_le _⟩ (fun _ => rfl) (fun _ => rfl) (fun _ => rfl) ?_
    intro _ _
    refine V_goto (pc := 15) 20 C dX8_losers_15 (by decide) ?_
    exact V_iret (pc := 20) C Z dX8_losers_20 () trivial (ri (by unfold pLosers; (try dsimp only); (repeat' split) <;> first | rfl | omega)) rfl
set_option maxRecDepth 100000 in
set_option maxHeartbeats 4000000 in
theorem c_X8_fairest (l : Launch) (D : va_G) (d : Nat → ClassId) (o : Nat) (q : Nat → Nat) (f : Nat → Int) (qt : Nat → Nat) (ft : Nat → Int) (qa : Nat → Nat) (fa : Nat → Int) (A0 : Int → Int) (hP : 0 ≤ ft 6 ∧ ft 6 ≤ 6) (hK : 0 ≤ ft 9 ∧ ft 9 ≤ 63) (hA0 : bd A0 0 99) : CU l yX8_fairest cX8_fairest 5 (some .int) 2 45 D d [.ref o] [(o, .inr (8, fX8 q f)), (q 2, .inr (6, fX6 qt ft)), (q 4, .inr (5, fX5 qa fa)), (qa 0, aI (d 0) 6 A0)] (fun (_ : Unit) => True) (fun (_ : Unit) => some (.int (iI (pFairest (ft 6) A0 (fun j => bitI (ft 9) j))))) (fun (_ : Unit) => [(o, .inr (8, fX8 q f)), (q 2, .inr (6, fX6 qt ft)), (q 4, .inr (5, fX5 qa fa)), (qa 0, aI (d 0) 6 A0)]) := by
  refine CU.mk (own := RX8) (lv := [(0, .ref o)]) rfl (by decide) (Nat.le_of_ble_eq_true rfl) rfl ?_
  intro p9 e9 R9 s9 m9 args9 below9 meth9 c9 A9 Q9 hRf hRl C Z
  refine V_iconst (pc := 0) C dX8_fairest_0 ?_
  refine V_istore_n (lv' := [(1, .int (iI 1)), (0, .ref o)]) (pc := 1) C dX8_fairest_1 rfl (by decide) rfl ?_
  refine V_aload_n (pc := 2) C dX8_fairest_2 rfl 1 rfl ?_
  refine V_iconst (pc := 3) C dX8_fairest_3 ?_
  refine cv_X8_224 (pc := 4) (rest := []) (wn := fun _ => [(o, .inr (8, fX8 q f)), (q 2, .inr (6, fX6 qt ft)), (q 4, .inr (5, fX5 qa fa)), (qa 0, aI (d 0) 6 A0)]) (sn := fun _ => [.int (iI (lsI ((ft 6)) A0 (fun j => bitI ((ft 9)) j) 1))]) C dX8_fairest_4 (c_X8_losersBy l D d o q f qt ft qa fa A0 1 (by omega) (by omega) hA0 (by omega)) [0, 1, 2, 3] rfl rfl 0 rfl rfl rfl (Nat.le_of_ble_eq_true rfl) ⟨by omega, by omega⟩ ⟨Nat.zero_le _, Nat.zero_le _⟩ (fun _ => rfl) (fun _ => rfl) (fun _ => rfl) ?_
  intro _ _
  refine V_istore_n (lv' := [(2, .int (iI (lsI ((ft 6)) A0 (fun j => bitI ((ft 9)) j) 1))), (1, .int (iI 1)), (0, .ref o)]) (pc := 7) C dX8_fairest_7 rfl (by decide) rfl ?_
  refine V_iconst (pc := 8) C dX8_fairest_8 ?_
  refine V_istore_n (lv' := [(3, .int (iI 2)), (2, .int (iI (lsI ((ft 6)) A0 (fun j => bitI ((ft 9)) j) 1))), (1, .int (iI 1)), (0, .ref o)]) (pc := 9) C dX8_fairest_9 rfl (by decide) rfl ?_
  have L10 : ∀ (nn9 : Nat) (b : Int) (t : Int) (z : Int), (2 ≤ z ∧ z ≤ 100) → (b = aM (fun e => - lsI (ft 6) A0 (fun j => bitI (ft 9) j) e) (z - 2).toNat) → (t = lsI (ft 6) A0 (fun j => bitI (ft 9) j) b) → ((100 : Int) - z).toNat < nn9 → V p9 l e9 R9 s9 m9 args9 below9 meth9 c9 A9 D Q9 5 0 0 [(o, .inr (8, fX8 q f)), (q 2, .inr (6, fX6 qt ft)), (q 4, .inr (5, fX5 qa fa)), (qa 0, aI (d 0) 6 A0)] [(3, .int (iI z)), (2, .int (iI t)), (1, .int (iI b)), (0, .ref o)] 10 [] := by
    intro nn9
    induction nn9 with
    | zero => intro _ _ _ _ _ _ hm10; exact absurd hm10 (Nat.not_lt_zero _)
    | succ nn9 ih10 =>
      intro b t z hz hb ht hm10
      have hb1 := lsI_b (e := b) (arm := A0) (kp := (fun j => bitI (ft 9) j)) hP
      refine V_iload_n (pc := 10) C dX8_fairest_10 rfl 0 rfl ?_
      refine V_bipush (pc := 11) C dX8_fairest_11 rfl ?_
      refine V_icmp_gt (pc := 13) 40 C dX8_fairest_13 (by decide) (sm_i (by omega)) (sm_i (by decide)) (fun c13 => ?_) (fun c13 => ?_)
      · refine V_iload_n (pc := 40) C dX8_fairest_40 rfl 2 rfl ?_
        exact V_iret (pc := 41) C Z dX8_fairest_41 () trivial (ri (by unfold pFairest; rw [hb, show (z - 2).toNat = 98 by omega])) rfl
      · refine V_aload_n (pc := 16) C dX8_fairest_16 rfl 3 rfl ?_
        refine V_iload_n (pc := 17) C dX8_fairest_17 rfl 0 rfl ?_
        refine cv_X8_224 (pc := 18) (rest := []) (wn := fun _ => [(o, .inr (8, fX8 q f)), (q 2, .inr (6, fX6 qt ft)), (q 4, .inr (5, fX5 qa fa)), (qa 0, aI (d 0) 6 A0)]) (sn := fun _ => [.int (iI (lsI ((ft 6)) A0 (fun j => bitI ((ft 9)) j) z))]) C dX8_fairest_18 (c_X8_losersBy l D d o q f qt ft qa fa A0 z (by omega) (by omega) hA0 (by omega)) [0, 1, 2, 3] rfl rfl 0 rfl rfl rfl (Nat.le_of_ble_eq_true rfl) ⟨by omega, by omega⟩ ⟨Nat.zero_le _, Nat.zero_le _⟩ (fun _ => rfl) (fun _ => rfl) (fun _ => rfl) ?_
        intro _ _
        refine V_istore (lv' := [(4, .int (iI (lsI ((ft 6)) A0 (fun j => bitI ((ft 9)) j) z))), (3, .int (iI z)), (2, .int (iI t)), (1, .int (iI b)), (0, .ref o)]) (pc := 21) C dX8_fairest_21 (by decide) rfl ?_
        have hb2 := lsI_b (e := z) (arm := A0) (kp := (fun j => bitI (ft 9) j)) hP
        refine V_iload (pc := 23) C dX8_fairest_23 0 rfl ?_
        refine V_iload_n (pc := 25) C dX8_fairest_25 rfl 2 rfl ?_
        refine V_icmp_ge (pc := 26) 34 C dX8_fairest_26 (by decide) (sm_i (by omega)) (sm_i (by omega)) (fun c26 => ?_) (fun c26 => ?_)
        · refine V_iinc (lv' := [(3, .int (iI (z + 1))), (4, .int (iI (lsI ((ft 6)) A0 (fun j => bitI ((ft 9)) j) z))), (2, .int (iI t)), (1, .int (iI b)), (0, .ref o)]) (pc := 34) C dX8_fairest_34 1 rfl (by decide) rfl ?_
          refine V_goto (pc := 37) 10 C dX8_fairest_37 (by decide) ?_
          exact V_sub [0, 2, 3, 4] rfl (ih10 b t (z + 1) (by omega) (by rw [aM_s hz.1 hb]; (try dsimp only); rw [← ht]; split <;> omega) (by first | rfl | exact ht) (by omega))
        · refine V_iload (pc := 29) C dX8_fairest_29 0 rfl ?_
          refine V_istore_n (lv' := [(2, .int (iI (lsI ((ft 6)) A0 (fun j => bitI ((ft 9)) j) z))), (4, .int (iI (lsI ((ft 6)) A0 (fun j => bitI ((ft 9)) j) z))), (3, .int (iI z)), (1, .int (iI b)), (0, .ref o)]) (pc := 31) C dX8_fairest_31 rfl (by decide) rfl ?_
          refine V_iload_n (pc := 32) C dX8_fairest_32 rfl 2 rfl ?_
          refine V_istore_n (lv' := [(1, .int (iI z)), (2, .int (iI (lsI ((ft 6)) A0 (fun j => bitI ((ft 9)) j) z))), (4, .int (iI (lsI ((ft 6)) A0 (fun j => bitI ((ft 9)) j) z))), (3, .int (iI z)), (0, .ref o)]) (pc := 33) C dX8_fairest_33 rfl (by decide) rfl ?_
          refine V_iinc (lv' := [(3, .int (iI (z + 1))), (1, .int (iI z)), (2, .int (iI (lsI ((ft 6)) A0 (fun j => bitI ((ft 9)) j) z))), (4, .int (iI (lsI ((ft 6)) A0 (fun j => bitI ((ft 9)) j) z))), (0, .ref o)]) (pc := 34) C dX8_fairest_34 3 rfl (by decide) rfl ?_
          refine V_goto (pc := 37) 10 C dX8_fairest_37 (by decide) ?_
          exact V_sub [0, 2, 1, 4] rfl (ih10 z (lsI ((ft 6)) A0 (fun j => bitI ((ft 9)) j) z) (z + 1) (by omega) (by rw [aM_s hz.1 hb]; (try dsimp only); rw [← ht]; split <;> omega) (by first | rfl | exact ht) (by omega))
  exact V_sub [0, 1, 2, 3] rfl (L10 (((100 : Int) - 2).toNat + 1) 1 (lsI ((ft 6)) A0 (fun j => bitI ((ft 9)) j) 1) 2 (by omega) (rfl) (rfl) (Nat.lt_succ_self _))
set_option maxRecDepth 100000 in
set_option maxHeartbeats 4000000 in
theorem c_X8_when (l : Launch) (D : va_G) (d : Nat → ClassId) (o : Nat) (q : Nat → Nat) (f : Nat → Int) (qt : Nat → Nat) (ft : Nat → Int) (qa : Nat → Nat) (fa : Nat → Int) (T4 : Int → Int) (A0 : Int → Int) (p : Int) (k : Int) (g : Int) (y : Int) (hP : 0 ≤ ft 6 ∧ ft 6 ≤ 6) (hC : 0 ≤ ft 7 ∧ ft 7 ≤ 4) (hT4 : bd T4 0 99) (hA0 : bd A0 0 99) (hp : -2147483648 ≤ p ∧ p ≤ 2147483647) (hk : -2147483648 ≤ k ∧ k ≤ 2147483647) (hg : -2147483648 ≤ g ∧ g ≤ 2147483647) (hy : -2147483648 ≤ y ∧ y ≤ 2147483647) : CU l yX8_when cX8_when 11 (some .int) 1 24 D d [.ref o, .int (iI p), .int (iI k), .int (iI g), .int (iI y)] [(o, .inr (8, fX8 q f)), (q 2, .inr (6, fX6 qt ft)), (qt 4, aI (d 0) 4 T4), (q 4, .inr (5, fX5 qa fa)), (qa 0, aI (d 0) 6 A0)] (fun (_ : Unit) => True) (fun (_ : Unit) => some (.int (iI (pWhen (ft 6) (ft 7) A0 T4 p k g y)))) (fun (_ : Unit) => [(o, .inr (8, fX8 q f)), (q 2, .inr (6, fX6 qt ft)), (qt 4, aI (d 0) 4 T4), (q 4, .inr (5, fX5 qa fa)), (qa 0, aI (d 0) 6 A0)]) := by
  refine CU.mk (own := RX8) (lv := [(0, .ref o), (1, .int (iI p)), (2, .int (iI k)), (3, .int (iI g)), (4, .int (iI y))]) rfl (by decide) (Nat.le_of_ble_eq_true rfl) rfl ?_
  intro p9 e9 R9 s9 m9 args9 below9 meth9 c9 A9 Q9 hRf hRl C Z
  refine V_aload_n (pc := 0) C dX8_when_0 rfl 0 rfl ?_
  refine gf_X8_26 (x := q 2) (pc := 1) C dX8_when_1 0 rfl rfl ?_
  refine V_iload_n (pc := 4) C dX8_when_4 rfl 1 rfl ?_
  refine cv_X8_99 (pc := 5) (rest := []) (wn := fun _ => [(o, .inr (8, fX8 q f)), (q 2, .inr (6, fX6 qt ft)), (qt 4, aI (d 0) 4 T4), (q 4, .inr (5, fX5 qa fa)), (qa 0, aI (d 0) 6 A0)]) (sn := fun _ => [.int (iI (bI (0 ≤ p ∧ p < (ft 6))))]) C dX8_when_5 (c_X6_hasPerson l D d (q 2) qt ft p hp (by omega)) [1] rfl rfl 1 rfl rfl rfl (Nat.le_of_ble_eq_true rfl) ⟨by omega, by omega⟩ ⟨Nat.zero_le _, Nat.zero_le _⟩ (fun _ => rfl) (fun _ => rfl) (fun _ => rfl) ?_
  intro _ _
  refine V_ifb_eq (pc := 8) 22 C dX8_when_8 (by decide) (fun c8 => ?_) (fun c8 => ?_)
  · refine V_iconst (pc := 22) C dX8_when_22 ?_
    exact V_iret (pc := 23) C Z dX8_when_23 () trivial (ri (by unfold pWhen; (try dsimp only); (repeat' split) <;> first | rfl | omega)) rfl
  · refine V_aload_n (pc := 11) C dX8_when_11 rfl 0 rfl ?_
    refine gf_X8_26 (x := q 2) (pc := 12) C dX8_when_12 0 rfl rfl ?_
    refine V_iload_n (pc := 15) C dX8_when_15 rfl 2 rfl ?_
    refine cv_X8_123 (pc := 16) (rest := []) (wn := fun _ => [(o, .inr (8, fX8 q f)), (q 2, .inr (6, fX6 qt ft)), (qt 4, aI (d 0) 4 T4), (q 4, .inr (5, fX5 qa fa)), (qa 0, aI (d 0) 6 A0)]) (sn := fun _ => [.int (iI (bI (0 ≤ k ∧ k < (ft 7))))]) C dX8_when_16 (c_X6_hasCounter l D d (q 2) qt ft k hk (by omega)) [1] rfl rfl 1 rfl rfl rfl (Nat.le_of_ble_eq_true rfl) ⟨by omega, by omega⟩ ⟨Nat.zero_le _, Nat.zero_le _⟩ (fun _ => rfl) (fun _ => rfl) (fun _ => rfl) ?_
    intro _ _
    refine V_ifb_ne (pc := 19) 24 C dX8_when_19 (by decide) (fun c19 => ?_) (fun c19 => ?_)
    · refine V_iload_n (pc := 24) C dX8_when_24 rfl 3 rfl ?_
      refine V_iconst (pc := 25) C dX8_when_25 ?_
      refine V_bipush (pc := 26) C dX8_when_26 rfl ?_
      refine cs_X8_72 (pc := 28) (rest := []) (wn := fun _ => [(o, .inr (8, fX8 q f)), (q 2, .inr (6, fX6 qt ft)), (qt 4, aI (d 0) 4 T4), (q 4, .inr (5, fX5 qa fa)), (qa 0, aI (d 0) 6 A0)]) (sn := fun _ => [.int (iI (bI (0 ≤ g ∧ g ≤ 9)))]) C dX8_when_28 (c_X8_within l D d g 0 9 hg (by omega) (by omega)) [] rfl rfl rfl rfl (Nat.le_of_ble_eq_true rfl) ⟨by omega, by omega⟩ ⟨Nat.zero_le _, Nat.zero_le _⟩ (fun _ => rfl) (fun _ => rfl) (fun _ => rfl) ?_
      intro _ _
      refine V_ifb_eq (pc := 31) 45 C dX8_when_31 (by decide) (fun c31 => ?_) (fun c31 => ?_)
      · refine V_bipush (pc := 45) C dX8_when_45 rfl ?_
        exact V_iret (pc := 47) C Z dX8_when_47 () trivial (ri (by unfold pWhen; (try dsimp only); (repeat' split) <;> first | rfl | omega)) rfl
      · refine V_iload (pc := 34) C dX8_when_34 4 rfl ?_
        refine V_iconst (pc := 36) C dX8_when_36 ?_
        refine V_bipush (pc := 37) C dX8_when_37 rfl ?_
        refine cs_X8_72 (pc := 39) (rest := []) (wn := fun _ => [(o, .inr (8, fX8 q f)), (q 2, .inr (6, fX6 qt ft)), (qt 4, aI (d 0) 4 T4), (q 4, .inr (5, fX5 qa fa)), (qa 0, aI (d 0) 6 A0)]) (sn := fun _ => [.int (iI (bI (0 ≤ y ∧ y ≤ 9)))]) C dX8_when_39 (c_X8_within l D d y 0 9 hy (by omega) (by omega)) [] rfl rfl rfl rfl (Nat.le_of_ble_eq_true rfl) ⟨by omega, by omega⟩ ⟨Nat.zero_le _, Nat.zero_le _⟩ (fun _ => rfl) (fun _ => rfl) (fun _ => rfl) ?_
        intro _ _
        refine V_ifb_ne (pc := 42) 48 C dX8_when_42 (by decide) (fun c42 => ?_) (fun c42 => ?_)
        · refine V_iconst (pc := 48) C dX8_when_48 ?_
          refine V_istore (lv' := [(5, .int (iI 0)), (0, .ref o), (1, .int (iI p)), (2, .int (iI k)), (3, .int (iI g)), (4, .int (iI y))]) (pc := 49) C dX8_when_49 (by decide) rfl ?_
          refine V_aload_n (pc := 51) C dX8_when_51 rfl 1 rfl ?_
          refine gf_X8_36 (x := q 4) (pc := 52) C dX8_when_52 0 rfl rfl ?_
          refine gf_X8_103 (x := qa 0) (pc := 55) C dX8_when_55 3 rfl rfl ?_
          refine V_iload_n (pc := 58) C dX8_when_58 rfl 2 rfl ?_
          refine V_iald (f := A0) (pc := 59) C dX8_when_59 4 rfl (by omega) (by omega) (Nat.le_of_ble_eq_true rfl) ?_
          have b59 := hA0 p
          refine V_istore (lv' := [(6, .int (iI (A0 p))), (5, .int (iI 0)), (0, .ref o), (1, .int (iI p)), (2, .int (iI k)), (3, .int (iI g)), (4, .int (iI y))]) (pc := 60) C dX8_when_60 (by decide) rfl ?_
          refine V_aload_n (pc := 62) C dX8_when_62 rfl 2 rfl ?_
          refine gf_X8_26 (x := q 2) (pc := 63) C dX8_when_63 0 rfl rfl ?_
          refine gf_X8_126 (x := qt 4) (pc := 66) C dX8_when_66 1 rfl rfl ?_
          refine V_iload_n (pc := 69) C dX8_when_69 rfl 4 rfl ?_
          refine V_iald (f := T4) (pc := 70) C dX8_when_70 2 rfl (by omega) (by omega) (Nat.le_of_ble_eq_true rfl) ?_
          have b70 := hT4 k
          refine V_istore (lv' := [(7, .int (iI (T4 k))), (6, .int (iI (A0 p))), (5, .int (iI 0)), (0, .ref o), (1, .int (iI p)), (2, .int (iI k)), (3, .int (iI g)), (4, .int (iI y))]) (pc := 71) C dX8_when_71 (by decide) rfl ?_
          refine V_iconst (pc := 73) C dX8_when_73 ?_
          refine V_istore (lv' := [(8, .int (iI 1)), (7, .int (iI (T4 k))), (6, .int (iI (A0 p))), (5, .int (iI 0)), (0, .ref o), (1, .int (iI p)), (2, .int (iI k)), (3, .int (iI g)), (4, .int (iI y))]) (pc := 74) C dX8_when_74 (by decide) rfl ?_
          have L76 : ∀ (nn9 : Nat) (b : Int) (x : Int) (z : Int) (t : Int), (1 ≤ t ∧ t ≤ 31) → (0 ≤ x ∧ x ≤ 99) → (0 ≤ z ∧ z ≤ 369) → ((b, x, z) = whN (A0 p) (T4 k) g y (t - 1).toNat) → ((31 : Int) - t).toNat < nn9 → V p9 l e9 R9 s9 m9 args9 below9 meth9 c9 A9 D Q9 11 0 0 [(o, .inr (8, fX8 q f)), (q 2, .inr (6, fX6 qt ft)), (qt 4, aI (d 0) 4 T4), (q 4, .inr (5, fX5 qa fa)), (qa 0, aI (d 0) 6 A0)] [(8, .int (iI t)), (7, .int (iI z)), (6, .int (iI x)), (5, .int (iI b)), (0, .ref o), (1, .int (iI p)), (2, .int (iI k)), (3, .int (iI g)), (4, .int (iI y))] 76 [] := by
            intro nn9
            induction nn9 with
            | zero => intro _ _ _ _ _ _ _ _ hm76; exact absurd hm76 (Nat.not_lt_zero _)
            | succ nn9 ih76 =>
              intro b x z t ht hx hz hw hm76
              have a0 := hA0 p
              have t0 := hT4 k
              have m1 := mulb (show 0 ≤ t ∧ t ≤ 31 by omega) (show 0 ≤ g ∧ g ≤ 9 by omega)
              have m2 := mulb (show 0 ≤ t ∧ t ≤ 31 by omega) (show 0 ≤ y ∧ y ≤ 9 by omega)
              refine V_iload (pc := 76) C dX8_when_76 0 rfl ?_
              refine V_bipush (pc := 78) C dX8_when_78 rfl ?_
              refine V_icmp_gt (pc := 80) 152 C dX8_when_80 (by decide) (sm_i (by omega)) (sm_i (by decide)) (fun c80 => ?_) (fun c80 => ?_)
              · refine V_iload (pc := 152) C dX8_when_152 3 rfl ?_
                exact V_iret (pc := 154) C Z dX8_when_154 () trivial (ri (by unfold pWhen; rw [if_neg (by omega), if_neg (by omega)]; rw [show (t - 1).toNat = 30 by omega] at hw; rw [← hw])) rfl
              · have m5 := mulb (show 0 ≤ t ∧ t ≤ 30 by omega) (show 0 ≤ y ∧ y ≤ 9 by omega)
                refine V_bipush (pc := 83) C dX8_when_83 rfl ?_
                refine V_aload_n (pc := 85) C dX8_when_85 rfl 4 rfl ?_
                refine gf_X8_36 (x := q 4) (pc := 86) C dX8_when_86 0 rfl rfl ?_
                refine gf_X8_103 (x := qa 0) (pc := 89) C dX8_when_89 3 rfl rfl ?_
                refine V_iload_n (pc := 92) C dX8_when_92 rfl 5 rfl ?_
                refine V_iald (f := A0) (pc := 93) C dX8_when_93 4 rfl (by omega) (by omega) (Nat.le_of_ble_eq_true rfl) ?_
                have b93 := hA0 p
                refine V_iload (pc := 94) C dX8_when_94 0 rfl ?_
                refine V_iload_n (pc := 96) C dX8_when_96 rfl 7 rfl ?_
                refine V_imul (pc := 97) C dX8_when_97 ?_
                refine V_iadd (pc := 98) C dX8_when_98 ?_
                refine mm_X8_236 (pc := 99) C dX8_when_99 (sm_i (by decide)) (sm_i (by omega)) (by omega) (by show _ ≤ R9.locals; rw [hRl]; exact Nat.le_of_ble_eq_true rfl) (Nat.zero_le _) (Nat.zero_le _) ?_
                refine V_istore (lv' := [(9, .int (iI (min 99 ((A0 p) + (t * g))))), (8, .int (iI t)), (7, .int (iI z)), (6, .int (iI x)), (5, .int (iI b)), (0, .ref o), (1, .int (iI p)), (2, .int (iI k)), (3, .int (iI g)), (4, .int (iI y))]) (pc := 102) C dX8_when_102 (by decide) rfl ?_
                refine V_aload_n (pc := 104) C dX8_when_104 rfl 5 rfl ?_
                refine gf_X8_26 (x := q 2) (pc := 105) C dX8_when_105 0 rfl rfl ?_
                refine gf_X8_126 (x := qt 4) (pc := 108) C dX8_when_108 1 rfl rfl ?_
                refine V_iload_n (pc := 111) C dX8_when_111 rfl 7 rfl ?_
                refine V_iald (f := T4) (pc := 112) C dX8_when_112 2 rfl (by omega) (by omega) (Nat.le_of_ble_eq_true rfl) ?_
                have b112 := hT4 k
                refine V_iload (pc := 113) C dX8_when_113 1 rfl ?_
                refine V_iload (pc := 115) C dX8_when_115 9 rfl ?_
                refine V_imul (pc := 117) C dX8_when_117 ?_
                refine V_iadd (pc := 118) C dX8_when_118 ?_
                refine V_istore (lv' := [(10, .int (iI ((T4 k) + (t * y)))), (9, .int (iI (min 99 ((A0 p) + (t * g))))), (8, .int (iI t)), (7, .int (iI z)), (6, .int (iI x)), (5, .int (iI b)), (0, .ref o), (1, .int (iI p)), (2, .int (iI k)), (3, .int (iI g)), (4, .int (iI y))]) (pc := 119) C dX8_when_119 (by decide) rfl ?_
                refine V_iload (pc := 121) C dX8_when_121 1 rfl ?_
                refine V_iload (pc := 123) C dX8_when_123 3 rfl ?_
                refine V_imul (pc := 125) C dX8_when_125 ?_
                refine V_iload (pc := 126) C dX8_when_126 4 rfl ?_
                refine V_iload (pc := 128) C dX8_when_128 0 rfl ?_
                refine V_imul (pc := 130) C dX8_when_130 ?_
                have m3 := mulb (show 0 ≤ min 99 (A0 p + t * g) ∧ min 99 (A0 p + t * g) ≤ 99 by omega) (show 0 ≤ z ∧ z ≤ 369 by omega)
                have m4 := mulb (show 0 ≤ x ∧ x ≤ 99 by omega) (show 0 ≤ T4 k + t * y ∧ T4 k + t * y ≤ 378 by omega)
                refine V_icmp_le (pc := 131) 146 C dX8_when_131 (by decide) (sm_i (by omega)) (sm_i (by omega)) (fun c131 => ?_) (fun c131 => ?_)
                · refine V_iinc (lv' := [(8, .int (iI (t + 1))), (10, .int (iI ((T4 k) + (t * y)))), (9, .int (iI (min 99 ((A0 p) + (t * g))))), (7, .int (iI z)), (6, .int (iI x)), (5, .int (iI b)), (0, .ref o), (1, .int (iI p)), (2, .int (iI k)), (3, .int (iI g)), (4, .int (iI y))]) (pc := 146) C dX8_when_146 2 rfl (by decide) rfl ?_
                  refine V_goto (pc := 149) 76 C dX8_when_149 (by decide) ?_
                  exact V_sub [0, 3, 4, 5, 6, 7, 8, 9, 10] rfl (ih76 b x z (t + 1) (by omega) (by omega) (by omega) (by rw [whN_s ht.1 hw]; (repeat' split) <;> first | rfl | omega) (by omega))
                · refine V_iload (pc := 134) C dX8_when_134 2 rfl ?_
                  refine V_istore (lv' := [(5, .int (iI t)), (10, .int (iI ((T4 k) + (t * y)))), (9, .int (iI (min 99 ((A0 p) + (t * g))))), (8, .int (iI t)), (7, .int (iI z)), (6, .int (iI x)), (0, .ref o), (1, .int (iI p)), (2, .int (iI k)), (3, .int (iI g)), (4, .int (iI y))]) (pc := 136) C dX8_when_136 (by decide) rfl ?_
                  refine V_iload (pc := 138) C dX8_when_138 2 rfl ?_
                  refine V_istore (lv' := [(6, .int (iI (min 99 ((A0 p) + (t * g))))), (5, .int (iI t)), (10, .int (iI ((T4 k) + (t * y)))), (9, .int (iI (min 99 ((A0 p) + (t * g))))), (8, .int (iI t)), (7, .int (iI z)), (0, .ref o), (1, .int (iI p)), (2, .int (iI k)), (3, .int (iI g)), (4, .int (iI y))]) (pc := 140) C dX8_when_140 (by decide) rfl ?_
                  refine V_iload (pc := 142) C dX8_when_142 2 rfl ?_
                  refine V_istore (lv' := [(7, .int (iI ((T4 k) + (t * y)))), (6, .int (iI (min 99 ((A0 p) + (t * g))))), (5, .int (iI t)), (10, .int (iI ((T4 k) + (t * y)))), (9, .int (iI (min 99 ((A0 p) + (t * g))))), (8, .int (iI t)), (0, .ref o), (1, .int (iI p)), (2, .int (iI k)), (3, .int (iI g)), (4, .int (iI y))]) (pc := 144) C dX8_when_144 (by decide) rfl ?_
                  refine V_iinc (lv' := [(8, .int (iI (t + 1))), (7, .int (iI ((T4 k) + (t * y)))), (6, .int (iI (min 99 ((A0 p) + (t * g))))), (5, .int (iI t)), (10, .int (iI ((T4 k) + (t * y)))), (9, .int (iI (min 99 ((A0 p) + (t * g))))), (0, .ref o), (1, .int (iI p)), (2, .int (iI k)), (3, .int (iI g)), (4, .int (iI y))]) (pc := 146) C dX8_when_146 5 rfl (by decide) rfl ?_
                  refine V_goto (pc := 149) 76 C dX8_when_149 (by decide) ?_
                  exact V_sub [0, 1, 2, 3, 6, 7, 8, 9, 10] rfl (ih76 t (min 99 ((A0 p) + (t * g))) ((T4 k) + (t * y)) (t + 1) (by omega) (by omega) (by omega) (by rw [whN_s ht.1 hw]; (repeat' split) <;> first | rfl | omega) (by omega))
          exact V_sub [0, 1, 2, 3, 4, 5, 6, 7, 8] rfl (L76 (((31 : Int) - 1).toNat + 1) 0 (A0 p) (T4 k) 1 (by omega) (by omega) (by omega) (rfl) (Nat.lt_succ_self _))
        · refine V_bipush (pc := 45) C dX8_when_45 rfl ?_
          exact V_iret (pc := 47) C Z dX8_when_47 () trivial (ri (by unfold pWhen; (try dsimp only); (repeat' split) <;> first | rfl | omega)) rfl
    · refine V_iconst (pc := 22) C dX8_when_22 ?_
      exact V_iret (pc := 23) C Z dX8_when_23 () trivial (ri (by unfold pWhen; (try dsimp only); (repeat' split) <;> first | rfl | omega)) rfl
set_option maxRecDepth 100000 in
set_option maxHeartbeats 4000000 in
theorem c_X8_write (l : Launch) (D : va_G) (d : Nat → ClassId) (o : Nat) (q : Nat → Nat) (f : Nat → Int) (qs : Nat → Nat) (fs : Nat → Int) (S0 : Int → Int) (n : Int) (v : Int) (hs : 0 ≤ fs 1 ∧ fs 1 ≤ 72) (hnn : -2147483648 ≤ n ∧ n ≤ 2147483647) (hv : -9223372036854775808 ≤ v ∧ v ≤ 9223372036854775807) : CU l yX8_write cX8_write 4 (some .int) 1 24 D d [.ref o, .int (iI n), .long (lI v)] [(o, .inr (8, fX8 q f)), (q 0, .inr (4, fX4 qs fs)), (qs 0, aI (d 0) 72 S0)] (fun (u : Int × Int × (Int → Int)) => u = pWrite (fs 1) S0 n v) (fun (u : Int × Int × (Int → Int)) => some (.int (iI (u.1)))) (fun (u : Int × Int × (Int → Int)) => [(o, .inr (8, fX8 q f)), (q 0, .inr (4, fX4 qs (up fs 1 u.2.1))), (qs 0, aI (d 0) 72 u.2.2)]) := by
  refine CU.mk (own := RX8) (lv := [(0, .ref o), (1, .int (iI n)), (2, .long (lI v))]) rfl (by decide) (Nat.le_of_ble_eq_true rfl) rfl ?_
  intro p9 e9 R9 s9 m9 args9 below9 meth9 c9 A9 Q9 hRf hRl C Z
  refine V_iload_n (pc := 0) C dX8_write_0 rfl 1 rfl ?_
  refine V_iconst (pc := 1) C dX8_write_1 ?_
  refine V_bipush (pc := 2) C dX8_write_2 rfl ?_
  refine cs_X8_72 (pc := 4) (rest := []) (wn := fun _ => [(o, .inr (8, fX8 q f)), (q 0, .inr (4, fX4 qs fs)), (qs 0, aI (d 0) 72 S0)]) (sn := fun _ => [.int (iI (bI (1 ≤ n ∧ n ≤ 8)))]) C dX8_write_4 (c_X8_within l D d n 1 8 hnn (by omega) (by omega)) [] rfl rfl rfl rfl (Nat.le_of_ble_eq_true rfl) ⟨by omega, by omega⟩ ⟨Nat.zero_le _, Nat.zero_le _⟩ (fun _ => rfl) (fun _ => rfl) (fun _ => rfl) ?_
  intro _ _
  refine V_ifb_ne (pc := 7) 13 C dX8_write_7 (by decide) (fun c7 => ?_) (fun c7 => ?_)
  · refine V_aload_n (pc := 13) C dX8_write_13 rfl 0 rfl ?_
    refine gf_X8_12 (x := q 0) (pc := 14) C dX8_write_14 0 rfl rfl ?_
    refine gf_X8_76 (x := fs 1) (pc := 17) C dX8_write_17 1 rfl rfl ?_
    refine V_iload_n (pc := 20) C dX8_write_20 rfl 1 rfl ?_
    refine V_iadd (pc := 21) C dX8_write_21 ?_
    refine V_bipush (pc := 22) C dX8_write_22 rfl ?_
    refine V_icmp_le (pc := 24) 30 C dX8_write_24 (by decide) (sm_i (by omega)) (sm_i (by decide)) (fun c24 => ?_) (fun c24 => ?_)
    · refine V_aload_n (pc := 30) C dX8_write_30 rfl 0 rfl ?_
      refine gf_X8_12 (x := q 0) (pc := 31) C dX8_write_31 0 rfl rfl ?_
      refine V_iload_n (pc := 34) C dX8_write_34 rfl 1 rfl ?_
      refine V_lload_n (pc := 35) C dX8_write_35 rfl 2 rfl ?_
      refine cv_X8_80 (pc := 36) (rest := []) (wn := fun _ => [(o, .inr (8, fX8 q f)), (q 0, .inr (4, fX4 qs (up fs 1 ((fs 1) + n)))), (qs 0, aI (d 0) 72 (apS S0 ((fs 1)) n v n))]) (sn := fun _ => []) C dX8_write_36 (c_X4_append l D d (q 0) qs fs S0 n v (by omega) (by omega) hv) [1, 2] rfl rfl 1 rfl rfl rfl (Nat.le_of_ble_eq_true rfl) ⟨by omega, by omega⟩ ⟨Nat.zero_le _, Nat.zero_le _⟩ (fun _ => rfl) (fun _ => rfl) (fun _ => rfl) ?_
      intro _ _
      refine V_aload_n (pc := 39) C dX8_write_39 rfl 0 rfl ?_
      refine gf_X8_12 (x := q 0) (pc := 40) C dX8_write_40 0 rfl rfl ?_
      refine gf_X8_76 (x := (fs 1) + n) (pc := 43) C dX8_write_43 1 rfl rfl ?_
      exact V_iret (pc := 46) C Z dX8_write_46 ((fs 1) + n, (fs 1) + n, apS S0 ((fs 1)) n v n) (by unfold pWrite; (try dsimp only); (repeat' split) <;> first | rfl | omega) (ri (by rfl)) (by first | rfl | rw [up_same rfl])
    · refine V_bipush (pc := 27) C dX8_write_27 rfl ?_
      exact V_iret (pc := 29) C Z dX8_write_29 (-4, fs 1, S0) (by unfold pWrite; (try dsimp only); (repeat' split) <;> first | rfl | omega) (ri (by rfl)) (by first | rfl | rw [up_same rfl])
  · refine V_bipush (pc := 10) C dX8_write_10 rfl ?_
    exact V_iret (pc := 12) C Z dX8_write_12 (-2, fs 1, S0) (by unfold pWrite; (try dsimp only); (repeat' split) <;> first | rfl | omega) (ri (by rfl)) (by first | rfl | rw [up_same rfl])
set_option maxRecDepth 100000 in
set_option maxHeartbeats 4000000 in
theorem c_X8_wipe (l : Launch) (D : va_G) (d : Nat → ClassId) (o : Nat) (q : Nat → Nat) (f : Nat → Int) (qs : Nat → Nat) (fs : Nat → Int) : CU l yX8_wipe cX8_wipe 2 (some .int) 0 0 D d [.ref o] [(o, .inr (8, fX8 q f)), (q 0, .inr (4, fX4 qs fs))] (fun (_ : Unit) => True) (fun (_ : Unit) => some (.int (iI (fs 1)))) (fun (_ : Unit) => [(o, .inr (8, fX8 q f)), (q 0, .inr (4, fX4 qs (up fs 1 0)))]) := by
  refine CU.mk (own := RX8) (lv := [(0, .ref o)]) rfl (by decide) (Nat.le_of_ble_eq_true rfl) rfl ?_
  intro p9 e9 R9 s9 m9 args9 below9 meth9 c9 A9 Q9 hRf hRl C Z
  refine V_aload_n (pc := 0) C dX8_wipe_0 rfl 0 rfl ?_
  refine gf_X8_12 (x := q 0) (pc := 1) C dX8_wipe_1 0 rfl rfl ?_
  refine gf_X8_76 (x := fs 1) (pc := 4) C dX8_wipe_4 1 rfl rfl ?_
  refine V_istore_n (lv' := [(1, .int (iI (fs 1))), (0, .ref o)]) (pc := 7) C dX8_wipe_7 rfl (by decide) rfl ?_
  refine V_aload_n (pc := 8) C dX8_wipe_8 rfl 1 rfl ?_
  refine gf_X8_12 (x := q 0) (pc := 9) C dX8_wipe_9 0 rfl rfl ?_
  refine V_iconst (pc := 12) C dX8_wipe_12 ?_
  refine pf_X8_76 (ws' := [(o, .inr (8, fX8 q f)), (q 0, .inr (4, fX4 qs (up fs 1 0)))]) (pc := 13) C dX8_wipe_13 1 rfl rfl ?_
  refine V_iload_n (pc := 16) C dX8_wipe_16 rfl 0 rfl ?_
  exact V_iret (pc := 17) C Z dX8_wipe_17 () trivial (ri (by first | rfl | omega | exact bI_t (by omega) | exact bI_f (by omega))) rfl
set_option maxRecDepth 100000 in
set_option maxHeartbeats 4000000 in
theorem c_X8_count (l : Launch) (D : va_G) (d : Nat → ClassId) (o : Nat) (q : Nat → Nat) (f : Nat → Int) (qs : Nat → Nat) (fs : Nat → Int) (qt : Nat → Nat) (ft : Nat → Int) (qa : Nat → Nat) (fa : Nat → Int) (qe : Nat → Nat) (fe : Nat → Int) (qh : Nat → Nat) (fh : Nat → Int) (w : Int) (hw : -2147483648 ≤ w ∧ w ≤ 2147483647) : CU l yX8_count cX8_count 2 (some .int) 0 0 D d [.ref o, .int (iI w)] [(o, .inr (8, fX8 q f)), (q 0, .inr (4, fX4 qs fs)), (q 2, .inr (6, fX6 qt ft)), (q 4, .inr (5, fX5 qa fa)), (q 7, .inr (0, fX0 qe fe)), (q 9, .inr (1, fX1 qh fh))] (fun (_ : Unit) => True) (fun (_ : Unit) => some (.int (iI (pCount (ft 6) (ft 7) (fa 6) (fe 5) (fh 2) (fa 7) (fs 1) w)))) (fun (_ : Unit) => [(o, .inr (8, fX8 q f)), (q 0, .inr (4, fX4 qs fs)), (q 2, .inr (6, fX6 qt ft)), (q 4, .inr (5, fX5 qa fa)), (q 7, .inr (0, fX0 qe fe)), (q 9, .inr (1, fX1 qh fh))]) := by
  refine CU.mk (own := RX8) (lv := [(0, .ref o), (1, .int (iI w))]) rfl (by decide) (Nat.le_of_ble_eq_true rfl) rfl ?_
  intro p9 e9 R9 s9 m9 args9 below9 meth9 c9 A9 Q9 hRf hRl C Z
  refine V_iload_n (pc := 0) C dX8_count_0 rfl 1 rfl ?_
  by_cases k1_0 : w = 0
  · refine V_tswIn (pc := 1) (k := 0) 44 C dX8_count_1 k1_0 (sm_i (by omega)) (by decide) (by decide) rfl (by decide) ?_
    refine V_aload_n (pc := 44) C dX8_count_44 rfl 0 rfl ?_
    refine gf_X8_26 (x := q 2) (pc := 45) C dX8_count_45 0 rfl rfl ?_
    refine gf_X8_96 (x := ft 6) (pc := 48) C dX8_count_48 2 rfl rfl ?_
    exact V_iret (pc := 51) C Z dX8_count_51 () trivial (ri (by unfold pCount; (try dsimp only); (repeat' split) <;> first | rfl | omega)) rfl
  by_cases k1_1 : w = 1
  · refine V_tswIn (pc := 1) (k := 1) 52 C dX8_count_1 k1_1 (sm_i (by omega)) (by decide) (by decide) rfl (by decide) ?_
    refine V_aload_n (pc := 52) C dX8_count_52 rfl 0 rfl ?_
    refine gf_X8_26 (x := q 2) (pc := 53) C dX8_count_53 0 rfl rfl ?_
    refine gf_X8_266 (x := ft 7) (pc := 56) C dX8_count_56 2 rfl rfl ?_
    exact V_iret (pc := 59) C Z dX8_count_59 () trivial (ri (by unfold pCount; (try dsimp only); (repeat' split) <;> first | rfl | omega)) rfl
  by_cases k1_2 : w = 2
  · refine V_tswIn (pc := 1) (k := 2) 60 C dX8_count_1 k1_2 (sm_i (by omega)) (by decide) (by decide) rfl (by decide) ?_
    refine V_aload_n (pc := 60) C dX8_count_60 rfl 0 rfl ?_
    refine gf_X8_36 (x := q 4) (pc := 61) C dX8_count_61 0 rfl rfl ?_
    refine gf_X8_146 (x := fa 6) (pc := 64) C dX8_count_64 3 rfl rfl ?_
    exact V_iret (pc := 67) C Z dX8_count_67 () trivial (ri (by unfold pCount; (try dsimp only); (repeat' split) <;> first | rfl | omega)) rfl
  by_cases k1_3 : w = 3
  · refine V_tswIn (pc := 1) (k := 3) 68 C dX8_count_1 k1_3 (sm_i (by omega)) (by decide) (by decide) rfl (by decide) ?_
    refine V_aload_n (pc := 68) C dX8_count_68 rfl 0 rfl ?_
    refine gf_X8_54 (x := q 7) (pc := 69) C dX8_count_69 0 rfl rfl ?_
    refine gf_X8_185 (x := fe 5) (pc := 72) C dX8_count_72 4 rfl rfl ?_
    exact V_iret (pc := 75) C Z dX8_count_75 () trivial (ri (by unfold pCount; (try dsimp only); (repeat' split) <;> first | rfl | omega)) rfl
  by_cases k1_4 : w = 4
  · refine V_tswIn (pc := 1) (k := 4) 76 C dX8_count_1 k1_4 (sm_i (by omega)) (by decide) (by decide) rfl (by decide) ?_
    refine V_aload_n (pc := 76) C dX8_count_76 rfl 0 rfl ?_
    refine gf_X8_68 (x := q 9) (pc := 77) C dX8_count_77 0 rfl rfl ?_
    refine gf_X8_242 (x := fh 2) (pc := 80) C dX8_count_80 5 rfl rfl ?_
    exact V_iret (pc := 83) C Z dX8_count_83 () trivial (ri (by unfold pCount; (try dsimp only); (repeat' split) <;> first | rfl | omega)) rfl
  by_cases k1_5 : w = 5
  · refine V_tswIn (pc := 1) (k := 5) 84 C dX8_count_1 k1_5 (sm_i (by omega)) (by decide) (by decide) rfl (by decide) ?_
    refine V_aload_n (pc := 84) C dX8_count_84 rfl 0 rfl ?_
    refine gf_X8_36 (x := q 4) (pc := 85) C dX8_count_85 0 rfl rfl ?_
    refine gf_X8_143 (x := fa 7) (pc := 88) C dX8_count_88 3 rfl rfl ?_
    exact V_iret (pc := 91) C Z dX8_count_91 () trivial (ri (by unfold pCount; (try dsimp only); (repeat' split) <;> first | rfl | omega)) rfl
  by_cases k1_6 : w = 6
  · refine V_tswIn (pc := 1) (k := 6) 92 C dX8_count_1 k1_6 (sm_i (by omega)) (by decide) (by decide) rfl (by decide) ?_
    refine V_aload_n (pc := 92) C dX8_count_92 rfl 0 rfl ?_
    refine gf_X8_12 (x := q 0) (pc := 93) C dX8_count_93 0 rfl rfl ?_
    refine gf_X8_76 (x := fs 1) (pc := 96) C dX8_count_96 1 rfl rfl ?_
    exact V_iret (pc := 99) C Z dX8_count_99 () trivial (ri (by unfold pCount; (try dsimp only); (repeat' split) <;> first | rfl | omega)) rfl
  refine V_tswOut (pc := 1) 100 C dX8_count_1 (sm_i (by omega)) (by omega) (by decide) ?_
  refine V_bipush (pc := 100) C dX8_count_100 rfl ?_
  exact V_iret (pc := 102) C Z dX8_count_102 () trivial (ri (by unfold pCount; (try dsimp only); (repeat' split) <;> first | rfl | omega)) rfl
set_option maxRecDepth 100000 in
set_option maxHeartbeats 4000000 in
theorem c_X0_add (l : Launch) (D : va_G) (d : Nat → ClassId) (o : Nat) (q : Nat → Nat) (f : Nat → Int) (E0 : Int → Int) (E1 : Int → Int) (E2 : Int → Int) (E3 : Int → Int) (E4 : Int → Int) (a : Int) (b : Int) (x : Int) (y : Int) (z : Int) (h5 : 0 ≤ f 5 ∧ f 5 < 8) : CU l yX0_add cX0_add 6 none 0 0 D d [.ref o, .int (iI a), .int (iI b), .int (iI x), .int (iI y), .int (iI z)] [(o, .inr (0, fX0 q f)), (q 0, aI (d 0) 8 E0), (q 1, aI (d 0) 8 E1), (q 2, aI (d 0) 8 E2), (q 3, aI (d 0) 8 E3), (q 4, aI (d 0) 8 E4)] (fun (_ : Unit) => True) (fun (_ : Unit) => none) (fun (_ : Unit) => [(o, .inr (0, fX0 q (up f 5 (f 5 + 1)))), (q 0, aI (d 0) 8 (uI E0 (f 5) a)), (q 1, aI (d 0) 8 (uI E1 (f 5) b)), (q 2, aI (d 0) 8 (uI E2 (f 5) x)), (q 3, aI (d 0) 8 (uI E3 (f 5) y)), (q 4, aI (d 0) 8 (uI E4 (f 5) z))]) := by
  refine CU.mk (own := RX0) (lv := [(0, .ref o), (1, .int (iI a)), (2, .int (iI b)), (3, .int (iI x)), (4, .int (iI y)), (5, .int (iI z))]) rfl (by decide) (Nat.le_of_ble_eq_true rfl) rfl ?_
  intro p9 e9 R9 s9 m9 args9 below9 meth9 c9 A9 Q9 hRf hRl C Z
  refine V_aload_n (pc := 0) C dX0_add_0 rfl 0 rfl ?_
  refine gf_X0_9 (x := q 0) (pc := 1) C dX0_add_1 0 rfl rfl ?_
  refine V_aload_n (pc := 4) C dX0_add_4 rfl 0 rfl ?_
  refine gf_X0_30 (x := f 5) (pc := 5) C dX0_add_5 0 rfl rfl ?_
  refine V_iload_n (pc := 8) C dX0_add_8 rfl 1 rfl ?_
  refine V_iast (f := E0) (ws' := [(o, .inr (0, fX0 q f)), (q 0, aI (d 0) 8 (uI E0 (f 5) a)), (q 1, aI (d 0) 8 E1), (q 2, aI (d 0) 8 E2), (q 3, aI (d 0) 8 E3), (q 4, aI (d 0) 8 E4)]) (pc := 9) C dX0_add_9 1 rfl (by omega) (by omega) (Nat.le_of_ble_eq_true rfl) rfl ?_
  refine V_aload_n (pc := 10) C dX0_add_10 rfl 0 rfl ?_
  refine gf_X0_15 (x := q 1) (pc := 11) C dX0_add_11 0 rfl rfl ?_
  refine V_aload_n (pc := 14) C dX0_add_14 rfl 0 rfl ?_
  refine gf_X0_30 (x := f 5) (pc := 15) C dX0_add_15 0 rfl rfl ?_
  refine V_iload_n (pc := 18) C dX0_add_18 rfl 2 rfl ?_
  refine V_iast (f := E1) (ws' := [(o, .inr (0, fX0 q f)), (q 0, aI (d 0) 8 (uI E0 (f 5) a)), (q 1, aI (d 0) 8 (uI E1 (f 5) b)), (q 2, aI (d 0) 8 E2), (q 3, aI (d 0) 8 E3), (q 4, aI (d 0) 8 E4)]) (pc := 19) C dX0_add_19 2 rfl (by omega) (by omega) (Nat.le_of_ble_eq_true rfl) rfl ?_
  refine V_aload_n (pc := 20) C dX0_add_20 rfl 0 rfl ?_
  refine gf_X0_18 (x := q 2) (pc := 21) C dX0_add_21 0 rfl rfl ?_
  refine V_aload_n (pc := 24) C dX0_add_24 rfl 0 rfl ?_
  refine gf_X0_30 (x := f 5) (pc := 25) C dX0_add_25 0 rfl rfl ?_
  refine V_iload_n (pc := 28) C dX0_add_28 rfl 3 rfl ?_
  refine V_iast (f := E2) (ws' := [(o, .inr (0, fX0 q f)), (q 0, aI (d 0) 8 (uI E0 (f 5) a)), (q 1, aI (d 0) 8 (uI E1 (f 5) b)), (q 2, aI (d 0) 8 (uI E2 (f 5) x)), (q 3, aI (d 0) 8 E3), (q 4, aI (d 0) 8 E4)]) (pc := 29) C dX0_add_29 3 rfl (by omega) (by omega) (Nat.le_of_ble_eq_true rfl) rfl ?_
  refine V_aload_n (pc := 30) C dX0_add_30 rfl 0 rfl ?_
  refine gf_X0_21 (x := q 3) (pc := 31) C dX0_add_31 0 rfl rfl ?_
  refine V_aload_n (pc := 34) C dX0_add_34 rfl 0 rfl ?_
  refine gf_X0_30 (x := f 5) (pc := 35) C dX0_add_35 0 rfl rfl ?_
  refine V_iload (pc := 38) C dX0_add_38 4 rfl ?_
  refine V_iast (f := E3) (ws' := [(o, .inr (0, fX0 q f)), (q 0, aI (d 0) 8 (uI E0 (f 5) a)), (q 1, aI (d 0) 8 (uI E1 (f 5) b)), (q 2, aI (d 0) 8 (uI E2 (f 5) x)), (q 3, aI (d 0) 8 (uI E3 (f 5) y)), (q 4, aI (d 0) 8 E4)]) (pc := 40) C dX0_add_40 4 rfl (by omega) (by omega) (Nat.le_of_ble_eq_true rfl) rfl ?_
  refine V_aload_n (pc := 41) C dX0_add_41 rfl 0 rfl ?_
  refine gf_X0_24 (x := q 4) (pc := 42) C dX0_add_42 0 rfl rfl ?_
  refine V_aload_n (pc := 45) C dX0_add_45 rfl 0 rfl ?_
  refine gf_X0_30 (x := f 5) (pc := 46) C dX0_add_46 0 rfl rfl ?_
  refine V_iload (pc := 49) C dX0_add_49 5 rfl ?_
  refine V_iast (f := E4) (ws' := [(o, .inr (0, fX0 q f)), (q 0, aI (d 0) 8 (uI E0 (f 5) a)), (q 1, aI (d 0) 8 (uI E1 (f 5) b)), (q 2, aI (d 0) 8 (uI E2 (f 5) x)), (q 3, aI (d 0) 8 (uI E3 (f 5) y)), (q 4, aI (d 0) 8 (uI E4 (f 5) z))]) (pc := 51) C dX0_add_51 5 rfl (by omega) (by omega) (Nat.le_of_ble_eq_true rfl) rfl ?_
  refine V_aload_n (pc := 52) C dX0_add_52 rfl 0 rfl ?_
  refine V_dup (pc := 53) C dX0_add_53 rfl ?_
  refine gf_X0_30 (x := f 5) (pc := 54) C dX0_add_54 0 rfl rfl ?_
  refine V_iconst (pc := 57) C dX0_add_57 ?_
  refine V_iadd (pc := 58) C dX0_add_58 ?_
  refine pf_X0_30 (ws' := [(o, .inr (0, fX0 q (up f 5 ((f 5) + 1)))), (q 0, aI (d 0) 8 (uI E0 (f 5) a)), (q 1, aI (d 0) 8 (uI E1 (f 5) b)), (q 2, aI (d 0) 8 (uI E2 (f 5) x)), (q 3, aI (d 0) 8 (uI E3 (f 5) y)), (q 4, aI (d 0) 8 (uI E4 (f 5) z))]) (pc := 59) C dX0_add_59 0 rfl rfl ?_
  exact V_vret (pc := 62) C Z dX0_add_62 () trivial rfl rfl
set_option maxRecDepth 100000 in
set_option maxHeartbeats 4000000 in
theorem c_X8_exchange (l : Launch) (D : va_G) (d : Nat → ClassId) (o : Nat) (q : Nat → Nat) (f : Nat → Int) (qe : Nat → Nat) (fe : Nat → Int) (E0 : Int → Int) (E1 : Int → Int) (E2 : Int → Int) (E3 : Int → Int) (E4 : Int → Int) (a : Int) (b : Int) (x : Int) (y : Int) (z : Int) (h5 : 0 ≤ fe 5 ∧ fe 5 ≤ 8) (sa : -2147483648 ≤ a ∧ a ≤ 2147483647) (sb : -2147483648 ≤ b ∧ b ≤ 2147483647) (sx : -2147483648 ≤ x ∧ x ≤ 2147483647) (sy : -2147483648 ≤ y ∧ y ≤ 2147483647) (sz : -2147483648 ≤ z ∧ z ≤ 2147483647) : CU l yX8_exchange cX8_exchange 6 (some .int) 1 25 D d [.ref o, .int (iI a), .int (iI b), .int (iI x), .int (iI y), .int (iI z)] [(o, .inr (8, fX8 q f)), (q 7, .inr (0, fX0 qe fe)), (qe 0, aI (d 0) 8 E0), (qe 1, aI (d 0) 8 E1), (qe 2, aI (d 0) 8 E2), (qe 3, aI (d 0) 8 E3), (qe 4, aI (d 0) 8 E4)] (fun (u : Int × Int × (Int → Int) × (Int → Int) × (Int → Int) × (Int → Int) × (Int → Int)) => u = pExchange (fe 5) E0 E1 E2 E3 E4 a b x y z) (fun (u : Int × Int × (Int → Int) × (Int → Int) × (Int → Int) × (Int → Int) × (Int → Int)) => some (.int (iI (u.1)))) (fun (u : Int × Int × (Int → Int) × (Int → Int) × (Int → Int) × (Int → Int) × (Int → Int)) => [(o, .inr (8, fX8 q f)), (q 7, .inr (0, fX0 qe (up fe 5 u.2.1))), (qe 0, aI (d 0) 8 u.2.2.1), (qe 1, aI (d 0) 8 u.2.2.2.1), (qe 2, aI (d 0) 8 u.2.2.2.2.1), (qe 3, aI (d 0) 8 u.2.2.2.2.2.1), (qe 4, aI (d 0) 8 u.2.2.2.2.2.2)]) := by
  refine CU.mk (own := RX8) (lv := [(0, .ref o), (1, .int (iI a)), (2, .int (iI b)), (3, .int (iI x)), (4, .int (iI y)), (5, .int (iI z))]) rfl (by decide) (Nat.le_of_ble_eq_true rfl) rfl ?_
  intro p9 e9 R9 s9 m9 args9 below9 meth9 c9 A9 Q9 hRf hRl C Z
  refine V_iload_n (pc := 0) C dX8_exchange_0 rfl 1 rfl ?_
  refine V_iconst (pc := 1) C dX8_exchange_1 ?_
  refine V_iconst (pc := 2) C dX8_exchange_2 ?_
  refine cs_X8_72 (pc := 3) (rest := []) (wn := fun _ => [(o, .inr (8, fX8 q f)), (q 7, .inr (0, fX0 qe fe)), (qe 0, aI (d 0) 8 E0), (qe 1, aI (d 0) 8 E1), (qe 2, aI (d 0) 8 E2), (qe 3, aI (d 0) 8 E3), (qe 4, aI (d 0) 8 E4)]) (sn := fun _ => [.int (iI (bI (0 ≤ a ∧ a ≤ 2)))]) C dX8_exchange_3 (c_X8_within l D d a 0 2 sa (by omega) (by omega)) [] rfl rfl rfl rfl (Nat.le_of_ble_eq_true rfl) ⟨by omega, by omega⟩ ⟨Nat.zero_le _, Nat.zero_le _⟩ (fun _ => rfl) (fun _ => rfl) (fun _ => rfl) ?_
  intro _ _
  refine V_ifb_eq (pc := 6) 18 C dX8_exchange_6 (by decide) (fun c6 => ?_) (fun c6 => ?_)
  · refine V_iconst (pc := 18) C dX8_exchange_18 ?_
    exact V_iret (pc := 19) C Z dX8_exchange_19 (-1, fe 5, E0, E1, E2, E3, E4) (by unfold pExchange; (try dsimp only); (repeat' split) <;> first | rfl | omega) (ri (by rfl)) (by first | rfl | rw [up_same rfl])
  · refine V_iload_n (pc := 9) C dX8_exchange_9 rfl 2 rfl ?_
    refine V_iconst (pc := 10) C dX8_exchange_10 ?_
    refine V_iconst (pc := 11) C dX8_exchange_11 ?_
    refine cs_X8_72 (pc := 12) (rest := []) (wn := fun _ => [(o, .inr (8, fX8 q f)), (q 7, .inr (0, fX0 qe fe)), (qe 0, aI (d 0) 8 E0), (qe 1, aI (d 0) 8 E1), (qe 2, aI (d 0) 8 E2), (qe 3, aI (d 0) 8 E3), (qe 4, aI (d 0) 8 E4)]) (sn := fun _ => [.int (iI (bI (0 ≤ b ∧ b ≤ 2)))]) C dX8_exchange_12 (c_X8_within l D d b 0 2 sb (by omega) (by omega)) [] rfl rfl rfl rfl (Nat.le_of_ble_eq_true rfl) ⟨by omega, by omega⟩ ⟨Nat.zero_le _, Nat.zero_le _⟩ (fun _ => rfl) (fun _ => rfl) (fun _ => rfl) ?_
    intro _ _
    refine V_ifb_ne (pc := 15) 20 C dX8_exchange_15 (by decide) (fun c15 => ?_) (fun c15 => ?_)
    · refine V_iload_n (pc := 20) C dX8_exchange_20 rfl 1 rfl ?_
      refine V_iload_n (pc := 21) C dX8_exchange_21 rfl 2 rfl ?_
      refine V_icmp_eq (pc := 22) 57 C dX8_exchange_22 (by decide) (sm_i (by omega)) (sm_i (by omega)) (fun c22 => ?_) (fun c22 => ?_)
      · refine V_bipush (pc := 57) C dX8_exchange_57 rfl ?_
        exact V_iret (pc := 59) C Z dX8_exchange_59 (-2, fe 5, E0, E1, E2, E3, E4) (by unfold pExchange; (try dsimp only); (repeat' split) <;> first | rfl | omega) (ri (by rfl)) (by first | rfl | rw [up_same rfl])
      · refine V_iload_n (pc := 25) C dX8_exchange_25 rfl 3 rfl ?_
        refine V_iconst (pc := 26) C dX8_exchange_26 ?_
        refine V_bipush (pc := 27) C dX8_exchange_27 rfl ?_
        refine cs_X8_72 (pc := 29) (rest := []) (wn := fun _ => [(o, .inr (8, fX8 q f)), (q 7, .inr (0, fX0 qe fe)), (qe 0, aI (d 0) 8 E0), (qe 1, aI (d 0) 8 E1), (qe 2, aI (d 0) 8 E2), (qe 3, aI (d 0) 8 E3), (qe 4, aI (d 0) 8 E4)]) (sn := fun _ => [.int (iI (bI (1 ≤ x ∧ x ≤ 9)))]) C dX8_exchange_29 (c_X8_within l D d x 1 9 sx (by omega) (by omega)) [] rfl rfl rfl rfl (Nat.le_of_ble_eq_true rfl) ⟨by omega, by omega⟩ ⟨Nat.zero_le _, Nat.zero_le _⟩ (fun _ => rfl) (fun _ => rfl) (fun _ => rfl) ?_
        intro _ _
        refine V_ifb_eq (pc := 32) 57 C dX8_exchange_32 (by decide) (fun c32 => ?_) (fun c32 => ?_)
        · refine V_bipush (pc := 57) C dX8_exchange_57 rfl ?_
          exact V_iret (pc := 59) C Z dX8_exchange_59 (-2, fe 5, E0, E1, E2, E3, E4) (by unfold pExchange; (try dsimp only); (repeat' split) <;> first | rfl | omega) (ri (by rfl)) (by first | rfl | rw [up_same rfl])
        · refine V_iload (pc := 35) C dX8_exchange_35 4 rfl ?_
          refine V_iconst (pc := 37) C dX8_exchange_37 ?_
          refine V_bipush (pc := 38) C dX8_exchange_38 rfl ?_
          refine cs_X8_72 (pc := 40) (rest := []) (wn := fun _ => [(o, .inr (8, fX8 q f)), (q 7, .inr (0, fX0 qe fe)), (qe 0, aI (d 0) 8 E0), (qe 1, aI (d 0) 8 E1), (qe 2, aI (d 0) 8 E2), (qe 3, aI (d 0) 8 E3), (qe 4, aI (d 0) 8 E4)]) (sn := fun _ => [.int (iI (bI (1 ≤ y ∧ y ≤ 9)))]) C dX8_exchange_40 (c_X8_within l D d y 1 9 sy (by omega) (by omega)) [] rfl rfl rfl rfl (Nat.le_of_ble_eq_true rfl) ⟨by omega, by omega⟩ ⟨Nat.zero_le _, Nat.zero_le _⟩ (fun _ => rfl) (fun _ => rfl) (fun _ => rfl) ?_
          intro _ _
          refine V_ifb_eq (pc := 43) 57 C dX8_exchange_43 (by decide) (fun c43 => ?_) (fun c43 => ?_)
          · refine V_bipush (pc := 57) C dX8_exchange_57 rfl ?_
            exact V_iret (pc := 59) C Z dX8_exchange_59 (-2, fe 5, E0, E1, E2, E3, E4) (by unfold pExchange; (try dsimp only); (repeat' split) <;> first | rfl | omega) (ri (by rfl)) (by first | rfl | rw [up_same rfl])
          · refine V_iload (pc := 46) C dX8_exchange_46 5 rfl ?_
            refine V_iconst (pc := 48) C dX8_exchange_48 ?_
            refine V_bipush (pc := 49) C dX8_exchange_49 rfl ?_
            refine cs_X8_72 (pc := 51) (rest := []) (wn := fun _ => [(o, .inr (8, fX8 q f)), (q 7, .inr (0, fX0 qe fe)), (qe 0, aI (d 0) 8 E0), (qe 1, aI (d 0) 8 E1), (qe 2, aI (d 0) 8 E2), (qe 3, aI (d 0) 8 E3), (qe 4, aI (d 0) 8 E4)]) (sn := fun _ => [.int (iI (bI (1 ≤ z ∧ z ≤ 99)))]) C dX8_exchange_51 (c_X8_within l D d z 1 99 sz (by omega) (by omega)) [] rfl rfl rfl rfl (Nat.le_of_ble_eq_true rfl) ⟨by omega, by omega⟩ ⟨Nat.zero_le _, Nat.zero_le _⟩ (fun _ => rfl) (fun _ => rfl) (fun _ => rfl) ?_
            intro _ _
            refine V_ifb_ne (pc := 54) 60 C dX8_exchange_54 (by decide) (fun c54 => ?_) (fun c54 => ?_)
            · refine V_aload_n (pc := 60) C dX8_exchange_60 rfl 0 rfl ?_
              refine gf_X8_54 (x := q 7) (pc := 61) C dX8_exchange_61 0 rfl rfl ?_
              refine gf_X8_185 (x := fe 5) (pc := 64) C dX8_exchange_64 1 rfl rfl ?_
              refine V_bipush (pc := 67) C dX8_exchange_67 rfl ?_
              refine V_icmp_lt (pc := 69) 75 C dX8_exchange_69 (by decide) (sm_i (by omega)) (sm_i (by decide)) (fun c69 => ?_) (fun c69 => ?_)
              · refine V_aload_n (pc := 75) C dX8_exchange_75 rfl 0 rfl ?_
                refine gf_X8_54 (x := q 7) (pc := 76) C dX8_exchange_76 0 rfl rfl ?_
                refine V_iload_n (pc := 79) C dX8_exchange_79 rfl 1 rfl ?_
                refine V_iload_n (pc := 80) C dX8_exchange_80 rfl 2 rfl ?_
                refine V_iload_n (pc := 81) C dX8_exchange_81 rfl 3 rfl ?_
                refine V_iload (pc := 82) C dX8_exchange_82 4 rfl ?_
                refine V_iload (pc := 84) C dX8_exchange_84 5 rfl ?_
                refine cv_X8_188 (pc := 86) (rest := []) (wn := fun _ => [(o, .inr (8, fX8 q f)), (q 7, .inr (0, fX0 qe (up fe 5 ((fe 5) + 1)))), (qe 0, aI (d 0) 8 (uI E0 ((fe 5)) a)), (qe 1, aI (d 0) 8 (uI E1 ((fe 5)) b)), (qe 2, aI (d 0) 8 (uI E2 ((fe 5)) x)), (qe 3, aI (d 0) 8 (uI E3 ((fe 5)) y)), (qe 4, aI (d 0) 8 (uI E4 ((fe 5)) z))]) (sn := fun _ => []) C dX8_exchange_86 (c_X0_add l D d (q 7) qe fe E0 E1 E2 E3 E4 a b x y z (by omega)) [1, 2, 3, 4, 5, 6] rfl rfl 1 rfl rfl rfl (Nat.le_of_ble_eq_true rfl) ⟨by omega, by omega⟩ ⟨Nat.zero_le _, Nat.zero_le _⟩ (fun _ => rfl) (fun _ => rfl) (fun _ => rfl) ?_
                intro _ _
                refine V_aload_n (pc := 89) C dX8_exchange_89 rfl 0 rfl ?_
                refine gf_X8_54 (x := q 7) (pc := 90) C dX8_exchange_90 0 rfl rfl ?_
                refine gf_X8_185 (x := (fe 5) + 1) (pc := 93) C dX8_exchange_93 1 rfl rfl ?_
                exact V_iret (pc := 96) C Z dX8_exchange_96 ((fe 5) + 1, (fe 5) + 1, uI E0 ((fe 5)) a, uI E1 ((fe 5)) b, uI E2 ((fe 5)) x, uI E3 ((fe 5)) y, uI E4 ((fe 5)) z) (by unfold pExchange; (try dsimp only); (repeat' split) <;> first | rfl | omega) (ri (by rfl)) (by first | rfl | rw [up_same rfl])
              · refine V_bipush (pc := 72) C dX8_exchange_72 rfl ?_
                exact V_iret (pc := 74) C Z dX8_exchange_74 (-4, fe 5, E0, E1, E2, E3, E4) (by unfold pExchange; (try dsimp only); (repeat' split) <;> first | rfl | omega) (ri (by rfl)) (by first | rfl | rw [up_same rfl])
            · refine V_bipush (pc := 57) C dX8_exchange_57 rfl ?_
              exact V_iret (pc := 59) C Z dX8_exchange_59 (-2, fe 5, E0, E1, E2, E3, E4) (by unfold pExchange; (try dsimp only); (repeat' split) <;> first | rfl | omega) (ri (by rfl)) (by first | rfl | rw [up_same rfl])
    · refine V_iconst (pc := 18) C dX8_exchange_18 ?_
      exact V_iret (pc := 19) C Z dX8_exchange_19 (-1, fe 5, E0, E1, E2, E3, E4) (by unfold pExchange; (try dsimp only); (repeat' split) <;> first | rfl | omega) (ri (by rfl)) (by first | rfl | rw [up_same rfl])
set_option maxRecDepth 100000 in
set_option maxHeartbeats 4000000 in
theorem c_X8_unchange (l : Launch) (D : va_G) (d : Nat → ClassId) (o : Nat) (q : Nat → Nat) (f : Nat → Int) (qe : Nat → Nat) (fe : Nat → Int) : CU l yX8_unchange cX8_unchange 2 (some .int) 0 0 D d [.ref o] [(o, .inr (8, fX8 q f)), (q 7, .inr (0, fX0 qe fe))] (fun (_ : Unit) => True) (fun (_ : Unit) => some (.int (iI (fe 5)))) (fun (_ : Unit) => [(o, .inr (8, fX8 q f)), (q 7, .inr (0, fX0 qe (up fe 5 0)))]) := by
  refine CU.mk (own := RX8) (lv := [(0, .ref o)]) rfl (by decide) (Nat.le_of_ble_eq_true rfl) rfl ?_
  intro p9 e9 R9 s9 m9 args9 below9 meth9 c9 A9 Q9 hRf hRl C Z
  refine V_aload_n (pc := 0) C dX8_unchange_0 rfl 0 rfl ?_
  refine gf_X8_54 (x := q 7) (pc := 1) C dX8_unchange_1 0 rfl rfl ?_
  refine gf_X8_185 (x := fe 5) (pc := 4) C dX8_unchange_4 1 rfl rfl ?_
  refine V_istore_n (lv' := [(1, .int (iI (fe 5))), (0, .ref o)]) (pc := 7) C dX8_unchange_7 rfl (by decide) rfl ?_
  refine V_aload_n (pc := 8) C dX8_unchange_8 rfl 1 rfl ?_
  refine gf_X8_54 (x := q 7) (pc := 9) C dX8_unchange_9 0 rfl rfl ?_
  refine V_iconst (pc := 12) C dX8_unchange_12 ?_
  refine pf_X8_185 (ws' := [(o, .inr (8, fX8 q f)), (q 7, .inr (0, fX0 qe (up fe 5 0)))]) (pc := 13) C dX8_unchange_13 1 rfl rfl ?_
  refine V_iload_n (pc := 16) C dX8_unchange_16 rfl 0 rfl ?_
  exact V_iret (pc := 17) C Z dX8_unchange_17 () trivial (ri (by first | rfl | omega | exact bI_t (by omega) | exact bI_f (by omega))) rfl
