set_option maxRecDepth 100000 in
set_option maxHeartbeats 4000000 in
theorem c_X8_within (l : Launch) (D : va_G) (d : Nat → ClassId) (n : Int) (a : Int) (b : Int) (hn : -2147483648 ≤ n ∧ n ≤ 2147483647) (ha : -2147483648 ≤ a ∧ a ≤ 2147483647) (hb : -2147483648 ≤ b ∧ b ≤ 2147483647) : CU l yX8_within cX8_within 3 (some .boolean) 0 0 D d [.int (iI n), .int (iI a), .int (iI b)] [] (fun (_ : Unit) => True) (fun (_ : Unit) => some (.int (iI (bI (a ≤ n ∧ n ≤ b))))) (fun (_ : Unit) => []) := by
  refine CU.mk (own := RX8) (lv := [(0, .int (iI n)), (1, .int (iI a)), (2, .int (iI b))]) rfl (by decide) (Nat.le_of_ble_eq_true rfl) rfl ?_
  intro p e R s m args below meth c A Q hRf hRl C Z
  refine V_iload_n (pc := 0) C dX8_within_0 rfl 0 rfl ?_
  refine V_iload_n (pc := 1) C dX8_within_1 rfl 1 rfl ?_
  refine V_icmp_lt (pc := 2) 14 C dX8_within_2 (by decide) (sm_i (by omega)) (sm_i (by omega)) (fun c2 => ?_) (fun c2 => ?_)
  · refine V_iconst (pc := 14) C dX8_within_14 ?_
    exact V_zret (pc := 15) C Z dX8_within_15 (Or.inl rfl) () trivial (ri (by first | rfl | omega | exact bI_t (by omega) | exact bI_f (by omega))) rfl
  · refine V_iload_n (pc := 5) C dX8_within_5 rfl 0 rfl ?_
    refine V_iload_n (pc := 6) C dX8_within_6 rfl 2 rfl ?_
    refine V_icmp_gt (pc := 7) 14 C dX8_within_7 (by decide) (sm_i (by omega)) (sm_i (by omega)) (fun c7 => ?_) (fun c7 => ?_)
    · refine V_iconst (pc := 14) C dX8_within_14 ?_
      exact V_zret (pc := 15) C Z dX8_within_15 (Or.inl rfl) () trivial (ri (by first | rfl | omega | exact bI_t (by omega) | exact bI_f (by omega))) rfl
    · refine V_iconst (pc := 10) C dX8_within_10 ?_
      refine V_goto (pc := 11) 15 C dX8_within_11 (by decide) ?_
      exact V_zret (pc := 15) C Z dX8_within_15 (Or.inr rfl) () trivial (ri (by first | rfl | omega | exact bI_t (by omega) | exact bI_f (by omega))) rfl
set_option maxRecDepth 100000 in
set_option maxHeartbeats 4000000 in
theorem c_X8_mayValue (l : Launch) (D : va_G) (d : Nat → ClassId) (v : Int) (k : Int) (hv : -2147483648 ≤ v ∧ v ≤ 2147483647) (hk : -2147483648 ≤ k ∧ k ≤ 2147483647) : CU l yX8_mayValue cX8_mayValue 2 (some .boolean) 1 22 D d [.int (iI v), .int (iI k)] [] (fun (_ : Unit) => True) (fun (_ : Unit) => some (.int (iI (bI ((1 ≤ v ∧ v ≤ 99) ∧ 0 ≤ k ∧ k ≤ 9))))) (fun (_ : Unit) => []) := by
  refine CU.mk (own := RX8) (lv := [(0, .int (iI v)), (1, .int (iI k))]) rfl (by decide) (Nat.le_of_ble_eq_true rfl) rfl ?_
  intro p e R s m args below meth c A Q hRf hRl C Z
  refine V_iload_n (pc := 0) C dX8_mayValue_0 rfl 0 rfl ?_
  refine V_iconst (pc := 1) C dX8_mayValue_1 ?_
  refine V_bipush (pc := 2) C dX8_mayValue_2 rfl ?_
  refine cs_X8_72 (pc := 4) (rest := []) (wn := fun _ => []) (sn := fun _ => [.int (iI (bI (1 ≤ v ∧ v ≤ 99)))]) C dX8_mayValue_4 (c_X8_within l D d v 1 99 hv (by omega) (by omega)) [] rfl rfl rfl rfl (Nat.le_of_ble_eq_true rfl) ⟨by omega, by omega⟩ ⟨Nat.zero_le _, Nat.zero_le _⟩ (fun _ => rfl) (fun _ => rfl) (fun _ => rfl) ?_
  intro _ _
  refine V_ifb_eq (pc := 7) 24 C dX8_mayValue_7 (by decide) (fun c7 => ?_) (fun c7 => ?_)
  · refine V_iconst (pc := 24) C dX8_mayValue_24 ?_
    exact V_zret (pc := 25) C Z dX8_mayValue_25 (Or.inl rfl) () trivial (ri (by first | rfl | omega | exact bI_t (by omega) | exact bI_f (by omega))) rfl
  · refine V_iload_n (pc := 10) C dX8_mayValue_10 rfl 1 rfl ?_
    refine V_iconst (pc := 11) C dX8_mayValue_11 ?_
    refine V_bipush (pc := 12) C dX8_mayValue_12 rfl ?_
    refine cs_X8_72 (pc := 14) (rest := []) (wn := fun _ => []) (sn := fun _ => [.int (iI (bI (0 ≤ k ∧ k ≤ 9)))]) C dX8_mayValue_14 (c_X8_within l D d k 0 9 hk (by omega) (by omega)) [] rfl rfl rfl rfl (Nat.le_of_ble_eq_true rfl) ⟨by omega, by omega⟩ ⟨Nat.zero_le _, Nat.zero_le _⟩ (fun _ => rfl) (fun _ => rfl) (fun _ => rfl) ?_
    intro _ _
    refine V_ifb_eq (pc := 17) 24 C dX8_mayValue_17 (by decide) (fun c17 => ?_) (fun c17 => ?_)
    · refine V_iconst (pc := 24) C dX8_mayValue_24 ?_
      exact V_zret (pc := 25) C Z dX8_mayValue_25 (Or.inl rfl) () trivial (ri (by first | rfl | omega | exact bI_t (by omega) | exact bI_f (by omega))) rfl
    · refine V_iconst (pc := 20) C dX8_mayValue_20 ?_
      refine V_goto (pc := 21) 25 C dX8_mayValue_21 (by decide) ?_
      exact V_zret (pc := 25) C Z dX8_mayValue_25 (Or.inr rfl) () trivial (ri (by first | rfl | omega | exact bI_t (by omega) | exact bI_f (by omega))) rfl
set_option maxRecDepth 100000 in
set_option maxHeartbeats 4000000 in
theorem c_X6_hasPerson (l : Launch) (D : va_G) (d : Nat → ClassId) (o : Nat) (q : Nat → Nat) (f : Nat → Int) (i : Int) (hi : -2147483648 ≤ i ∧ i ≤ 2147483647) (h6 : 0 ≤ f 6 ∧ f 6 ≤ 6) : CU l yX6_hasPerson cX6_hasPerson 2 (some .boolean) 0 0 D d [.ref o, .int (iI i)] [(o, .inr (6, fX6 q f))] (fun (_ : Unit) => True) (fun (_ : Unit) => some (.int (iI (bI (0 ≤ i ∧ i < f 6))))) (fun (_ : Unit) => [(o, .inr (6, fX6 q f))]) := by
  refine CU.mk (own := RX6) (lv := [(0, .ref o), (1, .int (iI i))]) rfl (by decide) (Nat.le_of_ble_eq_true rfl) rfl ?_
  intro p e R s m args below meth c A Q hRf hRl C Z
  refine V_iload_n (pc := 0) C dX6_hasPerson_0 rfl 1 rfl ?_
  refine V_if_lt (pc := 1) 16 C dX6_hasPerson_1 (by decide) (sm_i (by omega)) (fun c1 => ?_) (fun c1 => ?_)
  · refine V_iconst (pc := 16) C dX6_hasPerson_16 ?_
    exact V_zret (pc := 17) C Z dX6_hasPerson_17 (Or.inl rfl) () trivial (ri (by first | rfl | omega | exact bI_t (by omega) | exact bI_f (by omega))) rfl
  · refine V_iload_n (pc := 4) C dX6_hasPerson_4 rfl 1 rfl ?_
    refine V_aload_n (pc := 5) C dX6_hasPerson_5 rfl 0 rfl ?_
    refine gf_X6_30 (x := f 6) (pc := 6) C dX6_hasPerson_6 0 rfl rfl ?_
    refine V_icmp_ge (pc := 9) 16 C dX6_hasPerson_9 (by decide) (sm_i (by omega)) (sm_i (by omega)) (fun c9 => ?_) (fun c9 => ?_)
    · refine V_iconst (pc := 16) C dX6_hasPerson_16 ?_
      exact V_zret (pc := 17) C Z dX6_hasPerson_17 (Or.inl rfl) () trivial (ri (by first | rfl | omega | exact bI_t (by omega) | exact bI_f (by omega))) rfl
    · refine V_iconst (pc := 12) C dX6_hasPerson_12 ?_
      refine V_goto (pc := 13) 17 C dX6_hasPerson_13 (by decide) ?_
      exact V_zret (pc := 17) C Z dX6_hasPerson_17 (Or.inr rfl) () trivial (ri (by first | rfl | omega | exact bI_t (by omega) | exact bI_f (by omega))) rfl
set_option maxRecDepth 100000 in
set_option maxHeartbeats 4000000 in
theorem c_X6_hasCounter (l : Launch) (D : va_G) (d : Nat → ClassId) (o : Nat) (q : Nat → Nat) (f : Nat → Int) (i : Int) (hi : -2147483648 ≤ i ∧ i ≤ 2147483647) (h7 : 0 ≤ f 7 ∧ f 7 ≤ 4) : CU l yX6_hasCounter cX6_hasCounter 2 (some .boolean) 0 0 D d [.ref o, .int (iI i)] [(o, .inr (6, fX6 q f))] (fun (_ : Unit) => True) (fun (_ : Unit) => some (.int (iI (bI (0 ≤ i ∧ i < f 7))))) (fun (_ : Unit) => [(o, .inr (6, fX6 q f))]) := by
  refine CU.mk (own := RX6) (lv := [(0, .ref o), (1, .int (iI i))]) rfl (by decide) (Nat.le_of_ble_eq_true rfl) rfl ?_
  intro p e R s m args below meth c A Q hRf hRl C Z
  refine V_iload_n (pc := 0) C dX6_hasCounter_0 rfl 1 rfl ?_
  refine V_if_lt (pc := 1) 16 C dX6_hasCounter_1 (by decide) (sm_i (by omega)) (fun c1 => ?_) (fun c1 => ?_)
  · refine V_iconst (pc := 16) C dX6_hasCounter_16 ?_
    exact V_zret (pc := 17) C Z dX6_hasCounter_17 (Or.inl rfl) () trivial (ri (by first | rfl | omega | exact bI_t (by omega) | exact bI_f (by omega))) rfl
  · refine V_iload_n (pc := 4) C dX6_hasCounter_4 rfl 1 rfl ?_
    refine V_aload_n (pc := 5) C dX6_hasCounter_5 rfl 0 rfl ?_
    refine gf_X6_34 (x := f 7) (pc := 6) C dX6_hasCounter_6 0 rfl rfl ?_
    refine V_icmp_ge (pc := 9) 16 C dX6_hasCounter_9 (by decide) (sm_i (by omega)) (sm_i (by omega)) (fun c9 => ?_) (fun c9 => ?_)
    · refine V_iconst (pc := 16) C dX6_hasCounter_16 ?_
      exact V_zret (pc := 17) C Z dX6_hasCounter_17 (Or.inl rfl) () trivial (ri (by first | rfl | omega | exact bI_t (by omega) | exact bI_f (by omega))) rfl
    · refine V_iconst (pc := 12) C dX6_hasCounter_12 ?_
      refine V_goto (pc := 13) 17 C dX6_hasCounter_13 (by decide) ?_
      exact V_zret (pc := 17) C Z dX6_hasCounter_17 (Or.inr rfl) () trivial (ri (by first | rfl | omega | exact bI_t (by omega) | exact bI_f (by omega))) rfl
set_option maxRecDepth 100000 in
set_option maxHeartbeats 4000000 in
theorem c_X6_bars (l : Launch) (D : va_G) (d : Nat → ClassId) (o : Nat) (q : Nat → Nat) (f : Nat → Int) (i : Int) (k : Int) (B : Int → Int) (hi : 0 ≤ i ∧ i < 6) (hk : 0 ≤ k ∧ k < 4) (hB : bd B 0 15) : CU l yX6_bars cX6_bars 3 (some .boolean) 0 0 D d [.ref o, .int (iI i), .int (iI k)] [(o, .inr (6, fX6 q f)), (q 3, aI (d 0) 6 B)] (fun (_ : Unit) => True) (fun (_ : Unit) => some (.int (iI (bI (B i / 2 ^ k.toNat % 2 = 1))))) (fun (_ : Unit) => [(o, .inr (6, fX6 q f)), (q 3, aI (d 0) 6 B)]) := by
  refine CU.mk (own := RX6) (lv := [(0, .ref o), (1, .int (iI i)), (2, .int (iI k))]) rfl (by decide) (Nat.le_of_ble_eq_true rfl) rfl ?_
  intro p e R s m args below meth c A Q hRf hRl C Z
  refine V_aload_n (pc := 0) C dX6_bars_0 rfl 0 rfl ?_
  refine gf_X6_21 (x := q 3) (pc := 1) C dX6_bars_1 0 rfl rfl ?_
  refine V_iload_n (pc := 4) C dX6_bars_4 rfl 1 rfl ?_
  refine V_iald (f := B) (pc := 5) C dX6_bars_5 1 rfl (by omega) (by omega) (Nat.le_of_ble_eq_true rfl) ?_
  have b5 := hB i
  refine V_iload_n (pc := 6) C dX6_bars_6 rfl 2 rfl ?_
  refine V_ishr (z := ((B i) / 2 ^ k.toNat)) (pc := 7) C dX6_bars_7 (shr_i (by omega) (by omega) (by omega) (by omega)) ?_
  refine V_iconst (pc := 8) C dX6_bars_8 ?_
  refine V_iand (z := (((B i) / 2 ^ k.toNat) % 2)) (pc := 9) C dX6_bars_9 (and1_i ((B i) / 2 ^ k.toNat)) ?_
  refine V_iconst (pc := 10) C dX6_bars_10 ?_
  refine V_icmp_ne (pc := 11) 18 C dX6_bars_11 (by decide) (sm_i (by omega)) (sm_i (by decide)) (fun c11 => ?_) (fun c11 => ?_)
  · refine V_iconst (pc := 18) C dX6_bars_18 ?_
    exact V_zret (pc := 19) C Z dX6_bars_19 (Or.inl rfl) () trivial (ri (by first | rfl | omega | exact bI_t (by omega) | exact bI_f (by omega))) rfl
  · refine V_iconst (pc := 14) C dX6_bars_14 ?_
    refine V_goto (pc := 15) 19 C dX6_bars_15 (by decide) ?_
    exact V_zret (pc := 19) C Z dX6_bars_19 (Or.inr rfl) () trivial (ri (by first | rfl | omega | exact bI_t (by omega) | exact bI_f (by omega))) rfl
set_option maxRecDepth 100000 in
set_option maxHeartbeats 4000000 in
theorem c_X6_isKeeper (l : Launch) (D : va_G) (d : Nat → ClassId) (o : Nat) (q : Nat → Nat) (f : Nat → Int) (i : Int) (hi : 0 ≤ i ∧ i < 6) (h9 : 0 ≤ f 9 ∧ f 9 ≤ 63) : CU l yX6_isKeeper cX6_isKeeper 2 (some .boolean) 0 0 D d [.ref o, .int (iI i)] [(o, .inr (6, fX6 q f))] (fun (_ : Unit) => True) (fun (_ : Unit) => some (.int (iI (bI (f 9 / 2 ^ i.toNat % 2 = 1))))) (fun (_ : Unit) => [(o, .inr (6, fX6 q f))]) := by
  refine CU.mk (own := RX6) (lv := [(0, .ref o), (1, .int (iI i))]) rfl (by decide) (Nat.le_of_ble_eq_true rfl) rfl ?_
  intro p e R s m args below meth c A Q hRf hRl C Z
  refine V_aload_n (pc := 0) C dX6_isKeeper_0 rfl 0 rfl ?_
  refine gf_X6_40 (x := f 9) (pc := 1) C dX6_isKeeper_1 0 rfl rfl ?_
  refine V_iload_n (pc := 4) C dX6_isKeeper_4 rfl 1 rfl ?_
  refine V_ishr (z := ((f 9) / 2 ^ i.toNat)) (pc := 5) C dX6_isKeeper_5 (shr_i (by omega) (by omega) (by omega) (by omega)) ?_
  refine V_iconst (pc := 6) C dX6_isKeeper_6 ?_
  refine V_iand (z := (((f 9) / 2 ^ i.toNat) % 2)) (pc := 7) C dX6_isKeeper_7 (and1_i ((f 9) / 2 ^ i.toNat)) ?_
  refine V_iconst (pc := 8) C dX6_isKeeper_8 ?_
  refine V_icmp_ne (pc := 9) 16 C dX6_isKeeper_9 (by decide) (sm_i (by omega)) (sm_i (by decide)) (fun c9 => ?_) (fun c9 => ?_)
  · refine V_iconst (pc := 16) C dX6_isKeeper_16 ?_
    exact V_zret (pc := 17) C Z dX6_isKeeper_17 (Or.inl rfl) () trivial (ri (by first | rfl | omega | exact bI_t (by omega) | exact bI_f (by omega))) rfl
  · refine V_iconst (pc := 12) C dX6_isKeeper_12 ?_
    refine V_goto (pc := 13) 17 C dX6_isKeeper_13 (by decide) ?_
    exact V_zret (pc := 17) C Z dX6_isKeeper_17 (Or.inr rfl) () trivial (ri (by first | rfl | omega | exact bI_t (by omega) | exact bI_f (by omega))) rfl
set_option maxRecDepth 100000 in
set_option maxHeartbeats 4000000 in
theorem c_X9_in (l : Launch) (D : va_G) (d : Nat → ClassId) (v : Int) (a : Int) (b : Int) (hv : -9223372036854775808 ≤ v ∧ v ≤ 9223372036854775807) (ha : -9223372036854775808 ≤ a ∧ a ≤ 9223372036854775807) (hb : -9223372036854775808 ≤ b ∧ b ≤ 9223372036854775807) : CU l yX9_in cX9_in 6 (some .boolean) 0 0 D d [.long (lI v), .long (lI a), .long (lI b)] [] (fun (_ : Unit) => True) (fun (_ : Unit) => some (.int (iI (bI (a ≤ v ∧ v ≤ b))))) (fun (_ : Unit) => []) := by
  refine CU.mk (own := RX9) (lv := [(0, .long (lI v)), (2, .long (lI a)), (4, .long (lI b))]) rfl (by decide) (Nat.le_of_ble_eq_true rfl) rfl ?_
  intro p e R s m args below meth c A Q hRf hRl C Z
  refine V_lload_n (pc := 0) C dX9_in_0 rfl 0 rfl ?_
  refine V_lload_n (pc := 1) C dX9_in_1 rfl 1 rfl ?_
  refine V_lcmp (pc := 2) C dX9_in_2 (sL_i (by omega)) (sL_i (by omega)) ?_
  refine V_ifc_lt (pc := 3) 17 C dX9_in_3 (by decide) (fun c3 => ?_) (fun c3 => ?_)
  · refine V_iconst (pc := 17) C dX9_in_17 ?_
    exact V_zret (pc := 18) C Z dX9_in_18 (Or.inl rfl) () trivial (ri (by first | rfl | omega | exact bI_t (by omega) | exact bI_f (by omega))) rfl
  · refine V_lload_n (pc := 6) C dX9_in_6 rfl 0 rfl ?_
    refine V_lload (pc := 7) C dX9_in_7 2 rfl ?_
    refine V_lcmp (pc := 9) C dX9_in_9 (sL_i (by omega)) (sL_i (by omega)) ?_
    refine V_ifc_gt (pc := 10) 17 C dX9_in_10 (by decide) (fun c10 => ?_) (fun c10 => ?_)
    · refine V_iconst (pc := 17) C dX9_in_17 ?_
      exact V_zret (pc := 18) C Z dX9_in_18 (Or.inl rfl) () trivial (ri (by first | rfl | omega | exact bI_t (by omega) | exact bI_f (by omega))) rfl
    · refine V_iconst (pc := 13) C dX9_in_13 ?_
      refine V_goto (pc := 14) 18 C dX9_in_14 (by decide) ?_
      exact V_zret (pc := 18) C Z dX9_in_18 (Or.inr rfl) () trivial (ri (by first | rfl | omega | exact bI_t (by omega) | exact bI_f (by omega))) rfl
set_option maxRecDepth 100000 in
set_option maxHeartbeats 4000000 in
theorem c_X9_has (l : Launch) (D : va_G) (d : Nat → ClassId) (x : Int) (k : Int) (hx : 0 ≤ x ∧ x ≤ 2147483647) (hk : 0 ≤ k ∧ k ≤ 31) : CU l yX9_has cX9_has 2 (some .boolean) 0 0 D d [.int (iI x), .int (iI k)] [] (fun (_ : Unit) => True) (fun (_ : Unit) => some (.int (iI (bI (x / 2 ^ k.toNat % 2 = 1))))) (fun (_ : Unit) => []) := by
  refine CU.mk (own := RX9) (lv := [(0, .int (iI x)), (1, .int (iI k))]) rfl (by decide) (Nat.le_of_ble_eq_true rfl) rfl ?_
  intro p e R s m args below meth c A Q hRf hRl C Z
  refine V_iload_n (pc := 0) C dX9_has_0 rfl 0 rfl ?_
  refine V_iload_n (pc := 1) C dX9_has_1 rfl 1 rfl ?_
  refine V_ishr (z := (x / 2 ^ k.toNat)) (pc := 2) C dX9_has_2 (shr_i (by omega) (by omega) (by omega) (by omega)) ?_
  refine V_iconst (pc := 3) C dX9_has_3 ?_
  refine V_iand (z := ((x / 2 ^ k.toNat) % 2)) (pc := 4) C dX9_has_4 (and1_i (x / 2 ^ k.toNat)) ?_
  refine V_iconst (pc := 5) C dX9_has_5 ?_
  refine V_icmp_ne (pc := 6) 13 C dX9_has_6 (by decide) (sm_i (by omega)) (sm_i (by decide)) (fun c6 => ?_) (fun c6 => ?_)
  · refine V_iconst (pc := 13) C dX9_has_13 ?_
    exact V_zret (pc := 14) C Z dX9_has_14 (Or.inl rfl) () trivial (ri (by first | rfl | omega | exact bI_t (by omega) | exact bI_f (by omega))) rfl
  · refine V_iconst (pc := 9) C dX9_has_9 ?_
    refine V_goto (pc := 10) 14 C dX9_has_10 (by decide) ?_
    exact V_zret (pc := 14) C Z dX9_has_14 (Or.inr rfl) () trivial (ri (by first | rfl | omega | exact bI_t (by omega) | exact bI_f (by omega))) rfl
set_option maxRecDepth 100000 in
set_option maxHeartbeats 4000000 in
theorem c_X9_noOne (l : Launch) (D : va_G) (d : Nat → ClassId) (o : Nat) (q : Nat → Nat) (f : Nat → Int) (k : Int) (hk : -2147483648 ≤ k ∧ k ≤ 2147483647) (h4 : 0 ≤ f 4 ∧ f 4 ≤ 6) : CU l yX9_noOne cX9_noOne 2 (some .boolean) 1 25 D d [.ref o, .int (iI k)] [(o, .inr (9, fX9 q f))] (fun (_ : Unit) => True) (fun (_ : Unit) => some (.int (iI (bI (¬ (0 ≤ k ∧ k < f 4)))))) (fun (_ : Unit) => [(o, .inr (9, fX9 q f))]) := by
  refine CU.mk (own := RX9) (lv := [(0, .ref o), (1, .int (iI k))]) rfl (by decide) (Nat.le_of_ble_eq_true rfl) rfl ?_
  intro p e R s m args below meth c A Q hRf hRl C Z
  refine V_iload_n (pc := 0) C dX9_noOne_0 rfl 1 rfl ?_
  refine V_i2l (pc := 1) C dX9_noOne_1 (sm_i (by omega)) ?_
  refine V_lconst (k := 0) (pc := 2) C dX9_noOne_2 rfl ?_
  refine V_aload_n (pc := 3) C dX9_noOne_3 rfl 0 rfl ?_
  refine gf_X9_120 (x := f 4) (pc := 4) C dX9_noOne_4 0 rfl rfl ?_
  refine V_iconst (pc := 7) C dX9_noOne_7 ?_
  refine V_isub (pc := 8) C dX9_noOne_8 ?_
  refine V_i2l (pc := 9) C dX9_noOne_9 (sm_i (by omega)) ?_
  refine cs_X9_123 (pc := 10) (rest := []) (wn := fun _ => [(o, .inr (9, fX9 q f))]) (sn := fun _ => [.int (iI (bI (0 ≤ k ∧ k ≤ ((f 4) - 1))))]) C dX9_noOne_10 (c_X9_in l D d k 0 ((f 4) - 1) (by omega) (by omega) (by omega)) [] rfl rfl rfl rfl (Nat.le_of_ble_eq_true rfl) ⟨by omega, by omega⟩ ⟨Nat.zero_le _, Nat.zero_le _⟩ (fun _ => rfl) (fun _ => rfl) (fun _ => rfl) ?_
  intro _ _
  refine V_ifb_ne (pc := 13) 20 C dX9_noOne_13 (by decide) (fun c13 => ?_) (fun c13 => ?_)
  · refine V_iconst (pc := 20) C dX9_noOne_20 ?_
    exact V_zret (pc := 21) C Z dX9_noOne_21 (Or.inl rfl) () trivial (ri (by first | rfl | omega | exact bI_t (by omega) | exact bI_f (by omega))) rfl
  · refine V_iconst (pc := 16) C dX9_noOne_16 ?_
    refine V_goto (pc := 17) 21 C dX9_noOne_17 (by decide) ?_
    exact V_zret (pc := 21) C Z dX9_noOne_21 (Or.inr rfl) () trivial (ri (by first | rfl | omega | exact bI_t (by omega) | exact bI_f (by omega))) rfl
set_option maxRecDepth 100000 in
set_option maxHeartbeats 4000000 in
theorem c_X9_noCounter (l : Launch) (D : va_G) (d : Nat → ClassId) (o : Nat) (q : Nat → Nat) (f : Nat → Int) (k : Int) (hk : -2147483648 ≤ k ∧ k ≤ 2147483647) (h5 : 0 ≤ f 5 ∧ f 5 ≤ 4) : CU l yX9_noCounter cX9_noCounter 2 (some .boolean) 1 25 D d [.ref o, .int (iI k)] [(o, .inr (9, fX9 q f))] (fun (_ : Unit) => True) (fun (_ : Unit) => some (.int (iI (bI (¬ (0 ≤ k ∧ k < f 5)))))) (fun (_ : Unit) => [(o, .inr (9, fX9 q f))]) := by
  refine CU.mk (own := RX9) (lv := [(0, .ref o), (1, .int (iI k))]) rfl (by decide) (Nat.le_of_ble_eq_true rfl) rfl ?_
  intro p e R s m args below meth c A Q hRf hRl C Z
  refine V_iload_n (pc := 0) C dX9_noCounter_0 rfl 1 rfl ?_
  refine V_i2l (pc := 1) C dX9_noCounter_1 (sm_i (by omega)) ?_
  refine V_lconst (k := 0) (pc := 2) C dX9_noCounter_2 rfl ?_
  refine V_aload_n (pc := 3) C dX9_noCounter_3 rfl 0 rfl ?_
  refine gf_X9_127 (x := f 5) (pc := 4) C dX9_noCounter_4 0 rfl rfl ?_
  refine V_iconst (pc := 7) C dX9_noCounter_7 ?_
  refine V_isub (pc := 8) C dX9_noCounter_8 ?_
  refine V_i2l (pc := 9) C dX9_noCounter_9 (sm_i (by omega)) ?_
  refine cs_X9_123 (pc := 10) (rest := []) (wn := fun _ => [(o, .inr (9, fX9 q f))]) (sn := fun _ => [.int (iI (bI (0 ≤ k ∧ k ≤ ((f 5) - 1))))]) C dX9_noCounter_10 (c_X9_in l D d k 0 ((f 5) - 1) (by omega) (by omega) (by omega)) [] rfl rfl rfl rfl (Nat.le_of_ble_eq_true rfl) ⟨by omega, by omega⟩ ⟨Nat.zero_le _, Nat.zero_le _⟩ (fun _ => rfl) (fun _ => rfl) (fun _ => rfl) ?_
  intro _ _
  refine V_ifb_ne (pc := 13) 20 C dX9_noCounter_13 (by decide) (fun c13 => ?_) (fun c13 => ?_)
  · refine V_iconst (pc := 20) C dX9_noCounter_20 ?_
    exact V_zret (pc := 21) C Z dX9_noCounter_21 (Or.inl rfl) () trivial (ri (by first | rfl | omega | exact bI_t (by omega) | exact bI_f (by omega))) rfl
  · refine V_iconst (pc := 16) C dX9_noCounter_16 ?_
    refine V_goto (pc := 17) 21 C dX9_noCounter_17 (by decide) ?_
    exact V_zret (pc := 21) C Z dX9_noCounter_21 (Or.inr rfl) () trivial (ri (by first | rfl | omega | exact bI_t (by omega) | exact bI_f (by omega))) rfl
