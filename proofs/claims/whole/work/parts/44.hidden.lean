theorem cmpI_sub (a b : Int) : cmpI (a - b) 0 = cmpI a b := by
  unfold cmpI
  (repeat' split) <;> omega
theorem not_i (x : Int) : iI x ^^^ iI (-1) = iI (-x - 1) := by
  apply Int32.toBitVec_inj.mp
  show BitVec.ofInt 32 x ^^^ BitVec.ofInt 32 (-1) = BitVec.ofInt 32 (-x - 1)
  rw [show BitVec.ofInt 32 (-1) = BitVec.allOnes 32 from rfl, BitVec.xor_allOnes]
  apply BitVec.eq_of_toInt_eq
  rw [BitVec.toInt_not, BitVec.toInt_ofInt, BitVec.toNat_ofInt]
  have e : (((2 : Nat) ^ 32 : Nat) : Int) = 4294967296 := by decide
  rw [e]
  have h0 : 0 ≤ x % 4294967296 := Int.emod_nonneg _ (by decide)
  rw [Int.toNat_of_nonneg h0]
  show ((2 : Int) ^ 32 - 1 - x % 4294967296).bmod 4294967296 = (-x - 1).bmod 4294967296
  rw [show ((2 : Int) ^ 32 - 1 - x % 4294967296) = (-x - 1) + 4294967296 * (x / 4294967296 + 1) by omega]
  exact Int.add_mul_bmod_self_left _ _ _
theorem all_i {x : Int} (h0 : 0 ≤ x) (h1 : x ≤ 1048575) : iI 1048575 &&& iI (-x - 1) = iI (1048575 - x) := by
  rw [Int32.and_comm, and_m (-x - 1) 20 (by decide) (by decide)]
  congr 1
  show (-x - 1) % 1048576 = _
  omega
theorem p2_20 {z : Int} (hz : 0 ≤ z ∧ z < 20) : (2 : Int) ^ z.toNat < 2 ^ 20 := by
  rw [← p2_cast, ← p2_cast]
  exact Int.ofNat_lt.mpr (Nat.pow_lt_pow_right (by decide) (by omega))
theorem ik_0 {H G : Int → Int} {t : Int} {c : Int → Prop} (h : G t = H t) : ∀ j : Int, 0 ≤ j ∧ j < 20 → (bitI (G t) j = 1 ↔ bitI (H t) j = 1 ∨ (j < 0 ∧ c j)) := by
  intro j hj
  rw [h]
  constructor
  · exact Or.inl
  · rintro (q | ⟨q, -⟩)
    · exact q
    · omega
theorem ig_step {H G K : Int → Int} {s x y e g z : Int} (hy : y = 20) (oK : ∀ t : Int, ¬ t = s + x → K t = G t) (iG : ∀ i j : Int, 0 ≤ i ∧ i < x → 0 ≤ j ∧ j < 20 → (bitI (G (s + i)) j = 1 ↔ bitI (H (s + i)) j = 1 ∨ ¬ cmpI (e * (i + 1)) (g * (j + 1)) = z)) (iK : ∀ j : Int, 0 ≤ j ∧ j < 20 → (bitI (K (s + x)) j = 1 ↔ bitI (H (s + x)) j = 1 ∨ (j < y ∧ ¬ cmpI (e * (x + 1)) (g * (j + 1)) = z))) : ∀ i j : Int, 0 ≤ i ∧ i < x + 1 → 0 ≤ j ∧ j < 20 → (bitI (K (s + i)) j = 1 ↔ bitI (H (s + i)) j = 1 ∨ ¬ cmpI (e * (i + 1)) (g * (j + 1)) = z) := by
  intro i j hi hj
  rcases (show i < x ∨ i = x by omega) with q | q
  · rw [oK _ (by omega)]
    exact iG i j ⟨hi.1, q⟩ hj
  · subst q
    rw [iK j hj]
    constructor
    · rintro (h | ⟨-, h⟩)
      · exact Or.inl h
      · exact Or.inr h
    · rintro (h | h)
      · exact Or.inl h
      · exact Or.inr ⟨by omega, h⟩
theorem ik_no {H K : Int → Int} {s x y e g z : Int} (hy : 0 ≤ y) (c : cmpI (e * (x + 1)) (g * (y + 1)) = z) (iK : ∀ j : Int, 0 ≤ j ∧ j < 20 → (bitI (K (s + x)) j = 1 ↔ bitI (H (s + x)) j = 1 ∨ (j < y ∧ ¬ cmpI (e * (x + 1)) (g * (j + 1)) = z))) : ∀ j : Int, 0 ≤ j ∧ j < 20 → (bitI (K (s + x)) j = 1 ↔ bitI (H (s + x)) j = 1 ∨ (j < y + 1 ∧ ¬ cmpI (e * (x + 1)) (g * (j + 1)) = z)) := by
  intro j hj
  rw [iK j hj]
  constructor
  · rintro (q | ⟨q, q2⟩)
    · exact Or.inl q
    · exact Or.inr ⟨by omega, q2⟩
  · rintro (q | ⟨q, q2⟩)
    · exact Or.inl q
    · rcases (show j < y ∨ j = y by omega) with q3 | q3
      · exact Or.inr ⟨q3, q2⟩
      · subst q3; exact absurd c q2
theorem ik_yes {H K : Int → Int} {s x y e g z : Int} (bK : bd K 0 1048575) (hy : 0 ≤ y) (hy2 : y < 20) (c : ¬ cmpI (e * (x + 1)) (g * (y + 1)) = z) (iK : ∀ j : Int, 0 ≤ j ∧ j < 20 → (bitI (K (s + x)) j = 1 ↔ bitI (H (s + x)) j = 1 ∨ (j < y ∧ ¬ cmpI (e * (x + 1)) (g * (j + 1)) = z))) : ∀ j : Int, 0 ≤ j ∧ j < 20 → (bitI (uI K (s + x) (iOr (K (s + x)) (2 ^ y.toNat)) (s + x)) j = 1 ↔ bitI (H (s + x)) j = 1 ∨ (j < y + 1 ∧ ¬ cmpI (e * (x + 1)) (g * (j + 1)) = z)) := by
  intro j hj
  rw [uI_s, bitI_or (bK _).1 (Int.le_of_lt (p2_pos _)), bitI_p2 hy hj.1]
  constructor
  · intro q
    have q2 : bitI (K (s + x)) j = 1 ∨ (if j = y then (1 : Int) else 0) = 1 := Classical.byContradiction (fun hh => by rw [if_neg hh] at q; omega)
    rcases q2 with q2 | q2
    · rcases (iK j hj).mp q2 with q3 | ⟨q3, q4⟩
      · exact Or.inl q3
      · exact Or.inr ⟨by omega, q4⟩
    · have q3 : j = y := Classical.byContradiction (fun hh => by rw [if_neg hh] at q2; omega)
      subst q3
      exact Or.inr ⟨by omega, c⟩
  · intro q
    rw [if_pos]
    rcases q with q | ⟨q, q2⟩
    · exact Or.inl ((iK j hj).mpr (Or.inl q))
    · rcases (show j < y ∨ j = y by omega) with q3 | q3
      · exact Or.inl ((iK j hj).mpr (Or.inr ⟨q3, q2⟩))
      · right
        rw [if_pos q3]
set_option maxRecDepth 100000 in
set_option maxHeartbeats 4000000 in
theorem c_X9_ring (l : Launch) (D : va_G) (d : Nat → ClassId) (o : Nat) (q : Nat → Nat) (f : Nat → Int) (M6 : Int → Int) (M27 : Int → Int) (M28 : Int → Int) (M29 : Int → Int) (M30 : Int → Int) (M31 : Int → Int) (M42 : Int → Int) (M43 : Int → Int) (p : Int) (w : Int) (hP : 0 ≤ f 4 ∧ f 4 ≤ 6) (hM6 : bd M6 0 99) (hM27 : bd M27 0 2) (hM28 : bd M28 0 2) (hM29 : bd M29 0 9) (hM30 : bd M30 0 9) (hM31 : bd M31 0 99) (hM42 : bd M42 0 7) (hm0 : 0 ≤ f 26 ∧ f 26 ≤ 8) (hp1 : ∀ j : Int, 0 ≤ j ∧ j < f 26 → 1 ≤ paidE M27 M29 M31 j) (hFT : ∀ j : Int, 0 ≤ j ∧ j < f 26 → ¬ M27 j = M28 j) (hp : -2147483648 ≤ p ∧ p ≤ 2147483647) (hw : w = 0 ∨ w = 1) : CU l yX9_ring cX9_ring 5 (some .long) 2 55 D d [.ref o, .int (iI p), .int (iI w)] [(o, .inr (9, fX9 q f)), (q 6, aI (d 0) 6 M6), (q 27, aI (d 0) 8 M27), (q 28, aI (d 0) 8 M28), (q 29, aI (d 0) 8 M29), (q 30, aI (d 0) 8 M30), (q 31, aI (d 0) 8 M31), (q 42, aI (d 0) 6 M42), (q 43, aI (d 0) 3 M43)] (fun (u : Int × Int × Int × Int × (Int → Int) × (Int → Int)) => u.1 = pRing (f 4) (rgB M28 M27 (gotE M28 M30 (M6 p)) (paidE M27 M29 M31) (f 26).toNat) p w ∧ bd u.2.2.2.2.1 0 7) (fun (u : Int × Int × Int × Int × (Int → Int) × (Int → Int)) => some (.long (lI u.1))) (fun (u : Int × Int × Int × Int × (Int → Int) × (Int → Int)) => [(o, .inr (9, fX9 q (up (up (up (up f 0 0) 44 u.2.1) 45 u.2.2.1) 46 u.2.2.2.1))), (q 6, aI (d 0) 6 M6), (q 27, aI (d 0) 8 M27), (q 28, aI (d 0) 8 M28), (q 29, aI (d 0) 8 M29), (q 30, aI (d 0) 8 M30), (q 31, aI (d 0) 8 M31), (q 42, aI (d 0) 6 u.2.2.2.2.1), (q 43, aI (d 0) 3 u.2.2.2.2.2)]) := by
  refine CU.mk (own := RX9) (lv := [(0, .ref o), (1, .int (iI p)), (2, .int (iI w))]) rfl (by decide) (Nat.le_of_ble_eq_true rfl) rfl ?_
  intro p9 e9 R9 s9 m9 args9 below9 meth9 c9 A9 Q9 hRf hRl C Z
  have a0 := hM6 p
  have rok := rgB_ok (T := M28) (F := M27) (m := (f 26).toNat) (gotE_b (T := M28) hM30 (show 0 ≤ M6 p ∧ M6 p ≤ 99 by omega)) (paidE_b (F := M27) hM29 hM31) (fun j hj => hp1 j (by omega))
  refine V_aload_n (pc := 0) C dX9_ring_0 rfl 0 rfl ?_
  refine V_iconst (pc := 1) C dX9_ring_1 ?_
  refine pf_X9_117 (ws' := [(o, .inr (9, fX9 q (up f 0 0))), (q 6, aI (d 0) 6 M6), (q 27, aI (d 0) 8 M27), (q 28, aI (d 0) 8 M28), (q 29, aI (d 0) 8 M29), (q 30, aI (d 0) 8 M30), (q 31, aI (d 0) 8 M31), (q 42, aI (d 0) 6 M42), (q 43, aI (d 0) 3 M43)]) (pc := 2) C dX9_ring_2 0 rfl rfl ?_
  refine V_aload_n (pc := 5) C dX9_ring_5 rfl 0 rfl ?_
  refine V_iload_n (pc := 6) C dX9_ring_6 rfl 1 rfl ?_
  refine cv_X9_180 (pc := 7) (rest := []) (wn := fun _ => [(o, .inr (9, fX9 q (up f 0 0))), (q 6, aI (d 0) 6 M6), (q 27, aI (d 0) 8 M27), (q 28, aI (d 0) 8 M28), (q 29, aI (d 0) 8 M29), (q 30, aI (d 0) 8 M30), (q 31, aI (d 0) 8 M31), (q 42, aI (d 0) 6 M42), (q 43, aI (d 0) 3 M43)]) (sn := fun _ => [.int (iI (bI (¬ (0 ≤ p ∧ p < (f 4)))))]) C dX9_ring_7 (c_X9_noOne l D d o q (up f 0 0) p hp hP) [0] rfl rfl 0 rfl rfl rfl (Nat.le_of_ble_eq_true rfl) ⟨by omega, by omega⟩ ⟨Nat.zero_le _, Nat.zero_le _⟩ (fun _ => rfl) (fun _ => rfl) (fun _ => rfl) ?_
  intro _ _
  refine V_ifb_eq (pc := 10) 17 C dX9_ring_10 (by decide) (fun c10 => ?_) (fun c10 => ?_)
  · refine V_aload_n (pc := 17) C dX9_ring_17 rfl 0 rfl ?_
    refine V_aload_n (pc := 18) C dX9_ring_18 rfl 0 rfl ?_
    refine gf_X9_13 (x := q 6) (pc := 19) C dX9_ring_19 0 rfl rfl ?_
    refine V_iload_n (pc := 22) C dX9_ring_22 rfl 1 rfl ?_
    refine V_iald (f := M6) (pc := 23) C dX9_ring_23 1 rfl (by omega) (by omega) (Nat.le_of_ble_eq_true rfl) ?_
    have b23 := hM6 p
    refine cv_X9_242 (pc := 24) (rest := []) (wn := fun u => [(o, .inr (9, fX9 q (up (up (up (up f 0 0) 44 u.1) 45 u.2.1) 46 u.2.2.1))), (q 6, aI (d 0) 6 M6), (q 27, aI (d 0) 8 M27), (q 28, aI (d 0) 8 M28), (q 29, aI (d 0) 8 M29), (q 30, aI (d 0) 8 M30), (q 31, aI (d 0) 8 M31), (q 42, aI (d 0) 6 u.2.2.2.1), (q 43, aI (d 0) 3 u.2.2.2.2)]) (sn := fun u => [.int (iI (bI (0 < u.1)))]) C dX9_ring_24 (c_X9_findRing l D d o q (up f 0 0) M27 M28 M29 M30 M31 M42 M43 (M6 p) hM27 hM28 hM29 hM30 hM31 hM42 hm0 hp1 hFT (show 0 ≤ (M6 p) ∧ (M6 p) ≤ 99 by omega)) [0, 2, 3, 4, 5, 6, 7, 8] rfl rfl 0 rfl rfl rfl (Nat.le_of_ble_eq_true rfl) ⟨by omega, by omega⟩ ⟨Nat.zero_le _, Nat.zero_le _⟩ (fun u => rfl) (fun u => rfl) (fun u => rfl) ?_
    rintro ⟨n9, U9, W9, T9, R9v⟩ hu
    have hu : stI (rgB M28 M27 (gotE M28 M30 (M6 p)) (paidE M27 M29 M31) (f 26).toNat) n9 U9 W9 R9v ∧ bd T9 0 7 := hu
    obtain ⟨⟨k7, k8, k9, k6⟩, hT9⟩ := hu
    have gsm := rOk_n rok
    refine V_ifb_ne (pc := 27) 34 C dX9_ring_27 (by decide) (fun c27 => ?_) (fun c27 => ?_)
    · refine V_aload_n (pc := 34) C dX9_ring_34 rfl 0 rfl ?_
      refine gf_X9_230 (x := U9) (pc := 35) C dX9_ring_35 0 rfl rfl ?_
      refine V_aload_n (pc := 38) C dX9_ring_38 rfl 0 rfl ?_
      refine gf_X9_234 (x := W9) (pc := 39) C dX9_ring_39 0 rfl rfl ?_
      refine cs_X9_195 (pc := 42) (rest := []) (wn := fun _ => [(o, .inr (9, fX9 q (up (up (up (up f 0 0) 44 n9) 45 U9) 46 W9))), (q 6, aI (d 0) 6 M6), (q 27, aI (d 0) 8 M27), (q 28, aI (d 0) 8 M28), (q 29, aI (d 0) 8 M29), (q 30, aI (d 0) 8 M30), (q 31, aI (d 0) 8 M31), (q 42, aI (d 0) 6 T9), (q 43, aI (d 0) 3 R9v)]) (sn := fun _ => [.long (lI (gI U9 W9))]) C dX9_ring_42 (c_X9_divisor l D d U9 W9 (by rcases rok with q | q <;> omega) (by rcases rok with q | q <;> omega)) [] rfl rfl rfl rfl (Nat.le_of_ble_eq_true rfl) ⟨by omega, by omega⟩ ⟨Nat.zero_le _, Nat.zero_le _⟩ (fun _ => rfl) (fun _ => rfl) (fun _ => rfl) ?_
      intro _ _
      refine V_lstore_n (lv' := [(3, .long (lI (gI U9 W9))), (0, .ref o), (1, .int (iI p)), (2, .int (iI w))]) (pc := 45) C dX9_ring_45 rfl (by decide) rfl ?_
      have q1 : 0 < U9 ∧ U9 ≤ 1000000000 := by rcases rok with q | q <;> omega
      have q2 : 0 < W9 ∧ W9 ≤ 1000000000 := by rcases rok with q | q <;> omega
      have g1 := gI_pos (x := U9) (y := W9) q1.1
      have g2 := gI_le (x := U9) (y := W9) q1.1
      refine V_iload_n (pc := 46) C dX9_ring_46 rfl 3 rfl ?_
      refine V_if_eq (pc := 47) 59 C dX9_ring_47 (by decide) (sm_i (by omega)) (fun c47 => ?_) (fun c47 => ?_)
      · refine V_aload_n (pc := 59) C dX9_ring_59 rfl 1 rfl ?_
        refine gf_X9_234 (x := W9) (pc := 60) C dX9_ring_60 0 rfl rfl ?_
        refine V_lload_n (pc := 63) C dX9_ring_63 rfl 0 rfl ?_
        refine V_ldiv (pc := 64) C dX9_ring_64 (by omega) ?_
        exact V_lret (pc := 65) C Z dX9_ring_65 (W9 / (gI U9 W9), n9, U9, W9, T9, R9v) (⟨by unfold pRing; (try rw [← k7, ← k8, ← k9]); (try dsimp only); (repeat' split) <;> first | rfl | omega, by first | exact hM42 | exact hT9⟩) (rl (by rfl)) (by first | rfl | (rw [up_same rfl, up_same rfl, up_same rfl]))
      · refine V_aload_n (pc := 50) C dX9_ring_50 rfl 1 rfl ?_
        refine gf_X9_230 (x := U9) (pc := 51) C dX9_ring_51 0 rfl rfl ?_
        refine V_lload_n (pc := 54) C dX9_ring_54 rfl 0 rfl ?_
        refine V_ldiv (pc := 55) C dX9_ring_55 (by omega) ?_
        refine V_goto (pc := 56) 65 C dX9_ring_56 (by decide) ?_
        exact V_lret (pc := 65) C Z dX9_ring_65 (U9 / (gI U9 W9), n9, U9, W9, T9, R9v) (⟨by unfold pRing; (try rw [← k7, ← k8, ← k9]); (try dsimp only); (repeat' split) <;> first | rfl | omega, by first | exact hM42 | exact hT9⟩) (rl (by rfl)) (by first | rfl | (rw [up_same rfl, up_same rfl, up_same rfl]))
    · refine V_ldc2 (n := (-9)) (pc := 30) C dX9_ring_30 w5_6 rfl ?_
      exact V_lret (pc := 33) C Z dX9_ring_33 (-9, n9, U9, W9, T9, R9v) (⟨by unfold pRing; (try rw [← k7, ← k8, ← k9]); (try dsimp only); (repeat' split) <;> first | rfl | omega, by first | exact hM42 | exact hT9⟩) (rl (by rfl)) (by first | rfl | (rw [up_same rfl, up_same rfl, up_same rfl]))
  · refine V_ldc2 (n := (-1)) (pc := 13) C dX9_ring_13 w4_237 rfl ?_
    exact V_lret (pc := 16) C Z dX9_ring_16 (-1, f 44, f 45, f 46, M42, M43) (⟨by unfold pRing; (try rw [← k7, ← k8, ← k9]); (try dsimp only); (repeat' split) <;> first | rfl | omega, by first | exact hM42 | exact hT9⟩) (rl (by rfl)) (by first | rfl | (rw [up_same rfl, up_same rfl, up_same rfl]))
set_option maxRecDepth 100000 in
set_option maxHeartbeats 4000000 in
theorem c_X9_ringAt (l : Launch) (D : va_G) (d : Nat → ClassId) (o : Nat) (q : Nat → Nat) (f : Nat → Int) (M6 : Int → Int) (M27 : Int → Int) (M28 : Int → Int) (M29 : Int → Int) (M30 : Int → Int) (M31 : Int → Int) (M42 : Int → Int) (M43 : Int → Int) (p : Int) (w : Int) (hP : 0 ≤ f 4 ∧ f 4 ≤ 6) (hM6 : bd M6 0 99) (hM27 : bd M27 0 2) (hM28 : bd M28 0 2) (hM29 : bd M29 0 9) (hM30 : bd M30 0 9) (hM31 : bd M31 0 99) (hM42 : bd M42 0 7) (hm0 : 0 ≤ f 26 ∧ f 26 ≤ 8) (hp1 : ∀ j : Int, 0 ≤ j ∧ j < f 26 → 1 ≤ paidE M27 M29 M31 j) (hFT : ∀ j : Int, 0 ≤ j ∧ j < f 26 → ¬ M27 j = M28 j) (hp : -2147483648 ≤ p ∧ p ≤ 2147483647) (hw : -2147483648 ≤ w ∧ w ≤ 2147483647) : CU l yX9_ringAt cX9_ringAt 3 (some .int) 2 55 D d [.ref o, .int (iI p), .int (iI w)] [(o, .inr (9, fX9 q f)), (q 6, aI (d 0) 6 M6), (q 27, aI (d 0) 8 M27), (q 28, aI (d 0) 8 M28), (q 29, aI (d 0) 8 M29), (q 30, aI (d 0) 8 M30), (q 31, aI (d 0) 8 M31), (q 42, aI (d 0) 6 M42), (q 43, aI (d 0) 3 M43)] (fun (u : Int × Int × Int × Int × (Int → Int) × (Int → Int)) => u.1 = pRingAt (f 4) (rgB M28 M27 (gotE M28 M30 (M6 p)) (paidE M27 M29 M31) (f 26).toNat) p w ∧ bd u.2.2.2.2.1 0 7) (fun (u : Int × Int × Int × Int × (Int → Int) × (Int → Int)) => some (.int (iI (u.1)))) (fun (u : Int × Int × Int × Int × (Int → Int) × (Int → Int)) => [(o, .inr (9, fX9 q (up (up (up (up f 0 0) 44 u.2.1) 45 u.2.2.1) 46 u.2.2.2.1))), (q 6, aI (d 0) 6 M6), (q 27, aI (d 0) 8 M27), (q 28, aI (d 0) 8 M28), (q 29, aI (d 0) 8 M29), (q 30, aI (d 0) 8 M30), (q 31, aI (d 0) 8 M31), (q 42, aI (d 0) 6 u.2.2.2.2.1), (q 43, aI (d 0) 3 u.2.2.2.2.2)]) := by
  refine CU.mk (own := RX9) (lv := [(0, .ref o), (1, .int (iI p)), (2, .int (iI w))]) rfl (by decide) (Nat.le_of_ble_eq_true rfl) rfl ?_
  intro p9 e9 R9 s9 m9 args9 below9 meth9 c9 A9 Q9 hRf hRl C Z
  have a0 := hM6 p
  have rok := rgB_ok (T := M28) (F := M27) (m := (f 26).toNat) (gotE_b (T := M28) hM30 (show 0 ≤ M6 p ∧ M6 p ≤ 99 by omega)) (paidE_b (F := M27) hM29 hM31) (fun j hj => hp1 j (by omega))
  refine V_aload_n (pc := 0) C dX9_ringAt_0 rfl 0 rfl ?_
  refine V_iconst (pc := 1) C dX9_ringAt_1 ?_
  refine pf_X9_117 (ws' := [(o, .inr (9, fX9 q (up f 0 0))), (q 6, aI (d 0) 6 M6), (q 27, aI (d 0) 8 M27), (q 28, aI (d 0) 8 M28), (q 29, aI (d 0) 8 M29), (q 30, aI (d 0) 8 M30), (q 31, aI (d 0) 8 M31), (q 42, aI (d 0) 6 M42), (q 43, aI (d 0) 3 M43)]) (pc := 2) C dX9_ringAt_2 0 rfl rfl ?_
  refine V_aload_n (pc := 5) C dX9_ringAt_5 rfl 0 rfl ?_
  refine V_iload_n (pc := 6) C dX9_ringAt_6 rfl 1 rfl ?_
  refine cv_X9_180 (pc := 7) (rest := []) (wn := fun _ => [(o, .inr (9, fX9 q (up f 0 0))), (q 6, aI (d 0) 6 M6), (q 27, aI (d 0) 8 M27), (q 28, aI (d 0) 8 M28), (q 29, aI (d 0) 8 M29), (q 30, aI (d 0) 8 M30), (q 31, aI (d 0) 8 M31), (q 42, aI (d 0) 6 M42), (q 43, aI (d 0) 3 M43)]) (sn := fun _ => [.int (iI (bI (¬ (0 ≤ p ∧ p < (f 4)))))]) C dX9_ringAt_7 (c_X9_noOne l D d o q (up f 0 0) p hp hP) [0] rfl rfl 0 rfl rfl rfl (Nat.le_of_ble_eq_true rfl) ⟨by omega, by omega⟩ ⟨Nat.zero_le _, Nat.zero_le _⟩ (fun _ => rfl) (fun _ => rfl) (fun _ => rfl) ?_
  intro _ _
  refine V_ifb_eq (pc := 10) 15 C dX9_ringAt_10 (by decide) (fun c10 => ?_) (fun c10 => ?_)
  · refine V_aload_n (pc := 15) C dX9_ringAt_15 rfl 0 rfl ?_
    refine V_aload_n (pc := 16) C dX9_ringAt_16 rfl 0 rfl ?_
    refine gf_X9_13 (x := q 6) (pc := 17) C dX9_ringAt_17 0 rfl rfl ?_
    refine V_iload_n (pc := 20) C dX9_ringAt_20 rfl 1 rfl ?_
    refine V_iald (f := M6) (pc := 21) C dX9_ringAt_21 1 rfl (by omega) (by omega) (Nat.le_of_ble_eq_true rfl) ?_
    have b21 := hM6 p
    refine cv_X9_242 (pc := 22) (rest := []) (wn := fun u => [(o, .inr (9, fX9 q (up (up (up (up f 0 0) 44 u.1) 45 u.2.1) 46 u.2.2.1))), (q 6, aI (d 0) 6 M6), (q 27, aI (d 0) 8 M27), (q 28, aI (d 0) 8 M28), (q 29, aI (d 0) 8 M29), (q 30, aI (d 0) 8 M30), (q 31, aI (d 0) 8 M31), (q 42, aI (d 0) 6 u.2.2.2.1), (q 43, aI (d 0) 3 u.2.2.2.2)]) (sn := fun u => [.int (iI (bI (0 < u.1)))]) C dX9_ringAt_22 (c_X9_findRing l D d o q (up f 0 0) M27 M28 M29 M30 M31 M42 M43 (M6 p) hM27 hM28 hM29 hM30 hM31 hM42 hm0 hp1 hFT (show 0 ≤ (M6 p) ∧ (M6 p) ≤ 99 by omega)) [0, 2, 3, 4, 5, 6, 7, 8] rfl rfl 0 rfl rfl rfl (Nat.le_of_ble_eq_true rfl) ⟨by omega, by omega⟩ ⟨Nat.zero_le _, Nat.zero_le _⟩ (fun u => rfl) (fun u => rfl) (fun u => rfl) ?_
    rintro ⟨n9, U9, W9, T9, R9v⟩ hu
    have hu : stI (rgB M28 M27 (gotE M28 M30 (M6 p)) (paidE M27 M29 M31) (f 26).toNat) n9 U9 W9 R9v ∧ bd T9 0 7 := hu
    obtain ⟨⟨k7, k8, k9, k6⟩, hT9⟩ := hu
    have gsm := rOk_n rok
    refine V_ifb_eq (pc := 25) 53 C dX9_ringAt_25 (by decide) (fun c25 => ?_) (fun c25 => ?_)
    · refine V_bipush (pc := 53) C dX9_ringAt_53 rfl ?_
      exact V_iret (pc := 55) C Z dX9_ringAt_55 (-9, n9, U9, W9, T9, R9v) (⟨by first | (unfold pRingAt; rw [if_pos (by omega)]) | exact (ringAt_c rok k7 k6 (by omega)).1 (by omega) | exact (ringAt_c rok k7 k6 (by omega)).2 (by omega), by first | exact hM42 | exact hT9⟩) (ri (by rfl)) (by first | rfl | (rw [up_same rfl, up_same rfl, up_same rfl]))
    · refine V_iload_n (pc := 28) C dX9_ringAt_28 rfl 2 rfl ?_
      refine V_i2l (pc := 29) C dX9_ringAt_29 (sm_i (by omega)) ?_
      refine V_lconst (k := 0) (pc := 30) C dX9_ringAt_30 rfl ?_
      refine V_aload_n (pc := 31) C dX9_ringAt_31 rfl 0 rfl ?_
      refine gf_X9_227 (x := n9) (pc := 32) C dX9_ringAt_32 0 rfl rfl ?_
      refine V_iconst (pc := 35) C dX9_ringAt_35 ?_
      refine V_isub (pc := 36) C dX9_ringAt_36 ?_
      refine V_i2l (pc := 37) C dX9_ringAt_37 (sm_i (by omega)) ?_
      refine cs_X9_123 (pc := 38) (rest := []) (wn := fun _ => [(o, .inr (9, fX9 q (up (up (up (up f 0 0) 44 n9) 45 U9) 46 W9))), (q 6, aI (d 0) 6 M6), (q 27, aI (d 0) 8 M27), (q 28, aI (d 0) 8 M28), (q 29, aI (d 0) 8 M29), (q 30, aI (d 0) 8 M30), (q 31, aI (d 0) 8 M31), (q 42, aI (d 0) 6 T9), (q 43, aI (d 0) 3 R9v)]) (sn := fun _ => [.int (iI (bI (0 ≤ w ∧ w ≤ (n9 - 1))))]) C dX9_ringAt_38 (c_X9_in l D d w 0 (n9 - 1) (show -9223372036854775808 ≤ w ∧ w ≤ 9223372036854775807 by omega) (show -9223372036854775808 ≤ 0 ∧ 0 ≤ 9223372036854775807 by omega) (show -9223372036854775808 ≤ (n9 - 1) ∧ (n9 - 1) ≤ 9223372036854775807 by omega)) [] rfl rfl rfl rfl (Nat.le_of_ble_eq_true rfl) ⟨by omega, by omega⟩ ⟨Nat.zero_le _, Nat.zero_le _⟩ (fun _ => rfl) (fun _ => rfl) (fun _ => rfl) ?_
      intro _ _
      refine V_ifb_eq (pc := 41) 53 C dX9_ringAt_41 (by decide) (fun c41 => ?_) (fun c41 => ?_)
      · refine V_bipush (pc := 53) C dX9_ringAt_53 rfl ?_
        exact V_iret (pc := 55) C Z dX9_ringAt_55 (-9, n9, U9, W9, T9, R9v) (⟨by first | (unfold pRingAt; rw [if_pos (by omega)]) | exact (ringAt_c rok k7 k6 (by omega)).1 (by omega) | exact (ringAt_c rok k7 k6 (by omega)).2 (by omega), by first | exact hM42 | exact hT9⟩) (ri (by rfl)) (by first | rfl | (rw [up_same rfl, up_same rfl, up_same rfl]))
      · refine V_aload_n (pc := 44) C dX9_ringAt_44 rfl 0 rfl ?_
        refine gf_X9_111 (x := q 43) (pc := 45) C dX9_ringAt_45 0 rfl rfl ?_
        refine V_iload_n (pc := 48) C dX9_ringAt_48 rfl 2 rfl ?_
        refine V_iald (f := R9v) (pc := 49) C dX9_ringAt_49 8 rfl (by omega) (by omega) (Nat.le_of_ble_eq_true rfl) ?_
        refine V_goto (pc := 50) 55 C dX9_ringAt_50 (by decide) ?_
        exact V_iret (pc := 55) C Z dX9_ringAt_55 (R9v w, n9, U9, W9, T9, R9v) (⟨by first | (unfold pRingAt; rw [if_pos (by omega)]) | exact (ringAt_c rok k7 k6 (by omega)).1 (by omega) | exact (ringAt_c rok k7 k6 (by omega)).2 (by omega), by first | exact hM42 | exact hT9⟩) (ri (by rfl)) (by first | rfl | (rw [up_same rfl, up_same rfl, up_same rfl]))
  · refine V_iconst (pc := 13) C dX9_ringAt_13 ?_
    exact V_iret (pc := 14) C Z dX9_ringAt_14 (-1, f 44, f 45, f 46, M42, M43) (⟨by first | (unfold pRingAt; rw [if_pos (by omega)]) | exact (ringAt_c rok k7 k6 (by omega)).1 (by omega) | exact (ringAt_c rok k7 k6 (by omega)).2 (by omega), by first | exact hM42 | exact hT9⟩) (ri (by rfl)) (by first | rfl | (rw [up_same rfl, up_same rfl, up_same rfl]))
set_option maxRecDepth 100000 in
set_option maxHeartbeats 4000000 in
theorem c_J6_bitCount_0f7a4 (l : Launch) (D : va_G) (d : Nat → ClassId) (x : Int) (hx : 0 ≤ x ∧ x ≤ 1048575) : CU l yJ6_bitCount_0f7a4 cJ6_bitCount_0f7a4 1 (some .int) 0 0 D d [.int (iI x)] [] (fun (_ : Unit) => True) (fun (_ : Unit) => some (.int (iI (popI x)))) (fun (_ : Unit) => []) := by
  refine CU.mk (own := RJ6) (lv := [(0, .int (iI x))]) rfl (by decide) (Nat.le_of_ble_eq_true rfl) rfl ?_
  intro p9 e9 R9 s9 m9 args9 below9 meth9 c9 A9 Q9 hRf hRl C Z
  refine V_iload_n (pc := 0) C dJ6_bitCount_0f7a4_0 rfl 0 rfl ?_
  refine V_iload_n (pc := 1) C dJ6_bitCount_0f7a4_1 rfl 0 rfl ?_
  refine V_iconst (pc := 2) C dJ6_bitCount_0f7a4_2 ?_
  have i1 := iAnd_le (a := x / 2 ^ 1) (b := 1431655765) (by omega)
  refine V_iushr (z := (x / 2 ^ 1)) (pc := 3) C dJ6_bitCount_0f7a4_3 (ushr_i 1 (by decide) (by omega) (by omega)) ?_
  refine V_ldcw (n := 1431655765) (pc := 4) C dJ6_bitCount_0f7a4_4 w2_114 rfl ?_
  refine V_iand (z := (iAnd (x / 2 ^ 1) 1431655765)) (pc := 7) C dJ6_bitCount_0f7a4_7 (and_i (by omega) (by decide)) ?_
  refine V_isub (pc := 8) C dJ6_bitCount_0f7a4_8 ?_
  refine V_topi (fun s1 e_s1 => ?_)
  refine V_istore_n (lv' := [(0, .int (iI s1))]) (pc := 9) C dJ6_bitCount_0f7a4_9 rfl (by decide) rfl ?_
  refine V_iload_n (pc := 10) C dJ6_bitCount_0f7a4_10 rfl 0 rfl ?_
  refine V_ldcw (n := 858993459) (pc := 11) C dJ6_bitCount_0f7a4_11 w2_115 rfl ?_
  have i2 := iAnd_le2 (a := s1) (b := 858993459) (by decide)
  refine V_iand (z := (iAnd s1 858993459)) (pc := 14) C dJ6_bitCount_0f7a4_14 (and_i (by omega) (by decide)) ?_
  refine V_iload_n (pc := 15) C dJ6_bitCount_0f7a4_15 rfl 0 rfl ?_
  refine V_iconst (pc := 16) C dJ6_bitCount_0f7a4_16 ?_
  refine V_iushr (z := (s1 / 2 ^ 2)) (pc := 17) C dJ6_bitCount_0f7a4_17 (ushr_i 2 (by decide) (by omega) (by omega)) ?_
  refine V_ldcw (n := 858993459) (pc := 18) C dJ6_bitCount_0f7a4_18 w2_115 rfl ?_
  have i3 := iAnd_le2 (a := s1 / 2 ^ 2) (b := 858993459) (by decide)
  refine V_iand (z := (iAnd (s1 / 2 ^ 2) 858993459)) (pc := 21) C dJ6_bitCount_0f7a4_21 (and_i (by omega) (by decide)) ?_
  refine V_iadd (pc := 22) C dJ6_bitCount_0f7a4_22 ?_
  refine V_topi (fun s2 e_s2 => ?_)
  refine V_istore_n (lv' := [(0, .int (iI s2))]) (pc := 23) C dJ6_bitCount_0f7a4_23 rfl (by decide) rfl ?_
  refine V_iload_n (pc := 24) C dJ6_bitCount_0f7a4_24 rfl 0 rfl ?_
  refine V_iload_n (pc := 25) C dJ6_bitCount_0f7a4_25 rfl 0 rfl ?_
  refine V_iconst (pc := 26) C dJ6_bitCount_0f7a4_26 ?_
  refine V_iushr (z := (s2 / 2 ^ 4)) (pc := 27) C dJ6_bitCount_0f7a4_27 (ushr_i 4 (by decide) (by omega) (by omega)) ?_
  refine V_iadd (pc := 28) C dJ6_bitCount_0f7a4_28 ?_
  refine V_ldcw (n := 252645135) (pc := 29) C dJ6_bitCount_0f7a4_29 w2_116 rfl ?_
  refine V_iand (z := (iAnd (s2 + (s2 / 2 ^ 4)) 252645135)) (pc := 32) C dJ6_bitCount_0f7a4_32 (and_i (by omega) (by decide)) ?_
  refine V_topi (fun s3 e_s3 => ?_)
  refine V_istore_n (lv' := [(0, .int (iI s3))]) (pc := 33) C dJ6_bitCount_0f7a4_33 rfl (by decide) rfl ?_
  have i4 := iAnd_le2 (a := s2 + s2 / 2 ^ 4) (b := 252645135) (by decide)
  refine V_iload_n (pc := 34) C dJ6_bitCount_0f7a4_34 rfl 0 rfl ?_
  refine V_iload_n (pc := 35) C dJ6_bitCount_0f7a4_35 rfl 0 rfl ?_
  refine V_bipush (pc := 36) C dJ6_bitCount_0f7a4_36 rfl ?_
  refine V_iushr (z := (s3 / 2 ^ 8)) (pc := 38) C dJ6_bitCount_0f7a4_38 (ushr_i 8 (by decide) (by omega) (by omega)) ?_
  refine V_iadd (pc := 39) C dJ6_bitCount_0f7a4_39 ?_
  refine V_topi (fun s4 e_s4 => ?_)
  refine V_istore_n (lv' := [(0, .int (iI s4))]) (pc := 40) C dJ6_bitCount_0f7a4_40 rfl (by decide) rfl ?_
  refine V_iload_n (pc := 41) C dJ6_bitCount_0f7a4_41 rfl 0 rfl ?_
  refine V_iload_n (pc := 42) C dJ6_bitCount_0f7a4_42 rfl 0 rfl ?_
  refine V_bipush (pc := 43) C dJ6_bitCount_0f7a4_43 rfl ?_
  refine V_iushr (z := (s4 / 2 ^ 16)) (pc := 45) C dJ6_bitCount_0f7a4_45 (ushr_i 16 (by decide) (by omega) (by omega)) ?_
  refine V_iadd (pc := 46) C dJ6_bitCount_0f7a4_46 ?_
  refine V_topi (fun s5 e_s5 => ?_)
  refine V_istore_n (lv' := [(0, .int (iI s5))]) (pc := 47) C dJ6_bitCount_0f7a4_47 rfl (by decide) rfl ?_
  refine V_iload_n (pc := 48) C dJ6_bitCount_0f7a4_48 rfl 0 rfl ?_
  refine V_bipush (pc := 49) C dJ6_bitCount_0f7a4_49 rfl ?_
  refine V_iand (z := (s5 % 64)) (pc := 51) C dJ6_bitCount_0f7a4_51 (and63_i s5) ?_
  exact V_iret (pc := 52) C Z dJ6_bitCount_0f7a4_52 () trivial (ri (by exact bc_pop (by omega) (by omega) e_s1 e_s2 e_s3 e_s4 e_s5)) rfl
set_option maxRecDepth 100000 in
set_option maxHeartbeats 4000000 in
theorem c_X1_forget (l : Launch) (D : va_G) (d : Nat → ClassId) (o : Nat) (q : Nat → Nat) (f : Nat → Int) (H : Int → Int) : CU l yX1_forget cX1_forget 1 none 1 23 D d [.ref o] [(o, .inr (1, fX1 q f)), (q 0, aI (d 0) 60 H)] (fun (_ : Unit) => True) (fun (_ : Unit) => none) (fun (_ : Unit) => [(o, .inr (1, fX1 q (up f 2 0))), (q 0, aI (d 0) 60 (cpI (fun _ => 0) H 60))]) := by
  refine CU.mk (own := RX1) (lv := [(0, .ref o)]) rfl (by decide) (Nat.le_of_ble_eq_true rfl) rfl ?_
  intro p9 e9 R9 s9 m9 args9 below9 meth9 c9 A9 Q9 hRf hRl C Z
  refine V_aload_n (pc := 0) C dX1_forget_0 rfl 0 rfl ?_
  refine V_iconst (pc := 1) C dX1_forget_1 ?_
  refine pf_X1_18 (ws' := [(o, .inr (1, fX1 q (up f 2 0))), (q 0, aI (d 0) 60 H)]) (pc := 2) C dX1_forget_2 0 rfl rfl ?_
  refine V_aload_n (pc := 5) C dX1_forget_5 rfl 0 rfl ?_
  refine gf_X1_9 (x := q 0) (pc := 6) C dX1_forget_6 0 rfl rfl ?_
  refine V_iconst (pc := 9) C dX1_forget_9 ?_
  refine cs_X1_22 (pc := 10) (rest := []) (wn := fun _ => [(o, .inr (1, fX1 q (up f 2 0))), (q 0, aI (d 0) 60 (cpI (fun _ => 0) H 60))]) (sn := fun _ => []) C dX1_forget_10 (c_J7_fill_53178 l D d (q 0) 60 H 0 (show 60 < 2147483648 by omega)) [1] rfl rfl rfl rfl (Nat.le_of_ble_eq_true rfl) ⟨by omega, by omega⟩ ⟨Nat.zero_le _, Nat.zero_le _⟩ (fun _ => rfl) (fun _ => rfl) (fun _ => rfl) ?_
  intro _ _
  exact V_vret (pc := 13) C Z dX1_forget_13 () trivial rfl rfl
set_option maxRecDepth 100000 in
set_option maxHeartbeats 4000000 in
theorem c_X1_hold (l : Launch) (D : va_G) (d : Nat → ClassId) (o : Nat) (q : Nat → Nat) (f : Nat → Int) (H : Int → Int) (a : Int) (e : Int) (b : Int) (g : Int) (z : Int) (hH : bd H 0 1048575) (hab : 0 ≤ a ∧ a < b ∧ b ≤ 2) (he : 1 ≤ e ∧ e ≤ 9) (hg : 1 ≤ g ∧ g ≤ 9) (hz : -1 ≤ z ∧ z ≤ 1) : CU l yX1_hold cX1_hold 9 none 1 20 D d [.ref o, .int (iI a), .int (iI e), .int (iI b), .int (iI g), .int (iI z)] [(o, .inr (1, fX1 q f)), (q 0, aI (d 0) 60 H)] (fun (u : Int → Int) => bd u 0 1048575 ∧ (∀ x : Int, ¬ ((a + b - 1) * 20 ≤ x ∧ x < (a + b - 1) * 20 + 20) → u x = H x) ∧ ∀ i j : Int, 0 ≤ i ∧ i < 20 → 0 ≤ j ∧ j < 20 → (bitI (u ((a + b - 1) * 20 + i)) j = 1 ↔ bitI (H ((a + b - 1) * 20 + i)) j = 1 ∨ (¬ cmpI (e * (i + 1)) (g * (j + 1)) = z))) (fun (u : Int → Int) => none) (fun (u : Int → Int) => [(o, .inr (1, fX1 q (up f 2 (f 2 + 1)))), (q 0, aI (d 0) 60 u)]) := by
  refine CU.mk (own := RX1) (lv := [(0, .ref o), (1, .int (iI a)), (2, .int (iI e)), (3, .int (iI b)), (4, .int (iI g)), (5, .int (iI z))]) rfl (by decide) (Nat.le_of_ble_eq_true rfl) rfl ?_
  intro p9 e9 R9 s9 m9 args9 below9 meth9 c9 A9 Q9 hRf hRl C Z
  refine V_iload_n (pc := 0) C dX1_hold_0 rfl 1 rfl ?_
  refine V_iload_n (pc := 1) C dX1_hold_1 rfl 3 rfl ?_
  refine V_iadd (pc := 2) C dX1_hold_2 ?_
  refine V_iconst (pc := 3) C dX1_hold_3 ?_
  refine V_isub (pc := 4) C dX1_hold_4 ?_
  refine V_bipush (pc := 5) C dX1_hold_5 rfl ?_
  refine V_imul (pc := 7) C dX1_hold_7 ?_
  refine V_topi (fun s e_s => ?_)
  refine V_istore (lv' := [(6, .int (iI s)), (0, .ref o), (1, .int (iI a)), (2, .int (iI e)), (3, .int (iI b)), (4, .int (iI g)), (5, .int (iI z))]) (pc := 8) C dX1_hold_8 (by decide) rfl ?_
  refine V_iconst (pc := 10) C dX1_hold_10 ?_
  refine V_istore (lv' := [(7, .int (iI 0)), (6, .int (iI s)), (0, .ref o), (1, .int (iI a)), (2, .int (iI e)), (3, .int (iI b)), (4, .int (iI g)), (5, .int (iI z))]) (pc := 11) C dX1_hold_11 (by decide) rfl ?_
  have L13 : ∀ (nn9 : Nat) (x : Int) (G : Int → Int), (0 ≤ x ∧ x ≤ 20) → (bd G 0 1048575) → (∀ y : Int, ¬ (s ≤ y ∧ y < s + x) → G y = H y) → (∀ i j : Int, 0 ≤ i ∧ i < x → 0 ≤ j ∧ j < 20 → (bitI (G (s + i)) j = 1 ↔ bitI (H (s + i)) j = 1 ∨ ¬ cmpI (e * (i + 1)) (g * (j + 1)) = z)) → ((20 : Int) - x).toNat < nn9 → V p9 l e9 R9 s9 m9 args9 below9 meth9 c9 A9 D Q9 9 0 0 [(o, .inr (1, fX1 q f)), (q 0, aI (d 0) 60 G)] [(7, .int (iI x)), (6, .int (iI s)), (0, .ref o), (1, .int (iI a)), (2, .int (iI e)), (3, .int (iI b)), (4, .int (iI g)), (5, .int (iI z))] 13 [] := by
    intro nn9
    induction nn9 with
    | zero => intro _ _ _ _ _ _ hm13; exact absurd hm13 (Nat.not_lt_zero _)
    | succ nn9 ih13 =>
      intro x G hx bG oG iG hm13
      refine V_iload (pc := 13) C dX1_hold_13 0 rfl ?_
      refine V_bipush (pc := 15) C dX1_hold_15 rfl ?_
      refine V_icmp_ge (pc := 17) 81 C dX1_hold_17 (by decide) (sm_i (by omega)) (sm_i (by decide)) (fun c17 => ?_) (fun c17 => ?_)
      · refine V_aload_n (pc := 81) C dX1_hold_81 rfl 2 rfl ?_
        refine V_dup (pc := 82) C dX1_hold_82 rfl ?_
        refine gf_X1_18 (x := f 2) (pc := 83) C dX1_hold_83 0 rfl rfl ?_
        refine V_iconst (pc := 86) C dX1_hold_86 ?_
        refine V_iadd (pc := 87) C dX1_hold_87 ?_
        refine pf_X1_18 (ws' := [(o, .inr (1, fX1 q (up f 2 ((f 2) + 1)))), (q 0, aI (d 0) 60 G)]) (pc := 88) C dX1_hold_88 0 rfl rfl ?_
        exact V_vret (pc := 91) C Z dX1_hold_91 (G) (⟨bG, fun t ht => oG t (by omega), fun i j hi hj => by rw [← e_s]; exact iG i j ⟨hi.1, by omega⟩ hj⟩) rfl rfl
      · refine V_iconst (pc := 20) C dX1_hold_20 ?_
        refine V_istore (lv' := [(8, .int (iI 0)), (7, .int (iI x)), (6, .int (iI s)), (0, .ref o), (1, .int (iI a)), (2, .int (iI e)), (3, .int (iI b)), (4, .int (iI g)), (5, .int (iI z))]) (pc := 21) C dX1_hold_21 (by decide) rfl ?_
        have L23 : ∀ (nn9 : Nat) (y : Int) (K : Int → Int), (0 ≤ y ∧ y ≤ 20) → (bd K 0 1048575) → (∀ t : Int, ¬ t = s + x → K t = G t) → (∀ j : Int, 0 ≤ j ∧ j < 20 → (bitI (K (s + x)) j = 1 ↔ bitI (H (s + x)) j = 1 ∨ (j < y ∧ ¬ cmpI (e * (x + 1)) (g * (j + 1)) = z))) → ((20 : Int) - y).toNat < nn9 → V p9 l e9 R9 s9 m9 args9 below9 meth9 c9 A9 D Q9 9 0 0 [(o, .inr (1, fX1 q f)), (q 0, aI (d 0) 60 K)] [(8, .int (iI y)), (7, .int (iI x)), (6, .int (iI s)), (0, .ref o), (1, .int (iI a)), (2, .int (iI e)), (3, .int (iI b)), (4, .int (iI g)), (5, .int (iI z))] 23 [] := by
          intro nn9
          induction nn9 with
          | zero => intro _ _ _ _ _ _ hm23; exact absurd hm23 (Nat.not_lt_zero _)
          | succ nn9 ih23 =>
            intro y K hy bK oK iK hm23
            have m1 := mulb (show 0 ≤ e ∧ e ≤ 9 by omega) (show 0 ≤ x + 1 ∧ x + 1 ≤ 20 by omega)
            refine V_iload (pc := 23) C dX1_hold_23 0 rfl ?_
            refine V_bipush (pc := 25) C dX1_hold_25 rfl ?_
            refine V_icmp_ge (pc := 27) 75 C dX1_hold_27 (by decide) (sm_i (by omega)) (sm_i (by decide)) (fun c27 => ?_) (fun c27 => ?_)
            · refine V_iinc (lv' := [(7, .int (iI (x + 1))), (8, .int (iI y)), (6, .int (iI s)), (0, .ref o), (1, .int (iI a)), (2, .int (iI e)), (3, .int (iI b)), (4, .int (iI g)), (5, .int (iI z))]) (pc := 75) C dX1_hold_75 1 rfl (by decide) rfl ?_
              refine V_goto (pc := 78) 13 C dX1_hold_78 (by decide) ?_
              exact V_sub [0, 2, 3, 4, 5, 6, 7, 8] rfl (ih13 (x + 1) K (by omega) (bK) (fun y hy => by rw [oK y (by omega)]; exact oG y (by omega)) (ig_step (by omega) oK iG iK) (by omega))
            · refine V_iload_n (pc := 30) C dX1_hold_30 rfl 5 rfl ?_
              refine V_iload (pc := 31) C dX1_hold_31 1 rfl ?_
              refine V_iconst (pc := 33) C dX1_hold_33 ?_
              refine V_iadd (pc := 34) C dX1_hold_34 ?_
              refine V_imul (pc := 35) C dX1_hold_35 ?_
              refine V_iload (pc := 36) C dX1_hold_36 7 rfl ?_
              refine V_iload (pc := 38) C dX1_hold_38 0 rfl ?_
              refine V_iconst (pc := 40) C dX1_hold_40 ?_
              refine V_iadd (pc := 41) C dX1_hold_41 ?_
              refine V_imul (pc := 42) C dX1_hold_42 ?_
              have m2 := mulb (show 0 ≤ g ∧ g ≤ 9 by omega) (show 0 ≤ y + 1 ∧ y + 1 ≤ 20 by omega)
              refine V_isub (pc := 43) C dX1_hold_43 ?_
              refine cs_X1_28 (pc := 44) (rest := []) (wn := fun _ => [(o, .inr (1, fX1 q f)), (q 0, aI (d 0) 60 K)]) (sn := fun _ => [.int (iI (cmpI ((e * (x + 1)) - (g * (y + 1))) 0))]) C dX1_hold_44 (c_X8_signOf l D d ((e * (x + 1)) - (g * (y + 1))) (show -2147483648 ≤ ((e * (x + 1)) - (g * (y + 1))) ∧ ((e * (x + 1)) - (g * (y + 1))) ≤ 2147483647 by omega)) [] rfl rfl rfl rfl (Nat.le_of_ble_eq_true rfl) ⟨by omega, by omega⟩ ⟨Nat.zero_le _, Nat.zero_le _⟩ (fun _ => rfl) (fun _ => rfl) (fun _ => rfl) ?_
              intro _ _
              refine V_eqt (show cmpI ((e * (x + 1)) - (g * (y + 1))) 0 = cmpI (e * (x + 1)) (g * (y + 1)) from cmpI_sub _ _) ?_
              refine V_iload (pc := 47) C dX1_hold_47 8 rfl ?_
              have cs := cmpI_sm (e * (x + 1)) (g * (y + 1))
              unfold sm at cs
              refine V_icmp_eq (pc := 49) 69 C dX1_hold_49 (by decide) (sm_i (by omega)) (sm_i (by omega)) (fun c49 => ?_) (fun c49 => ?_)
              · refine V_iinc (lv' := [(8, .int (iI (y + 1))), (7, .int (iI x)), (6, .int (iI s)), (0, .ref o), (1, .int (iI a)), (2, .int (iI e)), (3, .int (iI b)), (4, .int (iI g)), (5, .int (iI z))]) (pc := 69) C dX1_hold_69 0 rfl (by decide) rfl ?_
                refine V_goto (pc := 72) 23 C dX1_hold_72 (by decide) ?_
                exact V_sub [0, 1, 2, 3, 4, 5, 6, 7, 8] rfl (ih23 (y + 1) K (by omega) (by first | exact bK | exact bd_u bK (by omega)) (fun t ht => by first | exact oK t ht | (rw [uI_n _ _ ht]; exact oK t ht)) (by first | exact ik_no hy.1 c49 iK | exact ik_yes bK hy.1 (by omega) c49 iK) (by omega))
              · refine V_aload_n (pc := 52) C dX1_hold_52 rfl 3 rfl ?_
                refine gf_X1_9 (x := q 0) (pc := 53) C dX1_hold_53 0 rfl rfl ?_
                refine V_iload (pc := 56) C dX1_hold_56 2 rfl ?_
                refine V_iload (pc := 58) C dX1_hold_58 1 rfl ?_
                refine V_iadd (pc := 60) C dX1_hold_60 ?_
                refine V_dup2 (pc := 61) C dX1_hold_61 rfl rfl ?_
                refine V_iald (f := K) (pc := 62) C dX1_hold_62 1 rfl (by omega) (by omega) (Nat.le_of_ble_eq_true rfl) ?_
                have b62 := bK (s + x)
                have kx := bK (s + x)
                have o1 := iOr_lt (k := 20) (a := K (s + x)) (b := 2 ^ y.toNat) (by omega) ⟨Int.le_of_lt (p2_pos _), p2_20 (by omega)⟩
                have p0 := p2_pos y.toNat
                refine V_iconst (pc := 63) C dX1_hold_63 ?_
                refine V_iload (pc := 64) C dX1_hold_64 0 rfl ?_
                refine V_ishl (z := (2 ^ y.toNat)) (pc := 66) C dX1_hold_66 (shl1_i (by omega) (by omega)) ?_
                refine V_ior (z := (iOr (K (s + x)) (2 ^ y.toNat))) (pc := 67) C dX1_hold_67 (or_i (by omega) (by omega)) ?_
                refine V_iast (f := K) (ws' := [(o, .inr (1, fX1 q f)), (q 0, aI (d 0) 60 (uI K (s + x) (iOr (K (s + x)) (2 ^ y.toNat))))]) (pc := 68) C dX1_hold_68 1 rfl (by omega) (by omega) (Nat.le_of_ble_eq_true rfl) rfl ?_
                refine V_iinc (lv' := [(8, .int (iI (y + 1))), (7, .int (iI x)), (6, .int (iI s)), (0, .ref o), (1, .int (iI a)), (2, .int (iI e)), (3, .int (iI b)), (4, .int (iI g)), (5, .int (iI z))]) (pc := 69) C dX1_hold_69 0 rfl (by decide) rfl ?_
                refine V_goto (pc := 72) 23 C dX1_hold_72 (by decide) ?_
                exact V_sub [0, 1, 2, 3, 4, 5, 6, 7, 8] rfl (ih23 (y + 1) (uI K (s + x) (iOr (K (s + x)) (2 ^ y.toNat))) (by omega) (by first | exact bK | exact bd_u bK (by omega)) (fun t ht => by first | exact oK t ht | (rw [uI_n _ _ ht]; exact oK t ht)) (by first | exact ik_no hy.1 c49 iK | exact ik_yes bK hy.1 (by omega) c49 iK) (by omega))
        exact V_sub [0, 1, 2, 3, 4, 5, 6, 7, 8] rfl (L23 (((20 : Int) - 0).toNat + 1) 0 G (by omega) (bG) (fun _ _ => rfl) (ik_0 (oG _ (by omega))) (Nat.lt_succ_self _))
  exact V_sub [0, 1, 2, 3, 4, 5, 6, 7] rfl (L13 (((20 : Int) - 0).toNat + 1) 0 H (by omega) (by assumption) (fun _ _ => rfl) (fun i j hi => by omega) (Nat.lt_succ_self _))
set_option maxRecDepth 100000 in
set_option maxHeartbeats 4000000 in
theorem c_X1_reckon (l : Launch) (D : va_G) (d : Nat → ClassId) (o : Nat) (q : Nat → Nat) (f : Nat → Int) (H : Int → Int) (L : Int → Int) (hH : bd H 0 1048575) (hL : bd L 0 1048575) : CU l yX1_reckon cX1_reckon 4 none 1 23 D d [.ref o] [(o, .inr (1, fX1 q f)), (q 0, aI (d 0) 60 H), (q 1, aI (d 0) 3 L)] (fun (u : Int → Int) => bd u 0 1048575 ∧ lnI H u 20 0) (fun (u : Int → Int) => none) (fun (u : Int → Int) => [(o, .inr (1, fX1 q (up f 3 (rowsC H)))), (q 0, aI (d 0) 60 H), (q 1, aI (d 0) 3 u)]) := by
  refine CU.mk (own := RX1) (lv := [(0, .ref o)]) rfl (by decide) (Nat.le_of_ble_eq_true rfl) rfl ?_
  intro p9 e9 R9 s9 m9 args9 below9 meth9 c9 A9 Q9 hRf hRl C Z
  refine V_aload_n (pc := 0) C dX1_reckon_0 rfl 0 rfl ?_
  refine V_iconst (pc := 1) C dX1_reckon_1 ?_
  refine pf_X1_32 (ws' := [(o, .inr (1, fX1 q (up f 3 0))), (q 0, aI (d 0) 60 H), (q 1, aI (d 0) 3 L)]) (pc := 2) C dX1_reckon_2 0 rfl rfl ?_
  refine V_aload_n (pc := 5) C dX1_reckon_5 rfl 0 rfl ?_
  refine gf_X1_15 (x := q 1) (pc := 6) C dX1_reckon_6 0 rfl rfl ?_
  refine V_iconst (pc := 9) C dX1_reckon_9 ?_
  refine cs_X1_22 (pc := 10) (rest := []) (wn := fun _ => [(o, .inr (1, fX1 q (up f 3 0))), (q 0, aI (d 0) 60 H), (q 1, aI (d 0) 3 (cpI (fun _ => 0) L 3))]) (sn := fun _ => []) C dX1_reckon_10 (c_J7_fill_53178 l D d (q 1) 3 L 0 (show 3 < 2147483648 by omega)) [2] rfl rfl rfl rfl (Nat.le_of_ble_eq_true rfl) ⟨by omega, by omega⟩ ⟨Nat.zero_le _, Nat.zero_le _⟩ (fun _ => rfl) (fun _ => rfl) (fun _ => rfl) ?_
  intro _ _
  refine V_iconst (pc := 13) C dX1_reckon_13 ?_
  refine V_istore_n (lv' := [(1, .int (iI 0)), (0, .ref o)]) (pc := 14) C dX1_reckon_14 rfl (by decide) rfl ?_
  have L15 : ∀ (nn9 : Nat) (x : Int) (t : Int) (G : Int → Int), (0 ≤ x ∧ x ≤ 20) → (t = sZ (fun i => sZ (fun j => rowC H i j) 20) x) → (bd G 0 1048575) → (lnI H G x 0) → ((20 : Int) - x).toNat < nn9 → V p9 l e9 R9 s9 m9 args9 below9 meth9 c9 A9 D Q9 4 0 0 [(o, .inr (1, fX1 q (up f 3 t))), (q 0, aI (d 0) 60 H), (q 1, aI (d 0) 3 G)] [(1, .int (iI x)), (0, .ref o)] 15 [] := by
    intro nn9
    induction nn9 with
    | zero => intro _ _ _ _ _ _ _ hm15; exact absurd hm15 (Nat.not_lt_zero _)
    | succ nn9 ih15 =>
      intro x t G hx ht bG hl hm15
      refine V_iload_n (pc := 15) C dX1_reckon_15 rfl 0 rfl ?_
      refine V_bipush (pc := 16) C dX1_reckon_16 rfl ?_
      refine V_icmp_ge (pc := 18) 132 C dX1_reckon_18 (by decide) (sm_i (by omega)) (sm_i (by decide)) (fun c18 => ?_) (fun c18 => ?_)
      · exact V_vret (pc := 132) C Z dX1_reckon_132 (G) (⟨bG, by have h := hl; rw [show x = 20 by omega] at h; exact h⟩) rfl (by rw [ht, show x = 20 by omega]; rfl)
      · refine V_iconst (pc := 21) C dX1_reckon_21 ?_
        refine V_istore_n (lv' := [(2, .int (iI 0)), (1, .int (iI x)), (0, .ref o)]) (pc := 22) C dX1_reckon_22 rfl (by decide) rfl ?_
        have L23 : ∀ (nn9 : Nat) (y : Int) (t2 : Int) (G2 : Int → Int), (0 ≤ y ∧ y ≤ 20) → (t2 = t + sZ (fun j => rowC H x j) y) → (bd G2 0 1048575) → (lnI H G2 x y) → ((20 : Int) - y).toNat < nn9 → V p9 l e9 R9 s9 m9 args9 below9 meth9 c9 A9 D Q9 4 0 0 [(o, .inr (1, fX1 q (up f 3 t2))), (q 0, aI (d 0) 60 H), (q 1, aI (d 0) 3 G2)] [(2, .int (iI y)), (1, .int (iI x)), (0, .ref o)] 23 [] := by
          intro nn9
          induction nn9 with
          | zero => intro _ _ _ _ _ _ _ hm23; exact absurd hm23 (Nat.not_lt_zero _)
          | succ nn9 ih23 =>
            intro y t2 G2 hy ht2 bG2 hl2 hm23
            have tb := thI_b hH x y
            have ob := or20 hH (20 + x) (40 + y)
            refine V_iload_n (pc := 23) C dX1_reckon_23 rfl 0 rfl ?_
            refine V_bipush (pc := 24) C dX1_reckon_24 rfl ?_
            refine V_icmp_ge (pc := 26) 126 C dX1_reckon_26 (by decide) (sm_i (by omega)) (sm_i (by decide)) (fun c26 => ?_) (fun c26 => ?_)
            · refine V_iinc (lv' := [(1, .int (iI (x + 1))), (2, .int (iI y)), (0, .ref o)]) (pc := 126) C dX1_reckon_126 1 rfl (by decide) rfl ?_
              refine V_goto (pc := 129) 15 C dX1_reckon_129 (by decide) ?_
              exact V_sub [0, 2] rfl (ih15 (x + 1) t2 G2 (by omega) (by rw [sZ_s _ hx.1, ← ht, ht2, show y = 20 by omega]) (bG2) (by have h := hl2; rw [show y = 20 by omega] at h; exact lnI_row h) (by omega))
            · refine V_ldc (n := 1048575) (pc := 29) C dX1_reckon_29 w3_136 rfl ?_
              refine V_aload_n (pc := 31) C dX1_reckon_31 rfl 2 rfl ?_
              refine gf_X1_9 (x := q 0) (pc := 32) C dX1_reckon_32 0 rfl rfl ?_
              refine V_bipush (pc := 35) C dX1_reckon_35 rfl ?_
              refine V_iload_n (pc := 37) C dX1_reckon_37 rfl 1 rfl ?_
              refine V_iadd (pc := 38) C dX1_reckon_38 ?_
              refine V_iald (f := H) (pc := 39) C dX1_reckon_39 1 rfl (by omega) (by omega) (Nat.le_of_ble_eq_true rfl) ?_
              have b39 := hH (20 + x)
              refine V_aload_n (pc := 40) C dX1_reckon_40 rfl 2 rfl ?_
              refine gf_X1_9 (x := q 0) (pc := 41) C dX1_reckon_41 0 rfl rfl ?_
              refine V_bipush (pc := 44) C dX1_reckon_44 rfl ?_
              refine V_iload_n (pc := 46) C dX1_reckon_46 rfl 0 rfl ?_
              refine V_iadd (pc := 47) C dX1_reckon_47 ?_
              refine V_iald (f := H) (pc := 48) C dX1_reckon_48 1 rfl (by omega) (by omega) (Nat.le_of_ble_eq_true rfl) ?_
              have b48 := hH (40 + y)
              refine V_ior (z := (iOr (H (20 + x)) (H (40 + y)))) (pc := 49) C dX1_reckon_49 (or_i (by omega) (by omega)) ?_
              refine V_iconst (pc := 50) C dX1_reckon_50 ?_
              refine V_ixor (z := (-(iOr (H (20 + x)) (H (40 + y))) - 1)) (pc := 51) C dX1_reckon_51 (not_i _) ?_
              refine V_iand (z := (thI H x y)) (pc := 52) C dX1_reckon_52 (all_i ob.1 ob.2) ?_
              refine V_istore_n (lv' := [(3, .int (iI (thI H x y))), (2, .int (iI y)), (1, .int (iI x)), (0, .ref o)]) (pc := 53) C dX1_reckon_53 rfl (by decide) rfl ?_
              refine V_aload_n (pc := 54) C dX1_reckon_54 rfl 3 rfl ?_
              refine gf_X1_9 (x := q 0) (pc := 55) C dX1_reckon_55 0 rfl rfl ?_
              refine V_iconst (pc := 58) C dX1_reckon_58 ?_
              refine V_iload_n (pc := 59) C dX1_reckon_59 rfl 2 rfl ?_
              refine V_iadd (pc := 60) C dX1_reckon_60 ?_
              refine V_iald (f := H) (pc := 61) C dX1_reckon_61 1 rfl (by omega) (by omega) (Nat.le_of_ble_eq_true rfl) ?_
              have b61 := hH (0 + x)
              refine V_eqt (show H (0 + x) = H x from by rw [Int.zero_add]) ?_
              refine V_iload_n (pc := 62) C dX1_reckon_62 rfl 1 rfl ?_
              refine V_ishr (z := (H x / 2 ^ y.toNat)) (pc := 63) C dX1_reckon_63 (shr_i (hH x).1 (by have := (hH x).2; omega) (by omega) (by omega)) ?_
              refine V_iconst (pc := 64) C dX1_reckon_64 ?_
              refine V_iand (z := ((H x / 2 ^ y.toNat) % 2)) (pc := 65) C dX1_reckon_65 (and1_i (H x / 2 ^ y.toNat)) ?_
              refine V_if_ne (pc := 66) 120 C dX1_reckon_66 (by decide) (sm_i (by omega)) (fun c66 => ?_) (fun c66 => ?_)
              · refine V_iinc (lv' := [(2, .int (iI (y + 1))), (3, .int (iI (thI H x y))), (1, .int (iI x)), (0, .ref o)]) (pc := 120) C dX1_reckon_120 1 rfl (by decide) rfl ?_
                refine V_goto (pc := 123) 23 C dX1_reckon_123 (by decide) ?_
                exact V_sub [0, 2, 3] rfl (ih23 (y + 1) t2 G2 (by omega) (by rw [sZ_s _ hy.1]; first | (rw [rowC, if_pos (by unfold bitI; omega)]; first | omega | (rw [show thI H x y = 0 from c70, popI_0]; omega)) | (rw [rowC, if_neg (by unfold bitI; omega)]; omega)) (by first | exact bG2 | exact bd_lens bG2 (by omega) (by omega) tb) (by first | exact lnI_step hH bG2 (by omega) (by omega) hl2 (by unfold bitI; omega) c70 | exact lnI_skip hl2 (th_skip hH (Or.inr c70)) | exact lnI_skip hl2 (th_skip hH (Or.inl (by unfold bitI; omega)))) (by omega))
              · refine V_iload_n (pc := 69) C dX1_reckon_69 rfl 0 rfl ?_
                refine V_if_eq (pc := 70) 120 C dX1_reckon_70 (by decide) (sm_i (by omega)) (fun c70 => ?_) (fun c70 => ?_)
                · refine V_iinc (lv' := [(2, .int (iI (y + 1))), (3, .int (iI (thI H x y))), (1, .int (iI x)), (0, .ref o)]) (pc := 120) C dX1_reckon_120 1 rfl (by decide) rfl ?_
                  refine V_goto (pc := 123) 23 C dX1_reckon_123 (by decide) ?_
                  exact V_sub [0, 2, 3] rfl (ih23 (y + 1) t2 G2 (by omega) (by rw [sZ_s _ hy.1]; first | (rw [rowC, if_pos (by unfold bitI; omega)]; first | omega | (rw [show thI H x y = 0 from c70, popI_0]; omega)) | (rw [rowC, if_neg (by unfold bitI; omega)]; omega)) (by first | exact bG2 | exact bd_lens bG2 (by omega) (by omega) tb) (by first | exact lnI_step hH bG2 (by omega) (by omega) hl2 (by unfold bitI; omega) c70 | exact lnI_skip hl2 (th_skip hH (Or.inr c70)) | exact lnI_skip hl2 (th_skip hH (Or.inl (by unfold bitI; omega)))) (by omega))
                · refine V_aload_n (pc := 73) C dX1_reckon_73 rfl 3 rfl ?_
                  refine V_dup (pc := 74) C dX1_reckon_74 rfl ?_
                  refine gf_X1_32 (x := t2) (pc := 75) C dX1_reckon_75 0 rfl rfl ?_
                  refine V_iload_n (pc := 78) C dX1_reckon_78 rfl 0 rfl ?_
                  refine cs_X1_36 (pc := 79) (rest := [.int (iI t2), .ref o]) (wn := fun _ => [(o, .inr (1, fX1 q (up f 3 t2))), (q 0, aI (d 0) 60 H), (q 1, aI (d 0) 3 G2)]) (sn := fun _ => [.int (iI (popI (thI H x y))), .int (iI t2), .ref o]) C dX1_reckon_79 (c_J6_bitCount_0f7a4 l D d (thI H x y) tb) [] rfl rfl rfl rfl (Nat.le_of_ble_eq_true rfl) ⟨by omega, by omega⟩ ⟨Nat.zero_le _, Nat.zero_le _⟩ (fun _ => rfl) (fun _ => rfl) (fun _ => rfl) ?_
                  intro _ _
                  refine V_iadd (pc := 82) C dX1_reckon_82 ?_
                  refine pf_X1_32 (ws' := [(o, .inr (1, fX1 q (up (up f 3 t2) 3 (t2 + (popI (thI H x y)))))), (q 0, aI (d 0) 60 H), (q 1, aI (d 0) 3 G2)]) (pc := 83) C dX1_reckon_83 0 rfl rfl ?_
                  refine V_aload_n (pc := 86) C dX1_reckon_86 rfl 3 rfl ?_
                  refine gf_X1_15 (x := q 1) (pc := 87) C dX1_reckon_87 0 rfl rfl ?_
                  refine V_iconst (pc := 90) C dX1_reckon_90 ?_
                  refine V_dup2 (pc := 91) C dX1_reckon_91 rfl rfl ?_
                  refine V_iald (f := G2) (pc := 92) C dX1_reckon_92 2 rfl (by omega) (by omega) (Nat.le_of_ble_eq_true rfl) ?_
                  have b92 := bG2 0
                  refine V_iconst (pc := 93) C dX1_reckon_93 ?_
                  refine V_iload_n (pc := 94) C dX1_reckon_94 rfl 2 rfl ?_
                  refine V_ishl (z := (2 ^ x.toNat)) (pc := 95) C dX1_reckon_95 (shl1_i (by omega) (by omega)) ?_
                  refine V_ior (z := (iOr ((G2 0)) (2 ^ x.toNat))) (pc := 96) C dX1_reckon_96 (or_i (bG2 _).1 (Int.le_of_lt (p2_pos _))) ?_
                  refine V_iast (f := G2) (ws' := [(o, .inr (1, fX1 q (up (up f 3 t2) 3 (t2 + (popI (thI H x y)))))), (q 0, aI (d 0) 60 H), (q 1, aI (d 0) 3 (uI G2 0 (iOr ((G2 0)) (2 ^ x.toNat))))]) (pc := 97) C dX1_reckon_97 2 rfl (by omega) (by omega) (Nat.le_of_ble_eq_true rfl) rfl ?_
                  refine V_aload_n (pc := 98) C dX1_reckon_98 rfl 3 rfl ?_
                  refine gf_X1_15 (x := q 1) (pc := 99) C dX1_reckon_99 0 rfl rfl ?_
                  refine V_iconst (pc := 102) C dX1_reckon_102 ?_
                  refine V_dup2 (pc := 103) C dX1_reckon_103 rfl rfl ?_
                  refine V_iald (f := uI G2 0 (iOr ((G2 0)) (2 ^ x.toNat))) (pc := 104) C dX1_reckon_104 2 rfl (by omega) (by omega) (Nat.le_of_ble_eq_true rfl) ?_
                  refine V_iconst (pc := 105) C dX1_reckon_105 ?_
                  refine V_iload_n (pc := 106) C dX1_reckon_106 rfl 1 rfl ?_
                  refine V_ishl (z := (2 ^ y.toNat)) (pc := 107) C dX1_reckon_107 (shl1_i (by omega) (by omega)) ?_
                  refine V_ior (z := (iOr (((uI G2 0 (iOr ((G2 0)) (2 ^ x.toNat))) 1)) (2 ^ y.toNat))) (pc := 108) C dX1_reckon_108 (or_i (bG2 _).1 (Int.le_of_lt (p2_pos _))) ?_
                  refine V_iast (f := uI G2 0 (iOr ((G2 0)) (2 ^ x.toNat))) (ws' := [(o, .inr (1, fX1 q (up (up f 3 t2) 3 (t2 + (popI (thI H x y)))))), (q 0, aI (d 0) 60 H), (q 1, aI (d 0) 3 (uI (uI G2 0 (iOr ((G2 0)) (2 ^ x.toNat))) 1 (iOr (((uI G2 0 (iOr ((G2 0)) (2 ^ x.toNat))) 1)) (2 ^ y.toNat))))]) (pc := 109) C dX1_reckon_109 2 rfl (by omega) (by omega) (Nat.le_of_ble_eq_true rfl) rfl ?_
                  refine V_aload_n (pc := 110) C dX1_reckon_110 rfl 3 rfl ?_
                  refine gf_X1_15 (x := q 1) (pc := 111) C dX1_reckon_111 0 rfl rfl ?_
                  refine V_iconst (pc := 114) C dX1_reckon_114 ?_
                  refine V_dup2 (pc := 115) C dX1_reckon_115 rfl rfl ?_
                  refine V_iald (f := uI (uI G2 0 (iOr ((G2 0)) (2 ^ x.toNat))) 1 (iOr (((uI G2 0 (iOr ((G2 0)) (2 ^ x.toNat))) 1)) (2 ^ y.toNat))) (pc := 116) C dX1_reckon_116 2 rfl (by omega) (by omega) (Nat.le_of_ble_eq_true rfl) ?_
                  refine V_iload_n (pc := 117) C dX1_reckon_117 rfl 0 rfl ?_
                  refine V_ior (z := (iOr (((uI (uI G2 0 (iOr ((G2 0)) (2 ^ x.toNat))) 1 (iOr (((uI G2 0 (iOr ((G2 0)) (2 ^ x.toNat))) 1)) (2 ^ y.toNat))) 2)) (thI H x y))) (pc := 118) C dX1_reckon_118 (or_i (bG2 _).1 tb.1) ?_
                  refine V_iast (f := uI (uI G2 0 (iOr ((G2 0)) (2 ^ x.toNat))) 1 (iOr (((uI G2 0 (iOr ((G2 0)) (2 ^ x.toNat))) 1)) (2 ^ y.toNat))) (ws' := [(o, .inr (1, fX1 q (up (up f 3 t2) 3 (t2 + (popI (thI H x y)))))), (q 0, aI (d 0) 60 H), (q 1, aI (d 0) 3 (uI (uI (uI G2 0 (iOr ((G2 0)) (2 ^ x.toNat))) 1 (iOr (((uI G2 0 (iOr ((G2 0)) (2 ^ x.toNat))) 1)) (2 ^ y.toNat))) 2 (iOr (((uI (uI G2 0 (iOr ((G2 0)) (2 ^ x.toNat))) 1 (iOr (((uI G2 0 (iOr ((G2 0)) (2 ^ x.toNat))) 1)) (2 ^ y.toNat))) 2)) (thI H x y))))]) (pc := 119) C dX1_reckon_119 2 rfl (by omega) (by omega) (Nat.le_of_ble_eq_true rfl) rfl ?_
                  refine V_iinc (lv' := [(2, .int (iI (y + 1))), (3, .int (iI (thI H x y))), (1, .int (iI x)), (0, .ref o)]) (pc := 120) C dX1_reckon_120 1 rfl (by decide) rfl ?_
                  refine V_goto (pc := 123) 23 C dX1_reckon_123 (by decide) ?_
                  exact V_sub [0, 2, 3] rfl (ih23 (y + 1) (t2 + (popI (thI H x y))) (uI (uI (uI G2 0 (iOr ((G2 0)) (2 ^ x.toNat))) 1 (iOr (((uI G2 0 (iOr ((G2 0)) (2 ^ x.toNat))) 1)) (2 ^ y.toNat))) 2 (iOr (((uI (uI G2 0 (iOr ((G2 0)) (2 ^ x.toNat))) 1 (iOr (((uI G2 0 (iOr ((G2 0)) (2 ^ x.toNat))) 1)) (2 ^ y.toNat))) 2)) (thI H x y))) (by omega) (by rw [sZ_s _ hy.1]; first | (rw [rowC, if_pos (by unfold bitI; omega)]; first | omega | (rw [show thI H x y = 0 from c70, popI_0]; omega)) | (rw [rowC, if_neg (by unfold bitI; omega)]; omega)) (by first | exact bG2 | exact bd_lens bG2 (by omega) (by omega) tb) (by first | exact lnI_step hH bG2 (by omega) (by omega) hl2 (by unfold bitI; omega) c70 | exact lnI_skip hl2 (th_skip hH (Or.inr c70)) | exact lnI_skip hl2 (th_skip hH (Or.inl (by unfold bitI; omega)))) (by omega))
        exact V_sub [0, 1, 2] rfl (L23 (((20 : Int) - 0).toNat + 1) 0 t G (by omega) ((Int.add_zero t).symm) (bG) (hl) (Nat.lt_succ_self _))
  exact V_sub [0, 1] rfl (L15 (((20 : Int) - 0).toNat + 1) 0 0 (cpI (fun _ => 0) L 3) (by omega) (rfl) (bd_c (bd_0 (by decide) (by decide)) hL) (lnI_0 rfl rfl rfl) (Nat.lt_succ_self _))
set_option maxRecDepth 100000 in
set_option maxHeartbeats 4000000 in
theorem c_X1_leastOf (l : Launch) (D : va_G) (d : Nat → ClassId) (o : Nat) (q : Nat → Nat) (f : Nat → Int) (L : Int → Int) (a : Int) (hL : bd L 0 1048575) (ha : 0 ≤ a ∧ a ≤ 2) : CU l yX1_leastOf cX1_leastOf 3 (some .int) 0 0 D d [.ref o, .int (iI a)] [(o, .inr (1, fX1 q f)), (q 1, aI (d 0) 3 L)] (fun (u : Int) => armP (fun v => bitI (L a) v = 1) 0 u) (fun (u : Int) => some (.int (iI (u)))) (fun (u : Int) => [(o, .inr (1, fX1 q f)), (q 1, aI (d 0) 3 L)]) := by
  refine CU.mk (own := RX1) (lv := [(0, .ref o), (1, .int (iI a))]) rfl (by decide) (Nat.le_of_ble_eq_true rfl) rfl ?_
  intro p9 e9 R9 s9 m9 args9 below9 meth9 c9 A9 Q9 hRf hRl C Z
  refine V_iconst (pc := 0) C dX1_leastOf_0 ?_
  refine V_istore_n (lv' := [(2, .int (iI 1)), (0, .ref o), (1, .int (iI a))]) (pc := 1) C dX1_leastOf_1 rfl (by decide) rfl ?_
  have L2 : ∀ (nn9 : Nat) (x : Int), (1 ≤ x ∧ x ≤ 21) → (∀ v : Int, 0 ≤ v ∧ v < x - 1 → ¬ bitI (L a) v = 1) → ((21 : Int) - x).toNat < nn9 → V p9 l e9 R9 s9 m9 args9 below9 meth9 c9 A9 D Q9 3 0 0 [(o, .inr (1, fX1 q f)), (q 1, aI (d 0) 3 L)] [(2, .int (iI x)), (0, .ref o), (1, .int (iI a))] 2 [] := by
    intro nn9
    induction nn9 with
    | zero => intro _ _ _ hm2; exact absurd hm2 (Nat.not_lt_zero _)
    | succ nn9 ih2 =>
      intro x hx hn hm2
      refine V_iload_n (pc := 2) C dX1_leastOf_2 rfl 0 rfl ?_
      refine V_bipush (pc := 3) C dX1_leastOf_3 rfl ?_
      refine V_icmp_gt (pc := 5) 32 C dX1_leastOf_5 (by decide) (sm_i (by omega)) (sm_i (by decide)) (fun c5 => ?_) (fun c5 => ?_)
      · refine V_bipush (pc := 32) C dX1_leastOf_32 rfl ?_
        exact V_iret (pc := 34) C Z dX1_leastOf_34 (-9) (by first | exact Or.inl ⟨rfl, fun v hv => hn v (by omega)⟩ | exact Or.inr ⟨by omega, by show bitI (L a) (x - 1) = 1; unfold bitI; omega, fun v hv hs => ⟨fun _ => Classical.byContradiction (fun q => hn v (by omega) hs), fun q => by omega⟩⟩ | exact Or.inr ⟨by omega, by show bitI (L a) (x - 1) = 1; unfold bitI; omega, fun v hv hs => ⟨fun q => by omega, fun _ => Classical.byContradiction (fun q => hn v (by omega) hs)⟩⟩) (ri (by rfl)) rfl
      · refine V_aload_n (pc := 8) C dX1_leastOf_8 rfl 1 rfl ?_
        refine gf_X1_15 (x := q 1) (pc := 9) C dX1_leastOf_9 0 rfl rfl ?_
        refine V_iload_n (pc := 12) C dX1_leastOf_12 rfl 2 rfl ?_
        refine V_iald (f := L) (pc := 13) C dX1_leastOf_13 1 rfl (by omega) (by omega) (Nat.le_of_ble_eq_true rfl) ?_
        have b13 := hL a
        refine V_iload_n (pc := 14) C dX1_leastOf_14 rfl 0 rfl ?_
        refine V_iconst (pc := 15) C dX1_leastOf_15 ?_
        refine V_isub (pc := 16) C dX1_leastOf_16 ?_
        refine V_ishr (z := ((L a) / 2 ^ (x - 1).toNat)) (pc := 17) C dX1_leastOf_17 (shr_i (by omega) (by omega) (by omega) (by omega)) ?_
        refine V_iconst (pc := 18) C dX1_leastOf_18 ?_
        refine V_iand (z := (((L a) / 2 ^ (x - 1).toNat) % 2)) (pc := 19) C dX1_leastOf_19 (and1_i ((L a) / 2 ^ (x - 1).toNat)) ?_
        refine V_iconst (pc := 20) C dX1_leastOf_20 ?_
        refine V_icmp_ne (pc := 21) 26 C dX1_leastOf_21 (by decide) (sm_i (by omega)) (sm_i (by decide)) (fun c21 => ?_) (fun c21 => ?_)
        · refine V_iinc (lv' := [(2, .int (iI (x + 1))), (0, .ref o), (1, .int (iI a))]) (pc := 26) C dX1_leastOf_26 0 rfl (by decide) rfl ?_
          refine V_goto (pc := 29) 2 C dX1_leastOf_29 (by decide) ?_
          exact V_sub [0, 1, 2] rfl (ih2 (x + 1) (by omega) (fun v hv => by rcases (show v < x - 1 ∨ v = x - 1 by omega) with q | q <;> first | exact hn v (by omega) | (subst q; unfold bitI; omega)) (by omega))
        · refine V_iload_n (pc := 24) C dX1_leastOf_24 rfl 0 rfl ?_
          exact V_iret (pc := 25) C Z dX1_leastOf_25 (x) (by first | exact Or.inl ⟨rfl, fun v hv => hn v (by omega)⟩ | exact Or.inr ⟨by omega, by show bitI (L a) (x - 1) = 1; unfold bitI; omega, fun v hv hs => ⟨fun _ => Classical.byContradiction (fun q => hn v (by omega) hs), fun q => by omega⟩⟩ | exact Or.inr ⟨by omega, by show bitI (L a) (x - 1) = 1; unfold bitI; omega, fun v hv hs => ⟨fun q => by omega, fun _ => Classical.byContradiction (fun q => hn v (by omega) hs)⟩⟩) (ri (by rfl)) rfl
  exact V_sub [0, 1, 2] rfl (L2 (((21 : Int) - 1).toNat + 1) 1 (by omega) (fun v hv => by omega) (Nat.lt_succ_self _))
set_option maxRecDepth 100000 in
set_option maxHeartbeats 4000000 in
theorem c_X1_greatestOf (l : Launch) (D : va_G) (d : Nat → ClassId) (o : Nat) (q : Nat → Nat) (f : Nat → Int) (L : Int → Int) (a : Int) (hL : bd L 0 1048575) (ha : 0 ≤ a ∧ a ≤ 2) : CU l yX1_greatestOf cX1_greatestOf 3 (some .int) 0 0 D d [.ref o, .int (iI a)] [(o, .inr (1, fX1 q f)), (q 1, aI (d 0) 3 L)] (fun (u : Int) => armP (fun v => bitI (L a) v = 1) 1 u) (fun (u : Int) => some (.int (iI (u)))) (fun (u : Int) => [(o, .inr (1, fX1 q f)), (q 1, aI (d 0) 3 L)]) := by
  refine CU.mk (own := RX1) (lv := [(0, .ref o), (1, .int (iI a))]) rfl (by decide) (Nat.le_of_ble_eq_true rfl) rfl ?_
  intro p9 e9 R9 s9 m9 args9 below9 meth9 c9 A9 Q9 hRf hRl C Z
  refine V_bipush (pc := 0) C dX1_greatestOf_0 rfl ?_
  refine V_istore_n (lv' := [(2, .int (iI 20)), (0, .ref o), (1, .int (iI a))]) (pc := 2) C dX1_greatestOf_2 rfl (by decide) rfl ?_
  have L3 : ∀ (nn9 : Nat) (x : Int), (0 ≤ x ∧ x ≤ 20) → (∀ v : Int, x ≤ v ∧ v < 20 → ¬ bitI (L a) v = 1) → (x : Int).toNat < nn9 → V p9 l e9 R9 s9 m9 args9 below9 meth9 c9 A9 D Q9 3 0 0 [(o, .inr (1, fX1 q f)), (q 1, aI (d 0) 3 L)] [(2, .int (iI x)), (0, .ref o), (1, .int (iI a))] 3 [] := by
    intro nn9
    induction nn9 with
    | zero => intro _ _ _ hm3; exact absurd hm3 (Nat.not_lt_zero _)
    | succ nn9 ih3 =>
      intro x hx hn hm3
      refine V_iload_n (pc := 3) C dX1_greatestOf_3 rfl 0 rfl ?_
      refine V_iconst (pc := 4) C dX1_greatestOf_4 ?_
      refine V_icmp_lt (pc := 5) 32 C dX1_greatestOf_5 (by decide) (sm_i (by omega)) (sm_i (by decide)) (fun c5 => ?_) (fun c5 => ?_)
      · refine V_bipush (pc := 32) C dX1_greatestOf_32 rfl ?_
        exact V_iret (pc := 34) C Z dX1_greatestOf_34 (-9) (by first | exact Or.inl ⟨rfl, fun v hv => hn v (by omega)⟩ | exact Or.inr ⟨by omega, by show bitI (L a) (x - 1) = 1; unfold bitI; omega, fun v hv hs => ⟨fun _ => Classical.byContradiction (fun q => hn v (by omega) hs), fun q => by omega⟩⟩ | exact Or.inr ⟨by omega, by show bitI (L a) (x - 1) = 1; unfold bitI; omega, fun v hv hs => ⟨fun q => by omega, fun _ => Classical.byContradiction (fun q => hn v (by omega) hs)⟩⟩) (ri (by rfl)) rfl
      · refine V_aload_n (pc := 8) C dX1_greatestOf_8 rfl 1 rfl ?_
        refine gf_X1_15 (x := q 1) (pc := 9) C dX1_greatestOf_9 0 rfl rfl ?_
        refine V_iload_n (pc := 12) C dX1_greatestOf_12 rfl 2 rfl ?_
        refine V_iald (f := L) (pc := 13) C dX1_greatestOf_13 1 rfl (by omega) (by omega) (Nat.le_of_ble_eq_true rfl) ?_
        have b13 := hL a
        refine V_iload_n (pc := 14) C dX1_greatestOf_14 rfl 0 rfl ?_
        refine V_iconst (pc := 15) C dX1_greatestOf_15 ?_
        refine V_isub (pc := 16) C dX1_greatestOf_16 ?_
        refine V_ishr (z := ((L a) / 2 ^ (x - 1).toNat)) (pc := 17) C dX1_greatestOf_17 (shr_i (by omega) (by omega) (by omega) (by omega)) ?_
        refine V_iconst (pc := 18) C dX1_greatestOf_18 ?_
        refine V_iand (z := (((L a) / 2 ^ (x - 1).toNat) % 2)) (pc := 19) C dX1_greatestOf_19 (and1_i ((L a) / 2 ^ (x - 1).toNat)) ?_
        refine V_iconst (pc := 20) C dX1_greatestOf_20 ?_
        refine V_icmp_ne (pc := 21) 26 C dX1_greatestOf_21 (by decide) (sm_i (by omega)) (sm_i (by decide)) (fun c21 => ?_) (fun c21 => ?_)
        · refine V_iinc (lv' := [(2, .int (iI (x + (-1)))), (0, .ref o), (1, .int (iI a))]) (pc := 26) C dX1_greatestOf_26 0 rfl (by decide) rfl ?_
          refine V_goto (pc := 29) 3 C dX1_greatestOf_29 (by decide) ?_
          exact V_sub [0, 1, 2] rfl (ih3 (x + (-1)) (by omega) (fun v hv => by rcases (show x ≤ v ∨ v = x - 1 by omega) with q | q <;> first | exact hn v (by omega) | (subst q; unfold bitI; omega)) (by omega))
        · refine V_iload_n (pc := 24) C dX1_greatestOf_24 rfl 0 rfl ?_
          exact V_iret (pc := 25) C Z dX1_greatestOf_25 (x) (by first | exact Or.inl ⟨rfl, fun v hv => hn v (by omega)⟩ | exact Or.inr ⟨by omega, by show bitI (L a) (x - 1) = 1; unfold bitI; omega, fun v hv hs => ⟨fun _ => Classical.byContradiction (fun q => hn v (by omega) hs), fun q => by omega⟩⟩ | exact Or.inr ⟨by omega, by show bitI (L a) (x - 1) = 1; unfold bitI; omega, fun v hv hs => ⟨fun q => by omega, fun _ => Classical.byContradiction (fun q => hn v (by omega) hs)⟩⟩) (ri (by rfl)) rfl
  exact V_sub [0, 1, 2] rfl (L3 ((20 : Int).toNat + 1) 20 (by omega) (fun v hv => by omega) (Nat.lt_succ_self _))
